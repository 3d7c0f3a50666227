theorem dX0_init_0 : decode cX0_init 0 = .ok (.aload_n 0, 1) := by decide +kernel
theorem dX0_init_1 : decode cX0_init 1 = .ok (.invokespecial 3, 3) := by decide +kernel
theorem dX0_init_4 : decode cX0_init 4 = .ok (.aload_n 0, 1) := by decide +kernel
theorem dX0_init_5 : decode cX0_init 5 = .ok (.bipush 12, 2) := by decide +kernel
theorem dX0_init_7 : decode cX0_init 7 = .ok (.sipush 512, 3) := by decide +kernel
theorem dX0_init_10 : decode cX0_init 10 = .ok (.multianewarray 9 2, 4) := by decide +kernel
theorem dX0_init_14 : decode cX0_init 14 = .ok (.putfield 11, 3) := by decide +kernel
theorem dX0_init_17 : decode cX0_init 17 = .ok (.aload_n 0, 1) := by decide +kernel
theorem dX0_init_18 : decode cX0_init 18 = .ok (.bipush 12, 2) := by decide +kernel
theorem dX0_init_20 : decode cX0_init 20 = .ok (.newarray .int, 2) := by decide +kernel
theorem dX0_init_22 : decode cX0_init 22 = .ok (.putfield 14, 3) := by decide +kernel
theorem dX0_init_25 : decode cX0_init 25 = .ok (.aload_n 0, 1) := by decide +kernel
theorem dX0_init_26 : decode cX0_init 26 = .ok (.bipush 12, 2) := by decide +kernel
theorem dX0_init_28 : decode cX0_init 28 = .ok (.newarray .int, 2) := by decide +kernel
theorem dX0_init_30 : decode cX0_init 30 = .ok (.putfield 18, 3) := by decide +kernel
theorem dX0_init_33 : decode cX0_init 33 = .ok (.aload_n 0, 1) := by decide +kernel
theorem dX0_init_34 : decode cX0_init 34 = .ok (.sipush 513, 3) := by decide +kernel
theorem dX0_init_37 : decode cX0_init 37 = .ok (.newarray .int, 2) := by decide +kernel
theorem dX0_init_39 : decode cX0_init 39 = .ok (.putfield 21, 3) := by decide +kernel
theorem dX0_init_42 : decode cX0_init 42 = .ok (.aload_n 0, 1) := by decide +kernel
theorem dX0_init_43 : decode cX0_init 43 = .ok (.sipush 514, 3) := by decide +kernel
theorem dX0_init_46 : decode cX0_init 46 = .ok (.newarray .int, 2) := by decide +kernel
theorem dX0_init_48 : decode cX0_init 48 = .ok (.putfield 24, 3) := by decide +kernel
theorem dX0_init_51 : decode cX0_init 51 = .ok (.aload_n 0, 1) := by decide +kernel
theorem dX0_init_52 : decode cX0_init 52 = .ok (.sipush 513, 3) := by decide +kernel
theorem dX0_init_55 : decode cX0_init 55 = .ok (.newarray .int, 2) := by decide +kernel
theorem dX0_init_57 : decode cX0_init 57 = .ok (.putfield 27, 3) := by decide +kernel
theorem dX0_init_60 : decode cX0_init 60 = .ok (.return_, 1) := by decide +kernel
set_option maxRecDepth 20000 in
theorem ggX0_set_X0_checkRegister : GoodIn wsX0_set wsX0_checkRegister := goodIn_ca (goodIn_r _ [5, 6, 7] (by decide +kernel) (by decide +kernel)) (goodIn_sub (fun _ h => List.mem_cons_of_mem _ (List.mem_append_right _ h)) (by decide +kernel))
set_option maxRecDepth 20000 in
theorem gX0_set_X0_checkRegister : GoodIn wsX0_set (va_wsS RX0 30 yX0_checkRegister wsX0_checkRegister) := goodIn_app (goodIn_of _ (by decide +kernel)) ggX0_set_X0_checkRegister
set_option maxRecDepth 20000 in
theorem ggX0_set_J7_fill_53178 : GoodIn wsX0_set wsJ7_fill_53178 := goodIn_r _ [11] (by decide +kernel) (by decide +kernel)
set_option maxRecDepth 20000 in
theorem gX0_set_J7_fill_53178 : GoodIn wsX0_set (va_wsS RX0 34 yJ7_fill_53178 wsJ7_fill_53178) := goodIn_app (goodIn_of _ (by decide +kernel)) ggX0_set_J7_fill_53178
set_option maxRecDepth 20000 in
theorem ggX0_set_X0_keepResult : GoodIn wsX0_set wsX0_keepResult := goodIn_r _ [15, 1, 16, 17, 18, 19, 20, 21, 22, 23, 24, 25, 26, 27, 28] (by decide +kernel) (by decide +kernel)
set_option maxRecDepth 20000 in
theorem gX0_set_X0_keepResult : GoodIn wsX0_set (wsV RX0 40 RX0 yX0_keepResult wsX0_keepResult) := goodIn_app (goodIn_of _ (by decide +kernel)) ggX0_set_X0_keepResult
theorem dX0_set_0 : decode cX0_set 0 = .ok (.iload_n 1, 1) := by decide +kernel
theorem dX0_set_1 : decode cX0_set 1 = .ok (.invokestatic 30, 3) := by decide +kernel
theorem dX0_set_4 : decode cX0_set 4 = .ok (.lload_n 2, 1) := by decide +kernel
theorem dX0_set_5 : decode cX0_set 5 = .ok (.lconst 0, 1) := by decide +kernel
theorem dX0_set_6 : decode cX0_set 6 = .ok (.lcmp, 1) := by decide +kernel
theorem dX0_set_7 : decode cX0_set 7 = .ok (.ifCond .ge 8, 3) := by decide +kernel
theorem dX0_set_10 : decode cX0_set 10 = .ok (.lload_n 2, 1) := by decide +kernel
theorem dX0_set_11 : decode cX0_set 11 = .ok (.lneg, 1) := by decide +kernel
theorem dX0_set_12 : decode cX0_set 12 = .ok (.goto 4, 3) := by decide +kernel
theorem dX0_set_15 : decode cX0_set 15 = .ok (.lload_n 2, 1) := by decide +kernel
theorem dX0_set_16 : decode cX0_set 16 = .ok (.lstore 4, 2) := by decide +kernel
theorem dX0_set_18 : decode cX0_set 18 = .ok (.aload_n 0, 1) := by decide +kernel
theorem dX0_set_19 : decode cX0_set 19 = .ok (.getfield 21, 3) := by decide +kernel
theorem dX0_set_22 : decode cX0_set 22 = .ok (.iconst 0, 1) := by decide +kernel
theorem dX0_set_23 : decode cX0_set 23 = .ok (.invokestatic 34, 3) := by decide +kernel
theorem dX0_set_26 : decode cX0_set 26 = .ok (.aload_n 0, 1) := by decide +kernel
theorem dX0_set_27 : decode cX0_set 27 = .ok (.getfield 21, 3) := by decide +kernel
theorem dX0_set_30 : decode cX0_set 30 = .ok (.iconst 0, 1) := by decide +kernel
theorem dX0_set_31 : decode cX0_set 31 = .ok (.lload 4, 2) := by decide +kernel
theorem dX0_set_33 : decode cX0_set 33 = .ok (.l2i, 1) := by decide +kernel
theorem dX0_set_34 : decode cX0_set 34 = .ok (.iastore, 1) := by decide +kernel
theorem dX0_set_35 : decode cX0_set 35 = .ok (.aload_n 0, 1) := by decide +kernel
theorem dX0_set_36 : decode cX0_set 36 = .ok (.getfield 21, 3) := by decide +kernel
theorem dX0_set_39 : decode cX0_set 39 = .ok (.iconst 1, 1) := by decide +kernel
theorem dX0_set_40 : decode cX0_set 40 = .ok (.lload 4, 2) := by decide +kernel
theorem dX0_set_42 : decode cX0_set 42 = .ok (.bipush 32, 2) := by decide +kernel
theorem dX0_set_44 : decode cX0_set 44 = .ok (.lushr, 1) := by decide +kernel
theorem dX0_set_45 : decode cX0_set 45 = .ok (.l2i, 1) := by decide +kernel
theorem dX0_set_46 : decode cX0_set 46 = .ok (.iastore, 1) := by decide +kernel
theorem dX0_set_47 : decode cX0_set 47 = .ok (.aload_n 0, 1) := by decide +kernel
theorem dX0_set_48 : decode cX0_set 48 = .ok (.iload_n 1, 1) := by decide +kernel
theorem dX0_set_49 : decode cX0_set 49 = .ok (.lload_n 2, 1) := by decide +kernel
theorem dX0_set_50 : decode cX0_set 50 = .ok (.lconst 0, 1) := by decide +kernel
theorem dX0_set_51 : decode cX0_set 51 = .ok (.lcmp, 1) := by decide +kernel
theorem dX0_set_52 : decode cX0_set 52 = .ok (.ifCond .ge 7, 3) := by decide +kernel
theorem dX0_set_55 : decode cX0_set 55 = .ok (.iconst (-1), 1) := by decide +kernel
theorem dX0_set_56 : decode cX0_set 56 = .ok (.goto 4, 3) := by decide +kernel
theorem dX0_set_59 : decode cX0_set 59 = .ok (.iconst 1, 1) := by decide +kernel
theorem dX0_set_60 : decode cX0_set 60 = .ok (.invokevirtual 40, 3) := by decide +kernel
theorem dX0_set_63 : decode cX0_set 63 = .ok (.return_, 1) := by decide +kernel
set_option maxRecDepth 20000 in
theorem ggX0_append_X0_checkRegister : GoodIn wsX0_append wsX0_checkRegister := goodIn_ca (goodIn_r _ [14, 15, 16] (by decide +kernel) (by decide +kernel)) (goodIn_sub (fun _ h => List.mem_cons_of_mem _ (List.mem_append_right _ h)) (by decide +kernel))
set_option maxRecDepth 20000 in
theorem gX0_append_X0_checkRegister : GoodIn wsX0_append (va_wsS RX0 30 yX0_checkRegister wsX0_checkRegister) := goodIn_app (goodIn_of _ (by decide +kernel)) ggX0_append_X0_checkRegister
set_option maxRecDepth 20000 in
theorem ggX0_append_J7_fill_53178 : GoodIn wsX0_append wsJ7_fill_53178 := goodIn_r _ [20] (by decide +kernel) (by decide +kernel)
set_option maxRecDepth 20000 in
theorem gX0_append_J7_fill_53178 : GoodIn wsX0_append (va_wsS RX0 34 yJ7_fill_53178 wsJ7_fill_53178) := goodIn_app (goodIn_of _ (by decide +kernel)) ggX0_append_J7_fill_53178
set_option maxRecDepth 20000 in
theorem ggX0_append_X0_keepResult : GoodIn wsX0_append wsX0_keepResult := goodIn_r _ [24, 4, 5, 6, 7, 8, 9, 3, 10, 25, 26, 27, 28, 29, 30] (by decide +kernel) (by decide +kernel)
set_option maxRecDepth 20000 in
theorem gX0_append_X0_keepResult : GoodIn wsX0_append (wsV RX0 40 RX0 yX0_keepResult wsX0_keepResult) := goodIn_app (goodIn_of _ (by decide +kernel)) ggX0_append_X0_keepResult
theorem dX0_append_0 : decode cX0_append 0 = .ok (.iload_n 1, 1) := by decide +kernel
theorem dX0_append_1 : decode cX0_append 1 = .ok (.invokestatic 30, 3) := by decide +kernel
theorem dX0_append_4 : decode cX0_append 4 = .ok (.aload_n 0, 1) := by decide +kernel
theorem dX0_append_5 : decode cX0_append 5 = .ok (.getfield 14, 3) := by decide +kernel
theorem dX0_append_8 : decode cX0_append 8 = .ok (.iload_n 1, 1) := by decide +kernel
theorem dX0_append_9 : decode cX0_append 9 = .ok (.iaload, 1) := by decide +kernel
theorem dX0_append_10 : decode cX0_append 10 = .ok (.istore_n 3, 1) := by decide +kernel
theorem dX0_append_11 : decode cX0_append 11 = .ok (.iload_n 3, 1) := by decide +kernel
theorem dX0_append_12 : decode cX0_append 12 = .ok (.sipush 512, 3) := by decide +kernel
theorem dX0_append_15 : decode cX0_append 15 = .ok (.if_icmp .lt 13, 3) := by decide +kernel
theorem dX0_append_18 : decode cX0_append 18 = .ok (.new 44, 3) := by decide +kernel
theorem dX0_append_21 : decode cX0_append 21 = .ok (.dup, 1) := by decide +kernel
theorem dX0_append_22 : decode cX0_append 22 = .ok (.ldc 46, 2) := by decide +kernel
theorem dX0_append_24 : decode cX0_append 24 = .ok (.invokespecial 48, 3) := by decide +kernel
theorem dX0_append_27 : decode cX0_append 27 = .ok (.athrow, 1) := by decide +kernel
theorem dX0_append_28 : decode cX0_append 28 = .ok (.aload_n 0, 1) := by decide +kernel
theorem dX0_append_29 : decode cX0_append 29 = .ok (.getfield 21, 3) := by decide +kernel
theorem dX0_append_32 : decode cX0_append 32 = .ok (.iconst 0, 1) := by decide +kernel
theorem dX0_append_33 : decode cX0_append 33 = .ok (.invokestatic 34, 3) := by decide +kernel
theorem dX0_append_36 : decode cX0_append 36 = .ok (.aload_n 0, 1) := by decide +kernel
theorem dX0_append_37 : decode cX0_append 37 = .ok (.getfield 11, 3) := by decide +kernel
theorem dX0_append_40 : decode cX0_append 40 = .ok (.iload_n 1, 1) := by decide +kernel
theorem dX0_append_41 : decode cX0_append 41 = .ok (.aaload, 1) := by decide +kernel
theorem dX0_append_42 : decode cX0_append 42 = .ok (.iconst 0, 1) := by decide +kernel
theorem dX0_append_43 : decode cX0_append 43 = .ok (.aload_n 0, 1) := by decide +kernel
theorem dX0_append_44 : decode cX0_append 44 = .ok (.getfield 21, 3) := by decide +kernel
theorem dX0_append_47 : decode cX0_append 47 = .ok (.iconst 1, 1) := by decide +kernel
theorem dX0_append_48 : decode cX0_append 48 = .ok (.iload_n 3, 1) := by decide +kernel
theorem dX0_append_49 : decode cX0_append 49 = .ok (.invokestatic 51, 3) := by decide +kernel
theorem dX0_append_52 : decode cX0_append 52 = .ok (.aload_n 0, 1) := by decide +kernel
theorem dX0_append_53 : decode cX0_append 53 = .ok (.getfield 21, 3) := by decide +kernel
theorem dX0_append_56 : decode cX0_append 56 = .ok (.iconst 0, 1) := by decide +kernel
theorem dX0_append_57 : decode cX0_append 57 = .ok (.iload_n 2, 1) := by decide +kernel
theorem dX0_append_58 : decode cX0_append 58 = .ok (.iastore, 1) := by decide +kernel
theorem dX0_append_59 : decode cX0_append 59 = .ok (.aload_n 0, 1) := by decide +kernel
theorem dX0_append_60 : decode cX0_append 60 = .ok (.iload_n 1, 1) := by decide +kernel
theorem dX0_append_61 : decode cX0_append 61 = .ok (.aload_n 0, 1) := by decide +kernel
theorem dX0_append_62 : decode cX0_append 62 = .ok (.getfield 18, 3) := by decide +kernel
theorem dX0_append_65 : decode cX0_append 65 = .ok (.iload_n 1, 1) := by decide +kernel
theorem dX0_append_66 : decode cX0_append 66 = .ok (.iaload, 1) := by decide +kernel
theorem dX0_append_67 : decode cX0_append 67 = .ok (.ifCond .ge 7, 3) := by decide +kernel
theorem dX0_append_70 : decode cX0_append 70 = .ok (.iconst (-1), 1) := by decide +kernel
theorem dX0_append_71 : decode cX0_append 71 = .ok (.goto 4, 3) := by decide +kernel
theorem dX0_append_74 : decode cX0_append 74 = .ok (.iconst 1, 1) := by decide +kernel
theorem dX0_append_75 : decode cX0_append 75 = .ok (.invokevirtual 40, 3) := by decide +kernel
theorem dX0_append_78 : decode cX0_append 78 = .ok (.return_, 1) := by decide +kernel
set_option maxRecDepth 20000 in
theorem ggX0_negate_X0_checkRegister : GoodIn wsX0_negate wsX0_checkRegister := goodIn_ca (goodIn_r _ [5, 6, 7] (by decide +kernel) (by decide +kernel)) (goodIn_sub (fun _ h => List.mem_cons_of_mem _ (List.mem_append_right _ h)) (by decide +kernel))
set_option maxRecDepth 20000 in
theorem gX0_negate_X0_checkRegister : GoodIn wsX0_negate (va_wsS RX0 30 yX0_checkRegister wsX0_checkRegister) := goodIn_app (goodIn_of _ (by decide +kernel)) ggX0_negate_X0_checkRegister
theorem dX0_negate_0 : decode cX0_negate 0 = .ok (.iload_n 1, 1) := by decide +kernel
theorem dX0_negate_1 : decode cX0_negate 1 = .ok (.invokestatic 30, 3) := by decide +kernel
theorem dX0_negate_4 : decode cX0_negate 4 = .ok (.aload_n 0, 1) := by decide +kernel
theorem dX0_negate_5 : decode cX0_negate 5 = .ok (.getfield 18, 3) := by decide +kernel
theorem dX0_negate_8 : decode cX0_negate 8 = .ok (.iload_n 1, 1) := by decide +kernel
theorem dX0_negate_9 : decode cX0_negate 9 = .ok (.aload_n 0, 1) := by decide +kernel
theorem dX0_negate_10 : decode cX0_negate 10 = .ok (.getfield 18, 3) := by decide +kernel
theorem dX0_negate_13 : decode cX0_negate 13 = .ok (.iload_n 1, 1) := by decide +kernel
theorem dX0_negate_14 : decode cX0_negate 14 = .ok (.iaload, 1) := by decide +kernel
theorem dX0_negate_15 : decode cX0_negate 15 = .ok (.ineg, 1) := by decide +kernel
theorem dX0_negate_16 : decode cX0_negate 16 = .ok (.iastore, 1) := by decide +kernel
theorem dX0_negate_17 : decode cX0_negate 17 = .ok (.return_, 1) := by decide +kernel
set_option maxRecDepth 20000 in
theorem ggX0_copy_X0_checkRegister : GoodIn wsX0_copy wsX0_checkRegister := goodIn_ca (goodIn_r _ [11, 12, 13] (by decide +kernel) (by decide +kernel)) (goodIn_sub (fun _ h => List.mem_cons_of_mem _ (List.mem_append_right _ h)) (by decide +kernel))
set_option maxRecDepth 20000 in
theorem gX0_copy_X0_checkRegister : GoodIn wsX0_copy (va_wsS RX0 30 yX0_checkRegister wsX0_checkRegister) := goodIn_app (goodIn_of _ (by decide +kernel)) ggX0_copy_X0_checkRegister
theorem dX0_copy_0 : decode cX0_copy 0 = .ok (.iload_n 1, 1) := by decide +kernel
theorem dX0_copy_1 : decode cX0_copy 1 = .ok (.invokestatic 30, 3) := by decide +kernel
theorem dX0_copy_4 : decode cX0_copy 4 = .ok (.iload_n 2, 1) := by decide +kernel
theorem dX0_copy_5 : decode cX0_copy 5 = .ok (.invokestatic 30, 3) := by decide +kernel
theorem dX0_copy_8 : decode cX0_copy 8 = .ok (.aload_n 0, 1) := by decide +kernel
theorem dX0_copy_9 : decode cX0_copy 9 = .ok (.getfield 11, 3) := by decide +kernel
theorem dX0_copy_12 : decode cX0_copy 12 = .ok (.iload_n 2, 1) := by decide +kernel
theorem dX0_copy_13 : decode cX0_copy 13 = .ok (.aaload, 1) := by decide +kernel
theorem dX0_copy_14 : decode cX0_copy 14 = .ok (.iconst 0, 1) := by decide +kernel
theorem dX0_copy_15 : decode cX0_copy 15 = .ok (.aload_n 0, 1) := by decide +kernel
theorem dX0_copy_16 : decode cX0_copy 16 = .ok (.getfield 11, 3) := by decide +kernel
theorem dX0_copy_19 : decode cX0_copy 19 = .ok (.iload_n 1, 1) := by decide +kernel
theorem dX0_copy_20 : decode cX0_copy 20 = .ok (.aaload, 1) := by decide +kernel
theorem dX0_copy_21 : decode cX0_copy 21 = .ok (.iconst 0, 1) := by decide +kernel
theorem dX0_copy_22 : decode cX0_copy 22 = .ok (.sipush 512, 3) := by decide +kernel
theorem dX0_copy_25 : decode cX0_copy 25 = .ok (.invokestatic 51, 3) := by decide +kernel
theorem dX0_copy_28 : decode cX0_copy 28 = .ok (.aload_n 0, 1) := by decide +kernel
theorem dX0_copy_29 : decode cX0_copy 29 = .ok (.getfield 14, 3) := by decide +kernel
theorem dX0_copy_32 : decode cX0_copy 32 = .ok (.iload_n 1, 1) := by decide +kernel
theorem dX0_copy_33 : decode cX0_copy 33 = .ok (.aload_n 0, 1) := by decide +kernel
theorem dX0_copy_34 : decode cX0_copy 34 = .ok (.getfield 14, 3) := by decide +kernel
theorem dX0_copy_37 : decode cX0_copy 37 = .ok (.iload_n 2, 1) := by decide +kernel
theorem dX0_copy_38 : decode cX0_copy 38 = .ok (.iaload, 1) := by decide +kernel
theorem dX0_copy_39 : decode cX0_copy 39 = .ok (.iastore, 1) := by decide +kernel
theorem dX0_copy_40 : decode cX0_copy 40 = .ok (.aload_n 0, 1) := by decide +kernel
theorem dX0_copy_41 : decode cX0_copy 41 = .ok (.getfield 18, 3) := by decide +kernel
theorem dX0_copy_44 : decode cX0_copy 44 = .ok (.iload_n 1, 1) := by decide +kernel
theorem dX0_copy_45 : decode cX0_copy 45 = .ok (.aload_n 0, 1) := by decide +kernel
theorem dX0_copy_46 : decode cX0_copy 46 = .ok (.getfield 18, 3) := by decide +kernel
theorem dX0_copy_49 : decode cX0_copy 49 = .ok (.iload_n 2, 1) := by decide +kernel
theorem dX0_copy_50 : decode cX0_copy 50 = .ok (.iaload, 1) := by decide +kernel
theorem dX0_copy_51 : decode cX0_copy 51 = .ok (.iastore, 1) := by decide +kernel
theorem dX0_copy_52 : decode cX0_copy 52 = .ok (.return_, 1) := by decide +kernel
set_option maxRecDepth 20000 in
theorem ggX0_add_X0_checkRegister : GoodIn wsX0_add wsX0_checkRegister := goodIn_ca (goodIn_r _ [5, 6, 7] (by decide +kernel) (by decide +kernel)) (goodIn_sub (fun _ h => List.mem_cons_of_mem _ (List.mem_append_left _ (List.mem_append_right _ h))) (by decide +kernel))
set_option maxRecDepth 20000 in
theorem gX0_add_X0_checkRegister : GoodIn wsX0_add (va_wsS RX0 30 yX0_checkRegister wsX0_checkRegister) := goodIn_app (goodIn_of _ (by decide +kernel)) ggX0_add_X0_checkRegister
set_option maxRecDepth 20000 in
theorem ggX0_add_X0_putSum : GoodIn wsX0_add wsX0_putSum := goodIn_ca (goodIn_r _ [11, 1, 12, 13, 14, 4, 15, 16, 17, 18, 19, 20, 21, 22, 23, 24, 25, 26, 27, 28, 29, 30, 31, 32, 33, 34, 35, 36, 37, 38, 39, 40, 41, 42, 43, 44, 45, 46, 47, 48, 49, 50, 51, 52, 53, 54, 55] (by decide +kernel) (by decide +kernel)) (goodIn_sub (fun _ h => List.mem_cons_of_mem _ (List.mem_append_right _ h)) (by decide +kernel))
set_option maxRecDepth 20000 in
theorem gX0_add_X0_putSum : GoodIn wsX0_add (wsV RX0 57 RX0 yX0_putSum wsX0_putSum) := goodIn_app (goodIn_of _ (by decide +kernel)) ggX0_add_X0_putSum
theorem dX0_add_0 : decode cX0_add 0 = .ok (.iload_n 1, 1) := by decide +kernel
theorem dX0_add_1 : decode cX0_add 1 = .ok (.invokestatic 30, 3) := by decide +kernel
theorem dX0_add_4 : decode cX0_add 4 = .ok (.iload_n 2, 1) := by decide +kernel
theorem dX0_add_5 : decode cX0_add 5 = .ok (.invokestatic 30, 3) := by decide +kernel
theorem dX0_add_8 : decode cX0_add 8 = .ok (.iload_n 3, 1) := by decide +kernel
theorem dX0_add_9 : decode cX0_add 9 = .ok (.invokestatic 30, 3) := by decide +kernel
theorem dX0_add_12 : decode cX0_add 12 = .ok (.aload_n 0, 1) := by decide +kernel
theorem dX0_add_13 : decode cX0_add 13 = .ok (.iload_n 1, 1) := by decide +kernel
theorem dX0_add_14 : decode cX0_add 14 = .ok (.iload_n 2, 1) := by decide +kernel
theorem dX0_add_15 : decode cX0_add 15 = .ok (.iload_n 3, 1) := by decide +kernel
theorem dX0_add_16 : decode cX0_add 16 = .ok (.aload_n 0, 1) := by decide +kernel
theorem dX0_add_17 : decode cX0_add 17 = .ok (.getfield 18, 3) := by decide +kernel
theorem dX0_add_20 : decode cX0_add 20 = .ok (.iload_n 3, 1) := by decide +kernel
theorem dX0_add_21 : decode cX0_add 21 = .ok (.iaload, 1) := by decide +kernel
theorem dX0_add_22 : decode cX0_add 22 = .ok (.invokevirtual 57, 3) := by decide +kernel
theorem dX0_add_25 : decode cX0_add 25 = .ok (.return_, 1) := by decide +kernel
set_option maxRecDepth 20000 in
theorem ggX0_subtract_X0_checkRegister : GoodIn wsX0_subtract wsX0_checkRegister := goodIn_ca (goodIn_r _ [5, 6, 7] (by decide +kernel) (by decide +kernel)) (goodIn_sub (fun _ h => List.mem_cons_of_mem _ (List.mem_append_left _ (List.mem_append_right _ h))) (by decide +kernel))
set_option maxRecDepth 20000 in
theorem gX0_subtract_X0_checkRegister : GoodIn wsX0_subtract (va_wsS RX0 30 yX0_checkRegister wsX0_checkRegister) := goodIn_app (goodIn_of _ (by decide +kernel)) ggX0_subtract_X0_checkRegister
set_option maxRecDepth 20000 in
theorem ggX0_subtract_X0_putSum : GoodIn wsX0_subtract wsX0_putSum := goodIn_ca (goodIn_r _ [11, 1, 12, 13, 14, 4, 15, 16, 17, 18, 19, 20, 21, 22, 23, 24, 25, 26, 27, 28, 29, 30, 31, 32, 33, 34, 35, 36, 37, 38, 39, 40, 41, 42, 43, 44, 45, 46, 47, 48, 49, 50, 51, 52, 53, 54, 55] (by decide +kernel) (by decide +kernel)) (goodIn_sub (fun _ h => List.mem_cons_of_mem _ (List.mem_append_right _ h)) (by decide +kernel))
set_option maxRecDepth 20000 in
theorem gX0_subtract_X0_putSum : GoodIn wsX0_subtract (wsV RX0 57 RX0 yX0_putSum wsX0_putSum) := goodIn_app (goodIn_of _ (by decide +kernel)) ggX0_subtract_X0_putSum
theorem dX0_subtract_0 : decode cX0_subtract 0 = .ok (.iload_n 1, 1) := by decide +kernel
theorem dX0_subtract_1 : decode cX0_subtract 1 = .ok (.invokestatic 30, 3) := by decide +kernel
theorem dX0_subtract_4 : decode cX0_subtract 4 = .ok (.iload_n 2, 1) := by decide +kernel
theorem dX0_subtract_5 : decode cX0_subtract 5 = .ok (.invokestatic 30, 3) := by decide +kernel
theorem dX0_subtract_8 : decode cX0_subtract 8 = .ok (.iload_n 3, 1) := by decide +kernel
theorem dX0_subtract_9 : decode cX0_subtract 9 = .ok (.invokestatic 30, 3) := by decide +kernel
theorem dX0_subtract_12 : decode cX0_subtract 12 = .ok (.aload_n 0, 1) := by decide +kernel
theorem dX0_subtract_13 : decode cX0_subtract 13 = .ok (.iload_n 1, 1) := by decide +kernel
theorem dX0_subtract_14 : decode cX0_subtract 14 = .ok (.iload_n 2, 1) := by decide +kernel
theorem dX0_subtract_15 : decode cX0_subtract 15 = .ok (.iload_n 3, 1) := by decide +kernel
theorem dX0_subtract_16 : decode cX0_subtract 16 = .ok (.aload_n 0, 1) := by decide +kernel
theorem dX0_subtract_17 : decode cX0_subtract 17 = .ok (.getfield 18, 3) := by decide +kernel
theorem dX0_subtract_20 : decode cX0_subtract 20 = .ok (.iload_n 3, 1) := by decide +kernel
theorem dX0_subtract_21 : decode cX0_subtract 21 = .ok (.iaload, 1) := by decide +kernel
theorem dX0_subtract_22 : decode cX0_subtract 22 = .ok (.ineg, 1) := by decide +kernel
theorem dX0_subtract_23 : decode cX0_subtract 23 = .ok (.invokevirtual 57, 3) := by decide +kernel
theorem dX0_subtract_26 : decode cX0_subtract 26 = .ok (.return_, 1) := by decide +kernel
set_option maxRecDepth 20000 in
theorem ggX0_multiply_X0_checkRegister : GoodIn wsX0_multiply wsX0_checkRegister := goodIn_ca (goodIn_r _ [8, 9, 10] (by decide +kernel) (by decide +kernel)) (goodIn_sub (fun _ h => List.mem_cons_of_mem _ (List.mem_append_right _ h)) (by decide +kernel))
set_option maxRecDepth 20000 in
theorem gX0_multiply_X0_checkRegister : GoodIn wsX0_multiply (va_wsS RX0 30 yX0_checkRegister wsX0_checkRegister) := goodIn_app (goodIn_of _ (by decide +kernel)) ggX0_multiply_X0_checkRegister
set_option maxRecDepth 20000 in
theorem ggX0_multiply_X0_multiplySizes : GoodIn wsX0_multiply wsX0_multiplySizes := goodIn_r _ [14, 15, 3, 16, 17, 18, 19, 20, 21, 22, 23, 24, 7, 25, 38, 39, 40, 41, 42, 43] (by decide +kernel) (by decide +kernel)
set_option maxRecDepth 20000 in
theorem gX0_multiply_X0_multiplySizes : GoodIn wsX0_multiply (wsV RX0 61 RX0 yX0_multiplySizes wsX0_multiplySizes) := goodIn_app (goodIn_of _ (by decide +kernel)) ggX0_multiply_X0_multiplySizes
set_option maxRecDepth 20000 in
theorem ggX0_multiply_X0_checkResultFits : GoodIn wsX0_multiply wsX0_checkResultFits := goodIn_ca (goodIn_r _ [29, 1, 2, 15, 38, 39, 40, 41, 42, 43] (by decide +kernel) (by decide +kernel)) (goodIn_sub (fun _ h => List.mem_cons_of_mem _ (List.mem_append_left _ (List.mem_append_right _ h))) (by decide +kernel))
set_option maxRecDepth 20000 in
theorem gX0_multiply_X0_checkResultFits : GoodIn wsX0_multiply (wsV RX0 64 RX0 yX0_checkResultFits wsX0_checkResultFits) := goodIn_app (goodIn_of _ (by decide +kernel)) ggX0_multiply_X0_checkResultFits
set_option maxRecDepth 20000 in
theorem ggX0_multiply_X0_keepResult : GoodIn wsX0_multiply wsX0_keepResult := goodIn_r _ [33, 15, 16, 34, 35, 36, 37, 3, 4, 38, 39, 40, 41, 42, 43] (by decide +kernel) (by decide +kernel)
set_option maxRecDepth 20000 in
theorem gX0_multiply_X0_keepResult : GoodIn wsX0_multiply (wsV RX0 40 RX0 yX0_keepResult wsX0_keepResult) := goodIn_app (goodIn_of _ (by decide +kernel)) ggX0_multiply_X0_keepResult
theorem dX0_multiply_0 : decode cX0_multiply 0 = .ok (.iload_n 1, 1) := by decide +kernel
theorem dX0_multiply_1 : decode cX0_multiply 1 = .ok (.invokestatic 30, 3) := by decide +kernel
theorem dX0_multiply_4 : decode cX0_multiply 4 = .ok (.iload_n 2, 1) := by decide +kernel
theorem dX0_multiply_5 : decode cX0_multiply 5 = .ok (.invokestatic 30, 3) := by decide +kernel
theorem dX0_multiply_8 : decode cX0_multiply 8 = .ok (.iload_n 3, 1) := by decide +kernel
theorem dX0_multiply_9 : decode cX0_multiply 9 = .ok (.invokestatic 30, 3) := by decide +kernel
theorem dX0_multiply_12 : decode cX0_multiply 12 = .ok (.aload_n 0, 1) := by decide +kernel
theorem dX0_multiply_13 : decode cX0_multiply 13 = .ok (.getfield 14, 3) := by decide +kernel
theorem dX0_multiply_16 : decode cX0_multiply 16 = .ok (.iload_n 2, 1) := by decide +kernel
theorem dX0_multiply_17 : decode cX0_multiply 17 = .ok (.iaload, 1) := by decide +kernel
theorem dX0_multiply_18 : decode cX0_multiply 18 = .ok (.aload_n 0, 1) := by decide +kernel
theorem dX0_multiply_19 : decode cX0_multiply 19 = .ok (.getfield 14, 3) := by decide +kernel
theorem dX0_multiply_22 : decode cX0_multiply 22 = .ok (.iload_n 3, 1) := by decide +kernel
theorem dX0_multiply_23 : decode cX0_multiply 23 = .ok (.iaload, 1) := by decide +kernel
theorem dX0_multiply_24 : decode cX0_multiply 24 = .ok (.iadd, 1) := by decide +kernel
theorem dX0_multiply_25 : decode cX0_multiply 25 = .ok (.sipush 513, 3) := by decide +kernel
theorem dX0_multiply_28 : decode cX0_multiply 28 = .ok (.if_icmp .le 13, 3) := by decide +kernel
theorem dX0_multiply_31 : decode cX0_multiply 31 = .ok (.new 44, 3) := by decide +kernel
theorem dX0_multiply_34 : decode cX0_multiply 34 = .ok (.dup, 1) := by decide +kernel
theorem dX0_multiply_35 : decode cX0_multiply 35 = .ok (.ldc 46, 2) := by decide +kernel
theorem dX0_multiply_37 : decode cX0_multiply 37 = .ok (.invokespecial 48, 3) := by decide +kernel
theorem dX0_multiply_40 : decode cX0_multiply 40 = .ok (.athrow, 1) := by decide +kernel
theorem dX0_multiply_41 : decode cX0_multiply 41 = .ok (.aload_n 0, 1) := by decide +kernel
theorem dX0_multiply_42 : decode cX0_multiply 42 = .ok (.iload_n 2, 1) := by decide +kernel
theorem dX0_multiply_43 : decode cX0_multiply 43 = .ok (.iload_n 3, 1) := by decide +kernel
theorem dX0_multiply_44 : decode cX0_multiply 44 = .ok (.invokevirtual 61, 3) := by decide +kernel
theorem dX0_multiply_47 : decode cX0_multiply 47 = .ok (.aload_n 0, 1) := by decide +kernel
theorem dX0_multiply_48 : decode cX0_multiply 48 = .ok (.invokevirtual 64, 3) := by decide +kernel
theorem dX0_multiply_51 : decode cX0_multiply 51 = .ok (.aload_n 0, 1) := by decide +kernel
theorem dX0_multiply_52 : decode cX0_multiply 52 = .ok (.iload_n 1, 1) := by decide +kernel
theorem dX0_multiply_53 : decode cX0_multiply 53 = .ok (.aload_n 0, 1) := by decide +kernel
theorem dX0_multiply_54 : decode cX0_multiply 54 = .ok (.getfield 18, 3) := by decide +kernel
theorem dX0_multiply_57 : decode cX0_multiply 57 = .ok (.iload_n 2, 1) := by decide +kernel
theorem dX0_multiply_58 : decode cX0_multiply 58 = .ok (.iaload, 1) := by decide +kernel
theorem dX0_multiply_59 : decode cX0_multiply 59 = .ok (.aload_n 0, 1) := by decide +kernel
theorem dX0_multiply_60 : decode cX0_multiply 60 = .ok (.getfield 18, 3) := by decide +kernel
theorem dX0_multiply_63 : decode cX0_multiply 63 = .ok (.iload_n 3, 1) := by decide +kernel
theorem dX0_multiply_64 : decode cX0_multiply 64 = .ok (.iaload, 1) := by decide +kernel
theorem dX0_multiply_65 : decode cX0_multiply 65 = .ok (.imul, 1) := by decide +kernel
theorem dX0_multiply_66 : decode cX0_multiply 66 = .ok (.invokevirtual 40, 3) := by decide +kernel
theorem dX0_multiply_69 : decode cX0_multiply 69 = .ok (.return_, 1) := by decide +kernel
set_option maxRecDepth 20000 in
theorem ggX0_divide_X0_checkRegister : GoodIn wsX0_divide wsX0_checkRegister := goodIn_ca (goodIn_r _ [9, 10, 11] (by decide +kernel) (by decide +kernel)) (goodIn_sub (fun _ h => List.mem_cons_of_mem _ (List.mem_append_right _ h)) (by decide +kernel))
set_option maxRecDepth 20000 in
theorem gX0_divide_X0_checkRegister : GoodIn wsX0_divide (va_wsS RX0 30 yX0_checkRegister wsX0_checkRegister) := goodIn_app (goodIn_of _ (by decide +kernel)) ggX0_divide_X0_checkRegister
set_option maxRecDepth 20000 in
theorem ggX0_divide_X0_bitsOf : GoodIn wsX0_divide wsX0_bitsOf := goodIn_r _ [15, 4, 16, 17, 18, 8, 19, 74, 75, 76, 77, 78, 79] (by decide +kernel) (by decide +kernel)
set_option maxRecDepth 20000 in
theorem gX0_divide_X0_bitsOf : GoodIn wsX0_divide (wsV RX0 74 RX0 yX0_bitsOf wsX0_bitsOf) := goodIn_app (goodIn_of _ (by decide +kernel)) ggX0_divide_X0_bitsOf
set_option maxRecDepth 20000 in
theorem ggX0_divide_X0_divideSizes : GoodIn wsX0_divide wsX0_divideSizes := goodIn_r _ [23, 5, 24, 25, 4, 26, 27, 28, 8, 29, 16, 30, 31, 32, 33, 34, 35, 36, 37, 38, 39, 40, 41, 42, 43, 44, 45, 46, 47, 48, 49, 50, 51, 52, 53, 54, 55, 56, 57, 58, 59, 60, 61, 74, 75, 76, 77, 78, 79] (by decide +kernel) (by decide +kernel)
set_option maxRecDepth 20000 in
theorem gX0_divide_X0_divideSizes : GoodIn wsX0_divide (wsV RX0 78 RX0 yX0_divideSizes wsX0_divideSizes) := goodIn_app (goodIn_of _ (by decide +kernel)) ggX0_divide_X0_divideSizes
set_option maxRecDepth 20000 in
theorem ggX0_divide_X0_keepResult : GoodIn wsX0_divide wsX0_keepResult := goodIn_r _ [65, 25, 16, 66, 67, 68, 69, 4, 3, 74, 75, 76, 77, 78, 79] (by decide +kernel) (by decide +kernel)
set_option maxRecDepth 20000 in
theorem gX0_divide_X0_keepResult : GoodIn wsX0_divide (wsV RX0 40 RX0 yX0_keepResult wsX0_keepResult) := goodIn_app (goodIn_of _ (by decide +kernel)) ggX0_divide_X0_keepResult
set_option maxRecDepth 20000 in
theorem ggX0_divide_X0_moveDown : GoodIn wsX0_divide wsX0_moveDown := goodIn_r _ [73, 25, 31, 32, 33, 34, 47, 48, 8, 49, 30, 74, 75, 76, 77, 78, 79] (by decide +kernel) (by decide +kernel)
set_option maxRecDepth 20000 in
theorem gX0_divide_X0_moveDown : GoodIn wsX0_divide (wsV RX0 82 RX0 yX0_moveDown wsX0_moveDown) := goodIn_app (goodIn_of _ (by decide +kernel)) ggX0_divide_X0_moveDown
theorem dX0_divide_0 : decode cX0_divide 0 = .ok (.iload_n 1, 1) := by decide +kernel
theorem dX0_divide_1 : decode cX0_divide 1 = .ok (.invokestatic 30, 3) := by decide +kernel
theorem dX0_divide_4 : decode cX0_divide 4 = .ok (.iload_n 2, 1) := by decide +kernel
theorem dX0_divide_5 : decode cX0_divide 5 = .ok (.invokestatic 30, 3) := by decide +kernel
theorem dX0_divide_8 : decode cX0_divide 8 = .ok (.iload_n 3, 1) := by decide +kernel
theorem dX0_divide_9 : decode cX0_divide 9 = .ok (.invokestatic 30, 3) := by decide +kernel
theorem dX0_divide_12 : decode cX0_divide 12 = .ok (.iload 4, 2) := by decide +kernel
theorem dX0_divide_14 : decode cX0_divide 14 = .ok (.invokestatic 30, 3) := by decide +kernel
theorem dX0_divide_17 : decode cX0_divide 17 = .ok (.iload_n 1, 1) := by decide +kernel
theorem dX0_divide_18 : decode cX0_divide 18 = .ok (.iload_n 2, 1) := by decide +kernel
theorem dX0_divide_19 : decode cX0_divide 19 = .ok (.if_icmp .ne 13, 3) := by decide +kernel
theorem dX0_divide_22 : decode cX0_divide 22 = .ok (.new 67, 3) := by decide +kernel
theorem dX0_divide_25 : decode cX0_divide 25 = .ok (.dup, 1) := by decide +kernel
theorem dX0_divide_26 : decode cX0_divide 26 = .ok (.ldc 69, 2) := by decide +kernel
theorem dX0_divide_28 : decode cX0_divide 28 = .ok (.invokespecial 71, 3) := by decide +kernel
theorem dX0_divide_31 : decode cX0_divide 31 = .ok (.athrow, 1) := by decide +kernel
theorem dX0_divide_32 : decode cX0_divide 32 = .ok (.aload_n 0, 1) := by decide +kernel
theorem dX0_divide_33 : decode cX0_divide 33 = .ok (.getfield 18, 3) := by decide +kernel
theorem dX0_divide_36 : decode cX0_divide 36 = .ok (.iload 4, 2) := by decide +kernel
theorem dX0_divide_38 : decode cX0_divide 38 = .ok (.iaload, 1) := by decide +kernel
theorem dX0_divide_39 : decode cX0_divide 39 = .ok (.ifCond .ne 13, 3) := by decide +kernel
theorem dX0_divide_42 : decode cX0_divide 42 = .ok (.new 67, 3) := by decide +kernel
theorem dX0_divide_45 : decode cX0_divide 45 = .ok (.dup, 1) := by decide +kernel
theorem dX0_divide_46 : decode cX0_divide 46 = .ok (.ldc 72, 2) := by decide +kernel
theorem dX0_divide_48 : decode cX0_divide 48 = .ok (.invokespecial 71, 3) := by decide +kernel
theorem dX0_divide_51 : decode cX0_divide 51 = .ok (.athrow, 1) := by decide +kernel
theorem dX0_divide_52 : decode cX0_divide 52 = .ok (.aload_n 0, 1) := by decide +kernel
theorem dX0_divide_53 : decode cX0_divide 53 = .ok (.getfield 18, 3) := by decide +kernel
theorem dX0_divide_56 : decode cX0_divide 56 = .ok (.iload_n 3, 1) := by decide +kernel
theorem dX0_divide_57 : decode cX0_divide 57 = .ok (.iaload, 1) := by decide +kernel
theorem dX0_divide_58 : decode cX0_divide 58 = .ok (.aload_n 0, 1) := by decide +kernel
theorem dX0_divide_59 : decode cX0_divide 59 = .ok (.getfield 18, 3) := by decide +kernel
theorem dX0_divide_62 : decode cX0_divide 62 = .ok (.iload 4, 2) := by decide +kernel
theorem dX0_divide_64 : decode cX0_divide 64 = .ok (.iaload, 1) := by decide +kernel
theorem dX0_divide_65 : decode cX0_divide 65 = .ok (.imul, 1) := by decide +kernel
theorem dX0_divide_66 : decode cX0_divide 66 = .ok (.istore 5, 2) := by decide +kernel
theorem dX0_divide_68 : decode cX0_divide 68 = .ok (.aload_n 0, 1) := by decide +kernel
theorem dX0_divide_69 : decode cX0_divide 69 = .ok (.getfield 18, 3) := by decide +kernel
theorem dX0_divide_72 : decode cX0_divide 72 = .ok (.iload_n 3, 1) := by decide +kernel
theorem dX0_divide_73 : decode cX0_divide 73 = .ok (.iaload, 1) := by decide +kernel
theorem dX0_divide_74 : decode cX0_divide 74 = .ok (.istore 6, 2) := by decide +kernel
theorem dX0_divide_76 : decode cX0_divide 76 = .ok (.aload_n 0, 1) := by decide +kernel
theorem dX0_divide_77 : decode cX0_divide 77 = .ok (.getfield 14, 3) := by decide +kernel
theorem dX0_divide_80 : decode cX0_divide 80 = .ok (.iload 4, 2) := by decide +kernel
theorem dX0_divide_82 : decode cX0_divide 82 = .ok (.iaload, 1) := by decide +kernel
theorem dX0_divide_83 : decode cX0_divide 83 = .ok (.istore 7, 2) := by decide +kernel
theorem dX0_divide_85 : decode cX0_divide 85 = .ok (.iload 7, 2) := by decide +kernel
theorem dX0_divide_87 : decode cX0_divide 87 = .ok (.bipush 32, 2) := by decide +kernel
theorem dX0_divide_89 : decode cX0_divide 89 = .ok (.imul, 1) := by decide +kernel
theorem dX0_divide_90 : decode cX0_divide 90 = .ok (.aload_n 0, 1) := by decide +kernel
theorem dX0_divide_91 : decode cX0_divide 91 = .ok (.iload 4, 2) := by decide +kernel
theorem dX0_divide_93 : decode cX0_divide 93 = .ok (.invokevirtual 74, 3) := by decide +kernel
theorem dX0_divide_96 : decode cX0_divide 96 = .ok (.isub, 1) := by decide +kernel
theorem dX0_divide_97 : decode cX0_divide 97 = .ok (.istore 8, 2) := by decide +kernel
theorem dX0_divide_99 : decode cX0_divide 99 = .ok (.aload_n 0, 1) := by decide +kernel
theorem dX0_divide_100 : decode cX0_divide 100 = .ok (.iload_n 3, 1) := by decide +kernel
theorem dX0_divide_101 : decode cX0_divide 101 = .ok (.iload 4, 2) := by decide +kernel
theorem dX0_divide_103 : decode cX0_divide 103 = .ok (.iload 8, 2) := by decide +kernel
theorem dX0_divide_105 : decode cX0_divide 105 = .ok (.invokevirtual 78, 3) := by decide +kernel
theorem dX0_divide_108 : decode cX0_divide 108 = .ok (.aload_n 0, 1) := by decide +kernel
theorem dX0_divide_109 : decode cX0_divide 109 = .ok (.iload_n 1, 1) := by decide +kernel
theorem dX0_divide_110 : decode cX0_divide 110 = .ok (.iload 5, 2) := by decide +kernel
theorem dX0_divide_112 : decode cX0_divide 112 = .ok (.invokevirtual 40, 3) := by decide +kernel
theorem dX0_divide_115 : decode cX0_divide 115 = .ok (.aload_n 0, 1) := by decide +kernel
theorem dX0_divide_116 : decode cX0_divide 116 = .ok (.aload_n 0, 1) := by decide +kernel
theorem dX0_divide_117 : decode cX0_divide 117 = .ok (.getfield 24, 3) := by decide +kernel
theorem dX0_divide_120 : decode cX0_divide 120 = .ok (.iload 7, 2) := by decide +kernel
theorem dX0_divide_122 : decode cX0_divide 122 = .ok (.iload 8, 2) := by decide +kernel
theorem dX0_divide_124 : decode cX0_divide 124 = .ok (.invokevirtual 82, 3) := by decide +kernel
theorem dX0_divide_127 : decode cX0_divide 127 = .ok (.aload_n 0, 1) := by decide +kernel
theorem dX0_divide_128 : decode cX0_divide 128 = .ok (.iload_n 2, 1) := by decide +kernel
theorem dX0_divide_129 : decode cX0_divide 129 = .ok (.iload 6, 2) := by decide +kernel
theorem dX0_divide_131 : decode cX0_divide 131 = .ok (.invokevirtual 40, 3) := by decide +kernel
theorem dX0_divide_134 : decode cX0_divide 134 = .ok (.return_, 1) := by decide +kernel
set_option maxRecDepth 20000 in
theorem ggX0_root_X0_checkRegister : GoodIn wsX0_root wsX0_checkRegister := goodIn_ca (goodIn_r _ [8, 9, 10] (by decide +kernel) (by decide +kernel)) (goodIn_sub (fun _ h => List.mem_cons_of_mem _ (List.mem_append_right _ h)) (by decide +kernel))
set_option maxRecDepth 20000 in
theorem gX0_root_X0_checkRegister : GoodIn wsX0_root (va_wsS RX0 30 yX0_checkRegister wsX0_checkRegister) := goodIn_app (goodIn_of _ (by decide +kernel)) ggX0_root_X0_checkRegister
set_option maxRecDepth 20000 in
theorem ggX0_root_J7_fill_53178 : GoodIn wsX0_root wsJ7_fill_53178 := goodIn_r _ [14] (by decide +kernel) (by decide +kernel)
set_option maxRecDepth 20000 in
theorem gX0_root_J7_fill_53178 : GoodIn wsX0_root (va_wsS RX0 34 yJ7_fill_53178 wsJ7_fill_53178) := goodIn_app (goodIn_of _ (by decide +kernel)) ggX0_root_J7_fill_53178
set_option maxRecDepth 20000 in
theorem ggX0_root_X0_takeRootOfSize : GoodIn wsX0_root wsX0_takeRootOfSize := goodIn_r _ [18, 19, 20, 21, 22, 23, 7, 24, 25, 26, 27, 28, 29, 30, 31, 32, 33, 34, 11, 12, 13, 14, 35, 36, 37, 38, 39, 40, 41, 42, 43, 44, 45, 46, 47, 48, 49, 50, 51, 52, 53, 54, 55, 56, 57, 58, 59, 60, 61, 62, 63, 64, 65, 66, 67, 68, 69, 70, 71, 72, 4, 81, 82, 83, 84, 85, 86] (by decide +kernel) (by decide +kernel)
set_option maxRecDepth 20000 in
theorem gX0_root_X0_takeRootOfSize : GoodIn wsX0_root (wsV RX0 88 RX0 yX0_takeRootOfSize wsX0_takeRootOfSize) := goodIn_app (goodIn_of _ (by decide +kernel)) ggX0_root_X0_takeRootOfSize
set_option maxRecDepth 20000 in
theorem ggX0_root_X0_keepResult : GoodIn wsX0_root wsX0_keepResult := goodIn_r _ [76, 4, 26, 77, 78, 79, 80, 25, 3, 81, 82, 83, 84, 85, 86] (by decide +kernel) (by decide +kernel)
set_option maxRecDepth 20000 in
theorem gX0_root_X0_keepResult : GoodIn wsX0_root (wsV RX0 40 RX0 yX0_keepResult wsX0_keepResult) := goodIn_app (goodIn_of _ (by decide +kernel)) ggX0_root_X0_keepResult
theorem dX0_root_0 : decode cX0_root 0 = .ok (.iload_n 1, 1) := by decide +kernel
theorem dX0_root_1 : decode cX0_root 1 = .ok (.invokestatic 30, 3) := by decide +kernel
theorem dX0_root_4 : decode cX0_root 4 = .ok (.iload_n 2, 1) := by decide +kernel
theorem dX0_root_5 : decode cX0_root 5 = .ok (.invokestatic 30, 3) := by decide +kernel
theorem dX0_root_8 : decode cX0_root 8 = .ok (.aload_n 0, 1) := by decide +kernel
theorem dX0_root_9 : decode cX0_root 9 = .ok (.getfield 18, 3) := by decide +kernel
theorem dX0_root_12 : decode cX0_root 12 = .ok (.iload_n 2, 1) := by decide +kernel
theorem dX0_root_13 : decode cX0_root 13 = .ok (.iaload, 1) := by decide +kernel
theorem dX0_root_14 : decode cX0_root 14 = .ok (.ifCond .ge 13, 3) := by decide +kernel
theorem dX0_root_17 : decode cX0_root 17 = .ok (.new 67, 3) := by decide +kernel
theorem dX0_root_20 : decode cX0_root 20 = .ok (.dup, 1) := by decide +kernel
theorem dX0_root_21 : decode cX0_root 21 = .ok (.ldc 86, 2) := by decide +kernel
theorem dX0_root_23 : decode cX0_root 23 = .ok (.invokespecial 71, 3) := by decide +kernel
theorem dX0_root_26 : decode cX0_root 26 = .ok (.athrow, 1) := by decide +kernel
theorem dX0_root_27 : decode cX0_root 27 = .ok (.aload_n 0, 1) := by decide +kernel
theorem dX0_root_28 : decode cX0_root 28 = .ok (.getfield 18, 3) := by decide +kernel
theorem dX0_root_31 : decode cX0_root 31 = .ok (.iload_n 2, 1) := by decide +kernel
theorem dX0_root_32 : decode cX0_root 32 = .ok (.iaload, 1) := by decide +kernel
theorem dX0_root_33 : decode cX0_root 33 = .ok (.ifCond .ne 14, 3) := by decide +kernel
theorem dX0_root_36 : decode cX0_root 36 = .ok (.aload_n 0, 1) := by decide +kernel
theorem dX0_root_37 : decode cX0_root 37 = .ok (.getfield 21, 3) := by decide +kernel
theorem dX0_root_40 : decode cX0_root 40 = .ok (.iconst 0, 1) := by decide +kernel
theorem dX0_root_41 : decode cX0_root 41 = .ok (.invokestatic 34, 3) := by decide +kernel
theorem dX0_root_44 : decode cX0_root 44 = .ok (.goto 8, 3) := by decide +kernel
theorem dX0_root_47 : decode cX0_root 47 = .ok (.aload_n 0, 1) := by decide +kernel
theorem dX0_root_48 : decode cX0_root 48 = .ok (.iload_n 2, 1) := by decide +kernel
theorem dX0_root_49 : decode cX0_root 49 = .ok (.invokevirtual 88, 3) := by decide +kernel
theorem dX0_root_52 : decode cX0_root 52 = .ok (.aload_n 0, 1) := by decide +kernel
theorem dX0_root_53 : decode cX0_root 53 = .ok (.iload_n 1, 1) := by decide +kernel
theorem dX0_root_54 : decode cX0_root 54 = .ok (.aload_n 0, 1) := by decide +kernel
theorem dX0_root_55 : decode cX0_root 55 = .ok (.getfield 18, 3) := by decide +kernel
theorem dX0_root_58 : decode cX0_root 58 = .ok (.iload_n 2, 1) := by decide +kernel
theorem dX0_root_59 : decode cX0_root 59 = .ok (.iaload, 1) := by decide +kernel
theorem dX0_root_60 : decode cX0_root 60 = .ok (.invokevirtual 40, 3) := by decide +kernel
theorem dX0_root_63 : decode cX0_root 63 = .ok (.return_, 1) := by decide +kernel
set_option maxRecDepth 20000 in
theorem ggX0_compare_X0_checkRegister : GoodIn wsX0_compare wsX0_checkRegister := goodIn_ca (goodIn_r _ [5, 6, 7] (by decide +kernel) (by decide +kernel)) (goodIn_sub (fun _ h => List.mem_cons_of_mem _ (List.mem_append_right _ h)) (by decide +kernel))
set_option maxRecDepth 20000 in
theorem gX0_compare_X0_checkRegister : GoodIn wsX0_compare (va_wsS RX0 30 yX0_checkRegister wsX0_checkRegister) := goodIn_app (goodIn_of _ (by decide +kernel)) ggX0_compare_X0_checkRegister
set_option maxRecDepth 20000 in
theorem ggX0_compare_X0_orderOfSizes : GoodIn wsX0_compare wsX0_orderOfSizes := goodIn_r _ [11, 12, 13, 14, 15, 16, 17, 18, 19, 20] (by decide +kernel) (by decide +kernel)
set_option maxRecDepth 20000 in
theorem gX0_compare_X0_orderOfSizes : GoodIn wsX0_compare (wsV RX0 91 RX0 yX0_orderOfSizes wsX0_orderOfSizes) := goodIn_app (goodIn_of _ (by decide +kernel)) ggX0_compare_X0_orderOfSizes
theorem dX0_compare_0 : decode cX0_compare 0 = .ok (.iload_n 1, 1) := by decide +kernel
theorem dX0_compare_1 : decode cX0_compare 1 = .ok (.invokestatic 30, 3) := by decide +kernel
theorem dX0_compare_4 : decode cX0_compare 4 = .ok (.iload_n 2, 1) := by decide +kernel
theorem dX0_compare_5 : decode cX0_compare 5 = .ok (.invokestatic 30, 3) := by decide +kernel
theorem dX0_compare_8 : decode cX0_compare 8 = .ok (.aload_n 0, 1) := by decide +kernel
theorem dX0_compare_9 : decode cX0_compare 9 = .ok (.getfield 18, 3) := by decide +kernel
theorem dX0_compare_12 : decode cX0_compare 12 = .ok (.iload_n 1, 1) := by decide +kernel
theorem dX0_compare_13 : decode cX0_compare 13 = .ok (.iaload, 1) := by decide +kernel
theorem dX0_compare_14 : decode cX0_compare 14 = .ok (.aload_n 0, 1) := by decide +kernel
theorem dX0_compare_15 : decode cX0_compare 15 = .ok (.getfield 18, 3) := by decide +kernel
theorem dX0_compare_18 : decode cX0_compare 18 = .ok (.iload_n 2, 1) := by decide +kernel
theorem dX0_compare_19 : decode cX0_compare 19 = .ok (.iaload, 1) := by decide +kernel
theorem dX0_compare_20 : decode cX0_compare 20 = .ok (.if_icmp .eq 24, 3) := by decide +kernel
theorem dX0_compare_23 : decode cX0_compare 23 = .ok (.aload_n 0, 1) := by decide +kernel
theorem dX0_compare_24 : decode cX0_compare 24 = .ok (.getfield 18, 3) := by decide +kernel
theorem dX0_compare_27 : decode cX0_compare 27 = .ok (.iload_n 1, 1) := by decide +kernel
theorem dX0_compare_28 : decode cX0_compare 28 = .ok (.iaload, 1) := by decide +kernel
theorem dX0_compare_29 : decode cX0_compare 29 = .ok (.aload_n 0, 1) := by decide +kernel
theorem dX0_compare_30 : decode cX0_compare 30 = .ok (.getfield 18, 3) := by decide +kernel
theorem dX0_compare_33 : decode cX0_compare 33 = .ok (.iload_n 2, 1) := by decide +kernel
theorem dX0_compare_34 : decode cX0_compare 34 = .ok (.iaload, 1) := by decide +kernel
theorem dX0_compare_35 : decode cX0_compare 35 = .ok (.if_icmp .ge 7, 3) := by decide +kernel
theorem dX0_compare_38 : decode cX0_compare 38 = .ok (.iconst (-1), 1) := by decide +kernel
theorem dX0_compare_39 : decode cX0_compare 39 = .ok (.goto 4, 3) := by decide +kernel
theorem dX0_compare_42 : decode cX0_compare 42 = .ok (.iconst 1, 1) := by decide +kernel
theorem dX0_compare_43 : decode cX0_compare 43 = .ok (.ireturn, 1) := by decide +kernel
theorem dX0_compare_44 : decode cX0_compare 44 = .ok (.aload_n 0, 1) := by decide +kernel
theorem dX0_compare_45 : decode cX0_compare 45 = .ok (.getfield 18, 3) := by decide +kernel
theorem dX0_compare_48 : decode cX0_compare 48 = .ok (.iload_n 1, 1) := by decide +kernel
theorem dX0_compare_49 : decode cX0_compare 49 = .ok (.iaload, 1) := by decide +kernel
theorem dX0_compare_50 : decode cX0_compare 50 = .ok (.aload_n 0, 1) := by decide +kernel
theorem dX0_compare_51 : decode cX0_compare 51 = .ok (.iload_n 1, 1) := by decide +kernel
theorem dX0_compare_52 : decode cX0_compare 52 = .ok (.iload_n 2, 1) := by decide +kernel
theorem dX0_compare_53 : decode cX0_compare 53 = .ok (.invokevirtual 91, 3) := by decide +kernel
theorem dX0_compare_56 : decode cX0_compare 56 = .ok (.imul, 1) := by decide +kernel
theorem dX0_compare_57 : decode cX0_compare 57 = .ok (.ireturn, 1) := by decide +kernel
set_option maxRecDepth 20000 in
theorem ggX0_compareSizes_X0_checkRegister : GoodIn wsX0_compareSizes wsX0_checkRegister := goodIn_ca (goodIn_r _ [4, 5, 6] (by decide +kernel) (by decide +kernel)) (goodIn_sub (fun _ h => List.mem_cons_of_mem _ (List.mem_append_right _ h)) (by decide +kernel))
set_option maxRecDepth 20000 in
theorem gX0_compareSizes_X0_checkRegister : GoodIn wsX0_compareSizes (va_wsS RX0 30 yX0_checkRegister wsX0_checkRegister) := goodIn_app (goodIn_of _ (by decide +kernel)) ggX0_compareSizes_X0_checkRegister
set_option maxRecDepth 20000 in
theorem ggX0_compareSizes_X0_orderOfSizes : GoodIn wsX0_compareSizes wsX0_orderOfSizes := goodIn_r _ [10, 11, 12, 13, 14, 15, 16, 17, 18, 19] (by decide +kernel) (by decide +kernel)
set_option maxRecDepth 20000 in
theorem gX0_compareSizes_X0_orderOfSizes : GoodIn wsX0_compareSizes (wsV RX0 91 RX0 yX0_orderOfSizes wsX0_orderOfSizes) := goodIn_app (goodIn_of _ (by decide +kernel)) ggX0_compareSizes_X0_orderOfSizes
theorem dX0_compareSizes_0 : decode cX0_compareSizes 0 = .ok (.iload_n 1, 1) := by decide +kernel
theorem dX0_compareSizes_1 : decode cX0_compareSizes 1 = .ok (.invokestatic 30, 3) := by decide +kernel
theorem dX0_compareSizes_4 : decode cX0_compareSizes 4 = .ok (.iload_n 2, 1) := by decide +kernel
theorem dX0_compareSizes_5 : decode cX0_compareSizes 5 = .ok (.invokestatic 30, 3) := by decide +kernel
theorem dX0_compareSizes_8 : decode cX0_compareSizes 8 = .ok (.aload_n 0, 1) := by decide +kernel
theorem dX0_compareSizes_9 : decode cX0_compareSizes 9 = .ok (.iload_n 1, 1) := by decide +kernel
theorem dX0_compareSizes_10 : decode cX0_compareSizes 10 = .ok (.iload_n 2, 1) := by decide +kernel
theorem dX0_compareSizes_11 : decode cX0_compareSizes 11 = .ok (.invokevirtual 91, 3) := by decide +kernel
theorem dX0_compareSizes_14 : decode cX0_compareSizes 14 = .ok (.ireturn, 1) := by decide +kernel
set_option maxRecDepth 20000 in
theorem ggX0_sign_X0_checkRegister : GoodIn wsX0_sign wsX0_checkRegister := goodIn_ca (goodIn_r _ [5, 6, 7] (by decide +kernel) (by decide +kernel)) (goodIn_sub (fun _ h => List.mem_cons_of_mem _ (List.mem_append_right _ h)) (by decide +kernel))
set_option maxRecDepth 20000 in
theorem gX0_sign_X0_checkRegister : GoodIn wsX0_sign (va_wsS RX0 30 yX0_checkRegister wsX0_checkRegister) := goodIn_app (goodIn_of _ (by decide +kernel)) ggX0_sign_X0_checkRegister
theorem dX0_sign_0 : decode cX0_sign 0 = .ok (.iload_n 1, 1) := by decide +kernel
theorem dX0_sign_1 : decode cX0_sign 1 = .ok (.invokestatic 30, 3) := by decide +kernel
theorem dX0_sign_4 : decode cX0_sign 4 = .ok (.aload_n 0, 1) := by decide +kernel
theorem dX0_sign_5 : decode cX0_sign 5 = .ok (.getfield 18, 3) := by decide +kernel
theorem dX0_sign_8 : decode cX0_sign 8 = .ok (.iload_n 1, 1) := by decide +kernel
theorem dX0_sign_9 : decode cX0_sign 9 = .ok (.iaload, 1) := by decide +kernel
theorem dX0_sign_10 : decode cX0_sign 10 = .ok (.ireturn, 1) := by decide +kernel
set_option maxRecDepth 20000 in
theorem ggX0_bits_X0_checkRegister : GoodIn wsX0_bits wsX0_checkRegister := goodIn_ca (goodIn_r _ [4, 5, 6] (by decide +kernel) (by decide +kernel)) (goodIn_sub (fun _ h => List.mem_cons_of_mem _ (List.mem_append_right _ h)) (by decide +kernel))
set_option maxRecDepth 20000 in
theorem gX0_bits_X0_checkRegister : GoodIn wsX0_bits (va_wsS RX0 30 yX0_checkRegister wsX0_checkRegister) := goodIn_app (goodIn_of _ (by decide +kernel)) ggX0_bits_X0_checkRegister
set_option maxRecDepth 20000 in
theorem ggX0_bits_X0_bitsOf : GoodIn wsX0_bits wsX0_bitsOf := goodIn_r _ [10, 11, 12, 13, 14, 3, 15, 16, 17, 18, 19, 20, 21] (by decide +kernel) (by decide +kernel)
set_option maxRecDepth 20000 in
theorem gX0_bits_X0_bitsOf : GoodIn wsX0_bits (wsV RX0 74 RX0 yX0_bitsOf wsX0_bitsOf) := goodIn_app (goodIn_of _ (by decide +kernel)) ggX0_bits_X0_bitsOf
theorem dX0_bits_0 : decode cX0_bits 0 = .ok (.iload_n 1, 1) := by decide +kernel
theorem dX0_bits_1 : decode cX0_bits 1 = .ok (.invokestatic 30, 3) := by decide +kernel
theorem dX0_bits_4 : decode cX0_bits 4 = .ok (.aload_n 0, 1) := by decide +kernel
theorem dX0_bits_5 : decode cX0_bits 5 = .ok (.iload_n 1, 1) := by decide +kernel
theorem dX0_bits_6 : decode cX0_bits 6 = .ok (.invokevirtual 74, 3) := by decide +kernel
theorem dX0_bits_9 : decode cX0_bits 9 = .ok (.ireturn, 1) := by decide +kernel
set_option maxRecDepth 20000 in
theorem ggX0_word_X0_checkRegister : GoodIn wsX0_word wsX0_checkRegister := goodIn_ca (goodIn_r _ [7, 1, 2] (by decide +kernel) (by decide +kernel)) (goodIn_sub (fun _ h => List.mem_cons_of_mem _ (List.mem_append_right _ h)) (by decide +kernel))
set_option maxRecDepth 20000 in
theorem gX0_word_X0_checkRegister : GoodIn wsX0_word (va_wsS RX0 30 yX0_checkRegister wsX0_checkRegister) := goodIn_app (goodIn_of _ (by decide +kernel)) ggX0_word_X0_checkRegister
theorem dX0_word_0 : decode cX0_word 0 = .ok (.iload_n 1, 1) := by decide +kernel
theorem dX0_word_1 : decode cX0_word 1 = .ok (.invokestatic 30, 3) := by decide +kernel
theorem dX0_word_4 : decode cX0_word 4 = .ok (.iload_n 2, 1) := by decide +kernel
theorem dX0_word_5 : decode cX0_word 5 = .ok (.ifCond .lt 10, 3) := by decide +kernel
theorem dX0_word_8 : decode cX0_word 8 = .ok (.iload_n 2, 1) := by decide +kernel
theorem dX0_word_9 : decode cX0_word 9 = .ok (.sipush 512, 3) := by decide +kernel
theorem dX0_word_12 : decode cX0_word 12 = .ok (.if_icmp .lt 13, 3) := by decide +kernel
theorem dX0_word_15 : decode cX0_word 15 = .ok (.new 95, 3) := by decide +kernel
theorem dX0_word_18 : decode cX0_word 18 = .ok (.dup, 1) := by decide +kernel
theorem dX0_word_19 : decode cX0_word 19 = .ok (.ldc 97, 2) := by decide +kernel
theorem dX0_word_21 : decode cX0_word 21 = .ok (.invokespecial 99, 3) := by decide +kernel
theorem dX0_word_24 : decode cX0_word 24 = .ok (.athrow, 1) := by decide +kernel
theorem dX0_word_25 : decode cX0_word 25 = .ok (.aload_n 0, 1) := by decide +kernel
theorem dX0_word_26 : decode cX0_word 26 = .ok (.getfield 11, 3) := by decide +kernel
theorem dX0_word_29 : decode cX0_word 29 = .ok (.iload_n 1, 1) := by decide +kernel
theorem dX0_word_30 : decode cX0_word 30 = .ok (.aaload, 1) := by decide +kernel
theorem dX0_word_31 : decode cX0_word 31 = .ok (.iload_n 2, 1) := by decide +kernel
theorem dX0_word_32 : decode cX0_word 32 = .ok (.iaload, 1) := by decide +kernel
theorem dX0_word_33 : decode cX0_word 33 = .ok (.ireturn, 1) := by decide +kernel
set_option maxRecDepth 20000 in
theorem ggX0_residue_X0_checkRegister : GoodIn wsX0_residue wsX0_checkRegister := goodIn_ca (goodIn_r _ [9, 10, 11] (by decide +kernel) (by decide +kernel)) (goodIn_sub (fun _ h => List.mem_cons_of_mem _ (List.mem_append_right _ h)) (by decide +kernel))
set_option maxRecDepth 20000 in
theorem gX0_residue_X0_checkRegister : GoodIn wsX0_residue (va_wsS RX0 30 yX0_checkRegister wsX0_checkRegister) := goodIn_app (goodIn_of _ (by decide +kernel)) ggX0_residue_X0_checkRegister
set_option maxRecDepth 20000 in
theorem ggX0_residue_X0_pairOf : GoodIn wsX0_residue wsX0_pairOf := goodIn_r _ [14, 15] (by decide +kernel) (by decide +kernel)
set_option maxRecDepth 20000 in
theorem gX0_residue_X0_pairOf : GoodIn wsX0_residue (va_wsS RX0 102 yX0_pairOf wsX0_pairOf) := goodIn_app (goodIn_of _ (by decide +kernel)) ggX0_residue_X0_pairOf
theorem dX0_residue_0 : decode cX0_residue 0 = .ok (.iload_n 1, 1) := by decide +kernel
theorem dX0_residue_1 : decode cX0_residue 1 = .ok (.invokestatic 30, 3) := by decide +kernel
theorem dX0_residue_4 : decode cX0_residue 4 = .ok (.iload_n 2, 1) := by decide +kernel
theorem dX0_residue_5 : decode cX0_residue 5 = .ok (.iconst 1, 1) := by decide +kernel
theorem dX0_residue_6 : decode cX0_residue 6 = .ok (.if_icmp .ge 13, 3) := by decide +kernel
theorem dX0_residue_9 : decode cX0_residue 9 = .ok (.new 67, 3) := by decide +kernel
theorem dX0_residue_12 : decode cX0_residue 12 = .ok (.dup, 1) := by decide +kernel
theorem dX0_residue_13 : decode cX0_residue 13 = .ok (.ldc 100, 2) := by decide +kernel
theorem dX0_residue_15 : decode cX0_residue 15 = .ok (.invokespecial 71, 3) := by decide +kernel
theorem dX0_residue_18 : decode cX0_residue 18 = .ok (.athrow, 1) := by decide +kernel
theorem dX0_residue_19 : decode cX0_residue 19 = .ok (.lconst 0, 1) := by decide +kernel
theorem dX0_residue_20 : decode cX0_residue 20 = .ok (.lstore_n 3, 1) := by decide +kernel
theorem dX0_residue_21 : decode cX0_residue 21 = .ok (.aload_n 0, 1) := by decide +kernel
theorem dX0_residue_22 : decode cX0_residue 22 = .ok (.getfield 14, 3) := by decide +kernel
theorem dX0_residue_25 : decode cX0_residue 25 = .ok (.iload_n 1, 1) := by decide +kernel
theorem dX0_residue_26 : decode cX0_residue 26 = .ok (.iaload, 1) := by decide +kernel
theorem dX0_residue_27 : decode cX0_residue 27 = .ok (.iconst 1, 1) := by decide +kernel
theorem dX0_residue_28 : decode cX0_residue 28 = .ok (.isub, 1) := by decide +kernel
theorem dX0_residue_29 : decode cX0_residue 29 = .ok (.istore 5, 2) := by decide +kernel
theorem dX0_residue_31 : decode cX0_residue 31 = .ok (.iload 5, 2) := by decide +kernel
theorem dX0_residue_33 : decode cX0_residue 33 = .ok (.ifCond .lt 26, 3) := by decide +kernel
theorem dX0_residue_36 : decode cX0_residue 36 = .ok (.lload_n 3, 1) := by decide +kernel
theorem dX0_residue_37 : decode cX0_residue 37 = .ok (.aload_n 0, 1) := by decide +kernel
theorem dX0_residue_38 : decode cX0_residue 38 = .ok (.getfield 11, 3) := by decide +kernel
theorem dX0_residue_41 : decode cX0_residue 41 = .ok (.iload_n 1, 1) := by decide +kernel
theorem dX0_residue_42 : decode cX0_residue 42 = .ok (.aaload, 1) := by decide +kernel
theorem dX0_residue_43 : decode cX0_residue 43 = .ok (.iload 5, 2) := by decide +kernel
theorem dX0_residue_45 : decode cX0_residue 45 = .ok (.iaload, 1) := by decide +kernel
theorem dX0_residue_46 : decode cX0_residue 46 = .ok (.invokestatic 102, 3) := by decide +kernel
theorem dX0_residue_49 : decode cX0_residue 49 = .ok (.iload_n 2, 1) := by decide +kernel
theorem dX0_residue_50 : decode cX0_residue 50 = .ok (.i2l, 1) := by decide +kernel
theorem dX0_residue_51 : decode cX0_residue 51 = .ok (.lrem, 1) := by decide +kernel
theorem dX0_residue_52 : decode cX0_residue 52 = .ok (.lstore_n 3, 1) := by decide +kernel
theorem dX0_residue_53 : decode cX0_residue 53 = .ok (.iinc 5 (-1), 3) := by decide +kernel
theorem dX0_residue_56 : decode cX0_residue 56 = .ok (.goto (-25), 3) := by decide +kernel
theorem dX0_residue_59 : decode cX0_residue 59 = .ok (.aload_n 0, 1) := by decide +kernel
theorem dX0_residue_60 : decode cX0_residue 60 = .ok (.getfield 18, 3) := by decide +kernel
theorem dX0_residue_63 : decode cX0_residue 63 = .ok (.iload_n 1, 1) := by decide +kernel
theorem dX0_residue_64 : decode cX0_residue 64 = .ok (.iaload, 1) := by decide +kernel
theorem dX0_residue_65 : decode cX0_residue 65 = .ok (.ifCond .ge 14, 3) := by decide +kernel
theorem dX0_residue_68 : decode cX0_residue 68 = .ok (.lload_n 3, 1) := by decide +kernel
theorem dX0_residue_69 : decode cX0_residue 69 = .ok (.lconst 0, 1) := by decide +kernel
theorem dX0_residue_70 : decode cX0_residue 70 = .ok (.lcmp, 1) := by decide +kernel
theorem dX0_residue_71 : decode cX0_residue 71 = .ok (.ifCond .eq 8, 3) := by decide +kernel
theorem dX0_residue_74 : decode cX0_residue 74 = .ok (.iload_n 2, 1) := by decide +kernel
theorem dX0_residue_75 : decode cX0_residue 75 = .ok (.i2l, 1) := by decide +kernel
theorem dX0_residue_76 : decode cX0_residue 76 = .ok (.lload_n 3, 1) := by decide +kernel
theorem dX0_residue_77 : decode cX0_residue 77 = .ok (.lsub, 1) := by decide +kernel
theorem dX0_residue_78 : decode cX0_residue 78 = .ok (.lstore_n 3, 1) := by decide +kernel
theorem dX0_residue_79 : decode cX0_residue 79 = .ok (.lload_n 3, 1) := by decide +kernel
theorem dX0_residue_80 : decode cX0_residue 80 = .ok (.l2i, 1) := by decide +kernel
theorem dX0_residue_81 : decode cX0_residue 81 = .ok (.ireturn, 1) := by decide +kernel
theorem dX0_checkRegister_0 : decode cX0_checkRegister 0 = .ok (.iload_n 0, 1) := by decide +kernel
theorem dX0_checkRegister_1 : decode cX0_checkRegister 1 = .ok (.ifCond .lt 9, 3) := by decide +kernel
theorem dX0_checkRegister_4 : decode cX0_checkRegister 4 = .ok (.iload_n 0, 1) := by decide +kernel
theorem dX0_checkRegister_5 : decode cX0_checkRegister 5 = .ok (.bipush 12, 2) := by decide +kernel
theorem dX0_checkRegister_7 : decode cX0_checkRegister 7 = .ok (.if_icmp .lt 13, 3) := by decide +kernel
theorem dX0_checkRegister_10 : decode cX0_checkRegister 10 = .ok (.new 95, 3) := by decide +kernel
theorem dX0_checkRegister_13 : decode cX0_checkRegister 13 = .ok (.dup, 1) := by decide +kernel
theorem dX0_checkRegister_14 : decode cX0_checkRegister 14 = .ok (.ldc 106, 2) := by decide +kernel
theorem dX0_checkRegister_16 : decode cX0_checkRegister 16 = .ok (.invokespecial 99, 3) := by decide +kernel
theorem dX0_checkRegister_19 : decode cX0_checkRegister 19 = .ok (.athrow, 1) := by decide +kernel
theorem dX0_checkRegister_20 : decode cX0_checkRegister 20 = .ok (.return_, 1) := by decide +kernel
theorem dX0_checkResultFits_0 : decode cX0_checkResultFits 0 = .ok (.aload_n 0, 1) := by decide +kernel
theorem dX0_checkResultFits_1 : decode cX0_checkResultFits 1 = .ok (.getfield 21, 3) := by decide +kernel
theorem dX0_checkResultFits_4 : decode cX0_checkResultFits 4 = .ok (.sipush 512, 3) := by decide +kernel
theorem dX0_checkResultFits_7 : decode cX0_checkResultFits 7 = .ok (.iaload, 1) := by decide +kernel
theorem dX0_checkResultFits_8 : decode cX0_checkResultFits 8 = .ok (.ifCond .eq 13, 3) := by decide +kernel
theorem dX0_checkResultFits_11 : decode cX0_checkResultFits 11 = .ok (.new 44, 3) := by decide +kernel
theorem dX0_checkResultFits_14 : decode cX0_checkResultFits 14 = .ok (.dup, 1) := by decide +kernel
theorem dX0_checkResultFits_15 : decode cX0_checkResultFits 15 = .ok (.ldc 46, 2) := by decide +kernel
theorem dX0_checkResultFits_17 : decode cX0_checkResultFits 17 = .ok (.invokespecial 48, 3) := by decide +kernel
theorem dX0_checkResultFits_20 : decode cX0_checkResultFits 20 = .ok (.athrow, 1) := by decide +kernel
theorem dX0_checkResultFits_21 : decode cX0_checkResultFits 21 = .ok (.return_, 1) := by decide +kernel
theorem dX0_keepResult_0 : decode cX0_keepResult 0 = .ok (.sipush 512, 3) := by decide +kernel
theorem dX0_keepResult_3 : decode cX0_keepResult 3 = .ok (.istore_n 3, 1) := by decide +kernel
theorem dX0_keepResult_4 : decode cX0_keepResult 4 = .ok (.iload_n 3, 1) := by decide +kernel
theorem dX0_keepResult_5 : decode cX0_keepResult 5 = .ok (.ifCond .le 20, 3) := by decide +kernel
theorem dX0_keepResult_8 : decode cX0_keepResult 8 = .ok (.aload_n 0, 1) := by decide +kernel
theorem dX0_keepResult_9 : decode cX0_keepResult 9 = .ok (.getfield 21, 3) := by decide +kernel
theorem dX0_keepResult_12 : decode cX0_keepResult 12 = .ok (.iload_n 3, 1) := by decide +kernel
theorem dX0_keepResult_13 : decode cX0_keepResult 13 = .ok (.iconst 1, 1) := by decide +kernel
theorem dX0_keepResult_14 : decode cX0_keepResult 14 = .ok (.isub, 1) := by decide +kernel
theorem dX0_keepResult_15 : decode cX0_keepResult 15 = .ok (.iaload, 1) := by decide +kernel
theorem dX0_keepResult_16 : decode cX0_keepResult 16 = .ok (.ifCond .ne 9, 3) := by decide +kernel
theorem dX0_keepResult_19 : decode cX0_keepResult 19 = .ok (.iinc 3 (-1), 3) := by decide +kernel
theorem dX0_keepResult_22 : decode cX0_keepResult 22 = .ok (.goto (-18), 3) := by decide +kernel
theorem dX0_keepResult_25 : decode cX0_keepResult 25 = .ok (.aload_n 0, 1) := by decide +kernel
theorem dX0_keepResult_26 : decode cX0_keepResult 26 = .ok (.getfield 21, 3) := by decide +kernel
theorem dX0_keepResult_29 : decode cX0_keepResult 29 = .ok (.iconst 0, 1) := by decide +kernel
theorem dX0_keepResult_30 : decode cX0_keepResult 30 = .ok (.aload_n 0, 1) := by decide +kernel
theorem dX0_keepResult_31 : decode cX0_keepResult 31 = .ok (.getfield 11, 3) := by decide +kernel
theorem dX0_keepResult_34 : decode cX0_keepResult 34 = .ok (.iload_n 1, 1) := by decide +kernel
theorem dX0_keepResult_35 : decode cX0_keepResult 35 = .ok (.aaload, 1) := by decide +kernel
theorem dX0_keepResult_36 : decode cX0_keepResult 36 = .ok (.iconst 0, 1) := by decide +kernel
theorem dX0_keepResult_37 : decode cX0_keepResult 37 = .ok (.sipush 512, 3) := by decide +kernel
theorem dX0_keepResult_40 : decode cX0_keepResult 40 = .ok (.invokestatic 51, 3) := by decide +kernel
theorem dX0_keepResult_43 : decode cX0_keepResult 43 = .ok (.aload_n 0, 1) := by decide +kernel
theorem dX0_keepResult_44 : decode cX0_keepResult 44 = .ok (.getfield 14, 3) := by decide +kernel
theorem dX0_keepResult_47 : decode cX0_keepResult 47 = .ok (.iload_n 1, 1) := by decide +kernel
theorem dX0_keepResult_48 : decode cX0_keepResult 48 = .ok (.iload_n 3, 1) := by decide +kernel
theorem dX0_keepResult_49 : decode cX0_keepResult 49 = .ok (.iastore, 1) := by decide +kernel
theorem dX0_keepResult_50 : decode cX0_keepResult 50 = .ok (.aload_n 0, 1) := by decide +kernel
theorem dX0_keepResult_51 : decode cX0_keepResult 51 = .ok (.getfield 18, 3) := by decide +kernel
theorem dX0_keepResult_54 : decode cX0_keepResult 54 = .ok (.iload_n 1, 1) := by decide +kernel
theorem dX0_keepResult_55 : decode cX0_keepResult 55 = .ok (.iload_n 3, 1) := by decide +kernel
theorem dX0_keepResult_56 : decode cX0_keepResult 56 = .ok (.ifCond .ne 7, 3) := by decide +kernel
theorem dX0_keepResult_59 : decode cX0_keepResult 59 = .ok (.iconst 0, 1) := by decide +kernel
theorem dX0_keepResult_60 : decode cX0_keepResult 60 = .ok (.goto 4, 3) := by decide +kernel
theorem dX0_keepResult_63 : decode cX0_keepResult 63 = .ok (.iload_n 2, 1) := by decide +kernel
theorem dX0_keepResult_64 : decode cX0_keepResult 64 = .ok (.iastore, 1) := by decide +kernel
theorem dX0_keepResult_65 : decode cX0_keepResult 65 = .ok (.return_, 1) := by decide +kernel
theorem dX0_pairOf_0 : decode cX0_pairOf 0 = .ok (.lload_n 0, 1) := by decide +kernel
theorem dX0_pairOf_1 : decode cX0_pairOf 1 = .ok (.bipush 32, 2) := by decide +kernel
theorem dX0_pairOf_3 : decode cX0_pairOf 3 = .ok (.lshl, 1) := by decide +kernel
theorem dX0_pairOf_4 : decode cX0_pairOf 4 = .ok (.iload_n 2, 1) := by decide +kernel
theorem dX0_pairOf_5 : decode cX0_pairOf 5 = .ok (.i2l, 1) := by decide +kernel
theorem dX0_pairOf_6 : decode cX0_pairOf 6 = .ok (.ldc2_w 108, 3) := by decide +kernel
theorem dX0_pairOf_9 : decode cX0_pairOf 9 = .ok (.land, 1) := by decide +kernel
theorem dX0_pairOf_10 : decode cX0_pairOf 10 = .ok (.lor, 1) := by decide +kernel
theorem dX0_pairOf_11 : decode cX0_pairOf 11 = .ok (.lreturn, 1) := by decide +kernel
set_option maxRecDepth 20000 in
theorem ggX0_bitsOf_X0_bitsOfWord : GoodIn wsX0_bitsOf wsX0_bitsOfWord := goodIn_r _ [6] (by decide +kernel) (by decide +kernel)
set_option maxRecDepth 20000 in
theorem gX0_bitsOf_X0_bitsOfWord : GoodIn wsX0_bitsOf (va_wsS RX0 110 yX0_bitsOfWord wsX0_bitsOfWord) := goodIn_app (goodIn_of _ (by decide +kernel)) ggX0_bitsOf_X0_bitsOfWord
theorem dX0_bitsOf_0 : decode cX0_bitsOf 0 = .ok (.aload_n 0, 1) := by decide +kernel
theorem dX0_bitsOf_1 : decode cX0_bitsOf 1 = .ok (.getfield 14, 3) := by decide +kernel
theorem dX0_bitsOf_4 : decode cX0_bitsOf 4 = .ok (.iload_n 1, 1) := by decide +kernel
theorem dX0_bitsOf_5 : decode cX0_bitsOf 5 = .ok (.iaload, 1) := by decide +kernel
theorem dX0_bitsOf_6 : decode cX0_bitsOf 6 = .ok (.istore_n 2, 1) := by decide +kernel
theorem dX0_bitsOf_7 : decode cX0_bitsOf 7 = .ok (.iload_n 2, 1) := by decide +kernel
theorem dX0_bitsOf_8 : decode cX0_bitsOf 8 = .ok (.ifCond .ne 5, 3) := by decide +kernel
theorem dX0_bitsOf_11 : decode cX0_bitsOf 11 = .ok (.iconst 0, 1) := by decide +kernel
theorem dX0_bitsOf_12 : decode cX0_bitsOf 12 = .ok (.ireturn, 1) := by decide +kernel
theorem dX0_bitsOf_13 : decode cX0_bitsOf 13 = .ok (.iload_n 2, 1) := by decide +kernel
theorem dX0_bitsOf_14 : decode cX0_bitsOf 14 = .ok (.iconst 1, 1) := by decide +kernel
theorem dX0_bitsOf_15 : decode cX0_bitsOf 15 = .ok (.isub, 1) := by decide +kernel
theorem dX0_bitsOf_16 : decode cX0_bitsOf 16 = .ok (.bipush 32, 2) := by decide +kernel
theorem dX0_bitsOf_18 : decode cX0_bitsOf 18 = .ok (.imul, 1) := by decide +kernel
theorem dX0_bitsOf_19 : decode cX0_bitsOf 19 = .ok (.aload_n 0, 1) := by decide +kernel
theorem dX0_bitsOf_20 : decode cX0_bitsOf 20 = .ok (.getfield 11, 3) := by decide +kernel
theorem dX0_bitsOf_23 : decode cX0_bitsOf 23 = .ok (.iload_n 1, 1) := by decide +kernel
theorem dX0_bitsOf_24 : decode cX0_bitsOf 24 = .ok (.aaload, 1) := by decide +kernel
theorem dX0_bitsOf_25 : decode cX0_bitsOf 25 = .ok (.iload_n 2, 1) := by decide +kernel
theorem dX0_bitsOf_26 : decode cX0_bitsOf 26 = .ok (.iconst 1, 1) := by decide +kernel
theorem dX0_bitsOf_27 : decode cX0_bitsOf 27 = .ok (.isub, 1) := by decide +kernel
theorem dX0_bitsOf_28 : decode cX0_bitsOf 28 = .ok (.iaload, 1) := by decide +kernel
theorem dX0_bitsOf_29 : decode cX0_bitsOf 29 = .ok (.invokestatic 110, 3) := by decide +kernel
theorem dX0_bitsOf_32 : decode cX0_bitsOf 32 = .ok (.iadd, 1) := by decide +kernel
theorem dX0_bitsOf_33 : decode cX0_bitsOf 33 = .ok (.ireturn, 1) := by decide +kernel
theorem dX0_bitsOfWord_0 : decode cX0_bitsOfWord 0 = .ok (.bipush 32, 2) := by decide +kernel
theorem dX0_bitsOfWord_2 : decode cX0_bitsOfWord 2 = .ok (.istore_n 1, 1) := by decide +kernel
theorem dX0_bitsOfWord_3 : decode cX0_bitsOfWord 3 = .ok (.iload_n 1, 1) := by decide +kernel
theorem dX0_bitsOfWord_4 : decode cX0_bitsOfWord 4 = .ok (.ifCond .le 17, 3) := by decide +kernel
theorem dX0_bitsOfWord_7 : decode cX0_bitsOfWord 7 = .ok (.iload_n 0, 1) := by decide +kernel
theorem dX0_bitsOfWord_8 : decode cX0_bitsOfWord 8 = .ok (.iload_n 1, 1) := by decide +kernel
theorem dX0_bitsOfWord_9 : decode cX0_bitsOfWord 9 = .ok (.iconst 1, 1) := by decide +kernel
theorem dX0_bitsOfWord_10 : decode cX0_bitsOfWord 10 = .ok (.isub, 1) := by decide +kernel
theorem dX0_bitsOfWord_11 : decode cX0_bitsOfWord 11 = .ok (.iushr, 1) := by decide +kernel
theorem dX0_bitsOfWord_12 : decode cX0_bitsOfWord 12 = .ok (.ifCond .ne 9, 3) := by decide +kernel
theorem dX0_bitsOfWord_15 : decode cX0_bitsOfWord 15 = .ok (.iinc 1 (-1), 3) := by decide +kernel
theorem dX0_bitsOfWord_18 : decode cX0_bitsOfWord 18 = .ok (.goto (-15), 3) := by decide +kernel
theorem dX0_bitsOfWord_21 : decode cX0_bitsOfWord 21 = .ok (.iload_n 1, 1) := by decide +kernel
theorem dX0_bitsOfWord_22 : decode cX0_bitsOfWord 22 = .ok (.ireturn, 1) := by decide +kernel
theorem dX0_orderOfSizes_0 : decode cX0_orderOfSizes 0 = .ok (.aload_n 0, 1) := by decide +kernel
theorem dX0_orderOfSizes_1 : decode cX0_orderOfSizes 1 = .ok (.getfield 14, 3) := by decide +kernel
theorem dX0_orderOfSizes_4 : decode cX0_orderOfSizes 4 = .ok (.iload_n 1, 1) := by decide +kernel
theorem dX0_orderOfSizes_5 : decode cX0_orderOfSizes 5 = .ok (.iaload, 1) := by decide +kernel
theorem dX0_orderOfSizes_6 : decode cX0_orderOfSizes 6 = .ok (.aload_n 0, 1) := by decide +kernel
theorem dX0_orderOfSizes_7 : decode cX0_orderOfSizes 7 = .ok (.getfield 14, 3) := by decide +kernel
theorem dX0_orderOfSizes_10 : decode cX0_orderOfSizes 10 = .ok (.iload_n 2, 1) := by decide +kernel
theorem dX0_orderOfSizes_11 : decode cX0_orderOfSizes 11 = .ok (.iaload, 1) := by decide +kernel
theorem dX0_orderOfSizes_12 : decode cX0_orderOfSizes 12 = .ok (.if_icmp .eq 24, 3) := by decide +kernel
theorem dX0_orderOfSizes_15 : decode cX0_orderOfSizes 15 = .ok (.aload_n 0, 1) := by decide +kernel
theorem dX0_orderOfSizes_16 : decode cX0_orderOfSizes 16 = .ok (.getfield 14, 3) := by decide +kernel
theorem dX0_orderOfSizes_19 : decode cX0_orderOfSizes 19 = .ok (.iload_n 1, 1) := by decide +kernel
theorem dX0_orderOfSizes_20 : decode cX0_orderOfSizes 20 = .ok (.iaload, 1) := by decide +kernel
theorem dX0_orderOfSizes_21 : decode cX0_orderOfSizes 21 = .ok (.aload_n 0, 1) := by decide +kernel
theorem dX0_orderOfSizes_22 : decode cX0_orderOfSizes 22 = .ok (.getfield 14, 3) := by decide +kernel
theorem dX0_orderOfSizes_25 : decode cX0_orderOfSizes 25 = .ok (.iload_n 2, 1) := by decide +kernel
theorem dX0_orderOfSizes_26 : decode cX0_orderOfSizes 26 = .ok (.iaload, 1) := by decide +kernel
theorem dX0_orderOfSizes_27 : decode cX0_orderOfSizes 27 = .ok (.if_icmp .ge 7, 3) := by decide +kernel
theorem dX0_orderOfSizes_30 : decode cX0_orderOfSizes 30 = .ok (.iconst (-1), 1) := by decide +kernel
theorem dX0_orderOfSizes_31 : decode cX0_orderOfSizes 31 = .ok (.goto 4, 3) := by decide +kernel
theorem dX0_orderOfSizes_34 : decode cX0_orderOfSizes 34 = .ok (.iconst 1, 1) := by decide +kernel
theorem dX0_orderOfSizes_35 : decode cX0_orderOfSizes 35 = .ok (.ireturn, 1) := by decide +kernel
theorem dX0_orderOfSizes_36 : decode cX0_orderOfSizes 36 = .ok (.aload_n 0, 1) := by decide +kernel
theorem dX0_orderOfSizes_37 : decode cX0_orderOfSizes 37 = .ok (.getfield 14, 3) := by decide +kernel
theorem dX0_orderOfSizes_40 : decode cX0_orderOfSizes 40 = .ok (.iload_n 1, 1) := by decide +kernel
theorem dX0_orderOfSizes_41 : decode cX0_orderOfSizes 41 = .ok (.iaload, 1) := by decide +kernel
theorem dX0_orderOfSizes_42 : decode cX0_orderOfSizes 42 = .ok (.iconst 1, 1) := by decide +kernel
theorem dX0_orderOfSizes_43 : decode cX0_orderOfSizes 43 = .ok (.isub, 1) := by decide +kernel
theorem dX0_orderOfSizes_44 : decode cX0_orderOfSizes 44 = .ok (.istore_n 3, 1) := by decide +kernel
theorem dX0_orderOfSizes_45 : decode cX0_orderOfSizes 45 = .ok (.iload_n 3, 1) := by decide +kernel
theorem dX0_orderOfSizes_46 : decode cX0_orderOfSizes 46 = .ok (.ifCond .lt 61, 3) := by decide +kernel
theorem dX0_orderOfSizes_49 : decode cX0_orderOfSizes 49 = .ok (.aload_n 0, 1) := by decide +kernel
theorem dX0_orderOfSizes_50 : decode cX0_orderOfSizes 50 = .ok (.getfield 11, 3) := by decide +kernel
theorem dX0_orderOfSizes_53 : decode cX0_orderOfSizes 53 = .ok (.iload_n 1, 1) := by decide +kernel
theorem dX0_orderOfSizes_54 : decode cX0_orderOfSizes 54 = .ok (.aaload, 1) := by decide +kernel
theorem dX0_orderOfSizes_55 : decode cX0_orderOfSizes 55 = .ok (.iload_n 3, 1) := by decide +kernel
theorem dX0_orderOfSizes_56 : decode cX0_orderOfSizes 56 = .ok (.iaload, 1) := by decide +kernel
theorem dX0_orderOfSizes_57 : decode cX0_orderOfSizes 57 = .ok (.i2l, 1) := by decide +kernel
theorem dX0_orderOfSizes_58 : decode cX0_orderOfSizes 58 = .ok (.ldc2_w 108, 3) := by decide +kernel
theorem dX0_orderOfSizes_61 : decode cX0_orderOfSizes 61 = .ok (.land, 1) := by decide +kernel
theorem dX0_orderOfSizes_62 : decode cX0_orderOfSizes 62 = .ok (.lstore 4, 2) := by decide +kernel
theorem dX0_orderOfSizes_64 : decode cX0_orderOfSizes 64 = .ok (.aload_n 0, 1) := by decide +kernel
theorem dX0_orderOfSizes_65 : decode cX0_orderOfSizes 65 = .ok (.getfield 11, 3) := by decide +kernel
theorem dX0_orderOfSizes_68 : decode cX0_orderOfSizes 68 = .ok (.iload_n 2, 1) := by decide +kernel
theorem dX0_orderOfSizes_69 : decode cX0_orderOfSizes 69 = .ok (.aaload, 1) := by decide +kernel
theorem dX0_orderOfSizes_70 : decode cX0_orderOfSizes 70 = .ok (.iload_n 3, 1) := by decide +kernel
theorem dX0_orderOfSizes_71 : decode cX0_orderOfSizes 71 = .ok (.iaload, 1) := by decide +kernel
theorem dX0_orderOfSizes_72 : decode cX0_orderOfSizes 72 = .ok (.i2l, 1) := by decide +kernel
theorem dX0_orderOfSizes_73 : decode cX0_orderOfSizes 73 = .ok (.ldc2_w 108, 3) := by decide +kernel
theorem dX0_orderOfSizes_76 : decode cX0_orderOfSizes 76 = .ok (.land, 1) := by decide +kernel
theorem dX0_orderOfSizes_77 : decode cX0_orderOfSizes 77 = .ok (.lstore 6, 2) := by decide +kernel
theorem dX0_orderOfSizes_79 : decode cX0_orderOfSizes 79 = .ok (.lload 4, 2) := by decide +kernel
theorem dX0_orderOfSizes_81 : decode cX0_orderOfSizes 81 = .ok (.lload 6, 2) := by decide +kernel
theorem dX0_orderOfSizes_83 : decode cX0_orderOfSizes 83 = .ok (.lcmp, 1) := by decide +kernel
theorem dX0_orderOfSizes_84 : decode cX0_orderOfSizes 84 = .ok (.ifCond .eq 17, 3) := by decide +kernel
theorem dX0_orderOfSizes_87 : decode cX0_orderOfSizes 87 = .ok (.lload 4, 2) := by decide +kernel
theorem dX0_orderOfSizes_89 : decode cX0_orderOfSizes 89 = .ok (.lload 6, 2) := by decide +kernel
theorem dX0_orderOfSizes_91 : decode cX0_orderOfSizes 91 = .ok (.lcmp, 1) := by decide +kernel
theorem dX0_orderOfSizes_92 : decode cX0_orderOfSizes 92 = .ok (.ifCond .ge 7, 3) := by decide +kernel
theorem dX0_orderOfSizes_95 : decode cX0_orderOfSizes 95 = .ok (.iconst (-1), 1) := by decide +kernel
theorem dX0_orderOfSizes_96 : decode cX0_orderOfSizes 96 = .ok (.goto 4, 3) := by decide +kernel
theorem dX0_orderOfSizes_99 : decode cX0_orderOfSizes 99 = .ok (.iconst 1, 1) := by decide +kernel
theorem dX0_orderOfSizes_100 : decode cX0_orderOfSizes 100 = .ok (.ireturn, 1) := by decide +kernel
theorem dX0_orderOfSizes_101 : decode cX0_orderOfSizes 101 = .ok (.iinc 3 (-1), 3) := by decide +kernel
theorem dX0_orderOfSizes_104 : decode cX0_orderOfSizes 104 = .ok (.goto (-59), 3) := by decide +kernel
theorem dX0_orderOfSizes_107 : decode cX0_orderOfSizes 107 = .ok (.iconst 0, 1) := by decide +kernel
theorem dX0_orderOfSizes_108 : decode cX0_orderOfSizes 108 = .ok (.ireturn, 1) := by decide +kernel
set_option maxRecDepth 20000 in
theorem ggX0_putSum_X0_addSizes : GoodIn wsX0_putSum wsX0_addSizes := goodIn_r _ [6, 7, 8, 9, 10, 11, 12, 13, 14, 15, 16, 17, 18, 41, 42, 43, 44, 45, 46] (by decide +kernel) (by decide +kernel)
set_option maxRecDepth 20000 in
theorem gX0_putSum_X0_addSizes : GoodIn wsX0_putSum (wsV RX0 113 RX0 yX0_addSizes wsX0_addSizes) := goodIn_app (goodIn_of _ (by decide +kernel)) ggX0_putSum_X0_addSizes
set_option maxRecDepth 20000 in
theorem ggX0_putSum_X0_checkResultFits : GoodIn wsX0_putSum wsX0_checkResultFits := goodIn_ca (goodIn_r _ [22, 23, 24, 7, 41, 42, 43, 44, 45, 46] (by decide +kernel) (by decide +kernel)) (goodIn_sub (fun _ h => List.mem_cons_of_mem _ (List.mem_append_right _ h)) (by decide +kernel))
set_option maxRecDepth 20000 in
theorem gX0_putSum_X0_checkResultFits : GoodIn wsX0_putSum (wsV RX0 64 RX0 yX0_checkResultFits wsX0_checkResultFits) := goodIn_app (goodIn_of _ (by decide +kernel)) ggX0_putSum_X0_checkResultFits
set_option maxRecDepth 20000 in
theorem ggX0_putSum_X0_orderOfSizes : GoodIn wsX0_putSum wsX0_orderOfSizes := goodIn_r _ [28, 8, 13, 14, 41, 42, 43, 44, 45, 46] (by decide +kernel) (by decide +kernel)
set_option maxRecDepth 20000 in
theorem gX0_putSum_X0_orderOfSizes : GoodIn wsX0_putSum (wsV RX0 91 RX0 yX0_orderOfSizes wsX0_orderOfSizes) := goodIn_app (goodIn_of _ (by decide +kernel)) ggX0_putSum_X0_orderOfSizes
set_option maxRecDepth 20000 in
theorem ggX0_putSum_X0_subtractSizes : GoodIn wsX0_putSum wsX0_subtractSizes := goodIn_r _ [32, 7, 8, 13, 14, 15, 16, 17, 18, 41, 42, 43, 44, 45, 46] (by decide +kernel) (by decide +kernel)
set_option maxRecDepth 20000 in
theorem gX0_putSum_X0_subtractSizes : GoodIn wsX0_putSum (wsV RX0 116 RX0 yX0_subtractSizes wsX0_subtractSizes) := goodIn_app (goodIn_of _ (by decide +kernel)) ggX0_putSum_X0_subtractSizes
set_option maxRecDepth 20000 in
theorem ggX0_putSum_X0_keepResult : GoodIn wsX0_putSum wsX0_keepResult := goodIn_r _ [36, 7, 13, 37, 38, 39, 40, 8, 1, 41, 42, 43, 44, 45, 46] (by decide +kernel) (by decide +kernel)
set_option maxRecDepth 20000 in
theorem gX0_putSum_X0_keepResult : GoodIn wsX0_putSum (wsV RX0 40 RX0 yX0_keepResult wsX0_keepResult) := goodIn_app (goodIn_of _ (by decide +kernel)) ggX0_putSum_X0_keepResult
theorem dX0_putSum_0 : decode cX0_putSum 0 = .ok (.aload_n 0, 1) := by decide +kernel
theorem dX0_putSum_1 : decode cX0_putSum 1 = .ok (.getfield 18, 3) := by decide +kernel
theorem dX0_putSum_4 : decode cX0_putSum 4 = .ok (.iload_n 2, 1) := by decide +kernel
theorem dX0_putSum_5 : decode cX0_putSum 5 = .ok (.iaload, 1) := by decide +kernel
theorem dX0_putSum_6 : decode cX0_putSum 6 = .ok (.ifCond .ne 8, 3) := by decide +kernel
theorem dX0_putSum_9 : decode cX0_putSum 9 = .ok (.iload 4, 2) := by decide +kernel
theorem dX0_putSum_11 : decode cX0_putSum 11 = .ok (.goto 9, 3) := by decide +kernel
theorem dX0_putSum_14 : decode cX0_putSum 14 = .ok (.aload_n 0, 1) := by decide +kernel
theorem dX0_putSum_15 : decode cX0_putSum 15 = .ok (.getfield 18, 3) := by decide +kernel
theorem dX0_putSum_18 : decode cX0_putSum 18 = .ok (.iload_n 2, 1) := by decide +kernel
theorem dX0_putSum_19 : decode cX0_putSum 19 = .ok (.iaload, 1) := by decide +kernel
theorem dX0_putSum_20 : decode cX0_putSum 20 = .ok (.istore 5, 2) := by decide +kernel
theorem dX0_putSum_22 : decode cX0_putSum 22 = .ok (.aload_n 0, 1) := by decide +kernel
theorem dX0_putSum_23 : decode cX0_putSum 23 = .ok (.getfield 18, 3) := by decide +kernel
theorem dX0_putSum_26 : decode cX0_putSum 26 = .ok (.iload_n 2, 1) := by decide +kernel
theorem dX0_putSum_27 : decode cX0_putSum 27 = .ok (.iaload, 1) := by decide +kernel
theorem dX0_putSum_28 : decode cX0_putSum 28 = .ok (.iload 4, 2) := by decide +kernel
theorem dX0_putSum_30 : decode cX0_putSum 30 = .ok (.imul, 1) := by decide +kernel
theorem dX0_putSum_31 : decode cX0_putSum 31 = .ok (.ifCond .lt 16, 3) := by decide +kernel
theorem dX0_putSum_34 : decode cX0_putSum 34 = .ok (.aload_n 0, 1) := by decide +kernel
theorem dX0_putSum_35 : decode cX0_putSum 35 = .ok (.iload_n 2, 1) := by decide +kernel
theorem dX0_putSum_36 : decode cX0_putSum 36 = .ok (.iload_n 3, 1) := by decide +kernel
theorem dX0_putSum_37 : decode cX0_putSum 37 = .ok (.invokevirtual 113, 3) := by decide +kernel
theorem dX0_putSum_40 : decode cX0_putSum 40 = .ok (.aload_n 0, 1) := by decide +kernel
theorem dX0_putSum_41 : decode cX0_putSum 41 = .ok (.invokevirtual 64, 3) := by decide +kernel
theorem dX0_putSum_44 : decode cX0_putSum 44 = .ok (.goto 31, 3) := by decide +kernel
theorem dX0_putSum_47 : decode cX0_putSum 47 = .ok (.aload_n 0, 1) := by decide +kernel
theorem dX0_putSum_48 : decode cX0_putSum 48 = .ok (.iload_n 2, 1) := by decide +kernel
theorem dX0_putSum_49 : decode cX0_putSum 49 = .ok (.iload_n 3, 1) := by decide +kernel
theorem dX0_putSum_50 : decode cX0_putSum 50 = .ok (.invokevirtual 91, 3) := by decide +kernel
theorem dX0_putSum_53 : decode cX0_putSum 53 = .ok (.ifCond .lt 12, 3) := by decide +kernel
theorem dX0_putSum_56 : decode cX0_putSum 56 = .ok (.aload_n 0, 1) := by decide +kernel
theorem dX0_putSum_57 : decode cX0_putSum 57 = .ok (.iload_n 2, 1) := by decide +kernel
theorem dX0_putSum_58 : decode cX0_putSum 58 = .ok (.iload_n 3, 1) := by decide +kernel
theorem dX0_putSum_59 : decode cX0_putSum 59 = .ok (.invokevirtual 116, 3) := by decide +kernel
theorem dX0_putSum_62 : decode cX0_putSum 62 = .ok (.goto 13, 3) := by decide +kernel
theorem dX0_putSum_65 : decode cX0_putSum 65 = .ok (.aload_n 0, 1) := by decide +kernel
theorem dX0_putSum_66 : decode cX0_putSum 66 = .ok (.iload_n 3, 1) := by decide +kernel
theorem dX0_putSum_67 : decode cX0_putSum 67 = .ok (.iload_n 2, 1) := by decide +kernel
theorem dX0_putSum_68 : decode cX0_putSum 68 = .ok (.invokevirtual 116, 3) := by decide +kernel
theorem dX0_putSum_71 : decode cX0_putSum 71 = .ok (.iload 4, 2) := by decide +kernel
theorem dX0_putSum_73 : decode cX0_putSum 73 = .ok (.istore 5, 2) := by decide +kernel
theorem dX0_putSum_75 : decode cX0_putSum 75 = .ok (.aload_n 0, 1) := by decide +kernel
theorem dX0_putSum_76 : decode cX0_putSum 76 = .ok (.iload_n 1, 1) := by decide +kernel
theorem dX0_putSum_77 : decode cX0_putSum 77 = .ok (.iload 5, 2) := by decide +kernel
theorem dX0_putSum_79 : decode cX0_putSum 79 = .ok (.invokevirtual 40, 3) := by decide +kernel
theorem dX0_putSum_82 : decode cX0_putSum 82 = .ok (.return_, 1) := by decide +kernel
set_option maxRecDepth 20000 in
theorem ggX0_addSizes_J7_fill_53178 : GoodIn wsX0_addSizes wsJ7_fill_53178 := goodIn_r _ [12] (by decide +kernel) (by decide +kernel)
set_option maxRecDepth 20000 in
theorem gX0_addSizes_J7_fill_53178 : GoodIn wsX0_addSizes (va_wsS RX0 34 yJ7_fill_53178 wsJ7_fill_53178) := goodIn_app (goodIn_of _ (by decide +kernel)) ggX0_addSizes_J7_fill_53178
theorem dX0_addSizes_0 : decode cX0_addSizes 0 = .ok (.aload_n 0, 1) := by decide +kernel
theorem dX0_addSizes_1 : decode cX0_addSizes 1 = .ok (.getfield 21, 3) := by decide +kernel
theorem dX0_addSizes_4 : decode cX0_addSizes 4 = .ok (.iconst 0, 1) := by decide +kernel
theorem dX0_addSizes_5 : decode cX0_addSizes 5 = .ok (.invokestatic 34, 3) := by decide +kernel
theorem dX0_addSizes_8 : decode cX0_addSizes 8 = .ok (.aload_n 0, 1) := by decide +kernel
theorem dX0_addSizes_9 : decode cX0_addSizes 9 = .ok (.getfield 14, 3) := by decide +kernel
theorem dX0_addSizes_12 : decode cX0_addSizes 12 = .ok (.iload_n 1, 1) := by decide +kernel
theorem dX0_addSizes_13 : decode cX0_addSizes 13 = .ok (.iaload, 1) := by decide +kernel
theorem dX0_addSizes_14 : decode cX0_addSizes 14 = .ok (.aload_n 0, 1) := by decide +kernel
theorem dX0_addSizes_15 : decode cX0_addSizes 15 = .ok (.getfield 14, 3) := by decide +kernel
theorem dX0_addSizes_18 : decode cX0_addSizes 18 = .ok (.iload_n 2, 1) := by decide +kernel
theorem dX0_addSizes_19 : decode cX0_addSizes 19 = .ok (.iaload, 1) := by decide +kernel
theorem dX0_addSizes_20 : decode cX0_addSizes 20 = .ok (.invokestatic 119, 3) := by decide +kernel
theorem dX0_addSizes_23 : decode cX0_addSizes 23 = .ok (.istore_n 3, 1) := by decide +kernel
theorem dX0_addSizes_24 : decode cX0_addSizes 24 = .ok (.lconst 0, 1) := by decide +kernel
theorem dX0_addSizes_25 : decode cX0_addSizes 25 = .ok (.lstore 4, 2) := by decide +kernel
theorem dX0_addSizes_27 : decode cX0_addSizes 27 = .ok (.iconst 0, 1) := by decide +kernel
theorem dX0_addSizes_28 : decode cX0_addSizes 28 = .ok (.istore 6, 2) := by decide +kernel
theorem dX0_addSizes_30 : decode cX0_addSizes 30 = .ok (.iload 6, 2) := by decide +kernel
theorem dX0_addSizes_32 : decode cX0_addSizes 32 = .ok (.iload_n 3, 1) := by decide +kernel
theorem dX0_addSizes_33 : decode cX0_addSizes 33 = .ok (.if_icmp .ge 60, 3) := by decide +kernel
theorem dX0_addSizes_36 : decode cX0_addSizes 36 = .ok (.aload_n 0, 1) := by decide +kernel
theorem dX0_addSizes_37 : decode cX0_addSizes 37 = .ok (.getfield 11, 3) := by decide +kernel
theorem dX0_addSizes_40 : decode cX0_addSizes 40 = .ok (.iload_n 1, 1) := by decide +kernel
theorem dX0_addSizes_41 : decode cX0_addSizes 41 = .ok (.aaload, 1) := by decide +kernel
theorem dX0_addSizes_42 : decode cX0_addSizes 42 = .ok (.iload 6, 2) := by decide +kernel
theorem dX0_addSizes_44 : decode cX0_addSizes 44 = .ok (.iaload, 1) := by decide +kernel
theorem dX0_addSizes_45 : decode cX0_addSizes 45 = .ok (.i2l, 1) := by decide +kernel
theorem dX0_addSizes_46 : decode cX0_addSizes 46 = .ok (.ldc2_w 108, 3) := by decide +kernel
theorem dX0_addSizes_49 : decode cX0_addSizes 49 = .ok (.land, 1) := by decide +kernel
theorem dX0_addSizes_50 : decode cX0_addSizes 50 = .ok (.aload_n 0, 1) := by decide +kernel
theorem dX0_addSizes_51 : decode cX0_addSizes 51 = .ok (.getfield 11, 3) := by decide +kernel
theorem dX0_addSizes_54 : decode cX0_addSizes 54 = .ok (.iload_n 2, 1) := by decide +kernel
theorem dX0_addSizes_55 : decode cX0_addSizes 55 = .ok (.aaload, 1) := by decide +kernel
theorem dX0_addSizes_56 : decode cX0_addSizes 56 = .ok (.iload 6, 2) := by decide +kernel
theorem dX0_addSizes_58 : decode cX0_addSizes 58 = .ok (.iaload, 1) := by decide +kernel
theorem dX0_addSizes_59 : decode cX0_addSizes 59 = .ok (.i2l, 1) := by decide +kernel
theorem dX0_addSizes_60 : decode cX0_addSizes 60 = .ok (.ldc2_w 108, 3) := by decide +kernel
theorem dX0_addSizes_63 : decode cX0_addSizes 63 = .ok (.land, 1) := by decide +kernel
theorem dX0_addSizes_64 : decode cX0_addSizes 64 = .ok (.ladd, 1) := by decide +kernel
theorem dX0_addSizes_65 : decode cX0_addSizes 65 = .ok (.lload 4, 2) := by decide +kernel
theorem dX0_addSizes_67 : decode cX0_addSizes 67 = .ok (.ladd, 1) := by decide +kernel
theorem dX0_addSizes_68 : decode cX0_addSizes 68 = .ok (.lstore 7, 2) := by decide +kernel
theorem dX0_addSizes_70 : decode cX0_addSizes 70 = .ok (.aload_n 0, 1) := by decide +kernel
theorem dX0_addSizes_71 : decode cX0_addSizes 71 = .ok (.getfield 21, 3) := by decide +kernel
theorem dX0_addSizes_74 : decode cX0_addSizes 74 = .ok (.iload 6, 2) := by decide +kernel
theorem dX0_addSizes_76 : decode cX0_addSizes 76 = .ok (.lload 7, 2) := by decide +kernel
theorem dX0_addSizes_78 : decode cX0_addSizes 78 = .ok (.l2i, 1) := by decide +kernel
theorem dX0_addSizes_79 : decode cX0_addSizes 79 = .ok (.iastore, 1) := by decide +kernel
theorem dX0_addSizes_80 : decode cX0_addSizes 80 = .ok (.lload 7, 2) := by decide +kernel
theorem dX0_addSizes_82 : decode cX0_addSizes 82 = .ok (.bipush 32, 2) := by decide +kernel
theorem dX0_addSizes_84 : decode cX0_addSizes 84 = .ok (.lushr, 1) := by decide +kernel
theorem dX0_addSizes_85 : decode cX0_addSizes 85 = .ok (.lstore 4, 2) := by decide +kernel
theorem dX0_addSizes_87 : decode cX0_addSizes 87 = .ok (.iinc 6 1, 3) := by decide +kernel
theorem dX0_addSizes_90 : decode cX0_addSizes 90 = .ok (.goto (-60), 3) := by decide +kernel
theorem dX0_addSizes_93 : decode cX0_addSizes 93 = .ok (.aload_n 0, 1) := by decide +kernel
theorem dX0_addSizes_94 : decode cX0_addSizes 94 = .ok (.getfield 21, 3) := by decide +kernel
theorem dX0_addSizes_97 : decode cX0_addSizes 97 = .ok (.iload_n 3, 1) := by decide +kernel
theorem dX0_addSizes_98 : decode cX0_addSizes 98 = .ok (.lload 4, 2) := by decide +kernel
theorem dX0_addSizes_100 : decode cX0_addSizes 100 = .ok (.l2i, 1) := by decide +kernel
theorem dX0_addSizes_101 : decode cX0_addSizes 101 = .ok (.iastore, 1) := by decide +kernel
theorem dX0_addSizes_102 : decode cX0_addSizes 102 = .ok (.return_, 1) := by decide +kernel
set_option maxRecDepth 20000 in
theorem ggX0_subtractSizes_J7_fill_53178 : GoodIn wsX0_subtractSizes wsJ7_fill_53178 := goodIn_r _ [8] (by decide +kernel) (by decide +kernel)
set_option maxRecDepth 20000 in
theorem gX0_subtractSizes_J7_fill_53178 : GoodIn wsX0_subtractSizes (va_wsS RX0 34 yJ7_fill_53178 wsJ7_fill_53178) := goodIn_app (goodIn_of _ (by decide +kernel)) ggX0_subtractSizes_J7_fill_53178
theorem dX0_subtractSizes_0 : decode cX0_subtractSizes 0 = .ok (.aload_n 0, 1) := by decide +kernel
theorem dX0_subtractSizes_1 : decode cX0_subtractSizes 1 = .ok (.getfield 21, 3) := by decide +kernel
theorem dX0_subtractSizes_4 : decode cX0_subtractSizes 4 = .ok (.iconst 0, 1) := by decide +kernel
theorem dX0_subtractSizes_5 : decode cX0_subtractSizes 5 = .ok (.invokestatic 34, 3) := by decide +kernel
theorem dX0_subtractSizes_8 : decode cX0_subtractSizes 8 = .ok (.lconst 0, 1) := by decide +kernel
theorem dX0_subtractSizes_9 : decode cX0_subtractSizes 9 = .ok (.lstore_n 3, 1) := by decide +kernel
theorem dX0_subtractSizes_10 : decode cX0_subtractSizes 10 = .ok (.iconst 0, 1) := by decide +kernel
theorem dX0_subtractSizes_11 : decode cX0_subtractSizes 11 = .ok (.istore 5, 2) := by decide +kernel
theorem dX0_subtractSizes_13 : decode cX0_subtractSizes 13 = .ok (.iload 5, 2) := by decide +kernel
theorem dX0_subtractSizes_15 : decode cX0_subtractSizes 15 = .ok (.aload_n 0, 1) := by decide +kernel
theorem dX0_subtractSizes_16 : decode cX0_subtractSizes 16 = .ok (.getfield 14, 3) := by decide +kernel
theorem dX0_subtractSizes_19 : decode cX0_subtractSizes 19 = .ok (.iload_n 1, 1) := by decide +kernel
theorem dX0_subtractSizes_20 : decode cX0_subtractSizes 20 = .ok (.iaload, 1) := by decide +kernel
theorem dX0_subtractSizes_21 : decode cX0_subtractSizes 21 = .ok (.if_icmp .ge 65, 3) := by decide +kernel
theorem dX0_subtractSizes_24 : decode cX0_subtractSizes 24 = .ok (.aload_n 0, 1) := by decide +kernel
theorem dX0_subtractSizes_25 : decode cX0_subtractSizes 25 = .ok (.getfield 11, 3) := by decide +kernel
theorem dX0_subtractSizes_28 : decode cX0_subtractSizes 28 = .ok (.iload_n 1, 1) := by decide +kernel
theorem dX0_subtractSizes_29 : decode cX0_subtractSizes 29 = .ok (.aaload, 1) := by decide +kernel
theorem dX0_subtractSizes_30 : decode cX0_subtractSizes 30 = .ok (.iload 5, 2) := by decide +kernel
theorem dX0_subtractSizes_32 : decode cX0_subtractSizes 32 = .ok (.iaload, 1) := by decide +kernel
theorem dX0_subtractSizes_33 : decode cX0_subtractSizes 33 = .ok (.i2l, 1) := by decide +kernel
theorem dX0_subtractSizes_34 : decode cX0_subtractSizes 34 = .ok (.ldc2_w 108, 3) := by decide +kernel
theorem dX0_subtractSizes_37 : decode cX0_subtractSizes 37 = .ok (.land, 1) := by decide +kernel
theorem dX0_subtractSizes_38 : decode cX0_subtractSizes 38 = .ok (.aload_n 0, 1) := by decide +kernel
theorem dX0_subtractSizes_39 : decode cX0_subtractSizes 39 = .ok (.getfield 11, 3) := by decide +kernel
theorem dX0_subtractSizes_42 : decode cX0_subtractSizes 42 = .ok (.iload_n 2, 1) := by decide +kernel
theorem dX0_subtractSizes_43 : decode cX0_subtractSizes 43 = .ok (.aaload, 1) := by decide +kernel
theorem dX0_subtractSizes_44 : decode cX0_subtractSizes 44 = .ok (.iload 5, 2) := by decide +kernel
theorem dX0_subtractSizes_46 : decode cX0_subtractSizes 46 = .ok (.iaload, 1) := by decide +kernel
theorem dX0_subtractSizes_47 : decode cX0_subtractSizes 47 = .ok (.i2l, 1) := by decide +kernel
theorem dX0_subtractSizes_48 : decode cX0_subtractSizes 48 = .ok (.ldc2_w 108, 3) := by decide +kernel
theorem dX0_subtractSizes_51 : decode cX0_subtractSizes 51 = .ok (.land, 1) := by decide +kernel
theorem dX0_subtractSizes_52 : decode cX0_subtractSizes 52 = .ok (.lsub, 1) := by decide +kernel
theorem dX0_subtractSizes_53 : decode cX0_subtractSizes 53 = .ok (.lload_n 3, 1) := by decide +kernel
theorem dX0_subtractSizes_54 : decode cX0_subtractSizes 54 = .ok (.lsub, 1) := by decide +kernel
theorem dX0_subtractSizes_55 : decode cX0_subtractSizes 55 = .ok (.lstore 6, 2) := by decide +kernel
theorem dX0_subtractSizes_57 : decode cX0_subtractSizes 57 = .ok (.aload_n 0, 1) := by decide +kernel
theorem dX0_subtractSizes_58 : decode cX0_subtractSizes 58 = .ok (.getfield 21, 3) := by decide +kernel
theorem dX0_subtractSizes_61 : decode cX0_subtractSizes 61 = .ok (.iload 5, 2) := by decide +kernel
theorem dX0_subtractSizes_63 : decode cX0_subtractSizes 63 = .ok (.lload 6, 2) := by decide +kernel
theorem dX0_subtractSizes_65 : decode cX0_subtractSizes 65 = .ok (.l2i, 1) := by decide +kernel
theorem dX0_subtractSizes_66 : decode cX0_subtractSizes 66 = .ok (.iastore, 1) := by decide +kernel
theorem dX0_subtractSizes_67 : decode cX0_subtractSizes 67 = .ok (.lload 6, 2) := by decide +kernel
theorem dX0_subtractSizes_69 : decode cX0_subtractSizes 69 = .ok (.lconst 0, 1) := by decide +kernel
theorem dX0_subtractSizes_70 : decode cX0_subtractSizes 70 = .ok (.lcmp, 1) := by decide +kernel
theorem dX0_subtractSizes_71 : decode cX0_subtractSizes 71 = .ok (.ifCond .ge 7, 3) := by decide +kernel
theorem dX0_subtractSizes_74 : decode cX0_subtractSizes 74 = .ok (.lconst 1, 1) := by decide +kernel
theorem dX0_subtractSizes_75 : decode cX0_subtractSizes 75 = .ok (.goto 4, 3) := by decide +kernel
theorem dX0_subtractSizes_78 : decode cX0_subtractSizes 78 = .ok (.lconst 0, 1) := by decide +kernel
theorem dX0_subtractSizes_79 : decode cX0_subtractSizes 79 = .ok (.lstore_n 3, 1) := by decide +kernel
theorem dX0_subtractSizes_80 : decode cX0_subtractSizes 80 = .ok (.iinc 5 1, 3) := by decide +kernel
theorem dX0_subtractSizes_83 : decode cX0_subtractSizes 83 = .ok (.goto (-70), 3) := by decide +kernel
theorem dX0_subtractSizes_86 : decode cX0_subtractSizes 86 = .ok (.return_, 1) := by decide +kernel
set_option maxRecDepth 20000 in
theorem ggX0_multiplySizes_J7_fill_53178 : GoodIn wsX0_multiplySizes wsJ7_fill_53178 := goodIn_r _ [8] (by decide +kernel) (by decide +kernel)
set_option maxRecDepth 20000 in
theorem gX0_multiplySizes_J7_fill_53178 : GoodIn wsX0_multiplySizes (va_wsS RX0 34 yJ7_fill_53178 wsJ7_fill_53178) := goodIn_app (goodIn_of _ (by decide +kernel)) ggX0_multiplySizes_J7_fill_53178
set_option maxRecDepth 20000 in
theorem ggX0_multiplySizes_X0_addMultiple : GoodIn wsX0_multiplySizes wsX0_addMultiple := goodIn_r _ [13, 3, 2, 4, 1, 14, 15, 16, 17, 18, 19] (by decide +kernel) (by decide +kernel)
set_option maxRecDepth 20000 in
theorem gX0_multiplySizes_X0_addMultiple : GoodIn wsX0_multiplySizes (wsV RX0 124 RX0 yX0_addMultiple wsX0_addMultiple) := goodIn_app (goodIn_of _ (by decide +kernel)) ggX0_multiplySizes_X0_addMultiple
theorem dX0_multiplySizes_0 : decode cX0_multiplySizes 0 = .ok (.aload_n 0, 1) := by decide +kernel
theorem dX0_multiplySizes_1 : decode cX0_multiplySizes 1 = .ok (.getfield 21, 3) := by decide +kernel
theorem dX0_multiplySizes_4 : decode cX0_multiplySizes 4 = .ok (.iconst 0, 1) := by decide +kernel
theorem dX0_multiplySizes_5 : decode cX0_multiplySizes 5 = .ok (.invokestatic 34, 3) := by decide +kernel
theorem dX0_multiplySizes_8 : decode cX0_multiplySizes 8 = .ok (.iconst 0, 1) := by decide +kernel
theorem dX0_multiplySizes_9 : decode cX0_multiplySizes 9 = .ok (.istore_n 3, 1) := by decide +kernel
theorem dX0_multiplySizes_10 : decode cX0_multiplySizes 10 = .ok (.iload_n 3, 1) := by decide +kernel
theorem dX0_multiplySizes_11 : decode cX0_multiplySizes 11 = .ok (.aload_n 0, 1) := by decide +kernel
theorem dX0_multiplySizes_12 : decode cX0_multiplySizes 12 = .ok (.getfield 14, 3) := by decide +kernel
theorem dX0_multiplySizes_15 : decode cX0_multiplySizes 15 = .ok (.iload_n 1, 1) := by decide +kernel
theorem dX0_multiplySizes_16 : decode cX0_multiplySizes 16 = .ok (.iaload, 1) := by decide +kernel
theorem dX0_multiplySizes_17 : decode cX0_multiplySizes 17 = .ok (.if_icmp .ge 28, 3) := by decide +kernel
theorem dX0_multiplySizes_20 : decode cX0_multiplySizes 20 = .ok (.aload_n 0, 1) := by decide +kernel
theorem dX0_multiplySizes_21 : decode cX0_multiplySizes 21 = .ok (.iload_n 3, 1) := by decide +kernel
theorem dX0_multiplySizes_22 : decode cX0_multiplySizes 22 = .ok (.iload_n 2, 1) := by decide +kernel
theorem dX0_multiplySizes_23 : decode cX0_multiplySizes 23 = .ok (.aload_n 0, 1) := by decide +kernel
theorem dX0_multiplySizes_24 : decode cX0_multiplySizes 24 = .ok (.getfield 11, 3) := by decide +kernel
theorem dX0_multiplySizes_27 : decode cX0_multiplySizes 27 = .ok (.iload_n 1, 1) := by decide +kernel
theorem dX0_multiplySizes_28 : decode cX0_multiplySizes 28 = .ok (.aaload, 1) := by decide +kernel
theorem dX0_multiplySizes_29 : decode cX0_multiplySizes 29 = .ok (.iload_n 3, 1) := by decide +kernel
theorem dX0_multiplySizes_30 : decode cX0_multiplySizes 30 = .ok (.iaload, 1) := by decide +kernel
theorem dX0_multiplySizes_31 : decode cX0_multiplySizes 31 = .ok (.i2l, 1) := by decide +kernel
theorem dX0_multiplySizes_32 : decode cX0_multiplySizes 32 = .ok (.ldc2_w 108, 3) := by decide +kernel
theorem dX0_multiplySizes_35 : decode cX0_multiplySizes 35 = .ok (.land, 1) := by decide +kernel
theorem dX0_multiplySizes_36 : decode cX0_multiplySizes 36 = .ok (.invokevirtual 124, 3) := by decide +kernel
theorem dX0_multiplySizes_39 : decode cX0_multiplySizes 39 = .ok (.iinc 3 1, 3) := by decide +kernel
theorem dX0_multiplySizes_42 : decode cX0_multiplySizes 42 = .ok (.goto (-32), 3) := by decide +kernel
theorem dX0_multiplySizes_45 : decode cX0_multiplySizes 45 = .ok (.return_, 1) := by decide +kernel
theorem dX0_addMultiple_0 : decode cX0_addMultiple 0 = .ok (.aload_n 0, 1) := by decide +kernel
theorem dX0_addMultiple_1 : decode cX0_addMultiple 1 = .ok (.getfield 11, 3) := by decide +kernel
theorem dX0_addMultiple_4 : decode cX0_addMultiple 4 = .ok (.iload_n 2, 1) := by decide +kernel
theorem dX0_addMultiple_5 : decode cX0_addMultiple 5 = .ok (.aaload, 1) := by decide +kernel
theorem dX0_addMultiple_6 : decode cX0_addMultiple 6 = .ok (.astore 5, 2) := by decide +kernel
theorem dX0_addMultiple_8 : decode cX0_addMultiple 8 = .ok (.aload_n 0, 1) := by decide +kernel
theorem dX0_addMultiple_9 : decode cX0_addMultiple 9 = .ok (.getfield 14, 3) := by decide +kernel
theorem dX0_addMultiple_12 : decode cX0_addMultiple 12 = .ok (.iload_n 2, 1) := by decide +kernel
theorem dX0_addMultiple_13 : decode cX0_addMultiple 13 = .ok (.iaload, 1) := by decide +kernel
theorem dX0_addMultiple_14 : decode cX0_addMultiple 14 = .ok (.istore 6, 2) := by decide +kernel
theorem dX0_addMultiple_16 : decode cX0_addMultiple 16 = .ok (.lconst 0, 1) := by decide +kernel
theorem dX0_addMultiple_17 : decode cX0_addMultiple 17 = .ok (.lstore 7, 2) := by decide +kernel
theorem dX0_addMultiple_19 : decode cX0_addMultiple 19 = .ok (.iconst 0, 1) := by decide +kernel
theorem dX0_addMultiple_20 : decode cX0_addMultiple 20 = .ok (.istore 9, 2) := by decide +kernel
theorem dX0_addMultiple_22 : decode cX0_addMultiple 22 = .ok (.iload 9, 2) := by decide +kernel
theorem dX0_addMultiple_24 : decode cX0_addMultiple 24 = .ok (.iload 6, 2) := by decide +kernel
theorem dX0_addMultiple_26 : decode cX0_addMultiple 26 = .ok (.if_icmp .ge 60, 3) := by decide +kernel
theorem dX0_addMultiple_29 : decode cX0_addMultiple 29 = .ok (.lload_n 3, 1) := by decide +kernel
theorem dX0_addMultiple_30 : decode cX0_addMultiple 30 = .ok (.aload 5, 2) := by decide +kernel
theorem dX0_addMultiple_32 : decode cX0_addMultiple 32 = .ok (.iload 9, 2) := by decide +kernel
theorem dX0_addMultiple_34 : decode cX0_addMultiple 34 = .ok (.iaload, 1) := by decide +kernel
theorem dX0_addMultiple_35 : decode cX0_addMultiple 35 = .ok (.i2l, 1) := by decide +kernel
theorem dX0_addMultiple_36 : decode cX0_addMultiple 36 = .ok (.ldc2_w 108, 3) := by decide +kernel
theorem dX0_addMultiple_39 : decode cX0_addMultiple 39 = .ok (.land, 1) := by decide +kernel
theorem dX0_addMultiple_40 : decode cX0_addMultiple 40 = .ok (.lmul, 1) := by decide +kernel
theorem dX0_addMultiple_41 : decode cX0_addMultiple 41 = .ok (.aload_n 0, 1) := by decide +kernel
theorem dX0_addMultiple_42 : decode cX0_addMultiple 42 = .ok (.getfield 21, 3) := by decide +kernel
theorem dX0_addMultiple_45 : decode cX0_addMultiple 45 = .ok (.iload_n 1, 1) := by decide +kernel
theorem dX0_addMultiple_46 : decode cX0_addMultiple 46 = .ok (.iload 9, 2) := by decide +kernel
theorem dX0_addMultiple_48 : decode cX0_addMultiple 48 = .ok (.iadd, 1) := by decide +kernel
theorem dX0_addMultiple_49 : decode cX0_addMultiple 49 = .ok (.iaload, 1) := by decide +kernel
theorem dX0_addMultiple_50 : decode cX0_addMultiple 50 = .ok (.i2l, 1) := by decide +kernel
theorem dX0_addMultiple_51 : decode cX0_addMultiple 51 = .ok (.ldc2_w 108, 3) := by decide +kernel
theorem dX0_addMultiple_54 : decode cX0_addMultiple 54 = .ok (.land, 1) := by decide +kernel
theorem dX0_addMultiple_55 : decode cX0_addMultiple 55 = .ok (.ladd, 1) := by decide +kernel
theorem dX0_addMultiple_56 : decode cX0_addMultiple 56 = .ok (.lload 7, 2) := by decide +kernel
theorem dX0_addMultiple_58 : decode cX0_addMultiple 58 = .ok (.ladd, 1) := by decide +kernel
theorem dX0_addMultiple_59 : decode cX0_addMultiple 59 = .ok (.lstore 10, 2) := by decide +kernel
theorem dX0_addMultiple_61 : decode cX0_addMultiple 61 = .ok (.aload_n 0, 1) := by decide +kernel
theorem dX0_addMultiple_62 : decode cX0_addMultiple 62 = .ok (.getfield 21, 3) := by decide +kernel
theorem dX0_addMultiple_65 : decode cX0_addMultiple 65 = .ok (.iload_n 1, 1) := by decide +kernel
theorem dX0_addMultiple_66 : decode cX0_addMultiple 66 = .ok (.iload 9, 2) := by decide +kernel
theorem dX0_addMultiple_68 : decode cX0_addMultiple 68 = .ok (.iadd, 1) := by decide +kernel
theorem dX0_addMultiple_69 : decode cX0_addMultiple 69 = .ok (.lload 10, 2) := by decide +kernel
theorem dX0_addMultiple_71 : decode cX0_addMultiple 71 = .ok (.l2i, 1) := by decide +kernel
theorem dX0_addMultiple_72 : decode cX0_addMultiple 72 = .ok (.iastore, 1) := by decide +kernel
theorem dX0_addMultiple_73 : decode cX0_addMultiple 73 = .ok (.lload 10, 2) := by decide +kernel
theorem dX0_addMultiple_75 : decode cX0_addMultiple 75 = .ok (.bipush 32, 2) := by decide +kernel
theorem dX0_addMultiple_77 : decode cX0_addMultiple 77 = .ok (.lushr, 1) := by decide +kernel
theorem dX0_addMultiple_78 : decode cX0_addMultiple 78 = .ok (.lstore 7, 2) := by decide +kernel
theorem dX0_addMultiple_80 : decode cX0_addMultiple 80 = .ok (.iinc 9 1, 3) := by decide +kernel
theorem dX0_addMultiple_83 : decode cX0_addMultiple 83 = .ok (.goto (-61), 3) := by decide +kernel
theorem dX0_addMultiple_86 : decode cX0_addMultiple 86 = .ok (.aload_n 0, 1) := by decide +kernel
theorem dX0_addMultiple_87 : decode cX0_addMultiple 87 = .ok (.getfield 21, 3) := by decide +kernel
theorem dX0_addMultiple_90 : decode cX0_addMultiple 90 = .ok (.iload_n 1, 1) := by decide +kernel
theorem dX0_addMultiple_91 : decode cX0_addMultiple 91 = .ok (.iload 6, 2) := by decide +kernel
theorem dX0_addMultiple_93 : decode cX0_addMultiple 93 = .ok (.iadd, 1) := by decide +kernel
theorem dX0_addMultiple_94 : decode cX0_addMultiple 94 = .ok (.lload 7, 2) := by decide +kernel
theorem dX0_addMultiple_96 : decode cX0_addMultiple 96 = .ok (.l2i, 1) := by decide +kernel
theorem dX0_addMultiple_97 : decode cX0_addMultiple 97 = .ok (.iastore, 1) := by decide +kernel
theorem dX0_addMultiple_98 : decode cX0_addMultiple 98 = .ok (.return_, 1) := by decide +kernel
set_option maxRecDepth 20000 in
theorem ggX0_divideSizes_X0_moveUp : GoodIn wsX0_divideSizes wsX0_moveUp := goodIn_r _ [9, 4, 10, 11, 12, 13, 14, 15, 43, 44, 45, 46, 47, 48] (by decide +kernel) (by decide +kernel)
set_option maxRecDepth 20000 in
theorem gX0_divideSizes_X0_moveUp : GoodIn wsX0_divideSizes (wsV RX0 128 RX0 yX0_moveUp wsX0_moveUp) := goodIn_app (goodIn_of _ (by decide +kernel)) ggX0_divideSizes_X0_moveUp
set_option maxRecDepth 20000 in
theorem ggX0_divideSizes_J7_fill_53178 : GoodIn wsX0_divideSizes wsJ7_fill_53178 := goodIn_r _ [15] (by decide +kernel) (by decide +kernel)
set_option maxRecDepth 20000 in
theorem gX0_divideSizes_J7_fill_53178 : GoodIn wsX0_divideSizes (va_wsS RX0 34 yJ7_fill_53178 wsJ7_fill_53178) := goodIn_app (goodIn_of _ (by decide +kernel)) ggX0_divideSizes_J7_fill_53178
set_option maxRecDepth 20000 in
theorem ggX0_divideSizes_X0_takeQuotientDigit : GoodIn wsX0_divideSizes wsX0_takeQuotientDigit := goodIn_r _ [19, 20, 21, 22, 8, 23, 1, 2, 11, 24, 25, 26, 27, 28, 29, 30, 31, 32, 33, 34, 35, 36, 37, 38, 39, 40, 41, 42, 43, 44, 45, 46, 47, 48] (by decide +kernel) (by decide +kernel)
set_option maxRecDepth 20000 in
theorem gX0_divideSizes_X0_takeQuotientDigit : GoodIn wsX0_divideSizes (wsV RX0 132 RX0 yX0_takeQuotientDigit wsX0_takeQuotientDigit) := goodIn_app (goodIn_of _ (by decide +kernel)) ggX0_divideSizes_X0_takeQuotientDigit
theorem dX0_divideSizes_0 : decode cX0_divideSizes 0 = .ok (.aload_n 0, 1) := by decide +kernel
theorem dX0_divideSizes_1 : decode cX0_divideSizes 1 = .ok (.iload_n 1, 1) := by decide +kernel
theorem dX0_divideSizes_2 : decode cX0_divideSizes 2 = .ok (.iload_n 3, 1) := by decide +kernel
theorem dX0_divideSizes_3 : decode cX0_divideSizes 3 = .ok (.aload_n 0, 1) := by decide +kernel
theorem dX0_divideSizes_4 : decode cX0_divideSizes 4 = .ok (.getfield 24, 3) := by decide +kernel
theorem dX0_divideSizes_7 : decode cX0_divideSizes 7 = .ok (.invokevirtual 128, 3) := by decide +kernel
theorem dX0_divideSizes_10 : decode cX0_divideSizes 10 = .ok (.aload_n 0, 1) := by decide +kernel
theorem dX0_divideSizes_11 : decode cX0_divideSizes 11 = .ok (.iload_n 2, 1) := by decide +kernel
theorem dX0_divideSizes_12 : decode cX0_divideSizes 12 = .ok (.iload_n 3, 1) := by decide +kernel
theorem dX0_divideSizes_13 : decode cX0_divideSizes 13 = .ok (.aload_n 0, 1) := by decide +kernel
theorem dX0_divideSizes_14 : decode cX0_divideSizes 14 = .ok (.getfield 27, 3) := by decide +kernel
theorem dX0_divideSizes_17 : decode cX0_divideSizes 17 = .ok (.invokevirtual 128, 3) := by decide +kernel
theorem dX0_divideSizes_20 : decode cX0_divideSizes 20 = .ok (.aload_n 0, 1) := by decide +kernel
theorem dX0_divideSizes_21 : decode cX0_divideSizes 21 = .ok (.getfield 21, 3) := by decide +kernel
theorem dX0_divideSizes_24 : decode cX0_divideSizes 24 = .ok (.iconst 0, 1) := by decide +kernel
theorem dX0_divideSizes_25 : decode cX0_divideSizes 25 = .ok (.invokestatic 34, 3) := by decide +kernel
theorem dX0_divideSizes_28 : decode cX0_divideSizes 28 = .ok (.aload_n 0, 1) := by decide +kernel
theorem dX0_divideSizes_29 : decode cX0_divideSizes 29 = .ok (.getfield 14, 3) := by decide +kernel
theorem dX0_divideSizes_32 : decode cX0_divideSizes 32 = .ok (.iload_n 2, 1) := by decide +kernel
theorem dX0_divideSizes_33 : decode cX0_divideSizes 33 = .ok (.iaload, 1) := by decide +kernel
theorem dX0_divideSizes_34 : decode cX0_divideSizes 34 = .ok (.istore 4, 2) := by decide +kernel
theorem dX0_divideSizes_36 : decode cX0_divideSizes 36 = .ok (.aload_n 0, 1) := by decide +kernel
theorem dX0_divideSizes_37 : decode cX0_divideSizes 37 = .ok (.getfield 14, 3) := by decide +kernel
theorem dX0_divideSizes_40 : decode cX0_divideSizes 40 = .ok (.iload_n 1, 1) := by decide +kernel
theorem dX0_divideSizes_41 : decode cX0_divideSizes 41 = .ok (.iaload, 1) := by decide +kernel
theorem dX0_divideSizes_42 : decode cX0_divideSizes 42 = .ok (.iload 4, 2) := by decide +kernel
theorem dX0_divideSizes_44 : decode cX0_divideSizes 44 = .ok (.isub, 1) := by decide +kernel
theorem dX0_divideSizes_45 : decode cX0_divideSizes 45 = .ok (.istore 5, 2) := by decide +kernel
theorem dX0_divideSizes_47 : decode cX0_divideSizes 47 = .ok (.iload 5, 2) := by decide +kernel
theorem dX0_divideSizes_49 : decode cX0_divideSizes 49 = .ok (.ifCond .lt 24, 3) := by decide +kernel
theorem dX0_divideSizes_52 : decode cX0_divideSizes 52 = .ok (.aload_n 0, 1) := by decide +kernel
theorem dX0_divideSizes_53 : decode cX0_divideSizes 53 = .ok (.getfield 21, 3) := by decide +kernel
theorem dX0_divideSizes_56 : decode cX0_divideSizes 56 = .ok (.iload 5, 2) := by decide +kernel
theorem dX0_divideSizes_58 : decode cX0_divideSizes 58 = .ok (.aload_n 0, 1) := by decide +kernel
theorem dX0_divideSizes_59 : decode cX0_divideSizes 59 = .ok (.iload 5, 2) := by decide +kernel
theorem dX0_divideSizes_61 : decode cX0_divideSizes 61 = .ok (.iload 4, 2) := by decide +kernel
theorem dX0_divideSizes_63 : decode cX0_divideSizes 63 = .ok (.invokevirtual 132, 3) := by decide +kernel
theorem dX0_divideSizes_66 : decode cX0_divideSizes 66 = .ok (.iastore, 1) := by decide +kernel
theorem dX0_divideSizes_67 : decode cX0_divideSizes 67 = .ok (.iinc 5 (-1), 3) := by decide +kernel
theorem dX0_divideSizes_70 : decode cX0_divideSizes 70 = .ok (.goto (-23), 3) := by decide +kernel
theorem dX0_divideSizes_73 : decode cX0_divideSizes 73 = .ok (.return_, 1) := by decide +kernel
set_option maxRecDepth 20000 in
theorem ggX0_takeQuotientDigit_X0_guessDigit : GoodIn wsX0_takeQuotientDigit wsX0_guessDigit := goodIn_r _ [5, 6, 7, 8, 9, 10, 11, 12, 13, 14, 4, 15, 16, 17, 18, 19, 28, 29, 30, 31, 32, 33] (by decide +kernel) (by decide +kernel)
set_option maxRecDepth 20000 in
theorem gX0_takeQuotientDigit_X0_guessDigit : GoodIn wsX0_takeQuotientDigit (wsV RX0 135 RX0 yX0_guessDigit wsX0_guessDigit) := goodIn_app (goodIn_of _ (by decide +kernel)) ggX0_takeQuotientDigit_X0_guessDigit
set_option maxRecDepth 20000 in
theorem ggX0_takeQuotientDigit_X0_takeMultiple : GoodIn wsX0_takeQuotientDigit wsX0_takeMultiple := goodIn_r _ [23, 7, 8, 6, 28, 29, 30, 31, 32, 33] (by decide +kernel) (by decide +kernel)
set_option maxRecDepth 20000 in
theorem gX0_takeQuotientDigit_X0_takeMultiple : GoodIn wsX0_takeQuotientDigit (wsV RX0 139 RX0 yX0_takeMultiple wsX0_takeMultiple) := goodIn_app (goodIn_of _ (by decide +kernel)) ggX0_takeQuotientDigit_X0_takeMultiple
set_option maxRecDepth 20000 in
theorem ggX0_takeQuotientDigit_X0_giveBack : GoodIn wsX0_takeQuotientDigit wsX0_giveBack := goodIn_r _ [27, 6, 8, 7, 28, 29, 30, 31, 32, 33] (by decide +kernel) (by decide +kernel)
set_option maxRecDepth 20000 in
theorem gX0_takeQuotientDigit_X0_giveBack : GoodIn wsX0_takeQuotientDigit (wsV RX0 143 RX0 yX0_giveBack wsX0_giveBack) := goodIn_app (goodIn_of _ (by decide +kernel)) ggX0_takeQuotientDigit_X0_giveBack
theorem dX0_takeQuotientDigit_0 : decode cX0_takeQuotientDigit 0 = .ok (.aload_n 0, 1) := by decide +kernel
theorem dX0_takeQuotientDigit_1 : decode cX0_takeQuotientDigit 1 = .ok (.iload_n 1, 1) := by decide +kernel
theorem dX0_takeQuotientDigit_2 : decode cX0_takeQuotientDigit 2 = .ok (.iload_n 2, 1) := by decide +kernel
theorem dX0_takeQuotientDigit_3 : decode cX0_takeQuotientDigit 3 = .ok (.iadd, 1) := by decide +kernel
theorem dX0_takeQuotientDigit_4 : decode cX0_takeQuotientDigit 4 = .ok (.iload_n 2, 1) := by decide +kernel
theorem dX0_takeQuotientDigit_5 : decode cX0_takeQuotientDigit 5 = .ok (.iconst 1, 1) := by decide +kernel
theorem dX0_takeQuotientDigit_6 : decode cX0_takeQuotientDigit 6 = .ok (.isub, 1) := by decide +kernel
theorem dX0_takeQuotientDigit_7 : decode cX0_takeQuotientDigit 7 = .ok (.invokevirtual 135, 3) := by decide +kernel
theorem dX0_takeQuotientDigit_10 : decode cX0_takeQuotientDigit 10 = .ok (.lstore_n 3, 1) := by decide +kernel
theorem dX0_takeQuotientDigit_11 : decode cX0_takeQuotientDigit 11 = .ok (.aload_n 0, 1) := by decide +kernel
theorem dX0_takeQuotientDigit_12 : decode cX0_takeQuotientDigit 12 = .ok (.iload_n 1, 1) := by decide +kernel
theorem dX0_takeQuotientDigit_13 : decode cX0_takeQuotientDigit 13 = .ok (.iconst 0, 1) := by decide +kernel
theorem dX0_takeQuotientDigit_14 : decode cX0_takeQuotientDigit 14 = .ok (.iload_n 2, 1) := by decide +kernel
theorem dX0_takeQuotientDigit_15 : decode cX0_takeQuotientDigit 15 = .ok (.lload_n 3, 1) := by decide +kernel
theorem dX0_takeQuotientDigit_16 : decode cX0_takeQuotientDigit 16 = .ok (.invokevirtual 139, 3) := by decide +kernel
theorem dX0_takeQuotientDigit_19 : decode cX0_takeQuotientDigit 19 = .ok (.istore 5, 2) := by decide +kernel
theorem dX0_takeQuotientDigit_21 : decode cX0_takeQuotientDigit 21 = .ok (.iconst 0, 1) := by decide +kernel
theorem dX0_takeQuotientDigit_22 : decode cX0_takeQuotientDigit 22 = .ok (.istore 6, 2) := by decide +kernel
theorem dX0_takeQuotientDigit_24 : decode cX0_takeQuotientDigit 24 = .ok (.iload 5, 2) := by decide +kernel
theorem dX0_takeQuotientDigit_26 : decode cX0_takeQuotientDigit 26 = .ok (.ifCond .eq 29, 3) := by decide +kernel
theorem dX0_takeQuotientDigit_29 : decode cX0_takeQuotientDigit 29 = .ok (.iload 6, 2) := by decide +kernel
theorem dX0_takeQuotientDigit_31 : decode cX0_takeQuotientDigit 31 = .ok (.iconst 3, 1) := by decide +kernel
theorem dX0_takeQuotientDigit_32 : decode cX0_takeQuotientDigit 32 = .ok (.if_icmp .ge 23, 3) := by decide +kernel
theorem dX0_takeQuotientDigit_35 : decode cX0_takeQuotientDigit 35 = .ok (.lload_n 3, 1) := by decide +kernel
theorem dX0_takeQuotientDigit_36 : decode cX0_takeQuotientDigit 36 = .ok (.lconst 1, 1) := by decide +kernel
theorem dX0_takeQuotientDigit_37 : decode cX0_takeQuotientDigit 37 = .ok (.lsub, 1) := by decide +kernel
theorem dX0_takeQuotientDigit_38 : decode cX0_takeQuotientDigit 38 = .ok (.lstore_n 3, 1) := by decide +kernel
theorem dX0_takeQuotientDigit_39 : decode cX0_takeQuotientDigit 39 = .ok (.aload_n 0, 1) := by decide +kernel
theorem dX0_takeQuotientDigit_40 : decode cX0_takeQuotientDigit 40 = .ok (.iload_n 1, 1) := by decide +kernel
theorem dX0_takeQuotientDigit_41 : decode cX0_takeQuotientDigit 41 = .ok (.iconst 0, 1) := by decide +kernel
theorem dX0_takeQuotientDigit_42 : decode cX0_takeQuotientDigit 42 = .ok (.iload_n 2, 1) := by decide +kernel
theorem dX0_takeQuotientDigit_43 : decode cX0_takeQuotientDigit 43 = .ok (.lconst 0, 1) := by decide +kernel
theorem dX0_takeQuotientDigit_44 : decode cX0_takeQuotientDigit 44 = .ok (.invokevirtual 143, 3) := by decide +kernel
theorem dX0_takeQuotientDigit_47 : decode cX0_takeQuotientDigit 47 = .ok (.istore 5, 2) := by decide +kernel
theorem dX0_takeQuotientDigit_49 : decode cX0_takeQuotientDigit 49 = .ok (.iinc 6 1, 3) := by decide +kernel
theorem dX0_takeQuotientDigit_52 : decode cX0_takeQuotientDigit 52 = .ok (.goto (-28), 3) := by decide +kernel
theorem dX0_takeQuotientDigit_55 : decode cX0_takeQuotientDigit 55 = .ok (.lload_n 3, 1) := by decide +kernel
theorem dX0_takeQuotientDigit_56 : decode cX0_takeQuotientDigit 56 = .ok (.l2i, 1) := by decide +kernel
theorem dX0_takeQuotientDigit_57 : decode cX0_takeQuotientDigit 57 = .ok (.ireturn, 1) := by decide +kernel
set_option maxRecDepth 20000 in
theorem ggX0_takeRootOfSize_X0_bitsOf : GoodIn wsX0_takeRootOfSize wsX0_bitsOf := goodIn_r _ [7, 8, 9, 10, 11, 6, 12, 61, 62, 63, 64, 65, 66] (by decide +kernel) (by decide +kernel)
set_option maxRecDepth 20000 in
theorem gX0_takeRootOfSize_X0_bitsOf : GoodIn wsX0_takeRootOfSize (wsV RX0 74 RX0 yX0_bitsOf wsX0_bitsOf) := goodIn_app (goodIn_of _ (by decide +kernel)) ggX0_takeRootOfSize_X0_bitsOf
set_option maxRecDepth 20000 in
theorem ggX0_takeRootOfSize_X0_moveUp : GoodIn wsX0_takeRootOfSize wsX0_moveUp := goodIn_r _ [16, 8, 9, 17, 18, 19, 20, 21, 61, 62, 63, 64, 65, 66] (by decide +kernel) (by decide +kernel)
set_option maxRecDepth 20000 in
theorem gX0_takeRootOfSize_X0_moveUp : GoodIn wsX0_takeRootOfSize (wsV RX0 128 RX0 yX0_moveUp wsX0_moveUp) := goodIn_app (goodIn_of _ (by decide +kernel)) ggX0_takeRootOfSize_X0_moveUp
set_option maxRecDepth 20000 in
theorem ggX0_takeRootOfSize_X0_takeFirstRootDigit : GoodIn wsX0_takeRootOfSize wsX0_takeFirstRootDigit := goodIn_r _ [25, 1, 2, 26, 27, 28, 6, 29, 17, 30, 31, 32, 61, 62, 63, 64, 65, 66] (by decide +kernel) (by decide +kernel)
set_option maxRecDepth 20000 in
theorem gX0_takeRootOfSize_X0_takeFirstRootDigit : GoodIn wsX0_takeRootOfSize (wsV RX0 146 RX0 yX0_takeFirstRootDigit wsX0_takeFirstRootDigit) := goodIn_app (goodIn_of _ (by decide +kernel)) ggX0_takeRootOfSize_X0_takeFirstRootDigit
set_option maxRecDepth 20000 in
theorem ggX0_takeRootOfSize_X0_takeRootDigit : GoodIn wsX0_takeRootOfSize wsX0_takeRootDigit := goodIn_r _ [36, 2, 37, 38, 39, 6, 40, 1, 17, 41, 42, 43, 44, 27, 28, 29, 45, 46, 47, 26, 48, 49, 50, 51, 52, 53, 54, 55, 61, 62, 63, 64, 65, 66] (by decide +kernel) (by decide +kernel)
set_option maxRecDepth 20000 in
theorem gX0_takeRootOfSize_X0_takeRootDigit : GoodIn wsX0_takeRootOfSize (wsV RX0 149 RX0 yX0_takeRootDigit wsX0_takeRootDigit) := goodIn_app (goodIn_of _ (by decide +kernel)) ggX0_takeRootOfSize_X0_takeRootDigit
set_option maxRecDepth 20000 in
theorem ggX0_takeRootOfSize_X0_moveDown : GoodIn wsX0_takeRootOfSize wsX0_moveDown := goodIn_r _ [59, 60, 18, 19, 20, 21, 27, 28, 6, 29, 17, 61, 62, 63, 64, 65, 66] (by decide +kernel) (by decide +kernel)
set_option maxRecDepth 20000 in
theorem gX0_takeRootOfSize_X0_moveDown : GoodIn wsX0_takeRootOfSize (wsV RX0 82 RX0 yX0_moveDown wsX0_moveDown) := goodIn_app (goodIn_of _ (by decide +kernel)) ggX0_takeRootOfSize_X0_moveDown
theorem dX0_takeRootOfSize_0 : decode cX0_takeRootOfSize 0 = .ok (.aload_n 0, 1) := by decide +kernel
theorem dX0_takeRootOfSize_1 : decode cX0_takeRootOfSize 1 = .ok (.iload_n 1, 1) := by decide +kernel
theorem dX0_takeRootOfSize_2 : decode cX0_takeRootOfSize 2 = .ok (.invokevirtual 74, 3) := by decide +kernel
theorem dX0_takeRootOfSize_5 : decode cX0_takeRootOfSize 5 = .ok (.istore_n 2, 1) := by decide +kernel
theorem dX0_takeRootOfSize_6 : decode cX0_takeRootOfSize 6 = .ok (.iload_n 2, 1) := by decide +kernel
theorem dX0_takeRootOfSize_7 : decode cX0_takeRootOfSize 7 = .ok (.bipush 65, 2) := by decide +kernel
theorem dX0_takeRootOfSize_9 : decode cX0_takeRootOfSize 9 = .ok (.iadd, 1) := by decide +kernel
theorem dX0_takeRootOfSize_10 : decode cX0_takeRootOfSize 10 = .ok (.bipush 64, 2) := by decide +kernel
theorem dX0_takeRootOfSize_12 : decode cX0_takeRootOfSize 12 = .ok (.idiv, 1) := by decide +kernel
theorem dX0_takeRootOfSize_13 : decode cX0_takeRootOfSize 13 = .ok (.istore_n 3, 1) := by decide +kernel
theorem dX0_takeRootOfSize_14 : decode cX0_takeRootOfSize 14 = .ok (.iload_n 3, 1) := by decide +kernel
theorem dX0_takeRootOfSize_15 : decode cX0_takeRootOfSize 15 = .ok (.bipush 64, 2) := by decide +kernel
theorem dX0_takeRootOfSize_17 : decode cX0_takeRootOfSize 17 = .ok (.imul, 1) := by decide +kernel
theorem dX0_takeRootOfSize_18 : decode cX0_takeRootOfSize 18 = .ok (.iconst 2, 1) := by decide +kernel
theorem dX0_takeRootOfSize_19 : decode cX0_takeRootOfSize 19 = .ok (.isub, 1) := by decide +kernel
theorem dX0_takeRootOfSize_20 : decode cX0_takeRootOfSize 20 = .ok (.iload_n 2, 1) := by decide +kernel
theorem dX0_takeRootOfSize_21 : decode cX0_takeRootOfSize 21 = .ok (.isub, 1) := by decide +kernel
theorem dX0_takeRootOfSize_22 : decode cX0_takeRootOfSize 22 = .ok (.iconst 2, 1) := by decide +kernel
theorem dX0_takeRootOfSize_23 : decode cX0_takeRootOfSize 23 = .ok (.idiv, 1) := by decide +kernel
theorem dX0_takeRootOfSize_24 : decode cX0_takeRootOfSize 24 = .ok (.istore 4, 2) := by decide +kernel
theorem dX0_takeRootOfSize_26 : decode cX0_takeRootOfSize 26 = .ok (.aload_n 0, 1) := by decide +kernel
theorem dX0_takeRootOfSize_27 : decode cX0_takeRootOfSize 27 = .ok (.iload_n 1, 1) := by decide +kernel
theorem dX0_takeRootOfSize_28 : decode cX0_takeRootOfSize 28 = .ok (.iconst 2, 1) := by decide +kernel
theorem dX0_takeRootOfSize_29 : decode cX0_takeRootOfSize 29 = .ok (.iload 4, 2) := by decide +kernel
theorem dX0_takeRootOfSize_31 : decode cX0_takeRootOfSize 31 = .ok (.imul, 1) := by decide +kernel
theorem dX0_takeRootOfSize_32 : decode cX0_takeRootOfSize 32 = .ok (.aload_n 0, 1) := by decide +kernel
theorem dX0_takeRootOfSize_33 : decode cX0_takeRootOfSize 33 = .ok (.getfield 24, 3) := by decide +kernel
theorem dX0_takeRootOfSize_36 : decode cX0_takeRootOfSize 36 = .ok (.invokevirtual 128, 3) := by decide +kernel
theorem dX0_takeRootOfSize_39 : decode cX0_takeRootOfSize 39 = .ok (.aload_n 0, 1) := by decide +kernel
theorem dX0_takeRootOfSize_40 : decode cX0_takeRootOfSize 40 = .ok (.iload_n 3, 1) := by decide +kernel
theorem dX0_takeRootOfSize_41 : decode cX0_takeRootOfSize 41 = .ok (.invokevirtual 146, 3) := by decide +kernel
theorem dX0_takeRootOfSize_44 : decode cX0_takeRootOfSize 44 = .ok (.iload_n 3, 1) := by decide +kernel
theorem dX0_takeRootOfSize_45 : decode cX0_takeRootOfSize 45 = .ok (.iconst 2, 1) := by decide +kernel
theorem dX0_takeRootOfSize_46 : decode cX0_takeRootOfSize 46 = .ok (.isub, 1) := by decide +kernel
theorem dX0_takeRootOfSize_47 : decode cX0_takeRootOfSize 47 = .ok (.istore 5, 2) := by decide +kernel
theorem dX0_takeRootOfSize_49 : decode cX0_takeRootOfSize 49 = .ok (.iload 5, 2) := by decide +kernel
theorem dX0_takeRootOfSize_51 : decode cX0_takeRootOfSize 51 = .ok (.ifCond .lt 16, 3) := by decide +kernel
theorem dX0_takeRootOfSize_54 : decode cX0_takeRootOfSize 54 = .ok (.aload_n 0, 1) := by decide +kernel
theorem dX0_takeRootOfSize_55 : decode cX0_takeRootOfSize 55 = .ok (.iload 5, 2) := by decide +kernel
theorem dX0_takeRootOfSize_57 : decode cX0_takeRootOfSize 57 = .ok (.iload_n 3, 1) := by decide +kernel
theorem dX0_takeRootOfSize_58 : decode cX0_takeRootOfSize 58 = .ok (.invokevirtual 149, 3) := by decide +kernel
theorem dX0_takeRootOfSize_61 : decode cX0_takeRootOfSize 61 = .ok (.iinc 5 (-1), 3) := by decide +kernel
theorem dX0_takeRootOfSize_64 : decode cX0_takeRootOfSize 64 = .ok (.goto (-15), 3) := by decide +kernel
theorem dX0_takeRootOfSize_67 : decode cX0_takeRootOfSize 67 = .ok (.aload_n 0, 1) := by decide +kernel
theorem dX0_takeRootOfSize_68 : decode cX0_takeRootOfSize 68 = .ok (.aload_n 0, 1) := by decide +kernel
theorem dX0_takeRootOfSize_69 : decode cX0_takeRootOfSize 69 = .ok (.getfield 27, 3) := by decide +kernel
theorem dX0_takeRootOfSize_72 : decode cX0_takeRootOfSize 72 = .ok (.iload_n 3, 1) := by decide +kernel
theorem dX0_takeRootOfSize_73 : decode cX0_takeRootOfSize 73 = .ok (.iload 4, 2) := by decide +kernel
theorem dX0_takeRootOfSize_75 : decode cX0_takeRootOfSize 75 = .ok (.iconst 1, 1) := by decide +kernel
theorem dX0_takeRootOfSize_76 : decode cX0_takeRootOfSize 76 = .ok (.iadd, 1) := by decide +kernel
theorem dX0_takeRootOfSize_77 : decode cX0_takeRootOfSize 77 = .ok (.invokevirtual 82, 3) := by decide +kernel
theorem dX0_takeRootOfSize_80 : decode cX0_takeRootOfSize 80 = .ok (.return_, 1) := by decide +kernel
set_option maxRecDepth 20000 in
theorem ggX0_takeFirstRootDigit_X0_pairOf : GoodIn wsX0_takeFirstRootDigit wsX0_pairOf := goodIn_r _ [7, 8] (by decide +kernel) (by decide +kernel)
set_option maxRecDepth 20000 in
theorem gX0_takeFirstRootDigit_X0_pairOf : GoodIn wsX0_takeFirstRootDigit (va_wsS RX0 102 yX0_pairOf wsX0_pairOf) := goodIn_app (goodIn_of _ (by decide +kernel)) ggX0_takeFirstRootDigit_X0_pairOf
set_option maxRecDepth 20000 in
theorem ggX0_takeFirstRootDigit_X0_rootOfPair : GoodIn wsX0_takeFirstRootDigit wsX0_rootOfPair := goodIn_r _ [11] (by decide +kernel) (by decide +kernel)
set_option maxRecDepth 20000 in
theorem gX0_takeFirstRootDigit_X0_rootOfPair : GoodIn wsX0_takeFirstRootDigit (va_wsS RX0 152 yX0_rootOfPair wsX0_rootOfPair) := goodIn_app (goodIn_of _ (by decide +kernel)) ggX0_takeFirstRootDigit_X0_rootOfPair
theorem dX0_takeFirstRootDigit_0 : decode cX0_takeFirstRootDigit 0 = .ok (.iconst 2, 1) := by decide +kernel
theorem dX0_takeFirstRootDigit_1 : decode cX0_takeFirstRootDigit 1 = .ok (.iload_n 1, 1) := by decide +kernel
theorem dX0_takeFirstRootDigit_2 : decode cX0_takeFirstRootDigit 2 = .ok (.imul, 1) := by decide +kernel
theorem dX0_takeFirstRootDigit_3 : decode cX0_takeFirstRootDigit 3 = .ok (.iconst 1, 1) := by decide +kernel
theorem dX0_takeFirstRootDigit_4 : decode cX0_takeFirstRootDigit 4 = .ok (.isub, 1) := by decide +kernel
theorem dX0_takeFirstRootDigit_5 : decode cX0_takeFirstRootDigit 5 = .ok (.istore_n 2, 1) := by decide +kernel
theorem dX0_takeFirstRootDigit_6 : decode cX0_takeFirstRootDigit 6 = .ok (.aload_n 0, 1) := by decide +kernel
theorem dX0_takeFirstRootDigit_7 : decode cX0_takeFirstRootDigit 7 = .ok (.getfield 24, 3) := by decide +kernel
theorem dX0_takeFirstRootDigit_10 : decode cX0_takeFirstRootDigit 10 = .ok (.iload_n 2, 1) := by decide +kernel
theorem dX0_takeFirstRootDigit_11 : decode cX0_takeFirstRootDigit 11 = .ok (.iaload, 1) := by decide +kernel
theorem dX0_takeFirstRootDigit_12 : decode cX0_takeFirstRootDigit 12 = .ok (.i2l, 1) := by decide +kernel
theorem dX0_takeFirstRootDigit_13 : decode cX0_takeFirstRootDigit 13 = .ok (.aload_n 0, 1) := by decide +kernel
theorem dX0_takeFirstRootDigit_14 : decode cX0_takeFirstRootDigit 14 = .ok (.getfield 24, 3) := by decide +kernel
theorem dX0_takeFirstRootDigit_17 : decode cX0_takeFirstRootDigit 17 = .ok (.iload_n 2, 1) := by decide +kernel
theorem dX0_takeFirstRootDigit_18 : decode cX0_takeFirstRootDigit 18 = .ok (.iconst 1, 1) := by decide +kernel
theorem dX0_takeFirstRootDigit_19 : decode cX0_takeFirstRootDigit 19 = .ok (.isub, 1) := by decide +kernel
theorem dX0_takeFirstRootDigit_20 : decode cX0_takeFirstRootDigit 20 = .ok (.iaload, 1) := by decide +kernel
theorem dX0_takeFirstRootDigit_21 : decode cX0_takeFirstRootDigit 21 = .ok (.invokestatic 102, 3) := by decide +kernel
theorem dX0_takeFirstRootDigit_24 : decode cX0_takeFirstRootDigit 24 = .ok (.lstore_n 3, 1) := by decide +kernel
theorem dX0_takeFirstRootDigit_25 : decode cX0_takeFirstRootDigit 25 = .ok (.lload_n 3, 1) := by decide +kernel
theorem dX0_takeFirstRootDigit_26 : decode cX0_takeFirstRootDigit 26 = .ok (.invokestatic 152, 3) := by decide +kernel
theorem dX0_takeFirstRootDigit_29 : decode cX0_takeFirstRootDigit 29 = .ok (.lstore 5, 2) := by decide +kernel
theorem dX0_takeFirstRootDigit_31 : decode cX0_takeFirstRootDigit 31 = .ok (.aload_n 0, 1) := by decide +kernel
theorem dX0_takeFirstRootDigit_32 : decode cX0_takeFirstRootDigit 32 = .ok (.getfield 24, 3) := by decide +kernel
theorem dX0_takeFirstRootDigit_35 : decode cX0_takeFirstRootDigit 35 = .ok (.iload_n 2, 1) := by decide +kernel
theorem dX0_takeFirstRootDigit_36 : decode cX0_takeFirstRootDigit 36 = .ok (.iconst 0, 1) := by decide +kernel
theorem dX0_takeFirstRootDigit_37 : decode cX0_takeFirstRootDigit 37 = .ok (.iastore, 1) := by decide +kernel
theorem dX0_takeFirstRootDigit_38 : decode cX0_takeFirstRootDigit 38 = .ok (.aload_n 0, 1) := by decide +kernel
theorem dX0_takeFirstRootDigit_39 : decode cX0_takeFirstRootDigit 39 = .ok (.getfield 24, 3) := by decide +kernel
theorem dX0_takeFirstRootDigit_42 : decode cX0_takeFirstRootDigit 42 = .ok (.iload_n 2, 1) := by decide +kernel
theorem dX0_takeFirstRootDigit_43 : decode cX0_takeFirstRootDigit 43 = .ok (.iconst 1, 1) := by decide +kernel
theorem dX0_takeFirstRootDigit_44 : decode cX0_takeFirstRootDigit 44 = .ok (.isub, 1) := by decide +kernel
theorem dX0_takeFirstRootDigit_45 : decode cX0_takeFirstRootDigit 45 = .ok (.lload_n 3, 1) := by decide +kernel
theorem dX0_takeFirstRootDigit_46 : decode cX0_takeFirstRootDigit 46 = .ok (.lload 5, 2) := by decide +kernel
theorem dX0_takeFirstRootDigit_48 : decode cX0_takeFirstRootDigit 48 = .ok (.lload 5, 2) := by decide +kernel
theorem dX0_takeFirstRootDigit_50 : decode cX0_takeFirstRootDigit 50 = .ok (.lmul, 1) := by decide +kernel
theorem dX0_takeFirstRootDigit_51 : decode cX0_takeFirstRootDigit 51 = .ok (.lsub, 1) := by decide +kernel
theorem dX0_takeFirstRootDigit_52 : decode cX0_takeFirstRootDigit 52 = .ok (.l2i, 1) := by decide +kernel
theorem dX0_takeFirstRootDigit_53 : decode cX0_takeFirstRootDigit 53 = .ok (.iastore, 1) := by decide +kernel
theorem dX0_takeFirstRootDigit_54 : decode cX0_takeFirstRootDigit 54 = .ok (.aload_n 0, 1) := by decide +kernel
theorem dX0_takeFirstRootDigit_55 : decode cX0_takeFirstRootDigit 55 = .ok (.getfield 27, 3) := by decide +kernel
theorem dX0_takeFirstRootDigit_58 : decode cX0_takeFirstRootDigit 58 = .ok (.iload_n 1, 1) := by decide +kernel
theorem dX0_takeFirstRootDigit_59 : decode cX0_takeFirstRootDigit 59 = .ok (.iconst 1, 1) := by decide +kernel
theorem dX0_takeFirstRootDigit_60 : decode cX0_takeFirstRootDigit 60 = .ok (.isub, 1) := by decide +kernel
theorem dX0_takeFirstRootDigit_61 : decode cX0_takeFirstRootDigit 61 = .ok (.ldc2_w 156, 3) := by decide +kernel
theorem dX0_takeFirstRootDigit_64 : decode cX0_takeFirstRootDigit 64 = .ok (.lload 5, 2) := by decide +kernel
theorem dX0_takeFirstRootDigit_66 : decode cX0_takeFirstRootDigit 66 = .ok (.lmul, 1) := by decide +kernel
theorem dX0_takeFirstRootDigit_67 : decode cX0_takeFirstRootDigit 67 = .ok (.l2i, 1) := by decide +kernel
theorem dX0_takeFirstRootDigit_68 : decode cX0_takeFirstRootDigit 68 = .ok (.iastore, 1) := by decide +kernel
theorem dX0_takeFirstRootDigit_69 : decode cX0_takeFirstRootDigit 69 = .ok (.return_, 1) := by decide +kernel
theorem dX0_rootOfPair_0 : decode cX0_rootOfPair 0 = .ok (.lconst 0, 1) := by decide +kernel
theorem dX0_rootOfPair_1 : decode cX0_rootOfPair 1 = .ok (.lstore_n 2, 1) := by decide +kernel
theorem dX0_rootOfPair_2 : decode cX0_rootOfPair 2 = .ok (.bipush 30, 2) := by decide +kernel
theorem dX0_rootOfPair_4 : decode cX0_rootOfPair 4 = .ok (.istore 4, 2) := by decide +kernel
theorem dX0_rootOfPair_6 : decode cX0_rootOfPair 6 = .ok (.iload 4, 2) := by decide +kernel
theorem dX0_rootOfPair_8 : decode cX0_rootOfPair 8 = .ok (.ifCond .lt 30, 3) := by decide +kernel
theorem dX0_rootOfPair_11 : decode cX0_rootOfPair 11 = .ok (.lload_n 2, 1) := by decide +kernel
theorem dX0_rootOfPair_12 : decode cX0_rootOfPair 12 = .ok (.lconst 1, 1) := by decide +kernel
theorem dX0_rootOfPair_13 : decode cX0_rootOfPair 13 = .ok (.iload 4, 2) := by decide +kernel
theorem dX0_rootOfPair_15 : decode cX0_rootOfPair 15 = .ok (.lshl, 1) := by decide +kernel
theorem dX0_rootOfPair_16 : decode cX0_rootOfPair 16 = .ok (.lor, 1) := by decide +kernel
theorem dX0_rootOfPair_17 : decode cX0_rootOfPair 17 = .ok (.lstore 5, 2) := by decide +kernel
theorem dX0_rootOfPair_19 : decode cX0_rootOfPair 19 = .ok (.lload 5, 2) := by decide +kernel
theorem dX0_rootOfPair_21 : decode cX0_rootOfPair 21 = .ok (.lload 5, 2) := by decide +kernel
theorem dX0_rootOfPair_23 : decode cX0_rootOfPair 23 = .ok (.lmul, 1) := by decide +kernel
theorem dX0_rootOfPair_24 : decode cX0_rootOfPair 24 = .ok (.lload_n 0, 1) := by decide +kernel
theorem dX0_rootOfPair_25 : decode cX0_rootOfPair 25 = .ok (.lcmp, 1) := by decide +kernel
theorem dX0_rootOfPair_26 : decode cX0_rootOfPair 26 = .ok (.ifCond .gt 6, 3) := by decide +kernel
theorem dX0_rootOfPair_29 : decode cX0_rootOfPair 29 = .ok (.lload 5, 2) := by decide +kernel
theorem dX0_rootOfPair_31 : decode cX0_rootOfPair 31 = .ok (.lstore_n 2, 1) := by decide +kernel
theorem dX0_rootOfPair_32 : decode cX0_rootOfPair 32 = .ok (.iinc 4 (-1), 3) := by decide +kernel
theorem dX0_rootOfPair_35 : decode cX0_rootOfPair 35 = .ok (.goto (-29), 3) := by decide +kernel
theorem dX0_rootOfPair_38 : decode cX0_rootOfPair 38 = .ok (.lload_n 2, 1) := by decide +kernel
theorem dX0_rootOfPair_39 : decode cX0_rootOfPair 39 = .ok (.lreturn, 1) := by decide +kernel
set_option maxRecDepth 20000 in
theorem ggX0_takeRootDigit_X0_guessDigit : GoodIn wsX0_takeRootDigit wsX0_guessDigit := goodIn_r _ [6, 7, 1, 8, 9, 10, 11, 12, 13, 14, 5, 15, 16, 17, 18, 19, 28, 29, 30, 31, 32, 33] (by decide +kernel) (by decide +kernel)
set_option maxRecDepth 20000 in
theorem gX0_takeRootDigit_X0_guessDigit : GoodIn wsX0_takeRootDigit (wsV RX0 135 RX0 yX0_guessDigit wsX0_guessDigit) := goodIn_app (goodIn_of _ (by decide +kernel)) ggX0_takeRootDigit_X0_guessDigit
set_option maxRecDepth 20000 in
theorem ggX0_takeRootDigit_X0_takeMultiple : GoodIn wsX0_takeRootDigit wsX0_takeMultiple := goodIn_r _ [23, 1, 8, 7, 28, 29, 30, 31, 32, 33] (by decide +kernel) (by decide +kernel)
set_option maxRecDepth 20000 in
theorem gX0_takeRootDigit_X0_takeMultiple : GoodIn wsX0_takeRootDigit (wsV RX0 139 RX0 yX0_takeMultiple wsX0_takeMultiple) := goodIn_app (goodIn_of _ (by decide +kernel)) ggX0_takeRootDigit_X0_takeMultiple
set_option maxRecDepth 20000 in
theorem ggX0_takeRootDigit_X0_giveBack : GoodIn wsX0_takeRootDigit wsX0_giveBack := goodIn_r _ [27, 7, 8, 1, 28, 29, 30, 31, 32, 33] (by decide +kernel) (by decide +kernel)
set_option maxRecDepth 20000 in
theorem gX0_takeRootDigit_X0_giveBack : GoodIn wsX0_takeRootDigit (wsV RX0 143 RX0 yX0_giveBack wsX0_giveBack) := goodIn_app (goodIn_of _ (by decide +kernel)) ggX0_takeRootDigit_X0_giveBack
theorem dX0_takeRootDigit_0 : decode cX0_takeRootDigit 0 = .ok (.iconst 2, 1) := by decide +kernel
theorem dX0_takeRootDigit_1 : decode cX0_takeRootDigit 1 = .ok (.iload_n 1, 1) := by decide +kernel
theorem dX0_takeRootDigit_2 : decode cX0_takeRootDigit 2 = .ok (.imul, 1) := by decide +kernel
theorem dX0_takeRootDigit_3 : decode cX0_takeRootDigit 3 = .ok (.istore_n 3, 1) := by decide +kernel
theorem dX0_takeRootDigit_4 : decode cX0_takeRootDigit 4 = .ok (.iload_n 2, 1) := by decide +kernel
theorem dX0_takeRootDigit_5 : decode cX0_takeRootDigit 5 = .ok (.iload_n 1, 1) := by decide +kernel
theorem dX0_takeRootDigit_6 : decode cX0_takeRootDigit 6 = .ok (.isub, 1) := by decide +kernel
theorem dX0_takeRootDigit_7 : decode cX0_takeRootDigit 7 = .ok (.istore 4, 2) := by decide +kernel
theorem dX0_takeRootDigit_9 : decode cX0_takeRootDigit 9 = .ok (.aload_n 0, 1) := by decide +kernel
theorem dX0_takeRootDigit_10 : decode cX0_takeRootDigit 10 = .ok (.iload_n 3, 1) := by decide +kernel
theorem dX0_takeRootDigit_11 : decode cX0_takeRootDigit 11 = .ok (.iload 4, 2) := by decide +kernel
theorem dX0_takeRootDigit_13 : decode cX0_takeRootDigit 13 = .ok (.iadd, 1) := by decide +kernel
theorem dX0_takeRootDigit_14 : decode cX0_takeRootDigit 14 = .ok (.iload_n 2, 1) := by decide +kernel
theorem dX0_takeRootDigit_15 : decode cX0_takeRootDigit 15 = .ok (.iconst 1, 1) := by decide +kernel
theorem dX0_takeRootDigit_16 : decode cX0_takeRootDigit 16 = .ok (.isub, 1) := by decide +kernel
theorem dX0_takeRootDigit_17 : decode cX0_takeRootDigit 17 = .ok (.invokevirtual 135, 3) := by decide +kernel
theorem dX0_takeRootDigit_20 : decode cX0_takeRootDigit 20 = .ok (.lstore 5, 2) := by decide +kernel
theorem dX0_takeRootDigit_22 : decode cX0_takeRootDigit 22 = .ok (.aload_n 0, 1) := by decide +kernel
theorem dX0_takeRootDigit_23 : decode cX0_takeRootDigit 23 = .ok (.getfield 27, 3) := by decide +kernel
theorem dX0_takeRootDigit_26 : decode cX0_takeRootDigit 26 = .ok (.iload_n 1, 1) := by decide +kernel
theorem dX0_takeRootDigit_27 : decode cX0_takeRootDigit 27 = .ok (.lload 5, 2) := by decide +kernel
theorem dX0_takeRootDigit_29 : decode cX0_takeRootDigit 29 = .ok (.l2i, 1) := by decide +kernel
theorem dX0_takeRootDigit_30 : decode cX0_takeRootDigit 30 = .ok (.iastore, 1) := by decide +kernel
theorem dX0_takeRootDigit_31 : decode cX0_takeRootDigit 31 = .ok (.aload_n 0, 1) := by decide +kernel
theorem dX0_takeRootDigit_32 : decode cX0_takeRootDigit 32 = .ok (.iload_n 3, 1) := by decide +kernel
theorem dX0_takeRootDigit_33 : decode cX0_takeRootDigit 33 = .ok (.iload_n 1, 1) := by decide +kernel
theorem dX0_takeRootDigit_34 : decode cX0_takeRootDigit 34 = .ok (.iload 4, 2) := by decide +kernel
theorem dX0_takeRootDigit_36 : decode cX0_takeRootDigit 36 = .ok (.lload 5, 2) := by decide +kernel
theorem dX0_takeRootDigit_38 : decode cX0_takeRootDigit 38 = .ok (.invokevirtual 139, 3) := by decide +kernel
theorem dX0_takeRootDigit_41 : decode cX0_takeRootDigit 41 = .ok (.istore 7, 2) := by decide +kernel
theorem dX0_takeRootDigit_43 : decode cX0_takeRootDigit 43 = .ok (.iconst 0, 1) := by decide +kernel
theorem dX0_takeRootDigit_44 : decode cX0_takeRootDigit 44 = .ok (.istore 8, 2) := by decide +kernel
theorem dX0_takeRootDigit_46 : decode cX0_takeRootDigit 46 = .ok (.iload 7, 2) := by decide +kernel
theorem dX0_takeRootDigit_48 : decode cX0_takeRootDigit 48 = .ok (.ifCond .eq 42, 3) := by decide +kernel
theorem dX0_takeRootDigit_51 : decode cX0_takeRootDigit 51 = .ok (.iload 8, 2) := by decide +kernel
theorem dX0_takeRootDigit_53 : decode cX0_takeRootDigit 53 = .ok (.iconst 3, 1) := by decide +kernel
theorem dX0_takeRootDigit_54 : decode cX0_takeRootDigit 54 = .ok (.if_icmp .ge 36, 3) := by decide +kernel
theorem dX0_takeRootDigit_57 : decode cX0_takeRootDigit 57 = .ok (.lload 5, 2) := by decide +kernel
theorem dX0_takeRootDigit_59 : decode cX0_takeRootDigit 59 = .ok (.lconst 1, 1) := by decide +kernel
theorem dX0_takeRootDigit_60 : decode cX0_takeRootDigit 60 = .ok (.lsub, 1) := by decide +kernel
theorem dX0_takeRootDigit_61 : decode cX0_takeRootDigit 61 = .ok (.lstore 5, 2) := by decide +kernel
theorem dX0_takeRootDigit_63 : decode cX0_takeRootDigit 63 = .ok (.aload_n 0, 1) := by decide +kernel
theorem dX0_takeRootDigit_64 : decode cX0_takeRootDigit 64 = .ok (.iload_n 3, 1) := by decide +kernel
theorem dX0_takeRootDigit_65 : decode cX0_takeRootDigit 65 = .ok (.iload_n 1, 1) := by decide +kernel
theorem dX0_takeRootDigit_66 : decode cX0_takeRootDigit 66 = .ok (.iload 4, 2) := by decide +kernel
theorem dX0_takeRootDigit_68 : decode cX0_takeRootDigit 68 = .ok (.lload 5, 2) := by decide +kernel
theorem dX0_takeRootDigit_70 : decode cX0_takeRootDigit 70 = .ok (.invokevirtual 143, 3) := by decide +kernel
theorem dX0_takeRootDigit_73 : decode cX0_takeRootDigit 73 = .ok (.istore 7, 2) := by decide +kernel
theorem dX0_takeRootDigit_75 : decode cX0_takeRootDigit 75 = .ok (.aload_n 0, 1) := by decide +kernel
theorem dX0_takeRootDigit_76 : decode cX0_takeRootDigit 76 = .ok (.getfield 27, 3) := by decide +kernel
theorem dX0_takeRootDigit_79 : decode cX0_takeRootDigit 79 = .ok (.iload_n 1, 1) := by decide +kernel
theorem dX0_takeRootDigit_80 : decode cX0_takeRootDigit 80 = .ok (.lload 5, 2) := by decide +kernel
theorem dX0_takeRootDigit_82 : decode cX0_takeRootDigit 82 = .ok (.l2i, 1) := by decide +kernel
theorem dX0_takeRootDigit_83 : decode cX0_takeRootDigit 83 = .ok (.iastore, 1) := by decide +kernel
theorem dX0_takeRootDigit_84 : decode cX0_takeRootDigit 84 = .ok (.iinc 8 1, 3) := by decide +kernel
theorem dX0_takeRootDigit_87 : decode cX0_takeRootDigit 87 = .ok (.goto (-41), 3) := by decide +kernel
theorem dX0_takeRootDigit_90 : decode cX0_takeRootDigit 90 = .ok (.aload_n 0, 1) := by decide +kernel
theorem dX0_takeRootDigit_91 : decode cX0_takeRootDigit 91 = .ok (.getfield 27, 3) := by decide +kernel
theorem dX0_takeRootDigit_94 : decode cX0_takeRootDigit 94 = .ok (.iload_n 1, 1) := by decide +kernel
theorem dX0_takeRootDigit_95 : decode cX0_takeRootDigit 95 = .ok (.lload 5, 2) := by decide +kernel
theorem dX0_takeRootDigit_97 : decode cX0_takeRootDigit 97 = .ok (.iconst 1, 1) := by decide +kernel
theorem dX0_takeRootDigit_98 : decode cX0_takeRootDigit 98 = .ok (.lshl, 1) := by decide +kernel
theorem dX0_takeRootDigit_99 : decode cX0_takeRootDigit 99 = .ok (.l2i, 1) := by decide +kernel
theorem dX0_takeRootDigit_100 : decode cX0_takeRootDigit 100 = .ok (.iastore, 1) := by decide +kernel
theorem dX0_takeRootDigit_101 : decode cX0_takeRootDigit 101 = .ok (.aload_n 0, 1) := by decide +kernel
theorem dX0_takeRootDigit_102 : decode cX0_takeRootDigit 102 = .ok (.getfield 27, 3) := by decide +kernel
theorem dX0_takeRootDigit_105 : decode cX0_takeRootDigit 105 = .ok (.iload_n 1, 1) := by decide +kernel
theorem dX0_takeRootDigit_106 : decode cX0_takeRootDigit 106 = .ok (.iconst 1, 1) := by decide +kernel
theorem dX0_takeRootDigit_107 : decode cX0_takeRootDigit 107 = .ok (.iadd, 1) := by decide +kernel
theorem dX0_takeRootDigit_108 : decode cX0_takeRootDigit 108 = .ok (.dup2, 1) := by decide +kernel
theorem dX0_takeRootDigit_109 : decode cX0_takeRootDigit 109 = .ok (.iaload, 1) := by decide +kernel
theorem dX0_takeRootDigit_110 : decode cX0_takeRootDigit 110 = .ok (.lload 5, 2) := by decide +kernel
theorem dX0_takeRootDigit_112 : decode cX0_takeRootDigit 112 = .ok (.bipush 31, 2) := by decide +kernel
theorem dX0_takeRootDigit_114 : decode cX0_takeRootDigit 114 = .ok (.lushr, 1) := by decide +kernel
theorem dX0_takeRootDigit_115 : decode cX0_takeRootDigit 115 = .ok (.l2i, 1) := by decide +kernel
theorem dX0_takeRootDigit_116 : decode cX0_takeRootDigit 116 = .ok (.ior, 1) := by decide +kernel
theorem dX0_takeRootDigit_117 : decode cX0_takeRootDigit 117 = .ok (.iastore, 1) := by decide +kernel
theorem dX0_takeRootDigit_118 : decode cX0_takeRootDigit 118 = .ok (.return_, 1) := by decide +kernel
set_option maxRecDepth 20000 in
theorem ggX0_guessDigit_X0_pairOf : GoodIn wsX0_guessDigit wsX0_pairOf := goodIn_r _ [11, 3] (by decide +kernel) (by decide +kernel)
set_option maxRecDepth 20000 in
theorem gX0_guessDigit_X0_pairOf : GoodIn wsX0_guessDigit (va_wsS RX0 102 yX0_pairOf wsX0_pairOf) := goodIn_app (goodIn_of _ (by decide +kernel)) ggX0_guessDigit_X0_pairOf
set_option maxRecDepth 20000 in
theorem ggX0_guessDigit_X0_quotientOfPair : GoodIn wsX0_guessDigit wsX0_quotientOfPair := goodIn_r _ [14, 15] (by decide +kernel) (by decide +kernel)
set_option maxRecDepth 20000 in
theorem gX0_guessDigit_X0_quotientOfPair : GoodIn wsX0_guessDigit (va_wsS RX0 158 yX0_quotientOfPair wsX0_quotientOfPair) := goodIn_app (goodIn_of _ (by decide +kernel)) ggX0_guessDigit_X0_quotientOfPair
theorem dX0_guessDigit_0 : decode cX0_guessDigit 0 = .ok (.aload_n 0, 1) := by decide +kernel
theorem dX0_guessDigit_1 : decode cX0_guessDigit 1 = .ok (.getfield 24, 3) := by decide +kernel
theorem dX0_guessDigit_4 : decode cX0_guessDigit 4 = .ok (.iload_n 1, 1) := by decide +kernel
theorem dX0_guessDigit_5 : decode cX0_guessDigit 5 = .ok (.iaload, 1) := by decide +kernel
theorem dX0_guessDigit_6 : decode cX0_guessDigit 6 = .ok (.i2l, 1) := by decide +kernel
theorem dX0_guessDigit_7 : decode cX0_guessDigit 7 = .ok (.aload_n 0, 1) := by decide +kernel
theorem dX0_guessDigit_8 : decode cX0_guessDigit 8 = .ok (.getfield 24, 3) := by decide +kernel
theorem dX0_guessDigit_11 : decode cX0_guessDigit 11 = .ok (.iload_n 1, 1) := by decide +kernel
theorem dX0_guessDigit_12 : decode cX0_guessDigit 12 = .ok (.iconst 1, 1) := by decide +kernel
theorem dX0_guessDigit_13 : decode cX0_guessDigit 13 = .ok (.isub, 1) := by decide +kernel
theorem dX0_guessDigit_14 : decode cX0_guessDigit 14 = .ok (.iaload, 1) := by decide +kernel
theorem dX0_guessDigit_15 : decode cX0_guessDigit 15 = .ok (.invokestatic 102, 3) := by decide +kernel
theorem dX0_guessDigit_18 : decode cX0_guessDigit 18 = .ok (.lstore_n 3, 1) := by decide +kernel
theorem dX0_guessDigit_19 : decode cX0_guessDigit 19 = .ok (.lload_n 3, 1) := by decide +kernel
theorem dX0_guessDigit_20 : decode cX0_guessDigit 20 = .ok (.aload_n 0, 1) := by decide +kernel
theorem dX0_guessDigit_21 : decode cX0_guessDigit 21 = .ok (.getfield 27, 3) := by decide +kernel
theorem dX0_guessDigit_24 : decode cX0_guessDigit 24 = .ok (.iload_n 2, 1) := by decide +kernel
theorem dX0_guessDigit_25 : decode cX0_guessDigit 25 = .ok (.iaload, 1) := by decide +kernel
theorem dX0_guessDigit_26 : decode cX0_guessDigit 26 = .ok (.i2l, 1) := by decide +kernel
theorem dX0_guessDigit_27 : decode cX0_guessDigit 27 = .ok (.ldc2_w 108, 3) := by decide +kernel
theorem dX0_guessDigit_30 : decode cX0_guessDigit 30 = .ok (.land, 1) := by decide +kernel
theorem dX0_guessDigit_31 : decode cX0_guessDigit 31 = .ok (.invokestatic 158, 3) := by decide +kernel
theorem dX0_guessDigit_34 : decode cX0_guessDigit 34 = .ok (.ldc2_w 108, 3) := by decide +kernel
theorem dX0_guessDigit_37 : decode cX0_guessDigit 37 = .ok (.invokestatic 162, 3) := by decide +kernel
theorem dX0_guessDigit_40 : decode cX0_guessDigit 40 = .ok (.lreturn, 1) := by decide +kernel
theorem dX0_quotientOfPair_0 : decode cX0_quotientOfPair 0 = .ok (.lload_n 2, 1) := by decide +kernel
theorem dX0_quotientOfPair_1 : decode cX0_quotientOfPair 1 = .ok (.lconst 0, 1) := by decide +kernel
theorem dX0_quotientOfPair_2 : decode cX0_quotientOfPair 2 = .ok (.lcmp, 1) := by decide +kernel
theorem dX0_quotientOfPair_3 : decode cX0_quotientOfPair 3 = .ok (.ifCond .ne 5, 3) := by decide +kernel
theorem dX0_quotientOfPair_6 : decode cX0_quotientOfPair 6 = .ok (.lconst 0, 1) := by decide +kernel
theorem dX0_quotientOfPair_7 : decode cX0_quotientOfPair 7 = .ok (.lreturn, 1) := by decide +kernel
theorem dX0_quotientOfPair_8 : decode cX0_quotientOfPair 8 = .ok (.lload_n 0, 1) := by decide +kernel
theorem dX0_quotientOfPair_9 : decode cX0_quotientOfPair 9 = .ok (.iconst 1, 1) := by decide +kernel
theorem dX0_quotientOfPair_10 : decode cX0_quotientOfPair 10 = .ok (.lushr, 1) := by decide +kernel
theorem dX0_quotientOfPair_11 : decode cX0_quotientOfPair 11 = .ok (.lload_n 2, 1) := by decide +kernel
theorem dX0_quotientOfPair_12 : decode cX0_quotientOfPair 12 = .ok (.ldiv, 1) := by decide +kernel
theorem dX0_quotientOfPair_13 : decode cX0_quotientOfPair 13 = .ok (.ldc2_w 156, 3) := by decide +kernel
theorem dX0_quotientOfPair_16 : decode cX0_quotientOfPair 16 = .ok (.lmul, 1) := by decide +kernel
theorem dX0_quotientOfPair_17 : decode cX0_quotientOfPair 17 = .ok (.lstore 4, 2) := by decide +kernel
theorem dX0_quotientOfPair_19 : decode cX0_quotientOfPair 19 = .ok (.lload_n 0, 1) := by decide +kernel
theorem dX0_quotientOfPair_20 : decode cX0_quotientOfPair 20 = .ok (.lload 4, 2) := by decide +kernel
theorem dX0_quotientOfPair_22 : decode cX0_quotientOfPair 22 = .ok (.lload_n 2, 1) := by decide +kernel
theorem dX0_quotientOfPair_23 : decode cX0_quotientOfPair 23 = .ok (.lmul, 1) := by decide +kernel
theorem dX0_quotientOfPair_24 : decode cX0_quotientOfPair 24 = .ok (.lsub, 1) := by decide +kernel
theorem dX0_quotientOfPair_25 : decode cX0_quotientOfPair 25 = .ok (.lload_n 2, 1) := by decide +kernel
theorem dX0_quotientOfPair_26 : decode cX0_quotientOfPair 26 = .ok (.lcmp, 1) := by decide +kernel
theorem dX0_quotientOfPair_27 : decode cX0_quotientOfPair 27 = .ok (.ifCond .lt 10, 3) := by decide +kernel
theorem dX0_quotientOfPair_30 : decode cX0_quotientOfPair 30 = .ok (.lload 4, 2) := by decide +kernel
theorem dX0_quotientOfPair_32 : decode cX0_quotientOfPair 32 = .ok (.lconst 1, 1) := by decide +kernel
theorem dX0_quotientOfPair_33 : decode cX0_quotientOfPair 33 = .ok (.ladd, 1) := by decide +kernel
theorem dX0_quotientOfPair_34 : decode cX0_quotientOfPair 34 = .ok (.goto 5, 3) := by decide +kernel
theorem dX0_quotientOfPair_37 : decode cX0_quotientOfPair 37 = .ok (.lload 4, 2) := by decide +kernel
theorem dX0_quotientOfPair_39 : decode cX0_quotientOfPair 39 = .ok (.lreturn, 1) := by decide +kernel
theorem dX0_takeMultiple_0 : decode cX0_takeMultiple 0 = .ok (.lconst 0, 1) := by decide +kernel
theorem dX0_takeMultiple_1 : decode cX0_takeMultiple 1 = .ok (.lstore 6, 2) := by decide +kernel
theorem dX0_takeMultiple_3 : decode cX0_takeMultiple 3 = .ok (.iconst 0, 1) := by decide +kernel
theorem dX0_takeMultiple_4 : decode cX0_takeMultiple 4 = .ok (.istore 8, 2) := by decide +kernel
theorem dX0_takeMultiple_6 : decode cX0_takeMultiple 6 = .ok (.iload 8, 2) := by decide +kernel
theorem dX0_takeMultiple_8 : decode cX0_takeMultiple 8 = .ok (.iload_n 3, 1) := by decide +kernel
theorem dX0_takeMultiple_9 : decode cX0_takeMultiple 9 = .ok (.if_icmp .ge 87, 3) := by decide +kernel
theorem dX0_takeMultiple_12 : decode cX0_takeMultiple 12 = .ok (.lload 4, 2) := by decide +kernel
theorem dX0_takeMultiple_14 : decode cX0_takeMultiple 14 = .ok (.aload_n 0, 1) := by decide +kernel
theorem dX0_takeMultiple_15 : decode cX0_takeMultiple 15 = .ok (.getfield 27, 3) := by decide +kernel
theorem dX0_takeMultiple_18 : decode cX0_takeMultiple 18 = .ok (.iload_n 2, 1) := by decide +kernel
theorem dX0_takeMultiple_19 : decode cX0_takeMultiple 19 = .ok (.iload 8, 2) := by decide +kernel
theorem dX0_takeMultiple_21 : decode cX0_takeMultiple 21 = .ok (.iadd, 1) := by decide +kernel
theorem dX0_takeMultiple_22 : decode cX0_takeMultiple 22 = .ok (.iaload, 1) := by decide +kernel
theorem dX0_takeMultiple_23 : decode cX0_takeMultiple 23 = .ok (.i2l, 1) := by decide +kernel
theorem dX0_takeMultiple_24 : decode cX0_takeMultiple 24 = .ok (.ldc2_w 108, 3) := by decide +kernel
theorem dX0_takeMultiple_27 : decode cX0_takeMultiple 27 = .ok (.land, 1) := by decide +kernel
theorem dX0_takeMultiple_28 : decode cX0_takeMultiple 28 = .ok (.lmul, 1) := by decide +kernel
theorem dX0_takeMultiple_29 : decode cX0_takeMultiple 29 = .ok (.lload 6, 2) := by decide +kernel
theorem dX0_takeMultiple_31 : decode cX0_takeMultiple 31 = .ok (.ladd, 1) := by decide +kernel
theorem dX0_takeMultiple_32 : decode cX0_takeMultiple 32 = .ok (.lstore 9, 2) := by decide +kernel
theorem dX0_takeMultiple_34 : decode cX0_takeMultiple 34 = .ok (.aload_n 0, 1) := by decide +kernel
theorem dX0_takeMultiple_35 : decode cX0_takeMultiple 35 = .ok (.getfield 24, 3) := by decide +kernel
theorem dX0_takeMultiple_38 : decode cX0_takeMultiple 38 = .ok (.iload_n 1, 1) := by decide +kernel
theorem dX0_takeMultiple_39 : decode cX0_takeMultiple 39 = .ok (.iload 8, 2) := by decide +kernel
theorem dX0_takeMultiple_41 : decode cX0_takeMultiple 41 = .ok (.iadd, 1) := by decide +kernel
theorem dX0_takeMultiple_42 : decode cX0_takeMultiple 42 = .ok (.iaload, 1) := by decide +kernel
theorem dX0_takeMultiple_43 : decode cX0_takeMultiple 43 = .ok (.i2l, 1) := by decide +kernel
theorem dX0_takeMultiple_44 : decode cX0_takeMultiple 44 = .ok (.ldc2_w 108, 3) := by decide +kernel
theorem dX0_takeMultiple_47 : decode cX0_takeMultiple 47 = .ok (.land, 1) := by decide +kernel
theorem dX0_takeMultiple_48 : decode cX0_takeMultiple 48 = .ok (.lload 9, 2) := by decide +kernel
theorem dX0_takeMultiple_50 : decode cX0_takeMultiple 50 = .ok (.ldc2_w 108, 3) := by decide +kernel
theorem dX0_takeMultiple_53 : decode cX0_takeMultiple 53 = .ok (.land, 1) := by decide +kernel
theorem dX0_takeMultiple_54 : decode cX0_takeMultiple 54 = .ok (.lsub, 1) := by decide +kernel
theorem dX0_takeMultiple_55 : decode cX0_takeMultiple 55 = .ok (.lstore 11, 2) := by decide +kernel
theorem dX0_takeMultiple_57 : decode cX0_takeMultiple 57 = .ok (.aload_n 0, 1) := by decide +kernel
theorem dX0_takeMultiple_58 : decode cX0_takeMultiple 58 = .ok (.getfield 24, 3) := by decide +kernel
theorem dX0_takeMultiple_61 : decode cX0_takeMultiple 61 = .ok (.iload_n 1, 1) := by decide +kernel
theorem dX0_takeMultiple_62 : decode cX0_takeMultiple 62 = .ok (.iload 8, 2) := by decide +kernel
theorem dX0_takeMultiple_64 : decode cX0_takeMultiple 64 = .ok (.iadd, 1) := by decide +kernel
theorem dX0_takeMultiple_65 : decode cX0_takeMultiple 65 = .ok (.lload 11, 2) := by decide +kernel
theorem dX0_takeMultiple_67 : decode cX0_takeMultiple 67 = .ok (.l2i, 1) := by decide +kernel
theorem dX0_takeMultiple_68 : decode cX0_takeMultiple 68 = .ok (.iastore, 1) := by decide +kernel
theorem dX0_takeMultiple_69 : decode cX0_takeMultiple 69 = .ok (.lload 9, 2) := by decide +kernel
theorem dX0_takeMultiple_71 : decode cX0_takeMultiple 71 = .ok (.bipush 32, 2) := by decide +kernel
theorem dX0_takeMultiple_73 : decode cX0_takeMultiple 73 = .ok (.lushr, 1) := by decide +kernel
theorem dX0_takeMultiple_74 : decode cX0_takeMultiple 74 = .ok (.lload 11, 2) := by decide +kernel
theorem dX0_takeMultiple_76 : decode cX0_takeMultiple 76 = .ok (.lconst 0, 1) := by decide +kernel
theorem dX0_takeMultiple_77 : decode cX0_takeMultiple 77 = .ok (.lcmp, 1) := by decide +kernel
theorem dX0_takeMultiple_78 : decode cX0_takeMultiple 78 = .ok (.ifCond .ge 7, 3) := by decide +kernel
theorem dX0_takeMultiple_81 : decode cX0_takeMultiple 81 = .ok (.iconst 1, 1) := by decide +kernel
theorem dX0_takeMultiple_82 : decode cX0_takeMultiple 82 = .ok (.goto 4, 3) := by decide +kernel
theorem dX0_takeMultiple_85 : decode cX0_takeMultiple 85 = .ok (.iconst 0, 1) := by decide +kernel
theorem dX0_takeMultiple_86 : decode cX0_takeMultiple 86 = .ok (.i2l, 1) := by decide +kernel
theorem dX0_takeMultiple_87 : decode cX0_takeMultiple 87 = .ok (.ladd, 1) := by decide +kernel
theorem dX0_takeMultiple_88 : decode cX0_takeMultiple 88 = .ok (.lstore 6, 2) := by decide +kernel
theorem dX0_takeMultiple_90 : decode cX0_takeMultiple 90 = .ok (.iinc 8 1, 3) := by decide +kernel
theorem dX0_takeMultiple_93 : decode cX0_takeMultiple 93 = .ok (.goto (-87), 3) := by decide +kernel
theorem dX0_takeMultiple_96 : decode cX0_takeMultiple 96 = .ok (.aload_n 0, 1) := by decide +kernel
theorem dX0_takeMultiple_97 : decode cX0_takeMultiple 97 = .ok (.getfield 24, 3) := by decide +kernel
theorem dX0_takeMultiple_100 : decode cX0_takeMultiple 100 = .ok (.iload_n 1, 1) := by decide +kernel
theorem dX0_takeMultiple_101 : decode cX0_takeMultiple 101 = .ok (.iload_n 3, 1) := by decide +kernel
theorem dX0_takeMultiple_102 : decode cX0_takeMultiple 102 = .ok (.iadd, 1) := by decide +kernel
theorem dX0_takeMultiple_103 : decode cX0_takeMultiple 103 = .ok (.iaload, 1) := by decide +kernel
theorem dX0_takeMultiple_104 : decode cX0_takeMultiple 104 = .ok (.i2l, 1) := by decide +kernel
theorem dX0_takeMultiple_105 : decode cX0_takeMultiple 105 = .ok (.ldc2_w 108, 3) := by decide +kernel
theorem dX0_takeMultiple_108 : decode cX0_takeMultiple 108 = .ok (.land, 1) := by decide +kernel
theorem dX0_takeMultiple_109 : decode cX0_takeMultiple 109 = .ok (.lload 6, 2) := by decide +kernel
theorem dX0_takeMultiple_111 : decode cX0_takeMultiple 111 = .ok (.lsub, 1) := by decide +kernel
theorem dX0_takeMultiple_112 : decode cX0_takeMultiple 112 = .ok (.lstore 8, 2) := by decide +kernel
theorem dX0_takeMultiple_114 : decode cX0_takeMultiple 114 = .ok (.aload_n 0, 1) := by decide +kernel
theorem dX0_takeMultiple_115 : decode cX0_takeMultiple 115 = .ok (.getfield 24, 3) := by decide +kernel
theorem dX0_takeMultiple_118 : decode cX0_takeMultiple 118 = .ok (.iload_n 1, 1) := by decide +kernel
theorem dX0_takeMultiple_119 : decode cX0_takeMultiple 119 = .ok (.iload_n 3, 1) := by decide +kernel
theorem dX0_takeMultiple_120 : decode cX0_takeMultiple 120 = .ok (.iadd, 1) := by decide +kernel
theorem dX0_takeMultiple_121 : decode cX0_takeMultiple 121 = .ok (.lload 8, 2) := by decide +kernel
theorem dX0_takeMultiple_123 : decode cX0_takeMultiple 123 = .ok (.l2i, 1) := by decide +kernel
theorem dX0_takeMultiple_124 : decode cX0_takeMultiple 124 = .ok (.iastore, 1) := by decide +kernel
theorem dX0_takeMultiple_125 : decode cX0_takeMultiple 125 = .ok (.lload 8, 2) := by decide +kernel
theorem dX0_takeMultiple_127 : decode cX0_takeMultiple 127 = .ok (.lconst 0, 1) := by decide +kernel
theorem dX0_takeMultiple_128 : decode cX0_takeMultiple 128 = .ok (.lcmp, 1) := by decide +kernel
theorem dX0_takeMultiple_129 : decode cX0_takeMultiple 129 = .ok (.ifCond .ge 7, 3) := by decide +kernel
theorem dX0_takeMultiple_132 : decode cX0_takeMultiple 132 = .ok (.iconst 1, 1) := by decide +kernel
theorem dX0_takeMultiple_133 : decode cX0_takeMultiple 133 = .ok (.goto 4, 3) := by decide +kernel
theorem dX0_takeMultiple_136 : decode cX0_takeMultiple 136 = .ok (.iconst 0, 1) := by decide +kernel
theorem dX0_takeMultiple_137 : decode cX0_takeMultiple 137 = .ok (.ireturn, 1) := by decide +kernel
theorem dX0_giveBack_0 : decode cX0_giveBack 0 = .ok (.lload 4, 2) := by decide +kernel
theorem dX0_giveBack_2 : decode cX0_giveBack 2 = .ok (.lstore 6, 2) := by decide +kernel
theorem dX0_giveBack_4 : decode cX0_giveBack 4 = .ok (.iconst 0, 1) := by decide +kernel
theorem dX0_giveBack_5 : decode cX0_giveBack 5 = .ok (.istore 8, 2) := by decide +kernel
theorem dX0_giveBack_7 : decode cX0_giveBack 7 = .ok (.iload 8, 2) := by decide +kernel
theorem dX0_giveBack_9 : decode cX0_giveBack 9 = .ok (.iload_n 3, 1) := by decide +kernel
theorem dX0_giveBack_10 : decode cX0_giveBack 10 = .ok (.if_icmp .ge 62, 3) := by decide +kernel
theorem dX0_giveBack_13 : decode cX0_giveBack 13 = .ok (.aload_n 0, 1) := by decide +kernel
theorem dX0_giveBack_14 : decode cX0_giveBack 14 = .ok (.getfield 24, 3) := by decide +kernel
theorem dX0_giveBack_17 : decode cX0_giveBack 17 = .ok (.iload_n 1, 1) := by decide +kernel
theorem dX0_giveBack_18 : decode cX0_giveBack 18 = .ok (.iload 8, 2) := by decide +kernel
theorem dX0_giveBack_20 : decode cX0_giveBack 20 = .ok (.iadd, 1) := by decide +kernel
theorem dX0_giveBack_21 : decode cX0_giveBack 21 = .ok (.iaload, 1) := by decide +kernel
theorem dX0_giveBack_22 : decode cX0_giveBack 22 = .ok (.i2l, 1) := by decide +kernel
theorem dX0_giveBack_23 : decode cX0_giveBack 23 = .ok (.ldc2_w 108, 3) := by decide +kernel
theorem dX0_giveBack_26 : decode cX0_giveBack 26 = .ok (.land, 1) := by decide +kernel
theorem dX0_giveBack_27 : decode cX0_giveBack 27 = .ok (.aload_n 0, 1) := by decide +kernel
theorem dX0_giveBack_28 : decode cX0_giveBack 28 = .ok (.getfield 27, 3) := by decide +kernel
theorem dX0_giveBack_31 : decode cX0_giveBack 31 = .ok (.iload_n 2, 1) := by decide +kernel
theorem dX0_giveBack_32 : decode cX0_giveBack 32 = .ok (.iload 8, 2) := by decide +kernel
theorem dX0_giveBack_34 : decode cX0_giveBack 34 = .ok (.iadd, 1) := by decide +kernel
theorem dX0_giveBack_35 : decode cX0_giveBack 35 = .ok (.iaload, 1) := by decide +kernel
theorem dX0_giveBack_36 : decode cX0_giveBack 36 = .ok (.i2l, 1) := by decide +kernel
theorem dX0_giveBack_37 : decode cX0_giveBack 37 = .ok (.ldc2_w 108, 3) := by decide +kernel
theorem dX0_giveBack_40 : decode cX0_giveBack 40 = .ok (.land, 1) := by decide +kernel
theorem dX0_giveBack_41 : decode cX0_giveBack 41 = .ok (.ladd, 1) := by decide +kernel
theorem dX0_giveBack_42 : decode cX0_giveBack 42 = .ok (.lload 6, 2) := by decide +kernel
theorem dX0_giveBack_44 : decode cX0_giveBack 44 = .ok (.ladd, 1) := by decide +kernel
theorem dX0_giveBack_45 : decode cX0_giveBack 45 = .ok (.lstore 9, 2) := by decide +kernel
theorem dX0_giveBack_47 : decode cX0_giveBack 47 = .ok (.aload_n 0, 1) := by decide +kernel
theorem dX0_giveBack_48 : decode cX0_giveBack 48 = .ok (.getfield 24, 3) := by decide +kernel
theorem dX0_giveBack_51 : decode cX0_giveBack 51 = .ok (.iload_n 1, 1) := by decide +kernel
theorem dX0_giveBack_52 : decode cX0_giveBack 52 = .ok (.iload 8, 2) := by decide +kernel
theorem dX0_giveBack_54 : decode cX0_giveBack 54 = .ok (.iadd, 1) := by decide +kernel
theorem dX0_giveBack_55 : decode cX0_giveBack 55 = .ok (.lload 9, 2) := by decide +kernel
theorem dX0_giveBack_57 : decode cX0_giveBack 57 = .ok (.l2i, 1) := by decide +kernel
theorem dX0_giveBack_58 : decode cX0_giveBack 58 = .ok (.iastore, 1) := by decide +kernel
theorem dX0_giveBack_59 : decode cX0_giveBack 59 = .ok (.lload 9, 2) := by decide +kernel
theorem dX0_giveBack_61 : decode cX0_giveBack 61 = .ok (.bipush 32, 2) := by decide +kernel
theorem dX0_giveBack_63 : decode cX0_giveBack 63 = .ok (.lushr, 1) := by decide +kernel
theorem dX0_giveBack_64 : decode cX0_giveBack 64 = .ok (.lstore 6, 2) := by decide +kernel
theorem dX0_giveBack_66 : decode cX0_giveBack 66 = .ok (.iinc 8 1, 3) := by decide +kernel
theorem dX0_giveBack_69 : decode cX0_giveBack 69 = .ok (.goto (-62), 3) := by decide +kernel
theorem dX0_giveBack_72 : decode cX0_giveBack 72 = .ok (.aload_n 0, 1) := by decide +kernel
theorem dX0_giveBack_73 : decode cX0_giveBack 73 = .ok (.getfield 24, 3) := by decide +kernel
theorem dX0_giveBack_76 : decode cX0_giveBack 76 = .ok (.iload_n 1, 1) := by decide +kernel
theorem dX0_giveBack_77 : decode cX0_giveBack 77 = .ok (.iload_n 3, 1) := by decide +kernel
theorem dX0_giveBack_78 : decode cX0_giveBack 78 = .ok (.iadd, 1) := by decide +kernel
theorem dX0_giveBack_79 : decode cX0_giveBack 79 = .ok (.iaload, 1) := by decide +kernel
theorem dX0_giveBack_80 : decode cX0_giveBack 80 = .ok (.i2l, 1) := by decide +kernel
theorem dX0_giveBack_81 : decode cX0_giveBack 81 = .ok (.ldc2_w 108, 3) := by decide +kernel
theorem dX0_giveBack_84 : decode cX0_giveBack 84 = .ok (.land, 1) := by decide +kernel
theorem dX0_giveBack_85 : decode cX0_giveBack 85 = .ok (.lload 6, 2) := by decide +kernel
theorem dX0_giveBack_87 : decode cX0_giveBack 87 = .ok (.ladd, 1) := by decide +kernel
theorem dX0_giveBack_88 : decode cX0_giveBack 88 = .ok (.lstore 8, 2) := by decide +kernel
theorem dX0_giveBack_90 : decode cX0_giveBack 90 = .ok (.aload_n 0, 1) := by decide +kernel
theorem dX0_giveBack_91 : decode cX0_giveBack 91 = .ok (.getfield 24, 3) := by decide +kernel
theorem dX0_giveBack_94 : decode cX0_giveBack 94 = .ok (.iload_n 1, 1) := by decide +kernel
theorem dX0_giveBack_95 : decode cX0_giveBack 95 = .ok (.iload_n 3, 1) := by decide +kernel
theorem dX0_giveBack_96 : decode cX0_giveBack 96 = .ok (.iadd, 1) := by decide +kernel
theorem dX0_giveBack_97 : decode cX0_giveBack 97 = .ok (.lload 8, 2) := by decide +kernel
theorem dX0_giveBack_99 : decode cX0_giveBack 99 = .ok (.l2i, 1) := by decide +kernel
theorem dX0_giveBack_100 : decode cX0_giveBack 100 = .ok (.iastore, 1) := by decide +kernel
theorem dX0_giveBack_101 : decode cX0_giveBack 101 = .ok (.lload 8, 2) := by decide +kernel
theorem dX0_giveBack_103 : decode cX0_giveBack 103 = .ok (.ldc2_w 108, 3) := by decide +kernel
theorem dX0_giveBack_106 : decode cX0_giveBack 106 = .ok (.lcmp, 1) := by decide +kernel
theorem dX0_giveBack_107 : decode cX0_giveBack 107 = .ok (.ifCond .gt 7, 3) := by decide +kernel
theorem dX0_giveBack_110 : decode cX0_giveBack 110 = .ok (.iconst 1, 1) := by decide +kernel
theorem dX0_giveBack_111 : decode cX0_giveBack 111 = .ok (.goto 4, 3) := by decide +kernel
theorem dX0_giveBack_114 : decode cX0_giveBack 114 = .ok (.iconst 0, 1) := by decide +kernel
theorem dX0_giveBack_115 : decode cX0_giveBack 115 = .ok (.ireturn, 1) := by decide +kernel
set_option maxRecDepth 20000 in
theorem ggX0_moveUp_J7_fill_53178 : GoodIn wsX0_moveUp wsJ7_fill_53178 := goodIn_r _ [7] (by decide +kernel) (by decide +kernel)
set_option maxRecDepth 20000 in
theorem gX0_moveUp_J7_fill_53178 : GoodIn wsX0_moveUp (va_wsS RX0 34 yJ7_fill_53178 wsJ7_fill_53178) := goodIn_app (goodIn_of _ (by decide +kernel)) ggX0_moveUp_J7_fill_53178
theorem dX0_moveUp_0 : decode cX0_moveUp 0 = .ok (.aload_n 3, 1) := by decide +kernel
theorem dX0_moveUp_1 : decode cX0_moveUp 1 = .ok (.iconst 0, 1) := by decide +kernel
theorem dX0_moveUp_2 : decode cX0_moveUp 2 = .ok (.invokestatic 34, 3) := by decide +kernel
theorem dX0_moveUp_5 : decode cX0_moveUp 5 = .ok (.iload_n 2, 1) := by decide +kernel
theorem dX0_moveUp_6 : decode cX0_moveUp 6 = .ok (.bipush 32, 2) := by decide +kernel
theorem dX0_moveUp_8 : decode cX0_moveUp 8 = .ok (.idiv, 1) := by decide +kernel
theorem dX0_moveUp_9 : decode cX0_moveUp 9 = .ok (.istore 4, 2) := by decide +kernel
theorem dX0_moveUp_11 : decode cX0_moveUp 11 = .ok (.iload_n 2, 1) := by decide +kernel
theorem dX0_moveUp_12 : decode cX0_moveUp 12 = .ok (.bipush 32, 2) := by decide +kernel
theorem dX0_moveUp_14 : decode cX0_moveUp 14 = .ok (.irem, 1) := by decide +kernel
theorem dX0_moveUp_15 : decode cX0_moveUp 15 = .ok (.istore 5, 2) := by decide +kernel
theorem dX0_moveUp_17 : decode cX0_moveUp 17 = .ok (.iconst 0, 1) := by decide +kernel
theorem dX0_moveUp_18 : decode cX0_moveUp 18 = .ok (.istore 6, 2) := by decide +kernel
theorem dX0_moveUp_20 : decode cX0_moveUp 20 = .ok (.iload 6, 2) := by decide +kernel
theorem dX0_moveUp_22 : decode cX0_moveUp 22 = .ok (.aload_n 0, 1) := by decide +kernel
theorem dX0_moveUp_23 : decode cX0_moveUp 23 = .ok (.getfield 14, 3) := by decide +kernel
theorem dX0_moveUp_26 : decode cX0_moveUp 26 = .ok (.iload_n 1, 1) := by decide +kernel
theorem dX0_moveUp_27 : decode cX0_moveUp 27 = .ok (.iaload, 1) := by decide +kernel
theorem dX0_moveUp_28 : decode cX0_moveUp 28 = .ok (.if_icmp .ge 56, 3) := by decide +kernel
theorem dX0_moveUp_31 : decode cX0_moveUp 31 = .ok (.aload_n 0, 1) := by decide +kernel
theorem dX0_moveUp_32 : decode cX0_moveUp 32 = .ok (.getfield 11, 3) := by decide +kernel
theorem dX0_moveUp_35 : decode cX0_moveUp 35 = .ok (.iload_n 1, 1) := by decide +kernel
theorem dX0_moveUp_36 : decode cX0_moveUp 36 = .ok (.aaload, 1) := by decide +kernel
theorem dX0_moveUp_37 : decode cX0_moveUp 37 = .ok (.iload 6, 2) := by decide +kernel
theorem dX0_moveUp_39 : decode cX0_moveUp 39 = .ok (.iaload, 1) := by decide +kernel
theorem dX0_moveUp_40 : decode cX0_moveUp 40 = .ok (.i2l, 1) := by decide +kernel
theorem dX0_moveUp_41 : decode cX0_moveUp 41 = .ok (.ldc2_w 108, 3) := by decide +kernel
theorem dX0_moveUp_44 : decode cX0_moveUp 44 = .ok (.land, 1) := by decide +kernel
theorem dX0_moveUp_45 : decode cX0_moveUp 45 = .ok (.iload 5, 2) := by decide +kernel
theorem dX0_moveUp_47 : decode cX0_moveUp 47 = .ok (.lshl, 1) := by decide +kernel
theorem dX0_moveUp_48 : decode cX0_moveUp 48 = .ok (.lstore 7, 2) := by decide +kernel
theorem dX0_moveUp_50 : decode cX0_moveUp 50 = .ok (.aload_n 3, 1) := by decide +kernel
theorem dX0_moveUp_51 : decode cX0_moveUp 51 = .ok (.iload 6, 2) := by decide +kernel
theorem dX0_moveUp_53 : decode cX0_moveUp 53 = .ok (.iload 4, 2) := by decide +kernel
theorem dX0_moveUp_55 : decode cX0_moveUp 55 = .ok (.iadd, 1) := by decide +kernel
theorem dX0_moveUp_56 : decode cX0_moveUp 56 = .ok (.dup2, 1) := by decide +kernel
theorem dX0_moveUp_57 : decode cX0_moveUp 57 = .ok (.iaload, 1) := by decide +kernel
theorem dX0_moveUp_58 : decode cX0_moveUp 58 = .ok (.lload 7, 2) := by decide +kernel
theorem dX0_moveUp_60 : decode cX0_moveUp 60 = .ok (.l2i, 1) := by decide +kernel
theorem dX0_moveUp_61 : decode cX0_moveUp 61 = .ok (.ior, 1) := by decide +kernel
theorem dX0_moveUp_62 : decode cX0_moveUp 62 = .ok (.iastore, 1) := by decide +kernel
theorem dX0_moveUp_63 : decode cX0_moveUp 63 = .ok (.aload_n 3, 1) := by decide +kernel
theorem dX0_moveUp_64 : decode cX0_moveUp 64 = .ok (.iload 6, 2) := by decide +kernel
theorem dX0_moveUp_66 : decode cX0_moveUp 66 = .ok (.iload 4, 2) := by decide +kernel
theorem dX0_moveUp_68 : decode cX0_moveUp 68 = .ok (.iadd, 1) := by decide +kernel
theorem dX0_moveUp_69 : decode cX0_moveUp 69 = .ok (.iconst 1, 1) := by decide +kernel
theorem dX0_moveUp_70 : decode cX0_moveUp 70 = .ok (.iadd, 1) := by decide +kernel
theorem dX0_moveUp_71 : decode cX0_moveUp 71 = .ok (.lload 7, 2) := by decide +kernel
theorem dX0_moveUp_73 : decode cX0_moveUp 73 = .ok (.bipush 32, 2) := by decide +kernel
theorem dX0_moveUp_75 : decode cX0_moveUp 75 = .ok (.lushr, 1) := by decide +kernel
theorem dX0_moveUp_76 : decode cX0_moveUp 76 = .ok (.l2i, 1) := by decide +kernel
theorem dX0_moveUp_77 : decode cX0_moveUp 77 = .ok (.iastore, 1) := by decide +kernel
theorem dX0_moveUp_78 : decode cX0_moveUp 78 = .ok (.iinc 6 1, 3) := by decide +kernel
theorem dX0_moveUp_81 : decode cX0_moveUp 81 = .ok (.goto (-61), 3) := by decide +kernel
theorem dX0_moveUp_84 : decode cX0_moveUp 84 = .ok (.return_, 1) := by decide +kernel
set_option maxRecDepth 20000 in
theorem ggX0_moveDown_J7_fill_53178 : GoodIn wsX0_moveDown wsJ7_fill_53178 := goodIn_r _ [5] (by decide +kernel) (by decide +kernel)
set_option maxRecDepth 20000 in
theorem gX0_moveDown_J7_fill_53178 : GoodIn wsX0_moveDown (va_wsS RX0 34 yJ7_fill_53178 wsJ7_fill_53178) := goodIn_app (goodIn_of _ (by decide +kernel)) ggX0_moveDown_J7_fill_53178
set_option maxRecDepth 20000 in
theorem ggX0_moveDown_X0_pairOf : GoodIn wsX0_moveDown wsX0_pairOf := goodIn_r _ [9, 10] (by decide +kernel) (by decide +kernel)
set_option maxRecDepth 20000 in
theorem gX0_moveDown_X0_pairOf : GoodIn wsX0_moveDown (va_wsS RX0 102 yX0_pairOf wsX0_pairOf) := goodIn_app (goodIn_of _ (by decide +kernel)) ggX0_moveDown_X0_pairOf
theorem dX0_moveDown_0 : decode cX0_moveDown 0 = .ok (.aload_n 0, 1) := by decide +kernel
theorem dX0_moveDown_1 : decode cX0_moveDown 1 = .ok (.getfield 21, 3) := by decide +kernel
theorem dX0_moveDown_4 : decode cX0_moveDown 4 = .ok (.iconst 0, 1) := by decide +kernel
theorem dX0_moveDown_5 : decode cX0_moveDown 5 = .ok (.invokestatic 34, 3) := by decide +kernel
theorem dX0_moveDown_8 : decode cX0_moveDown 8 = .ok (.iconst 0, 1) := by decide +kernel
theorem dX0_moveDown_9 : decode cX0_moveDown 9 = .ok (.istore 4, 2) := by decide +kernel
theorem dX0_moveDown_11 : decode cX0_moveDown 11 = .ok (.iload 4, 2) := by decide +kernel
theorem dX0_moveDown_13 : decode cX0_moveDown 13 = .ok (.iload_n 2, 1) := by decide +kernel
theorem dX0_moveDown_14 : decode cX0_moveDown 14 = .ok (.if_icmp .ge 49, 3) := by decide +kernel
theorem dX0_moveDown_17 : decode cX0_moveDown 17 = .ok (.iload 4, 2) := by decide +kernel
theorem dX0_moveDown_19 : decode cX0_moveDown 19 = .ok (.iconst 1, 1) := by decide +kernel
theorem dX0_moveDown_20 : decode cX0_moveDown 20 = .ok (.iadd, 1) := by decide +kernel
theorem dX0_moveDown_21 : decode cX0_moveDown 21 = .ok (.iload_n 2, 1) := by decide +kernel
theorem dX0_moveDown_22 : decode cX0_moveDown 22 = .ok (.if_icmp .ge 13, 3) := by decide +kernel
theorem dX0_moveDown_25 : decode cX0_moveDown 25 = .ok (.aload_n 1, 1) := by decide +kernel
theorem dX0_moveDown_26 : decode cX0_moveDown 26 = .ok (.iload 4, 2) := by decide +kernel
theorem dX0_moveDown_28 : decode cX0_moveDown 28 = .ok (.iconst 1, 1) := by decide +kernel
theorem dX0_moveDown_29 : decode cX0_moveDown 29 = .ok (.iadd, 1) := by decide +kernel
theorem dX0_moveDown_30 : decode cX0_moveDown 30 = .ok (.iaload, 1) := by decide +kernel
theorem dX0_moveDown_31 : decode cX0_moveDown 31 = .ok (.i2l, 1) := by decide +kernel
theorem dX0_moveDown_32 : decode cX0_moveDown 32 = .ok (.goto 4, 3) := by decide +kernel
theorem dX0_moveDown_35 : decode cX0_moveDown 35 = .ok (.lconst 0, 1) := by decide +kernel
theorem dX0_moveDown_36 : decode cX0_moveDown 36 = .ok (.lstore 5, 2) := by decide +kernel
theorem dX0_moveDown_38 : decode cX0_moveDown 38 = .ok (.aload_n 0, 1) := by decide +kernel
theorem dX0_moveDown_39 : decode cX0_moveDown 39 = .ok (.getfield 21, 3) := by decide +kernel
theorem dX0_moveDown_42 : decode cX0_moveDown 42 = .ok (.iload 4, 2) := by decide +kernel
theorem dX0_moveDown_44 : decode cX0_moveDown 44 = .ok (.lload 5, 2) := by decide +kernel
theorem dX0_moveDown_46 : decode cX0_moveDown 46 = .ok (.aload_n 1, 1) := by decide +kernel
theorem dX0_moveDown_47 : decode cX0_moveDown 47 = .ok (.iload 4, 2) := by decide +kernel
theorem dX0_moveDown_49 : decode cX0_moveDown 49 = .ok (.iaload, 1) := by decide +kernel
theorem dX0_moveDown_50 : decode cX0_moveDown 50 = .ok (.invokestatic 102, 3) := by decide +kernel
theorem dX0_moveDown_53 : decode cX0_moveDown 53 = .ok (.iload_n 3, 1) := by decide +kernel
theorem dX0_moveDown_54 : decode cX0_moveDown 54 = .ok (.lushr, 1) := by decide +kernel
theorem dX0_moveDown_55 : decode cX0_moveDown 55 = .ok (.l2i, 1) := by decide +kernel
theorem dX0_moveDown_56 : decode cX0_moveDown 56 = .ok (.iastore, 1) := by decide +kernel
theorem dX0_moveDown_57 : decode cX0_moveDown 57 = .ok (.iinc 4 1, 3) := by decide +kernel
theorem dX0_moveDown_60 : decode cX0_moveDown 60 = .ok (.goto (-49), 3) := by decide +kernel
theorem dX0_moveDown_63 : decode cX0_moveDown 63 = .ok (.return_, 1) := by decide +kernel

theorem dX1_init_0 : decode cX1_init 0 = .ok (.aload_n 0, 1) := by decide +kernel
theorem dX1_init_1 : decode cX1_init 1 = .ok (.invokespecial 1, 3) := by decide +kernel
theorem dX1_init_4 : decode cX1_init 4 = .ok (.aload_n 0, 1) := by decide +kernel
theorem dX1_init_5 : decode cX1_init 5 = .ok (.bipush 16, 2) := by decide +kernel
theorem dX1_init_7 : decode cX1_init 7 = .ok (.newarray .int, 2) := by decide +kernel
theorem dX1_init_9 : decode cX1_init 9 = .ok (.putfield 7, 3) := by decide +kernel
theorem dX1_init_12 : decode cX1_init 12 = .ok (.aload_n 0, 1) := by decide +kernel
theorem dX1_init_13 : decode cX1_init 13 = .ok (.ldc 13, 2) := by decide +kernel
theorem dX1_init_15 : decode cX1_init 15 = .ok (.newarray .int, 2) := by decide +kernel
theorem dX1_init_17 : decode cX1_init 17 = .ok (.putfield 14, 3) := by decide +kernel
theorem dX1_init_20 : decode cX1_init 20 = .ok (.return_, 1) := by decide +kernel
theorem dX1_thrown_0 : decode cX1_thrown 0 = .ok (.aload_n 0, 1) := by decide +kernel
theorem dX1_thrown_1 : decode cX1_thrown 1 = .ok (.getfield 17, 3) := by decide +kernel
theorem dX1_thrown_4 : decode cX1_thrown 4 = .ok (.ireturn, 1) := by decide +kernel
theorem dX1_isRegister_0 : decode cX1_isRegister 0 = .ok (.iload_n 0, 1) := by decide +kernel
theorem dX1_isRegister_1 : decode cX1_isRegister 1 = .ok (.ifCond .lt 13, 3) := by decide +kernel
theorem dX1_isRegister_4 : decode cX1_isRegister 4 = .ok (.iload_n 0, 1) := by decide +kernel
theorem dX1_isRegister_5 : decode cX1_isRegister 5 = .ok (.bipush 12, 2) := by decide +kernel
theorem dX1_isRegister_7 : decode cX1_isRegister 7 = .ok (.if_icmp .ge 7, 3) := by decide +kernel
theorem dX1_isRegister_10 : decode cX1_isRegister 10 = .ok (.iconst 1, 1) := by decide +kernel
theorem dX1_isRegister_11 : decode cX1_isRegister 11 = .ok (.goto 4, 3) := by decide +kernel
theorem dX1_isRegister_14 : decode cX1_isRegister 14 = .ok (.iconst 0, 1) := by decide +kernel
theorem dX1_isRegister_15 : decode cX1_isRegister 15 = .ok (.ireturn, 1) := by decide +kernel
theorem dX1_get_0 : decode cX1_get 0 = .ok (.aload_n 0, 1) := by decide +kernel
theorem dX1_get_1 : decode cX1_get 1 = .ok (.getfield 14, 3) := by decide +kernel
theorem dX1_get_4 : decode cX1_get 4 = .ok (.sipush 2100, 3) := by decide +kernel
theorem dX1_get_7 : decode cX1_get 7 = .ok (.iload_n 1, 1) := by decide +kernel
theorem dX1_get_8 : decode cX1_get 8 = .ok (.imul, 1) := by decide +kernel
theorem dX1_get_9 : decode cX1_get 9 = .ok (.iload_n 2, 1) := by decide +kernel
theorem dX1_get_10 : decode cX1_get 10 = .ok (.iadd, 1) := by decide +kernel
theorem dX1_get_11 : decode cX1_get 11 = .ok (.iaload, 1) := by decide +kernel
theorem dX1_get_12 : decode cX1_get 12 = .ok (.ireturn, 1) := by decide +kernel
theorem dX1_put_0 : decode cX1_put 0 = .ok (.aload_n 0, 1) := by decide +kernel
theorem dX1_put_1 : decode cX1_put 1 = .ok (.getfield 14, 3) := by decide +kernel
theorem dX1_put_4 : decode cX1_put 4 = .ok (.sipush 2100, 3) := by decide +kernel
theorem dX1_put_7 : decode cX1_put 7 = .ok (.iload_n 1, 1) := by decide +kernel
theorem dX1_put_8 : decode cX1_put 8 = .ok (.imul, 1) := by decide +kernel
theorem dX1_put_9 : decode cX1_put 9 = .ok (.iload_n 2, 1) := by decide +kernel
theorem dX1_put_10 : decode cX1_put 10 = .ok (.iadd, 1) := by decide +kernel
theorem dX1_put_11 : decode cX1_put 11 = .ok (.iload_n 3, 1) := by decide +kernel
theorem dX1_put_12 : decode cX1_put 12 = .ok (.iastore, 1) := by decide +kernel
theorem dX1_put_13 : decode cX1_put 13 = .ok (.return_, 1) := by decide +kernel
set_option maxRecDepth 20000 in
theorem ggX1_clear_X1_put : GoodIn wsX1_clear wsX1_put := goodIn_r _ [6, 7, 8, 9, 10] (by decide +kernel) (by decide +kernel)
set_option maxRecDepth 20000 in
theorem gX1_clear_X1_put : GoodIn wsX1_clear (wsV RX1 21 RX1 yX1_put wsX1_put) := goodIn_app (goodIn_of _ (by decide +kernel)) ggX1_clear_X1_put
theorem dX1_clear_0 : decode cX1_clear 0 = .ok (.iconst 0, 1) := by decide +kernel
theorem dX1_clear_1 : decode cX1_clear 1 = .ok (.istore_n 2, 1) := by decide +kernel
theorem dX1_clear_2 : decode cX1_clear 2 = .ok (.iload_n 2, 1) := by decide +kernel
theorem dX1_clear_3 : decode cX1_clear 3 = .ok (.sipush 2100, 3) := by decide +kernel
theorem dX1_clear_6 : decode cX1_clear 6 = .ok (.if_icmp .ge 16, 3) := by decide +kernel
theorem dX1_clear_9 : decode cX1_clear 9 = .ok (.aload_n 0, 1) := by decide +kernel
theorem dX1_clear_10 : decode cX1_clear 10 = .ok (.iload_n 1, 1) := by decide +kernel
theorem dX1_clear_11 : decode cX1_clear 11 = .ok (.iload_n 2, 1) := by decide +kernel
theorem dX1_clear_12 : decode cX1_clear 12 = .ok (.iconst 0, 1) := by decide +kernel
theorem dX1_clear_13 : decode cX1_clear 13 = .ok (.invokevirtual 21, 3) := by decide +kernel
theorem dX1_clear_16 : decode cX1_clear 16 = .ok (.iinc 2 1, 3) := by decide +kernel
theorem dX1_clear_19 : decode cX1_clear 19 = .ok (.goto (-17), 3) := by decide +kernel
theorem dX1_clear_22 : decode cX1_clear 22 = .ok (.aload_n 0, 1) := by decide +kernel
theorem dX1_clear_23 : decode cX1_clear 23 = .ok (.getfield 7, 3) := by decide +kernel
theorem dX1_clear_26 : decode cX1_clear 26 = .ok (.iload_n 1, 1) := by decide +kernel
theorem dX1_clear_27 : decode cX1_clear 27 = .ok (.iconst 0, 1) := by decide +kernel
theorem dX1_clear_28 : decode cX1_clear 28 = .ok (.iastore, 1) := by decide +kernel
theorem dX1_clear_29 : decode cX1_clear 29 = .ok (.return_, 1) := by decide +kernel
set_option maxRecDepth 20000 in
theorem ggX1_move_X1_get : GoodIn wsX1_move wsX1_get := goodIn_r _ [6, 7, 12, 13, 14] (by decide +kernel) (by decide +kernel)
set_option maxRecDepth 20000 in
theorem gX1_move_X1_get : GoodIn wsX1_move (wsV RX1 25 RX1 yX1_get wsX1_get) := goodIn_app (goodIn_of _ (by decide +kernel)) ggX1_move_X1_get
set_option maxRecDepth 20000 in
theorem ggX1_move_X1_put : GoodIn wsX1_move wsX1_put := goodIn_r _ [11, 7, 12, 13, 14] (by decide +kernel) (by decide +kernel)
set_option maxRecDepth 20000 in
theorem gX1_move_X1_put : GoodIn wsX1_move (wsV RX1 21 RX1 yX1_put wsX1_put) := goodIn_app (goodIn_of _ (by decide +kernel)) ggX1_move_X1_put
theorem dX1_move_0 : decode cX1_move 0 = .ok (.iconst 0, 1) := by decide +kernel
theorem dX1_move_1 : decode cX1_move 1 = .ok (.istore_n 3, 1) := by decide +kernel
theorem dX1_move_2 : decode cX1_move 2 = .ok (.iload_n 3, 1) := by decide +kernel
theorem dX1_move_3 : decode cX1_move 3 = .ok (.sipush 2100, 3) := by decide +kernel
theorem dX1_move_6 : decode cX1_move 6 = .ok (.if_icmp .ge 21, 3) := by decide +kernel
theorem dX1_move_9 : decode cX1_move 9 = .ok (.aload_n 0, 1) := by decide +kernel
theorem dX1_move_10 : decode cX1_move 10 = .ok (.iload_n 1, 1) := by decide +kernel
theorem dX1_move_11 : decode cX1_move 11 = .ok (.iload_n 3, 1) := by decide +kernel
theorem dX1_move_12 : decode cX1_move 12 = .ok (.aload_n 0, 1) := by decide +kernel
theorem dX1_move_13 : decode cX1_move 13 = .ok (.iload_n 2, 1) := by decide +kernel
theorem dX1_move_14 : decode cX1_move 14 = .ok (.iload_n 3, 1) := by decide +kernel
theorem dX1_move_15 : decode cX1_move 15 = .ok (.invokevirtual 25, 3) := by decide +kernel
theorem dX1_move_18 : decode cX1_move 18 = .ok (.invokevirtual 21, 3) := by decide +kernel
theorem dX1_move_21 : decode cX1_move 21 = .ok (.iinc 3 1, 3) := by decide +kernel
theorem dX1_move_24 : decode cX1_move 24 = .ok (.goto (-22), 3) := by decide +kernel
theorem dX1_move_27 : decode cX1_move 27 = .ok (.aload_n 0, 1) := by decide +kernel
theorem dX1_move_28 : decode cX1_move 28 = .ok (.getfield 7, 3) := by decide +kernel
theorem dX1_move_31 : decode cX1_move 31 = .ok (.iload_n 1, 1) := by decide +kernel
theorem dX1_move_32 : decode cX1_move 32 = .ok (.aload_n 0, 1) := by decide +kernel
theorem dX1_move_33 : decode cX1_move 33 = .ok (.getfield 7, 3) := by decide +kernel
theorem dX1_move_36 : decode cX1_move 36 = .ok (.iload_n 2, 1) := by decide +kernel
theorem dX1_move_37 : decode cX1_move 37 = .ok (.iaload, 1) := by decide +kernel
theorem dX1_move_38 : decode cX1_move 38 = .ok (.iastore, 1) := by decide +kernel
theorem dX1_move_39 : decode cX1_move 39 = .ok (.return_, 1) := by decide +kernel
set_option maxRecDepth 20000 in
theorem ggX1_length_X1_get : GoodIn wsX1_length wsX1_get := goodIn_r _ [5, 6, 7, 8, 9] (by decide +kernel) (by decide +kernel)
set_option maxRecDepth 20000 in
theorem gX1_length_X1_get : GoodIn wsX1_length (wsV RX1 25 RX1 yX1_get wsX1_get) := goodIn_app (goodIn_of _ (by decide +kernel)) ggX1_length_X1_get
theorem dX1_length_0 : decode cX1_length 0 = .ok (.sipush 2100, 3) := by decide +kernel
theorem dX1_length_3 : decode cX1_length 3 = .ok (.istore_n 2, 1) := by decide +kernel
theorem dX1_length_4 : decode cX1_length 4 = .ok (.iload_n 2, 1) := by decide +kernel
theorem dX1_length_5 : decode cX1_length 5 = .ok (.ifCond .le 20, 3) := by decide +kernel
theorem dX1_length_8 : decode cX1_length 8 = .ok (.aload_n 0, 1) := by decide +kernel
theorem dX1_length_9 : decode cX1_length 9 = .ok (.iload_n 1, 1) := by decide +kernel
theorem dX1_length_10 : decode cX1_length 10 = .ok (.iload_n 2, 1) := by decide +kernel
theorem dX1_length_11 : decode cX1_length 11 = .ok (.iconst 1, 1) := by decide +kernel
theorem dX1_length_12 : decode cX1_length 12 = .ok (.isub, 1) := by decide +kernel
theorem dX1_length_13 : decode cX1_length 13 = .ok (.invokevirtual 25, 3) := by decide +kernel
theorem dX1_length_16 : decode cX1_length 16 = .ok (.ifCond .ne 9, 3) := by decide +kernel
theorem dX1_length_19 : decode cX1_length 19 = .ok (.iinc 2 (-1), 3) := by decide +kernel
theorem dX1_length_22 : decode cX1_length 22 = .ok (.goto (-18), 3) := by decide +kernel
theorem dX1_length_25 : decode cX1_length 25 = .ok (.iload_n 2, 1) := by decide +kernel
theorem dX1_length_26 : decode cX1_length 26 = .ok (.ireturn, 1) := by decide +kernel
set_option maxRecDepth 20000 in
theorem ggX1_bitsOf_X1_length : GoodIn wsX1_bitsOf wsX1_length := goodIn_r _ [5, 6, 7, 8, 4, 9, 10, 11, 12, 13] (by decide +kernel) (by decide +kernel)
set_option maxRecDepth 20000 in
theorem gX1_bitsOf_X1_length : GoodIn wsX1_bitsOf (wsV RX1 29 RX1 yX1_length wsX1_length) := goodIn_app (goodIn_of _ (by decide +kernel)) ggX1_bitsOf_X1_length
set_option maxRecDepth 20000 in
theorem ggX1_bitsOf_X1_get : GoodIn wsX1_bitsOf wsX1_get := goodIn_r _ [9, 10, 11, 12, 13] (by decide +kernel) (by decide +kernel)
set_option maxRecDepth 20000 in
theorem gX1_bitsOf_X1_get : GoodIn wsX1_bitsOf (wsV RX1 25 RX1 yX1_get wsX1_get) := goodIn_app (goodIn_of _ (by decide +kernel)) ggX1_bitsOf_X1_get
theorem dX1_bitsOf_0 : decode cX1_bitsOf 0 = .ok (.aload_n 0, 1) := by decide +kernel
theorem dX1_bitsOf_1 : decode cX1_bitsOf 1 = .ok (.iload_n 1, 1) := by decide +kernel
theorem dX1_bitsOf_2 : decode cX1_bitsOf 2 = .ok (.invokevirtual 29, 3) := by decide +kernel
theorem dX1_bitsOf_5 : decode cX1_bitsOf 5 = .ok (.istore_n 2, 1) := by decide +kernel
theorem dX1_bitsOf_6 : decode cX1_bitsOf 6 = .ok (.iload_n 2, 1) := by decide +kernel
theorem dX1_bitsOf_7 : decode cX1_bitsOf 7 = .ok (.ifCond .ne 5, 3) := by decide +kernel
theorem dX1_bitsOf_10 : decode cX1_bitsOf 10 = .ok (.iconst 0, 1) := by decide +kernel
theorem dX1_bitsOf_11 : decode cX1_bitsOf 11 = .ok (.ireturn, 1) := by decide +kernel
theorem dX1_bitsOf_12 : decode cX1_bitsOf 12 = .ok (.bipush 16, 2) := by decide +kernel
theorem dX1_bitsOf_14 : decode cX1_bitsOf 14 = .ok (.iload_n 2, 1) := by decide +kernel
theorem dX1_bitsOf_15 : decode cX1_bitsOf 15 = .ok (.imul, 1) := by decide +kernel
theorem dX1_bitsOf_16 : decode cX1_bitsOf 16 = .ok (.bipush 16, 2) := by decide +kernel
theorem dX1_bitsOf_18 : decode cX1_bitsOf 18 = .ok (.isub, 1) := by decide +kernel
theorem dX1_bitsOf_19 : decode cX1_bitsOf 19 = .ok (.istore_n 3, 1) := by decide +kernel
theorem dX1_bitsOf_20 : decode cX1_bitsOf 20 = .ok (.aload_n 0, 1) := by decide +kernel
theorem dX1_bitsOf_21 : decode cX1_bitsOf 21 = .ok (.iload_n 1, 1) := by decide +kernel
theorem dX1_bitsOf_22 : decode cX1_bitsOf 22 = .ok (.iload_n 2, 1) := by decide +kernel
theorem dX1_bitsOf_23 : decode cX1_bitsOf 23 = .ok (.iconst 1, 1) := by decide +kernel
theorem dX1_bitsOf_24 : decode cX1_bitsOf 24 = .ok (.isub, 1) := by decide +kernel
theorem dX1_bitsOf_25 : decode cX1_bitsOf 25 = .ok (.invokevirtual 25, 3) := by decide +kernel
theorem dX1_bitsOf_28 : decode cX1_bitsOf 28 = .ok (.istore 4, 2) := by decide +kernel
theorem dX1_bitsOf_30 : decode cX1_bitsOf 30 = .ok (.iload 4, 2) := by decide +kernel
theorem dX1_bitsOf_32 : decode cX1_bitsOf 32 = .ok (.ifCond .le 15, 3) := by decide +kernel
theorem dX1_bitsOf_35 : decode cX1_bitsOf 35 = .ok (.iinc 3 1, 3) := by decide +kernel
theorem dX1_bitsOf_38 : decode cX1_bitsOf 38 = .ok (.iload 4, 2) := by decide +kernel
theorem dX1_bitsOf_40 : decode cX1_bitsOf 40 = .ok (.iconst 1, 1) := by decide +kernel
theorem dX1_bitsOf_41 : decode cX1_bitsOf 41 = .ok (.ishr, 1) := by decide +kernel
theorem dX1_bitsOf_42 : decode cX1_bitsOf 42 = .ok (.istore 4, 2) := by decide +kernel
theorem dX1_bitsOf_44 : decode cX1_bitsOf 44 = .ok (.goto (-14), 3) := by decide +kernel
theorem dX1_bitsOf_47 : decode cX1_bitsOf 47 = .ok (.iload_n 3, 1) := by decide +kernel
theorem dX1_bitsOf_48 : decode cX1_bitsOf 48 = .ok (.ireturn, 1) := by decide +kernel
set_option maxRecDepth 20000 in
theorem ggX1_bit_X1_get : GoodIn wsX1_bit wsX1_get := goodIn_r _ [5, 6, 7, 8, 9] (by decide +kernel) (by decide +kernel)
set_option maxRecDepth 20000 in
theorem gX1_bit_X1_get : GoodIn wsX1_bit (wsV RX1 25 RX1 yX1_get wsX1_get) := goodIn_app (goodIn_of _ (by decide +kernel)) ggX1_bit_X1_get
theorem dX1_bit_0 : decode cX1_bit 0 = .ok (.aload_n 0, 1) := by decide +kernel
theorem dX1_bit_1 : decode cX1_bit 1 = .ok (.iload_n 1, 1) := by decide +kernel
theorem dX1_bit_2 : decode cX1_bit 2 = .ok (.iload_n 2, 1) := by decide +kernel
theorem dX1_bit_3 : decode cX1_bit 3 = .ok (.bipush 16, 2) := by decide +kernel
theorem dX1_bit_5 : decode cX1_bit 5 = .ok (.idiv, 1) := by decide +kernel
theorem dX1_bit_6 : decode cX1_bit 6 = .ok (.invokevirtual 25, 3) := by decide +kernel
theorem dX1_bit_9 : decode cX1_bit 9 = .ok (.iload_n 2, 1) := by decide +kernel
theorem dX1_bit_10 : decode cX1_bit 10 = .ok (.bipush 16, 2) := by decide +kernel
theorem dX1_bit_12 : decode cX1_bit 12 = .ok (.irem, 1) := by decide +kernel
theorem dX1_bit_13 : decode cX1_bit 13 = .ok (.ishr, 1) := by decide +kernel
theorem dX1_bit_14 : decode cX1_bit 14 = .ok (.iconst 1, 1) := by decide +kernel
theorem dX1_bit_15 : decode cX1_bit 15 = .ok (.iand, 1) := by decide +kernel
theorem dX1_bit_16 : decode cX1_bit 16 = .ok (.ireturn, 1) := by decide +kernel
set_option maxRecDepth 20000 in
theorem ggX1_order_X1_get : GoodIn wsX1_order wsX1_get := goodIn_r _ [5, 6, 7, 8, 9] (by decide +kernel) (by decide +kernel)
set_option maxRecDepth 20000 in
theorem gX1_order_X1_get : GoodIn wsX1_order (wsV RX1 25 RX1 yX1_get wsX1_get) := goodIn_app (goodIn_of _ (by decide +kernel)) ggX1_order_X1_get
theorem dX1_order_0 : decode cX1_order 0 = .ok (.sipush 2099, 3) := by decide +kernel
theorem dX1_order_3 : decode cX1_order 3 = .ok (.istore_n 3, 1) := by decide +kernel
theorem dX1_order_4 : decode cX1_order 4 = .ok (.iload_n 3, 1) := by decide +kernel
theorem dX1_order_5 : decode cX1_order 5 = .ok (.ifCond .lt 45, 3) := by decide +kernel
theorem dX1_order_8 : decode cX1_order 8 = .ok (.aload_n 0, 1) := by decide +kernel
theorem dX1_order_9 : decode cX1_order 9 = .ok (.iload_n 1, 1) := by decide +kernel
theorem dX1_order_10 : decode cX1_order 10 = .ok (.iload_n 3, 1) := by decide +kernel
theorem dX1_order_11 : decode cX1_order 11 = .ok (.invokevirtual 25, 3) := by decide +kernel
theorem dX1_order_14 : decode cX1_order 14 = .ok (.aload_n 0, 1) := by decide +kernel
theorem dX1_order_15 : decode cX1_order 15 = .ok (.iload_n 2, 1) := by decide +kernel
theorem dX1_order_16 : decode cX1_order 16 = .ok (.iload_n 3, 1) := by decide +kernel
theorem dX1_order_17 : decode cX1_order 17 = .ok (.invokevirtual 25, 3) := by decide +kernel
theorem dX1_order_20 : decode cX1_order 20 = .ok (.if_icmp .eq 24, 3) := by decide +kernel
theorem dX1_order_23 : decode cX1_order 23 = .ok (.aload_n 0, 1) := by decide +kernel
theorem dX1_order_24 : decode cX1_order 24 = .ok (.iload_n 1, 1) := by decide +kernel
theorem dX1_order_25 : decode cX1_order 25 = .ok (.iload_n 3, 1) := by decide +kernel
theorem dX1_order_26 : decode cX1_order 26 = .ok (.invokevirtual 25, 3) := by decide +kernel
theorem dX1_order_29 : decode cX1_order 29 = .ok (.aload_n 0, 1) := by decide +kernel
theorem dX1_order_30 : decode cX1_order 30 = .ok (.iload_n 2, 1) := by decide +kernel
theorem dX1_order_31 : decode cX1_order 31 = .ok (.iload_n 3, 1) := by decide +kernel
theorem dX1_order_32 : decode cX1_order 32 = .ok (.invokevirtual 25, 3) := by decide +kernel
theorem dX1_order_35 : decode cX1_order 35 = .ok (.if_icmp .ge 7, 3) := by decide +kernel
theorem dX1_order_38 : decode cX1_order 38 = .ok (.iconst (-1), 1) := by decide +kernel
theorem dX1_order_39 : decode cX1_order 39 = .ok (.goto 4, 3) := by decide +kernel
theorem dX1_order_42 : decode cX1_order 42 = .ok (.iconst 1, 1) := by decide +kernel
theorem dX1_order_43 : decode cX1_order 43 = .ok (.ireturn, 1) := by decide +kernel
theorem dX1_order_44 : decode cX1_order 44 = .ok (.iinc 3 (-1), 3) := by decide +kernel
theorem dX1_order_47 : decode cX1_order 47 = .ok (.goto (-43), 3) := by decide +kernel
theorem dX1_order_50 : decode cX1_order 50 = .ok (.iconst 0, 1) := by decide +kernel
theorem dX1_order_51 : decode cX1_order 51 = .ok (.ireturn, 1) := by decide +kernel
set_option maxRecDepth 20000 in
theorem ggX1_give_X1_length : GoodIn wsX1_give wsX1_length := goodIn_r _ [7, 8, 9, 10, 6, 11, 12, 21, 22, 23] (by decide +kernel) (by decide +kernel)
set_option maxRecDepth 20000 in
theorem gX1_give_X1_length : GoodIn wsX1_give (wsV RX1 29 RX1 yX1_length wsX1_length) := goodIn_app (goodIn_of _ (by decide +kernel)) ggX1_give_X1_length
set_option maxRecDepth 20000 in
theorem ggX1_give_X1_move : GoodIn wsX1_give wsX1_move := goodIn_r _ [16, 2, 8, 9, 10, 6, 11, 12, 17, 18, 19, 20, 21, 22, 23] (by decide +kernel) (by decide +kernel)
set_option maxRecDepth 20000 in
theorem gX1_give_X1_move : GoodIn wsX1_give (wsV RX1 33 RX1 yX1_move wsX1_move) := goodIn_app (goodIn_of _ (by decide +kernel)) ggX1_give_X1_move
theorem dX1_give_0 : decode cX1_give 0 = .ok (.aload_n 0, 1) := by decide +kernel
theorem dX1_give_1 : decode cX1_give 1 = .ok (.bipush 12, 2) := by decide +kernel
theorem dX1_give_3 : decode cX1_give 3 = .ok (.invokevirtual 29, 3) := by decide +kernel
theorem dX1_give_6 : decode cX1_give 6 = .ok (.sipush 1024, 3) := by decide +kernel
theorem dX1_give_9 : decode cX1_give 9 = .ok (.if_icmp .le 9, 3) := by decide +kernel
theorem dX1_give_12 : decode cX1_give 12 = .ok (.aload_n 0, 1) := by decide +kernel
theorem dX1_give_13 : decode cX1_give 13 = .ok (.iconst 2, 1) := by decide +kernel
theorem dX1_give_14 : decode cX1_give 14 = .ok (.putfield 17, 3) := by decide +kernel
theorem dX1_give_17 : decode cX1_give 17 = .ok (.return_, 1) := by decide +kernel
theorem dX1_give_18 : decode cX1_give 18 = .ok (.aload_n 0, 1) := by decide +kernel
theorem dX1_give_19 : decode cX1_give 19 = .ok (.bipush 12, 2) := by decide +kernel
theorem dX1_give_21 : decode cX1_give 21 = .ok (.invokevirtual 29, 3) := by decide +kernel
theorem dX1_give_24 : decode cX1_give 24 = .ok (.ifCond .ne 11, 3) := by decide +kernel
theorem dX1_give_27 : decode cX1_give 27 = .ok (.aload_n 0, 1) := by decide +kernel
theorem dX1_give_28 : decode cX1_give 28 = .ok (.getfield 7, 3) := by decide +kernel
theorem dX1_give_31 : decode cX1_give 31 = .ok (.bipush 12, 2) := by decide +kernel
theorem dX1_give_33 : decode cX1_give 33 = .ok (.iconst 0, 1) := by decide +kernel
theorem dX1_give_34 : decode cX1_give 34 = .ok (.iastore, 1) := by decide +kernel
theorem dX1_give_35 : decode cX1_give 35 = .ok (.aload_n 0, 1) := by decide +kernel
theorem dX1_give_36 : decode cX1_give 36 = .ok (.iload_n 1, 1) := by decide +kernel
theorem dX1_give_37 : decode cX1_give 37 = .ok (.bipush 12, 2) := by decide +kernel
theorem dX1_give_39 : decode cX1_give 39 = .ok (.invokevirtual 33, 3) := by decide +kernel
theorem dX1_give_42 : decode cX1_give 42 = .ok (.return_, 1) := by decide +kernel
set_option maxRecDepth 20000 in
theorem ggX1_set_X1_isRegister : GoodIn wsX1_set wsX1_isRegister := goodIn_r _ [7] (by decide +kernel) (by decide +kernel)
set_option maxRecDepth 20000 in
theorem gX1_set_X1_isRegister : GoodIn wsX1_set (va_wsS RX1 37 yX1_isRegister wsX1_isRegister) := goodIn_app (goodIn_of _ (by decide +kernel)) ggX1_set_X1_isRegister
set_option maxRecDepth 20000 in
theorem ggX1_set_X1_clear : GoodIn wsX1_set wsX1_clear := goodIn_r _ [11, 2, 12, 13, 14, 6, 15, 16, 17, 18, 19] (by decide +kernel) (by decide +kernel)
set_option maxRecDepth 20000 in
theorem gX1_set_X1_clear : GoodIn wsX1_set (wsV RX1 41 RX1 yX1_clear wsX1_clear) := goodIn_app (goodIn_of _ (by decide +kernel)) ggX1_set_X1_clear
set_option maxRecDepth 20000 in
theorem ggX1_set_X1_put : GoodIn wsX1_set wsX1_put := goodIn_r _ [15, 16, 17, 18, 19] (by decide +kernel) (by decide +kernel)
set_option maxRecDepth 20000 in
theorem gX1_set_X1_put : GoodIn wsX1_set (wsV RX1 21 RX1 yX1_put wsX1_put) := goodIn_app (goodIn_of _ (by decide +kernel)) ggX1_set_X1_put
theorem dX1_set_0 : decode cX1_set 0 = .ok (.aload_n 0, 1) := by decide +kernel
theorem dX1_set_1 : decode cX1_set 1 = .ok (.iload_n 1, 1) := by decide +kernel
theorem dX1_set_2 : decode cX1_set 2 = .ok (.invokestatic 37, 3) := by decide +kernel
theorem dX1_set_5 : decode cX1_set 5 = .ok (.ifCond .eq 7, 3) := by decide +kernel
theorem dX1_set_8 : decode cX1_set 8 = .ok (.iconst 0, 1) := by decide +kernel
theorem dX1_set_9 : decode cX1_set 9 = .ok (.goto 4, 3) := by decide +kernel
theorem dX1_set_12 : decode cX1_set 12 = .ok (.iconst 1, 1) := by decide +kernel
theorem dX1_set_13 : decode cX1_set 13 = .ok (.putfield 17, 3) := by decide +kernel
theorem dX1_set_16 : decode cX1_set 16 = .ok (.aload_n 0, 1) := by decide +kernel
theorem dX1_set_17 : decode cX1_set 17 = .ok (.getfield 17, 3) := by decide +kernel
theorem dX1_set_20 : decode cX1_set 20 = .ok (.ifCond .le 4, 3) := by decide +kernel
theorem dX1_set_23 : decode cX1_set 23 = .ok (.return_, 1) := by decide +kernel
theorem dX1_set_24 : decode cX1_set 24 = .ok (.aload_n 0, 1) := by decide +kernel
theorem dX1_set_25 : decode cX1_set 25 = .ok (.iload_n 1, 1) := by decide +kernel
theorem dX1_set_26 : decode cX1_set 26 = .ok (.invokevirtual 41, 3) := by decide +kernel
theorem dX1_set_29 : decode cX1_set 29 = .ok (.aload_n 0, 1) := by decide +kernel
theorem dX1_set_30 : decode cX1_set 30 = .ok (.getfield 7, 3) := by decide +kernel
theorem dX1_set_33 : decode cX1_set 33 = .ok (.iload_n 1, 1) := by decide +kernel
theorem dX1_set_34 : decode cX1_set 34 = .ok (.lload_n 2, 1) := by decide +kernel
theorem dX1_set_35 : decode cX1_set 35 = .ok (.lconst 0, 1) := by decide +kernel
theorem dX1_set_36 : decode cX1_set 36 = .ok (.lcmp, 1) := by decide +kernel
theorem dX1_set_37 : decode cX1_set 37 = .ok (.ifCond .le 7, 3) := by decide +kernel
theorem dX1_set_40 : decode cX1_set 40 = .ok (.iconst 1, 1) := by decide +kernel
theorem dX1_set_41 : decode cX1_set 41 = .ok (.goto 14, 3) := by decide +kernel
theorem dX1_set_44 : decode cX1_set 44 = .ok (.lload_n 2, 1) := by decide +kernel
theorem dX1_set_45 : decode cX1_set 45 = .ok (.lconst 0, 1) := by decide +kernel
theorem dX1_set_46 : decode cX1_set 46 = .ok (.lcmp, 1) := by decide +kernel
theorem dX1_set_47 : decode cX1_set 47 = .ok (.ifCond .ge 7, 3) := by decide +kernel
theorem dX1_set_50 : decode cX1_set 50 = .ok (.iconst (-1), 1) := by decide +kernel
theorem dX1_set_51 : decode cX1_set 51 = .ok (.goto 4, 3) := by decide +kernel
theorem dX1_set_54 : decode cX1_set 54 = .ok (.iconst 0, 1) := by decide +kernel
theorem dX1_set_55 : decode cX1_set 55 = .ok (.iastore, 1) := by decide +kernel
theorem dX1_set_56 : decode cX1_set 56 = .ok (.lload_n 2, 1) := by decide +kernel
theorem dX1_set_57 : decode cX1_set 57 = .ok (.lconst 0, 1) := by decide +kernel
theorem dX1_set_58 : decode cX1_set 58 = .ok (.lcmp, 1) := by decide +kernel
theorem dX1_set_59 : decode cX1_set 59 = .ok (.ifCond .ge 7, 3) := by decide +kernel
theorem dX1_set_62 : decode cX1_set 62 = .ok (.iconst 1, 1) := by decide +kernel
theorem dX1_set_63 : decode cX1_set 63 = .ok (.goto 4, 3) := by decide +kernel
theorem dX1_set_66 : decode cX1_set 66 = .ok (.iconst 0, 1) := by decide +kernel
theorem dX1_set_67 : decode cX1_set 67 = .ok (.istore 4, 2) := by decide +kernel
theorem dX1_set_69 : decode cX1_set 69 = .ok (.iconst 0, 1) := by decide +kernel
theorem dX1_set_70 : decode cX1_set 70 = .ok (.istore 5, 2) := by decide +kernel
theorem dX1_set_72 : decode cX1_set 72 = .ok (.iload 5, 2) := by decide +kernel
theorem dX1_set_74 : decode cX1_set 74 = .ok (.iconst 4, 1) := by decide +kernel
theorem dX1_set_75 : decode cX1_set 75 = .ok (.if_icmp .ge 57, 3) := by decide +kernel
theorem dX1_set_78 : decode cX1_set 78 = .ok (.lload_n 2, 1) := by decide +kernel
theorem dX1_set_79 : decode cX1_set 79 = .ok (.bipush 16, 2) := by decide +kernel
theorem dX1_set_81 : decode cX1_set 81 = .ok (.iload 5, 2) := by decide +kernel
theorem dX1_set_83 : decode cX1_set 83 = .ok (.imul, 1) := by decide +kernel
theorem dX1_set_84 : decode cX1_set 84 = .ok (.lshr, 1) := by decide +kernel
theorem dX1_set_85 : decode cX1_set 85 = .ok (.l2i, 1) := by decide +kernel
theorem dX1_set_86 : decode cX1_set 86 = .ok (.ldc 45, 2) := by decide +kernel
theorem dX1_set_88 : decode cX1_set 88 = .ok (.iand, 1) := by decide +kernel
theorem dX1_set_89 : decode cX1_set 89 = .ok (.istore 6, 2) := by decide +kernel
theorem dX1_set_91 : decode cX1_set 91 = .ok (.lload_n 2, 1) := by decide +kernel
theorem dX1_set_92 : decode cX1_set 92 = .ok (.lconst 0, 1) := by decide +kernel
theorem dX1_set_93 : decode cX1_set 93 = .ok (.lcmp, 1) := by decide +kernel
theorem dX1_set_94 : decode cX1_set 94 = .ok (.ifCond .ge 20, 3) := by decide +kernel
theorem dX1_set_97 : decode cX1_set 97 = .ok (.ldc 45, 2) := by decide +kernel
theorem dX1_set_99 : decode cX1_set 99 = .ok (.iload 6, 2) := by decide +kernel
theorem dX1_set_101 : decode cX1_set 101 = .ok (.isub, 1) := by decide +kernel
theorem dX1_set_102 : decode cX1_set 102 = .ok (.iload 4, 2) := by decide +kernel
theorem dX1_set_104 : decode cX1_set 104 = .ok (.iadd, 1) := by decide +kernel
theorem dX1_set_105 : decode cX1_set 105 = .ok (.istore 6, 2) := by decide +kernel
theorem dX1_set_107 : decode cX1_set 107 = .ok (.iload 6, 2) := by decide +kernel
theorem dX1_set_109 : decode cX1_set 109 = .ok (.bipush 16, 2) := by decide +kernel
theorem dX1_set_111 : decode cX1_set 111 = .ok (.ishr, 1) := by decide +kernel
theorem dX1_set_112 : decode cX1_set 112 = .ok (.istore 4, 2) := by decide +kernel
theorem dX1_set_114 : decode cX1_set 114 = .ok (.aload_n 0, 1) := by decide +kernel
theorem dX1_set_115 : decode cX1_set 115 = .ok (.iload_n 1, 1) := by decide +kernel
theorem dX1_set_116 : decode cX1_set 116 = .ok (.iload 5, 2) := by decide +kernel
theorem dX1_set_118 : decode cX1_set 118 = .ok (.iload 6, 2) := by decide +kernel
theorem dX1_set_120 : decode cX1_set 120 = .ok (.ldc 45, 2) := by decide +kernel
theorem dX1_set_122 : decode cX1_set 122 = .ok (.iand, 1) := by decide +kernel
theorem dX1_set_123 : decode cX1_set 123 = .ok (.invokevirtual 21, 3) := by decide +kernel
theorem dX1_set_126 : decode cX1_set 126 = .ok (.iinc 5 1, 3) := by decide +kernel
theorem dX1_set_129 : decode cX1_set 129 = .ok (.goto (-57), 3) := by decide +kernel
theorem dX1_set_132 : decode cX1_set 132 = .ok (.return_, 1) := by decide +kernel
set_option maxRecDepth 20000 in
theorem ggX1_append_X1_isRegister : GoodIn wsX1_append wsX1_isRegister := goodIn_r _ [7] (by decide +kernel) (by decide +kernel)
set_option maxRecDepth 20000 in
theorem gX1_append_X1_isRegister : GoodIn wsX1_append (va_wsS RX1 37 yX1_isRegister wsX1_isRegister) := goodIn_app (goodIn_of _ (by decide +kernel)) ggX1_append_X1_isRegister
set_option maxRecDepth 20000 in
theorem ggX1_append_X1_clear : GoodIn wsX1_append wsX1_clear := goodIn_r _ [11, 3, 12, 13, 14, 6, 15, 16, 33, 34, 35] (by decide +kernel) (by decide +kernel)
set_option maxRecDepth 20000 in
theorem gX1_append_X1_clear : GoodIn wsX1_append (wsV RX1 41 RX1 yX1_clear wsX1_clear) := goodIn_app (goodIn_of _ (by decide +kernel)) ggX1_append_X1_clear
set_option maxRecDepth 20000 in
theorem ggX1_append_X1_get : GoodIn wsX1_append wsX1_get := goodIn_r _ [20, 16, 33, 34, 35] (by decide +kernel) (by decide +kernel)
set_option maxRecDepth 20000 in
theorem gX1_append_X1_get : GoodIn wsX1_append (wsV RX1 25 RX1 yX1_get wsX1_get) := goodIn_app (goodIn_of _ (by decide +kernel)) ggX1_append_X1_get
set_option maxRecDepth 20000 in
theorem ggX1_append_X1_put : GoodIn wsX1_append wsX1_put := goodIn_r _ [15, 16, 33, 34, 35] (by decide +kernel) (by decide +kernel)
set_option maxRecDepth 20000 in
theorem gX1_append_X1_put : GoodIn wsX1_append (wsV RX1 21 RX1 yX1_put wsX1_put) := goodIn_app (goodIn_of _ (by decide +kernel)) ggX1_append_X1_put
set_option maxRecDepth 20000 in
theorem ggX1_append_X1_give : GoodIn wsX1_append wsX1_give := goodIn_r _ [24, 1, 3, 25, 26, 27, 6, 28, 17, 18, 19, 20, 16, 29, 30, 31, 32, 12, 13, 14, 15, 33, 34, 35] (by decide +kernel) (by decide +kernel)
set_option maxRecDepth 20000 in
theorem gX1_append_X1_give : GoodIn wsX1_append (wsV RX1 46 RX1 yX1_give wsX1_give) := goodIn_app (goodIn_of _ (by decide +kernel)) ggX1_append_X1_give
theorem dX1_append_0 : decode cX1_append 0 = .ok (.aload_n 0, 1) := by decide +kernel
theorem dX1_append_1 : decode cX1_append 1 = .ok (.iload_n 1, 1) := by decide +kernel
theorem dX1_append_2 : decode cX1_append 2 = .ok (.invokestatic 37, 3) := by decide +kernel
theorem dX1_append_5 : decode cX1_append 5 = .ok (.ifCond .eq 7, 3) := by decide +kernel
theorem dX1_append_8 : decode cX1_append 8 = .ok (.iconst 0, 1) := by decide +kernel
theorem dX1_append_9 : decode cX1_append 9 = .ok (.goto 4, 3) := by decide +kernel
theorem dX1_append_12 : decode cX1_append 12 = .ok (.iconst 1, 1) := by decide +kernel
theorem dX1_append_13 : decode cX1_append 13 = .ok (.putfield 17, 3) := by decide +kernel
theorem dX1_append_16 : decode cX1_append 16 = .ok (.aload_n 0, 1) := by decide +kernel
theorem dX1_append_17 : decode cX1_append 17 = .ok (.getfield 17, 3) := by decide +kernel
theorem dX1_append_20 : decode cX1_append 20 = .ok (.ifCond .le 4, 3) := by decide +kernel
theorem dX1_append_23 : decode cX1_append 23 = .ok (.return_, 1) := by decide +kernel
theorem dX1_append_24 : decode cX1_append 24 = .ok (.aload_n 0, 1) := by decide +kernel
theorem dX1_append_25 : decode cX1_append 25 = .ok (.bipush 12, 2) := by decide +kernel
theorem dX1_append_27 : decode cX1_append 27 = .ok (.invokevirtual 41, 3) := by decide +kernel
theorem dX1_append_30 : decode cX1_append 30 = .ok (.iconst 0, 1) := by decide +kernel
theorem dX1_append_31 : decode cX1_append 31 = .ok (.istore_n 3, 1) := by decide +kernel
theorem dX1_append_32 : decode cX1_append 32 = .ok (.iload_n 3, 1) := by decide +kernel
theorem dX1_append_33 : decode cX1_append 33 = .ok (.sipush 1024, 3) := by decide +kernel
theorem dX1_append_36 : decode cX1_append 36 = .ok (.if_icmp .ge 24, 3) := by decide +kernel
theorem dX1_append_39 : decode cX1_append 39 = .ok (.aload_n 0, 1) := by decide +kernel
theorem dX1_append_40 : decode cX1_append 40 = .ok (.bipush 12, 2) := by decide +kernel
theorem dX1_append_42 : decode cX1_append 42 = .ok (.iload_n 3, 1) := by decide +kernel
theorem dX1_append_43 : decode cX1_append 43 = .ok (.iconst 2, 1) := by decide +kernel
theorem dX1_append_44 : decode cX1_append 44 = .ok (.iadd, 1) := by decide +kernel
theorem dX1_append_45 : decode cX1_append 45 = .ok (.aload_n 0, 1) := by decide +kernel
theorem dX1_append_46 : decode cX1_append 46 = .ok (.iload_n 1, 1) := by decide +kernel
theorem dX1_append_47 : decode cX1_append 47 = .ok (.iload_n 3, 1) := by decide +kernel
theorem dX1_append_48 : decode cX1_append 48 = .ok (.invokevirtual 25, 3) := by decide +kernel
theorem dX1_append_51 : decode cX1_append 51 = .ok (.invokevirtual 21, 3) := by decide +kernel
theorem dX1_append_54 : decode cX1_append 54 = .ok (.iinc 3 1, 3) := by decide +kernel
theorem dX1_append_57 : decode cX1_append 57 = .ok (.goto (-25), 3) := by decide +kernel
theorem dX1_append_60 : decode cX1_append 60 = .ok (.aload_n 0, 1) := by decide +kernel
theorem dX1_append_61 : decode cX1_append 61 = .ok (.bipush 12, 2) := by decide +kernel
theorem dX1_append_63 : decode cX1_append 63 = .ok (.iconst 0, 1) := by decide +kernel
theorem dX1_append_64 : decode cX1_append 64 = .ok (.iload_n 2, 1) := by decide +kernel
theorem dX1_append_65 : decode cX1_append 65 = .ok (.ldc 45, 2) := by decide +kernel
theorem dX1_append_67 : decode cX1_append 67 = .ok (.iand, 1) := by decide +kernel
theorem dX1_append_68 : decode cX1_append 68 = .ok (.invokevirtual 21, 3) := by decide +kernel
theorem dX1_append_71 : decode cX1_append 71 = .ok (.aload_n 0, 1) := by decide +kernel
theorem dX1_append_72 : decode cX1_append 72 = .ok (.bipush 12, 2) := by decide +kernel
theorem dX1_append_74 : decode cX1_append 74 = .ok (.iconst 1, 1) := by decide +kernel
theorem dX1_append_75 : decode cX1_append 75 = .ok (.iload_n 2, 1) := by decide +kernel
theorem dX1_append_76 : decode cX1_append 76 = .ok (.bipush 16, 2) := by decide +kernel
theorem dX1_append_78 : decode cX1_append 78 = .ok (.iushr, 1) := by decide +kernel
theorem dX1_append_79 : decode cX1_append 79 = .ok (.invokevirtual 21, 3) := by decide +kernel
theorem dX1_append_82 : decode cX1_append 82 = .ok (.aload_n 0, 1) := by decide +kernel
theorem dX1_append_83 : decode cX1_append 83 = .ok (.getfield 7, 3) := by decide +kernel
theorem dX1_append_86 : decode cX1_append 86 = .ok (.bipush 12, 2) := by decide +kernel
theorem dX1_append_88 : decode cX1_append 88 = .ok (.aload_n 0, 1) := by decide +kernel
theorem dX1_append_89 : decode cX1_append 89 = .ok (.getfield 7, 3) := by decide +kernel
theorem dX1_append_92 : decode cX1_append 92 = .ok (.iload_n 1, 1) := by decide +kernel
theorem dX1_append_93 : decode cX1_append 93 = .ok (.iaload, 1) := by decide +kernel
theorem dX1_append_94 : decode cX1_append 94 = .ok (.ifCond .ge 7, 3) := by decide +kernel
theorem dX1_append_97 : decode cX1_append 97 = .ok (.iconst (-1), 1) := by decide +kernel
theorem dX1_append_98 : decode cX1_append 98 = .ok (.goto 4, 3) := by decide +kernel
theorem dX1_append_101 : decode cX1_append 101 = .ok (.iconst 1, 1) := by decide +kernel
theorem dX1_append_102 : decode cX1_append 102 = .ok (.iastore, 1) := by decide +kernel
theorem dX1_append_103 : decode cX1_append 103 = .ok (.aload_n 0, 1) := by decide +kernel
theorem dX1_append_104 : decode cX1_append 104 = .ok (.iload_n 1, 1) := by decide +kernel
theorem dX1_append_105 : decode cX1_append 105 = .ok (.invokevirtual 46, 3) := by decide +kernel
theorem dX1_append_108 : decode cX1_append 108 = .ok (.return_, 1) := by decide +kernel
set_option maxRecDepth 20000 in
theorem ggX1_negate_X1_isRegister : GoodIn wsX1_negate wsX1_isRegister := goodIn_r _ [6] (by decide +kernel) (by decide +kernel)
set_option maxRecDepth 20000 in
theorem gX1_negate_X1_isRegister : GoodIn wsX1_negate (va_wsS RX1 37 yX1_isRegister wsX1_isRegister) := goodIn_app (goodIn_of _ (by decide +kernel)) ggX1_negate_X1_isRegister
theorem dX1_negate_0 : decode cX1_negate 0 = .ok (.aload_n 0, 1) := by decide +kernel
theorem dX1_negate_1 : decode cX1_negate 1 = .ok (.iload_n 1, 1) := by decide +kernel
theorem dX1_negate_2 : decode cX1_negate 2 = .ok (.invokestatic 37, 3) := by decide +kernel
theorem dX1_negate_5 : decode cX1_negate 5 = .ok (.ifCond .eq 7, 3) := by decide +kernel
theorem dX1_negate_8 : decode cX1_negate 8 = .ok (.iconst 0, 1) := by decide +kernel
theorem dX1_negate_9 : decode cX1_negate 9 = .ok (.goto 4, 3) := by decide +kernel
theorem dX1_negate_12 : decode cX1_negate 12 = .ok (.iconst 1, 1) := by decide +kernel
theorem dX1_negate_13 : decode cX1_negate 13 = .ok (.putfield 17, 3) := by decide +kernel
theorem dX1_negate_16 : decode cX1_negate 16 = .ok (.aload_n 0, 1) := by decide +kernel
theorem dX1_negate_17 : decode cX1_negate 17 = .ok (.getfield 17, 3) := by decide +kernel
theorem dX1_negate_20 : decode cX1_negate 20 = .ok (.ifCond .ne 16, 3) := by decide +kernel
theorem dX1_negate_23 : decode cX1_negate 23 = .ok (.aload_n 0, 1) := by decide +kernel
theorem dX1_negate_24 : decode cX1_negate 24 = .ok (.getfield 7, 3) := by decide +kernel
theorem dX1_negate_27 : decode cX1_negate 27 = .ok (.iload_n 1, 1) := by decide +kernel
theorem dX1_negate_28 : decode cX1_negate 28 = .ok (.aload_n 0, 1) := by decide +kernel
theorem dX1_negate_29 : decode cX1_negate 29 = .ok (.getfield 7, 3) := by decide +kernel
theorem dX1_negate_32 : decode cX1_negate 32 = .ok (.iload_n 1, 1) := by decide +kernel
theorem dX1_negate_33 : decode cX1_negate 33 = .ok (.iaload, 1) := by decide +kernel
theorem dX1_negate_34 : decode cX1_negate 34 = .ok (.ineg, 1) := by decide +kernel
theorem dX1_negate_35 : decode cX1_negate 35 = .ok (.iastore, 1) := by decide +kernel
theorem dX1_negate_36 : decode cX1_negate 36 = .ok (.return_, 1) := by decide +kernel
set_option maxRecDepth 20000 in
theorem ggX1_copy_X1_isRegister : GoodIn wsX1_copy wsX1_isRegister := goodIn_r _ [5] (by decide +kernel) (by decide +kernel)
set_option maxRecDepth 20000 in
theorem gX1_copy_X1_isRegister : GoodIn wsX1_copy (va_wsS RX1 37 yX1_isRegister wsX1_isRegister) := goodIn_app (goodIn_of _ (by decide +kernel)) ggX1_copy_X1_isRegister
set_option maxRecDepth 20000 in
theorem ggX1_copy_X1_move : GoodIn wsX1_copy wsX1_move := goodIn_r _ [9, 10, 11, 12, 13, 4, 14, 15, 16, 17, 18, 19, 20, 21, 22] (by decide +kernel) (by decide +kernel)
set_option maxRecDepth 20000 in
theorem gX1_copy_X1_move : GoodIn wsX1_copy (wsV RX1 33 RX1 yX1_move wsX1_move) := goodIn_app (goodIn_of _ (by decide +kernel)) ggX1_copy_X1_move
theorem dX1_copy_0 : decode cX1_copy 0 = .ok (.aload_n 0, 1) := by decide +kernel
theorem dX1_copy_1 : decode cX1_copy 1 = .ok (.iload_n 1, 1) := by decide +kernel
theorem dX1_copy_2 : decode cX1_copy 2 = .ok (.invokestatic 37, 3) := by decide +kernel
theorem dX1_copy_5 : decode cX1_copy 5 = .ok (.ifCond .eq 14, 3) := by decide +kernel
theorem dX1_copy_8 : decode cX1_copy 8 = .ok (.iload_n 2, 1) := by decide +kernel
theorem dX1_copy_9 : decode cX1_copy 9 = .ok (.invokestatic 37, 3) := by decide +kernel
theorem dX1_copy_12 : decode cX1_copy 12 = .ok (.ifCond .eq 7, 3) := by decide +kernel
theorem dX1_copy_15 : decode cX1_copy 15 = .ok (.iconst 0, 1) := by decide +kernel
theorem dX1_copy_16 : decode cX1_copy 16 = .ok (.goto 4, 3) := by decide +kernel
theorem dX1_copy_19 : decode cX1_copy 19 = .ok (.iconst 1, 1) := by decide +kernel
theorem dX1_copy_20 : decode cX1_copy 20 = .ok (.putfield 17, 3) := by decide +kernel
theorem dX1_copy_23 : decode cX1_copy 23 = .ok (.aload_n 0, 1) := by decide +kernel
theorem dX1_copy_24 : decode cX1_copy 24 = .ok (.getfield 17, 3) := by decide +kernel
theorem dX1_copy_27 : decode cX1_copy 27 = .ok (.ifCond .ne 9, 3) := by decide +kernel
theorem dX1_copy_30 : decode cX1_copy 30 = .ok (.aload_n 0, 1) := by decide +kernel
theorem dX1_copy_31 : decode cX1_copy 31 = .ok (.iload_n 1, 1) := by decide +kernel
theorem dX1_copy_32 : decode cX1_copy 32 = .ok (.iload_n 2, 1) := by decide +kernel
theorem dX1_copy_33 : decode cX1_copy 33 = .ok (.invokevirtual 33, 3) := by decide +kernel
theorem dX1_copy_36 : decode cX1_copy 36 = .ok (.return_, 1) := by decide +kernel
set_option maxRecDepth 20000 in
theorem ggX1_take_X1_isRegister : GoodIn wsX1_take wsX1_isRegister := goodIn_r _ [5] (by decide +kernel) (by decide +kernel)
set_option maxRecDepth 20000 in
theorem gX1_take_X1_isRegister : GoodIn wsX1_take (va_wsS RX1 37 yX1_isRegister wsX1_isRegister) := goodIn_app (goodIn_of _ (by decide +kernel)) ggX1_take_X1_isRegister
set_option maxRecDepth 20000 in
theorem ggX1_take_X1_move : GoodIn wsX1_take wsX1_move := goodIn_r _ [9, 10, 11, 12, 13, 4, 14, 15, 16, 17, 18, 19, 24, 25, 26] (by decide +kernel) (by decide +kernel)
set_option maxRecDepth 20000 in
theorem gX1_take_X1_move : GoodIn wsX1_take (wsV RX1 33 RX1 yX1_move wsX1_move) := goodIn_app (goodIn_of _ (by decide +kernel)) ggX1_take_X1_move
set_option maxRecDepth 20000 in
theorem ggX1_take_X1_clear : GoodIn wsX1_take wsX1_clear := goodIn_r _ [23, 10, 16, 17, 18, 4, 19, 15, 24, 25, 26] (by decide +kernel) (by decide +kernel)
set_option maxRecDepth 20000 in
theorem gX1_take_X1_clear : GoodIn wsX1_take (wsV RX1 41 RX1 yX1_clear wsX1_clear) := goodIn_app (goodIn_of _ (by decide +kernel)) ggX1_take_X1_clear
theorem dX1_take_0 : decode cX1_take 0 = .ok (.aload_n 0, 1) := by decide +kernel
theorem dX1_take_1 : decode cX1_take 1 = .ok (.iload_n 1, 1) := by decide +kernel
theorem dX1_take_2 : decode cX1_take 2 = .ok (.invokestatic 37, 3) := by decide +kernel
theorem dX1_take_5 : decode cX1_take 5 = .ok (.ifCond .eq 21, 3) := by decide +kernel
theorem dX1_take_8 : decode cX1_take 8 = .ok (.iload_n 2, 1) := by decide +kernel
theorem dX1_take_9 : decode cX1_take 9 = .ok (.invokestatic 37, 3) := by decide +kernel
theorem dX1_take_12 : decode cX1_take 12 = .ok (.ifCond .eq 14, 3) := by decide +kernel
theorem dX1_take_15 : decode cX1_take 15 = .ok (.iload_n 3, 1) := by decide +kernel
theorem dX1_take_16 : decode cX1_take 16 = .ok (.invokestatic 37, 3) := by decide +kernel
theorem dX1_take_19 : decode cX1_take 19 = .ok (.ifCond .eq 7, 3) := by decide +kernel
theorem dX1_take_22 : decode cX1_take 22 = .ok (.iconst 0, 1) := by decide +kernel
theorem dX1_take_23 : decode cX1_take 23 = .ok (.goto 4, 3) := by decide +kernel
theorem dX1_take_26 : decode cX1_take 26 = .ok (.iconst 1, 1) := by decide +kernel
theorem dX1_take_27 : decode cX1_take 27 = .ok (.putfield 17, 3) := by decide +kernel
theorem dX1_take_30 : decode cX1_take 30 = .ok (.aload_n 0, 1) := by decide +kernel
theorem dX1_take_31 : decode cX1_take 31 = .ok (.getfield 17, 3) := by decide +kernel
theorem dX1_take_34 : decode cX1_take 34 = .ok (.ifCond .le 5, 3) := by decide +kernel
theorem dX1_take_37 : decode cX1_take 37 = .ok (.iconst 0, 1) := by decide +kernel
theorem dX1_take_38 : decode cX1_take 38 = .ok (.ireturn, 1) := by decide +kernel
theorem dX1_take_39 : decode cX1_take 39 = .ok (.aload_n 0, 1) := by decide +kernel
theorem dX1_take_40 : decode cX1_take 40 = .ok (.bipush 14, 2) := by decide +kernel
theorem dX1_take_42 : decode cX1_take 42 = .ok (.iload_n 2, 1) := by decide +kernel
theorem dX1_take_43 : decode cX1_take 43 = .ok (.invokevirtual 33, 3) := by decide +kernel
theorem dX1_take_46 : decode cX1_take 46 = .ok (.aload_n 0, 1) := by decide +kernel
theorem dX1_take_47 : decode cX1_take 47 = .ok (.bipush 15, 2) := by decide +kernel
theorem dX1_take_49 : decode cX1_take 49 = .ok (.iload_n 3, 1) := by decide +kernel
theorem dX1_take_50 : decode cX1_take 50 = .ok (.invokevirtual 33, 3) := by decide +kernel
theorem dX1_take_53 : decode cX1_take 53 = .ok (.aload_n 0, 1) := by decide +kernel
theorem dX1_take_54 : decode cX1_take 54 = .ok (.bipush 12, 2) := by decide +kernel
theorem dX1_take_56 : decode cX1_take 56 = .ok (.invokevirtual 41, 3) := by decide +kernel
theorem dX1_take_59 : decode cX1_take 59 = .ok (.iconst 1, 1) := by decide +kernel
theorem dX1_take_60 : decode cX1_take 60 = .ok (.ireturn, 1) := by decide +kernel
set_option maxRecDepth 20000 in
theorem ggX1_sum_X1_get : GoodIn wsX1_sum wsX1_get := goodIn_r _ [7, 8, 21, 22, 23] (by decide +kernel) (by decide +kernel)
set_option maxRecDepth 20000 in
theorem gX1_sum_X1_get : GoodIn wsX1_sum (wsV RX1 25 RX1 yX1_get wsX1_get) := goodIn_app (goodIn_of _ (by decide +kernel)) ggX1_sum_X1_get
set_option maxRecDepth 20000 in
theorem ggX1_sum_X1_put : GoodIn wsX1_sum wsX1_put := goodIn_r _ [12, 8, 21, 22, 23] (by decide +kernel) (by decide +kernel)
set_option maxRecDepth 20000 in
theorem gX1_sum_X1_put : GoodIn wsX1_sum (wsV RX1 21 RX1 yX1_put wsX1_put) := goodIn_app (goodIn_of _ (by decide +kernel)) ggX1_sum_X1_put
set_option maxRecDepth 20000 in
theorem ggX1_sum_X1_order : GoodIn wsX1_sum wsX1_order := goodIn_r _ [16, 3, 4, 5, 6, 7, 8, 21, 22, 23] (by decide +kernel) (by decide +kernel)
set_option maxRecDepth 20000 in
theorem gX1_sum_X1_order : GoodIn wsX1_sum (wsV RX1 49 RX1 yX1_order wsX1_order) := goodIn_app (goodIn_of _ (by decide +kernel)) ggX1_sum_X1_order
set_option maxRecDepth 20000 in
theorem ggX1_sum_X1_less : GoodIn wsX1_sum wsX1_less := goodIn_r _ [20, 3, 4, 5, 6, 7, 8, 9, 10, 11, 12, 21, 22, 23] (by decide +kernel) (by decide +kernel)
set_option maxRecDepth 20000 in
theorem gX1_sum_X1_less : GoodIn wsX1_sum (wsV RX1 52 RX1 yX1_less wsX1_less) := goodIn_app (goodIn_of _ (by decide +kernel)) ggX1_sum_X1_less
theorem dX1_sum_0 : decode cX1_sum 0 = .ok (.aload_n 0, 1) := by decide +kernel
theorem dX1_sum_1 : decode cX1_sum 1 = .ok (.getfield 7, 3) := by decide +kernel
theorem dX1_sum_4 : decode cX1_sum 4 = .ok (.bipush 14, 2) := by decide +kernel
theorem dX1_sum_6 : decode cX1_sum 6 = .ok (.iaload, 1) := by decide +kernel
theorem dX1_sum_7 : decode cX1_sum 7 = .ok (.aload_n 0, 1) := by decide +kernel
theorem dX1_sum_8 : decode cX1_sum 8 = .ok (.getfield 7, 3) := by decide +kernel
theorem dX1_sum_11 : decode cX1_sum 11 = .ok (.bipush 15, 2) := by decide +kernel
theorem dX1_sum_13 : decode cX1_sum 13 = .ok (.iaload, 1) := by decide +kernel
theorem dX1_sum_14 : decode cX1_sum 14 = .ok (.if_icmp .eq 23, 3) := by decide +kernel
theorem dX1_sum_17 : decode cX1_sum 17 = .ok (.aload_n 0, 1) := by decide +kernel
theorem dX1_sum_18 : decode cX1_sum 18 = .ok (.getfield 7, 3) := by decide +kernel
theorem dX1_sum_21 : decode cX1_sum 21 = .ok (.bipush 14, 2) := by decide +kernel
theorem dX1_sum_23 : decode cX1_sum 23 = .ok (.iaload, 1) := by decide +kernel
theorem dX1_sum_24 : decode cX1_sum 24 = .ok (.ifCond .eq 13, 3) := by decide +kernel
theorem dX1_sum_27 : decode cX1_sum 27 = .ok (.aload_n 0, 1) := by decide +kernel
theorem dX1_sum_28 : decode cX1_sum 28 = .ok (.getfield 7, 3) := by decide +kernel
theorem dX1_sum_31 : decode cX1_sum 31 = .ok (.bipush 15, 2) := by decide +kernel
theorem dX1_sum_33 : decode cX1_sum 33 = .ok (.iaload, 1) := by decide +kernel
theorem dX1_sum_34 : decode cX1_sum 34 = .ok (.ifCond .ne 89, 3) := by decide +kernel
theorem dX1_sum_37 : decode cX1_sum 37 = .ok (.iconst 0, 1) := by decide +kernel
theorem dX1_sum_38 : decode cX1_sum 38 = .ok (.istore_n 1, 1) := by decide +kernel
theorem dX1_sum_39 : decode cX1_sum 39 = .ok (.iconst 0, 1) := by decide +kernel
theorem dX1_sum_40 : decode cX1_sum 40 = .ok (.istore_n 2, 1) := by decide +kernel
theorem dX1_sum_41 : decode cX1_sum 41 = .ok (.iload_n 2, 1) := by decide +kernel
theorem dX1_sum_42 : decode cX1_sum 42 = .ok (.sipush 2100, 3) := by decide +kernel
theorem dX1_sum_45 : decode cX1_sum 45 = .ok (.if_icmp .ge 43, 3) := by decide +kernel
theorem dX1_sum_48 : decode cX1_sum 48 = .ok (.iload_n 1, 1) := by decide +kernel
theorem dX1_sum_49 : decode cX1_sum 49 = .ok (.aload_n 0, 1) := by decide +kernel
theorem dX1_sum_50 : decode cX1_sum 50 = .ok (.bipush 14, 2) := by decide +kernel
theorem dX1_sum_52 : decode cX1_sum 52 = .ok (.iload_n 2, 1) := by decide +kernel
theorem dX1_sum_53 : decode cX1_sum 53 = .ok (.invokevirtual 25, 3) := by decide +kernel
theorem dX1_sum_56 : decode cX1_sum 56 = .ok (.aload_n 0, 1) := by decide +kernel
theorem dX1_sum_57 : decode cX1_sum 57 = .ok (.bipush 15, 2) := by decide +kernel
theorem dX1_sum_59 : decode cX1_sum 59 = .ok (.iload_n 2, 1) := by decide +kernel
theorem dX1_sum_60 : decode cX1_sum 60 = .ok (.invokevirtual 25, 3) := by decide +kernel
theorem dX1_sum_63 : decode cX1_sum 63 = .ok (.iadd, 1) := by decide +kernel
theorem dX1_sum_64 : decode cX1_sum 64 = .ok (.iadd, 1) := by decide +kernel
theorem dX1_sum_65 : decode cX1_sum 65 = .ok (.istore_n 1, 1) := by decide +kernel
theorem dX1_sum_66 : decode cX1_sum 66 = .ok (.aload_n 0, 1) := by decide +kernel
theorem dX1_sum_67 : decode cX1_sum 67 = .ok (.bipush 12, 2) := by decide +kernel
theorem dX1_sum_69 : decode cX1_sum 69 = .ok (.iload_n 2, 1) := by decide +kernel
theorem dX1_sum_70 : decode cX1_sum 70 = .ok (.iload_n 1, 1) := by decide +kernel
theorem dX1_sum_71 : decode cX1_sum 71 = .ok (.ldc 45, 2) := by decide +kernel
theorem dX1_sum_73 : decode cX1_sum 73 = .ok (.iand, 1) := by decide +kernel
theorem dX1_sum_74 : decode cX1_sum 74 = .ok (.invokevirtual 21, 3) := by decide +kernel
theorem dX1_sum_77 : decode cX1_sum 77 = .ok (.iload_n 1, 1) := by decide +kernel
theorem dX1_sum_78 : decode cX1_sum 78 = .ok (.bipush 16, 2) := by decide +kernel
theorem dX1_sum_80 : decode cX1_sum 80 = .ok (.ishr, 1) := by decide +kernel
theorem dX1_sum_81 : decode cX1_sum 81 = .ok (.istore_n 1, 1) := by decide +kernel
theorem dX1_sum_82 : decode cX1_sum 82 = .ok (.iinc 2 1, 3) := by decide +kernel
theorem dX1_sum_85 : decode cX1_sum 85 = .ok (.goto (-44), 3) := by decide +kernel
theorem dX1_sum_88 : decode cX1_sum 88 = .ok (.aload_n 0, 1) := by decide +kernel
theorem dX1_sum_89 : decode cX1_sum 89 = .ok (.getfield 7, 3) := by decide +kernel
theorem dX1_sum_92 : decode cX1_sum 92 = .ok (.bipush 12, 2) := by decide +kernel
theorem dX1_sum_94 : decode cX1_sum 94 = .ok (.aload_n 0, 1) := by decide +kernel
theorem dX1_sum_95 : decode cX1_sum 95 = .ok (.getfield 7, 3) := by decide +kernel
theorem dX1_sum_98 : decode cX1_sum 98 = .ok (.bipush 14, 2) := by decide +kernel
theorem dX1_sum_100 : decode cX1_sum 100 = .ok (.iaload, 1) := by decide +kernel
theorem dX1_sum_101 : decode cX1_sum 101 = .ok (.ifCond .ne 13, 3) := by decide +kernel
theorem dX1_sum_104 : decode cX1_sum 104 = .ok (.aload_n 0, 1) := by decide +kernel
theorem dX1_sum_105 : decode cX1_sum 105 = .ok (.getfield 7, 3) := by decide +kernel
theorem dX1_sum_108 : decode cX1_sum 108 = .ok (.bipush 15, 2) := by decide +kernel
theorem dX1_sum_110 : decode cX1_sum 110 = .ok (.iaload, 1) := by decide +kernel
theorem dX1_sum_111 : decode cX1_sum 111 = .ok (.goto 10, 3) := by decide +kernel
theorem dX1_sum_114 : decode cX1_sum 114 = .ok (.aload_n 0, 1) := by decide +kernel
theorem dX1_sum_115 : decode cX1_sum 115 = .ok (.getfield 7, 3) := by decide +kernel
theorem dX1_sum_118 : decode cX1_sum 118 = .ok (.bipush 14, 2) := by decide +kernel
theorem dX1_sum_120 : decode cX1_sum 120 = .ok (.iaload, 1) := by decide +kernel
theorem dX1_sum_121 : decode cX1_sum 121 = .ok (.iastore, 1) := by decide +kernel
theorem dX1_sum_122 : decode cX1_sum 122 = .ok (.return_, 1) := by decide +kernel
theorem dX1_sum_123 : decode cX1_sum 123 = .ok (.aload_n 0, 1) := by decide +kernel
theorem dX1_sum_124 : decode cX1_sum 124 = .ok (.bipush 14, 2) := by decide +kernel
theorem dX1_sum_126 : decode cX1_sum 126 = .ok (.bipush 15, 2) := by decide +kernel
theorem dX1_sum_128 : decode cX1_sum 128 = .ok (.invokevirtual 49, 3) := by decide +kernel
theorem dX1_sum_131 : decode cX1_sum 131 = .ok (.ifCond .ge 7, 3) := by decide +kernel
theorem dX1_sum_134 : decode cX1_sum 134 = .ok (.iconst 1, 1) := by decide +kernel
theorem dX1_sum_135 : decode cX1_sum 135 = .ok (.goto 4, 3) := by decide +kernel
theorem dX1_sum_138 : decode cX1_sum 138 = .ok (.iconst 0, 1) := by decide +kernel
theorem dX1_sum_139 : decode cX1_sum 139 = .ok (.istore_n 1, 1) := by decide +kernel
theorem dX1_sum_140 : decode cX1_sum 140 = .ok (.iload_n 1, 1) := by decide +kernel
theorem dX1_sum_141 : decode cX1_sum 141 = .ok (.ifCond .eq 8, 3) := by decide +kernel
theorem dX1_sum_144 : decode cX1_sum 144 = .ok (.bipush 15, 2) := by decide +kernel
theorem dX1_sum_146 : decode cX1_sum 146 = .ok (.goto 5, 3) := by decide +kernel
theorem dX1_sum_149 : decode cX1_sum 149 = .ok (.bipush 14, 2) := by decide +kernel
theorem dX1_sum_151 : decode cX1_sum 151 = .ok (.istore_n 2, 1) := by decide +kernel
theorem dX1_sum_152 : decode cX1_sum 152 = .ok (.iload_n 1, 1) := by decide +kernel
theorem dX1_sum_153 : decode cX1_sum 153 = .ok (.ifCond .eq 8, 3) := by decide +kernel
theorem dX1_sum_156 : decode cX1_sum 156 = .ok (.bipush 14, 2) := by decide +kernel
theorem dX1_sum_158 : decode cX1_sum 158 = .ok (.goto 5, 3) := by decide +kernel
theorem dX1_sum_161 : decode cX1_sum 161 = .ok (.bipush 15, 2) := by decide +kernel
theorem dX1_sum_163 : decode cX1_sum 163 = .ok (.istore_n 3, 1) := by decide +kernel
theorem dX1_sum_164 : decode cX1_sum 164 = .ok (.aload_n 0, 1) := by decide +kernel
theorem dX1_sum_165 : decode cX1_sum 165 = .ok (.bipush 12, 2) := by decide +kernel
theorem dX1_sum_167 : decode cX1_sum 167 = .ok (.iload_n 2, 1) := by decide +kernel
theorem dX1_sum_168 : decode cX1_sum 168 = .ok (.iload_n 3, 1) := by decide +kernel
theorem dX1_sum_169 : decode cX1_sum 169 = .ok (.invokevirtual 52, 3) := by decide +kernel
theorem dX1_sum_172 : decode cX1_sum 172 = .ok (.aload_n 0, 1) := by decide +kernel
theorem dX1_sum_173 : decode cX1_sum 173 = .ok (.getfield 7, 3) := by decide +kernel
theorem dX1_sum_176 : decode cX1_sum 176 = .ok (.bipush 12, 2) := by decide +kernel
theorem dX1_sum_178 : decode cX1_sum 178 = .ok (.aload_n 0, 1) := by decide +kernel
theorem dX1_sum_179 : decode cX1_sum 179 = .ok (.getfield 7, 3) := by decide +kernel
theorem dX1_sum_182 : decode cX1_sum 182 = .ok (.iload_n 2, 1) := by decide +kernel
theorem dX1_sum_183 : decode cX1_sum 183 = .ok (.iaload, 1) := by decide +kernel
theorem dX1_sum_184 : decode cX1_sum 184 = .ok (.iastore, 1) := by decide +kernel
theorem dX1_sum_185 : decode cX1_sum 185 = .ok (.return_, 1) := by decide +kernel
set_option maxRecDepth 20000 in
theorem ggX1_less_X1_get : GoodIn wsX1_less wsX1_get := goodIn_r _ [5, 6, 11, 12, 13] (by decide +kernel) (by decide +kernel)
set_option maxRecDepth 20000 in
theorem gX1_less_X1_get : GoodIn wsX1_less (wsV RX1 25 RX1 yX1_get wsX1_get) := goodIn_app (goodIn_of _ (by decide +kernel)) ggX1_less_X1_get
set_option maxRecDepth 20000 in
theorem ggX1_less_X1_put : GoodIn wsX1_less wsX1_put := goodIn_r _ [10, 6, 11, 12, 13] (by decide +kernel) (by decide +kernel)
set_option maxRecDepth 20000 in
theorem gX1_less_X1_put : GoodIn wsX1_less (wsV RX1 21 RX1 yX1_put wsX1_put) := goodIn_app (goodIn_of _ (by decide +kernel)) ggX1_less_X1_put
theorem dX1_less_0 : decode cX1_less 0 = .ok (.iconst 0, 1) := by decide +kernel
theorem dX1_less_1 : decode cX1_less 1 = .ok (.istore 4, 2) := by decide +kernel
theorem dX1_less_3 : decode cX1_less 3 = .ok (.iconst 0, 1) := by decide +kernel
theorem dX1_less_4 : decode cX1_less 4 = .ok (.istore 5, 2) := by decide +kernel
theorem dX1_less_6 : decode cX1_less 6 = .ok (.iload 5, 2) := by decide +kernel
theorem dX1_less_8 : decode cX1_less 8 = .ok (.sipush 2100, 3) := by decide +kernel
theorem dX1_less_11 : decode cX1_less 11 = .ok (.if_icmp .ge 56, 3) := by decide +kernel
theorem dX1_less_14 : decode cX1_less 14 = .ok (.aload_n 0, 1) := by decide +kernel
theorem dX1_less_15 : decode cX1_less 15 = .ok (.iload_n 2, 1) := by decide +kernel
theorem dX1_less_16 : decode cX1_less 16 = .ok (.iload 5, 2) := by decide +kernel
theorem dX1_less_18 : decode cX1_less 18 = .ok (.invokevirtual 25, 3) := by decide +kernel
theorem dX1_less_21 : decode cX1_less 21 = .ok (.aload_n 0, 1) := by decide +kernel
theorem dX1_less_22 : decode cX1_less 22 = .ok (.iload_n 3, 1) := by decide +kernel
theorem dX1_less_23 : decode cX1_less 23 = .ok (.iload 5, 2) := by decide +kernel
theorem dX1_less_25 : decode cX1_less 25 = .ok (.invokevirtual 25, 3) := by decide +kernel
theorem dX1_less_28 : decode cX1_less 28 = .ok (.isub, 1) := by decide +kernel
theorem dX1_less_29 : decode cX1_less 29 = .ok (.iload 4, 2) := by decide +kernel
theorem dX1_less_31 : decode cX1_less 31 = .ok (.isub, 1) := by decide +kernel
theorem dX1_less_32 : decode cX1_less 32 = .ok (.istore 6, 2) := by decide +kernel
theorem dX1_less_34 : decode cX1_less 34 = .ok (.iload 6, 2) := by decide +kernel
theorem dX1_less_36 : decode cX1_less 36 = .ok (.ifCond .ge 7, 3) := by decide +kernel
theorem dX1_less_39 : decode cX1_less 39 = .ok (.iconst 1, 1) := by decide +kernel
theorem dX1_less_40 : decode cX1_less 40 = .ok (.goto 4, 3) := by decide +kernel
theorem dX1_less_43 : decode cX1_less 43 = .ok (.iconst 0, 1) := by decide +kernel
theorem dX1_less_44 : decode cX1_less 44 = .ok (.istore 4, 2) := by decide +kernel
theorem dX1_less_46 : decode cX1_less 46 = .ok (.aload_n 0, 1) := by decide +kernel
theorem dX1_less_47 : decode cX1_less 47 = .ok (.iload_n 1, 1) := by decide +kernel
theorem dX1_less_48 : decode cX1_less 48 = .ok (.iload 5, 2) := by decide +kernel
theorem dX1_less_50 : decode cX1_less 50 = .ok (.iload 6, 2) := by decide +kernel
theorem dX1_less_52 : decode cX1_less 52 = .ok (.iload 4, 2) := by decide +kernel
theorem dX1_less_54 : decode cX1_less 54 = .ok (.bipush 16, 2) := by decide +kernel
theorem dX1_less_56 : decode cX1_less 56 = .ok (.ishl, 1) := by decide +kernel
theorem dX1_less_57 : decode cX1_less 57 = .ok (.iadd, 1) := by decide +kernel
theorem dX1_less_58 : decode cX1_less 58 = .ok (.invokevirtual 21, 3) := by decide +kernel
theorem dX1_less_61 : decode cX1_less 61 = .ok (.iinc 5 1, 3) := by decide +kernel
theorem dX1_less_64 : decode cX1_less 64 = .ok (.goto (-58), 3) := by decide +kernel
theorem dX1_less_67 : decode cX1_less 67 = .ok (.return_, 1) := by decide +kernel
set_option maxRecDepth 20000 in
theorem ggX1_add_X1_take : GoodIn wsX1_add wsX1_take := goodIn_r _ [5, 6, 7, 8, 4, 9, 10, 11, 12, 13, 14, 15, 16, 17, 18, 19, 20, 21, 22, 23, 24, 25, 26, 27, 49, 50, 51] (by decide +kernel) (by decide +kernel)
set_option maxRecDepth 20000 in
theorem gX1_add_X1_take : GoodIn wsX1_add (wsV RX1 55 RX1 yX1_take wsX1_take) := goodIn_app (goodIn_of _ (by decide +kernel)) ggX1_add_X1_take
set_option maxRecDepth 20000 in
theorem ggX1_add_X1_sum : GoodIn wsX1_add wsX1_sum := goodIn_r _ [31, 14, 32, 15, 16, 17, 4, 18, 19, 20, 21, 22, 23, 33, 34, 35, 36, 37, 38, 39, 40, 49, 50, 51] (by decide +kernel) (by decide +kernel)
set_option maxRecDepth 20000 in
theorem gX1_add_X1_sum : GoodIn wsX1_add (wsV RX1 59 RX1 yX1_sum wsX1_sum) := goodIn_app (goodIn_of _ (by decide +kernel)) ggX1_add_X1_sum
set_option maxRecDepth 20000 in
theorem ggX1_add_X1_give : GoodIn wsX1_add wsX1_give := goodIn_r _ [44, 6, 14, 45, 46, 47, 4, 48, 15, 16, 17, 18, 19, 10, 11, 12, 13, 20, 21, 22, 23, 49, 50, 51] (by decide +kernel) (by decide +kernel)
set_option maxRecDepth 20000 in
theorem gX1_add_X1_give : GoodIn wsX1_add (wsV RX1 46 RX1 yX1_give wsX1_give) := goodIn_app (goodIn_of _ (by decide +kernel)) ggX1_add_X1_give
theorem dX1_add_0 : decode cX1_add 0 = .ok (.aload_n 0, 1) := by decide +kernel
theorem dX1_add_1 : decode cX1_add 1 = .ok (.iload_n 1, 1) := by decide +kernel
theorem dX1_add_2 : decode cX1_add 2 = .ok (.iload_n 2, 1) := by decide +kernel
theorem dX1_add_3 : decode cX1_add 3 = .ok (.iload_n 3, 1) := by decide +kernel
theorem dX1_add_4 : decode cX1_add 4 = .ok (.invokevirtual 55, 3) := by decide +kernel
theorem dX1_add_7 : decode cX1_add 7 = .ok (.ifCond .ne 4, 3) := by decide +kernel
theorem dX1_add_10 : decode cX1_add 10 = .ok (.return_, 1) := by decide +kernel
theorem dX1_add_11 : decode cX1_add 11 = .ok (.aload_n 0, 1) := by decide +kernel
theorem dX1_add_12 : decode cX1_add 12 = .ok (.invokevirtual 59, 3) := by decide +kernel
theorem dX1_add_15 : decode cX1_add 15 = .ok (.aload_n 0, 1) := by decide +kernel
theorem dX1_add_16 : decode cX1_add 16 = .ok (.iload_n 1, 1) := by decide +kernel
theorem dX1_add_17 : decode cX1_add 17 = .ok (.invokevirtual 46, 3) := by decide +kernel
theorem dX1_add_20 : decode cX1_add 20 = .ok (.return_, 1) := by decide +kernel
set_option maxRecDepth 20000 in
theorem ggX1_subtract_X1_take : GoodIn wsX1_subtract wsX1_take := goodIn_r _ [6, 7, 8, 9, 5, 10, 11, 12, 13, 14, 1, 15, 16, 17, 18, 19, 20, 21, 22, 23, 24, 25, 26, 27, 49, 50, 51] (by decide +kernel) (by decide +kernel)
set_option maxRecDepth 20000 in
theorem gX1_subtract_X1_take : GoodIn wsX1_subtract (wsV RX1 55 RX1 yX1_take wsX1_take) := goodIn_app (goodIn_of _ (by decide +kernel)) ggX1_subtract_X1_take
set_option maxRecDepth 20000 in
theorem ggX1_subtract_X1_sum : GoodIn wsX1_subtract wsX1_sum := goodIn_r _ [31, 1, 32, 15, 16, 17, 5, 18, 19, 20, 21, 22, 23, 33, 34, 35, 36, 37, 38, 39, 40, 49, 50, 51] (by decide +kernel) (by decide +kernel)
set_option maxRecDepth 20000 in
theorem gX1_subtract_X1_sum : GoodIn wsX1_subtract (wsV RX1 59 RX1 yX1_sum wsX1_sum) := goodIn_app (goodIn_of _ (by decide +kernel)) ggX1_subtract_X1_sum
set_option maxRecDepth 20000 in
theorem ggX1_subtract_X1_give : GoodIn wsX1_subtract wsX1_give := goodIn_r _ [44, 7, 1, 45, 46, 47, 5, 48, 15, 16, 17, 18, 19, 11, 12, 13, 14, 20, 21, 22, 23, 49, 50, 51] (by decide +kernel) (by decide +kernel)
set_option maxRecDepth 20000 in
theorem gX1_subtract_X1_give : GoodIn wsX1_subtract (wsV RX1 46 RX1 yX1_give wsX1_give) := goodIn_app (goodIn_of _ (by decide +kernel)) ggX1_subtract_X1_give
theorem dX1_subtract_0 : decode cX1_subtract 0 = .ok (.aload_n 0, 1) := by decide +kernel
theorem dX1_subtract_1 : decode cX1_subtract 1 = .ok (.iload_n 1, 1) := by decide +kernel
theorem dX1_subtract_2 : decode cX1_subtract 2 = .ok (.iload_n 2, 1) := by decide +kernel
theorem dX1_subtract_3 : decode cX1_subtract 3 = .ok (.iload_n 3, 1) := by decide +kernel
theorem dX1_subtract_4 : decode cX1_subtract 4 = .ok (.invokevirtual 55, 3) := by decide +kernel
theorem dX1_subtract_7 : decode cX1_subtract 7 = .ok (.ifCond .ne 4, 3) := by decide +kernel
theorem dX1_subtract_10 : decode cX1_subtract 10 = .ok (.return_, 1) := by decide +kernel
theorem dX1_subtract_11 : decode cX1_subtract 11 = .ok (.aload_n 0, 1) := by decide +kernel
theorem dX1_subtract_12 : decode cX1_subtract 12 = .ok (.getfield 7, 3) := by decide +kernel
theorem dX1_subtract_15 : decode cX1_subtract 15 = .ok (.bipush 15, 2) := by decide +kernel
theorem dX1_subtract_17 : decode cX1_subtract 17 = .ok (.aload_n 0, 1) := by decide +kernel
theorem dX1_subtract_18 : decode cX1_subtract 18 = .ok (.getfield 7, 3) := by decide +kernel
theorem dX1_subtract_21 : decode cX1_subtract 21 = .ok (.bipush 15, 2) := by decide +kernel
theorem dX1_subtract_23 : decode cX1_subtract 23 = .ok (.iaload, 1) := by decide +kernel
theorem dX1_subtract_24 : decode cX1_subtract 24 = .ok (.ineg, 1) := by decide +kernel
theorem dX1_subtract_25 : decode cX1_subtract 25 = .ok (.iastore, 1) := by decide +kernel
theorem dX1_subtract_26 : decode cX1_subtract 26 = .ok (.aload_n 0, 1) := by decide +kernel
theorem dX1_subtract_27 : decode cX1_subtract 27 = .ok (.invokevirtual 59, 3) := by decide +kernel
theorem dX1_subtract_30 : decode cX1_subtract 30 = .ok (.aload_n 0, 1) := by decide +kernel
theorem dX1_subtract_31 : decode cX1_subtract 31 = .ok (.iload_n 1, 1) := by decide +kernel
theorem dX1_subtract_32 : decode cX1_subtract 32 = .ok (.invokevirtual 46, 3) := by decide +kernel
theorem dX1_subtract_35 : decode cX1_subtract 35 = .ok (.return_, 1) := by decide +kernel
set_option maxRecDepth 20000 in
theorem ggX1_multiply_X1_take : GoodIn wsX1_multiply wsX1_take := goodIn_r _ [7, 8, 9, 10, 6, 11, 12, 13, 14, 15, 2, 16, 17, 18, 19, 20, 21, 22, 23, 24, 25, 26, 27, 28, 37, 38, 39] (by decide +kernel) (by decide +kernel)
set_option maxRecDepth 20000 in
theorem gX1_multiply_X1_take : GoodIn wsX1_multiply (wsV RX1 55 RX1 yX1_take wsX1_take) := goodIn_app (goodIn_of _ (by decide +kernel)) ggX1_multiply_X1_take
set_option maxRecDepth 20000 in
theorem ggX1_multiply_X1_length : GoodIn wsX1_multiply wsX1_length := goodIn_r _ [32, 16, 17, 18, 6, 19, 20, 37, 38, 39] (by decide +kernel) (by decide +kernel)
set_option maxRecDepth 20000 in
theorem gX1_multiply_X1_length : GoodIn wsX1_multiply (wsV RX1 29 RX1 yX1_length wsX1_length) := goodIn_app (goodIn_of _ (by decide +kernel)) ggX1_multiply_X1_length
set_option maxRecDepth 20000 in
theorem ggX1_multiply_X1_get : GoodIn wsX1_multiply wsX1_get := goodIn_r _ [19, 20, 37, 38, 39] (by decide +kernel) (by decide +kernel)
set_option maxRecDepth 20000 in
theorem gX1_multiply_X1_get : GoodIn wsX1_multiply (wsV RX1 25 RX1 yX1_get wsX1_get) := goodIn_app (goodIn_of _ (by decide +kernel)) ggX1_multiply_X1_get
set_option maxRecDepth 20000 in
theorem ggX1_multiply_X1_put : GoodIn wsX1_multiply wsX1_put := goodIn_r _ [24, 20, 37, 38, 39] (by decide +kernel) (by decide +kernel)
set_option maxRecDepth 20000 in
theorem gX1_multiply_X1_put : GoodIn wsX1_multiply (wsV RX1 21 RX1 yX1_put wsX1_put) := goodIn_app (goodIn_of _ (by decide +kernel)) ggX1_multiply_X1_put
set_option maxRecDepth 20000 in
theorem ggX1_multiply_X1_give : GoodIn wsX1_multiply wsX1_give := goodIn_r _ [36, 8, 2, 29, 30, 31, 6, 32, 16, 17, 18, 19, 20, 12, 13, 14, 15, 21, 22, 23, 24, 37, 38, 39] (by decide +kernel) (by decide +kernel)
set_option maxRecDepth 20000 in
theorem gX1_multiply_X1_give : GoodIn wsX1_multiply (wsV RX1 46 RX1 yX1_give wsX1_give) := goodIn_app (goodIn_of _ (by decide +kernel)) ggX1_multiply_X1_give
theorem dX1_multiply_0 : decode cX1_multiply 0 = .ok (.aload_n 0, 1) := by decide +kernel
theorem dX1_multiply_1 : decode cX1_multiply 1 = .ok (.iload_n 1, 1) := by decide +kernel
theorem dX1_multiply_2 : decode cX1_multiply 2 = .ok (.iload_n 2, 1) := by decide +kernel
theorem dX1_multiply_3 : decode cX1_multiply 3 = .ok (.iload_n 3, 1) := by decide +kernel
theorem dX1_multiply_4 : decode cX1_multiply 4 = .ok (.invokevirtual 55, 3) := by decide +kernel
theorem dX1_multiply_7 : decode cX1_multiply 7 = .ok (.ifCond .ne 4, 3) := by decide +kernel
theorem dX1_multiply_10 : decode cX1_multiply 10 = .ok (.return_, 1) := by decide +kernel
theorem dX1_multiply_11 : decode cX1_multiply 11 = .ok (.aload_n 0, 1) := by decide +kernel
theorem dX1_multiply_12 : decode cX1_multiply 12 = .ok (.bipush 14, 2) := by decide +kernel
theorem dX1_multiply_14 : decode cX1_multiply 14 = .ok (.invokevirtual 29, 3) := by decide +kernel
theorem dX1_multiply_17 : decode cX1_multiply 17 = .ok (.istore 4, 2) := by decide +kernel
theorem dX1_multiply_19 : decode cX1_multiply 19 = .ok (.aload_n 0, 1) := by decide +kernel
theorem dX1_multiply_20 : decode cX1_multiply 20 = .ok (.bipush 15, 2) := by decide +kernel
theorem dX1_multiply_22 : decode cX1_multiply 22 = .ok (.invokevirtual 29, 3) := by decide +kernel
theorem dX1_multiply_25 : decode cX1_multiply 25 = .ok (.istore 5, 2) := by decide +kernel
theorem dX1_multiply_27 : decode cX1_multiply 27 = .ok (.lconst 0, 1) := by decide +kernel
theorem dX1_multiply_28 : decode cX1_multiply 28 = .ok (.lstore 6, 2) := by decide +kernel
theorem dX1_multiply_30 : decode cX1_multiply 30 = .ok (.iconst 0, 1) := by decide +kernel
theorem dX1_multiply_31 : decode cX1_multiply 31 = .ok (.istore 8, 2) := by decide +kernel
theorem dX1_multiply_33 : decode cX1_multiply 33 = .ok (.iload 8, 2) := by decide +kernel
theorem dX1_multiply_35 : decode cX1_multiply 35 = .ok (.iload 4, 2) := by decide +kernel
theorem dX1_multiply_37 : decode cX1_multiply 37 = .ok (.iload 5, 2) := by decide +kernel
theorem dX1_multiply_39 : decode cX1_multiply 39 = .ok (.iadd, 1) := by decide +kernel
theorem dX1_multiply_40 : decode cX1_multiply 40 = .ok (.if_icmp .ge 102, 3) := by decide +kernel
theorem dX1_multiply_43 : decode cX1_multiply 43 = .ok (.iload 8, 2) := by decide +kernel
theorem dX1_multiply_45 : decode cX1_multiply 45 = .ok (.iload 5, 2) := by decide +kernel
theorem dX1_multiply_47 : decode cX1_multiply 47 = .ok (.if_icmp .ge 7, 3) := by decide +kernel
theorem dX1_multiply_50 : decode cX1_multiply 50 = .ok (.iconst 0, 1) := by decide +kernel
theorem dX1_multiply_51 : decode cX1_multiply 51 = .ok (.goto 10, 3) := by decide +kernel
theorem dX1_multiply_54 : decode cX1_multiply 54 = .ok (.iload 8, 2) := by decide +kernel
theorem dX1_multiply_56 : decode cX1_multiply 56 = .ok (.iload 5, 2) := by decide +kernel
theorem dX1_multiply_58 : decode cX1_multiply 58 = .ok (.isub, 1) := by decide +kernel
theorem dX1_multiply_59 : decode cX1_multiply 59 = .ok (.iconst 1, 1) := by decide +kernel
theorem dX1_multiply_60 : decode cX1_multiply 60 = .ok (.iadd, 1) := by decide +kernel
theorem dX1_multiply_61 : decode cX1_multiply 61 = .ok (.istore 9, 2) := by decide +kernel
theorem dX1_multiply_63 : decode cX1_multiply 63 = .ok (.iload 9, 2) := by decide +kernel
theorem dX1_multiply_65 : decode cX1_multiply 65 = .ok (.istore 10, 2) := by decide +kernel
theorem dX1_multiply_67 : decode cX1_multiply 67 = .ok (.iload 10, 2) := by decide +kernel
theorem dX1_multiply_69 : decode cX1_multiply 69 = .ok (.iload 8, 2) := by decide +kernel
theorem dX1_multiply_71 : decode cX1_multiply 71 = .ok (.if_icmp .gt 43, 3) := by decide +kernel
theorem dX1_multiply_74 : decode cX1_multiply 74 = .ok (.iload 10, 2) := by decide +kernel
theorem dX1_multiply_76 : decode cX1_multiply 76 = .ok (.iload 4, 2) := by decide +kernel
theorem dX1_multiply_78 : decode cX1_multiply 78 = .ok (.if_icmp .ge 36, 3) := by decide +kernel
theorem dX1_multiply_81 : decode cX1_multiply 81 = .ok (.lload 6, 2) := by decide +kernel
theorem dX1_multiply_83 : decode cX1_multiply 83 = .ok (.aload_n 0, 1) := by decide +kernel
theorem dX1_multiply_84 : decode cX1_multiply 84 = .ok (.bipush 14, 2) := by decide +kernel
theorem dX1_multiply_86 : decode cX1_multiply 86 = .ok (.iload 10, 2) := by decide +kernel
theorem dX1_multiply_88 : decode cX1_multiply 88 = .ok (.invokevirtual 25, 3) := by decide +kernel
theorem dX1_multiply_91 : decode cX1_multiply 91 = .ok (.i2l, 1) := by decide +kernel
theorem dX1_multiply_92 : decode cX1_multiply 92 = .ok (.aload_n 0, 1) := by decide +kernel
theorem dX1_multiply_93 : decode cX1_multiply 93 = .ok (.bipush 15, 2) := by decide +kernel
theorem dX1_multiply_95 : decode cX1_multiply 95 = .ok (.iload 8, 2) := by decide +kernel
theorem dX1_multiply_97 : decode cX1_multiply 97 = .ok (.iload 10, 2) := by decide +kernel
theorem dX1_multiply_99 : decode cX1_multiply 99 = .ok (.isub, 1) := by decide +kernel
theorem dX1_multiply_100 : decode cX1_multiply 100 = .ok (.invokevirtual 25, 3) := by decide +kernel
theorem dX1_multiply_103 : decode cX1_multiply 103 = .ok (.i2l, 1) := by decide +kernel
theorem dX1_multiply_104 : decode cX1_multiply 104 = .ok (.lmul, 1) := by decide +kernel
theorem dX1_multiply_105 : decode cX1_multiply 105 = .ok (.ladd, 1) := by decide +kernel
theorem dX1_multiply_106 : decode cX1_multiply 106 = .ok (.lstore 6, 2) := by decide +kernel
theorem dX1_multiply_108 : decode cX1_multiply 108 = .ok (.iinc 10 1, 3) := by decide +kernel
theorem dX1_multiply_111 : decode cX1_multiply 111 = .ok (.goto (-44), 3) := by decide +kernel
theorem dX1_multiply_114 : decode cX1_multiply 114 = .ok (.aload_n 0, 1) := by decide +kernel
theorem dX1_multiply_115 : decode cX1_multiply 115 = .ok (.bipush 12, 2) := by decide +kernel
theorem dX1_multiply_117 : decode cX1_multiply 117 = .ok (.iload 8, 2) := by decide +kernel
theorem dX1_multiply_119 : decode cX1_multiply 119 = .ok (.lload 6, 2) := by decide +kernel
theorem dX1_multiply_121 : decode cX1_multiply 121 = .ok (.ldc2_w 62, 3) := by decide +kernel
theorem dX1_multiply_124 : decode cX1_multiply 124 = .ok (.land, 1) := by decide +kernel
theorem dX1_multiply_125 : decode cX1_multiply 125 = .ok (.l2i, 1) := by decide +kernel
theorem dX1_multiply_126 : decode cX1_multiply 126 = .ok (.invokevirtual 21, 3) := by decide +kernel
theorem dX1_multiply_129 : decode cX1_multiply 129 = .ok (.lload 6, 2) := by decide +kernel
theorem dX1_multiply_131 : decode cX1_multiply 131 = .ok (.bipush 16, 2) := by decide +kernel
theorem dX1_multiply_133 : decode cX1_multiply 133 = .ok (.lshr, 1) := by decide +kernel
theorem dX1_multiply_134 : decode cX1_multiply 134 = .ok (.lstore 6, 2) := by decide +kernel
theorem dX1_multiply_136 : decode cX1_multiply 136 = .ok (.iinc 8 1, 3) := by decide +kernel
theorem dX1_multiply_139 : decode cX1_multiply 139 = .ok (.goto (-106), 3) := by decide +kernel
theorem dX1_multiply_142 : decode cX1_multiply 142 = .ok (.aload_n 0, 1) := by decide +kernel
theorem dX1_multiply_143 : decode cX1_multiply 143 = .ok (.getfield 7, 3) := by decide +kernel
theorem dX1_multiply_146 : decode cX1_multiply 146 = .ok (.bipush 12, 2) := by decide +kernel
theorem dX1_multiply_148 : decode cX1_multiply 148 = .ok (.aload_n 0, 1) := by decide +kernel
theorem dX1_multiply_149 : decode cX1_multiply 149 = .ok (.getfield 7, 3) := by decide +kernel
theorem dX1_multiply_152 : decode cX1_multiply 152 = .ok (.bipush 14, 2) := by decide +kernel
theorem dX1_multiply_154 : decode cX1_multiply 154 = .ok (.iaload, 1) := by decide +kernel
theorem dX1_multiply_155 : decode cX1_multiply 155 = .ok (.aload_n 0, 1) := by decide +kernel
theorem dX1_multiply_156 : decode cX1_multiply 156 = .ok (.getfield 7, 3) := by decide +kernel
theorem dX1_multiply_159 : decode cX1_multiply 159 = .ok (.bipush 15, 2) := by decide +kernel
theorem dX1_multiply_161 : decode cX1_multiply 161 = .ok (.iaload, 1) := by decide +kernel
theorem dX1_multiply_162 : decode cX1_multiply 162 = .ok (.imul, 1) := by decide +kernel
theorem dX1_multiply_163 : decode cX1_multiply 163 = .ok (.iastore, 1) := by decide +kernel
theorem dX1_multiply_164 : decode cX1_multiply 164 = .ok (.aload_n 0, 1) := by decide +kernel
theorem dX1_multiply_165 : decode cX1_multiply 165 = .ok (.iload_n 1, 1) := by decide +kernel
theorem dX1_multiply_166 : decode cX1_multiply 166 = .ok (.invokevirtual 46, 3) := by decide +kernel
theorem dX1_multiply_169 : decode cX1_multiply 169 = .ok (.return_, 1) := by decide +kernel
set_option maxRecDepth 20000 in
theorem ggX1_shift_X1_get : GoodIn wsX1_shift wsX1_get := goodIn_r _ [6, 7, 12, 13, 14] (by decide +kernel) (by decide +kernel)
set_option maxRecDepth 20000 in
theorem gX1_shift_X1_get : GoodIn wsX1_shift (wsV RX1 25 RX1 yX1_get wsX1_get) := goodIn_app (goodIn_of _ (by decide +kernel)) ggX1_shift_X1_get
set_option maxRecDepth 20000 in
theorem ggX1_shift_X1_put : GoodIn wsX1_shift wsX1_put := goodIn_r _ [11, 7, 12, 13, 14] (by decide +kernel) (by decide +kernel)
set_option maxRecDepth 20000 in
theorem gX1_shift_X1_put : GoodIn wsX1_shift (wsV RX1 21 RX1 yX1_put wsX1_put) := goodIn_app (goodIn_of _ (by decide +kernel)) ggX1_shift_X1_put
theorem dX1_shift_0 : decode cX1_shift 0 = .ok (.iload_n 3, 1) := by decide +kernel
theorem dX1_shift_1 : decode cX1_shift 1 = .ok (.istore 5, 2) := by decide +kernel
theorem dX1_shift_3 : decode cX1_shift 3 = .ok (.iconst 0, 1) := by decide +kernel
theorem dX1_shift_4 : decode cX1_shift 4 = .ok (.istore 6, 2) := by decide +kernel
theorem dX1_shift_6 : decode cX1_shift 6 = .ok (.iload 6, 2) := by decide +kernel
theorem dX1_shift_8 : decode cX1_shift 8 = .ok (.iload 4, 2) := by decide +kernel
theorem dX1_shift_10 : decode cX1_shift 10 = .ok (.if_icmp .ge 42, 3) := by decide +kernel
theorem dX1_shift_13 : decode cX1_shift 13 = .ok (.aload_n 0, 1) := by decide +kernel
theorem dX1_shift_14 : decode cX1_shift 14 = .ok (.iload_n 1, 1) := by decide +kernel
theorem dX1_shift_15 : decode cX1_shift 15 = .ok (.iload 6, 2) := by decide +kernel
theorem dX1_shift_17 : decode cX1_shift 17 = .ok (.invokevirtual 25, 3) := by decide +kernel
theorem dX1_shift_20 : decode cX1_shift 20 = .ok (.iload_n 2, 1) := by decide +kernel
theorem dX1_shift_21 : decode cX1_shift 21 = .ok (.ishl, 1) := by decide +kernel
theorem dX1_shift_22 : decode cX1_shift 22 = .ok (.iload 5, 2) := by decide +kernel
theorem dX1_shift_24 : decode cX1_shift 24 = .ok (.ior, 1) := by decide +kernel
theorem dX1_shift_25 : decode cX1_shift 25 = .ok (.istore 7, 2) := by decide +kernel
theorem dX1_shift_27 : decode cX1_shift 27 = .ok (.aload_n 0, 1) := by decide +kernel
theorem dX1_shift_28 : decode cX1_shift 28 = .ok (.iload_n 1, 1) := by decide +kernel
theorem dX1_shift_29 : decode cX1_shift 29 = .ok (.iload 6, 2) := by decide +kernel
theorem dX1_shift_31 : decode cX1_shift 31 = .ok (.iload 7, 2) := by decide +kernel
theorem dX1_shift_33 : decode cX1_shift 33 = .ok (.ldc 45, 2) := by decide +kernel
theorem dX1_shift_35 : decode cX1_shift 35 = .ok (.iand, 1) := by decide +kernel
theorem dX1_shift_36 : decode cX1_shift 36 = .ok (.invokevirtual 21, 3) := by decide +kernel
theorem dX1_shift_39 : decode cX1_shift 39 = .ok (.iload 7, 2) := by decide +kernel
theorem dX1_shift_41 : decode cX1_shift 41 = .ok (.bipush 16, 2) := by decide +kernel
theorem dX1_shift_43 : decode cX1_shift 43 = .ok (.ishr, 1) := by decide +kernel
theorem dX1_shift_44 : decode cX1_shift 44 = .ok (.istore 5, 2) := by decide +kernel
theorem dX1_shift_46 : decode cX1_shift 46 = .ok (.iinc 6 1, 3) := by decide +kernel
theorem dX1_shift_49 : decode cX1_shift 49 = .ok (.goto (-43), 3) := by decide +kernel
theorem dX1_shift_52 : decode cX1_shift 52 = .ok (.return_, 1) := by decide +kernel
set_option maxRecDepth 20000 in
theorem ggX1_divide_X1_isRegister : GoodIn wsX1_divide wsX1_isRegister := goodIn_r _ [6] (by decide +kernel) (by decide +kernel)
set_option maxRecDepth 20000 in
theorem gX1_divide_X1_isRegister : GoodIn wsX1_divide (va_wsS RX1 37 yX1_isRegister wsX1_isRegister) := goodIn_app (goodIn_of _ (by decide +kernel)) ggX1_divide_X1_isRegister
set_option maxRecDepth 20000 in
theorem ggX1_divide_X1_move : GoodIn wsX1_divide wsX1_move := goodIn_r _ [10, 2, 11, 12, 13, 5, 14, 15, 16, 17, 18, 19, 49, 50, 51] (by decide +kernel) (by decide +kernel)
set_option maxRecDepth 20000 in
theorem gX1_divide_X1_move : GoodIn wsX1_divide (wsV RX1 33 RX1 yX1_move wsX1_move) := goodIn_app (goodIn_of _ (by decide +kernel)) ggX1_divide_X1_move
set_option maxRecDepth 20000 in
theorem ggX1_divide_X1_clear : GoodIn wsX1_divide wsX1_clear := goodIn_r _ [23, 2, 16, 17, 18, 5, 19, 15, 49, 50, 51] (by decide +kernel) (by decide +kernel)
set_option maxRecDepth 20000 in
theorem gX1_divide_X1_clear : GoodIn wsX1_divide (wsV RX1 41 RX1 yX1_clear wsX1_clear) := goodIn_app (goodIn_of _ (by decide +kernel)) ggX1_divide_X1_clear
set_option maxRecDepth 20000 in
theorem ggX1_divide_X1_length : GoodIn wsX1_divide wsX1_length := goodIn_r _ [27, 11, 12, 13, 5, 14, 15, 49, 50, 51] (by decide +kernel) (by decide +kernel)
set_option maxRecDepth 20000 in
theorem gX1_divide_X1_length : GoodIn wsX1_divide (wsV RX1 29 RX1 yX1_length wsX1_length) := goodIn_app (goodIn_of _ (by decide +kernel)) ggX1_divide_X1_length
set_option maxRecDepth 20000 in
theorem ggX1_divide_X1_bitsOf : GoodIn wsX1_divide wsX1_bitsOf := goodIn_r _ [31, 24, 25, 26, 5, 27, 11, 12, 13, 14, 15, 49, 50, 51] (by decide +kernel) (by decide +kernel)
set_option maxRecDepth 20000 in
theorem gX1_divide_X1_bitsOf : GoodIn wsX1_divide (wsV RX1 64 RX1 yX1_bitsOf wsX1_bitsOf) := goodIn_app (goodIn_of _ (by decide +kernel)) ggX1_divide_X1_bitsOf
set_option maxRecDepth 20000 in
theorem ggX1_divide_X1_bit : GoodIn wsX1_divide wsX1_bit := goodIn_r _ [35, 11, 12, 13, 5, 14, 15, 49, 50, 51] (by decide +kernel) (by decide +kernel)
set_option maxRecDepth 20000 in
theorem gX1_divide_X1_bit : GoodIn wsX1_divide (wsV RX1 67 RX1 yX1_bit wsX1_bit) := goodIn_app (goodIn_of _ (by decide +kernel)) ggX1_divide_X1_bit
set_option maxRecDepth 20000 in
theorem ggX1_divide_X1_shift : GoodIn wsX1_divide wsX1_shift := goodIn_r _ [39, 40, 11, 12, 13, 5, 14, 15, 16, 17, 18, 19, 49, 50, 51] (by decide +kernel) (by decide +kernel)
set_option maxRecDepth 20000 in
theorem gX1_divide_X1_shift : GoodIn wsX1_divide (wsV RX1 70 RX1 yX1_shift wsX1_shift) := goodIn_app (goodIn_of _ (by decide +kernel)) ggX1_divide_X1_shift
set_option maxRecDepth 20000 in
theorem ggX1_divide_X1_isBelow : GoodIn wsX1_divide wsX1_isBelow := goodIn_r _ [44, 11, 12, 13, 5, 14, 15, 49, 50, 51] (by decide +kernel) (by decide +kernel)
set_option maxRecDepth 20000 in
theorem gX1_divide_X1_isBelow : GoodIn wsX1_divide (wsV RX1 74 RX1 yX1_isBelow wsX1_isBelow) := goodIn_app (goodIn_of _ (by decide +kernel)) ggX1_divide_X1_isBelow
set_option maxRecDepth 20000 in
theorem ggX1_divide_X1_lessBy : GoodIn wsX1_divide wsX1_lessBy := goodIn_r _ [48, 11, 12, 13, 5, 14, 15, 16, 17, 18, 19, 49, 50, 51] (by decide +kernel) (by decide +kernel)
set_option maxRecDepth 20000 in
theorem gX1_divide_X1_lessBy : GoodIn wsX1_divide (wsV RX1 77 RX1 yX1_lessBy wsX1_lessBy) := goodIn_app (goodIn_of _ (by decide +kernel)) ggX1_divide_X1_lessBy
set_option maxRecDepth 20000 in
theorem ggX1_divide_X1_get : GoodIn wsX1_divide wsX1_get := goodIn_r _ [14, 15, 49, 50, 51] (by decide +kernel) (by decide +kernel)
set_option maxRecDepth 20000 in
theorem gX1_divide_X1_get : GoodIn wsX1_divide (wsV RX1 25 RX1 yX1_get wsX1_get) := goodIn_app (goodIn_of _ (by decide +kernel)) ggX1_divide_X1_get
set_option maxRecDepth 20000 in
theorem ggX1_divide_X1_put : GoodIn wsX1_divide wsX1_put := goodIn_r _ [19, 15, 49, 50, 51] (by decide +kernel) (by decide +kernel)
set_option maxRecDepth 20000 in
theorem gX1_divide_X1_put : GoodIn wsX1_divide (wsV RX1 21 RX1 yX1_put wsX1_put) := goodIn_app (goodIn_of _ (by decide +kernel)) ggX1_divide_X1_put
theorem dX1_divide_0 : decode cX1_divide 0 = .ok (.aload_n 0, 1) := by decide +kernel
theorem dX1_divide_1 : decode cX1_divide 1 = .ok (.iload_n 1, 1) := by decide +kernel
theorem dX1_divide_2 : decode cX1_divide 2 = .ok (.invokestatic 37, 3) := by decide +kernel
theorem dX1_divide_5 : decode cX1_divide 5 = .ok (.ifCond .eq 29, 3) := by decide +kernel
theorem dX1_divide_8 : decode cX1_divide 8 = .ok (.iload_n 2, 1) := by decide +kernel
theorem dX1_divide_9 : decode cX1_divide 9 = .ok (.invokestatic 37, 3) := by decide +kernel
theorem dX1_divide_12 : decode cX1_divide 12 = .ok (.ifCond .eq 22, 3) := by decide +kernel
theorem dX1_divide_15 : decode cX1_divide 15 = .ok (.iload_n 3, 1) := by decide +kernel
theorem dX1_divide_16 : decode cX1_divide 16 = .ok (.invokestatic 37, 3) := by decide +kernel
theorem dX1_divide_19 : decode cX1_divide 19 = .ok (.ifCond .eq 15, 3) := by decide +kernel
theorem dX1_divide_22 : decode cX1_divide 22 = .ok (.iload 4, 2) := by decide +kernel
theorem dX1_divide_24 : decode cX1_divide 24 = .ok (.invokestatic 37, 3) := by decide +kernel
theorem dX1_divide_27 : decode cX1_divide 27 = .ok (.ifCond .eq 7, 3) := by decide +kernel
theorem dX1_divide_30 : decode cX1_divide 30 = .ok (.iconst 0, 1) := by decide +kernel
theorem dX1_divide_31 : decode cX1_divide 31 = .ok (.goto 4, 3) := by decide +kernel
theorem dX1_divide_34 : decode cX1_divide 34 = .ok (.iconst 1, 1) := by decide +kernel
theorem dX1_divide_35 : decode cX1_divide 35 = .ok (.putfield 17, 3) := by decide +kernel
theorem dX1_divide_38 : decode cX1_divide 38 = .ok (.aload_n 0, 1) := by decide +kernel
theorem dX1_divide_39 : decode cX1_divide 39 = .ok (.getfield 17, 3) := by decide +kernel
theorem dX1_divide_42 : decode cX1_divide 42 = .ok (.ifCond .le 4, 3) := by decide +kernel
theorem dX1_divide_45 : decode cX1_divide 45 = .ok (.return_, 1) := by decide +kernel
theorem dX1_divide_46 : decode cX1_divide 46 = .ok (.aload_n 0, 1) := by decide +kernel
theorem dX1_divide_47 : decode cX1_divide 47 = .ok (.iload_n 1, 1) := by decide +kernel
theorem dX1_divide_48 : decode cX1_divide 48 = .ok (.iload_n 2, 1) := by decide +kernel
theorem dX1_divide_49 : decode cX1_divide 49 = .ok (.if_icmp .eq 13, 3) := by decide +kernel
theorem dX1_divide_52 : decode cX1_divide 52 = .ok (.aload_n 0, 1) := by decide +kernel
theorem dX1_divide_53 : decode cX1_divide 53 = .ok (.getfield 7, 3) := by decide +kernel
theorem dX1_divide_56 : decode cX1_divide 56 = .ok (.iload 4, 2) := by decide +kernel
theorem dX1_divide_58 : decode cX1_divide 58 = .ok (.iaload, 1) := by decide +kernel
theorem dX1_divide_59 : decode cX1_divide 59 = .ok (.ifCond .ne 7, 3) := by decide +kernel
theorem dX1_divide_62 : decode cX1_divide 62 = .ok (.iconst 2, 1) := by decide +kernel
theorem dX1_divide_63 : decode cX1_divide 63 = .ok (.goto 4, 3) := by decide +kernel
theorem dX1_divide_66 : decode cX1_divide 66 = .ok (.iconst 0, 1) := by decide +kernel
theorem dX1_divide_67 : decode cX1_divide 67 = .ok (.putfield 17, 3) := by decide +kernel
theorem dX1_divide_70 : decode cX1_divide 70 = .ok (.aload_n 0, 1) := by decide +kernel
theorem dX1_divide_71 : decode cX1_divide 71 = .ok (.getfield 17, 3) := by decide +kernel
theorem dX1_divide_74 : decode cX1_divide 74 = .ok (.ifCond .le 4, 3) := by decide +kernel
theorem dX1_divide_77 : decode cX1_divide 77 = .ok (.return_, 1) := by decide +kernel
theorem dX1_divide_78 : decode cX1_divide 78 = .ok (.aload_n 0, 1) := by decide +kernel
theorem dX1_divide_79 : decode cX1_divide 79 = .ok (.bipush 14, 2) := by decide +kernel
theorem dX1_divide_81 : decode cX1_divide 81 = .ok (.iload_n 3, 1) := by decide +kernel
theorem dX1_divide_82 : decode cX1_divide 82 = .ok (.invokevirtual 33, 3) := by decide +kernel
theorem dX1_divide_85 : decode cX1_divide 85 = .ok (.aload_n 0, 1) := by decide +kernel
theorem dX1_divide_86 : decode cX1_divide 86 = .ok (.bipush 15, 2) := by decide +kernel
theorem dX1_divide_88 : decode cX1_divide 88 = .ok (.iload 4, 2) := by decide +kernel
theorem dX1_divide_90 : decode cX1_divide 90 = .ok (.invokevirtual 33, 3) := by decide +kernel
theorem dX1_divide_93 : decode cX1_divide 93 = .ok (.aload_n 0, 1) := by decide +kernel
theorem dX1_divide_94 : decode cX1_divide 94 = .ok (.bipush 12, 2) := by decide +kernel
theorem dX1_divide_96 : decode cX1_divide 96 = .ok (.invokevirtual 41, 3) := by decide +kernel
theorem dX1_divide_99 : decode cX1_divide 99 = .ok (.aload_n 0, 1) := by decide +kernel
theorem dX1_divide_100 : decode cX1_divide 100 = .ok (.bipush 13, 2) := by decide +kernel
theorem dX1_divide_102 : decode cX1_divide 102 = .ok (.invokevirtual 41, 3) := by decide +kernel
theorem dX1_divide_105 : decode cX1_divide 105 = .ok (.aload_n 0, 1) := by decide +kernel
theorem dX1_divide_106 : decode cX1_divide 106 = .ok (.bipush 15, 2) := by decide +kernel
theorem dX1_divide_108 : decode cX1_divide 108 = .ok (.invokevirtual 29, 3) := by decide +kernel
theorem dX1_divide_111 : decode cX1_divide 111 = .ok (.iconst 1, 1) := by decide +kernel
theorem dX1_divide_112 : decode cX1_divide 112 = .ok (.iadd, 1) := by decide +kernel
theorem dX1_divide_113 : decode cX1_divide 113 = .ok (.istore 5, 2) := by decide +kernel
theorem dX1_divide_115 : decode cX1_divide 115 = .ok (.aload_n 0, 1) := by decide +kernel
theorem dX1_divide_116 : decode cX1_divide 116 = .ok (.bipush 14, 2) := by decide +kernel
theorem dX1_divide_118 : decode cX1_divide 118 = .ok (.invokevirtual 64, 3) := by decide +kernel
theorem dX1_divide_121 : decode cX1_divide 121 = .ok (.iconst 1, 1) := by decide +kernel
theorem dX1_divide_122 : decode cX1_divide 122 = .ok (.isub, 1) := by decide +kernel
theorem dX1_divide_123 : decode cX1_divide 123 = .ok (.istore 6, 2) := by decide +kernel
theorem dX1_divide_125 : decode cX1_divide 125 = .ok (.iload 6, 2) := by decide +kernel
theorem dX1_divide_127 : decode cX1_divide 127 = .ok (.ifCond .lt 79, 3) := by decide +kernel
theorem dX1_divide_130 : decode cX1_divide 130 = .ok (.aload_n 0, 1) := by decide +kernel
theorem dX1_divide_131 : decode cX1_divide 131 = .ok (.bipush 13, 2) := by decide +kernel
theorem dX1_divide_133 : decode cX1_divide 133 = .ok (.iconst 1, 1) := by decide +kernel
theorem dX1_divide_134 : decode cX1_divide 134 = .ok (.aload_n 0, 1) := by decide +kernel
theorem dX1_divide_135 : decode cX1_divide 135 = .ok (.bipush 14, 2) := by decide +kernel
theorem dX1_divide_137 : decode cX1_divide 137 = .ok (.iload 6, 2) := by decide +kernel
theorem dX1_divide_139 : decode cX1_divide 139 = .ok (.invokevirtual 67, 3) := by decide +kernel
theorem dX1_divide_142 : decode cX1_divide 142 = .ok (.iload 5, 2) := by decide +kernel
theorem dX1_divide_144 : decode cX1_divide 144 = .ok (.invokevirtual 70, 3) := by decide +kernel
theorem dX1_divide_147 : decode cX1_divide 147 = .ok (.aload_n 0, 1) := by decide +kernel
theorem dX1_divide_148 : decode cX1_divide 148 = .ok (.bipush 13, 2) := by decide +kernel
theorem dX1_divide_150 : decode cX1_divide 150 = .ok (.bipush 15, 2) := by decide +kernel
theorem dX1_divide_152 : decode cX1_divide 152 = .ok (.iload 5, 2) := by decide +kernel
theorem dX1_divide_154 : decode cX1_divide 154 = .ok (.invokevirtual 74, 3) := by decide +kernel
theorem dX1_divide_157 : decode cX1_divide 157 = .ok (.ifCond .ne 43, 3) := by decide +kernel
theorem dX1_divide_160 : decode cX1_divide 160 = .ok (.aload_n 0, 1) := by decide +kernel
theorem dX1_divide_161 : decode cX1_divide 161 = .ok (.bipush 13, 2) := by decide +kernel
theorem dX1_divide_163 : decode cX1_divide 163 = .ok (.bipush 15, 2) := by decide +kernel
theorem dX1_divide_165 : decode cX1_divide 165 = .ok (.iload 5, 2) := by decide +kernel
theorem dX1_divide_167 : decode cX1_divide 167 = .ok (.invokevirtual 77, 3) := by decide +kernel
theorem dX1_divide_170 : decode cX1_divide 170 = .ok (.aload_n 0, 1) := by decide +kernel
theorem dX1_divide_171 : decode cX1_divide 171 = .ok (.bipush 12, 2) := by decide +kernel
theorem dX1_divide_173 : decode cX1_divide 173 = .ok (.iload 6, 2) := by decide +kernel
theorem dX1_divide_175 : decode cX1_divide 175 = .ok (.bipush 16, 2) := by decide +kernel
theorem dX1_divide_177 : decode cX1_divide 177 = .ok (.idiv, 1) := by decide +kernel
theorem dX1_divide_178 : decode cX1_divide 178 = .ok (.aload_n 0, 1) := by decide +kernel
theorem dX1_divide_179 : decode cX1_divide 179 = .ok (.bipush 12, 2) := by decide +kernel
theorem dX1_divide_181 : decode cX1_divide 181 = .ok (.iload 6, 2) := by decide +kernel
theorem dX1_divide_183 : decode cX1_divide 183 = .ok (.bipush 16, 2) := by decide +kernel
theorem dX1_divide_185 : decode cX1_divide 185 = .ok (.idiv, 1) := by decide +kernel
theorem dX1_divide_186 : decode cX1_divide 186 = .ok (.invokevirtual 25, 3) := by decide +kernel
theorem dX1_divide_189 : decode cX1_divide 189 = .ok (.iconst 1, 1) := by decide +kernel
theorem dX1_divide_190 : decode cX1_divide 190 = .ok (.iload 6, 2) := by decide +kernel
theorem dX1_divide_192 : decode cX1_divide 192 = .ok (.bipush 16, 2) := by decide +kernel
theorem dX1_divide_194 : decode cX1_divide 194 = .ok (.irem, 1) := by decide +kernel
theorem dX1_divide_195 : decode cX1_divide 195 = .ok (.ishl, 1) := by decide +kernel
theorem dX1_divide_196 : decode cX1_divide 196 = .ok (.ior, 1) := by decide +kernel
theorem dX1_divide_197 : decode cX1_divide 197 = .ok (.invokevirtual 21, 3) := by decide +kernel
theorem dX1_divide_200 : decode cX1_divide 200 = .ok (.iinc 6 (-1), 3) := by decide +kernel
theorem dX1_divide_203 : decode cX1_divide 203 = .ok (.goto (-78), 3) := by decide +kernel
theorem dX1_divide_206 : decode cX1_divide 206 = .ok (.aload_n 0, 1) := by decide +kernel
theorem dX1_divide_207 : decode cX1_divide 207 = .ok (.getfield 7, 3) := by decide +kernel
theorem dX1_divide_210 : decode cX1_divide 210 = .ok (.bipush 12, 2) := by decide +kernel
theorem dX1_divide_212 : decode cX1_divide 212 = .ok (.aload_n 0, 1) := by decide +kernel
theorem dX1_divide_213 : decode cX1_divide 213 = .ok (.bipush 12, 2) := by decide +kernel
theorem dX1_divide_215 : decode cX1_divide 215 = .ok (.invokevirtual 29, 3) := by decide +kernel
theorem dX1_divide_218 : decode cX1_divide 218 = .ok (.ifCond .ne 7, 3) := by decide +kernel
theorem dX1_divide_221 : decode cX1_divide 221 = .ok (.iconst 0, 1) := by decide +kernel
theorem dX1_divide_222 : decode cX1_divide 222 = .ok (.goto 18, 3) := by decide +kernel
theorem dX1_divide_225 : decode cX1_divide 225 = .ok (.aload_n 0, 1) := by decide +kernel
theorem dX1_divide_226 : decode cX1_divide 226 = .ok (.getfield 7, 3) := by decide +kernel
theorem dX1_divide_229 : decode cX1_divide 229 = .ok (.bipush 14, 2) := by decide +kernel
theorem dX1_divide_231 : decode cX1_divide 231 = .ok (.iaload, 1) := by decide +kernel
theorem dX1_divide_232 : decode cX1_divide 232 = .ok (.aload_n 0, 1) := by decide +kernel
theorem dX1_divide_233 : decode cX1_divide 233 = .ok (.getfield 7, 3) := by decide +kernel
theorem dX1_divide_236 : decode cX1_divide 236 = .ok (.bipush 15, 2) := by decide +kernel
theorem dX1_divide_238 : decode cX1_divide 238 = .ok (.iaload, 1) := by decide +kernel
theorem dX1_divide_239 : decode cX1_divide 239 = .ok (.imul, 1) := by decide +kernel
theorem dX1_divide_240 : decode cX1_divide 240 = .ok (.iastore, 1) := by decide +kernel
theorem dX1_divide_241 : decode cX1_divide 241 = .ok (.aload_n 0, 1) := by decide +kernel
theorem dX1_divide_242 : decode cX1_divide 242 = .ok (.getfield 7, 3) := by decide +kernel
theorem dX1_divide_245 : decode cX1_divide 245 = .ok (.bipush 13, 2) := by decide +kernel
theorem dX1_divide_247 : decode cX1_divide 247 = .ok (.aload_n 0, 1) := by decide +kernel
theorem dX1_divide_248 : decode cX1_divide 248 = .ok (.bipush 13, 2) := by decide +kernel
theorem dX1_divide_250 : decode cX1_divide 250 = .ok (.invokevirtual 29, 3) := by decide +kernel
theorem dX1_divide_253 : decode cX1_divide 253 = .ok (.ifCond .ne 7, 3) := by decide +kernel
theorem dX1_divide_256 : decode cX1_divide 256 = .ok (.iconst 0, 1) := by decide +kernel
theorem dX1_divide_257 : decode cX1_divide 257 = .ok (.goto 10, 3) := by decide +kernel
theorem dX1_divide_260 : decode cX1_divide 260 = .ok (.aload_n 0, 1) := by decide +kernel
theorem dX1_divide_261 : decode cX1_divide 261 = .ok (.getfield 7, 3) := by decide +kernel
theorem dX1_divide_264 : decode cX1_divide 264 = .ok (.bipush 14, 2) := by decide +kernel
theorem dX1_divide_266 : decode cX1_divide 266 = .ok (.iaload, 1) := by decide +kernel
theorem dX1_divide_267 : decode cX1_divide 267 = .ok (.iastore, 1) := by decide +kernel
theorem dX1_divide_268 : decode cX1_divide 268 = .ok (.aload_n 0, 1) := by decide +kernel
theorem dX1_divide_269 : decode cX1_divide 269 = .ok (.iload_n 1, 1) := by decide +kernel
theorem dX1_divide_270 : decode cX1_divide 270 = .ok (.bipush 12, 2) := by decide +kernel
theorem dX1_divide_272 : decode cX1_divide 272 = .ok (.invokevirtual 33, 3) := by decide +kernel
theorem dX1_divide_275 : decode cX1_divide 275 = .ok (.aload_n 0, 1) := by decide +kernel
theorem dX1_divide_276 : decode cX1_divide 276 = .ok (.iload_n 2, 1) := by decide +kernel
theorem dX1_divide_277 : decode cX1_divide 277 = .ok (.bipush 13, 2) := by decide +kernel
theorem dX1_divide_279 : decode cX1_divide 279 = .ok (.invokevirtual 33, 3) := by decide +kernel
theorem dX1_divide_282 : decode cX1_divide 282 = .ok (.return_, 1) := by decide +kernel
set_option maxRecDepth 20000 in
theorem ggX1_isBelow_X1_get : GoodIn wsX1_isBelow wsX1_get := goodIn_r _ [5, 6, 7, 8, 9] (by decide +kernel) (by decide +kernel)
set_option maxRecDepth 20000 in
theorem gX1_isBelow_X1_get : GoodIn wsX1_isBelow (wsV RX1 25 RX1 yX1_get wsX1_get) := goodIn_app (goodIn_of _ (by decide +kernel)) ggX1_isBelow_X1_get
theorem dX1_isBelow_0 : decode cX1_isBelow 0 = .ok (.iload_n 3, 1) := by decide +kernel
theorem dX1_isBelow_1 : decode cX1_isBelow 1 = .ok (.iconst 1, 1) := by decide +kernel
theorem dX1_isBelow_2 : decode cX1_isBelow 2 = .ok (.isub, 1) := by decide +kernel
theorem dX1_isBelow_3 : decode cX1_isBelow 3 = .ok (.istore 4, 2) := by decide +kernel
theorem dX1_isBelow_5 : decode cX1_isBelow 5 = .ok (.iload 4, 2) := by decide +kernel
theorem dX1_isBelow_7 : decode cX1_isBelow 7 = .ok (.ifCond .lt 49, 3) := by decide +kernel
theorem dX1_isBelow_10 : decode cX1_isBelow 10 = .ok (.aload_n 0, 1) := by decide +kernel
theorem dX1_isBelow_11 : decode cX1_isBelow 11 = .ok (.iload_n 1, 1) := by decide +kernel
theorem dX1_isBelow_12 : decode cX1_isBelow 12 = .ok (.iload 4, 2) := by decide +kernel
theorem dX1_isBelow_14 : decode cX1_isBelow 14 = .ok (.invokevirtual 25, 3) := by decide +kernel
theorem dX1_isBelow_17 : decode cX1_isBelow 17 = .ok (.aload_n 0, 1) := by decide +kernel
theorem dX1_isBelow_18 : decode cX1_isBelow 18 = .ok (.iload_n 2, 1) := by decide +kernel
theorem dX1_isBelow_19 : decode cX1_isBelow 19 = .ok (.iload 4, 2) := by decide +kernel
theorem dX1_isBelow_21 : decode cX1_isBelow 21 = .ok (.invokevirtual 25, 3) := by decide +kernel
theorem dX1_isBelow_24 : decode cX1_isBelow 24 = .ok (.if_icmp .eq 26, 3) := by decide +kernel
theorem dX1_isBelow_27 : decode cX1_isBelow 27 = .ok (.aload_n 0, 1) := by decide +kernel
theorem dX1_isBelow_28 : decode cX1_isBelow 28 = .ok (.iload_n 1, 1) := by decide +kernel
theorem dX1_isBelow_29 : decode cX1_isBelow 29 = .ok (.iload 4, 2) := by decide +kernel
theorem dX1_isBelow_31 : decode cX1_isBelow 31 = .ok (.invokevirtual 25, 3) := by decide +kernel
theorem dX1_isBelow_34 : decode cX1_isBelow 34 = .ok (.aload_n 0, 1) := by decide +kernel
theorem dX1_isBelow_35 : decode cX1_isBelow 35 = .ok (.iload_n 2, 1) := by decide +kernel
theorem dX1_isBelow_36 : decode cX1_isBelow 36 = .ok (.iload 4, 2) := by decide +kernel
theorem dX1_isBelow_38 : decode cX1_isBelow 38 = .ok (.invokevirtual 25, 3) := by decide +kernel
theorem dX1_isBelow_41 : decode cX1_isBelow 41 = .ok (.if_icmp .ge 7, 3) := by decide +kernel
theorem dX1_isBelow_44 : decode cX1_isBelow 44 = .ok (.iconst 1, 1) := by decide +kernel
theorem dX1_isBelow_45 : decode cX1_isBelow 45 = .ok (.goto 4, 3) := by decide +kernel
theorem dX1_isBelow_48 : decode cX1_isBelow 48 = .ok (.iconst 0, 1) := by decide +kernel
theorem dX1_isBelow_49 : decode cX1_isBelow 49 = .ok (.ireturn, 1) := by decide +kernel
theorem dX1_isBelow_50 : decode cX1_isBelow 50 = .ok (.iinc 4 (-1), 3) := by decide +kernel
theorem dX1_isBelow_53 : decode cX1_isBelow 53 = .ok (.goto (-48), 3) := by decide +kernel
theorem dX1_isBelow_56 : decode cX1_isBelow 56 = .ok (.iconst 0, 1) := by decide +kernel
theorem dX1_isBelow_57 : decode cX1_isBelow 57 = .ok (.ireturn, 1) := by decide +kernel
set_option maxRecDepth 20000 in
theorem ggX1_lessBy_X1_get : GoodIn wsX1_lessBy wsX1_get := goodIn_r _ [5, 6, 11, 12, 13] (by decide +kernel) (by decide +kernel)
set_option maxRecDepth 20000 in
theorem gX1_lessBy_X1_get : GoodIn wsX1_lessBy (wsV RX1 25 RX1 yX1_get wsX1_get) := goodIn_app (goodIn_of _ (by decide +kernel)) ggX1_lessBy_X1_get
set_option maxRecDepth 20000 in
theorem ggX1_lessBy_X1_put : GoodIn wsX1_lessBy wsX1_put := goodIn_r _ [10, 6, 11, 12, 13] (by decide +kernel) (by decide +kernel)
set_option maxRecDepth 20000 in
theorem gX1_lessBy_X1_put : GoodIn wsX1_lessBy (wsV RX1 21 RX1 yX1_put wsX1_put) := goodIn_app (goodIn_of _ (by decide +kernel)) ggX1_lessBy_X1_put
theorem dX1_lessBy_0 : decode cX1_lessBy 0 = .ok (.iconst 0, 1) := by decide +kernel
theorem dX1_lessBy_1 : decode cX1_lessBy 1 = .ok (.istore 4, 2) := by decide +kernel
theorem dX1_lessBy_3 : decode cX1_lessBy 3 = .ok (.iconst 0, 1) := by decide +kernel
theorem dX1_lessBy_4 : decode cX1_lessBy 4 = .ok (.istore 5, 2) := by decide +kernel
theorem dX1_lessBy_6 : decode cX1_lessBy 6 = .ok (.iload 5, 2) := by decide +kernel
theorem dX1_lessBy_8 : decode cX1_lessBy 8 = .ok (.iload_n 3, 1) := by decide +kernel
theorem dX1_lessBy_9 : decode cX1_lessBy 9 = .ok (.if_icmp .ge 56, 3) := by decide +kernel
theorem dX1_lessBy_12 : decode cX1_lessBy 12 = .ok (.aload_n 0, 1) := by decide +kernel
theorem dX1_lessBy_13 : decode cX1_lessBy 13 = .ok (.iload_n 1, 1) := by decide +kernel
theorem dX1_lessBy_14 : decode cX1_lessBy 14 = .ok (.iload 5, 2) := by decide +kernel
theorem dX1_lessBy_16 : decode cX1_lessBy 16 = .ok (.invokevirtual 25, 3) := by decide +kernel
theorem dX1_lessBy_19 : decode cX1_lessBy 19 = .ok (.aload_n 0, 1) := by decide +kernel
theorem dX1_lessBy_20 : decode cX1_lessBy 20 = .ok (.iload_n 2, 1) := by decide +kernel
theorem dX1_lessBy_21 : decode cX1_lessBy 21 = .ok (.iload 5, 2) := by decide +kernel
theorem dX1_lessBy_23 : decode cX1_lessBy 23 = .ok (.invokevirtual 25, 3) := by decide +kernel
theorem dX1_lessBy_26 : decode cX1_lessBy 26 = .ok (.isub, 1) := by decide +kernel
theorem dX1_lessBy_27 : decode cX1_lessBy 27 = .ok (.iload 4, 2) := by decide +kernel
theorem dX1_lessBy_29 : decode cX1_lessBy 29 = .ok (.isub, 1) := by decide +kernel
theorem dX1_lessBy_30 : decode cX1_lessBy 30 = .ok (.istore 6, 2) := by decide +kernel
theorem dX1_lessBy_32 : decode cX1_lessBy 32 = .ok (.iload 6, 2) := by decide +kernel
theorem dX1_lessBy_34 : decode cX1_lessBy 34 = .ok (.ifCond .ge 7, 3) := by decide +kernel
theorem dX1_lessBy_37 : decode cX1_lessBy 37 = .ok (.iconst 1, 1) := by decide +kernel
theorem dX1_lessBy_38 : decode cX1_lessBy 38 = .ok (.goto 4, 3) := by decide +kernel
theorem dX1_lessBy_41 : decode cX1_lessBy 41 = .ok (.iconst 0, 1) := by decide +kernel
theorem dX1_lessBy_42 : decode cX1_lessBy 42 = .ok (.istore 4, 2) := by decide +kernel
theorem dX1_lessBy_44 : decode cX1_lessBy 44 = .ok (.aload_n 0, 1) := by decide +kernel
theorem dX1_lessBy_45 : decode cX1_lessBy 45 = .ok (.iload_n 1, 1) := by decide +kernel
theorem dX1_lessBy_46 : decode cX1_lessBy 46 = .ok (.iload 5, 2) := by decide +kernel
theorem dX1_lessBy_48 : decode cX1_lessBy 48 = .ok (.iload 6, 2) := by decide +kernel
theorem dX1_lessBy_50 : decode cX1_lessBy 50 = .ok (.iload 4, 2) := by decide +kernel
theorem dX1_lessBy_52 : decode cX1_lessBy 52 = .ok (.bipush 16, 2) := by decide +kernel
theorem dX1_lessBy_54 : decode cX1_lessBy 54 = .ok (.ishl, 1) := by decide +kernel
theorem dX1_lessBy_55 : decode cX1_lessBy 55 = .ok (.iadd, 1) := by decide +kernel
theorem dX1_lessBy_56 : decode cX1_lessBy 56 = .ok (.invokevirtual 21, 3) := by decide +kernel
theorem dX1_lessBy_59 : decode cX1_lessBy 59 = .ok (.iinc 5 1, 3) := by decide +kernel
theorem dX1_lessBy_62 : decode cX1_lessBy 62 = .ok (.goto (-56), 3) := by decide +kernel
theorem dX1_lessBy_65 : decode cX1_lessBy 65 = .ok (.return_, 1) := by decide +kernel
set_option maxRecDepth 20000 in
theorem ggX1_root_X1_isRegister : GoodIn wsX1_root wsX1_isRegister := goodIn_r _ [6] (by decide +kernel) (by decide +kernel)
set_option maxRecDepth 20000 in
theorem gX1_root_X1_isRegister : GoodIn wsX1_root (va_wsS RX1 37 yX1_isRegister wsX1_isRegister) := goodIn_app (goodIn_of _ (by decide +kernel)) ggX1_root_X1_isRegister
set_option maxRecDepth 20000 in
theorem ggX1_root_X1_move : GoodIn wsX1_root wsX1_move := goodIn_r _ [10, 2, 11, 12, 13, 5, 14, 15, 16, 17, 18, 19, 49, 50, 51] (by decide +kernel) (by decide +kernel)
set_option maxRecDepth 20000 in
theorem gX1_root_X1_move : GoodIn wsX1_root (wsV RX1 33 RX1 yX1_move wsX1_move) := goodIn_app (goodIn_of _ (by decide +kernel)) ggX1_root_X1_move
set_option maxRecDepth 20000 in
theorem ggX1_root_X1_clear : GoodIn wsX1_root wsX1_clear := goodIn_r _ [23, 2, 16, 17, 18, 5, 19, 15, 49, 50, 51] (by decide +kernel) (by decide +kernel)
set_option maxRecDepth 20000 in
theorem gX1_root_X1_clear : GoodIn wsX1_root (wsV RX1 41 RX1 yX1_clear wsX1_clear) := goodIn_app (goodIn_of _ (by decide +kernel)) ggX1_root_X1_clear
set_option maxRecDepth 20000 in
theorem ggX1_root_X1_length : GoodIn wsX1_root wsX1_length := goodIn_r _ [27, 11, 12, 13, 5, 14, 15, 49, 50, 51] (by decide +kernel) (by decide +kernel)
set_option maxRecDepth 20000 in
theorem gX1_root_X1_length : GoodIn wsX1_root (wsV RX1 29 RX1 yX1_length wsX1_length) := goodIn_app (goodIn_of _ (by decide +kernel)) ggX1_root_X1_length
set_option maxRecDepth 20000 in
theorem ggX1_root_X1_bitsOf : GoodIn wsX1_root wsX1_bitsOf := goodIn_r _ [31, 24, 25, 26, 5, 27, 11, 12, 13, 14, 15, 49, 50, 51] (by decide +kernel) (by decide +kernel)
set_option maxRecDepth 20000 in
theorem gX1_root_X1_bitsOf : GoodIn wsX1_root (wsV RX1 64 RX1 yX1_bitsOf wsX1_bitsOf) := goodIn_app (goodIn_of _ (by decide +kernel)) ggX1_root_X1_bitsOf
set_option maxRecDepth 20000 in
theorem ggX1_root_X1_bit : GoodIn wsX1_root wsX1_bit := goodIn_r _ [35, 11, 12, 13, 5, 14, 15, 49, 50, 51] (by decide +kernel) (by decide +kernel)
set_option maxRecDepth 20000 in
theorem gX1_root_X1_bit : GoodIn wsX1_root (wsV RX1 67 RX1 yX1_bit wsX1_bit) := goodIn_app (goodIn_of _ (by decide +kernel)) ggX1_root_X1_bit
set_option maxRecDepth 20000 in
theorem ggX1_root_X1_shift : GoodIn wsX1_root wsX1_shift := goodIn_r _ [39, 40, 11, 12, 13, 5, 14, 15, 16, 17, 18, 19, 49, 50, 51] (by decide +kernel) (by decide +kernel)
set_option maxRecDepth 20000 in
theorem gX1_root_X1_shift : GoodIn wsX1_root (wsV RX1 70 RX1 yX1_shift wsX1_shift) := goodIn_app (goodIn_of _ (by decide +kernel)) ggX1_root_X1_shift
set_option maxRecDepth 20000 in
theorem ggX1_root_X1_get : GoodIn wsX1_root wsX1_get := goodIn_r _ [14, 15, 49, 50, 51] (by decide +kernel) (by decide +kernel)
set_option maxRecDepth 20000 in
theorem gX1_root_X1_get : GoodIn wsX1_root (wsV RX1 25 RX1 yX1_get wsX1_get) := goodIn_app (goodIn_of _ (by decide +kernel)) ggX1_root_X1_get
set_option maxRecDepth 20000 in
theorem ggX1_root_X1_put : GoodIn wsX1_root wsX1_put := goodIn_r _ [19, 15, 49, 50, 51] (by decide +kernel) (by decide +kernel)
set_option maxRecDepth 20000 in
theorem gX1_root_X1_put : GoodIn wsX1_root (wsV RX1 21 RX1 yX1_put wsX1_put) := goodIn_app (goodIn_of _ (by decide +kernel)) ggX1_root_X1_put
set_option maxRecDepth 20000 in
theorem ggX1_root_X1_isBelow : GoodIn wsX1_root wsX1_isBelow := goodIn_r _ [44, 11, 12, 13, 5, 14, 15, 49, 50, 51] (by decide +kernel) (by decide +kernel)
set_option maxRecDepth 20000 in
theorem gX1_root_X1_isBelow : GoodIn wsX1_root (wsV RX1 74 RX1 yX1_isBelow wsX1_isBelow) := goodIn_app (goodIn_of _ (by decide +kernel)) ggX1_root_X1_isBelow
set_option maxRecDepth 20000 in
theorem ggX1_root_X1_lessBy : GoodIn wsX1_root wsX1_lessBy := goodIn_r _ [48, 11, 12, 13, 5, 14, 15, 16, 17, 18, 19, 49, 50, 51] (by decide +kernel) (by decide +kernel)
set_option maxRecDepth 20000 in
theorem gX1_root_X1_lessBy : GoodIn wsX1_root (wsV RX1 77 RX1 yX1_lessBy wsX1_lessBy) := goodIn_app (goodIn_of _ (by decide +kernel)) ggX1_root_X1_lessBy
theorem dX1_root_0 : decode cX1_root 0 = .ok (.aload_n 0, 1) := by decide +kernel
theorem dX1_root_1 : decode cX1_root 1 = .ok (.iload_n 1, 1) := by decide +kernel
theorem dX1_root_2 : decode cX1_root 2 = .ok (.invokestatic 37, 3) := by decide +kernel
theorem dX1_root_5 : decode cX1_root 5 = .ok (.ifCond .eq 14, 3) := by decide +kernel
theorem dX1_root_8 : decode cX1_root 8 = .ok (.iload_n 2, 1) := by decide +kernel
theorem dX1_root_9 : decode cX1_root 9 = .ok (.invokestatic 37, 3) := by decide +kernel
theorem dX1_root_12 : decode cX1_root 12 = .ok (.ifCond .eq 7, 3) := by decide +kernel
theorem dX1_root_15 : decode cX1_root 15 = .ok (.iconst 0, 1) := by decide +kernel
theorem dX1_root_16 : decode cX1_root 16 = .ok (.goto 4, 3) := by decide +kernel
theorem dX1_root_19 : decode cX1_root 19 = .ok (.iconst 1, 1) := by decide +kernel
theorem dX1_root_20 : decode cX1_root 20 = .ok (.putfield 17, 3) := by decide +kernel
theorem dX1_root_23 : decode cX1_root 23 = .ok (.aload_n 0, 1) := by decide +kernel
theorem dX1_root_24 : decode cX1_root 24 = .ok (.getfield 17, 3) := by decide +kernel
theorem dX1_root_27 : decode cX1_root 27 = .ok (.ifCond .le 4, 3) := by decide +kernel
theorem dX1_root_30 : decode cX1_root 30 = .ok (.return_, 1) := by decide +kernel
theorem dX1_root_31 : decode cX1_root 31 = .ok (.aload_n 0, 1) := by decide +kernel
theorem dX1_root_32 : decode cX1_root 32 = .ok (.getfield 7, 3) := by decide +kernel
theorem dX1_root_35 : decode cX1_root 35 = .ok (.iload_n 2, 1) := by decide +kernel
theorem dX1_root_36 : decode cX1_root 36 = .ok (.iaload, 1) := by decide +kernel
theorem dX1_root_37 : decode cX1_root 37 = .ok (.ifCond .ge 9, 3) := by decide +kernel
theorem dX1_root_40 : decode cX1_root 40 = .ok (.aload_n 0, 1) := by decide +kernel
theorem dX1_root_41 : decode cX1_root 41 = .ok (.iconst 2, 1) := by decide +kernel
theorem dX1_root_42 : decode cX1_root 42 = .ok (.putfield 17, 3) := by decide +kernel
theorem dX1_root_45 : decode cX1_root 45 = .ok (.return_, 1) := by decide +kernel
theorem dX1_root_46 : decode cX1_root 46 = .ok (.aload_n 0, 1) := by decide +kernel
theorem dX1_root_47 : decode cX1_root 47 = .ok (.bipush 14, 2) := by decide +kernel
theorem dX1_root_49 : decode cX1_root 49 = .ok (.iload_n 2, 1) := by decide +kernel
theorem dX1_root_50 : decode cX1_root 50 = .ok (.invokevirtual 33, 3) := by decide +kernel
theorem dX1_root_53 : decode cX1_root 53 = .ok (.aload_n 0, 1) := by decide +kernel
theorem dX1_root_54 : decode cX1_root 54 = .ok (.bipush 12, 2) := by decide +kernel
theorem dX1_root_56 : decode cX1_root 56 = .ok (.invokevirtual 41, 3) := by decide +kernel
theorem dX1_root_59 : decode cX1_root 59 = .ok (.aload_n 0, 1) := by decide +kernel
theorem dX1_root_60 : decode cX1_root 60 = .ok (.bipush 13, 2) := by decide +kernel
theorem dX1_root_62 : decode cX1_root 62 = .ok (.invokevirtual 41, 3) := by decide +kernel
theorem dX1_root_65 : decode cX1_root 65 = .ok (.aload_n 0, 1) := by decide +kernel
theorem dX1_root_66 : decode cX1_root 66 = .ok (.bipush 14, 2) := by decide +kernel
theorem dX1_root_68 : decode cX1_root 68 = .ok (.invokevirtual 29, 3) := by decide +kernel
theorem dX1_root_71 : decode cX1_root 71 = .ok (.iconst 2, 1) := by decide +kernel
theorem dX1_root_72 : decode cX1_root 72 = .ok (.idiv, 1) := by decide +kernel
theorem dX1_root_73 : decode cX1_root 73 = .ok (.iconst 3, 1) := by decide +kernel
theorem dX1_root_74 : decode cX1_root 74 = .ok (.iadd, 1) := by decide +kernel
theorem dX1_root_75 : decode cX1_root 75 = .ok (.istore_n 3, 1) := by decide +kernel
theorem dX1_root_76 : decode cX1_root 76 = .ok (.aload_n 0, 1) := by decide +kernel
theorem dX1_root_77 : decode cX1_root 77 = .ok (.bipush 14, 2) := by decide +kernel
theorem dX1_root_79 : decode cX1_root 79 = .ok (.invokevirtual 64, 3) := by decide +kernel
theorem dX1_root_82 : decode cX1_root 82 = .ok (.iconst 1, 1) := by decide +kernel
theorem dX1_root_83 : decode cX1_root 83 = .ok (.iadd, 1) := by decide +kernel
theorem dX1_root_84 : decode cX1_root 84 = .ok (.iconst 2, 1) := by decide +kernel
theorem dX1_root_85 : decode cX1_root 85 = .ok (.idiv, 1) := by decide +kernel
theorem dX1_root_86 : decode cX1_root 86 = .ok (.iconst 1, 1) := by decide +kernel
theorem dX1_root_87 : decode cX1_root 87 = .ok (.isub, 1) := by decide +kernel
theorem dX1_root_88 : decode cX1_root 88 = .ok (.istore 4, 2) := by decide +kernel
theorem dX1_root_90 : decode cX1_root 90 = .ok (.iload 4, 2) := by decide +kernel
theorem dX1_root_92 : decode cX1_root 92 = .ok (.ifCond .lt 133, 3) := by decide +kernel
theorem dX1_root_95 : decode cX1_root 95 = .ok (.aload_n 0, 1) := by decide +kernel
theorem dX1_root_96 : decode cX1_root 96 = .ok (.bipush 13, 2) := by decide +kernel
theorem dX1_root_98 : decode cX1_root 98 = .ok (.iconst 2, 1) := by decide +kernel
theorem dX1_root_99 : decode cX1_root 99 = .ok (.iconst 2, 1) := by decide +kernel
theorem dX1_root_100 : decode cX1_root 100 = .ok (.aload_n 0, 1) := by decide +kernel
theorem dX1_root_101 : decode cX1_root 101 = .ok (.bipush 14, 2) := by decide +kernel
theorem dX1_root_103 : decode cX1_root 103 = .ok (.iconst 2, 1) := by decide +kernel
theorem dX1_root_104 : decode cX1_root 104 = .ok (.iload 4, 2) := by decide +kernel
theorem dX1_root_106 : decode cX1_root 106 = .ok (.imul, 1) := by decide +kernel
theorem dX1_root_107 : decode cX1_root 107 = .ok (.iconst 1, 1) := by decide +kernel
theorem dX1_root_108 : decode cX1_root 108 = .ok (.iadd, 1) := by decide +kernel
theorem dX1_root_109 : decode cX1_root 109 = .ok (.invokevirtual 67, 3) := by decide +kernel
theorem dX1_root_112 : decode cX1_root 112 = .ok (.imul, 1) := by decide +kernel
theorem dX1_root_113 : decode cX1_root 113 = .ok (.aload_n 0, 1) := by decide +kernel
theorem dX1_root_114 : decode cX1_root 114 = .ok (.bipush 14, 2) := by decide +kernel
theorem dX1_root_116 : decode cX1_root 116 = .ok (.iconst 2, 1) := by decide +kernel
theorem dX1_root_117 : decode cX1_root 117 = .ok (.iload 4, 2) := by decide +kernel
theorem dX1_root_119 : decode cX1_root 119 = .ok (.imul, 1) := by decide +kernel
theorem dX1_root_120 : decode cX1_root 120 = .ok (.invokevirtual 67, 3) := by decide +kernel
theorem dX1_root_123 : decode cX1_root 123 = .ok (.iadd, 1) := by decide +kernel
theorem dX1_root_124 : decode cX1_root 124 = .ok (.iload_n 3, 1) := by decide +kernel
theorem dX1_root_125 : decode cX1_root 125 = .ok (.invokevirtual 70, 3) := by decide +kernel
theorem dX1_root_128 : decode cX1_root 128 = .ok (.iconst 0, 1) := by decide +kernel
theorem dX1_root_129 : decode cX1_root 129 = .ok (.istore 5, 2) := by decide +kernel
theorem dX1_root_131 : decode cX1_root 131 = .ok (.iload 5, 2) := by decide +kernel
theorem dX1_root_133 : decode cX1_root 133 = .ok (.iload_n 3, 1) := by decide +kernel
theorem dX1_root_134 : decode cX1_root 134 = .ok (.if_icmp .ge 25, 3) := by decide +kernel
theorem dX1_root_137 : decode cX1_root 137 = .ok (.aload_n 0, 1) := by decide +kernel
theorem dX1_root_138 : decode cX1_root 138 = .ok (.bipush 15, 2) := by decide +kernel
theorem dX1_root_140 : decode cX1_root 140 = .ok (.iload 5, 2) := by decide +kernel
theorem dX1_root_142 : decode cX1_root 142 = .ok (.aload_n 0, 1) := by decide +kernel
theorem dX1_root_143 : decode cX1_root 143 = .ok (.bipush 12, 2) := by decide +kernel
theorem dX1_root_145 : decode cX1_root 145 = .ok (.iload 5, 2) := by decide +kernel
theorem dX1_root_147 : decode cX1_root 147 = .ok (.invokevirtual 25, 3) := by decide +kernel
theorem dX1_root_150 : decode cX1_root 150 = .ok (.invokevirtual 21, 3) := by decide +kernel
theorem dX1_root_153 : decode cX1_root 153 = .ok (.iinc 5 1, 3) := by decide +kernel
theorem dX1_root_156 : decode cX1_root 156 = .ok (.goto (-25), 3) := by decide +kernel
theorem dX1_root_159 : decode cX1_root 159 = .ok (.aload_n 0, 1) := by decide +kernel
theorem dX1_root_160 : decode cX1_root 160 = .ok (.bipush 15, 2) := by decide +kernel
theorem dX1_root_162 : decode cX1_root 162 = .ok (.iconst 2, 1) := by decide +kernel
theorem dX1_root_163 : decode cX1_root 163 = .ok (.iconst 1, 1) := by decide +kernel
theorem dX1_root_164 : decode cX1_root 164 = .ok (.iload_n 3, 1) := by decide +kernel
theorem dX1_root_165 : decode cX1_root 165 = .ok (.invokevirtual 70, 3) := by decide +kernel
theorem dX1_root_168 : decode cX1_root 168 = .ok (.aload_n 0, 1) := by decide +kernel
theorem dX1_root_169 : decode cX1_root 169 = .ok (.bipush 13, 2) := by decide +kernel
theorem dX1_root_171 : decode cX1_root 171 = .ok (.bipush 15, 2) := by decide +kernel
theorem dX1_root_173 : decode cX1_root 173 = .ok (.iload_n 3, 1) := by decide +kernel
theorem dX1_root_174 : decode cX1_root 174 = .ok (.invokevirtual 74, 3) := by decide +kernel
theorem dX1_root_177 : decode cX1_root 177 = .ok (.ifCond .ne 7, 3) := by decide +kernel
theorem dX1_root_180 : decode cX1_root 180 = .ok (.iconst 1, 1) := by decide +kernel
theorem dX1_root_181 : decode cX1_root 181 = .ok (.goto 4, 3) := by decide +kernel
theorem dX1_root_184 : decode cX1_root 184 = .ok (.iconst 0, 1) := by decide +kernel
theorem dX1_root_185 : decode cX1_root 185 = .ok (.istore 5, 2) := by decide +kernel
theorem dX1_root_187 : decode cX1_root 187 = .ok (.iload 5, 2) := by decide +kernel
theorem dX1_root_189 : decode cX1_root 189 = .ok (.ifCond .eq 12, 3) := by decide +kernel
theorem dX1_root_192 : decode cX1_root 192 = .ok (.aload_n 0, 1) := by decide +kernel
theorem dX1_root_193 : decode cX1_root 193 = .ok (.bipush 13, 2) := by decide +kernel
theorem dX1_root_195 : decode cX1_root 195 = .ok (.bipush 15, 2) := by decide +kernel
theorem dX1_root_197 : decode cX1_root 197 = .ok (.iload_n 3, 1) := by decide +kernel
theorem dX1_root_198 : decode cX1_root 198 = .ok (.invokevirtual 77, 3) := by decide +kernel
theorem dX1_root_201 : decode cX1_root 201 = .ok (.aload_n 0, 1) := by decide +kernel
theorem dX1_root_202 : decode cX1_root 202 = .ok (.bipush 12, 2) := by decide +kernel
theorem dX1_root_204 : decode cX1_root 204 = .ok (.iconst 1, 1) := by decide +kernel
theorem dX1_root_205 : decode cX1_root 205 = .ok (.iload 5, 2) := by decide +kernel
theorem dX1_root_207 : decode cX1_root 207 = .ok (.ifCond .eq 7, 3) := by decide +kernel
theorem dX1_root_210 : decode cX1_root 210 = .ok (.iconst 1, 1) := by decide +kernel
theorem dX1_root_211 : decode cX1_root 211 = .ok (.goto 4, 3) := by decide +kernel
theorem dX1_root_214 : decode cX1_root 214 = .ok (.iconst 0, 1) := by decide +kernel
theorem dX1_root_215 : decode cX1_root 215 = .ok (.iload_n 3, 1) := by decide +kernel
theorem dX1_root_216 : decode cX1_root 216 = .ok (.invokevirtual 70, 3) := by decide +kernel
theorem dX1_root_219 : decode cX1_root 219 = .ok (.iinc 4 (-1), 3) := by decide +kernel
theorem dX1_root_222 : decode cX1_root 222 = .ok (.goto (-132), 3) := by decide +kernel
theorem dX1_root_225 : decode cX1_root 225 = .ok (.aload_n 0, 1) := by decide +kernel
theorem dX1_root_226 : decode cX1_root 226 = .ok (.getfield 7, 3) := by decide +kernel
theorem dX1_root_229 : decode cX1_root 229 = .ok (.bipush 12, 2) := by decide +kernel
theorem dX1_root_231 : decode cX1_root 231 = .ok (.aload_n 0, 1) := by decide +kernel
theorem dX1_root_232 : decode cX1_root 232 = .ok (.bipush 12, 2) := by decide +kernel
theorem dX1_root_234 : decode cX1_root 234 = .ok (.invokevirtual 29, 3) := by decide +kernel
theorem dX1_root_237 : decode cX1_root 237 = .ok (.ifCond .ne 7, 3) := by decide +kernel
theorem dX1_root_240 : decode cX1_root 240 = .ok (.iconst 0, 1) := by decide +kernel
theorem dX1_root_241 : decode cX1_root 241 = .ok (.goto 4, 3) := by decide +kernel
theorem dX1_root_244 : decode cX1_root 244 = .ok (.iconst 1, 1) := by decide +kernel
theorem dX1_root_245 : decode cX1_root 245 = .ok (.iastore, 1) := by decide +kernel
theorem dX1_root_246 : decode cX1_root 246 = .ok (.aload_n 0, 1) := by decide +kernel
theorem dX1_root_247 : decode cX1_root 247 = .ok (.iload_n 1, 1) := by decide +kernel
theorem dX1_root_248 : decode cX1_root 248 = .ok (.bipush 12, 2) := by decide +kernel
theorem dX1_root_250 : decode cX1_root 250 = .ok (.invokevirtual 33, 3) := by decide +kernel
theorem dX1_root_253 : decode cX1_root 253 = .ok (.return_, 1) := by decide +kernel
set_option maxRecDepth 20000 in
theorem ggX1_compare_X1_isRegister : GoodIn wsX1_compare wsX1_isRegister := goodIn_r _ [6] (by decide +kernel) (by decide +kernel)
set_option maxRecDepth 20000 in
theorem gX1_compare_X1_isRegister : GoodIn wsX1_compare (va_wsS RX1 37 yX1_isRegister wsX1_isRegister) := goodIn_app (goodIn_of _ (by decide +kernel)) ggX1_compare_X1_isRegister
set_option maxRecDepth 20000 in
theorem ggX1_compare_X1_order : GoodIn wsX1_compare wsX1_order := goodIn_r _ [10, 11, 12, 13, 5, 14, 15, 16, 17, 18] (by decide +kernel) (by decide +kernel)
set_option maxRecDepth 20000 in
theorem gX1_compare_X1_order : GoodIn wsX1_compare (wsV RX1 49 RX1 yX1_order wsX1_order) := goodIn_app (goodIn_of _ (by decide +kernel)) ggX1_compare_X1_order
theorem dX1_compare_0 : decode cX1_compare 0 = .ok (.aload_n 0, 1) := by decide +kernel
theorem dX1_compare_1 : decode cX1_compare 1 = .ok (.iload_n 1, 1) := by decide +kernel
theorem dX1_compare_2 : decode cX1_compare 2 = .ok (.invokestatic 37, 3) := by decide +kernel
theorem dX1_compare_5 : decode cX1_compare 5 = .ok (.ifCond .eq 14, 3) := by decide +kernel
theorem dX1_compare_8 : decode cX1_compare 8 = .ok (.iload_n 2, 1) := by decide +kernel
theorem dX1_compare_9 : decode cX1_compare 9 = .ok (.invokestatic 37, 3) := by decide +kernel
theorem dX1_compare_12 : decode cX1_compare 12 = .ok (.ifCond .eq 7, 3) := by decide +kernel
theorem dX1_compare_15 : decode cX1_compare 15 = .ok (.iconst 0, 1) := by decide +kernel
theorem dX1_compare_16 : decode cX1_compare 16 = .ok (.goto 4, 3) := by decide +kernel
theorem dX1_compare_19 : decode cX1_compare 19 = .ok (.iconst 1, 1) := by decide +kernel
theorem dX1_compare_20 : decode cX1_compare 20 = .ok (.putfield 17, 3) := by decide +kernel
theorem dX1_compare_23 : decode cX1_compare 23 = .ok (.aload_n 0, 1) := by decide +kernel
theorem dX1_compare_24 : decode cX1_compare 24 = .ok (.getfield 17, 3) := by decide +kernel
theorem dX1_compare_27 : decode cX1_compare 27 = .ok (.ifCond .le 5, 3) := by decide +kernel
theorem dX1_compare_30 : decode cX1_compare 30 = .ok (.iconst 0, 1) := by decide +kernel
theorem dX1_compare_31 : decode cX1_compare 31 = .ok (.ireturn, 1) := by decide +kernel
theorem dX1_compare_32 : decode cX1_compare 32 = .ok (.aload_n 0, 1) := by decide +kernel
theorem dX1_compare_33 : decode cX1_compare 33 = .ok (.getfield 7, 3) := by decide +kernel
theorem dX1_compare_36 : decode cX1_compare 36 = .ok (.iload_n 1, 1) := by decide +kernel
theorem dX1_compare_37 : decode cX1_compare 37 = .ok (.iaload, 1) := by decide +kernel
theorem dX1_compare_38 : decode cX1_compare 38 = .ok (.aload_n 0, 1) := by decide +kernel
theorem dX1_compare_39 : decode cX1_compare 39 = .ok (.getfield 7, 3) := by decide +kernel
theorem dX1_compare_42 : decode cX1_compare 42 = .ok (.iload_n 2, 1) := by decide +kernel
theorem dX1_compare_43 : decode cX1_compare 43 = .ok (.iaload, 1) := by decide +kernel
theorem dX1_compare_44 : decode cX1_compare 44 = .ok (.if_icmp .eq 24, 3) := by decide +kernel
theorem dX1_compare_47 : decode cX1_compare 47 = .ok (.aload_n 0, 1) := by decide +kernel
theorem dX1_compare_48 : decode cX1_compare 48 = .ok (.getfield 7, 3) := by decide +kernel
theorem dX1_compare_51 : decode cX1_compare 51 = .ok (.iload_n 1, 1) := by decide +kernel
theorem dX1_compare_52 : decode cX1_compare 52 = .ok (.iaload, 1) := by decide +kernel
theorem dX1_compare_53 : decode cX1_compare 53 = .ok (.aload_n 0, 1) := by decide +kernel
theorem dX1_compare_54 : decode cX1_compare 54 = .ok (.getfield 7, 3) := by decide +kernel
theorem dX1_compare_57 : decode cX1_compare 57 = .ok (.iload_n 2, 1) := by decide +kernel
theorem dX1_compare_58 : decode cX1_compare 58 = .ok (.iaload, 1) := by decide +kernel
theorem dX1_compare_59 : decode cX1_compare 59 = .ok (.if_icmp .ge 7, 3) := by decide +kernel
theorem dX1_compare_62 : decode cX1_compare 62 = .ok (.iconst (-1), 1) := by decide +kernel
theorem dX1_compare_63 : decode cX1_compare 63 = .ok (.goto 4, 3) := by decide +kernel
theorem dX1_compare_66 : decode cX1_compare 66 = .ok (.iconst 1, 1) := by decide +kernel
theorem dX1_compare_67 : decode cX1_compare 67 = .ok (.ireturn, 1) := by decide +kernel
theorem dX1_compare_68 : decode cX1_compare 68 = .ok (.aload_n 0, 1) := by decide +kernel
theorem dX1_compare_69 : decode cX1_compare 69 = .ok (.getfield 7, 3) := by decide +kernel
theorem dX1_compare_72 : decode cX1_compare 72 = .ok (.iload_n 1, 1) := by decide +kernel
theorem dX1_compare_73 : decode cX1_compare 73 = .ok (.iaload, 1) := by decide +kernel
theorem dX1_compare_74 : decode cX1_compare 74 = .ok (.ifCond .ge 12, 3) := by decide +kernel
theorem dX1_compare_77 : decode cX1_compare 77 = .ok (.aload_n 0, 1) := by decide +kernel
theorem dX1_compare_78 : decode cX1_compare 78 = .ok (.iload_n 2, 1) := by decide +kernel
theorem dX1_compare_79 : decode cX1_compare 79 = .ok (.iload_n 1, 1) := by decide +kernel
theorem dX1_compare_80 : decode cX1_compare 80 = .ok (.invokevirtual 49, 3) := by decide +kernel
theorem dX1_compare_83 : decode cX1_compare 83 = .ok (.goto 9, 3) := by decide +kernel
theorem dX1_compare_86 : decode cX1_compare 86 = .ok (.aload_n 0, 1) := by decide +kernel
theorem dX1_compare_87 : decode cX1_compare 87 = .ok (.iload_n 1, 1) := by decide +kernel
theorem dX1_compare_88 : decode cX1_compare 88 = .ok (.iload_n 2, 1) := by decide +kernel
theorem dX1_compare_89 : decode cX1_compare 89 = .ok (.invokevirtual 49, 3) := by decide +kernel
theorem dX1_compare_92 : decode cX1_compare 92 = .ok (.ireturn, 1) := by decide +kernel
set_option maxRecDepth 20000 in
theorem ggX1_compareSizes_X1_isRegister : GoodIn wsX1_compareSizes wsX1_isRegister := goodIn_r _ [5] (by decide +kernel) (by decide +kernel)
set_option maxRecDepth 20000 in
theorem gX1_compareSizes_X1_isRegister : GoodIn wsX1_compareSizes (va_wsS RX1 37 yX1_isRegister wsX1_isRegister) := goodIn_app (goodIn_of _ (by decide +kernel)) ggX1_compareSizes_X1_isRegister
set_option maxRecDepth 20000 in
theorem ggX1_compareSizes_X1_order : GoodIn wsX1_compareSizes wsX1_order := goodIn_r _ [9, 10, 11, 12, 4, 13, 14, 15, 16, 17] (by decide +kernel) (by decide +kernel)
set_option maxRecDepth 20000 in
theorem gX1_compareSizes_X1_order : GoodIn wsX1_compareSizes (wsV RX1 49 RX1 yX1_order wsX1_order) := goodIn_app (goodIn_of _ (by decide +kernel)) ggX1_compareSizes_X1_order
theorem dX1_compareSizes_0 : decode cX1_compareSizes 0 = .ok (.aload_n 0, 1) := by decide +kernel
theorem dX1_compareSizes_1 : decode cX1_compareSizes 1 = .ok (.iload_n 1, 1) := by decide +kernel
theorem dX1_compareSizes_2 : decode cX1_compareSizes 2 = .ok (.invokestatic 37, 3) := by decide +kernel
theorem dX1_compareSizes_5 : decode cX1_compareSizes 5 = .ok (.ifCond .eq 14, 3) := by decide +kernel
theorem dX1_compareSizes_8 : decode cX1_compareSizes 8 = .ok (.iload_n 2, 1) := by decide +kernel
theorem dX1_compareSizes_9 : decode cX1_compareSizes 9 = .ok (.invokestatic 37, 3) := by decide +kernel
theorem dX1_compareSizes_12 : decode cX1_compareSizes 12 = .ok (.ifCond .eq 7, 3) := by decide +kernel
theorem dX1_compareSizes_15 : decode cX1_compareSizes 15 = .ok (.iconst 0, 1) := by decide +kernel
theorem dX1_compareSizes_16 : decode cX1_compareSizes 16 = .ok (.goto 4, 3) := by decide +kernel
theorem dX1_compareSizes_19 : decode cX1_compareSizes 19 = .ok (.iconst 1, 1) := by decide +kernel
theorem dX1_compareSizes_20 : decode cX1_compareSizes 20 = .ok (.putfield 17, 3) := by decide +kernel
theorem dX1_compareSizes_23 : decode cX1_compareSizes 23 = .ok (.aload_n 0, 1) := by decide +kernel
theorem dX1_compareSizes_24 : decode cX1_compareSizes 24 = .ok (.getfield 17, 3) := by decide +kernel
theorem dX1_compareSizes_27 : decode cX1_compareSizes 27 = .ok (.ifCond .le 7, 3) := by decide +kernel
theorem dX1_compareSizes_30 : decode cX1_compareSizes 30 = .ok (.iconst 0, 1) := by decide +kernel
theorem dX1_compareSizes_31 : decode cX1_compareSizes 31 = .ok (.goto 9, 3) := by decide +kernel
theorem dX1_compareSizes_34 : decode cX1_compareSizes 34 = .ok (.aload_n 0, 1) := by decide +kernel
theorem dX1_compareSizes_35 : decode cX1_compareSizes 35 = .ok (.iload_n 1, 1) := by decide +kernel
theorem dX1_compareSizes_36 : decode cX1_compareSizes 36 = .ok (.iload_n 2, 1) := by decide +kernel
theorem dX1_compareSizes_37 : decode cX1_compareSizes 37 = .ok (.invokevirtual 49, 3) := by decide +kernel
theorem dX1_compareSizes_40 : decode cX1_compareSizes 40 = .ok (.ireturn, 1) := by decide +kernel
set_option maxRecDepth 20000 in
theorem ggX1_sign_X1_isRegister : GoodIn wsX1_sign wsX1_isRegister := goodIn_r _ [6] (by decide +kernel) (by decide +kernel)
set_option maxRecDepth 20000 in
theorem gX1_sign_X1_isRegister : GoodIn wsX1_sign (va_wsS RX1 37 yX1_isRegister wsX1_isRegister) := goodIn_app (goodIn_of _ (by decide +kernel)) ggX1_sign_X1_isRegister
theorem dX1_sign_0 : decode cX1_sign 0 = .ok (.aload_n 0, 1) := by decide +kernel
theorem dX1_sign_1 : decode cX1_sign 1 = .ok (.iload_n 1, 1) := by decide +kernel
theorem dX1_sign_2 : decode cX1_sign 2 = .ok (.invokestatic 37, 3) := by decide +kernel
theorem dX1_sign_5 : decode cX1_sign 5 = .ok (.ifCond .eq 7, 3) := by decide +kernel
theorem dX1_sign_8 : decode cX1_sign 8 = .ok (.iconst 0, 1) := by decide +kernel
theorem dX1_sign_9 : decode cX1_sign 9 = .ok (.goto 4, 3) := by decide +kernel
theorem dX1_sign_12 : decode cX1_sign 12 = .ok (.iconst 1, 1) := by decide +kernel
theorem dX1_sign_13 : decode cX1_sign 13 = .ok (.putfield 17, 3) := by decide +kernel
theorem dX1_sign_16 : decode cX1_sign 16 = .ok (.aload_n 0, 1) := by decide +kernel
theorem dX1_sign_17 : decode cX1_sign 17 = .ok (.getfield 17, 3) := by decide +kernel
theorem dX1_sign_20 : decode cX1_sign 20 = .ok (.ifCond .le 7, 3) := by decide +kernel
theorem dX1_sign_23 : decode cX1_sign 23 = .ok (.iconst 0, 1) := by decide +kernel
theorem dX1_sign_24 : decode cX1_sign 24 = .ok (.goto 9, 3) := by decide +kernel
theorem dX1_sign_27 : decode cX1_sign 27 = .ok (.aload_n 0, 1) := by decide +kernel
theorem dX1_sign_28 : decode cX1_sign 28 = .ok (.getfield 7, 3) := by decide +kernel
theorem dX1_sign_31 : decode cX1_sign 31 = .ok (.iload_n 1, 1) := by decide +kernel
theorem dX1_sign_32 : decode cX1_sign 32 = .ok (.iaload, 1) := by decide +kernel
theorem dX1_sign_33 : decode cX1_sign 33 = .ok (.ireturn, 1) := by decide +kernel
set_option maxRecDepth 20000 in
theorem ggX1_bits_X1_isRegister : GoodIn wsX1_bits wsX1_isRegister := goodIn_r _ [5] (by decide +kernel) (by decide +kernel)
set_option maxRecDepth 20000 in
theorem gX1_bits_X1_isRegister : GoodIn wsX1_bits (va_wsS RX1 37 yX1_isRegister wsX1_isRegister) := goodIn_app (goodIn_of _ (by decide +kernel)) ggX1_bits_X1_isRegister
set_option maxRecDepth 20000 in
theorem ggX1_bits_X1_bitsOf : GoodIn wsX1_bits wsX1_bitsOf := goodIn_r _ [9, 10, 11, 12, 4, 13, 14, 15, 16, 17, 18, 19, 20, 21] (by decide +kernel) (by decide +kernel)
set_option maxRecDepth 20000 in
theorem gX1_bits_X1_bitsOf : GoodIn wsX1_bits (wsV RX1 64 RX1 yX1_bitsOf wsX1_bitsOf) := goodIn_app (goodIn_of _ (by decide +kernel)) ggX1_bits_X1_bitsOf
theorem dX1_bits_0 : decode cX1_bits 0 = .ok (.aload_n 0, 1) := by decide +kernel
theorem dX1_bits_1 : decode cX1_bits 1 = .ok (.iload_n 1, 1) := by decide +kernel
theorem dX1_bits_2 : decode cX1_bits 2 = .ok (.invokestatic 37, 3) := by decide +kernel
theorem dX1_bits_5 : decode cX1_bits 5 = .ok (.ifCond .eq 7, 3) := by decide +kernel
theorem dX1_bits_8 : decode cX1_bits 8 = .ok (.iconst 0, 1) := by decide +kernel
theorem dX1_bits_9 : decode cX1_bits 9 = .ok (.goto 4, 3) := by decide +kernel
theorem dX1_bits_12 : decode cX1_bits 12 = .ok (.iconst 1, 1) := by decide +kernel
theorem dX1_bits_13 : decode cX1_bits 13 = .ok (.putfield 17, 3) := by decide +kernel
theorem dX1_bits_16 : decode cX1_bits 16 = .ok (.aload_n 0, 1) := by decide +kernel
theorem dX1_bits_17 : decode cX1_bits 17 = .ok (.getfield 17, 3) := by decide +kernel
theorem dX1_bits_20 : decode cX1_bits 20 = .ok (.ifCond .le 7, 3) := by decide +kernel
theorem dX1_bits_23 : decode cX1_bits 23 = .ok (.iconst 0, 1) := by decide +kernel
theorem dX1_bits_24 : decode cX1_bits 24 = .ok (.goto 8, 3) := by decide +kernel
theorem dX1_bits_27 : decode cX1_bits 27 = .ok (.aload_n 0, 1) := by decide +kernel
theorem dX1_bits_28 : decode cX1_bits 28 = .ok (.iload_n 1, 1) := by decide +kernel
theorem dX1_bits_29 : decode cX1_bits 29 = .ok (.invokevirtual 64, 3) := by decide +kernel
theorem dX1_bits_32 : decode cX1_bits 32 = .ok (.ireturn, 1) := by decide +kernel
set_option maxRecDepth 20000 in
theorem ggX1_word_X1_isRegister : GoodIn wsX1_word wsX1_isRegister := goodIn_r _ [5] (by decide +kernel) (by decide +kernel)
set_option maxRecDepth 20000 in
theorem gX1_word_X1_isRegister : GoodIn wsX1_word (va_wsS RX1 37 yX1_isRegister wsX1_isRegister) := goodIn_app (goodIn_of _ (by decide +kernel)) ggX1_word_X1_isRegister
set_option maxRecDepth 20000 in
theorem ggX1_word_X1_get : GoodIn wsX1_word wsX1_get := goodIn_r _ [9, 10, 11, 12, 13] (by decide +kernel) (by decide +kernel)
set_option maxRecDepth 20000 in
theorem gX1_word_X1_get : GoodIn wsX1_word (wsV RX1 25 RX1 yX1_get wsX1_get) := goodIn_app (goodIn_of _ (by decide +kernel)) ggX1_word_X1_get
theorem dX1_word_0 : decode cX1_word 0 = .ok (.aload_n 0, 1) := by decide +kernel
theorem dX1_word_1 : decode cX1_word 1 = .ok (.iload_n 1, 1) := by decide +kernel
theorem dX1_word_2 : decode cX1_word 2 = .ok (.invokestatic 37, 3) := by decide +kernel
theorem dX1_word_5 : decode cX1_word 5 = .ok (.ifCond .eq 18, 3) := by decide +kernel
theorem dX1_word_8 : decode cX1_word 8 = .ok (.iload_n 2, 1) := by decide +kernel
theorem dX1_word_9 : decode cX1_word 9 = .ok (.ifCond .lt 14, 3) := by decide +kernel
theorem dX1_word_12 : decode cX1_word 12 = .ok (.iload_n 2, 1) := by decide +kernel
theorem dX1_word_13 : decode cX1_word 13 = .ok (.sipush 512, 3) := by decide +kernel
theorem dX1_word_16 : decode cX1_word 16 = .ok (.if_icmp .ge 7, 3) := by decide +kernel
theorem dX1_word_19 : decode cX1_word 19 = .ok (.iconst 0, 1) := by decide +kernel
theorem dX1_word_20 : decode cX1_word 20 = .ok (.goto 4, 3) := by decide +kernel
theorem dX1_word_23 : decode cX1_word 23 = .ok (.iconst 1, 1) := by decide +kernel
theorem dX1_word_24 : decode cX1_word 24 = .ok (.putfield 17, 3) := by decide +kernel
theorem dX1_word_27 : decode cX1_word 27 = .ok (.aload_n 0, 1) := by decide +kernel
theorem dX1_word_28 : decode cX1_word 28 = .ok (.getfield 17, 3) := by decide +kernel
theorem dX1_word_31 : decode cX1_word 31 = .ok (.ifCond .le 7, 3) := by decide +kernel
theorem dX1_word_34 : decode cX1_word 34 = .ok (.iconst 0, 1) := by decide +kernel
theorem dX1_word_35 : decode cX1_word 35 = .ok (.goto 25, 3) := by decide +kernel
theorem dX1_word_38 : decode cX1_word 38 = .ok (.aload_n 0, 1) := by decide +kernel
theorem dX1_word_39 : decode cX1_word 39 = .ok (.iload_n 1, 1) := by decide +kernel
theorem dX1_word_40 : decode cX1_word 40 = .ok (.iconst 2, 1) := by decide +kernel
theorem dX1_word_41 : decode cX1_word 41 = .ok (.iload_n 2, 1) := by decide +kernel
theorem dX1_word_42 : decode cX1_word 42 = .ok (.imul, 1) := by decide +kernel
theorem dX1_word_43 : decode cX1_word 43 = .ok (.invokevirtual 25, 3) := by decide +kernel
theorem dX1_word_46 : decode cX1_word 46 = .ok (.aload_n 0, 1) := by decide +kernel
theorem dX1_word_47 : decode cX1_word 47 = .ok (.iload_n 1, 1) := by decide +kernel
theorem dX1_word_48 : decode cX1_word 48 = .ok (.iconst 2, 1) := by decide +kernel
theorem dX1_word_49 : decode cX1_word 49 = .ok (.iload_n 2, 1) := by decide +kernel
theorem dX1_word_50 : decode cX1_word 50 = .ok (.imul, 1) := by decide +kernel
theorem dX1_word_51 : decode cX1_word 51 = .ok (.iconst 1, 1) := by decide +kernel
theorem dX1_word_52 : decode cX1_word 52 = .ok (.iadd, 1) := by decide +kernel
theorem dX1_word_53 : decode cX1_word 53 = .ok (.invokevirtual 25, 3) := by decide +kernel
theorem dX1_word_56 : decode cX1_word 56 = .ok (.bipush 16, 2) := by decide +kernel
theorem dX1_word_58 : decode cX1_word 58 = .ok (.ishl, 1) := by decide +kernel
theorem dX1_word_59 : decode cX1_word 59 = .ok (.ior, 1) := by decide +kernel
theorem dX1_word_60 : decode cX1_word 60 = .ok (.ireturn, 1) := by decide +kernel
set_option maxRecDepth 20000 in
theorem ggX1_residue_X1_isRegister : GoodIn wsX1_residue wsX1_isRegister := goodIn_r _ [7] (by decide +kernel) (by decide +kernel)
set_option maxRecDepth 20000 in
theorem gX1_residue_X1_isRegister : GoodIn wsX1_residue (va_wsS RX1 37 yX1_isRegister wsX1_isRegister) := goodIn_app (goodIn_of _ (by decide +kernel)) ggX1_residue_X1_isRegister
set_option maxRecDepth 20000 in
theorem ggX1_residue_X1_length : GoodIn wsX1_residue wsX1_length := goodIn_r _ [11, 12, 13, 14, 6, 15, 16, 17, 18, 19] (by decide +kernel) (by decide +kernel)
set_option maxRecDepth 20000 in
theorem gX1_residue_X1_length : GoodIn wsX1_residue (wsV RX1 29 RX1 yX1_length wsX1_length) := goodIn_app (goodIn_of _ (by decide +kernel)) ggX1_residue_X1_length
set_option maxRecDepth 20000 in
theorem ggX1_residue_X1_get : GoodIn wsX1_residue wsX1_get := goodIn_r _ [15, 16, 17, 18, 19] (by decide +kernel) (by decide +kernel)
set_option maxRecDepth 20000 in
theorem gX1_residue_X1_get : GoodIn wsX1_residue (wsV RX1 25 RX1 yX1_get wsX1_get) := goodIn_app (goodIn_of _ (by decide +kernel)) ggX1_residue_X1_get
theorem dX1_residue_0 : decode cX1_residue 0 = .ok (.aload_n 0, 1) := by decide +kernel
theorem dX1_residue_1 : decode cX1_residue 1 = .ok (.iload_n 1, 1) := by decide +kernel
theorem dX1_residue_2 : decode cX1_residue 2 = .ok (.invokestatic 37, 3) := by decide +kernel
theorem dX1_residue_5 : decode cX1_residue 5 = .ok (.ifCond .eq 7, 3) := by decide +kernel
theorem dX1_residue_8 : decode cX1_residue 8 = .ok (.iconst 0, 1) := by decide +kernel
theorem dX1_residue_9 : decode cX1_residue 9 = .ok (.goto 4, 3) := by decide +kernel
theorem dX1_residue_12 : decode cX1_residue 12 = .ok (.iconst 1, 1) := by decide +kernel
theorem dX1_residue_13 : decode cX1_residue 13 = .ok (.putfield 17, 3) := by decide +kernel
theorem dX1_residue_16 : decode cX1_residue 16 = .ok (.aload_n 0, 1) := by decide +kernel
theorem dX1_residue_17 : decode cX1_residue 17 = .ok (.getfield 17, 3) := by decide +kernel
theorem dX1_residue_20 : decode cX1_residue 20 = .ok (.ifCond .le 5, 3) := by decide +kernel
theorem dX1_residue_23 : decode cX1_residue 23 = .ok (.iconst 0, 1) := by decide +kernel
theorem dX1_residue_24 : decode cX1_residue 24 = .ok (.ireturn, 1) := by decide +kernel
theorem dX1_residue_25 : decode cX1_residue 25 = .ok (.iload_n 2, 1) := by decide +kernel
theorem dX1_residue_26 : decode cX1_residue 26 = .ok (.iconst 1, 1) := by decide +kernel
theorem dX1_residue_27 : decode cX1_residue 27 = .ok (.if_icmp .ge 10, 3) := by decide +kernel
theorem dX1_residue_30 : decode cX1_residue 30 = .ok (.aload_n 0, 1) := by decide +kernel
theorem dX1_residue_31 : decode cX1_residue 31 = .ok (.iconst 2, 1) := by decide +kernel
theorem dX1_residue_32 : decode cX1_residue 32 = .ok (.putfield 17, 3) := by decide +kernel
theorem dX1_residue_35 : decode cX1_residue 35 = .ok (.iconst 0, 1) := by decide +kernel
theorem dX1_residue_36 : decode cX1_residue 36 = .ok (.ireturn, 1) := by decide +kernel
theorem dX1_residue_37 : decode cX1_residue 37 = .ok (.lconst 0, 1) := by decide +kernel
theorem dX1_residue_38 : decode cX1_residue 38 = .ok (.lstore_n 3, 1) := by decide +kernel
theorem dX1_residue_39 : decode cX1_residue 39 = .ok (.aload_n 0, 1) := by decide +kernel
theorem dX1_residue_40 : decode cX1_residue 40 = .ok (.iload_n 1, 1) := by decide +kernel
theorem dX1_residue_41 : decode cX1_residue 41 = .ok (.invokevirtual 29, 3) := by decide +kernel
theorem dX1_residue_44 : decode cX1_residue 44 = .ok (.iconst 1, 1) := by decide +kernel
theorem dX1_residue_45 : decode cX1_residue 45 = .ok (.isub, 1) := by decide +kernel
theorem dX1_residue_46 : decode cX1_residue 46 = .ok (.istore 5, 2) := by decide +kernel
theorem dX1_residue_48 : decode cX1_residue 48 = .ok (.iload 5, 2) := by decide +kernel
theorem dX1_residue_50 : decode cX1_residue 50 = .ok (.ifCond .lt 27, 3) := by decide +kernel
theorem dX1_residue_53 : decode cX1_residue 53 = .ok (.lload_n 3, 1) := by decide +kernel
theorem dX1_residue_54 : decode cX1_residue 54 = .ok (.ldc2_w 80, 3) := by decide +kernel
theorem dX1_residue_57 : decode cX1_residue 57 = .ok (.lmul, 1) := by decide +kernel
theorem dX1_residue_58 : decode cX1_residue 58 = .ok (.aload_n 0, 1) := by decide +kernel
theorem dX1_residue_59 : decode cX1_residue 59 = .ok (.iload_n 1, 1) := by decide +kernel
theorem dX1_residue_60 : decode cX1_residue 60 = .ok (.iload 5, 2) := by decide +kernel
theorem dX1_residue_62 : decode cX1_residue 62 = .ok (.invokevirtual 25, 3) := by decide +kernel
theorem dX1_residue_65 : decode cX1_residue 65 = .ok (.i2l, 1) := by decide +kernel
theorem dX1_residue_66 : decode cX1_residue 66 = .ok (.ladd, 1) := by decide +kernel
theorem dX1_residue_67 : decode cX1_residue 67 = .ok (.iload_n 2, 1) := by decide +kernel
theorem dX1_residue_68 : decode cX1_residue 68 = .ok (.i2l, 1) := by decide +kernel
theorem dX1_residue_69 : decode cX1_residue 69 = .ok (.lrem, 1) := by decide +kernel
theorem dX1_residue_70 : decode cX1_residue 70 = .ok (.lstore_n 3, 1) := by decide +kernel
theorem dX1_residue_71 : decode cX1_residue 71 = .ok (.iinc 5 (-1), 3) := by decide +kernel
theorem dX1_residue_74 : decode cX1_residue 74 = .ok (.goto (-26), 3) := by decide +kernel
theorem dX1_residue_77 : decode cX1_residue 77 = .ok (.aload_n 0, 1) := by decide +kernel
theorem dX1_residue_78 : decode cX1_residue 78 = .ok (.getfield 7, 3) := by decide +kernel
theorem dX1_residue_81 : decode cX1_residue 81 = .ok (.iload_n 1, 1) := by decide +kernel
theorem dX1_residue_82 : decode cX1_residue 82 = .ok (.iaload, 1) := by decide +kernel
theorem dX1_residue_83 : decode cX1_residue 83 = .ok (.ifCond .ge 16, 3) := by decide +kernel
theorem dX1_residue_86 : decode cX1_residue 86 = .ok (.lload_n 3, 1) := by decide +kernel
theorem dX1_residue_87 : decode cX1_residue 87 = .ok (.lconst 0, 1) := by decide +kernel
theorem dX1_residue_88 : decode cX1_residue 88 = .ok (.lcmp, 1) := by decide +kernel
theorem dX1_residue_89 : decode cX1_residue 89 = .ok (.ifCond .le 10, 3) := by decide +kernel
theorem dX1_residue_92 : decode cX1_residue 92 = .ok (.iload_n 2, 1) := by decide +kernel
theorem dX1_residue_93 : decode cX1_residue 93 = .ok (.i2l, 1) := by decide +kernel
theorem dX1_residue_94 : decode cX1_residue 94 = .ok (.lload_n 3, 1) := by decide +kernel
theorem dX1_residue_95 : decode cX1_residue 95 = .ok (.lsub, 1) := by decide +kernel
theorem dX1_residue_96 : decode cX1_residue 96 = .ok (.goto 4, 3) := by decide +kernel
theorem dX1_residue_99 : decode cX1_residue 99 = .ok (.lload_n 3, 1) := by decide +kernel
theorem dX1_residue_100 : decode cX1_residue 100 = .ok (.l2i, 1) := by decide +kernel
theorem dX1_residue_101 : decode cX1_residue 101 = .ok (.ireturn, 1) := by decide +kernel

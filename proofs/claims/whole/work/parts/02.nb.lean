set_option maxRecDepth 20000 in
theorem ggX0_init_X5_init : GoodIn wsX0_init wsX5_init := goodIn_r _ [4, 5, 6, 7, 8, 9, 10, 11, 12, 13, 14, 15, 16, 17, 18, 19, 20, 21, 22, 23, 24, 25, 26, 27, 28, 29] (by decide +kernel) (by decide +kernel)
set_option maxRecDepth 20000 in
theorem gX0_init_X5_init : GoodIn wsX0_init (wsX5_init) := ggX0_init_X5_init
theorem dX0_init_0 : decode cX0_init 0 = .ok (.aload_n 0, 1) := by decide +kernel
theorem dX0_init_1 : decode cX0_init 1 = .ok (.iload_n 1, 1) := by decide +kernel
theorem dX0_init_2 : decode cX0_init 2 = .ok (.iload_n 2, 1) := by decide +kernel
theorem dX0_init_3 : decode cX0_init 3 = .ok (.invokespecial 1, 3) := by decide +kernel
theorem dX0_init_6 : decode cX0_init 6 = .ok (.return_, 1) := by decide +kernel
set_option maxRecDepth 20000 in
theorem ggX0_mayDispute_X5_mayDispute : GoodIn wsX0_mayDispute wsX5_mayDispute := goodIn_r _ [6, 7, 8, 9, 10, 11, 12, 13, 14, 15, 16, 17, 18, 19, 20, 21, 22, 23, 24, 25, 26, 27, 28, 29, 30, 31, 32, 33] (by decide +kernel) (by decide +kernel)
set_option maxRecDepth 20000 in
theorem gX0_mayDispute_X5_mayDispute_s7 : GoodIn wsX0_mayDispute (va_wsSU RX0 7 yX5_mayDispute wsX5_mayDispute) := goodIn_app (goodIn_of _ (by decide +kernel)) ggX0_mayDispute_X5_mayDispute
theorem dX0_mayDispute_0 : decode cX0_mayDispute 0 = .ok (.aload_n 0, 1) := by decide +kernel
theorem dX0_mayDispute_1 : decode cX0_mayDispute 1 = .ok (.iload_n 1, 1) := by decide +kernel
theorem dX0_mayDispute_2 : decode cX0_mayDispute 2 = .ok (.iload_n 2, 1) := by decide +kernel
theorem dX0_mayDispute_3 : decode cX0_mayDispute 3 = .ok (.iload_n 3, 1) := by decide +kernel
theorem dX0_mayDispute_4 : decode cX0_mayDispute 4 = .ok (.iload 4, 2) := by decide +kernel
theorem dX0_mayDispute_6 : decode cX0_mayDispute 6 = .ok (.invokespecial 7, 3) := by decide +kernel
theorem dX0_mayDispute_9 : decode cX0_mayDispute 9 = .ok (.ifCond .eq 12, 3) := by decide +kernel
theorem dX0_mayDispute_12 : decode cX0_mayDispute 12 = .ok (.iload 4, 2) := by decide +kernel
theorem dX0_mayDispute_14 : decode cX0_mayDispute 14 = .ok (.ifCond .eq 7, 3) := by decide +kernel
theorem dX0_mayDispute_17 : decode cX0_mayDispute 17 = .ok (.iconst 1, 1) := by decide +kernel
theorem dX0_mayDispute_18 : decode cX0_mayDispute 18 = .ok (.goto 4, 3) := by decide +kernel
theorem dX0_mayDispute_21 : decode cX0_mayDispute 21 = .ok (.iconst 0, 1) := by decide +kernel
theorem dX0_mayDispute_22 : decode cX0_mayDispute 22 = .ok (.ireturn, 1) := by decide +kernel
theorem dX0_isSilenced_0 : decode cX0_isSilenced 0 = .ok (.iload 4, 2) := by decide +kernel
theorem dX0_isSilenced_2 : decode cX0_isSilenced 2 = .ok (.ifCond .ne 19, 3) := by decide +kernel
theorem dX0_isSilenced_5 : decode cX0_isSilenced 5 = .ok (.aload_n 0, 1) := by decide +kernel
theorem dX0_isSilenced_6 : decode cX0_isSilenced 6 = .ok (.iload_n 1, 1) := by decide +kernel
theorem dX0_isSilenced_7 : decode cX0_isSilenced 7 = .ok (.iload_n 2, 1) := by decide +kernel
theorem dX0_isSilenced_8 : decode cX0_isSilenced 8 = .ok (.iload_n 3, 1) := by decide +kernel
theorem dX0_isSilenced_9 : decode cX0_isSilenced 9 = .ok (.iload 4, 2) := by decide +kernel
theorem dX0_isSilenced_11 : decode cX0_isSilenced 11 = .ok (.invokespecial 11, 3) := by decide +kernel
theorem dX0_isSilenced_14 : decode cX0_isSilenced 14 = .ok (.ifCond .eq 7, 3) := by decide +kernel
theorem dX0_isSilenced_17 : decode cX0_isSilenced 17 = .ok (.iconst 1, 1) := by decide +kernel
theorem dX0_isSilenced_18 : decode cX0_isSilenced 18 = .ok (.goto 4, 3) := by decide +kernel
theorem dX0_isSilenced_21 : decode cX0_isSilenced 21 = .ok (.iconst 0, 1) := by decide +kernel
theorem dX0_isSilenced_22 : decode cX0_isSilenced 22 = .ok (.ireturn, 1) := by decide +kernel
set_option maxRecDepth 20000 in
theorem ggX0_effort_X5_effort : GoodIn wsX0_effort wsX5_effort := goodIn_r _ [6, 7, 8, 9, 10, 11, 12, 13, 14, 15, 16, 17, 18, 19, 20, 21, 22, 23, 24, 25, 26, 27, 28, 29, 30] (by decide +kernel) (by decide +kernel)
set_option maxRecDepth 20000 in
theorem gX0_effort_X5_effort_s15 : GoodIn wsX0_effort (va_wsSU RX0 15 yX5_effort wsX5_effort) := goodIn_app (goodIn_of _ (by decide +kernel)) ggX0_effort_X5_effort
theorem dX0_effort_0 : decode cX0_effort 0 = .ok (.aload_n 0, 1) := by decide +kernel
theorem dX0_effort_1 : decode cX0_effort 1 = .ok (.iload_n 1, 1) := by decide +kernel
theorem dX0_effort_2 : decode cX0_effort 2 = .ok (.invokespecial 15, 3) := by decide +kernel
theorem dX0_effort_5 : decode cX0_effort 5 = .ok (.iconst 2, 1) := by decide +kernel
theorem dX0_effort_6 : decode cX0_effort 6 = .ok (.imul, 1) := by decide +kernel
theorem dX0_effort_7 : decode cX0_effort 7 = .ok (.ireturn, 1) := by decide +kernel
set_option maxRecDepth 20000 in
theorem ggX0_asks_X5_asks : GoodIn wsX0_asks wsX5_asks := goodIn_r _ [6, 7, 8, 9, 10, 11, 12, 13, 14, 15, 16, 17, 18, 19, 20, 21, 22, 23, 24, 25, 26, 27, 28, 29, 30] (by decide +kernel) (by decide +kernel)
set_option maxRecDepth 20000 in
theorem gX0_asks_X5_asks_s19 : GoodIn wsX0_asks (va_wsSU RX0 19 yX5_asks wsX5_asks) := goodIn_app (goodIn_of _ (by decide +kernel)) ggX0_asks_X5_asks
theorem dX0_asks_0 : decode cX0_asks 0 = .ok (.aload_n 0, 1) := by decide +kernel
theorem dX0_asks_1 : decode cX0_asks 1 = .ok (.invokespecial 19, 3) := by decide +kernel
theorem dX0_asks_4 : decode cX0_asks 4 = .ok (.iconst 2, 1) := by decide +kernel
theorem dX0_asks_5 : decode cX0_asks 5 = .ok (.idiv, 1) := by decide +kernel
theorem dX0_asks_6 : decode cX0_asks 6 = .ok (.ireturn, 1) := by decide +kernel
set_option maxRecDepth 20000 in
theorem ggX1_init_X3_init : GoodIn wsX1_init wsX3_init := goodIn_r _ [4, 5, 6, 7, 8, 9, 10, 11, 12, 13, 14, 15, 16, 17, 18, 19, 20, 21, 22, 23, 24, 25, 26, 27, 28, 29] (by decide +kernel) (by decide +kernel)
set_option maxRecDepth 20000 in
theorem gX1_init_X3_init : GoodIn wsX1_init (wsX3_init) := ggX1_init_X3_init
theorem dX1_init_0 : decode cX1_init 0 = .ok (.aload_n 0, 1) := by decide +kernel
theorem dX1_init_1 : decode cX1_init 1 = .ok (.iload_n 1, 1) := by decide +kernel
theorem dX1_init_2 : decode cX1_init 2 = .ok (.iload_n 2, 1) := by decide +kernel
theorem dX1_init_3 : decode cX1_init 3 = .ok (.invokespecial 1, 3) := by decide +kernel
theorem dX1_init_6 : decode cX1_init 6 = .ok (.return_, 1) := by decide +kernel
theorem dX1_mayDispute_0 : decode cX1_mayDispute 0 = .ok (.iconst 1, 1) := by decide +kernel
theorem dX1_mayDispute_1 : decode cX1_mayDispute 1 = .ok (.ireturn, 1) := by decide +kernel
theorem dX1_isSilenced_0 : decode cX1_isSilenced 0 = .ok (.iconst 0, 1) := by decide +kernel
theorem dX1_isSilenced_1 : decode cX1_isSilenced 1 = .ok (.ireturn, 1) := by decide +kernel
set_option maxRecDepth 20000 in
theorem ggX1_asks_X3_asks : GoodIn wsX1_asks wsX3_asks := goodIn_r _ [6, 7, 8, 9, 10, 11, 12] (by decide +kernel) (by decide +kernel)
set_option maxRecDepth 20000 in
theorem gX1_asks_X3_asks_s7 : GoodIn wsX1_asks (va_wsSU RX1 7 yX3_asks wsX3_asks) := goodIn_app (goodIn_of _ (by decide +kernel)) ggX1_asks_X3_asks
theorem dX1_asks_0 : decode cX1_asks 0 = .ok (.iconst 2, 1) := by decide +kernel
theorem dX1_asks_1 : decode cX1_asks 1 = .ok (.aload_n 0, 1) := by decide +kernel
theorem dX1_asks_2 : decode cX1_asks 2 = .ok (.invokespecial 7, 3) := by decide +kernel
theorem dX1_asks_5 : decode cX1_asks 5 = .ok (.imul, 1) := by decide +kernel
theorem dX1_asks_6 : decode cX1_asks 6 = .ok (.ireturn, 1) := by decide +kernel
theorem dX1_fail_0 : decode cX1_fail 0 = .ok (.return_, 1) := by decide +kernel
theorem dX2_init_0 : decode cX2_init 0 = .ok (.aload_n 0, 1) := by decide +kernel
theorem dX2_init_1 : decode cX2_init 1 = .ok (.invokespecial 1, 3) := by decide +kernel
theorem dX2_init_4 : decode cX2_init 4 = .ok (.aload_n 0, 1) := by decide +kernel
theorem dX2_init_5 : decode cX2_init 5 = .ok (.iload_n 1, 1) := by decide +kernel
theorem dX2_init_6 : decode cX2_init 6 = .ok (.putfield 7, 3) := by decide +kernel
theorem dX2_init_9 : decode cX2_init 9 = .ok (.aload_n 0, 1) := by decide +kernel
theorem dX2_init_10 : decode cX2_init 10 = .ok (.iload_n 2, 1) := by decide +kernel
theorem dX2_init_11 : decode cX2_init 11 = .ok (.putfield 13, 3) := by decide +kernel
theorem dX2_init_14 : decode cX2_init 14 = .ok (.return_, 1) := by decide +kernel
set_option maxRecDepth 20000 in
theorem ggX2_mayDispute_X11_has : GoodIn wsX2_mayDispute wsX11_has := goodIn_r _ [3] (by decide +kernel) (by decide +kernel)
set_option maxRecDepth 20000 in
theorem gX2_mayDispute_X11_has_n16 : GoodIn wsX2_mayDispute (wsX11_has) := ggX2_mayDispute_X11_has
theorem dX2_mayDispute_0 : decode cX2_mayDispute 0 = .ok (.iload_n 2, 1) := by decide +kernel
theorem dX2_mayDispute_1 : decode cX2_mayDispute 1 = .ok (.iload_n 1, 1) := by decide +kernel
theorem dX2_mayDispute_2 : decode cX2_mayDispute 2 = .ok (.invokestatic 16, 3) := by decide +kernel
theorem dX2_mayDispute_5 : decode cX2_mayDispute 5 = .ok (.ifCond .ne 15, 3) := by decide +kernel
theorem dX2_mayDispute_8 : decode cX2_mayDispute 8 = .ok (.iload_n 3, 1) := by decide +kernel
theorem dX2_mayDispute_9 : decode cX2_mayDispute 9 = .ok (.iload_n 1, 1) := by decide +kernel
theorem dX2_mayDispute_10 : decode cX2_mayDispute 10 = .ok (.invokestatic 16, 3) := by decide +kernel
theorem dX2_mayDispute_13 : decode cX2_mayDispute 13 = .ok (.ifCond .ne 7, 3) := by decide +kernel
theorem dX2_mayDispute_16 : decode cX2_mayDispute 16 = .ok (.iconst 1, 1) := by decide +kernel
theorem dX2_mayDispute_17 : decode cX2_mayDispute 17 = .ok (.goto 4, 3) := by decide +kernel
theorem dX2_mayDispute_20 : decode cX2_mayDispute 20 = .ok (.iconst 0, 1) := by decide +kernel
theorem dX2_mayDispute_21 : decode cX2_mayDispute 21 = .ok (.ireturn, 1) := by decide +kernel
set_option maxRecDepth 20000 in
theorem ggX2_isSilenced_X11_within : GoodIn wsX2_isSilenced wsX11_within := goodIn_r _ [3] (by decide +kernel) (by decide +kernel)
set_option maxRecDepth 20000 in
theorem gX2_isSilenced_X11_within_n22 : GoodIn wsX2_isSilenced (wsX11_within) := ggX2_isSilenced_X11_within
theorem dX2_isSilenced_0 : decode cX2_isSilenced 0 = .ok (.iload_n 3, 1) := by decide +kernel
theorem dX2_isSilenced_1 : decode cX2_isSilenced 1 = .ok (.iload_n 1, 1) := by decide +kernel
theorem dX2_isSilenced_2 : decode cX2_isSilenced 2 = .ok (.iload_n 2, 1) := by decide +kernel
theorem dX2_isSilenced_3 : decode cX2_isSilenced 3 = .ok (.ior, 1) := by decide +kernel
theorem dX2_isSilenced_4 : decode cX2_isSilenced 4 = .ok (.invokestatic 22, 3) := by decide +kernel
theorem dX2_isSilenced_7 : decode cX2_isSilenced 7 = .ok (.ireturn, 1) := by decide +kernel
theorem dX2_effort_0 : decode cX2_effort 0 = .ok (.iload_n 1, 1) := by decide +kernel
theorem dX2_effort_1 : decode cX2_effort 1 = .ok (.iconst 1, 1) := by decide +kernel
theorem dX2_effort_2 : decode cX2_effort 2 = .ok (.iadd, 1) := by decide +kernel
theorem dX2_effort_3 : decode cX2_effort 3 = .ok (.ireturn, 1) := by decide +kernel
theorem dX2_asks_0 : decode cX2_asks 0 = .ok (.iconst 3, 1) := by decide +kernel
theorem dX2_asks_1 : decode cX2_asks 1 = .ok (.ireturn, 1) := by decide +kernel
theorem dX2_fail_0 : decode cX2_fail 0 = .ok (.aload_n 0, 1) := by decide +kernel
theorem dX2_fail_1 : decode cX2_fail 1 = .ok (.getfield 13, 3) := by decide +kernel
theorem dX2_fail_4 : decode cX2_fail 4 = .ok (.ifCond .eq 13, 3) := by decide +kernel
theorem dX2_fail_7 : decode cX2_fail 7 = .ok (.new 25, 3) := by decide +kernel
theorem dX2_fail_10 : decode cX2_fail 10 = .ok (.dup, 1) := by decide +kernel
theorem dX2_fail_11 : decode cX2_fail 11 = .ok (.ldc 27, 2) := by decide +kernel
theorem dX2_fail_13 : decode cX2_fail 13 = .ok (.invokespecial 29, 3) := by decide +kernel
theorem dX2_fail_16 : decode cX2_fail 16 = .ok (.athrow, 1) := by decide +kernel
theorem dX2_fail_17 : decode cX2_fail 17 = .ok (.return_, 1) := by decide +kernel
set_option maxRecDepth 20000 in
theorem ggX3_init_X2_init : GoodIn wsX3_init wsX2_init := goodIn_r _ [4, 5, 6, 7, 8, 9, 10, 11, 12, 13, 14, 15, 16, 17, 18, 19, 20, 21, 22, 23, 24, 25] (by decide +kernel) (by decide +kernel)
set_option maxRecDepth 20000 in
theorem gX3_init_X2_init : GoodIn wsX3_init (wsX2_init) := ggX3_init_X2_init
theorem dX3_init_0 : decode cX3_init 0 = .ok (.aload_n 0, 1) := by decide +kernel
theorem dX3_init_1 : decode cX3_init 1 = .ok (.iload_n 1, 1) := by decide +kernel
theorem dX3_init_2 : decode cX3_init 2 = .ok (.iload_n 2, 1) := by decide +kernel
theorem dX3_init_3 : decode cX3_init 3 = .ok (.invokespecial 1, 3) := by decide +kernel
theorem dX3_init_6 : decode cX3_init 6 = .ok (.return_, 1) := by decide +kernel
set_option maxRecDepth 20000 in
theorem ggX3_mayDispute_X11_has : GoodIn wsX3_mayDispute wsX11_has := goodIn_r _ [3] (by decide +kernel) (by decide +kernel)
set_option maxRecDepth 20000 in
theorem gX3_mayDispute_X11_has_n7 : GoodIn wsX3_mayDispute (wsX11_has) := ggX3_mayDispute_X11_has
theorem dX3_mayDispute_0 : decode cX3_mayDispute 0 = .ok (.iload_n 2, 1) := by decide +kernel
theorem dX3_mayDispute_1 : decode cX3_mayDispute 1 = .ok (.iload_n 1, 1) := by decide +kernel
theorem dX3_mayDispute_2 : decode cX3_mayDispute 2 = .ok (.invokestatic 7, 3) := by decide +kernel
theorem dX3_mayDispute_5 : decode cX3_mayDispute 5 = .ok (.ifCond .ne 7, 3) := by decide +kernel
theorem dX3_mayDispute_8 : decode cX3_mayDispute 8 = .ok (.iconst 1, 1) := by decide +kernel
theorem dX3_mayDispute_9 : decode cX3_mayDispute 9 = .ok (.goto 4, 3) := by decide +kernel
theorem dX3_mayDispute_12 : decode cX3_mayDispute 12 = .ok (.iconst 0, 1) := by decide +kernel
theorem dX3_mayDispute_13 : decode cX3_mayDispute 13 = .ok (.ireturn, 1) := by decide +kernel
set_option maxRecDepth 20000 in
theorem ggX3_effort_X2_effort : GoodIn wsX3_effort wsX2_effort := goodIn_r _ [6] (by decide +kernel) (by decide +kernel)
set_option maxRecDepth 20000 in
theorem gX3_effort_X2_effort_s13 : GoodIn wsX3_effort (va_wsSU RX3 13 yX2_effort wsX2_effort) := goodIn_app (goodIn_of _ (by decide +kernel)) ggX3_effort_X2_effort
theorem dX3_effort_0 : decode cX3_effort 0 = .ok (.iconst 2, 1) := by decide +kernel
theorem dX3_effort_1 : decode cX3_effort 1 = .ok (.aload_n 0, 1) := by decide +kernel
theorem dX3_effort_2 : decode cX3_effort 2 = .ok (.iload_n 1, 1) := by decide +kernel
theorem dX3_effort_3 : decode cX3_effort 3 = .ok (.invokespecial 13, 3) := by decide +kernel
theorem dX3_effort_6 : decode cX3_effort 6 = .ok (.imul, 1) := by decide +kernel
theorem dX3_effort_7 : decode cX3_effort 7 = .ok (.ireturn, 1) := by decide +kernel
set_option maxRecDepth 20000 in
theorem ggX3_asks_X2_asks : GoodIn wsX3_asks wsX2_asks := goodIn_r _ [6] (by decide +kernel) (by decide +kernel)
set_option maxRecDepth 20000 in
theorem gX3_asks_X2_asks_s17 : GoodIn wsX3_asks (va_wsSU RX3 17 yX2_asks wsX2_asks) := goodIn_app (goodIn_of _ (by decide +kernel)) ggX3_asks_X2_asks
theorem dX3_asks_0 : decode cX3_asks 0 = .ok (.aload_n 0, 1) := by decide +kernel
theorem dX3_asks_1 : decode cX3_asks 1 = .ok (.invokespecial 17, 3) := by decide +kernel
theorem dX3_asks_4 : decode cX3_asks 4 = .ok (.iconst 1, 1) := by decide +kernel
theorem dX3_asks_5 : decode cX3_asks 5 = .ok (.isub, 1) := by decide +kernel
theorem dX3_asks_6 : decode cX3_asks 6 = .ok (.ireturn, 1) := by decide +kernel
theorem dX3_fail_0 : decode cX3_fail 0 = .ok (.aload_n 0, 1) := by decide +kernel
theorem dX3_fail_1 : decode cX3_fail 1 = .ok (.getfield 21, 3) := by decide +kernel
theorem dX3_fail_4 : decode cX3_fail 4 = .ok (.ifCond .eq 13, 3) := by decide +kernel
theorem dX3_fail_7 : decode cX3_fail 7 = .ok (.new 27, 3) := by decide +kernel
theorem dX3_fail_10 : decode cX3_fail 10 = .ok (.dup, 1) := by decide +kernel
theorem dX3_fail_11 : decode cX3_fail 11 = .ok (.ldc 29, 2) := by decide +kernel
theorem dX3_fail_13 : decode cX3_fail 13 = .ok (.invokespecial 31, 3) := by decide +kernel
theorem dX3_fail_16 : decode cX3_fail 16 = .ok (.athrow, 1) := by decide +kernel
theorem dX3_fail_17 : decode cX3_fail 17 = .ok (.return_, 1) := by decide +kernel
theorem dX4_init_0 : decode cX4_init 0 = .ok (.aload_n 0, 1) := by decide +kernel
theorem dX4_init_1 : decode cX4_init 1 = .ok (.invokespecial 3, 3) := by decide +kernel
theorem dX4_init_4 : decode cX4_init 4 = .ok (.aload_n 0, 1) := by decide +kernel
theorem dX4_init_5 : decode cX4_init 5 = .ok (.bipush 63, 2) := by decide +kernel
theorem dX4_init_7 : decode cX4_init 7 = .ok (.newarray .int, 2) := by decide +kernel
theorem dX4_init_9 : decode cX4_init 9 = .ok (.putfield 11, 3) := by decide +kernel
theorem dX4_init_12 : decode cX4_init 12 = .ok (.aload_n 0, 1) := by decide +kernel
theorem dX4_init_13 : decode cX4_init 13 = .ok (.bipush 63, 2) := by decide +kernel
theorem dX4_init_15 : decode cX4_init 15 = .ok (.newarray .int, 2) := by decide +kernel
theorem dX4_init_17 : decode cX4_init 17 = .ok (.putfield 15, 3) := by decide +kernel
theorem dX4_init_20 : decode cX4_init 20 = .ok (.aload_n 0, 1) := by decide +kernel
theorem dX4_init_21 : decode cX4_init 21 = .ok (.sipush 512, 3) := by decide +kernel
theorem dX4_init_24 : decode cX4_init 24 = .ok (.newarray .int, 2) := by decide +kernel
theorem dX4_init_26 : decode cX4_init 26 = .ok (.putfield 18, 3) := by decide +kernel
theorem dX4_init_29 : decode cX4_init 29 = .ok (.return_, 1) := by decide +kernel
set_option maxRecDepth 20000 in
theorem ggX4_look_J7_fill_53178 : GoodIn wsX4_look wsJ7_fill_53178 := goodIn_r _ [6] (by decide +kernel) (by decide +kernel)
set_option maxRecDepth 20000 in
theorem gX4_look_J7_fill_53178 : GoodIn wsX4_look (va_wsS RX4 30 yJ7_fill_53178 wsJ7_fill_53178) := goodIn_app (goodIn_of _ (by decide +kernel)) ggX4_look_J7_fill_53178
set_option maxRecDepth 20000 in
theorem ggX4_look_X9_isAlive : GoodIn wsX4_look wsX9_isAlive := goodIn_r _ [11, 12, 13, 14, 15, 159, 160, 161, 162, 163, 164, 165, 166, 167, 168] (by decide +kernel) (by decide +kernel)
set_option maxRecDepth 20000 in
theorem gX4_look_X9_isAlive : GoodIn wsX4_look (wsV RX4 36 RX9 yX9_isAlive wsX9_isAlive) := goodIn_app (goodIn_of _ (by decide +kernel)) ggX4_look_X9_isAlive
set_option maxRecDepth 20000 in
theorem ggX4_look_X9_memberAt : GoodIn wsX4_look wsX9_memberAt := goodIn_r _ [19, 20, 159, 160, 161, 162, 163, 164, 165, 166, 167, 168] (by decide +kernel) (by decide +kernel)
set_option maxRecDepth 20000 in
theorem gX4_look_X9_memberAt : GoodIn wsX4_look (wsV RX4 40 RX9 yX9_memberAt wsX9_memberAt) := goodIn_app (goodIn_of _ (by decide +kernel)) ggX4_look_X9_memberAt
set_option maxRecDepth 20000 in
theorem ggX4_look_X9_knownTo : GoodIn wsX4_look wsX9_knownTo := goodIn_r _ [24, 25, 159, 160, 161, 162, 163, 164, 165, 166, 167, 168] (by decide +kernel) (by decide +kernel)
set_option maxRecDepth 20000 in
theorem gX4_look_X9_knownTo : GoodIn wsX4_look (wsV RX4 44 RX9 yX9_knownTo wsX9_knownTo) := goodIn_app (goodIn_of _ (by decide +kernel)) ggX4_look_X9_knownTo
set_option maxRecDepth 20000 in
theorem ggX4_look_X4_consider : GoodIn wsX4_look wsX4_consider := goodIn_r _ [30, 2, 31, 32, 33, 34, 10, 35, 36, 37, 38, 39, 40, 41, 42, 43, 44, 45, 46, 47, 48, 49, 50, 51, 52, 53, 54, 55, 56, 57, 58, 59, 60, 61, 13, 14, 15, 62, 63, 64, 65, 66, 67, 68, 69, 70, 71, 72, 73, 74, 75, 76, 77, 78, 79, 80, 81, 82, 83, 84, 85, 86, 87, 88, 89, 90, 91, 92, 93, 94, 95, 96, 97, 98, 99, 100, 101, 102, 103, 104, 105, 106, 107, 108, 109, 110, 111, 112, 113, 114, 115, 116, 117, 118, 119, 120, 121, 122, 123, 124, 125, 126, 127, 128, 129, 130, 131, 132, 133, 134, 135, 136, 137, 138, 139, 140, 141, 142, 143, 144, 145, 146, 147, 148, 149, 150, 151, 152, 153, 154, 155, 156, 157, 158, 169, 170, 171, 172, 159, 160, 161, 162, 163, 164, 165, 166, 167, 168, 173, 174, 175, 176, 177, 178, 179, 180, 181, 182, 183, 184, 185, 186, 187, 188] (by decide +kernel) (by decide +kernel)
set_option maxRecDepth 20000 in
theorem gX4_look_X4_consider : GoodIn wsX4_look (wsV RX4 48 RX4 yX4_consider wsX4_consider) := goodIn_app (goodIn_of _ (by decide +kernel)) ggX4_look_X4_consider
theorem dX4_look_0 : decode cX4_look 0 = .ok (.aload_n 0, 1) := by decide +kernel
theorem dX4_look_1 : decode cX4_look 1 = .ok (.aload_n 1, 1) := by decide +kernel
theorem dX4_look_2 : decode cX4_look 2 = .ok (.getfield 21, 3) := by decide +kernel
theorem dX4_look_5 : decode cX4_look 5 = .ok (.putfield 27, 3) := by decide +kernel
theorem dX4_look_8 : decode cX4_look 8 = .ok (.aload_n 0, 1) := by decide +kernel
theorem dX4_look_9 : decode cX4_look 9 = .ok (.getfield 11, 3) := by decide +kernel
theorem dX4_look_12 : decode cX4_look 12 = .ok (.iconst (-1), 1) := by decide +kernel
theorem dX4_look_13 : decode cX4_look 13 = .ok (.invokestatic 30, 3) := by decide +kernel
theorem dX4_look_16 : decode cX4_look 16 = .ok (.iconst 0, 1) := by decide +kernel
theorem dX4_look_17 : decode cX4_look 17 = .ok (.istore_n 3, 1) := by decide +kernel
theorem dX4_look_18 : decode cX4_look 18 = .ok (.iload_n 3, 1) := by decide +kernel
theorem dX4_look_19 : decode cX4_look 19 = .ok (.bipush 6, 2) := by decide +kernel
theorem dX4_look_21 : decode cX4_look 21 = .ok (.if_icmp .ge 33, 3) := by decide +kernel
theorem dX4_look_24 : decode cX4_look 24 = .ok (.aload_n 1, 1) := by decide +kernel
theorem dX4_look_25 : decode cX4_look 25 = .ok (.iload_n 3, 1) := by decide +kernel
theorem dX4_look_26 : decode cX4_look 26 = .ok (.invokevirtual 36, 3) := by decide +kernel
theorem dX4_look_29 : decode cX4_look 29 = .ok (.ifCond .eq 19, 3) := by decide +kernel
theorem dX4_look_32 : decode cX4_look 32 = .ok (.aload_n 0, 1) := by decide +kernel
theorem dX4_look_33 : decode cX4_look 33 = .ok (.iload_n 3, 1) := by decide +kernel
theorem dX4_look_34 : decode cX4_look 34 = .ok (.aload_n 1, 1) := by decide +kernel
theorem dX4_look_35 : decode cX4_look 35 = .ok (.iload_n 3, 1) := by decide +kernel
theorem dX4_look_36 : decode cX4_look 36 = .ok (.invokevirtual 40, 3) := by decide +kernel
theorem dX4_look_39 : decode cX4_look 39 = .ok (.aload_n 1, 1) := by decide +kernel
theorem dX4_look_40 : decode cX4_look 40 = .ok (.iload_n 3, 1) := by decide +kernel
theorem dX4_look_41 : decode cX4_look 41 = .ok (.invokevirtual 44, 3) := by decide +kernel
theorem dX4_look_44 : decode cX4_look 44 = .ok (.aload_n 1, 1) := by decide +kernel
theorem dX4_look_45 : decode cX4_look 45 = .ok (.invokevirtual 48, 3) := by decide +kernel
theorem dX4_look_48 : decode cX4_look 48 = .ok (.iinc 3 1, 3) := by decide +kernel
theorem dX4_look_51 : decode cX4_look 51 = .ok (.goto (-33), 3) := by decide +kernel
theorem dX4_look_54 : decode cX4_look 54 = .ok (.aload_n 0, 1) := by decide +kernel
theorem dX4_look_55 : decode cX4_look 55 = .ok (.bipush 6, 2) := by decide +kernel
theorem dX4_look_57 : decode cX4_look 57 = .ok (.aload_n 2, 1) := by decide +kernel
theorem dX4_look_58 : decode cX4_look 58 = .ok (.iconst 0, 1) := by decide +kernel
theorem dX4_look_59 : decode cX4_look 59 = .ok (.aload_n 1, 1) := by decide +kernel
theorem dX4_look_60 : decode cX4_look 60 = .ok (.invokevirtual 48, 3) := by decide +kernel
theorem dX4_look_63 : decode cX4_look 63 = .ok (.return_, 1) := by decide +kernel
set_option maxRecDepth 20000 in
theorem ggX4_consider_X9_countSentences : GoodIn wsX4_consider wsX9_countSentences := goodIn_r _ [7, 8, 138, 139, 140, 141, 142, 143, 144, 145, 146, 147] (by decide +kernel) (by decide +kernel)
set_option maxRecDepth 20000 in
theorem gX4_consider_X9_countSentences : GoodIn wsX4_consider (wsV RX4 52 RX9 yX9_countSentences wsX9_countSentences) := goodIn_app (goodIn_of _ (by decide +kernel)) ggX4_consider_X9_countSentences
set_option maxRecDepth 20000 in
theorem ggX4_consider_X9_needsOf : GoodIn wsX4_consider wsX9_needsOf := goodIn_r _ [12, 13, 138, 139, 140, 141, 142, 143, 144, 145, 146, 147] (by decide +kernel) (by decide +kernel)
set_option maxRecDepth 20000 in
theorem gX4_consider_X9_needsOf : GoodIn wsX4_consider (wsV RX4 56 RX9 yX9_needsOf wsX9_needsOf) := goodIn_app (goodIn_of _ (by decide +kernel)) ggX4_consider_X9_needsOf
set_option maxRecDepth 20000 in
theorem ggX4_consider_X0_mayDispute : GoodIn wsX4_consider wsX0_mayDispute := goodIn_r _ [20, 21, 22, 23, 24, 25, 26, 27, 28, 29, 15, 30, 31, 32, 33, 34, 35, 36, 148, 149, 150, 151, 152, 153, 154, 155, 156, 157, 158, 159, 160, 161, 162, 163] (by decide +kernel) (by decide +kernel)
set_option maxRecDepth 20000 in
theorem gX4_consider_X0_mayDispute_u59X0 : GoodIn wsX4_consider (va_wsO RX4 59 RX0 "HoldsOnceDenied$Denier" ⟨"HoldsOnceDenied$Denier", "mayDispute", "(IIII)Z"⟩ yX0_mayDispute wsX0_mayDispute) := goodIn_app (goodIn_of _ (by decide +kernel)) ggX4_consider_X0_mayDispute
set_option maxRecDepth 20000 in
theorem ggX4_consider_X1_mayDispute : GoodIn wsX4_consider wsX1_mayDispute := goodIn_r _ [40] (by decide +kernel) (by decide +kernel)
set_option maxRecDepth 20000 in
theorem gX4_consider_X1_mayDispute_u59X1 : GoodIn wsX4_consider (va_wsO RX4 59 RX1 "HoldsOnceDenied$Denier" ⟨"HoldsOnceDenied$Denier", "mayDispute", "(IIII)Z"⟩ yX1_mayDispute wsX1_mayDispute) := goodIn_app (goodIn_of _ (by decide +kernel)) ggX4_consider_X1_mayDispute
set_option maxRecDepth 20000 in
theorem ggX4_consider_X2_mayDispute : GoodIn wsX4_consider wsX2_mayDispute := goodIn_r _ [33, 34, 35, 36] (by decide +kernel) (by decide +kernel)
set_option maxRecDepth 20000 in
theorem gX4_consider_X2_mayDispute : GoodIn wsX4_consider (wsV RX4 59 RX2 yX2_mayDispute wsX2_mayDispute) := goodIn_app (goodIn_of _ (by decide +kernel)) ggX4_consider_X2_mayDispute
set_option maxRecDepth 20000 in
theorem ggX4_consider_X3_mayDispute : GoodIn wsX4_consider wsX3_mayDispute := goodIn_r _ [46, 34, 35, 36] (by decide +kernel) (by decide +kernel)
set_option maxRecDepth 20000 in
theorem gX4_consider_X3_mayDispute_u59X3 : GoodIn wsX4_consider (va_wsO RX4 59 RX3 "HoldsOnceDenied$Denier" ⟨"HoldsOnceDenied$Denier", "mayDispute", "(IIII)Z"⟩ yX3_mayDispute wsX3_mayDispute) := goodIn_app (goodIn_of _ (by decide +kernel)) ggX4_consider_X3_mayDispute
set_option maxRecDepth 20000 in
theorem ggX4_consider_X5_mayDispute : GoodIn wsX4_consider wsX5_mayDispute := goodIn_r _ [26, 27, 28, 29, 15, 30, 31, 32, 33, 34, 35, 36, 148, 149, 150, 151, 152, 153, 154, 155, 156, 157, 158, 159, 160, 161, 162, 163] (by decide +kernel) (by decide +kernel)
set_option maxRecDepth 20000 in
theorem gX4_consider_X5_mayDispute_u59X5 : GoodIn wsX4_consider (va_wsO RX4 59 RX5 "HoldsOnceDenied$Denier" ⟨"HoldsOnceDenied$Denier", "mayDispute", "(IIII)Z"⟩ yX5_mayDispute wsX5_mayDispute) := goodIn_app (goodIn_of _ (by decide +kernel)) ggX4_consider_X5_mayDispute
set_option maxRecDepth 20000 in
theorem ggX4_consider_X6_mayDispute : GoodIn wsX4_consider wsX6_mayDispute := goodIn_r _ [51, 52, 53, 54, 55, 56, 44, 45, 46, 34, 35, 36, 148, 149, 150, 151, 152, 153, 154, 155, 156, 157, 158, 159, 160, 161, 162, 163] (by decide +kernel) (by decide +kernel)
set_option maxRecDepth 20000 in
theorem gX4_consider_X6_mayDispute_u59X6 : GoodIn wsX4_consider (va_wsO RX4 59 RX6 "HoldsOnceDenied$Denier" ⟨"HoldsOnceDenied$Denier", "mayDispute", "(IIII)Z"⟩ yX6_mayDispute wsX6_mayDispute) := goodIn_app (goodIn_of _ (by decide +kernel)) ggX4_consider_X6_mayDispute
set_option maxRecDepth 20000 in
theorem ggX4_consider_X7_mayDispute : GoodIn wsX4_consider wsX7_mayDispute := goodIn_r _ [60, 61, 62, 63, 64, 65, 66, 67, 68, 69, 15, 70, 31, 32, 33, 34, 35, 36, 71, 72, 148, 149, 150, 151, 152, 153, 154, 155, 156, 157, 158, 159, 160, 161, 162, 163] (by decide +kernel) (by decide +kernel)
set_option maxRecDepth 20000 in
theorem gX4_consider_X7_mayDispute_u59X7 : GoodIn wsX4_consider (va_wsO RX4 59 RX7 "HoldsOnceDenied$Denier" ⟨"HoldsOnceDenied$Denier", "mayDispute", "(IIII)Z"⟩ yX7_mayDispute wsX7_mayDispute) := goodIn_app (goodIn_of _ (by decide +kernel)) ggX4_consider_X7_mayDispute
set_option maxRecDepth 20000 in
theorem ggX4_consider_X10_mayDispute : GoodIn wsX4_consider wsX10_mayDispute := goodIn_r _ [68, 69, 15, 70, 31, 32, 33, 34, 35, 36, 71, 72] (by decide +kernel) (by decide +kernel)
set_option maxRecDepth 20000 in
theorem gX4_consider_X10_mayDispute_u59X10 : GoodIn wsX4_consider (va_wsO RX4 59 RX10 "HoldsOnceDenied$Denier" ⟨"HoldsOnceDenied$Denier", "mayDispute", "(IIII)Z"⟩ yX10_mayDispute wsX10_mayDispute) := goodIn_app (goodIn_of _ (by decide +kernel)) ggX4_consider_X10_mayDispute
set_option maxRecDepth 20000 in
theorem ggX4_consider_X0_isSilenced : GoodIn wsX4_consider wsX0_isSilenced := goodIn_r _ [79] (by decide +kernel) (by decide +kernel)
set_option maxRecDepth 20000 in
theorem gX4_consider_X0_isSilenced_u65X0 : GoodIn wsX4_consider (va_wsO RX4 65 RX0 "HoldsOnceDenied$Denier" ⟨"HoldsOnceDenied$Denier", "isSilenced", "(IIIZ)Z"⟩ yX0_isSilenced wsX0_isSilenced) := goodIn_app (goodIn_of _ (by decide +kernel)) ggX4_consider_X0_isSilenced
set_option maxRecDepth 20000 in
theorem ggX4_consider_X1_isSilenced : GoodIn wsX4_consider wsX1_isSilenced := goodIn_r _ [83] (by decide +kernel) (by decide +kernel)
set_option maxRecDepth 20000 in
theorem gX4_consider_X1_isSilenced_u65X1 : GoodIn wsX4_consider (va_wsO RX4 65 RX1 "HoldsOnceDenied$Denier" ⟨"HoldsOnceDenied$Denier", "isSilenced", "(IIIZ)Z"⟩ yX1_isSilenced wsX1_isSilenced) := goodIn_app (goodIn_of _ (by decide +kernel)) ggX4_consider_X1_isSilenced
set_option maxRecDepth 20000 in
theorem ggX4_consider_X2_isSilenced : GoodIn wsX4_consider wsX2_isSilenced := goodIn_r _ [80, 71, 35, 72] (by decide +kernel) (by decide +kernel)
set_option maxRecDepth 20000 in
theorem gX4_consider_X2_isSilenced : GoodIn wsX4_consider (wsV RX4 65 RX2 yX2_isSilenced wsX2_isSilenced) := goodIn_app (goodIn_of _ (by decide +kernel)) ggX4_consider_X2_isSilenced
set_option maxRecDepth 20000 in
theorem gX4_consider_X2_isSilenced_u65X3 : GoodIn wsX4_consider (va_wsU RX4 65 RX3 "HoldsOnceDenied$Denier" ⟨"HoldsOnceDenied$Denier", "isSilenced", "(IIIZ)Z"⟩ yX2_isSilenced wsX2_isSilenced) := goodIn_app (goodIn_of _ (by decide +kernel)) ggX4_consider_X2_isSilenced
set_option maxRecDepth 20000 in
theorem gX4_consider_X2_isSilenced_u65X5 : GoodIn wsX4_consider (va_wsU RX4 65 RX5 "HoldsOnceDenied$Denier" ⟨"HoldsOnceDenied$Denier", "isSilenced", "(IIIZ)Z"⟩ yX2_isSilenced wsX2_isSilenced) := goodIn_app (goodIn_of _ (by decide +kernel)) ggX4_consider_X2_isSilenced
set_option maxRecDepth 20000 in
theorem gX4_consider_X2_isSilenced_u65X6 : GoodIn wsX4_consider (va_wsU RX4 65 RX6 "HoldsOnceDenied$Denier" ⟨"HoldsOnceDenied$Denier", "isSilenced", "(IIIZ)Z"⟩ yX2_isSilenced wsX2_isSilenced) := goodIn_app (goodIn_of _ (by decide +kernel)) ggX4_consider_X2_isSilenced
set_option maxRecDepth 20000 in
theorem gX4_consider_X2_isSilenced_u65X7 : GoodIn wsX4_consider (va_wsU RX4 65 RX7 "HoldsOnceDenied$Denier" ⟨"HoldsOnceDenied$Denier", "isSilenced", "(IIIZ)Z"⟩ yX2_isSilenced wsX2_isSilenced) := goodIn_app (goodIn_of _ (by decide +kernel)) ggX4_consider_X2_isSilenced
set_option maxRecDepth 20000 in
theorem gX4_consider_X2_isSilenced_u65X10 : GoodIn wsX4_consider (va_wsU RX4 65 RX10 "HoldsOnceDenied$Denier" ⟨"HoldsOnceDenied$Denier", "isSilenced", "(IIIZ)Z"⟩ yX2_isSilenced wsX2_isSilenced) := goodIn_app (goodIn_of _ (by decide +kernel)) ggX4_consider_X2_isSilenced
set_option maxRecDepth 20000 in
theorem ggX4_consider_J6_bitCount_0f7a4 : GoodIn wsX4_consider wsJ6_bitCount_0f7a4 := goodIn_r _ [95, 96, 97, 98] (by decide +kernel) (by decide +kernel)
set_option maxRecDepth 20000 in
theorem gX4_consider_J6_bitCount_0f7a4 : GoodIn wsX4_consider (va_wsS RX4 69 yJ6_bitCount_0f7a4 wsJ6_bitCount_0f7a4) := goodIn_app (goodIn_of _ (by decide +kernel)) ggX4_consider_J6_bitCount_0f7a4
set_option maxRecDepth 20000 in
theorem ggX4_consider_X0_effort : GoodIn wsX4_consider wsX0_effort := goodIn_r _ [104, 105, 106, 23, 107, 25, 108, 27, 28, 109, 100, 30, 110, 32, 111, 148, 149, 150, 151, 152, 153, 154, 155, 156, 157, 158, 159, 160, 161, 162, 163] (by decide +kernel) (by decide +kernel)
set_option maxRecDepth 20000 in
theorem gX4_consider_X0_effort_u74X0 : GoodIn wsX4_consider (va_wsO RX4 74 RX0 "HoldsOnceDenied$Denier" ⟨"HoldsOnceDenied$Denier", "effort", "(I)I"⟩ yX0_effort wsX0_effort) := goodIn_app (goodIn_of _ (by decide +kernel)) ggX4_consider_X0_effort
set_option maxRecDepth 20000 in
theorem ggX4_consider_X3_effort : GoodIn wsX4_consider wsX3_effort := goodIn_r _ [114, 115, 100, 116, 110, 32, 111] (by decide +kernel) (by decide +kernel)
set_option maxRecDepth 20000 in
theorem gX4_consider_X3_effort_u74X1 : GoodIn wsX4_consider (va_wsO RX4 74 RX1 "HoldsOnceDenied$Denier" ⟨"HoldsOnceDenied$Denier", "effort", "(I)I"⟩ yX3_effort wsX3_effort) := goodIn_app (goodIn_of _ (by decide +kernel)) ggX4_consider_X3_effort
set_option maxRecDepth 20000 in
theorem ggX4_consider_X2_effort : GoodIn wsX4_consider wsX2_effort := goodIn_r _ [111] (by decide +kernel) (by decide +kernel)
set_option maxRecDepth 20000 in
theorem gX4_consider_X2_effort : GoodIn wsX4_consider (wsV RX4 74 RX2 yX2_effort wsX2_effort) := goodIn_app (goodIn_of _ (by decide +kernel)) ggX4_consider_X2_effort
set_option maxRecDepth 20000 in
theorem gX4_consider_X3_effort_u74X3 : GoodIn wsX4_consider (va_wsO RX4 74 RX3 "HoldsOnceDenied$Denier" ⟨"HoldsOnceDenied$Denier", "effort", "(I)I"⟩ yX3_effort wsX3_effort) := goodIn_app (goodIn_of _ (by decide +kernel)) ggX4_consider_X3_effort
set_option maxRecDepth 20000 in
theorem ggX4_consider_X5_effort : GoodIn wsX4_consider wsX5_effort := goodIn_r _ [108, 27, 28, 109, 100, 30, 110, 32, 111, 148, 149, 150, 151, 152, 153, 154, 155, 156, 157, 158, 159, 160, 161, 162, 163] (by decide +kernel) (by decide +kernel)
set_option maxRecDepth 20000 in
theorem gX4_consider_X5_effort_u74X5 : GoodIn wsX4_consider (va_wsO RX4 74 RX5 "HoldsOnceDenied$Denier" ⟨"HoldsOnceDenied$Denier", "effort", "(I)I"⟩ yX5_effort wsX5_effort) := goodIn_app (goodIn_of _ (by decide +kernel)) ggX4_consider_X5_effort
set_option maxRecDepth 20000 in
theorem ggX4_consider_X6_effort : GoodIn wsX4_consider wsX6_effort := goodIn_r _ [123, 124, 125, 56, 113, 45, 114, 115, 100, 116, 110, 32, 111] (by decide +kernel) (by decide +kernel)
set_option maxRecDepth 20000 in
theorem gX4_consider_X6_effort_u74X6 : GoodIn wsX4_consider (va_wsO RX4 74 RX6 "HoldsOnceDenied$Denier" ⟨"HoldsOnceDenied$Denier", "effort", "(I)I"⟩ yX6_effort wsX6_effort) := goodIn_app (goodIn_of _ (by decide +kernel)) ggX4_consider_X6_effort
set_option maxRecDepth 20000 in
theorem ggX4_consider_X7_effort : GoodIn wsX4_consider wsX7_effort := goodIn_r _ [128, 61, 62, 129, 130, 65, 131, 67, 132, 148, 149, 150, 151, 152, 153, 154, 155, 156, 157, 158, 159, 160, 161, 162, 163] (by decide +kernel) (by decide +kernel)
set_option maxRecDepth 20000 in
theorem gX4_consider_X7_effort_u74X7 : GoodIn wsX4_consider (va_wsO RX4 74 RX7 "HoldsOnceDenied$Denier" ⟨"HoldsOnceDenied$Denier", "effort", "(I)I"⟩ yX7_effort wsX7_effort) := goodIn_app (goodIn_of _ (by decide +kernel)) ggX4_consider_X7_effort
set_option maxRecDepth 20000 in
theorem ggX4_consider_X10_effort : GoodIn wsX4_consider wsX10_effort := goodIn_r _ [132] (by decide +kernel) (by decide +kernel)
set_option maxRecDepth 20000 in
theorem gX4_consider_X10_effort_u74X10 : GoodIn wsX4_consider (va_wsO RX4 74 RX10 "HoldsOnceDenied$Denier" ⟨"HoldsOnceDenied$Denier", "effort", "(I)I"⟩ yX10_effort wsX10_effort) := goodIn_app (goodIn_of _ (by decide +kernel)) ggX4_consider_X10_effort
theorem dX4_consider_0 : decode cX4_consider 0 = .ok (.aload_n 2, 1) := by decide +kernel
theorem dX4_consider_1 : decode cX4_consider 1 = .ok (.ifnonnull 4, 3) := by decide +kernel
theorem dX4_consider_4 : decode cX4_consider 4 = .ok (.return_, 1) := by decide +kernel
theorem dX4_consider_5 : decode cX4_consider 5 = .ok (.iconst 0, 1) := by decide +kernel
theorem dX4_consider_6 : decode cX4_consider 6 = .ok (.istore 5, 2) := by decide +kernel
theorem dX4_consider_8 : decode cX4_consider 8 = .ok (.iload 5, 2) := by decide +kernel
theorem dX4_consider_10 : decode cX4_consider 10 = .ok (.aload 4, 2) := by decide +kernel
theorem dX4_consider_12 : decode cX4_consider 12 = .ok (.invokevirtual 52, 3) := by decide +kernel
theorem dX4_consider_15 : decode cX4_consider 15 = .ok (.if_icmp .ge 115, 3) := by decide +kernel
theorem dX4_consider_18 : decode cX4_consider 18 = .ok (.iload 5, 2) := by decide +kernel
theorem dX4_consider_20 : decode cX4_consider 20 = .ok (.bipush 9, 2) := by decide +kernel
theorem dX4_consider_22 : decode cX4_consider 22 = .ok (.if_icmp .ge 108, 3) := by decide +kernel
theorem dX4_consider_25 : decode cX4_consider 25 = .ok (.aload 4, 2) := by decide +kernel
theorem dX4_consider_27 : decode cX4_consider 27 = .ok (.iload 5, 2) := by decide +kernel
theorem dX4_consider_29 : decode cX4_consider 29 = .ok (.invokevirtual 56, 3) := by decide +kernel
theorem dX4_consider_32 : decode cX4_consider 32 = .ok (.istore 6, 2) := by decide +kernel
theorem dX4_consider_34 : decode cX4_consider 34 = .ok (.iload_n 1, 1) := by decide +kernel
theorem dX4_consider_35 : decode cX4_consider 35 = .ok (.bipush 9, 2) := by decide +kernel
theorem dX4_consider_37 : decode cX4_consider 37 = .ok (.imul, 1) := by decide +kernel
theorem dX4_consider_38 : decode cX4_consider 38 = .ok (.iload 5, 2) := by decide +kernel
theorem dX4_consider_40 : decode cX4_consider 40 = .ok (.iadd, 1) := by decide +kernel
theorem dX4_consider_41 : decode cX4_consider 41 = .ok (.istore 7, 2) := by decide +kernel
theorem dX4_consider_43 : decode cX4_consider 43 = .ok (.iload 7, 2) := by decide +kernel
theorem dX4_consider_45 : decode cX4_consider 45 = .ok (.ifCond .lt 79, 3) := by decide +kernel
theorem dX4_consider_48 : decode cX4_consider 48 = .ok (.iload 7, 2) := by decide +kernel
theorem dX4_consider_50 : decode cX4_consider 50 = .ok (.aload_n 0, 1) := by decide +kernel
theorem dX4_consider_51 : decode cX4_consider 51 = .ok (.getfield 11, 3) := by decide +kernel
theorem dX4_consider_54 : decode cX4_consider 54 = .ok (.arraylength, 1) := by decide +kernel
theorem dX4_consider_55 : decode cX4_consider 55 = .ok (.if_icmp .ge 69, 3) := by decide +kernel
theorem dX4_consider_58 : decode cX4_consider 58 = .ok (.iload 7, 2) := by decide +kernel
theorem dX4_consider_60 : decode cX4_consider 60 = .ok (.aload_n 0, 1) := by decide +kernel
theorem dX4_consider_61 : decode cX4_consider 61 = .ok (.getfield 15, 3) := by decide +kernel
theorem dX4_consider_64 : decode cX4_consider 64 = .ok (.arraylength, 1) := by decide +kernel
theorem dX4_consider_65 : decode cX4_consider 65 = .ok (.if_icmp .ge 59, 3) := by decide +kernel
theorem dX4_consider_68 : decode cX4_consider 68 = .ok (.aload_n 2, 1) := by decide +kernel
theorem dX4_consider_69 : decode cX4_consider 69 = .ok (.iload 5, 2) := by decide +kernel
theorem dX4_consider_71 : decode cX4_consider 71 = .ok (.iload 6, 2) := by decide +kernel
theorem dX4_consider_73 : decode cX4_consider 73 = .ok (.iload_n 3, 1) := by decide +kernel
theorem dX4_consider_74 : decode cX4_consider 74 = .ok (.iload 6, 2) := by decide +kernel
theorem dX4_consider_76 : decode cX4_consider 76 = .ok (.invokevirtual 59, 3) := by decide +kernel
theorem dX4_consider_79 : decode cX4_consider 79 = .ok (.ifCond .eq 45, 3) := by decide +kernel
theorem dX4_consider_82 : decode cX4_consider 82 = .ok (.aload_n 2, 1) := by decide +kernel
theorem dX4_consider_83 : decode cX4_consider 83 = .ok (.iload 6, 2) := by decide +kernel
theorem dX4_consider_85 : decode cX4_consider 85 = .ok (.iload_n 3, 1) := by decide +kernel
theorem dX4_consider_86 : decode cX4_consider 86 = .ok (.iload 6, 2) := by decide +kernel
theorem dX4_consider_88 : decode cX4_consider 88 = .ok (.iconst 0, 1) := by decide +kernel
theorem dX4_consider_89 : decode cX4_consider 89 = .ok (.invokevirtual 65, 3) := by decide +kernel
theorem dX4_consider_92 : decode cX4_consider 92 = .ok (.ifCond .eq 32, 3) := by decide +kernel
theorem dX4_consider_95 : decode cX4_consider 95 = .ok (.aload_n 0, 1) := by decide +kernel
theorem dX4_consider_96 : decode cX4_consider 96 = .ok (.getfield 11, 3) := by decide +kernel
theorem dX4_consider_99 : decode cX4_consider 99 = .ok (.iload 7, 2) := by decide +kernel
theorem dX4_consider_101 : decode cX4_consider 101 = .ok (.iload 6, 2) := by decide +kernel
theorem dX4_consider_103 : decode cX4_consider 103 = .ok (.iload_n 3, 1) := by decide +kernel
theorem dX4_consider_104 : decode cX4_consider 104 = .ok (.iconst (-1), 1) := by decide +kernel
theorem dX4_consider_105 : decode cX4_consider 105 = .ok (.ixor, 1) := by decide +kernel
theorem dX4_consider_106 : decode cX4_consider 106 = .ok (.iand, 1) := by decide +kernel
theorem dX4_consider_107 : decode cX4_consider 107 = .ok (.iastore, 1) := by decide +kernel
theorem dX4_consider_108 : decode cX4_consider 108 = .ok (.aload_n 0, 1) := by decide +kernel
theorem dX4_consider_109 : decode cX4_consider 109 = .ok (.getfield 15, 3) := by decide +kernel
theorem dX4_consider_112 : decode cX4_consider 112 = .ok (.iload 7, 2) := by decide +kernel
theorem dX4_consider_114 : decode cX4_consider 114 = .ok (.aload_n 2, 1) := by decide +kernel
theorem dX4_consider_115 : decode cX4_consider 115 = .ok (.iload 6, 2) := by decide +kernel
theorem dX4_consider_117 : decode cX4_consider 117 = .ok (.invokestatic 69, 3) := by decide +kernel
theorem dX4_consider_120 : decode cX4_consider 120 = .ok (.invokevirtual 74, 3) := by decide +kernel
theorem dX4_consider_123 : decode cX4_consider 123 = .ok (.iastore, 1) := by decide +kernel
theorem dX4_consider_124 : decode cX4_consider 124 = .ok (.iinc 5 1, 3) := by decide +kernel
theorem dX4_consider_127 : decode cX4_consider 127 = .ok (.goto (-119), 3) := by decide +kernel
theorem dX4_consider_130 : decode cX4_consider 130 = .ok (.return_, 1) := by decide +kernel
set_option maxRecDepth 20000 in
theorem ggX4_cheapest_X11_has : GoodIn wsX4_cheapest wsX11_has := goodIn_r _ [5] (by decide +kernel) (by decide +kernel)
set_option maxRecDepth 20000 in
theorem gX4_cheapest_X11_has_n77 : GoodIn wsX4_cheapest (wsX11_has) := ggX4_cheapest_X11_has
set_option maxRecDepth 20000 in
theorem ggX4_cheapest_X11_within : GoodIn wsX4_cheapest wsX11_within := goodIn_r _ [7] (by decide +kernel) (by decide +kernel)
set_option maxRecDepth 20000 in
theorem gX4_cheapest_X11_within_n81 : GoodIn wsX4_cheapest (wsX11_within) := ggX4_cheapest_X11_within
theorem dX4_cheapest_0 : decode cX4_cheapest 0 = .ok (.iconst (-1), 1) := by decide +kernel
theorem dX4_cheapest_1 : decode cX4_cheapest 1 = .ok (.istore_n 3, 1) := by decide +kernel
theorem dX4_cheapest_2 : decode cX4_cheapest 2 = .ok (.iload_n 2, 1) := by decide +kernel
theorem dX4_cheapest_3 : decode cX4_cheapest 3 = .ok (.ifCond .lt 11, 3) := by decide +kernel
theorem dX4_cheapest_6 : decode cX4_cheapest 6 = .ok (.iload_n 1, 1) := by decide +kernel
theorem dX4_cheapest_7 : decode cX4_cheapest 7 = .ok (.iload_n 2, 1) := by decide +kernel
theorem dX4_cheapest_8 : decode cX4_cheapest 8 = .ok (.invokestatic 77, 3) := by decide +kernel
theorem dX4_cheapest_11 : decode cX4_cheapest 11 = .ok (.ifCond .eq 5, 3) := by decide +kernel
theorem dX4_cheapest_14 : decode cX4_cheapest 14 = .ok (.iload_n 3, 1) := by decide +kernel
theorem dX4_cheapest_15 : decode cX4_cheapest 15 = .ok (.ireturn, 1) := by decide +kernel
theorem dX4_cheapest_16 : decode cX4_cheapest 16 = .ok (.iload_n 2, 1) := by decide +kernel
theorem dX4_cheapest_17 : decode cX4_cheapest 17 = .ok (.istore 4, 2) := by decide +kernel
theorem dX4_cheapest_19 : decode cX4_cheapest 19 = .ok (.iload 4, 2) := by decide +kernel
theorem dX4_cheapest_21 : decode cX4_cheapest 21 = .ok (.aload_n 0, 1) := by decide +kernel
theorem dX4_cheapest_22 : decode cX4_cheapest 22 = .ok (.getfield 11, 3) := by decide +kernel
theorem dX4_cheapest_25 : decode cX4_cheapest 25 = .ok (.arraylength, 1) := by decide +kernel
theorem dX4_cheapest_26 : decode cX4_cheapest 26 = .ok (.if_icmp .ge 68, 3) := by decide +kernel
theorem dX4_cheapest_29 : decode cX4_cheapest 29 = .ok (.iload 4, 2) := by decide +kernel
theorem dX4_cheapest_31 : decode cX4_cheapest 31 = .ok (.aload_n 0, 1) := by decide +kernel
theorem dX4_cheapest_32 : decode cX4_cheapest 32 = .ok (.getfield 15, 3) := by decide +kernel
theorem dX4_cheapest_35 : decode cX4_cheapest 35 = .ok (.arraylength, 1) := by decide +kernel
theorem dX4_cheapest_36 : decode cX4_cheapest 36 = .ok (.if_icmp .ge 58, 3) := by decide +kernel
theorem dX4_cheapest_39 : decode cX4_cheapest 39 = .ok (.aload_n 0, 1) := by decide +kernel
theorem dX4_cheapest_40 : decode cX4_cheapest 40 = .ok (.getfield 11, 3) := by decide +kernel
theorem dX4_cheapest_43 : decode cX4_cheapest 43 = .ok (.iload 4, 2) := by decide +kernel
theorem dX4_cheapest_45 : decode cX4_cheapest 45 = .ok (.iaload, 1) := by decide +kernel
theorem dX4_cheapest_46 : decode cX4_cheapest 46 = .ok (.iconst (-1), 1) := by decide +kernel
theorem dX4_cheapest_47 : decode cX4_cheapest 47 = .ok (.if_icmp .eq 41, 3) := by decide +kernel
theorem dX4_cheapest_50 : decode cX4_cheapest 50 = .ok (.aload_n 0, 1) := by decide +kernel
theorem dX4_cheapest_51 : decode cX4_cheapest 51 = .ok (.getfield 11, 3) := by decide +kernel
theorem dX4_cheapest_54 : decode cX4_cheapest 54 = .ok (.iload 4, 2) := by decide +kernel
theorem dX4_cheapest_56 : decode cX4_cheapest 56 = .ok (.iaload, 1) := by decide +kernel
theorem dX4_cheapest_57 : decode cX4_cheapest 57 = .ok (.iload_n 1, 1) := by decide +kernel
theorem dX4_cheapest_58 : decode cX4_cheapest 58 = .ok (.invokestatic 81, 3) := by decide +kernel
theorem dX4_cheapest_61 : decode cX4_cheapest 61 = .ok (.ifCond .eq 27, 3) := by decide +kernel
theorem dX4_cheapest_64 : decode cX4_cheapest 64 = .ok (.iload_n 3, 1) := by decide +kernel
theorem dX4_cheapest_65 : decode cX4_cheapest 65 = .ok (.iconst (-1), 1) := by decide +kernel
theorem dX4_cheapest_66 : decode cX4_cheapest 66 = .ok (.if_icmp .eq 14, 3) := by decide +kernel
theorem dX4_cheapest_69 : decode cX4_cheapest 69 = .ok (.aload_n 0, 1) := by decide +kernel
theorem dX4_cheapest_70 : decode cX4_cheapest 70 = .ok (.getfield 15, 3) := by decide +kernel
theorem dX4_cheapest_73 : decode cX4_cheapest 73 = .ok (.iload 4, 2) := by decide +kernel
theorem dX4_cheapest_75 : decode cX4_cheapest 75 = .ok (.iaload, 1) := by decide +kernel
theorem dX4_cheapest_76 : decode cX4_cheapest 76 = .ok (.iload_n 3, 1) := by decide +kernel
theorem dX4_cheapest_77 : decode cX4_cheapest 77 = .ok (.if_icmp .ge 11, 3) := by decide +kernel
theorem dX4_cheapest_80 : decode cX4_cheapest 80 = .ok (.aload_n 0, 1) := by decide +kernel
theorem dX4_cheapest_81 : decode cX4_cheapest 81 = .ok (.getfield 15, 3) := by decide +kernel
theorem dX4_cheapest_84 : decode cX4_cheapest 84 = .ok (.iload 4, 2) := by decide +kernel
theorem dX4_cheapest_86 : decode cX4_cheapest 86 = .ok (.iaload, 1) := by decide +kernel
theorem dX4_cheapest_87 : decode cX4_cheapest 87 = .ok (.istore_n 3, 1) := by decide +kernel
theorem dX4_cheapest_88 : decode cX4_cheapest 88 = .ok (.iinc 4 9, 3) := by decide +kernel
theorem dX4_cheapest_91 : decode cX4_cheapest 91 = .ok (.goto (-72), 3) := by decide +kernel
theorem dX4_cheapest_94 : decode cX4_cheapest 94 = .ok (.iload_n 3, 1) := by decide +kernel
theorem dX4_cheapest_95 : decode cX4_cheapest 95 = .ok (.ireturn, 1) := by decide +kernel
set_option maxRecDepth 20000 in
theorem ggX4_reachable_X4_cheapest : GoodIn wsX4_reachable wsX4_cheapest := goodIn_r _ [6, 7, 8, 9, 10, 11, 12, 13, 16, 17, 18, 19] (by decide +kernel) (by decide +kernel)
set_option maxRecDepth 20000 in
theorem gX4_reachable_X4_cheapest : GoodIn wsX4_reachable (wsV RX4 84 RX4 yX4_cheapest wsX4_cheapest) := goodIn_app (goodIn_of _ (by decide +kernel)) ggX4_reachable_X4_cheapest
set_option maxRecDepth 20000 in
theorem ggX4_reachable_X11_bit : GoodIn wsX4_reachable wsX11_bit := goodIn_r _ [15] (by decide +kernel) (by decide +kernel)
set_option maxRecDepth 20000 in
theorem gX4_reachable_X11_bit_n88 : GoodIn wsX4_reachable (wsX11_bit) := ggX4_reachable_X11_bit
theorem dX4_reachable_0 : decode cX4_reachable 0 = .ok (.aload_n 0, 1) := by decide +kernel
theorem dX4_reachable_1 : decode cX4_reachable 1 = .ok (.getfield 27, 3) := by decide +kernel
theorem dX4_reachable_4 : decode cX4_reachable 4 = .ok (.istore_n 1, 1) := by decide +kernel
theorem dX4_reachable_5 : decode cX4_reachable 5 = .ok (.iconst 0, 1) := by decide +kernel
theorem dX4_reachable_6 : decode cX4_reachable 6 = .ok (.istore_n 2, 1) := by decide +kernel
theorem dX4_reachable_7 : decode cX4_reachable 7 = .ok (.iload_n 2, 1) := by decide +kernel
theorem dX4_reachable_8 : decode cX4_reachable 8 = .ok (.bipush 9, 2) := by decide +kernel
theorem dX4_reachable_10 : decode cX4_reachable 10 = .ok (.if_icmp .ge 40, 3) := by decide +kernel
theorem dX4_reachable_13 : decode cX4_reachable 13 = .ok (.iconst 0, 1) := by decide +kernel
theorem dX4_reachable_14 : decode cX4_reachable 14 = .ok (.istore_n 3, 1) := by decide +kernel
theorem dX4_reachable_15 : decode cX4_reachable 15 = .ok (.iload_n 3, 1) := by decide +kernel
theorem dX4_reachable_16 : decode cX4_reachable 16 = .ok (.bipush 9, 2) := by decide +kernel
theorem dX4_reachable_18 : decode cX4_reachable 18 = .ok (.if_icmp .ge 26, 3) := by decide +kernel
theorem dX4_reachable_21 : decode cX4_reachable 21 = .ok (.aload_n 0, 1) := by decide +kernel
theorem dX4_reachable_22 : decode cX4_reachable 22 = .ok (.iload_n 1, 1) := by decide +kernel
theorem dX4_reachable_23 : decode cX4_reachable 23 = .ok (.iload_n 3, 1) := by decide +kernel
theorem dX4_reachable_24 : decode cX4_reachable 24 = .ok (.invokevirtual 84, 3) := by decide +kernel
theorem dX4_reachable_27 : decode cX4_reachable 27 = .ok (.iconst (-1), 1) := by decide +kernel
theorem dX4_reachable_28 : decode cX4_reachable 28 = .ok (.if_icmp .eq 10, 3) := by decide +kernel
theorem dX4_reachable_31 : decode cX4_reachable 31 = .ok (.iload_n 1, 1) := by decide +kernel
theorem dX4_reachable_32 : decode cX4_reachable 32 = .ok (.iload_n 3, 1) := by decide +kernel
theorem dX4_reachable_33 : decode cX4_reachable 33 = .ok (.invokestatic 88, 3) := by decide +kernel
theorem dX4_reachable_36 : decode cX4_reachable 36 = .ok (.ior, 1) := by decide +kernel
theorem dX4_reachable_37 : decode cX4_reachable 37 = .ok (.istore_n 1, 1) := by decide +kernel
theorem dX4_reachable_38 : decode cX4_reachable 38 = .ok (.iinc 3 1, 3) := by decide +kernel
theorem dX4_reachable_41 : decode cX4_reachable 41 = .ok (.goto (-26), 3) := by decide +kernel
theorem dX4_reachable_44 : decode cX4_reachable 44 = .ok (.iinc 2 1, 3) := by decide +kernel
theorem dX4_reachable_47 : decode cX4_reachable 47 = .ok (.goto (-40), 3) := by decide +kernel
theorem dX4_reachable_50 : decode cX4_reachable 50 = .ok (.iload_n 1, 1) := by decide +kernel
theorem dX4_reachable_51 : decode cX4_reachable 51 = .ok (.ireturn, 1) := by decide +kernel
set_option maxRecDepth 20000 in
theorem ggX4_fewestDenials_X4_plan : GoodIn wsX4_fewestDenials wsX4_plan := goodIn_r _ [6, 7, 1, 8, 9, 10, 11, 12, 13, 5, 14, 15, 16, 17, 18, 19, 20, 21, 22, 23, 24, 25, 26, 27, 28, 29, 30, 31, 32] (by decide +kernel) (by decide +kernel)
set_option maxRecDepth 20000 in
theorem gX4_fewestDenials_X4_plan : GoodIn wsX4_fewestDenials (wsV RX4 91 RX4 yX4_plan wsX4_plan) := goodIn_app (goodIn_of _ (by decide +kernel)) ggX4_fewestDenials_X4_plan
set_option maxRecDepth 20000 in
theorem ggX4_fewestDenials_X4_leastOf : GoodIn wsX4_fewestDenials wsX4_leastOf := goodIn_r _ [28, 7, 29, 30, 31, 32] (by decide +kernel) (by decide +kernel)
set_option maxRecDepth 20000 in
theorem gX4_fewestDenials_X4_leastOf : GoodIn wsX4_fewestDenials (wsV RX4 95 RX4 yX4_leastOf wsX4_leastOf) := goodIn_app (goodIn_of _ (by decide +kernel)) ggX4_fewestDenials_X4_leastOf
theorem dX4_fewestDenials_0 : decode cX4_fewestDenials 0 = .ok (.aload_n 0, 1) := by decide +kernel
theorem dX4_fewestDenials_1 : decode cX4_fewestDenials 1 = .ok (.iload_n 1, 1) := by decide +kernel
theorem dX4_fewestDenials_2 : decode cX4_fewestDenials 2 = .ok (.iconst 0, 1) := by decide +kernel
theorem dX4_fewestDenials_3 : decode cX4_fewestDenials 3 = .ok (.invokevirtual 91, 3) := by decide +kernel
theorem dX4_fewestDenials_6 : decode cX4_fewestDenials 6 = .ok (.aload_n 0, 1) := by decide +kernel
theorem dX4_fewestDenials_7 : decode cX4_fewestDenials 7 = .ok (.aload_n 0, 1) := by decide +kernel
theorem dX4_fewestDenials_8 : decode cX4_fewestDenials 8 = .ok (.getfield 27, 3) := by decide +kernel
theorem dX4_fewestDenials_11 : decode cX4_fewestDenials 11 = .ok (.invokevirtual 95, 3) := by decide +kernel
theorem dX4_fewestDenials_14 : decode cX4_fewestDenials 14 = .ok (.ireturn, 1) := by decide +kernel
set_option maxRecDepth 20000 in
theorem ggX4_fewestSteps_X4_plan : GoodIn wsX4_fewestSteps wsX4_plan := goodIn_r _ [6, 7, 1, 8, 9, 10, 11, 12, 13, 5, 14, 15, 16, 17, 18, 19, 20, 21, 22, 23, 24, 25, 26, 27, 28, 29, 30, 31, 32] (by decide +kernel) (by decide +kernel)
set_option maxRecDepth 20000 in
theorem gX4_fewestSteps_X4_plan : GoodIn wsX4_fewestSteps (wsV RX4 91 RX4 yX4_plan wsX4_plan) := goodIn_app (goodIn_of _ (by decide +kernel)) ggX4_fewestSteps_X4_plan
set_option maxRecDepth 20000 in
theorem ggX4_fewestSteps_X4_leastOf : GoodIn wsX4_fewestSteps wsX4_leastOf := goodIn_r _ [28, 7, 29, 30, 31, 32] (by decide +kernel) (by decide +kernel)
set_option maxRecDepth 20000 in
theorem gX4_fewestSteps_X4_leastOf : GoodIn wsX4_fewestSteps (wsV RX4 95 RX4 yX4_leastOf wsX4_leastOf) := goodIn_app (goodIn_of _ (by decide +kernel)) ggX4_fewestSteps_X4_leastOf
theorem dX4_fewestSteps_0 : decode cX4_fewestSteps 0 = .ok (.aload_n 0, 1) := by decide +kernel
theorem dX4_fewestSteps_1 : decode cX4_fewestSteps 1 = .ok (.iload_n 1, 1) := by decide +kernel
theorem dX4_fewestSteps_2 : decode cX4_fewestSteps 2 = .ok (.iconst 1, 1) := by decide +kernel
theorem dX4_fewestSteps_3 : decode cX4_fewestSteps 3 = .ok (.invokevirtual 91, 3) := by decide +kernel
theorem dX4_fewestSteps_6 : decode cX4_fewestSteps 6 = .ok (.aload_n 0, 1) := by decide +kernel
theorem dX4_fewestSteps_7 : decode cX4_fewestSteps 7 = .ok (.aload_n 0, 1) := by decide +kernel
theorem dX4_fewestSteps_8 : decode cX4_fewestSteps 8 = .ok (.getfield 27, 3) := by decide +kernel
theorem dX4_fewestSteps_11 : decode cX4_fewestSteps 11 = .ok (.invokevirtual 95, 3) := by decide +kernel
theorem dX4_fewestSteps_14 : decode cX4_fewestSteps 14 = .ok (.ireturn, 1) := by decide +kernel
set_option maxRecDepth 20000 in
theorem ggX4_beginning_X4_fewestDenials : GoodIn wsX4_beginning wsX4_fewestDenials := goodIn_r _ [6, 1, 7, 8, 9, 5, 10, 11, 12, 13, 14, 15, 16, 17, 18, 19, 20, 21, 22, 23, 24, 25, 26, 27, 28, 29, 30, 31, 32, 33, 34, 35, 36] (by decide +kernel) (by decide +kernel)
set_option maxRecDepth 20000 in
theorem gX4_beginning_X4_fewestDenials : GoodIn wsX4_beginning (wsV RX4 98 RX4 yX4_fewestDenials wsX4_fewestDenials) := goodIn_app (goodIn_of _ (by decide +kernel)) ggX4_beginning_X4_fewestDenials
set_option maxRecDepth 20000 in
theorem ggX4_beginning_X4_cheapest : GoodIn wsX4_beginning wsX4_cheapest := goodIn_r _ [22, 23, 24, 25, 13, 26, 12, 14, 33, 34, 35, 36] (by decide +kernel) (by decide +kernel)
set_option maxRecDepth 20000 in
theorem gX4_beginning_X4_cheapest : GoodIn wsX4_beginning (wsV RX4 84 RX4 yX4_cheapest wsX4_cheapest) := goodIn_app (goodIn_of _ (by decide +kernel)) ggX4_beginning_X4_cheapest
set_option maxRecDepth 20000 in
theorem ggX4_beginning_X11_bit : GoodIn wsX4_beginning wsX11_bit := goodIn_r _ [28] (by decide +kernel) (by decide +kernel)
set_option maxRecDepth 20000 in
theorem gX4_beginning_X11_bit_n88 : GoodIn wsX4_beginning (wsX11_bit) := ggX4_beginning_X11_bit
set_option maxRecDepth 20000 in
theorem ggX4_beginning_X4_leastOf : GoodIn wsX4_beginning wsX4_leastOf := goodIn_r _ [32, 11, 33, 34, 35, 36] (by decide +kernel) (by decide +kernel)
set_option maxRecDepth 20000 in
theorem gX4_beginning_X4_leastOf : GoodIn wsX4_beginning (wsV RX4 95 RX4 yX4_leastOf wsX4_leastOf) := goodIn_app (goodIn_of _ (by decide +kernel)) ggX4_beginning_X4_leastOf
theorem dX4_beginning_0 : decode cX4_beginning 0 = .ok (.aload_n 0, 1) := by decide +kernel
theorem dX4_beginning_1 : decode cX4_beginning 1 = .ok (.iload_n 1, 1) := by decide +kernel
theorem dX4_beginning_2 : decode cX4_beginning 2 = .ok (.invokevirtual 98, 3) := by decide +kernel
theorem dX4_beginning_5 : decode cX4_beginning 5 = .ok (.istore_n 2, 1) := by decide +kernel
theorem dX4_beginning_6 : decode cX4_beginning 6 = .ok (.iload_n 2, 1) := by decide +kernel
theorem dX4_beginning_7 : decode cX4_beginning 7 = .ok (.iconst 1, 1) := by decide +kernel
theorem dX4_beginning_8 : decode cX4_beginning 8 = .ok (.if_icmp .ge 6, 3) := by decide +kernel
theorem dX4_beginning_11 : decode cX4_beginning 11 = .ok (.bipush (-4), 2) := by decide +kernel
theorem dX4_beginning_13 : decode cX4_beginning 13 = .ok (.ireturn, 1) := by decide +kernel
theorem dX4_beginning_14 : decode cX4_beginning 14 = .ok (.iconst 0, 1) := by decide +kernel
theorem dX4_beginning_15 : decode cX4_beginning 15 = .ok (.istore_n 3, 1) := by decide +kernel
theorem dX4_beginning_16 : decode cX4_beginning 16 = .ok (.iload_n 3, 1) := by decide +kernel
theorem dX4_beginning_17 : decode cX4_beginning 17 = .ok (.bipush 9, 2) := by decide +kernel
theorem dX4_beginning_19 : decode cX4_beginning 19 = .ok (.if_icmp .ge 43, 3) := by decide +kernel
theorem dX4_beginning_22 : decode cX4_beginning 22 = .ok (.aload_n 0, 1) := by decide +kernel
theorem dX4_beginning_23 : decode cX4_beginning 23 = .ok (.aload_n 0, 1) := by decide +kernel
theorem dX4_beginning_24 : decode cX4_beginning 24 = .ok (.getfield 27, 3) := by decide +kernel
theorem dX4_beginning_27 : decode cX4_beginning 27 = .ok (.iload_n 3, 1) := by decide +kernel
theorem dX4_beginning_28 : decode cX4_beginning 28 = .ok (.invokevirtual 84, 3) := by decide +kernel
theorem dX4_beginning_31 : decode cX4_beginning 31 = .ok (.iconst (-1), 1) := by decide +kernel
theorem dX4_beginning_32 : decode cX4_beginning 32 = .ok (.if_icmp .eq 24, 3) := by decide +kernel
theorem dX4_beginning_35 : decode cX4_beginning 35 = .ok (.aload_n 0, 1) := by decide +kernel
theorem dX4_beginning_36 : decode cX4_beginning 36 = .ok (.aload_n 0, 1) := by decide +kernel
theorem dX4_beginning_37 : decode cX4_beginning 37 = .ok (.getfield 27, 3) := by decide +kernel
theorem dX4_beginning_40 : decode cX4_beginning 40 = .ok (.iload_n 3, 1) := by decide +kernel
theorem dX4_beginning_41 : decode cX4_beginning 41 = .ok (.invokestatic 88, 3) := by decide +kernel
theorem dX4_beginning_44 : decode cX4_beginning 44 = .ok (.ior, 1) := by decide +kernel
theorem dX4_beginning_45 : decode cX4_beginning 45 = .ok (.invokevirtual 95, 3) := by decide +kernel
theorem dX4_beginning_48 : decode cX4_beginning 48 = .ok (.iload_n 2, 1) := by decide +kernel
theorem dX4_beginning_49 : decode cX4_beginning 49 = .ok (.iconst 1, 1) := by decide +kernel
theorem dX4_beginning_50 : decode cX4_beginning 50 = .ok (.isub, 1) := by decide +kernel
theorem dX4_beginning_51 : decode cX4_beginning 51 = .ok (.if_icmp .ne 5, 3) := by decide +kernel
theorem dX4_beginning_54 : decode cX4_beginning 54 = .ok (.iload_n 3, 1) := by decide +kernel
theorem dX4_beginning_55 : decode cX4_beginning 55 = .ok (.ireturn, 1) := by decide +kernel
theorem dX4_beginning_56 : decode cX4_beginning 56 = .ok (.iinc 3 1, 3) := by decide +kernel
theorem dX4_beginning_59 : decode cX4_beginning 59 = .ok (.goto (-43), 3) := by decide +kernel
theorem dX4_beginning_62 : decode cX4_beginning 62 = .ok (.bipush (-4), 2) := by decide +kernel
theorem dX4_beginning_64 : decode cX4_beginning 64 = .ok (.ireturn, 1) := by decide +kernel
theorem dX4_leastOf_0 : decode cX4_leastOf 0 = .ok (.iload_n 1, 1) := by decide +kernel
theorem dX4_leastOf_1 : decode cX4_leastOf 1 = .ok (.ifCond .lt 21, 3) := by decide +kernel
theorem dX4_leastOf_4 : decode cX4_leastOf 4 = .ok (.iload_n 1, 1) := by decide +kernel
theorem dX4_leastOf_5 : decode cX4_leastOf 5 = .ok (.aload_n 0, 1) := by decide +kernel
theorem dX4_leastOf_6 : decode cX4_leastOf 6 = .ok (.getfield 18, 3) := by decide +kernel
theorem dX4_leastOf_9 : decode cX4_leastOf 9 = .ok (.arraylength, 1) := by decide +kernel
theorem dX4_leastOf_10 : decode cX4_leastOf 10 = .ok (.if_icmp .ge 12, 3) := by decide +kernel
theorem dX4_leastOf_13 : decode cX4_leastOf 13 = .ok (.aload_n 0, 1) := by decide +kernel
theorem dX4_leastOf_14 : decode cX4_leastOf 14 = .ok (.getfield 18, 3) := by decide +kernel
theorem dX4_leastOf_17 : decode cX4_leastOf 17 = .ok (.iload_n 1, 1) := by decide +kernel
theorem dX4_leastOf_18 : decode cX4_leastOf 18 = .ok (.iaload, 1) := by decide +kernel
theorem dX4_leastOf_19 : decode cX4_leastOf 19 = .ok (.goto 5, 3) := by decide +kernel
theorem dX4_leastOf_22 : decode cX4_leastOf 22 = .ok (.bipush (-4), 2) := by decide +kernel
theorem dX4_leastOf_24 : decode cX4_leastOf 24 = .ok (.ireturn, 1) := by decide +kernel
set_option maxRecDepth 20000 in
theorem ggX4_plan_X11_within : GoodIn wsX4_plan wsX11_within := goodIn_r _ [5] (by decide +kernel) (by decide +kernel)
set_option maxRecDepth 20000 in
theorem gX4_plan_X11_within_n81 : GoodIn wsX4_plan (wsX11_within) := ggX4_plan_X11_within
set_option maxRecDepth 20000 in
theorem ggX4_plan_X4_leastFrom : GoodIn wsX4_plan wsX4_leastFrom := goodIn_r _ [10, 11, 12, 13, 9, 14, 15, 16, 17, 4, 18, 3, 5, 19, 20, 21, 22, 23, 24, 1, 25, 26, 27, 28] (by decide +kernel) (by decide +kernel)
set_option maxRecDepth 20000 in
theorem gX4_plan_X4_leastFrom : GoodIn wsX4_plan (wsV RX4 101 RX4 yX4_leastFrom wsX4_leastFrom) := goodIn_app (goodIn_of _ (by decide +kernel)) ggX4_plan_X4_leastFrom
theorem dX4_plan_0 : decode cX4_plan 0 = .ok (.aload_n 0, 1) := by decide +kernel
theorem dX4_plan_1 : decode cX4_plan 1 = .ok (.getfield 18, 3) := by decide +kernel
theorem dX4_plan_4 : decode cX4_plan 4 = .ok (.arraylength, 1) := by decide +kernel
theorem dX4_plan_5 : decode cX4_plan 5 = .ok (.iconst 1, 1) := by decide +kernel
theorem dX4_plan_6 : decode cX4_plan 6 = .ok (.isub, 1) := by decide +kernel
theorem dX4_plan_7 : decode cX4_plan 7 = .ok (.istore_n 3, 1) := by decide +kernel
theorem dX4_plan_8 : decode cX4_plan 8 = .ok (.iload_n 3, 1) := by decide +kernel
theorem dX4_plan_9 : decode cX4_plan 9 = .ok (.ifCond .lt 44, 3) := by decide +kernel
theorem dX4_plan_12 : decode cX4_plan 12 = .ok (.aload_n 0, 1) := by decide +kernel
theorem dX4_plan_13 : decode cX4_plan 13 = .ok (.getfield 27, 3) := by decide +kernel
theorem dX4_plan_16 : decode cX4_plan 16 = .ok (.iload_n 3, 1) := by decide +kernel
theorem dX4_plan_17 : decode cX4_plan 17 = .ok (.invokestatic 81, 3) := by decide +kernel
theorem dX4_plan_20 : decode cX4_plan 20 = .ok (.ifCond .eq 27, 3) := by decide +kernel
theorem dX4_plan_23 : decode cX4_plan 23 = .ok (.aload_n 0, 1) := by decide +kernel
theorem dX4_plan_24 : decode cX4_plan 24 = .ok (.getfield 18, 3) := by decide +kernel
theorem dX4_plan_27 : decode cX4_plan 27 = .ok (.iload_n 3, 1) := by decide +kernel
theorem dX4_plan_28 : decode cX4_plan 28 = .ok (.iload_n 1, 1) := by decide +kernel
theorem dX4_plan_29 : decode cX4_plan 29 = .ok (.iload_n 3, 1) := by decide +kernel
theorem dX4_plan_30 : decode cX4_plan 30 = .ok (.invokestatic 81, 3) := by decide +kernel
theorem dX4_plan_33 : decode cX4_plan 33 = .ok (.ifCond .eq 7, 3) := by decide +kernel
theorem dX4_plan_36 : decode cX4_plan 36 = .ok (.iconst 0, 1) := by decide +kernel
theorem dX4_plan_37 : decode cX4_plan 37 = .ok (.goto 9, 3) := by decide +kernel
theorem dX4_plan_40 : decode cX4_plan 40 = .ok (.aload_n 0, 1) := by decide +kernel
theorem dX4_plan_41 : decode cX4_plan 41 = .ok (.iload_n 3, 1) := by decide +kernel
theorem dX4_plan_42 : decode cX4_plan 42 = .ok (.iload_n 2, 1) := by decide +kernel
theorem dX4_plan_43 : decode cX4_plan 43 = .ok (.invokevirtual 101, 3) := by decide +kernel
theorem dX4_plan_46 : decode cX4_plan 46 = .ok (.iastore, 1) := by decide +kernel
theorem dX4_plan_47 : decode cX4_plan 47 = .ok (.iinc 3 (-1), 3) := by decide +kernel
theorem dX4_plan_50 : decode cX4_plan 50 = .ok (.goto (-42), 3) := by decide +kernel
theorem dX4_plan_53 : decode cX4_plan 53 = .ok (.return_, 1) := by decide +kernel
set_option maxRecDepth 20000 in
theorem ggX4_leastFrom_X4_cheapest : GoodIn wsX4_leastFrom wsX4_cheapest := goodIn_r _ [5, 6, 7, 8, 9, 10, 11, 12, 20, 21, 22, 23] (by decide +kernel) (by decide +kernel)
set_option maxRecDepth 20000 in
theorem gX4_leastFrom_X4_cheapest : GoodIn wsX4_leastFrom (wsV RX4 84 RX4 yX4_cheapest wsX4_cheapest) := goodIn_app (goodIn_of _ (by decide +kernel)) ggX4_leastFrom_X4_cheapest
set_option maxRecDepth 20000 in
theorem ggX4_leastFrom_X11_bit : GoodIn wsX4_leastFrom wsX11_bit := goodIn_r _ [14] (by decide +kernel) (by decide +kernel)
set_option maxRecDepth 20000 in
theorem gX4_leastFrom_X11_bit_n88 : GoodIn wsX4_leastFrom (wsX11_bit) := ggX4_leastFrom_X11_bit
set_option maxRecDepth 20000 in
theorem ggX4_leastFrom_X4_leastOf : GoodIn wsX4_leastFrom wsX4_leastOf := goodIn_r _ [18, 19, 20, 21, 22, 23] (by decide +kernel) (by decide +kernel)
set_option maxRecDepth 20000 in
theorem gX4_leastFrom_X4_leastOf : GoodIn wsX4_leastFrom (wsV RX4 95 RX4 yX4_leastOf wsX4_leastOf) := goodIn_app (goodIn_of _ (by decide +kernel)) ggX4_leastFrom_X4_leastOf
theorem dX4_leastFrom_0 : decode cX4_leastFrom 0 = .ok (.bipush (-4), 2) := by decide +kernel
theorem dX4_leastFrom_2 : decode cX4_leastFrom 2 = .ok (.istore_n 3, 1) := by decide +kernel
theorem dX4_leastFrom_3 : decode cX4_leastFrom 3 = .ok (.iconst 0, 1) := by decide +kernel
theorem dX4_leastFrom_4 : decode cX4_leastFrom 4 = .ok (.istore 4, 2) := by decide +kernel
theorem dX4_leastFrom_6 : decode cX4_leastFrom 6 = .ok (.iload 4, 2) := by decide +kernel
theorem dX4_leastFrom_8 : decode cX4_leastFrom 8 = .ok (.bipush 9, 2) := by decide +kernel
theorem dX4_leastFrom_10 : decode cX4_leastFrom 10 = .ok (.if_icmp .ge 77, 3) := by decide +kernel
theorem dX4_leastFrom_13 : decode cX4_leastFrom 13 = .ok (.aload_n 0, 1) := by decide +kernel
theorem dX4_leastFrom_14 : decode cX4_leastFrom 14 = .ok (.iload_n 1, 1) := by decide +kernel
theorem dX4_leastFrom_15 : decode cX4_leastFrom 15 = .ok (.iload 4, 2) := by decide +kernel
theorem dX4_leastFrom_17 : decode cX4_leastFrom 17 = .ok (.invokevirtual 84, 3) := by decide +kernel
theorem dX4_leastFrom_20 : decode cX4_leastFrom 20 = .ok (.istore 5, 2) := by decide +kernel
theorem dX4_leastFrom_22 : decode cX4_leastFrom 22 = .ok (.aload_n 0, 1) := by decide +kernel
theorem dX4_leastFrom_23 : decode cX4_leastFrom 23 = .ok (.iload_n 1, 1) := by decide +kernel
theorem dX4_leastFrom_24 : decode cX4_leastFrom 24 = .ok (.iload 4, 2) := by decide +kernel
theorem dX4_leastFrom_26 : decode cX4_leastFrom 26 = .ok (.invokestatic 88, 3) := by decide +kernel
theorem dX4_leastFrom_29 : decode cX4_leastFrom 29 = .ok (.ior, 1) := by decide +kernel
theorem dX4_leastFrom_30 : decode cX4_leastFrom 30 = .ok (.invokevirtual 95, 3) := by decide +kernel
theorem dX4_leastFrom_33 : decode cX4_leastFrom 33 = .ok (.istore 6, 2) := by decide +kernel
theorem dX4_leastFrom_35 : decode cX4_leastFrom 35 = .ok (.iload 5, 2) := by decide +kernel
theorem dX4_leastFrom_37 : decode cX4_leastFrom 37 = .ok (.iconst (-1), 1) := by decide +kernel
theorem dX4_leastFrom_38 : decode cX4_leastFrom 38 = .ok (.if_icmp .eq 43, 3) := by decide +kernel
theorem dX4_leastFrom_41 : decode cX4_leastFrom 41 = .ok (.iload 6, 2) := by decide +kernel
theorem dX4_leastFrom_43 : decode cX4_leastFrom 43 = .ok (.bipush (-4), 2) := by decide +kernel
theorem dX4_leastFrom_45 : decode cX4_leastFrom 45 = .ok (.if_icmp .ne 6, 3) := by decide +kernel
theorem dX4_leastFrom_48 : decode cX4_leastFrom 48 = .ok (.goto 33, 3) := by decide +kernel
theorem dX4_leastFrom_51 : decode cX4_leastFrom 51 = .ok (.iload 6, 2) := by decide +kernel
theorem dX4_leastFrom_53 : decode cX4_leastFrom 53 = .ok (.iload_n 2, 1) := by decide +kernel
theorem dX4_leastFrom_54 : decode cX4_leastFrom 54 = .ok (.ifCond .eq 8, 3) := by decide +kernel
theorem dX4_leastFrom_57 : decode cX4_leastFrom 57 = .ok (.iload 5, 2) := by decide +kernel
theorem dX4_leastFrom_59 : decode cX4_leastFrom 59 = .ok (.goto 4, 3) := by decide +kernel
theorem dX4_leastFrom_62 : decode cX4_leastFrom 62 = .ok (.iconst 1, 1) := by decide +kernel
theorem dX4_leastFrom_63 : decode cX4_leastFrom 63 = .ok (.iadd, 1) := by decide +kernel
theorem dX4_leastFrom_64 : decode cX4_leastFrom 64 = .ok (.istore 7, 2) := by decide +kernel
theorem dX4_leastFrom_66 : decode cX4_leastFrom 66 = .ok (.iload_n 3, 1) := by decide +kernel
theorem dX4_leastFrom_67 : decode cX4_leastFrom 67 = .ok (.bipush (-4), 2) := by decide +kernel
theorem dX4_leastFrom_69 : decode cX4_leastFrom 69 = .ok (.if_icmp .eq 9, 3) := by decide +kernel
theorem dX4_leastFrom_72 : decode cX4_leastFrom 72 = .ok (.iload 7, 2) := by decide +kernel
theorem dX4_leastFrom_74 : decode cX4_leastFrom 74 = .ok (.iload_n 3, 1) := by decide +kernel
theorem dX4_leastFrom_75 : decode cX4_leastFrom 75 = .ok (.if_icmp .ge 6, 3) := by decide +kernel
theorem dX4_leastFrom_78 : decode cX4_leastFrom 78 = .ok (.iload 7, 2) := by decide +kernel
theorem dX4_leastFrom_80 : decode cX4_leastFrom 80 = .ok (.istore_n 3, 1) := by decide +kernel
theorem dX4_leastFrom_81 : decode cX4_leastFrom 81 = .ok (.iinc 4 1, 3) := by decide +kernel
theorem dX4_leastFrom_84 : decode cX4_leastFrom 84 = .ok (.goto (-78), 3) := by decide +kernel
theorem dX4_leastFrom_87 : decode cX4_leastFrom 87 = .ok (.iload_n 3, 1) := by decide +kernel
theorem dX4_leastFrom_88 : decode cX4_leastFrom 88 = .ok (.ireturn, 1) := by decide +kernel
set_option maxRecDepth 20000 in
theorem ggX4_together_J7_fill_53178 : GoodIn wsX4_together wsJ7_fill_53178 := goodIn_r _ [5] (by decide +kernel) (by decide +kernel)
set_option maxRecDepth 20000 in
theorem gX4_together_J7_fill_53178 : GoodIn wsX4_together (va_wsS RX4 30 yJ7_fill_53178 wsJ7_fill_53178) := goodIn_app (goodIn_of _ (by decide +kernel)) ggX4_together_J7_fill_53178
set_option maxRecDepth 20000 in
theorem ggX4_together_X9_memberAt : GoodIn wsX4_together wsX9_memberAt := goodIn_r _ [10, 11, 181, 182, 183, 184, 185, 186, 187, 188, 189, 190] (by decide +kernel) (by decide +kernel)
set_option maxRecDepth 20000 in
theorem gX4_together_X9_memberAt : GoodIn wsX4_together (wsV RX4 40 RX9 yX9_memberAt wsX9_memberAt) := goodIn_app (goodIn_of _ (by decide +kernel)) ggX4_together_X9_memberAt
set_option maxRecDepth 20000 in
theorem ggX4_together_X9_silencingFor : GoodIn wsX4_together wsX9_silencingFor := goodIn_r _ [15, 16, 17, 18, 7, 8, 9, 10, 11, 19, 20, 21, 22, 23, 24, 25, 26, 27, 28, 29, 30, 31, 32, 33, 34, 35, 36, 37, 38, 39, 40, 41, 42, 43, 44, 45, 46, 47, 48, 49, 50, 51, 52, 53, 54, 55, 56, 57, 58, 59, 60, 61, 62, 63, 64, 65, 66, 67, 68, 69, 70, 71, 72, 73, 74, 75, 76, 77, 78, 79, 80, 81, 82, 83, 84, 85, 86, 87, 88, 89, 90, 91, 92, 93, 94, 95, 96, 97, 98, 99, 100, 101, 102, 103, 104, 105, 106, 107, 108, 109, 110, 111, 112, 113, 114, 115, 116, 117, 118, 119, 120, 121, 122, 181, 182, 183, 184, 185, 186, 187, 188, 189, 190, 191, 192, 193, 194, 195, 196, 197, 198, 199, 200, 201, 202, 203, 204, 205, 206] (by decide +kernel) (by decide +kernel)
set_option maxRecDepth 20000 in
theorem gX4_together_X9_silencingFor : GoodIn wsX4_together (wsV RX4 105 RX9 yX9_silencingFor wsX9_silencingFor) := goodIn_app (goodIn_of _ (by decide +kernel)) ggX4_together_X9_silencingFor
set_option maxRecDepth 20000 in
theorem ggX4_together_X0_asks : GoodIn wsX4_together wsX0_asks := goodIn_r _ [128, 129, 130, 50, 131, 52, 132, 54, 55, 133, 124, 57, 134, 59, 135, 191, 192, 193, 194, 195, 196, 197, 198, 199, 200, 201, 202, 203, 204, 205, 206] (by decide +kernel) (by decide +kernel)
set_option maxRecDepth 20000 in
theorem gX4_together_X0_asks_u108X0 : GoodIn wsX4_together (va_wsO RX4 108 RX0 "HoldsOnceDenied$Denier" ⟨"HoldsOnceDenied$Denier", "asks", "()I"⟩ yX0_asks wsX0_asks) := goodIn_app (goodIn_of _ (by decide +kernel)) ggX4_together_X0_asks
set_option maxRecDepth 20000 in
theorem ggX4_together_X1_asks : GoodIn wsX4_together wsX1_asks := goodIn_r _ [138, 139, 140, 141, 142, 69, 143, 144, 124, 145, 134, 59, 135] (by decide +kernel) (by decide +kernel)
set_option maxRecDepth 20000 in
theorem gX4_together_X1_asks_u108X1 : GoodIn wsX4_together (va_wsO RX4 108 RX1 "HoldsOnceDenied$Denier" ⟨"HoldsOnceDenied$Denier", "asks", "()I"⟩ yX1_asks wsX1_asks) := goodIn_app (goodIn_of _ (by decide +kernel)) ggX4_together_X1_asks
set_option maxRecDepth 20000 in
theorem ggX4_together_X2_asks : GoodIn wsX4_together wsX2_asks := goodIn_r _ [135] (by decide +kernel) (by decide +kernel)
set_option maxRecDepth 20000 in
theorem gX4_together_X2_asks : GoodIn wsX4_together (wsV RX4 108 RX2 yX2_asks wsX2_asks) := goodIn_app (goodIn_of _ (by decide +kernel)) ggX4_together_X2_asks
set_option maxRecDepth 20000 in
theorem ggX4_together_X3_asks : GoodIn wsX4_together wsX3_asks := goodIn_r _ [143, 144, 124, 145, 134, 59, 135] (by decide +kernel) (by decide +kernel)
set_option maxRecDepth 20000 in
theorem gX4_together_X3_asks_u108X3 : GoodIn wsX4_together (va_wsO RX4 108 RX3 "HoldsOnceDenied$Denier" ⟨"HoldsOnceDenied$Denier", "asks", "()I"⟩ yX3_asks wsX3_asks) := goodIn_app (goodIn_of _ (by decide +kernel)) ggX4_together_X3_asks
set_option maxRecDepth 20000 in
theorem ggX4_together_X5_asks : GoodIn wsX4_together wsX5_asks := goodIn_r _ [132, 54, 55, 133, 124, 57, 134, 59, 135, 191, 192, 193, 194, 195, 196, 197, 198, 199, 200, 201, 202, 203, 204, 205, 206] (by decide +kernel) (by decide +kernel)
set_option maxRecDepth 20000 in
theorem gX4_together_X5_asks_u108X5 : GoodIn wsX4_together (va_wsO RX4 108 RX5 "HoldsOnceDenied$Denier" ⟨"HoldsOnceDenied$Denier", "asks", "()I"⟩ yX5_asks wsX5_asks) := goodIn_app (goodIn_of _ (by decide +kernel)) ggX4_together_X5_asks
set_option maxRecDepth 20000 in
theorem ggX4_together_X6_asks : GoodIn wsX4_together wsX6_asks := goodIn_r _ [152, 153, 140, 80, 142, 69, 143, 144, 124, 145, 134, 59, 135] (by decide +kernel) (by decide +kernel)
set_option maxRecDepth 20000 in
theorem gX4_together_X6_asks_u108X6 : GoodIn wsX4_together (va_wsO RX4 108 RX6 "HoldsOnceDenied$Denier" ⟨"HoldsOnceDenied$Denier", "asks", "()I"⟩ yX6_asks wsX6_asks) := goodIn_app (goodIn_of _ (by decide +kernel)) ggX4_together_X6_asks
set_option maxRecDepth 20000 in
theorem ggX4_together_X7_asks : GoodIn wsX4_together wsX7_asks := goodIn_r _ [156, 157, 158, 89, 159, 91, 160, 161, 162, 163, 124, 94, 134, 59, 135, 191, 192, 193, 194, 195, 196, 197, 198, 199, 200, 201, 202, 203, 204, 205, 206] (by decide +kernel) (by decide +kernel)
set_option maxRecDepth 20000 in
theorem gX4_together_X7_asks_u108X7 : GoodIn wsX4_together (va_wsO RX4 108 RX7 "HoldsOnceDenied$Denier" ⟨"HoldsOnceDenied$Denier", "asks", "()I"⟩ yX7_asks wsX7_asks) := goodIn_app (goodIn_of _ (by decide +kernel)) ggX4_together_X7_asks
set_option maxRecDepth 20000 in
theorem ggX4_together_X10_asks : GoodIn wsX4_together wsX10_asks := goodIn_r _ [160, 161, 162, 163, 124, 94, 134, 59, 135, 191, 192, 193, 194, 195, 196, 197, 198, 199, 200, 201, 202, 203, 204, 205, 206] (by decide +kernel) (by decide +kernel)
set_option maxRecDepth 20000 in
theorem gX4_together_X10_asks_u108X10 : GoodIn wsX4_together (va_wsO RX4 108 RX10 "HoldsOnceDenied$Denier" ⟨"HoldsOnceDenied$Denier", "asks", "()I"⟩ yX10_asks wsX10_asks) := goodIn_app (goodIn_of _ (by decide +kernel)) ggX4_together_X10_asks
set_option maxRecDepth 20000 in
theorem ggX4_together_X4_letOneJoin : GoodIn wsX4_together wsX4_letOneJoin := goodIn_r _ [169, 1, 121, 25, 122, 24, 26, 177, 178, 179, 180] (by decide +kernel) (by decide +kernel)
set_option maxRecDepth 20000 in
theorem gX4_together_X4_letOneJoin : GoodIn wsX4_together (wsV RX4 111 RX4 yX4_letOneJoin wsX4_letOneJoin) := goodIn_app (goodIn_of _ (by decide +kernel)) ggX4_together_X4_letOneJoin
set_option maxRecDepth 20000 in
theorem ggX4_together_J6_bitCount_0f7a4 : GoodIn wsX4_together wsJ6_bitCount_0f7a4 := goodIn_r _ [173, 174, 175, 176] (by decide +kernel) (by decide +kernel)
set_option maxRecDepth 20000 in
theorem gX4_together_J6_bitCount_0f7a4 : GoodIn wsX4_together (va_wsS RX4 69 yJ6_bitCount_0f7a4 wsJ6_bitCount_0f7a4) := goodIn_app (goodIn_of _ (by decide +kernel)) ggX4_together_J6_bitCount_0f7a4
theorem dX4_together_0 : decode cX4_together 0 = .ok (.aload_n 0, 1) := by decide +kernel
theorem dX4_together_1 : decode cX4_together 1 = .ok (.getfield 18, 3) := by decide +kernel
theorem dX4_together_4 : decode cX4_together 4 = .ok (.bipush (-4), 2) := by decide +kernel
theorem dX4_together_6 : decode cX4_together 6 = .ok (.invokestatic 30, 3) := by decide +kernel
theorem dX4_together_9 : decode cX4_together 9 = .ok (.aload_n 0, 1) := by decide +kernel
theorem dX4_together_10 : decode cX4_together 10 = .ok (.getfield 18, 3) := by decide +kernel
theorem dX4_together_13 : decode cX4_together 13 = .ok (.iconst 0, 1) := by decide +kernel
theorem dX4_together_14 : decode cX4_together 14 = .ok (.iconst 0, 1) := by decide +kernel
theorem dX4_together_15 : decode cX4_together 15 = .ok (.iastore, 1) := by decide +kernel
theorem dX4_together_16 : decode cX4_together 16 = .ok (.iconst 0, 1) := by decide +kernel
theorem dX4_together_17 : decode cX4_together 17 = .ok (.istore_n 3, 1) := by decide +kernel
theorem dX4_together_18 : decode cX4_together 18 = .ok (.iload_n 3, 1) := by decide +kernel
theorem dX4_together_19 : decode cX4_together 19 = .ok (.bipush 6, 2) := by decide +kernel
theorem dX4_together_21 : decode cX4_together 21 = .ok (.if_icmp .ge 35, 3) := by decide +kernel
theorem dX4_together_24 : decode cX4_together 24 = .ok (.aload_n 1, 1) := by decide +kernel
theorem dX4_together_25 : decode cX4_together 25 = .ok (.iload_n 3, 1) := by decide +kernel
theorem dX4_together_26 : decode cX4_together 26 = .ok (.invokevirtual 40, 3) := by decide +kernel
theorem dX4_together_29 : decode cX4_together 29 = .ok (.astore 4, 2) := by decide +kernel
theorem dX4_together_31 : decode cX4_together 31 = .ok (.aload 4, 2) := by decide +kernel
theorem dX4_together_33 : decode cX4_together 33 = .ok (.ifnull 17, 3) := by decide +kernel
theorem dX4_together_36 : decode cX4_together 36 = .ok (.aload_n 0, 1) := by decide +kernel
theorem dX4_together_37 : decode cX4_together 37 = .ok (.aload_n 1, 1) := by decide +kernel
theorem dX4_together_38 : decode cX4_together 38 = .ok (.iload_n 3, 1) := by decide +kernel
theorem dX4_together_39 : decode cX4_together 39 = .ok (.invokevirtual 105, 3) := by decide +kernel
theorem dX4_together_42 : decode cX4_together 42 = .ok (.aload 4, 2) := by decide +kernel
theorem dX4_together_44 : decode cX4_together 44 = .ok (.invokevirtual 108, 3) := by decide +kernel
theorem dX4_together_47 : decode cX4_together 47 = .ok (.invokevirtual 111, 3) := by decide +kernel
theorem dX4_together_50 : decode cX4_together 50 = .ok (.iinc 3 1, 3) := by decide +kernel
theorem dX4_together_53 : decode cX4_together 53 = .ok (.goto (-35), 3) := by decide +kernel
theorem dX4_together_56 : decode cX4_together 56 = .ok (.iconst 0, 1) := by decide +kernel
theorem dX4_together_57 : decode cX4_together 57 = .ok (.istore_n 3, 1) := by decide +kernel
theorem dX4_together_58 : decode cX4_together 58 = .ok (.iconst 0, 1) := by decide +kernel
theorem dX4_together_59 : decode cX4_together 59 = .ok (.istore 4, 2) := by decide +kernel
theorem dX4_together_61 : decode cX4_together 61 = .ok (.iconst 0, 1) := by decide +kernel
theorem dX4_together_62 : decode cX4_together 62 = .ok (.istore 5, 2) := by decide +kernel
theorem dX4_together_64 : decode cX4_together 64 = .ok (.iload 5, 2) := by decide +kernel
theorem dX4_together_66 : decode cX4_together 66 = .ok (.aload_n 0, 1) := by decide +kernel
theorem dX4_together_67 : decode cX4_together 67 = .ok (.getfield 18, 3) := by decide +kernel
theorem dX4_together_70 : decode cX4_together 70 = .ok (.arraylength, 1) := by decide +kernel
theorem dX4_together_71 : decode cX4_together 71 = .ok (.if_icmp .ge 64, 3) := by decide +kernel
theorem dX4_together_74 : decode cX4_together 74 = .ok (.iload 5, 2) := by decide +kernel
theorem dX4_together_76 : decode cX4_together 76 = .ok (.invokestatic 69, 3) := by decide +kernel
theorem dX4_together_79 : decode cX4_together 79 = .ok (.istore 6, 2) := by decide +kernel
theorem dX4_together_81 : decode cX4_together 81 = .ok (.aload_n 0, 1) := by decide +kernel
theorem dX4_together_82 : decode cX4_together 82 = .ok (.getfield 18, 3) := by decide +kernel
theorem dX4_together_85 : decode cX4_together 85 = .ok (.iload 5, 2) := by decide +kernel
theorem dX4_together_87 : decode cX4_together 87 = .ok (.iaload, 1) := by decide +kernel
theorem dX4_together_88 : decode cX4_together 88 = .ok (.bipush (-4), 2) := by decide +kernel
theorem dX4_together_90 : decode cX4_together 90 = .ok (.if_icmp .eq 39, 3) := by decide +kernel
theorem dX4_together_93 : decode cX4_together 93 = .ok (.iload 6, 2) := by decide +kernel
theorem dX4_together_95 : decode cX4_together 95 = .ok (.iload_n 3, 1) := by decide +kernel
theorem dX4_together_96 : decode cX4_together 96 = .ok (.if_icmp .gt 21, 3) := by decide +kernel
theorem dX4_together_99 : decode cX4_together 99 = .ok (.iload 6, 2) := by decide +kernel
theorem dX4_together_101 : decode cX4_together 101 = .ok (.iload_n 3, 1) := by decide +kernel
theorem dX4_together_102 : decode cX4_together 102 = .ok (.if_icmp .ne 27, 3) := by decide +kernel
theorem dX4_together_105 : decode cX4_together 105 = .ok (.aload_n 0, 1) := by decide +kernel
theorem dX4_together_106 : decode cX4_together 106 = .ok (.getfield 18, 3) := by decide +kernel
theorem dX4_together_109 : decode cX4_together 109 = .ok (.iload 5, 2) := by decide +kernel
theorem dX4_together_111 : decode cX4_together 111 = .ok (.iaload, 1) := by decide +kernel
theorem dX4_together_112 : decode cX4_together 112 = .ok (.iload 4, 2) := by decide +kernel
theorem dX4_together_114 : decode cX4_together 114 = .ok (.if_icmp .ge 15, 3) := by decide +kernel
theorem dX4_together_117 : decode cX4_together 117 = .ok (.iload 6, 2) := by decide +kernel
theorem dX4_together_119 : decode cX4_together 119 = .ok (.istore_n 3, 1) := by decide +kernel
theorem dX4_together_120 : decode cX4_together 120 = .ok (.aload_n 0, 1) := by decide +kernel
theorem dX4_together_121 : decode cX4_together 121 = .ok (.getfield 18, 3) := by decide +kernel
theorem dX4_together_124 : decode cX4_together 124 = .ok (.iload 5, 2) := by decide +kernel
theorem dX4_together_126 : decode cX4_together 126 = .ok (.iaload, 1) := by decide +kernel
theorem dX4_together_127 : decode cX4_together 127 = .ok (.istore 4, 2) := by decide +kernel
theorem dX4_together_129 : decode cX4_together 129 = .ok (.iinc 5 1, 3) := by decide +kernel
theorem dX4_together_132 : decode cX4_together 132 = .ok (.goto (-68), 3) := by decide +kernel
theorem dX4_together_135 : decode cX4_together 135 = .ok (.iload_n 2, 1) := by decide +kernel
theorem dX4_together_136 : decode cX4_together 136 = .ok (.ifCond .eq 8, 3) := by decide +kernel
theorem dX4_together_139 : decode cX4_together 139 = .ok (.iload 4, 2) := by decide +kernel
theorem dX4_together_141 : decode cX4_together 141 = .ok (.goto 4, 3) := by decide +kernel
theorem dX4_together_144 : decode cX4_together 144 = .ok (.iload_n 3, 1) := by decide +kernel
theorem dX4_together_145 : decode cX4_together 145 = .ok (.ireturn, 1) := by decide +kernel
set_option maxRecDepth 20000 in
theorem ggX4_letOneJoin_X11_bit : GoodIn wsX4_letOneJoin wsX11_bit := goodIn_r _ [4] (by decide +kernel) (by decide +kernel)
set_option maxRecDepth 20000 in
theorem gX4_letOneJoin_X11_bit_n88 : GoodIn wsX4_letOneJoin (wsX11_bit) := ggX4_letOneJoin_X11_bit
set_option maxRecDepth 20000 in
theorem ggX4_letOneJoin_X11_has : GoodIn wsX4_letOneJoin wsX11_has := goodIn_r _ [6] (by decide +kernel) (by decide +kernel)
set_option maxRecDepth 20000 in
theorem gX4_letOneJoin_X11_has_n77 : GoodIn wsX4_letOneJoin (wsX11_has) := ggX4_letOneJoin_X11_has
theorem dX4_letOneJoin_0 : decode cX4_letOneJoin 0 = .ok (.aload_n 0, 1) := by decide +kernel
theorem dX4_letOneJoin_1 : decode cX4_letOneJoin 1 = .ok (.getfield 18, 3) := by decide +kernel
theorem dX4_letOneJoin_4 : decode cX4_letOneJoin 4 = .ok (.arraylength, 1) := by decide +kernel
theorem dX4_letOneJoin_5 : decode cX4_letOneJoin 5 = .ok (.iconst 1, 1) := by decide +kernel
theorem dX4_letOneJoin_6 : decode cX4_letOneJoin 6 = .ok (.isub, 1) := by decide +kernel
theorem dX4_letOneJoin_7 : decode cX4_letOneJoin 7 = .ok (.istore_n 3, 1) := by decide +kernel
theorem dX4_letOneJoin_8 : decode cX4_letOneJoin 8 = .ok (.iload_n 3, 1) := by decide +kernel
theorem dX4_letOneJoin_9 : decode cX4_letOneJoin 9 = .ok (.ifCond .lt 118, 3) := by decide +kernel
theorem dX4_letOneJoin_12 : decode cX4_letOneJoin 12 = .ok (.iconst 0, 1) := by decide +kernel
theorem dX4_letOneJoin_13 : decode cX4_letOneJoin 13 = .ok (.istore 4, 2) := by decide +kernel
theorem dX4_letOneJoin_15 : decode cX4_letOneJoin 15 = .ok (.iload 4, 2) := by decide +kernel
theorem dX4_letOneJoin_17 : decode cX4_letOneJoin 17 = .ok (.bipush 9, 2) := by decide +kernel
theorem dX4_letOneJoin_19 : decode cX4_letOneJoin 19 = .ok (.if_icmp .ge 102, 3) := by decide +kernel
theorem dX4_letOneJoin_22 : decode cX4_letOneJoin 22 = .ok (.aload_n 0, 1) := by decide +kernel
theorem dX4_letOneJoin_23 : decode cX4_letOneJoin 23 = .ok (.getfield 18, 3) := by decide +kernel
theorem dX4_letOneJoin_26 : decode cX4_letOneJoin 26 = .ok (.iload_n 3, 1) := by decide +kernel
theorem dX4_letOneJoin_27 : decode cX4_letOneJoin 27 = .ok (.iaload, 1) := by decide +kernel
theorem dX4_letOneJoin_28 : decode cX4_letOneJoin 28 = .ok (.bipush (-4), 2) := by decide +kernel
theorem dX4_letOneJoin_30 : decode cX4_letOneJoin 30 = .ok (.if_icmp .eq 91, 3) := by decide +kernel
theorem dX4_letOneJoin_33 : decode cX4_letOneJoin 33 = .ok (.iload_n 3, 1) := by decide +kernel
theorem dX4_letOneJoin_34 : decode cX4_letOneJoin 34 = .ok (.iload 4, 2) := by decide +kernel
theorem dX4_letOneJoin_36 : decode cX4_letOneJoin 36 = .ok (.invokestatic 88, 3) := by decide +kernel
theorem dX4_letOneJoin_39 : decode cX4_letOneJoin 39 = .ok (.ior, 1) := by decide +kernel
theorem dX4_letOneJoin_40 : decode cX4_letOneJoin 40 = .ok (.istore 5, 2) := by decide +kernel
theorem dX4_letOneJoin_42 : decode cX4_letOneJoin 42 = .ok (.iload_n 1, 1) := by decide +kernel
theorem dX4_letOneJoin_43 : decode cX4_letOneJoin 43 = .ok (.iload 4, 2) := by decide +kernel
theorem dX4_letOneJoin_45 : decode cX4_letOneJoin 45 = .ok (.invokestatic 77, 3) := by decide +kernel
theorem dX4_letOneJoin_48 : decode cX4_letOneJoin 48 = .ok (.ifCond .eq 67, 3) := by decide +kernel
theorem dX4_letOneJoin_51 : decode cX4_letOneJoin 51 = .ok (.iload 5, 2) := by decide +kernel
theorem dX4_letOneJoin_53 : decode cX4_letOneJoin 53 = .ok (.iload_n 3, 1) := by decide +kernel
theorem dX4_letOneJoin_54 : decode cX4_letOneJoin 54 = .ok (.if_icmp .eq 61, 3) := by decide +kernel
theorem dX4_letOneJoin_57 : decode cX4_letOneJoin 57 = .ok (.iload 5, 2) := by decide +kernel
theorem dX4_letOneJoin_59 : decode cX4_letOneJoin 59 = .ok (.aload_n 0, 1) := by decide +kernel
theorem dX4_letOneJoin_60 : decode cX4_letOneJoin 60 = .ok (.getfield 18, 3) := by decide +kernel
theorem dX4_letOneJoin_63 : decode cX4_letOneJoin 63 = .ok (.arraylength, 1) := by decide +kernel
theorem dX4_letOneJoin_64 : decode cX4_letOneJoin 64 = .ok (.if_icmp .lt 6, 3) := by decide +kernel
theorem dX4_letOneJoin_67 : decode cX4_letOneJoin 67 = .ok (.goto 48, 3) := by decide +kernel
theorem dX4_letOneJoin_70 : decode cX4_letOneJoin 70 = .ok (.aload_n 0, 1) := by decide +kernel
theorem dX4_letOneJoin_71 : decode cX4_letOneJoin 71 = .ok (.getfield 18, 3) := by decide +kernel
theorem dX4_letOneJoin_74 : decode cX4_letOneJoin 74 = .ok (.iload 5, 2) := by decide +kernel
theorem dX4_letOneJoin_76 : decode cX4_letOneJoin 76 = .ok (.iaload, 1) := by decide +kernel
theorem dX4_letOneJoin_77 : decode cX4_letOneJoin 77 = .ok (.bipush (-4), 2) := by decide +kernel
theorem dX4_letOneJoin_79 : decode cX4_letOneJoin 79 = .ok (.if_icmp .eq 21, 3) := by decide +kernel
theorem dX4_letOneJoin_82 : decode cX4_letOneJoin 82 = .ok (.aload_n 0, 1) := by decide +kernel
theorem dX4_letOneJoin_83 : decode cX4_letOneJoin 83 = .ok (.getfield 18, 3) := by decide +kernel
theorem dX4_letOneJoin_86 : decode cX4_letOneJoin 86 = .ok (.iload_n 3, 1) := by decide +kernel
theorem dX4_letOneJoin_87 : decode cX4_letOneJoin 87 = .ok (.iaload, 1) := by decide +kernel
theorem dX4_letOneJoin_88 : decode cX4_letOneJoin 88 = .ok (.iload_n 2, 1) := by decide +kernel
theorem dX4_letOneJoin_89 : decode cX4_letOneJoin 89 = .ok (.iadd, 1) := by decide +kernel
theorem dX4_letOneJoin_90 : decode cX4_letOneJoin 90 = .ok (.aload_n 0, 1) := by decide +kernel
theorem dX4_letOneJoin_91 : decode cX4_letOneJoin 91 = .ok (.getfield 18, 3) := by decide +kernel
theorem dX4_letOneJoin_94 : decode cX4_letOneJoin 94 = .ok (.iload 5, 2) := by decide +kernel
theorem dX4_letOneJoin_96 : decode cX4_letOneJoin 96 = .ok (.iaload, 1) := by decide +kernel
theorem dX4_letOneJoin_97 : decode cX4_letOneJoin 97 = .ok (.if_icmp .ge 18, 3) := by decide +kernel
theorem dX4_letOneJoin_100 : decode cX4_letOneJoin 100 = .ok (.aload_n 0, 1) := by decide +kernel
theorem dX4_letOneJoin_101 : decode cX4_letOneJoin 101 = .ok (.getfield 18, 3) := by decide +kernel
theorem dX4_letOneJoin_104 : decode cX4_letOneJoin 104 = .ok (.iload 5, 2) := by decide +kernel
theorem dX4_letOneJoin_106 : decode cX4_letOneJoin 106 = .ok (.aload_n 0, 1) := by decide +kernel
theorem dX4_letOneJoin_107 : decode cX4_letOneJoin 107 = .ok (.getfield 18, 3) := by decide +kernel
theorem dX4_letOneJoin_110 : decode cX4_letOneJoin 110 = .ok (.iload_n 3, 1) := by decide +kernel
theorem dX4_letOneJoin_111 : decode cX4_letOneJoin 111 = .ok (.iaload, 1) := by decide +kernel
theorem dX4_letOneJoin_112 : decode cX4_letOneJoin 112 = .ok (.iload_n 2, 1) := by decide +kernel
theorem dX4_letOneJoin_113 : decode cX4_letOneJoin 113 = .ok (.iadd, 1) := by decide +kernel
theorem dX4_letOneJoin_114 : decode cX4_letOneJoin 114 = .ok (.iastore, 1) := by decide +kernel
theorem dX4_letOneJoin_115 : decode cX4_letOneJoin 115 = .ok (.iinc 4 1, 3) := by decide +kernel
theorem dX4_letOneJoin_118 : decode cX4_letOneJoin 118 = .ok (.goto (-103), 3) := by decide +kernel
theorem dX4_letOneJoin_121 : decode cX4_letOneJoin 121 = .ok (.iinc 3 (-1), 3) := by decide +kernel
theorem dX4_letOneJoin_124 : decode cX4_letOneJoin 124 = .ok (.goto (-116), 3) := by decide +kernel
theorem dX4_letOneJoin_127 : decode cX4_letOneJoin 127 = .ok (.return_, 1) := by decide +kernel
set_option maxRecDepth 20000 in
theorem ggX5_init_X2_init : GoodIn wsX5_init wsX2_init := goodIn_r _ [4, 5, 6, 7, 8, 9, 10, 11, 12, 13, 14, 15, 16, 17, 18, 19, 20, 21, 22, 23, 24, 25] (by decide +kernel) (by decide +kernel)
set_option maxRecDepth 20000 in
theorem gX5_init_X2_init : GoodIn wsX5_init (wsX2_init) := ggX5_init_X2_init
theorem dX5_init_0 : decode cX5_init 0 = .ok (.aload_n 0, 1) := by decide +kernel
theorem dX5_init_1 : decode cX5_init 1 = .ok (.iload_n 1, 1) := by decide +kernel
theorem dX5_init_2 : decode cX5_init 2 = .ok (.iload_n 2, 1) := by decide +kernel
theorem dX5_init_3 : decode cX5_init 3 = .ok (.invokespecial 1, 3) := by decide +kernel
theorem dX5_init_6 : decode cX5_init 6 = .ok (.return_, 1) := by decide +kernel
set_option maxRecDepth 20000 in
theorem ggX5_mayDispute_X2_mayDispute : GoodIn wsX5_mayDispute wsX2_mayDispute := goodIn_r _ [8, 9, 10, 11] (by decide +kernel) (by decide +kernel)
set_option maxRecDepth 20000 in
theorem gX5_mayDispute_X2_mayDispute_s7 : GoodIn wsX5_mayDispute (va_wsSU RX5 7 yX2_mayDispute wsX2_mayDispute) := goodIn_app (goodIn_of _ (by decide +kernel)) ggX5_mayDispute_X2_mayDispute
theorem dX5_mayDispute_0 : decode cX5_mayDispute 0 = .ok (.aload_n 0, 1) := by decide +kernel
theorem dX5_mayDispute_1 : decode cX5_mayDispute 1 = .ok (.iload_n 1, 1) := by decide +kernel
theorem dX5_mayDispute_2 : decode cX5_mayDispute 2 = .ok (.iload_n 2, 1) := by decide +kernel
theorem dX5_mayDispute_3 : decode cX5_mayDispute 3 = .ok (.iload_n 3, 1) := by decide +kernel
theorem dX5_mayDispute_4 : decode cX5_mayDispute 4 = .ok (.iload 4, 2) := by decide +kernel
theorem dX5_mayDispute_6 : decode cX5_mayDispute 6 = .ok (.invokespecial 7, 3) := by decide +kernel
theorem dX5_mayDispute_9 : decode cX5_mayDispute 9 = .ok (.ifCond .eq 15, 3) := by decide +kernel
theorem dX5_mayDispute_12 : decode cX5_mayDispute 12 = .ok (.iload_n 1, 1) := by decide +kernel
theorem dX5_mayDispute_13 : decode cX5_mayDispute 13 = .ok (.aload_n 0, 1) := by decide +kernel
theorem dX5_mayDispute_14 : decode cX5_mayDispute 14 = .ok (.getfield 11, 3) := by decide +kernel
theorem dX5_mayDispute_17 : decode cX5_mayDispute 17 = .ok (.if_icmp .eq 7, 3) := by decide +kernel
theorem dX5_mayDispute_20 : decode cX5_mayDispute 20 = .ok (.iconst 1, 1) := by decide +kernel
theorem dX5_mayDispute_21 : decode cX5_mayDispute 21 = .ok (.goto 4, 3) := by decide +kernel
theorem dX5_mayDispute_24 : decode cX5_mayDispute 24 = .ok (.iconst 0, 1) := by decide +kernel
theorem dX5_mayDispute_25 : decode cX5_mayDispute 25 = .ok (.ireturn, 1) := by decide +kernel
set_option maxRecDepth 20000 in
theorem ggX5_effort_X2_effort : GoodIn wsX5_effort wsX2_effort := goodIn_r _ [8] (by decide +kernel) (by decide +kernel)
set_option maxRecDepth 20000 in
theorem gX5_effort_X2_effort_s17 : GoodIn wsX5_effort (va_wsSU RX5 17 yX2_effort wsX2_effort) := goodIn_app (goodIn_of _ (by decide +kernel)) ggX5_effort_X2_effort
theorem dX5_effort_0 : decode cX5_effort 0 = .ok (.aload_n 0, 1) := by decide +kernel
theorem dX5_effort_1 : decode cX5_effort 1 = .ok (.iload_n 1, 1) := by decide +kernel
theorem dX5_effort_2 : decode cX5_effort 2 = .ok (.invokespecial 17, 3) := by decide +kernel
theorem dX5_effort_5 : decode cX5_effort 5 = .ok (.aload_n 0, 1) := by decide +kernel
theorem dX5_effort_6 : decode cX5_effort 6 = .ok (.getfield 11, 3) := by decide +kernel
theorem dX5_effort_9 : decode cX5_effort 9 = .ok (.iadd, 1) := by decide +kernel
theorem dX5_effort_10 : decode cX5_effort 10 = .ok (.ireturn, 1) := by decide +kernel
set_option maxRecDepth 20000 in
theorem ggX5_asks_X2_asks : GoodIn wsX5_asks wsX2_asks := goodIn_r _ [8] (by decide +kernel) (by decide +kernel)
set_option maxRecDepth 20000 in
theorem gX5_asks_X2_asks_s21 : GoodIn wsX5_asks (va_wsSU RX5 21 yX2_asks wsX2_asks) := goodIn_app (goodIn_of _ (by decide +kernel)) ggX5_asks_X2_asks
theorem dX5_asks_0 : decode cX5_asks 0 = .ok (.aload_n 0, 1) := by decide +kernel
theorem dX5_asks_1 : decode cX5_asks 1 = .ok (.invokespecial 21, 3) := by decide +kernel
theorem dX5_asks_4 : decode cX5_asks 4 = .ok (.aload_n 0, 1) := by decide +kernel
theorem dX5_asks_5 : decode cX5_asks 5 = .ok (.getfield 11, 3) := by decide +kernel
theorem dX5_asks_8 : decode cX5_asks 8 = .ok (.iconst 1, 1) := by decide +kernel
theorem dX5_asks_9 : decode cX5_asks 9 = .ok (.iadd, 1) := by decide +kernel
theorem dX5_asks_10 : decode cX5_asks 10 = .ok (.imul, 1) := by decide +kernel
theorem dX5_asks_11 : decode cX5_asks 11 = .ok (.ireturn, 1) := by decide +kernel
set_option maxRecDepth 20000 in
theorem ggX6_init_X3_init : GoodIn wsX6_init wsX3_init := goodIn_r _ [4, 5, 6, 7, 8, 9, 10, 11, 12, 13, 14, 15, 16, 17, 18, 19, 20, 21, 22, 23, 24, 25, 26, 27, 28, 29] (by decide +kernel) (by decide +kernel)
set_option maxRecDepth 20000 in
theorem gX6_init_X3_init : GoodIn wsX6_init (wsX3_init) := ggX6_init_X3_init
theorem dX6_init_0 : decode cX6_init 0 = .ok (.aload_n 0, 1) := by decide +kernel
theorem dX6_init_1 : decode cX6_init 1 = .ok (.iload_n 1, 1) := by decide +kernel
theorem dX6_init_2 : decode cX6_init 2 = .ok (.iload_n 2, 1) := by decide +kernel
theorem dX6_init_3 : decode cX6_init 3 = .ok (.invokespecial 1, 3) := by decide +kernel
theorem dX6_init_6 : decode cX6_init 6 = .ok (.return_, 1) := by decide +kernel
set_option maxRecDepth 20000 in
theorem ggX6_mayDispute_X3_mayDispute : GoodIn wsX6_mayDispute wsX3_mayDispute := goodIn_r _ [8, 9, 10, 11] (by decide +kernel) (by decide +kernel)
set_option maxRecDepth 20000 in
theorem gX6_mayDispute_X3_mayDispute_s7 : GoodIn wsX6_mayDispute (va_wsSU RX6 7 yX3_mayDispute wsX3_mayDispute) := goodIn_app (goodIn_of _ (by decide +kernel)) ggX6_mayDispute_X3_mayDispute
theorem dX6_mayDispute_0 : decode cX6_mayDispute 0 = .ok (.aload_n 0, 1) := by decide +kernel
theorem dX6_mayDispute_1 : decode cX6_mayDispute 1 = .ok (.iload_n 1, 1) := by decide +kernel
theorem dX6_mayDispute_2 : decode cX6_mayDispute 2 = .ok (.iload_n 2, 1) := by decide +kernel
theorem dX6_mayDispute_3 : decode cX6_mayDispute 3 = .ok (.iload_n 3, 1) := by decide +kernel
theorem dX6_mayDispute_4 : decode cX6_mayDispute 4 = .ok (.iload 4, 2) := by decide +kernel
theorem dX6_mayDispute_6 : decode cX6_mayDispute 6 = .ok (.invokespecial 7, 3) := by decide +kernel
theorem dX6_mayDispute_9 : decode cX6_mayDispute 9 = .ok (.ifCond .eq 15, 3) := by decide +kernel
theorem dX6_mayDispute_12 : decode cX6_mayDispute 12 = .ok (.iload_n 1, 1) := by decide +kernel
theorem dX6_mayDispute_13 : decode cX6_mayDispute 13 = .ok (.aload_n 0, 1) := by decide +kernel
theorem dX6_mayDispute_14 : decode cX6_mayDispute 14 = .ok (.getfield 11, 3) := by decide +kernel
theorem dX6_mayDispute_17 : decode cX6_mayDispute 17 = .ok (.if_icmp .gt 7, 3) := by decide +kernel
theorem dX6_mayDispute_20 : decode cX6_mayDispute 20 = .ok (.iconst 1, 1) := by decide +kernel
theorem dX6_mayDispute_21 : decode cX6_mayDispute 21 = .ok (.goto 4, 3) := by decide +kernel
theorem dX6_mayDispute_24 : decode cX6_mayDispute 24 = .ok (.iconst 0, 1) := by decide +kernel
theorem dX6_mayDispute_25 : decode cX6_mayDispute 25 = .ok (.ireturn, 1) := by decide +kernel
set_option maxRecDepth 20000 in
theorem ggX6_effort_X3_effort : GoodIn wsX6_effort wsX3_effort := goodIn_r _ [6, 7, 8, 9, 10, 11, 12] (by decide +kernel) (by decide +kernel)
set_option maxRecDepth 20000 in
theorem gX6_effort_X3_effort_s17 : GoodIn wsX6_effort (va_wsSU RX6 17 yX3_effort wsX3_effort) := goodIn_app (goodIn_of _ (by decide +kernel)) ggX6_effort_X3_effort
theorem dX6_effort_0 : decode cX6_effort 0 = .ok (.aload_n 0, 1) := by decide +kernel
theorem dX6_effort_1 : decode cX6_effort 1 = .ok (.iload_n 1, 1) := by decide +kernel
theorem dX6_effort_2 : decode cX6_effort 2 = .ok (.invokespecial 17, 3) := by decide +kernel
theorem dX6_effort_5 : decode cX6_effort 5 = .ok (.iconst 1, 1) := by decide +kernel
theorem dX6_effort_6 : decode cX6_effort 6 = .ok (.isub, 1) := by decide +kernel
theorem dX6_effort_7 : decode cX6_effort 7 = .ok (.ireturn, 1) := by decide +kernel
set_option maxRecDepth 20000 in
theorem ggX6_asks_X3_asks : GoodIn wsX6_asks wsX3_asks := goodIn_r _ [6, 7, 8, 9, 10, 11, 12] (by decide +kernel) (by decide +kernel)
set_option maxRecDepth 20000 in
theorem gX6_asks_X3_asks_s21 : GoodIn wsX6_asks (va_wsSU RX6 21 yX3_asks wsX3_asks) := goodIn_app (goodIn_of _ (by decide +kernel)) ggX6_asks_X3_asks
theorem dX6_asks_0 : decode cX6_asks 0 = .ok (.aload_n 0, 1) := by decide +kernel
theorem dX6_asks_1 : decode cX6_asks 1 = .ok (.invokespecial 21, 3) := by decide +kernel
theorem dX6_asks_4 : decode cX6_asks 4 = .ok (.iconst 5, 1) := by decide +kernel
theorem dX6_asks_5 : decode cX6_asks 5 = .ok (.iadd, 1) := by decide +kernel
theorem dX6_asks_6 : decode cX6_asks 6 = .ok (.ireturn, 1) := by decide +kernel
theorem dX6_fail_0 : decode cX6_fail 0 = .ok (.aload_n 0, 1) := by decide +kernel
theorem dX6_fail_1 : decode cX6_fail 1 = .ok (.getfield 11, 3) := by decide +kernel
theorem dX6_fail_4 : decode cX6_fail 4 = .ok (.ifCond .eq 13, 3) := by decide +kernel
theorem dX6_fail_7 : decode cX6_fail 7 = .ok (.new 25, 3) := by decide +kernel
theorem dX6_fail_10 : decode cX6_fail 10 = .ok (.dup, 1) := by decide +kernel
theorem dX6_fail_11 : decode cX6_fail 11 = .ok (.ldc 27, 2) := by decide +kernel
theorem dX6_fail_13 : decode cX6_fail 13 = .ok (.invokespecial 29, 3) := by decide +kernel
theorem dX6_fail_16 : decode cX6_fail 16 = .ok (.athrow, 1) := by decide +kernel
theorem dX6_fail_17 : decode cX6_fail 17 = .ok (.return_, 1) := by decide +kernel
set_option maxRecDepth 20000 in
theorem ggX7_init_X10_init : GoodIn wsX7_init wsX10_init := goodIn_r _ [4, 5, 6, 7, 8, 9, 10, 11, 12, 13, 14, 15, 16, 17, 18, 19, 20, 21, 22, 23, 24, 25, 26, 27, 28, 29] (by decide +kernel) (by decide +kernel)
set_option maxRecDepth 20000 in
theorem gX7_init_X10_init : GoodIn wsX7_init (wsX10_init) := ggX7_init_X10_init
theorem dX7_init_0 : decode cX7_init 0 = .ok (.aload_n 0, 1) := by decide +kernel
theorem dX7_init_1 : decode cX7_init 1 = .ok (.iload_n 1, 1) := by decide +kernel
theorem dX7_init_2 : decode cX7_init 2 = .ok (.iload_n 2, 1) := by decide +kernel
theorem dX7_init_3 : decode cX7_init 3 = .ok (.invokespecial 1, 3) := by decide +kernel
theorem dX7_init_6 : decode cX7_init 6 = .ok (.return_, 1) := by decide +kernel
set_option maxRecDepth 20000 in
theorem ggX7_mayDispute_X10_mayDispute : GoodIn wsX7_mayDispute wsX10_mayDispute := goodIn_r _ [8, 9, 10, 11, 12, 13, 14, 15, 16, 17, 18, 19] (by decide +kernel) (by decide +kernel)
set_option maxRecDepth 20000 in
theorem gX7_mayDispute_X10_mayDispute_s7 : GoodIn wsX7_mayDispute (va_wsSU RX7 7 yX10_mayDispute wsX10_mayDispute) := goodIn_app (goodIn_of _ (by decide +kernel)) ggX7_mayDispute_X10_mayDispute
set_option maxRecDepth 20000 in
theorem ggX7_mayDispute_X11_has : GoodIn wsX7_mayDispute wsX11_has := goodIn_r _ [17] (by decide +kernel) (by decide +kernel)
set_option maxRecDepth 20000 in
theorem gX7_mayDispute_X11_has_n17 : GoodIn wsX7_mayDispute (wsX11_has) := ggX7_mayDispute_X11_has
theorem dX7_mayDispute_0 : decode cX7_mayDispute 0 = .ok (.aload_n 0, 1) := by decide +kernel
theorem dX7_mayDispute_1 : decode cX7_mayDispute 1 = .ok (.iload_n 1, 1) := by decide +kernel
theorem dX7_mayDispute_2 : decode cX7_mayDispute 2 = .ok (.iload_n 2, 1) := by decide +kernel
theorem dX7_mayDispute_3 : decode cX7_mayDispute 3 = .ok (.iload_n 3, 1) := by decide +kernel
theorem dX7_mayDispute_4 : decode cX7_mayDispute 4 = .ok (.iload 4, 2) := by decide +kernel
theorem dX7_mayDispute_6 : decode cX7_mayDispute 6 = .ok (.invokespecial 7, 3) := by decide +kernel
theorem dX7_mayDispute_9 : decode cX7_mayDispute 9 = .ok (.ifCond .ne 19, 3) := by decide +kernel
theorem dX7_mayDispute_12 : decode cX7_mayDispute 12 = .ok (.iload_n 1, 1) := by decide +kernel
theorem dX7_mayDispute_13 : decode cX7_mayDispute 13 = .ok (.aload_n 0, 1) := by decide +kernel
theorem dX7_mayDispute_14 : decode cX7_mayDispute 14 = .ok (.getfield 11, 3) := by decide +kernel
theorem dX7_mayDispute_17 : decode cX7_mayDispute 17 = .ok (.if_icmp .ne 15, 3) := by decide +kernel
theorem dX7_mayDispute_20 : decode cX7_mayDispute 20 = .ok (.iload_n 2, 1) := by decide +kernel
theorem dX7_mayDispute_21 : decode cX7_mayDispute 21 = .ok (.iload_n 1, 1) := by decide +kernel
theorem dX7_mayDispute_22 : decode cX7_mayDispute 22 = .ok (.invokestatic 17, 3) := by decide +kernel
theorem dX7_mayDispute_25 : decode cX7_mayDispute 25 = .ok (.ifCond .ne 7, 3) := by decide +kernel
theorem dX7_mayDispute_28 : decode cX7_mayDispute 28 = .ok (.iconst 1, 1) := by decide +kernel
theorem dX7_mayDispute_29 : decode cX7_mayDispute 29 = .ok (.goto 4, 3) := by decide +kernel
theorem dX7_mayDispute_32 : decode cX7_mayDispute 32 = .ok (.iconst 0, 1) := by decide +kernel
theorem dX7_mayDispute_33 : decode cX7_mayDispute 33 = .ok (.ireturn, 1) := by decide +kernel
set_option maxRecDepth 20000 in
theorem ggX7_effort_X10_effort : GoodIn wsX7_effort wsX10_effort := goodIn_r _ [8] (by decide +kernel) (by decide +kernel)
set_option maxRecDepth 20000 in
theorem gX7_effort_X10_effort_s23 : GoodIn wsX7_effort (va_wsSU RX7 23 yX10_effort wsX10_effort) := goodIn_app (goodIn_of _ (by decide +kernel)) ggX7_effort_X10_effort
theorem dX7_effort_0 : decode cX7_effort 0 = .ok (.aload_n 0, 1) := by decide +kernel
theorem dX7_effort_1 : decode cX7_effort 1 = .ok (.iload_n 1, 1) := by decide +kernel
theorem dX7_effort_2 : decode cX7_effort 2 = .ok (.invokespecial 23, 3) := by decide +kernel
theorem dX7_effort_5 : decode cX7_effort 5 = .ok (.aload_n 0, 1) := by decide +kernel
theorem dX7_effort_6 : decode cX7_effort 6 = .ok (.getfield 11, 3) := by decide +kernel
theorem dX7_effort_9 : decode cX7_effort 9 = .ok (.iadd, 1) := by decide +kernel
theorem dX7_effort_10 : decode cX7_effort 10 = .ok (.ireturn, 1) := by decide +kernel
set_option maxRecDepth 20000 in
theorem ggX7_asks_X10_asks : GoodIn wsX7_asks wsX10_asks := goodIn_r _ [6, 7, 8, 9, 10, 11, 12, 13, 14, 15, 16, 17, 18, 19, 20, 21, 22, 23, 24, 25, 26, 27, 28, 29, 30] (by decide +kernel) (by decide +kernel)
set_option maxRecDepth 20000 in
theorem gX7_asks_X10_asks_s27 : GoodIn wsX7_asks (va_wsSU RX7 27 yX10_asks wsX10_asks) := goodIn_app (goodIn_of _ (by decide +kernel)) ggX7_asks_X10_asks
theorem dX7_asks_0 : decode cX7_asks 0 = .ok (.aload_n 0, 1) := by decide +kernel
theorem dX7_asks_1 : decode cX7_asks 1 = .ok (.invokespecial 27, 3) := by decide +kernel
theorem dX7_asks_4 : decode cX7_asks 4 = .ok (.iconst 2, 1) := by decide +kernel
theorem dX7_asks_5 : decode cX7_asks 5 = .ok (.isub, 1) := by decide +kernel
theorem dX7_asks_6 : decode cX7_asks 6 = .ok (.ireturn, 1) := by decide +kernel
theorem dX7_fail_0 : decode cX7_fail 0 = .ok (.aload_n 0, 1) := by decide +kernel
theorem dX7_fail_1 : decode cX7_fail 1 = .ok (.getfield 11, 3) := by decide +kernel
theorem dX7_fail_4 : decode cX7_fail 4 = .ok (.ifCond .eq 13, 3) := by decide +kernel
theorem dX7_fail_7 : decode cX7_fail 7 = .ok (.new 31, 3) := by decide +kernel
theorem dX7_fail_10 : decode cX7_fail 10 = .ok (.dup, 1) := by decide +kernel
theorem dX7_fail_11 : decode cX7_fail 11 = .ok (.ldc 33, 2) := by decide +kernel
theorem dX7_fail_13 : decode cX7_fail 13 = .ok (.invokespecial 35, 3) := by decide +kernel
theorem dX7_fail_16 : decode cX7_fail 16 = .ok (.athrow, 1) := by decide +kernel
theorem dX7_fail_17 : decode cX7_fail 17 = .ok (.return_, 1) := by decide +kernel
theorem dX8_init_0 : decode cX8_init 0 = .ok (.aload_n 0, 1) := by decide +kernel
theorem dX8_init_1 : decode cX8_init 1 = .ok (.invokespecial 3, 3) := by decide +kernel
theorem dX8_init_4 : decode cX8_init 4 = .ok (.aload_n 0, 1) := by decide +kernel
theorem dX8_init_5 : decode cX8_init 5 = .ok (.iload_n 1, 1) := by decide +kernel
theorem dX8_init_6 : decode cX8_init 6 = .ok (.putfield 9, 3) := by decide +kernel
theorem dX8_init_9 : decode cX8_init 9 = .ok (.aload_n 0, 1) := by decide +kernel
theorem dX8_init_10 : decode cX8_init 10 = .ok (.aload_n 2, 1) := by decide +kernel
theorem dX8_init_11 : decode cX8_init 11 = .ok (.putfield 15, 3) := by decide +kernel
theorem dX8_init_14 : decode cX8_init 14 = .ok (.return_, 1) := by decide +kernel
theorem dX8_isOf_0 : decode cX8_isOf 0 = .ok (.aload_n 0, 1) := by decide +kernel
theorem dX8_isOf_1 : decode cX8_isOf 1 = .ok (.getfield 9, 3) := by decide +kernel
theorem dX8_isOf_4 : decode cX8_isOf 4 = .ok (.iload_n 1, 1) := by decide +kernel
theorem dX8_isOf_5 : decode cX8_isOf 5 = .ok (.if_icmp .ne 7, 3) := by decide +kernel
theorem dX8_isOf_8 : decode cX8_isOf 8 = .ok (.iconst 1, 1) := by decide +kernel
theorem dX8_isOf_9 : decode cX8_isOf 9 = .ok (.goto 4, 3) := by decide +kernel
theorem dX8_isOf_12 : decode cX8_isOf 12 = .ok (.iconst 0, 1) := by decide +kernel
theorem dX8_isOf_13 : decode cX8_isOf 13 = .ok (.ireturn, 1) := by decide +kernel
theorem dX8_size_0 : decode cX8_size 0 = .ok (.aload_n 0, 1) := by decide +kernel
theorem dX8_size_1 : decode cX8_size 1 = .ok (.getfield 15, 3) := by decide +kernel
theorem dX8_size_4 : decode cX8_size 4 = .ok (.arraylength, 1) := by decide +kernel
theorem dX8_size_5 : decode cX8_size 5 = .ok (.ireturn, 1) := by decide +kernel
theorem dX8_hasPlace_0 : decode cX8_hasPlace 0 = .ok (.iload_n 1, 1) := by decide +kernel
theorem dX8_hasPlace_1 : decode cX8_hasPlace 1 = .ok (.ifCond .lt 16, 3) := by decide +kernel
theorem dX8_hasPlace_4 : decode cX8_hasPlace 4 = .ok (.iload_n 1, 1) := by decide +kernel
theorem dX8_hasPlace_5 : decode cX8_hasPlace 5 = .ok (.aload_n 0, 1) := by decide +kernel
theorem dX8_hasPlace_6 : decode cX8_hasPlace 6 = .ok (.getfield 15, 3) := by decide +kernel
theorem dX8_hasPlace_9 : decode cX8_hasPlace 9 = .ok (.arraylength, 1) := by decide +kernel
theorem dX8_hasPlace_10 : decode cX8_hasPlace 10 = .ok (.if_icmp .ge 7, 3) := by decide +kernel
theorem dX8_hasPlace_13 : decode cX8_hasPlace 13 = .ok (.iconst 1, 1) := by decide +kernel
theorem dX8_hasPlace_14 : decode cX8_hasPlace 14 = .ok (.goto 4, 3) := by decide +kernel
theorem dX8_hasPlace_17 : decode cX8_hasPlace 17 = .ok (.iconst 0, 1) := by decide +kernel
theorem dX8_hasPlace_18 : decode cX8_hasPlace 18 = .ok (.ireturn, 1) := by decide +kernel
theorem dX8_hasStretch_0 : decode cX8_hasStretch 0 = .ok (.iload_n 2, 1) := by decide +kernel
theorem dX8_hasStretch_1 : decode cX8_hasStretch 1 = .ok (.ifCond .lt 31, 3) := by decide +kernel
theorem dX8_hasStretch_4 : decode cX8_hasStretch 4 = .ok (.iload_n 1, 1) := by decide +kernel
theorem dX8_hasStretch_5 : decode cX8_hasStretch 5 = .ok (.ifCond .lt 27, 3) := by decide +kernel
theorem dX8_hasStretch_8 : decode cX8_hasStretch 8 = .ok (.iload_n 1, 1) := by decide +kernel
theorem dX8_hasStretch_9 : decode cX8_hasStretch 9 = .ok (.aload_n 0, 1) := by decide +kernel
theorem dX8_hasStretch_10 : decode cX8_hasStretch 10 = .ok (.getfield 15, 3) := by decide +kernel
theorem dX8_hasStretch_13 : decode cX8_hasStretch 13 = .ok (.arraylength, 1) := by decide +kernel
theorem dX8_hasStretch_14 : decode cX8_hasStretch 14 = .ok (.if_icmp .gt 18, 3) := by decide +kernel
theorem dX8_hasStretch_17 : decode cX8_hasStretch 17 = .ok (.iload_n 2, 1) := by decide +kernel
theorem dX8_hasStretch_18 : decode cX8_hasStretch 18 = .ok (.aload_n 0, 1) := by decide +kernel
theorem dX8_hasStretch_19 : decode cX8_hasStretch 19 = .ok (.getfield 15, 3) := by decide +kernel
theorem dX8_hasStretch_22 : decode cX8_hasStretch 22 = .ok (.arraylength, 1) := by decide +kernel
theorem dX8_hasStretch_23 : decode cX8_hasStretch 23 = .ok (.iload_n 1, 1) := by decide +kernel
theorem dX8_hasStretch_24 : decode cX8_hasStretch 24 = .ok (.isub, 1) := by decide +kernel
theorem dX8_hasStretch_25 : decode cX8_hasStretch 25 = .ok (.if_icmp .gt 7, 3) := by decide +kernel
theorem dX8_hasStretch_28 : decode cX8_hasStretch 28 = .ok (.iconst 1, 1) := by decide +kernel
theorem dX8_hasStretch_29 : decode cX8_hasStretch 29 = .ok (.goto 4, 3) := by decide +kernel
theorem dX8_hasStretch_32 : decode cX8_hasStretch 32 = .ok (.iconst 0, 1) := by decide +kernel
theorem dX8_hasStretch_33 : decode cX8_hasStretch 33 = .ok (.ireturn, 1) := by decide +kernel
theorem dX8_at_0 : decode cX8_at 0 = .ok (.iload_n 1, 1) := by decide +kernel
theorem dX8_at_1 : decode cX8_at 1 = .ok (.ifCond .lt 21, 3) := by decide +kernel
theorem dX8_at_4 : decode cX8_at 4 = .ok (.iload_n 1, 1) := by decide +kernel
theorem dX8_at_5 : decode cX8_at 5 = .ok (.aload_n 0, 1) := by decide +kernel
theorem dX8_at_6 : decode cX8_at 6 = .ok (.getfield 15, 3) := by decide +kernel
theorem dX8_at_9 : decode cX8_at 9 = .ok (.arraylength, 1) := by decide +kernel
theorem dX8_at_10 : decode cX8_at 10 = .ok (.if_icmp .ge 12, 3) := by decide +kernel
theorem dX8_at_13 : decode cX8_at 13 = .ok (.aload_n 0, 1) := by decide +kernel
theorem dX8_at_14 : decode cX8_at 14 = .ok (.getfield 15, 3) := by decide +kernel
theorem dX8_at_17 : decode cX8_at 17 = .ok (.iload_n 1, 1) := by decide +kernel
theorem dX8_at_18 : decode cX8_at 18 = .ok (.iaload, 1) := by decide +kernel
theorem dX8_at_19 : decode cX8_at 19 = .ok (.goto 4, 3) := by decide +kernel
theorem dX8_at_22 : decode cX8_at 22 = .ok (.iconst 0, 1) := by decide +kernel
theorem dX8_at_23 : decode cX8_at 23 = .ok (.ireturn, 1) := by decide +kernel
set_option maxRecDepth 20000 in
theorem ggX8_store_X8_cut : GoodIn wsX8_store wsX8_cut := goodIn_r _ [6, 7, 8, 9] (by decide +kernel) (by decide +kernel)
set_option maxRecDepth 20000 in
theorem gX8_store_X8_cut : GoodIn wsX8_store (wsV RX8 19 RX8 yX8_cut wsX8_cut) := goodIn_app (goodIn_of _ (by decide +kernel)) ggX8_store_X8_cut
theorem dX8_store_0 : decode cX8_store 0 = .ok (.iload_n 1, 1) := by decide +kernel
theorem dX8_store_1 : decode cX8_store 1 = .ok (.ifCond .lt 23, 3) := by decide +kernel
theorem dX8_store_4 : decode cX8_store 4 = .ok (.iload_n 1, 1) := by decide +kernel
theorem dX8_store_5 : decode cX8_store 5 = .ok (.aload_n 0, 1) := by decide +kernel
theorem dX8_store_6 : decode cX8_store 6 = .ok (.getfield 15, 3) := by decide +kernel
theorem dX8_store_9 : decode cX8_store 9 = .ok (.arraylength, 1) := by decide +kernel
theorem dX8_store_10 : decode cX8_store 10 = .ok (.if_icmp .ge 14, 3) := by decide +kernel
theorem dX8_store_13 : decode cX8_store 13 = .ok (.aload_n 0, 1) := by decide +kernel
theorem dX8_store_14 : decode cX8_store 14 = .ok (.getfield 15, 3) := by decide +kernel
theorem dX8_store_17 : decode cX8_store 17 = .ok (.iload_n 1, 1) := by decide +kernel
theorem dX8_store_18 : decode cX8_store 18 = .ok (.aload_n 0, 1) := by decide +kernel
theorem dX8_store_19 : decode cX8_store 19 = .ok (.iload_n 2, 1) := by decide +kernel
theorem dX8_store_20 : decode cX8_store 20 = .ok (.invokevirtual 19, 3) := by decide +kernel
theorem dX8_store_23 : decode cX8_store 23 = .ok (.iastore, 1) := by decide +kernel
theorem dX8_store_24 : decode cX8_store 24 = .ok (.return_, 1) := by decide +kernel
theorem dX8_cut_0 : decode cX8_cut 0 = .ok (.aload_n 0, 1) := by decide +kernel
theorem dX8_cut_1 : decode cX8_cut 1 = .ok (.getfield 9, 3) := by decide +kernel
theorem dX8_cut_4 : decode cX8_cut 4 = .ok (.ifCond .ne 6, 3) := by decide +kernel
theorem dX8_cut_7 : decode cX8_cut 7 = .ok (.iload_n 1, 1) := by decide +kernel
theorem dX8_cut_8 : decode cX8_cut 8 = .ok (.i2b, 1) := by decide +kernel
theorem dX8_cut_9 : decode cX8_cut 9 = .ok (.ireturn, 1) := by decide +kernel
theorem dX8_cut_10 : decode cX8_cut 10 = .ok (.aload_n 0, 1) := by decide +kernel
theorem dX8_cut_11 : decode cX8_cut 11 = .ok (.getfield 9, 3) := by decide +kernel
theorem dX8_cut_14 : decode cX8_cut 14 = .ok (.iconst 1, 1) := by decide +kernel
theorem dX8_cut_15 : decode cX8_cut 15 = .ok (.if_icmp .ne 8, 3) := by decide +kernel
theorem dX8_cut_18 : decode cX8_cut 18 = .ok (.iload_n 1, 1) := by decide +kernel
theorem dX8_cut_19 : decode cX8_cut 19 = .ok (.i2s, 1) := by decide +kernel
theorem dX8_cut_20 : decode cX8_cut 20 = .ok (.goto 4, 3) := by decide +kernel
theorem dX8_cut_23 : decode cX8_cut 23 = .ok (.iload_n 1, 1) := by decide +kernel
theorem dX8_cut_24 : decode cX8_cut 24 = .ok (.ireturn, 1) := by decide +kernel
theorem dX9_init_0 : decode cX9_init 0 = .ok (.aload_n 0, 1) := by decide +kernel
theorem dX9_init_1 : decode cX9_init 1 = .ok (.invokespecial 3, 3) := by decide +kernel
theorem dX9_init_4 : decode cX9_init 4 = .ok (.aload_n 0, 1) := by decide +kernel
theorem dX9_init_5 : decode cX9_init 5 = .ok (.bipush 9, 2) := by decide +kernel
theorem dX9_init_7 : decode cX9_init 7 = .ok (.newarray .int, 2) := by decide +kernel
theorem dX9_init_9 : decode cX9_init 9 = .ok (.putfield 9, 3) := by decide +kernel
theorem dX9_init_12 : decode cX9_init 12 = .ok (.aload_n 0, 1) := by decide +kernel
theorem dX9_init_13 : decode cX9_init 13 = .ok (.bipush 9, 2) := by decide +kernel
theorem dX9_init_15 : decode cX9_init 15 = .ok (.newarray .int, 2) := by decide +kernel
theorem dX9_init_17 : decode cX9_init 17 = .ok (.putfield 15, 3) := by decide +kernel
theorem dX9_init_20 : decode cX9_init 20 = .ok (.aload_n 0, 1) := by decide +kernel
theorem dX9_init_21 : decode cX9_init 21 = .ok (.bipush 9, 2) := by decide +kernel
theorem dX9_init_23 : decode cX9_init 23 = .ok (.newarray .int, 2) := by decide +kernel
theorem dX9_init_25 : decode cX9_init 25 = .ok (.putfield 18, 3) := by decide +kernel
theorem dX9_init_28 : decode cX9_init 28 = .ok (.aload_n 0, 1) := by decide +kernel
theorem dX9_init_29 : decode cX9_init 29 = .ok (.bipush 6, 2) := by decide +kernel
theorem dX9_init_31 : decode cX9_init 31 = .ok (.newarray .int, 2) := by decide +kernel
theorem dX9_init_33 : decode cX9_init 33 = .ok (.putfield 21, 3) := by decide +kernel
theorem dX9_init_36 : decode cX9_init 36 = .ok (.aload_n 0, 1) := by decide +kernel
theorem dX9_init_37 : decode cX9_init 37 = .ok (.bipush 6, 2) := by decide +kernel
theorem dX9_init_39 : decode cX9_init 39 = .ok (.anewarray 24, 3) := by decide +kernel
theorem dX9_init_42 : decode cX9_init 42 = .ok (.putfield 26, 3) := by decide +kernel
theorem dX9_init_45 : decode cX9_init 45 = .ok (.return_, 1) := by decide +kernel
theorem dX9_become_0 : decode cX9_become 0 = .ok (.aload_n 0, 1) := by decide +kernel
theorem dX9_become_1 : decode cX9_become 1 = .ok (.aload_n 1, 1) := by decide +kernel
theorem dX9_become_2 : decode cX9_become 2 = .ok (.getfield 30, 3) := by decide +kernel
theorem dX9_become_5 : decode cX9_become 5 = .ok (.putfield 30, 3) := by decide +kernel
theorem dX9_become_8 : decode cX9_become 8 = .ok (.aload_n 0, 1) := by decide +kernel
theorem dX9_become_9 : decode cX9_become 9 = .ok (.aload_n 1, 1) := by decide +kernel
theorem dX9_become_10 : decode cX9_become 10 = .ok (.getfield 34, 3) := by decide +kernel
theorem dX9_become_13 : decode cX9_become 13 = .ok (.putfield 34, 3) := by decide +kernel
theorem dX9_become_16 : decode cX9_become 16 = .ok (.aload_n 0, 1) := by decide +kernel
theorem dX9_become_17 : decode cX9_become 17 = .ok (.aload_n 1, 1) := by decide +kernel
theorem dX9_become_18 : decode cX9_become 18 = .ok (.getfield 37, 3) := by decide +kernel
theorem dX9_become_21 : decode cX9_become 21 = .ok (.putfield 37, 3) := by decide +kernel
theorem dX9_become_24 : decode cX9_become 24 = .ok (.aload_n 0, 1) := by decide +kernel
theorem dX9_become_25 : decode cX9_become 25 = .ok (.aload_n 1, 1) := by decide +kernel
theorem dX9_become_26 : decode cX9_become 26 = .ok (.getfield 40, 3) := by decide +kernel
theorem dX9_become_29 : decode cX9_become 29 = .ok (.putfield 40, 3) := by decide +kernel
theorem dX9_become_32 : decode cX9_become 32 = .ok (.aload_n 0, 1) := by decide +kernel
theorem dX9_become_33 : decode cX9_become 33 = .ok (.aload_n 1, 1) := by decide +kernel
theorem dX9_become_34 : decode cX9_become 34 = .ok (.getfield 43, 3) := by decide +kernel
theorem dX9_become_37 : decode cX9_become 37 = .ok (.putfield 43, 3) := by decide +kernel
theorem dX9_become_40 : decode cX9_become 40 = .ok (.aload_n 1, 1) := by decide +kernel
theorem dX9_become_41 : decode cX9_become 41 = .ok (.getfield 9, 3) := by decide +kernel
theorem dX9_become_44 : decode cX9_become 44 = .ok (.iconst 0, 1) := by decide +kernel
theorem dX9_become_45 : decode cX9_become 45 = .ok (.aload_n 0, 1) := by decide +kernel
theorem dX9_become_46 : decode cX9_become 46 = .ok (.getfield 9, 3) := by decide +kernel
theorem dX9_become_49 : decode cX9_become 49 = .ok (.iconst 0, 1) := by decide +kernel
theorem dX9_become_50 : decode cX9_become 50 = .ok (.bipush 9, 2) := by decide +kernel
theorem dX9_become_52 : decode cX9_become 52 = .ok (.invokestatic 46, 3) := by decide +kernel
theorem dX9_become_55 : decode cX9_become 55 = .ok (.aload_n 1, 1) := by decide +kernel
theorem dX9_become_56 : decode cX9_become 56 = .ok (.getfield 15, 3) := by decide +kernel
theorem dX9_become_59 : decode cX9_become 59 = .ok (.iconst 0, 1) := by decide +kernel
theorem dX9_become_60 : decode cX9_become 60 = .ok (.aload_n 0, 1) := by decide +kernel
theorem dX9_become_61 : decode cX9_become 61 = .ok (.getfield 15, 3) := by decide +kernel
theorem dX9_become_64 : decode cX9_become 64 = .ok (.iconst 0, 1) := by decide +kernel
theorem dX9_become_65 : decode cX9_become 65 = .ok (.bipush 9, 2) := by decide +kernel
theorem dX9_become_67 : decode cX9_become 67 = .ok (.invokestatic 46, 3) := by decide +kernel
theorem dX9_become_70 : decode cX9_become 70 = .ok (.aload_n 1, 1) := by decide +kernel
theorem dX9_become_71 : decode cX9_become 71 = .ok (.getfield 18, 3) := by decide +kernel
theorem dX9_become_74 : decode cX9_become 74 = .ok (.iconst 0, 1) := by decide +kernel
theorem dX9_become_75 : decode cX9_become 75 = .ok (.aload_n 0, 1) := by decide +kernel
theorem dX9_become_76 : decode cX9_become 76 = .ok (.getfield 18, 3) := by decide +kernel
theorem dX9_become_79 : decode cX9_become 79 = .ok (.iconst 0, 1) := by decide +kernel
theorem dX9_become_80 : decode cX9_become 80 = .ok (.bipush 9, 2) := by decide +kernel
theorem dX9_become_82 : decode cX9_become 82 = .ok (.invokestatic 46, 3) := by decide +kernel
theorem dX9_become_85 : decode cX9_become 85 = .ok (.aload_n 1, 1) := by decide +kernel
theorem dX9_become_86 : decode cX9_become 86 = .ok (.getfield 21, 3) := by decide +kernel
theorem dX9_become_89 : decode cX9_become 89 = .ok (.iconst 0, 1) := by decide +kernel
theorem dX9_become_90 : decode cX9_become 90 = .ok (.aload_n 0, 1) := by decide +kernel
theorem dX9_become_91 : decode cX9_become 91 = .ok (.getfield 21, 3) := by decide +kernel
theorem dX9_become_94 : decode cX9_become 94 = .ok (.iconst 0, 1) := by decide +kernel
theorem dX9_become_95 : decode cX9_become 95 = .ok (.bipush 6, 2) := by decide +kernel
theorem dX9_become_97 : decode cX9_become 97 = .ok (.invokestatic 46, 3) := by decide +kernel
theorem dX9_become_100 : decode cX9_become 100 = .ok (.aload_n 1, 1) := by decide +kernel
theorem dX9_become_101 : decode cX9_become 101 = .ok (.getfield 26, 3) := by decide +kernel
theorem dX9_become_104 : decode cX9_become 104 = .ok (.iconst 0, 1) := by decide +kernel
theorem dX9_become_105 : decode cX9_become 105 = .ok (.aload_n 0, 1) := by decide +kernel
theorem dX9_become_106 : decode cX9_become 106 = .ok (.getfield 26, 3) := by decide +kernel
theorem dX9_become_109 : decode cX9_become 109 = .ok (.iconst 0, 1) := by decide +kernel
theorem dX9_become_110 : decode cX9_become 110 = .ok (.bipush 6, 2) := by decide +kernel
theorem dX9_become_112 : decode cX9_become 112 = .ok (.invokestatic 46, 3) := by decide +kernel
theorem dX9_become_115 : decode cX9_become 115 = .ok (.return_, 1) := by decide +kernel
theorem dX9_hasSentence_0 : decode cX9_hasSentence 0 = .ok (.iload_n 1, 1) := by decide +kernel
theorem dX9_hasSentence_1 : decode cX9_hasSentence 1 = .ok (.ifCond .lt 15, 3) := by decide +kernel
theorem dX9_hasSentence_4 : decode cX9_hasSentence 4 = .ok (.iload_n 1, 1) := by decide +kernel
theorem dX9_hasSentence_5 : decode cX9_hasSentence 5 = .ok (.aload_n 0, 1) := by decide +kernel
theorem dX9_hasSentence_6 : decode cX9_hasSentence 6 = .ok (.getfield 30, 3) := by decide +kernel
theorem dX9_hasSentence_9 : decode cX9_hasSentence 9 = .ok (.if_icmp .ge 7, 3) := by decide +kernel
theorem dX9_hasSentence_12 : decode cX9_hasSentence 12 = .ok (.iconst 1, 1) := by decide +kernel
theorem dX9_hasSentence_13 : decode cX9_hasSentence 13 = .ok (.goto 4, 3) := by decide +kernel
theorem dX9_hasSentence_16 : decode cX9_hasSentence 16 = .ok (.iconst 0, 1) := by decide +kernel
theorem dX9_hasSentence_17 : decode cX9_hasSentence 17 = .ok (.ireturn, 1) := by decide +kernel
theorem dX9_hasDenier_0 : decode cX9_hasDenier 0 = .ok (.iload_n 1, 1) := by decide +kernel
theorem dX9_hasDenier_1 : decode cX9_hasDenier 1 = .ok (.ifCond .lt 15, 3) := by decide +kernel
theorem dX9_hasDenier_4 : decode cX9_hasDenier 4 = .ok (.iload_n 1, 1) := by decide +kernel
theorem dX9_hasDenier_5 : decode cX9_hasDenier 5 = .ok (.aload_n 0, 1) := by decide +kernel
theorem dX9_hasDenier_6 : decode cX9_hasDenier 6 = .ok (.getfield 34, 3) := by decide +kernel
theorem dX9_hasDenier_9 : decode cX9_hasDenier 9 = .ok (.if_icmp .ge 7, 3) := by decide +kernel
theorem dX9_hasDenier_12 : decode cX9_hasDenier 12 = .ok (.iconst 1, 1) := by decide +kernel
theorem dX9_hasDenier_13 : decode cX9_hasDenier 13 = .ok (.goto 4, 3) := by decide +kernel
theorem dX9_hasDenier_16 : decode cX9_hasDenier 16 = .ok (.iconst 0, 1) := by decide +kernel
theorem dX9_hasDenier_17 : decode cX9_hasDenier 17 = .ok (.ireturn, 1) := by decide +kernel
theorem dX9_needsOf_0 : decode cX9_needsOf 0 = .ok (.iload_n 1, 1) := by decide +kernel
theorem dX9_needsOf_1 : decode cX9_needsOf 1 = .ok (.ifCond .lt 21, 3) := by decide +kernel
theorem dX9_needsOf_4 : decode cX9_needsOf 4 = .ok (.iload_n 1, 1) := by decide +kernel
theorem dX9_needsOf_5 : decode cX9_needsOf 5 = .ok (.aload_n 0, 1) := by decide +kernel
theorem dX9_needsOf_6 : decode cX9_needsOf 6 = .ok (.getfield 9, 3) := by decide +kernel
theorem dX9_needsOf_9 : decode cX9_needsOf 9 = .ok (.arraylength, 1) := by decide +kernel
theorem dX9_needsOf_10 : decode cX9_needsOf 10 = .ok (.if_icmp .ge 12, 3) := by decide +kernel
theorem dX9_needsOf_13 : decode cX9_needsOf 13 = .ok (.aload_n 0, 1) := by decide +kernel
theorem dX9_needsOf_14 : decode cX9_needsOf 14 = .ok (.getfield 9, 3) := by decide +kernel
theorem dX9_needsOf_17 : decode cX9_needsOf 17 = .ok (.iload_n 1, 1) := by decide +kernel
theorem dX9_needsOf_18 : decode cX9_needsOf 18 = .ok (.iaload, 1) := by decide +kernel
theorem dX9_needsOf_19 : decode cX9_needsOf 19 = .ok (.goto 4, 3) := by decide +kernel
theorem dX9_needsOf_22 : decode cX9_needsOf 22 = .ok (.iconst 0, 1) := by decide +kernel
theorem dX9_needsOf_23 : decode cX9_needsOf 23 = .ok (.ireturn, 1) := by decide +kernel
theorem dX9_makerOf_0 : decode cX9_makerOf 0 = .ok (.iload_n 1, 1) := by decide +kernel
theorem dX9_makerOf_1 : decode cX9_makerOf 1 = .ok (.ifCond .lt 21, 3) := by decide +kernel
theorem dX9_makerOf_4 : decode cX9_makerOf 4 = .ok (.iload_n 1, 1) := by decide +kernel
theorem dX9_makerOf_5 : decode cX9_makerOf 5 = .ok (.aload_n 0, 1) := by decide +kernel
theorem dX9_makerOf_6 : decode cX9_makerOf 6 = .ok (.getfield 15, 3) := by decide +kernel
theorem dX9_makerOf_9 : decode cX9_makerOf 9 = .ok (.arraylength, 1) := by decide +kernel
theorem dX9_makerOf_10 : decode cX9_makerOf 10 = .ok (.if_icmp .ge 12, 3) := by decide +kernel
theorem dX9_makerOf_13 : decode cX9_makerOf 13 = .ok (.aload_n 0, 1) := by decide +kernel
theorem dX9_makerOf_14 : decode cX9_makerOf 14 = .ok (.getfield 15, 3) := by decide +kernel
theorem dX9_makerOf_17 : decode cX9_makerOf 17 = .ok (.iload_n 1, 1) := by decide +kernel
theorem dX9_makerOf_18 : decode cX9_makerOf 18 = .ok (.iaload, 1) := by decide +kernel
theorem dX9_makerOf_19 : decode cX9_makerOf 19 = .ok (.goto 5, 3) := by decide +kernel
theorem dX9_makerOf_22 : decode cX9_makerOf 22 = .ok (.bipush (-4), 2) := by decide +kernel
theorem dX9_makerOf_24 : decode cX9_makerOf 24 = .ok (.ireturn, 1) := by decide +kernel
theorem dX9_trueSince_0 : decode cX9_trueSince 0 = .ok (.iload_n 1, 1) := by decide +kernel
theorem dX9_trueSince_1 : decode cX9_trueSince 1 = .ok (.ifCond .lt 21, 3) := by decide +kernel
theorem dX9_trueSince_4 : decode cX9_trueSince 4 = .ok (.iload_n 1, 1) := by decide +kernel
theorem dX9_trueSince_5 : decode cX9_trueSince 5 = .ok (.aload_n 0, 1) := by decide +kernel
theorem dX9_trueSince_6 : decode cX9_trueSince 6 = .ok (.getfield 18, 3) := by decide +kernel
theorem dX9_trueSince_9 : decode cX9_trueSince 9 = .ok (.arraylength, 1) := by decide +kernel
theorem dX9_trueSince_10 : decode cX9_trueSince 10 = .ok (.if_icmp .ge 12, 3) := by decide +kernel
theorem dX9_trueSince_13 : decode cX9_trueSince 13 = .ok (.aload_n 0, 1) := by decide +kernel
theorem dX9_trueSince_14 : decode cX9_trueSince 14 = .ok (.getfield 18, 3) := by decide +kernel
theorem dX9_trueSince_17 : decode cX9_trueSince 17 = .ok (.iload_n 1, 1) := by decide +kernel
theorem dX9_trueSince_18 : decode cX9_trueSince 18 = .ok (.iaload, 1) := by decide +kernel
theorem dX9_trueSince_19 : decode cX9_trueSince 19 = .ok (.goto 5, 3) := by decide +kernel
theorem dX9_trueSince_22 : decode cX9_trueSince 22 = .ok (.bipush (-4), 2) := by decide +kernel
theorem dX9_trueSince_24 : decode cX9_trueSince 24 = .ok (.ireturn, 1) := by decide +kernel
theorem dX9_knownTo_0 : decode cX9_knownTo 0 = .ok (.iload_n 1, 1) := by decide +kernel
theorem dX9_knownTo_1 : decode cX9_knownTo 1 = .ok (.ifCond .lt 21, 3) := by decide +kernel
theorem dX9_knownTo_4 : decode cX9_knownTo 4 = .ok (.iload_n 1, 1) := by decide +kernel
theorem dX9_knownTo_5 : decode cX9_knownTo 5 = .ok (.aload_n 0, 1) := by decide +kernel
theorem dX9_knownTo_6 : decode cX9_knownTo 6 = .ok (.getfield 21, 3) := by decide +kernel
theorem dX9_knownTo_9 : decode cX9_knownTo 9 = .ok (.arraylength, 1) := by decide +kernel
theorem dX9_knownTo_10 : decode cX9_knownTo 10 = .ok (.if_icmp .ge 12, 3) := by decide +kernel
theorem dX9_knownTo_13 : decode cX9_knownTo 13 = .ok (.aload_n 0, 1) := by decide +kernel
theorem dX9_knownTo_14 : decode cX9_knownTo 14 = .ok (.getfield 21, 3) := by decide +kernel
theorem dX9_knownTo_17 : decode cX9_knownTo 17 = .ok (.iload_n 1, 1) := by decide +kernel
theorem dX9_knownTo_18 : decode cX9_knownTo 18 = .ok (.iaload, 1) := by decide +kernel
theorem dX9_knownTo_19 : decode cX9_knownTo 19 = .ok (.goto 4, 3) := by decide +kernel
theorem dX9_knownTo_22 : decode cX9_knownTo 22 = .ok (.iconst 0, 1) := by decide +kernel
theorem dX9_knownTo_23 : decode cX9_knownTo 23 = .ok (.ireturn, 1) := by decide +kernel
theorem dX9_memberAt_0 : decode cX9_memberAt 0 = .ok (.iload_n 1, 1) := by decide +kernel
theorem dX9_memberAt_1 : decode cX9_memberAt 1 = .ok (.ifCond .lt 21, 3) := by decide +kernel
theorem dX9_memberAt_4 : decode cX9_memberAt 4 = .ok (.iload_n 1, 1) := by decide +kernel
theorem dX9_memberAt_5 : decode cX9_memberAt 5 = .ok (.aload_n 0, 1) := by decide +kernel
theorem dX9_memberAt_6 : decode cX9_memberAt 6 = .ok (.getfield 26, 3) := by decide +kernel
theorem dX9_memberAt_9 : decode cX9_memberAt 9 = .ok (.arraylength, 1) := by decide +kernel
theorem dX9_memberAt_10 : decode cX9_memberAt 10 = .ok (.if_icmp .ge 12, 3) := by decide +kernel
theorem dX9_memberAt_13 : decode cX9_memberAt 13 = .ok (.aload_n 0, 1) := by decide +kernel
theorem dX9_memberAt_14 : decode cX9_memberAt 14 = .ok (.getfield 26, 3) := by decide +kernel
theorem dX9_memberAt_17 : decode cX9_memberAt 17 = .ok (.iload_n 1, 1) := by decide +kernel
theorem dX9_memberAt_18 : decode cX9_memberAt 18 = .ok (.aaload, 1) := by decide +kernel
theorem dX9_memberAt_19 : decode cX9_memberAt 19 = .ok (.goto 4, 3) := by decide +kernel
theorem dX9_memberAt_22 : decode cX9_memberAt 22 = .ok (.aconst_null, 1) := by decide +kernel
theorem dX9_memberAt_23 : decode cX9_memberAt 23 = .ok (.areturn, 1) := by decide +kernel
set_option maxRecDepth 20000 in
theorem ggX9_isTrue_X11_has : GoodIn wsX9_isTrue wsX11_has := goodIn_r _ [4] (by decide +kernel) (by decide +kernel)
set_option maxRecDepth 20000 in
theorem gX9_isTrue_X11_has_n52 : GoodIn wsX9_isTrue (wsX11_has) := ggX9_isTrue_X11_has
theorem dX9_isTrue_0 : decode cX9_isTrue 0 = .ok (.aload_n 0, 1) := by decide +kernel
theorem dX9_isTrue_1 : decode cX9_isTrue 1 = .ok (.getfield 37, 3) := by decide +kernel
theorem dX9_isTrue_4 : decode cX9_isTrue 4 = .ok (.iload_n 1, 1) := by decide +kernel
theorem dX9_isTrue_5 : decode cX9_isTrue 5 = .ok (.invokestatic 52, 3) := by decide +kernel
theorem dX9_isTrue_8 : decode cX9_isTrue 8 = .ok (.ireturn, 1) := by decide +kernel
set_option maxRecDepth 20000 in
theorem ggX9_isAlive_X11_has : GoodIn wsX9_isAlive wsX11_has := goodIn_r _ [4] (by decide +kernel) (by decide +kernel)
set_option maxRecDepth 20000 in
theorem gX9_isAlive_X11_has_n52 : GoodIn wsX9_isAlive (wsX11_has) := ggX9_isAlive_X11_has
theorem dX9_isAlive_0 : decode cX9_isAlive 0 = .ok (.aload_n 0, 1) := by decide +kernel
theorem dX9_isAlive_1 : decode cX9_isAlive 1 = .ok (.getfield 40, 3) := by decide +kernel
theorem dX9_isAlive_4 : decode cX9_isAlive 4 = .ok (.iload_n 1, 1) := by decide +kernel
theorem dX9_isAlive_5 : decode cX9_isAlive 5 = .ok (.invokestatic 52, 3) := by decide +kernel
theorem dX9_isAlive_8 : decode cX9_isAlive 8 = .ok (.ireturn, 1) := by decide +kernel
theorem dX9_untrue_0 : decode cX9_untrue 0 = .ok (.iconst 1, 1) := by decide +kernel
theorem dX9_untrue_1 : decode cX9_untrue 1 = .ok (.aload_n 0, 1) := by decide +kernel
theorem dX9_untrue_2 : decode cX9_untrue 2 = .ok (.getfield 30, 3) := by decide +kernel
theorem dX9_untrue_5 : decode cX9_untrue 5 = .ok (.ishl, 1) := by decide +kernel
theorem dX9_untrue_6 : decode cX9_untrue 6 = .ok (.iconst 1, 1) := by decide +kernel
theorem dX9_untrue_7 : decode cX9_untrue 7 = .ok (.isub, 1) := by decide +kernel
theorem dX9_untrue_8 : decode cX9_untrue 8 = .ok (.aload_n 0, 1) := by decide +kernel
theorem dX9_untrue_9 : decode cX9_untrue 9 = .ok (.getfield 37, 3) := by decide +kernel
theorem dX9_untrue_12 : decode cX9_untrue 12 = .ok (.iconst (-1), 1) := by decide +kernel
theorem dX9_untrue_13 : decode cX9_untrue 13 = .ok (.ixor, 1) := by decide +kernel
theorem dX9_untrue_14 : decode cX9_untrue 14 = .ok (.iand, 1) := by decide +kernel
theorem dX9_untrue_15 : decode cX9_untrue 15 = .ok (.ireturn, 1) := by decide +kernel
theorem dX9_countSentences_0 : decode cX9_countSentences 0 = .ok (.aload_n 0, 1) := by decide +kernel
theorem dX9_countSentences_1 : decode cX9_countSentences 1 = .ok (.getfield 30, 3) := by decide +kernel
theorem dX9_countSentences_4 : decode cX9_countSentences 4 = .ok (.ireturn, 1) := by decide +kernel
theorem dX9_countDeniers_0 : decode cX9_countDeniers 0 = .ok (.aload_n 0, 1) := by decide +kernel
theorem dX9_countDeniers_1 : decode cX9_countDeniers 1 = .ok (.getfield 34, 3) := by decide +kernel
theorem dX9_countDeniers_4 : decode cX9_countDeniers 4 = .ok (.ireturn, 1) := by decide +kernel
set_option maxRecDepth 20000 in
theorem ggX9_countTrue_J6_bitCount_0f7a4 : GoodIn wsX9_countTrue wsJ6_bitCount_0f7a4 := goodIn_r _ [5, 6, 7, 8] (by decide +kernel) (by decide +kernel)
set_option maxRecDepth 20000 in
theorem gX9_countTrue_J6_bitCount_0f7a4 : GoodIn wsX9_countTrue (va_wsS RX9 56 yJ6_bitCount_0f7a4 wsJ6_bitCount_0f7a4) := goodIn_app (goodIn_of _ (by decide +kernel)) ggX9_countTrue_J6_bitCount_0f7a4
theorem dX9_countTrue_0 : decode cX9_countTrue 0 = .ok (.aload_n 0, 1) := by decide +kernel
theorem dX9_countTrue_1 : decode cX9_countTrue 1 = .ok (.getfield 37, 3) := by decide +kernel
theorem dX9_countTrue_4 : decode cX9_countTrue 4 = .ok (.invokestatic 56, 3) := by decide +kernel
theorem dX9_countTrue_7 : decode cX9_countTrue 7 = .ok (.ireturn, 1) := by decide +kernel
set_option maxRecDepth 20000 in
theorem ggX9_countAlive_J6_bitCount_0f7a4 : GoodIn wsX9_countAlive wsJ6_bitCount_0f7a4 := goodIn_r _ [5, 6, 7, 8] (by decide +kernel) (by decide +kernel)
set_option maxRecDepth 20000 in
theorem gX9_countAlive_J6_bitCount_0f7a4 : GoodIn wsX9_countAlive (va_wsS RX9 56 yJ6_bitCount_0f7a4 wsJ6_bitCount_0f7a4) := goodIn_app (goodIn_of _ (by decide +kernel)) ggX9_countAlive_J6_bitCount_0f7a4
theorem dX9_countAlive_0 : decode cX9_countAlive 0 = .ok (.aload_n 0, 1) := by decide +kernel
theorem dX9_countAlive_1 : decode cX9_countAlive 1 = .ok (.getfield 40, 3) := by decide +kernel
theorem dX9_countAlive_4 : decode cX9_countAlive 4 = .ok (.invokestatic 56, 3) := by decide +kernel
theorem dX9_countAlive_7 : decode cX9_countAlive 7 = .ok (.ireturn, 1) := by decide +kernel
theorem dX9_today_0 : decode cX9_today 0 = .ok (.aload_n 0, 1) := by decide +kernel
theorem dX9_today_1 : decode cX9_today 1 = .ok (.getfield 43, 3) := by decide +kernel
theorem dX9_today_4 : decode cX9_today 4 = .ok (.ireturn, 1) := by decide +kernel
theorem dX9_isOddDay_0 : decode cX9_isOddDay 0 = .ok (.aload_n 0, 1) := by decide +kernel
theorem dX9_isOddDay_1 : decode cX9_isOddDay 1 = .ok (.getfield 43, 3) := by decide +kernel
theorem dX9_isOddDay_4 : decode cX9_isOddDay 4 = .ok (.iconst 2, 1) := by decide +kernel
theorem dX9_isOddDay_5 : decode cX9_isOddDay 5 = .ok (.irem, 1) := by decide +kernel
theorem dX9_isOddDay_6 : decode cX9_isOddDay 6 = .ok (.ifCond .eq 7, 3) := by decide +kernel
theorem dX9_isOddDay_9 : decode cX9_isOddDay 9 = .ok (.iconst 1, 1) := by decide +kernel
theorem dX9_isOddDay_10 : decode cX9_isOddDay 10 = .ok (.goto 4, 3) := by decide +kernel
theorem dX9_isOddDay_13 : decode cX9_isOddDay 13 = .ok (.iconst 0, 1) := by decide +kernel
theorem dX9_isOddDay_14 : decode cX9_isOddDay 14 = .ok (.ireturn, 1) := by decide +kernel
theorem dX9_addSentence_0 : decode cX9_addSentence 0 = .ok (.aload_n 0, 1) := by decide +kernel
theorem dX9_addSentence_1 : decode cX9_addSentence 1 = .ok (.getfield 30, 3) := by decide +kernel
theorem dX9_addSentence_4 : decode cX9_addSentence 4 = .ok (.ifCond .lt 15, 3) := by decide +kernel
theorem dX9_addSentence_7 : decode cX9_addSentence 7 = .ok (.aload_n 0, 1) := by decide +kernel
theorem dX9_addSentence_8 : decode cX9_addSentence 8 = .ok (.getfield 30, 3) := by decide +kernel
theorem dX9_addSentence_11 : decode cX9_addSentence 11 = .ok (.aload_n 0, 1) := by decide +kernel
theorem dX9_addSentence_12 : decode cX9_addSentence 12 = .ok (.getfield 9, 3) := by decide +kernel
theorem dX9_addSentence_15 : decode cX9_addSentence 15 = .ok (.arraylength, 1) := by decide +kernel
theorem dX9_addSentence_16 : decode cX9_addSentence 16 = .ok (.if_icmp .lt 5, 3) := by decide +kernel
theorem dX9_addSentence_19 : decode cX9_addSentence 19 = .ok (.iconst 0, 1) := by decide +kernel
theorem dX9_addSentence_20 : decode cX9_addSentence 20 = .ok (.ireturn, 1) := by decide +kernel
theorem dX9_addSentence_21 : decode cX9_addSentence 21 = .ok (.aload_n 0, 1) := by decide +kernel
theorem dX9_addSentence_22 : decode cX9_addSentence 22 = .ok (.getfield 9, 3) := by decide +kernel
theorem dX9_addSentence_25 : decode cX9_addSentence 25 = .ok (.aload_n 0, 1) := by decide +kernel
theorem dX9_addSentence_26 : decode cX9_addSentence 26 = .ok (.getfield 30, 3) := by decide +kernel
theorem dX9_addSentence_29 : decode cX9_addSentence 29 = .ok (.iconst 0, 1) := by decide +kernel
theorem dX9_addSentence_30 : decode cX9_addSentence 30 = .ok (.iastore, 1) := by decide +kernel
theorem dX9_addSentence_31 : decode cX9_addSentence 31 = .ok (.aload_n 0, 1) := by decide +kernel
theorem dX9_addSentence_32 : decode cX9_addSentence 32 = .ok (.dup, 1) := by decide +kernel
theorem dX9_addSentence_33 : decode cX9_addSentence 33 = .ok (.getfield 30, 3) := by decide +kernel
theorem dX9_addSentence_36 : decode cX9_addSentence 36 = .ok (.iconst 1, 1) := by decide +kernel
theorem dX9_addSentence_37 : decode cX9_addSentence 37 = .ok (.iadd, 1) := by decide +kernel
theorem dX9_addSentence_38 : decode cX9_addSentence 38 = .ok (.putfield 30, 3) := by decide +kernel
theorem dX9_addSentence_41 : decode cX9_addSentence 41 = .ok (.iconst 1, 1) := by decide +kernel
theorem dX9_addSentence_42 : decode cX9_addSentence 42 = .ok (.ireturn, 1) := by decide +kernel
set_option maxRecDepth 20000 in
theorem ggX9_addNeed_X9_hasSentence : GoodIn wsX9_addNeed wsX9_hasSentence := goodIn_r _ [6, 7, 11, 12, 13, 14, 15, 16, 17, 18, 19, 20] (by decide +kernel) (by decide +kernel)
set_option maxRecDepth 20000 in
theorem gX9_addNeed_X9_hasSentence : GoodIn wsX9_addNeed (wsV RX9 62 RX9 yX9_hasSentence wsX9_hasSentence) := goodIn_app (goodIn_of _ (by decide +kernel)) ggX9_addNeed_X9_hasSentence
set_option maxRecDepth 20000 in
theorem ggX9_addNeed_X11_bit : GoodIn wsX9_addNeed wsX11_bit := goodIn_r _ [10] (by decide +kernel) (by decide +kernel)
set_option maxRecDepth 20000 in
theorem gX9_addNeed_X11_bit_n66 : GoodIn wsX9_addNeed (wsX11_bit) := ggX9_addNeed_X11_bit
theorem dX9_addNeed_0 : decode cX9_addNeed 0 = .ok (.aload_n 0, 1) := by decide +kernel
theorem dX9_addNeed_1 : decode cX9_addNeed 1 = .ok (.iload_n 1, 1) := by decide +kernel
theorem dX9_addNeed_2 : decode cX9_addNeed 2 = .ok (.invokevirtual 62, 3) := by decide +kernel
theorem dX9_addNeed_5 : decode cX9_addNeed 5 = .ok (.ifCond .eq 25, 3) := by decide +kernel
theorem dX9_addNeed_8 : decode cX9_addNeed 8 = .ok (.aload_n 0, 1) := by decide +kernel
theorem dX9_addNeed_9 : decode cX9_addNeed 9 = .ok (.iload_n 2, 1) := by decide +kernel
theorem dX9_addNeed_10 : decode cX9_addNeed 10 = .ok (.invokevirtual 62, 3) := by decide +kernel
theorem dX9_addNeed_13 : decode cX9_addNeed 13 = .ok (.ifCond .eq 17, 3) := by decide +kernel
theorem dX9_addNeed_16 : decode cX9_addNeed 16 = .ok (.iload_n 1, 1) := by decide +kernel
theorem dX9_addNeed_17 : decode cX9_addNeed 17 = .ok (.iload_n 2, 1) := by decide +kernel
theorem dX9_addNeed_18 : decode cX9_addNeed 18 = .ok (.if_icmp .eq 12, 3) := by decide +kernel
theorem dX9_addNeed_21 : decode cX9_addNeed 21 = .ok (.iload_n 1, 1) := by decide +kernel
theorem dX9_addNeed_22 : decode cX9_addNeed 22 = .ok (.aload_n 0, 1) := by decide +kernel
theorem dX9_addNeed_23 : decode cX9_addNeed 23 = .ok (.getfield 9, 3) := by decide +kernel
theorem dX9_addNeed_26 : decode cX9_addNeed 26 = .ok (.arraylength, 1) := by decide +kernel
theorem dX9_addNeed_27 : decode cX9_addNeed 27 = .ok (.if_icmp .lt 5, 3) := by decide +kernel
theorem dX9_addNeed_30 : decode cX9_addNeed 30 = .ok (.iconst 0, 1) := by decide +kernel
theorem dX9_addNeed_31 : decode cX9_addNeed 31 = .ok (.ireturn, 1) := by decide +kernel
theorem dX9_addNeed_32 : decode cX9_addNeed 32 = .ok (.aload_n 0, 1) := by decide +kernel
theorem dX9_addNeed_33 : decode cX9_addNeed 33 = .ok (.getfield 9, 3) := by decide +kernel
theorem dX9_addNeed_36 : decode cX9_addNeed 36 = .ok (.iload_n 1, 1) := by decide +kernel
theorem dX9_addNeed_37 : decode cX9_addNeed 37 = .ok (.dup2, 1) := by decide +kernel
theorem dX9_addNeed_38 : decode cX9_addNeed 38 = .ok (.iaload, 1) := by decide +kernel
theorem dX9_addNeed_39 : decode cX9_addNeed 39 = .ok (.iload_n 2, 1) := by decide +kernel
theorem dX9_addNeed_40 : decode cX9_addNeed 40 = .ok (.invokestatic 66, 3) := by decide +kernel
theorem dX9_addNeed_43 : decode cX9_addNeed 43 = .ok (.ior, 1) := by decide +kernel
theorem dX9_addNeed_44 : decode cX9_addNeed 44 = .ok (.iastore, 1) := by decide +kernel
theorem dX9_addNeed_45 : decode cX9_addNeed 45 = .ok (.iconst 1, 1) := by decide +kernel
theorem dX9_addNeed_46 : decode cX9_addNeed 46 = .ok (.ireturn, 1) := by decide +kernel
set_option maxRecDepth 20000 in
theorem ggX9_found_X9_hasSentence : GoodIn wsX9_found wsX9_hasSentence := goodIn_r _ [5, 6, 24, 25, 26, 27, 28, 29, 30, 31, 32, 33] (by decide +kernel) (by decide +kernel)
set_option maxRecDepth 20000 in
theorem gX9_found_X9_hasSentence : GoodIn wsX9_found (wsV RX9 62 RX9 yX9_hasSentence wsX9_hasSentence) := goodIn_app (goodIn_of _ (by decide +kernel)) ggX9_found_X9_hasSentence
set_option maxRecDepth 20000 in
theorem ggX9_found_X9_isTrue : GoodIn wsX9_found wsX9_isTrue := goodIn_r _ [10, 11, 12, 13, 14, 24, 25, 26, 27, 28, 29, 30, 31, 32, 33] (by decide +kernel) (by decide +kernel)
set_option maxRecDepth 20000 in
theorem gX9_found_X9_isTrue : GoodIn wsX9_found (wsV RX9 69 RX9 yX9_isTrue wsX9_isTrue) := goodIn_app (goodIn_of _ (by decide +kernel)) ggX9_found_X9_isTrue
set_option maxRecDepth 20000 in
theorem ggX9_found_X9_makeTrue : GoodIn wsX9_found wsX9_makeTrue := goodIn_r _ [18, 19, 20, 11, 21, 22, 13, 23, 24, 25, 26, 27, 28, 29, 30, 31, 32, 33] (by decide +kernel) (by decide +kernel)
set_option maxRecDepth 20000 in
theorem gX9_found_X9_makeTrue : GoodIn wsX9_found (wsV RX9 72 RX9 yX9_makeTrue wsX9_makeTrue) := goodIn_app (goodIn_of _ (by decide +kernel)) ggX9_found_X9_makeTrue
theorem dX9_found_0 : decode cX9_found 0 = .ok (.aload_n 0, 1) := by decide +kernel
theorem dX9_found_1 : decode cX9_found 1 = .ok (.iload_n 1, 1) := by decide +kernel
theorem dX9_found_2 : decode cX9_found 2 = .ok (.invokevirtual 62, 3) := by decide +kernel
theorem dX9_found_5 : decode cX9_found 5 = .ok (.ifCond .eq 11, 3) := by decide +kernel
theorem dX9_found_8 : decode cX9_found 8 = .ok (.aload_n 0, 1) := by decide +kernel
theorem dX9_found_9 : decode cX9_found 9 = .ok (.iload_n 1, 1) := by decide +kernel
theorem dX9_found_10 : decode cX9_found 10 = .ok (.invokevirtual 69, 3) := by decide +kernel
theorem dX9_found_13 : decode cX9_found 13 = .ok (.ifCond .eq 5, 3) := by decide +kernel
theorem dX9_found_16 : decode cX9_found 16 = .ok (.iconst 0, 1) := by decide +kernel
theorem dX9_found_17 : decode cX9_found 17 = .ok (.ireturn, 1) := by decide +kernel
theorem dX9_found_18 : decode cX9_found 18 = .ok (.aload_n 0, 1) := by decide +kernel
theorem dX9_found_19 : decode cX9_found 19 = .ok (.iload_n 1, 1) := by decide +kernel
theorem dX9_found_20 : decode cX9_found 20 = .ok (.bipush (-4), 2) := by decide +kernel
theorem dX9_found_22 : decode cX9_found 22 = .ok (.invokevirtual 72, 3) := by decide +kernel
theorem dX9_found_25 : decode cX9_found 25 = .ok (.iconst 1, 1) := by decide +kernel
theorem dX9_found_26 : decode cX9_found 26 = .ok (.ireturn, 1) := by decide +kernel
set_option maxRecDepth 20000 in
theorem ggX9_join_X11_bit : GoodIn wsX9_join wsX11_bit := goodIn_r _ [7] (by decide +kernel) (by decide +kernel)
set_option maxRecDepth 20000 in
theorem gX9_join_X11_bit_n66 : GoodIn wsX9_join (wsX11_bit) := ggX9_join_X11_bit
theorem dX9_join_0 : decode cX9_join 0 = .ok (.aload_n 1, 1) := by decide +kernel
theorem dX9_join_1 : decode cX9_join 1 = .ok (.ifnonnull 5, 3) := by decide +kernel
theorem dX9_join_4 : decode cX9_join 4 = .ok (.iconst (-1), 1) := by decide +kernel
theorem dX9_join_5 : decode cX9_join 5 = .ok (.ireturn, 1) := by decide +kernel
theorem dX9_join_6 : decode cX9_join 6 = .ok (.aload_n 0, 1) := by decide +kernel
theorem dX9_join_7 : decode cX9_join 7 = .ok (.getfield 34, 3) := by decide +kernel
theorem dX9_join_10 : decode cX9_join 10 = .ok (.ifCond .lt 27, 3) := by decide +kernel
theorem dX9_join_13 : decode cX9_join 13 = .ok (.aload_n 0, 1) := by decide +kernel
theorem dX9_join_14 : decode cX9_join 14 = .ok (.getfield 34, 3) := by decide +kernel
theorem dX9_join_17 : decode cX9_join 17 = .ok (.aload_n 0, 1) := by decide +kernel
theorem dX9_join_18 : decode cX9_join 18 = .ok (.getfield 26, 3) := by decide +kernel
theorem dX9_join_21 : decode cX9_join 21 = .ok (.arraylength, 1) := by decide +kernel
theorem dX9_join_22 : decode cX9_join 22 = .ok (.if_icmp .ge 15, 3) := by decide +kernel
theorem dX9_join_25 : decode cX9_join 25 = .ok (.aload_n 0, 1) := by decide +kernel
theorem dX9_join_26 : decode cX9_join 26 = .ok (.getfield 34, 3) := by decide +kernel
theorem dX9_join_29 : decode cX9_join 29 = .ok (.aload_n 0, 1) := by decide +kernel
theorem dX9_join_30 : decode cX9_join 30 = .ok (.getfield 21, 3) := by decide +kernel
theorem dX9_join_33 : decode cX9_join 33 = .ok (.arraylength, 1) := by decide +kernel
theorem dX9_join_34 : decode cX9_join 34 = .ok (.if_icmp .lt 6, 3) := by decide +kernel
theorem dX9_join_37 : decode cX9_join 37 = .ok (.bipush (-2), 2) := by decide +kernel
theorem dX9_join_39 : decode cX9_join 39 = .ok (.ireturn, 1) := by decide +kernel
theorem dX9_join_40 : decode cX9_join 40 = .ok (.aload_n 0, 1) := by decide +kernel
theorem dX9_join_41 : decode cX9_join 41 = .ok (.getfield 26, 3) := by decide +kernel
theorem dX9_join_44 : decode cX9_join 44 = .ok (.aload_n 0, 1) := by decide +kernel
theorem dX9_join_45 : decode cX9_join 45 = .ok (.getfield 34, 3) := by decide +kernel
theorem dX9_join_48 : decode cX9_join 48 = .ok (.aload_n 1, 1) := by decide +kernel
theorem dX9_join_49 : decode cX9_join 49 = .ok (.aastore, 1) := by decide +kernel
theorem dX9_join_50 : decode cX9_join 50 = .ok (.aload_n 0, 1) := by decide +kernel
theorem dX9_join_51 : decode cX9_join 51 = .ok (.getfield 21, 3) := by decide +kernel
theorem dX9_join_54 : decode cX9_join 54 = .ok (.aload_n 0, 1) := by decide +kernel
theorem dX9_join_55 : decode cX9_join 55 = .ok (.getfield 34, 3) := by decide +kernel
theorem dX9_join_58 : decode cX9_join 58 = .ok (.iconst 0, 1) := by decide +kernel
theorem dX9_join_59 : decode cX9_join 59 = .ok (.iastore, 1) := by decide +kernel
theorem dX9_join_60 : decode cX9_join 60 = .ok (.aload_n 0, 1) := by decide +kernel
theorem dX9_join_61 : decode cX9_join 61 = .ok (.dup, 1) := by decide +kernel
theorem dX9_join_62 : decode cX9_join 62 = .ok (.getfield 40, 3) := by decide +kernel
theorem dX9_join_65 : decode cX9_join 65 = .ok (.aload_n 0, 1) := by decide +kernel
theorem dX9_join_66 : decode cX9_join 66 = .ok (.getfield 34, 3) := by decide +kernel
theorem dX9_join_69 : decode cX9_join 69 = .ok (.invokestatic 66, 3) := by decide +kernel
theorem dX9_join_72 : decode cX9_join 72 = .ok (.ior, 1) := by decide +kernel
theorem dX9_join_73 : decode cX9_join 73 = .ok (.putfield 40, 3) := by decide +kernel
theorem dX9_join_76 : decode cX9_join 76 = .ok (.aload_n 0, 1) := by decide +kernel
theorem dX9_join_77 : decode cX9_join 77 = .ok (.dup, 1) := by decide +kernel
theorem dX9_join_78 : decode cX9_join 78 = .ok (.getfield 34, 3) := by decide +kernel
theorem dX9_join_81 : decode cX9_join 81 = .ok (.iconst 1, 1) := by decide +kernel
theorem dX9_join_82 : decode cX9_join 82 = .ok (.iadd, 1) := by decide +kernel
theorem dX9_join_83 : decode cX9_join 83 = .ok (.putfield 34, 3) := by decide +kernel
theorem dX9_join_86 : decode cX9_join 86 = .ok (.aload_n 0, 1) := by decide +kernel
theorem dX9_join_87 : decode cX9_join 87 = .ok (.getfield 34, 3) := by decide +kernel
theorem dX9_join_90 : decode cX9_join 90 = .ok (.iconst 1, 1) := by decide +kernel
theorem dX9_join_91 : decode cX9_join 91 = .ok (.isub, 1) := by decide +kernel
theorem dX9_join_92 : decode cX9_join 92 = .ok (.ireturn, 1) := by decide +kernel
set_option maxRecDepth 20000 in
theorem ggX9_learn_X11_has : GoodIn wsX9_learn wsX11_has := goodIn_r _ [4] (by decide +kernel) (by decide +kernel)
set_option maxRecDepth 20000 in
theorem gX9_learn_X11_has_n52 : GoodIn wsX9_learn (wsX11_has) := ggX9_learn_X11_has
set_option maxRecDepth 20000 in
theorem ggX9_learn_X11_bit : GoodIn wsX9_learn wsX11_bit := goodIn_r _ [6] (by decide +kernel) (by decide +kernel)
set_option maxRecDepth 20000 in
theorem gX9_learn_X11_bit_n66 : GoodIn wsX9_learn (wsX11_bit) := ggX9_learn_X11_bit
theorem dX9_learn_0 : decode cX9_learn 0 = .ok (.iload_n 1, 1) := by decide +kernel
theorem dX9_learn_1 : decode cX9_learn 1 = .ok (.ifCond .lt 25, 3) := by decide +kernel
theorem dX9_learn_4 : decode cX9_learn 4 = .ok (.iload_n 1, 1) := by decide +kernel
theorem dX9_learn_5 : decode cX9_learn 5 = .ok (.aload_n 0, 1) := by decide +kernel
theorem dX9_learn_6 : decode cX9_learn 6 = .ok (.getfield 21, 3) := by decide +kernel
theorem dX9_learn_9 : decode cX9_learn 9 = .ok (.arraylength, 1) := by decide +kernel
theorem dX9_learn_10 : decode cX9_learn 10 = .ok (.if_icmp .ge 16, 3) := by decide +kernel
theorem dX9_learn_13 : decode cX9_learn 13 = .ok (.aload_n 0, 1) := by decide +kernel
theorem dX9_learn_14 : decode cX9_learn 14 = .ok (.getfield 21, 3) := by decide +kernel
theorem dX9_learn_17 : decode cX9_learn 17 = .ok (.iload_n 1, 1) := by decide +kernel
theorem dX9_learn_18 : decode cX9_learn 18 = .ok (.iaload, 1) := by decide +kernel
theorem dX9_learn_19 : decode cX9_learn 19 = .ok (.iload_n 2, 1) := by decide +kernel
theorem dX9_learn_20 : decode cX9_learn 20 = .ok (.invokestatic 52, 3) := by decide +kernel
theorem dX9_learn_23 : decode cX9_learn 23 = .ok (.ifCond .eq 5, 3) := by decide +kernel
theorem dX9_learn_26 : decode cX9_learn 26 = .ok (.iconst 0, 1) := by decide +kernel
theorem dX9_learn_27 : decode cX9_learn 27 = .ok (.ireturn, 1) := by decide +kernel
theorem dX9_learn_28 : decode cX9_learn 28 = .ok (.aload_n 0, 1) := by decide +kernel
theorem dX9_learn_29 : decode cX9_learn 29 = .ok (.getfield 21, 3) := by decide +kernel
theorem dX9_learn_32 : decode cX9_learn 32 = .ok (.iload_n 1, 1) := by decide +kernel
theorem dX9_learn_33 : decode cX9_learn 33 = .ok (.dup2, 1) := by decide +kernel
theorem dX9_learn_34 : decode cX9_learn 34 = .ok (.iaload, 1) := by decide +kernel
theorem dX9_learn_35 : decode cX9_learn 35 = .ok (.iload_n 2, 1) := by decide +kernel
theorem dX9_learn_36 : decode cX9_learn 36 = .ok (.invokestatic 66, 3) := by decide +kernel
theorem dX9_learn_39 : decode cX9_learn 39 = .ok (.ior, 1) := by decide +kernel
theorem dX9_learn_40 : decode cX9_learn 40 = .ok (.iastore, 1) := by decide +kernel
theorem dX9_learn_41 : decode cX9_learn 41 = .ok (.iconst 1, 1) := by decide +kernel
theorem dX9_learn_42 : decode cX9_learn 42 = .ok (.ireturn, 1) := by decide +kernel
set_option maxRecDepth 20000 in
theorem ggX9_isAllowed_X9_memberAt : GoodIn wsX9_isAllowed wsX9_memberAt := goodIn_r _ [6, 7, 88, 89, 90, 91, 92, 93, 94, 95, 96, 97] (by decide +kernel) (by decide +kernel)
set_option maxRecDepth 20000 in
theorem gX9_isAllowed_X9_memberAt : GoodIn wsX9_isAllowed (wsV RX9 76 RX9 yX9_memberAt wsX9_memberAt) := goodIn_app (goodIn_of _ (by decide +kernel)) ggX9_isAllowed_X9_memberAt
set_option maxRecDepth 20000 in
theorem ggX9_isAllowed_X9_isAlive : GoodIn wsX9_isAllowed wsX9_isAlive := goodIn_r _ [11, 12, 13, 14, 15, 88, 89, 90, 91, 92, 93, 94, 95, 96, 97] (by decide +kernel) (by decide +kernel)
set_option maxRecDepth 20000 in
theorem gX9_isAllowed_X9_isAlive : GoodIn wsX9_isAllowed (wsV RX9 80 RX9 yX9_isAlive wsX9_isAlive) := goodIn_app (goodIn_of _ (by decide +kernel)) ggX9_isAllowed_X9_isAlive
set_option maxRecDepth 20000 in
theorem ggX9_isAllowed_X9_hasSentence : GoodIn wsX9_isAllowed wsX9_hasSentence := goodIn_r _ [19, 20, 88, 89, 90, 91, 92, 93, 94, 95, 96, 97] (by decide +kernel) (by decide +kernel)
set_option maxRecDepth 20000 in
theorem gX9_isAllowed_X9_hasSentence : GoodIn wsX9_isAllowed (wsV RX9 62 RX9 yX9_hasSentence wsX9_hasSentence) := goodIn_app (goodIn_of _ (by decide +kernel)) ggX9_isAllowed_X9_hasSentence
set_option maxRecDepth 20000 in
theorem ggX9_isAllowed_X9_knownTo : GoodIn wsX9_isAllowed wsX9_knownTo := goodIn_r _ [24, 25, 88, 89, 90, 91, 92, 93, 94, 95, 96, 97] (by decide +kernel) (by decide +kernel)
set_option maxRecDepth 20000 in
theorem gX9_isAllowed_X9_knownTo : GoodIn wsX9_isAllowed (wsV RX9 83 RX9 yX9_knownTo wsX9_knownTo) := goodIn_app (goodIn_of _ (by decide +kernel)) ggX9_isAllowed_X9_knownTo
set_option maxRecDepth 20000 in
theorem ggX9_isAllowed_X9_needsOf : GoodIn wsX9_isAllowed wsX9_needsOf := goodIn_r _ [29, 30, 88, 89, 90, 91, 92, 93, 94, 95, 96, 97] (by decide +kernel) (by decide +kernel)
set_option maxRecDepth 20000 in
theorem gX9_isAllowed_X9_needsOf : GoodIn wsX9_isAllowed (wsV RX9 86 RX9 yX9_needsOf wsX9_needsOf) := goodIn_app (goodIn_of _ (by decide +kernel)) ggX9_isAllowed_X9_needsOf
set_option maxRecDepth 20000 in
theorem ggX9_isAllowed_X0_mayDispute : GoodIn wsX9_isAllowed wsX0_mayDispute := goodIn_r _ [37, 38, 39, 40, 41, 42, 43, 44, 45, 46, 32, 47, 48, 49, 50, 13, 14, 15, 98, 99, 100, 101, 102, 103, 104, 105, 106, 107, 108, 109, 110, 111, 112, 113] (by decide +kernel) (by decide +kernel)
set_option maxRecDepth 20000 in
theorem gX9_isAllowed_X0_mayDispute_u89X0 : GoodIn wsX9_isAllowed (va_wsO RX9 89 RX0 "HoldsOnceDenied$Denier" ⟨"HoldsOnceDenied$Denier", "mayDispute", "(IIII)Z"⟩ yX0_mayDispute wsX0_mayDispute) := goodIn_app (goodIn_of _ (by decide +kernel)) ggX9_isAllowed_X0_mayDispute
set_option maxRecDepth 20000 in
theorem ggX9_isAllowed_X1_mayDispute : GoodIn wsX9_isAllowed wsX1_mayDispute := goodIn_r _ [54] (by decide +kernel) (by decide +kernel)
set_option maxRecDepth 20000 in
theorem gX9_isAllowed_X1_mayDispute_u89X1 : GoodIn wsX9_isAllowed (va_wsO RX9 89 RX1 "HoldsOnceDenied$Denier" ⟨"HoldsOnceDenied$Denier", "mayDispute", "(IIII)Z"⟩ yX1_mayDispute wsX1_mayDispute) := goodIn_app (goodIn_of _ (by decide +kernel)) ggX9_isAllowed_X1_mayDispute
set_option maxRecDepth 20000 in
theorem ggX9_isAllowed_X2_mayDispute : GoodIn wsX9_isAllowed wsX2_mayDispute := goodIn_r _ [50, 13, 14, 15] (by decide +kernel) (by decide +kernel)
set_option maxRecDepth 20000 in
theorem gX9_isAllowed_X2_mayDispute : GoodIn wsX9_isAllowed (wsV RX9 89 RX2 yX2_mayDispute wsX2_mayDispute) := goodIn_app (goodIn_of _ (by decide +kernel)) ggX9_isAllowed_X2_mayDispute
set_option maxRecDepth 20000 in
theorem ggX9_isAllowed_X3_mayDispute : GoodIn wsX9_isAllowed wsX3_mayDispute := goodIn_r _ [60, 13, 14, 15] (by decide +kernel) (by decide +kernel)
set_option maxRecDepth 20000 in
theorem gX9_isAllowed_X3_mayDispute_u89X3 : GoodIn wsX9_isAllowed (va_wsO RX9 89 RX3 "HoldsOnceDenied$Denier" ⟨"HoldsOnceDenied$Denier", "mayDispute", "(IIII)Z"⟩ yX3_mayDispute wsX3_mayDispute) := goodIn_app (goodIn_of _ (by decide +kernel)) ggX9_isAllowed_X3_mayDispute
set_option maxRecDepth 20000 in
theorem ggX9_isAllowed_X5_mayDispute : GoodIn wsX9_isAllowed wsX5_mayDispute := goodIn_r _ [43, 44, 45, 46, 32, 47, 48, 49, 50, 13, 14, 15, 98, 99, 100, 101, 102, 103, 104, 105, 106, 107, 108, 109, 110, 111, 112, 113] (by decide +kernel) (by decide +kernel)
set_option maxRecDepth 20000 in
theorem gX9_isAllowed_X5_mayDispute_u89X5 : GoodIn wsX9_isAllowed (va_wsO RX9 89 RX5 "HoldsOnceDenied$Denier" ⟨"HoldsOnceDenied$Denier", "mayDispute", "(IIII)Z"⟩ yX5_mayDispute wsX5_mayDispute) := goodIn_app (goodIn_of _ (by decide +kernel)) ggX9_isAllowed_X5_mayDispute
set_option maxRecDepth 20000 in
theorem ggX9_isAllowed_X6_mayDispute : GoodIn wsX9_isAllowed wsX6_mayDispute := goodIn_r _ [65, 66, 67, 68, 69, 70, 58, 59, 60, 13, 14, 15, 98, 99, 100, 101, 102, 103, 104, 105, 106, 107, 108, 109, 110, 111, 112, 113] (by decide +kernel) (by decide +kernel)
set_option maxRecDepth 20000 in
theorem gX9_isAllowed_X6_mayDispute_u89X6 : GoodIn wsX9_isAllowed (va_wsO RX9 89 RX6 "HoldsOnceDenied$Denier" ⟨"HoldsOnceDenied$Denier", "mayDispute", "(IIII)Z"⟩ yX6_mayDispute wsX6_mayDispute) := goodIn_app (goodIn_of _ (by decide +kernel)) ggX9_isAllowed_X6_mayDispute
set_option maxRecDepth 20000 in
theorem ggX9_isAllowed_X7_mayDispute : GoodIn wsX9_isAllowed wsX7_mayDispute := goodIn_r _ [74, 75, 76, 77, 78, 79, 80, 81, 82, 83, 32, 84, 48, 49, 50, 13, 14, 15, 85, 86, 98, 99, 100, 101, 102, 103, 104, 105, 106, 107, 108, 109, 110, 111, 112, 113] (by decide +kernel) (by decide +kernel)
set_option maxRecDepth 20000 in
theorem gX9_isAllowed_X7_mayDispute_u89X7 : GoodIn wsX9_isAllowed (va_wsO RX9 89 RX7 "HoldsOnceDenied$Denier" ⟨"HoldsOnceDenied$Denier", "mayDispute", "(IIII)Z"⟩ yX7_mayDispute wsX7_mayDispute) := goodIn_app (goodIn_of _ (by decide +kernel)) ggX9_isAllowed_X7_mayDispute
set_option maxRecDepth 20000 in
theorem ggX9_isAllowed_X10_mayDispute : GoodIn wsX9_isAllowed wsX10_mayDispute := goodIn_r _ [82, 83, 32, 84, 48, 49, 50, 13, 14, 15, 85, 86] (by decide +kernel) (by decide +kernel)
set_option maxRecDepth 20000 in
theorem gX9_isAllowed_X10_mayDispute_u89X10 : GoodIn wsX9_isAllowed (va_wsO RX9 89 RX10 "HoldsOnceDenied$Denier" ⟨"HoldsOnceDenied$Denier", "mayDispute", "(IIII)Z"⟩ yX10_mayDispute wsX10_mayDispute) := goodIn_app (goodIn_of _ (by decide +kernel)) ggX9_isAllowed_X10_mayDispute
theorem dX9_isAllowed_0 : decode cX9_isAllowed 0 = .ok (.aload_n 0, 1) := by decide +kernel
theorem dX9_isAllowed_1 : decode cX9_isAllowed 1 = .ok (.iload_n 1, 1) := by decide +kernel
theorem dX9_isAllowed_2 : decode cX9_isAllowed 2 = .ok (.invokevirtual 76, 3) := by decide +kernel
theorem dX9_isAllowed_5 : decode cX9_isAllowed 5 = .ok (.astore_n 3, 1) := by decide +kernel
theorem dX9_isAllowed_6 : decode cX9_isAllowed 6 = .ok (.aload_n 3, 1) := by decide +kernel
theorem dX9_isAllowed_7 : decode cX9_isAllowed 7 = .ok (.ifnull 45, 3) := by decide +kernel
theorem dX9_isAllowed_10 : decode cX9_isAllowed 10 = .ok (.aload_n 0, 1) := by decide +kernel
theorem dX9_isAllowed_11 : decode cX9_isAllowed 11 = .ok (.iload_n 1, 1) := by decide +kernel
theorem dX9_isAllowed_12 : decode cX9_isAllowed 12 = .ok (.invokevirtual 80, 3) := by decide +kernel
theorem dX9_isAllowed_15 : decode cX9_isAllowed 15 = .ok (.ifCond .eq 37, 3) := by decide +kernel
theorem dX9_isAllowed_18 : decode cX9_isAllowed 18 = .ok (.aload_n 0, 1) := by decide +kernel
theorem dX9_isAllowed_19 : decode cX9_isAllowed 19 = .ok (.iload_n 2, 1) := by decide +kernel
theorem dX9_isAllowed_20 : decode cX9_isAllowed 20 = .ok (.invokevirtual 62, 3) := by decide +kernel
theorem dX9_isAllowed_23 : decode cX9_isAllowed 23 = .ok (.ifCond .eq 29, 3) := by decide +kernel
theorem dX9_isAllowed_26 : decode cX9_isAllowed 26 = .ok (.aload_n 3, 1) := by decide +kernel
theorem dX9_isAllowed_27 : decode cX9_isAllowed 27 = .ok (.iload_n 2, 1) := by decide +kernel
theorem dX9_isAllowed_28 : decode cX9_isAllowed 28 = .ok (.aload_n 0, 1) := by decide +kernel
theorem dX9_isAllowed_29 : decode cX9_isAllowed 29 = .ok (.getfield 37, 3) := by decide +kernel
theorem dX9_isAllowed_32 : decode cX9_isAllowed 32 = .ok (.aload_n 0, 1) := by decide +kernel
theorem dX9_isAllowed_33 : decode cX9_isAllowed 33 = .ok (.iload_n 1, 1) := by decide +kernel
theorem dX9_isAllowed_34 : decode cX9_isAllowed 34 = .ok (.invokevirtual 83, 3) := by decide +kernel
theorem dX9_isAllowed_37 : decode cX9_isAllowed 37 = .ok (.aload_n 0, 1) := by decide +kernel
theorem dX9_isAllowed_38 : decode cX9_isAllowed 38 = .ok (.iload_n 2, 1) := by decide +kernel
theorem dX9_isAllowed_39 : decode cX9_isAllowed 39 = .ok (.invokevirtual 86, 3) := by decide +kernel
theorem dX9_isAllowed_42 : decode cX9_isAllowed 42 = .ok (.invokevirtual 89, 3) := by decide +kernel
theorem dX9_isAllowed_45 : decode cX9_isAllowed 45 = .ok (.ifCond .eq 7, 3) := by decide +kernel
theorem dX9_isAllowed_48 : decode cX9_isAllowed 48 = .ok (.iconst 1, 1) := by decide +kernel
theorem dX9_isAllowed_49 : decode cX9_isAllowed 49 = .ok (.goto 4, 3) := by decide +kernel
theorem dX9_isAllowed_52 : decode cX9_isAllowed 52 = .ok (.iconst 0, 1) := by decide +kernel
theorem dX9_isAllowed_53 : decode cX9_isAllowed 53 = .ok (.ireturn, 1) := by decide +kernel
set_option maxRecDepth 20000 in
theorem ggX9_wouldSilence_X9_memberAt : GoodIn wsX9_wouldSilence wsX9_memberAt := goodIn_r _ [6, 7, 47, 48, 49, 50, 51, 52, 53, 54, 55, 56] (by decide +kernel) (by decide +kernel)
set_option maxRecDepth 20000 in
theorem gX9_wouldSilence_X9_memberAt : GoodIn wsX9_wouldSilence (wsV RX9 76 RX9 yX9_memberAt wsX9_memberAt) := goodIn_app (goodIn_of _ (by decide +kernel)) ggX9_wouldSilence_X9_memberAt
set_option maxRecDepth 20000 in
theorem ggX9_wouldSilence_X9_knownTo : GoodIn wsX9_wouldSilence wsX9_knownTo := goodIn_r _ [11, 12, 47, 48, 49, 50, 51, 52, 53, 54, 55, 56] (by decide +kernel) (by decide +kernel)
set_option maxRecDepth 20000 in
theorem gX9_wouldSilence_X9_knownTo : GoodIn wsX9_wouldSilence (wsV RX9 83 RX9 yX9_knownTo wsX9_knownTo) := goodIn_app (goodIn_of _ (by decide +kernel)) ggX9_wouldSilence_X9_knownTo
set_option maxRecDepth 20000 in
theorem ggX9_wouldSilence_X9_needsOf : GoodIn wsX9_wouldSilence wsX9_needsOf := goodIn_r _ [16, 17, 47, 48, 49, 50, 51, 52, 53, 54, 55, 56] (by decide +kernel) (by decide +kernel)
set_option maxRecDepth 20000 in
theorem gX9_wouldSilence_X9_needsOf : GoodIn wsX9_wouldSilence (wsV RX9 86 RX9 yX9_needsOf wsX9_needsOf) := goodIn_app (goodIn_of _ (by decide +kernel)) ggX9_wouldSilence_X9_needsOf
set_option maxRecDepth 20000 in
theorem ggX9_wouldSilence_X9_isOddDay : GoodIn wsX9_wouldSilence wsX9_isOddDay := goodIn_r _ [21, 22, 47, 48, 49, 50, 51, 52, 53, 54, 55, 56] (by decide +kernel) (by decide +kernel)
set_option maxRecDepth 20000 in
theorem gX9_wouldSilence_X9_isOddDay : GoodIn wsX9_wouldSilence (wsV RX9 93 RX9 yX9_isOddDay wsX9_isOddDay) := goodIn_app (goodIn_of _ (by decide +kernel)) ggX9_wouldSilence_X9_isOddDay
set_option maxRecDepth 20000 in
theorem ggX9_wouldSilence_X0_isSilenced : GoodIn wsX9_wouldSilence wsX0_isSilenced := goodIn_r _ [29] (by decide +kernel) (by decide +kernel)
set_option maxRecDepth 20000 in
theorem gX9_wouldSilence_X0_isSilenced_u97X0 : GoodIn wsX9_wouldSilence (va_wsO RX9 97 RX0 "HoldsOnceDenied$Denier" ⟨"HoldsOnceDenied$Denier", "isSilenced", "(IIIZ)Z"⟩ yX0_isSilenced wsX0_isSilenced) := goodIn_app (goodIn_of _ (by decide +kernel)) ggX9_wouldSilence_X0_isSilenced
set_option maxRecDepth 20000 in
theorem ggX9_wouldSilence_X1_isSilenced : GoodIn wsX9_wouldSilence wsX1_isSilenced := goodIn_r _ [34] (by decide +kernel) (by decide +kernel)
set_option maxRecDepth 20000 in
theorem gX9_wouldSilence_X1_isSilenced_u97X1 : GoodIn wsX9_wouldSilence (va_wsO RX9 97 RX1 "HoldsOnceDenied$Denier" ⟨"HoldsOnceDenied$Denier", "isSilenced", "(IIIZ)Z"⟩ yX1_isSilenced wsX1_isSilenced) := goodIn_app (goodIn_of _ (by decide +kernel)) ggX9_wouldSilence_X1_isSilenced
set_option maxRecDepth 20000 in
theorem ggX9_wouldSilence_X2_isSilenced : GoodIn wsX9_wouldSilence wsX2_isSilenced := goodIn_r _ [30, 39, 40, 41] (by decide +kernel) (by decide +kernel)
set_option maxRecDepth 20000 in
theorem gX9_wouldSilence_X2_isSilenced : GoodIn wsX9_wouldSilence (wsV RX9 97 RX2 yX2_isSilenced wsX2_isSilenced) := goodIn_app (goodIn_of _ (by decide +kernel)) ggX9_wouldSilence_X2_isSilenced
set_option maxRecDepth 20000 in
theorem gX9_wouldSilence_X2_isSilenced_u97X3 : GoodIn wsX9_wouldSilence (va_wsU RX9 97 RX3 "HoldsOnceDenied$Denier" ⟨"HoldsOnceDenied$Denier", "isSilenced", "(IIIZ)Z"⟩ yX2_isSilenced wsX2_isSilenced) := goodIn_app (goodIn_of _ (by decide +kernel)) ggX9_wouldSilence_X2_isSilenced
set_option maxRecDepth 20000 in
theorem gX9_wouldSilence_X2_isSilenced_u97X5 : GoodIn wsX9_wouldSilence (va_wsU RX9 97 RX5 "HoldsOnceDenied$Denier" ⟨"HoldsOnceDenied$Denier", "isSilenced", "(IIIZ)Z"⟩ yX2_isSilenced wsX2_isSilenced) := goodIn_app (goodIn_of _ (by decide +kernel)) ggX9_wouldSilence_X2_isSilenced
set_option maxRecDepth 20000 in
theorem gX9_wouldSilence_X2_isSilenced_u97X6 : GoodIn wsX9_wouldSilence (va_wsU RX9 97 RX6 "HoldsOnceDenied$Denier" ⟨"HoldsOnceDenied$Denier", "isSilenced", "(IIIZ)Z"⟩ yX2_isSilenced wsX2_isSilenced) := goodIn_app (goodIn_of _ (by decide +kernel)) ggX9_wouldSilence_X2_isSilenced
set_option maxRecDepth 20000 in
theorem gX9_wouldSilence_X2_isSilenced_u97X7 : GoodIn wsX9_wouldSilence (va_wsU RX9 97 RX7 "HoldsOnceDenied$Denier" ⟨"HoldsOnceDenied$Denier", "isSilenced", "(IIIZ)Z"⟩ yX2_isSilenced wsX2_isSilenced) := goodIn_app (goodIn_of _ (by decide +kernel)) ggX9_wouldSilence_X2_isSilenced
set_option maxRecDepth 20000 in
theorem gX9_wouldSilence_X2_isSilenced_u97X10 : GoodIn wsX9_wouldSilence (va_wsU RX9 97 RX10 "HoldsOnceDenied$Denier" ⟨"HoldsOnceDenied$Denier", "isSilenced", "(IIIZ)Z"⟩ yX2_isSilenced wsX2_isSilenced) := goodIn_app (goodIn_of _ (by decide +kernel)) ggX9_wouldSilence_X2_isSilenced
theorem dX9_wouldSilence_0 : decode cX9_wouldSilence 0 = .ok (.aload_n 0, 1) := by decide +kernel
theorem dX9_wouldSilence_1 : decode cX9_wouldSilence 1 = .ok (.iload_n 1, 1) := by decide +kernel
theorem dX9_wouldSilence_2 : decode cX9_wouldSilence 2 = .ok (.invokevirtual 76, 3) := by decide +kernel
theorem dX9_wouldSilence_5 : decode cX9_wouldSilence 5 = .ok (.astore_n 3, 1) := by decide +kernel
theorem dX9_wouldSilence_6 : decode cX9_wouldSilence 6 = .ok (.aload_n 3, 1) := by decide +kernel
theorem dX9_wouldSilence_7 : decode cX9_wouldSilence 7 = .ok (.ifnull 32, 3) := by decide +kernel
theorem dX9_wouldSilence_10 : decode cX9_wouldSilence 10 = .ok (.aload_n 3, 1) := by decide +kernel
theorem dX9_wouldSilence_11 : decode cX9_wouldSilence 11 = .ok (.aload_n 0, 1) := by decide +kernel
theorem dX9_wouldSilence_12 : decode cX9_wouldSilence 12 = .ok (.getfield 37, 3) := by decide +kernel
theorem dX9_wouldSilence_15 : decode cX9_wouldSilence 15 = .ok (.aload_n 0, 1) := by decide +kernel
theorem dX9_wouldSilence_16 : decode cX9_wouldSilence 16 = .ok (.iload_n 1, 1) := by decide +kernel
theorem dX9_wouldSilence_17 : decode cX9_wouldSilence 17 = .ok (.invokevirtual 83, 3) := by decide +kernel
theorem dX9_wouldSilence_20 : decode cX9_wouldSilence 20 = .ok (.aload_n 0, 1) := by decide +kernel
theorem dX9_wouldSilence_21 : decode cX9_wouldSilence 21 = .ok (.iload_n 2, 1) := by decide +kernel
theorem dX9_wouldSilence_22 : decode cX9_wouldSilence 22 = .ok (.invokevirtual 86, 3) := by decide +kernel
theorem dX9_wouldSilence_25 : decode cX9_wouldSilence 25 = .ok (.aload_n 0, 1) := by decide +kernel
theorem dX9_wouldSilence_26 : decode cX9_wouldSilence 26 = .ok (.invokevirtual 93, 3) := by decide +kernel
theorem dX9_wouldSilence_29 : decode cX9_wouldSilence 29 = .ok (.invokevirtual 97, 3) := by decide +kernel
theorem dX9_wouldSilence_32 : decode cX9_wouldSilence 32 = .ok (.ifCond .eq 7, 3) := by decide +kernel
theorem dX9_wouldSilence_35 : decode cX9_wouldSilence 35 = .ok (.iconst 1, 1) := by decide +kernel
theorem dX9_wouldSilence_36 : decode cX9_wouldSilence 36 = .ok (.goto 4, 3) := by decide +kernel
theorem dX9_wouldSilence_39 : decode cX9_wouldSilence 39 = .ok (.iconst 0, 1) := by decide +kernel
theorem dX9_wouldSilence_40 : decode cX9_wouldSilence 40 = .ok (.ireturn, 1) := by decide +kernel
set_option maxRecDepth 20000 in
theorem ggX9_allowedTo_X9_isAllowed : GoodIn wsX9_allowedTo wsX9_isAllowed := goodIn_r _ [6, 7, 8, 9, 10, 5, 11, 12, 13, 14, 15, 16, 17, 18, 19, 20, 21, 22, 23, 24, 1, 25, 26, 27, 28, 29, 30, 31, 32, 33, 34, 35, 36, 37, 38, 39, 40, 41, 42, 43, 44, 45, 46, 47, 48, 49, 50, 51, 52, 53, 54, 55, 56, 57, 58, 59, 60, 61, 62, 63, 64, 65, 66, 67, 68, 69, 70, 71, 72, 73, 74, 75, 76, 77, 78, 79, 80, 81, 82, 83, 84, 85, 86, 87, 88, 89, 90, 91, 94, 95, 96, 97, 98, 99, 100, 101, 102, 103, 104, 105, 106, 107, 108, 109, 110, 111, 112, 113, 114, 115, 116, 117, 118, 119] (by decide +kernel) (by decide +kernel)
set_option maxRecDepth 20000 in
theorem gX9_allowedTo_X9_isAllowed : GoodIn wsX9_allowedTo (wsV RX9 101 RX9 yX9_isAllowed wsX9_isAllowed) := goodIn_app (goodIn_of _ (by decide +kernel)) ggX9_allowedTo_X9_isAllowed
set_option maxRecDepth 20000 in
theorem ggX9_allowedTo_X11_bit : GoodIn wsX9_allowedTo wsX11_bit := goodIn_r _ [93] (by decide +kernel) (by decide +kernel)
set_option maxRecDepth 20000 in
theorem gX9_allowedTo_X11_bit_n66 : GoodIn wsX9_allowedTo (wsX11_bit) := ggX9_allowedTo_X11_bit
theorem dX9_allowedTo_0 : decode cX9_allowedTo 0 = .ok (.iconst 0, 1) := by decide +kernel
theorem dX9_allowedTo_1 : decode cX9_allowedTo 1 = .ok (.istore_n 2, 1) := by decide +kernel
theorem dX9_allowedTo_2 : decode cX9_allowedTo 2 = .ok (.iconst 0, 1) := by decide +kernel
theorem dX9_allowedTo_3 : decode cX9_allowedTo 3 = .ok (.istore_n 3, 1) := by decide +kernel
theorem dX9_allowedTo_4 : decode cX9_allowedTo 4 = .ok (.iload_n 3, 1) := by decide +kernel
theorem dX9_allowedTo_5 : decode cX9_allowedTo 5 = .ok (.aload_n 0, 1) := by decide +kernel
theorem dX9_allowedTo_6 : decode cX9_allowedTo 6 = .ok (.getfield 30, 3) := by decide +kernel
theorem dX9_allowedTo_9 : decode cX9_allowedTo 9 = .ok (.if_icmp .ge 25, 3) := by decide +kernel
theorem dX9_allowedTo_12 : decode cX9_allowedTo 12 = .ok (.aload_n 0, 1) := by decide +kernel
theorem dX9_allowedTo_13 : decode cX9_allowedTo 13 = .ok (.iload_n 1, 1) := by decide +kernel
theorem dX9_allowedTo_14 : decode cX9_allowedTo 14 = .ok (.iload_n 3, 1) := by decide +kernel
theorem dX9_allowedTo_15 : decode cX9_allowedTo 15 = .ok (.invokevirtual 101, 3) := by decide +kernel
theorem dX9_allowedTo_18 : decode cX9_allowedTo 18 = .ok (.ifCond .eq 10, 3) := by decide +kernel
theorem dX9_allowedTo_21 : decode cX9_allowedTo 21 = .ok (.iload_n 2, 1) := by decide +kernel
theorem dX9_allowedTo_22 : decode cX9_allowedTo 22 = .ok (.iload_n 3, 1) := by decide +kernel
theorem dX9_allowedTo_23 : decode cX9_allowedTo 23 = .ok (.invokestatic 66, 3) := by decide +kernel
theorem dX9_allowedTo_26 : decode cX9_allowedTo 26 = .ok (.ior, 1) := by decide +kernel
theorem dX9_allowedTo_27 : decode cX9_allowedTo 27 = .ok (.istore_n 2, 1) := by decide +kernel
theorem dX9_allowedTo_28 : decode cX9_allowedTo 28 = .ok (.iinc 3 1, 3) := by decide +kernel
theorem dX9_allowedTo_31 : decode cX9_allowedTo 31 = .ok (.goto (-27), 3) := by decide +kernel
theorem dX9_allowedTo_34 : decode cX9_allowedTo 34 = .ok (.iload_n 2, 1) := by decide +kernel
theorem dX9_allowedTo_35 : decode cX9_allowedTo 35 = .ok (.ireturn, 1) := by decide +kernel
set_option maxRecDepth 20000 in
theorem ggX9_silencingFor_X9_memberAt : GoodIn wsX9_silencingFor wsX9_memberAt := goodIn_r _ [7, 8, 113, 114, 115, 116, 117, 118, 119, 120, 121, 122] (by decide +kernel) (by decide +kernel)
set_option maxRecDepth 20000 in
theorem gX9_silencingFor_X9_memberAt : GoodIn wsX9_silencingFor (wsV RX9 76 RX9 yX9_memberAt wsX9_memberAt) := goodIn_app (goodIn_of _ (by decide +kernel)) ggX9_silencingFor_X9_memberAt
set_option maxRecDepth 20000 in
theorem ggX9_silencingFor_X9_isAlive : GoodIn wsX9_silencingFor wsX9_isAlive := goodIn_r _ [12, 13, 14, 15, 16, 113, 114, 115, 116, 117, 118, 119, 120, 121, 122] (by decide +kernel) (by decide +kernel)
set_option maxRecDepth 20000 in
theorem gX9_silencingFor_X9_isAlive : GoodIn wsX9_silencingFor (wsV RX9 80 RX9 yX9_isAlive wsX9_isAlive) := goodIn_app (goodIn_of _ (by decide +kernel)) ggX9_silencingFor_X9_isAlive
set_option maxRecDepth 20000 in
theorem ggX9_silencingFor_X9_knownTo : GoodIn wsX9_silencingFor wsX9_knownTo := goodIn_r _ [20, 21, 113, 114, 115, 116, 117, 118, 119, 120, 121, 122] (by decide +kernel) (by decide +kernel)
set_option maxRecDepth 20000 in
theorem gX9_silencingFor_X9_knownTo : GoodIn wsX9_silencingFor (wsV RX9 83 RX9 yX9_knownTo wsX9_knownTo) := goodIn_app (goodIn_of _ (by decide +kernel)) ggX9_silencingFor_X9_knownTo
set_option maxRecDepth 20000 in
theorem ggX9_silencingFor_X9_needsOf : GoodIn wsX9_silencingFor wsX9_needsOf := goodIn_r _ [25, 26, 113, 114, 115, 116, 117, 118, 119, 120, 121, 122] (by decide +kernel) (by decide +kernel)
set_option maxRecDepth 20000 in
theorem gX9_silencingFor_X9_needsOf : GoodIn wsX9_silencingFor (wsV RX9 86 RX9 yX9_needsOf wsX9_needsOf) := goodIn_app (goodIn_of _ (by decide +kernel)) ggX9_silencingFor_X9_needsOf
set_option maxRecDepth 20000 in
theorem ggX9_silencingFor_X9_isTrue : GoodIn wsX9_silencingFor wsX9_isTrue := goodIn_r _ [30, 2, 14, 15, 16, 113, 114, 115, 116, 117, 118, 119, 120, 121, 122] (by decide +kernel) (by decide +kernel)
set_option maxRecDepth 20000 in
theorem gX9_silencingFor_X9_isTrue : GoodIn wsX9_silencingFor (wsV RX9 69 RX9 yX9_isTrue wsX9_isTrue) := goodIn_app (goodIn_of _ (by decide +kernel)) ggX9_silencingFor_X9_isTrue
set_option maxRecDepth 20000 in
theorem ggX9_silencingFor_X0_mayDispute : GoodIn wsX9_silencingFor wsX0_mayDispute := goodIn_r _ [37, 38, 39, 40, 41, 42, 43, 44, 45, 46, 32, 47, 48, 49, 50, 14, 15, 16, 123, 124, 125, 126, 127, 128, 129, 130, 131, 132, 133, 134, 135, 136, 137, 138] (by decide +kernel) (by decide +kernel)
set_option maxRecDepth 20000 in
theorem gX9_silencingFor_X0_mayDispute_u89X0 : GoodIn wsX9_silencingFor (va_wsO RX9 89 RX0 "HoldsOnceDenied$Denier" ⟨"HoldsOnceDenied$Denier", "mayDispute", "(IIII)Z"⟩ yX0_mayDispute wsX0_mayDispute) := goodIn_app (goodIn_of _ (by decide +kernel)) ggX9_silencingFor_X0_mayDispute
set_option maxRecDepth 20000 in
theorem ggX9_silencingFor_X1_mayDispute : GoodIn wsX9_silencingFor wsX1_mayDispute := goodIn_r _ [54] (by decide +kernel) (by decide +kernel)
set_option maxRecDepth 20000 in
theorem gX9_silencingFor_X1_mayDispute_u89X1 : GoodIn wsX9_silencingFor (va_wsO RX9 89 RX1 "HoldsOnceDenied$Denier" ⟨"HoldsOnceDenied$Denier", "mayDispute", "(IIII)Z"⟩ yX1_mayDispute wsX1_mayDispute) := goodIn_app (goodIn_of _ (by decide +kernel)) ggX9_silencingFor_X1_mayDispute
set_option maxRecDepth 20000 in
theorem ggX9_silencingFor_X2_mayDispute : GoodIn wsX9_silencingFor wsX2_mayDispute := goodIn_r _ [50, 14, 15, 16] (by decide +kernel) (by decide +kernel)
set_option maxRecDepth 20000 in
theorem gX9_silencingFor_X2_mayDispute : GoodIn wsX9_silencingFor (wsV RX9 89 RX2 yX2_mayDispute wsX2_mayDispute) := goodIn_app (goodIn_of _ (by decide +kernel)) ggX9_silencingFor_X2_mayDispute
set_option maxRecDepth 20000 in
theorem ggX9_silencingFor_X3_mayDispute : GoodIn wsX9_silencingFor wsX3_mayDispute := goodIn_r _ [60, 14, 15, 16] (by decide +kernel) (by decide +kernel)
set_option maxRecDepth 20000 in
theorem gX9_silencingFor_X3_mayDispute_u89X3 : GoodIn wsX9_silencingFor (va_wsO RX9 89 RX3 "HoldsOnceDenied$Denier" ⟨"HoldsOnceDenied$Denier", "mayDispute", "(IIII)Z"⟩ yX3_mayDispute wsX3_mayDispute) := goodIn_app (goodIn_of _ (by decide +kernel)) ggX9_silencingFor_X3_mayDispute
set_option maxRecDepth 20000 in
theorem ggX9_silencingFor_X5_mayDispute : GoodIn wsX9_silencingFor wsX5_mayDispute := goodIn_r _ [43, 44, 45, 46, 32, 47, 48, 49, 50, 14, 15, 16, 123, 124, 125, 126, 127, 128, 129, 130, 131, 132, 133, 134, 135, 136, 137, 138] (by decide +kernel) (by decide +kernel)
set_option maxRecDepth 20000 in
theorem gX9_silencingFor_X5_mayDispute_u89X5 : GoodIn wsX9_silencingFor (va_wsO RX9 89 RX5 "HoldsOnceDenied$Denier" ⟨"HoldsOnceDenied$Denier", "mayDispute", "(IIII)Z"⟩ yX5_mayDispute wsX5_mayDispute) := goodIn_app (goodIn_of _ (by decide +kernel)) ggX9_silencingFor_X5_mayDispute
set_option maxRecDepth 20000 in
theorem ggX9_silencingFor_X6_mayDispute : GoodIn wsX9_silencingFor wsX6_mayDispute := goodIn_r _ [65, 66, 67, 68, 69, 70, 58, 59, 60, 14, 15, 16, 123, 124, 125, 126, 127, 128, 129, 130, 131, 132, 133, 134, 135, 136, 137, 138] (by decide +kernel) (by decide +kernel)
set_option maxRecDepth 20000 in
theorem gX9_silencingFor_X6_mayDispute_u89X6 : GoodIn wsX9_silencingFor (va_wsO RX9 89 RX6 "HoldsOnceDenied$Denier" ⟨"HoldsOnceDenied$Denier", "mayDispute", "(IIII)Z"⟩ yX6_mayDispute wsX6_mayDispute) := goodIn_app (goodIn_of _ (by decide +kernel)) ggX9_silencingFor_X6_mayDispute
set_option maxRecDepth 20000 in
theorem ggX9_silencingFor_X7_mayDispute : GoodIn wsX9_silencingFor wsX7_mayDispute := goodIn_r _ [74, 75, 76, 77, 78, 79, 80, 81, 82, 83, 32, 84, 48, 49, 50, 14, 15, 16, 85, 86, 123, 124, 125, 126, 127, 128, 129, 130, 131, 132, 133, 134, 135, 136, 137, 138] (by decide +kernel) (by decide +kernel)
set_option maxRecDepth 20000 in
theorem gX9_silencingFor_X7_mayDispute_u89X7 : GoodIn wsX9_silencingFor (va_wsO RX9 89 RX7 "HoldsOnceDenied$Denier" ⟨"HoldsOnceDenied$Denier", "mayDispute", "(IIII)Z"⟩ yX7_mayDispute wsX7_mayDispute) := goodIn_app (goodIn_of _ (by decide +kernel)) ggX9_silencingFor_X7_mayDispute
set_option maxRecDepth 20000 in
theorem ggX9_silencingFor_X10_mayDispute : GoodIn wsX9_silencingFor wsX10_mayDispute := goodIn_r _ [82, 83, 32, 84, 48, 49, 50, 14, 15, 16, 85, 86] (by decide +kernel) (by decide +kernel)
set_option maxRecDepth 20000 in
theorem gX9_silencingFor_X10_mayDispute_u89X10 : GoodIn wsX9_silencingFor (va_wsO RX9 89 RX10 "HoldsOnceDenied$Denier" ⟨"HoldsOnceDenied$Denier", "mayDispute", "(IIII)Z"⟩ yX10_mayDispute wsX10_mayDispute) := goodIn_app (goodIn_of _ (by decide +kernel)) ggX9_silencingFor_X10_mayDispute
set_option maxRecDepth 20000 in
theorem ggX9_silencingFor_X9_isOddDay : GoodIn wsX9_silencingFor wsX9_isOddDay := goodIn_r _ [91, 92, 113, 114, 115, 116, 117, 118, 119, 120, 121, 122] (by decide +kernel) (by decide +kernel)
set_option maxRecDepth 20000 in
theorem gX9_silencingFor_X9_isOddDay : GoodIn wsX9_silencingFor (wsV RX9 93 RX9 yX9_isOddDay wsX9_isOddDay) := goodIn_app (goodIn_of _ (by decide +kernel)) ggX9_silencingFor_X9_isOddDay
set_option maxRecDepth 20000 in
theorem ggX9_silencingFor_X0_isSilenced : GoodIn wsX9_silencingFor wsX0_isSilenced := goodIn_r _ [98] (by decide +kernel) (by decide +kernel)
set_option maxRecDepth 20000 in
theorem gX9_silencingFor_X0_isSilenced_u97X0 : GoodIn wsX9_silencingFor (va_wsO RX9 97 RX0 "HoldsOnceDenied$Denier" ⟨"HoldsOnceDenied$Denier", "isSilenced", "(IIIZ)Z"⟩ yX0_isSilenced wsX0_isSilenced) := goodIn_app (goodIn_of _ (by decide +kernel)) ggX9_silencingFor_X0_isSilenced
set_option maxRecDepth 20000 in
theorem ggX9_silencingFor_X1_isSilenced : GoodIn wsX9_silencingFor wsX1_isSilenced := goodIn_r _ [102] (by decide +kernel) (by decide +kernel)
set_option maxRecDepth 20000 in
theorem gX9_silencingFor_X1_isSilenced_u97X1 : GoodIn wsX9_silencingFor (va_wsO RX9 97 RX1 "HoldsOnceDenied$Denier" ⟨"HoldsOnceDenied$Denier", "isSilenced", "(IIIZ)Z"⟩ yX1_isSilenced wsX1_isSilenced) := goodIn_app (goodIn_of _ (by decide +kernel)) ggX9_silencingFor_X1_isSilenced
set_option maxRecDepth 20000 in
theorem ggX9_silencingFor_X2_isSilenced : GoodIn wsX9_silencingFor wsX2_isSilenced := goodIn_r _ [99, 85, 15, 86] (by decide +kernel) (by decide +kernel)
set_option maxRecDepth 20000 in
theorem gX9_silencingFor_X2_isSilenced : GoodIn wsX9_silencingFor (wsV RX9 97 RX2 yX2_isSilenced wsX2_isSilenced) := goodIn_app (goodIn_of _ (by decide +kernel)) ggX9_silencingFor_X2_isSilenced
set_option maxRecDepth 20000 in
theorem gX9_silencingFor_X2_isSilenced_u97X3 : GoodIn wsX9_silencingFor (va_wsU RX9 97 RX3 "HoldsOnceDenied$Denier" ⟨"HoldsOnceDenied$Denier", "isSilenced", "(IIIZ)Z"⟩ yX2_isSilenced wsX2_isSilenced) := goodIn_app (goodIn_of _ (by decide +kernel)) ggX9_silencingFor_X2_isSilenced
set_option maxRecDepth 20000 in
theorem gX9_silencingFor_X2_isSilenced_u97X5 : GoodIn wsX9_silencingFor (va_wsU RX9 97 RX5 "HoldsOnceDenied$Denier" ⟨"HoldsOnceDenied$Denier", "isSilenced", "(IIIZ)Z"⟩ yX2_isSilenced wsX2_isSilenced) := goodIn_app (goodIn_of _ (by decide +kernel)) ggX9_silencingFor_X2_isSilenced
set_option maxRecDepth 20000 in
theorem gX9_silencingFor_X2_isSilenced_u97X6 : GoodIn wsX9_silencingFor (va_wsU RX9 97 RX6 "HoldsOnceDenied$Denier" ⟨"HoldsOnceDenied$Denier", "isSilenced", "(IIIZ)Z"⟩ yX2_isSilenced wsX2_isSilenced) := goodIn_app (goodIn_of _ (by decide +kernel)) ggX9_silencingFor_X2_isSilenced
set_option maxRecDepth 20000 in
theorem gX9_silencingFor_X2_isSilenced_u97X7 : GoodIn wsX9_silencingFor (va_wsU RX9 97 RX7 "HoldsOnceDenied$Denier" ⟨"HoldsOnceDenied$Denier", "isSilenced", "(IIIZ)Z"⟩ yX2_isSilenced wsX2_isSilenced) := goodIn_app (goodIn_of _ (by decide +kernel)) ggX9_silencingFor_X2_isSilenced
set_option maxRecDepth 20000 in
theorem gX9_silencingFor_X2_isSilenced_u97X10 : GoodIn wsX9_silencingFor (va_wsU RX9 97 RX10 "HoldsOnceDenied$Denier" ⟨"HoldsOnceDenied$Denier", "isSilenced", "(IIIZ)Z"⟩ yX2_isSilenced wsX2_isSilenced) := goodIn_app (goodIn_of _ (by decide +kernel)) ggX9_silencingFor_X2_isSilenced
set_option maxRecDepth 20000 in
theorem ggX9_silencingFor_X11_bit : GoodIn wsX9_silencingFor wsX11_bit := goodIn_r _ [112] (by decide +kernel) (by decide +kernel)
set_option maxRecDepth 20000 in
theorem gX9_silencingFor_X11_bit_n66 : GoodIn wsX9_silencingFor (wsX11_bit) := ggX9_silencingFor_X11_bit
theorem dX9_silencingFor_0 : decode cX9_silencingFor 0 = .ok (.aload_n 0, 1) := by decide +kernel
theorem dX9_silencingFor_1 : decode cX9_silencingFor 1 = .ok (.iload_n 1, 1) := by decide +kernel
theorem dX9_silencingFor_2 : decode cX9_silencingFor 2 = .ok (.invokevirtual 76, 3) := by decide +kernel
theorem dX9_silencingFor_5 : decode cX9_silencingFor 5 = .ok (.astore_n 2, 1) := by decide +kernel
theorem dX9_silencingFor_6 : decode cX9_silencingFor 6 = .ok (.aload_n 2, 1) := by decide +kernel
theorem dX9_silencingFor_7 : decode cX9_silencingFor 7 = .ok (.ifnull 11, 3) := by decide +kernel
theorem dX9_silencingFor_10 : decode cX9_silencingFor 10 = .ok (.aload_n 0, 1) := by decide +kernel
theorem dX9_silencingFor_11 : decode cX9_silencingFor 11 = .ok (.iload_n 1, 1) := by decide +kernel
theorem dX9_silencingFor_12 : decode cX9_silencingFor 12 = .ok (.invokevirtual 80, 3) := by decide +kernel
theorem dX9_silencingFor_15 : decode cX9_silencingFor 15 = .ok (.ifCond .ne 5, 3) := by decide +kernel
theorem dX9_silencingFor_18 : decode cX9_silencingFor 18 = .ok (.iconst 0, 1) := by decide +kernel
theorem dX9_silencingFor_19 : decode cX9_silencingFor 19 = .ok (.ireturn, 1) := by decide +kernel
theorem dX9_silencingFor_20 : decode cX9_silencingFor 20 = .ok (.iconst 0, 1) := by decide +kernel
theorem dX9_silencingFor_21 : decode cX9_silencingFor 21 = .ok (.istore_n 3, 1) := by decide +kernel
theorem dX9_silencingFor_22 : decode cX9_silencingFor 22 = .ok (.aload_n 0, 1) := by decide +kernel
theorem dX9_silencingFor_23 : decode cX9_silencingFor 23 = .ok (.iload_n 1, 1) := by decide +kernel
theorem dX9_silencingFor_24 : decode cX9_silencingFor 24 = .ok (.invokevirtual 83, 3) := by decide +kernel
theorem dX9_silencingFor_27 : decode cX9_silencingFor 27 = .ok (.istore 4, 2) := by decide +kernel
theorem dX9_silencingFor_29 : decode cX9_silencingFor 29 = .ok (.iconst 0, 1) := by decide +kernel
theorem dX9_silencingFor_30 : decode cX9_silencingFor 30 = .ok (.istore 5, 2) := by decide +kernel
theorem dX9_silencingFor_32 : decode cX9_silencingFor 32 = .ok (.iload 5, 2) := by decide +kernel
theorem dX9_silencingFor_34 : decode cX9_silencingFor 34 = .ok (.aload_n 0, 1) := by decide +kernel
theorem dX9_silencingFor_35 : decode cX9_silencingFor 35 = .ok (.getfield 30, 3) := by decide +kernel
theorem dX9_silencingFor_38 : decode cX9_silencingFor 38 = .ok (.if_icmp .ge 70, 3) := by decide +kernel
theorem dX9_silencingFor_41 : decode cX9_silencingFor 41 = .ok (.aload_n 0, 1) := by decide +kernel
theorem dX9_silencingFor_42 : decode cX9_silencingFor 42 = .ok (.iload 5, 2) := by decide +kernel
theorem dX9_silencingFor_44 : decode cX9_silencingFor 44 = .ok (.invokevirtual 86, 3) := by decide +kernel
theorem dX9_silencingFor_47 : decode cX9_silencingFor 47 = .ok (.istore 6, 2) := by decide +kernel
theorem dX9_silencingFor_49 : decode cX9_silencingFor 49 = .ok (.aload_n 0, 1) := by decide +kernel
theorem dX9_silencingFor_50 : decode cX9_silencingFor 50 = .ok (.iload 5, 2) := by decide +kernel
theorem dX9_silencingFor_52 : decode cX9_silencingFor 52 = .ok (.invokevirtual 69, 3) := by decide +kernel
theorem dX9_silencingFor_55 : decode cX9_silencingFor 55 = .ok (.ifCond .ne 47, 3) := by decide +kernel
theorem dX9_silencingFor_58 : decode cX9_silencingFor 58 = .ok (.aload_n 2, 1) := by decide +kernel
theorem dX9_silencingFor_59 : decode cX9_silencingFor 59 = .ok (.iload 5, 2) := by decide +kernel
theorem dX9_silencingFor_61 : decode cX9_silencingFor 61 = .ok (.aload_n 0, 1) := by decide +kernel
theorem dX9_silencingFor_62 : decode cX9_silencingFor 62 = .ok (.getfield 37, 3) := by decide +kernel
theorem dX9_silencingFor_65 : decode cX9_silencingFor 65 = .ok (.iload 4, 2) := by decide +kernel
theorem dX9_silencingFor_67 : decode cX9_silencingFor 67 = .ok (.iload 6, 2) := by decide +kernel
theorem dX9_silencingFor_69 : decode cX9_silencingFor 69 = .ok (.invokevirtual 89, 3) := by decide +kernel
theorem dX9_silencingFor_72 : decode cX9_silencingFor 72 = .ok (.ifCond .eq 30, 3) := by decide +kernel
theorem dX9_silencingFor_75 : decode cX9_silencingFor 75 = .ok (.aload_n 2, 1) := by decide +kernel
theorem dX9_silencingFor_76 : decode cX9_silencingFor 76 = .ok (.aload_n 0, 1) := by decide +kernel
theorem dX9_silencingFor_77 : decode cX9_silencingFor 77 = .ok (.getfield 37, 3) := by decide +kernel
theorem dX9_silencingFor_80 : decode cX9_silencingFor 80 = .ok (.iload 4, 2) := by decide +kernel
theorem dX9_silencingFor_82 : decode cX9_silencingFor 82 = .ok (.iload 6, 2) := by decide +kernel
theorem dX9_silencingFor_84 : decode cX9_silencingFor 84 = .ok (.aload_n 0, 1) := by decide +kernel
theorem dX9_silencingFor_85 : decode cX9_silencingFor 85 = .ok (.invokevirtual 93, 3) := by decide +kernel
theorem dX9_silencingFor_88 : decode cX9_silencingFor 88 = .ok (.invokevirtual 97, 3) := by decide +kernel
theorem dX9_silencingFor_91 : decode cX9_silencingFor 91 = .ok (.ifCond .eq 11, 3) := by decide +kernel
theorem dX9_silencingFor_94 : decode cX9_silencingFor 94 = .ok (.iload_n 3, 1) := by decide +kernel
theorem dX9_silencingFor_95 : decode cX9_silencingFor 95 = .ok (.iload 5, 2) := by decide +kernel
theorem dX9_silencingFor_97 : decode cX9_silencingFor 97 = .ok (.invokestatic 66, 3) := by decide +kernel
theorem dX9_silencingFor_100 : decode cX9_silencingFor 100 = .ok (.ior, 1) := by decide +kernel
theorem dX9_silencingFor_101 : decode cX9_silencingFor 101 = .ok (.istore_n 3, 1) := by decide +kernel
theorem dX9_silencingFor_102 : decode cX9_silencingFor 102 = .ok (.iinc 5 1, 3) := by decide +kernel
theorem dX9_silencingFor_105 : decode cX9_silencingFor 105 = .ok (.goto (-73), 3) := by decide +kernel
theorem dX9_silencingFor_108 : decode cX9_silencingFor 108 = .ok (.iload_n 3, 1) := by decide +kernel
theorem dX9_silencingFor_109 : decode cX9_silencingFor 109 = .ok (.ireturn, 1) := by decide +kernel
set_option maxRecDepth 20000 in
theorem ggX9_dispute_X9_wouldSilence : GoodIn wsX9_dispute wsX9_wouldSilence := goodIn_r _ [6, 7, 8, 9, 10, 5, 11, 12, 13, 14, 15, 16, 17, 18, 19, 20, 21, 22, 23, 24, 25, 26, 1, 27, 28, 29, 30, 31, 32, 33, 34, 35, 36, 37, 38, 39, 40, 41, 42, 43, 44, 45, 46, 47, 48, 49, 50, 65, 66, 67, 68, 69, 70, 71, 72, 73, 74] (by decide +kernel) (by decide +kernel)
set_option maxRecDepth 20000 in
theorem gX9_dispute_X9_wouldSilence : GoodIn wsX9_dispute (wsV RX9 104 RX9 yX9_wouldSilence wsX9_wouldSilence) := goodIn_app (goodIn_of _ (by decide +kernel)) ggX9_dispute_X9_wouldSilence
set_option maxRecDepth 20000 in
theorem ggX9_dispute_X9_makeTrue : GoodIn wsX9_dispute wsX9_makeTrue := goodIn_r _ [54, 55, 56, 7, 1, 57, 44, 58, 65, 66, 67, 68, 69, 70, 71, 72, 73, 74] (by decide +kernel) (by decide +kernel)
set_option maxRecDepth 20000 in
theorem gX9_dispute_X9_makeTrue : GoodIn wsX9_dispute (wsV RX9 72 RX9 yX9_makeTrue wsX9_makeTrue) := goodIn_app (goodIn_of _ (by decide +kernel)) ggX9_dispute_X9_makeTrue
set_option maxRecDepth 20000 in
theorem ggX9_dispute_X9_learn : GoodIn wsX9_dispute wsX9_learn := goodIn_r _ [62, 17, 63, 44, 64, 57, 58, 65, 66, 67, 68, 69, 70, 71, 72, 73, 74] (by decide +kernel) (by decide +kernel)
set_option maxRecDepth 20000 in
theorem gX9_dispute_X9_learn : GoodIn wsX9_dispute (wsV RX9 107 RX9 yX9_learn wsX9_learn) := goodIn_app (goodIn_of _ (by decide +kernel)) ggX9_dispute_X9_learn
theorem dX9_dispute_0 : decode cX9_dispute 0 = .ok (.aload_n 0, 1) := by decide +kernel
theorem dX9_dispute_1 : decode cX9_dispute 1 = .ok (.iload_n 1, 1) := by decide +kernel
theorem dX9_dispute_2 : decode cX9_dispute 2 = .ok (.iload_n 2, 1) := by decide +kernel
theorem dX9_dispute_3 : decode cX9_dispute 3 = .ok (.invokevirtual 104, 3) := by decide +kernel
theorem dX9_dispute_6 : decode cX9_dispute 6 = .ok (.istore_n 3, 1) := by decide +kernel
theorem dX9_dispute_7 : decode cX9_dispute 7 = .ok (.aload_n 0, 1) := by decide +kernel
theorem dX9_dispute_8 : decode cX9_dispute 8 = .ok (.dup, 1) := by decide +kernel
theorem dX9_dispute_9 : decode cX9_dispute 9 = .ok (.getfield 43, 3) := by decide +kernel
theorem dX9_dispute_12 : decode cX9_dispute 12 = .ok (.iconst 1, 1) := by decide +kernel
theorem dX9_dispute_13 : decode cX9_dispute 13 = .ok (.iadd, 1) := by decide +kernel
theorem dX9_dispute_14 : decode cX9_dispute 14 = .ok (.putfield 43, 3) := by decide +kernel
theorem dX9_dispute_17 : decode cX9_dispute 17 = .ok (.iload_n 3, 1) := by decide +kernel
theorem dX9_dispute_18 : decode cX9_dispute 18 = .ok (.ifCond .eq 16, 3) := by decide +kernel
theorem dX9_dispute_21 : decode cX9_dispute 21 = .ok (.aload_n 0, 1) := by decide +kernel
theorem dX9_dispute_22 : decode cX9_dispute 22 = .ok (.iload_n 2, 1) := by decide +kernel
theorem dX9_dispute_23 : decode cX9_dispute 23 = .ok (.iload_n 1, 1) := by decide +kernel
theorem dX9_dispute_24 : decode cX9_dispute 24 = .ok (.invokevirtual 72, 3) := by decide +kernel
theorem dX9_dispute_27 : decode cX9_dispute 27 = .ok (.aload_n 0, 1) := by decide +kernel
theorem dX9_dispute_28 : decode cX9_dispute 28 = .ok (.iload_n 1, 1) := by decide +kernel
theorem dX9_dispute_29 : decode cX9_dispute 29 = .ok (.iload_n 2, 1) := by decide +kernel
theorem dX9_dispute_30 : decode cX9_dispute 30 = .ok (.invokevirtual 107, 3) := by decide +kernel
theorem dX9_dispute_33 : decode cX9_dispute 33 = .ok (.pop, 1) := by decide +kernel
theorem dX9_dispute_34 : decode cX9_dispute 34 = .ok (.iload_n 3, 1) := by decide +kernel
theorem dX9_dispute_35 : decode cX9_dispute 35 = .ok (.ireturn, 1) := by decide +kernel
set_option maxRecDepth 20000 in
theorem ggX9_makeTrue_X11_bit : GoodIn wsX9_makeTrue wsX11_bit := goodIn_r _ [7] (by decide +kernel) (by decide +kernel)
set_option maxRecDepth 20000 in
theorem gX9_makeTrue_X11_bit_n66 : GoodIn wsX9_makeTrue (wsX11_bit) := ggX9_makeTrue_X11_bit
theorem dX9_makeTrue_0 : decode cX9_makeTrue 0 = .ok (.iload_n 1, 1) := by decide +kernel
theorem dX9_makeTrue_1 : decode cX9_makeTrue 1 = .ok (.ifCond .lt 51, 3) := by decide +kernel
theorem dX9_makeTrue_4 : decode cX9_makeTrue 4 = .ok (.iload_n 1, 1) := by decide +kernel
theorem dX9_makeTrue_5 : decode cX9_makeTrue 5 = .ok (.aload_n 0, 1) := by decide +kernel
theorem dX9_makeTrue_6 : decode cX9_makeTrue 6 = .ok (.getfield 15, 3) := by decide +kernel
theorem dX9_makeTrue_9 : decode cX9_makeTrue 9 = .ok (.arraylength, 1) := by decide +kernel
theorem dX9_makeTrue_10 : decode cX9_makeTrue 10 = .ok (.if_icmp .ge 42, 3) := by decide +kernel
theorem dX9_makeTrue_13 : decode cX9_makeTrue 13 = .ok (.iload_n 1, 1) := by decide +kernel
theorem dX9_makeTrue_14 : decode cX9_makeTrue 14 = .ok (.aload_n 0, 1) := by decide +kernel
theorem dX9_makeTrue_15 : decode cX9_makeTrue 15 = .ok (.getfield 18, 3) := by decide +kernel
theorem dX9_makeTrue_18 : decode cX9_makeTrue 18 = .ok (.arraylength, 1) := by decide +kernel
theorem dX9_makeTrue_19 : decode cX9_makeTrue 19 = .ok (.if_icmp .ge 33, 3) := by decide +kernel
theorem dX9_makeTrue_22 : decode cX9_makeTrue 22 = .ok (.aload_n 0, 1) := by decide +kernel
theorem dX9_makeTrue_23 : decode cX9_makeTrue 23 = .ok (.dup, 1) := by decide +kernel
theorem dX9_makeTrue_24 : decode cX9_makeTrue 24 = .ok (.getfield 37, 3) := by decide +kernel
theorem dX9_makeTrue_27 : decode cX9_makeTrue 27 = .ok (.iload_n 1, 1) := by decide +kernel
theorem dX9_makeTrue_28 : decode cX9_makeTrue 28 = .ok (.invokestatic 66, 3) := by decide +kernel
theorem dX9_makeTrue_31 : decode cX9_makeTrue 31 = .ok (.ior, 1) := by decide +kernel
theorem dX9_makeTrue_32 : decode cX9_makeTrue 32 = .ok (.putfield 37, 3) := by decide +kernel
theorem dX9_makeTrue_35 : decode cX9_makeTrue 35 = .ok (.aload_n 0, 1) := by decide +kernel
theorem dX9_makeTrue_36 : decode cX9_makeTrue 36 = .ok (.getfield 15, 3) := by decide +kernel
theorem dX9_makeTrue_39 : decode cX9_makeTrue 39 = .ok (.iload_n 1, 1) := by decide +kernel
theorem dX9_makeTrue_40 : decode cX9_makeTrue 40 = .ok (.iload_n 2, 1) := by decide +kernel
theorem dX9_makeTrue_41 : decode cX9_makeTrue 41 = .ok (.iastore, 1) := by decide +kernel
theorem dX9_makeTrue_42 : decode cX9_makeTrue 42 = .ok (.aload_n 0, 1) := by decide +kernel
theorem dX9_makeTrue_43 : decode cX9_makeTrue 43 = .ok (.getfield 18, 3) := by decide +kernel
theorem dX9_makeTrue_46 : decode cX9_makeTrue 46 = .ok (.iload_n 1, 1) := by decide +kernel
theorem dX9_makeTrue_47 : decode cX9_makeTrue 47 = .ok (.aload_n 0, 1) := by decide +kernel
theorem dX9_makeTrue_48 : decode cX9_makeTrue 48 = .ok (.getfield 43, 3) := by decide +kernel
theorem dX9_makeTrue_51 : decode cX9_makeTrue 51 = .ok (.iastore, 1) := by decide +kernel
theorem dX9_makeTrue_52 : decode cX9_makeTrue 52 = .ok (.return_, 1) := by decide +kernel
set_option maxRecDepth 20000 in
theorem ggX9_ruins_X9_isTrue : GoodIn wsX9_ruins wsX9_isTrue := goodIn_r _ [6, 7, 8, 9, 10, 23, 24, 25, 26, 27, 28, 29, 30, 31, 32] (by decide +kernel) (by decide +kernel)
set_option maxRecDepth 20000 in
theorem gX9_ruins_X9_isTrue : GoodIn wsX9_ruins (wsV RX9 69 RX9 yX9_isTrue wsX9_isTrue) := goodIn_app (goodIn_of _ (by decide +kernel)) ggX9_ruins_X9_isTrue
set_option maxRecDepth 20000 in
theorem ggX9_ruins_X9_makerOf : GoodIn wsX9_ruins wsX9_makerOf := goodIn_r _ [14, 15, 23, 24, 25, 26, 27, 28, 29, 30, 31, 32] (by decide +kernel) (by decide +kernel)
set_option maxRecDepth 20000 in
theorem gX9_ruins_X9_makerOf : GoodIn wsX9_ruins (wsV RX9 110 RX9 yX9_makerOf wsX9_makerOf) := goodIn_app (goodIn_of _ (by decide +kernel)) ggX9_ruins_X9_makerOf
set_option maxRecDepth 20000 in
theorem ggX9_ruins_X11_bit : GoodIn wsX9_ruins wsX11_bit := goodIn_r _ [17] (by decide +kernel) (by decide +kernel)
set_option maxRecDepth 20000 in
theorem gX9_ruins_X11_bit_n66 : GoodIn wsX9_ruins (wsX11_bit) := ggX9_ruins_X11_bit
set_option maxRecDepth 20000 in
theorem ggX9_ruins_X9_needsOf : GoodIn wsX9_ruins wsX9_needsOf := goodIn_r _ [21, 22, 23, 24, 25, 26, 27, 28, 29, 30, 31, 32] (by decide +kernel) (by decide +kernel)
set_option maxRecDepth 20000 in
theorem gX9_ruins_X9_needsOf : GoodIn wsX9_ruins (wsV RX9 86 RX9 yX9_needsOf wsX9_needsOf) := goodIn_app (goodIn_of _ (by decide +kernel)) ggX9_ruins_X9_needsOf
theorem dX9_ruins_0 : decode cX9_ruins 0 = .ok (.iconst 0, 1) := by decide +kernel
theorem dX9_ruins_1 : decode cX9_ruins 1 = .ok (.istore_n 2, 1) := by decide +kernel
theorem dX9_ruins_2 : decode cX9_ruins 2 = .ok (.iconst 0, 1) := by decide +kernel
theorem dX9_ruins_3 : decode cX9_ruins 3 = .ok (.istore_n 3, 1) := by decide +kernel
theorem dX9_ruins_4 : decode cX9_ruins 4 = .ok (.iload_n 3, 1) := by decide +kernel
theorem dX9_ruins_5 : decode cX9_ruins 5 = .ok (.aload_n 0, 1) := by decide +kernel
theorem dX9_ruins_6 : decode cX9_ruins 6 = .ok (.getfield 30, 3) := by decide +kernel
theorem dX9_ruins_9 : decode cX9_ruins 9 = .ok (.if_icmp .ge 33, 3) := by decide +kernel
theorem dX9_ruins_12 : decode cX9_ruins 12 = .ok (.aload_n 0, 1) := by decide +kernel
theorem dX9_ruins_13 : decode cX9_ruins 13 = .ok (.iload_n 3, 1) := by decide +kernel
theorem dX9_ruins_14 : decode cX9_ruins 14 = .ok (.invokevirtual 69, 3) := by decide +kernel
theorem dX9_ruins_17 : decode cX9_ruins 17 = .ok (.ifCond .eq 19, 3) := by decide +kernel
theorem dX9_ruins_20 : decode cX9_ruins 20 = .ok (.aload_n 0, 1) := by decide +kernel
theorem dX9_ruins_21 : decode cX9_ruins 21 = .ok (.iload_n 3, 1) := by decide +kernel
theorem dX9_ruins_22 : decode cX9_ruins 22 = .ok (.invokevirtual 110, 3) := by decide +kernel
theorem dX9_ruins_25 : decode cX9_ruins 25 = .ok (.iload_n 1, 1) := by decide +kernel
theorem dX9_ruins_26 : decode cX9_ruins 26 = .ok (.if_icmp .ne 10, 3) := by decide +kernel
theorem dX9_ruins_29 : decode cX9_ruins 29 = .ok (.iload_n 2, 1) := by decide +kernel
theorem dX9_ruins_30 : decode cX9_ruins 30 = .ok (.iload_n 3, 1) := by decide +kernel
theorem dX9_ruins_31 : decode cX9_ruins 31 = .ok (.invokestatic 66, 3) := by decide +kernel
theorem dX9_ruins_34 : decode cX9_ruins 34 = .ok (.ior, 1) := by decide +kernel
theorem dX9_ruins_35 : decode cX9_ruins 35 = .ok (.istore_n 2, 1) := by decide +kernel
theorem dX9_ruins_36 : decode cX9_ruins 36 = .ok (.iinc 3 1, 3) := by decide +kernel
theorem dX9_ruins_39 : decode cX9_ruins 39 = .ok (.goto (-35), 3) := by decide +kernel
theorem dX9_ruins_42 : decode cX9_ruins 42 = .ok (.iconst 0, 1) := by decide +kernel
theorem dX9_ruins_43 : decode cX9_ruins 43 = .ok (.istore_n 3, 1) := by decide +kernel
theorem dX9_ruins_44 : decode cX9_ruins 44 = .ok (.iload_n 3, 1) := by decide +kernel
theorem dX9_ruins_45 : decode cX9_ruins 45 = .ok (.aload_n 0, 1) := by decide +kernel
theorem dX9_ruins_46 : decode cX9_ruins 46 = .ok (.getfield 30, 3) := by decide +kernel
theorem dX9_ruins_49 : decode cX9_ruins 49 = .ok (.if_icmp .ge 55, 3) := by decide +kernel
theorem dX9_ruins_52 : decode cX9_ruins 52 = .ok (.iconst 0, 1) := by decide +kernel
theorem dX9_ruins_53 : decode cX9_ruins 53 = .ok (.istore 4, 2) := by decide +kernel
theorem dX9_ruins_55 : decode cX9_ruins 55 = .ok (.iload 4, 2) := by decide +kernel
theorem dX9_ruins_57 : decode cX9_ruins 57 = .ok (.aload_n 0, 1) := by decide +kernel
theorem dX9_ruins_58 : decode cX9_ruins 58 = .ok (.getfield 30, 3) := by decide +kernel
theorem dX9_ruins_61 : decode cX9_ruins 61 = .ok (.if_icmp .ge 37, 3) := by decide +kernel
theorem dX9_ruins_64 : decode cX9_ruins 64 = .ok (.aload_n 0, 1) := by decide +kernel
theorem dX9_ruins_65 : decode cX9_ruins 65 = .ok (.iload 4, 2) := by decide +kernel
theorem dX9_ruins_67 : decode cX9_ruins 67 = .ok (.invokevirtual 69, 3) := by decide +kernel
theorem dX9_ruins_70 : decode cX9_ruins 70 = .ok (.ifCond .eq 22, 3) := by decide +kernel
theorem dX9_ruins_73 : decode cX9_ruins 73 = .ok (.aload_n 0, 1) := by decide +kernel
theorem dX9_ruins_74 : decode cX9_ruins 74 = .ok (.iload 4, 2) := by decide +kernel
theorem dX9_ruins_76 : decode cX9_ruins 76 = .ok (.invokevirtual 86, 3) := by decide +kernel
theorem dX9_ruins_79 : decode cX9_ruins 79 = .ok (.iload_n 2, 1) := by decide +kernel
theorem dX9_ruins_80 : decode cX9_ruins 80 = .ok (.iand, 1) := by decide +kernel
theorem dX9_ruins_81 : decode cX9_ruins 81 = .ok (.ifCond .eq 11, 3) := by decide +kernel
theorem dX9_ruins_84 : decode cX9_ruins 84 = .ok (.iload_n 2, 1) := by decide +kernel
theorem dX9_ruins_85 : decode cX9_ruins 85 = .ok (.iload 4, 2) := by decide +kernel
theorem dX9_ruins_87 : decode cX9_ruins 87 = .ok (.invokestatic 66, 3) := by decide +kernel
theorem dX9_ruins_90 : decode cX9_ruins 90 = .ok (.ior, 1) := by decide +kernel
theorem dX9_ruins_91 : decode cX9_ruins 91 = .ok (.istore_n 2, 1) := by decide +kernel
theorem dX9_ruins_92 : decode cX9_ruins 92 = .ok (.iinc 4 1, 3) := by decide +kernel
theorem dX9_ruins_95 : decode cX9_ruins 95 = .ok (.goto (-40), 3) := by decide +kernel
theorem dX9_ruins_98 : decode cX9_ruins 98 = .ok (.iinc 3 1, 3) := by decide +kernel
theorem dX9_ruins_101 : decode cX9_ruins 101 = .ok (.goto (-57), 3) := by decide +kernel
theorem dX9_ruins_104 : decode cX9_ruins 104 = .ok (.iload_n 2, 1) := by decide +kernel
theorem dX9_ruins_105 : decode cX9_ruins 105 = .ok (.ireturn, 1) := by decide +kernel
set_option maxRecDepth 20000 in
theorem ggX9_bury_X11_bit : GoodIn wsX9_bury wsX11_bit := goodIn_r _ [5] (by decide +kernel) (by decide +kernel)
set_option maxRecDepth 20000 in
theorem gX9_bury_X11_bit_n66 : GoodIn wsX9_bury (wsX11_bit) := ggX9_bury_X11_bit
theorem dX9_bury_0 : decode cX9_bury 0 = .ok (.aload_n 0, 1) := by decide +kernel
theorem dX9_bury_1 : decode cX9_bury 1 = .ok (.dup, 1) := by decide +kernel
theorem dX9_bury_2 : decode cX9_bury 2 = .ok (.getfield 40, 3) := by decide +kernel
theorem dX9_bury_5 : decode cX9_bury 5 = .ok (.iload_n 1, 1) := by decide +kernel
theorem dX9_bury_6 : decode cX9_bury 6 = .ok (.invokestatic 66, 3) := by decide +kernel
theorem dX9_bury_9 : decode cX9_bury 9 = .ok (.iconst (-1), 1) := by decide +kernel
theorem dX9_bury_10 : decode cX9_bury 10 = .ok (.ixor, 1) := by decide +kernel
theorem dX9_bury_11 : decode cX9_bury 11 = .ok (.iand, 1) := by decide +kernel
theorem dX9_bury_12 : decode cX9_bury 12 = .ok (.putfield 40, 3) := by decide +kernel
theorem dX9_bury_15 : decode cX9_bury 15 = .ok (.aload_n 0, 1) := by decide +kernel
theorem dX9_bury_16 : decode cX9_bury 16 = .ok (.dup, 1) := by decide +kernel
theorem dX9_bury_17 : decode cX9_bury 17 = .ok (.getfield 37, 3) := by decide +kernel
theorem dX9_bury_20 : decode cX9_bury 20 = .ok (.iload_n 2, 1) := by decide +kernel
theorem dX9_bury_21 : decode cX9_bury 21 = .ok (.iconst (-1), 1) := by decide +kernel
theorem dX9_bury_22 : decode cX9_bury 22 = .ok (.ixor, 1) := by decide +kernel
theorem dX9_bury_23 : decode cX9_bury 23 = .ok (.iand, 1) := by decide +kernel
theorem dX9_bury_24 : decode cX9_bury 24 = .ok (.putfield 37, 3) := by decide +kernel
theorem dX9_bury_27 : decode cX9_bury 27 = .ok (.return_, 1) := by decide +kernel
set_option maxRecDepth 20000 in
theorem ggX9_suspects_X11_bit : GoodIn wsX9_suspects wsX11_bit := goodIn_r _ [5] (by decide +kernel) (by decide +kernel)
set_option maxRecDepth 20000 in
theorem gX9_suspects_X11_bit_n66 : GoodIn wsX9_suspects (wsX11_bit) := ggX9_suspects_X11_bit
set_option maxRecDepth 20000 in
theorem ggX9_suspects_X9_needsOf : GoodIn wsX9_suspects wsX9_needsOf := goodIn_r _ [10, 11, 99, 100, 101, 102, 103, 104, 105, 106, 107, 108] (by decide +kernel) (by decide +kernel)
set_option maxRecDepth 20000 in
theorem gX9_suspects_X9_needsOf : GoodIn wsX9_suspects (wsV RX9 86 RX9 yX9_needsOf wsX9_needsOf) := goodIn_app (goodIn_of _ (by decide +kernel)) ggX9_suspects_X9_needsOf
set_option maxRecDepth 20000 in
theorem ggX9_suspects_X9_memberAt : GoodIn wsX9_suspects wsX9_memberAt := goodIn_r _ [15, 16, 99, 100, 101, 102, 103, 104, 105, 106, 107, 108] (by decide +kernel) (by decide +kernel)
set_option maxRecDepth 20000 in
theorem gX9_suspects_X9_memberAt : GoodIn wsX9_suspects (wsV RX9 76 RX9 yX9_memberAt wsX9_memberAt) := goodIn_app (goodIn_of _ (by decide +kernel)) ggX9_suspects_X9_memberAt
set_option maxRecDepth 20000 in
theorem ggX9_suspects_X9_knownTo : GoodIn wsX9_suspects wsX9_knownTo := goodIn_r _ [20, 21, 99, 100, 101, 102, 103, 104, 105, 106, 107, 108] (by decide +kernel) (by decide +kernel)
set_option maxRecDepth 20000 in
theorem gX9_suspects_X9_knownTo : GoodIn wsX9_suspects (wsV RX9 83 RX9 yX9_knownTo wsX9_knownTo) := goodIn_app (goodIn_of _ (by decide +kernel)) ggX9_suspects_X9_knownTo
set_option maxRecDepth 20000 in
theorem ggX9_suspects_X0_mayDispute : GoodIn wsX9_suspects wsX0_mayDispute := goodIn_r _ [28, 29, 30, 31, 32, 33, 34, 35, 36, 37, 23, 38, 39, 40, 41, 42, 4, 43, 109, 110, 111, 112, 113, 114, 115, 116, 117, 118, 119, 120, 121, 122, 123, 124] (by decide +kernel) (by decide +kernel)
set_option maxRecDepth 20000 in
theorem gX9_suspects_X0_mayDispute_u89X0 : GoodIn wsX9_suspects (va_wsO RX9 89 RX0 "HoldsOnceDenied$Denier" ⟨"HoldsOnceDenied$Denier", "mayDispute", "(IIII)Z"⟩ yX0_mayDispute wsX0_mayDispute) := goodIn_app (goodIn_of _ (by decide +kernel)) ggX9_suspects_X0_mayDispute
set_option maxRecDepth 20000 in
theorem ggX9_suspects_X1_mayDispute : GoodIn wsX9_suspects wsX1_mayDispute := goodIn_r _ [47] (by decide +kernel) (by decide +kernel)
set_option maxRecDepth 20000 in
theorem gX9_suspects_X1_mayDispute_u89X1 : GoodIn wsX9_suspects (va_wsO RX9 89 RX1 "HoldsOnceDenied$Denier" ⟨"HoldsOnceDenied$Denier", "mayDispute", "(IIII)Z"⟩ yX1_mayDispute wsX1_mayDispute) := goodIn_app (goodIn_of _ (by decide +kernel)) ggX9_suspects_X1_mayDispute
set_option maxRecDepth 20000 in
theorem ggX9_suspects_X2_mayDispute : GoodIn wsX9_suspects wsX2_mayDispute := goodIn_r _ [41, 42, 4, 43] (by decide +kernel) (by decide +kernel)
set_option maxRecDepth 20000 in
theorem gX9_suspects_X2_mayDispute : GoodIn wsX9_suspects (wsV RX9 89 RX2 yX2_mayDispute wsX2_mayDispute) := goodIn_app (goodIn_of _ (by decide +kernel)) ggX9_suspects_X2_mayDispute
set_option maxRecDepth 20000 in
theorem ggX9_suspects_X3_mayDispute : GoodIn wsX9_suspects wsX3_mayDispute := goodIn_r _ [53, 42, 4, 43] (by decide +kernel) (by decide +kernel)
set_option maxRecDepth 20000 in
theorem gX9_suspects_X3_mayDispute_u89X3 : GoodIn wsX9_suspects (va_wsO RX9 89 RX3 "HoldsOnceDenied$Denier" ⟨"HoldsOnceDenied$Denier", "mayDispute", "(IIII)Z"⟩ yX3_mayDispute wsX3_mayDispute) := goodIn_app (goodIn_of _ (by decide +kernel)) ggX9_suspects_X3_mayDispute
set_option maxRecDepth 20000 in
theorem ggX9_suspects_X5_mayDispute : GoodIn wsX9_suspects wsX5_mayDispute := goodIn_r _ [34, 35, 36, 37, 23, 38, 39, 40, 41, 42, 4, 43, 109, 110, 111, 112, 113, 114, 115, 116, 117, 118, 119, 120, 121, 122, 123, 124] (by decide +kernel) (by decide +kernel)
set_option maxRecDepth 20000 in
theorem gX9_suspects_X5_mayDispute_u89X5 : GoodIn wsX9_suspects (va_wsO RX9 89 RX5 "HoldsOnceDenied$Denier" ⟨"HoldsOnceDenied$Denier", "mayDispute", "(IIII)Z"⟩ yX5_mayDispute wsX5_mayDispute) := goodIn_app (goodIn_of _ (by decide +kernel)) ggX9_suspects_X5_mayDispute
set_option maxRecDepth 20000 in
theorem ggX9_suspects_X6_mayDispute : GoodIn wsX9_suspects wsX6_mayDispute := goodIn_r _ [58, 59, 60, 61, 62, 63, 51, 52, 53, 42, 4, 43, 109, 110, 111, 112, 113, 114, 115, 116, 117, 118, 119, 120, 121, 122, 123, 124] (by decide +kernel) (by decide +kernel)
set_option maxRecDepth 20000 in
theorem gX9_suspects_X6_mayDispute_u89X6 : GoodIn wsX9_suspects (va_wsO RX9 89 RX6 "HoldsOnceDenied$Denier" ⟨"HoldsOnceDenied$Denier", "mayDispute", "(IIII)Z"⟩ yX6_mayDispute wsX6_mayDispute) := goodIn_app (goodIn_of _ (by decide +kernel)) ggX9_suspects_X6_mayDispute
set_option maxRecDepth 20000 in
theorem ggX9_suspects_X7_mayDispute : GoodIn wsX9_suspects wsX7_mayDispute := goodIn_r _ [67, 68, 69, 70, 71, 72, 73, 74, 75, 76, 23, 77, 39, 40, 41, 42, 4, 43, 78, 79, 109, 110, 111, 112, 113, 114, 115, 116, 117, 118, 119, 120, 121, 122, 123, 124] (by decide +kernel) (by decide +kernel)
set_option maxRecDepth 20000 in
theorem gX9_suspects_X7_mayDispute_u89X7 : GoodIn wsX9_suspects (va_wsO RX9 89 RX7 "HoldsOnceDenied$Denier" ⟨"HoldsOnceDenied$Denier", "mayDispute", "(IIII)Z"⟩ yX7_mayDispute wsX7_mayDispute) := goodIn_app (goodIn_of _ (by decide +kernel)) ggX9_suspects_X7_mayDispute
set_option maxRecDepth 20000 in
theorem ggX9_suspects_X10_mayDispute : GoodIn wsX9_suspects wsX10_mayDispute := goodIn_r _ [75, 76, 23, 77, 39, 40, 41, 42, 4, 43, 78, 79] (by decide +kernel) (by decide +kernel)
set_option maxRecDepth 20000 in
theorem gX9_suspects_X10_mayDispute_u89X10 : GoodIn wsX9_suspects (va_wsO RX9 89 RX10 "HoldsOnceDenied$Denier" ⟨"HoldsOnceDenied$Denier", "mayDispute", "(IIII)Z"⟩ yX10_mayDispute wsX10_mayDispute) := goodIn_app (goodIn_of _ (by decide +kernel)) ggX9_suspects_X10_mayDispute
set_option maxRecDepth 20000 in
theorem ggX9_suspects_X0_isSilenced : GoodIn wsX9_suspects wsX0_isSilenced := goodIn_r _ [86] (by decide +kernel) (by decide +kernel)
set_option maxRecDepth 20000 in
theorem gX9_suspects_X0_isSilenced_u97X0 : GoodIn wsX9_suspects (va_wsO RX9 97 RX0 "HoldsOnceDenied$Denier" ⟨"HoldsOnceDenied$Denier", "isSilenced", "(IIIZ)Z"⟩ yX0_isSilenced wsX0_isSilenced) := goodIn_app (goodIn_of _ (by decide +kernel)) ggX9_suspects_X0_isSilenced
set_option maxRecDepth 20000 in
theorem ggX9_suspects_X1_isSilenced : GoodIn wsX9_suspects wsX1_isSilenced := goodIn_r _ [90] (by decide +kernel) (by decide +kernel)
set_option maxRecDepth 20000 in
theorem gX9_suspects_X1_isSilenced_u97X1 : GoodIn wsX9_suspects (va_wsO RX9 97 RX1 "HoldsOnceDenied$Denier" ⟨"HoldsOnceDenied$Denier", "isSilenced", "(IIIZ)Z"⟩ yX1_isSilenced wsX1_isSilenced) := goodIn_app (goodIn_of _ (by decide +kernel)) ggX9_suspects_X1_isSilenced
set_option maxRecDepth 20000 in
theorem ggX9_suspects_X2_isSilenced : GoodIn wsX9_suspects wsX2_isSilenced := goodIn_r _ [87, 78, 4, 79] (by decide +kernel) (by decide +kernel)
set_option maxRecDepth 20000 in
theorem gX9_suspects_X2_isSilenced : GoodIn wsX9_suspects (wsV RX9 97 RX2 yX2_isSilenced wsX2_isSilenced) := goodIn_app (goodIn_of _ (by decide +kernel)) ggX9_suspects_X2_isSilenced
set_option maxRecDepth 20000 in
theorem gX9_suspects_X2_isSilenced_u97X3 : GoodIn wsX9_suspects (va_wsU RX9 97 RX3 "HoldsOnceDenied$Denier" ⟨"HoldsOnceDenied$Denier", "isSilenced", "(IIIZ)Z"⟩ yX2_isSilenced wsX2_isSilenced) := goodIn_app (goodIn_of _ (by decide +kernel)) ggX9_suspects_X2_isSilenced
set_option maxRecDepth 20000 in
theorem gX9_suspects_X2_isSilenced_u97X5 : GoodIn wsX9_suspects (va_wsU RX9 97 RX5 "HoldsOnceDenied$Denier" ⟨"HoldsOnceDenied$Denier", "isSilenced", "(IIIZ)Z"⟩ yX2_isSilenced wsX2_isSilenced) := goodIn_app (goodIn_of _ (by decide +kernel)) ggX9_suspects_X2_isSilenced
set_option maxRecDepth 20000 in
theorem gX9_suspects_X2_isSilenced_u97X6 : GoodIn wsX9_suspects (va_wsU RX9 97 RX6 "HoldsOnceDenied$Denier" ⟨"HoldsOnceDenied$Denier", "isSilenced", "(IIIZ)Z"⟩ yX2_isSilenced wsX2_isSilenced) := goodIn_app (goodIn_of _ (by decide +kernel)) ggX9_suspects_X2_isSilenced
set_option maxRecDepth 20000 in
theorem gX9_suspects_X2_isSilenced_u97X7 : GoodIn wsX9_suspects (va_wsU RX9 97 RX7 "HoldsOnceDenied$Denier" ⟨"HoldsOnceDenied$Denier", "isSilenced", "(IIIZ)Z"⟩ yX2_isSilenced wsX2_isSilenced) := goodIn_app (goodIn_of _ (by decide +kernel)) ggX9_suspects_X2_isSilenced
set_option maxRecDepth 20000 in
theorem gX9_suspects_X2_isSilenced_u97X10 : GoodIn wsX9_suspects (va_wsU RX9 97 RX10 "HoldsOnceDenied$Denier" ⟨"HoldsOnceDenied$Denier", "isSilenced", "(IIIZ)Z"⟩ yX2_isSilenced wsX2_isSilenced) := goodIn_app (goodIn_of _ (by decide +kernel)) ggX9_suspects_X2_isSilenced
theorem dX9_suspects_0 : decode cX9_suspects 0 = .ok (.iconst 0, 1) := by decide +kernel
theorem dX9_suspects_1 : decode cX9_suspects 1 = .ok (.istore_n 2, 1) := by decide +kernel
theorem dX9_suspects_2 : decode cX9_suspects 2 = .ok (.iload_n 1, 1) := by decide +kernel
theorem dX9_suspects_3 : decode cX9_suspects 3 = .ok (.invokestatic 66, 3) := by decide +kernel
theorem dX9_suspects_6 : decode cX9_suspects 6 = .ok (.iconst (-1), 1) := by decide +kernel
theorem dX9_suspects_7 : decode cX9_suspects 7 = .ok (.ixor, 1) := by decide +kernel
theorem dX9_suspects_8 : decode cX9_suspects 8 = .ok (.istore_n 3, 1) := by decide +kernel
theorem dX9_suspects_9 : decode cX9_suspects 9 = .ok (.aload_n 0, 1) := by decide +kernel
theorem dX9_suspects_10 : decode cX9_suspects 10 = .ok (.iload_n 1, 1) := by decide +kernel
theorem dX9_suspects_11 : decode cX9_suspects 11 = .ok (.invokevirtual 86, 3) := by decide +kernel
theorem dX9_suspects_14 : decode cX9_suspects 14 = .ok (.istore 4, 2) := by decide +kernel
theorem dX9_suspects_16 : decode cX9_suspects 16 = .ok (.iconst 0, 1) := by decide +kernel
theorem dX9_suspects_17 : decode cX9_suspects 17 = .ok (.istore 5, 2) := by decide +kernel
theorem dX9_suspects_19 : decode cX9_suspects 19 = .ok (.iload 5, 2) := by decide +kernel
theorem dX9_suspects_21 : decode cX9_suspects 21 = .ok (.aload_n 0, 1) := by decide +kernel
theorem dX9_suspects_22 : decode cX9_suspects 22 = .ok (.getfield 34, 3) := by decide +kernel
theorem dX9_suspects_25 : decode cX9_suspects 25 = .ok (.if_icmp .ge 78, 3) := by decide +kernel
theorem dX9_suspects_28 : decode cX9_suspects 28 = .ok (.aload_n 0, 1) := by decide +kernel
theorem dX9_suspects_29 : decode cX9_suspects 29 = .ok (.iload 5, 2) := by decide +kernel
theorem dX9_suspects_31 : decode cX9_suspects 31 = .ok (.invokevirtual 76, 3) := by decide +kernel
theorem dX9_suspects_34 : decode cX9_suspects 34 = .ok (.astore 6, 2) := by decide +kernel
theorem dX9_suspects_36 : decode cX9_suspects 36 = .ok (.aload_n 0, 1) := by decide +kernel
theorem dX9_suspects_37 : decode cX9_suspects 37 = .ok (.iload 5, 2) := by decide +kernel
theorem dX9_suspects_39 : decode cX9_suspects 39 = .ok (.invokevirtual 83, 3) := by decide +kernel
theorem dX9_suspects_42 : decode cX9_suspects 42 = .ok (.iload_n 3, 1) := by decide +kernel
theorem dX9_suspects_43 : decode cX9_suspects 43 = .ok (.iand, 1) := by decide +kernel
theorem dX9_suspects_44 : decode cX9_suspects 44 = .ok (.istore 7, 2) := by decide +kernel
theorem dX9_suspects_46 : decode cX9_suspects 46 = .ok (.aload 6, 2) := by decide +kernel
theorem dX9_suspects_48 : decode cX9_suspects 48 = .ok (.ifnull 49, 3) := by decide +kernel
theorem dX9_suspects_51 : decode cX9_suspects 51 = .ok (.aload 6, 2) := by decide +kernel
theorem dX9_suspects_53 : decode cX9_suspects 53 = .ok (.iload_n 1, 1) := by decide +kernel
theorem dX9_suspects_54 : decode cX9_suspects 54 = .ok (.aload_n 0, 1) := by decide +kernel
theorem dX9_suspects_55 : decode cX9_suspects 55 = .ok (.getfield 37, 3) := by decide +kernel
theorem dX9_suspects_58 : decode cX9_suspects 58 = .ok (.iload_n 3, 1) := by decide +kernel
theorem dX9_suspects_59 : decode cX9_suspects 59 = .ok (.iand, 1) := by decide +kernel
theorem dX9_suspects_60 : decode cX9_suspects 60 = .ok (.iload 7, 2) := by decide +kernel
theorem dX9_suspects_62 : decode cX9_suspects 62 = .ok (.iload 4, 2) := by decide +kernel
theorem dX9_suspects_64 : decode cX9_suspects 64 = .ok (.invokevirtual 89, 3) := by decide +kernel
theorem dX9_suspects_67 : decode cX9_suspects 67 = .ok (.ifCond .eq 30, 3) := by decide +kernel
theorem dX9_suspects_70 : decode cX9_suspects 70 = .ok (.aload 6, 2) := by decide +kernel
theorem dX9_suspects_72 : decode cX9_suspects 72 = .ok (.aload_n 0, 1) := by decide +kernel
theorem dX9_suspects_73 : decode cX9_suspects 73 = .ok (.getfield 37, 3) := by decide +kernel
theorem dX9_suspects_76 : decode cX9_suspects 76 = .ok (.iload_n 3, 1) := by decide +kernel
theorem dX9_suspects_77 : decode cX9_suspects 77 = .ok (.iand, 1) := by decide +kernel
theorem dX9_suspects_78 : decode cX9_suspects 78 = .ok (.iload 7, 2) := by decide +kernel
theorem dX9_suspects_80 : decode cX9_suspects 80 = .ok (.iload 4, 2) := by decide +kernel
theorem dX9_suspects_82 : decode cX9_suspects 82 = .ok (.iconst 0, 1) := by decide +kernel
theorem dX9_suspects_83 : decode cX9_suspects 83 = .ok (.invokevirtual 97, 3) := by decide +kernel
theorem dX9_suspects_86 : decode cX9_suspects 86 = .ok (.ifCond .eq 11, 3) := by decide +kernel
theorem dX9_suspects_89 : decode cX9_suspects 89 = .ok (.iload_n 2, 1) := by decide +kernel
theorem dX9_suspects_90 : decode cX9_suspects 90 = .ok (.iload 5, 2) := by decide +kernel
theorem dX9_suspects_92 : decode cX9_suspects 92 = .ok (.invokestatic 66, 3) := by decide +kernel
theorem dX9_suspects_95 : decode cX9_suspects 95 = .ok (.ior, 1) := by decide +kernel
theorem dX9_suspects_96 : decode cX9_suspects 96 = .ok (.istore_n 2, 1) := by decide +kernel
theorem dX9_suspects_97 : decode cX9_suspects 97 = .ok (.iinc 5 1, 3) := by decide +kernel
theorem dX9_suspects_100 : decode cX9_suspects 100 = .ok (.goto (-81), 3) := by decide +kernel
theorem dX9_suspects_103 : decode cX9_suspects 103 = .ok (.iload_n 2, 1) := by decide +kernel
theorem dX9_suspects_104 : decode cX9_suspects 104 = .ok (.ireturn, 1) := by decide +kernel
set_option maxRecDepth 20000 in
theorem ggX10_init_X2_init : GoodIn wsX10_init wsX2_init := goodIn_r _ [4, 5, 6, 7, 8, 9, 10, 11, 12, 13, 14, 15, 16, 17, 18, 19, 20, 21, 22, 23, 24, 25] (by decide +kernel) (by decide +kernel)
set_option maxRecDepth 20000 in
theorem gX10_init_X2_init : GoodIn wsX10_init (wsX2_init) := ggX10_init_X2_init
theorem dX10_init_0 : decode cX10_init 0 = .ok (.aload_n 0, 1) := by decide +kernel
theorem dX10_init_1 : decode cX10_init 1 = .ok (.iload_n 1, 1) := by decide +kernel
theorem dX10_init_2 : decode cX10_init 2 = .ok (.iload_n 2, 1) := by decide +kernel
theorem dX10_init_3 : decode cX10_init 3 = .ok (.invokespecial 1, 3) := by decide +kernel
theorem dX10_init_6 : decode cX10_init 6 = .ok (.return_, 1) := by decide +kernel
set_option maxRecDepth 20000 in
theorem ggX10_mayDispute_X2_mayDispute : GoodIn wsX10_mayDispute wsX2_mayDispute := goodIn_r _ [6, 7, 8, 9] (by decide +kernel) (by decide +kernel)
set_option maxRecDepth 20000 in
theorem gX10_mayDispute_X2_mayDispute_s7 : GoodIn wsX10_mayDispute (va_wsSU RX10 7 yX2_mayDispute wsX2_mayDispute) := goodIn_app (goodIn_of _ (by decide +kernel)) ggX10_mayDispute_X2_mayDispute
set_option maxRecDepth 20000 in
theorem ggX10_mayDispute_X11_within : GoodIn wsX10_mayDispute wsX11_within := goodIn_r _ [11] (by decide +kernel) (by decide +kernel)
set_option maxRecDepth 20000 in
theorem gX10_mayDispute_X11_within_n11 : GoodIn wsX10_mayDispute (wsX11_within) := ggX10_mayDispute_X11_within
theorem dX10_mayDispute_0 : decode cX10_mayDispute 0 = .ok (.aload_n 0, 1) := by decide +kernel
theorem dX10_mayDispute_1 : decode cX10_mayDispute 1 = .ok (.iload_n 1, 1) := by decide +kernel
theorem dX10_mayDispute_2 : decode cX10_mayDispute 2 = .ok (.iload_n 2, 1) := by decide +kernel
theorem dX10_mayDispute_3 : decode cX10_mayDispute 3 = .ok (.iload_n 3, 1) := by decide +kernel
theorem dX10_mayDispute_4 : decode cX10_mayDispute 4 = .ok (.iload 4, 2) := by decide +kernel
theorem dX10_mayDispute_6 : decode cX10_mayDispute 6 = .ok (.invokespecial 7, 3) := by decide +kernel
theorem dX10_mayDispute_9 : decode cX10_mayDispute 9 = .ok (.ifCond .eq 18, 3) := by decide +kernel
theorem dX10_mayDispute_12 : decode cX10_mayDispute 12 = .ok (.iload 4, 2) := by decide +kernel
theorem dX10_mayDispute_14 : decode cX10_mayDispute 14 = .ok (.iload_n 2, 1) := by decide +kernel
theorem dX10_mayDispute_15 : decode cX10_mayDispute 15 = .ok (.iload_n 3, 1) := by decide +kernel
theorem dX10_mayDispute_16 : decode cX10_mayDispute 16 = .ok (.ior, 1) := by decide +kernel
theorem dX10_mayDispute_17 : decode cX10_mayDispute 17 = .ok (.invokestatic 11, 3) := by decide +kernel
theorem dX10_mayDispute_20 : decode cX10_mayDispute 20 = .ok (.ifCond .eq 7, 3) := by decide +kernel
theorem dX10_mayDispute_23 : decode cX10_mayDispute 23 = .ok (.iconst 1, 1) := by decide +kernel
theorem dX10_mayDispute_24 : decode cX10_mayDispute 24 = .ok (.goto 4, 3) := by decide +kernel
theorem dX10_mayDispute_27 : decode cX10_mayDispute 27 = .ok (.iconst 0, 1) := by decide +kernel
theorem dX10_mayDispute_28 : decode cX10_mayDispute 28 = .ok (.ireturn, 1) := by decide +kernel
theorem dX10_effort_0 : decode cX10_effort 0 = .ok (.iload_n 1, 1) := by decide +kernel
theorem dX10_effort_1 : decode cX10_effort 1 = .ok (.ireturn, 1) := by decide +kernel
set_option maxRecDepth 20000 in
theorem ggX10_asks_X2_asks : GoodIn wsX10_asks wsX2_asks := goodIn_r _ [8] (by decide +kernel) (by decide +kernel)
set_option maxRecDepth 20000 in
theorem gX10_asks_X2_asks_s17 : GoodIn wsX10_asks (va_wsSU RX10 17 yX2_asks wsX2_asks) := goodIn_app (goodIn_of _ (by decide +kernel)) ggX10_asks_X2_asks
theorem dX10_asks_0 : decode cX10_asks 0 = .ok (.aload_n 0, 1) := by decide +kernel
theorem dX10_asks_1 : decode cX10_asks 1 = .ok (.invokespecial 17, 3) := by decide +kernel
theorem dX10_asks_4 : decode cX10_asks 4 = .ok (.aload_n 0, 1) := by decide +kernel
theorem dX10_asks_5 : decode cX10_asks 5 = .ok (.getfield 21, 3) := by decide +kernel
theorem dX10_asks_8 : decode cX10_asks 8 = .ok (.iadd, 1) := by decide +kernel
theorem dX10_asks_9 : decode cX10_asks 9 = .ok (.ireturn, 1) := by decide +kernel
theorem dJ6_bitCount_0f7a4_0 : decode cJ6_bitCount_0f7a4 0 = .ok (.iload_n 0, 1) := by decide +kernel
theorem dJ6_bitCount_0f7a4_1 : decode cJ6_bitCount_0f7a4 1 = .ok (.iload_n 0, 1) := by decide +kernel
theorem dJ6_bitCount_0f7a4_2 : decode cJ6_bitCount_0f7a4 2 = .ok (.iconst 1, 1) := by decide +kernel
theorem dJ6_bitCount_0f7a4_3 : decode cJ6_bitCount_0f7a4 3 = .ok (.iushr, 1) := by decide +kernel
theorem dJ6_bitCount_0f7a4_4 : decode cJ6_bitCount_0f7a4 4 = .ok (.ldc_w 265, 3) := by decide +kernel
theorem dJ6_bitCount_0f7a4_7 : decode cJ6_bitCount_0f7a4 7 = .ok (.iand, 1) := by decide +kernel
theorem dJ6_bitCount_0f7a4_8 : decode cJ6_bitCount_0f7a4 8 = .ok (.isub, 1) := by decide +kernel
theorem dJ6_bitCount_0f7a4_9 : decode cJ6_bitCount_0f7a4 9 = .ok (.istore_n 0, 1) := by decide +kernel
theorem dJ6_bitCount_0f7a4_10 : decode cJ6_bitCount_0f7a4 10 = .ok (.iload_n 0, 1) := by decide +kernel
theorem dJ6_bitCount_0f7a4_11 : decode cJ6_bitCount_0f7a4 11 = .ok (.ldc_w 266, 3) := by decide +kernel
theorem dJ6_bitCount_0f7a4_14 : decode cJ6_bitCount_0f7a4 14 = .ok (.iand, 1) := by decide +kernel
theorem dJ6_bitCount_0f7a4_15 : decode cJ6_bitCount_0f7a4 15 = .ok (.iload_n 0, 1) := by decide +kernel
theorem dJ6_bitCount_0f7a4_16 : decode cJ6_bitCount_0f7a4 16 = .ok (.iconst 2, 1) := by decide +kernel
theorem dJ6_bitCount_0f7a4_17 : decode cJ6_bitCount_0f7a4 17 = .ok (.iushr, 1) := by decide +kernel
theorem dJ6_bitCount_0f7a4_18 : decode cJ6_bitCount_0f7a4 18 = .ok (.ldc_w 266, 3) := by decide +kernel
theorem dJ6_bitCount_0f7a4_21 : decode cJ6_bitCount_0f7a4 21 = .ok (.iand, 1) := by decide +kernel
theorem dJ6_bitCount_0f7a4_22 : decode cJ6_bitCount_0f7a4 22 = .ok (.iadd, 1) := by decide +kernel
theorem dJ6_bitCount_0f7a4_23 : decode cJ6_bitCount_0f7a4 23 = .ok (.istore_n 0, 1) := by decide +kernel
theorem dJ6_bitCount_0f7a4_24 : decode cJ6_bitCount_0f7a4 24 = .ok (.iload_n 0, 1) := by decide +kernel
theorem dJ6_bitCount_0f7a4_25 : decode cJ6_bitCount_0f7a4 25 = .ok (.iload_n 0, 1) := by decide +kernel
theorem dJ6_bitCount_0f7a4_26 : decode cJ6_bitCount_0f7a4 26 = .ok (.iconst 4, 1) := by decide +kernel
theorem dJ6_bitCount_0f7a4_27 : decode cJ6_bitCount_0f7a4 27 = .ok (.iushr, 1) := by decide +kernel
theorem dJ6_bitCount_0f7a4_28 : decode cJ6_bitCount_0f7a4 28 = .ok (.iadd, 1) := by decide +kernel
theorem dJ6_bitCount_0f7a4_29 : decode cJ6_bitCount_0f7a4 29 = .ok (.ldc_w 267, 3) := by decide +kernel
theorem dJ6_bitCount_0f7a4_32 : decode cJ6_bitCount_0f7a4 32 = .ok (.iand, 1) := by decide +kernel
theorem dJ6_bitCount_0f7a4_33 : decode cJ6_bitCount_0f7a4 33 = .ok (.istore_n 0, 1) := by decide +kernel
theorem dJ6_bitCount_0f7a4_34 : decode cJ6_bitCount_0f7a4 34 = .ok (.iload_n 0, 1) := by decide +kernel
theorem dJ6_bitCount_0f7a4_35 : decode cJ6_bitCount_0f7a4 35 = .ok (.iload_n 0, 1) := by decide +kernel
theorem dJ6_bitCount_0f7a4_36 : decode cJ6_bitCount_0f7a4 36 = .ok (.bipush 8, 2) := by decide +kernel
theorem dJ6_bitCount_0f7a4_38 : decode cJ6_bitCount_0f7a4 38 = .ok (.iushr, 1) := by decide +kernel
theorem dJ6_bitCount_0f7a4_39 : decode cJ6_bitCount_0f7a4 39 = .ok (.iadd, 1) := by decide +kernel
theorem dJ6_bitCount_0f7a4_40 : decode cJ6_bitCount_0f7a4 40 = .ok (.istore_n 0, 1) := by decide +kernel
theorem dJ6_bitCount_0f7a4_41 : decode cJ6_bitCount_0f7a4 41 = .ok (.iload_n 0, 1) := by decide +kernel
theorem dJ6_bitCount_0f7a4_42 : decode cJ6_bitCount_0f7a4 42 = .ok (.iload_n 0, 1) := by decide +kernel
theorem dJ6_bitCount_0f7a4_43 : decode cJ6_bitCount_0f7a4 43 = .ok (.bipush 16, 2) := by decide +kernel
theorem dJ6_bitCount_0f7a4_45 : decode cJ6_bitCount_0f7a4 45 = .ok (.iushr, 1) := by decide +kernel
theorem dJ6_bitCount_0f7a4_46 : decode cJ6_bitCount_0f7a4 46 = .ok (.iadd, 1) := by decide +kernel
theorem dJ6_bitCount_0f7a4_47 : decode cJ6_bitCount_0f7a4 47 = .ok (.istore_n 0, 1) := by decide +kernel
theorem dJ6_bitCount_0f7a4_48 : decode cJ6_bitCount_0f7a4 48 = .ok (.iload_n 0, 1) := by decide +kernel
theorem dJ6_bitCount_0f7a4_49 : decode cJ6_bitCount_0f7a4 49 = .ok (.bipush 63, 2) := by decide +kernel
theorem dJ6_bitCount_0f7a4_51 : decode cJ6_bitCount_0f7a4 51 = .ok (.iand, 1) := by decide +kernel
theorem dJ6_bitCount_0f7a4_52 : decode cJ6_bitCount_0f7a4 52 = .ok (.ireturn, 1) := by decide +kernel
theorem dJ7_fill_53178_0 : decode cJ7_fill_53178 0 = .ok (.iconst 0, 1) := by decide +kernel
theorem dJ7_fill_53178_1 : decode cJ7_fill_53178 1 = .ok (.istore_n 2, 1) := by decide +kernel
theorem dJ7_fill_53178_2 : decode cJ7_fill_53178 2 = .ok (.aload_n 0, 1) := by decide +kernel
theorem dJ7_fill_53178_3 : decode cJ7_fill_53178 3 = .ok (.arraylength, 1) := by decide +kernel
theorem dJ7_fill_53178_4 : decode cJ7_fill_53178 4 = .ok (.istore_n 3, 1) := by decide +kernel
theorem dJ7_fill_53178_5 : decode cJ7_fill_53178 5 = .ok (.iload_n 2, 1) := by decide +kernel
theorem dJ7_fill_53178_6 : decode cJ7_fill_53178 6 = .ok (.iload_n 3, 1) := by decide +kernel
theorem dJ7_fill_53178_7 : decode cJ7_fill_53178 7 = .ok (.if_icmp .ge 13, 3) := by decide +kernel
theorem dJ7_fill_53178_10 : decode cJ7_fill_53178 10 = .ok (.aload_n 0, 1) := by decide +kernel
theorem dJ7_fill_53178_11 : decode cJ7_fill_53178 11 = .ok (.iload_n 2, 1) := by decide +kernel
theorem dJ7_fill_53178_12 : decode cJ7_fill_53178 12 = .ok (.iload_n 1, 1) := by decide +kernel
theorem dJ7_fill_53178_13 : decode cJ7_fill_53178 13 = .ok (.iastore, 1) := by decide +kernel
theorem dJ7_fill_53178_14 : decode cJ7_fill_53178 14 = .ok (.iinc 2 1, 3) := by decide +kernel
theorem dJ7_fill_53178_17 : decode cJ7_fill_53178 17 = .ok (.goto (-12), 3) := by decide +kernel
theorem dJ7_fill_53178_20 : decode cJ7_fill_53178 20 = .ok (.return_, 1) := by decide +kernel

theorem dX12_init_0 : decode cX12_init 0 = .ok (.aload_n 0, 1) := by decide +kernel
theorem dX12_init_1 : decode cX12_init 1 = .ok (.invokespecial 1, 3) := by decide +kernel
theorem dX12_init_4 : decode cX12_init 4 = .ok (.aload_n 0, 1) := by decide +kernel
theorem dX12_init_5 : decode cX12_init 5 = .ok (.bipush 53, 2) := by decide +kernel
theorem dX12_init_7 : decode cX12_init 7 = .ok (.newarray .int, 2) := by decide +kernel
theorem dX12_init_9 : decode cX12_init 9 = .ok (.putfield 9, 3) := by decide +kernel
theorem dX12_init_12 : decode cX12_init 12 = .ok (.aload_n 0, 1) := by decide +kernel
theorem dX12_init_13 : decode cX12_init 13 = .ok (.bipush 53, 2) := by decide +kernel
theorem dX12_init_15 : decode cX12_init 15 = .ok (.newarray .int, 2) := by decide +kernel
theorem dX12_init_17 : decode cX12_init 17 = .ok (.putfield 13, 3) := by decide +kernel
theorem dX12_init_20 : decode cX12_init 20 = .ok (.aload_n 0, 1) := by decide +kernel
theorem dX12_init_21 : decode cX12_init 21 = .ok (.bipush 53, 2) := by decide +kernel
theorem dX12_init_23 : decode cX12_init 23 = .ok (.newarray .int, 2) := by decide +kernel
theorem dX12_init_25 : decode cX12_init 25 = .ok (.putfield 16, 3) := by decide +kernel
theorem dX12_init_28 : decode cX12_init 28 = .ok (.aload_n 0, 1) := by decide +kernel
theorem dX12_init_29 : decode cX12_init 29 = .ok (.bipush 53, 2) := by decide +kernel
theorem dX12_init_31 : decode cX12_init 31 = .ok (.newarray .int, 2) := by decide +kernel
theorem dX12_init_33 : decode cX12_init 33 = .ok (.putfield 19, 3) := by decide +kernel
theorem dX12_init_36 : decode cX12_init 36 = .ok (.aload_n 0, 1) := by decide +kernel
theorem dX12_init_37 : decode cX12_init 37 = .ok (.bipush 8, 2) := by decide +kernel
theorem dX12_init_39 : decode cX12_init 39 = .ok (.newarray .int, 2) := by decide +kernel
theorem dX12_init_41 : decode cX12_init 41 = .ok (.putfield 22, 3) := by decide +kernel
theorem dX12_init_44 : decode cX12_init 44 = .ok (.aload_n 0, 1) := by decide +kernel
theorem dX12_init_45 : decode cX12_init 45 = .ok (.bipush 8, 2) := by decide +kernel
theorem dX12_init_47 : decode cX12_init 47 = .ok (.newarray .int, 2) := by decide +kernel
theorem dX12_init_49 : decode cX12_init 49 = .ok (.putfield 25, 3) := by decide +kernel
theorem dX12_init_52 : decode cX12_init 52 = .ok (.aload_n 0, 1) := by decide +kernel
theorem dX12_init_53 : decode cX12_init 53 = .ok (.bipush 8, 2) := by decide +kernel
theorem dX12_init_55 : decode cX12_init 55 = .ok (.newarray .int, 2) := by decide +kernel
theorem dX12_init_57 : decode cX12_init 57 = .ok (.putfield 28, 3) := by decide +kernel
theorem dX12_init_60 : decode cX12_init 60 = .ok (.aload_n 0, 1) := by decide +kernel
theorem dX12_init_61 : decode cX12_init 61 = .ok (.sipush 800, 3) := by decide +kernel
theorem dX12_init_64 : decode cX12_init 64 = .ok (.newarray .int, 2) := by decide +kernel
theorem dX12_init_66 : decode cX12_init 66 = .ok (.putfield 31, 3) := by decide +kernel
theorem dX12_init_69 : decode cX12_init 69 = .ok (.aload_n 0, 1) := by decide +kernel
theorem dX12_init_70 : decode cX12_init 70 = .ok (.bipush 8, 2) := by decide +kernel
theorem dX12_init_72 : decode cX12_init 72 = .ok (.newarray .int, 2) := by decide +kernel
theorem dX12_init_74 : decode cX12_init 74 = .ok (.putfield 34, 3) := by decide +kernel
theorem dX12_init_77 : decode cX12_init 77 = .ok (.aload_n 0, 1) := by decide +kernel
theorem dX12_init_78 : decode cX12_init 78 = .ok (.bipush 8, 2) := by decide +kernel
theorem dX12_init_80 : decode cX12_init 80 = .ok (.newarray .int, 2) := by decide +kernel
theorem dX12_init_82 : decode cX12_init 82 = .ok (.putfield 37, 3) := by decide +kernel
theorem dX12_init_85 : decode cX12_init 85 = .ok (.aload_n 0, 1) := by decide +kernel
theorem dX12_init_86 : decode cX12_init 86 = .ok (.iconst 2, 1) := by decide +kernel
theorem dX12_init_87 : decode cX12_init 87 = .ok (.newarray .int, 2) := by decide +kernel
theorem dX12_init_89 : decode cX12_init 89 = .ok (.putfield 40, 3) := by decide +kernel
theorem dX12_init_92 : decode cX12_init 92 = .ok (.aload_n 0, 1) := by decide +kernel
theorem dX12_init_93 : decode cX12_init 93 = .ok (.sipush 512, 3) := by decide +kernel
theorem dX12_init_96 : decode cX12_init 96 = .ok (.newarray .int, 2) := by decide +kernel
theorem dX12_init_98 : decode cX12_init 98 = .ok (.putfield 43, 3) := by decide +kernel
theorem dX12_init_101 : decode cX12_init 101 = .ok (.aload_n 0, 1) := by decide +kernel
theorem dX12_init_102 : decode cX12_init 102 = .ok (.sipush 512, 3) := by decide +kernel
theorem dX12_init_105 : decode cX12_init 105 = .ok (.newarray .int, 2) := by decide +kernel
theorem dX12_init_107 : decode cX12_init 107 = .ok (.putfield 46, 3) := by decide +kernel
theorem dX12_init_110 : decode cX12_init 110 = .ok (.aload_n 0, 1) := by decide +kernel
theorem dX12_init_111 : decode cX12_init 111 = .ok (.sipush 512, 3) := by decide +kernel
theorem dX12_init_114 : decode cX12_init 114 = .ok (.newarray .int, 2) := by decide +kernel
theorem dX12_init_116 : decode cX12_init 116 = .ok (.putfield 49, 3) := by decide +kernel
theorem dX12_init_119 : decode cX12_init 119 = .ok (.return_, 1) := by decide +kernel
theorem dX12_thrown_0 : decode cX12_thrown 0 = .ok (.aload_n 0, 1) := by decide +kernel
theorem dX12_thrown_1 : decode cX12_thrown 1 = .ok (.getfield 52, 3) := by decide +kernel
theorem dX12_thrown_4 : decode cX12_thrown 4 = .ok (.ireturn, 1) := by decide +kernel
theorem dX12_isIn_0 : decode cX12_isIn 0 = .ok (.lload_n 0, 1) := by decide +kernel
theorem dX12_isIn_1 : decode cX12_isIn 1 = .ok (.lload_n 2, 1) := by decide +kernel
theorem dX12_isIn_2 : decode cX12_isIn 2 = .ok (.lcmp, 1) := by decide +kernel
theorem dX12_isIn_3 : decode cX12_isIn 3 = .ok (.ifCond .lt 14, 3) := by decide +kernel
theorem dX12_isIn_6 : decode cX12_isIn 6 = .ok (.lload_n 0, 1) := by decide +kernel
theorem dX12_isIn_7 : decode cX12_isIn 7 = .ok (.lload 4, 2) := by decide +kernel
theorem dX12_isIn_9 : decode cX12_isIn 9 = .ok (.lcmp, 1) := by decide +kernel
theorem dX12_isIn_10 : decode cX12_isIn 10 = .ok (.ifCond .gt 7, 3) := by decide +kernel
theorem dX12_isIn_13 : decode cX12_isIn 13 = .ok (.iconst 1, 1) := by decide +kernel
theorem dX12_isIn_14 : decode cX12_isIn 14 = .ok (.goto 4, 3) := by decide +kernel
theorem dX12_isIn_17 : decode cX12_isIn 17 = .ok (.iconst 0, 1) := by decide +kernel
theorem dX12_isIn_18 : decode cX12_isIn 18 = .ok (.ireturn, 1) := by decide +kernel
set_option maxRecDepth 20000 in
theorem ggX12_isShelf_X12_isIn : GoodIn wsX12_isShelf wsX12_isIn := goodIn_r _ [5] (by decide +kernel) (by decide +kernel)
set_option maxRecDepth 20000 in
theorem gX12_isShelf_X12_isIn : GoodIn wsX12_isShelf (va_wsS RX12 58 yX12_isIn wsX12_isIn) := goodIn_app (goodIn_of _ (by decide +kernel)) ggX12_isShelf_X12_isIn
theorem dX12_isShelf_0 : decode cX12_isShelf 0 = .ok (.iload_n 0, 1) := by decide +kernel
theorem dX12_isShelf_1 : decode cX12_isShelf 1 = .ok (.i2l, 1) := by decide +kernel
theorem dX12_isShelf_2 : decode cX12_isShelf 2 = .ok (.lconst 0, 1) := by decide +kernel
theorem dX12_isShelf_3 : decode cX12_isShelf 3 = .ok (.ldc2_w 56, 3) := by decide +kernel
theorem dX12_isShelf_6 : decode cX12_isShelf 6 = .ok (.invokestatic 58, 3) := by decide +kernel
theorem dX12_isShelf_9 : decode cX12_isShelf 9 = .ok (.ireturn, 1) := by decide +kernel
set_option maxRecDepth 20000 in
theorem ggX12_isSentence_X12_isIn : GoodIn wsX12_isSentence wsX12_isIn := goodIn_r _ [5] (by decide +kernel) (by decide +kernel)
set_option maxRecDepth 20000 in
theorem gX12_isSentence_X12_isIn : GoodIn wsX12_isSentence (va_wsS RX12 58 yX12_isIn wsX12_isIn) := goodIn_app (goodIn_of _ (by decide +kernel)) ggX12_isSentence_X12_isIn
theorem dX12_isSentence_0 : decode cX12_isSentence 0 = .ok (.iload_n 1, 1) := by decide +kernel
theorem dX12_isSentence_1 : decode cX12_isSentence 1 = .ok (.i2l, 1) := by decide +kernel
theorem dX12_isSentence_2 : decode cX12_isSentence 2 = .ok (.lconst 0, 1) := by decide +kernel
theorem dX12_isSentence_3 : decode cX12_isSentence 3 = .ok (.aload_n 0, 1) := by decide +kernel
theorem dX12_isSentence_4 : decode cX12_isSentence 4 = .ok (.getfield 9, 3) := by decide +kernel
theorem dX12_isSentence_7 : decode cX12_isSentence 7 = .ok (.iconst 0, 1) := by decide +kernel
theorem dX12_isSentence_8 : decode cX12_isSentence 8 = .ok (.iaload, 1) := by decide +kernel
theorem dX12_isSentence_9 : decode cX12_isSentence 9 = .ok (.iconst 1, 1) := by decide +kernel
theorem dX12_isSentence_10 : decode cX12_isSentence 10 = .ok (.isub, 1) := by decide +kernel
theorem dX12_isSentence_11 : decode cX12_isSentence 11 = .ok (.i2l, 1) := by decide +kernel
theorem dX12_isSentence_12 : decode cX12_isSentence 12 = .ok (.invokestatic 58, 3) := by decide +kernel
theorem dX12_isSentence_15 : decode cX12_isSentence 15 = .ok (.ireturn, 1) := by decide +kernel
set_option maxRecDepth 20000 in
theorem ggX12_isDenier_X12_isIn : GoodIn wsX12_isDenier wsX12_isIn := goodIn_r _ [5] (by decide +kernel) (by decide +kernel)
set_option maxRecDepth 20000 in
theorem gX12_isDenier_X12_isIn : GoodIn wsX12_isDenier (va_wsS RX12 58 yX12_isIn wsX12_isIn) := goodIn_app (goodIn_of _ (by decide +kernel)) ggX12_isDenier_X12_isIn
theorem dX12_isDenier_0 : decode cX12_isDenier 0 = .ok (.iload_n 1, 1) := by decide +kernel
theorem dX12_isDenier_1 : decode cX12_isDenier 1 = .ok (.i2l, 1) := by decide +kernel
theorem dX12_isDenier_2 : decode cX12_isDenier 2 = .ok (.lconst 0, 1) := by decide +kernel
theorem dX12_isDenier_3 : decode cX12_isDenier 3 = .ok (.aload_n 0, 1) := by decide +kernel
theorem dX12_isDenier_4 : decode cX12_isDenier 4 = .ok (.getfield 9, 3) := by decide +kernel
theorem dX12_isDenier_7 : decode cX12_isDenier 7 = .ok (.iconst 1, 1) := by decide +kernel
theorem dX12_isDenier_8 : decode cX12_isDenier 8 = .ok (.iaload, 1) := by decide +kernel
theorem dX12_isDenier_9 : decode cX12_isDenier 9 = .ok (.iconst 1, 1) := by decide +kernel
theorem dX12_isDenier_10 : decode cX12_isDenier 10 = .ok (.isub, 1) := by decide +kernel
theorem dX12_isDenier_11 : decode cX12_isDenier 11 = .ok (.i2l, 1) := by decide +kernel
theorem dX12_isDenier_12 : decode cX12_isDenier 12 = .ok (.invokestatic 58, 3) := by decide +kernel
theorem dX12_isDenier_15 : decode cX12_isDenier 15 = .ok (.ireturn, 1) := by decide +kernel
theorem dX12_lays_0 : decode cX12_lays 0 = .ok (.iconst 0, 1) := by decide +kernel
theorem dX12_lays_1 : decode cX12_lays 1 = .ok (.istore_n 2, 1) := by decide +kernel
theorem dX12_lays_2 : decode cX12_lays 2 = .ok (.iload_n 2, 1) := by decide +kernel
theorem dX12_lays_3 : decode cX12_lays 3 = .ok (.bipush 53, 2) := by decide +kernel
theorem dX12_lays_5 : decode cX12_lays 5 = .ok (.if_icmp .ge 15, 3) := by decide +kernel
theorem dX12_lays_8 : decode cX12_lays 8 = .ok (.aload_n 1, 1) := by decide +kernel
theorem dX12_lays_9 : decode cX12_lays 9 = .ok (.iload_n 2, 1) := by decide +kernel
theorem dX12_lays_10 : decode cX12_lays 10 = .ok (.aload_n 0, 1) := by decide +kernel
theorem dX12_lays_11 : decode cX12_lays 11 = .ok (.iload_n 2, 1) := by decide +kernel
theorem dX12_lays_12 : decode cX12_lays 12 = .ok (.iaload, 1) := by decide +kernel
theorem dX12_lays_13 : decode cX12_lays 13 = .ok (.iastore, 1) := by decide +kernel
theorem dX12_lays_14 : decode cX12_lays 14 = .ok (.iinc 2 1, 3) := by decide +kernel
theorem dX12_lays_17 : decode cX12_lays 17 = .ok (.goto (-15), 3) := by decide +kernel
theorem dX12_lays_20 : decode cX12_lays 20 = .ok (.return_, 1) := by decide +kernel
set_option maxRecDepth 20000 in
theorem ggX12_begins_X12_lays : GoodIn wsX12_begins wsX12_lays := goodIn_r _ [6] (by decide +kernel) (by decide +kernel)
set_option maxRecDepth 20000 in
theorem gX12_begins_X12_lays : GoodIn wsX12_begins (va_wsS RX12 62 yX12_lays wsX12_lays) := goodIn_app (goodIn_of _ (by decide +kernel)) ggX12_begins_X12_lays
theorem dX12_begins_0 : decode cX12_begins 0 = .ok (.aload_n 0, 1) := by decide +kernel
theorem dX12_begins_1 : decode cX12_begins 1 = .ok (.getfield 9, 3) := by decide +kernel
theorem dX12_begins_4 : decode cX12_begins 4 = .ok (.aload_n 0, 1) := by decide +kernel
theorem dX12_begins_5 : decode cX12_begins 5 = .ok (.getfield 19, 3) := by decide +kernel
theorem dX12_begins_8 : decode cX12_begins 8 = .ok (.invokestatic 62, 3) := by decide +kernel
theorem dX12_begins_11 : decode cX12_begins 11 = .ok (.return_, 1) := by decide +kernel
set_option maxRecDepth 20000 in
theorem ggX12_ends_X12_lays : GoodIn wsX12_ends wsX12_lays := goodIn_r _ [6] (by decide +kernel) (by decide +kernel)
set_option maxRecDepth 20000 in
theorem gX12_ends_X12_lays : GoodIn wsX12_ends (va_wsS RX12 62 yX12_lays wsX12_lays) := goodIn_app (goodIn_of _ (by decide +kernel)) ggX12_ends_X12_lays
theorem dX12_ends_0 : decode cX12_ends 0 = .ok (.aload_n 0, 1) := by decide +kernel
theorem dX12_ends_1 : decode cX12_ends 1 = .ok (.getfield 19, 3) := by decide +kernel
theorem dX12_ends_4 : decode cX12_ends 4 = .ok (.aload_n 0, 1) := by decide +kernel
theorem dX12_ends_5 : decode cX12_ends 5 = .ok (.getfield 9, 3) := by decide +kernel
theorem dX12_ends_8 : decode cX12_ends 8 = .ok (.invokestatic 62, 3) := by decide +kernel
theorem dX12_ends_11 : decode cX12_ends 11 = .ok (.return_, 1) := by decide +kernel
theorem dX12_of_0 : decode cX12_of 0 = .ok (.aload_n 0, 1) := by decide +kernel
theorem dX12_of_1 : decode cX12_of 1 = .ok (.getfield 9, 3) := by decide +kernel
theorem dX12_of_4 : decode cX12_of 4 = .ok (.iconst 5, 1) := by decide +kernel
theorem dX12_of_5 : decode cX12_of 5 = .ok (.iconst 3, 1) := by decide +kernel
theorem dX12_of_6 : decode cX12_of 6 = .ok (.iload_n 1, 1) := by decide +kernel
theorem dX12_of_7 : decode cX12_of 7 = .ok (.imul, 1) := by decide +kernel
theorem dX12_of_8 : decode cX12_of 8 = .ok (.iadd, 1) := by decide +kernel
theorem dX12_of_9 : decode cX12_of 9 = .ok (.iload_n 2, 1) := by decide +kernel
theorem dX12_of_10 : decode cX12_of 10 = .ok (.iadd, 1) := by decide +kernel
theorem dX12_of_11 : decode cX12_of 11 = .ok (.iaload, 1) := by decide +kernel
theorem dX12_of_12 : decode cX12_of 12 = .ok (.ireturn, 1) := by decide +kernel
theorem dX12_setOf_0 : decode cX12_setOf 0 = .ok (.aload_n 0, 1) := by decide +kernel
theorem dX12_setOf_1 : decode cX12_setOf 1 = .ok (.getfield 9, 3) := by decide +kernel
theorem dX12_setOf_4 : decode cX12_setOf 4 = .ok (.iconst 5, 1) := by decide +kernel
theorem dX12_setOf_5 : decode cX12_setOf 5 = .ok (.iconst 3, 1) := by decide +kernel
theorem dX12_setOf_6 : decode cX12_setOf 6 = .ok (.iload_n 1, 1) := by decide +kernel
theorem dX12_setOf_7 : decode cX12_setOf 7 = .ok (.imul, 1) := by decide +kernel
theorem dX12_setOf_8 : decode cX12_setOf 8 = .ok (.iadd, 1) := by decide +kernel
theorem dX12_setOf_9 : decode cX12_setOf 9 = .ok (.iload_n 2, 1) := by decide +kernel
theorem dX12_setOf_10 : decode cX12_setOf 10 = .ok (.iadd, 1) := by decide +kernel
theorem dX12_setOf_11 : decode cX12_setOf 11 = .ok (.iload_n 3, 1) := by decide +kernel
theorem dX12_setOf_12 : decode cX12_setOf 12 = .ok (.iastore, 1) := by decide +kernel
theorem dX12_setOf_13 : decode cX12_setOf 13 = .ok (.return_, 1) := by decide +kernel
theorem dX12_get_0 : decode cX12_get 0 = .ok (.aload_n 0, 1) := by decide +kernel
theorem dX12_get_1 : decode cX12_get 1 = .ok (.getfield 9, 3) := by decide +kernel
theorem dX12_get_4 : decode cX12_get 4 = .ok (.bipush 32, 2) := by decide +kernel
theorem dX12_get_6 : decode cX12_get 6 = .ok (.iconst 3, 1) := by decide +kernel
theorem dX12_get_7 : decode cX12_get 7 = .ok (.iload_n 1, 1) := by decide +kernel
theorem dX12_get_8 : decode cX12_get 8 = .ok (.imul, 1) := by decide +kernel
theorem dX12_get_9 : decode cX12_get 9 = .ok (.iadd, 1) := by decide +kernel
theorem dX12_get_10 : decode cX12_get 10 = .ok (.iload_n 2, 1) := by decide +kernel
theorem dX12_get_11 : decode cX12_get 11 = .ok (.iadd, 1) := by decide +kernel
theorem dX12_get_12 : decode cX12_get 12 = .ok (.iaload, 1) := by decide +kernel
theorem dX12_get_13 : decode cX12_get 13 = .ok (.ireturn, 1) := by decide +kernel
theorem dX12_puts_0 : decode cX12_puts 0 = .ok (.aload_n 0, 1) := by decide +kernel
theorem dX12_puts_1 : decode cX12_puts 1 = .ok (.getfield 9, 3) := by decide +kernel
theorem dX12_puts_4 : decode cX12_puts 4 = .ok (.bipush 32, 2) := by decide +kernel
theorem dX12_puts_6 : decode cX12_puts 6 = .ok (.iconst 3, 1) := by decide +kernel
theorem dX12_puts_7 : decode cX12_puts 7 = .ok (.iload_n 1, 1) := by decide +kernel
theorem dX12_puts_8 : decode cX12_puts 8 = .ok (.imul, 1) := by decide +kernel
theorem dX12_puts_9 : decode cX12_puts 9 = .ok (.iadd, 1) := by decide +kernel
theorem dX12_puts_10 : decode cX12_puts 10 = .ok (.iload_n 2, 1) := by decide +kernel
theorem dX12_puts_11 : decode cX12_puts 11 = .ok (.iadd, 1) := by decide +kernel
theorem dX12_puts_12 : decode cX12_puts 12 = .ok (.iload_n 3, 1) := by decide +kernel
theorem dX12_puts_13 : decode cX12_puts 13 = .ok (.iastore, 1) := by decide +kernel
theorem dX12_puts_14 : decode cX12_puts 14 = .ok (.return_, 1) := by decide +kernel
theorem dX12_has_0 : decode cX12_has 0 = .ok (.iload_n 0, 1) := by decide +kernel
theorem dX12_has_1 : decode cX12_has 1 = .ok (.iload_n 1, 1) := by decide +kernel
theorem dX12_has_2 : decode cX12_has 2 = .ok (.ishr, 1) := by decide +kernel
theorem dX12_has_3 : decode cX12_has 3 = .ok (.iconst 1, 1) := by decide +kernel
theorem dX12_has_4 : decode cX12_has 4 = .ok (.iand, 1) := by decide +kernel
theorem dX12_has_5 : decode cX12_has 5 = .ok (.iconst 1, 1) := by decide +kernel
theorem dX12_has_6 : decode cX12_has 6 = .ok (.if_icmp .ne 7, 3) := by decide +kernel
theorem dX12_has_9 : decode cX12_has 9 = .ok (.iconst 1, 1) := by decide +kernel
theorem dX12_has_10 : decode cX12_has 10 = .ok (.goto 4, 3) := by decide +kernel
theorem dX12_has_13 : decode cX12_has 13 = .ok (.iconst 0, 1) := by decide +kernel
theorem dX12_has_14 : decode cX12_has 14 = .ok (.ireturn, 1) := by decide +kernel
theorem dX12_bits_0 : decode cX12_bits 0 = .ok (.iconst 0, 1) := by decide +kernel
theorem dX12_bits_1 : decode cX12_bits 1 = .ok (.istore_n 1, 1) := by decide +kernel
theorem dX12_bits_2 : decode cX12_bits 2 = .ok (.iload_n 0, 1) := by decide +kernel
theorem dX12_bits_3 : decode cX12_bits 3 = .ok (.istore_n 2, 1) := by decide +kernel
theorem dX12_bits_4 : decode cX12_bits 4 = .ok (.iload_n 2, 1) := by decide +kernel
theorem dX12_bits_5 : decode cX12_bits 5 = .ok (.ifCond .le 16, 3) := by decide +kernel
theorem dX12_bits_8 : decode cX12_bits 8 = .ok (.iload_n 1, 1) := by decide +kernel
theorem dX12_bits_9 : decode cX12_bits 9 = .ok (.iload_n 2, 1) := by decide +kernel
theorem dX12_bits_10 : decode cX12_bits 10 = .ok (.iconst 1, 1) := by decide +kernel
theorem dX12_bits_11 : decode cX12_bits 11 = .ok (.iand, 1) := by decide +kernel
theorem dX12_bits_12 : decode cX12_bits 12 = .ok (.iadd, 1) := by decide +kernel
theorem dX12_bits_13 : decode cX12_bits 13 = .ok (.istore_n 1, 1) := by decide +kernel
theorem dX12_bits_14 : decode cX12_bits 14 = .ok (.iload_n 2, 1) := by decide +kernel
theorem dX12_bits_15 : decode cX12_bits 15 = .ok (.iconst 1, 1) := by decide +kernel
theorem dX12_bits_16 : decode cX12_bits 16 = .ok (.ishr, 1) := by decide +kernel
theorem dX12_bits_17 : decode cX12_bits 17 = .ok (.istore_n 2, 1) := by decide +kernel
theorem dX12_bits_18 : decode cX12_bits 18 = .ok (.goto (-14), 3) := by decide +kernel
theorem dX12_bits_21 : decode cX12_bits 21 = .ok (.iload_n 1, 1) := by decide +kernel
theorem dX12_bits_22 : decode cX12_bits 22 = .ok (.ireturn, 1) := by decide +kernel
theorem dX12_everything_0 : decode cX12_everything 0 = .ok (.iconst 1, 1) := by decide +kernel
theorem dX12_everything_1 : decode cX12_everything 1 = .ok (.aload_n 0, 1) := by decide +kernel
theorem dX12_everything_2 : decode cX12_everything 2 = .ok (.getfield 9, 3) := by decide +kernel
theorem dX12_everything_5 : decode cX12_everything 5 = .ok (.iconst 0, 1) := by decide +kernel
theorem dX12_everything_6 : decode cX12_everything 6 = .ok (.iaload, 1) := by decide +kernel
theorem dX12_everything_7 : decode cX12_everything 7 = .ok (.ishl, 1) := by decide +kernel
theorem dX12_everything_8 : decode cX12_everything 8 = .ok (.iconst 1, 1) := by decide +kernel
theorem dX12_everything_9 : decode cX12_everything 9 = .ok (.isub, 1) := by decide +kernel
theorem dX12_everything_10 : decode cX12_everything 10 = .ok (.ireturn, 1) := by decide +kernel
set_option maxRecDepth 20000 in
theorem ggX12_isTrue_X12_has : GoodIn wsX12_isTrue wsX12_has := goodIn_r _ [5] (by decide +kernel) (by decide +kernel)
set_option maxRecDepth 20000 in
theorem gX12_isTrue_X12_has : GoodIn wsX12_isTrue (va_wsS RX12 66 yX12_has wsX12_has) := goodIn_app (goodIn_of _ (by decide +kernel)) ggX12_isTrue_X12_has
theorem dX12_isTrue_0 : decode cX12_isTrue 0 = .ok (.aload_n 0, 1) := by decide +kernel
theorem dX12_isTrue_1 : decode cX12_isTrue 1 = .ok (.getfield 9, 3) := by decide +kernel
theorem dX12_isTrue_4 : decode cX12_isTrue 4 = .ok (.iconst 2, 1) := by decide +kernel
theorem dX12_isTrue_5 : decode cX12_isTrue 5 = .ok (.iaload, 1) := by decide +kernel
theorem dX12_isTrue_6 : decode cX12_isTrue 6 = .ok (.iload_n 1, 1) := by decide +kernel
theorem dX12_isTrue_7 : decode cX12_isTrue 7 = .ok (.invokestatic 66, 3) := by decide +kernel
theorem dX12_isTrue_10 : decode cX12_isTrue 10 = .ok (.ireturn, 1) := by decide +kernel
set_option maxRecDepth 20000 in
theorem ggX12_isAlive_X12_has : GoodIn wsX12_isAlive wsX12_has := goodIn_r _ [5] (by decide +kernel) (by decide +kernel)
set_option maxRecDepth 20000 in
theorem gX12_isAlive_X12_has : GoodIn wsX12_isAlive (va_wsS RX12 66 yX12_has wsX12_has) := goodIn_app (goodIn_of _ (by decide +kernel)) ggX12_isAlive_X12_has
theorem dX12_isAlive_0 : decode cX12_isAlive 0 = .ok (.aload_n 0, 1) := by decide +kernel
theorem dX12_isAlive_1 : decode cX12_isAlive 1 = .ok (.getfield 9, 3) := by decide +kernel
theorem dX12_isAlive_4 : decode cX12_isAlive 4 = .ok (.iconst 4, 1) := by decide +kernel
theorem dX12_isAlive_5 : decode cX12_isAlive 5 = .ok (.iaload, 1) := by decide +kernel
theorem dX12_isAlive_6 : decode cX12_isAlive 6 = .ok (.iload_n 1, 1) := by decide +kernel
theorem dX12_isAlive_7 : decode cX12_isAlive 7 = .ok (.invokestatic 66, 3) := by decide +kernel
theorem dX12_isAlive_10 : decode cX12_isAlive 10 = .ok (.ireturn, 1) := by decide +kernel
set_option maxRecDepth 20000 in
theorem ggX12_knows_X12_get : GoodIn wsX12_knows wsX12_get := goodIn_r _ [5, 6, 10, 11, 12, 13, 14, 15, 16, 17, 18, 19, 20, 21, 22, 23, 24, 25, 26, 27, 28, 29] (by decide +kernel) (by decide +kernel)
set_option maxRecDepth 20000 in
theorem gX12_knows_X12_get : GoodIn wsX12_knows (wsV RX12 70 RX12 yX12_get wsX12_get) := goodIn_app (goodIn_of _ (by decide +kernel)) ggX12_knows_X12_get
set_option maxRecDepth 20000 in
theorem ggX12_knows_X12_has : GoodIn wsX12_knows wsX12_has := goodIn_r _ [9] (by decide +kernel) (by decide +kernel)
set_option maxRecDepth 20000 in
theorem gX12_knows_X12_has : GoodIn wsX12_knows (va_wsS RX12 66 yX12_has wsX12_has) := goodIn_app (goodIn_of _ (by decide +kernel)) ggX12_knows_X12_has
theorem dX12_knows_0 : decode cX12_knows 0 = .ok (.aload_n 0, 1) := by decide +kernel
theorem dX12_knows_1 : decode cX12_knows 1 = .ok (.iload_n 1, 1) := by decide +kernel
theorem dX12_knows_2 : decode cX12_knows 2 = .ok (.iconst 2, 1) := by decide +kernel
theorem dX12_knows_3 : decode cX12_knows 3 = .ok (.invokevirtual 70, 3) := by decide +kernel
theorem dX12_knows_6 : decode cX12_knows 6 = .ok (.iload_n 2, 1) := by decide +kernel
theorem dX12_knows_7 : decode cX12_knows 7 = .ok (.invokestatic 66, 3) := by decide +kernel
theorem dX12_knows_10 : decode cX12_knows 10 = .ok (.ireturn, 1) := by decide +kernel
set_option maxRecDepth 20000 in
theorem ggX12_isMet_X12_of : GoodIn wsX12_isMet wsX12_of := goodIn_r _ [6, 1, 11, 12, 13, 14, 15, 16, 17, 18, 19, 20, 21, 22, 23, 24, 25, 26, 27, 28, 29, 30] (by decide +kernel) (by decide +kernel)
set_option maxRecDepth 20000 in
theorem gX12_isMet_X12_of : GoodIn wsX12_isMet (wsV RX12 74 RX12 yX12_of wsX12_of) := goodIn_app (goodIn_of _ (by decide +kernel)) ggX12_isMet_X12_of
set_option maxRecDepth 20000 in
theorem ggX12_isMet_X12_get : GoodIn wsX12_isMet wsX12_get := goodIn_r _ [10, 1, 11, 12, 13, 14, 15, 16, 17, 18, 19, 20, 21, 22, 23, 24, 25, 26, 27, 28, 29, 30] (by decide +kernel) (by decide +kernel)
set_option maxRecDepth 20000 in
theorem gX12_isMet_X12_get : GoodIn wsX12_isMet (wsV RX12 70 RX12 yX12_get wsX12_get) := goodIn_app (goodIn_of _ (by decide +kernel)) ggX12_isMet_X12_get
theorem dX12_isMet_0 : decode cX12_isMet 0 = .ok (.aload_n 0, 1) := by decide +kernel
theorem dX12_isMet_1 : decode cX12_isMet 1 = .ok (.iload_n 2, 1) := by decide +kernel
theorem dX12_isMet_2 : decode cX12_isMet 2 = .ok (.iconst 0, 1) := by decide +kernel
theorem dX12_isMet_3 : decode cX12_isMet 3 = .ok (.invokevirtual 74, 3) := by decide +kernel
theorem dX12_isMet_6 : decode cX12_isMet 6 = .ok (.aload_n 0, 1) := by decide +kernel
theorem dX12_isMet_7 : decode cX12_isMet 7 = .ok (.getfield 9, 3) := by decide +kernel
theorem dX12_isMet_10 : decode cX12_isMet 10 = .ok (.iconst 2, 1) := by decide +kernel
theorem dX12_isMet_11 : decode cX12_isMet 11 = .ok (.iaload, 1) := by decide +kernel
theorem dX12_isMet_12 : decode cX12_isMet 12 = .ok (.aload_n 0, 1) := by decide +kernel
theorem dX12_isMet_13 : decode cX12_isMet 13 = .ok (.iload_n 1, 1) := by decide +kernel
theorem dX12_isMet_14 : decode cX12_isMet 14 = .ok (.iconst 2, 1) := by decide +kernel
theorem dX12_isMet_15 : decode cX12_isMet 15 = .ok (.invokevirtual 70, 3) := by decide +kernel
theorem dX12_isMet_18 : decode cX12_isMet 18 = .ok (.ior, 1) := by decide +kernel
theorem dX12_isMet_19 : decode cX12_isMet 19 = .ok (.iconst (-1), 1) := by decide +kernel
theorem dX12_isMet_20 : decode cX12_isMet 20 = .ok (.ixor, 1) := by decide +kernel
theorem dX12_isMet_21 : decode cX12_isMet 21 = .ok (.iand, 1) := by decide +kernel
theorem dX12_isMet_22 : decode cX12_isMet 22 = .ok (.ifCond .ne 7, 3) := by decide +kernel
theorem dX12_isMet_25 : decode cX12_isMet 25 = .ok (.iconst 1, 1) := by decide +kernel
theorem dX12_isMet_26 : decode cX12_isMet 26 = .ok (.goto 4, 3) := by decide +kernel
theorem dX12_isMet_29 : decode cX12_isMet 29 = .ok (.iconst 0, 1) := by decide +kernel
theorem dX12_isMet_30 : decode cX12_isMet 30 = .ok (.ireturn, 1) := by decide +kernel
set_option maxRecDepth 20000 in
theorem ggX12_mayIf_X12_get : GoodIn wsX12_mayIf wsX12_get := goodIn_r _ [5, 6, 26, 27, 28, 29, 30, 31, 32, 33, 34, 35, 36, 37, 38, 39, 40, 41, 42, 43, 44, 45] (by decide +kernel) (by decide +kernel)
set_option maxRecDepth 20000 in
theorem gX12_mayIf_X12_get : GoodIn wsX12_mayIf (wsV RX12 70 RX12 yX12_get wsX12_get) := goodIn_app (goodIn_of _ (by decide +kernel)) ggX12_mayIf_X12_get
set_option maxRecDepth 20000 in
theorem ggX12_mayIf_X12_isTrue : GoodIn wsX12_mayIf wsX12_isTrue := goodIn_r _ [10, 6, 11, 12, 4, 13, 26, 27, 28, 29, 30, 31, 32, 33, 34, 35, 36, 37, 38, 39, 40, 41, 42, 43, 44, 45] (by decide +kernel) (by decide +kernel)
set_option maxRecDepth 20000 in
theorem gX12_mayIf_X12_isTrue : GoodIn wsX12_mayIf (wsV RX12 77 RX12 yX12_isTrue wsX12_isTrue) := goodIn_app (goodIn_of _ (by decide +kernel)) ggX12_mayIf_X12_isTrue
set_option maxRecDepth 20000 in
theorem ggX12_mayIf_X12_knows : GoodIn wsX12_mayIf wsX12_knows := goodIn_r _ [17, 1, 2, 3, 4, 5, 6, 11, 12, 13, 26, 27, 28, 29, 30, 31, 32, 33, 34, 35, 36, 37, 38, 39, 40, 41, 42, 43, 44, 45] (by decide +kernel) (by decide +kernel)
set_option maxRecDepth 20000 in
theorem gX12_mayIf_X12_knows : GoodIn wsX12_mayIf (wsV RX12 81 RX12 yX12_knows wsX12_knows) := goodIn_app (goodIn_of _ (by decide +kernel)) ggX12_mayIf_X12_knows
set_option maxRecDepth 20000 in
theorem ggX12_mayIf_X12_isMet : GoodIn wsX12_mayIf wsX12_isMet := goodIn_r _ [21, 6, 22, 23, 24, 4, 25, 1, 2, 3, 5, 26, 27, 28, 29, 30, 31, 32, 33, 34, 35, 36, 37, 38, 39, 40, 41, 42, 43, 44, 45] (by decide +kernel) (by decide +kernel)
set_option maxRecDepth 20000 in
theorem gX12_mayIf_X12_isMet : GoodIn wsX12_mayIf (wsV RX12 84 RX12 yX12_isMet wsX12_isMet) := goodIn_app (goodIn_of _ (by decide +kernel)) ggX12_mayIf_X12_isMet
set_option maxRecDepth 20000 in
theorem ggX12_mayIf_X12_of : GoodIn wsX12_mayIf wsX12_of := goodIn_r _ [25, 6, 26, 27, 28, 29, 30, 31, 32, 33, 34, 35, 36, 37, 38, 39, 40, 41, 42, 43, 44, 45] (by decide +kernel) (by decide +kernel)
set_option maxRecDepth 20000 in
theorem gX12_mayIf_X12_of : GoodIn wsX12_mayIf (wsV RX12 74 RX12 yX12_of wsX12_of) := goodIn_app (goodIn_of _ (by decide +kernel)) ggX12_mayIf_X12_of
theorem dX12_mayIf_0 : decode cX12_mayIf 0 = .ok (.aload_n 0, 1) := by decide +kernel
theorem dX12_mayIf_1 : decode cX12_mayIf 1 = .ok (.iload_n 1, 1) := by decide +kernel
theorem dX12_mayIf_2 : decode cX12_mayIf 2 = .ok (.iconst 1, 1) := by decide +kernel
theorem dX12_mayIf_3 : decode cX12_mayIf 3 = .ok (.invokevirtual 70, 3) := by decide +kernel
theorem dX12_mayIf_6 : decode cX12_mayIf 6 = .ok (.istore_n 3, 1) := by decide +kernel
theorem dX12_mayIf_7 : decode cX12_mayIf 7 = .ok (.aload_n 0, 1) := by decide +kernel
theorem dX12_mayIf_8 : decode cX12_mayIf 8 = .ok (.iload_n 2, 1) := by decide +kernel
theorem dX12_mayIf_9 : decode cX12_mayIf 9 = .ok (.invokevirtual 77, 3) := by decide +kernel
theorem dX12_mayIf_12 : decode cX12_mayIf 12 = .ok (.ifCond .ne 7, 3) := by decide +kernel
theorem dX12_mayIf_15 : decode cX12_mayIf 15 = .ok (.iconst 1, 1) := by decide +kernel
theorem dX12_mayIf_16 : decode cX12_mayIf 16 = .ok (.goto 4, 3) := by decide +kernel
theorem dX12_mayIf_19 : decode cX12_mayIf 19 = .ok (.iconst 0, 1) := by decide +kernel
theorem dX12_mayIf_20 : decode cX12_mayIf 20 = .ok (.istore 4, 2) := by decide +kernel
theorem dX12_mayIf_22 : decode cX12_mayIf 22 = .ok (.iload 4, 2) := by decide +kernel
theorem dX12_mayIf_24 : decode cX12_mayIf 24 = .ok (.ifCond .eq 16, 3) := by decide +kernel
theorem dX12_mayIf_27 : decode cX12_mayIf 27 = .ok (.aload_n 0, 1) := by decide +kernel
theorem dX12_mayIf_28 : decode cX12_mayIf 28 = .ok (.iload_n 1, 1) := by decide +kernel
theorem dX12_mayIf_29 : decode cX12_mayIf 29 = .ok (.iload_n 2, 1) := by decide +kernel
theorem dX12_mayIf_30 : decode cX12_mayIf 30 = .ok (.invokevirtual 81, 3) := by decide +kernel
theorem dX12_mayIf_33 : decode cX12_mayIf 33 = .ok (.ifCond .ne 7, 3) := by decide +kernel
theorem dX12_mayIf_36 : decode cX12_mayIf 36 = .ok (.iconst 1, 1) := by decide +kernel
theorem dX12_mayIf_37 : decode cX12_mayIf 37 = .ok (.goto 4, 3) := by decide +kernel
theorem dX12_mayIf_40 : decode cX12_mayIf 40 = .ok (.iconst 0, 1) := by decide +kernel
theorem dX12_mayIf_41 : decode cX12_mayIf 41 = .ok (.istore 5, 2) := by decide +kernel
theorem dX12_mayIf_43 : decode cX12_mayIf 43 = .ok (.aload_n 0, 1) := by decide +kernel
theorem dX12_mayIf_44 : decode cX12_mayIf 44 = .ok (.iload_n 1, 1) := by decide +kernel
theorem dX12_mayIf_45 : decode cX12_mayIf 45 = .ok (.iconst 0, 1) := by decide +kernel
theorem dX12_mayIf_46 : decode cX12_mayIf 46 = .ok (.invokevirtual 70, 3) := by decide +kernel
theorem dX12_mayIf_49 : decode cX12_mayIf 49 = .ok (.tableswitch 155 1 7 #[43, 46, 66, 68, 84, 100, 130], 43) := by decide +kernel
theorem dX12_mayIf_92 : decode cX12_mayIf 92 = .ok (.iload 4, 2) := by decide +kernel
theorem dX12_mayIf_94 : decode cX12_mayIf 94 = .ok (.ireturn, 1) := by decide +kernel
theorem dX12_mayIf_95 : decode cX12_mayIf 95 = .ok (.iload 5, 2) := by decide +kernel
theorem dX12_mayIf_97 : decode cX12_mayIf 97 = .ok (.ifCond .eq 16, 3) := by decide +kernel
theorem dX12_mayIf_100 : decode cX12_mayIf 100 = .ok (.aload_n 0, 1) := by decide +kernel
theorem dX12_mayIf_101 : decode cX12_mayIf 101 = .ok (.iload_n 1, 1) := by decide +kernel
theorem dX12_mayIf_102 : decode cX12_mayIf 102 = .ok (.iload_n 2, 1) := by decide +kernel
theorem dX12_mayIf_103 : decode cX12_mayIf 103 = .ok (.invokevirtual 84, 3) := by decide +kernel
theorem dX12_mayIf_106 : decode cX12_mayIf 106 = .ok (.ifCond .eq 7, 3) := by decide +kernel
theorem dX12_mayIf_109 : decode cX12_mayIf 109 = .ok (.iconst 1, 1) := by decide +kernel
theorem dX12_mayIf_110 : decode cX12_mayIf 110 = .ok (.goto 4, 3) := by decide +kernel
theorem dX12_mayIf_113 : decode cX12_mayIf 113 = .ok (.iconst 0, 1) := by decide +kernel
theorem dX12_mayIf_114 : decode cX12_mayIf 114 = .ok (.ireturn, 1) := by decide +kernel
theorem dX12_mayIf_115 : decode cX12_mayIf 115 = .ok (.iconst 1, 1) := by decide +kernel
theorem dX12_mayIf_116 : decode cX12_mayIf 116 = .ok (.ireturn, 1) := by decide +kernel
theorem dX12_mayIf_117 : decode cX12_mayIf 117 = .ok (.iload 5, 2) := by decide +kernel
theorem dX12_mayIf_119 : decode cX12_mayIf 119 = .ok (.ifCond .eq 12, 3) := by decide +kernel
theorem dX12_mayIf_122 : decode cX12_mayIf 122 = .ok (.iload_n 2, 1) := by decide +kernel
theorem dX12_mayIf_123 : decode cX12_mayIf 123 = .ok (.iload_n 3, 1) := by decide +kernel
theorem dX12_mayIf_124 : decode cX12_mayIf 124 = .ok (.if_icmp .eq 7, 3) := by decide +kernel
theorem dX12_mayIf_127 : decode cX12_mayIf 127 = .ok (.iconst 1, 1) := by decide +kernel
theorem dX12_mayIf_128 : decode cX12_mayIf 128 = .ok (.goto 4, 3) := by decide +kernel
theorem dX12_mayIf_131 : decode cX12_mayIf 131 = .ok (.iconst 0, 1) := by decide +kernel
theorem dX12_mayIf_132 : decode cX12_mayIf 132 = .ok (.ireturn, 1) := by decide +kernel
theorem dX12_mayIf_133 : decode cX12_mayIf 133 = .ok (.iload 4, 2) := by decide +kernel
theorem dX12_mayIf_135 : decode cX12_mayIf 135 = .ok (.ifCond .eq 12, 3) := by decide +kernel
theorem dX12_mayIf_138 : decode cX12_mayIf 138 = .ok (.iload_n 2, 1) := by decide +kernel
theorem dX12_mayIf_139 : decode cX12_mayIf 139 = .ok (.iload_n 3, 1) := by decide +kernel
theorem dX12_mayIf_140 : decode cX12_mayIf 140 = .ok (.if_icmp .gt 7, 3) := by decide +kernel
theorem dX12_mayIf_143 : decode cX12_mayIf 143 = .ok (.iconst 1, 1) := by decide +kernel
theorem dX12_mayIf_144 : decode cX12_mayIf 144 = .ok (.goto 4, 3) := by decide +kernel
theorem dX12_mayIf_147 : decode cX12_mayIf 147 = .ok (.iconst 0, 1) := by decide +kernel
theorem dX12_mayIf_148 : decode cX12_mayIf 148 = .ok (.ireturn, 1) := by decide +kernel
theorem dX12_mayIf_149 : decode cX12_mayIf 149 = .ok (.iload 5, 2) := by decide +kernel
theorem dX12_mayIf_151 : decode cX12_mayIf 151 = .ok (.ifCond .eq 12, 3) := by decide +kernel
theorem dX12_mayIf_154 : decode cX12_mayIf 154 = .ok (.aload_n 0, 1) := by decide +kernel
theorem dX12_mayIf_155 : decode cX12_mayIf 155 = .ok (.iload_n 1, 1) := by decide +kernel
theorem dX12_mayIf_156 : decode cX12_mayIf 156 = .ok (.iload_n 2, 1) := by decide +kernel
theorem dX12_mayIf_157 : decode cX12_mayIf 157 = .ok (.invokevirtual 84, 3) := by decide +kernel
theorem dX12_mayIf_160 : decode cX12_mayIf 160 = .ok (.ifCond .ne 13, 3) := by decide +kernel
theorem dX12_mayIf_163 : decode cX12_mayIf 163 = .ok (.iload 4, 2) := by decide +kernel
theorem dX12_mayIf_165 : decode cX12_mayIf 165 = .ok (.ifCond .eq 12, 3) := by decide +kernel
theorem dX12_mayIf_168 : decode cX12_mayIf 168 = .ok (.iload_n 2, 1) := by decide +kernel
theorem dX12_mayIf_169 : decode cX12_mayIf 169 = .ok (.iload_n 3, 1) := by decide +kernel
theorem dX12_mayIf_170 : decode cX12_mayIf 170 = .ok (.if_icmp .ne 7, 3) := by decide +kernel
theorem dX12_mayIf_173 : decode cX12_mayIf 173 = .ok (.iconst 1, 1) := by decide +kernel
theorem dX12_mayIf_174 : decode cX12_mayIf 174 = .ok (.goto 4, 3) := by decide +kernel
theorem dX12_mayIf_177 : decode cX12_mayIf 177 = .ok (.iconst 0, 1) := by decide +kernel
theorem dX12_mayIf_178 : decode cX12_mayIf 178 = .ok (.ireturn, 1) := by decide +kernel
theorem dX12_mayIf_179 : decode cX12_mayIf 179 = .ok (.iload 5, 2) := by decide +kernel
theorem dX12_mayIf_181 : decode cX12_mayIf 181 = .ok (.ifCond .eq 21, 3) := by decide +kernel
theorem dX12_mayIf_184 : decode cX12_mayIf 184 = .ok (.iload_n 2, 1) := by decide +kernel
theorem dX12_mayIf_185 : decode cX12_mayIf 185 = .ok (.iload_n 3, 1) := by decide +kernel
theorem dX12_mayIf_186 : decode cX12_mayIf 186 = .ok (.if_icmp .eq 16, 3) := by decide +kernel
theorem dX12_mayIf_189 : decode cX12_mayIf 189 = .ok (.aload_n 0, 1) := by decide +kernel
theorem dX12_mayIf_190 : decode cX12_mayIf 190 = .ok (.iload_n 2, 1) := by decide +kernel
theorem dX12_mayIf_191 : decode cX12_mayIf 191 = .ok (.iconst 0, 1) := by decide +kernel
theorem dX12_mayIf_192 : decode cX12_mayIf 192 = .ok (.invokevirtual 74, 3) := by decide +kernel
theorem dX12_mayIf_195 : decode cX12_mayIf 195 = .ok (.ifCond .eq 7, 3) := by decide +kernel
theorem dX12_mayIf_198 : decode cX12_mayIf 198 = .ok (.iconst 1, 1) := by decide +kernel
theorem dX12_mayIf_199 : decode cX12_mayIf 199 = .ok (.goto 4, 3) := by decide +kernel
theorem dX12_mayIf_202 : decode cX12_mayIf 202 = .ok (.iconst 0, 1) := by decide +kernel
theorem dX12_mayIf_203 : decode cX12_mayIf 203 = .ok (.ireturn, 1) := by decide +kernel
theorem dX12_mayIf_204 : decode cX12_mayIf 204 = .ok (.iload 5, 2) := by decide +kernel
theorem dX12_mayIf_206 : decode cX12_mayIf 206 = .ok (.ireturn, 1) := by decide +kernel
set_option maxRecDepth 20000 in
theorem ggX12_mayNow_X12_isAlive : GoodIn wsX12_mayNow wsX12_isAlive := goodIn_r _ [5, 6, 7, 8, 4, 9, 34, 35, 36, 37, 38, 39, 40, 41, 42, 43, 44, 45, 46, 47, 48, 49, 50, 51, 52, 53] (by decide +kernel) (by decide +kernel)
set_option maxRecDepth 20000 in
theorem gX12_mayNow_X12_isAlive : GoodIn wsX12_mayNow (wsV RX12 87 RX12 yX12_isAlive wsX12_isAlive) := goodIn_app (goodIn_of _ (by decide +kernel)) ggX12_mayNow_X12_isAlive
set_option maxRecDepth 20000 in
theorem ggX12_mayNow_X12_mayIf : GoodIn wsX12_mayNow wsX12_mayIf := goodIn_r _ [13, 14, 15, 16, 4, 17, 6, 18, 19, 20, 21, 7, 8, 9, 22, 23, 24, 25, 26, 27, 28, 29, 30, 31, 32, 33, 34, 35, 36, 37, 38, 39, 40, 41, 42, 43, 44, 45, 46, 47, 48, 49, 50, 51, 52, 53] (by decide +kernel) (by decide +kernel)
set_option maxRecDepth 20000 in
theorem gX12_mayNow_X12_mayIf : GoodIn wsX12_mayNow (wsV RX12 90 RX12 yX12_mayIf wsX12_mayIf) := goodIn_app (goodIn_of _ (by decide +kernel)) ggX12_mayNow_X12_mayIf
theorem dX12_mayNow_0 : decode cX12_mayNow 0 = .ok (.aload_n 0, 1) := by decide +kernel
theorem dX12_mayNow_1 : decode cX12_mayNow 1 = .ok (.iload_n 1, 1) := by decide +kernel
theorem dX12_mayNow_2 : decode cX12_mayNow 2 = .ok (.invokevirtual 87, 3) := by decide +kernel
theorem dX12_mayNow_5 : decode cX12_mayNow 5 = .ok (.ifCond .eq 16, 3) := by decide +kernel
theorem dX12_mayNow_8 : decode cX12_mayNow 8 = .ok (.aload_n 0, 1) := by decide +kernel
theorem dX12_mayNow_9 : decode cX12_mayNow 9 = .ok (.iload_n 1, 1) := by decide +kernel
theorem dX12_mayNow_10 : decode cX12_mayNow 10 = .ok (.iload_n 2, 1) := by decide +kernel
theorem dX12_mayNow_11 : decode cX12_mayNow 11 = .ok (.invokevirtual 90, 3) := by decide +kernel
theorem dX12_mayNow_14 : decode cX12_mayNow 14 = .ok (.ifCond .eq 7, 3) := by decide +kernel
theorem dX12_mayNow_17 : decode cX12_mayNow 17 = .ok (.iconst 1, 1) := by decide +kernel
theorem dX12_mayNow_18 : decode cX12_mayNow 18 = .ok (.goto 4, 3) := by decide +kernel
theorem dX12_mayNow_21 : decode cX12_mayNow 21 = .ok (.iconst 0, 1) := by decide +kernel
theorem dX12_mayNow_22 : decode cX12_mayNow 22 = .ok (.ireturn, 1) := by decide +kernel
set_option maxRecDepth 20000 in
theorem ggX12_isSilenced_X12_get : GoodIn wsX12_isSilenced wsX12_get := goodIn_r _ [5, 6, 15, 16, 17, 18, 19, 20, 21, 22, 23, 24, 25, 26, 27, 28, 29, 30, 31, 32, 33, 34] (by decide +kernel) (by decide +kernel)
set_option maxRecDepth 20000 in
theorem gX12_isSilenced_X12_get : GoodIn wsX12_isSilenced (wsV RX12 70 RX12 yX12_get wsX12_get) := goodIn_app (goodIn_of _ (by decide +kernel)) ggX12_isSilenced_X12_get
set_option maxRecDepth 20000 in
theorem ggX12_isSilenced_X12_isMet : GoodIn wsX12_isSilenced wsX12_isMet := goodIn_r _ [10, 6, 11, 12, 13, 4, 14, 1, 2, 3, 5, 15, 16, 17, 18, 19, 20, 21, 22, 23, 24, 25, 26, 27, 28, 29, 30, 31, 32, 33, 34] (by decide +kernel) (by decide +kernel)
set_option maxRecDepth 20000 in
theorem gX12_isSilenced_X12_isMet : GoodIn wsX12_isSilenced (wsV RX12 84 RX12 yX12_isMet wsX12_isMet) := goodIn_app (goodIn_of _ (by decide +kernel)) ggX12_isSilenced_X12_isMet
theorem dX12_isSilenced_0 : decode cX12_isSilenced 0 = .ok (.aload_n 0, 1) := by decide +kernel
theorem dX12_isSilenced_1 : decode cX12_isSilenced 1 = .ok (.iload_n 1, 1) := by decide +kernel
theorem dX12_isSilenced_2 : decode cX12_isSilenced 2 = .ok (.iconst 0, 1) := by decide +kernel
theorem dX12_isSilenced_3 : decode cX12_isSilenced 3 = .ok (.invokevirtual 70, 3) := by decide +kernel
theorem dX12_isSilenced_6 : decode cX12_isSilenced 6 = .ok (.istore 4, 2) := by decide +kernel
theorem dX12_isSilenced_8 : decode cX12_isSilenced 8 = .ok (.iload 4, 2) := by decide +kernel
theorem dX12_isSilenced_10 : decode cX12_isSilenced 10 = .ok (.iconst 3, 1) := by decide +kernel
theorem dX12_isSilenced_11 : decode cX12_isSilenced 11 = .ok (.if_icmp .eq 29, 3) := by decide +kernel
theorem dX12_isSilenced_14 : decode cX12_isSilenced 14 = .ok (.iload 4, 2) := by decide +kernel
theorem dX12_isSilenced_16 : decode cX12_isSilenced 16 = .ok (.bipush 7, 2) := by decide +kernel
theorem dX12_isSilenced_18 : decode cX12_isSilenced 18 = .ok (.if_icmp .ne 9, 3) := by decide +kernel
theorem dX12_isSilenced_21 : decode cX12_isSilenced 21 = .ok (.iload_n 3, 1) := by decide +kernel
theorem dX12_isSilenced_22 : decode cX12_isSilenced 22 = .ok (.iconst 2, 1) := by decide +kernel
theorem dX12_isSilenced_23 : decode cX12_isSilenced 23 = .ok (.irem, 1) := by decide +kernel
theorem dX12_isSilenced_24 : decode cX12_isSilenced 24 = .ok (.ifCond .ne 16, 3) := by decide +kernel
theorem dX12_isSilenced_27 : decode cX12_isSilenced 27 = .ok (.aload_n 0, 1) := by decide +kernel
theorem dX12_isSilenced_28 : decode cX12_isSilenced 28 = .ok (.iload_n 1, 1) := by decide +kernel
theorem dX12_isSilenced_29 : decode cX12_isSilenced 29 = .ok (.iload_n 2, 1) := by decide +kernel
theorem dX12_isSilenced_30 : decode cX12_isSilenced 30 = .ok (.invokevirtual 84, 3) := by decide +kernel
theorem dX12_isSilenced_33 : decode cX12_isSilenced 33 = .ok (.ifCond .eq 7, 3) := by decide +kernel
theorem dX12_isSilenced_36 : decode cX12_isSilenced 36 = .ok (.iconst 1, 1) := by decide +kernel
theorem dX12_isSilenced_37 : decode cX12_isSilenced 37 = .ok (.goto 4, 3) := by decide +kernel
theorem dX12_isSilenced_40 : decode cX12_isSilenced 40 = .ok (.iconst 0, 1) := by decide +kernel
theorem dX12_isSilenced_41 : decode cX12_isSilenced 41 = .ok (.ireturn, 1) := by decide +kernel
set_option maxRecDepth 20000 in
theorem ggX12_stepsOf_X12_of : GoodIn wsX12_stepsOf wsX12_of := goodIn_r _ [5, 6, 14, 15, 16, 17, 18, 19, 20, 21, 22, 23, 24, 25, 26, 27, 28, 29, 30, 31, 32, 33] (by decide +kernel) (by decide +kernel)
set_option maxRecDepth 20000 in
theorem gX12_stepsOf_X12_of : GoodIn wsX12_stepsOf (wsV RX12 74 RX12 yX12_of wsX12_of) := goodIn_app (goodIn_of _ (by decide +kernel)) ggX12_stepsOf_X12_of
set_option maxRecDepth 20000 in
theorem ggX12_stepsOf_X12_bits : GoodIn wsX12_stepsOf wsX12_bits := goodIn_r _ [9] (by decide +kernel) (by decide +kernel)
set_option maxRecDepth 20000 in
theorem gX12_stepsOf_X12_bits : GoodIn wsX12_stepsOf (va_wsS RX12 93 yX12_bits wsX12_bits) := goodIn_app (goodIn_of _ (by decide +kernel)) ggX12_stepsOf_X12_bits
set_option maxRecDepth 20000 in
theorem ggX12_stepsOf_X12_get : GoodIn wsX12_stepsOf wsX12_get := goodIn_r _ [13, 6, 14, 15, 16, 17, 18, 19, 20, 21, 22, 23, 24, 25, 26, 27, 28, 29, 30, 31, 32, 33] (by decide +kernel) (by decide +kernel)
set_option maxRecDepth 20000 in
theorem gX12_stepsOf_X12_get : GoodIn wsX12_stepsOf (wsV RX12 70 RX12 yX12_get wsX12_get) := goodIn_app (goodIn_of _ (by decide +kernel)) ggX12_stepsOf_X12_get
theorem dX12_stepsOf_0 : decode cX12_stepsOf 0 = .ok (.aload_n 0, 1) := by decide +kernel
theorem dX12_stepsOf_1 : decode cX12_stepsOf 1 = .ok (.iload_n 2, 1) := by decide +kernel
theorem dX12_stepsOf_2 : decode cX12_stepsOf 2 = .ok (.iconst 0, 1) := by decide +kernel
theorem dX12_stepsOf_3 : decode cX12_stepsOf 3 = .ok (.invokevirtual 74, 3) := by decide +kernel
theorem dX12_stepsOf_6 : decode cX12_stepsOf 6 = .ok (.invokestatic 93, 3) := by decide +kernel
theorem dX12_stepsOf_9 : decode cX12_stepsOf 9 = .ok (.istore_n 3, 1) := by decide +kernel
theorem dX12_stepsOf_10 : decode cX12_stepsOf 10 = .ok (.aload_n 0, 1) := by decide +kernel
theorem dX12_stepsOf_11 : decode cX12_stepsOf 11 = .ok (.iload_n 1, 1) := by decide +kernel
theorem dX12_stepsOf_12 : decode cX12_stepsOf 12 = .ok (.iconst 1, 1) := by decide +kernel
theorem dX12_stepsOf_13 : decode cX12_stepsOf 13 = .ok (.invokevirtual 70, 3) := by decide +kernel
theorem dX12_stepsOf_16 : decode cX12_stepsOf 16 = .ok (.istore 4, 2) := by decide +kernel
theorem dX12_stepsOf_18 : decode cX12_stepsOf 18 = .ok (.aload_n 0, 1) := by decide +kernel
theorem dX12_stepsOf_19 : decode cX12_stepsOf 19 = .ok (.iload_n 1, 1) := by decide +kernel
theorem dX12_stepsOf_20 : decode cX12_stepsOf 20 = .ok (.iconst 0, 1) := by decide +kernel
theorem dX12_stepsOf_21 : decode cX12_stepsOf 21 = .ok (.invokevirtual 70, 3) := by decide +kernel
theorem dX12_stepsOf_24 : decode cX12_stepsOf 24 = .ok (.tableswitch 81 1 7 #[44, 50, 44, 52, 59, 67, 72], 44) := by decide +kernel
theorem dX12_stepsOf_68 : decode cX12_stepsOf 68 = .ok (.iconst 2, 1) := by decide +kernel
theorem dX12_stepsOf_69 : decode cX12_stepsOf 69 = .ok (.iload_n 3, 1) := by decide +kernel
theorem dX12_stepsOf_70 : decode cX12_stepsOf 70 = .ok (.iconst 1, 1) := by decide +kernel
theorem dX12_stepsOf_71 : decode cX12_stepsOf 71 = .ok (.iadd, 1) := by decide +kernel
theorem dX12_stepsOf_72 : decode cX12_stepsOf 72 = .ok (.imul, 1) := by decide +kernel
theorem dX12_stepsOf_73 : decode cX12_stepsOf 73 = .ok (.ireturn, 1) := by decide +kernel
theorem dX12_stepsOf_74 : decode cX12_stepsOf 74 = .ok (.iload_n 3, 1) := by decide +kernel
theorem dX12_stepsOf_75 : decode cX12_stepsOf 75 = .ok (.ireturn, 1) := by decide +kernel
theorem dX12_stepsOf_76 : decode cX12_stepsOf 76 = .ok (.iload_n 3, 1) := by decide +kernel
theorem dX12_stepsOf_77 : decode cX12_stepsOf 77 = .ok (.iconst 1, 1) := by decide +kernel
theorem dX12_stepsOf_78 : decode cX12_stepsOf 78 = .ok (.iadd, 1) := by decide +kernel
theorem dX12_stepsOf_79 : decode cX12_stepsOf 79 = .ok (.iload 4, 2) := by decide +kernel
theorem dX12_stepsOf_81 : decode cX12_stepsOf 81 = .ok (.iadd, 1) := by decide +kernel
theorem dX12_stepsOf_82 : decode cX12_stepsOf 82 = .ok (.ireturn, 1) := by decide +kernel
theorem dX12_stepsOf_83 : decode cX12_stepsOf 83 = .ok (.iconst 2, 1) := by decide +kernel
theorem dX12_stepsOf_84 : decode cX12_stepsOf 84 = .ok (.iload_n 3, 1) := by decide +kernel
theorem dX12_stepsOf_85 : decode cX12_stepsOf 85 = .ok (.iconst 1, 1) := by decide +kernel
theorem dX12_stepsOf_86 : decode cX12_stepsOf 86 = .ok (.iadd, 1) := by decide +kernel
theorem dX12_stepsOf_87 : decode cX12_stepsOf 87 = .ok (.imul, 1) := by decide +kernel
theorem dX12_stepsOf_88 : decode cX12_stepsOf 88 = .ok (.iconst 1, 1) := by decide +kernel
theorem dX12_stepsOf_89 : decode cX12_stepsOf 89 = .ok (.isub, 1) := by decide +kernel
theorem dX12_stepsOf_90 : decode cX12_stepsOf 90 = .ok (.ireturn, 1) := by decide +kernel
theorem dX12_stepsOf_91 : decode cX12_stepsOf 91 = .ok (.iload_n 3, 1) := by decide +kernel
theorem dX12_stepsOf_92 : decode cX12_stepsOf 92 = .ok (.iload 4, 2) := by decide +kernel
theorem dX12_stepsOf_94 : decode cX12_stepsOf 94 = .ok (.iadd, 1) := by decide +kernel
theorem dX12_stepsOf_95 : decode cX12_stepsOf 95 = .ok (.ireturn, 1) := by decide +kernel
theorem dX12_stepsOf_96 : decode cX12_stepsOf 96 = .ok (.iconst 2, 1) := by decide +kernel
theorem dX12_stepsOf_97 : decode cX12_stepsOf 97 = .ok (.iload_n 3, 1) := by decide +kernel
theorem dX12_stepsOf_98 : decode cX12_stepsOf 98 = .ok (.iconst 1, 1) := by decide +kernel
theorem dX12_stepsOf_99 : decode cX12_stepsOf 99 = .ok (.iadd, 1) := by decide +kernel
theorem dX12_stepsOf_100 : decode cX12_stepsOf 100 = .ok (.iload 4, 2) := by decide +kernel
theorem dX12_stepsOf_102 : decode cX12_stepsOf 102 = .ok (.iadd, 1) := by decide +kernel
theorem dX12_stepsOf_103 : decode cX12_stepsOf 103 = .ok (.imul, 1) := by decide +kernel
theorem dX12_stepsOf_104 : decode cX12_stepsOf 104 = .ok (.ireturn, 1) := by decide +kernel
theorem dX12_stepsOf_105 : decode cX12_stepsOf 105 = .ok (.iload_n 3, 1) := by decide +kernel
theorem dX12_stepsOf_106 : decode cX12_stepsOf 106 = .ok (.iconst 1, 1) := by decide +kernel
theorem dX12_stepsOf_107 : decode cX12_stepsOf 107 = .ok (.iadd, 1) := by decide +kernel
theorem dX12_stepsOf_108 : decode cX12_stepsOf 108 = .ok (.ireturn, 1) := by decide +kernel
theorem dX12_priceBy_0 : decode cX12_priceBy 0 = .ok (.iload_n 0, 1) := by decide +kernel
theorem dX12_priceBy_1 : decode cX12_priceBy 1 = .ok (.tableswitch 72 1 7 #[43, 45, 49, 51, 57, 60, 64], 43) := by decide +kernel
theorem dX12_priceBy_44 : decode cX12_priceBy 44 = .ok (.iconst 2, 1) := by decide +kernel
theorem dX12_priceBy_45 : decode cX12_priceBy 45 = .ok (.ireturn, 1) := by decide +kernel
theorem dX12_priceBy_46 : decode cX12_priceBy 46 = .ok (.iconst 3, 1) := by decide +kernel
theorem dX12_priceBy_47 : decode cX12_priceBy 47 = .ok (.iload_n 1, 1) := by decide +kernel
theorem dX12_priceBy_48 : decode cX12_priceBy 48 = .ok (.iadd, 1) := by decide +kernel
theorem dX12_priceBy_49 : decode cX12_priceBy 49 = .ok (.ireturn, 1) := by decide +kernel
theorem dX12_priceBy_50 : decode cX12_priceBy 50 = .ok (.iconst 4, 1) := by decide +kernel
theorem dX12_priceBy_51 : decode cX12_priceBy 51 = .ok (.ireturn, 1) := by decide +kernel
theorem dX12_priceBy_52 : decode cX12_priceBy 52 = .ok (.iconst 3, 1) := by decide +kernel
theorem dX12_priceBy_53 : decode cX12_priceBy 53 = .ok (.iload_n 1, 1) := by decide +kernel
theorem dX12_priceBy_54 : decode cX12_priceBy 54 = .ok (.iconst 1, 1) := by decide +kernel
theorem dX12_priceBy_55 : decode cX12_priceBy 55 = .ok (.iadd, 1) := by decide +kernel
theorem dX12_priceBy_56 : decode cX12_priceBy 56 = .ok (.imul, 1) := by decide +kernel
theorem dX12_priceBy_57 : decode cX12_priceBy 57 = .ok (.ireturn, 1) := by decide +kernel
theorem dX12_priceBy_58 : decode cX12_priceBy 58 = .ok (.bipush 7, 2) := by decide +kernel
theorem dX12_priceBy_60 : decode cX12_priceBy 60 = .ok (.ireturn, 1) := by decide +kernel
theorem dX12_priceBy_61 : decode cX12_priceBy 61 = .ok (.iconst 1, 1) := by decide +kernel
theorem dX12_priceBy_62 : decode cX12_priceBy 62 = .ok (.iload_n 1, 1) := by decide +kernel
theorem dX12_priceBy_63 : decode cX12_priceBy 63 = .ok (.iadd, 1) := by decide +kernel
theorem dX12_priceBy_64 : decode cX12_priceBy 64 = .ok (.ireturn, 1) := by decide +kernel
theorem dX12_priceBy_65 : decode cX12_priceBy 65 = .ok (.iconst 3, 1) := by decide +kernel
theorem dX12_priceBy_66 : decode cX12_priceBy 66 = .ok (.iload_n 1, 1) := by decide +kernel
theorem dX12_priceBy_67 : decode cX12_priceBy 67 = .ok (.iconst 1, 1) := by decide +kernel
theorem dX12_priceBy_68 : decode cX12_priceBy 68 = .ok (.iadd, 1) := by decide +kernel
theorem dX12_priceBy_69 : decode cX12_priceBy 69 = .ok (.imul, 1) := by decide +kernel
theorem dX12_priceBy_70 : decode cX12_priceBy 70 = .ok (.iconst 2, 1) := by decide +kernel
theorem dX12_priceBy_71 : decode cX12_priceBy 71 = .ok (.idiv, 1) := by decide +kernel
theorem dX12_priceBy_72 : decode cX12_priceBy 72 = .ok (.ireturn, 1) := by decide +kernel
theorem dX12_priceBy_73 : decode cX12_priceBy 73 = .ok (.iconst 3, 1) := by decide +kernel
theorem dX12_priceBy_74 : decode cX12_priceBy 74 = .ok (.ireturn, 1) := by decide +kernel
set_option maxRecDepth 20000 in
theorem ggX12_priceOf_X12_get : GoodIn wsX12_priceOf wsX12_get := goodIn_r _ [5, 6, 10, 11, 12, 13, 14, 15, 16, 17, 18, 19, 20, 21, 22, 23, 24, 25, 26, 27, 28, 29] (by decide +kernel) (by decide +kernel)
set_option maxRecDepth 20000 in
theorem gX12_priceOf_X12_get : GoodIn wsX12_priceOf (wsV RX12 70 RX12 yX12_get wsX12_get) := goodIn_app (goodIn_of _ (by decide +kernel)) ggX12_priceOf_X12_get
set_option maxRecDepth 20000 in
theorem ggX12_priceOf_X12_priceBy : GoodIn wsX12_priceOf wsX12_priceBy := goodIn_r _ [9] (by decide +kernel) (by decide +kernel)
set_option maxRecDepth 20000 in
theorem gX12_priceOf_X12_priceBy : GoodIn wsX12_priceOf (va_wsS RX12 97 yX12_priceBy wsX12_priceBy) := goodIn_app (goodIn_of _ (by decide +kernel)) ggX12_priceOf_X12_priceBy
theorem dX12_priceOf_0 : decode cX12_priceOf 0 = .ok (.aload_n 0, 1) := by decide +kernel
theorem dX12_priceOf_1 : decode cX12_priceOf 1 = .ok (.iload_n 1, 1) := by decide +kernel
theorem dX12_priceOf_2 : decode cX12_priceOf 2 = .ok (.iconst 0, 1) := by decide +kernel
theorem dX12_priceOf_3 : decode cX12_priceOf 3 = .ok (.invokevirtual 70, 3) := by decide +kernel
theorem dX12_priceOf_6 : decode cX12_priceOf 6 = .ok (.aload_n 0, 1) := by decide +kernel
theorem dX12_priceOf_7 : decode cX12_priceOf 7 = .ok (.iload_n 1, 1) := by decide +kernel
theorem dX12_priceOf_8 : decode cX12_priceOf 8 = .ok (.iconst 1, 1) := by decide +kernel
theorem dX12_priceOf_9 : decode cX12_priceOf 9 = .ok (.invokevirtual 70, 3) := by decide +kernel
theorem dX12_priceOf_12 : decode cX12_priceOf 12 = .ok (.invokestatic 97, 3) := by decide +kernel
theorem dX12_priceOf_15 : decode cX12_priceOf 15 = .ok (.ireturn, 1) := by decide +kernel
set_option maxRecDepth 20000 in
theorem ggX12_denies_X12_isSilenced : GoodIn wsX12_denies wsX12_isSilenced := goodIn_r _ [6, 7, 8, 9, 5, 10, 1, 11, 12, 13, 14, 15, 16, 17, 18, 27, 28, 29, 30, 31, 32, 33, 34, 35, 36, 37, 38, 39, 40, 41, 42, 43, 44, 45, 46] (by decide +kernel) (by decide +kernel)
set_option maxRecDepth 20000 in
theorem gX12_denies_X12_isSilenced : GoodIn wsX12_denies (wsV RX12 100 RX12 yX12_isSilenced wsX12_isSilenced) := goodIn_app (goodIn_of _ (by decide +kernel)) ggX12_denies_X12_isSilenced
set_option maxRecDepth 20000 in
theorem ggX12_denies_X12_setOf : GoodIn wsX12_denies wsX12_setOf := goodIn_r _ [22, 1, 27, 28, 29, 30, 31, 32, 33, 34, 35, 36, 37, 38, 39, 40, 41, 42, 43, 44, 45, 46] (by decide +kernel) (by decide +kernel)
set_option maxRecDepth 20000 in
theorem gX12_denies_X12_setOf : GoodIn wsX12_denies (wsV RX12 104 RX12 yX12_setOf wsX12_setOf) := goodIn_app (goodIn_of _ (by decide +kernel)) ggX12_denies_X12_setOf
set_option maxRecDepth 20000 in
theorem ggX12_denies_X12_get : GoodIn wsX12_denies wsX12_get := goodIn_r _ [10, 1, 27, 28, 29, 30, 31, 32, 33, 34, 35, 36, 37, 38, 39, 40, 41, 42, 43, 44, 45, 46] (by decide +kernel) (by decide +kernel)
set_option maxRecDepth 20000 in
theorem gX12_denies_X12_get : GoodIn wsX12_denies (wsV RX12 70 RX12 yX12_get wsX12_get) := goodIn_app (goodIn_of _ (by decide +kernel)) ggX12_denies_X12_get
set_option maxRecDepth 20000 in
theorem ggX12_denies_X12_puts : GoodIn wsX12_denies wsX12_puts := goodIn_r _ [26, 1, 27, 28, 29, 30, 31, 32, 33, 34, 35, 36, 37, 38, 39, 40, 41, 42, 43, 44, 45, 46] (by decide +kernel) (by decide +kernel)
set_option maxRecDepth 20000 in
theorem gX12_denies_X12_puts : GoodIn wsX12_denies (wsV RX12 108 RX12 yX12_puts wsX12_puts) := goodIn_app (goodIn_of _ (by decide +kernel)) ggX12_denies_X12_puts
theorem dX12_denies_0 : decode cX12_denies 0 = .ok (.aload_n 0, 1) := by decide +kernel
theorem dX12_denies_1 : decode cX12_denies 1 = .ok (.iload_n 1, 1) := by decide +kernel
theorem dX12_denies_2 : decode cX12_denies 2 = .ok (.iload_n 2, 1) := by decide +kernel
theorem dX12_denies_3 : decode cX12_denies 3 = .ok (.aload_n 0, 1) := by decide +kernel
theorem dX12_denies_4 : decode cX12_denies 4 = .ok (.getfield 9, 3) := by decide +kernel
theorem dX12_denies_7 : decode cX12_denies 7 = .ok (.iconst 3, 1) := by decide +kernel
theorem dX12_denies_8 : decode cX12_denies 8 = .ok (.iaload, 1) := by decide +kernel
theorem dX12_denies_9 : decode cX12_denies 9 = .ok (.invokevirtual 100, 3) := by decide +kernel
theorem dX12_denies_12 : decode cX12_denies 12 = .ok (.istore_n 3, 1) := by decide +kernel
theorem dX12_denies_13 : decode cX12_denies 13 = .ok (.aload_n 0, 1) := by decide +kernel
theorem dX12_denies_14 : decode cX12_denies 14 = .ok (.getfield 9, 3) := by decide +kernel
theorem dX12_denies_17 : decode cX12_denies 17 = .ok (.iconst 3, 1) := by decide +kernel
theorem dX12_denies_18 : decode cX12_denies 18 = .ok (.dup2, 1) := by decide +kernel
theorem dX12_denies_19 : decode cX12_denies 19 = .ok (.iaload, 1) := by decide +kernel
theorem dX12_denies_20 : decode cX12_denies 20 = .ok (.iconst 1, 1) := by decide +kernel
theorem dX12_denies_21 : decode cX12_denies 21 = .ok (.iadd, 1) := by decide +kernel
theorem dX12_denies_22 : decode cX12_denies 22 = .ok (.iastore, 1) := by decide +kernel
theorem dX12_denies_23 : decode cX12_denies 23 = .ok (.iload_n 3, 1) := by decide +kernel
theorem dX12_denies_24 : decode cX12_denies 24 = .ok (.ifCond .ne 5, 3) := by decide +kernel
theorem dX12_denies_27 : decode cX12_denies 27 = .ok (.iconst 0, 1) := by decide +kernel
theorem dX12_denies_28 : decode cX12_denies 28 = .ok (.ireturn, 1) := by decide +kernel
theorem dX12_denies_29 : decode cX12_denies 29 = .ok (.aload_n 0, 1) := by decide +kernel
theorem dX12_denies_30 : decode cX12_denies 30 = .ok (.getfield 9, 3) := by decide +kernel
theorem dX12_denies_33 : decode cX12_denies 33 = .ok (.iconst 2, 1) := by decide +kernel
theorem dX12_denies_34 : decode cX12_denies 34 = .ok (.dup2, 1) := by decide +kernel
theorem dX12_denies_35 : decode cX12_denies 35 = .ok (.iaload, 1) := by decide +kernel
theorem dX12_denies_36 : decode cX12_denies 36 = .ok (.iconst 1, 1) := by decide +kernel
theorem dX12_denies_37 : decode cX12_denies 37 = .ok (.iload_n 2, 1) := by decide +kernel
theorem dX12_denies_38 : decode cX12_denies 38 = .ok (.ishl, 1) := by decide +kernel
theorem dX12_denies_39 : decode cX12_denies 39 = .ok (.ior, 1) := by decide +kernel
theorem dX12_denies_40 : decode cX12_denies 40 = .ok (.iastore, 1) := by decide +kernel
theorem dX12_denies_41 : decode cX12_denies 41 = .ok (.aload_n 0, 1) := by decide +kernel
theorem dX12_denies_42 : decode cX12_denies 42 = .ok (.iload_n 2, 1) := by decide +kernel
theorem dX12_denies_43 : decode cX12_denies 43 = .ok (.iconst 1, 1) := by decide +kernel
theorem dX12_denies_44 : decode cX12_denies 44 = .ok (.iload_n 1, 1) := by decide +kernel
theorem dX12_denies_45 : decode cX12_denies 45 = .ok (.invokevirtual 104, 3) := by decide +kernel
theorem dX12_denies_48 : decode cX12_denies 48 = .ok (.aload_n 0, 1) := by decide +kernel
theorem dX12_denies_49 : decode cX12_denies 49 = .ok (.iload_n 2, 1) := by decide +kernel
theorem dX12_denies_50 : decode cX12_denies 50 = .ok (.iconst 2, 1) := by decide +kernel
theorem dX12_denies_51 : decode cX12_denies 51 = .ok (.aload_n 0, 1) := by decide +kernel
theorem dX12_denies_52 : decode cX12_denies 52 = .ok (.getfield 9, 3) := by decide +kernel
theorem dX12_denies_55 : decode cX12_denies 55 = .ok (.iconst 3, 1) := by decide +kernel
theorem dX12_denies_56 : decode cX12_denies 56 = .ok (.iaload, 1) := by decide +kernel
theorem dX12_denies_57 : decode cX12_denies 57 = .ok (.invokevirtual 104, 3) := by decide +kernel
theorem dX12_denies_60 : decode cX12_denies 60 = .ok (.aload_n 0, 1) := by decide +kernel
theorem dX12_denies_61 : decode cX12_denies 61 = .ok (.iload_n 1, 1) := by decide +kernel
theorem dX12_denies_62 : decode cX12_denies 62 = .ok (.iconst 2, 1) := by decide +kernel
theorem dX12_denies_63 : decode cX12_denies 63 = .ok (.aload_n 0, 1) := by decide +kernel
theorem dX12_denies_64 : decode cX12_denies 64 = .ok (.iload_n 1, 1) := by decide +kernel
theorem dX12_denies_65 : decode cX12_denies 65 = .ok (.iconst 2, 1) := by decide +kernel
theorem dX12_denies_66 : decode cX12_denies 66 = .ok (.invokevirtual 70, 3) := by decide +kernel
theorem dX12_denies_69 : decode cX12_denies 69 = .ok (.iconst 1, 1) := by decide +kernel
theorem dX12_denies_70 : decode cX12_denies 70 = .ok (.iload_n 2, 1) := by decide +kernel
theorem dX12_denies_71 : decode cX12_denies 71 = .ok (.ishl, 1) := by decide +kernel
theorem dX12_denies_72 : decode cX12_denies 72 = .ok (.ior, 1) := by decide +kernel
theorem dX12_denies_73 : decode cX12_denies 73 = .ok (.invokevirtual 108, 3) := by decide +kernel
theorem dX12_denies_76 : decode cX12_denies 76 = .ok (.iconst 1, 1) := by decide +kernel
theorem dX12_denies_77 : decode cX12_denies 77 = .ok (.ireturn, 1) := by decide +kernel
set_option maxRecDepth 20000 in
theorem ggX12_fallsBy_X12_isTrue : GoodIn wsX12_fallsBy wsX12_isTrue := goodIn_r _ [6, 1, 7, 8, 5, 9, 18, 19, 20, 21, 22, 23, 24, 25, 26, 27, 28, 29, 30, 31, 32, 33, 34, 35, 36, 37] (by decide +kernel) (by decide +kernel)
set_option maxRecDepth 20000 in
theorem gX12_fallsBy_X12_isTrue : GoodIn wsX12_fallsBy (wsV RX12 77 RX12 yX12_isTrue wsX12_isTrue) := goodIn_app (goodIn_of _ (by decide +kernel)) ggX12_fallsBy_X12_isTrue
set_option maxRecDepth 20000 in
theorem ggX12_fallsBy_X12_of : GoodIn wsX12_fallsBy wsX12_of := goodIn_r _ [13, 1, 18, 19, 20, 21, 22, 23, 24, 25, 26, 27, 28, 29, 30, 31, 32, 33, 34, 35, 36, 37] (by decide +kernel) (by decide +kernel)
set_option maxRecDepth 20000 in
theorem gX12_fallsBy_X12_of : GoodIn wsX12_fallsBy (wsV RX12 74 RX12 yX12_of wsX12_of) := goodIn_app (goodIn_of _ (by decide +kernel)) ggX12_fallsBy_X12_of
set_option maxRecDepth 20000 in
theorem ggX12_fallsBy_X12_isAlive : GoodIn wsX12_fallsBy wsX12_isAlive := goodIn_r _ [17, 1, 7, 8, 5, 9, 18, 19, 20, 21, 22, 23, 24, 25, 26, 27, 28, 29, 30, 31, 32, 33, 34, 35, 36, 37] (by decide +kernel) (by decide +kernel)
set_option maxRecDepth 20000 in
theorem gX12_fallsBy_X12_isAlive : GoodIn wsX12_fallsBy (wsV RX12 87 RX12 yX12_isAlive wsX12_isAlive) := goodIn_app (goodIn_of _ (by decide +kernel)) ggX12_fallsBy_X12_isAlive
theorem dX12_fallsBy_0 : decode cX12_fallsBy 0 = .ok (.iconst 0, 1) := by decide +kernel
theorem dX12_fallsBy_1 : decode cX12_fallsBy 1 = .ok (.istore_n 2, 1) := by decide +kernel
theorem dX12_fallsBy_2 : decode cX12_fallsBy 2 = .ok (.iconst 0, 1) := by decide +kernel
theorem dX12_fallsBy_3 : decode cX12_fallsBy 3 = .ok (.istore_n 3, 1) := by decide +kernel
theorem dX12_fallsBy_4 : decode cX12_fallsBy 4 = .ok (.iload_n 3, 1) := by decide +kernel
theorem dX12_fallsBy_5 : decode cX12_fallsBy 5 = .ok (.aload_n 0, 1) := by decide +kernel
theorem dX12_fallsBy_6 : decode cX12_fallsBy 6 = .ok (.getfield 9, 3) := by decide +kernel
theorem dX12_fallsBy_9 : decode cX12_fallsBy 9 = .ok (.iconst 0, 1) := by decide +kernel
theorem dX12_fallsBy_10 : decode cX12_fallsBy 10 = .ok (.iaload, 1) := by decide +kernel
theorem dX12_fallsBy_11 : decode cX12_fallsBy 11 = .ok (.if_icmp .ge 37, 3) := by decide +kernel
theorem dX12_fallsBy_14 : decode cX12_fallsBy 14 = .ok (.iload_n 2, 1) := by decide +kernel
theorem dX12_fallsBy_15 : decode cX12_fallsBy 15 = .ok (.aload_n 0, 1) := by decide +kernel
theorem dX12_fallsBy_16 : decode cX12_fallsBy 16 = .ok (.iload_n 3, 1) := by decide +kernel
theorem dX12_fallsBy_17 : decode cX12_fallsBy 17 = .ok (.invokevirtual 77, 3) := by decide +kernel
theorem dX12_fallsBy_20 : decode cX12_fallsBy 20 = .ok (.ifCond .eq 19, 3) := by decide +kernel
theorem dX12_fallsBy_23 : decode cX12_fallsBy 23 = .ok (.aload_n 0, 1) := by decide +kernel
theorem dX12_fallsBy_24 : decode cX12_fallsBy 24 = .ok (.iload_n 3, 1) := by decide +kernel
theorem dX12_fallsBy_25 : decode cX12_fallsBy 25 = .ok (.iconst 1, 1) := by decide +kernel
theorem dX12_fallsBy_26 : decode cX12_fallsBy 26 = .ok (.invokevirtual 74, 3) := by decide +kernel
theorem dX12_fallsBy_29 : decode cX12_fallsBy 29 = .ok (.iload_n 1, 1) := by decide +kernel
theorem dX12_fallsBy_30 : decode cX12_fallsBy 30 = .ok (.if_icmp .ne 9, 3) := by decide +kernel
theorem dX12_fallsBy_33 : decode cX12_fallsBy 33 = .ok (.iconst 1, 1) := by decide +kernel
theorem dX12_fallsBy_34 : decode cX12_fallsBy 34 = .ok (.iload_n 3, 1) := by decide +kernel
theorem dX12_fallsBy_35 : decode cX12_fallsBy 35 = .ok (.ishl, 1) := by decide +kernel
theorem dX12_fallsBy_36 : decode cX12_fallsBy 36 = .ok (.goto 4, 3) := by decide +kernel
theorem dX12_fallsBy_39 : decode cX12_fallsBy 39 = .ok (.iconst 0, 1) := by decide +kernel
theorem dX12_fallsBy_40 : decode cX12_fallsBy 40 = .ok (.ior, 1) := by decide +kernel
theorem dX12_fallsBy_41 : decode cX12_fallsBy 41 = .ok (.istore_n 2, 1) := by decide +kernel
theorem dX12_fallsBy_42 : decode cX12_fallsBy 42 = .ok (.iinc 3 1, 3) := by decide +kernel
theorem dX12_fallsBy_45 : decode cX12_fallsBy 45 = .ok (.goto (-41), 3) := by decide +kernel
theorem dX12_fallsBy_48 : decode cX12_fallsBy 48 = .ok (.iconst 0, 1) := by decide +kernel
theorem dX12_fallsBy_49 : decode cX12_fallsBy 49 = .ok (.istore_n 3, 1) := by decide +kernel
theorem dX12_fallsBy_50 : decode cX12_fallsBy 50 = .ok (.iload_n 3, 1) := by decide +kernel
theorem dX12_fallsBy_51 : decode cX12_fallsBy 51 = .ok (.bipush 9, 2) := by decide +kernel
theorem dX12_fallsBy_53 : decode cX12_fallsBy 53 = .ok (.if_icmp .ge 61, 3) := by decide +kernel
theorem dX12_fallsBy_56 : decode cX12_fallsBy 56 = .ok (.iconst 0, 1) := by decide +kernel
theorem dX12_fallsBy_57 : decode cX12_fallsBy 57 = .ok (.istore 4, 2) := by decide +kernel
theorem dX12_fallsBy_59 : decode cX12_fallsBy 59 = .ok (.iload 4, 2) := by decide +kernel
theorem dX12_fallsBy_61 : decode cX12_fallsBy 61 = .ok (.aload_n 0, 1) := by decide +kernel
theorem dX12_fallsBy_62 : decode cX12_fallsBy 62 = .ok (.getfield 9, 3) := by decide +kernel
theorem dX12_fallsBy_65 : decode cX12_fallsBy 65 = .ok (.iconst 0, 1) := by decide +kernel
theorem dX12_fallsBy_66 : decode cX12_fallsBy 66 = .ok (.iaload, 1) := by decide +kernel
theorem dX12_fallsBy_67 : decode cX12_fallsBy 67 = .ok (.if_icmp .ge 41, 3) := by decide +kernel
theorem dX12_fallsBy_70 : decode cX12_fallsBy 70 = .ok (.iload_n 2, 1) := by decide +kernel
theorem dX12_fallsBy_71 : decode cX12_fallsBy 71 = .ok (.aload_n 0, 1) := by decide +kernel
theorem dX12_fallsBy_72 : decode cX12_fallsBy 72 = .ok (.iload 4, 2) := by decide +kernel
theorem dX12_fallsBy_74 : decode cX12_fallsBy 74 = .ok (.invokevirtual 77, 3) := by decide +kernel
theorem dX12_fallsBy_77 : decode cX12_fallsBy 77 = .ok (.ifCond .eq 22, 3) := by decide +kernel
theorem dX12_fallsBy_80 : decode cX12_fallsBy 80 = .ok (.aload_n 0, 1) := by decide +kernel
theorem dX12_fallsBy_81 : decode cX12_fallsBy 81 = .ok (.iload 4, 2) := by decide +kernel
theorem dX12_fallsBy_83 : decode cX12_fallsBy 83 = .ok (.iconst 0, 1) := by decide +kernel
theorem dX12_fallsBy_84 : decode cX12_fallsBy 84 = .ok (.invokevirtual 74, 3) := by decide +kernel
theorem dX12_fallsBy_87 : decode cX12_fallsBy 87 = .ok (.iload_n 2, 1) := by decide +kernel
theorem dX12_fallsBy_88 : decode cX12_fallsBy 88 = .ok (.iand, 1) := by decide +kernel
theorem dX12_fallsBy_89 : decode cX12_fallsBy 89 = .ok (.ifCond .eq 10, 3) := by decide +kernel
theorem dX12_fallsBy_92 : decode cX12_fallsBy 92 = .ok (.iconst 1, 1) := by decide +kernel
theorem dX12_fallsBy_93 : decode cX12_fallsBy 93 = .ok (.iload 4, 2) := by decide +kernel
theorem dX12_fallsBy_95 : decode cX12_fallsBy 95 = .ok (.ishl, 1) := by decide +kernel
theorem dX12_fallsBy_96 : decode cX12_fallsBy 96 = .ok (.goto 4, 3) := by decide +kernel
theorem dX12_fallsBy_99 : decode cX12_fallsBy 99 = .ok (.iconst 0, 1) := by decide +kernel
theorem dX12_fallsBy_100 : decode cX12_fallsBy 100 = .ok (.ior, 1) := by decide +kernel
theorem dX12_fallsBy_101 : decode cX12_fallsBy 101 = .ok (.istore_n 2, 1) := by decide +kernel
theorem dX12_fallsBy_102 : decode cX12_fallsBy 102 = .ok (.iinc 4 1, 3) := by decide +kernel
theorem dX12_fallsBy_105 : decode cX12_fallsBy 105 = .ok (.goto (-46), 3) := by decide +kernel
theorem dX12_fallsBy_108 : decode cX12_fallsBy 108 = .ok (.iinc 3 1, 3) := by decide +kernel
theorem dX12_fallsBy_111 : decode cX12_fallsBy 111 = .ok (.goto (-61), 3) := by decide +kernel
theorem dX12_fallsBy_114 : decode cX12_fallsBy 114 = .ok (.aload_n 0, 1) := by decide +kernel
theorem dX12_fallsBy_115 : decode cX12_fallsBy 115 = .ok (.iload_n 1, 1) := by decide +kernel
theorem dX12_fallsBy_116 : decode cX12_fallsBy 116 = .ok (.invokevirtual 87, 3) := by decide +kernel
theorem dX12_fallsBy_119 : decode cX12_fallsBy 119 = .ok (.ifCond .eq 7, 3) := by decide +kernel
theorem dX12_fallsBy_122 : decode cX12_fallsBy 122 = .ok (.iload_n 2, 1) := by decide +kernel
theorem dX12_fallsBy_123 : decode cX12_fallsBy 123 = .ok (.goto 4, 3) := by decide +kernel
theorem dX12_fallsBy_126 : decode cX12_fallsBy 126 = .ok (.iconst 0, 1) := by decide +kernel
theorem dX12_fallsBy_127 : decode cX12_fallsBy 127 = .ok (.ireturn, 1) := by decide +kernel
set_option maxRecDepth 20000 in
theorem ggX12_fallAll_X12_has : GoodIn wsX12_fallAll wsX12_has := goodIn_r _ [5] (by decide +kernel) (by decide +kernel)
set_option maxRecDepth 20000 in
theorem gX12_fallAll_X12_has : GoodIn wsX12_fallAll (va_wsS RX12 66 yX12_has wsX12_has) := goodIn_app (goodIn_of _ (by decide +kernel)) ggX12_fallAll_X12_has
set_option maxRecDepth 20000 in
theorem ggX12_fallAll_X12_setOf : GoodIn wsX12_fallAll wsX12_setOf := goodIn_r _ [9, 1, 10, 11, 12, 13, 14, 15, 16, 17, 18, 19, 20, 21, 22, 23, 24, 25, 26, 27, 28, 29] (by decide +kernel) (by decide +kernel)
set_option maxRecDepth 20000 in
theorem gX12_fallAll_X12_setOf : GoodIn wsX12_fallAll (wsV RX12 104 RX12 yX12_setOf wsX12_setOf) := goodIn_app (goodIn_of _ (by decide +kernel)) ggX12_fallAll_X12_setOf
theorem dX12_fallAll_0 : decode cX12_fallAll 0 = .ok (.aload_n 0, 1) := by decide +kernel
theorem dX12_fallAll_1 : decode cX12_fallAll 1 = .ok (.getfield 9, 3) := by decide +kernel
theorem dX12_fallAll_4 : decode cX12_fallAll 4 = .ok (.iconst 2, 1) := by decide +kernel
theorem dX12_fallAll_5 : decode cX12_fallAll 5 = .ok (.dup2, 1) := by decide +kernel
theorem dX12_fallAll_6 : decode cX12_fallAll 6 = .ok (.iaload, 1) := by decide +kernel
theorem dX12_fallAll_7 : decode cX12_fallAll 7 = .ok (.iload_n 1, 1) := by decide +kernel
theorem dX12_fallAll_8 : decode cX12_fallAll 8 = .ok (.iconst (-1), 1) := by decide +kernel
theorem dX12_fallAll_9 : decode cX12_fallAll 9 = .ok (.ixor, 1) := by decide +kernel
theorem dX12_fallAll_10 : decode cX12_fallAll 10 = .ok (.iand, 1) := by decide +kernel
theorem dX12_fallAll_11 : decode cX12_fallAll 11 = .ok (.iastore, 1) := by decide +kernel
theorem dX12_fallAll_12 : decode cX12_fallAll 12 = .ok (.iconst 0, 1) := by decide +kernel
theorem dX12_fallAll_13 : decode cX12_fallAll 13 = .ok (.istore_n 2, 1) := by decide +kernel
theorem dX12_fallAll_14 : decode cX12_fallAll 14 = .ok (.iload_n 2, 1) := by decide +kernel
theorem dX12_fallAll_15 : decode cX12_fallAll 15 = .ok (.aload_n 0, 1) := by decide +kernel
theorem dX12_fallAll_16 : decode cX12_fallAll 16 = .ok (.getfield 9, 3) := by decide +kernel
theorem dX12_fallAll_19 : decode cX12_fallAll 19 = .ok (.iconst 0, 1) := by decide +kernel
theorem dX12_fallAll_20 : decode cX12_fallAll 20 = .ok (.iaload, 1) := by decide +kernel
theorem dX12_fallAll_21 : decode cX12_fallAll 21 = .ok (.if_icmp .ge 36, 3) := by decide +kernel
theorem dX12_fallAll_24 : decode cX12_fallAll 24 = .ok (.iload_n 1, 1) := by decide +kernel
theorem dX12_fallAll_25 : decode cX12_fallAll 25 = .ok (.iload_n 2, 1) := by decide +kernel
theorem dX12_fallAll_26 : decode cX12_fallAll 26 = .ok (.invokestatic 66, 3) := by decide +kernel
theorem dX12_fallAll_29 : decode cX12_fallAll 29 = .ok (.ifCond .ne 6, 3) := by decide +kernel
theorem dX12_fallAll_32 : decode cX12_fallAll 32 = .ok (.goto 19, 3) := by decide +kernel
theorem dX12_fallAll_35 : decode cX12_fallAll 35 = .ok (.aload_n 0, 1) := by decide +kernel
theorem dX12_fallAll_36 : decode cX12_fallAll 36 = .ok (.iload_n 2, 1) := by decide +kernel
theorem dX12_fallAll_37 : decode cX12_fallAll 37 = .ok (.iconst 1, 1) := by decide +kernel
theorem dX12_fallAll_38 : decode cX12_fallAll 38 = .ok (.bipush (-4), 2) := by decide +kernel
theorem dX12_fallAll_40 : decode cX12_fallAll 40 = .ok (.invokevirtual 104, 3) := by decide +kernel
theorem dX12_fallAll_43 : decode cX12_fallAll 43 = .ok (.aload_n 0, 1) := by decide +kernel
theorem dX12_fallAll_44 : decode cX12_fallAll 44 = .ok (.iload_n 2, 1) := by decide +kernel
theorem dX12_fallAll_45 : decode cX12_fallAll 45 = .ok (.iconst 2, 1) := by decide +kernel
theorem dX12_fallAll_46 : decode cX12_fallAll 46 = .ok (.bipush (-4), 2) := by decide +kernel
theorem dX12_fallAll_48 : decode cX12_fallAll 48 = .ok (.invokevirtual 104, 3) := by decide +kernel
theorem dX12_fallAll_51 : decode cX12_fallAll 51 = .ok (.iinc 2 1, 3) := by decide +kernel
theorem dX12_fallAll_54 : decode cX12_fallAll 54 = .ok (.goto (-40), 3) := by decide +kernel
theorem dX12_fallAll_57 : decode cX12_fallAll 57 = .ok (.return_, 1) := by decide +kernel
theorem dX12_here_0 : decode cX12_here 0 = .ok (.aload_n 0, 1) := by decide +kernel
theorem dX12_here_1 : decode cX12_here 1 = .ok (.getfield 111, 3) := by decide +kernel
theorem dX12_here_4 : decode cX12_here 4 = .ok (.aload_n 0, 1) := by decide +kernel
theorem dX12_here_5 : decode cX12_here 5 = .ok (.getfield 114, 3) := by decide +kernel
theorem dX12_here_8 : decode cX12_here 8 = .ok (.if_icmp .ge 20, 3) := by decide +kernel
theorem dX12_here_11 : decode cX12_here 11 = .ok (.aload_n 0, 1) := by decide +kernel
theorem dX12_here_12 : decode cX12_here 12 = .ok (.getfield 31, 3) := by decide +kernel
theorem dX12_here_15 : decode cX12_here 15 = .ok (.aload_n 0, 1) := by decide +kernel
theorem dX12_here_16 : decode cX12_here 16 = .ok (.getfield 117, 3) := by decide +kernel
theorem dX12_here_19 : decode cX12_here 19 = .ok (.aload_n 0, 1) := by decide +kernel
theorem dX12_here_20 : decode cX12_here 20 = .ok (.getfield 111, 3) := by decide +kernel
theorem dX12_here_23 : decode cX12_here 23 = .ok (.iadd, 1) := by decide +kernel
theorem dX12_here_24 : decode cX12_here 24 = .ok (.iaload, 1) := by decide +kernel
theorem dX12_here_25 : decode cX12_here 25 = .ok (.goto 6, 3) := by decide +kernel
theorem dX12_here_28 : decode cX12_here 28 = .ok (.sipush (-1000), 3) := by decide +kernel
theorem dX12_here_31 : decode cX12_here 31 = .ok (.ireturn, 1) := by decide +kernel
set_option maxRecDepth 20000 in
theorem ggX12_readsDigits_X12_here : GoodIn wsX12_readsDigits wsX12_here := goodIn_r _ [9, 4, 10, 11, 12, 16, 17, 18, 19, 20, 21, 22, 23, 24, 25, 26, 27, 28, 29, 30, 31, 32, 33, 34, 35] (by decide +kernel) (by decide +kernel)
set_option maxRecDepth 20000 in
theorem gX12_readsDigits_X12_here : GoodIn wsX12_readsDigits (wsV RX12 120 RX12 yX12_here wsX12_here) := goodIn_app (goodIn_of _ (by decide +kernel)) ggX12_readsDigits_X12_here
set_option maxRecDepth 20000 in
theorem ggX12_readsDigits_X12_isIn : GoodIn wsX12_readsDigits wsX12_isIn := goodIn_r _ [15] (by decide +kernel) (by decide +kernel)
set_option maxRecDepth 20000 in
theorem gX12_readsDigits_X12_isIn : GoodIn wsX12_readsDigits (va_wsS RX12 58 yX12_isIn wsX12_isIn) := goodIn_app (goodIn_of _ (by decide +kernel)) ggX12_readsDigits_X12_isIn
theorem dX12_readsDigits_0 : decode cX12_readsDigits 0 = .ok (.iconst 0, 1) := by decide +kernel
theorem dX12_readsDigits_1 : decode cX12_readsDigits 1 = .ok (.istore_n 2, 1) := by decide +kernel
theorem dX12_readsDigits_2 : decode cX12_readsDigits 2 = .ok (.iload_n 2, 1) := by decide +kernel
theorem dX12_readsDigits_3 : decode cX12_readsDigits 3 = .ok (.iload_n 1, 1) := by decide +kernel
theorem dX12_readsDigits_4 : decode cX12_readsDigits 4 = .ok (.if_icmp .ge 51, 3) := by decide +kernel
theorem dX12_readsDigits_7 : decode cX12_readsDigits 7 = .ok (.aload_n 0, 1) := by decide +kernel
theorem dX12_readsDigits_8 : decode cX12_readsDigits 8 = .ok (.invokevirtual 120, 3) := by decide +kernel
theorem dX12_readsDigits_11 : decode cX12_readsDigits 11 = .ok (.i2l, 1) := by decide +kernel
theorem dX12_readsDigits_12 : decode cX12_readsDigits 12 = .ok (.ldc2_w 124, 3) := by decide +kernel
theorem dX12_readsDigits_15 : decode cX12_readsDigits 15 = .ok (.ldc2_w 126, 3) := by decide +kernel
theorem dX12_readsDigits_18 : decode cX12_readsDigits 18 = .ok (.invokestatic 58, 3) := by decide +kernel
theorem dX12_readsDigits_21 : decode cX12_readsDigits 21 = .ok (.ifCond .ne 5, 3) := by decide +kernel
theorem dX12_readsDigits_24 : decode cX12_readsDigits 24 = .ok (.iconst 0, 1) := by decide +kernel
theorem dX12_readsDigits_25 : decode cX12_readsDigits 25 = .ok (.ireturn, 1) := by decide +kernel
theorem dX12_readsDigits_26 : decode cX12_readsDigits 26 = .ok (.aload_n 0, 1) := by decide +kernel
theorem dX12_readsDigits_27 : decode cX12_readsDigits 27 = .ok (.getfield 40, 3) := by decide +kernel
theorem dX12_readsDigits_30 : decode cX12_readsDigits 30 = .ok (.iload_n 2, 1) := by decide +kernel
theorem dX12_readsDigits_31 : decode cX12_readsDigits 31 = .ok (.aload_n 0, 1) := by decide +kernel
theorem dX12_readsDigits_32 : decode cX12_readsDigits 32 = .ok (.invokevirtual 120, 3) := by decide +kernel
theorem dX12_readsDigits_35 : decode cX12_readsDigits 35 = .ok (.bipush 48, 2) := by decide +kernel
theorem dX12_readsDigits_37 : decode cX12_readsDigits 37 = .ok (.isub, 1) := by decide +kernel
theorem dX12_readsDigits_38 : decode cX12_readsDigits 38 = .ok (.iastore, 1) := by decide +kernel
theorem dX12_readsDigits_39 : decode cX12_readsDigits 39 = .ok (.aload_n 0, 1) := by decide +kernel
theorem dX12_readsDigits_40 : decode cX12_readsDigits 40 = .ok (.dup, 1) := by decide +kernel
theorem dX12_readsDigits_41 : decode cX12_readsDigits 41 = .ok (.getfield 111, 3) := by decide +kernel
theorem dX12_readsDigits_44 : decode cX12_readsDigits 44 = .ok (.iconst 1, 1) := by decide +kernel
theorem dX12_readsDigits_45 : decode cX12_readsDigits 45 = .ok (.iadd, 1) := by decide +kernel
theorem dX12_readsDigits_46 : decode cX12_readsDigits 46 = .ok (.putfield 111, 3) := by decide +kernel
theorem dX12_readsDigits_49 : decode cX12_readsDigits 49 = .ok (.iinc 2 1, 3) := by decide +kernel
theorem dX12_readsDigits_52 : decode cX12_readsDigits 52 = .ok (.goto (-50), 3) := by decide +kernel
theorem dX12_readsDigits_55 : decode cX12_readsDigits 55 = .ok (.iconst 1, 1) := by decide +kernel
theorem dX12_readsDigits_56 : decode cX12_readsDigits 56 = .ok (.ireturn, 1) := by decide +kernel
set_option maxRecDepth 20000 in
theorem ggX12_readsStatement_X12_here : GoodIn wsX12_readsStatement wsX12_here := goodIn_r _ [6, 1, 7, 8, 9, 20, 21, 22, 23, 24, 25, 26, 27, 28, 29, 30, 31, 32, 33, 34, 35, 36, 37, 38, 39] (by decide +kernel) (by decide +kernel)
set_option maxRecDepth 20000 in
theorem gX12_readsStatement_X12_here : GoodIn wsX12_readsStatement (wsV RX12 120 RX12 yX12_here wsX12_here) := goodIn_app (goodIn_of _ (by decide +kernel)) ggX12_readsStatement_X12_here
set_option maxRecDepth 20000 in
theorem ggX12_readsStatement_X12_readsDigits : GoodIn wsX12_readsStatement wsX12_readsDigits := goodIn_r _ [13, 14, 15, 16, 1, 2, 3, 4, 5, 6, 7, 8, 9, 17, 18, 19, 20, 21, 22, 23, 24, 25, 26, 27, 28, 29, 30, 31, 32, 33, 34, 35, 36, 37, 38, 39] (by decide +kernel) (by decide +kernel)
set_option maxRecDepth 20000 in
theorem gX12_readsStatement_X12_readsDigits : GoodIn wsX12_readsStatement (wsV RX12 128 RX12 yX12_readsDigits wsX12_readsDigits) := goodIn_app (goodIn_of _ (by decide +kernel)) ggX12_readsStatement_X12_readsDigits
theorem dX12_readsStatement_0 : decode cX12_readsStatement 0 = .ok (.aload_n 0, 1) := by decide +kernel
theorem dX12_readsStatement_1 : decode cX12_readsStatement 1 = .ok (.invokevirtual 120, 3) := by decide +kernel
theorem dX12_readsStatement_4 : decode cX12_readsStatement 4 = .ok (.istore_n 1, 1) := by decide +kernel
theorem dX12_readsStatement_5 : decode cX12_readsStatement 5 = .ok (.iload_n 1, 1) := by decide +kernel
theorem dX12_readsStatement_6 : decode cX12_readsStatement 6 = .ok (.bipush 115, 2) := by decide +kernel
theorem dX12_readsStatement_8 : decode cX12_readsStatement 8 = .ok (.if_icmp .ne 7, 3) := by decide +kernel
theorem dX12_readsStatement_11 : decode cX12_readsStatement 11 = .ok (.iconst 0, 1) := by decide +kernel
theorem dX12_readsStatement_12 : decode cX12_readsStatement 12 = .ok (.goto 42, 3) := by decide +kernel
theorem dX12_readsStatement_15 : decode cX12_readsStatement 15 = .ok (.iload_n 1, 1) := by decide +kernel
theorem dX12_readsStatement_16 : decode cX12_readsStatement 16 = .ok (.bipush 116, 2) := by decide +kernel
theorem dX12_readsStatement_18 : decode cX12_readsStatement 18 = .ok (.if_icmp .ne 7, 3) := by decide +kernel
theorem dX12_readsStatement_21 : decode cX12_readsStatement 21 = .ok (.iconst 1, 1) := by decide +kernel
theorem dX12_readsStatement_22 : decode cX12_readsStatement 22 = .ok (.goto 32, 3) := by decide +kernel
theorem dX12_readsStatement_25 : decode cX12_readsStatement 25 = .ok (.iload_n 1, 1) := by decide +kernel
theorem dX12_readsStatement_26 : decode cX12_readsStatement 26 = .ok (.bipush 110, 2) := by decide +kernel
theorem dX12_readsStatement_28 : decode cX12_readsStatement 28 = .ok (.if_icmp .eq 21, 3) := by decide +kernel
theorem dX12_readsStatement_31 : decode cX12_readsStatement 31 = .ok (.iload_n 1, 1) := by decide +kernel
theorem dX12_readsStatement_32 : decode cX12_readsStatement 32 = .ok (.bipush 100, 2) := by decide +kernel
theorem dX12_readsStatement_34 : decode cX12_readsStatement 34 = .ok (.if_icmp .eq 15, 3) := by decide +kernel
theorem dX12_readsStatement_37 : decode cX12_readsStatement 37 = .ok (.iload_n 1, 1) := by decide +kernel
theorem dX12_readsStatement_38 : decode cX12_readsStatement 38 = .ok (.bipush 107, 2) := by decide +kernel
theorem dX12_readsStatement_40 : decode cX12_readsStatement 40 = .ok (.if_icmp .eq 9, 3) := by decide +kernel
theorem dX12_readsStatement_43 : decode cX12_readsStatement 43 = .ok (.iload_n 1, 1) := by decide +kernel
theorem dX12_readsStatement_44 : decode cX12_readsStatement 44 = .ok (.bipush 120, 2) := by decide +kernel
theorem dX12_readsStatement_46 : decode cX12_readsStatement 46 = .ok (.if_icmp .ne 7, 3) := by decide +kernel
theorem dX12_readsStatement_49 : decode cX12_readsStatement 49 = .ok (.iconst 2, 1) := by decide +kernel
theorem dX12_readsStatement_50 : decode cX12_readsStatement 50 = .ok (.goto 4, 3) := by decide +kernel
theorem dX12_readsStatement_53 : decode cX12_readsStatement 53 = .ok (.iconst (-1), 1) := by decide +kernel
theorem dX12_readsStatement_54 : decode cX12_readsStatement 54 = .ok (.istore_n 2, 1) := by decide +kernel
theorem dX12_readsStatement_55 : decode cX12_readsStatement 55 = .ok (.iload_n 2, 1) := by decide +kernel
theorem dX12_readsStatement_56 : decode cX12_readsStatement 56 = .ok (.ifCond .ge 5, 3) := by decide +kernel
theorem dX12_readsStatement_59 : decode cX12_readsStatement 59 = .ok (.iconst 0, 1) := by decide +kernel
theorem dX12_readsStatement_60 : decode cX12_readsStatement 60 = .ok (.ireturn, 1) := by decide +kernel
theorem dX12_readsStatement_61 : decode cX12_readsStatement 61 = .ok (.aload_n 0, 1) := by decide +kernel
theorem dX12_readsStatement_62 : decode cX12_readsStatement 62 = .ok (.dup, 1) := by decide +kernel
theorem dX12_readsStatement_63 : decode cX12_readsStatement 63 = .ok (.getfield 111, 3) := by decide +kernel
theorem dX12_readsStatement_66 : decode cX12_readsStatement 66 = .ok (.iconst 1, 1) := by decide +kernel
theorem dX12_readsStatement_67 : decode cX12_readsStatement 67 = .ok (.iadd, 1) := by decide +kernel
theorem dX12_readsStatement_68 : decode cX12_readsStatement 68 = .ok (.putfield 111, 3) := by decide +kernel
theorem dX12_readsStatement_71 : decode cX12_readsStatement 71 = .ok (.aload_n 0, 1) := by decide +kernel
theorem dX12_readsStatement_72 : decode cX12_readsStatement 72 = .ok (.iload_n 2, 1) := by decide +kernel
theorem dX12_readsStatement_73 : decode cX12_readsStatement 73 = .ok (.invokevirtual 128, 3) := by decide +kernel
theorem dX12_readsStatement_76 : decode cX12_readsStatement 76 = .ok (.ifCond .eq 12, 3) := by decide +kernel
theorem dX12_readsStatement_79 : decode cX12_readsStatement 79 = .ok (.aload_n 0, 1) := by decide +kernel
theorem dX12_readsStatement_80 : decode cX12_readsStatement 80 = .ok (.invokevirtual 120, 3) := by decide +kernel
theorem dX12_readsStatement_83 : decode cX12_readsStatement 83 = .ok (.bipush 59, 2) := by decide +kernel
theorem dX12_readsStatement_85 : decode cX12_readsStatement 85 = .ok (.if_icmp .eq 5, 3) := by decide +kernel
theorem dX12_readsStatement_88 : decode cX12_readsStatement 88 = .ok (.iconst 0, 1) := by decide +kernel
theorem dX12_readsStatement_89 : decode cX12_readsStatement 89 = .ok (.ireturn, 1) := by decide +kernel
theorem dX12_readsStatement_90 : decode cX12_readsStatement 90 = .ok (.aload_n 0, 1) := by decide +kernel
theorem dX12_readsStatement_91 : decode cX12_readsStatement 91 = .ok (.dup, 1) := by decide +kernel
theorem dX12_readsStatement_92 : decode cX12_readsStatement 92 = .ok (.getfield 111, 3) := by decide +kernel
theorem dX12_readsStatement_95 : decode cX12_readsStatement 95 = .ok (.iconst 1, 1) := by decide +kernel
theorem dX12_readsStatement_96 : decode cX12_readsStatement 96 = .ok (.iadd, 1) := by decide +kernel
theorem dX12_readsStatement_97 : decode cX12_readsStatement 97 = .ok (.putfield 111, 3) := by decide +kernel
theorem dX12_readsStatement_100 : decode cX12_readsStatement 100 = .ok (.iconst 1, 1) := by decide +kernel
theorem dX12_readsStatement_101 : decode cX12_readsStatement 101 = .ok (.ireturn, 1) := by decide +kernel
set_option maxRecDepth 20000 in
theorem ggX12_joins_X12_puts : GoodIn wsX12_joins wsX12_puts := goodIn_r _ [6, 1, 7, 8, 9, 10, 11, 12, 13, 14, 15, 16, 17, 18, 19, 20, 21, 22, 23, 24, 25, 26] (by decide +kernel) (by decide +kernel)
set_option maxRecDepth 20000 in
theorem gX12_joins_X12_puts : GoodIn wsX12_joins (wsV RX12 108 RX12 yX12_puts wsX12_puts) := goodIn_app (goodIn_of _ (by decide +kernel)) ggX12_joins_X12_puts
theorem dX12_joins_0 : decode cX12_joins 0 = .ok (.aload_n 0, 1) := by decide +kernel
theorem dX12_joins_1 : decode cX12_joins 1 = .ok (.getfield 9, 3) := by decide +kernel
theorem dX12_joins_4 : decode cX12_joins 4 = .ok (.iconst 1, 1) := by decide +kernel
theorem dX12_joins_5 : decode cX12_joins 5 = .ok (.iaload, 1) := by decide +kernel
theorem dX12_joins_6 : decode cX12_joins 6 = .ok (.istore_n 3, 1) := by decide +kernel
theorem dX12_joins_7 : decode cX12_joins 7 = .ok (.aload_n 0, 1) := by decide +kernel
theorem dX12_joins_8 : decode cX12_joins 8 = .ok (.iload_n 3, 1) := by decide +kernel
theorem dX12_joins_9 : decode cX12_joins 9 = .ok (.iconst 0, 1) := by decide +kernel
theorem dX12_joins_10 : decode cX12_joins 10 = .ok (.iload_n 1, 1) := by decide +kernel
theorem dX12_joins_11 : decode cX12_joins 11 = .ok (.invokevirtual 108, 3) := by decide +kernel
theorem dX12_joins_14 : decode cX12_joins 14 = .ok (.aload_n 0, 1) := by decide +kernel
theorem dX12_joins_15 : decode cX12_joins 15 = .ok (.iload_n 3, 1) := by decide +kernel
theorem dX12_joins_16 : decode cX12_joins 16 = .ok (.iconst 1, 1) := by decide +kernel
theorem dX12_joins_17 : decode cX12_joins 17 = .ok (.iload_n 2, 1) := by decide +kernel
theorem dX12_joins_18 : decode cX12_joins 18 = .ok (.invokevirtual 108, 3) := by decide +kernel
theorem dX12_joins_21 : decode cX12_joins 21 = .ok (.aload_n 0, 1) := by decide +kernel
theorem dX12_joins_22 : decode cX12_joins 22 = .ok (.iload_n 3, 1) := by decide +kernel
theorem dX12_joins_23 : decode cX12_joins 23 = .ok (.iconst 2, 1) := by decide +kernel
theorem dX12_joins_24 : decode cX12_joins 24 = .ok (.iconst 0, 1) := by decide +kernel
theorem dX12_joins_25 : decode cX12_joins 25 = .ok (.invokevirtual 108, 3) := by decide +kernel
theorem dX12_joins_28 : decode cX12_joins 28 = .ok (.aload_n 0, 1) := by decide +kernel
theorem dX12_joins_29 : decode cX12_joins 29 = .ok (.getfield 9, 3) := by decide +kernel
theorem dX12_joins_32 : decode cX12_joins 32 = .ok (.iconst 4, 1) := by decide +kernel
theorem dX12_joins_33 : decode cX12_joins 33 = .ok (.dup2, 1) := by decide +kernel
theorem dX12_joins_34 : decode cX12_joins 34 = .ok (.iaload, 1) := by decide +kernel
theorem dX12_joins_35 : decode cX12_joins 35 = .ok (.iconst 1, 1) := by decide +kernel
theorem dX12_joins_36 : decode cX12_joins 36 = .ok (.iload_n 3, 1) := by decide +kernel
theorem dX12_joins_37 : decode cX12_joins 37 = .ok (.ishl, 1) := by decide +kernel
theorem dX12_joins_38 : decode cX12_joins 38 = .ok (.ior, 1) := by decide +kernel
theorem dX12_joins_39 : decode cX12_joins 39 = .ok (.iastore, 1) := by decide +kernel
theorem dX12_joins_40 : decode cX12_joins 40 = .ok (.aload_n 0, 1) := by decide +kernel
theorem dX12_joins_41 : decode cX12_joins 41 = .ok (.getfield 9, 3) := by decide +kernel
theorem dX12_joins_44 : decode cX12_joins 44 = .ok (.iconst 1, 1) := by decide +kernel
theorem dX12_joins_45 : decode cX12_joins 45 = .ok (.dup2, 1) := by decide +kernel
theorem dX12_joins_46 : decode cX12_joins 46 = .ok (.iaload, 1) := by decide +kernel
theorem dX12_joins_47 : decode cX12_joins 47 = .ok (.iconst 1, 1) := by decide +kernel
theorem dX12_joins_48 : decode cX12_joins 48 = .ok (.iadd, 1) := by decide +kernel
theorem dX12_joins_49 : decode cX12_joins 49 = .ok (.iastore, 1) := by decide +kernel
theorem dX12_joins_50 : decode cX12_joins 50 = .ok (.return_, 1) := by decide +kernel
set_option maxRecDepth 20000 in
theorem ggX12_adds_X12_joins : GoodIn wsX12_adds wsX12_joins := goodIn_r _ [6, 1, 7, 8, 9, 5, 10, 11, 12, 13, 14, 15, 16, 17, 18, 19, 20, 21, 22, 23, 24, 25, 26, 27, 28, 29, 30] (by decide +kernel) (by decide +kernel)
set_option maxRecDepth 20000 in
theorem gX12_adds_X12_joins : GoodIn wsX12_adds (wsV RX12 131 RX12 yX12_joins wsX12_joins) := goodIn_app (goodIn_of _ (by decide +kernel)) ggX12_adds_X12_joins
theorem dX12_adds_0 : decode cX12_adds 0 = .ok (.aload_n 0, 1) := by decide +kernel
theorem dX12_adds_1 : decode cX12_adds 1 = .ok (.getfield 9, 3) := by decide +kernel
theorem dX12_adds_4 : decode cX12_adds 4 = .ok (.iconst 1, 1) := by decide +kernel
theorem dX12_adds_5 : decode cX12_adds 5 = .ok (.iaload, 1) := by decide +kernel
theorem dX12_adds_6 : decode cX12_adds 6 = .ok (.bipush 6, 2) := by decide +kernel
theorem dX12_adds_8 : decode cX12_adds 8 = .ok (.if_icmp .ne 5, 3) := by decide +kernel
theorem dX12_adds_11 : decode cX12_adds 11 = .ok (.iconst 0, 1) := by decide +kernel
theorem dX12_adds_12 : decode cX12_adds 12 = .ok (.ireturn, 1) := by decide +kernel
theorem dX12_adds_13 : decode cX12_adds 13 = .ok (.aload_n 0, 1) := by decide +kernel
theorem dX12_adds_14 : decode cX12_adds 14 = .ok (.iload_n 1, 1) := by decide +kernel
theorem dX12_adds_15 : decode cX12_adds 15 = .ok (.iload_n 2, 1) := by decide +kernel
theorem dX12_adds_16 : decode cX12_adds 16 = .ok (.invokevirtual 131, 3) := by decide +kernel
theorem dX12_adds_19 : decode cX12_adds 19 = .ok (.iconst 1, 1) := by decide +kernel
theorem dX12_adds_20 : decode cX12_adds 20 = .ok (.ireturn, 1) := by decide +kernel
set_option maxRecDepth 20000 in
theorem ggX12_comesTold_X12_setOf : GoodIn wsX12_comesTold wsX12_setOf := goodIn_r _ [7, 2, 74, 75, 76, 77, 78, 79, 80, 81, 82, 83, 84, 85, 86, 87, 88, 89, 90, 91, 92, 93] (by decide +kernel) (by decide +kernel)
set_option maxRecDepth 20000 in
theorem gX12_comesTold_X12_setOf : GoodIn wsX12_comesTold (wsV RX12 104 RX12 yX12_setOf wsX12_setOf) := goodIn_app (goodIn_of _ (by decide +kernel)) ggX12_comesTold_X12_setOf
set_option maxRecDepth 20000 in
theorem ggX12_comesTold_X12_isSentence : GoodIn wsX12_comesTold wsX12_isSentence := goodIn_r _ [11, 2, 12, 13, 6, 14, 74, 75, 76, 77, 78, 79, 80, 81, 82, 83, 84, 85, 86, 87, 88, 89, 90, 91, 92, 93] (by decide +kernel) (by decide +kernel)
set_option maxRecDepth 20000 in
theorem gX12_comesTold_X12_isSentence : GoodIn wsX12_comesTold (wsV RX12 135 RX12 yX12_isSentence wsX12_isSentence) := goodIn_app (goodIn_of _ (by decide +kernel)) ggX12_comesTold_X12_isSentence
set_option maxRecDepth 20000 in
theorem ggX12_comesTold_X12_of : GoodIn wsX12_comesTold wsX12_of := goodIn_r _ [18, 2, 74, 75, 76, 77, 78, 79, 80, 81, 82, 83, 84, 85, 86, 87, 88, 89, 90, 91, 92, 93] (by decide +kernel) (by decide +kernel)
set_option maxRecDepth 20000 in
theorem gX12_comesTold_X12_of : GoodIn wsX12_comesTold (wsV RX12 74 RX12 yX12_of wsX12_of) := goodIn_app (goodIn_of _ (by decide +kernel)) ggX12_comesTold_X12_of
set_option maxRecDepth 20000 in
theorem ggX12_comesTold_X12_isTrue : GoodIn wsX12_comesTold wsX12_isTrue := goodIn_r _ [22, 2, 23, 24, 6, 25, 74, 75, 76, 77, 78, 79, 80, 81, 82, 83, 84, 85, 86, 87, 88, 89, 90, 91, 92, 93] (by decide +kernel) (by decide +kernel)
set_option maxRecDepth 20000 in
theorem gX12_comesTold_X12_isTrue : GoodIn wsX12_comesTold (wsV RX12 77 RX12 yX12_isTrue wsX12_isTrue) := goodIn_app (goodIn_of _ (by decide +kernel)) ggX12_comesTold_X12_isTrue
set_option maxRecDepth 20000 in
theorem ggX12_comesTold_X12_adds : GoodIn wsX12_comesTold wsX12_adds := goodIn_r _ [29, 2, 30, 31, 32, 6, 33, 34, 35, 36, 37, 74, 75, 76, 77, 78, 79, 80, 81, 82, 83, 84, 85, 86, 87, 88, 89, 90, 91, 92, 93] (by decide +kernel) (by decide +kernel)
set_option maxRecDepth 20000 in
theorem gX12_comesTold_X12_adds : GoodIn wsX12_comesTold (wsV RX12 138 RX12 yX12_adds wsX12_adds) := goodIn_app (goodIn_of _ (by decide +kernel)) ggX12_comesTold_X12_adds
set_option maxRecDepth 20000 in
theorem ggX12_comesTold_X12_isDenier : GoodIn wsX12_comesTold wsX12_isDenier := goodIn_r _ [41, 2, 12, 13, 6, 14, 74, 75, 76, 77, 78, 79, 80, 81, 82, 83, 84, 85, 86, 87, 88, 89, 90, 91, 92, 93] (by decide +kernel) (by decide +kernel)
set_option maxRecDepth 20000 in
theorem gX12_comesTold_X12_isDenier : GoodIn wsX12_comesTold (wsV RX12 141 RX12 yX12_isDenier wsX12_isDenier) := goodIn_app (goodIn_of _ (by decide +kernel)) ggX12_comesTold_X12_isDenier
set_option maxRecDepth 20000 in
theorem ggX12_comesTold_X12_get : GoodIn wsX12_comesTold wsX12_get := goodIn_r _ [45, 2, 74, 75, 76, 77, 78, 79, 80, 81, 82, 83, 84, 85, 86, 87, 88, 89, 90, 91, 92, 93] (by decide +kernel) (by decide +kernel)
set_option maxRecDepth 20000 in
theorem gX12_comesTold_X12_get : GoodIn wsX12_comesTold (wsV RX12 70 RX12 yX12_get wsX12_get) := goodIn_app (goodIn_of _ (by decide +kernel)) ggX12_comesTold_X12_get
set_option maxRecDepth 20000 in
theorem ggX12_comesTold_X12_puts : GoodIn wsX12_comesTold wsX12_puts := goodIn_r _ [37, 2, 74, 75, 76, 77, 78, 79, 80, 81, 82, 83, 84, 85, 86, 87, 88, 89, 90, 91, 92, 93] (by decide +kernel) (by decide +kernel)
set_option maxRecDepth 20000 in
theorem gX12_comesTold_X12_puts : GoodIn wsX12_comesTold (wsV RX12 108 RX12 yX12_puts wsX12_puts) := goodIn_app (goodIn_of _ (by decide +kernel)) ggX12_comesTold_X12_puts
set_option maxRecDepth 20000 in
theorem ggX12_comesTold_X12_mayNow : GoodIn wsX12_comesTold wsX12_mayNow := goodIn_r _ [49, 50, 51, 52, 6, 53, 2, 23, 24, 25, 54, 55, 56, 57, 42, 43, 44, 45, 19, 20, 21, 22, 58, 59, 60, 61, 62, 63, 64, 65, 15, 16, 17, 18, 74, 75, 76, 77, 78, 79, 80, 81, 82, 83, 84, 85, 86, 87, 88, 89, 90, 91, 92, 93] (by decide +kernel) (by decide +kernel)
set_option maxRecDepth 20000 in
theorem gX12_comesTold_X12_mayNow : GoodIn wsX12_comesTold (wsV RX12 144 RX12 yX12_mayNow wsX12_mayNow) := goodIn_app (goodIn_of _ (by decide +kernel)) ggX12_comesTold_X12_mayNow
set_option maxRecDepth 20000 in
theorem ggX12_comesTold_X12_denies : GoodIn wsX12_comesTold wsX12_denies := goodIn_r _ [69, 2, 70, 71, 72, 6, 73, 42, 43, 44, 45, 62, 63, 64, 65, 15, 16, 17, 18, 3, 4, 5, 7, 34, 35, 36, 37, 74, 75, 76, 77, 78, 79, 80, 81, 82, 83, 84, 85, 86, 87, 88, 89, 90, 91, 92, 93] (by decide +kernel) (by decide +kernel)
set_option maxRecDepth 20000 in
theorem gX12_comesTold_X12_denies : GoodIn wsX12_comesTold (wsV RX12 147 RX12 yX12_denies wsX12_denies) := goodIn_app (goodIn_of _ (by decide +kernel)) ggX12_comesTold_X12_denies
theorem dX12_comesTold_0 : decode cX12_comesTold 0 = .ok (.aload_n 0, 1) := by decide +kernel
theorem dX12_comesTold_1 : decode cX12_comesTold 1 = .ok (.getfield 40, 3) := by decide +kernel
theorem dX12_comesTold_4 : decode cX12_comesTold 4 = .ok (.iconst 0, 1) := by decide +kernel
theorem dX12_comesTold_5 : decode cX12_comesTold 5 = .ok (.iaload, 1) := by decide +kernel
theorem dX12_comesTold_6 : decode cX12_comesTold 6 = .ok (.istore_n 2, 1) := by decide +kernel
theorem dX12_comesTold_7 : decode cX12_comesTold 7 = .ok (.aload_n 0, 1) := by decide +kernel
theorem dX12_comesTold_8 : decode cX12_comesTold 8 = .ok (.getfield 40, 3) := by decide +kernel
theorem dX12_comesTold_11 : decode cX12_comesTold 11 = .ok (.iconst 1, 1) := by decide +kernel
theorem dX12_comesTold_12 : decode cX12_comesTold 12 = .ok (.iaload, 1) := by decide +kernel
theorem dX12_comesTold_13 : decode cX12_comesTold 13 = .ok (.istore_n 3, 1) := by decide +kernel
theorem dX12_comesTold_14 : decode cX12_comesTold 14 = .ok (.iload_n 1, 1) := by decide +kernel
theorem dX12_comesTold_15 : decode cX12_comesTold 15 = .ok (.lookupswitch 258 #[(100, 201), (107, 222), (110, 108), (115, 49), (116, 149)], 49) := by decide +kernel
theorem dX12_comesTold_64 : decode cX12_comesTold 64 = .ok (.aload_n 0, 1) := by decide +kernel
theorem dX12_comesTold_65 : decode cX12_comesTold 65 = .ok (.getfield 9, 3) := by decide +kernel
theorem dX12_comesTold_68 : decode cX12_comesTold 68 = .ok (.iconst 0, 1) := by decide +kernel
theorem dX12_comesTold_69 : decode cX12_comesTold 69 = .ok (.iaload, 1) := by decide +kernel
theorem dX12_comesTold_70 : decode cX12_comesTold 70 = .ok (.bipush 9, 2) := by decide +kernel
theorem dX12_comesTold_72 : decode cX12_comesTold 72 = .ok (.if_icmp .ne 5, 3) := by decide +kernel
theorem dX12_comesTold_75 : decode cX12_comesTold 75 = .ok (.iconst 0, 1) := by decide +kernel
theorem dX12_comesTold_76 : decode cX12_comesTold 76 = .ok (.ireturn, 1) := by decide +kernel
theorem dX12_comesTold_77 : decode cX12_comesTold 77 = .ok (.aload_n 0, 1) := by decide +kernel
theorem dX12_comesTold_78 : decode cX12_comesTold 78 = .ok (.getfield 9, 3) := by decide +kernel
theorem dX12_comesTold_81 : decode cX12_comesTold 81 = .ok (.iconst 0, 1) := by decide +kernel
theorem dX12_comesTold_82 : decode cX12_comesTold 82 = .ok (.iaload, 1) := by decide +kernel
theorem dX12_comesTold_83 : decode cX12_comesTold 83 = .ok (.istore 4, 2) := by decide +kernel
theorem dX12_comesTold_85 : decode cX12_comesTold 85 = .ok (.aload_n 0, 1) := by decide +kernel
theorem dX12_comesTold_86 : decode cX12_comesTold 86 = .ok (.iload 4, 2) := by decide +kernel
theorem dX12_comesTold_88 : decode cX12_comesTold 88 = .ok (.iconst 0, 1) := by decide +kernel
theorem dX12_comesTold_89 : decode cX12_comesTold 89 = .ok (.iconst 0, 1) := by decide +kernel
theorem dX12_comesTold_90 : decode cX12_comesTold 90 = .ok (.invokevirtual 104, 3) := by decide +kernel
theorem dX12_comesTold_93 : decode cX12_comesTold 93 = .ok (.aload_n 0, 1) := by decide +kernel
theorem dX12_comesTold_94 : decode cX12_comesTold 94 = .ok (.iload 4, 2) := by decide +kernel
theorem dX12_comesTold_96 : decode cX12_comesTold 96 = .ok (.iconst 1, 1) := by decide +kernel
theorem dX12_comesTold_97 : decode cX12_comesTold 97 = .ok (.bipush (-4), 2) := by decide +kernel
theorem dX12_comesTold_99 : decode cX12_comesTold 99 = .ok (.invokevirtual 104, 3) := by decide +kernel
theorem dX12_comesTold_102 : decode cX12_comesTold 102 = .ok (.aload_n 0, 1) := by decide +kernel
theorem dX12_comesTold_103 : decode cX12_comesTold 103 = .ok (.iload 4, 2) := by decide +kernel
theorem dX12_comesTold_105 : decode cX12_comesTold 105 = .ok (.iconst 2, 1) := by decide +kernel
theorem dX12_comesTold_106 : decode cX12_comesTold 106 = .ok (.bipush (-4), 2) := by decide +kernel
theorem dX12_comesTold_108 : decode cX12_comesTold 108 = .ok (.invokevirtual 104, 3) := by decide +kernel
theorem dX12_comesTold_111 : decode cX12_comesTold 111 = .ok (.aload_n 0, 1) := by decide +kernel
theorem dX12_comesTold_112 : decode cX12_comesTold 112 = .ok (.getfield 9, 3) := by decide +kernel
theorem dX12_comesTold_115 : decode cX12_comesTold 115 = .ok (.iconst 0, 1) := by decide +kernel
theorem dX12_comesTold_116 : decode cX12_comesTold 116 = .ok (.dup2, 1) := by decide +kernel
theorem dX12_comesTold_117 : decode cX12_comesTold 117 = .ok (.iaload, 1) := by decide +kernel
theorem dX12_comesTold_118 : decode cX12_comesTold 118 = .ok (.iconst 1, 1) := by decide +kernel
theorem dX12_comesTold_119 : decode cX12_comesTold 119 = .ok (.iadd, 1) := by decide +kernel
theorem dX12_comesTold_120 : decode cX12_comesTold 120 = .ok (.iastore, 1) := by decide +kernel
theorem dX12_comesTold_121 : decode cX12_comesTold 121 = .ok (.iconst 1, 1) := by decide +kernel
theorem dX12_comesTold_122 : decode cX12_comesTold 122 = .ok (.ireturn, 1) := by decide +kernel
theorem dX12_comesTold_123 : decode cX12_comesTold 123 = .ok (.aload_n 0, 1) := by decide +kernel
theorem dX12_comesTold_124 : decode cX12_comesTold 124 = .ok (.iload_n 2, 1) := by decide +kernel
theorem dX12_comesTold_125 : decode cX12_comesTold 125 = .ok (.invokevirtual 135, 3) := by decide +kernel
theorem dX12_comesTold_128 : decode cX12_comesTold 128 = .ok (.ifCond .eq 16, 3) := by decide +kernel
theorem dX12_comesTold_131 : decode cX12_comesTold 131 = .ok (.aload_n 0, 1) := by decide +kernel
theorem dX12_comesTold_132 : decode cX12_comesTold 132 = .ok (.iload_n 3, 1) := by decide +kernel
theorem dX12_comesTold_133 : decode cX12_comesTold 133 = .ok (.invokevirtual 135, 3) := by decide +kernel
theorem dX12_comesTold_136 : decode cX12_comesTold 136 = .ok (.ifCond .eq 8, 3) := by decide +kernel
theorem dX12_comesTold_139 : decode cX12_comesTold 139 = .ok (.iload_n 2, 1) := by decide +kernel
theorem dX12_comesTold_140 : decode cX12_comesTold 140 = .ok (.iload_n 3, 1) := by decide +kernel
theorem dX12_comesTold_141 : decode cX12_comesTold 141 = .ok (.if_icmp .ne 5, 3) := by decide +kernel
theorem dX12_comesTold_144 : decode cX12_comesTold 144 = .ok (.iconst 0, 1) := by decide +kernel
theorem dX12_comesTold_145 : decode cX12_comesTold 145 = .ok (.ireturn, 1) := by decide +kernel
theorem dX12_comesTold_146 : decode cX12_comesTold 146 = .ok (.aload_n 0, 1) := by decide +kernel
theorem dX12_comesTold_147 : decode cX12_comesTold 147 = .ok (.iload_n 2, 1) := by decide +kernel
theorem dX12_comesTold_148 : decode cX12_comesTold 148 = .ok (.iconst 0, 1) := by decide +kernel
theorem dX12_comesTold_149 : decode cX12_comesTold 149 = .ok (.aload_n 0, 1) := by decide +kernel
theorem dX12_comesTold_150 : decode cX12_comesTold 150 = .ok (.iload_n 2, 1) := by decide +kernel
theorem dX12_comesTold_151 : decode cX12_comesTold 151 = .ok (.iconst 0, 1) := by decide +kernel
theorem dX12_comesTold_152 : decode cX12_comesTold 152 = .ok (.invokevirtual 74, 3) := by decide +kernel
theorem dX12_comesTold_155 : decode cX12_comesTold 155 = .ok (.iconst 1, 1) := by decide +kernel
theorem dX12_comesTold_156 : decode cX12_comesTold 156 = .ok (.iload_n 3, 1) := by decide +kernel
theorem dX12_comesTold_157 : decode cX12_comesTold 157 = .ok (.ishl, 1) := by decide +kernel
theorem dX12_comesTold_158 : decode cX12_comesTold 158 = .ok (.ior, 1) := by decide +kernel
theorem dX12_comesTold_159 : decode cX12_comesTold 159 = .ok (.invokevirtual 104, 3) := by decide +kernel
theorem dX12_comesTold_162 : decode cX12_comesTold 162 = .ok (.iconst 1, 1) := by decide +kernel
theorem dX12_comesTold_163 : decode cX12_comesTold 163 = .ok (.ireturn, 1) := by decide +kernel
theorem dX12_comesTold_164 : decode cX12_comesTold 164 = .ok (.aload_n 0, 1) := by decide +kernel
theorem dX12_comesTold_165 : decode cX12_comesTold 165 = .ok (.iload_n 2, 1) := by decide +kernel
theorem dX12_comesTold_166 : decode cX12_comesTold 166 = .ok (.invokevirtual 135, 3) := by decide +kernel
theorem dX12_comesTold_169 : decode cX12_comesTold 169 = .ok (.ifCond .eq 11, 3) := by decide +kernel
theorem dX12_comesTold_172 : decode cX12_comesTold 172 = .ok (.aload_n 0, 1) := by decide +kernel
theorem dX12_comesTold_173 : decode cX12_comesTold 173 = .ok (.iload_n 2, 1) := by decide +kernel
theorem dX12_comesTold_174 : decode cX12_comesTold 174 = .ok (.invokevirtual 77, 3) := by decide +kernel
theorem dX12_comesTold_177 : decode cX12_comesTold 177 = .ok (.ifCond .eq 5, 3) := by decide +kernel
theorem dX12_comesTold_180 : decode cX12_comesTold 180 = .ok (.iconst 0, 1) := by decide +kernel
theorem dX12_comesTold_181 : decode cX12_comesTold 181 = .ok (.ireturn, 1) := by decide +kernel
theorem dX12_comesTold_182 : decode cX12_comesTold 182 = .ok (.aload_n 0, 1) := by decide +kernel
theorem dX12_comesTold_183 : decode cX12_comesTold 183 = .ok (.getfield 9, 3) := by decide +kernel
theorem dX12_comesTold_186 : decode cX12_comesTold 186 = .ok (.iconst 2, 1) := by decide +kernel
theorem dX12_comesTold_187 : decode cX12_comesTold 187 = .ok (.dup2, 1) := by decide +kernel
theorem dX12_comesTold_188 : decode cX12_comesTold 188 = .ok (.iaload, 1) := by decide +kernel
theorem dX12_comesTold_189 : decode cX12_comesTold 189 = .ok (.iconst 1, 1) := by decide +kernel
theorem dX12_comesTold_190 : decode cX12_comesTold 190 = .ok (.iload_n 2, 1) := by decide +kernel
theorem dX12_comesTold_191 : decode cX12_comesTold 191 = .ok (.ishl, 1) := by decide +kernel
theorem dX12_comesTold_192 : decode cX12_comesTold 192 = .ok (.ior, 1) := by decide +kernel
theorem dX12_comesTold_193 : decode cX12_comesTold 193 = .ok (.iastore, 1) := by decide +kernel
theorem dX12_comesTold_194 : decode cX12_comesTold 194 = .ok (.aload_n 0, 1) := by decide +kernel
theorem dX12_comesTold_195 : decode cX12_comesTold 195 = .ok (.iload_n 2, 1) := by decide +kernel
theorem dX12_comesTold_196 : decode cX12_comesTold 196 = .ok (.iconst 1, 1) := by decide +kernel
theorem dX12_comesTold_197 : decode cX12_comesTold 197 = .ok (.bipush (-4), 2) := by decide +kernel
theorem dX12_comesTold_199 : decode cX12_comesTold 199 = .ok (.invokevirtual 104, 3) := by decide +kernel
theorem dX12_comesTold_202 : decode cX12_comesTold 202 = .ok (.aload_n 0, 1) := by decide +kernel
theorem dX12_comesTold_203 : decode cX12_comesTold 203 = .ok (.iload_n 2, 1) := by decide +kernel
theorem dX12_comesTold_204 : decode cX12_comesTold 204 = .ok (.iconst 2, 1) := by decide +kernel
theorem dX12_comesTold_205 : decode cX12_comesTold 205 = .ok (.aload_n 0, 1) := by decide +kernel
theorem dX12_comesTold_206 : decode cX12_comesTold 206 = .ok (.getfield 9, 3) := by decide +kernel
theorem dX12_comesTold_209 : decode cX12_comesTold 209 = .ok (.iconst 3, 1) := by decide +kernel
theorem dX12_comesTold_210 : decode cX12_comesTold 210 = .ok (.iaload, 1) := by decide +kernel
theorem dX12_comesTold_211 : decode cX12_comesTold 211 = .ok (.invokevirtual 104, 3) := by decide +kernel
theorem dX12_comesTold_214 : decode cX12_comesTold 214 = .ok (.iconst 1, 1) := by decide +kernel
theorem dX12_comesTold_215 : decode cX12_comesTold 215 = .ok (.ireturn, 1) := by decide +kernel
theorem dX12_comesTold_216 : decode cX12_comesTold 216 = .ok (.iload_n 2, 1) := by decide +kernel
theorem dX12_comesTold_217 : decode cX12_comesTold 217 = .ok (.bipush 8, 2) := by decide +kernel
theorem dX12_comesTold_219 : decode cX12_comesTold 219 = .ok (.if_icmp .ge 16, 3) := by decide +kernel
theorem dX12_comesTold_222 : decode cX12_comesTold 222 = .ok (.aload_n 0, 1) := by decide +kernel
theorem dX12_comesTold_223 : decode cX12_comesTold 223 = .ok (.iload_n 2, 1) := by decide +kernel
theorem dX12_comesTold_224 : decode cX12_comesTold 224 = .ok (.iload_n 3, 1) := by decide +kernel
theorem dX12_comesTold_225 : decode cX12_comesTold 225 = .ok (.invokevirtual 138, 3) := by decide +kernel
theorem dX12_comesTold_228 : decode cX12_comesTold 228 = .ok (.ifCond .eq 7, 3) := by decide +kernel
theorem dX12_comesTold_231 : decode cX12_comesTold 231 = .ok (.iconst 1, 1) := by decide +kernel
theorem dX12_comesTold_232 : decode cX12_comesTold 232 = .ok (.goto 4, 3) := by decide +kernel
theorem dX12_comesTold_235 : decode cX12_comesTold 235 = .ok (.iconst 0, 1) := by decide +kernel
theorem dX12_comesTold_236 : decode cX12_comesTold 236 = .ok (.ireturn, 1) := by decide +kernel
theorem dX12_comesTold_237 : decode cX12_comesTold 237 = .ok (.aload_n 0, 1) := by decide +kernel
theorem dX12_comesTold_238 : decode cX12_comesTold 238 = .ok (.iload_n 2, 1) := by decide +kernel
theorem dX12_comesTold_239 : decode cX12_comesTold 239 = .ok (.invokevirtual 141, 3) := by decide +kernel
theorem dX12_comesTold_242 : decode cX12_comesTold 242 = .ok (.ifCond .eq 11, 3) := by decide +kernel
theorem dX12_comesTold_245 : decode cX12_comesTold 245 = .ok (.aload_n 0, 1) := by decide +kernel
theorem dX12_comesTold_246 : decode cX12_comesTold 246 = .ok (.iload_n 3, 1) := by decide +kernel
theorem dX12_comesTold_247 : decode cX12_comesTold 247 = .ok (.invokevirtual 135, 3) := by decide +kernel
theorem dX12_comesTold_250 : decode cX12_comesTold 250 = .ok (.ifCond .ne 5, 3) := by decide +kernel
theorem dX12_comesTold_253 : decode cX12_comesTold 253 = .ok (.iconst 0, 1) := by decide +kernel
theorem dX12_comesTold_254 : decode cX12_comesTold 254 = .ok (.ireturn, 1) := by decide +kernel
theorem dX12_comesTold_255 : decode cX12_comesTold 255 = .ok (.aload_n 0, 1) := by decide +kernel
theorem dX12_comesTold_256 : decode cX12_comesTold 256 = .ok (.iload_n 2, 1) := by decide +kernel
theorem dX12_comesTold_257 : decode cX12_comesTold 257 = .ok (.iconst 2, 1) := by decide +kernel
theorem dX12_comesTold_258 : decode cX12_comesTold 258 = .ok (.aload_n 0, 1) := by decide +kernel
theorem dX12_comesTold_259 : decode cX12_comesTold 259 = .ok (.iload_n 2, 1) := by decide +kernel
theorem dX12_comesTold_260 : decode cX12_comesTold 260 = .ok (.iconst 2, 1) := by decide +kernel
theorem dX12_comesTold_261 : decode cX12_comesTold 261 = .ok (.invokevirtual 70, 3) := by decide +kernel
theorem dX12_comesTold_264 : decode cX12_comesTold 264 = .ok (.iconst 1, 1) := by decide +kernel
theorem dX12_comesTold_265 : decode cX12_comesTold 265 = .ok (.iload_n 3, 1) := by decide +kernel
theorem dX12_comesTold_266 : decode cX12_comesTold 266 = .ok (.ishl, 1) := by decide +kernel
theorem dX12_comesTold_267 : decode cX12_comesTold 267 = .ok (.ior, 1) := by decide +kernel
theorem dX12_comesTold_268 : decode cX12_comesTold 268 = .ok (.invokevirtual 108, 3) := by decide +kernel
theorem dX12_comesTold_271 : decode cX12_comesTold 271 = .ok (.iconst 1, 1) := by decide +kernel
theorem dX12_comesTold_272 : decode cX12_comesTold 272 = .ok (.ireturn, 1) := by decide +kernel
theorem dX12_comesTold_273 : decode cX12_comesTold 273 = .ok (.aload_n 0, 1) := by decide +kernel
theorem dX12_comesTold_274 : decode cX12_comesTold 274 = .ok (.iload_n 2, 1) := by decide +kernel
theorem dX12_comesTold_275 : decode cX12_comesTold 275 = .ok (.invokevirtual 141, 3) := by decide +kernel
theorem dX12_comesTold_278 : decode cX12_comesTold 278 = .ok (.ifCond .eq 20, 3) := by decide +kernel
theorem dX12_comesTold_281 : decode cX12_comesTold 281 = .ok (.aload_n 0, 1) := by decide +kernel
theorem dX12_comesTold_282 : decode cX12_comesTold 282 = .ok (.iload_n 3, 1) := by decide +kernel
theorem dX12_comesTold_283 : decode cX12_comesTold 283 = .ok (.invokevirtual 135, 3) := by decide +kernel
theorem dX12_comesTold_286 : decode cX12_comesTold 286 = .ok (.ifCond .eq 12, 3) := by decide +kernel
theorem dX12_comesTold_289 : decode cX12_comesTold 289 = .ok (.aload_n 0, 1) := by decide +kernel
theorem dX12_comesTold_290 : decode cX12_comesTold 290 = .ok (.iload_n 2, 1) := by decide +kernel
theorem dX12_comesTold_291 : decode cX12_comesTold 291 = .ok (.iload_n 3, 1) := by decide +kernel
theorem dX12_comesTold_292 : decode cX12_comesTold 292 = .ok (.invokevirtual 144, 3) := by decide +kernel
theorem dX12_comesTold_295 : decode cX12_comesTold 295 = .ok (.ifCond .ne 5, 3) := by decide +kernel
theorem dX12_comesTold_298 : decode cX12_comesTold 298 = .ok (.iconst 0, 1) := by decide +kernel
theorem dX12_comesTold_299 : decode cX12_comesTold 299 = .ok (.ireturn, 1) := by decide +kernel
theorem dX12_comesTold_300 : decode cX12_comesTold 300 = .ok (.aload_n 0, 1) := by decide +kernel
theorem dX12_comesTold_301 : decode cX12_comesTold 301 = .ok (.iload_n 2, 1) := by decide +kernel
theorem dX12_comesTold_302 : decode cX12_comesTold 302 = .ok (.iload_n 3, 1) := by decide +kernel
theorem dX12_comesTold_303 : decode cX12_comesTold 303 = .ok (.invokevirtual 147, 3) := by decide +kernel
theorem dX12_comesTold_306 : decode cX12_comesTold 306 = .ok (.istore 4, 2) := by decide +kernel
theorem dX12_comesTold_308 : decode cX12_comesTold 308 = .ok (.iconst 1, 1) := by decide +kernel
theorem dX12_comesTold_309 : decode cX12_comesTold 309 = .ok (.ireturn, 1) := by decide +kernel
set_option maxRecDepth 20000 in
theorem ggX12_wrongRow_X12_isShelf : GoodIn wsX12_wrongRow wsX12_isShelf := goodIn_r _ [6, 7, 8, 9, 5, 10] (by decide +kernel) (by decide +kernel)
set_option maxRecDepth 20000 in
theorem gX12_wrongRow_X12_isShelf : GoodIn wsX12_wrongRow (va_wsS RX12 150 yX12_isShelf wsX12_isShelf) := goodIn_app (goodIn_of _ (by decide +kernel)) ggX12_wrongRow_X12_isShelf
theorem dX12_wrongRow_0 : decode cX12_wrongRow 0 = .ok (.iload_n 1, 1) := by decide +kernel
theorem dX12_wrongRow_1 : decode cX12_wrongRow 1 = .ok (.invokestatic 150, 3) := by decide +kernel
theorem dX12_wrongRow_4 : decode cX12_wrongRow 4 = .ok (.ifCond .ne 7, 3) := by decide +kernel
theorem dX12_wrongRow_7 : decode cX12_wrongRow 7 = .ok (.iconst (-1), 1) := by decide +kernel
theorem dX12_wrongRow_8 : decode cX12_wrongRow 8 = .ok (.goto 47, 3) := by decide +kernel
theorem dX12_wrongRow_11 : decode cX12_wrongRow 11 = .ok (.aload_n 0, 1) := by decide +kernel
theorem dX12_wrongRow_12 : decode cX12_wrongRow 12 = .ok (.getfield 22, 3) := by decide +kernel
theorem dX12_wrongRow_15 : decode cX12_wrongRow 15 = .ok (.iload_n 1, 1) := by decide +kernel
theorem dX12_wrongRow_16 : decode cX12_wrongRow 16 = .ok (.iaload, 1) := by decide +kernel
theorem dX12_wrongRow_17 : decode cX12_wrongRow 17 = .ok (.ifCond .ne 8, 3) := by decide +kernel
theorem dX12_wrongRow_20 : decode cX12_wrongRow 20 = .ok (.bipush (-11), 2) := by decide +kernel
theorem dX12_wrongRow_22 : decode cX12_wrongRow 22 = .ok (.goto 33, 3) := by decide +kernel
theorem dX12_wrongRow_25 : decode cX12_wrongRow 25 = .ok (.aload_n 0, 1) := by decide +kernel
theorem dX12_wrongRow_26 : decode cX12_wrongRow 26 = .ok (.getfield 22, 3) := by decide +kernel
theorem dX12_wrongRow_29 : decode cX12_wrongRow 29 = .ok (.iload_n 1, 1) := by decide +kernel
theorem dX12_wrongRow_30 : decode cX12_wrongRow 30 = .ok (.iaload, 1) := by decide +kernel
theorem dX12_wrongRow_31 : decode cX12_wrongRow 31 = .ok (.iconst 2, 1) := by decide +kernel
theorem dX12_wrongRow_32 : decode cX12_wrongRow 32 = .ok (.if_icmp .ne 17, 3) := by decide +kernel
theorem dX12_wrongRow_35 : decode cX12_wrongRow 35 = .ok (.iload_n 2, 1) := by decide +kernel
theorem dX12_wrongRow_36 : decode cX12_wrongRow 36 = .ok (.ifCond .lt 18, 3) := by decide +kernel
theorem dX12_wrongRow_39 : decode cX12_wrongRow 39 = .ok (.aload_n 0, 1) := by decide +kernel
theorem dX12_wrongRow_40 : decode cX12_wrongRow 40 = .ok (.getfield 25, 3) := by decide +kernel
theorem dX12_wrongRow_43 : decode cX12_wrongRow 43 = .ok (.iload_n 1, 1) := by decide +kernel
theorem dX12_wrongRow_44 : decode cX12_wrongRow 44 = .ok (.iaload, 1) := by decide +kernel
theorem dX12_wrongRow_45 : decode cX12_wrongRow 45 = .ok (.iload_n 2, 1) := by decide +kernel
theorem dX12_wrongRow_46 : decode cX12_wrongRow 46 = .ok (.if_icmp .eq 8, 3) := by decide +kernel
theorem dX12_wrongRow_49 : decode cX12_wrongRow 49 = .ok (.bipush (-12), 2) := by decide +kernel
theorem dX12_wrongRow_51 : decode cX12_wrongRow 51 = .ok (.goto 4, 3) := by decide +kernel
theorem dX12_wrongRow_54 : decode cX12_wrongRow 54 = .ok (.iconst 0, 1) := by decide +kernel
theorem dX12_wrongRow_55 : decode cX12_wrongRow 55 = .ok (.ireturn, 1) := by decide +kernel
set_option maxRecDepth 20000 in
theorem ggX12_school_X12_wrongRow : GoodIn wsX12_school wsX12_wrongRow := goodIn_r _ [11, 12, 13, 14, 15, 10, 16, 17, 18, 19, 20, 111, 112, 113, 114, 115, 116, 117, 118, 119, 120, 121, 122, 123, 124, 125, 126, 127, 128, 129, 130] (by decide +kernel) (by decide +kernel)
set_option maxRecDepth 20000 in
theorem gX12_school_X12_wrongRow : GoodIn wsX12_school (wsV RX12 153 RX12 yX12_wrongRow wsX12_wrongRow) := goodIn_app (goodIn_of _ (by decide +kernel)) ggX12_school_X12_wrongRow
set_option maxRecDepth 20000 in
theorem ggX12_school_X12_readsStatement : GoodIn wsX12_school wsX12_readsStatement := goodIn_r _ [24, 4, 25, 26, 27, 10, 28, 3, 29, 1, 30, 31, 32, 33, 34, 35, 36, 18, 19, 20, 111, 112, 113, 114, 115, 116, 117, 118, 119, 120, 121, 122, 123, 124, 125, 126, 127, 128, 129, 130] (by decide +kernel) (by decide +kernel)
set_option maxRecDepth 20000 in
theorem gX12_school_X12_readsStatement : GoodIn wsX12_school (wsV RX12 156 RX12 yX12_readsStatement wsX12_readsStatement) := goodIn_app (goodIn_of _ (by decide +kernel)) ggX12_school_X12_readsStatement
set_option maxRecDepth 20000 in
theorem ggX12_school_X12_lays : GoodIn wsX12_school wsX12_lays := goodIn_r _ [39] (by decide +kernel) (by decide +kernel)
set_option maxRecDepth 20000 in
theorem gX12_school_X12_lays : GoodIn wsX12_school (va_wsS RX12 62 yX12_lays wsX12_lays) := goodIn_app (goodIn_of _ (by decide +kernel)) ggX12_school_X12_lays
set_option maxRecDepth 20000 in
theorem ggX12_school_X12_here : GoodIn wsX12_school wsX12_here := goodIn_r _ [28, 4, 3, 29, 1, 111, 112, 113, 114, 115, 116, 117, 118, 119, 120, 121, 122, 123, 124, 125, 126, 127, 128, 129, 130] (by decide +kernel) (by decide +kernel)
set_option maxRecDepth 20000 in
theorem gX12_school_X12_here : GoodIn wsX12_school (wsV RX12 120 RX12 yX12_here wsX12_here) := goodIn_app (goodIn_of _ (by decide +kernel)) ggX12_school_X12_here
set_option maxRecDepth 20000 in
theorem ggX12_school_X12_comesTold : GoodIn wsX12_school wsX12_comesTold := goodIn_r _ [43, 36, 5, 44, 45, 46, 10, 47, 48, 49, 50, 51, 18, 19, 20, 52, 53, 54, 55, 56, 57, 58, 59, 60, 61, 62, 63, 64, 65, 66, 67, 68, 69, 70, 71, 72, 73, 74, 75, 76, 77, 78, 79, 80, 81, 82, 83, 84, 85, 86, 87, 88, 89, 90, 91, 92, 93, 94, 95, 96, 97, 98, 99, 100, 101, 102, 103, 104, 105, 106, 107, 108, 109, 110, 111, 112, 113, 114, 115, 116, 117, 118, 119, 120, 121, 122, 123, 124, 125, 126, 127, 128, 129, 130] (by decide +kernel) (by decide +kernel)
set_option maxRecDepth 20000 in
theorem gX12_school_X12_comesTold : GoodIn wsX12_school (wsV RX12 160 RX12 yX12_comesTold wsX12_comesTold) := goodIn_app (goodIn_of _ (by decide +kernel)) ggX12_school_X12_comesTold
theorem dX12_school_0 : decode cX12_school 0 = .ok (.aload_n 0, 1) := by decide +kernel
theorem dX12_school_1 : decode cX12_school 1 = .ok (.iload_n 1, 1) := by decide +kernel
theorem dX12_school_2 : decode cX12_school 2 = .ok (.iconst 0, 1) := by decide +kernel
theorem dX12_school_3 : decode cX12_school 3 = .ok (.invokevirtual 153, 3) := by decide +kernel
theorem dX12_school_6 : decode cX12_school 6 = .ok (.istore_n 2, 1) := by decide +kernel
theorem dX12_school_7 : decode cX12_school 7 = .ok (.iload_n 2, 1) := by decide +kernel
theorem dX12_school_8 : decode cX12_school 8 = .ok (.ifCond .eq 5, 3) := by decide +kernel
theorem dX12_school_11 : decode cX12_school 11 = .ok (.iload_n 2, 1) := by decide +kernel
theorem dX12_school_12 : decode cX12_school 12 = .ok (.ireturn, 1) := by decide +kernel
theorem dX12_school_13 : decode cX12_school 13 = .ok (.aload_n 0, 1) := by decide +kernel
theorem dX12_school_14 : decode cX12_school 14 = .ok (.bipush 100, 2) := by decide +kernel
theorem dX12_school_16 : decode cX12_school 16 = .ok (.iload_n 1, 1) := by decide +kernel
theorem dX12_school_17 : decode cX12_school 17 = .ok (.imul, 1) := by decide +kernel
theorem dX12_school_18 : decode cX12_school 18 = .ok (.putfield 117, 3) := by decide +kernel
theorem dX12_school_21 : decode cX12_school 21 = .ok (.aload_n 0, 1) := by decide +kernel
theorem dX12_school_22 : decode cX12_school 22 = .ok (.aload_n 0, 1) := by decide +kernel
theorem dX12_school_23 : decode cX12_school 23 = .ok (.getfield 28, 3) := by decide +kernel
theorem dX12_school_26 : decode cX12_school 26 = .ok (.iload_n 1, 1) := by decide +kernel
theorem dX12_school_27 : decode cX12_school 27 = .ok (.iaload, 1) := by decide +kernel
theorem dX12_school_28 : decode cX12_school 28 = .ok (.putfield 114, 3) := by decide +kernel
theorem dX12_school_31 : decode cX12_school 31 = .ok (.aload_n 0, 1) := by decide +kernel
theorem dX12_school_32 : decode cX12_school 32 = .ok (.iconst 0, 1) := by decide +kernel
theorem dX12_school_33 : decode cX12_school 33 = .ok (.putfield 111, 3) := by decide +kernel
theorem dX12_school_36 : decode cX12_school 36 = .ok (.iconst 0, 1) := by decide +kernel
theorem dX12_school_37 : decode cX12_school 37 = .ok (.istore_n 3, 1) := by decide +kernel
theorem dX12_school_38 : decode cX12_school 38 = .ok (.aload_n 0, 1) := by decide +kernel
theorem dX12_school_39 : decode cX12_school 39 = .ok (.invokevirtual 156, 3) := by decide +kernel
theorem dX12_school_42 : decode cX12_school 42 = .ok (.ifCond .ne 12, 3) := by decide +kernel
theorem dX12_school_45 : decode cX12_school 45 = .ok (.sipush (-1000), 3) := by decide +kernel
theorem dX12_school_48 : decode cX12_school 48 = .ok (.aload_n 0, 1) := by decide +kernel
theorem dX12_school_49 : decode cX12_school 49 = .ok (.getfield 111, 3) := by decide +kernel
theorem dX12_school_52 : decode cX12_school 52 = .ok (.isub, 1) := by decide +kernel
theorem dX12_school_53 : decode cX12_school 53 = .ok (.ireturn, 1) := by decide +kernel
theorem dX12_school_54 : decode cX12_school 54 = .ok (.iinc 3 1, 3) := by decide +kernel
theorem dX12_school_57 : decode cX12_school 57 = .ok (.aload_n 0, 1) := by decide +kernel
theorem dX12_school_58 : decode cX12_school 58 = .ok (.getfield 111, 3) := by decide +kernel
theorem dX12_school_61 : decode cX12_school 61 = .ok (.aload_n 0, 1) := by decide +kernel
theorem dX12_school_62 : decode cX12_school 62 = .ok (.getfield 114, 3) := by decide +kernel
theorem dX12_school_65 : decode cX12_school 65 = .ok (.if_icmp .lt (-27), 3) := by decide +kernel
theorem dX12_school_68 : decode cX12_school 68 = .ok (.aload_n 0, 1) := by decide +kernel
theorem dX12_school_69 : decode cX12_school 69 = .ok (.getfield 9, 3) := by decide +kernel
theorem dX12_school_72 : decode cX12_school 72 = .ok (.aload_n 0, 1) := by decide +kernel
theorem dX12_school_73 : decode cX12_school 73 = .ok (.getfield 16, 3) := by decide +kernel
theorem dX12_school_76 : decode cX12_school 76 = .ok (.invokestatic 62, 3) := by decide +kernel
theorem dX12_school_79 : decode cX12_school 79 = .ok (.aload_n 0, 1) := by decide +kernel
theorem dX12_school_80 : decode cX12_school 80 = .ok (.iconst 0, 1) := by decide +kernel
theorem dX12_school_81 : decode cX12_school 81 = .ok (.putfield 111, 3) := by decide +kernel
theorem dX12_school_84 : decode cX12_school 84 = .ok (.aload_n 0, 1) := by decide +kernel
theorem dX12_school_85 : decode cX12_school 85 = .ok (.getfield 111, 3) := by decide +kernel
theorem dX12_school_88 : decode cX12_school 88 = .ok (.aload_n 0, 1) := by decide +kernel
theorem dX12_school_89 : decode cX12_school 89 = .ok (.getfield 114, 3) := by decide +kernel
theorem dX12_school_92 : decode cX12_school 92 = .ok (.if_icmp .ge 51, 3) := by decide +kernel
theorem dX12_school_95 : decode cX12_school 95 = .ok (.aload_n 0, 1) := by decide +kernel
theorem dX12_school_96 : decode cX12_school 96 = .ok (.getfield 111, 3) := by decide +kernel
theorem dX12_school_99 : decode cX12_school 99 = .ok (.istore 4, 2) := by decide +kernel
theorem dX12_school_101 : decode cX12_school 101 = .ok (.aload_n 0, 1) := by decide +kernel
theorem dX12_school_102 : decode cX12_school 102 = .ok (.invokevirtual 120, 3) := by decide +kernel
theorem dX12_school_105 : decode cX12_school 105 = .ok (.istore 5, 2) := by decide +kernel
theorem dX12_school_107 : decode cX12_school 107 = .ok (.aload_n 0, 1) := by decide +kernel
theorem dX12_school_108 : decode cX12_school 108 = .ok (.invokevirtual 156, 3) := by decide +kernel
theorem dX12_school_111 : decode cX12_school 111 = .ok (.istore 6, 2) := by decide +kernel
theorem dX12_school_113 : decode cX12_school 113 = .ok (.aload_n 0, 1) := by decide +kernel
theorem dX12_school_114 : decode cX12_school 114 = .ok (.iload 5, 2) := by decide +kernel
theorem dX12_school_116 : decode cX12_school 116 = .ok (.invokevirtual 160, 3) := by decide +kernel
theorem dX12_school_119 : decode cX12_school 119 = .ok (.ifCond .ne 21, 3) := by decide +kernel
theorem dX12_school_122 : decode cX12_school 122 = .ok (.aload_n 0, 1) := by decide +kernel
theorem dX12_school_123 : decode cX12_school 123 = .ok (.getfield 16, 3) := by decide +kernel
theorem dX12_school_126 : decode cX12_school 126 = .ok (.aload_n 0, 1) := by decide +kernel
theorem dX12_school_127 : decode cX12_school 127 = .ok (.getfield 9, 3) := by decide +kernel
theorem dX12_school_130 : decode cX12_school 130 = .ok (.invokestatic 62, 3) := by decide +kernel
theorem dX12_school_133 : decode cX12_school 133 = .ok (.sipush (-2000), 3) := by decide +kernel
theorem dX12_school_136 : decode cX12_school 136 = .ok (.iload 4, 2) := by decide +kernel
theorem dX12_school_138 : decode cX12_school 138 = .ok (.isub, 1) := by decide +kernel
theorem dX12_school_139 : decode cX12_school 139 = .ok (.ireturn, 1) := by decide +kernel
theorem dX12_school_140 : decode cX12_school 140 = .ok (.goto (-56), 3) := by decide +kernel
theorem dX12_school_143 : decode cX12_school 143 = .ok (.iload_n 3, 1) := by decide +kernel
theorem dX12_school_144 : decode cX12_school 144 = .ok (.ireturn, 1) := by decide +kernel
set_option maxRecDepth 20000 in
theorem ggX12_sentence_X12_isSentence : GoodIn wsX12_sentence wsX12_isSentence := goodIn_r _ [5, 6, 7, 8, 4, 9, 21, 22, 23, 24, 25, 26, 27, 28, 29, 30, 31, 32, 33, 34, 35, 36, 37, 38, 39, 40] (by decide +kernel) (by decide +kernel)
set_option maxRecDepth 20000 in
theorem gX12_sentence_X12_isSentence : GoodIn wsX12_sentence (wsV RX12 135 RX12 yX12_isSentence wsX12_isSentence) := goodIn_app (goodIn_of _ (by decide +kernel)) ggX12_sentence_X12_isSentence
set_option maxRecDepth 20000 in
theorem ggX12_sentence_X12_of : GoodIn wsX12_sentence wsX12_of := goodIn_r _ [13, 6, 21, 22, 23, 24, 25, 26, 27, 28, 29, 30, 31, 32, 33, 34, 35, 36, 37, 38, 39, 40] (by decide +kernel) (by decide +kernel)
set_option maxRecDepth 20000 in
theorem gX12_sentence_X12_of : GoodIn wsX12_sentence (wsV RX12 74 RX12 yX12_of wsX12_of) := goodIn_app (goodIn_of _ (by decide +kernel)) ggX12_sentence_X12_of
set_option maxRecDepth 20000 in
theorem ggX12_sentence_X12_isTrue : GoodIn wsX12_sentence wsX12_isTrue := goodIn_r _ [17, 6, 18, 19, 4, 20, 21, 22, 23, 24, 25, 26, 27, 28, 29, 30, 31, 32, 33, 34, 35, 36, 37, 38, 39, 40] (by decide +kernel) (by decide +kernel)
set_option maxRecDepth 20000 in
theorem gX12_sentence_X12_isTrue : GoodIn wsX12_sentence (wsV RX12 77 RX12 yX12_isTrue wsX12_isTrue) := goodIn_app (goodIn_of _ (by decide +kernel)) ggX12_sentence_X12_isTrue
theorem dX12_sentence_0 : decode cX12_sentence 0 = .ok (.aload_n 0, 1) := by decide +kernel
theorem dX12_sentence_1 : decode cX12_sentence 1 = .ok (.iload_n 1, 1) := by decide +kernel
theorem dX12_sentence_2 : decode cX12_sentence 2 = .ok (.invokevirtual 135, 3) := by decide +kernel
theorem dX12_sentence_5 : decode cX12_sentence 5 = .ok (.ifCond .ne 5, 3) := by decide +kernel
theorem dX12_sentence_8 : decode cX12_sentence 8 = .ok (.iconst (-1), 1) := by decide +kernel
theorem dX12_sentence_9 : decode cX12_sentence 9 = .ok (.ireturn, 1) := by decide +kernel
theorem dX12_sentence_10 : decode cX12_sentence 10 = .ok (.iload_n 2, 1) := by decide +kernel
theorem dX12_sentence_11 : decode cX12_sentence 11 = .ok (.tableswitch 64 0 3 #[29, 36, 50, 57], 29) := by decide +kernel
theorem dX12_sentence_40 : decode cX12_sentence 40 = .ok (.aload_n 0, 1) := by decide +kernel
theorem dX12_sentence_41 : decode cX12_sentence 41 = .ok (.iload_n 1, 1) := by decide +kernel
theorem dX12_sentence_42 : decode cX12_sentence 42 = .ok (.iconst 0, 1) := by decide +kernel
theorem dX12_sentence_43 : decode cX12_sentence 43 = .ok (.invokevirtual 74, 3) := by decide +kernel
theorem dX12_sentence_46 : decode cX12_sentence 46 = .ok (.ireturn, 1) := by decide +kernel
theorem dX12_sentence_47 : decode cX12_sentence 47 = .ok (.aload_n 0, 1) := by decide +kernel
theorem dX12_sentence_48 : decode cX12_sentence 48 = .ok (.iload_n 1, 1) := by decide +kernel
theorem dX12_sentence_49 : decode cX12_sentence 49 = .ok (.invokevirtual 77, 3) := by decide +kernel
theorem dX12_sentence_52 : decode cX12_sentence 52 = .ok (.ifCond .eq 7, 3) := by decide +kernel
theorem dX12_sentence_55 : decode cX12_sentence 55 = .ok (.iconst 1, 1) := by decide +kernel
theorem dX12_sentence_56 : decode cX12_sentence 56 = .ok (.goto 4, 3) := by decide +kernel
theorem dX12_sentence_59 : decode cX12_sentence 59 = .ok (.iconst 0, 1) := by decide +kernel
theorem dX12_sentence_60 : decode cX12_sentence 60 = .ok (.ireturn, 1) := by decide +kernel
theorem dX12_sentence_61 : decode cX12_sentence 61 = .ok (.aload_n 0, 1) := by decide +kernel
theorem dX12_sentence_62 : decode cX12_sentence 62 = .ok (.iload_n 1, 1) := by decide +kernel
theorem dX12_sentence_63 : decode cX12_sentence 63 = .ok (.iconst 1, 1) := by decide +kernel
theorem dX12_sentence_64 : decode cX12_sentence 64 = .ok (.invokevirtual 74, 3) := by decide +kernel
theorem dX12_sentence_67 : decode cX12_sentence 67 = .ok (.ireturn, 1) := by decide +kernel
theorem dX12_sentence_68 : decode cX12_sentence 68 = .ok (.aload_n 0, 1) := by decide +kernel
theorem dX12_sentence_69 : decode cX12_sentence 69 = .ok (.iload_n 1, 1) := by decide +kernel
theorem dX12_sentence_70 : decode cX12_sentence 70 = .ok (.iconst 2, 1) := by decide +kernel
theorem dX12_sentence_71 : decode cX12_sentence 71 = .ok (.invokevirtual 74, 3) := by decide +kernel
theorem dX12_sentence_74 : decode cX12_sentence 74 = .ok (.ireturn, 1) := by decide +kernel
theorem dX12_sentence_75 : decode cX12_sentence 75 = .ok (.iconst (-1), 1) := by decide +kernel
theorem dX12_sentence_76 : decode cX12_sentence 76 = .ok (.ireturn, 1) := by decide +kernel
set_option maxRecDepth 20000 in
theorem ggX12_denier_X12_isDenier : GoodIn wsX12_denier wsX12_isDenier := goodIn_r _ [5, 6, 7, 8, 4, 9, 28, 29, 30, 31, 32, 33, 34, 35, 36, 37, 38, 39, 40, 41, 42, 43, 44, 45, 46, 47] (by decide +kernel) (by decide +kernel)
set_option maxRecDepth 20000 in
theorem gX12_denier_X12_isDenier : GoodIn wsX12_denier (wsV RX12 141 RX12 yX12_isDenier wsX12_isDenier) := goodIn_app (goodIn_of _ (by decide +kernel)) ggX12_denier_X12_isDenier
set_option maxRecDepth 20000 in
theorem ggX12_denier_X12_get : GoodIn wsX12_denier wsX12_get := goodIn_r _ [13, 6, 28, 29, 30, 31, 32, 33, 34, 35, 36, 37, 38, 39, 40, 41, 42, 43, 44, 45, 46, 47] (by decide +kernel) (by decide +kernel)
set_option maxRecDepth 20000 in
theorem gX12_denier_X12_get : GoodIn wsX12_denier (wsV RX12 70 RX12 yX12_get wsX12_get) := goodIn_app (goodIn_of _ (by decide +kernel)) ggX12_denier_X12_get
set_option maxRecDepth 20000 in
theorem ggX12_denier_X12_isAlive : GoodIn wsX12_denier wsX12_isAlive := goodIn_r _ [17, 6, 18, 19, 4, 20, 28, 29, 30, 31, 32, 33, 34, 35, 36, 37, 38, 39, 40, 41, 42, 43, 44, 45, 46, 47] (by decide +kernel) (by decide +kernel)
set_option maxRecDepth 20000 in
theorem gX12_denier_X12_isAlive : GoodIn wsX12_denier (wsV RX12 87 RX12 yX12_isAlive wsX12_isAlive) := goodIn_app (goodIn_of _ (by decide +kernel)) ggX12_denier_X12_isAlive
set_option maxRecDepth 20000 in
theorem ggX12_denier_X12_priceOf : GoodIn wsX12_denier wsX12_priceOf := goodIn_r _ [24, 10, 11, 12, 4, 13, 6, 25, 26, 27, 28, 29, 30, 31, 32, 33, 34, 35, 36, 37, 38, 39, 40, 41, 42, 43, 44, 45, 46, 47] (by decide +kernel) (by decide +kernel)
set_option maxRecDepth 20000 in
theorem gX12_denier_X12_priceOf : GoodIn wsX12_denier (wsV RX12 163 RX12 yX12_priceOf wsX12_priceOf) := goodIn_app (goodIn_of _ (by decide +kernel)) ggX12_denier_X12_priceOf
theorem dX12_denier_0 : decode cX12_denier 0 = .ok (.aload_n 0, 1) := by decide +kernel
theorem dX12_denier_1 : decode cX12_denier 1 = .ok (.iload_n 1, 1) := by decide +kernel
theorem dX12_denier_2 : decode cX12_denier 2 = .ok (.invokevirtual 141, 3) := by decide +kernel
theorem dX12_denier_5 : decode cX12_denier 5 = .ok (.ifCond .ne 5, 3) := by decide +kernel
theorem dX12_denier_8 : decode cX12_denier 8 = .ok (.iconst (-1), 1) := by decide +kernel
theorem dX12_denier_9 : decode cX12_denier 9 = .ok (.ireturn, 1) := by decide +kernel
theorem dX12_denier_10 : decode cX12_denier 10 = .ok (.iload_n 2, 1) := by decide +kernel
theorem dX12_denier_11 : decode cX12_denier 11 = .ok (.tableswitch 60 0 4 #[33, 33, 33, 40, 54], 33) := by decide +kernel
theorem dX12_denier_44 : decode cX12_denier 44 = .ok (.aload_n 0, 1) := by decide +kernel
theorem dX12_denier_45 : decode cX12_denier 45 = .ok (.iload_n 1, 1) := by decide +kernel
theorem dX12_denier_46 : decode cX12_denier 46 = .ok (.iload_n 2, 1) := by decide +kernel
theorem dX12_denier_47 : decode cX12_denier 47 = .ok (.invokevirtual 70, 3) := by decide +kernel
theorem dX12_denier_50 : decode cX12_denier 50 = .ok (.ireturn, 1) := by decide +kernel
theorem dX12_denier_51 : decode cX12_denier 51 = .ok (.aload_n 0, 1) := by decide +kernel
theorem dX12_denier_52 : decode cX12_denier 52 = .ok (.iload_n 1, 1) := by decide +kernel
theorem dX12_denier_53 : decode cX12_denier 53 = .ok (.invokevirtual 87, 3) := by decide +kernel
theorem dX12_denier_56 : decode cX12_denier 56 = .ok (.ifCond .eq 7, 3) := by decide +kernel
theorem dX12_denier_59 : decode cX12_denier 59 = .ok (.iconst 1, 1) := by decide +kernel
theorem dX12_denier_60 : decode cX12_denier 60 = .ok (.goto 4, 3) := by decide +kernel
theorem dX12_denier_63 : decode cX12_denier 63 = .ok (.iconst 0, 1) := by decide +kernel
theorem dX12_denier_64 : decode cX12_denier 64 = .ok (.ireturn, 1) := by decide +kernel
theorem dX12_denier_65 : decode cX12_denier 65 = .ok (.aload_n 0, 1) := by decide +kernel
theorem dX12_denier_66 : decode cX12_denier 66 = .ok (.iload_n 1, 1) := by decide +kernel
theorem dX12_denier_67 : decode cX12_denier 67 = .ok (.invokevirtual 163, 3) := by decide +kernel
theorem dX12_denier_70 : decode cX12_denier 70 = .ok (.ireturn, 1) := by decide +kernel
theorem dX12_denier_71 : decode cX12_denier 71 = .ok (.iconst (-1), 1) := by decide +kernel
theorem dX12_denier_72 : decode cX12_denier 72 = .ok (.ireturn, 1) := by decide +kernel
set_option maxRecDepth 20000 in
theorem ggX12_wrongKept_X12_isShelf : GoodIn wsX12_wrongKept wsX12_isShelf := goodIn_r _ [5, 6, 7, 8, 4, 9] (by decide +kernel) (by decide +kernel)
set_option maxRecDepth 20000 in
theorem gX12_wrongKept_X12_isShelf : GoodIn wsX12_wrongKept (va_wsS RX12 150 yX12_isShelf wsX12_isShelf) := goodIn_app (goodIn_of _ (by decide +kernel)) ggX12_wrongKept_X12_isShelf
theorem dX12_wrongKept_0 : decode cX12_wrongKept 0 = .ok (.iload_n 1, 1) := by decide +kernel
theorem dX12_wrongKept_1 : decode cX12_wrongKept 1 = .ok (.invokestatic 150, 3) := by decide +kernel
theorem dX12_wrongKept_4 : decode cX12_wrongKept 4 = .ok (.ifCond .ne 7, 3) := by decide +kernel
theorem dX12_wrongKept_7 : decode cX12_wrongKept 7 = .ok (.iconst (-1), 1) := by decide +kernel
theorem dX12_wrongKept_8 : decode cX12_wrongKept 8 = .ok (.goto 33, 3) := by decide +kernel
theorem dX12_wrongKept_11 : decode cX12_wrongKept 11 = .ok (.aload_n 0, 1) := by decide +kernel
theorem dX12_wrongKept_12 : decode cX12_wrongKept 12 = .ok (.getfield 22, 3) := by decide +kernel
theorem dX12_wrongKept_15 : decode cX12_wrongKept 15 = .ok (.iload_n 1, 1) := by decide +kernel
theorem dX12_wrongKept_16 : decode cX12_wrongKept 16 = .ok (.iaload, 1) := by decide +kernel
theorem dX12_wrongKept_17 : decode cX12_wrongKept 17 = .ok (.ifCond .ne 8, 3) := by decide +kernel
theorem dX12_wrongKept_20 : decode cX12_wrongKept 20 = .ok (.bipush (-11), 2) := by decide +kernel
theorem dX12_wrongKept_22 : decode cX12_wrongKept 22 = .ok (.goto 19, 3) := by decide +kernel
theorem dX12_wrongKept_25 : decode cX12_wrongKept 25 = .ok (.aload_n 0, 1) := by decide +kernel
theorem dX12_wrongKept_26 : decode cX12_wrongKept 26 = .ok (.getfield 22, 3) := by decide +kernel
theorem dX12_wrongKept_29 : decode cX12_wrongKept 29 = .ok (.iload_n 1, 1) := by decide +kernel
theorem dX12_wrongKept_30 : decode cX12_wrongKept 30 = .ok (.iaload, 1) := by decide +kernel
theorem dX12_wrongKept_31 : decode cX12_wrongKept 31 = .ok (.iconst 1, 1) := by decide +kernel
theorem dX12_wrongKept_32 : decode cX12_wrongKept 32 = .ok (.if_icmp .ne 7, 3) := by decide +kernel
theorem dX12_wrongKept_35 : decode cX12_wrongKept 35 = .ok (.iconst 0, 1) := by decide +kernel
theorem dX12_wrongKept_36 : decode cX12_wrongKept 36 = .ok (.goto 5, 3) := by decide +kernel
theorem dX12_wrongKept_39 : decode cX12_wrongKept 39 = .ok (.bipush (-12), 2) := by decide +kernel
theorem dX12_wrongKept_41 : decode cX12_wrongKept 41 = .ok (.ireturn, 1) := by decide +kernel
set_option maxRecDepth 20000 in
theorem ggX12_comes_X12_wrongKept : GoodIn wsX12_comes wsX12_wrongKept := goodIn_r _ [8, 9, 10, 11, 7, 12, 13, 14, 15, 16, 29, 30, 31, 32, 33, 34, 35, 36, 37, 38, 39, 40, 41, 42, 43, 44, 45, 46, 47, 48] (by decide +kernel) (by decide +kernel)
set_option maxRecDepth 20000 in
theorem gX12_comes_X12_wrongKept : GoodIn wsX12_comes (wsV RX12 166 RX12 yX12_wrongKept wsX12_wrongKept) := goodIn_app (goodIn_of _ (by decide +kernel)) ggX12_comes_X12_wrongKept
set_option maxRecDepth 20000 in
theorem ggX12_comes_X12_adds : GoodIn wsX12_comes wsX12_adds := goodIn_r _ [20, 3, 21, 22, 23, 7, 24, 25, 26, 27, 28, 29, 30, 31, 32, 33, 34, 35, 36, 37, 38, 39, 40, 41, 42, 43, 44, 45, 46, 47, 48] (by decide +kernel) (by decide +kernel)
set_option maxRecDepth 20000 in
theorem gX12_comes_X12_adds : GoodIn wsX12_comes (wsV RX12 138 RX12 yX12_adds wsX12_adds) := goodIn_app (goodIn_of _ (by decide +kernel)) ggX12_comes_X12_adds
theorem dX12_comes_0 : decode cX12_comes 0 = .ok (.aload_n 0, 1) := by decide +kernel
theorem dX12_comes_1 : decode cX12_comes 1 = .ok (.iload_n 1, 1) := by decide +kernel
theorem dX12_comes_2 : decode cX12_comes 2 = .ok (.invokevirtual 166, 3) := by decide +kernel
theorem dX12_comes_5 : decode cX12_comes 5 = .ok (.istore_n 2, 1) := by decide +kernel
theorem dX12_comes_6 : decode cX12_comes 6 = .ok (.iload_n 2, 1) := by decide +kernel
theorem dX12_comes_7 : decode cX12_comes 7 = .ok (.ifCond .eq 5, 3) := by decide +kernel
theorem dX12_comes_10 : decode cX12_comes 10 = .ok (.iload_n 2, 1) := by decide +kernel
theorem dX12_comes_11 : decode cX12_comes 11 = .ok (.ireturn, 1) := by decide +kernel
theorem dX12_comes_12 : decode cX12_comes 12 = .ok (.aload_n 0, 1) := by decide +kernel
theorem dX12_comes_13 : decode cX12_comes 13 = .ok (.aload_n 0, 1) := by decide +kernel
theorem dX12_comes_14 : decode cX12_comes 14 = .ok (.getfield 34, 3) := by decide +kernel
theorem dX12_comes_17 : decode cX12_comes 17 = .ok (.iload_n 1, 1) := by decide +kernel
theorem dX12_comes_18 : decode cX12_comes 18 = .ok (.iaload, 1) := by decide +kernel
theorem dX12_comes_19 : decode cX12_comes 19 = .ok (.aload_n 0, 1) := by decide +kernel
theorem dX12_comes_20 : decode cX12_comes 20 = .ok (.getfield 37, 3) := by decide +kernel
theorem dX12_comes_23 : decode cX12_comes 23 = .ok (.iload_n 1, 1) := by decide +kernel
theorem dX12_comes_24 : decode cX12_comes 24 = .ok (.iaload, 1) := by decide +kernel
theorem dX12_comes_25 : decode cX12_comes 25 = .ok (.invokevirtual 138, 3) := by decide +kernel
theorem dX12_comes_28 : decode cX12_comes 28 = .ok (.ifCond .eq 14, 3) := by decide +kernel
theorem dX12_comes_31 : decode cX12_comes 31 = .ok (.aload_n 0, 1) := by decide +kernel
theorem dX12_comes_32 : decode cX12_comes 32 = .ok (.getfield 9, 3) := by decide +kernel
theorem dX12_comes_35 : decode cX12_comes 35 = .ok (.iconst 1, 1) := by decide +kernel
theorem dX12_comes_36 : decode cX12_comes 36 = .ok (.iaload, 1) := by decide +kernel
theorem dX12_comes_37 : decode cX12_comes 37 = .ok (.iconst 1, 1) := by decide +kernel
theorem dX12_comes_38 : decode cX12_comes 38 = .ok (.isub, 1) := by decide +kernel
theorem dX12_comes_39 : decode cX12_comes 39 = .ok (.goto 5, 3) := by decide +kernel
theorem dX12_comes_42 : decode cX12_comes 42 = .ok (.bipush (-2), 2) := by decide +kernel
theorem dX12_comes_44 : decode cX12_comes 44 = .ok (.ireturn, 1) := by decide +kernel
set_option maxRecDepth 20000 in
theorem ggX12_learns_X12_isDenier : GoodIn wsX12_learns wsX12_isDenier := goodIn_r _ [5, 6, 7, 8, 4, 9, 29, 30, 31, 32, 33, 34, 35, 36, 37, 38, 39, 40, 41, 42, 43, 44, 45, 46, 47, 48] (by decide +kernel) (by decide +kernel)
set_option maxRecDepth 20000 in
theorem gX12_learns_X12_isDenier : GoodIn wsX12_learns (wsV RX12 141 RX12 yX12_isDenier wsX12_isDenier) := goodIn_app (goodIn_of _ (by decide +kernel)) ggX12_learns_X12_isDenier
set_option maxRecDepth 20000 in
theorem ggX12_learns_X12_isSentence : GoodIn wsX12_learns wsX12_isSentence := goodIn_r _ [13, 6, 7, 8, 4, 9, 29, 30, 31, 32, 33, 34, 35, 36, 37, 38, 39, 40, 41, 42, 43, 44, 45, 46, 47, 48] (by decide +kernel) (by decide +kernel)
set_option maxRecDepth 20000 in
theorem gX12_learns_X12_isSentence : GoodIn wsX12_learns (wsV RX12 135 RX12 yX12_isSentence wsX12_isSentence) := goodIn_app (goodIn_of _ (by decide +kernel)) ggX12_learns_X12_isSentence
set_option maxRecDepth 20000 in
theorem ggX12_learns_X12_knows : GoodIn wsX12_learns wsX12_knows := goodIn_r _ [17, 18, 19, 20, 4, 21, 6, 22, 23, 24, 29, 30, 31, 32, 33, 34, 35, 36, 37, 38, 39, 40, 41, 42, 43, 44, 45, 46, 47, 48] (by decide +kernel) (by decide +kernel)
set_option maxRecDepth 20000 in
theorem gX12_learns_X12_knows : GoodIn wsX12_learns (wsV RX12 81 RX12 yX12_knows wsX12_knows) := goodIn_app (goodIn_of _ (by decide +kernel)) ggX12_learns_X12_knows
set_option maxRecDepth 20000 in
theorem ggX12_learns_X12_get : GoodIn wsX12_learns wsX12_get := goodIn_r _ [21, 6, 29, 30, 31, 32, 33, 34, 35, 36, 37, 38, 39, 40, 41, 42, 43, 44, 45, 46, 47, 48] (by decide +kernel) (by decide +kernel)
set_option maxRecDepth 20000 in
theorem gX12_learns_X12_get : GoodIn wsX12_learns (wsV RX12 70 RX12 yX12_get wsX12_get) := goodIn_app (goodIn_of _ (by decide +kernel)) ggX12_learns_X12_get
set_option maxRecDepth 20000 in
theorem ggX12_learns_X12_puts : GoodIn wsX12_learns wsX12_puts := goodIn_r _ [28, 6, 29, 30, 31, 32, 33, 34, 35, 36, 37, 38, 39, 40, 41, 42, 43, 44, 45, 46, 47, 48] (by decide +kernel) (by decide +kernel)
set_option maxRecDepth 20000 in
theorem gX12_learns_X12_puts : GoodIn wsX12_learns (wsV RX12 108 RX12 yX12_puts wsX12_puts) := goodIn_app (goodIn_of _ (by decide +kernel)) ggX12_learns_X12_puts
theorem dX12_learns_0 : decode cX12_learns 0 = .ok (.aload_n 0, 1) := by decide +kernel
theorem dX12_learns_1 : decode cX12_learns 1 = .ok (.iload_n 1, 1) := by decide +kernel
theorem dX12_learns_2 : decode cX12_learns 2 = .ok (.invokevirtual 141, 3) := by decide +kernel
theorem dX12_learns_5 : decode cX12_learns 5 = .ok (.ifCond .eq 11, 3) := by decide +kernel
theorem dX12_learns_8 : decode cX12_learns 8 = .ok (.aload_n 0, 1) := by decide +kernel
theorem dX12_learns_9 : decode cX12_learns 9 = .ok (.iload_n 2, 1) := by decide +kernel
theorem dX12_learns_10 : decode cX12_learns 10 = .ok (.invokevirtual 135, 3) := by decide +kernel
theorem dX12_learns_13 : decode cX12_learns 13 = .ok (.ifCond .ne 5, 3) := by decide +kernel
theorem dX12_learns_16 : decode cX12_learns 16 = .ok (.iconst (-1), 1) := by decide +kernel
theorem dX12_learns_17 : decode cX12_learns 17 = .ok (.ireturn, 1) := by decide +kernel
theorem dX12_learns_18 : decode cX12_learns 18 = .ok (.aload_n 0, 1) := by decide +kernel
theorem dX12_learns_19 : decode cX12_learns 19 = .ok (.iload_n 1, 1) := by decide +kernel
theorem dX12_learns_20 : decode cX12_learns 20 = .ok (.iload_n 2, 1) := by decide +kernel
theorem dX12_learns_21 : decode cX12_learns 21 = .ok (.invokevirtual 81, 3) := by decide +kernel
theorem dX12_learns_24 : decode cX12_learns 24 = .ok (.istore_n 3, 1) := by decide +kernel
theorem dX12_learns_25 : decode cX12_learns 25 = .ok (.aload_n 0, 1) := by decide +kernel
theorem dX12_learns_26 : decode cX12_learns 26 = .ok (.iload_n 1, 1) := by decide +kernel
theorem dX12_learns_27 : decode cX12_learns 27 = .ok (.iconst 2, 1) := by decide +kernel
theorem dX12_learns_28 : decode cX12_learns 28 = .ok (.aload_n 0, 1) := by decide +kernel
theorem dX12_learns_29 : decode cX12_learns 29 = .ok (.iload_n 1, 1) := by decide +kernel
theorem dX12_learns_30 : decode cX12_learns 30 = .ok (.iconst 2, 1) := by decide +kernel
theorem dX12_learns_31 : decode cX12_learns 31 = .ok (.invokevirtual 70, 3) := by decide +kernel
theorem dX12_learns_34 : decode cX12_learns 34 = .ok (.iconst 1, 1) := by decide +kernel
theorem dX12_learns_35 : decode cX12_learns 35 = .ok (.iload_n 2, 1) := by decide +kernel
theorem dX12_learns_36 : decode cX12_learns 36 = .ok (.ishl, 1) := by decide +kernel
theorem dX12_learns_37 : decode cX12_learns 37 = .ok (.ior, 1) := by decide +kernel
theorem dX12_learns_38 : decode cX12_learns 38 = .ok (.invokevirtual 108, 3) := by decide +kernel
theorem dX12_learns_41 : decode cX12_learns 41 = .ok (.iload_n 3, 1) := by decide +kernel
theorem dX12_learns_42 : decode cX12_learns 42 = .ok (.ifCond .eq 7, 3) := by decide +kernel
theorem dX12_learns_45 : decode cX12_learns 45 = .ok (.iconst 0, 1) := by decide +kernel
theorem dX12_learns_46 : decode cX12_learns 46 = .ok (.goto 4, 3) := by decide +kernel
theorem dX12_learns_49 : decode cX12_learns 49 = .ok (.iconst 1, 1) := by decide +kernel
theorem dX12_learns_50 : decode cX12_learns 50 = .ok (.ireturn, 1) := by decide +kernel
set_option maxRecDepth 20000 in
theorem ggX12_deny_X12_isDenier : GoodIn wsX12_deny wsX12_isDenier := goodIn_r _ [5, 6, 7, 8, 4, 9, 65, 66, 67, 68, 69, 70, 71, 72, 73, 74, 75, 76, 77, 78, 79, 80, 81, 82, 83, 84] (by decide +kernel) (by decide +kernel)
set_option maxRecDepth 20000 in
theorem gX12_deny_X12_isDenier : GoodIn wsX12_deny (wsV RX12 141 RX12 yX12_isDenier wsX12_isDenier) := goodIn_app (goodIn_of _ (by decide +kernel)) ggX12_deny_X12_isDenier
set_option maxRecDepth 20000 in
theorem ggX12_deny_X12_isSentence : GoodIn wsX12_deny wsX12_isSentence := goodIn_r _ [13, 6, 7, 8, 4, 9, 65, 66, 67, 68, 69, 70, 71, 72, 73, 74, 75, 76, 77, 78, 79, 80, 81, 82, 83, 84] (by decide +kernel) (by decide +kernel)
set_option maxRecDepth 20000 in
theorem gX12_deny_X12_isSentence : GoodIn wsX12_deny (wsV RX12 135 RX12 yX12_isSentence wsX12_isSentence) := goodIn_app (goodIn_of _ (by decide +kernel)) ggX12_deny_X12_isSentence
set_option maxRecDepth 20000 in
theorem ggX12_deny_X12_mayNow : GoodIn wsX12_deny wsX12_mayNow := goodIn_r _ [17, 18, 19, 20, 4, 21, 6, 22, 23, 24, 25, 26, 27, 28, 29, 30, 31, 32, 33, 34, 35, 36, 37, 38, 39, 40, 41, 42, 43, 44, 45, 46, 47, 48, 65, 66, 67, 68, 69, 70, 71, 72, 73, 74, 75, 76, 77, 78, 79, 80, 81, 82, 83, 84] (by decide +kernel) (by decide +kernel)
set_option maxRecDepth 20000 in
theorem gX12_deny_X12_mayNow : GoodIn wsX12_deny (wsV RX12 144 RX12 yX12_mayNow wsX12_mayNow) := goodIn_app (goodIn_of _ (by decide +kernel)) ggX12_deny_X12_mayNow
set_option maxRecDepth 20000 in
theorem ggX12_deny_X12_denies : GoodIn wsX12_deny wsX12_denies := goodIn_r _ [52, 6, 53, 54, 55, 4, 56, 29, 30, 31, 32, 41, 42, 43, 44, 45, 46, 47, 48, 57, 58, 59, 60, 61, 62, 63, 64, 65, 66, 67, 68, 69, 70, 71, 72, 73, 74, 75, 76, 77, 78, 79, 80, 81, 82, 83, 84] (by decide +kernel) (by decide +kernel)
set_option maxRecDepth 20000 in
theorem gX12_deny_X12_denies : GoodIn wsX12_deny (wsV RX12 147 RX12 yX12_denies wsX12_denies) := goodIn_app (goodIn_of _ (by decide +kernel)) ggX12_deny_X12_denies
theorem dX12_deny_0 : decode cX12_deny 0 = .ok (.aload_n 0, 1) := by decide +kernel
theorem dX12_deny_1 : decode cX12_deny 1 = .ok (.iload_n 1, 1) := by decide +kernel
theorem dX12_deny_2 : decode cX12_deny 2 = .ok (.invokevirtual 141, 3) := by decide +kernel
theorem dX12_deny_5 : decode cX12_deny 5 = .ok (.ifCond .eq 11, 3) := by decide +kernel
theorem dX12_deny_8 : decode cX12_deny 8 = .ok (.aload_n 0, 1) := by decide +kernel
theorem dX12_deny_9 : decode cX12_deny 9 = .ok (.iload_n 2, 1) := by decide +kernel
theorem dX12_deny_10 : decode cX12_deny 10 = .ok (.invokevirtual 135, 3) := by decide +kernel
theorem dX12_deny_13 : decode cX12_deny 13 = .ok (.ifCond .ne 7, 3) := by decide +kernel
theorem dX12_deny_16 : decode cX12_deny 16 = .ok (.iconst (-1), 1) := by decide +kernel
theorem dX12_deny_17 : decode cX12_deny 17 = .ok (.goto 31, 3) := by decide +kernel
theorem dX12_deny_20 : decode cX12_deny 20 = .ok (.aload_n 0, 1) := by decide +kernel
theorem dX12_deny_21 : decode cX12_deny 21 = .ok (.iload_n 1, 1) := by decide +kernel
theorem dX12_deny_22 : decode cX12_deny 22 = .ok (.iload_n 2, 1) := by decide +kernel
theorem dX12_deny_23 : decode cX12_deny 23 = .ok (.invokevirtual 144, 3) := by decide +kernel
theorem dX12_deny_26 : decode cX12_deny 26 = .ok (.ifCond .ne 8, 3) := by decide +kernel
theorem dX12_deny_29 : decode cX12_deny 29 = .ok (.bipush (-3), 2) := by decide +kernel
theorem dX12_deny_31 : decode cX12_deny 31 = .ok (.goto 17, 3) := by decide +kernel
theorem dX12_deny_34 : decode cX12_deny 34 = .ok (.aload_n 0, 1) := by decide +kernel
theorem dX12_deny_35 : decode cX12_deny 35 = .ok (.iload_n 1, 1) := by decide +kernel
theorem dX12_deny_36 : decode cX12_deny 36 = .ok (.iload_n 2, 1) := by decide +kernel
theorem dX12_deny_37 : decode cX12_deny 37 = .ok (.invokevirtual 147, 3) := by decide +kernel
theorem dX12_deny_40 : decode cX12_deny 40 = .ok (.ifCond .eq 7, 3) := by decide +kernel
theorem dX12_deny_43 : decode cX12_deny 43 = .ok (.iconst 1, 1) := by decide +kernel
theorem dX12_deny_44 : decode cX12_deny 44 = .ok (.goto 4, 3) := by decide +kernel
theorem dX12_deny_47 : decode cX12_deny 47 = .ok (.iconst 0, 1) := by decide +kernel
theorem dX12_deny_48 : decode cX12_deny 48 = .ok (.ireturn, 1) := by decide +kernel
set_option maxRecDepth 20000 in
theorem ggX12_die_X12_isDenier : GoodIn wsX12_die wsX12_isDenier := goodIn_r _ [6, 1, 7, 8, 5, 9, 40, 41, 42, 43, 44, 45, 46, 47, 48, 49, 50, 51, 52, 53, 54, 55, 56, 57, 58, 59] (by decide +kernel) (by decide +kernel)
set_option maxRecDepth 20000 in
theorem gX12_die_X12_isDenier : GoodIn wsX12_die (wsV RX12 141 RX12 yX12_isDenier wsX12_isDenier) := goodIn_app (goodIn_of _ (by decide +kernel)) ggX12_die_X12_isDenier
set_option maxRecDepth 20000 in
theorem ggX12_die_X12_isAlive : GoodIn wsX12_die wsX12_isAlive := goodIn_r _ [13, 1, 14, 15, 5, 16, 40, 41, 42, 43, 44, 45, 46, 47, 48, 49, 50, 51, 52, 53, 54, 55, 56, 57, 58, 59] (by decide +kernel) (by decide +kernel)
set_option maxRecDepth 20000 in
theorem gX12_die_X12_isAlive : GoodIn wsX12_die (wsV RX12 87 RX12 yX12_isAlive wsX12_isAlive) := goodIn_app (goodIn_of _ (by decide +kernel)) ggX12_die_X12_isAlive
set_option maxRecDepth 20000 in
theorem ggX12_die_X12_fallsBy : GoodIn wsX12_die wsX12_fallsBy := goodIn_r _ [20, 1, 21, 22, 23, 5, 24, 14, 15, 16, 25, 26, 27, 28, 10, 11, 12, 13, 40, 41, 42, 43, 44, 45, 46, 47, 48, 49, 50, 51, 52, 53, 54, 55, 56, 57, 58, 59] (by decide +kernel) (by decide +kernel)
set_option maxRecDepth 20000 in
theorem gX12_die_X12_fallsBy : GoodIn wsX12_die (wsV RX12 169 RX12 yX12_fallsBy wsX12_fallsBy) := goodIn_app (goodIn_of _ (by decide +kernel)) ggX12_die_X12_fallsBy
set_option maxRecDepth 20000 in
theorem ggX12_die_X12_fallAll : GoodIn wsX12_die wsX12_fallAll := goodIn_r _ [32, 1, 14, 15, 5, 16, 33, 34, 35, 36, 40, 41, 42, 43, 44, 45, 46, 47, 48, 49, 50, 51, 52, 53, 54, 55, 56, 57, 58, 59] (by decide +kernel) (by decide +kernel)
set_option maxRecDepth 20000 in
theorem gX12_die_X12_fallAll : GoodIn wsX12_die (wsV RX12 172 RX12 yX12_fallAll wsX12_fallAll) := goodIn_app (goodIn_of _ (by decide +kernel)) ggX12_die_X12_fallAll
set_option maxRecDepth 20000 in
theorem ggX12_die_X12_bits : GoodIn wsX12_die wsX12_bits := goodIn_r _ [39] (by decide +kernel) (by decide +kernel)
set_option maxRecDepth 20000 in
theorem gX12_die_X12_bits : GoodIn wsX12_die (va_wsS RX12 93 yX12_bits wsX12_bits) := goodIn_app (goodIn_of _ (by decide +kernel)) ggX12_die_X12_bits
theorem dX12_die_0 : decode cX12_die 0 = .ok (.aload_n 0, 1) := by decide +kernel
theorem dX12_die_1 : decode cX12_die 1 = .ok (.iload_n 1, 1) := by decide +kernel
theorem dX12_die_2 : decode cX12_die 2 = .ok (.invokevirtual 141, 3) := by decide +kernel
theorem dX12_die_5 : decode cX12_die 5 = .ok (.ifCond .ne 5, 3) := by decide +kernel
theorem dX12_die_8 : decode cX12_die 8 = .ok (.iconst (-1), 1) := by decide +kernel
theorem dX12_die_9 : decode cX12_die 9 = .ok (.ireturn, 1) := by decide +kernel
theorem dX12_die_10 : decode cX12_die 10 = .ok (.aload_n 0, 1) := by decide +kernel
theorem dX12_die_11 : decode cX12_die 11 = .ok (.iload_n 1, 1) := by decide +kernel
theorem dX12_die_12 : decode cX12_die 12 = .ok (.invokevirtual 87, 3) := by decide +kernel
theorem dX12_die_15 : decode cX12_die 15 = .ok (.ifCond .ne 6, 3) := by decide +kernel
theorem dX12_die_18 : decode cX12_die 18 = .ok (.bipush (-3), 2) := by decide +kernel
theorem dX12_die_20 : decode cX12_die 20 = .ok (.ireturn, 1) := by decide +kernel
theorem dX12_die_21 : decode cX12_die 21 = .ok (.aload_n 0, 1) := by decide +kernel
theorem dX12_die_22 : decode cX12_die 22 = .ok (.iload_n 1, 1) := by decide +kernel
theorem dX12_die_23 : decode cX12_die 23 = .ok (.invokevirtual 169, 3) := by decide +kernel
theorem dX12_die_26 : decode cX12_die 26 = .ok (.istore_n 2, 1) := by decide +kernel
theorem dX12_die_27 : decode cX12_die 27 = .ok (.aload_n 0, 1) := by decide +kernel
theorem dX12_die_28 : decode cX12_die 28 = .ok (.getfield 9, 3) := by decide +kernel
theorem dX12_die_31 : decode cX12_die 31 = .ok (.iconst 4, 1) := by decide +kernel
theorem dX12_die_32 : decode cX12_die 32 = .ok (.dup2, 1) := by decide +kernel
theorem dX12_die_33 : decode cX12_die 33 = .ok (.iaload, 1) := by decide +kernel
theorem dX12_die_34 : decode cX12_die 34 = .ok (.iconst 1, 1) := by decide +kernel
theorem dX12_die_35 : decode cX12_die 35 = .ok (.iload_n 1, 1) := by decide +kernel
theorem dX12_die_36 : decode cX12_die 36 = .ok (.ishl, 1) := by decide +kernel
theorem dX12_die_37 : decode cX12_die 37 = .ok (.iconst (-1), 1) := by decide +kernel
theorem dX12_die_38 : decode cX12_die 38 = .ok (.ixor, 1) := by decide +kernel
theorem dX12_die_39 : decode cX12_die 39 = .ok (.iand, 1) := by decide +kernel
theorem dX12_die_40 : decode cX12_die 40 = .ok (.iastore, 1) := by decide +kernel
theorem dX12_die_41 : decode cX12_die 41 = .ok (.aload_n 0, 1) := by decide +kernel
theorem dX12_die_42 : decode cX12_die 42 = .ok (.iload_n 2, 1) := by decide +kernel
theorem dX12_die_43 : decode cX12_die 43 = .ok (.invokevirtual 172, 3) := by decide +kernel
theorem dX12_die_46 : decode cX12_die 46 = .ok (.iload_n 2, 1) := by decide +kernel
theorem dX12_die_47 : decode cX12_die 47 = .ok (.invokestatic 93, 3) := by decide +kernel
theorem dX12_die_50 : decode cX12_die 50 = .ok (.ireturn, 1) := by decide +kernel
set_option maxRecDepth 20000 in
theorem ggX12_may_X12_isDenier : GoodIn wsX12_may wsX12_isDenier := goodIn_r _ [6, 1, 7, 8, 5, 9, 45, 46, 47, 48, 49, 50, 51, 52, 53, 54, 55, 56, 57, 58, 59, 60, 61, 62, 63, 64] (by decide +kernel) (by decide +kernel)
set_option maxRecDepth 20000 in
theorem gX12_may_X12_isDenier : GoodIn wsX12_may (wsV RX12 141 RX12 yX12_isDenier wsX12_isDenier) := goodIn_app (goodIn_of _ (by decide +kernel)) ggX12_may_X12_isDenier
set_option maxRecDepth 20000 in
theorem ggX12_may_X12_mayNow : GoodIn wsX12_may wsX12_mayNow := goodIn_r _ [13, 14, 15, 16, 5, 17, 1, 18, 19, 20, 21, 22, 23, 24, 25, 26, 27, 28, 29, 30, 31, 32, 33, 34, 35, 36, 37, 38, 39, 40, 41, 42, 43, 44, 45, 46, 47, 48, 49, 50, 51, 52, 53, 54, 55, 56, 57, 58, 59, 60, 61, 62, 63, 64] (by decide +kernel) (by decide +kernel)
set_option maxRecDepth 20000 in
theorem gX12_may_X12_mayNow : GoodIn wsX12_may (wsV RX12 144 RX12 yX12_mayNow wsX12_mayNow) := goodIn_app (goodIn_of _ (by decide +kernel)) ggX12_may_X12_mayNow
theorem dX12_may_0 : decode cX12_may 0 = .ok (.aload_n 0, 1) := by decide +kernel
theorem dX12_may_1 : decode cX12_may 1 = .ok (.iload_n 1, 1) := by decide +kernel
theorem dX12_may_2 : decode cX12_may 2 = .ok (.invokevirtual 141, 3) := by decide +kernel
theorem dX12_may_5 : decode cX12_may 5 = .ok (.ifCond .ne 5, 3) := by decide +kernel
theorem dX12_may_8 : decode cX12_may 8 = .ok (.iconst (-1), 1) := by decide +kernel
theorem dX12_may_9 : decode cX12_may 9 = .ok (.ireturn, 1) := by decide +kernel
theorem dX12_may_10 : decode cX12_may 10 = .ok (.iconst 0, 1) := by decide +kernel
theorem dX12_may_11 : decode cX12_may 11 = .ok (.istore_n 2, 1) := by decide +kernel
theorem dX12_may_12 : decode cX12_may 12 = .ok (.iconst 0, 1) := by decide +kernel
theorem dX12_may_13 : decode cX12_may 13 = .ok (.istore_n 3, 1) := by decide +kernel
theorem dX12_may_14 : decode cX12_may 14 = .ok (.iload_n 3, 1) := by decide +kernel
theorem dX12_may_15 : decode cX12_may 15 = .ok (.aload_n 0, 1) := by decide +kernel
theorem dX12_may_16 : decode cX12_may 16 = .ok (.getfield 9, 3) := by decide +kernel
theorem dX12_may_19 : decode cX12_may 19 = .ok (.iconst 0, 1) := by decide +kernel
theorem dX12_may_20 : decode cX12_may 20 = .ok (.iaload, 1) := by decide +kernel
theorem dX12_may_21 : decode cX12_may 21 = .ok (.if_icmp .ge 28, 3) := by decide +kernel
theorem dX12_may_24 : decode cX12_may 24 = .ok (.iload_n 2, 1) := by decide +kernel
theorem dX12_may_25 : decode cX12_may 25 = .ok (.aload_n 0, 1) := by decide +kernel
theorem dX12_may_26 : decode cX12_may 26 = .ok (.iload_n 1, 1) := by decide +kernel
theorem dX12_may_27 : decode cX12_may 27 = .ok (.iload_n 3, 1) := by decide +kernel
theorem dX12_may_28 : decode cX12_may 28 = .ok (.invokevirtual 144, 3) := by decide +kernel
theorem dX12_may_31 : decode cX12_may 31 = .ok (.ifCond .eq 9, 3) := by decide +kernel
theorem dX12_may_34 : decode cX12_may 34 = .ok (.iconst 1, 1) := by decide +kernel
theorem dX12_may_35 : decode cX12_may 35 = .ok (.iload_n 3, 1) := by decide +kernel
theorem dX12_may_36 : decode cX12_may 36 = .ok (.ishl, 1) := by decide +kernel
theorem dX12_may_37 : decode cX12_may 37 = .ok (.goto 4, 3) := by decide +kernel
theorem dX12_may_40 : decode cX12_may 40 = .ok (.iconst 0, 1) := by decide +kernel
theorem dX12_may_41 : decode cX12_may 41 = .ok (.ior, 1) := by decide +kernel
theorem dX12_may_42 : decode cX12_may 42 = .ok (.istore_n 2, 1) := by decide +kernel
theorem dX12_may_43 : decode cX12_may 43 = .ok (.iinc 3 1, 3) := by decide +kernel
theorem dX12_may_46 : decode cX12_may 46 = .ok (.goto (-32), 3) := by decide +kernel
theorem dX12_may_49 : decode cX12_may 49 = .ok (.iload_n 2, 1) := by decide +kernel
theorem dX12_may_50 : decode cX12_may 50 = .ok (.ireturn, 1) := by decide +kernel
set_option maxRecDepth 20000 in
theorem ggX12_silencesOf_X12_isTrue : GoodIn wsX12_silencesOf wsX12_isTrue := goodIn_r _ [6, 1, 7, 8, 5, 9, 42, 43, 44, 45, 46, 47, 48, 49, 50, 51, 52, 53, 54, 55, 56, 57, 58, 59, 60, 61] (by decide +kernel) (by decide +kernel)
set_option maxRecDepth 20000 in
theorem gX12_silencesOf_X12_isTrue : GoodIn wsX12_silencesOf (wsV RX12 77 RX12 yX12_isTrue wsX12_isTrue) := goodIn_app (goodIn_of _ (by decide +kernel)) ggX12_silencesOf_X12_isTrue
set_option maxRecDepth 20000 in
theorem ggX12_silencesOf_X12_mayNow : GoodIn wsX12_silencesOf wsX12_mayNow := goodIn_r _ [13, 14, 15, 16, 5, 17, 1, 7, 8, 9, 18, 19, 20, 21, 22, 23, 24, 25, 2, 3, 4, 6, 26, 27, 28, 29, 30, 31, 32, 33, 34, 35, 36, 37, 42, 43, 44, 45, 46, 47, 48, 49, 50, 51, 52, 53, 54, 55, 56, 57, 58, 59, 60, 61] (by decide +kernel) (by decide +kernel)
set_option maxRecDepth 20000 in
theorem gX12_silencesOf_X12_mayNow : GoodIn wsX12_silencesOf (wsV RX12 144 RX12 yX12_mayNow wsX12_mayNow) := goodIn_app (goodIn_of _ (by decide +kernel)) ggX12_silencesOf_X12_mayNow
set_option maxRecDepth 20000 in
theorem ggX12_silencesOf_X12_isSilenced : GoodIn wsX12_silencesOf wsX12_isSilenced := goodIn_r _ [41, 22, 23, 24, 5, 25, 1, 30, 31, 32, 33, 34, 35, 36, 37, 42, 43, 44, 45, 46, 47, 48, 49, 50, 51, 52, 53, 54, 55, 56, 57, 58, 59, 60, 61] (by decide +kernel) (by decide +kernel)
set_option maxRecDepth 20000 in
theorem gX12_silencesOf_X12_isSilenced : GoodIn wsX12_silencesOf (wsV RX12 100 RX12 yX12_isSilenced wsX12_isSilenced) := goodIn_app (goodIn_of _ (by decide +kernel)) ggX12_silencesOf_X12_isSilenced
theorem dX12_silencesOf_0 : decode cX12_silencesOf 0 = .ok (.iconst 0, 1) := by decide +kernel
theorem dX12_silencesOf_1 : decode cX12_silencesOf 1 = .ok (.istore_n 3, 1) := by decide +kernel
theorem dX12_silencesOf_2 : decode cX12_silencesOf 2 = .ok (.iconst 0, 1) := by decide +kernel
theorem dX12_silencesOf_3 : decode cX12_silencesOf 3 = .ok (.istore 4, 2) := by decide +kernel
theorem dX12_silencesOf_5 : decode cX12_silencesOf 5 = .ok (.iload 4, 2) := by decide +kernel
theorem dX12_silencesOf_7 : decode cX12_silencesOf 7 = .ok (.aload_n 0, 1) := by decide +kernel
theorem dX12_silencesOf_8 : decode cX12_silencesOf 8 = .ok (.getfield 9, 3) := by decide +kernel
theorem dX12_silencesOf_11 : decode cX12_silencesOf 11 = .ok (.iconst 0, 1) := by decide +kernel
theorem dX12_silencesOf_12 : decode cX12_silencesOf 12 = .ok (.iaload, 1) := by decide +kernel
theorem dX12_silencesOf_13 : decode cX12_silencesOf 13 = .ok (.if_icmp .ge 50, 3) := by decide +kernel
theorem dX12_silencesOf_16 : decode cX12_silencesOf 16 = .ok (.iload_n 3, 1) := by decide +kernel
theorem dX12_silencesOf_17 : decode cX12_silencesOf 17 = .ok (.aload_n 0, 1) := by decide +kernel
theorem dX12_silencesOf_18 : decode cX12_silencesOf 18 = .ok (.iload 4, 2) := by decide +kernel
theorem dX12_silencesOf_20 : decode cX12_silencesOf 20 = .ok (.invokevirtual 77, 3) := by decide +kernel
theorem dX12_silencesOf_23 : decode cX12_silencesOf 23 = .ok (.ifCond .ne 31, 3) := by decide +kernel
theorem dX12_silencesOf_26 : decode cX12_silencesOf 26 = .ok (.aload_n 0, 1) := by decide +kernel
theorem dX12_silencesOf_27 : decode cX12_silencesOf 27 = .ok (.iload_n 1, 1) := by decide +kernel
theorem dX12_silencesOf_28 : decode cX12_silencesOf 28 = .ok (.iload 4, 2) := by decide +kernel
theorem dX12_silencesOf_30 : decode cX12_silencesOf 30 = .ok (.invokevirtual 144, 3) := by decide +kernel
theorem dX12_silencesOf_33 : decode cX12_silencesOf 33 = .ok (.ifCond .eq 21, 3) := by decide +kernel
theorem dX12_silencesOf_36 : decode cX12_silencesOf 36 = .ok (.aload_n 0, 1) := by decide +kernel
theorem dX12_silencesOf_37 : decode cX12_silencesOf 37 = .ok (.iload_n 1, 1) := by decide +kernel
theorem dX12_silencesOf_38 : decode cX12_silencesOf 38 = .ok (.iload 4, 2) := by decide +kernel
theorem dX12_silencesOf_40 : decode cX12_silencesOf 40 = .ok (.iload_n 2, 1) := by decide +kernel
theorem dX12_silencesOf_41 : decode cX12_silencesOf 41 = .ok (.invokevirtual 100, 3) := by decide +kernel
theorem dX12_silencesOf_44 : decode cX12_silencesOf 44 = .ok (.ifCond .eq 10, 3) := by decide +kernel
theorem dX12_silencesOf_47 : decode cX12_silencesOf 47 = .ok (.iconst 1, 1) := by decide +kernel
theorem dX12_silencesOf_48 : decode cX12_silencesOf 48 = .ok (.iload 4, 2) := by decide +kernel
theorem dX12_silencesOf_50 : decode cX12_silencesOf 50 = .ok (.ishl, 1) := by decide +kernel
theorem dX12_silencesOf_51 : decode cX12_silencesOf 51 = .ok (.goto 4, 3) := by decide +kernel
theorem dX12_silencesOf_54 : decode cX12_silencesOf 54 = .ok (.iconst 0, 1) := by decide +kernel
theorem dX12_silencesOf_55 : decode cX12_silencesOf 55 = .ok (.ior, 1) := by decide +kernel
theorem dX12_silencesOf_56 : decode cX12_silencesOf 56 = .ok (.istore_n 3, 1) := by decide +kernel
theorem dX12_silencesOf_57 : decode cX12_silencesOf 57 = .ok (.iinc 4 1, 3) := by decide +kernel
theorem dX12_silencesOf_60 : decode cX12_silencesOf 60 = .ok (.goto (-55), 3) := by decide +kernel
theorem dX12_silencesOf_63 : decode cX12_silencesOf 63 = .ok (.iload_n 3, 1) := by decide +kernel
theorem dX12_silencesOf_64 : decode cX12_silencesOf 64 = .ok (.ireturn, 1) := by decide +kernel
set_option maxRecDepth 20000 in
theorem ggX12_silences_X12_isDenier : GoodIn wsX12_silences wsX12_isDenier := goodIn_r _ [6, 1, 7, 8, 5, 9, 53, 54, 55, 56, 57, 58, 59, 60, 61, 62, 63, 64, 65, 66, 67, 68, 69, 70, 71, 72] (by decide +kernel) (by decide +kernel)
set_option maxRecDepth 20000 in
theorem gX12_silences_X12_isDenier : GoodIn wsX12_silences (wsV RX12 141 RX12 yX12_isDenier wsX12_isDenier) := goodIn_app (goodIn_of _ (by decide +kernel)) ggX12_silences_X12_isDenier
set_option maxRecDepth 20000 in
theorem ggX12_silences_X12_silencesOf : GoodIn wsX12_silences wsX12_silencesOf := goodIn_r _ [13, 1, 14, 15, 16, 5, 17, 18, 19, 20, 21, 22, 23, 24, 25, 26, 27, 28, 29, 30, 31, 32, 33, 34, 35, 36, 37, 38, 39, 40, 41, 42, 43, 44, 45, 46, 47, 48, 49, 50, 51, 52, 53, 54, 55, 56, 57, 58, 59, 60, 61, 62, 63, 64, 65, 66, 67, 68, 69, 70, 71, 72] (by decide +kernel) (by decide +kernel)
set_option maxRecDepth 20000 in
theorem gX12_silences_X12_silencesOf : GoodIn wsX12_silences (wsV RX12 176 RX12 yX12_silencesOf wsX12_silencesOf) := goodIn_app (goodIn_of _ (by decide +kernel)) ggX12_silences_X12_silencesOf
theorem dX12_silences_0 : decode cX12_silences 0 = .ok (.aload_n 0, 1) := by decide +kernel
theorem dX12_silences_1 : decode cX12_silences 1 = .ok (.iload_n 1, 1) := by decide +kernel
theorem dX12_silences_2 : decode cX12_silences 2 = .ok (.invokevirtual 141, 3) := by decide +kernel
theorem dX12_silences_5 : decode cX12_silences 5 = .ok (.ifCond .eq 17, 3) := by decide +kernel
theorem dX12_silences_8 : decode cX12_silences 8 = .ok (.aload_n 0, 1) := by decide +kernel
theorem dX12_silences_9 : decode cX12_silences 9 = .ok (.iload_n 1, 1) := by decide +kernel
theorem dX12_silences_10 : decode cX12_silences 10 = .ok (.aload_n 0, 1) := by decide +kernel
theorem dX12_silences_11 : decode cX12_silences 11 = .ok (.getfield 9, 3) := by decide +kernel
theorem dX12_silences_14 : decode cX12_silences 14 = .ok (.iconst 3, 1) := by decide +kernel
theorem dX12_silences_15 : decode cX12_silences 15 = .ok (.iaload, 1) := by decide +kernel
theorem dX12_silences_16 : decode cX12_silences 16 = .ok (.invokevirtual 176, 3) := by decide +kernel
theorem dX12_silences_19 : decode cX12_silences 19 = .ok (.goto 4, 3) := by decide +kernel
theorem dX12_silences_22 : decode cX12_silences 22 = .ok (.iconst (-1), 1) := by decide +kernel
theorem dX12_silences_23 : decode cX12_silences 23 = .ok (.ireturn, 1) := by decide +kernel
set_option maxRecDepth 20000 in
theorem ggX12_steps_X12_isDenier : GoodIn wsX12_steps wsX12_isDenier := goodIn_r _ [5, 6, 7, 8, 4, 9, 29, 30, 31, 32, 33, 34, 35, 36, 37, 38, 39, 40, 41, 42, 43, 44, 45, 46, 47, 48] (by decide +kernel) (by decide +kernel)
set_option maxRecDepth 20000 in
theorem gX12_steps_X12_isDenier : GoodIn wsX12_steps (wsV RX12 141 RX12 yX12_isDenier wsX12_isDenier) := goodIn_app (goodIn_of _ (by decide +kernel)) ggX12_steps_X12_isDenier
set_option maxRecDepth 20000 in
theorem ggX12_steps_X12_isSentence : GoodIn wsX12_steps wsX12_isSentence := goodIn_r _ [13, 6, 7, 8, 4, 9, 29, 30, 31, 32, 33, 34, 35, 36, 37, 38, 39, 40, 41, 42, 43, 44, 45, 46, 47, 48] (by decide +kernel) (by decide +kernel)
set_option maxRecDepth 20000 in
theorem gX12_steps_X12_isSentence : GoodIn wsX12_steps (wsV RX12 135 RX12 yX12_isSentence wsX12_isSentence) := goodIn_app (goodIn_of _ (by decide +kernel)) ggX12_steps_X12_isSentence
set_option maxRecDepth 20000 in
theorem ggX12_steps_X12_stepsOf : GoodIn wsX12_steps wsX12_stepsOf := goodIn_r _ [17, 18, 19, 20, 4, 21, 6, 22, 23, 24, 25, 26, 27, 28, 29, 30, 31, 32, 33, 34, 35, 36, 37, 38, 39, 40, 41, 42, 43, 44, 45, 46, 47, 48] (by decide +kernel) (by decide +kernel)
set_option maxRecDepth 20000 in
theorem gX12_steps_X12_stepsOf : GoodIn wsX12_steps (wsV RX12 179 RX12 yX12_stepsOf wsX12_stepsOf) := goodIn_app (goodIn_of _ (by decide +kernel)) ggX12_steps_X12_stepsOf
theorem dX12_steps_0 : decode cX12_steps 0 = .ok (.aload_n 0, 1) := by decide +kernel
theorem dX12_steps_1 : decode cX12_steps 1 = .ok (.iload_n 1, 1) := by decide +kernel
theorem dX12_steps_2 : decode cX12_steps 2 = .ok (.invokevirtual 141, 3) := by decide +kernel
theorem dX12_steps_5 : decode cX12_steps 5 = .ok (.ifCond .eq 20, 3) := by decide +kernel
theorem dX12_steps_8 : decode cX12_steps 8 = .ok (.aload_n 0, 1) := by decide +kernel
theorem dX12_steps_9 : decode cX12_steps 9 = .ok (.iload_n 2, 1) := by decide +kernel
theorem dX12_steps_10 : decode cX12_steps 10 = .ok (.invokevirtual 135, 3) := by decide +kernel
theorem dX12_steps_13 : decode cX12_steps 13 = .ok (.ifCond .eq 12, 3) := by decide +kernel
theorem dX12_steps_16 : decode cX12_steps 16 = .ok (.aload_n 0, 1) := by decide +kernel
theorem dX12_steps_17 : decode cX12_steps 17 = .ok (.iload_n 1, 1) := by decide +kernel
theorem dX12_steps_18 : decode cX12_steps 18 = .ok (.iload_n 2, 1) := by decide +kernel
theorem dX12_steps_19 : decode cX12_steps 19 = .ok (.invokevirtual 179, 3) := by decide +kernel
theorem dX12_steps_22 : decode cX12_steps 22 = .ok (.goto 4, 3) := by decide +kernel
theorem dX12_steps_25 : decode cX12_steps 25 = .ok (.iconst (-1), 1) := by decide +kernel
theorem dX12_steps_26 : decode cX12_steps 26 = .ok (.ireturn, 1) := by decide +kernel
set_option maxRecDepth 20000 in
theorem ggX12_falls_X12_isDenier : GoodIn wsX12_falls wsX12_isDenier := goodIn_r _ [5, 6, 7, 8, 4, 9, 29, 30, 31, 32, 33, 34, 35, 36, 37, 38, 39, 40, 41, 42, 43, 44, 45, 46, 47, 48] (by decide +kernel) (by decide +kernel)
set_option maxRecDepth 20000 in
theorem gX12_falls_X12_isDenier : GoodIn wsX12_falls (wsV RX12 141 RX12 yX12_isDenier wsX12_isDenier) := goodIn_app (goodIn_of _ (by decide +kernel)) ggX12_falls_X12_isDenier
set_option maxRecDepth 20000 in
theorem ggX12_falls_X12_fallsBy : GoodIn wsX12_falls wsX12_fallsBy := goodIn_r _ [13, 6, 14, 15, 16, 4, 17, 18, 19, 20, 21, 22, 23, 24, 25, 26, 27, 28, 29, 30, 31, 32, 33, 34, 35, 36, 37, 38, 39, 40, 41, 42, 43, 44, 45, 46, 47, 48] (by decide +kernel) (by decide +kernel)
set_option maxRecDepth 20000 in
theorem gX12_falls_X12_fallsBy : GoodIn wsX12_falls (wsV RX12 169 RX12 yX12_fallsBy wsX12_fallsBy) := goodIn_app (goodIn_of _ (by decide +kernel)) ggX12_falls_X12_fallsBy
theorem dX12_falls_0 : decode cX12_falls 0 = .ok (.aload_n 0, 1) := by decide +kernel
theorem dX12_falls_1 : decode cX12_falls 1 = .ok (.iload_n 1, 1) := by decide +kernel
theorem dX12_falls_2 : decode cX12_falls 2 = .ok (.invokevirtual 141, 3) := by decide +kernel
theorem dX12_falls_5 : decode cX12_falls 5 = .ok (.ifCond .eq 11, 3) := by decide +kernel
theorem dX12_falls_8 : decode cX12_falls 8 = .ok (.aload_n 0, 1) := by decide +kernel
theorem dX12_falls_9 : decode cX12_falls 9 = .ok (.iload_n 1, 1) := by decide +kernel
theorem dX12_falls_10 : decode cX12_falls 10 = .ok (.invokevirtual 169, 3) := by decide +kernel
theorem dX12_falls_13 : decode cX12_falls 13 = .ok (.goto 4, 3) := by decide +kernel
theorem dX12_falls_16 : decode cX12_falls 16 = .ok (.iconst (-1), 1) := by decide +kernel
theorem dX12_falls_17 : decode cX12_falls 17 = .ok (.ireturn, 1) := by decide +kernel
set_option maxRecDepth 20000 in
theorem ggX12_lonely_X12_everything : GoodIn wsX12_lonely wsX12_everything := goodIn_r _ [6, 1, 53, 54, 55, 56, 57, 58, 59, 60, 61, 62, 63, 64, 65, 66, 67, 68, 69, 70, 71, 72] (by decide +kernel) (by decide +kernel)
set_option maxRecDepth 20000 in
theorem gX12_lonely_X12_everything : GoodIn wsX12_lonely (wsV RX12 182 RX12 yX12_everything wsX12_everything) := goodIn_app (goodIn_of _ (by decide +kernel)) ggX12_lonely_X12_everything
set_option maxRecDepth 20000 in
theorem ggX12_lonely_X12_may : GoodIn wsX12_lonely wsX12_may := goodIn_r _ [10, 1, 11, 12, 13, 5, 14, 15, 16, 17, 18, 19, 20, 21, 22, 23, 24, 25, 26, 27, 28, 29, 30, 31, 32, 33, 34, 35, 36, 37, 38, 39, 40, 41, 42, 43, 44, 45, 46, 47, 48, 49, 50, 51, 52, 53, 54, 55, 56, 57, 58, 59, 60, 61, 62, 63, 64, 65, 66, 67, 68, 69, 70, 71, 72] (by decide +kernel) (by decide +kernel)
set_option maxRecDepth 20000 in
theorem gX12_lonely_X12_may : GoodIn wsX12_lonely (wsV RX12 185 RX12 yX12_may wsX12_may) := goodIn_app (goodIn_of _ (by decide +kernel)) ggX12_lonely_X12_may
theorem dX12_lonely_0 : decode cX12_lonely 0 = .ok (.aload_n 0, 1) := by decide +kernel
theorem dX12_lonely_1 : decode cX12_lonely 1 = .ok (.invokevirtual 182, 3) := by decide +kernel
theorem dX12_lonely_4 : decode cX12_lonely 4 = .ok (.aload_n 0, 1) := by decide +kernel
theorem dX12_lonely_5 : decode cX12_lonely 5 = .ok (.getfield 9, 3) := by decide +kernel
theorem dX12_lonely_8 : decode cX12_lonely 8 = .ok (.iconst 2, 1) := by decide +kernel
theorem dX12_lonely_9 : decode cX12_lonely 9 = .ok (.iaload, 1) := by decide +kernel
theorem dX12_lonely_10 : decode cX12_lonely 10 = .ok (.iconst (-1), 1) := by decide +kernel
theorem dX12_lonely_11 : decode cX12_lonely 11 = .ok (.ixor, 1) := by decide +kernel
theorem dX12_lonely_12 : decode cX12_lonely 12 = .ok (.iand, 1) := by decide +kernel
theorem dX12_lonely_13 : decode cX12_lonely 13 = .ok (.istore_n 1, 1) := by decide +kernel
theorem dX12_lonely_14 : decode cX12_lonely 14 = .ok (.iconst 0, 1) := by decide +kernel
theorem dX12_lonely_15 : decode cX12_lonely 15 = .ok (.istore_n 2, 1) := by decide +kernel
theorem dX12_lonely_16 : decode cX12_lonely 16 = .ok (.iload_n 2, 1) := by decide +kernel
theorem dX12_lonely_17 : decode cX12_lonely 17 = .ok (.aload_n 0, 1) := by decide +kernel
theorem dX12_lonely_18 : decode cX12_lonely 18 = .ok (.getfield 9, 3) := by decide +kernel
theorem dX12_lonely_21 : decode cX12_lonely 21 = .ok (.iconst 1, 1) := by decide +kernel
theorem dX12_lonely_22 : decode cX12_lonely 22 = .ok (.iaload, 1) := by decide +kernel
theorem dX12_lonely_23 : decode cX12_lonely 23 = .ok (.if_icmp .ge 19, 3) := by decide +kernel
theorem dX12_lonely_26 : decode cX12_lonely 26 = .ok (.iload_n 1, 1) := by decide +kernel
theorem dX12_lonely_27 : decode cX12_lonely 27 = .ok (.aload_n 0, 1) := by decide +kernel
theorem dX12_lonely_28 : decode cX12_lonely 28 = .ok (.iload_n 2, 1) := by decide +kernel
theorem dX12_lonely_29 : decode cX12_lonely 29 = .ok (.invokevirtual 185, 3) := by decide +kernel
theorem dX12_lonely_32 : decode cX12_lonely 32 = .ok (.iconst (-1), 1) := by decide +kernel
theorem dX12_lonely_33 : decode cX12_lonely 33 = .ok (.ixor, 1) := by decide +kernel
theorem dX12_lonely_34 : decode cX12_lonely 34 = .ok (.iand, 1) := by decide +kernel
theorem dX12_lonely_35 : decode cX12_lonely 35 = .ok (.istore_n 1, 1) := by decide +kernel
theorem dX12_lonely_36 : decode cX12_lonely 36 = .ok (.iinc 2 1, 3) := by decide +kernel
theorem dX12_lonely_39 : decode cX12_lonely 39 = .ok (.goto (-23), 3) := by decide +kernel
theorem dX12_lonely_42 : decode cX12_lonely 42 = .ok (.iload_n 1, 1) := by decide +kernel
theorem dX12_lonely_43 : decode cX12_lonely 43 = .ok (.ireturn, 1) := by decide +kernel
set_option maxRecDepth 20000 in
theorem ggX12_everNow_X12_silencesOf : GoodIn wsX12_everNow wsX12_silencesOf := goodIn_r _ [6, 1, 7, 8, 9, 5, 10, 11, 12, 13, 14, 15, 16, 17, 18, 19, 20, 21, 22, 23, 24, 25, 26, 27, 28, 29, 30, 31, 32, 33, 34, 35, 36, 37, 38, 39, 40, 41, 42, 43, 44, 45, 46, 47, 48, 49, 50, 51, 52, 53, 54, 55, 56, 57, 58, 59, 60, 61, 62, 63, 64, 65] (by decide +kernel) (by decide +kernel)
set_option maxRecDepth 20000 in
theorem gX12_everNow_X12_silencesOf : GoodIn wsX12_everNow (wsV RX12 176 RX12 yX12_silencesOf wsX12_silencesOf) := goodIn_app (goodIn_of _ (by decide +kernel)) ggX12_everNow_X12_silencesOf
theorem dX12_everNow_0 : decode cX12_everNow 0 = .ok (.aload_n 0, 1) := by decide +kernel
theorem dX12_everNow_1 : decode cX12_everNow 1 = .ok (.getfield 9, 3) := by decide +kernel
theorem dX12_everNow_4 : decode cX12_everNow 4 = .ok (.iconst 2, 1) := by decide +kernel
theorem dX12_everNow_5 : decode cX12_everNow 5 = .ok (.iaload, 1) := by decide +kernel
theorem dX12_everNow_6 : decode cX12_everNow 6 = .ok (.istore_n 1, 1) := by decide +kernel
theorem dX12_everNow_7 : decode cX12_everNow 7 = .ok (.iconst 1, 1) := by decide +kernel
theorem dX12_everNow_8 : decode cX12_everNow 8 = .ok (.istore_n 2, 1) := by decide +kernel
theorem dX12_everNow_9 : decode cX12_everNow 9 = .ok (.iload_n 2, 1) := by decide +kernel
theorem dX12_everNow_10 : decode cX12_everNow 10 = .ok (.ifCond .eq 66, 3) := by decide +kernel
theorem dX12_everNow_13 : decode cX12_everNow 13 = .ok (.aload_n 0, 1) := by decide +kernel
theorem dX12_everNow_14 : decode cX12_everNow 14 = .ok (.getfield 9, 3) := by decide +kernel
theorem dX12_everNow_17 : decode cX12_everNow 17 = .ok (.iconst 2, 1) := by decide +kernel
theorem dX12_everNow_18 : decode cX12_everNow 18 = .ok (.iaload, 1) := by decide +kernel
theorem dX12_everNow_19 : decode cX12_everNow 19 = .ok (.istore_n 3, 1) := by decide +kernel
theorem dX12_everNow_20 : decode cX12_everNow 20 = .ok (.iconst 0, 1) := by decide +kernel
theorem dX12_everNow_21 : decode cX12_everNow 21 = .ok (.istore 4, 2) := by decide +kernel
theorem dX12_everNow_23 : decode cX12_everNow 23 = .ok (.iload 4, 2) := by decide +kernel
theorem dX12_everNow_25 : decode cX12_everNow 25 = .ok (.aload_n 0, 1) := by decide +kernel
theorem dX12_everNow_26 : decode cX12_everNow 26 = .ok (.getfield 9, 3) := by decide +kernel
theorem dX12_everNow_29 : decode cX12_everNow 29 = .ok (.iconst 1, 1) := by decide +kernel
theorem dX12_everNow_30 : decode cX12_everNow 30 = .ok (.iaload, 1) := by decide +kernel
theorem dX12_everNow_31 : decode cX12_everNow 31 = .ok (.if_icmp .ge 19, 3) := by decide +kernel
theorem dX12_everNow_34 : decode cX12_everNow 34 = .ok (.iload_n 3, 1) := by decide +kernel
theorem dX12_everNow_35 : decode cX12_everNow 35 = .ok (.aload_n 0, 1) := by decide +kernel
theorem dX12_everNow_36 : decode cX12_everNow 36 = .ok (.iload 4, 2) := by decide +kernel
theorem dX12_everNow_38 : decode cX12_everNow 38 = .ok (.iconst 0, 1) := by decide +kernel
theorem dX12_everNow_39 : decode cX12_everNow 39 = .ok (.invokevirtual 176, 3) := by decide +kernel
theorem dX12_everNow_42 : decode cX12_everNow 42 = .ok (.ior, 1) := by decide +kernel
theorem dX12_everNow_43 : decode cX12_everNow 43 = .ok (.istore_n 3, 1) := by decide +kernel
theorem dX12_everNow_44 : decode cX12_everNow 44 = .ok (.iinc 4 1, 3) := by decide +kernel
theorem dX12_everNow_47 : decode cX12_everNow 47 = .ok (.goto (-24), 3) := by decide +kernel
theorem dX12_everNow_50 : decode cX12_everNow 50 = .ok (.iload_n 3, 1) := by decide +kernel
theorem dX12_everNow_51 : decode cX12_everNow 51 = .ok (.aload_n 0, 1) := by decide +kernel
theorem dX12_everNow_52 : decode cX12_everNow 52 = .ok (.getfield 9, 3) := by decide +kernel
theorem dX12_everNow_55 : decode cX12_everNow 55 = .ok (.iconst 2, 1) := by decide +kernel
theorem dX12_everNow_56 : decode cX12_everNow 56 = .ok (.iaload, 1) := by decide +kernel
theorem dX12_everNow_57 : decode cX12_everNow 57 = .ok (.if_icmp .eq 7, 3) := by decide +kernel
theorem dX12_everNow_60 : decode cX12_everNow 60 = .ok (.iconst 1, 1) := by decide +kernel
theorem dX12_everNow_61 : decode cX12_everNow 61 = .ok (.goto 4, 3) := by decide +kernel
theorem dX12_everNow_64 : decode cX12_everNow 64 = .ok (.iconst 0, 1) := by decide +kernel
theorem dX12_everNow_65 : decode cX12_everNow 65 = .ok (.istore_n 2, 1) := by decide +kernel
theorem dX12_everNow_66 : decode cX12_everNow 66 = .ok (.aload_n 0, 1) := by decide +kernel
theorem dX12_everNow_67 : decode cX12_everNow 67 = .ok (.getfield 9, 3) := by decide +kernel
theorem dX12_everNow_70 : decode cX12_everNow 70 = .ok (.iconst 2, 1) := by decide +kernel
theorem dX12_everNow_71 : decode cX12_everNow 71 = .ok (.iload_n 3, 1) := by decide +kernel
theorem dX12_everNow_72 : decode cX12_everNow 72 = .ok (.iastore, 1) := by decide +kernel
theorem dX12_everNow_73 : decode cX12_everNow 73 = .ok (.goto (-64), 3) := by decide +kernel
theorem dX12_everNow_76 : decode cX12_everNow 76 = .ok (.aload_n 0, 1) := by decide +kernel
theorem dX12_everNow_77 : decode cX12_everNow 77 = .ok (.getfield 9, 3) := by decide +kernel
theorem dX12_everNow_80 : decode cX12_everNow 80 = .ok (.iconst 2, 1) := by decide +kernel
theorem dX12_everNow_81 : decode cX12_everNow 81 = .ok (.iaload, 1) := by decide +kernel
theorem dX12_everNow_82 : decode cX12_everNow 82 = .ok (.istore_n 3, 1) := by decide +kernel
theorem dX12_everNow_83 : decode cX12_everNow 83 = .ok (.aload_n 0, 1) := by decide +kernel
theorem dX12_everNow_84 : decode cX12_everNow 84 = .ok (.getfield 9, 3) := by decide +kernel
theorem dX12_everNow_87 : decode cX12_everNow 87 = .ok (.iconst 2, 1) := by decide +kernel
theorem dX12_everNow_88 : decode cX12_everNow 88 = .ok (.iload_n 1, 1) := by decide +kernel
theorem dX12_everNow_89 : decode cX12_everNow 89 = .ok (.iastore, 1) := by decide +kernel
theorem dX12_everNow_90 : decode cX12_everNow 90 = .ok (.iload_n 3, 1) := by decide +kernel
theorem dX12_everNow_91 : decode cX12_everNow 91 = .ok (.ireturn, 1) := by decide +kernel
set_option maxRecDepth 20000 in
theorem ggX12_ever_X12_everNow : GoodIn wsX12_ever wsX12_everNow := goodIn_r _ [5, 6, 7, 8, 9, 4, 10, 11, 12, 13, 14, 15, 16, 17, 18, 19, 20, 21, 22, 23, 24, 25, 26, 27, 28, 29, 30, 31, 32, 33, 34, 35, 36, 37, 38, 39, 40, 41, 42, 43, 44, 45, 46, 47, 48, 49, 50, 51, 52, 53, 54, 55, 56, 57, 58, 59, 60, 61, 62, 63, 64, 65, 66, 67, 68, 69] (by decide +kernel) (by decide +kernel)
set_option maxRecDepth 20000 in
theorem gX12_ever_X12_everNow : GoodIn wsX12_ever (wsV RX12 188 RX12 yX12_everNow wsX12_everNow) := goodIn_app (goodIn_of _ (by decide +kernel)) ggX12_ever_X12_everNow
theorem dX12_ever_0 : decode cX12_ever 0 = .ok (.aload_n 0, 1) := by decide +kernel
theorem dX12_ever_1 : decode cX12_ever 1 = .ok (.invokevirtual 188, 3) := by decide +kernel
theorem dX12_ever_4 : decode cX12_ever 4 = .ok (.ireturn, 1) := by decide +kernel
set_option maxRecDepth 20000 in
theorem ggX12_growsBy_X12_silencesOf : GoodIn wsX12_growsBy wsX12_silencesOf := goodIn_r _ [8, 1, 9, 10, 11, 7, 12, 13, 14, 15, 16, 17, 18, 19, 20, 21, 22, 23, 24, 25, 26, 27, 28, 29, 30, 31, 32, 33, 34, 35, 36, 37, 38, 39, 40, 41, 42, 43, 44, 45, 46, 47, 55, 56, 57, 58, 59, 60, 61, 62, 63, 64, 65, 66, 67, 68, 69, 70, 71, 72, 73, 74] (by decide +kernel) (by decide +kernel)
set_option maxRecDepth 20000 in
theorem gX12_growsBy_X12_silencesOf : GoodIn wsX12_growsBy (wsV RX12 176 RX12 yX12_silencesOf wsX12_silencesOf) := goodIn_app (goodIn_of _ (by decide +kernel)) ggX12_growsBy_X12_silencesOf
set_option maxRecDepth 20000 in
theorem ggX12_growsBy_X12_has : GoodIn wsX12_growsBy wsX12_has := goodIn_r _ [15] (by decide +kernel) (by decide +kernel)
set_option maxRecDepth 20000 in
theorem gX12_growsBy_X12_has : GoodIn wsX12_growsBy (va_wsS RX12 66 yX12_has wsX12_has) := goodIn_app (goodIn_of _ (by decide +kernel)) ggX12_growsBy_X12_has
set_option maxRecDepth 20000 in
theorem ggX12_growsBy_X12_stepsOf : GoodIn wsX12_growsBy wsX12_stepsOf := goodIn_r _ [51, 40, 41, 42, 7, 43, 1, 52, 53, 54, 28, 29, 30, 31, 55, 56, 57, 58, 59, 60, 61, 62, 63, 64, 65, 66, 67, 68, 69, 70, 71, 72, 73, 74] (by decide +kernel) (by decide +kernel)
set_option maxRecDepth 20000 in
theorem gX12_growsBy_X12_stepsOf : GoodIn wsX12_growsBy (wsV RX12 179 RX12 yX12_stepsOf wsX12_stepsOf) := goodIn_app (goodIn_of _ (by decide +kernel)) ggX12_growsBy_X12_stepsOf
theorem dX12_growsBy_0 : decode cX12_growsBy 0 = .ok (.bipush (-4), 2) := by decide +kernel
theorem dX12_growsBy_2 : decode cX12_growsBy 2 = .ok (.istore_n 3, 1) := by decide +kernel
theorem dX12_growsBy_3 : decode cX12_growsBy 3 = .ok (.iconst 0, 1) := by decide +kernel
theorem dX12_growsBy_4 : decode cX12_growsBy 4 = .ok (.istore 4, 2) := by decide +kernel
theorem dX12_growsBy_6 : decode cX12_growsBy 6 = .ok (.iload 4, 2) := by decide +kernel
theorem dX12_growsBy_8 : decode cX12_growsBy 8 = .ok (.aload_n 0, 1) := by decide +kernel
theorem dX12_growsBy_9 : decode cX12_growsBy 9 = .ok (.getfield 9, 3) := by decide +kernel
theorem dX12_growsBy_12 : decode cX12_growsBy 12 = .ok (.iconst 1, 1) := by decide +kernel
theorem dX12_growsBy_13 : decode cX12_growsBy 13 = .ok (.iaload, 1) := by decide +kernel
theorem dX12_growsBy_14 : decode cX12_growsBy 14 = .ok (.if_icmp .ge 46, 3) := by decide +kernel
theorem dX12_growsBy_17 : decode cX12_growsBy 17 = .ok (.aload_n 0, 1) := by decide +kernel
theorem dX12_growsBy_18 : decode cX12_growsBy 18 = .ok (.iload 4, 2) := by decide +kernel
theorem dX12_growsBy_20 : decode cX12_growsBy 20 = .ok (.iconst 0, 1) := by decide +kernel
theorem dX12_growsBy_21 : decode cX12_growsBy 21 = .ok (.invokevirtual 176, 3) := by decide +kernel
theorem dX12_growsBy_24 : decode cX12_growsBy 24 = .ok (.iload_n 2, 1) := by decide +kernel
theorem dX12_growsBy_25 : decode cX12_growsBy 25 = .ok (.invokestatic 66, 3) := by decide +kernel
theorem dX12_growsBy_28 : decode cX12_growsBy 28 = .ok (.ifCond .eq 26, 3) := by decide +kernel
theorem dX12_growsBy_31 : decode cX12_growsBy 31 = .ok (.iload_n 3, 1) := by decide +kernel
theorem dX12_growsBy_32 : decode cX12_growsBy 32 = .ok (.ifCond .lt 14, 3) := by decide +kernel
theorem dX12_growsBy_35 : decode cX12_growsBy 35 = .ok (.aload_n 0, 1) := by decide +kernel
theorem dX12_growsBy_36 : decode cX12_growsBy 36 = .ok (.iload 4, 2) := by decide +kernel
theorem dX12_growsBy_38 : decode cX12_growsBy 38 = .ok (.iload_n 2, 1) := by decide +kernel
theorem dX12_growsBy_39 : decode cX12_growsBy 39 = .ok (.invokevirtual 179, 3) := by decide +kernel
theorem dX12_growsBy_42 : decode cX12_growsBy 42 = .ok (.iload_n 3, 1) := by decide +kernel
theorem dX12_growsBy_43 : decode cX12_growsBy 43 = .ok (.if_icmp .ge 11, 3) := by decide +kernel
theorem dX12_growsBy_46 : decode cX12_growsBy 46 = .ok (.aload_n 0, 1) := by decide +kernel
theorem dX12_growsBy_47 : decode cX12_growsBy 47 = .ok (.iload 4, 2) := by decide +kernel
theorem dX12_growsBy_49 : decode cX12_growsBy 49 = .ok (.iload_n 2, 1) := by decide +kernel
theorem dX12_growsBy_50 : decode cX12_growsBy 50 = .ok (.invokevirtual 179, 3) := by decide +kernel
theorem dX12_growsBy_53 : decode cX12_growsBy 53 = .ok (.istore_n 3, 1) := by decide +kernel
theorem dX12_growsBy_54 : decode cX12_growsBy 54 = .ok (.iinc 4 1, 3) := by decide +kernel
theorem dX12_growsBy_57 : decode cX12_growsBy 57 = .ok (.goto (-51), 3) := by decide +kernel
theorem dX12_growsBy_60 : decode cX12_growsBy 60 = .ok (.iload_n 3, 1) := by decide +kernel
theorem dX12_growsBy_61 : decode cX12_growsBy 61 = .ok (.ifCond .ge 4, 3) := by decide +kernel
theorem dX12_growsBy_64 : decode cX12_growsBy 64 = .ok (.return_, 1) := by decide +kernel
theorem dX12_growsBy_65 : decode cX12_growsBy 65 = .ok (.iload_n 1, 1) := by decide +kernel
theorem dX12_growsBy_66 : decode cX12_growsBy 66 = .ok (.iconst 1, 1) := by decide +kernel
theorem dX12_growsBy_67 : decode cX12_growsBy 67 = .ok (.iload_n 2, 1) := by decide +kernel
theorem dX12_growsBy_68 : decode cX12_growsBy 68 = .ok (.ishl, 1) := by decide +kernel
theorem dX12_growsBy_69 : decode cX12_growsBy 69 = .ok (.ior, 1) := by decide +kernel
theorem dX12_growsBy_70 : decode cX12_growsBy 70 = .ok (.istore 4, 2) := by decide +kernel
theorem dX12_growsBy_72 : decode cX12_growsBy 72 = .ok (.aload_n 0, 1) := by decide +kernel
theorem dX12_growsBy_73 : decode cX12_growsBy 73 = .ok (.getfield 43, 3) := by decide +kernel
theorem dX12_growsBy_76 : decode cX12_growsBy 76 = .ok (.iload 4, 2) := by decide +kernel
theorem dX12_growsBy_78 : decode cX12_growsBy 78 = .ok (.iaload, 1) := by decide +kernel
theorem dX12_growsBy_79 : decode cX12_growsBy 79 = .ok (.ifCond .lt 21, 3) := by decide +kernel
theorem dX12_growsBy_82 : decode cX12_growsBy 82 = .ok (.aload_n 0, 1) := by decide +kernel
theorem dX12_growsBy_83 : decode cX12_growsBy 83 = .ok (.getfield 43, 3) := by decide +kernel
theorem dX12_growsBy_86 : decode cX12_growsBy 86 = .ok (.iload_n 1, 1) := by decide +kernel
theorem dX12_growsBy_87 : decode cX12_growsBy 87 = .ok (.iaload, 1) := by decide +kernel
theorem dX12_growsBy_88 : decode cX12_growsBy 88 = .ok (.iconst 1, 1) := by decide +kernel
theorem dX12_growsBy_89 : decode cX12_growsBy 89 = .ok (.iadd, 1) := by decide +kernel
theorem dX12_growsBy_90 : decode cX12_growsBy 90 = .ok (.aload_n 0, 1) := by decide +kernel
theorem dX12_growsBy_91 : decode cX12_growsBy 91 = .ok (.getfield 43, 3) := by decide +kernel
theorem dX12_growsBy_94 : decode cX12_growsBy 94 = .ok (.iload 4, 2) := by decide +kernel
theorem dX12_growsBy_96 : decode cX12_growsBy 96 = .ok (.iaload, 1) := by decide +kernel
theorem dX12_growsBy_97 : decode cX12_growsBy 97 = .ok (.if_icmp .ge 18, 3) := by decide +kernel
theorem dX12_growsBy_100 : decode cX12_growsBy 100 = .ok (.aload_n 0, 1) := by decide +kernel
theorem dX12_growsBy_101 : decode cX12_growsBy 101 = .ok (.getfield 43, 3) := by decide +kernel
theorem dX12_growsBy_104 : decode cX12_growsBy 104 = .ok (.iload 4, 2) := by decide +kernel
theorem dX12_growsBy_106 : decode cX12_growsBy 106 = .ok (.aload_n 0, 1) := by decide +kernel
theorem dX12_growsBy_107 : decode cX12_growsBy 107 = .ok (.getfield 43, 3) := by decide +kernel
theorem dX12_growsBy_110 : decode cX12_growsBy 110 = .ok (.iload_n 1, 1) := by decide +kernel
theorem dX12_growsBy_111 : decode cX12_growsBy 111 = .ok (.iaload, 1) := by decide +kernel
theorem dX12_growsBy_112 : decode cX12_growsBy 112 = .ok (.iconst 1, 1) := by decide +kernel
theorem dX12_growsBy_113 : decode cX12_growsBy 113 = .ok (.iadd, 1) := by decide +kernel
theorem dX12_growsBy_114 : decode cX12_growsBy 114 = .ok (.iastore, 1) := by decide +kernel
theorem dX12_growsBy_115 : decode cX12_growsBy 115 = .ok (.aload_n 0, 1) := by decide +kernel
theorem dX12_growsBy_116 : decode cX12_growsBy 116 = .ok (.getfield 46, 3) := by decide +kernel
theorem dX12_growsBy_119 : decode cX12_growsBy 119 = .ok (.iload 4, 2) := by decide +kernel
theorem dX12_growsBy_121 : decode cX12_growsBy 121 = .ok (.iaload, 1) := by decide +kernel
theorem dX12_growsBy_122 : decode cX12_growsBy 122 = .ok (.ifCond .lt 21, 3) := by decide +kernel
theorem dX12_growsBy_125 : decode cX12_growsBy 125 = .ok (.aload_n 0, 1) := by decide +kernel
theorem dX12_growsBy_126 : decode cX12_growsBy 126 = .ok (.getfield 46, 3) := by decide +kernel
theorem dX12_growsBy_129 : decode cX12_growsBy 129 = .ok (.iload_n 1, 1) := by decide +kernel
theorem dX12_growsBy_130 : decode cX12_growsBy 130 = .ok (.iaload, 1) := by decide +kernel
theorem dX12_growsBy_131 : decode cX12_growsBy 131 = .ok (.iload_n 3, 1) := by decide +kernel
theorem dX12_growsBy_132 : decode cX12_growsBy 132 = .ok (.iadd, 1) := by decide +kernel
theorem dX12_growsBy_133 : decode cX12_growsBy 133 = .ok (.aload_n 0, 1) := by decide +kernel
theorem dX12_growsBy_134 : decode cX12_growsBy 134 = .ok (.getfield 46, 3) := by decide +kernel
theorem dX12_growsBy_137 : decode cX12_growsBy 137 = .ok (.iload 4, 2) := by decide +kernel
theorem dX12_growsBy_139 : decode cX12_growsBy 139 = .ok (.iaload, 1) := by decide +kernel
theorem dX12_growsBy_140 : decode cX12_growsBy 140 = .ok (.if_icmp .ge 18, 3) := by decide +kernel
theorem dX12_growsBy_143 : decode cX12_growsBy 143 = .ok (.aload_n 0, 1) := by decide +kernel
theorem dX12_growsBy_144 : decode cX12_growsBy 144 = .ok (.getfield 46, 3) := by decide +kernel
theorem dX12_growsBy_147 : decode cX12_growsBy 147 = .ok (.iload 4, 2) := by decide +kernel
theorem dX12_growsBy_149 : decode cX12_growsBy 149 = .ok (.aload_n 0, 1) := by decide +kernel
theorem dX12_growsBy_150 : decode cX12_growsBy 150 = .ok (.getfield 46, 3) := by decide +kernel
theorem dX12_growsBy_153 : decode cX12_growsBy 153 = .ok (.iload_n 1, 1) := by decide +kernel
theorem dX12_growsBy_154 : decode cX12_growsBy 154 = .ok (.iaload, 1) := by decide +kernel
theorem dX12_growsBy_155 : decode cX12_growsBy 155 = .ok (.iload_n 3, 1) := by decide +kernel
theorem dX12_growsBy_156 : decode cX12_growsBy 156 = .ok (.iadd, 1) := by decide +kernel
theorem dX12_growsBy_157 : decode cX12_growsBy 157 = .ok (.iastore, 1) := by decide +kernel
theorem dX12_growsBy_158 : decode cX12_growsBy 158 = .ok (.return_, 1) := by decide +kernel
set_option maxRecDepth 20000 in
theorem ggX12_growsFrom_X12_everything : GoodIn wsX12_growsFrom wsX12_everything := goodIn_r _ [8, 1, 63, 64, 65, 66, 67, 68, 69, 70, 71, 72, 73, 74, 75, 76, 77, 78, 79, 80, 81, 82] (by decide +kernel) (by decide +kernel)
set_option maxRecDepth 20000 in
theorem gX12_growsFrom_X12_everything : GoodIn wsX12_growsFrom (wsV RX12 182 RX12 yX12_everything wsX12_everything) := goodIn_app (goodIn_of _ (by decide +kernel)) ggX12_growsFrom_X12_everything
set_option maxRecDepth 20000 in
theorem ggX12_growsFrom_X12_has : GoodIn wsX12_growsFrom wsX12_has := goodIn_r _ [11] (by decide +kernel) (by decide +kernel)
set_option maxRecDepth 20000 in
theorem gX12_growsFrom_X12_has : GoodIn wsX12_growsFrom (va_wsS RX12 66 yX12_has wsX12_has) := goodIn_app (goodIn_of _ (by decide +kernel)) ggX12_growsFrom_X12_has
set_option maxRecDepth 20000 in
theorem ggX12_growsFrom_X12_growsBy : GoodIn wsX12_growsFrom wsX12_growsBy := goodIn_r _ [15, 1, 2, 3, 16, 17, 18, 7, 19, 20, 21, 22, 23, 9, 10, 11, 24, 25, 26, 27, 28, 29, 30, 31, 32, 33, 34, 35, 36, 37, 38, 39, 40, 41, 42, 43, 44, 45, 46, 47, 48, 49, 50, 51, 52, 53, 54, 55, 56, 57, 58, 59, 60, 61, 62, 63, 64, 65, 66, 67, 68, 69, 70, 71, 72, 73, 74, 75, 76, 77, 78, 79, 80, 81, 82] (by decide +kernel) (by decide +kernel)
set_option maxRecDepth 20000 in
theorem gX12_growsFrom_X12_growsBy : GoodIn wsX12_growsFrom (wsV RX12 191 RX12 yX12_growsBy wsX12_growsBy) := goodIn_app (goodIn_of _ (by decide +kernel)) ggX12_growsFrom_X12_growsBy
theorem dX12_growsFrom_0 : decode cX12_growsFrom 0 = .ok (.aload_n 0, 1) := by decide +kernel
theorem dX12_growsFrom_1 : decode cX12_growsFrom 1 = .ok (.getfield 9, 3) := by decide +kernel
theorem dX12_growsFrom_4 : decode cX12_growsFrom 4 = .ok (.iconst 2, 1) := by decide +kernel
theorem dX12_growsFrom_5 : decode cX12_growsFrom 5 = .ok (.iaload, 1) := by decide +kernel
theorem dX12_growsFrom_6 : decode cX12_growsFrom 6 = .ok (.istore_n 2, 1) := by decide +kernel
theorem dX12_growsFrom_7 : decode cX12_growsFrom 7 = .ok (.iconst 0, 1) := by decide +kernel
theorem dX12_growsFrom_8 : decode cX12_growsFrom 8 = .ok (.istore_n 3, 1) := by decide +kernel
theorem dX12_growsFrom_9 : decode cX12_growsFrom 9 = .ok (.iload_n 3, 1) := by decide +kernel
theorem dX12_growsFrom_10 : decode cX12_growsFrom 10 = .ok (.sipush 512, 3) := by decide +kernel
theorem dX12_growsFrom_13 : decode cX12_growsFrom 13 = .ok (.if_icmp .ge 43, 3) := by decide +kernel
theorem dX12_growsFrom_16 : decode cX12_growsFrom 16 = .ok (.aload_n 0, 1) := by decide +kernel
theorem dX12_growsFrom_17 : decode cX12_growsFrom 17 = .ok (.getfield 43, 3) := by decide +kernel
theorem dX12_growsFrom_20 : decode cX12_growsFrom 20 = .ok (.iload_n 3, 1) := by decide +kernel
theorem dX12_growsFrom_21 : decode cX12_growsFrom 21 = .ok (.iload_n 3, 1) := by decide +kernel
theorem dX12_growsFrom_22 : decode cX12_growsFrom 22 = .ok (.iload_n 1, 1) := by decide +kernel
theorem dX12_growsFrom_23 : decode cX12_growsFrom 23 = .ok (.if_icmp .ne 7, 3) := by decide +kernel
theorem dX12_growsFrom_26 : decode cX12_growsFrom 26 = .ok (.iconst 0, 1) := by decide +kernel
theorem dX12_growsFrom_27 : decode cX12_growsFrom 27 = .ok (.goto 5, 3) := by decide +kernel
theorem dX12_growsFrom_30 : decode cX12_growsFrom 30 = .ok (.bipush (-4), 2) := by decide +kernel
theorem dX12_growsFrom_32 : decode cX12_growsFrom 32 = .ok (.iastore, 1) := by decide +kernel
theorem dX12_growsFrom_33 : decode cX12_growsFrom 33 = .ok (.aload_n 0, 1) := by decide +kernel
theorem dX12_growsFrom_34 : decode cX12_growsFrom 34 = .ok (.getfield 46, 3) := by decide +kernel
theorem dX12_growsFrom_37 : decode cX12_growsFrom 37 = .ok (.iload_n 3, 1) := by decide +kernel
theorem dX12_growsFrom_38 : decode cX12_growsFrom 38 = .ok (.iload_n 3, 1) := by decide +kernel
theorem dX12_growsFrom_39 : decode cX12_growsFrom 39 = .ok (.iload_n 1, 1) := by decide +kernel
theorem dX12_growsFrom_40 : decode cX12_growsFrom 40 = .ok (.if_icmp .ne 7, 3) := by decide +kernel
theorem dX12_growsFrom_43 : decode cX12_growsFrom 43 = .ok (.iconst 0, 1) := by decide +kernel
theorem dX12_growsFrom_44 : decode cX12_growsFrom 44 = .ok (.goto 5, 3) := by decide +kernel
theorem dX12_growsFrom_47 : decode cX12_growsFrom 47 = .ok (.bipush (-4), 2) := by decide +kernel
theorem dX12_growsFrom_49 : decode cX12_growsFrom 49 = .ok (.iastore, 1) := by decide +kernel
theorem dX12_growsFrom_50 : decode cX12_growsFrom 50 = .ok (.iinc 3 1, 3) := by decide +kernel
theorem dX12_growsFrom_53 : decode cX12_growsFrom 53 = .ok (.goto (-44), 3) := by decide +kernel
theorem dX12_growsFrom_56 : decode cX12_growsFrom 56 = .ok (.iload_n 1, 1) := by decide +kernel
theorem dX12_growsFrom_57 : decode cX12_growsFrom 57 = .ok (.istore_n 3, 1) := by decide +kernel
theorem dX12_growsFrom_58 : decode cX12_growsFrom 58 = .ok (.iload_n 3, 1) := by decide +kernel
theorem dX12_growsFrom_59 : decode cX12_growsFrom 59 = .ok (.aload_n 0, 1) := by decide +kernel
theorem dX12_growsFrom_60 : decode cX12_growsFrom 60 = .ok (.invokevirtual 182, 3) := by decide +kernel
theorem dX12_growsFrom_63 : decode cX12_growsFrom 63 = .ok (.if_icmp .gt 64, 3) := by decide +kernel
theorem dX12_growsFrom_66 : decode cX12_growsFrom 66 = .ok (.aload_n 0, 1) := by decide +kernel
theorem dX12_growsFrom_67 : decode cX12_growsFrom 67 = .ok (.getfield 43, 3) := by decide +kernel
theorem dX12_growsFrom_70 : decode cX12_growsFrom 70 = .ok (.iload_n 3, 1) := by decide +kernel
theorem dX12_growsFrom_71 : decode cX12_growsFrom 71 = .ok (.iaload, 1) := by decide +kernel
theorem dX12_growsFrom_72 : decode cX12_growsFrom 72 = .ok (.ifCond .ge 6, 3) := by decide +kernel
theorem dX12_growsFrom_75 : decode cX12_growsFrom 75 = .ok (.goto 46, 3) := by decide +kernel
theorem dX12_growsFrom_78 : decode cX12_growsFrom 78 = .ok (.aload_n 0, 1) := by decide +kernel
theorem dX12_growsFrom_79 : decode cX12_growsFrom 79 = .ok (.getfield 9, 3) := by decide +kernel
theorem dX12_growsFrom_82 : decode cX12_growsFrom 82 = .ok (.iconst 2, 1) := by decide +kernel
theorem dX12_growsFrom_83 : decode cX12_growsFrom 83 = .ok (.iload_n 3, 1) := by decide +kernel
theorem dX12_growsFrom_84 : decode cX12_growsFrom 84 = .ok (.iastore, 1) := by decide +kernel
theorem dX12_growsFrom_85 : decode cX12_growsFrom 85 = .ok (.iconst 0, 1) := by decide +kernel
theorem dX12_growsFrom_86 : decode cX12_growsFrom 86 = .ok (.istore 4, 2) := by decide +kernel
theorem dX12_growsFrom_88 : decode cX12_growsFrom 88 = .ok (.iload 4, 2) := by decide +kernel
theorem dX12_growsFrom_90 : decode cX12_growsFrom 90 = .ok (.aload_n 0, 1) := by decide +kernel
theorem dX12_growsFrom_91 : decode cX12_growsFrom 91 = .ok (.getfield 9, 3) := by decide +kernel
theorem dX12_growsFrom_94 : decode cX12_growsFrom 94 = .ok (.iconst 0, 1) := by decide +kernel
theorem dX12_growsFrom_95 : decode cX12_growsFrom 95 = .ok (.iaload, 1) := by decide +kernel
theorem dX12_growsFrom_96 : decode cX12_growsFrom 96 = .ok (.if_icmp .ge 25, 3) := by decide +kernel
theorem dX12_growsFrom_99 : decode cX12_growsFrom 99 = .ok (.iload_n 3, 1) := by decide +kernel
theorem dX12_growsFrom_100 : decode cX12_growsFrom 100 = .ok (.iload 4, 2) := by decide +kernel
theorem dX12_growsFrom_102 : decode cX12_growsFrom 102 = .ok (.invokestatic 66, 3) := by decide +kernel
theorem dX12_growsFrom_105 : decode cX12_growsFrom 105 = .ok (.ifCond .ne 10, 3) := by decide +kernel
theorem dX12_growsFrom_108 : decode cX12_growsFrom 108 = .ok (.aload_n 0, 1) := by decide +kernel
theorem dX12_growsFrom_109 : decode cX12_growsFrom 109 = .ok (.iload_n 3, 1) := by decide +kernel
theorem dX12_growsFrom_110 : decode cX12_growsFrom 110 = .ok (.iload 4, 2) := by decide +kernel
theorem dX12_growsFrom_112 : decode cX12_growsFrom 112 = .ok (.invokevirtual 191, 3) := by decide +kernel
theorem dX12_growsFrom_115 : decode cX12_growsFrom 115 = .ok (.iinc 4 1, 3) := by decide +kernel
theorem dX12_growsFrom_118 : decode cX12_growsFrom 118 = .ok (.goto (-30), 3) := by decide +kernel
theorem dX12_growsFrom_121 : decode cX12_growsFrom 121 = .ok (.iinc 3 1, 3) := by decide +kernel
theorem dX12_growsFrom_124 : decode cX12_growsFrom 124 = .ok (.goto (-66), 3) := by decide +kernel
theorem dX12_growsFrom_127 : decode cX12_growsFrom 127 = .ok (.aload_n 0, 1) := by decide +kernel
theorem dX12_growsFrom_128 : decode cX12_growsFrom 128 = .ok (.getfield 9, 3) := by decide +kernel
theorem dX12_growsFrom_131 : decode cX12_growsFrom 131 = .ok (.iconst 2, 1) := by decide +kernel
theorem dX12_growsFrom_132 : decode cX12_growsFrom 132 = .ok (.iload_n 2, 1) := by decide +kernel
theorem dX12_growsFrom_133 : decode cX12_growsFrom 133 = .ok (.iastore, 1) := by decide +kernel
theorem dX12_growsFrom_134 : decode cX12_growsFrom 134 = .ok (.return_, 1) := by decide +kernel
set_option maxRecDepth 20000 in
theorem ggX12_leastWith_X12_everything : GoodIn wsX12_leastWith wsX12_everything := goodIn_r _ [5, 6, 10, 11, 12, 13, 14, 15, 16, 17, 18, 19, 20, 21, 22, 23, 24, 25, 26, 27, 28, 29] (by decide +kernel) (by decide +kernel)
set_option maxRecDepth 20000 in
theorem gX12_leastWith_X12_everything : GoodIn wsX12_leastWith (wsV RX12 182 RX12 yX12_everything wsX12_everything) := goodIn_app (goodIn_of _ (by decide +kernel)) ggX12_leastWith_X12_everything
set_option maxRecDepth 20000 in
theorem ggX12_leastWith_X12_has : GoodIn wsX12_leastWith wsX12_has := goodIn_r _ [9] (by decide +kernel) (by decide +kernel)
set_option maxRecDepth 20000 in
theorem gX12_leastWith_X12_has : GoodIn wsX12_leastWith (va_wsS RX12 66 yX12_has wsX12_has) := goodIn_app (goodIn_of _ (by decide +kernel)) ggX12_leastWith_X12_has
theorem dX12_leastWith_0 : decode cX12_leastWith 0 = .ok (.bipush (-4), 2) := by decide +kernel
theorem dX12_leastWith_2 : decode cX12_leastWith 2 = .ok (.istore_n 3, 1) := by decide +kernel
theorem dX12_leastWith_3 : decode cX12_leastWith 3 = .ok (.iconst 0, 1) := by decide +kernel
theorem dX12_leastWith_4 : decode cX12_leastWith 4 = .ok (.istore 4, 2) := by decide +kernel
theorem dX12_leastWith_6 : decode cX12_leastWith 6 = .ok (.iload 4, 2) := by decide +kernel
theorem dX12_leastWith_8 : decode cX12_leastWith 8 = .ok (.aload_n 0, 1) := by decide +kernel
theorem dX12_leastWith_9 : decode cX12_leastWith 9 = .ok (.invokevirtual 182, 3) := by decide +kernel
theorem dX12_leastWith_12 : decode cX12_leastWith 12 = .ok (.if_icmp .gt 42, 3) := by decide +kernel
theorem dX12_leastWith_15 : decode cX12_leastWith 15 = .ok (.iload 4, 2) := by decide +kernel
theorem dX12_leastWith_17 : decode cX12_leastWith 17 = .ok (.iload_n 2, 1) := by decide +kernel
theorem dX12_leastWith_18 : decode cX12_leastWith 18 = .ok (.invokestatic 66, 3) := by decide +kernel
theorem dX12_leastWith_21 : decode cX12_leastWith 21 = .ok (.ifCond .eq 27, 3) := by decide +kernel
theorem dX12_leastWith_24 : decode cX12_leastWith 24 = .ok (.aload_n 1, 1) := by decide +kernel
theorem dX12_leastWith_25 : decode cX12_leastWith 25 = .ok (.iload 4, 2) := by decide +kernel
theorem dX12_leastWith_27 : decode cX12_leastWith 27 = .ok (.iaload, 1) := by decide +kernel
theorem dX12_leastWith_28 : decode cX12_leastWith 28 = .ok (.ifCond .lt 20, 3) := by decide +kernel
theorem dX12_leastWith_31 : decode cX12_leastWith 31 = .ok (.iload_n 3, 1) := by decide +kernel
theorem dX12_leastWith_32 : decode cX12_leastWith 32 = .ok (.ifCond .lt 11, 3) := by decide +kernel
theorem dX12_leastWith_35 : decode cX12_leastWith 35 = .ok (.aload_n 1, 1) := by decide +kernel
theorem dX12_leastWith_36 : decode cX12_leastWith 36 = .ok (.iload 4, 2) := by decide +kernel
theorem dX12_leastWith_38 : decode cX12_leastWith 38 = .ok (.iaload, 1) := by decide +kernel
theorem dX12_leastWith_39 : decode cX12_leastWith 39 = .ok (.iload_n 3, 1) := by decide +kernel
theorem dX12_leastWith_40 : decode cX12_leastWith 40 = .ok (.if_icmp .ge 8, 3) := by decide +kernel
theorem dX12_leastWith_43 : decode cX12_leastWith 43 = .ok (.aload_n 1, 1) := by decide +kernel
theorem dX12_leastWith_44 : decode cX12_leastWith 44 = .ok (.iload 4, 2) := by decide +kernel
theorem dX12_leastWith_46 : decode cX12_leastWith 46 = .ok (.iaload, 1) := by decide +kernel
theorem dX12_leastWith_47 : decode cX12_leastWith 47 = .ok (.istore_n 3, 1) := by decide +kernel
theorem dX12_leastWith_48 : decode cX12_leastWith 48 = .ok (.iinc 4 1, 3) := by decide +kernel
theorem dX12_leastWith_51 : decode cX12_leastWith 51 = .ok (.goto (-45), 3) := by decide +kernel
theorem dX12_leastWith_54 : decode cX12_leastWith 54 = .ok (.iload_n 3, 1) := by decide +kernel
theorem dX12_leastWith_55 : decode cX12_leastWith 55 = .ok (.ireturn, 1) := by decide +kernel
set_option maxRecDepth 20000 in
theorem ggX12_soonest_X12_isSentence : GoodIn wsX12_soonest wsX12_isSentence := goodIn_r _ [7, 1, 8, 9, 6, 10, 78, 79, 80, 81, 82, 83, 84, 85, 86, 87, 88, 89, 90, 91, 92, 93, 94, 95, 96, 97] (by decide +kernel) (by decide +kernel)
set_option maxRecDepth 20000 in
theorem gX12_soonest_X12_isSentence : GoodIn wsX12_soonest (wsV RX12 135 RX12 yX12_isSentence wsX12_isSentence) := goodIn_app (goodIn_of _ (by decide +kernel)) ggX12_soonest_X12_isSentence
set_option maxRecDepth 20000 in
theorem ggX12_soonest_X12_growsFrom : GoodIn wsX12_soonest wsX12_growsFrom := goodIn_r _ [14, 1, 2, 15, 16, 17, 18, 6, 19, 20, 21, 22, 23, 24, 25, 26, 27, 28, 29, 30, 31, 32, 33, 34, 35, 36, 37, 38, 39, 40, 41, 42, 43, 44, 45, 46, 47, 48, 49, 50, 51, 52, 53, 54, 55, 56, 57, 58, 59, 60, 61, 62, 63, 64, 65, 66, 67, 68, 69, 70, 71, 72, 73, 78, 79, 80, 81, 82, 83, 84, 85, 86, 87, 88, 89, 90, 91, 92, 93, 94, 95, 96, 97] (by decide +kernel) (by decide +kernel)
set_option maxRecDepth 20000 in
theorem gX12_soonest_X12_growsFrom : GoodIn wsX12_soonest (wsV RX12 194 RX12 yX12_growsFrom wsX12_growsFrom) := goodIn_app (goodIn_of _ (by decide +kernel)) ggX12_soonest_X12_growsFrom
set_option maxRecDepth 20000 in
theorem ggX12_soonest_X12_leastWith : GoodIn wsX12_soonest wsX12_leastWith := goodIn_r _ [77, 16, 17, 18, 6, 19, 1, 20, 21, 22, 78, 79, 80, 81, 82, 83, 84, 85, 86, 87, 88, 89, 90, 91, 92, 93, 94, 95, 96, 97] (by decide +kernel) (by decide +kernel)
set_option maxRecDepth 20000 in
theorem gX12_soonest_X12_leastWith : GoodIn wsX12_soonest (wsV RX12 197 RX12 yX12_leastWith wsX12_leastWith) := goodIn_app (goodIn_of _ (by decide +kernel)) ggX12_soonest_X12_leastWith
theorem dX12_soonest_0 : decode cX12_soonest 0 = .ok (.aload_n 0, 1) := by decide +kernel
theorem dX12_soonest_1 : decode cX12_soonest 1 = .ok (.iload_n 1, 1) := by decide +kernel
theorem dX12_soonest_2 : decode cX12_soonest 2 = .ok (.invokevirtual 135, 3) := by decide +kernel
theorem dX12_soonest_5 : decode cX12_soonest 5 = .ok (.ifCond .ne 5, 3) := by decide +kernel
theorem dX12_soonest_8 : decode cX12_soonest 8 = .ok (.iconst (-1), 1) := by decide +kernel
theorem dX12_soonest_9 : decode cX12_soonest 9 = .ok (.ireturn, 1) := by decide +kernel
theorem dX12_soonest_10 : decode cX12_soonest 10 = .ok (.aload_n 0, 1) := by decide +kernel
theorem dX12_soonest_11 : decode cX12_soonest 11 = .ok (.aload_n 0, 1) := by decide +kernel
theorem dX12_soonest_12 : decode cX12_soonest 12 = .ok (.getfield 9, 3) := by decide +kernel
theorem dX12_soonest_15 : decode cX12_soonest 15 = .ok (.iconst 2, 1) := by decide +kernel
theorem dX12_soonest_16 : decode cX12_soonest 16 = .ok (.iaload, 1) := by decide +kernel
theorem dX12_soonest_17 : decode cX12_soonest 17 = .ok (.invokevirtual 194, 3) := by decide +kernel
theorem dX12_soonest_20 : decode cX12_soonest 20 = .ok (.aload_n 0, 1) := by decide +kernel
theorem dX12_soonest_21 : decode cX12_soonest 21 = .ok (.aload_n 0, 1) := by decide +kernel
theorem dX12_soonest_22 : decode cX12_soonest 22 = .ok (.getfield 43, 3) := by decide +kernel
theorem dX12_soonest_25 : decode cX12_soonest 25 = .ok (.iload_n 1, 1) := by decide +kernel
theorem dX12_soonest_26 : decode cX12_soonest 26 = .ok (.invokevirtual 197, 3) := by decide +kernel
theorem dX12_soonest_29 : decode cX12_soonest 29 = .ok (.ireturn, 1) := by decide +kernel
set_option maxRecDepth 20000 in
theorem ggX12_first_X12_isSentence : GoodIn wsX12_first wsX12_isSentence := goodIn_r _ [7, 1, 8, 9, 6, 10, 78, 79, 80, 81, 82, 83, 84, 85, 86, 87, 88, 89, 90, 91, 92, 93, 94, 95, 96, 97] (by decide +kernel) (by decide +kernel)
set_option maxRecDepth 20000 in
theorem gX12_first_X12_isSentence : GoodIn wsX12_first (wsV RX12 135 RX12 yX12_isSentence wsX12_isSentence) := goodIn_app (goodIn_of _ (by decide +kernel)) ggX12_first_X12_isSentence
set_option maxRecDepth 20000 in
theorem ggX12_first_X12_growsFrom : GoodIn wsX12_first wsX12_growsFrom := goodIn_r _ [14, 1, 2, 15, 16, 17, 18, 6, 19, 20, 21, 22, 23, 24, 25, 26, 27, 28, 29, 30, 31, 32, 33, 34, 35, 36, 37, 38, 39, 40, 41, 42, 43, 44, 45, 46, 47, 48, 49, 50, 51, 52, 53, 54, 55, 56, 57, 58, 59, 60, 61, 62, 63, 64, 65, 66, 67, 68, 69, 70, 71, 72, 73, 78, 79, 80, 81, 82, 83, 84, 85, 86, 87, 88, 89, 90, 91, 92, 93, 94, 95, 96, 97] (by decide +kernel) (by decide +kernel)
set_option maxRecDepth 20000 in
theorem gX12_first_X12_growsFrom : GoodIn wsX12_first (wsV RX12 194 RX12 yX12_growsFrom wsX12_growsFrom) := goodIn_app (goodIn_of _ (by decide +kernel)) ggX12_first_X12_growsFrom
set_option maxRecDepth 20000 in
theorem ggX12_first_X12_leastWith : GoodIn wsX12_first wsX12_leastWith := goodIn_r _ [77, 16, 17, 18, 6, 19, 1, 20, 21, 22, 78, 79, 80, 81, 82, 83, 84, 85, 86, 87, 88, 89, 90, 91, 92, 93, 94, 95, 96, 97] (by decide +kernel) (by decide +kernel)
set_option maxRecDepth 20000 in
theorem gX12_first_X12_leastWith : GoodIn wsX12_first (wsV RX12 197 RX12 yX12_leastWith wsX12_leastWith) := goodIn_app (goodIn_of _ (by decide +kernel)) ggX12_first_X12_leastWith
set_option maxRecDepth 20000 in
theorem ggX12_first_X12_has : GoodIn wsX12_first wsX12_has := goodIn_r _ [22] (by decide +kernel) (by decide +kernel)
set_option maxRecDepth 20000 in
theorem gX12_first_X12_has : GoodIn wsX12_first (va_wsS RX12 66 yX12_has wsX12_has) := goodIn_app (goodIn_of _ (by decide +kernel)) ggX12_first_X12_has
theorem dX12_first_0 : decode cX12_first 0 = .ok (.aload_n 0, 1) := by decide +kernel
theorem dX12_first_1 : decode cX12_first 1 = .ok (.iload_n 1, 1) := by decide +kernel
theorem dX12_first_2 : decode cX12_first 2 = .ok (.invokevirtual 135, 3) := by decide +kernel
theorem dX12_first_5 : decode cX12_first 5 = .ok (.ifCond .ne 5, 3) := by decide +kernel
theorem dX12_first_8 : decode cX12_first 8 = .ok (.iconst (-1), 1) := by decide +kernel
theorem dX12_first_9 : decode cX12_first 9 = .ok (.ireturn, 1) := by decide +kernel
theorem dX12_first_10 : decode cX12_first 10 = .ok (.aload_n 0, 1) := by decide +kernel
theorem dX12_first_11 : decode cX12_first 11 = .ok (.aload_n 0, 1) := by decide +kernel
theorem dX12_first_12 : decode cX12_first 12 = .ok (.getfield 9, 3) := by decide +kernel
theorem dX12_first_15 : decode cX12_first 15 = .ok (.iconst 2, 1) := by decide +kernel
theorem dX12_first_16 : decode cX12_first 16 = .ok (.iaload, 1) := by decide +kernel
theorem dX12_first_17 : decode cX12_first 17 = .ok (.invokevirtual 194, 3) := by decide +kernel
theorem dX12_first_20 : decode cX12_first 20 = .ok (.aload_n 0, 1) := by decide +kernel
theorem dX12_first_21 : decode cX12_first 21 = .ok (.aload_n 0, 1) := by decide +kernel
theorem dX12_first_22 : decode cX12_first 22 = .ok (.getfield 43, 3) := by decide +kernel
theorem dX12_first_25 : decode cX12_first 25 = .ok (.iload_n 1, 1) := by decide +kernel
theorem dX12_first_26 : decode cX12_first 26 = .ok (.invokevirtual 197, 3) := by decide +kernel
theorem dX12_first_29 : decode cX12_first 29 = .ok (.istore_n 2, 1) := by decide +kernel
theorem dX12_first_30 : decode cX12_first 30 = .ok (.aload_n 0, 1) := by decide +kernel
theorem dX12_first_31 : decode cX12_first 31 = .ok (.getfield 9, 3) := by decide +kernel
theorem dX12_first_34 : decode cX12_first 34 = .ok (.iconst 2, 1) := by decide +kernel
theorem dX12_first_35 : decode cX12_first 35 = .ok (.iaload, 1) := by decide +kernel
theorem dX12_first_36 : decode cX12_first 36 = .ok (.istore_n 3, 1) := by decide +kernel
theorem dX12_first_37 : decode cX12_first 37 = .ok (.iconst 0, 1) := by decide +kernel
theorem dX12_first_38 : decode cX12_first 38 = .ok (.istore 4, 2) := by decide +kernel
theorem dX12_first_40 : decode cX12_first 40 = .ok (.iload 4, 2) := by decide +kernel
theorem dX12_first_42 : decode cX12_first 42 = .ok (.aload_n 0, 1) := by decide +kernel
theorem dX12_first_43 : decode cX12_first 43 = .ok (.getfield 9, 3) := by decide +kernel
theorem dX12_first_46 : decode cX12_first 46 = .ok (.iconst 0, 1) := by decide +kernel
theorem dX12_first_47 : decode cX12_first 47 = .ok (.iaload, 1) := by decide +kernel
theorem dX12_first_48 : decode cX12_first 48 = .ok (.if_icmp .ge 73, 3) := by decide +kernel
theorem dX12_first_51 : decode cX12_first 51 = .ok (.iload_n 2, 1) := by decide +kernel
theorem dX12_first_52 : decode cX12_first 52 = .ok (.ifCond .le 69, 3) := by decide +kernel
theorem dX12_first_55 : decode cX12_first 55 = .ok (.aload_n 0, 1) := by decide +kernel
theorem dX12_first_56 : decode cX12_first 56 = .ok (.iload_n 3, 1) := by decide +kernel
theorem dX12_first_57 : decode cX12_first 57 = .ok (.invokevirtual 194, 3) := by decide +kernel
theorem dX12_first_60 : decode cX12_first 60 = .ok (.iload_n 3, 1) := by decide +kernel
theorem dX12_first_61 : decode cX12_first 61 = .ok (.iload 4, 2) := by decide +kernel
theorem dX12_first_63 : decode cX12_first 63 = .ok (.invokestatic 66, 3) := by decide +kernel
theorem dX12_first_66 : decode cX12_first 66 = .ok (.ifCond .ne 49, 3) := by decide +kernel
theorem dX12_first_69 : decode cX12_first 69 = .ok (.aload_n 0, 1) := by decide +kernel
theorem dX12_first_70 : decode cX12_first 70 = .ok (.getfield 43, 3) := by decide +kernel
theorem dX12_first_73 : decode cX12_first 73 = .ok (.iload_n 3, 1) := by decide +kernel
theorem dX12_first_74 : decode cX12_first 74 = .ok (.iconst 1, 1) := by decide +kernel
theorem dX12_first_75 : decode cX12_first 75 = .ok (.iload 4, 2) := by decide +kernel
theorem dX12_first_77 : decode cX12_first 77 = .ok (.ishl, 1) := by decide +kernel
theorem dX12_first_78 : decode cX12_first 78 = .ok (.ior, 1) := by decide +kernel
theorem dX12_first_79 : decode cX12_first 79 = .ok (.iaload, 1) := by decide +kernel
theorem dX12_first_80 : decode cX12_first 80 = .ok (.iconst 1, 1) := by decide +kernel
theorem dX12_first_81 : decode cX12_first 81 = .ok (.if_icmp .eq 6, 3) := by decide +kernel
theorem dX12_first_84 : decode cX12_first 84 = .ok (.goto 31, 3) := by decide +kernel
theorem dX12_first_87 : decode cX12_first 87 = .ok (.aload_n 0, 1) := by decide +kernel
theorem dX12_first_88 : decode cX12_first 88 = .ok (.iload_n 3, 1) := by decide +kernel
theorem dX12_first_89 : decode cX12_first 89 = .ok (.iconst 1, 1) := by decide +kernel
theorem dX12_first_90 : decode cX12_first 90 = .ok (.iload 4, 2) := by decide +kernel
theorem dX12_first_92 : decode cX12_first 92 = .ok (.ishl, 1) := by decide +kernel
theorem dX12_first_93 : decode cX12_first 93 = .ok (.ior, 1) := by decide +kernel
theorem dX12_first_94 : decode cX12_first 94 = .ok (.invokevirtual 194, 3) := by decide +kernel
theorem dX12_first_97 : decode cX12_first 97 = .ok (.aload_n 0, 1) := by decide +kernel
theorem dX12_first_98 : decode cX12_first 98 = .ok (.aload_n 0, 1) := by decide +kernel
theorem dX12_first_99 : decode cX12_first 99 = .ok (.getfield 43, 3) := by decide +kernel
theorem dX12_first_102 : decode cX12_first 102 = .ok (.iload_n 1, 1) := by decide +kernel
theorem dX12_first_103 : decode cX12_first 103 = .ok (.invokevirtual 197, 3) := by decide +kernel
theorem dX12_first_106 : decode cX12_first 106 = .ok (.iload_n 2, 1) := by decide +kernel
theorem dX12_first_107 : decode cX12_first 107 = .ok (.iconst 1, 1) := by decide +kernel
theorem dX12_first_108 : decode cX12_first 108 = .ok (.isub, 1) := by decide +kernel
theorem dX12_first_109 : decode cX12_first 109 = .ok (.if_icmp .ne 6, 3) := by decide +kernel
theorem dX12_first_112 : decode cX12_first 112 = .ok (.iload 4, 2) := by decide +kernel
theorem dX12_first_114 : decode cX12_first 114 = .ok (.ireturn, 1) := by decide +kernel
theorem dX12_first_115 : decode cX12_first 115 = .ok (.iinc 4 1, 3) := by decide +kernel
theorem dX12_first_118 : decode cX12_first 118 = .ok (.goto (-78), 3) := by decide +kernel
theorem dX12_first_121 : decode cX12_first 121 = .ok (.bipush (-4), 2) := by decide +kernel
theorem dX12_first_123 : decode cX12_first 123 = .ok (.ireturn, 1) := by decide +kernel
set_option maxRecDepth 20000 in
theorem ggX12_easiest_X12_isSentence : GoodIn wsX12_easiest wsX12_isSentence := goodIn_r _ [7, 1, 8, 9, 6, 10, 78, 79, 80, 81, 82, 83, 84, 85, 86, 87, 88, 89, 90, 91, 92, 93, 94, 95, 96, 97] (by decide +kernel) (by decide +kernel)
set_option maxRecDepth 20000 in
theorem gX12_easiest_X12_isSentence : GoodIn wsX12_easiest (wsV RX12 135 RX12 yX12_isSentence wsX12_isSentence) := goodIn_app (goodIn_of _ (by decide +kernel)) ggX12_easiest_X12_isSentence
set_option maxRecDepth 20000 in
theorem ggX12_easiest_X12_growsFrom : GoodIn wsX12_easiest wsX12_growsFrom := goodIn_r _ [14, 1, 15, 2, 16, 17, 18, 6, 19, 20, 21, 22, 23, 24, 25, 26, 27, 28, 29, 30, 31, 32, 33, 34, 35, 36, 37, 38, 39, 40, 41, 42, 43, 44, 45, 46, 47, 48, 49, 50, 51, 52, 53, 54, 55, 56, 57, 58, 59, 60, 61, 62, 63, 64, 65, 66, 67, 68, 69, 70, 71, 72, 73, 78, 79, 80, 81, 82, 83, 84, 85, 86, 87, 88, 89, 90, 91, 92, 93, 94, 95, 96, 97] (by decide +kernel) (by decide +kernel)
set_option maxRecDepth 20000 in
theorem gX12_easiest_X12_growsFrom : GoodIn wsX12_easiest (wsV RX12 194 RX12 yX12_growsFrom wsX12_growsFrom) := goodIn_app (goodIn_of _ (by decide +kernel)) ggX12_easiest_X12_growsFrom
set_option maxRecDepth 20000 in
theorem ggX12_easiest_X12_leastWith : GoodIn wsX12_easiest wsX12_leastWith := goodIn_r _ [77, 16, 17, 18, 6, 19, 1, 20, 21, 22, 78, 79, 80, 81, 82, 83, 84, 85, 86, 87, 88, 89, 90, 91, 92, 93, 94, 95, 96, 97] (by decide +kernel) (by decide +kernel)
set_option maxRecDepth 20000 in
theorem gX12_easiest_X12_leastWith : GoodIn wsX12_easiest (wsV RX12 197 RX12 yX12_leastWith wsX12_leastWith) := goodIn_app (goodIn_of _ (by decide +kernel)) ggX12_easiest_X12_leastWith
theorem dX12_easiest_0 : decode cX12_easiest 0 = .ok (.aload_n 0, 1) := by decide +kernel
theorem dX12_easiest_1 : decode cX12_easiest 1 = .ok (.iload_n 1, 1) := by decide +kernel
theorem dX12_easiest_2 : decode cX12_easiest 2 = .ok (.invokevirtual 135, 3) := by decide +kernel
theorem dX12_easiest_5 : decode cX12_easiest 5 = .ok (.ifCond .ne 5, 3) := by decide +kernel
theorem dX12_easiest_8 : decode cX12_easiest 8 = .ok (.iconst (-1), 1) := by decide +kernel
theorem dX12_easiest_9 : decode cX12_easiest 9 = .ok (.ireturn, 1) := by decide +kernel
theorem dX12_easiest_10 : decode cX12_easiest 10 = .ok (.aload_n 0, 1) := by decide +kernel
theorem dX12_easiest_11 : decode cX12_easiest 11 = .ok (.aload_n 0, 1) := by decide +kernel
theorem dX12_easiest_12 : decode cX12_easiest 12 = .ok (.getfield 9, 3) := by decide +kernel
theorem dX12_easiest_15 : decode cX12_easiest 15 = .ok (.iconst 2, 1) := by decide +kernel
theorem dX12_easiest_16 : decode cX12_easiest 16 = .ok (.iaload, 1) := by decide +kernel
theorem dX12_easiest_17 : decode cX12_easiest 17 = .ok (.invokevirtual 194, 3) := by decide +kernel
theorem dX12_easiest_20 : decode cX12_easiest 20 = .ok (.aload_n 0, 1) := by decide +kernel
theorem dX12_easiest_21 : decode cX12_easiest 21 = .ok (.aload_n 0, 1) := by decide +kernel
theorem dX12_easiest_22 : decode cX12_easiest 22 = .ok (.getfield 46, 3) := by decide +kernel
theorem dX12_easiest_25 : decode cX12_easiest 25 = .ok (.iload_n 1, 1) := by decide +kernel
theorem dX12_easiest_26 : decode cX12_easiest 26 = .ok (.invokevirtual 197, 3) := by decide +kernel
theorem dX12_easiest_29 : decode cX12_easiest 29 = .ok (.ireturn, 1) := by decide +kernel
set_option maxRecDepth 20000 in
theorem ggX12_all_X12_growsFrom : GoodIn wsX12_all wsX12_growsFrom := goodIn_r _ [7, 1, 8, 2, 9, 10, 11, 6, 12, 13, 14, 15, 16, 17, 18, 19, 20, 21, 22, 23, 24, 25, 26, 27, 28, 29, 30, 31, 32, 33, 34, 35, 36, 37, 38, 39, 40, 41, 42, 43, 44, 45, 46, 47, 48, 49, 50, 51, 52, 53, 54, 55, 56, 57, 58, 59, 60, 61, 62, 63, 64, 65, 66, 71, 72, 73, 74, 75, 76, 77, 78, 79, 80, 81, 82, 83, 84, 85, 86, 87, 88, 89, 90] (by decide +kernel) (by decide +kernel)
set_option maxRecDepth 20000 in
theorem gX12_all_X12_growsFrom : GoodIn wsX12_all (wsV RX12 194 RX12 yX12_growsFrom wsX12_growsFrom) := goodIn_app (goodIn_of _ (by decide +kernel)) ggX12_all_X12_growsFrom
set_option maxRecDepth 20000 in
theorem ggX12_all_X12_everNow : GoodIn wsX12_all wsX12_everNow := goodIn_r _ [70, 1, 20, 21, 22, 6, 23, 24, 25, 26, 27, 13, 14, 15, 28, 29, 30, 31, 32, 33, 34, 35, 36, 37, 38, 39, 40, 41, 42, 43, 44, 45, 46, 47, 48, 49, 50, 51, 52, 53, 54, 55, 56, 57, 58, 59, 71, 72, 73, 74, 75, 76, 77, 78, 79, 80, 81, 82, 83, 84, 85, 86, 87, 88, 89, 90] (by decide +kernel) (by decide +kernel)
set_option maxRecDepth 20000 in
theorem gX12_all_X12_everNow : GoodIn wsX12_all (wsV RX12 188 RX12 yX12_everNow wsX12_everNow) := goodIn_app (goodIn_of _ (by decide +kernel)) ggX12_all_X12_everNow
theorem dX12_all_0 : decode cX12_all 0 = .ok (.aload_n 0, 1) := by decide +kernel
theorem dX12_all_1 : decode cX12_all 1 = .ok (.aload_n 0, 1) := by decide +kernel
theorem dX12_all_2 : decode cX12_all 2 = .ok (.getfield 9, 3) := by decide +kernel
theorem dX12_all_5 : decode cX12_all 5 = .ok (.iconst 2, 1) := by decide +kernel
theorem dX12_all_6 : decode cX12_all 6 = .ok (.iaload, 1) := by decide +kernel
theorem dX12_all_7 : decode cX12_all 7 = .ok (.invokevirtual 194, 3) := by decide +kernel
theorem dX12_all_10 : decode cX12_all 10 = .ok (.aload_n 0, 1) := by decide +kernel
theorem dX12_all_11 : decode cX12_all 11 = .ok (.getfield 46, 3) := by decide +kernel
theorem dX12_all_14 : decode cX12_all 14 = .ok (.aload_n 0, 1) := by decide +kernel
theorem dX12_all_15 : decode cX12_all 15 = .ok (.invokevirtual 188, 3) := by decide +kernel
theorem dX12_all_18 : decode cX12_all 18 = .ok (.iaload, 1) := by decide +kernel
theorem dX12_all_19 : decode cX12_all 19 = .ok (.ireturn, 1) := by decide +kernel
set_option maxRecDepth 20000 in
theorem ggX12_atOnce_X12_isIn : GoodIn wsX12_atOnce wsX12_isIn := goodIn_r _ [6] (by decide +kernel) (by decide +kernel)
set_option maxRecDepth 20000 in
theorem gX12_atOnce_X12_isIn : GoodIn wsX12_atOnce (va_wsS RX12 58 yX12_isIn wsX12_isIn) := goodIn_app (goodIn_of _ (by decide +kernel)) ggX12_atOnce_X12_isIn
set_option maxRecDepth 20000 in
theorem ggX12_atOnce_X12_silencesOf : GoodIn wsX12_atOnce wsX12_silencesOf := goodIn_r _ [10, 2, 11, 12, 13, 5, 14, 15, 16, 17, 18, 19, 20, 21, 22, 23, 24, 25, 26, 27, 28, 29, 30, 31, 32, 33, 34, 35, 36, 37, 38, 39, 40, 41, 42, 43, 44, 45, 46, 47, 48, 49, 64, 65, 66, 67, 68, 69, 70, 71, 72, 73, 74, 75, 76, 77, 78, 79, 80, 81, 82, 83] (by decide +kernel) (by decide +kernel)
set_option maxRecDepth 20000 in
theorem gX12_atOnce_X12_silencesOf : GoodIn wsX12_atOnce (wsV RX12 176 RX12 yX12_silencesOf wsX12_silencesOf) := goodIn_app (goodIn_of _ (by decide +kernel)) ggX12_atOnce_X12_silencesOf
set_option maxRecDepth 20000 in
theorem ggX12_atOnce_X12_everything : GoodIn wsX12_atOnce wsX12_everything := goodIn_r _ [53, 2, 64, 65, 66, 67, 68, 69, 70, 71, 72, 73, 74, 75, 76, 77, 78, 79, 80, 81, 82, 83] (by decide +kernel) (by decide +kernel)
set_option maxRecDepth 20000 in
theorem gX12_atOnce_X12_everything : GoodIn wsX12_atOnce (wsV RX12 182 RX12 yX12_everything wsX12_everything) := goodIn_app (goodIn_of _ (by decide +kernel)) ggX12_atOnce_X12_everything
set_option maxRecDepth 20000 in
theorem ggX12_atOnce_X12_has : GoodIn wsX12_atOnce wsX12_has := goodIn_r _ [17] (by decide +kernel) (by decide +kernel)
set_option maxRecDepth 20000 in
theorem gX12_atOnce_X12_has : GoodIn wsX12_atOnce (va_wsS RX12 66 yX12_has wsX12_has) := goodIn_app (goodIn_of _ (by decide +kernel)) ggX12_atOnce_X12_has
set_option maxRecDepth 20000 in
theorem ggX12_atOnce_X12_priceOf : GoodIn wsX12_atOnce wsX12_priceOf := goodIn_r _ [57, 30, 31, 32, 5, 33, 2, 58, 59, 60, 64, 65, 66, 67, 68, 69, 70, 71, 72, 73, 74, 75, 76, 77, 78, 79, 80, 81, 82, 83] (by decide +kernel) (by decide +kernel)
set_option maxRecDepth 20000 in
theorem gX12_atOnce_X12_priceOf : GoodIn wsX12_atOnce (wsV RX12 163 RX12 yX12_priceOf wsX12_priceOf) := goodIn_app (goodIn_of _ (by decide +kernel)) ggX12_atOnce_X12_priceOf
set_option maxRecDepth 20000 in
theorem ggX12_atOnce_X12_bits : GoodIn wsX12_atOnce wsX12_bits := goodIn_r _ [63] (by decide +kernel) (by decide +kernel)
set_option maxRecDepth 20000 in
theorem gX12_atOnce_X12_bits : GoodIn wsX12_atOnce (va_wsS RX12 93 yX12_bits wsX12_bits) := goodIn_app (goodIn_of _ (by decide +kernel)) ggX12_atOnce_X12_bits
theorem dX12_atOnce_0 : decode cX12_atOnce 0 = .ok (.iload_n 1, 1) := by decide +kernel
theorem dX12_atOnce_1 : decode cX12_atOnce 1 = .ok (.i2l, 1) := by decide +kernel
theorem dX12_atOnce_2 : decode cX12_atOnce 2 = .ok (.lconst 0, 1) := by decide +kernel
theorem dX12_atOnce_3 : decode cX12_atOnce 3 = .ok (.lconst 1, 1) := by decide +kernel
theorem dX12_atOnce_4 : decode cX12_atOnce 4 = .ok (.invokestatic 58, 3) := by decide +kernel
theorem dX12_atOnce_7 : decode cX12_atOnce 7 = .ok (.ifCond .ne 5, 3) := by decide +kernel
theorem dX12_atOnce_10 : decode cX12_atOnce 10 = .ok (.iconst (-1), 1) := by decide +kernel
theorem dX12_atOnce_11 : decode cX12_atOnce 11 = .ok (.ireturn, 1) := by decide +kernel
theorem dX12_atOnce_12 : decode cX12_atOnce 12 = .ok (.iconst 0, 1) := by decide +kernel
theorem dX12_atOnce_13 : decode cX12_atOnce 13 = .ok (.istore_n 2, 1) := by decide +kernel
theorem dX12_atOnce_14 : decode cX12_atOnce 14 = .ok (.iload_n 2, 1) := by decide +kernel
theorem dX12_atOnce_15 : decode cX12_atOnce 15 = .ok (.sipush 512, 3) := by decide +kernel
theorem dX12_atOnce_18 : decode cX12_atOnce 18 = .ok (.if_icmp .ge 25, 3) := by decide +kernel
theorem dX12_atOnce_21 : decode cX12_atOnce 21 = .ok (.aload_n 0, 1) := by decide +kernel
theorem dX12_atOnce_22 : decode cX12_atOnce 22 = .ok (.getfield 49, 3) := by decide +kernel
theorem dX12_atOnce_25 : decode cX12_atOnce 25 = .ok (.iload_n 2, 1) := by decide +kernel
theorem dX12_atOnce_26 : decode cX12_atOnce 26 = .ok (.iload_n 2, 1) := by decide +kernel
theorem dX12_atOnce_27 : decode cX12_atOnce 27 = .ok (.ifCond .ne 7, 3) := by decide +kernel
theorem dX12_atOnce_30 : decode cX12_atOnce 30 = .ok (.iconst 0, 1) := by decide +kernel
theorem dX12_atOnce_31 : decode cX12_atOnce 31 = .ok (.goto 5, 3) := by decide +kernel
theorem dX12_atOnce_34 : decode cX12_atOnce 34 = .ok (.bipush (-4), 2) := by decide +kernel
theorem dX12_atOnce_36 : decode cX12_atOnce 36 = .ok (.iastore, 1) := by decide +kernel
theorem dX12_atOnce_37 : decode cX12_atOnce 37 = .ok (.iinc 2 1, 3) := by decide +kernel
theorem dX12_atOnce_40 : decode cX12_atOnce 40 = .ok (.goto (-26), 3) := by decide +kernel
theorem dX12_atOnce_43 : decode cX12_atOnce 43 = .ok (.iconst 0, 1) := by decide +kernel
theorem dX12_atOnce_44 : decode cX12_atOnce 44 = .ok (.istore_n 2, 1) := by decide +kernel
theorem dX12_atOnce_45 : decode cX12_atOnce 45 = .ok (.iload_n 2, 1) := by decide +kernel
theorem dX12_atOnce_46 : decode cX12_atOnce 46 = .ok (.aload_n 0, 1) := by decide +kernel
theorem dX12_atOnce_47 : decode cX12_atOnce 47 = .ok (.getfield 9, 3) := by decide +kernel
theorem dX12_atOnce_50 : decode cX12_atOnce 50 = .ok (.iconst 1, 1) := by decide +kernel
theorem dX12_atOnce_51 : decode cX12_atOnce 51 = .ok (.iaload, 1) := by decide +kernel
theorem dX12_atOnce_52 : decode cX12_atOnce 52 = .ok (.if_icmp .ge 140, 3) := by decide +kernel
theorem dX12_atOnce_55 : decode cX12_atOnce 55 = .ok (.aload_n 0, 1) := by decide +kernel
theorem dX12_atOnce_56 : decode cX12_atOnce 56 = .ok (.iload_n 2, 1) := by decide +kernel
theorem dX12_atOnce_57 : decode cX12_atOnce 57 = .ok (.aload_n 0, 1) := by decide +kernel
theorem dX12_atOnce_58 : decode cX12_atOnce 58 = .ok (.getfield 9, 3) := by decide +kernel
theorem dX12_atOnce_61 : decode cX12_atOnce 61 = .ok (.iconst 3, 1) := by decide +kernel
theorem dX12_atOnce_62 : decode cX12_atOnce 62 = .ok (.iaload, 1) := by decide +kernel
theorem dX12_atOnce_63 : decode cX12_atOnce 63 = .ok (.invokevirtual 176, 3) := by decide +kernel
theorem dX12_atOnce_66 : decode cX12_atOnce 66 = .ok (.istore_n 3, 1) := by decide +kernel
theorem dX12_atOnce_67 : decode cX12_atOnce 67 = .ok (.aload_n 0, 1) := by decide +kernel
theorem dX12_atOnce_68 : decode cX12_atOnce 68 = .ok (.invokevirtual 182, 3) := by decide +kernel
theorem dX12_atOnce_71 : decode cX12_atOnce 71 = .ok (.istore 4, 2) := by decide +kernel
theorem dX12_atOnce_73 : decode cX12_atOnce 73 = .ok (.iload 4, 2) := by decide +kernel
theorem dX12_atOnce_75 : decode cX12_atOnce 75 = .ok (.ifCond .le 111, 3) := by decide +kernel
theorem dX12_atOnce_78 : decode cX12_atOnce 78 = .ok (.iconst 0, 1) := by decide +kernel
theorem dX12_atOnce_79 : decode cX12_atOnce 79 = .ok (.istore 5, 2) := by decide +kernel
theorem dX12_atOnce_81 : decode cX12_atOnce 81 = .ok (.iload 5, 2) := by decide +kernel
theorem dX12_atOnce_83 : decode cX12_atOnce 83 = .ok (.aload_n 0, 1) := by decide +kernel
theorem dX12_atOnce_84 : decode cX12_atOnce 84 = .ok (.getfield 9, 3) := by decide +kernel
theorem dX12_atOnce_87 : decode cX12_atOnce 87 = .ok (.iconst 0, 1) := by decide +kernel
theorem dX12_atOnce_88 : decode cX12_atOnce 88 = .ok (.iaload, 1) := by decide +kernel
theorem dX12_atOnce_89 : decode cX12_atOnce 89 = .ok (.if_icmp .ge 91, 3) := by decide +kernel
theorem dX12_atOnce_92 : decode cX12_atOnce 92 = .ok (.iload 4, 2) := by decide +kernel
theorem dX12_atOnce_94 : decode cX12_atOnce 94 = .ok (.iconst 1, 1) := by decide +kernel
theorem dX12_atOnce_95 : decode cX12_atOnce 95 = .ok (.iload 5, 2) := by decide +kernel
theorem dX12_atOnce_97 : decode cX12_atOnce 97 = .ok (.ishl, 1) := by decide +kernel
theorem dX12_atOnce_98 : decode cX12_atOnce 98 = .ok (.iconst (-1), 1) := by decide +kernel
theorem dX12_atOnce_99 : decode cX12_atOnce 99 = .ok (.ixor, 1) := by decide +kernel
theorem dX12_atOnce_100 : decode cX12_atOnce 100 = .ok (.iand, 1) := by decide +kernel
theorem dX12_atOnce_101 : decode cX12_atOnce 101 = .ok (.istore 6, 2) := by decide +kernel
theorem dX12_atOnce_103 : decode cX12_atOnce 103 = .ok (.iload 4, 2) := by decide +kernel
theorem dX12_atOnce_105 : decode cX12_atOnce 105 = .ok (.iload_n 3, 1) := by decide +kernel
theorem dX12_atOnce_106 : decode cX12_atOnce 106 = .ok (.iand, 1) := by decide +kernel
theorem dX12_atOnce_107 : decode cX12_atOnce 107 = .ok (.iload 5, 2) := by decide +kernel
theorem dX12_atOnce_109 : decode cX12_atOnce 109 = .ok (.invokestatic 66, 3) := by decide +kernel
theorem dX12_atOnce_112 : decode cX12_atOnce 112 = .ok (.ifCond .eq 62, 3) := by decide +kernel
theorem dX12_atOnce_115 : decode cX12_atOnce 115 = .ok (.aload_n 0, 1) := by decide +kernel
theorem dX12_atOnce_116 : decode cX12_atOnce 116 = .ok (.getfield 49, 3) := by decide +kernel
theorem dX12_atOnce_119 : decode cX12_atOnce 119 = .ok (.iload 6, 2) := by decide +kernel
theorem dX12_atOnce_121 : decode cX12_atOnce 121 = .ok (.iaload, 1) := by decide +kernel
theorem dX12_atOnce_122 : decode cX12_atOnce 122 = .ok (.ifCond .ge 6, 3) := by decide +kernel
theorem dX12_atOnce_125 : decode cX12_atOnce 125 = .ok (.goto 49, 3) := by decide +kernel
theorem dX12_atOnce_128 : decode cX12_atOnce 128 = .ok (.aload_n 0, 1) := by decide +kernel
theorem dX12_atOnce_129 : decode cX12_atOnce 129 = .ok (.getfield 49, 3) := by decide +kernel
theorem dX12_atOnce_132 : decode cX12_atOnce 132 = .ok (.iload 6, 2) := by decide +kernel
theorem dX12_atOnce_134 : decode cX12_atOnce 134 = .ok (.iaload, 1) := by decide +kernel
theorem dX12_atOnce_135 : decode cX12_atOnce 135 = .ok (.aload_n 0, 1) := by decide +kernel
theorem dX12_atOnce_136 : decode cX12_atOnce 136 = .ok (.iload_n 2, 1) := by decide +kernel
theorem dX12_atOnce_137 : decode cX12_atOnce 137 = .ok (.invokevirtual 163, 3) := by decide +kernel
theorem dX12_atOnce_140 : decode cX12_atOnce 140 = .ok (.iadd, 1) := by decide +kernel
theorem dX12_atOnce_141 : decode cX12_atOnce 141 = .ok (.istore 7, 2) := by decide +kernel
theorem dX12_atOnce_143 : decode cX12_atOnce 143 = .ok (.aload_n 0, 1) := by decide +kernel
theorem dX12_atOnce_144 : decode cX12_atOnce 144 = .ok (.getfield 49, 3) := by decide +kernel
theorem dX12_atOnce_147 : decode cX12_atOnce 147 = .ok (.iload 4, 2) := by decide +kernel
theorem dX12_atOnce_149 : decode cX12_atOnce 149 = .ok (.iaload, 1) := by decide +kernel
theorem dX12_atOnce_150 : decode cX12_atOnce 150 = .ok (.ifCond .lt 15, 3) := by decide +kernel
theorem dX12_atOnce_153 : decode cX12_atOnce 153 = .ok (.iload 7, 2) := by decide +kernel
theorem dX12_atOnce_155 : decode cX12_atOnce 155 = .ok (.aload_n 0, 1) := by decide +kernel
theorem dX12_atOnce_156 : decode cX12_atOnce 156 = .ok (.getfield 49, 3) := by decide +kernel
theorem dX12_atOnce_159 : decode cX12_atOnce 159 = .ok (.iload 4, 2) := by decide +kernel
theorem dX12_atOnce_161 : decode cX12_atOnce 161 = .ok (.iaload, 1) := by decide +kernel
theorem dX12_atOnce_162 : decode cX12_atOnce 162 = .ok (.if_icmp .ge 12, 3) := by decide +kernel
theorem dX12_atOnce_165 : decode cX12_atOnce 165 = .ok (.aload_n 0, 1) := by decide +kernel
theorem dX12_atOnce_166 : decode cX12_atOnce 166 = .ok (.getfield 49, 3) := by decide +kernel
theorem dX12_atOnce_169 : decode cX12_atOnce 169 = .ok (.iload 4, 2) := by decide +kernel
theorem dX12_atOnce_171 : decode cX12_atOnce 171 = .ok (.iload 7, 2) := by decide +kernel
theorem dX12_atOnce_173 : decode cX12_atOnce 173 = .ok (.iastore, 1) := by decide +kernel
theorem dX12_atOnce_174 : decode cX12_atOnce 174 = .ok (.iinc 5 1, 3) := by decide +kernel
theorem dX12_atOnce_177 : decode cX12_atOnce 177 = .ok (.goto (-96), 3) := by decide +kernel
theorem dX12_atOnce_180 : decode cX12_atOnce 180 = .ok (.iinc 4 (-1), 3) := by decide +kernel
theorem dX12_atOnce_183 : decode cX12_atOnce 183 = .ok (.goto (-110), 3) := by decide +kernel
theorem dX12_atOnce_186 : decode cX12_atOnce 186 = .ok (.iinc 2 1, 3) := by decide +kernel
theorem dX12_atOnce_189 : decode cX12_atOnce 189 = .ok (.goto (-144), 3) := by decide +kernel
theorem dX12_atOnce_192 : decode cX12_atOnce 192 = .ok (.iconst 0, 1) := by decide +kernel
theorem dX12_atOnce_193 : decode cX12_atOnce 193 = .ok (.istore_n 2, 1) := by decide +kernel
theorem dX12_atOnce_194 : decode cX12_atOnce 194 = .ok (.iconst 0, 1) := by decide +kernel
theorem dX12_atOnce_195 : decode cX12_atOnce 195 = .ok (.istore_n 3, 1) := by decide +kernel
theorem dX12_atOnce_196 : decode cX12_atOnce 196 = .ok (.iconst 0, 1) := by decide +kernel
theorem dX12_atOnce_197 : decode cX12_atOnce 197 = .ok (.istore 4, 2) := by decide +kernel
theorem dX12_atOnce_199 : decode cX12_atOnce 199 = .ok (.iload 4, 2) := by decide +kernel
theorem dX12_atOnce_201 : decode cX12_atOnce 201 = .ok (.aload_n 0, 1) := by decide +kernel
theorem dX12_atOnce_202 : decode cX12_atOnce 202 = .ok (.invokevirtual 182, 3) := by decide +kernel
theorem dX12_atOnce_205 : decode cX12_atOnce 205 = .ok (.if_icmp .gt 65, 3) := by decide +kernel
theorem dX12_atOnce_208 : decode cX12_atOnce 208 = .ok (.aload_n 0, 1) := by decide +kernel
theorem dX12_atOnce_209 : decode cX12_atOnce 209 = .ok (.getfield 49, 3) := by decide +kernel
theorem dX12_atOnce_212 : decode cX12_atOnce 212 = .ok (.iload 4, 2) := by decide +kernel
theorem dX12_atOnce_214 : decode cX12_atOnce 214 = .ok (.iaload, 1) := by decide +kernel
theorem dX12_atOnce_215 : decode cX12_atOnce 215 = .ok (.ifCond .lt 49, 3) := by decide +kernel
theorem dX12_atOnce_218 : decode cX12_atOnce 218 = .ok (.iload 4, 2) := by decide +kernel
theorem dX12_atOnce_220 : decode cX12_atOnce 220 = .ok (.invokestatic 93, 3) := by decide +kernel
theorem dX12_atOnce_223 : decode cX12_atOnce 223 = .ok (.iload_n 2, 1) := by decide +kernel
theorem dX12_atOnce_224 : decode cX12_atOnce 224 = .ok (.if_icmp .lt 40, 3) := by decide +kernel
theorem dX12_atOnce_227 : decode cX12_atOnce 227 = .ok (.iload 4, 2) := by decide +kernel
theorem dX12_atOnce_229 : decode cX12_atOnce 229 = .ok (.invokestatic 93, 3) := by decide +kernel
theorem dX12_atOnce_232 : decode cX12_atOnce 232 = .ok (.iload_n 2, 1) := by decide +kernel
theorem dX12_atOnce_233 : decode cX12_atOnce 233 = .ok (.if_icmp .ne 17, 3) := by decide +kernel
theorem dX12_atOnce_236 : decode cX12_atOnce 236 = .ok (.aload_n 0, 1) := by decide +kernel
theorem dX12_atOnce_237 : decode cX12_atOnce 237 = .ok (.getfield 49, 3) := by decide +kernel
theorem dX12_atOnce_240 : decode cX12_atOnce 240 = .ok (.iload 4, 2) := by decide +kernel
theorem dX12_atOnce_242 : decode cX12_atOnce 242 = .ok (.iaload, 1) := by decide +kernel
theorem dX12_atOnce_243 : decode cX12_atOnce 243 = .ok (.iload_n 3, 1) := by decide +kernel
theorem dX12_atOnce_244 : decode cX12_atOnce 244 = .ok (.if_icmp .lt 6, 3) := by decide +kernel
theorem dX12_atOnce_247 : decode cX12_atOnce 247 = .ok (.goto 17, 3) := by decide +kernel
theorem dX12_atOnce_250 : decode cX12_atOnce 250 = .ok (.iload 4, 2) := by decide +kernel
theorem dX12_atOnce_252 : decode cX12_atOnce 252 = .ok (.invokestatic 93, 3) := by decide +kernel
theorem dX12_atOnce_255 : decode cX12_atOnce 255 = .ok (.istore_n 2, 1) := by decide +kernel
theorem dX12_atOnce_256 : decode cX12_atOnce 256 = .ok (.aload_n 0, 1) := by decide +kernel
theorem dX12_atOnce_257 : decode cX12_atOnce 257 = .ok (.getfield 49, 3) := by decide +kernel
theorem dX12_atOnce_260 : decode cX12_atOnce 260 = .ok (.iload 4, 2) := by decide +kernel
theorem dX12_atOnce_262 : decode cX12_atOnce 262 = .ok (.iaload, 1) := by decide +kernel
theorem dX12_atOnce_263 : decode cX12_atOnce 263 = .ok (.istore_n 3, 1) := by decide +kernel
theorem dX12_atOnce_264 : decode cX12_atOnce 264 = .ok (.iinc 4 1, 3) := by decide +kernel
theorem dX12_atOnce_267 : decode cX12_atOnce 267 = .ok (.goto (-68), 3) := by decide +kernel
theorem dX12_atOnce_270 : decode cX12_atOnce 270 = .ok (.iload_n 1, 1) := by decide +kernel
theorem dX12_atOnce_271 : decode cX12_atOnce 271 = .ok (.ifCond .ne 7, 3) := by decide +kernel
theorem dX12_atOnce_274 : decode cX12_atOnce 274 = .ok (.iload_n 2, 1) := by decide +kernel
theorem dX12_atOnce_275 : decode cX12_atOnce 275 = .ok (.goto 4, 3) := by decide +kernel
theorem dX12_atOnce_278 : decode cX12_atOnce 278 = .ok (.iload_n 3, 1) := by decide +kernel
theorem dX12_atOnce_279 : decode cX12_atOnce 279 = .ok (.ireturn, 1) := by decide +kernel
set_option maxRecDepth 20000 in
theorem ggX12_hire_X12_isIn : GoodIn wsX12_hire wsX12_isIn := goodIn_r _ [5] (by decide +kernel) (by decide +kernel)
set_option maxRecDepth 20000 in
theorem gX12_hire_X12_isIn : GoodIn wsX12_hire (va_wsS RX12 58 yX12_isIn wsX12_isIn) := goodIn_app (goodIn_of _ (by decide +kernel)) ggX12_hire_X12_isIn
set_option maxRecDepth 20000 in
theorem ggX12_hire_X12_begins : GoodIn wsX12_hire wsX12_begins := goodIn_r _ [9, 10, 11, 12, 13, 4, 14, 77, 78, 79, 80, 81, 82, 83, 84, 85, 86, 87, 88, 89, 90, 91, 92, 93, 94, 95, 96] (by decide +kernel) (by decide +kernel)
set_option maxRecDepth 20000 in
theorem gX12_hire_X12_begins : GoodIn wsX12_hire (wsV RX12 203 RX12 yX12_begins wsX12_begins) := goodIn_app (goodIn_of _ (by decide +kernel)) ggX12_hire_X12_begins
set_option maxRecDepth 20000 in
theorem ggX12_hire_X12_joins : GoodIn wsX12_hire wsX12_joins := goodIn_r _ [18, 10, 19, 20, 21, 4, 22, 77, 78, 79, 80, 81, 82, 83, 84, 85, 86, 87, 88, 89, 90, 91, 92, 93, 94, 95, 96] (by decide +kernel) (by decide +kernel)
set_option maxRecDepth 20000 in
theorem gX12_hire_X12_joins : GoodIn wsX12_hire (wsV RX12 131 RX12 yX12_joins wsX12_joins) := goodIn_app (goodIn_of _ (by decide +kernel)) ggX12_hire_X12_joins
set_option maxRecDepth 20000 in
theorem ggX12_hire_X12_everNow : GoodIn wsX12_hire wsX12_everNow := goodIn_r _ [26, 10, 27, 28, 29, 4, 30, 31, 32, 33, 34, 35, 36, 37, 38, 39, 40, 41, 42, 43, 44, 45, 46, 47, 48, 49, 50, 51, 52, 53, 54, 55, 56, 57, 58, 59, 60, 61, 62, 63, 64, 65, 66, 67, 68, 69, 77, 78, 79, 80, 81, 82, 83, 84, 85, 86, 87, 88, 89, 90, 91, 92, 93, 94, 95, 96] (by decide +kernel) (by decide +kernel)
set_option maxRecDepth 20000 in
theorem gX12_hire_X12_everNow : GoodIn wsX12_hire (wsV RX12 188 RX12 yX12_everNow wsX12_everNow) := goodIn_app (goodIn_of _ (by decide +kernel)) ggX12_hire_X12_everNow
set_option maxRecDepth 20000 in
theorem ggX12_hire_X12_bits : GoodIn wsX12_hire wsX12_bits := goodIn_r _ [72] (by decide +kernel) (by decide +kernel)
set_option maxRecDepth 20000 in
theorem gX12_hire_X12_bits : GoodIn wsX12_hire (va_wsS RX12 93 yX12_bits wsX12_bits) := goodIn_app (goodIn_of _ (by decide +kernel)) ggX12_hire_X12_bits
set_option maxRecDepth 20000 in
theorem ggX12_hire_X12_ends : GoodIn wsX12_hire wsX12_ends := goodIn_r _ [76, 11, 10, 12, 13, 4, 14, 77, 78, 79, 80, 81, 82, 83, 84, 85, 86, 87, 88, 89, 90, 91, 92, 93, 94, 95, 96] (by decide +kernel) (by decide +kernel)
set_option maxRecDepth 20000 in
theorem gX12_hire_X12_ends : GoodIn wsX12_hire (wsV RX12 206 RX12 yX12_ends wsX12_ends) := goodIn_app (goodIn_of _ (by decide +kernel)) ggX12_hire_X12_ends
theorem dX12_hire_0 : decode cX12_hire 0 = .ok (.iload_n 1, 1) := by decide +kernel
theorem dX12_hire_1 : decode cX12_hire 1 = .ok (.i2l, 1) := by decide +kernel
theorem dX12_hire_2 : decode cX12_hire 2 = .ok (.lconst 0, 1) := by decide +kernel
theorem dX12_hire_3 : decode cX12_hire 3 = .ok (.ldc2_w 201, 3) := by decide +kernel
theorem dX12_hire_6 : decode cX12_hire 6 = .ok (.invokestatic 58, 3) := by decide +kernel
theorem dX12_hire_9 : decode cX12_hire 9 = .ok (.ifCond .eq 13, 3) := by decide +kernel
theorem dX12_hire_12 : decode cX12_hire 12 = .ok (.iload_n 2, 1) := by decide +kernel
theorem dX12_hire_13 : decode cX12_hire 13 = .ok (.i2l, 1) := by decide +kernel
theorem dX12_hire_14 : decode cX12_hire 14 = .ok (.lconst 0, 1) := by decide +kernel
theorem dX12_hire_15 : decode cX12_hire 15 = .ok (.lconst 1, 1) := by decide +kernel
theorem dX12_hire_16 : decode cX12_hire 16 = .ok (.invokestatic 58, 3) := by decide +kernel
theorem dX12_hire_19 : decode cX12_hire 19 = .ok (.ifCond .ne 5, 3) := by decide +kernel
theorem dX12_hire_22 : decode cX12_hire 22 = .ok (.iconst (-1), 1) := by decide +kernel
theorem dX12_hire_23 : decode cX12_hire 23 = .ok (.ireturn, 1) := by decide +kernel
theorem dX12_hire_24 : decode cX12_hire 24 = .ok (.bipush (-4), 2) := by decide +kernel
theorem dX12_hire_26 : decode cX12_hire 26 = .ok (.istore_n 3, 1) := by decide +kernel
theorem dX12_hire_27 : decode cX12_hire 27 = .ok (.bipush (-4), 2) := by decide +kernel
theorem dX12_hire_29 : decode cX12_hire 29 = .ok (.istore 4, 2) := by decide +kernel
theorem dX12_hire_31 : decode cX12_hire 31 = .ok (.aload_n 0, 1) := by decide +kernel
theorem dX12_hire_32 : decode cX12_hire 32 = .ok (.invokevirtual 203, 3) := by decide +kernel
theorem dX12_hire_35 : decode cX12_hire 35 = .ok (.iconst 0, 1) := by decide +kernel
theorem dX12_hire_36 : decode cX12_hire 36 = .ok (.istore 5, 2) := by decide +kernel
theorem dX12_hire_38 : decode cX12_hire 38 = .ok (.iload 5, 2) := by decide +kernel
theorem dX12_hire_40 : decode cX12_hire 40 = .ok (.bipush 8, 2) := by decide +kernel
theorem dX12_hire_42 : decode cX12_hire 42 = .ok (.if_icmp .ge 46, 3) := by decide +kernel
theorem dX12_hire_45 : decode cX12_hire 45 = .ok (.aload_n 0, 1) := by decide +kernel
theorem dX12_hire_46 : decode cX12_hire 46 = .ok (.iload 5, 2) := by decide +kernel
theorem dX12_hire_48 : decode cX12_hire 48 = .ok (.iload_n 1, 1) := by decide +kernel
theorem dX12_hire_49 : decode cX12_hire 49 = .ok (.invokevirtual 131, 3) := by decide +kernel
theorem dX12_hire_52 : decode cX12_hire 52 = .ok (.aload_n 0, 1) := by decide +kernel
theorem dX12_hire_53 : decode cX12_hire 53 = .ok (.invokevirtual 188, 3) := by decide +kernel
theorem dX12_hire_56 : decode cX12_hire 56 = .ok (.invokestatic 93, 3) := by decide +kernel
theorem dX12_hire_59 : decode cX12_hire 59 = .ok (.istore 6, 2) := by decide +kernel
theorem dX12_hire_61 : decode cX12_hire 61 = .ok (.aload_n 0, 1) := by decide +kernel
theorem dX12_hire_62 : decode cX12_hire 62 = .ok (.invokevirtual 206, 3) := by decide +kernel
theorem dX12_hire_65 : decode cX12_hire 65 = .ok (.iload 6, 2) := by decide +kernel
theorem dX12_hire_67 : decode cX12_hire 67 = .ok (.iload 4, 2) := by decide +kernel
theorem dX12_hire_69 : decode cX12_hire 69 = .ok (.if_icmp .gt 6, 3) := by decide +kernel
theorem dX12_hire_72 : decode cX12_hire 72 = .ok (.goto 10, 3) := by decide +kernel
theorem dX12_hire_75 : decode cX12_hire 75 = .ok (.iload 5, 2) := by decide +kernel
theorem dX12_hire_77 : decode cX12_hire 77 = .ok (.istore_n 3, 1) := by decide +kernel
theorem dX12_hire_78 : decode cX12_hire 78 = .ok (.iload 6, 2) := by decide +kernel
theorem dX12_hire_80 : decode cX12_hire 80 = .ok (.istore 4, 2) := by decide +kernel
theorem dX12_hire_82 : decode cX12_hire 82 = .ok (.iinc 5 1, 3) := by decide +kernel
theorem dX12_hire_85 : decode cX12_hire 85 = .ok (.goto (-47), 3) := by decide +kernel
theorem dX12_hire_88 : decode cX12_hire 88 = .ok (.iload_n 2, 1) := by decide +kernel
theorem dX12_hire_89 : decode cX12_hire 89 = .ok (.ifCond .ne 7, 3) := by decide +kernel
theorem dX12_hire_92 : decode cX12_hire 92 = .ok (.iload_n 3, 1) := by decide +kernel
theorem dX12_hire_93 : decode cX12_hire 93 = .ok (.goto 5, 3) := by decide +kernel
theorem dX12_hire_96 : decode cX12_hire 96 = .ok (.iload 4, 2) := by decide +kernel
theorem dX12_hire_98 : decode cX12_hire 98 = .ok (.ireturn, 1) := by decide +kernel
set_option maxRecDepth 20000 in
theorem ggX12_canHave_X12_isSentence : GoodIn wsX12_canHave wsX12_isSentence := goodIn_r _ [6, 1, 7, 8, 5, 9, 57, 58, 59, 60, 61, 62, 63, 64, 65, 66, 67, 68, 69, 70, 71, 72, 73, 74, 75, 76] (by decide +kernel) (by decide +kernel)
set_option maxRecDepth 20000 in
theorem gX12_canHave_X12_isSentence : GoodIn wsX12_canHave (wsV RX12 135 RX12 yX12_isSentence wsX12_isSentence) := goodIn_app (goodIn_of _ (by decide +kernel)) ggX12_canHave_X12_isSentence
set_option maxRecDepth 20000 in
theorem ggX12_canHave_X12_isTrue : GoodIn wsX12_canHave wsX12_isTrue := goodIn_r _ [13, 1, 14, 15, 5, 16, 57, 58, 59, 60, 61, 62, 63, 64, 65, 66, 67, 68, 69, 70, 71, 72, 73, 74, 75, 76] (by decide +kernel) (by decide +kernel)
set_option maxRecDepth 20000 in
theorem gX12_canHave_X12_isTrue : GoodIn wsX12_canHave (wsV RX12 77 RX12 yX12_isTrue wsX12_isTrue) := goodIn_app (goodIn_of _ (by decide +kernel)) ggX12_canHave_X12_isTrue
set_option maxRecDepth 20000 in
theorem ggX12_canHave_X12_begins : GoodIn wsX12_canHave wsX12_begins := goodIn_r _ [20, 1, 21, 22, 23, 5, 24, 57, 58, 59, 60, 61, 62, 63, 64, 65, 66, 67, 68, 69, 70, 71, 72, 73, 74, 75, 76] (by decide +kernel) (by decide +kernel)
set_option maxRecDepth 20000 in
theorem gX12_canHave_X12_begins : GoodIn wsX12_canHave (wsV RX12 203 RX12 yX12_begins wsX12_begins) := goodIn_app (goodIn_of _ (by decide +kernel)) ggX12_canHave_X12_begins
set_option maxRecDepth 20000 in
theorem ggX12_canHave_X12_get : GoodIn wsX12_canHave wsX12_get := goodIn_r _ [28, 1, 57, 58, 59, 60, 61, 62, 63, 64, 65, 66, 67, 68, 69, 70, 71, 72, 73, 74, 75, 76] (by decide +kernel) (by decide +kernel)
set_option maxRecDepth 20000 in
theorem gX12_canHave_X12_get : GoodIn wsX12_canHave (wsV RX12 70 RX12 yX12_get wsX12_get) := goodIn_app (goodIn_of _ (by decide +kernel)) ggX12_canHave_X12_get
set_option maxRecDepth 20000 in
theorem ggX12_canHave_X12_puts : GoodIn wsX12_canHave wsX12_puts := goodIn_r _ [32, 1, 57, 58, 59, 60, 61, 62, 63, 64, 65, 66, 67, 68, 69, 70, 71, 72, 73, 74, 75, 76] (by decide +kernel) (by decide +kernel)
set_option maxRecDepth 20000 in
theorem gX12_canHave_X12_puts : GoodIn wsX12_canHave (wsV RX12 108 RX12 yX12_puts wsX12_puts) := goodIn_app (goodIn_of _ (by decide +kernel)) ggX12_canHave_X12_puts
set_option maxRecDepth 20000 in
theorem ggX12_canHave_X12_mayIf : GoodIn wsX12_canHave wsX12_mayIf := goodIn_r _ [36, 25, 26, 27, 5, 28, 1, 10, 11, 12, 13, 14, 15, 16, 37, 38, 39, 40, 41, 42, 43, 44, 45, 46, 47, 48, 57, 58, 59, 60, 61, 62, 63, 64, 65, 66, 67, 68, 69, 70, 71, 72, 73, 74, 75, 76] (by decide +kernel) (by decide +kernel)
set_option maxRecDepth 20000 in
theorem gX12_canHave_X12_mayIf : GoodIn wsX12_canHave (wsV RX12 90 RX12 yX12_mayIf wsX12_mayIf) := goodIn_app (goodIn_of _ (by decide +kernel)) ggX12_canHave_X12_mayIf
set_option maxRecDepth 20000 in
theorem ggX12_canHave_X12_isSilenced : GoodIn wsX12_canHave wsX12_isSilenced := goodIn_r _ [52, 25, 26, 27, 5, 28, 1, 41, 42, 43, 44, 45, 46, 47, 48, 57, 58, 59, 60, 61, 62, 63, 64, 65, 66, 67, 68, 69, 70, 71, 72, 73, 74, 75, 76] (by decide +kernel) (by decide +kernel)
set_option maxRecDepth 20000 in
theorem gX12_canHave_X12_isSilenced : GoodIn wsX12_canHave (wsV RX12 100 RX12 yX12_isSilenced wsX12_isSilenced) := goodIn_app (goodIn_of _ (by decide +kernel)) ggX12_canHave_X12_isSilenced
set_option maxRecDepth 20000 in
theorem ggX12_canHave_X12_ends : GoodIn wsX12_canHave wsX12_ends := goodIn_r _ [56, 21, 1, 22, 23, 5, 24, 57, 58, 59, 60, 61, 62, 63, 64, 65, 66, 67, 68, 69, 70, 71, 72, 73, 74, 75, 76] (by decide +kernel) (by decide +kernel)
set_option maxRecDepth 20000 in
theorem gX12_canHave_X12_ends : GoodIn wsX12_canHave (wsV RX12 206 RX12 yX12_ends wsX12_ends) := goodIn_app (goodIn_of _ (by decide +kernel)) ggX12_canHave_X12_ends
theorem dX12_canHave_0 : decode cX12_canHave 0 = .ok (.aload_n 0, 1) := by decide +kernel
theorem dX12_canHave_1 : decode cX12_canHave 1 = .ok (.iload_n 1, 1) := by decide +kernel
theorem dX12_canHave_2 : decode cX12_canHave 2 = .ok (.invokevirtual 135, 3) := by decide +kernel
theorem dX12_canHave_5 : decode cX12_canHave 5 = .ok (.ifCond .ne 5, 3) := by decide +kernel
theorem dX12_canHave_8 : decode cX12_canHave 8 = .ok (.iconst (-1), 1) := by decide +kernel
theorem dX12_canHave_9 : decode cX12_canHave 9 = .ok (.ireturn, 1) := by decide +kernel
theorem dX12_canHave_10 : decode cX12_canHave 10 = .ok (.aload_n 0, 1) := by decide +kernel
theorem dX12_canHave_11 : decode cX12_canHave 11 = .ok (.iload_n 1, 1) := by decide +kernel
theorem dX12_canHave_12 : decode cX12_canHave 12 = .ok (.invokevirtual 77, 3) := by decide +kernel
theorem dX12_canHave_15 : decode cX12_canHave 15 = .ok (.ifCond .ne 6, 3) := by decide +kernel
theorem dX12_canHave_18 : decode cX12_canHave 18 = .ok (.bipush (-3), 2) := by decide +kernel
theorem dX12_canHave_20 : decode cX12_canHave 20 = .ok (.ireturn, 1) := by decide +kernel
theorem dX12_canHave_21 : decode cX12_canHave 21 = .ok (.aload_n 0, 1) := by decide +kernel
theorem dX12_canHave_22 : decode cX12_canHave 22 = .ok (.invokevirtual 203, 3) := by decide +kernel
theorem dX12_canHave_25 : decode cX12_canHave 25 = .ok (.aload_n 0, 1) := by decide +kernel
theorem dX12_canHave_26 : decode cX12_canHave 26 = .ok (.getfield 9, 3) := by decide +kernel
theorem dX12_canHave_29 : decode cX12_canHave 29 = .ok (.iconst 2, 1) := by decide +kernel
theorem dX12_canHave_30 : decode cX12_canHave 30 = .ok (.dup2, 1) := by decide +kernel
theorem dX12_canHave_31 : decode cX12_canHave 31 = .ok (.iaload, 1) := by decide +kernel
theorem dX12_canHave_32 : decode cX12_canHave 32 = .ok (.iconst 1, 1) := by decide +kernel
theorem dX12_canHave_33 : decode cX12_canHave 33 = .ok (.iload_n 1, 1) := by decide +kernel
theorem dX12_canHave_34 : decode cX12_canHave 34 = .ok (.ishl, 1) := by decide +kernel
theorem dX12_canHave_35 : decode cX12_canHave 35 = .ok (.iconst (-1), 1) := by decide +kernel
theorem dX12_canHave_36 : decode cX12_canHave 36 = .ok (.ixor, 1) := by decide +kernel
theorem dX12_canHave_37 : decode cX12_canHave 37 = .ok (.iand, 1) := by decide +kernel
theorem dX12_canHave_38 : decode cX12_canHave 38 = .ok (.iastore, 1) := by decide +kernel
theorem dX12_canHave_39 : decode cX12_canHave 39 = .ok (.iconst 0, 1) := by decide +kernel
theorem dX12_canHave_40 : decode cX12_canHave 40 = .ok (.istore_n 2, 1) := by decide +kernel
theorem dX12_canHave_41 : decode cX12_canHave 41 = .ok (.iload_n 2, 1) := by decide +kernel
theorem dX12_canHave_42 : decode cX12_canHave 42 = .ok (.aload_n 0, 1) := by decide +kernel
theorem dX12_canHave_43 : decode cX12_canHave 43 = .ok (.getfield 9, 3) := by decide +kernel
theorem dX12_canHave_46 : decode cX12_canHave 46 = .ok (.iconst 1, 1) := by decide +kernel
theorem dX12_canHave_47 : decode cX12_canHave 47 = .ok (.iaload, 1) := by decide +kernel
theorem dX12_canHave_48 : decode cX12_canHave 48 = .ok (.if_icmp .ge 27, 3) := by decide +kernel
theorem dX12_canHave_51 : decode cX12_canHave 51 = .ok (.aload_n 0, 1) := by decide +kernel
theorem dX12_canHave_52 : decode cX12_canHave 52 = .ok (.iload_n 2, 1) := by decide +kernel
theorem dX12_canHave_53 : decode cX12_canHave 53 = .ok (.iconst 2, 1) := by decide +kernel
theorem dX12_canHave_54 : decode cX12_canHave 54 = .ok (.aload_n 0, 1) := by decide +kernel
theorem dX12_canHave_55 : decode cX12_canHave 55 = .ok (.iload_n 2, 1) := by decide +kernel
theorem dX12_canHave_56 : decode cX12_canHave 56 = .ok (.iconst 2, 1) := by decide +kernel
theorem dX12_canHave_57 : decode cX12_canHave 57 = .ok (.invokevirtual 70, 3) := by decide +kernel
theorem dX12_canHave_60 : decode cX12_canHave 60 = .ok (.iconst 1, 1) := by decide +kernel
theorem dX12_canHave_61 : decode cX12_canHave 61 = .ok (.iload_n 1, 1) := by decide +kernel
theorem dX12_canHave_62 : decode cX12_canHave 62 = .ok (.ishl, 1) := by decide +kernel
theorem dX12_canHave_63 : decode cX12_canHave 63 = .ok (.iconst (-1), 1) := by decide +kernel
theorem dX12_canHave_64 : decode cX12_canHave 64 = .ok (.ixor, 1) := by decide +kernel
theorem dX12_canHave_65 : decode cX12_canHave 65 = .ok (.iand, 1) := by decide +kernel
theorem dX12_canHave_66 : decode cX12_canHave 66 = .ok (.invokevirtual 108, 3) := by decide +kernel
theorem dX12_canHave_69 : decode cX12_canHave 69 = .ok (.iinc 2 1, 3) := by decide +kernel
theorem dX12_canHave_72 : decode cX12_canHave 72 = .ok (.goto (-31), 3) := by decide +kernel
theorem dX12_canHave_75 : decode cX12_canHave 75 = .ok (.iconst 0, 1) := by decide +kernel
theorem dX12_canHave_76 : decode cX12_canHave 76 = .ok (.istore_n 2, 1) := by decide +kernel
theorem dX12_canHave_77 : decode cX12_canHave 77 = .ok (.iconst 0, 1) := by decide +kernel
theorem dX12_canHave_78 : decode cX12_canHave 78 = .ok (.istore_n 3, 1) := by decide +kernel
theorem dX12_canHave_79 : decode cX12_canHave 79 = .ok (.iload_n 3, 1) := by decide +kernel
theorem dX12_canHave_80 : decode cX12_canHave 80 = .ok (.aload_n 0, 1) := by decide +kernel
theorem dX12_canHave_81 : decode cX12_canHave 81 = .ok (.getfield 9, 3) := by decide +kernel
theorem dX12_canHave_84 : decode cX12_canHave 84 = .ok (.iconst 1, 1) := by decide +kernel
theorem dX12_canHave_85 : decode cX12_canHave 85 = .ok (.iaload, 1) := by decide +kernel
theorem dX12_canHave_86 : decode cX12_canHave 86 = .ok (.if_icmp .ge 38, 3) := by decide +kernel
theorem dX12_canHave_89 : decode cX12_canHave 89 = .ok (.iload_n 2, 1) := by decide +kernel
theorem dX12_canHave_90 : decode cX12_canHave 90 = .ok (.aload_n 0, 1) := by decide +kernel
theorem dX12_canHave_91 : decode cX12_canHave 91 = .ok (.iload_n 3, 1) := by decide +kernel
theorem dX12_canHave_92 : decode cX12_canHave 92 = .ok (.iload_n 1, 1) := by decide +kernel
theorem dX12_canHave_93 : decode cX12_canHave 93 = .ok (.invokevirtual 90, 3) := by decide +kernel
theorem dX12_canHave_96 : decode cX12_canHave 96 = .ok (.ifCond .eq 19, 3) := by decide +kernel
theorem dX12_canHave_99 : decode cX12_canHave 99 = .ok (.aload_n 0, 1) := by decide +kernel
theorem dX12_canHave_100 : decode cX12_canHave 100 = .ok (.iload_n 3, 1) := by decide +kernel
theorem dX12_canHave_101 : decode cX12_canHave 101 = .ok (.iload_n 1, 1) := by decide +kernel
theorem dX12_canHave_102 : decode cX12_canHave 102 = .ok (.iconst 0, 1) := by decide +kernel
theorem dX12_canHave_103 : decode cX12_canHave 103 = .ok (.invokevirtual 100, 3) := by decide +kernel
theorem dX12_canHave_106 : decode cX12_canHave 106 = .ok (.ifCond .eq 9, 3) := by decide +kernel
theorem dX12_canHave_109 : decode cX12_canHave 109 = .ok (.iconst 1, 1) := by decide +kernel
theorem dX12_canHave_110 : decode cX12_canHave 110 = .ok (.iload_n 3, 1) := by decide +kernel
theorem dX12_canHave_111 : decode cX12_canHave 111 = .ok (.ishl, 1) := by decide +kernel
theorem dX12_canHave_112 : decode cX12_canHave 112 = .ok (.goto 4, 3) := by decide +kernel
theorem dX12_canHave_115 : decode cX12_canHave 115 = .ok (.iconst 0, 1) := by decide +kernel
theorem dX12_canHave_116 : decode cX12_canHave 116 = .ok (.ior, 1) := by decide +kernel
theorem dX12_canHave_117 : decode cX12_canHave 117 = .ok (.istore_n 2, 1) := by decide +kernel
theorem dX12_canHave_118 : decode cX12_canHave 118 = .ok (.iinc 3 1, 3) := by decide +kernel
theorem dX12_canHave_121 : decode cX12_canHave 121 = .ok (.goto (-42), 3) := by decide +kernel
theorem dX12_canHave_124 : decode cX12_canHave 124 = .ok (.aload_n 0, 1) := by decide +kernel
theorem dX12_canHave_125 : decode cX12_canHave 125 = .ok (.invokevirtual 206, 3) := by decide +kernel
theorem dX12_canHave_128 : decode cX12_canHave 128 = .ok (.iload_n 2, 1) := by decide +kernel
theorem dX12_canHave_129 : decode cX12_canHave 129 = .ok (.ireturn, 1) := by decide +kernel
theorem dX12_told_0 : decode cX12_told 0 = .ok (.aload_n 0, 1) := by decide +kernel
theorem dX12_told_1 : decode cX12_told 1 = .ok (.getfield 31, 3) := by decide +kernel
theorem dX12_told_4 : decode cX12_told 4 = .ok (.bipush 100, 2) := by decide +kernel
theorem dX12_told_6 : decode cX12_told 6 = .ok (.iload_n 1, 1) := by decide +kernel
theorem dX12_told_7 : decode cX12_told 7 = .ok (.imul, 1) := by decide +kernel
theorem dX12_told_8 : decode cX12_told 8 = .ok (.iload_n 2, 1) := by decide +kernel
theorem dX12_told_9 : decode cX12_told 9 = .ok (.iadd, 1) := by decide +kernel
theorem dX12_told_10 : decode cX12_told 10 = .ok (.iaload, 1) := by decide +kernel
theorem dX12_told_11 : decode cX12_told 11 = .ok (.ireturn, 1) := by decide +kernel
set_option maxRecDepth 20000 in
theorem ggX12_deniesIf_X12_mayNow : GoodIn wsX12_deniesIf wsX12_mayNow := goodIn_r _ [5, 6, 7, 8, 4, 9, 10, 11, 12, 13, 14, 15, 16, 17, 18, 19, 20, 21, 22, 23, 24, 25, 26, 27, 28, 29, 30, 31, 32, 33, 34, 35, 36, 37, 54, 55, 56, 57, 58, 59, 60, 61, 62, 63, 64, 65, 66, 67, 68, 69, 70, 71, 72, 73] (by decide +kernel) (by decide +kernel)
set_option maxRecDepth 20000 in
theorem gX12_deniesIf_X12_mayNow : GoodIn wsX12_deniesIf (wsV RX12 144 RX12 yX12_mayNow wsX12_mayNow) := goodIn_app (goodIn_of _ (by decide +kernel)) ggX12_deniesIf_X12_mayNow
set_option maxRecDepth 20000 in
theorem ggX12_deniesIf_X12_denies : GoodIn wsX12_deniesIf wsX12_denies := goodIn_r _ [41, 10, 42, 43, 44, 4, 45, 18, 19, 20, 21, 30, 31, 32, 33, 34, 35, 36, 37, 46, 47, 48, 49, 50, 51, 52, 53, 54, 55, 56, 57, 58, 59, 60, 61, 62, 63, 64, 65, 66, 67, 68, 69, 70, 71, 72, 73] (by decide +kernel) (by decide +kernel)
set_option maxRecDepth 20000 in
theorem gX12_deniesIf_X12_denies : GoodIn wsX12_deniesIf (wsV RX12 147 RX12 yX12_denies wsX12_denies) := goodIn_app (goodIn_of _ (by decide +kernel)) ggX12_deniesIf_X12_denies
theorem dX12_deniesIf_0 : decode cX12_deniesIf 0 = .ok (.aload_n 0, 1) := by decide +kernel
theorem dX12_deniesIf_1 : decode cX12_deniesIf 1 = .ok (.iload_n 1, 1) := by decide +kernel
theorem dX12_deniesIf_2 : decode cX12_deniesIf 2 = .ok (.iload_n 2, 1) := by decide +kernel
theorem dX12_deniesIf_3 : decode cX12_deniesIf 3 = .ok (.invokevirtual 144, 3) := by decide +kernel
theorem dX12_deniesIf_6 : decode cX12_deniesIf 6 = .ok (.ifCond .ne 5, 3) := by decide +kernel
theorem dX12_deniesIf_9 : decode cX12_deniesIf 9 = .ok (.iconst 0, 1) := by decide +kernel
theorem dX12_deniesIf_10 : decode cX12_deniesIf 10 = .ok (.ireturn, 1) := by decide +kernel
theorem dX12_deniesIf_11 : decode cX12_deniesIf 11 = .ok (.aload_n 0, 1) := by decide +kernel
theorem dX12_deniesIf_12 : decode cX12_deniesIf 12 = .ok (.iload_n 1, 1) := by decide +kernel
theorem dX12_deniesIf_13 : decode cX12_deniesIf 13 = .ok (.iload_n 2, 1) := by decide +kernel
theorem dX12_deniesIf_14 : decode cX12_deniesIf 14 = .ok (.invokevirtual 147, 3) := by decide +kernel
theorem dX12_deniesIf_17 : decode cX12_deniesIf 17 = .ok (.istore_n 3, 1) := by decide +kernel
theorem dX12_deniesIf_18 : decode cX12_deniesIf 18 = .ok (.iconst 1, 1) := by decide +kernel
theorem dX12_deniesIf_19 : decode cX12_deniesIf 19 = .ok (.ireturn, 1) := by decide +kernel
set_option maxRecDepth 20000 in
theorem ggX12_run_X12_isShelf : GoodIn wsX12_run wsX12_isShelf := goodIn_r _ [6, 7, 8, 9, 5, 10] (by decide +kernel) (by decide +kernel)
set_option maxRecDepth 20000 in
theorem gX12_run_X12_isShelf : GoodIn wsX12_run (va_wsS RX12 150 yX12_isShelf wsX12_isShelf) := goodIn_app (goodIn_of _ (by decide +kernel)) ggX12_run_X12_isShelf
set_option maxRecDepth 20000 in
theorem ggX12_run_X12_isIn : GoodIn wsX12_run wsX12_isIn := goodIn_r _ [10] (by decide +kernel) (by decide +kernel)
set_option maxRecDepth 20000 in
theorem gX12_run_X12_isIn : GoodIn wsX12_run (va_wsS RX12 58 yX12_isIn wsX12_isIn) := goodIn_app (goodIn_of _ (by decide +kernel)) ggX12_run_X12_isIn
set_option maxRecDepth 20000 in
theorem ggX12_run_X12_wrongRow : GoodIn wsX12_run wsX12_wrongRow := goodIn_r _ [14, 15, 16, 3, 4, 5, 6, 7, 8, 9, 10, 100, 101, 102, 103, 104, 105, 106, 107, 108, 109, 110, 111, 112, 113, 114, 115, 116, 117, 118, 119] (by decide +kernel) (by decide +kernel)
set_option maxRecDepth 20000 in
theorem gX12_run_X12_wrongRow : GoodIn wsX12_run (wsV RX12 153 RX12 yX12_wrongRow wsX12_wrongRow) := goodIn_app (goodIn_of _ (by decide +kernel)) ggX12_run_X12_wrongRow
set_option maxRecDepth 20000 in
theorem ggX12_run_X12_told : GoodIn wsX12_run wsX12_told := goodIn_r _ [20, 21, 100, 101, 102, 103, 104, 105, 106, 107, 108, 109, 110, 111, 112, 113, 114, 115, 116, 117, 118, 119] (by decide +kernel) (by decide +kernel)
set_option maxRecDepth 20000 in
theorem gX12_run_X12_told : GoodIn wsX12_run (wsV RX12 209 RX12 yX12_told wsX12_told) := goodIn_app (goodIn_of _ (by decide +kernel)) ggX12_run_X12_told
set_option maxRecDepth 20000 in
theorem ggX12_run_X12_isDenier : GoodIn wsX12_run wsX12_isDenier := goodIn_r _ [25, 2, 8, 9, 5, 10, 100, 101, 102, 103, 104, 105, 106, 107, 108, 109, 110, 111, 112, 113, 114, 115, 116, 117, 118, 119] (by decide +kernel) (by decide +kernel)
set_option maxRecDepth 20000 in
theorem gX12_run_X12_isDenier : GoodIn wsX12_run (wsV RX12 141 RX12 yX12_isDenier wsX12_isDenier) := goodIn_app (goodIn_of _ (by decide +kernel)) ggX12_run_X12_isDenier
set_option maxRecDepth 20000 in
theorem ggX12_run_X12_isSentence : GoodIn wsX12_run wsX12_isSentence := goodIn_r _ [29, 2, 8, 9, 5, 10, 100, 101, 102, 103, 104, 105, 106, 107, 108, 109, 110, 111, 112, 113, 114, 115, 116, 117, 118, 119] (by decide +kernel) (by decide +kernel)
set_option maxRecDepth 20000 in
theorem gX12_run_X12_isSentence : GoodIn wsX12_run (wsV RX12 135 RX12 yX12_isSentence wsX12_isSentence) := goodIn_app (goodIn_of _ (by decide +kernel)) ggX12_run_X12_isSentence
set_option maxRecDepth 20000 in
theorem ggX12_run_X12_begins : GoodIn wsX12_run wsX12_begins := goodIn_r _ [33, 2, 34, 35, 36, 5, 37, 100, 101, 102, 103, 104, 105, 106, 107, 108, 109, 110, 111, 112, 113, 114, 115, 116, 117, 118, 119] (by decide +kernel) (by decide +kernel)
set_option maxRecDepth 20000 in
theorem gX12_run_X12_begins : GoodIn wsX12_run (wsV RX12 203 RX12 yX12_begins wsX12_begins) := goodIn_app (goodIn_of _ (by decide +kernel)) ggX12_run_X12_begins
set_option maxRecDepth 20000 in
theorem ggX12_run_X12_deniesIf : GoodIn wsX12_run wsX12_deniesIf := goodIn_r _ [41, 42, 43, 44, 5, 45, 46, 47, 48, 49, 2, 50, 51, 52, 53, 54, 55, 56, 57, 58, 59, 60, 61, 62, 63, 64, 65, 66, 67, 68, 69, 70, 71, 72, 73, 74, 75, 76, 77, 78, 79, 80, 81, 82, 83, 84, 85, 86, 87, 88, 89, 90, 91, 92, 100, 101, 102, 103, 104, 105, 106, 107, 108, 109, 110, 111, 112, 113, 114, 115, 116, 117, 118, 119] (by decide +kernel) (by decide +kernel)
set_option maxRecDepth 20000 in
theorem gX12_run_X12_deniesIf : GoodIn wsX12_run (wsV RX12 212 RX12 yX12_deniesIf wsX12_deniesIf) := goodIn_app (goodIn_of _ (by decide +kernel)) ggX12_run_X12_deniesIf
set_option maxRecDepth 20000 in
theorem ggX12_run_X12_bits : GoodIn wsX12_run wsX12_bits := goodIn_r _ [95] (by decide +kernel) (by decide +kernel)
set_option maxRecDepth 20000 in
theorem gX12_run_X12_bits : GoodIn wsX12_run (va_wsS RX12 93 yX12_bits wsX12_bits) := goodIn_app (goodIn_of _ (by decide +kernel)) ggX12_run_X12_bits
set_option maxRecDepth 20000 in
theorem ggX12_run_X12_ends : GoodIn wsX12_run wsX12_ends := goodIn_r _ [99, 34, 2, 35, 36, 5, 37, 100, 101, 102, 103, 104, 105, 106, 107, 108, 109, 110, 111, 112, 113, 114, 115, 116, 117, 118, 119] (by decide +kernel) (by decide +kernel)
set_option maxRecDepth 20000 in
theorem gX12_run_X12_ends : GoodIn wsX12_run (wsV RX12 206 RX12 yX12_ends wsX12_ends) := goodIn_app (goodIn_of _ (by decide +kernel)) ggX12_run_X12_ends
theorem dX12_run_0 : decode cX12_run 0 = .ok (.iload_n 1, 1) := by decide +kernel
theorem dX12_run_1 : decode cX12_run 1 = .ok (.invokestatic 150, 3) := by decide +kernel
theorem dX12_run_4 : decode cX12_run 4 = .ok (.ifCond .eq 13, 3) := by decide +kernel
theorem dX12_run_7 : decode cX12_run 7 = .ok (.iload_n 2, 1) := by decide +kernel
theorem dX12_run_8 : decode cX12_run 8 = .ok (.i2l, 1) := by decide +kernel
theorem dX12_run_9 : decode cX12_run 9 = .ok (.lconst 0, 1) := by decide +kernel
theorem dX12_run_10 : decode cX12_run 10 = .ok (.lconst 1, 1) := by decide +kernel
theorem dX12_run_11 : decode cX12_run 11 = .ok (.invokestatic 58, 3) := by decide +kernel
theorem dX12_run_14 : decode cX12_run 14 = .ok (.ifCond .ne 7, 3) := by decide +kernel
theorem dX12_run_17 : decode cX12_run 17 = .ok (.iconst (-1), 1) := by decide +kernel
theorem dX12_run_18 : decode cX12_run 18 = .ok (.goto 9, 3) := by decide +kernel
theorem dX12_run_21 : decode cX12_run 21 = .ok (.aload_n 0, 1) := by decide +kernel
theorem dX12_run_22 : decode cX12_run 22 = .ok (.iload_n 1, 1) := by decide +kernel
theorem dX12_run_23 : decode cX12_run 23 = .ok (.iconst 0, 1) := by decide +kernel
theorem dX12_run_24 : decode cX12_run 24 = .ok (.invokevirtual 153, 3) := by decide +kernel
theorem dX12_run_27 : decode cX12_run 27 = .ok (.istore_n 3, 1) := by decide +kernel
theorem dX12_run_28 : decode cX12_run 28 = .ok (.iload_n 3, 1) := by decide +kernel
theorem dX12_run_29 : decode cX12_run 29 = .ok (.ifCond .ne 28, 3) := by decide +kernel
theorem dX12_run_32 : decode cX12_run 32 = .ok (.aload_n 0, 1) := by decide +kernel
theorem dX12_run_33 : decode cX12_run 33 = .ok (.getfield 28, 3) := by decide +kernel
theorem dX12_run_36 : decode cX12_run 36 = .ok (.iload_n 1, 1) := by decide +kernel
theorem dX12_run_37 : decode cX12_run 37 = .ok (.iaload, 1) := by decide +kernel
theorem dX12_run_38 : decode cX12_run 38 = .ok (.iconst 2, 1) := by decide +kernel
theorem dX12_run_39 : decode cX12_run 39 = .ok (.irem, 1) := by decide +kernel
theorem dX12_run_40 : decode cX12_run 40 = .ok (.ifCond .ne 14, 3) := by decide +kernel
theorem dX12_run_43 : decode cX12_run 43 = .ok (.aload_n 0, 1) := by decide +kernel
theorem dX12_run_44 : decode cX12_run 44 = .ok (.getfield 28, 3) := by decide +kernel
theorem dX12_run_47 : decode cX12_run 47 = .ok (.iload_n 1, 1) := by decide +kernel
theorem dX12_run_48 : decode cX12_run 48 = .ok (.iaload, 1) := by decide +kernel
theorem dX12_run_49 : decode cX12_run 49 = .ok (.bipush 24, 2) := by decide +kernel
theorem dX12_run_51 : decode cX12_run 51 = .ok (.if_icmp .le 6, 3) := by decide +kernel
theorem dX12_run_54 : decode cX12_run 54 = .ok (.bipush (-13), 2) := by decide +kernel
theorem dX12_run_56 : decode cX12_run 56 = .ok (.istore_n 3, 1) := by decide +kernel
theorem dX12_run_57 : decode cX12_run 57 = .ok (.iconst 0, 1) := by decide +kernel
theorem dX12_run_58 : decode cX12_run 58 = .ok (.istore 4, 2) := by decide +kernel
theorem dX12_run_60 : decode cX12_run 60 = .ok (.iload_n 3, 1) := by decide +kernel
theorem dX12_run_61 : decode cX12_run 61 = .ok (.ifCond .ne 57, 3) := by decide +kernel
theorem dX12_run_64 : decode cX12_run 64 = .ok (.iload 4, 2) := by decide +kernel
theorem dX12_run_66 : decode cX12_run 66 = .ok (.aload_n 0, 1) := by decide +kernel
theorem dX12_run_67 : decode cX12_run 67 = .ok (.getfield 28, 3) := by decide +kernel
theorem dX12_run_70 : decode cX12_run 70 = .ok (.iload_n 1, 1) := by decide +kernel
theorem dX12_run_71 : decode cX12_run 71 = .ok (.iaload, 1) := by decide +kernel
theorem dX12_run_72 : decode cX12_run 72 = .ok (.if_icmp .ge 46, 3) := by decide +kernel
theorem dX12_run_75 : decode cX12_run 75 = .ok (.aload_n 0, 1) := by decide +kernel
theorem dX12_run_76 : decode cX12_run 76 = .ok (.aload_n 0, 1) := by decide +kernel
theorem dX12_run_77 : decode cX12_run 77 = .ok (.iload_n 1, 1) := by decide +kernel
theorem dX12_run_78 : decode cX12_run 78 = .ok (.iload 4, 2) := by decide +kernel
theorem dX12_run_80 : decode cX12_run 80 = .ok (.invokevirtual 209, 3) := by decide +kernel
theorem dX12_run_83 : decode cX12_run 83 = .ok (.invokevirtual 141, 3) := by decide +kernel
theorem dX12_run_86 : decode cX12_run 86 = .ok (.ifCond .eq 23, 3) := by decide +kernel
theorem dX12_run_89 : decode cX12_run 89 = .ok (.aload_n 0, 1) := by decide +kernel
theorem dX12_run_90 : decode cX12_run 90 = .ok (.aload_n 0, 1) := by decide +kernel
theorem dX12_run_91 : decode cX12_run 91 = .ok (.iload_n 1, 1) := by decide +kernel
theorem dX12_run_92 : decode cX12_run 92 = .ok (.iload 4, 2) := by decide +kernel
theorem dX12_run_94 : decode cX12_run 94 = .ok (.iconst 1, 1) := by decide +kernel
theorem dX12_run_95 : decode cX12_run 95 = .ok (.iadd, 1) := by decide +kernel
theorem dX12_run_96 : decode cX12_run 96 = .ok (.invokevirtual 209, 3) := by decide +kernel
theorem dX12_run_99 : decode cX12_run 99 = .ok (.invokevirtual 135, 3) := by decide +kernel
theorem dX12_run_102 : decode cX12_run 102 = .ok (.ifCond .eq 7, 3) := by decide +kernel
theorem dX12_run_105 : decode cX12_run 105 = .ok (.iconst 0, 1) := by decide +kernel
theorem dX12_run_106 : decode cX12_run 106 = .ok (.goto 5, 3) := by decide +kernel
theorem dX12_run_109 : decode cX12_run 109 = .ok (.bipush (-13), 2) := by decide +kernel
theorem dX12_run_111 : decode cX12_run 111 = .ok (.istore_n 3, 1) := by decide +kernel
theorem dX12_run_112 : decode cX12_run 112 = .ok (.iinc 4 2, 3) := by decide +kernel
theorem dX12_run_115 : decode cX12_run 115 = .ok (.goto (-55), 3) := by decide +kernel
theorem dX12_run_118 : decode cX12_run 118 = .ok (.iload_n 3, 1) := by decide +kernel
theorem dX12_run_119 : decode cX12_run 119 = .ok (.ifCond .eq 5, 3) := by decide +kernel
theorem dX12_run_122 : decode cX12_run 122 = .ok (.iload_n 3, 1) := by decide +kernel
theorem dX12_run_123 : decode cX12_run 123 = .ok (.ireturn, 1) := by decide +kernel
theorem dX12_run_124 : decode cX12_run 124 = .ok (.aload_n 0, 1) := by decide +kernel
theorem dX12_run_125 : decode cX12_run 125 = .ok (.invokevirtual 203, 3) := by decide +kernel
theorem dX12_run_128 : decode cX12_run 128 = .ok (.iconst 0, 1) := by decide +kernel
theorem dX12_run_129 : decode cX12_run 129 = .ok (.istore 4, 2) := by decide +kernel
theorem dX12_run_131 : decode cX12_run 131 = .ok (.iconst 0, 1) := by decide +kernel
theorem dX12_run_132 : decode cX12_run 132 = .ok (.istore 5, 2) := by decide +kernel
theorem dX12_run_134 : decode cX12_run 134 = .ok (.iload 5, 2) := by decide +kernel
theorem dX12_run_136 : decode cX12_run 136 = .ok (.aload_n 0, 1) := by decide +kernel
theorem dX12_run_137 : decode cX12_run 137 = .ok (.getfield 28, 3) := by decide +kernel
theorem dX12_run_140 : decode cX12_run 140 = .ok (.iload_n 1, 1) := by decide +kernel
theorem dX12_run_141 : decode cX12_run 141 = .ok (.iaload, 1) := by decide +kernel
theorem dX12_run_142 : decode cX12_run 142 = .ok (.if_icmp .ge 42, 3) := by decide +kernel
theorem dX12_run_145 : decode cX12_run 145 = .ok (.iload 4, 2) := by decide +kernel
theorem dX12_run_147 : decode cX12_run 147 = .ok (.aload_n 0, 1) := by decide +kernel
theorem dX12_run_148 : decode cX12_run 148 = .ok (.aload_n 0, 1) := by decide +kernel
theorem dX12_run_149 : decode cX12_run 149 = .ok (.iload_n 1, 1) := by decide +kernel
theorem dX12_run_150 : decode cX12_run 150 = .ok (.iload 5, 2) := by decide +kernel
theorem dX12_run_152 : decode cX12_run 152 = .ok (.invokevirtual 209, 3) := by decide +kernel
theorem dX12_run_155 : decode cX12_run 155 = .ok (.aload_n 0, 1) := by decide +kernel
theorem dX12_run_156 : decode cX12_run 156 = .ok (.iload_n 1, 1) := by decide +kernel
theorem dX12_run_157 : decode cX12_run 157 = .ok (.iload 5, 2) := by decide +kernel
theorem dX12_run_159 : decode cX12_run 159 = .ok (.iconst 1, 1) := by decide +kernel
theorem dX12_run_160 : decode cX12_run 160 = .ok (.iadd, 1) := by decide +kernel
theorem dX12_run_161 : decode cX12_run 161 = .ok (.invokevirtual 209, 3) := by decide +kernel
theorem dX12_run_164 : decode cX12_run 164 = .ok (.invokevirtual 212, 3) := by decide +kernel
theorem dX12_run_167 : decode cX12_run 167 = .ok (.ifCond .eq 7, 3) := by decide +kernel
theorem dX12_run_170 : decode cX12_run 170 = .ok (.iconst 1, 1) := by decide +kernel
theorem dX12_run_171 : decode cX12_run 171 = .ok (.goto 4, 3) := by decide +kernel
theorem dX12_run_174 : decode cX12_run 174 = .ok (.iconst 0, 1) := by decide +kernel
theorem dX12_run_175 : decode cX12_run 175 = .ok (.iadd, 1) := by decide +kernel
theorem dX12_run_176 : decode cX12_run 176 = .ok (.istore 4, 2) := by decide +kernel
theorem dX12_run_178 : decode cX12_run 178 = .ok (.iinc 5 2, 3) := by decide +kernel
theorem dX12_run_181 : decode cX12_run 181 = .ok (.goto (-47), 3) := by decide +kernel
theorem dX12_run_184 : decode cX12_run 184 = .ok (.aload_n 0, 1) := by decide +kernel
theorem dX12_run_185 : decode cX12_run 185 = .ok (.getfield 9, 3) := by decide +kernel
theorem dX12_run_188 : decode cX12_run 188 = .ok (.iconst 2, 1) := by decide +kernel
theorem dX12_run_189 : decode cX12_run 189 = .ok (.iaload, 1) := by decide +kernel
theorem dX12_run_190 : decode cX12_run 190 = .ok (.invokestatic 93, 3) := by decide +kernel
theorem dX12_run_193 : decode cX12_run 193 = .ok (.istore 5, 2) := by decide +kernel
theorem dX12_run_195 : decode cX12_run 195 = .ok (.aload_n 0, 1) := by decide +kernel
theorem dX12_run_196 : decode cX12_run 196 = .ok (.invokevirtual 206, 3) := by decide +kernel
theorem dX12_run_199 : decode cX12_run 199 = .ok (.iload_n 2, 1) := by decide +kernel
theorem dX12_run_200 : decode cX12_run 200 = .ok (.ifCond .ne 8, 3) := by decide +kernel
theorem dX12_run_203 : decode cX12_run 203 = .ok (.iload 5, 2) := by decide +kernel
theorem dX12_run_205 : decode cX12_run 205 = .ok (.goto 5, 3) := by decide +kernel
theorem dX12_run_208 : decode cX12_run 208 = .ok (.iload 4, 2) := by decide +kernel
theorem dX12_run_210 : decode cX12_run 210 = .ok (.ireturn, 1) := by decide +kernel
theorem dX12_drawn_0 : decode cX12_drawn 0 = .ok (.aload_n 0, 1) := by decide +kernel
theorem dX12_drawn_1 : decode cX12_drawn 1 = .ok (.aload_n 0, 1) := by decide +kernel
theorem dX12_drawn_2 : decode cX12_drawn 2 = .ok (.getfield 215, 3) := by decide +kernel
theorem dX12_drawn_5 : decode cX12_drawn 5 = .ok (.ldc 218, 2) := by decide +kernel
theorem dX12_drawn_7 : decode cX12_drawn 7 = .ok (.imul, 1) := by decide +kernel
theorem dX12_drawn_8 : decode cX12_drawn 8 = .ok (.sipush 12345, 3) := by decide +kernel
theorem dX12_drawn_11 : decode cX12_drawn 11 = .ok (.iadd, 1) := by decide +kernel
theorem dX12_drawn_12 : decode cX12_drawn 12 = .ok (.putfield 215, 3) := by decide +kernel
theorem dX12_drawn_15 : decode cX12_drawn 15 = .ok (.aload_n 0, 1) := by decide +kernel
theorem dX12_drawn_16 : decode cX12_drawn 16 = .ok (.getfield 215, 3) := by decide +kernel
theorem dX12_drawn_19 : decode cX12_drawn 19 = .ok (.ldc 219, 2) := by decide +kernel
theorem dX12_drawn_21 : decode cX12_drawn 21 = .ok (.iand, 1) := by decide +kernel
theorem dX12_drawn_22 : decode cX12_drawn 22 = .ok (.ldc 220, 2) := by decide +kernel
theorem dX12_drawn_24 : decode cX12_drawn 24 = .ok (.idiv, 1) := by decide +kernel
theorem dX12_drawn_25 : decode cX12_drawn 25 = .ok (.iload_n 1, 1) := by decide +kernel
theorem dX12_drawn_26 : decode cX12_drawn 26 = .ok (.irem, 1) := by decide +kernel
theorem dX12_drawn_27 : decode cX12_drawn 27 = .ok (.ireturn, 1) := by decide +kernel
set_option maxRecDepth 20000 in
theorem ggX12_seeded_X12_isIn : GoodIn wsX12_seeded wsX12_isIn := goodIn_r _ [7] (by decide +kernel) (by decide +kernel)
set_option maxRecDepth 20000 in
theorem gX12_seeded_X12_isIn : GoodIn wsX12_seeded (va_wsS RX12 58 yX12_isIn wsX12_isIn) := goodIn_app (goodIn_of _ (by decide +kernel)) ggX12_seeded_X12_isIn
set_option maxRecDepth 20000 in
theorem ggX12_seeded_X12_begins : GoodIn wsX12_seeded wsX12_begins := goodIn_r _ [11, 2, 12, 13, 14, 6, 15, 85, 86, 87, 88, 89, 90, 91, 92, 93, 94, 95, 96, 97, 98, 99, 100, 101, 102, 103, 104] (by decide +kernel) (by decide +kernel)
set_option maxRecDepth 20000 in
theorem gX12_seeded_X12_begins : GoodIn wsX12_seeded (wsV RX12 203 RX12 yX12_begins wsX12_begins) := goodIn_app (goodIn_of _ (by decide +kernel)) ggX12_seeded_X12_begins
set_option maxRecDepth 20000 in
theorem ggX12_seeded_X12_drawn : GoodIn wsX12_seeded wsX12_drawn := goodIn_r _ [19, 3, 20, 21, 22, 85, 86, 87, 88, 89, 90, 91, 92, 93, 94, 95, 96, 97, 98, 99, 100, 101, 102, 103, 104] (by decide +kernel) (by decide +kernel)
set_option maxRecDepth 20000 in
theorem gX12_seeded_X12_drawn : GoodIn wsX12_seeded (wsV RX12 223 RX12 yX12_drawn wsX12_drawn) := goodIn_app (goodIn_of _ (by decide +kernel)) ggX12_seeded_X12_drawn
set_option maxRecDepth 20000 in
theorem ggX12_seeded_X12_deniesIf : GoodIn wsX12_seeded wsX12_deniesIf := goodIn_r _ [26, 27, 28, 29, 6, 30, 31, 32, 33, 34, 2, 35, 36, 37, 38, 39, 40, 41, 42, 43, 44, 45, 46, 47, 48, 49, 50, 51, 52, 53, 54, 55, 56, 57, 58, 59, 60, 61, 62, 63, 64, 65, 66, 67, 68, 69, 70, 71, 72, 73, 74, 75, 76, 77, 85, 86, 87, 88, 89, 90, 91, 92, 93, 94, 95, 96, 97, 98, 99, 100, 101, 102, 103, 104] (by decide +kernel) (by decide +kernel)
set_option maxRecDepth 20000 in
theorem gX12_seeded_X12_deniesIf : GoodIn wsX12_seeded (wsV RX12 212 RX12 yX12_deniesIf wsX12_deniesIf) := goodIn_app (goodIn_of _ (by decide +kernel)) ggX12_seeded_X12_deniesIf
set_option maxRecDepth 20000 in
theorem ggX12_seeded_X12_bits : GoodIn wsX12_seeded wsX12_bits := goodIn_r _ [80] (by decide +kernel) (by decide +kernel)
set_option maxRecDepth 20000 in
theorem gX12_seeded_X12_bits : GoodIn wsX12_seeded (va_wsS RX12 93 yX12_bits wsX12_bits) := goodIn_app (goodIn_of _ (by decide +kernel)) ggX12_seeded_X12_bits
set_option maxRecDepth 20000 in
theorem ggX12_seeded_X12_ends : GoodIn wsX12_seeded wsX12_ends := goodIn_r _ [84, 12, 2, 13, 14, 6, 15, 85, 86, 87, 88, 89, 90, 91, 92, 93, 94, 95, 96, 97, 98, 99, 100, 101, 102, 103, 104] (by decide +kernel) (by decide +kernel)
set_option maxRecDepth 20000 in
theorem gX12_seeded_X12_ends : GoodIn wsX12_seeded (wsV RX12 206 RX12 yX12_ends wsX12_ends) := goodIn_app (goodIn_of _ (by decide +kernel)) ggX12_seeded_X12_ends
theorem dX12_seeded_0 : decode cX12_seeded 0 = .ok (.iload_n 1, 1) := by decide +kernel
theorem dX12_seeded_1 : decode cX12_seeded 1 = .ok (.i2l, 1) := by decide +kernel
theorem dX12_seeded_2 : decode cX12_seeded 2 = .ok (.lconst 1, 1) := by decide +kernel
theorem dX12_seeded_3 : decode cX12_seeded 3 = .ok (.ldc2_w 221, 3) := by decide +kernel
theorem dX12_seeded_6 : decode cX12_seeded 6 = .ok (.invokestatic 58, 3) := by decide +kernel
theorem dX12_seeded_9 : decode cX12_seeded 9 = .ok (.ifCond .ne 5, 3) := by decide +kernel
theorem dX12_seeded_12 : decode cX12_seeded 12 = .ok (.iconst (-1), 1) := by decide +kernel
theorem dX12_seeded_13 : decode cX12_seeded 13 = .ok (.ireturn, 1) := by decide +kernel
theorem dX12_seeded_14 : decode cX12_seeded 14 = .ok (.aload_n 0, 1) := by decide +kernel
theorem dX12_seeded_15 : decode cX12_seeded 15 = .ok (.getfield 9, 3) := by decide +kernel
theorem dX12_seeded_18 : decode cX12_seeded 18 = .ok (.iconst 1, 1) := by decide +kernel
theorem dX12_seeded_19 : decode cX12_seeded 19 = .ok (.iaload, 1) := by decide +kernel
theorem dX12_seeded_20 : decode cX12_seeded 20 = .ok (.ifCond .eq 12, 3) := by decide +kernel
theorem dX12_seeded_23 : decode cX12_seeded 23 = .ok (.aload_n 0, 1) := by decide +kernel
theorem dX12_seeded_24 : decode cX12_seeded 24 = .ok (.getfield 9, 3) := by decide +kernel
theorem dX12_seeded_27 : decode cX12_seeded 27 = .ok (.iconst 0, 1) := by decide +kernel
theorem dX12_seeded_28 : decode cX12_seeded 28 = .ok (.iaload, 1) := by decide +kernel
theorem dX12_seeded_29 : decode cX12_seeded 29 = .ok (.ifCond .ne 6, 3) := by decide +kernel
theorem dX12_seeded_32 : decode cX12_seeded 32 = .ok (.bipush (-3), 2) := by decide +kernel
theorem dX12_seeded_34 : decode cX12_seeded 34 = .ok (.ireturn, 1) := by decide +kernel
theorem dX12_seeded_35 : decode cX12_seeded 35 = .ok (.aload_n 0, 1) := by decide +kernel
theorem dX12_seeded_36 : decode cX12_seeded 36 = .ok (.invokevirtual 203, 3) := by decide +kernel
theorem dX12_seeded_39 : decode cX12_seeded 39 = .ok (.aload_n 0, 1) := by decide +kernel
theorem dX12_seeded_40 : decode cX12_seeded 40 = .ok (.iload_n 2, 1) := by decide +kernel
theorem dX12_seeded_41 : decode cX12_seeded 41 = .ok (.putfield 215, 3) := by decide +kernel
theorem dX12_seeded_44 : decode cX12_seeded 44 = .ok (.iconst 0, 1) := by decide +kernel
theorem dX12_seeded_45 : decode cX12_seeded 45 = .ok (.istore_n 3, 1) := by decide +kernel
theorem dX12_seeded_46 : decode cX12_seeded 46 = .ok (.iload_n 3, 1) := by decide +kernel
theorem dX12_seeded_47 : decode cX12_seeded 47 = .ok (.iload_n 1, 1) := by decide +kernel
theorem dX12_seeded_48 : decode cX12_seeded 48 = .ok (.if_icmp .ge 39, 3) := by decide +kernel
theorem dX12_seeded_51 : decode cX12_seeded 51 = .ok (.aload_n 0, 1) := by decide +kernel
theorem dX12_seeded_52 : decode cX12_seeded 52 = .ok (.aload_n 0, 1) := by decide +kernel
theorem dX12_seeded_53 : decode cX12_seeded 53 = .ok (.getfield 9, 3) := by decide +kernel
theorem dX12_seeded_56 : decode cX12_seeded 56 = .ok (.iconst 1, 1) := by decide +kernel
theorem dX12_seeded_57 : decode cX12_seeded 57 = .ok (.iaload, 1) := by decide +kernel
theorem dX12_seeded_58 : decode cX12_seeded 58 = .ok (.invokevirtual 223, 3) := by decide +kernel
theorem dX12_seeded_61 : decode cX12_seeded 61 = .ok (.istore 4, 2) := by decide +kernel
theorem dX12_seeded_63 : decode cX12_seeded 63 = .ok (.aload_n 0, 1) := by decide +kernel
theorem dX12_seeded_64 : decode cX12_seeded 64 = .ok (.iload 4, 2) := by decide +kernel
theorem dX12_seeded_66 : decode cX12_seeded 66 = .ok (.aload_n 0, 1) := by decide +kernel
theorem dX12_seeded_67 : decode cX12_seeded 67 = .ok (.aload_n 0, 1) := by decide +kernel
theorem dX12_seeded_68 : decode cX12_seeded 68 = .ok (.getfield 9, 3) := by decide +kernel
theorem dX12_seeded_71 : decode cX12_seeded 71 = .ok (.iconst 0, 1) := by decide +kernel
theorem dX12_seeded_72 : decode cX12_seeded 72 = .ok (.iaload, 1) := by decide +kernel
theorem dX12_seeded_73 : decode cX12_seeded 73 = .ok (.invokevirtual 223, 3) := by decide +kernel
theorem dX12_seeded_76 : decode cX12_seeded 76 = .ok (.invokevirtual 212, 3) := by decide +kernel
theorem dX12_seeded_79 : decode cX12_seeded 79 = .ok (.istore 5, 2) := by decide +kernel
theorem dX12_seeded_81 : decode cX12_seeded 81 = .ok (.iinc 3 1, 3) := by decide +kernel
theorem dX12_seeded_84 : decode cX12_seeded 84 = .ok (.goto (-38), 3) := by decide +kernel
theorem dX12_seeded_87 : decode cX12_seeded 87 = .ok (.aload_n 0, 1) := by decide +kernel
theorem dX12_seeded_88 : decode cX12_seeded 88 = .ok (.getfield 9, 3) := by decide +kernel
theorem dX12_seeded_91 : decode cX12_seeded 91 = .ok (.iconst 2, 1) := by decide +kernel
theorem dX12_seeded_92 : decode cX12_seeded 92 = .ok (.iaload, 1) := by decide +kernel
theorem dX12_seeded_93 : decode cX12_seeded 93 = .ok (.invokestatic 93, 3) := by decide +kernel
theorem dX12_seeded_96 : decode cX12_seeded 96 = .ok (.istore_n 3, 1) := by decide +kernel
theorem dX12_seeded_97 : decode cX12_seeded 97 = .ok (.aload_n 0, 1) := by decide +kernel
theorem dX12_seeded_98 : decode cX12_seeded 98 = .ok (.invokevirtual 206, 3) := by decide +kernel
theorem dX12_seeded_101 : decode cX12_seeded 101 = .ok (.iload_n 3, 1) := by decide +kernel
theorem dX12_seeded_102 : decode cX12_seeded 102 = .ok (.ireturn, 1) := by decide +kernel
set_option maxRecDepth 20000 in
theorem ggX12_wrongThree_X12_told : GoodIn wsX12_wrongThree wsX12_told := goodIn_r _ [5, 6, 70, 71, 72, 73, 74, 75, 76, 77, 78, 79, 80, 81, 82, 83, 84, 85, 86, 87, 88, 89] (by decide +kernel) (by decide +kernel)
set_option maxRecDepth 20000 in
theorem gX12_wrongThree_X12_told : GoodIn wsX12_wrongThree (wsV RX12 209 RX12 yX12_told wsX12_told) := goodIn_app (goodIn_of _ (by decide +kernel)) ggX12_wrongThree_X12_told
set_option maxRecDepth 20000 in
theorem ggX12_wrongThree_X12_isDenier : GoodIn wsX12_wrongThree wsX12_isDenier := goodIn_r _ [10, 11, 12, 13, 4, 14, 70, 71, 72, 73, 74, 75, 76, 77, 78, 79, 80, 81, 82, 83, 84, 85, 86, 87, 88, 89] (by decide +kernel) (by decide +kernel)
set_option maxRecDepth 20000 in
theorem gX12_wrongThree_X12_isDenier : GoodIn wsX12_wrongThree (wsV RX12 141 RX12 yX12_isDenier wsX12_isDenier) := goodIn_app (goodIn_of _ (by decide +kernel)) ggX12_wrongThree_X12_isDenier
set_option maxRecDepth 20000 in
theorem ggX12_wrongThree_X12_isSentence : GoodIn wsX12_wrongThree wsX12_isSentence := goodIn_r _ [18, 11, 12, 13, 4, 14, 70, 71, 72, 73, 74, 75, 76, 77, 78, 79, 80, 81, 82, 83, 84, 85, 86, 87, 88, 89] (by decide +kernel) (by decide +kernel)
set_option maxRecDepth 20000 in
theorem gX12_wrongThree_X12_isSentence : GoodIn wsX12_wrongThree (wsV RX12 135 RX12 yX12_isSentence wsX12_isSentence) := goodIn_app (goodIn_of _ (by decide +kernel)) ggX12_wrongThree_X12_isSentence
set_option maxRecDepth 20000 in
theorem ggX12_wrongThree_X12_mayNow : GoodIn wsX12_wrongThree wsX12_mayNow := goodIn_r _ [22, 23, 24, 25, 4, 26, 11, 27, 28, 29, 30, 31, 32, 33, 34, 35, 36, 37, 38, 39, 40, 41, 42, 43, 44, 45, 46, 47, 48, 49, 50, 51, 52, 53, 70, 71, 72, 73, 74, 75, 76, 77, 78, 79, 80, 81, 82, 83, 84, 85, 86, 87, 88, 89] (by decide +kernel) (by decide +kernel)
set_option maxRecDepth 20000 in
theorem gX12_wrongThree_X12_mayNow : GoodIn wsX12_wrongThree (wsV RX12 144 RX12 yX12_mayNow wsX12_mayNow) := goodIn_app (goodIn_of _ (by decide +kernel)) ggX12_wrongThree_X12_mayNow
set_option maxRecDepth 20000 in
theorem ggX12_wrongThree_X12_denies : GoodIn wsX12_wrongThree wsX12_denies := goodIn_r _ [57, 11, 58, 59, 60, 4, 61, 34, 35, 36, 37, 46, 47, 48, 49, 50, 51, 52, 53, 62, 63, 64, 65, 66, 67, 68, 69, 70, 71, 72, 73, 74, 75, 76, 77, 78, 79, 80, 81, 82, 83, 84, 85, 86, 87, 88, 89] (by decide +kernel) (by decide +kernel)
set_option maxRecDepth 20000 in
theorem gX12_wrongThree_X12_denies : GoodIn wsX12_wrongThree (wsV RX12 147 RX12 yX12_denies wsX12_denies) := goodIn_app (goodIn_of _ (by decide +kernel)) ggX12_wrongThree_X12_denies
theorem dX12_wrongThree_0 : decode cX12_wrongThree 0 = .ok (.aload_n 0, 1) := by decide +kernel
theorem dX12_wrongThree_1 : decode cX12_wrongThree 1 = .ok (.iload_n 1, 1) := by decide +kernel
theorem dX12_wrongThree_2 : decode cX12_wrongThree 2 = .ok (.iload_n 2, 1) := by decide +kernel
theorem dX12_wrongThree_3 : decode cX12_wrongThree 3 = .ok (.invokevirtual 209, 3) := by decide +kernel
theorem dX12_wrongThree_6 : decode cX12_wrongThree 6 = .ok (.istore_n 3, 1) := by decide +kernel
theorem dX12_wrongThree_7 : decode cX12_wrongThree 7 = .ok (.aload_n 0, 1) := by decide +kernel
theorem dX12_wrongThree_8 : decode cX12_wrongThree 8 = .ok (.iload_n 1, 1) := by decide +kernel
theorem dX12_wrongThree_9 : decode cX12_wrongThree 9 = .ok (.iload_n 2, 1) := by decide +kernel
theorem dX12_wrongThree_10 : decode cX12_wrongThree 10 = .ok (.iconst 1, 1) := by decide +kernel
theorem dX12_wrongThree_11 : decode cX12_wrongThree 11 = .ok (.iadd, 1) := by decide +kernel
theorem dX12_wrongThree_12 : decode cX12_wrongThree 12 = .ok (.invokevirtual 209, 3) := by decide +kernel
theorem dX12_wrongThree_15 : decode cX12_wrongThree 15 = .ok (.istore 4, 2) := by decide +kernel
theorem dX12_wrongThree_17 : decode cX12_wrongThree 17 = .ok (.aload_n 0, 1) := by decide +kernel
theorem dX12_wrongThree_18 : decode cX12_wrongThree 18 = .ok (.iload_n 3, 1) := by decide +kernel
theorem dX12_wrongThree_19 : decode cX12_wrongThree 19 = .ok (.invokevirtual 141, 3) := by decide +kernel
theorem dX12_wrongThree_22 : decode cX12_wrongThree 22 = .ok (.ifCond .ne 5, 3) := by decide +kernel
theorem dX12_wrongThree_25 : decode cX12_wrongThree 25 = .ok (.iload_n 2, 1) := by decide +kernel
theorem dX12_wrongThree_26 : decode cX12_wrongThree 26 = .ok (.ireturn, 1) := by decide +kernel
theorem dX12_wrongThree_27 : decode cX12_wrongThree 27 = .ok (.aload_n 0, 1) := by decide +kernel
theorem dX12_wrongThree_28 : decode cX12_wrongThree 28 = .ok (.iload 4, 2) := by decide +kernel
theorem dX12_wrongThree_30 : decode cX12_wrongThree 30 = .ok (.invokevirtual 135, 3) := by decide +kernel
theorem dX12_wrongThree_33 : decode cX12_wrongThree 33 = .ok (.ifCond .eq 13, 3) := by decide +kernel
theorem dX12_wrongThree_36 : decode cX12_wrongThree 36 = .ok (.aload_n 0, 1) := by decide +kernel
theorem dX12_wrongThree_37 : decode cX12_wrongThree 37 = .ok (.iload_n 3, 1) := by decide +kernel
theorem dX12_wrongThree_38 : decode cX12_wrongThree 38 = .ok (.iload 4, 2) := by decide +kernel
theorem dX12_wrongThree_40 : decode cX12_wrongThree 40 = .ok (.invokevirtual 144, 3) := by decide +kernel
theorem dX12_wrongThree_43 : decode cX12_wrongThree 43 = .ok (.ifCond .ne 7, 3) := by decide +kernel
theorem dX12_wrongThree_46 : decode cX12_wrongThree 46 = .ok (.iload_n 2, 1) := by decide +kernel
theorem dX12_wrongThree_47 : decode cX12_wrongThree 47 = .ok (.iconst 1, 1) := by decide +kernel
theorem dX12_wrongThree_48 : decode cX12_wrongThree 48 = .ok (.iadd, 1) := by decide +kernel
theorem dX12_wrongThree_49 : decode cX12_wrongThree 49 = .ok (.ireturn, 1) := by decide +kernel
theorem dX12_wrongThree_50 : decode cX12_wrongThree 50 = .ok (.aload_n 0, 1) := by decide +kernel
theorem dX12_wrongThree_51 : decode cX12_wrongThree 51 = .ok (.iload_n 3, 1) := by decide +kernel
theorem dX12_wrongThree_52 : decode cX12_wrongThree 52 = .ok (.iload 4, 2) := by decide +kernel
theorem dX12_wrongThree_54 : decode cX12_wrongThree 54 = .ok (.invokevirtual 147, 3) := by decide +kernel
theorem dX12_wrongThree_57 : decode cX12_wrongThree 57 = .ok (.ifCond .eq 7, 3) := by decide +kernel
theorem dX12_wrongThree_60 : decode cX12_wrongThree 60 = .ok (.iconst 1, 1) := by decide +kernel
theorem dX12_wrongThree_61 : decode cX12_wrongThree 61 = .ok (.goto 4, 3) := by decide +kernel
theorem dX12_wrongThree_64 : decode cX12_wrongThree 64 = .ok (.iconst 0, 1) := by decide +kernel
theorem dX12_wrongThree_65 : decode cX12_wrongThree 65 = .ok (.aload_n 0, 1) := by decide +kernel
theorem dX12_wrongThree_66 : decode cX12_wrongThree 66 = .ok (.iload_n 1, 1) := by decide +kernel
theorem dX12_wrongThree_67 : decode cX12_wrongThree 67 = .ok (.iload_n 2, 1) := by decide +kernel
theorem dX12_wrongThree_68 : decode cX12_wrongThree 68 = .ok (.iconst 2, 1) := by decide +kernel
theorem dX12_wrongThree_69 : decode cX12_wrongThree 69 = .ok (.iadd, 1) := by decide +kernel
theorem dX12_wrongThree_70 : decode cX12_wrongThree 70 = .ok (.invokevirtual 209, 3) := by decide +kernel
theorem dX12_wrongThree_73 : decode cX12_wrongThree 73 = .ok (.if_icmp .ne 8, 3) := by decide +kernel
theorem dX12_wrongThree_76 : decode cX12_wrongThree 76 = .ok (.bipush (-4), 2) := by decide +kernel
theorem dX12_wrongThree_78 : decode cX12_wrongThree 78 = .ok (.goto 6, 3) := by decide +kernel
theorem dX12_wrongThree_81 : decode cX12_wrongThree 81 = .ok (.iload_n 2, 1) := by decide +kernel
theorem dX12_wrongThree_82 : decode cX12_wrongThree 82 = .ok (.iconst 2, 1) := by decide +kernel
theorem dX12_wrongThree_83 : decode cX12_wrongThree 83 = .ok (.iadd, 1) := by decide +kernel
theorem dX12_wrongThree_84 : decode cX12_wrongThree 84 = .ok (.ireturn, 1) := by decide +kernel
set_option maxRecDepth 20000 in
theorem ggX12_judge_X12_wrongRow : GoodIn wsX12_judge wsX12_wrongRow := goodIn_r _ [6, 7, 8, 9, 10, 5, 11, 12, 13, 14, 15, 97, 98, 99, 100, 101, 102, 103, 104, 105, 106, 107, 108, 109, 110, 111, 112, 113, 114, 115, 116] (by decide +kernel) (by decide +kernel)
set_option maxRecDepth 20000 in
theorem gX12_judge_X12_wrongRow : GoodIn wsX12_judge (wsV RX12 153 RX12 yX12_wrongRow wsX12_wrongRow) := goodIn_app (goodIn_of _ (by decide +kernel)) ggX12_judge_X12_wrongRow
set_option maxRecDepth 20000 in
theorem ggX12_judge_X12_begins : GoodIn wsX12_judge wsX12_begins := goodIn_r _ [19, 20, 21, 22, 23, 5, 24, 97, 98, 99, 100, 101, 102, 103, 104, 105, 106, 107, 108, 109, 110, 111, 112, 113, 114, 115, 116] (by decide +kernel) (by decide +kernel)
set_option maxRecDepth 20000 in
theorem gX12_judge_X12_begins : GoodIn wsX12_judge (wsV RX12 203 RX12 yX12_begins wsX12_begins) := goodIn_app (goodIn_of _ (by decide +kernel)) ggX12_judge_X12_begins
set_option maxRecDepth 20000 in
theorem ggX12_judge_X12_wrongThree : GoodIn wsX12_judge wsX12_wrongThree := goodIn_r _ [28, 29, 30, 31, 5, 32, 33, 34, 35, 36, 37, 20, 13, 14, 15, 38, 39, 40, 41, 42, 43, 44, 45, 46, 47, 48, 49, 50, 51, 52, 53, 54, 55, 56, 57, 58, 59, 60, 61, 62, 63, 64, 65, 66, 67, 68, 69, 70, 71, 72, 73, 74, 75, 76, 77, 78, 79, 80, 81, 82, 83, 84, 85, 86, 87, 88, 89, 90, 91, 92, 97, 98, 99, 100, 101, 102, 103, 104, 105, 106, 107, 108, 109, 110, 111, 112, 113, 114, 115, 116] (by decide +kernel) (by decide +kernel)
set_option maxRecDepth 20000 in
theorem gX12_judge_X12_wrongThree : GoodIn wsX12_judge (wsV RX12 226 RX12 yX12_wrongThree wsX12_wrongThree) := goodIn_app (goodIn_of _ (by decide +kernel)) ggX12_judge_X12_wrongThree
set_option maxRecDepth 20000 in
theorem ggX12_judge_X12_ends : GoodIn wsX12_judge wsX12_ends := goodIn_r _ [96, 21, 20, 22, 23, 5, 24, 97, 98, 99, 100, 101, 102, 103, 104, 105, 106, 107, 108, 109, 110, 111, 112, 113, 114, 115, 116] (by decide +kernel) (by decide +kernel)
set_option maxRecDepth 20000 in
theorem gX12_judge_X12_ends : GoodIn wsX12_judge (wsV RX12 206 RX12 yX12_ends wsX12_ends) := goodIn_app (goodIn_of _ (by decide +kernel)) ggX12_judge_X12_ends
theorem dX12_judge_0 : decode cX12_judge 0 = .ok (.aload_n 0, 1) := by decide +kernel
theorem dX12_judge_1 : decode cX12_judge 1 = .ok (.iload_n 1, 1) := by decide +kernel
theorem dX12_judge_2 : decode cX12_judge 2 = .ok (.iconst (-1), 1) := by decide +kernel
theorem dX12_judge_3 : decode cX12_judge 3 = .ok (.invokevirtual 153, 3) := by decide +kernel
theorem dX12_judge_6 : decode cX12_judge 6 = .ok (.istore_n 2, 1) := by decide +kernel
theorem dX12_judge_7 : decode cX12_judge 7 = .ok (.iload_n 2, 1) := by decide +kernel
theorem dX12_judge_8 : decode cX12_judge 8 = .ok (.ifCond .eq 5, 3) := by decide +kernel
theorem dX12_judge_11 : decode cX12_judge 11 = .ok (.iload_n 2, 1) := by decide +kernel
theorem dX12_judge_12 : decode cX12_judge 12 = .ok (.ireturn, 1) := by decide +kernel
theorem dX12_judge_13 : decode cX12_judge 13 = .ok (.aload_n 0, 1) := by decide +kernel
theorem dX12_judge_14 : decode cX12_judge 14 = .ok (.invokevirtual 203, 3) := by decide +kernel
theorem dX12_judge_17 : decode cX12_judge 17 = .ok (.bipush (-4), 2) := by decide +kernel
theorem dX12_judge_19 : decode cX12_judge 19 = .ok (.istore_n 3, 1) := by decide +kernel
theorem dX12_judge_20 : decode cX12_judge 20 = .ok (.iconst 0, 1) := by decide +kernel
theorem dX12_judge_21 : decode cX12_judge 21 = .ok (.istore 4, 2) := by decide +kernel
theorem dX12_judge_23 : decode cX12_judge 23 = .ok (.iload 4, 2) := by decide +kernel
theorem dX12_judge_25 : decode cX12_judge 25 = .ok (.iconst 2, 1) := by decide +kernel
theorem dX12_judge_26 : decode cX12_judge 26 = .ok (.iadd, 1) := by decide +kernel
theorem dX12_judge_27 : decode cX12_judge 27 = .ok (.aload_n 0, 1) := by decide +kernel
theorem dX12_judge_28 : decode cX12_judge 28 = .ok (.getfield 28, 3) := by decide +kernel
theorem dX12_judge_31 : decode cX12_judge 31 = .ok (.iload_n 1, 1) := by decide +kernel
theorem dX12_judge_32 : decode cX12_judge 32 = .ok (.iaload, 1) := by decide +kernel
theorem dX12_judge_33 : decode cX12_judge 33 = .ok (.if_icmp .ge 21, 3) := by decide +kernel
theorem dX12_judge_36 : decode cX12_judge 36 = .ok (.iload_n 3, 1) := by decide +kernel
theorem dX12_judge_37 : decode cX12_judge 37 = .ok (.ifCond .ge 17, 3) := by decide +kernel
theorem dX12_judge_40 : decode cX12_judge 40 = .ok (.aload_n 0, 1) := by decide +kernel
theorem dX12_judge_41 : decode cX12_judge 41 = .ok (.iload_n 1, 1) := by decide +kernel
theorem dX12_judge_42 : decode cX12_judge 42 = .ok (.iload 4, 2) := by decide +kernel
theorem dX12_judge_44 : decode cX12_judge 44 = .ok (.invokevirtual 226, 3) := by decide +kernel
theorem dX12_judge_47 : decode cX12_judge 47 = .ok (.istore_n 3, 1) := by decide +kernel
theorem dX12_judge_48 : decode cX12_judge 48 = .ok (.iinc 4 3, 3) := by decide +kernel
theorem dX12_judge_51 : decode cX12_judge 51 = .ok (.goto (-28), 3) := by decide +kernel
theorem dX12_judge_54 : decode cX12_judge 54 = .ok (.aload_n 0, 1) := by decide +kernel
theorem dX12_judge_55 : decode cX12_judge 55 = .ok (.invokevirtual 206, 3) := by decide +kernel
theorem dX12_judge_58 : decode cX12_judge 58 = .ok (.iload_n 3, 1) := by decide +kernel
theorem dX12_judge_59 : decode cX12_judge 59 = .ok (.ifCond .ge 14, 3) := by decide +kernel
theorem dX12_judge_62 : decode cX12_judge 62 = .ok (.aload_n 0, 1) := by decide +kernel
theorem dX12_judge_63 : decode cX12_judge 63 = .ok (.getfield 28, 3) := by decide +kernel
theorem dX12_judge_66 : decode cX12_judge 66 = .ok (.iload_n 1, 1) := by decide +kernel
theorem dX12_judge_67 : decode cX12_judge 67 = .ok (.iaload, 1) := by decide +kernel
theorem dX12_judge_68 : decode cX12_judge 68 = .ok (.iconst 3, 1) := by decide +kernel
theorem dX12_judge_69 : decode cX12_judge 69 = .ok (.irem, 1) := by decide +kernel
theorem dX12_judge_70 : decode cX12_judge 70 = .ok (.ifCond .ne 7, 3) := by decide +kernel
theorem dX12_judge_73 : decode cX12_judge 73 = .ok (.iload_n 3, 1) := by decide +kernel
theorem dX12_judge_74 : decode cX12_judge 74 = .ok (.goto 5, 3) := by decide +kernel
theorem dX12_judge_77 : decode cX12_judge 77 = .ok (.iload 4, 2) := by decide +kernel
theorem dX12_judge_79 : decode cX12_judge 79 = .ok (.ireturn, 1) := by decide +kernel
set_option maxRecDepth 20000 in
theorem ggX12_image_X12_lays : GoodIn wsX12_image wsX12_lays := goodIn_r _ [7] (by decide +kernel) (by decide +kernel)
set_option maxRecDepth 20000 in
theorem gX12_image_X12_lays : GoodIn wsX12_image (va_wsS RX12 62 yX12_lays wsX12_lays) := goodIn_app (goodIn_of _ (by decide +kernel)) ggX12_image_X12_lays
set_option maxRecDepth 20000 in
theorem ggX12_image_X12_bits : GoodIn wsX12_image wsX12_bits := goodIn_r _ [10] (by decide +kernel) (by decide +kernel)
set_option maxRecDepth 20000 in
theorem gX12_image_X12_bits : GoodIn wsX12_image (va_wsS RX12 93 yX12_bits wsX12_bits) := goodIn_app (goodIn_of _ (by decide +kernel)) ggX12_image_X12_bits
theorem dX12_image_0 : decode cX12_image 0 = .ok (.aload_n 0, 1) := by decide +kernel
theorem dX12_image_1 : decode cX12_image 1 = .ok (.getfield 9, 3) := by decide +kernel
theorem dX12_image_4 : decode cX12_image 4 = .ok (.aload_n 0, 1) := by decide +kernel
theorem dX12_image_5 : decode cX12_image 5 = .ok (.getfield 13, 3) := by decide +kernel
theorem dX12_image_8 : decode cX12_image 8 = .ok (.invokestatic 62, 3) := by decide +kernel
theorem dX12_image_11 : decode cX12_image 11 = .ok (.aload_n 0, 1) := by decide +kernel
theorem dX12_image_12 : decode cX12_image 12 = .ok (.iconst 1, 1) := by decide +kernel
theorem dX12_image_13 : decode cX12_image 13 = .ok (.putfield 229, 3) := by decide +kernel
theorem dX12_image_16 : decode cX12_image 16 = .ok (.aload_n 0, 1) := by decide +kernel
theorem dX12_image_17 : decode cX12_image 17 = .ok (.getfield 9, 3) := by decide +kernel
theorem dX12_image_20 : decode cX12_image 20 = .ok (.iconst 2, 1) := by decide +kernel
theorem dX12_image_21 : decode cX12_image 21 = .ok (.iaload, 1) := by decide +kernel
theorem dX12_image_22 : decode cX12_image 22 = .ok (.invokestatic 93, 3) := by decide +kernel
theorem dX12_image_25 : decode cX12_image 25 = .ok (.ireturn, 1) := by decide +kernel
set_option maxRecDepth 20000 in
theorem ggX12_restore_X12_lays : GoodIn wsX12_restore wsX12_lays := goodIn_r _ [7] (by decide +kernel) (by decide +kernel)
set_option maxRecDepth 20000 in
theorem gX12_restore_X12_lays : GoodIn wsX12_restore (va_wsS RX12 62 yX12_lays wsX12_lays) := goodIn_app (goodIn_of _ (by decide +kernel)) ggX12_restore_X12_lays
set_option maxRecDepth 20000 in
theorem ggX12_restore_X12_bits : GoodIn wsX12_restore wsX12_bits := goodIn_r _ [10] (by decide +kernel) (by decide +kernel)
set_option maxRecDepth 20000 in
theorem gX12_restore_X12_bits : GoodIn wsX12_restore (va_wsS RX12 93 yX12_bits wsX12_bits) := goodIn_app (goodIn_of _ (by decide +kernel)) ggX12_restore_X12_bits
theorem dX12_restore_0 : decode cX12_restore 0 = .ok (.aload_n 0, 1) := by decide +kernel
theorem dX12_restore_1 : decode cX12_restore 1 = .ok (.getfield 229, 3) := by decide +kernel
theorem dX12_restore_4 : decode cX12_restore 4 = .ok (.ifCond .ne 6, 3) := by decide +kernel
theorem dX12_restore_7 : decode cX12_restore 7 = .ok (.bipush (-3), 2) := by decide +kernel
theorem dX12_restore_9 : decode cX12_restore 9 = .ok (.ireturn, 1) := by decide +kernel
theorem dX12_restore_10 : decode cX12_restore 10 = .ok (.aload_n 0, 1) := by decide +kernel
theorem dX12_restore_11 : decode cX12_restore 11 = .ok (.getfield 13, 3) := by decide +kernel
theorem dX12_restore_14 : decode cX12_restore 14 = .ok (.aload_n 0, 1) := by decide +kernel
theorem dX12_restore_15 : decode cX12_restore 15 = .ok (.getfield 9, 3) := by decide +kernel
theorem dX12_restore_18 : decode cX12_restore 18 = .ok (.invokestatic 62, 3) := by decide +kernel
theorem dX12_restore_21 : decode cX12_restore 21 = .ok (.aload_n 0, 1) := by decide +kernel
theorem dX12_restore_22 : decode cX12_restore 22 = .ok (.getfield 9, 3) := by decide +kernel
theorem dX12_restore_25 : decode cX12_restore 25 = .ok (.iconst 2, 1) := by decide +kernel
theorem dX12_restore_26 : decode cX12_restore 26 = .ok (.iaload, 1) := by decide +kernel
theorem dX12_restore_27 : decode cX12_restore 27 = .ok (.invokestatic 93, 3) := by decide +kernel
theorem dX12_restore_30 : decode cX12_restore 30 = .ok (.ireturn, 1) := by decide +kernel
set_option maxRecDepth 20000 in
theorem ggX12_count_X12_bits : GoodIn wsX12_count wsX12_bits := goodIn_r _ [5] (by decide +kernel) (by decide +kernel)
set_option maxRecDepth 20000 in
theorem gX12_count_X12_bits : GoodIn wsX12_count (va_wsS RX12 93 yX12_bits wsX12_bits) := goodIn_app (goodIn_of _ (by decide +kernel)) ggX12_count_X12_bits
theorem dX12_count_0 : decode cX12_count 0 = .ok (.iload_n 1, 1) := by decide +kernel
theorem dX12_count_1 : decode cX12_count 1 = .ok (.tableswitch 76 0 4 #[35, 42, 49, 56, 66], 35) := by decide +kernel
theorem dX12_count_36 : decode cX12_count 36 = .ok (.aload_n 0, 1) := by decide +kernel
theorem dX12_count_37 : decode cX12_count 37 = .ok (.getfield 9, 3) := by decide +kernel
theorem dX12_count_40 : decode cX12_count 40 = .ok (.iconst 0, 1) := by decide +kernel
theorem dX12_count_41 : decode cX12_count 41 = .ok (.iaload, 1) := by decide +kernel
theorem dX12_count_42 : decode cX12_count 42 = .ok (.ireturn, 1) := by decide +kernel
theorem dX12_count_43 : decode cX12_count 43 = .ok (.aload_n 0, 1) := by decide +kernel
theorem dX12_count_44 : decode cX12_count 44 = .ok (.getfield 9, 3) := by decide +kernel
theorem dX12_count_47 : decode cX12_count 47 = .ok (.iconst 1, 1) := by decide +kernel
theorem dX12_count_48 : decode cX12_count 48 = .ok (.iaload, 1) := by decide +kernel
theorem dX12_count_49 : decode cX12_count 49 = .ok (.ireturn, 1) := by decide +kernel
theorem dX12_count_50 : decode cX12_count 50 = .ok (.aload_n 0, 1) := by decide +kernel
theorem dX12_count_51 : decode cX12_count 51 = .ok (.getfield 9, 3) := by decide +kernel
theorem dX12_count_54 : decode cX12_count 54 = .ok (.iconst 3, 1) := by decide +kernel
theorem dX12_count_55 : decode cX12_count 55 = .ok (.iaload, 1) := by decide +kernel
theorem dX12_count_56 : decode cX12_count 56 = .ok (.ireturn, 1) := by decide +kernel
theorem dX12_count_57 : decode cX12_count 57 = .ok (.aload_n 0, 1) := by decide +kernel
theorem dX12_count_58 : decode cX12_count 58 = .ok (.getfield 9, 3) := by decide +kernel
theorem dX12_count_61 : decode cX12_count 61 = .ok (.iconst 2, 1) := by decide +kernel
theorem dX12_count_62 : decode cX12_count 62 = .ok (.iaload, 1) := by decide +kernel
theorem dX12_count_63 : decode cX12_count 63 = .ok (.invokestatic 93, 3) := by decide +kernel
theorem dX12_count_66 : decode cX12_count 66 = .ok (.ireturn, 1) := by decide +kernel
theorem dX12_count_67 : decode cX12_count 67 = .ok (.aload_n 0, 1) := by decide +kernel
theorem dX12_count_68 : decode cX12_count 68 = .ok (.getfield 9, 3) := by decide +kernel
theorem dX12_count_71 : decode cX12_count 71 = .ok (.iconst 4, 1) := by decide +kernel
theorem dX12_count_72 : decode cX12_count 72 = .ok (.iaload, 1) := by decide +kernel
theorem dX12_count_73 : decode cX12_count 73 = .ok (.invokestatic 93, 3) := by decide +kernel
theorem dX12_count_76 : decode cX12_count 76 = .ok (.ireturn, 1) := by decide +kernel
theorem dX12_count_77 : decode cX12_count 77 = .ok (.iconst (-1), 1) := by decide +kernel
theorem dX12_count_78 : decode cX12_count 78 = .ok (.ireturn, 1) := by decide +kernel
set_option maxRecDepth 20000 in
theorem ggX12_keep_X12_isShelf : GoodIn wsX12_keep wsX12_isShelf := goodIn_r _ [9, 1, 10, 11, 8, 12] (by decide +kernel) (by decide +kernel)
set_option maxRecDepth 20000 in
theorem gX12_keep_X12_isShelf : GoodIn wsX12_keep (va_wsS RX12 150 yX12_isShelf wsX12_isShelf) := goodIn_app (goodIn_of _ (by decide +kernel)) ggX12_keep_X12_isShelf
set_option maxRecDepth 20000 in
theorem ggX12_keep_X12_isIn : GoodIn wsX12_keep wsX12_isIn := goodIn_r _ [12] (by decide +kernel) (by decide +kernel)
set_option maxRecDepth 20000 in
theorem gX12_keep_X12_isIn : GoodIn wsX12_keep (va_wsS RX12 58 yX12_isIn wsX12_isIn) := goodIn_app (goodIn_of _ (by decide +kernel)) ggX12_keep_X12_isIn
theorem dX12_keep_0 : decode cX12_keep 0 = .ok (.iload_n 1, 1) := by decide +kernel
theorem dX12_keep_1 : decode cX12_keep 1 = .ok (.invokestatic 150, 3) := by decide +kernel
theorem dX12_keep_4 : decode cX12_keep 4 = .ok (.ifCond .eq 43, 3) := by decide +kernel
theorem dX12_keep_7 : decode cX12_keep 7 = .ok (.iload_n 2, 1) := by decide +kernel
theorem dX12_keep_8 : decode cX12_keep 8 = .ok (.i2l, 1) := by decide +kernel
theorem dX12_keep_9 : decode cX12_keep 9 = .ok (.lconst 0, 1) := by decide +kernel
theorem dX12_keep_10 : decode cX12_keep 10 = .ok (.lconst 1, 1) := by decide +kernel
theorem dX12_keep_11 : decode cX12_keep 11 = .ok (.invokestatic 58, 3) := by decide +kernel
theorem dX12_keep_14 : decode cX12_keep 14 = .ok (.ifCond .eq 33, 3) := by decide +kernel
theorem dX12_keep_17 : decode cX12_keep 17 = .ok (.iload_n 2, 1) := by decide +kernel
theorem dX12_keep_18 : decode cX12_keep 18 = .ok (.iconst 1, 1) := by decide +kernel
theorem dX12_keep_19 : decode cX12_keep 19 = .ok (.if_icmp .ne 30, 3) := by decide +kernel
theorem dX12_keep_22 : decode cX12_keep 22 = .ok (.iload_n 3, 1) := by decide +kernel
theorem dX12_keep_23 : decode cX12_keep 23 = .ok (.i2l, 1) := by decide +kernel
theorem dX12_keep_24 : decode cX12_keep 24 = .ok (.lconst 0, 1) := by decide +kernel
theorem dX12_keep_25 : decode cX12_keep 25 = .ok (.ldc2_w 56, 3) := by decide +kernel
theorem dX12_keep_28 : decode cX12_keep 28 = .ok (.invokestatic 58, 3) := by decide +kernel
theorem dX12_keep_31 : decode cX12_keep 31 = .ok (.ifCond .eq 16, 3) := by decide +kernel
theorem dX12_keep_34 : decode cX12_keep 34 = .ok (.iload 4, 2) := by decide +kernel
theorem dX12_keep_36 : decode cX12_keep 36 = .ok (.i2l, 1) := by decide +kernel
theorem dX12_keep_37 : decode cX12_keep 37 = .ok (.lconst 0, 1) := by decide +kernel
theorem dX12_keep_38 : decode cX12_keep 38 = .ok (.ldc2_w 201, 3) := by decide +kernel
theorem dX12_keep_41 : decode cX12_keep 41 = .ok (.invokestatic 58, 3) := by decide +kernel
theorem dX12_keep_44 : decode cX12_keep 44 = .ok (.ifCond .ne 5, 3) := by decide +kernel
theorem dX12_keep_47 : decode cX12_keep 47 = .ok (.iconst (-1), 1) := by decide +kernel
theorem dX12_keep_48 : decode cX12_keep 48 = .ok (.ireturn, 1) := by decide +kernel
theorem dX12_keep_49 : decode cX12_keep 49 = .ok (.aload_n 0, 1) := by decide +kernel
theorem dX12_keep_50 : decode cX12_keep 50 = .ok (.getfield 22, 3) := by decide +kernel
theorem dX12_keep_53 : decode cX12_keep 53 = .ok (.iload_n 1, 1) := by decide +kernel
theorem dX12_keep_54 : decode cX12_keep 54 = .ok (.iload_n 2, 1) := by decide +kernel
theorem dX12_keep_55 : decode cX12_keep 55 = .ok (.iastore, 1) := by decide +kernel
theorem dX12_keep_56 : decode cX12_keep 56 = .ok (.aload_n 0, 1) := by decide +kernel
theorem dX12_keep_57 : decode cX12_keep 57 = .ok (.getfield 34, 3) := by decide +kernel
theorem dX12_keep_60 : decode cX12_keep 60 = .ok (.iload_n 1, 1) := by decide +kernel
theorem dX12_keep_61 : decode cX12_keep 61 = .ok (.iload_n 3, 1) := by decide +kernel
theorem dX12_keep_62 : decode cX12_keep 62 = .ok (.iastore, 1) := by decide +kernel
theorem dX12_keep_63 : decode cX12_keep 63 = .ok (.aload_n 0, 1) := by decide +kernel
theorem dX12_keep_64 : decode cX12_keep 64 = .ok (.getfield 37, 3) := by decide +kernel
theorem dX12_keep_67 : decode cX12_keep 67 = .ok (.iload_n 1, 1) := by decide +kernel
theorem dX12_keep_68 : decode cX12_keep 68 = .ok (.iload 4, 2) := by decide +kernel
theorem dX12_keep_70 : decode cX12_keep 70 = .ok (.iastore, 1) := by decide +kernel
theorem dX12_keep_71 : decode cX12_keep 71 = .ok (.iconst 0, 1) := by decide +kernel
theorem dX12_keep_72 : decode cX12_keep 72 = .ok (.ireturn, 1) := by decide +kernel
set_option maxRecDepth 20000 in
theorem ggX12_row_X12_isShelf : GoodIn wsX12_row wsX12_isShelf := goodIn_r _ [9, 10, 11, 12, 8, 13] (by decide +kernel) (by decide +kernel)
set_option maxRecDepth 20000 in
theorem gX12_row_X12_isShelf : GoodIn wsX12_row (va_wsS RX12 150 yX12_isShelf wsX12_isShelf) := goodIn_app (goodIn_of _ (by decide +kernel)) ggX12_row_X12_isShelf
set_option maxRecDepth 20000 in
theorem ggX12_row_X12_isIn : GoodIn wsX12_row wsX12_isIn := goodIn_r _ [13] (by decide +kernel) (by decide +kernel)
set_option maxRecDepth 20000 in
theorem gX12_row_X12_isIn : GoodIn wsX12_row (va_wsS RX12 58 yX12_isIn wsX12_isIn) := goodIn_app (goodIn_of _ (by decide +kernel)) ggX12_row_X12_isIn
theorem dX12_row_0 : decode cX12_row 0 = .ok (.iload_n 1, 1) := by decide +kernel
theorem dX12_row_1 : decode cX12_row 1 = .ok (.invokestatic 150, 3) := by decide +kernel
theorem dX12_row_4 : decode cX12_row 4 = .ok (.ifCond .eq 21, 3) := by decide +kernel
theorem dX12_row_7 : decode cX12_row 7 = .ok (.iload_n 2, 1) := by decide +kernel
theorem dX12_row_8 : decode cX12_row 8 = .ok (.i2l, 1) := by decide +kernel
theorem dX12_row_9 : decode cX12_row 9 = .ok (.lconst 0, 1) := by decide +kernel
theorem dX12_row_10 : decode cX12_row 10 = .ok (.ldc2_w 233, 3) := by decide +kernel
theorem dX12_row_13 : decode cX12_row 13 = .ok (.invokestatic 58, 3) := by decide +kernel
theorem dX12_row_16 : decode cX12_row 16 = .ok (.ifCond .eq 9, 3) := by decide +kernel
theorem dX12_row_19 : decode cX12_row 19 = .ok (.iload_n 3, 1) := by decide +kernel
theorem dX12_row_20 : decode cX12_row 20 = .ok (.bipush 100, 2) := by decide +kernel
theorem dX12_row_22 : decode cX12_row 22 = .ok (.if_icmp .le 5, 3) := by decide +kernel
theorem dX12_row_25 : decode cX12_row 25 = .ok (.iconst (-1), 1) := by decide +kernel
theorem dX12_row_26 : decode cX12_row 26 = .ok (.ireturn, 1) := by decide +kernel
theorem dX12_row_27 : decode cX12_row 27 = .ok (.iload_n 3, 1) := by decide +kernel
theorem dX12_row_28 : decode cX12_row 28 = .ok (.ifCond .ge 6, 3) := by decide +kernel
theorem dX12_row_31 : decode cX12_row 31 = .ok (.bipush (-14), 2) := by decide +kernel
theorem dX12_row_33 : decode cX12_row 33 = .ok (.ireturn, 1) := by decide +kernel
theorem dX12_row_34 : decode cX12_row 34 = .ok (.aload_n 0, 1) := by decide +kernel
theorem dX12_row_35 : decode cX12_row 35 = .ok (.getfield 22, 3) := by decide +kernel
theorem dX12_row_38 : decode cX12_row 38 = .ok (.iload_n 1, 1) := by decide +kernel
theorem dX12_row_39 : decode cX12_row 39 = .ok (.iconst 2, 1) := by decide +kernel
theorem dX12_row_40 : decode cX12_row 40 = .ok (.iastore, 1) := by decide +kernel
theorem dX12_row_41 : decode cX12_row 41 = .ok (.aload_n 0, 1) := by decide +kernel
theorem dX12_row_42 : decode cX12_row 42 = .ok (.getfield 25, 3) := by decide +kernel
theorem dX12_row_45 : decode cX12_row 45 = .ok (.iload_n 1, 1) := by decide +kernel
theorem dX12_row_46 : decode cX12_row 46 = .ok (.iload_n 2, 1) := by decide +kernel
theorem dX12_row_47 : decode cX12_row 47 = .ok (.iastore, 1) := by decide +kernel
theorem dX12_row_48 : decode cX12_row 48 = .ok (.aload_n 0, 1) := by decide +kernel
theorem dX12_row_49 : decode cX12_row 49 = .ok (.getfield 28, 3) := by decide +kernel
theorem dX12_row_52 : decode cX12_row 52 = .ok (.iload_n 1, 1) := by decide +kernel
theorem dX12_row_53 : decode cX12_row 53 = .ok (.iload_n 3, 1) := by decide +kernel
theorem dX12_row_54 : decode cX12_row 54 = .ok (.iastore, 1) := by decide +kernel
theorem dX12_row_55 : decode cX12_row 55 = .ok (.iconst 0, 1) := by decide +kernel
theorem dX12_row_56 : decode cX12_row 56 = .ok (.istore 4, 2) := by decide +kernel
theorem dX12_row_58 : decode cX12_row 58 = .ok (.iload 4, 2) := by decide +kernel
theorem dX12_row_60 : decode cX12_row 60 = .ok (.bipush 100, 2) := by decide +kernel
theorem dX12_row_62 : decode cX12_row 62 = .ok (.if_icmp .ge 22, 3) := by decide +kernel
theorem dX12_row_65 : decode cX12_row 65 = .ok (.aload_n 0, 1) := by decide +kernel
theorem dX12_row_66 : decode cX12_row 66 = .ok (.getfield 31, 3) := by decide +kernel
theorem dX12_row_69 : decode cX12_row 69 = .ok (.bipush 100, 2) := by decide +kernel
theorem dX12_row_71 : decode cX12_row 71 = .ok (.iload_n 1, 1) := by decide +kernel
theorem dX12_row_72 : decode cX12_row 72 = .ok (.imul, 1) := by decide +kernel
theorem dX12_row_73 : decode cX12_row 73 = .ok (.iload 4, 2) := by decide +kernel
theorem dX12_row_75 : decode cX12_row 75 = .ok (.iadd, 1) := by decide +kernel
theorem dX12_row_76 : decode cX12_row 76 = .ok (.iconst 0, 1) := by decide +kernel
theorem dX12_row_77 : decode cX12_row 77 = .ok (.iastore, 1) := by decide +kernel
theorem dX12_row_78 : decode cX12_row 78 = .ok (.iinc 4 1, 3) := by decide +kernel
theorem dX12_row_81 : decode cX12_row 81 = .ok (.goto (-23), 3) := by decide +kernel
theorem dX12_row_84 : decode cX12_row 84 = .ok (.iconst 0, 1) := by decide +kernel
theorem dX12_row_85 : decode cX12_row 85 = .ok (.ireturn, 1) := by decide +kernel
set_option maxRecDepth 20000 in
theorem ggX12_put_X12_wrongRow : GoodIn wsX12_put wsX12_wrongRow := goodIn_r _ [8, 9, 3, 10, 11, 7, 12, 13, 14, 15, 16, 17, 18, 19, 20, 21, 22, 23, 24, 25, 26, 27, 28, 29, 30, 31, 32, 33, 34, 35, 36] (by decide +kernel) (by decide +kernel)
set_option maxRecDepth 20000 in
theorem gX12_put_X12_wrongRow : GoodIn wsX12_put (wsV RX12 153 RX12 yX12_wrongRow wsX12_wrongRow) := goodIn_app (goodIn_of _ (by decide +kernel)) ggX12_put_X12_wrongRow
set_option maxRecDepth 20000 in
theorem ggX12_put_X12_isIn : GoodIn wsX12_put wsX12_isIn := goodIn_r _ [16] (by decide +kernel) (by decide +kernel)
set_option maxRecDepth 20000 in
theorem gX12_put_X12_isIn : GoodIn wsX12_put (va_wsS RX12 58 yX12_isIn wsX12_isIn) := goodIn_app (goodIn_of _ (by decide +kernel)) ggX12_put_X12_isIn
theorem dX12_put_0 : decode cX12_put 0 = .ok (.aload_n 0, 1) := by decide +kernel
theorem dX12_put_1 : decode cX12_put 1 = .ok (.iload_n 1, 1) := by decide +kernel
theorem dX12_put_2 : decode cX12_put 2 = .ok (.iconst (-1), 1) := by decide +kernel
theorem dX12_put_3 : decode cX12_put 3 = .ok (.invokevirtual 153, 3) := by decide +kernel
theorem dX12_put_6 : decode cX12_put 6 = .ok (.istore 4, 2) := by decide +kernel
theorem dX12_put_8 : decode cX12_put 8 = .ok (.iload 4, 2) := by decide +kernel
theorem dX12_put_10 : decode cX12_put 10 = .ok (.ifCond .eq 6, 3) := by decide +kernel
theorem dX12_put_13 : decode cX12_put 13 = .ok (.iload 4, 2) := by decide +kernel
theorem dX12_put_15 : decode cX12_put 15 = .ok (.ireturn, 1) := by decide +kernel
theorem dX12_put_16 : decode cX12_put 16 = .ok (.iload_n 2, 1) := by decide +kernel
theorem dX12_put_17 : decode cX12_put 17 = .ok (.i2l, 1) := by decide +kernel
theorem dX12_put_18 : decode cX12_put 18 = .ok (.lconst 0, 1) := by decide +kernel
theorem dX12_put_19 : decode cX12_put 19 = .ok (.aload_n 0, 1) := by decide +kernel
theorem dX12_put_20 : decode cX12_put 20 = .ok (.getfield 28, 3) := by decide +kernel
theorem dX12_put_23 : decode cX12_put 23 = .ok (.iload_n 1, 1) := by decide +kernel
theorem dX12_put_24 : decode cX12_put 24 = .ok (.iaload, 1) := by decide +kernel
theorem dX12_put_25 : decode cX12_put 25 = .ok (.iconst 1, 1) := by decide +kernel
theorem dX12_put_26 : decode cX12_put 26 = .ok (.isub, 1) := by decide +kernel
theorem dX12_put_27 : decode cX12_put 27 = .ok (.i2l, 1) := by decide +kernel
theorem dX12_put_28 : decode cX12_put 28 = .ok (.invokestatic 58, 3) := by decide +kernel
theorem dX12_put_31 : decode cX12_put 31 = .ok (.ifCond .ne 6, 3) := by decide +kernel
theorem dX12_put_34 : decode cX12_put 34 = .ok (.bipush (-13), 2) := by decide +kernel
theorem dX12_put_36 : decode cX12_put 36 = .ok (.ireturn, 1) := by decide +kernel
theorem dX12_put_37 : decode cX12_put 37 = .ok (.aload_n 0, 1) := by decide +kernel
theorem dX12_put_38 : decode cX12_put 38 = .ok (.getfield 31, 3) := by decide +kernel
theorem dX12_put_41 : decode cX12_put 41 = .ok (.bipush 100, 2) := by decide +kernel
theorem dX12_put_43 : decode cX12_put 43 = .ok (.iload_n 1, 1) := by decide +kernel
theorem dX12_put_44 : decode cX12_put 44 = .ok (.imul, 1) := by decide +kernel
theorem dX12_put_45 : decode cX12_put 45 = .ok (.iload_n 2, 1) := by decide +kernel
theorem dX12_put_46 : decode cX12_put 46 = .ok (.iadd, 1) := by decide +kernel
theorem dX12_put_47 : decode cX12_put 47 = .ok (.aload_n 0, 1) := by decide +kernel
theorem dX12_put_48 : decode cX12_put 48 = .ok (.getfield 25, 3) := by decide +kernel
theorem dX12_put_51 : decode cX12_put 51 = .ok (.iload_n 1, 1) := by decide +kernel
theorem dX12_put_52 : decode cX12_put 52 = .ok (.iaload, 1) := by decide +kernel
theorem dX12_put_53 : decode cX12_put 53 = .ok (.ifCond .ne 8, 3) := by decide +kernel
theorem dX12_put_56 : decode cX12_put 56 = .ok (.iload_n 3, 1) := by decide +kernel
theorem dX12_put_57 : decode cX12_put 57 = .ok (.i2b, 1) := by decide +kernel
theorem dX12_put_58 : decode cX12_put 58 = .ok (.goto 19, 3) := by decide +kernel
theorem dX12_put_61 : decode cX12_put 61 = .ok (.aload_n 0, 1) := by decide +kernel
theorem dX12_put_62 : decode cX12_put 62 = .ok (.getfield 25, 3) := by decide +kernel
theorem dX12_put_65 : decode cX12_put 65 = .ok (.iload_n 1, 1) := by decide +kernel
theorem dX12_put_66 : decode cX12_put 66 = .ok (.iaload, 1) := by decide +kernel
theorem dX12_put_67 : decode cX12_put 67 = .ok (.iconst 1, 1) := by decide +kernel
theorem dX12_put_68 : decode cX12_put 68 = .ok (.if_icmp .ne 8, 3) := by decide +kernel
theorem dX12_put_71 : decode cX12_put 71 = .ok (.iload_n 3, 1) := by decide +kernel
theorem dX12_put_72 : decode cX12_put 72 = .ok (.i2s, 1) := by decide +kernel
theorem dX12_put_73 : decode cX12_put 73 = .ok (.goto 4, 3) := by decide +kernel
theorem dX12_put_76 : decode cX12_put 76 = .ok (.iload_n 3, 1) := by decide +kernel
theorem dX12_put_77 : decode cX12_put 77 = .ok (.iastore, 1) := by decide +kernel
theorem dX12_put_78 : decode cX12_put 78 = .ok (.iconst 0, 1) := by decide +kernel
theorem dX12_put_79 : decode cX12_put 79 = .ok (.ireturn, 1) := by decide +kernel
set_option maxRecDepth 20000 in
theorem ggX12_element_X12_isShelf : GoodIn wsX12_element wsX12_isShelf := goodIn_r _ [8, 9, 10, 11, 7, 12] (by decide +kernel) (by decide +kernel)
set_option maxRecDepth 20000 in
theorem gX12_element_X12_isShelf : GoodIn wsX12_element (va_wsS RX12 150 yX12_isShelf wsX12_isShelf) := goodIn_app (goodIn_of _ (by decide +kernel)) ggX12_element_X12_isShelf
set_option maxRecDepth 20000 in
theorem ggX12_element_X12_isIn : GoodIn wsX12_element wsX12_isIn := goodIn_r _ [12] (by decide +kernel) (by decide +kernel)
set_option maxRecDepth 20000 in
theorem gX12_element_X12_isIn : GoodIn wsX12_element (va_wsS RX12 58 yX12_isIn wsX12_isIn) := goodIn_app (goodIn_of _ (by decide +kernel)) ggX12_element_X12_isIn
theorem dX12_element_0 : decode cX12_element 0 = .ok (.aload_n 0, 1) := by decide +kernel
theorem dX12_element_1 : decode cX12_element 1 = .ok (.iload_n 1, 1) := by decide +kernel
theorem dX12_element_2 : decode cX12_element 2 = .ok (.invokestatic 150, 3) := by decide +kernel
theorem dX12_element_5 : decode cX12_element 5 = .ok (.ifCond .ne 7, 3) := by decide +kernel
theorem dX12_element_8 : decode cX12_element 8 = .ok (.iconst 1, 1) := by decide +kernel
theorem dX12_element_9 : decode cX12_element 9 = .ok (.goto 36, 3) := by decide +kernel
theorem dX12_element_12 : decode cX12_element 12 = .ok (.aload_n 0, 1) := by decide +kernel
theorem dX12_element_13 : decode cX12_element 13 = .ok (.getfield 22, 3) := by decide +kernel
theorem dX12_element_16 : decode cX12_element 16 = .ok (.iload_n 1, 1) := by decide +kernel
theorem dX12_element_17 : decode cX12_element 17 = .ok (.iaload, 1) := by decide +kernel
theorem dX12_element_18 : decode cX12_element 18 = .ok (.iconst 2, 1) := by decide +kernel
theorem dX12_element_19 : decode cX12_element 19 = .ok (.if_icmp .ne 21, 3) := by decide +kernel
theorem dX12_element_22 : decode cX12_element 22 = .ok (.iload_n 2, 1) := by decide +kernel
theorem dX12_element_23 : decode cX12_element 23 = .ok (.i2l, 1) := by decide +kernel
theorem dX12_element_24 : decode cX12_element 24 = .ok (.lconst 0, 1) := by decide +kernel
theorem dX12_element_25 : decode cX12_element 25 = .ok (.aload_n 0, 1) := by decide +kernel
theorem dX12_element_26 : decode cX12_element 26 = .ok (.getfield 28, 3) := by decide +kernel
theorem dX12_element_29 : decode cX12_element 29 = .ok (.iload_n 1, 1) := by decide +kernel
theorem dX12_element_30 : decode cX12_element 30 = .ok (.iaload, 1) := by decide +kernel
theorem dX12_element_31 : decode cX12_element 31 = .ok (.iconst 1, 1) := by decide +kernel
theorem dX12_element_32 : decode cX12_element 32 = .ok (.isub, 1) := by decide +kernel
theorem dX12_element_33 : decode cX12_element 33 = .ok (.i2l, 1) := by decide +kernel
theorem dX12_element_34 : decode cX12_element 34 = .ok (.invokestatic 58, 3) := by decide +kernel
theorem dX12_element_37 : decode cX12_element 37 = .ok (.ifCond .ne 7, 3) := by decide +kernel
theorem dX12_element_40 : decode cX12_element 40 = .ok (.iconst 2, 1) := by decide +kernel
theorem dX12_element_41 : decode cX12_element 41 = .ok (.goto 4, 3) := by decide +kernel
theorem dX12_element_44 : decode cX12_element 44 = .ok (.iconst 0, 1) := by decide +kernel
theorem dX12_element_45 : decode cX12_element 45 = .ok (.putfield 52, 3) := by decide +kernel
theorem dX12_element_48 : decode cX12_element 48 = .ok (.aload_n 0, 1) := by decide +kernel
theorem dX12_element_49 : decode cX12_element 49 = .ok (.getfield 52, 3) := by decide +kernel
theorem dX12_element_52 : decode cX12_element 52 = .ok (.ifCond .ne 18, 3) := by decide +kernel
theorem dX12_element_55 : decode cX12_element 55 = .ok (.aload_n 0, 1) := by decide +kernel
theorem dX12_element_56 : decode cX12_element 56 = .ok (.getfield 31, 3) := by decide +kernel
theorem dX12_element_59 : decode cX12_element 59 = .ok (.bipush 100, 2) := by decide +kernel
theorem dX12_element_61 : decode cX12_element 61 = .ok (.iload_n 1, 1) := by decide +kernel
theorem dX12_element_62 : decode cX12_element 62 = .ok (.imul, 1) := by decide +kernel
theorem dX12_element_63 : decode cX12_element 63 = .ok (.iload_n 2, 1) := by decide +kernel
theorem dX12_element_64 : decode cX12_element 64 = .ok (.iadd, 1) := by decide +kernel
theorem dX12_element_65 : decode cX12_element 65 = .ok (.iaload, 1) := by decide +kernel
theorem dX12_element_66 : decode cX12_element 66 = .ok (.i2l, 1) := by decide +kernel
theorem dX12_element_67 : decode cX12_element 67 = .ok (.goto 4, 3) := by decide +kernel
theorem dX12_element_70 : decode cX12_element 70 = .ok (.lconst 0, 1) := by decide +kernel
theorem dX12_element_71 : decode cX12_element 71 = .ok (.lreturn, 1) := by decide +kernel
set_option maxRecDepth 20000 in
theorem ggX12_copy_X12_isShelf : GoodIn wsX12_copy wsX12_isShelf := goodIn_r _ [8, 9, 10, 11, 7, 12] (by decide +kernel) (by decide +kernel)
set_option maxRecDepth 20000 in
theorem gX12_copy_X12_isShelf : GoodIn wsX12_copy (va_wsS RX12 150 yX12_isShelf wsX12_isShelf) := goodIn_app (goodIn_of _ (by decide +kernel)) ggX12_copy_X12_isShelf
theorem dX12_copy_0 : decode cX12_copy 0 = .ok (.iload_n 1, 1) := by decide +kernel
theorem dX12_copy_1 : decode cX12_copy 1 = .ok (.invokestatic 150, 3) := by decide +kernel
theorem dX12_copy_4 : decode cX12_copy 4 = .ok (.ifCond .eq 10, 3) := by decide +kernel
theorem dX12_copy_7 : decode cX12_copy 7 = .ok (.iload_n 3, 1) := by decide +kernel
theorem dX12_copy_8 : decode cX12_copy 8 = .ok (.invokestatic 150, 3) := by decide +kernel
theorem dX12_copy_11 : decode cX12_copy 11 = .ok (.ifCond .ne 5, 3) := by decide +kernel
theorem dX12_copy_14 : decode cX12_copy 14 = .ok (.iconst (-1), 1) := by decide +kernel
theorem dX12_copy_15 : decode cX12_copy 15 = .ok (.ireturn, 1) := by decide +kernel
theorem dX12_copy_16 : decode cX12_copy 16 = .ok (.aload_n 0, 1) := by decide +kernel
theorem dX12_copy_17 : decode cX12_copy 17 = .ok (.getfield 22, 3) := by decide +kernel
theorem dX12_copy_20 : decode cX12_copy 20 = .ok (.iload_n 1, 1) := by decide +kernel
theorem dX12_copy_21 : decode cX12_copy 21 = .ok (.iaload, 1) := by decide +kernel
theorem dX12_copy_22 : decode cX12_copy 22 = .ok (.ifCond .eq 12, 3) := by decide +kernel
theorem dX12_copy_25 : decode cX12_copy 25 = .ok (.aload_n 0, 1) := by decide +kernel
theorem dX12_copy_26 : decode cX12_copy 26 = .ok (.getfield 22, 3) := by decide +kernel
theorem dX12_copy_29 : decode cX12_copy 29 = .ok (.iload_n 3, 1) := by decide +kernel
theorem dX12_copy_30 : decode cX12_copy 30 = .ok (.iaload, 1) := by decide +kernel
theorem dX12_copy_31 : decode cX12_copy 31 = .ok (.ifCond .ne 6, 3) := by decide +kernel
theorem dX12_copy_34 : decode cX12_copy 34 = .ok (.bipush (-11), 2) := by decide +kernel
theorem dX12_copy_36 : decode cX12_copy 36 = .ok (.ireturn, 1) := by decide +kernel
theorem dX12_copy_37 : decode cX12_copy 37 = .ok (.aload_n 0, 1) := by decide +kernel
theorem dX12_copy_38 : decode cX12_copy 38 = .ok (.getfield 22, 3) := by decide +kernel
theorem dX12_copy_41 : decode cX12_copy 41 = .ok (.iload_n 1, 1) := by decide +kernel
theorem dX12_copy_42 : decode cX12_copy 42 = .ok (.iaload, 1) := by decide +kernel
theorem dX12_copy_43 : decode cX12_copy 43 = .ok (.iconst 2, 1) := by decide +kernel
theorem dX12_copy_44 : decode cX12_copy 44 = .ok (.if_icmp .ne 28, 3) := by decide +kernel
theorem dX12_copy_47 : decode cX12_copy 47 = .ok (.aload_n 0, 1) := by decide +kernel
theorem dX12_copy_48 : decode cX12_copy 48 = .ok (.getfield 22, 3) := by decide +kernel
theorem dX12_copy_51 : decode cX12_copy 51 = .ok (.iload_n 3, 1) := by decide +kernel
theorem dX12_copy_52 : decode cX12_copy 52 = .ok (.iaload, 1) := by decide +kernel
theorem dX12_copy_53 : decode cX12_copy 53 = .ok (.iconst 2, 1) := by decide +kernel
theorem dX12_copy_54 : decode cX12_copy 54 = .ok (.if_icmp .ne 18, 3) := by decide +kernel
theorem dX12_copy_57 : decode cX12_copy 57 = .ok (.aload_n 0, 1) := by decide +kernel
theorem dX12_copy_58 : decode cX12_copy 58 = .ok (.getfield 25, 3) := by decide +kernel
theorem dX12_copy_61 : decode cX12_copy 61 = .ok (.iload_n 1, 1) := by decide +kernel
theorem dX12_copy_62 : decode cX12_copy 62 = .ok (.iaload, 1) := by decide +kernel
theorem dX12_copy_63 : decode cX12_copy 63 = .ok (.aload_n 0, 1) := by decide +kernel
theorem dX12_copy_64 : decode cX12_copy 64 = .ok (.getfield 25, 3) := by decide +kernel
theorem dX12_copy_67 : decode cX12_copy 67 = .ok (.iload_n 3, 1) := by decide +kernel
theorem dX12_copy_68 : decode cX12_copy 68 = .ok (.iaload, 1) := by decide +kernel
theorem dX12_copy_69 : decode cX12_copy 69 = .ok (.if_icmp .eq 6, 3) := by decide +kernel
theorem dX12_copy_72 : decode cX12_copy 72 = .ok (.bipush (-12), 2) := by decide +kernel
theorem dX12_copy_74 : decode cX12_copy 74 = .ok (.ireturn, 1) := by decide +kernel
theorem dX12_copy_75 : decode cX12_copy 75 = .ok (.iload 5, 2) := by decide +kernel
theorem dX12_copy_77 : decode cX12_copy 77 = .ok (.ifCond .lt 39, 3) := by decide +kernel
theorem dX12_copy_80 : decode cX12_copy 80 = .ok (.iload_n 2, 1) := by decide +kernel
theorem dX12_copy_81 : decode cX12_copy 81 = .ok (.ifCond .lt 35, 3) := by decide +kernel
theorem dX12_copy_84 : decode cX12_copy 84 = .ok (.iload 4, 2) := by decide +kernel
theorem dX12_copy_86 : decode cX12_copy 86 = .ok (.ifCond .lt 30, 3) := by decide +kernel
theorem dX12_copy_89 : decode cX12_copy 89 = .ok (.iload 5, 2) := by decide +kernel
theorem dX12_copy_91 : decode cX12_copy 91 = .ok (.aload_n 0, 1) := by decide +kernel
theorem dX12_copy_92 : decode cX12_copy 92 = .ok (.getfield 28, 3) := by decide +kernel
theorem dX12_copy_95 : decode cX12_copy 95 = .ok (.iload_n 1, 1) := by decide +kernel
theorem dX12_copy_96 : decode cX12_copy 96 = .ok (.iaload, 1) := by decide +kernel
theorem dX12_copy_97 : decode cX12_copy 97 = .ok (.iload_n 2, 1) := by decide +kernel
theorem dX12_copy_98 : decode cX12_copy 98 = .ok (.isub, 1) := by decide +kernel
theorem dX12_copy_99 : decode cX12_copy 99 = .ok (.if_icmp .gt 17, 3) := by decide +kernel
theorem dX12_copy_102 : decode cX12_copy 102 = .ok (.iload 5, 2) := by decide +kernel
theorem dX12_copy_104 : decode cX12_copy 104 = .ok (.aload_n 0, 1) := by decide +kernel
theorem dX12_copy_105 : decode cX12_copy 105 = .ok (.getfield 28, 3) := by decide +kernel
theorem dX12_copy_108 : decode cX12_copy 108 = .ok (.iload_n 3, 1) := by decide +kernel
theorem dX12_copy_109 : decode cX12_copy 109 = .ok (.iaload, 1) := by decide +kernel
theorem dX12_copy_110 : decode cX12_copy 110 = .ok (.iload 4, 2) := by decide +kernel
theorem dX12_copy_112 : decode cX12_copy 112 = .ok (.isub, 1) := by decide +kernel
theorem dX12_copy_113 : decode cX12_copy 113 = .ok (.if_icmp .le 6, 3) := by decide +kernel
theorem dX12_copy_116 : decode cX12_copy 116 = .ok (.bipush (-13), 2) := by decide +kernel
theorem dX12_copy_118 : decode cX12_copy 118 = .ok (.ireturn, 1) := by decide +kernel
theorem dX12_copy_119 : decode cX12_copy 119 = .ok (.iconst 0, 1) := by decide +kernel
theorem dX12_copy_120 : decode cX12_copy 120 = .ok (.istore 6, 2) := by decide +kernel
theorem dX12_copy_122 : decode cX12_copy 122 = .ok (.iload 6, 2) := by decide +kernel
theorem dX12_copy_124 : decode cX12_copy 124 = .ok (.iload 5, 2) := by decide +kernel
theorem dX12_copy_126 : decode cX12_copy 126 = .ok (.if_icmp .ge 58, 3) := by decide +kernel
theorem dX12_copy_129 : decode cX12_copy 129 = .ok (.iload_n 2, 1) := by decide +kernel
theorem dX12_copy_130 : decode cX12_copy 130 = .ok (.iload 4, 2) := by decide +kernel
theorem dX12_copy_132 : decode cX12_copy 132 = .ok (.if_icmp .le 8, 3) := by decide +kernel
theorem dX12_copy_135 : decode cX12_copy 135 = .ok (.iload 6, 2) := by decide +kernel
theorem dX12_copy_137 : decode cX12_copy 137 = .ok (.goto 10, 3) := by decide +kernel
theorem dX12_copy_140 : decode cX12_copy 140 = .ok (.iload 5, 2) := by decide +kernel
theorem dX12_copy_142 : decode cX12_copy 142 = .ok (.iconst 1, 1) := by decide +kernel
theorem dX12_copy_143 : decode cX12_copy 143 = .ok (.isub, 1) := by decide +kernel
theorem dX12_copy_144 : decode cX12_copy 144 = .ok (.iload 6, 2) := by decide +kernel
theorem dX12_copy_146 : decode cX12_copy 146 = .ok (.isub, 1) := by decide +kernel
theorem dX12_copy_147 : decode cX12_copy 147 = .ok (.istore 7, 2) := by decide +kernel
theorem dX12_copy_149 : decode cX12_copy 149 = .ok (.aload_n 0, 1) := by decide +kernel
theorem dX12_copy_150 : decode cX12_copy 150 = .ok (.getfield 31, 3) := by decide +kernel
theorem dX12_copy_153 : decode cX12_copy 153 = .ok (.bipush 100, 2) := by decide +kernel
theorem dX12_copy_155 : decode cX12_copy 155 = .ok (.iload_n 3, 1) := by decide +kernel
theorem dX12_copy_156 : decode cX12_copy 156 = .ok (.imul, 1) := by decide +kernel
theorem dX12_copy_157 : decode cX12_copy 157 = .ok (.iload 4, 2) := by decide +kernel
theorem dX12_copy_159 : decode cX12_copy 159 = .ok (.iadd, 1) := by decide +kernel
theorem dX12_copy_160 : decode cX12_copy 160 = .ok (.iload 7, 2) := by decide +kernel
theorem dX12_copy_162 : decode cX12_copy 162 = .ok (.iadd, 1) := by decide +kernel
theorem dX12_copy_163 : decode cX12_copy 163 = .ok (.aload_n 0, 1) := by decide +kernel
theorem dX12_copy_164 : decode cX12_copy 164 = .ok (.getfield 31, 3) := by decide +kernel
theorem dX12_copy_167 : decode cX12_copy 167 = .ok (.bipush 100, 2) := by decide +kernel
theorem dX12_copy_169 : decode cX12_copy 169 = .ok (.iload_n 1, 1) := by decide +kernel
theorem dX12_copy_170 : decode cX12_copy 170 = .ok (.imul, 1) := by decide +kernel
theorem dX12_copy_171 : decode cX12_copy 171 = .ok (.iload_n 2, 1) := by decide +kernel
theorem dX12_copy_172 : decode cX12_copy 172 = .ok (.iadd, 1) := by decide +kernel
theorem dX12_copy_173 : decode cX12_copy 173 = .ok (.iload 7, 2) := by decide +kernel
theorem dX12_copy_175 : decode cX12_copy 175 = .ok (.iadd, 1) := by decide +kernel
theorem dX12_copy_176 : decode cX12_copy 176 = .ok (.iaload, 1) := by decide +kernel
theorem dX12_copy_177 : decode cX12_copy 177 = .ok (.iastore, 1) := by decide +kernel
theorem dX12_copy_178 : decode cX12_copy 178 = .ok (.iinc 6 1, 3) := by decide +kernel
theorem dX12_copy_181 : decode cX12_copy 181 = .ok (.goto (-59), 3) := by decide +kernel
theorem dX12_copy_184 : decode cX12_copy 184 = .ok (.iload 5, 2) := by decide +kernel
theorem dX12_copy_186 : decode cX12_copy 186 = .ok (.ireturn, 1) := by decide +kernel
set_option maxRecDepth 20000 in
theorem ggX12_price_X12_wrongKept : GoodIn wsX12_price wsX12_wrongKept := goodIn_r _ [7, 8, 9, 10, 6, 11, 12, 13, 14, 15, 19, 20, 21, 22, 23, 24, 25, 26, 27, 28, 29, 30, 31, 32, 33, 34, 35, 36, 37, 38] (by decide +kernel) (by decide +kernel)
set_option maxRecDepth 20000 in
theorem gX12_price_X12_wrongKept : GoodIn wsX12_price (wsV RX12 166 RX12 yX12_wrongKept wsX12_wrongKept) := goodIn_app (goodIn_of _ (by decide +kernel)) ggX12_price_X12_wrongKept
set_option maxRecDepth 20000 in
theorem ggX12_price_X12_priceBy : GoodIn wsX12_price wsX12_priceBy := goodIn_r _ [18] (by decide +kernel) (by decide +kernel)
set_option maxRecDepth 20000 in
theorem gX12_price_X12_priceBy : GoodIn wsX12_price (va_wsS RX12 97 yX12_priceBy wsX12_priceBy) := goodIn_app (goodIn_of _ (by decide +kernel)) ggX12_price_X12_priceBy
theorem dX12_price_0 : decode cX12_price 0 = .ok (.aload_n 0, 1) := by decide +kernel
theorem dX12_price_1 : decode cX12_price 1 = .ok (.iload_n 1, 1) := by decide +kernel
theorem dX12_price_2 : decode cX12_price 2 = .ok (.invokevirtual 166, 3) := by decide +kernel
theorem dX12_price_5 : decode cX12_price 5 = .ok (.istore_n 2, 1) := by decide +kernel
theorem dX12_price_6 : decode cX12_price 6 = .ok (.iload_n 2, 1) := by decide +kernel
theorem dX12_price_7 : decode cX12_price 7 = .ok (.ifCond .eq 7, 3) := by decide +kernel
theorem dX12_price_10 : decode cX12_price 10 = .ok (.iload_n 2, 1) := by decide +kernel
theorem dX12_price_11 : decode cX12_price 11 = .ok (.goto 18, 3) := by decide +kernel
theorem dX12_price_14 : decode cX12_price 14 = .ok (.aload_n 0, 1) := by decide +kernel
theorem dX12_price_15 : decode cX12_price 15 = .ok (.getfield 34, 3) := by decide +kernel
theorem dX12_price_18 : decode cX12_price 18 = .ok (.iload_n 1, 1) := by decide +kernel
theorem dX12_price_19 : decode cX12_price 19 = .ok (.iaload, 1) := by decide +kernel
theorem dX12_price_20 : decode cX12_price 20 = .ok (.aload_n 0, 1) := by decide +kernel
theorem dX12_price_21 : decode cX12_price 21 = .ok (.getfield 37, 3) := by decide +kernel
theorem dX12_price_24 : decode cX12_price 24 = .ok (.iload_n 1, 1) := by decide +kernel
theorem dX12_price_25 : decode cX12_price 25 = .ok (.iaload, 1) := by decide +kernel
theorem dX12_price_26 : decode cX12_price 26 = .ok (.invokestatic 97, 3) := by decide +kernel
theorem dX12_price_29 : decode cX12_price 29 = .ok (.ireturn, 1) := by decide +kernel
set_option maxRecDepth 20000 in
theorem ggX12_toss_X12_wrongKept : GoodIn wsX12_toss wsX12_wrongKept := goodIn_r _ [7, 8, 9, 10, 6, 11, 12, 13, 14, 15, 19, 20, 21, 22, 23, 24, 25, 26, 27, 28, 29, 30, 31, 32, 33, 34, 35, 36, 37, 38] (by decide +kernel) (by decide +kernel)
set_option maxRecDepth 20000 in
theorem gX12_toss_X12_wrongKept : GoodIn wsX12_toss (wsV RX12 166 RX12 yX12_wrongKept wsX12_wrongKept) := goodIn_app (goodIn_of _ (by decide +kernel)) ggX12_toss_X12_wrongKept
set_option maxRecDepth 20000 in
theorem ggX12_toss_X12_priceBy : GoodIn wsX12_toss wsX12_priceBy := goodIn_r _ [18] (by decide +kernel) (by decide +kernel)
set_option maxRecDepth 20000 in
theorem gX12_toss_X12_priceBy : GoodIn wsX12_toss (va_wsS RX12 97 yX12_priceBy wsX12_priceBy) := goodIn_app (goodIn_of _ (by decide +kernel)) ggX12_toss_X12_priceBy
theorem dX12_toss_0 : decode cX12_toss 0 = .ok (.aload_n 0, 1) := by decide +kernel
theorem dX12_toss_1 : decode cX12_toss 1 = .ok (.iload_n 1, 1) := by decide +kernel
theorem dX12_toss_2 : decode cX12_toss 2 = .ok (.invokevirtual 166, 3) := by decide +kernel
theorem dX12_toss_5 : decode cX12_toss 5 = .ok (.istore_n 2, 1) := by decide +kernel
theorem dX12_toss_6 : decode cX12_toss 6 = .ok (.iload_n 2, 1) := by decide +kernel
theorem dX12_toss_7 : decode cX12_toss 7 = .ok (.ifCond .eq 5, 3) := by decide +kernel
theorem dX12_toss_10 : decode cX12_toss 10 = .ok (.iload_n 2, 1) := by decide +kernel
theorem dX12_toss_11 : decode cX12_toss 11 = .ok (.ireturn, 1) := by decide +kernel
theorem dX12_toss_12 : decode cX12_toss 12 = .ok (.aload_n 0, 1) := by decide +kernel
theorem dX12_toss_13 : decode cX12_toss 13 = .ok (.getfield 34, 3) := by decide +kernel
theorem dX12_toss_16 : decode cX12_toss 16 = .ok (.iload_n 1, 1) := by decide +kernel
theorem dX12_toss_17 : decode cX12_toss 17 = .ok (.iaload, 1) := by decide +kernel
theorem dX12_toss_18 : decode cX12_toss 18 = .ok (.istore_n 3, 1) := by decide +kernel
theorem dX12_toss_19 : decode cX12_toss 19 = .ok (.aload_n 0, 1) := by decide +kernel
theorem dX12_toss_20 : decode cX12_toss 20 = .ok (.getfield 37, 3) := by decide +kernel
theorem dX12_toss_23 : decode cX12_toss 23 = .ok (.iload_n 1, 1) := by decide +kernel
theorem dX12_toss_24 : decode cX12_toss 24 = .ok (.iaload, 1) := by decide +kernel
theorem dX12_toss_25 : decode cX12_toss 25 = .ok (.istore 4, 2) := by decide +kernel
theorem dX12_toss_27 : decode cX12_toss 27 = .ok (.iload_n 3, 1) := by decide +kernel
theorem dX12_toss_28 : decode cX12_toss 28 = .ok (.iconst 3, 1) := by decide +kernel
theorem dX12_toss_29 : decode cX12_toss 29 = .ok (.if_icmp .eq 8, 3) := by decide +kernel
theorem dX12_toss_32 : decode cX12_toss 32 = .ok (.iload 4, 2) := by decide +kernel
theorem dX12_toss_34 : decode cX12_toss 34 = .ok (.ifCond .ne 8, 3) := by decide +kernel
theorem dX12_toss_37 : decode cX12_toss 37 = .ok (.bipush (-15), 2) := by decide +kernel
theorem dX12_toss_39 : decode cX12_toss 39 = .ok (.goto 37, 3) := by decide +kernel
theorem dX12_toss_42 : decode cX12_toss 42 = .ok (.iload_n 3, 1) := by decide +kernel
theorem dX12_toss_43 : decode cX12_toss 43 = .ok (.iconst 1, 1) := by decide +kernel
theorem dX12_toss_44 : decode cX12_toss 44 = .ok (.if_icmp .ne 11, 3) := by decide +kernel
theorem dX12_toss_47 : decode cX12_toss 47 = .ok (.bipush 100, 2) := by decide +kernel
theorem dX12_toss_49 : decode cX12_toss 49 = .ok (.iload 4, 2) := by decide +kernel
theorem dX12_toss_51 : decode cX12_toss 51 = .ok (.iadd, 1) := by decide +kernel
theorem dX12_toss_52 : decode cX12_toss 52 = .ok (.goto 24, 3) := by decide +kernel
theorem dX12_toss_55 : decode cX12_toss 55 = .ok (.iload_n 3, 1) := by decide +kernel
theorem dX12_toss_56 : decode cX12_toss 56 = .ok (.bipush 6, 2) := by decide +kernel
theorem dX12_toss_58 : decode cX12_toss 58 = .ok (.if_icmp .ne 16, 3) := by decide +kernel
theorem dX12_toss_61 : decode cX12_toss 61 = .ok (.sipush 200, 3) := by decide +kernel
theorem dX12_toss_64 : decode cX12_toss 64 = .ok (.iload_n 3, 1) := by decide +kernel
theorem dX12_toss_65 : decode cX12_toss 65 = .ok (.iload 4, 2) := by decide +kernel
theorem dX12_toss_67 : decode cX12_toss 67 = .ok (.invokestatic 97, 3) := by decide +kernel
theorem dX12_toss_70 : decode cX12_toss 70 = .ok (.iadd, 1) := by decide +kernel
theorem dX12_toss_71 : decode cX12_toss 71 = .ok (.goto 5, 3) := by decide +kernel
theorem dX12_toss_74 : decode cX12_toss 74 = .ok (.iload 4, 2) := by decide +kernel
theorem dX12_toss_76 : decode cX12_toss 76 = .ok (.ireturn, 1) := by decide +kernel

set_option maxRecDepth 20000 in
theorem ggX11_init_X9_init : GoodIn wsX11_init wsX9_init := goodIn_r _ [19, 20, 2, 3, 21, 22, 23, 24, 25, 26, 27, 34, 35, 36, 37, 38, 39, 40, 41, 42, 43] (by decide +kernel) (by decide +kernel)
set_option maxRecDepth 20000 in
theorem gX11_init_X9_init_n9 : GoodIn wsX11_init (wsX9_init) := ggX11_init_X9_init
set_option maxRecDepth 20000 in
theorem ggX11_init_X4_init : GoodIn wsX11_init wsX4_init := goodIn_r _ [29, 30, 2, 3, 21, 31, 32, 33, 51, 52, 53, 54] (by decide +kernel) (by decide +kernel)
set_option maxRecDepth 20000 in
theorem gX11_init_X4_init_n24 : GoodIn wsX11_init (wsX4_init) := ggX11_init_X4_init
theorem dX11_init_0 : decode cX11_init 0 = .ok (.aload_n 0, 1) := by decide +kernel
theorem dX11_init_1 : decode cX11_init 1 = .ok (.invokespecial 1, 3) := by decide +kernel
theorem dX11_init_4 : decode cX11_init 4 = .ok (.aload_n 0, 1) := by decide +kernel
theorem dX11_init_5 : decode cX11_init 5 = .ok (.new 7, 3) := by decide +kernel
theorem dX11_init_8 : decode cX11_init 8 = .ok (.dup, 1) := by decide +kernel
theorem dX11_init_9 : decode cX11_init 9 = .ok (.invokespecial 9, 3) := by decide +kernel
theorem dX11_init_12 : decode cX11_init 12 = .ok (.putfield 10, 3) := by decide +kernel
theorem dX11_init_15 : decode cX11_init 15 = .ok (.aload_n 0, 1) := by decide +kernel
theorem dX11_init_16 : decode cX11_init 16 = .ok (.new 7, 3) := by decide +kernel
theorem dX11_init_19 : decode cX11_init 19 = .ok (.dup, 1) := by decide +kernel
theorem dX11_init_20 : decode cX11_init 20 = .ok (.invokespecial 9, 3) := by decide +kernel
theorem dX11_init_23 : decode cX11_init 23 = .ok (.putfield 16, 3) := by decide +kernel
theorem dX11_init_26 : decode cX11_init 26 = .ok (.aload_n 0, 1) := by decide +kernel
theorem dX11_init_27 : decode cX11_init 27 = .ok (.new 7, 3) := by decide +kernel
theorem dX11_init_30 : decode cX11_init 30 = .ok (.dup, 1) := by decide +kernel
theorem dX11_init_31 : decode cX11_init 31 = .ok (.invokespecial 9, 3) := by decide +kernel
theorem dX11_init_34 : decode cX11_init 34 = .ok (.putfield 19, 3) := by decide +kernel
theorem dX11_init_37 : decode cX11_init 37 = .ok (.aload_n 0, 1) := by decide +kernel
theorem dX11_init_38 : decode cX11_init 38 = .ok (.new 22, 3) := by decide +kernel
theorem dX11_init_41 : decode cX11_init 41 = .ok (.dup, 1) := by decide +kernel
theorem dX11_init_42 : decode cX11_init 42 = .ok (.invokespecial 24, 3) := by decide +kernel
theorem dX11_init_45 : decode cX11_init 45 = .ok (.putfield 25, 3) := by decide +kernel
theorem dX11_init_48 : decode cX11_init 48 = .ok (.aload_n 0, 1) := by decide +kernel
theorem dX11_init_49 : decode cX11_init 49 = .ok (.bipush 8, 2) := by decide +kernel
theorem dX11_init_51 : decode cX11_init 51 = .ok (.anewarray 29, 3) := by decide +kernel
theorem dX11_init_54 : decode cX11_init 54 = .ok (.putfield 31, 3) := by decide +kernel
theorem dX11_init_57 : decode cX11_init 57 = .ok (.aload_n 0, 1) := by decide +kernel
theorem dX11_init_58 : decode cX11_init 58 = .ok (.bipush 8, 2) := by decide +kernel
theorem dX11_init_60 : decode cX11_init 60 = .ok (.anewarray 35, 3) := by decide +kernel
theorem dX11_init_63 : decode cX11_init 63 = .ok (.putfield 37, 3) := by decide +kernel
theorem dX11_init_66 : decode cX11_init 66 = .ok (.return_, 1) := by decide +kernel
set_option maxRecDepth 20000 in
theorem ggX11_school_X11_rowAt : GoodIn wsX11_school wsX11_rowAt := goodIn_r _ [7, 8, 275, 276, 277, 278, 279, 280, 281] (by decide +kernel) (by decide +kernel)
set_option maxRecDepth 20000 in
theorem gX11_school_X11_rowAt : GoodIn wsX11_school (wsV RX11 41 RX11 yX11_rowAt wsX11_rowAt) := goodIn_app (goodIn_of _ (by decide +kernel)) ggX11_school_X11_rowAt
set_option maxRecDepth 20000 in
theorem ggX11_school_X11_whyMissing : GoodIn wsX11_school wsX11_whyMissing := goodIn_r _ [12, 13, 14, 6, 15, 16, 17, 18, 19, 3, 4, 5, 7, 8, 20, 21, 22, 23, 24, 275, 276, 277, 278, 279, 280, 281] (by decide +kernel) (by decide +kernel)
set_option maxRecDepth 20000 in
theorem gX11_school_X11_whyMissing : GoodIn wsX11_school (wsV RX11 45 RX11 yX11_whyMissing wsX11_whyMissing) := goodIn_app (goodIn_of _ (by decide +kernel)) ggX11_school_X11_whyMissing
set_option maxRecDepth 20000 in
theorem ggX11_school_X8_isOf : GoodIn wsX11_school wsX8_isOf := goodIn_r _ [29, 30, 282, 283] (by decide +kernel) (by decide +kernel)
set_option maxRecDepth 20000 in
theorem gX11_school_X8_isOf : GoodIn wsX11_school (wsV RX11 49 RX8 yX8_isOf wsX8_isOf) := goodIn_app (goodIn_of _ (by decide +kernel)) ggX11_school_X8_isOf
set_option maxRecDepth 20000 in
theorem ggX11_school_X11_firstBadByte : GoodIn wsX11_school wsX11_firstBadByte := goodIn_r _ [33, 34, 35, 36, 28, 37, 38, 39, 40, 6, 41, 42, 43, 44, 45, 46, 47, 48, 282, 283] (by decide +kernel) (by decide +kernel)
set_option maxRecDepth 20000 in
theorem gX11_school_X11_firstBadByte : GoodIn wsX11_school (va_wsS RX11 53 yX11_firstBadByte wsX11_firstBadByte) := goodIn_app (goodIn_of _ (by decide +kernel)) ggX11_school_X11_firstBadByte
set_option maxRecDepth 20000 in
theorem ggX11_school_X9_become : GoodIn wsX11_school wsX9_become := goodIn_r _ [53, 54, 55, 56, 57, 58, 59, 60, 61, 62, 63, 64, 65, 66, 67, 284, 285, 286, 287, 288, 289, 290, 291, 292, 293] (by decide +kernel) (by decide +kernel)
set_option maxRecDepth 20000 in
theorem gX11_school_X9_become : GoodIn wsX11_school (wsV RX11 57 RX9 yX9_become wsX9_become) := goodIn_app (goodIn_of _ (by decide +kernel)) ggX11_school_X9_become
set_option maxRecDepth 20000 in
theorem ggX11_school_X8_size : GoodIn wsX11_school wsX8_size := goodIn_r _ [48, 38, 282, 283] (by decide +kernel) (by decide +kernel)
set_option maxRecDepth 20000 in
theorem gX11_school_X8_size : GoodIn wsX11_school (wsV RX11 61 RX8 yX8_size wsX8_size) := goodIn_app (goodIn_of _ (by decide +kernel)) ggX11_school_X8_size
set_option maxRecDepth 20000 in
theorem ggX11_school_X11_tell : GoodIn wsX11_school wsX11_tell := goodIn_r _ [70, 34, 35, 36, 28, 37, 38, 42, 43, 6, 44, 71, 72, 73, 52, 74, 54, 59, 75, 76, 77, 78, 79, 80, 81, 82, 83, 84, 85, 86, 87, 88, 89, 90, 91, 92, 56, 93, 94, 95, 96, 97, 98, 64, 65, 58, 99, 100, 101, 102, 103, 104, 105, 106, 107, 108, 109, 110, 111, 112, 113, 114, 115, 116, 117, 118, 119, 120, 121, 122, 123, 124, 125, 126, 127, 128, 129, 130, 131, 132, 133, 134, 135, 136, 137, 138, 139, 140, 141, 142, 143, 144, 145, 146, 147, 148, 149, 150, 151, 152, 153, 154, 155, 156, 157, 158, 159, 160, 161, 162, 163, 164, 165, 55, 67, 66, 57, 166, 167, 168, 169, 170, 171, 172, 173, 174, 175, 176, 177, 178, 179, 180, 181, 182, 183, 184, 185, 186, 187, 188, 189, 190, 191, 192, 193, 194, 195, 196, 197, 198, 199, 200, 201, 202, 203, 204, 205, 206, 207, 208, 209, 210, 211, 212, 213, 214, 215, 216, 217, 218, 219, 220, 221, 222, 223, 224, 225, 226, 227, 228, 229, 230, 231, 232, 233, 234, 235, 236, 237, 238, 239, 240, 241, 242, 243, 244, 245, 246, 247, 248, 249, 250, 251, 252, 253, 254, 255, 256, 257, 258, 259, 260, 261, 262, 263, 264, 265, 266, 267, 268, 269, 270, 271, 272, 273, 274, 282, 283, 284, 285, 286, 287, 288, 289, 290, 291, 292, 293, 294, 295, 296, 297, 298, 299, 300, 301, 302, 303, 304, 305, 306, 307, 308, 309] (by decide +kernel) (by decide +kernel)
set_option maxRecDepth 20000 in
theorem gX11_school_X11_tell : GoodIn wsX11_school (va_wsS RX11 65 yX11_tell wsX11_tell) := goodIn_app (goodIn_of _ (by decide +kernel)) ggX11_school_X11_tell
set_option maxRecDepth 20000 in
theorem ggX11_school_X8_at : GoodIn wsX11_school wsX8_at := goodIn_r _ [37, 38, 282, 283] (by decide +kernel) (by decide +kernel)
set_option maxRecDepth 20000 in
theorem gX11_school_X8_at : GoodIn wsX11_school (wsV RX11 69 RX8 yX8_at wsX8_at) := goodIn_app (goodIn_of _ (by decide +kernel)) ggX11_school_X8_at
set_option maxRecDepth 20000 in
theorem ggX11_school_X11_digitsBehind : GoodIn wsX11_school wsX11_digitsBehind := goodIn_r _ [41] (by decide +kernel) (by decide +kernel)
set_option maxRecDepth 20000 in
theorem gX11_school_X11_digitsBehind : GoodIn wsX11_school (va_wsS RX11 72 yX11_digitsBehind wsX11_digitsBehind) := goodIn_app (goodIn_of _ (by decide +kernel)) ggX11_school_X11_digitsBehind
theorem dX11_school_0 : decode cX11_school 0 = .ok (.aload_n 0, 1) := by decide +kernel
theorem dX11_school_1 : decode cX11_school 1 = .ok (.iload_n 1, 1) := by decide +kernel
theorem dX11_school_2 : decode cX11_school 2 = .ok (.invokevirtual 41, 3) := by decide +kernel
theorem dX11_school_5 : decode cX11_school 5 = .ok (.astore_n 2, 1) := by decide +kernel
theorem dX11_school_6 : decode cX11_school 6 = .ok (.aload_n 2, 1) := by decide +kernel
theorem dX11_school_7 : decode cX11_school 7 = .ok (.ifnonnull 9, 3) := by decide +kernel
theorem dX11_school_10 : decode cX11_school 10 = .ok (.aload_n 0, 1) := by decide +kernel
theorem dX11_school_11 : decode cX11_school 11 = .ok (.iload_n 1, 1) := by decide +kernel
theorem dX11_school_12 : decode cX11_school 12 = .ok (.invokevirtual 45, 3) := by decide +kernel
theorem dX11_school_15 : decode cX11_school 15 = .ok (.ireturn, 1) := by decide +kernel
theorem dX11_school_16 : decode cX11_school 16 = .ok (.aload_n 2, 1) := by decide +kernel
theorem dX11_school_17 : decode cX11_school 17 = .ok (.iconst 0, 1) := by decide +kernel
theorem dX11_school_18 : decode cX11_school 18 = .ok (.invokevirtual 49, 3) := by decide +kernel
theorem dX11_school_21 : decode cX11_school 21 = .ok (.ifCond .ne 6, 3) := by decide +kernel
theorem dX11_school_24 : decode cX11_school 24 = .ok (.bipush (-12), 2) := by decide +kernel
theorem dX11_school_26 : decode cX11_school 26 = .ok (.ireturn, 1) := by decide +kernel
theorem dX11_school_27 : decode cX11_school 27 = .ok (.aload_n 2, 1) := by decide +kernel
theorem dX11_school_28 : decode cX11_school 28 = .ok (.invokestatic 53, 3) := by decide +kernel
theorem dX11_school_31 : decode cX11_school 31 = .ok (.istore_n 3, 1) := by decide +kernel
theorem dX11_school_32 : decode cX11_school 32 = .ok (.iload_n 3, 1) := by decide +kernel
theorem dX11_school_33 : decode cX11_school 33 = .ok (.ifCond .lt 9, 3) := by decide +kernel
theorem dX11_school_36 : decode cX11_school 36 = .ok (.sipush (-1000), 3) := by decide +kernel
theorem dX11_school_39 : decode cX11_school 39 = .ok (.iload_n 3, 1) := by decide +kernel
theorem dX11_school_40 : decode cX11_school 40 = .ok (.isub, 1) := by decide +kernel
theorem dX11_school_41 : decode cX11_school 41 = .ok (.ireturn, 1) := by decide +kernel
theorem dX11_school_42 : decode cX11_school 42 = .ok (.aload_n 0, 1) := by decide +kernel
theorem dX11_school_43 : decode cX11_school 43 = .ok (.getfield 16, 3) := by decide +kernel
theorem dX11_school_46 : decode cX11_school 46 = .ok (.aload_n 0, 1) := by decide +kernel
theorem dX11_school_47 : decode cX11_school 47 = .ok (.getfield 10, 3) := by decide +kernel
theorem dX11_school_50 : decode cX11_school 50 = .ok (.invokevirtual 57, 3) := by decide +kernel
theorem dX11_school_53 : decode cX11_school 53 = .ok (.iconst 0, 1) := by decide +kernel
theorem dX11_school_54 : decode cX11_school 54 = .ok (.istore 4, 2) := by decide +kernel
theorem dX11_school_56 : decode cX11_school 56 = .ok (.iconst 0, 1) := by decide +kernel
theorem dX11_school_57 : decode cX11_school 57 = .ok (.istore 5, 2) := by decide +kernel
theorem dX11_school_59 : decode cX11_school 59 = .ok (.iload 5, 2) := by decide +kernel
theorem dX11_school_61 : decode cX11_school 61 = .ok (.aload_n 2, 1) := by decide +kernel
theorem dX11_school_62 : decode cX11_school 62 = .ok (.invokevirtual 61, 3) := by decide +kernel
theorem dX11_school_65 : decode cX11_school 65 = .ok (.if_icmp .ge 45, 3) := by decide +kernel
theorem dX11_school_68 : decode cX11_school 68 = .ok (.aload_n 0, 1) := by decide +kernel
theorem dX11_school_69 : decode cX11_school 69 = .ok (.getfield 16, 3) := by decide +kernel
theorem dX11_school_72 : decode cX11_school 72 = .ok (.aload_n 2, 1) := by decide +kernel
theorem dX11_school_73 : decode cX11_school 73 = .ok (.iload 5, 2) := by decide +kernel
theorem dX11_school_75 : decode cX11_school 75 = .ok (.invokestatic 65, 3) := by decide +kernel
theorem dX11_school_78 : decode cX11_school 78 = .ok (.ifCond .ne 10, 3) := by decide +kernel
theorem dX11_school_81 : decode cX11_school 81 = .ok (.sipush (-2000), 3) := by decide +kernel
theorem dX11_school_84 : decode cX11_school 84 = .ok (.iload 5, 2) := by decide +kernel
theorem dX11_school_86 : decode cX11_school 86 = .ok (.isub, 1) := by decide +kernel
theorem dX11_school_87 : decode cX11_school 87 = .ok (.ireturn, 1) := by decide +kernel
theorem dX11_school_88 : decode cX11_school 88 = .ok (.iinc 4 1, 3) := by decide +kernel
theorem dX11_school_91 : decode cX11_school 91 = .ok (.iload 5, 2) := by decide +kernel
theorem dX11_school_93 : decode cX11_school 93 = .ok (.iconst 2, 1) := by decide +kernel
theorem dX11_school_94 : decode cX11_school 94 = .ok (.aload_n 2, 1) := by decide +kernel
theorem dX11_school_95 : decode cX11_school 95 = .ok (.iload 5, 2) := by decide +kernel
theorem dX11_school_97 : decode cX11_school 97 = .ok (.invokevirtual 69, 3) := by decide +kernel
theorem dX11_school_100 : decode cX11_school 100 = .ok (.invokestatic 72, 3) := by decide +kernel
theorem dX11_school_103 : decode cX11_school 103 = .ok (.iadd, 1) := by decide +kernel
theorem dX11_school_104 : decode cX11_school 104 = .ok (.iadd, 1) := by decide +kernel
theorem dX11_school_105 : decode cX11_school 105 = .ok (.istore 5, 2) := by decide +kernel
theorem dX11_school_107 : decode cX11_school 107 = .ok (.goto (-48), 3) := by decide +kernel
theorem dX11_school_110 : decode cX11_school 110 = .ok (.aload_n 0, 1) := by decide +kernel
theorem dX11_school_111 : decode cX11_school 111 = .ok (.getfield 10, 3) := by decide +kernel
theorem dX11_school_114 : decode cX11_school 114 = .ok (.aload_n 0, 1) := by decide +kernel
theorem dX11_school_115 : decode cX11_school 115 = .ok (.getfield 16, 3) := by decide +kernel
theorem dX11_school_118 : decode cX11_school 118 = .ok (.invokevirtual 57, 3) := by decide +kernel
theorem dX11_school_121 : decode cX11_school 121 = .ok (.iload 4, 2) := by decide +kernel
theorem dX11_school_123 : decode cX11_school 123 = .ok (.ireturn, 1) := by decide +kernel
set_option maxRecDepth 20000 in
theorem ggX11_sentence_X9_hasSentence : GoodIn wsX11_sentence wsX9_hasSentence := goodIn_r _ [6, 7, 38, 39, 40, 41, 42, 43, 44, 45, 46, 47] (by decide +kernel) (by decide +kernel)
set_option maxRecDepth 20000 in
theorem gX11_sentence_X9_hasSentence : GoodIn wsX11_sentence (wsV RX11 75 RX9 yX9_hasSentence wsX9_hasSentence) := goodIn_app (goodIn_of _ (by decide +kernel)) ggX11_sentence_X9_hasSentence
set_option maxRecDepth 20000 in
theorem ggX11_sentence_X9_needsOf : GoodIn wsX11_sentence wsX9_needsOf := goodIn_r _ [11, 12, 38, 39, 40, 41, 42, 43, 44, 45, 46, 47] (by decide +kernel) (by decide +kernel)
set_option maxRecDepth 20000 in
theorem gX11_sentence_X9_needsOf : GoodIn wsX11_sentence (wsV RX11 78 RX9 yX9_needsOf wsX9_needsOf) := goodIn_app (goodIn_of _ (by decide +kernel)) ggX11_sentence_X9_needsOf
set_option maxRecDepth 20000 in
theorem ggX11_sentence_X9_isTrue : GoodIn wsX11_sentence wsX9_isTrue := goodIn_r _ [16, 17, 18, 19, 20, 38, 39, 40, 41, 42, 43, 44, 45, 46, 47] (by decide +kernel) (by decide +kernel)
set_option maxRecDepth 20000 in
theorem gX11_sentence_X9_isTrue : GoodIn wsX11_sentence (wsV RX11 81 RX9 yX9_isTrue wsX9_isTrue) := goodIn_app (goodIn_of _ (by decide +kernel)) ggX11_sentence_X9_isTrue
set_option maxRecDepth 20000 in
theorem ggX11_sentence_X9_makerOf : GoodIn wsX11_sentence wsX9_makerOf := goodIn_r _ [24, 25, 38, 39, 40, 41, 42, 43, 44, 45, 46, 47] (by decide +kernel) (by decide +kernel)
set_option maxRecDepth 20000 in
theorem gX11_sentence_X9_makerOf : GoodIn wsX11_sentence (wsV RX11 84 RX9 yX9_makerOf wsX9_makerOf) := goodIn_app (goodIn_of _ (by decide +kernel)) ggX11_sentence_X9_makerOf
set_option maxRecDepth 20000 in
theorem ggX11_sentence_X9_trueSince : GoodIn wsX11_sentence wsX9_trueSince := goodIn_r _ [29, 30, 38, 39, 40, 41, 42, 43, 44, 45, 46, 47] (by decide +kernel) (by decide +kernel)
set_option maxRecDepth 20000 in
theorem gX11_sentence_X9_trueSince : GoodIn wsX11_sentence (wsV RX11 87 RX9 yX9_trueSince wsX9_trueSince) := goodIn_app (goodIn_of _ (by decide +kernel)) ggX11_sentence_X9_trueSince
theorem dX11_sentence_0 : decode cX11_sentence 0 = .ok (.aload_n 0, 1) := by decide +kernel
theorem dX11_sentence_1 : decode cX11_sentence 1 = .ok (.getfield 10, 3) := by decide +kernel
theorem dX11_sentence_4 : decode cX11_sentence 4 = .ok (.iload_n 1, 1) := by decide +kernel
theorem dX11_sentence_5 : decode cX11_sentence 5 = .ok (.invokevirtual 75, 3) := by decide +kernel
theorem dX11_sentence_8 : decode cX11_sentence 8 = .ok (.ifCond .ne 5, 3) := by decide +kernel
theorem dX11_sentence_11 : decode cX11_sentence 11 = .ok (.iconst (-1), 1) := by decide +kernel
theorem dX11_sentence_12 : decode cX11_sentence 12 = .ok (.ireturn, 1) := by decide +kernel
theorem dX11_sentence_13 : decode cX11_sentence 13 = .ok (.iload_n 2, 1) := by decide +kernel
theorem dX11_sentence_14 : decode cX11_sentence 14 = .ok (.tableswitch 106 0 3 #[30, 39, 56, 81], 30) := by decide +kernel
theorem dX11_sentence_44 : decode cX11_sentence 44 = .ok (.aload_n 0, 1) := by decide +kernel
theorem dX11_sentence_45 : decode cX11_sentence 45 = .ok (.getfield 10, 3) := by decide +kernel
theorem dX11_sentence_48 : decode cX11_sentence 48 = .ok (.iload_n 1, 1) := by decide +kernel
theorem dX11_sentence_49 : decode cX11_sentence 49 = .ok (.invokevirtual 78, 3) := by decide +kernel
theorem dX11_sentence_52 : decode cX11_sentence 52 = .ok (.ireturn, 1) := by decide +kernel
theorem dX11_sentence_53 : decode cX11_sentence 53 = .ok (.aload_n 0, 1) := by decide +kernel
theorem dX11_sentence_54 : decode cX11_sentence 54 = .ok (.getfield 10, 3) := by decide +kernel
theorem dX11_sentence_57 : decode cX11_sentence 57 = .ok (.iload_n 1, 1) := by decide +kernel
theorem dX11_sentence_58 : decode cX11_sentence 58 = .ok (.invokevirtual 81, 3) := by decide +kernel
theorem dX11_sentence_61 : decode cX11_sentence 61 = .ok (.ifCond .eq 7, 3) := by decide +kernel
theorem dX11_sentence_64 : decode cX11_sentence 64 = .ok (.iconst 1, 1) := by decide +kernel
theorem dX11_sentence_65 : decode cX11_sentence 65 = .ok (.goto 4, 3) := by decide +kernel
theorem dX11_sentence_68 : decode cX11_sentence 68 = .ok (.iconst 0, 1) := by decide +kernel
theorem dX11_sentence_69 : decode cX11_sentence 69 = .ok (.ireturn, 1) := by decide +kernel
theorem dX11_sentence_70 : decode cX11_sentence 70 = .ok (.aload_n 0, 1) := by decide +kernel
theorem dX11_sentence_71 : decode cX11_sentence 71 = .ok (.getfield 10, 3) := by decide +kernel
theorem dX11_sentence_74 : decode cX11_sentence 74 = .ok (.iload_n 1, 1) := by decide +kernel
theorem dX11_sentence_75 : decode cX11_sentence 75 = .ok (.invokevirtual 81, 3) := by decide +kernel
theorem dX11_sentence_78 : decode cX11_sentence 78 = .ok (.ifCond .eq 14, 3) := by decide +kernel
theorem dX11_sentence_81 : decode cX11_sentence 81 = .ok (.aload_n 0, 1) := by decide +kernel
theorem dX11_sentence_82 : decode cX11_sentence 82 = .ok (.getfield 10, 3) := by decide +kernel
theorem dX11_sentence_85 : decode cX11_sentence 85 = .ok (.iload_n 1, 1) := by decide +kernel
theorem dX11_sentence_86 : decode cX11_sentence 86 = .ok (.invokevirtual 84, 3) := by decide +kernel
theorem dX11_sentence_89 : decode cX11_sentence 89 = .ok (.goto 5, 3) := by decide +kernel
theorem dX11_sentence_92 : decode cX11_sentence 92 = .ok (.bipush (-4), 2) := by decide +kernel
theorem dX11_sentence_94 : decode cX11_sentence 94 = .ok (.ireturn, 1) := by decide +kernel
theorem dX11_sentence_95 : decode cX11_sentence 95 = .ok (.aload_n 0, 1) := by decide +kernel
theorem dX11_sentence_96 : decode cX11_sentence 96 = .ok (.getfield 10, 3) := by decide +kernel
theorem dX11_sentence_99 : decode cX11_sentence 99 = .ok (.iload_n 1, 1) := by decide +kernel
theorem dX11_sentence_100 : decode cX11_sentence 100 = .ok (.invokevirtual 81, 3) := by decide +kernel
theorem dX11_sentence_103 : decode cX11_sentence 103 = .ok (.ifCond .eq 14, 3) := by decide +kernel
theorem dX11_sentence_106 : decode cX11_sentence 106 = .ok (.aload_n 0, 1) := by decide +kernel
theorem dX11_sentence_107 : decode cX11_sentence 107 = .ok (.getfield 10, 3) := by decide +kernel
theorem dX11_sentence_110 : decode cX11_sentence 110 = .ok (.iload_n 1, 1) := by decide +kernel
theorem dX11_sentence_111 : decode cX11_sentence 111 = .ok (.invokevirtual 87, 3) := by decide +kernel
theorem dX11_sentence_114 : decode cX11_sentence 114 = .ok (.goto 5, 3) := by decide +kernel
theorem dX11_sentence_117 : decode cX11_sentence 117 = .ok (.bipush (-4), 2) := by decide +kernel
theorem dX11_sentence_119 : decode cX11_sentence 119 = .ok (.ireturn, 1) := by decide +kernel
theorem dX11_sentence_120 : decode cX11_sentence 120 = .ok (.iconst (-1), 1) := by decide +kernel
theorem dX11_sentence_121 : decode cX11_sentence 121 = .ok (.ireturn, 1) := by decide +kernel
set_option maxRecDepth 20000 in
theorem ggX11_denier_X9_memberAt : GoodIn wsX11_denier wsX9_memberAt := goodIn_r _ [8, 9, 103, 104, 105, 106, 107, 108, 109, 110, 111, 112] (by decide +kernel) (by decide +kernel)
set_option maxRecDepth 20000 in
theorem gX11_denier_X9_memberAt : GoodIn wsX11_denier (wsV RX11 90 RX9 yX9_memberAt wsX9_memberAt) := goodIn_app (goodIn_of _ (by decide +kernel)) ggX11_denier_X9_memberAt
set_option maxRecDepth 20000 in
theorem ggX11_denier_X9_knownTo : GoodIn wsX11_denier wsX9_knownTo := goodIn_r _ [13, 14, 103, 104, 105, 106, 107, 108, 109, 110, 111, 112] (by decide +kernel) (by decide +kernel)
set_option maxRecDepth 20000 in
theorem gX11_denier_X9_knownTo : GoodIn wsX11_denier (wsV RX11 101 RX9 yX9_knownTo wsX9_knownTo) := goodIn_app (goodIn_of _ (by decide +kernel)) ggX11_denier_X9_knownTo
set_option maxRecDepth 20000 in
theorem ggX11_denier_X9_isAlive : GoodIn wsX11_denier wsX9_isAlive := goodIn_r _ [18, 19, 20, 21, 22, 103, 104, 105, 106, 107, 108, 109, 110, 111, 112] (by decide +kernel) (by decide +kernel)
set_option maxRecDepth 20000 in
theorem gX11_denier_X9_isAlive : GoodIn wsX11_denier (wsV RX11 104 RX9 yX9_isAlive wsX9_isAlive) := goodIn_app (goodIn_of _ (by decide +kernel)) ggX11_denier_X9_isAlive
set_option maxRecDepth 20000 in
theorem ggX11_denier_X0_asks : GoodIn wsX11_denier wsX0_asks := goodIn_r _ [29, 30, 31, 32, 33, 34, 35, 36, 37, 38, 24, 39, 40, 41, 42, 87, 88, 89, 90, 91, 92, 93, 94, 95, 96, 97, 98, 99, 100, 101, 102] (by decide +kernel) (by decide +kernel)
set_option maxRecDepth 20000 in
theorem gX11_denier_X0_asks_u107X0 : GoodIn wsX11_denier (va_wsO RX11 107 RX0 "HoldsOnceDenied$Denier" ⟨"HoldsOnceDenied$Denier", "asks", "()I"⟩ yX0_asks wsX0_asks) := goodIn_app (goodIn_of _ (by decide +kernel)) ggX11_denier_X0_asks
set_option maxRecDepth 20000 in
theorem ggX11_denier_X1_asks : GoodIn wsX11_denier wsX1_asks := goodIn_r _ [46, 47, 48, 49, 50, 51, 52, 53, 24, 54, 40, 41, 42] (by decide +kernel) (by decide +kernel)
set_option maxRecDepth 20000 in
theorem gX11_denier_X1_asks_u107X1 : GoodIn wsX11_denier (va_wsO RX11 107 RX1 "HoldsOnceDenied$Denier" ⟨"HoldsOnceDenied$Denier", "asks", "()I"⟩ yX1_asks wsX1_asks) := goodIn_app (goodIn_of _ (by decide +kernel)) ggX11_denier_X1_asks
set_option maxRecDepth 20000 in
theorem ggX11_denier_X2_asks : GoodIn wsX11_denier wsX2_asks := goodIn_r _ [42] (by decide +kernel) (by decide +kernel)
set_option maxRecDepth 20000 in
theorem gX11_denier_X2_asks : GoodIn wsX11_denier (wsV RX11 107 RX2 yX2_asks wsX2_asks) := goodIn_app (goodIn_of _ (by decide +kernel)) ggX11_denier_X2_asks
set_option maxRecDepth 20000 in
theorem ggX11_denier_X3_asks : GoodIn wsX11_denier wsX3_asks := goodIn_r _ [52, 53, 24, 54, 40, 41, 42] (by decide +kernel) (by decide +kernel)
set_option maxRecDepth 20000 in
theorem gX11_denier_X3_asks_u107X3 : GoodIn wsX11_denier (va_wsO RX11 107 RX3 "HoldsOnceDenied$Denier" ⟨"HoldsOnceDenied$Denier", "asks", "()I"⟩ yX3_asks wsX3_asks) := goodIn_app (goodIn_of _ (by decide +kernel)) ggX11_denier_X3_asks
set_option maxRecDepth 20000 in
theorem ggX11_denier_X5_asks : GoodIn wsX11_denier wsX5_asks := goodIn_r _ [35, 36, 37, 38, 24, 39, 40, 41, 42, 87, 88, 89, 90, 91, 92, 93, 94, 95, 96, 97, 98, 99, 100, 101, 102] (by decide +kernel) (by decide +kernel)
set_option maxRecDepth 20000 in
theorem gX11_denier_X5_asks_u107X5 : GoodIn wsX11_denier (va_wsO RX11 107 RX5 "HoldsOnceDenied$Denier" ⟨"HoldsOnceDenied$Denier", "asks", "()I"⟩ yX5_asks wsX5_asks) := goodIn_app (goodIn_of _ (by decide +kernel)) ggX11_denier_X5_asks
set_option maxRecDepth 20000 in
theorem ggX11_denier_X6_asks : GoodIn wsX11_denier wsX6_asks := goodIn_r _ [62, 63, 48, 64, 50, 51, 52, 53, 24, 54, 40, 41, 42] (by decide +kernel) (by decide +kernel)
set_option maxRecDepth 20000 in
theorem gX11_denier_X6_asks_u107X6 : GoodIn wsX11_denier (va_wsO RX11 107 RX6 "HoldsOnceDenied$Denier" ⟨"HoldsOnceDenied$Denier", "asks", "()I"⟩ yX6_asks wsX6_asks) := goodIn_app (goodIn_of _ (by decide +kernel)) ggX11_denier_X6_asks
set_option maxRecDepth 20000 in
theorem ggX11_denier_X7_asks : GoodIn wsX11_denier wsX7_asks := goodIn_r _ [68, 69, 70, 71, 72, 73, 74, 75, 76, 77, 24, 78, 40, 41, 42, 87, 88, 89, 90, 91, 92, 93, 94, 95, 96, 97, 98, 99, 100, 101, 102] (by decide +kernel) (by decide +kernel)
set_option maxRecDepth 20000 in
theorem gX11_denier_X7_asks_u107X7 : GoodIn wsX11_denier (va_wsO RX11 107 RX7 "HoldsOnceDenied$Denier" ⟨"HoldsOnceDenied$Denier", "asks", "()I"⟩ yX7_asks wsX7_asks) := goodIn_app (goodIn_of _ (by decide +kernel)) ggX11_denier_X7_asks
set_option maxRecDepth 20000 in
theorem ggX11_denier_X10_asks : GoodIn wsX11_denier wsX10_asks := goodIn_r _ [74, 75, 76, 77, 24, 78, 40, 41, 42, 87, 88, 89, 90, 91, 92, 93, 94, 95, 96, 97, 98, 99, 100, 101, 102] (by decide +kernel) (by decide +kernel)
set_option maxRecDepth 20000 in
theorem gX11_denier_X10_asks_u107X10 : GoodIn wsX11_denier (va_wsO RX11 107 RX10 "HoldsOnceDenied$Denier" ⟨"HoldsOnceDenied$Denier", "asks", "()I"⟩ yX10_asks wsX10_asks) := goodIn_app (goodIn_of _ (by decide +kernel)) ggX11_denier_X10_asks
theorem dX11_denier_0 : decode cX11_denier 0 = .ok (.aload_n 0, 1) := by decide +kernel
theorem dX11_denier_1 : decode cX11_denier 1 = .ok (.getfield 10, 3) := by decide +kernel
theorem dX11_denier_4 : decode cX11_denier 4 = .ok (.iload_n 1, 1) := by decide +kernel
theorem dX11_denier_5 : decode cX11_denier 5 = .ok (.invokevirtual 90, 3) := by decide +kernel
theorem dX11_denier_8 : decode cX11_denier 8 = .ok (.astore_n 3, 1) := by decide +kernel
theorem dX11_denier_9 : decode cX11_denier 9 = .ok (.aload_n 3, 1) := by decide +kernel
theorem dX11_denier_10 : decode cX11_denier 10 = .ok (.ifnonnull 5, 3) := by decide +kernel
theorem dX11_denier_13 : decode cX11_denier 13 = .ok (.iconst (-1), 1) := by decide +kernel
theorem dX11_denier_14 : decode cX11_denier 14 = .ok (.ireturn, 1) := by decide +kernel
theorem dX11_denier_15 : decode cX11_denier 15 = .ok (.iload_n 2, 1) := by decide +kernel
theorem dX11_denier_16 : decode cX11_denier 16 = .ok (.tableswitch 77 0 4 #[36, 41, 46, 55, 72], 36) := by decide +kernel
theorem dX11_denier_52 : decode cX11_denier 52 = .ok (.aload_n 3, 1) := by decide +kernel
theorem dX11_denier_53 : decode cX11_denier 53 = .ok (.getfield 94, 3) := by decide +kernel
theorem dX11_denier_56 : decode cX11_denier 56 = .ok (.ireturn, 1) := by decide +kernel
theorem dX11_denier_57 : decode cX11_denier 57 = .ok (.aload_n 3, 1) := by decide +kernel
theorem dX11_denier_58 : decode cX11_denier 58 = .ok (.getfield 98, 3) := by decide +kernel
theorem dX11_denier_61 : decode cX11_denier 61 = .ok (.ireturn, 1) := by decide +kernel
theorem dX11_denier_62 : decode cX11_denier 62 = .ok (.aload_n 0, 1) := by decide +kernel
theorem dX11_denier_63 : decode cX11_denier 63 = .ok (.getfield 10, 3) := by decide +kernel
theorem dX11_denier_66 : decode cX11_denier 66 = .ok (.iload_n 1, 1) := by decide +kernel
theorem dX11_denier_67 : decode cX11_denier 67 = .ok (.invokevirtual 101, 3) := by decide +kernel
theorem dX11_denier_70 : decode cX11_denier 70 = .ok (.ireturn, 1) := by decide +kernel
theorem dX11_denier_71 : decode cX11_denier 71 = .ok (.aload_n 0, 1) := by decide +kernel
theorem dX11_denier_72 : decode cX11_denier 72 = .ok (.getfield 10, 3) := by decide +kernel
theorem dX11_denier_75 : decode cX11_denier 75 = .ok (.iload_n 1, 1) := by decide +kernel
theorem dX11_denier_76 : decode cX11_denier 76 = .ok (.invokevirtual 104, 3) := by decide +kernel
theorem dX11_denier_79 : decode cX11_denier 79 = .ok (.ifCond .eq 7, 3) := by decide +kernel
theorem dX11_denier_82 : decode cX11_denier 82 = .ok (.iconst 1, 1) := by decide +kernel
theorem dX11_denier_83 : decode cX11_denier 83 = .ok (.goto 4, 3) := by decide +kernel
theorem dX11_denier_86 : decode cX11_denier 86 = .ok (.iconst 0, 1) := by decide +kernel
theorem dX11_denier_87 : decode cX11_denier 87 = .ok (.ireturn, 1) := by decide +kernel
theorem dX11_denier_88 : decode cX11_denier 88 = .ok (.aload_n 3, 1) := by decide +kernel
theorem dX11_denier_89 : decode cX11_denier 89 = .ok (.invokevirtual 107, 3) := by decide +kernel
theorem dX11_denier_92 : decode cX11_denier 92 = .ok (.ireturn, 1) := by decide +kernel
theorem dX11_denier_93 : decode cX11_denier 93 = .ok (.iconst (-1), 1) := by decide +kernel
theorem dX11_denier_94 : decode cX11_denier 94 = .ok (.ireturn, 1) := by decide +kernel
set_option maxRecDepth 20000 in
theorem ggX11_comes_X11_denierAt : GoodIn wsX11_comes wsX11_denierAt := goodIn_r _ [6, 7, 35, 36, 37, 38, 39, 40, 41] (by decide +kernel) (by decide +kernel)
set_option maxRecDepth 20000 in
theorem gX11_comes_X11_denierAt : GoodIn wsX11_comes (wsV RX11 110 RX11 yX11_denierAt wsX11_denierAt) := goodIn_app (goodIn_of _ (by decide +kernel)) ggX11_comes_X11_denierAt
set_option maxRecDepth 20000 in
theorem ggX11_comes_X11_whyMissing : GoodIn wsX11_comes wsX11_whyMissing := goodIn_r _ [11, 12, 13, 5, 14, 15, 16, 17, 18, 19, 20, 21, 22, 23, 2, 3, 4, 6, 7, 35, 36, 37, 38, 39, 40, 41] (by decide +kernel) (by decide +kernel)
set_option maxRecDepth 20000 in
theorem gX11_comes_X11_whyMissing : GoodIn wsX11_comes (wsV RX11 45 RX11 yX11_whyMissing wsX11_whyMissing) := goodIn_app (goodIn_of _ (by decide +kernel)) ggX11_comes_X11_whyMissing
set_option maxRecDepth 20000 in
theorem ggX11_comes_X9_join : GoodIn wsX11_comes wsX9_join := goodIn_r _ [28, 29, 30, 31, 32, 33, 5, 34, 42, 43, 44, 45, 46, 47, 48, 49, 50, 51] (by decide +kernel) (by decide +kernel)
set_option maxRecDepth 20000 in
theorem gX11_comes_X9_join : GoodIn wsX11_comes (wsV RX11 113 RX9 yX9_join wsX9_join) := goodIn_app (goodIn_of _ (by decide +kernel)) ggX11_comes_X9_join
theorem dX11_comes_0 : decode cX11_comes 0 = .ok (.aload_n 0, 1) := by decide +kernel
theorem dX11_comes_1 : decode cX11_comes 1 = .ok (.iload_n 1, 1) := by decide +kernel
theorem dX11_comes_2 : decode cX11_comes 2 = .ok (.invokevirtual 110, 3) := by decide +kernel
theorem dX11_comes_5 : decode cX11_comes 5 = .ok (.astore_n 2, 1) := by decide +kernel
theorem dX11_comes_6 : decode cX11_comes 6 = .ok (.aload_n 2, 1) := by decide +kernel
theorem dX11_comes_7 : decode cX11_comes 7 = .ok (.ifnonnull 9, 3) := by decide +kernel
theorem dX11_comes_10 : decode cX11_comes 10 = .ok (.aload_n 0, 1) := by decide +kernel
theorem dX11_comes_11 : decode cX11_comes 11 = .ok (.iload_n 1, 1) := by decide +kernel
theorem dX11_comes_12 : decode cX11_comes 12 = .ok (.invokevirtual 45, 3) := by decide +kernel
theorem dX11_comes_15 : decode cX11_comes 15 = .ok (.ireturn, 1) := by decide +kernel
theorem dX11_comes_16 : decode cX11_comes 16 = .ok (.aload_n 0, 1) := by decide +kernel
theorem dX11_comes_17 : decode cX11_comes 17 = .ok (.getfield 10, 3) := by decide +kernel
theorem dX11_comes_20 : decode cX11_comes 20 = .ok (.aload_n 2, 1) := by decide +kernel
theorem dX11_comes_21 : decode cX11_comes 21 = .ok (.invokevirtual 113, 3) := by decide +kernel
theorem dX11_comes_24 : decode cX11_comes 24 = .ok (.ireturn, 1) := by decide +kernel
set_option maxRecDepth 20000 in
theorem ggX11_learns_X11_isPair : GoodIn wsX11_learns wsX11_isPair := goodIn_r _ [6, 1, 7, 8, 9, 10, 11, 12, 13, 14, 15, 16, 17, 27, 28, 29, 30, 31, 32, 33, 34, 35, 36, 37, 38, 39, 40, 41, 42, 43] (by decide +kernel) (by decide +kernel)
set_option maxRecDepth 20000 in
theorem gX11_learns_X11_isPair : GoodIn wsX11_learns (wsV RX11 117 RX11 yX11_isPair wsX11_isPair) := goodIn_app (goodIn_of _ (by decide +kernel)) ggX11_learns_X11_isPair
set_option maxRecDepth 20000 in
theorem ggX11_learns_X9_learn : GoodIn wsX11_learns wsX9_learn := goodIn_r _ [21, 22, 23, 5, 24, 25, 26, 34, 35, 36, 37, 38, 39, 40, 41, 42, 43] (by decide +kernel) (by decide +kernel)
set_option maxRecDepth 20000 in
theorem gX11_learns_X9_learn : GoodIn wsX11_learns (wsV RX11 121 RX9 yX9_learn wsX9_learn) := goodIn_app (goodIn_of _ (by decide +kernel)) ggX11_learns_X9_learn
theorem dX11_learns_0 : decode cX11_learns 0 = .ok (.aload_n 0, 1) := by decide +kernel
theorem dX11_learns_1 : decode cX11_learns 1 = .ok (.iload_n 1, 1) := by decide +kernel
theorem dX11_learns_2 : decode cX11_learns 2 = .ok (.iload_n 2, 1) := by decide +kernel
theorem dX11_learns_3 : decode cX11_learns 3 = .ok (.invokevirtual 117, 3) := by decide +kernel
theorem dX11_learns_6 : decode cX11_learns 6 = .ok (.ifCond .ne 5, 3) := by decide +kernel
theorem dX11_learns_9 : decode cX11_learns 9 = .ok (.iconst (-1), 1) := by decide +kernel
theorem dX11_learns_10 : decode cX11_learns 10 = .ok (.ireturn, 1) := by decide +kernel
theorem dX11_learns_11 : decode cX11_learns 11 = .ok (.aload_n 0, 1) := by decide +kernel
theorem dX11_learns_12 : decode cX11_learns 12 = .ok (.getfield 10, 3) := by decide +kernel
theorem dX11_learns_15 : decode cX11_learns 15 = .ok (.iload_n 1, 1) := by decide +kernel
theorem dX11_learns_16 : decode cX11_learns 16 = .ok (.iload_n 2, 1) := by decide +kernel
theorem dX11_learns_17 : decode cX11_learns 17 = .ok (.invokevirtual 121, 3) := by decide +kernel
theorem dX11_learns_20 : decode cX11_learns 20 = .ok (.ifCond .eq 7, 3) := by decide +kernel
theorem dX11_learns_23 : decode cX11_learns 23 = .ok (.iconst 1, 1) := by decide +kernel
theorem dX11_learns_24 : decode cX11_learns 24 = .ok (.goto 4, 3) := by decide +kernel
theorem dX11_learns_27 : decode cX11_learns 27 = .ok (.iconst 0, 1) := by decide +kernel
theorem dX11_learns_28 : decode cX11_learns 28 = .ok (.ireturn, 1) := by decide +kernel
set_option maxRecDepth 20000 in
theorem ggX11_deny_X11_isPair : GoodIn wsX11_deny wsX11_isPair := goodIn_r _ [6, 1, 7, 8, 9, 10, 11, 12, 13, 14, 15, 16, 17, 146, 147, 148, 149, 150, 151, 152, 153, 154, 155, 156, 157, 158, 159, 160, 161, 162] (by decide +kernel) (by decide +kernel)
set_option maxRecDepth 20000 in
theorem gX11_deny_X11_isPair : GoodIn wsX11_deny (wsV RX11 117 RX11 yX11_isPair wsX11_isPair) := goodIn_app (goodIn_of _ (by decide +kernel)) ggX11_deny_X11_isPair
set_option maxRecDepth 20000 in
theorem ggX11_deny_X9_isAllowed : GoodIn wsX11_deny wsX9_isAllowed := goodIn_r _ [21, 22, 23, 24, 25, 10, 26, 27, 28, 29, 30, 31, 32, 33, 5, 34, 35, 14, 15, 16, 17, 36, 37, 38, 39, 40, 41, 42, 43, 44, 45, 46, 47, 48, 49, 50, 51, 52, 53, 54, 55, 56, 57, 58, 59, 60, 61, 62, 63, 64, 65, 66, 67, 68, 69, 70, 71, 72, 73, 74, 75, 76, 77, 78, 79, 80, 81, 82, 83, 84, 85, 86, 87, 88, 89, 90, 91, 92, 93, 94, 95, 96, 97, 98, 99, 100, 101, 102, 153, 154, 155, 156, 157, 158, 159, 160, 161, 162, 163, 164, 165, 166, 167, 168, 169, 170, 171, 172, 173, 174, 175, 176, 177, 178] (by decide +kernel) (by decide +kernel)
set_option maxRecDepth 20000 in
theorem gX11_deny_X9_isAllowed : GoodIn wsX11_deny (wsV RX11 124 RX9 yX9_isAllowed wsX9_isAllowed) := goodIn_app (goodIn_of _ (by decide +kernel)) ggX11_deny_X9_isAllowed
set_option maxRecDepth 20000 in
theorem ggX11_deny_X9_dispute : GoodIn wsX11_deny wsX9_dispute := goodIn_r _ [106, 107, 108, 109, 110, 10, 111, 22, 23, 24, 25, 26, 27, 36, 37, 38, 39, 40, 41, 42, 43, 44, 45, 112, 113, 114, 115, 116, 117, 118, 119, 120, 51, 121, 122, 123, 124, 68, 125, 126, 127, 128, 64, 100, 5, 101, 129, 130, 131, 132, 133, 134, 135, 136, 137, 138, 139, 140, 141, 142, 143, 144, 145, 33, 34, 153, 154, 155, 156, 157, 158, 159, 160, 161, 162] (by decide +kernel) (by decide +kernel)
set_option maxRecDepth 20000 in
theorem gX11_deny_X9_dispute : GoodIn wsX11_deny (wsV RX11 127 RX9 yX9_dispute wsX9_dispute) := goodIn_app (goodIn_of _ (by decide +kernel)) ggX11_deny_X9_dispute
theorem dX11_deny_0 : decode cX11_deny 0 = .ok (.aload_n 0, 1) := by decide +kernel
theorem dX11_deny_1 : decode cX11_deny 1 = .ok (.iload_n 1, 1) := by decide +kernel
theorem dX11_deny_2 : decode cX11_deny 2 = .ok (.iload_n 2, 1) := by decide +kernel
theorem dX11_deny_3 : decode cX11_deny 3 = .ok (.invokevirtual 117, 3) := by decide +kernel
theorem dX11_deny_6 : decode cX11_deny 6 = .ok (.ifCond .ne 5, 3) := by decide +kernel
theorem dX11_deny_9 : decode cX11_deny 9 = .ok (.iconst (-1), 1) := by decide +kernel
theorem dX11_deny_10 : decode cX11_deny 10 = .ok (.ireturn, 1) := by decide +kernel
theorem dX11_deny_11 : decode cX11_deny 11 = .ok (.aload_n 0, 1) := by decide +kernel
theorem dX11_deny_12 : decode cX11_deny 12 = .ok (.getfield 10, 3) := by decide +kernel
theorem dX11_deny_15 : decode cX11_deny 15 = .ok (.iload_n 1, 1) := by decide +kernel
theorem dX11_deny_16 : decode cX11_deny 16 = .ok (.iload_n 2, 1) := by decide +kernel
theorem dX11_deny_17 : decode cX11_deny 17 = .ok (.invokevirtual 124, 3) := by decide +kernel
theorem dX11_deny_20 : decode cX11_deny 20 = .ok (.ifCond .ne 6, 3) := by decide +kernel
theorem dX11_deny_23 : decode cX11_deny 23 = .ok (.bipush (-3), 2) := by decide +kernel
theorem dX11_deny_25 : decode cX11_deny 25 = .ok (.ireturn, 1) := by decide +kernel
theorem dX11_deny_26 : decode cX11_deny 26 = .ok (.aload_n 0, 1) := by decide +kernel
theorem dX11_deny_27 : decode cX11_deny 27 = .ok (.getfield 10, 3) := by decide +kernel
theorem dX11_deny_30 : decode cX11_deny 30 = .ok (.iload_n 1, 1) := by decide +kernel
theorem dX11_deny_31 : decode cX11_deny 31 = .ok (.iload_n 2, 1) := by decide +kernel
theorem dX11_deny_32 : decode cX11_deny 32 = .ok (.invokevirtual 127, 3) := by decide +kernel
theorem dX11_deny_35 : decode cX11_deny 35 = .ok (.ifCond .eq 7, 3) := by decide +kernel
theorem dX11_deny_38 : decode cX11_deny 38 = .ok (.iconst 1, 1) := by decide +kernel
theorem dX11_deny_39 : decode cX11_deny 39 = .ok (.goto 4, 3) := by decide +kernel
theorem dX11_deny_42 : decode cX11_deny 42 = .ok (.iconst 0, 1) := by decide +kernel
theorem dX11_deny_43 : decode cX11_deny 43 = .ok (.ireturn, 1) := by decide +kernel
set_option maxRecDepth 20000 in
theorem ggX11_die_X9_hasDenier : GoodIn wsX11_die wsX9_hasDenier := goodIn_r _ [6, 7, 56, 57, 58, 59, 60, 61, 62, 63, 64, 65] (by decide +kernel) (by decide +kernel)
set_option maxRecDepth 20000 in
theorem gX11_die_X9_hasDenier : GoodIn wsX11_die (wsV RX11 130 RX9 yX9_hasDenier wsX9_hasDenier) := goodIn_app (goodIn_of _ (by decide +kernel)) ggX11_die_X9_hasDenier
set_option maxRecDepth 20000 in
theorem ggX11_die_X9_isAlive : GoodIn wsX11_die wsX9_isAlive := goodIn_r _ [11, 12, 13, 14, 15, 56, 57, 58, 59, 60, 61, 62, 63, 64, 65] (by decide +kernel) (by decide +kernel)
set_option maxRecDepth 20000 in
theorem gX11_die_X9_isAlive : GoodIn wsX11_die (wsV RX11 104 RX9 yX9_isAlive wsX9_isAlive) := goodIn_app (goodIn_of _ (by decide +kernel)) ggX11_die_X9_isAlive
set_option maxRecDepth 20000 in
theorem ggX11_die_X9_ruins : GoodIn wsX11_die wsX9_ruins := goodIn_r _ [19, 20, 21, 22, 23, 5, 24, 25, 13, 14, 15, 26, 27, 28, 29, 30, 31, 32, 33, 34, 35, 36, 37, 56, 57, 58, 59, 60, 61, 62, 63, 64, 65] (by decide +kernel) (by decide +kernel)
set_option maxRecDepth 20000 in
theorem gX11_die_X9_ruins : GoodIn wsX11_die (wsV RX11 133 RX9 yX9_ruins wsX9_ruins) := goodIn_app (goodIn_of _ (by decide +kernel)) ggX11_die_X9_ruins
set_option maxRecDepth 20000 in
theorem ggX11_die_X9_bury : GoodIn wsX11_die wsX9_bury := goodIn_r _ [41, 12, 25, 31, 14, 32, 56, 57, 58, 59, 60, 61, 62, 63, 64, 65] (by decide +kernel) (by decide +kernel)
set_option maxRecDepth 20000 in
theorem gX11_die_X9_bury : GoodIn wsX11_die (wsV RX11 136 RX9 yX9_bury wsX9_bury) := goodIn_app (goodIn_of _ (by decide +kernel)) ggX11_die_X9_bury
set_option maxRecDepth 20000 in
theorem ggX11_die_J6_bitCount_0f7a4 : GoodIn wsX11_die wsJ6_bitCount_0f7a4 := goodIn_r _ [45, 46, 47, 48] (by decide +kernel) (by decide +kernel)
set_option maxRecDepth 20000 in
theorem gX11_die_J6_bitCount_0f7a4 : GoodIn wsX11_die (va_wsS RX11 140 yJ6_bitCount_0f7a4 wsJ6_bitCount_0f7a4) := goodIn_app (goodIn_of _ (by decide +kernel)) ggX11_die_J6_bitCount_0f7a4
theorem dX11_die_0 : decode cX11_die 0 = .ok (.aload_n 0, 1) := by decide +kernel
theorem dX11_die_1 : decode cX11_die 1 = .ok (.getfield 10, 3) := by decide +kernel
theorem dX11_die_4 : decode cX11_die 4 = .ok (.iload_n 1, 1) := by decide +kernel
theorem dX11_die_5 : decode cX11_die 5 = .ok (.invokevirtual 130, 3) := by decide +kernel
theorem dX11_die_8 : decode cX11_die 8 = .ok (.ifCond .ne 5, 3) := by decide +kernel
theorem dX11_die_11 : decode cX11_die 11 = .ok (.iconst (-1), 1) := by decide +kernel
theorem dX11_die_12 : decode cX11_die 12 = .ok (.ireturn, 1) := by decide +kernel
theorem dX11_die_13 : decode cX11_die 13 = .ok (.aload_n 0, 1) := by decide +kernel
theorem dX11_die_14 : decode cX11_die 14 = .ok (.getfield 10, 3) := by decide +kernel
theorem dX11_die_17 : decode cX11_die 17 = .ok (.iload_n 1, 1) := by decide +kernel
theorem dX11_die_18 : decode cX11_die 18 = .ok (.invokevirtual 104, 3) := by decide +kernel
theorem dX11_die_21 : decode cX11_die 21 = .ok (.ifCond .ne 6, 3) := by decide +kernel
theorem dX11_die_24 : decode cX11_die 24 = .ok (.bipush (-3), 2) := by decide +kernel
theorem dX11_die_26 : decode cX11_die 26 = .ok (.ireturn, 1) := by decide +kernel
theorem dX11_die_27 : decode cX11_die 27 = .ok (.aload_n 0, 1) := by decide +kernel
theorem dX11_die_28 : decode cX11_die 28 = .ok (.getfield 10, 3) := by decide +kernel
theorem dX11_die_31 : decode cX11_die 31 = .ok (.iload_n 1, 1) := by decide +kernel
theorem dX11_die_32 : decode cX11_die 32 = .ok (.invokevirtual 133, 3) := by decide +kernel
theorem dX11_die_35 : decode cX11_die 35 = .ok (.istore_n 2, 1) := by decide +kernel
theorem dX11_die_36 : decode cX11_die 36 = .ok (.aload_n 0, 1) := by decide +kernel
theorem dX11_die_37 : decode cX11_die 37 = .ok (.getfield 10, 3) := by decide +kernel
theorem dX11_die_40 : decode cX11_die 40 = .ok (.iload_n 1, 1) := by decide +kernel
theorem dX11_die_41 : decode cX11_die 41 = .ok (.iload_n 2, 1) := by decide +kernel
theorem dX11_die_42 : decode cX11_die 42 = .ok (.invokevirtual 136, 3) := by decide +kernel
theorem dX11_die_45 : decode cX11_die 45 = .ok (.iload_n 2, 1) := by decide +kernel
theorem dX11_die_46 : decode cX11_die 46 = .ok (.invokestatic 140, 3) := by decide +kernel
theorem dX11_die_49 : decode cX11_die 49 = .ok (.ireturn, 1) := by decide +kernel
set_option maxRecDepth 20000 in
theorem ggX11_may_X9_hasDenier : GoodIn wsX11_may wsX9_hasDenier := goodIn_r _ [6, 7, 111, 112, 113, 114, 115, 116, 117, 118, 119, 120] (by decide +kernel) (by decide +kernel)
set_option maxRecDepth 20000 in
theorem gX11_may_X9_hasDenier : GoodIn wsX11_may (wsV RX11 130 RX9 yX9_hasDenier wsX9_hasDenier) := goodIn_app (goodIn_of _ (by decide +kernel)) ggX11_may_X9_hasDenier
set_option maxRecDepth 20000 in
theorem ggX11_may_X9_allowedTo : GoodIn wsX11_may wsX9_allowedTo := goodIn_r _ [11, 12, 13, 14, 15, 5, 16, 17, 18, 19, 20, 21, 22, 23, 24, 25, 26, 27, 28, 29, 30, 31, 32, 33, 34, 35, 36, 37, 38, 39, 40, 41, 42, 43, 44, 45, 46, 47, 48, 49, 50, 51, 52, 53, 54, 55, 56, 57, 58, 59, 60, 61, 62, 63, 64, 65, 66, 67, 68, 69, 70, 71, 72, 73, 74, 75, 76, 77, 78, 79, 80, 81, 82, 83, 84, 85, 86, 87, 88, 89, 90, 91, 92, 93, 94, 95, 96, 97, 98, 99, 100, 101, 102, 103, 111, 112, 113, 114, 115, 116, 117, 118, 119, 120, 121, 122, 123, 124, 125, 126, 127, 128, 129, 130, 131, 132, 133, 134, 135, 136] (by decide +kernel) (by decide +kernel)
set_option maxRecDepth 20000 in
theorem gX11_may_X9_allowedTo : GoodIn wsX11_may (wsV RX11 145 RX9 yX9_allowedTo wsX9_allowedTo) := goodIn_app (goodIn_of _ (by decide +kernel)) ggX11_may_X9_allowedTo
theorem dX11_may_0 : decode cX11_may 0 = .ok (.aload_n 0, 1) := by decide +kernel
theorem dX11_may_1 : decode cX11_may 1 = .ok (.getfield 10, 3) := by decide +kernel
theorem dX11_may_4 : decode cX11_may 4 = .ok (.iload_n 1, 1) := by decide +kernel
theorem dX11_may_5 : decode cX11_may 5 = .ok (.invokevirtual 130, 3) := by decide +kernel
theorem dX11_may_8 : decode cX11_may 8 = .ok (.ifCond .eq 14, 3) := by decide +kernel
theorem dX11_may_11 : decode cX11_may 11 = .ok (.aload_n 0, 1) := by decide +kernel
theorem dX11_may_12 : decode cX11_may 12 = .ok (.getfield 10, 3) := by decide +kernel
theorem dX11_may_15 : decode cX11_may 15 = .ok (.iload_n 1, 1) := by decide +kernel
theorem dX11_may_16 : decode cX11_may 16 = .ok (.invokevirtual 145, 3) := by decide +kernel
theorem dX11_may_19 : decode cX11_may 19 = .ok (.goto 4, 3) := by decide +kernel
theorem dX11_may_22 : decode cX11_may 22 = .ok (.iconst (-1), 1) := by decide +kernel
theorem dX11_may_23 : decode cX11_may 23 = .ok (.ireturn, 1) := by decide +kernel
set_option maxRecDepth 20000 in
theorem ggX11_silences_X9_hasDenier : GoodIn wsX11_silences wsX9_hasDenier := goodIn_r _ [6, 7, 130, 131, 132, 133, 134, 135, 136, 137, 138, 139] (by decide +kernel) (by decide +kernel)
set_option maxRecDepth 20000 in
theorem gX11_silences_X9_hasDenier : GoodIn wsX11_silences (wsV RX11 130 RX9 yX9_hasDenier wsX9_hasDenier) := goodIn_app (goodIn_of _ (by decide +kernel)) ggX11_silences_X9_hasDenier
set_option maxRecDepth 20000 in
theorem ggX11_silences_X9_silencingFor : GoodIn wsX11_silences wsX9_silencingFor := goodIn_r _ [11, 12, 13, 14, 15, 16, 5, 17, 18, 19, 20, 21, 22, 23, 24, 25, 26, 27, 28, 29, 30, 31, 32, 33, 34, 35, 36, 37, 38, 39, 40, 41, 42, 43, 44, 45, 46, 47, 48, 49, 50, 51, 52, 53, 54, 55, 56, 57, 58, 59, 60, 61, 62, 63, 64, 65, 66, 67, 68, 69, 70, 71, 72, 73, 74, 75, 76, 77, 78, 79, 80, 81, 82, 83, 84, 85, 86, 87, 88, 89, 90, 91, 92, 93, 94, 95, 96, 97, 98, 99, 100, 101, 102, 103, 104, 105, 106, 107, 108, 109, 110, 111, 112, 113, 114, 115, 116, 117, 118, 119, 120, 121, 122, 130, 131, 132, 133, 134, 135, 136, 137, 138, 139, 140, 141, 142, 143, 144, 145, 146, 147, 148, 149, 150, 151, 152, 153, 154, 155] (by decide +kernel) (by decide +kernel)
set_option maxRecDepth 20000 in
theorem gX11_silences_X9_silencingFor : GoodIn wsX11_silences (wsV RX11 148 RX9 yX9_silencingFor wsX9_silencingFor) := goodIn_app (goodIn_of _ (by decide +kernel)) ggX11_silences_X9_silencingFor
theorem dX11_silences_0 : decode cX11_silences 0 = .ok (.aload_n 0, 1) := by decide +kernel
theorem dX11_silences_1 : decode cX11_silences 1 = .ok (.getfield 10, 3) := by decide +kernel
theorem dX11_silences_4 : decode cX11_silences 4 = .ok (.iload_n 1, 1) := by decide +kernel
theorem dX11_silences_5 : decode cX11_silences 5 = .ok (.invokevirtual 130, 3) := by decide +kernel
theorem dX11_silences_8 : decode cX11_silences 8 = .ok (.ifCond .eq 14, 3) := by decide +kernel
theorem dX11_silences_11 : decode cX11_silences 11 = .ok (.aload_n 0, 1) := by decide +kernel
theorem dX11_silences_12 : decode cX11_silences 12 = .ok (.getfield 10, 3) := by decide +kernel
theorem dX11_silences_15 : decode cX11_silences 15 = .ok (.iload_n 1, 1) := by decide +kernel
theorem dX11_silences_16 : decode cX11_silences 16 = .ok (.invokevirtual 148, 3) := by decide +kernel
theorem dX11_silences_19 : decode cX11_silences 19 = .ok (.goto 4, 3) := by decide +kernel
theorem dX11_silences_22 : decode cX11_silences 22 = .ok (.iconst (-1), 1) := by decide +kernel
theorem dX11_silences_23 : decode cX11_silences 23 = .ok (.ireturn, 1) := by decide +kernel
set_option maxRecDepth 20000 in
theorem ggX11_steps_X9_memberAt : GoodIn wsX11_steps wsX9_memberAt := goodIn_r _ [6, 7, 82, 83, 84, 85, 86, 87, 88, 89, 90, 91] (by decide +kernel) (by decide +kernel)
set_option maxRecDepth 20000 in
theorem gX11_steps_X9_memberAt : GoodIn wsX11_steps (wsV RX11 90 RX9 yX9_memberAt wsX9_memberAt) := goodIn_app (goodIn_of _ (by decide +kernel)) ggX11_steps_X9_memberAt
set_option maxRecDepth 20000 in
theorem ggX11_steps_X9_hasSentence : GoodIn wsX11_steps wsX9_hasSentence := goodIn_r _ [11, 12, 82, 83, 84, 85, 86, 87, 88, 89, 90, 91] (by decide +kernel) (by decide +kernel)
set_option maxRecDepth 20000 in
theorem gX11_steps_X9_hasSentence : GoodIn wsX11_steps (wsV RX11 75 RX9 yX9_hasSentence wsX9_hasSentence) := goodIn_app (goodIn_of _ (by decide +kernel)) ggX11_steps_X9_hasSentence
set_option maxRecDepth 20000 in
theorem ggX11_steps_X9_needsOf : GoodIn wsX11_steps wsX9_needsOf := goodIn_r _ [16, 17, 82, 83, 84, 85, 86, 87, 88, 89, 90, 91] (by decide +kernel) (by decide +kernel)
set_option maxRecDepth 20000 in
theorem gX11_steps_X9_needsOf : GoodIn wsX11_steps (wsV RX11 78 RX9 yX9_needsOf wsX9_needsOf) := goodIn_app (goodIn_of _ (by decide +kernel)) ggX11_steps_X9_needsOf
set_option maxRecDepth 20000 in
theorem ggX11_steps_J6_bitCount_0f7a4 : GoodIn wsX11_steps wsJ6_bitCount_0f7a4 := goodIn_r _ [21, 22, 23, 24] (by decide +kernel) (by decide +kernel)
set_option maxRecDepth 20000 in
theorem gX11_steps_J6_bitCount_0f7a4 : GoodIn wsX11_steps (va_wsS RX11 140 yJ6_bitCount_0f7a4 wsJ6_bitCount_0f7a4) := goodIn_app (goodIn_of _ (by decide +kernel)) ggX11_steps_J6_bitCount_0f7a4
set_option maxRecDepth 20000 in
theorem ggX11_steps_X0_effort : GoodIn wsX11_steps wsX0_effort := goodIn_r _ [31, 32, 33, 34, 35, 36, 37, 38, 39, 40, 26, 41, 42, 43, 44, 92, 93, 94, 95, 96, 97, 98, 99, 100, 101, 102, 103, 104, 105, 106, 107] (by decide +kernel) (by decide +kernel)
set_option maxRecDepth 20000 in
theorem gX11_steps_X0_effort_u151X0 : GoodIn wsX11_steps (va_wsO RX11 151 RX0 "HoldsOnceDenied$Denier" ⟨"HoldsOnceDenied$Denier", "effort", "(I)I"⟩ yX0_effort wsX0_effort) := goodIn_app (goodIn_of _ (by decide +kernel)) ggX11_steps_X0_effort
set_option maxRecDepth 20000 in
theorem ggX11_steps_X3_effort : GoodIn wsX11_steps wsX3_effort := goodIn_r _ [48, 49, 26, 50, 42, 43, 44] (by decide +kernel) (by decide +kernel)
set_option maxRecDepth 20000 in
theorem gX11_steps_X3_effort_u151X1 : GoodIn wsX11_steps (va_wsO RX11 151 RX1 "HoldsOnceDenied$Denier" ⟨"HoldsOnceDenied$Denier", "effort", "(I)I"⟩ yX3_effort wsX3_effort) := goodIn_app (goodIn_of _ (by decide +kernel)) ggX11_steps_X3_effort
set_option maxRecDepth 20000 in
theorem ggX11_steps_X2_effort : GoodIn wsX11_steps wsX2_effort := goodIn_r _ [44] (by decide +kernel) (by decide +kernel)
set_option maxRecDepth 20000 in
theorem gX11_steps_X2_effort : GoodIn wsX11_steps (wsV RX11 151 RX2 yX2_effort wsX2_effort) := goodIn_app (goodIn_of _ (by decide +kernel)) ggX11_steps_X2_effort
set_option maxRecDepth 20000 in
theorem gX11_steps_X3_effort_u151X3 : GoodIn wsX11_steps (va_wsO RX11 151 RX3 "HoldsOnceDenied$Denier" ⟨"HoldsOnceDenied$Denier", "effort", "(I)I"⟩ yX3_effort wsX3_effort) := goodIn_app (goodIn_of _ (by decide +kernel)) ggX11_steps_X3_effort
set_option maxRecDepth 20000 in
theorem ggX11_steps_X5_effort : GoodIn wsX11_steps wsX5_effort := goodIn_r _ [37, 38, 39, 40, 26, 41, 42, 43, 44, 92, 93, 94, 95, 96, 97, 98, 99, 100, 101, 102, 103, 104, 105, 106, 107] (by decide +kernel) (by decide +kernel)
set_option maxRecDepth 20000 in
theorem gX11_steps_X5_effort_u151X5 : GoodIn wsX11_steps (va_wsO RX11 151 RX5 "HoldsOnceDenied$Denier" ⟨"HoldsOnceDenied$Denier", "effort", "(I)I"⟩ yX5_effort wsX5_effort) := goodIn_app (goodIn_of _ (by decide +kernel)) ggX11_steps_X5_effort
set_option maxRecDepth 20000 in
theorem ggX11_steps_X6_effort : GoodIn wsX11_steps wsX6_effort := goodIn_r _ [58, 59, 60, 61, 46, 47, 48, 49, 26, 50, 42, 43, 44] (by decide +kernel) (by decide +kernel)
set_option maxRecDepth 20000 in
theorem gX11_steps_X6_effort_u151X6 : GoodIn wsX11_steps (va_wsO RX11 151 RX6 "HoldsOnceDenied$Denier" ⟨"HoldsOnceDenied$Denier", "effort", "(I)I"⟩ yX6_effort wsX6_effort) := goodIn_app (goodIn_of _ (by decide +kernel)) ggX11_steps_X6_effort
set_option maxRecDepth 20000 in
theorem ggX11_steps_X7_effort : GoodIn wsX11_steps wsX7_effort := goodIn_r _ [65, 66, 67, 68, 69, 70, 71, 72, 73, 92, 93, 94, 95, 96, 97, 98, 99, 100, 101, 102, 103, 104, 105, 106, 107] (by decide +kernel) (by decide +kernel)
set_option maxRecDepth 20000 in
theorem gX11_steps_X7_effort_u151X7 : GoodIn wsX11_steps (va_wsO RX11 151 RX7 "HoldsOnceDenied$Denier" ⟨"HoldsOnceDenied$Denier", "effort", "(I)I"⟩ yX7_effort wsX7_effort) := goodIn_app (goodIn_of _ (by decide +kernel)) ggX11_steps_X7_effort
set_option maxRecDepth 20000 in
theorem ggX11_steps_X10_effort : GoodIn wsX11_steps wsX10_effort := goodIn_r _ [73] (by decide +kernel) (by decide +kernel)
set_option maxRecDepth 20000 in
theorem gX11_steps_X10_effort_u151X10 : GoodIn wsX11_steps (va_wsO RX11 151 RX10 "HoldsOnceDenied$Denier" ⟨"HoldsOnceDenied$Denier", "effort", "(I)I"⟩ yX10_effort wsX10_effort) := goodIn_app (goodIn_of _ (by decide +kernel)) ggX11_steps_X10_effort
theorem dX11_steps_0 : decode cX11_steps 0 = .ok (.aload_n 0, 1) := by decide +kernel
theorem dX11_steps_1 : decode cX11_steps 1 = .ok (.getfield 10, 3) := by decide +kernel
theorem dX11_steps_4 : decode cX11_steps 4 = .ok (.iload_n 1, 1) := by decide +kernel
theorem dX11_steps_5 : decode cX11_steps 5 = .ok (.invokevirtual 90, 3) := by decide +kernel
theorem dX11_steps_8 : decode cX11_steps 8 = .ok (.astore_n 3, 1) := by decide +kernel
theorem dX11_steps_9 : decode cX11_steps 9 = .ok (.aload_n 3, 1) := by decide +kernel
theorem dX11_steps_10 : decode cX11_steps 10 = .ok (.ifnull 14, 3) := by decide +kernel
theorem dX11_steps_13 : decode cX11_steps 13 = .ok (.aload_n 0, 1) := by decide +kernel
theorem dX11_steps_14 : decode cX11_steps 14 = .ok (.getfield 10, 3) := by decide +kernel
theorem dX11_steps_17 : decode cX11_steps 17 = .ok (.iload_n 2, 1) := by decide +kernel
theorem dX11_steps_18 : decode cX11_steps 18 = .ok (.invokevirtual 75, 3) := by decide +kernel
theorem dX11_steps_21 : decode cX11_steps 21 = .ok (.ifCond .ne 5, 3) := by decide +kernel
theorem dX11_steps_24 : decode cX11_steps 24 = .ok (.iconst (-1), 1) := by decide +kernel
theorem dX11_steps_25 : decode cX11_steps 25 = .ok (.ireturn, 1) := by decide +kernel
theorem dX11_steps_26 : decode cX11_steps 26 = .ok (.aload_n 3, 1) := by decide +kernel
theorem dX11_steps_27 : decode cX11_steps 27 = .ok (.aload_n 0, 1) := by decide +kernel
theorem dX11_steps_28 : decode cX11_steps 28 = .ok (.getfield 10, 3) := by decide +kernel
theorem dX11_steps_31 : decode cX11_steps 31 = .ok (.iload_n 2, 1) := by decide +kernel
theorem dX11_steps_32 : decode cX11_steps 32 = .ok (.invokevirtual 78, 3) := by decide +kernel
theorem dX11_steps_35 : decode cX11_steps 35 = .ok (.invokestatic 140, 3) := by decide +kernel
theorem dX11_steps_38 : decode cX11_steps 38 = .ok (.invokevirtual 151, 3) := by decide +kernel
theorem dX11_steps_41 : decode cX11_steps 41 = .ok (.ireturn, 1) := by decide +kernel
set_option maxRecDepth 20000 in
theorem ggX11_falls_X9_hasDenier : GoodIn wsX11_falls wsX9_hasDenier := goodIn_r _ [6, 7, 40, 41, 42, 43, 44, 45, 46, 47, 48, 49] (by decide +kernel) (by decide +kernel)
set_option maxRecDepth 20000 in
theorem gX11_falls_X9_hasDenier : GoodIn wsX11_falls (wsV RX11 130 RX9 yX9_hasDenier wsX9_hasDenier) := goodIn_app (goodIn_of _ (by decide +kernel)) ggX11_falls_X9_hasDenier
set_option maxRecDepth 20000 in
theorem ggX11_falls_X9_ruins : GoodIn wsX11_falls wsX9_ruins := goodIn_r _ [11, 12, 13, 14, 15, 5, 16, 17, 18, 19, 20, 21, 22, 23, 24, 25, 26, 27, 28, 29, 30, 31, 32, 40, 41, 42, 43, 44, 45, 46, 47, 48, 49] (by decide +kernel) (by decide +kernel)
set_option maxRecDepth 20000 in
theorem gX11_falls_X9_ruins : GoodIn wsX11_falls (wsV RX11 133 RX9 yX9_ruins wsX9_ruins) := goodIn_app (goodIn_of _ (by decide +kernel)) ggX11_falls_X9_ruins
theorem dX11_falls_0 : decode cX11_falls 0 = .ok (.aload_n 0, 1) := by decide +kernel
theorem dX11_falls_1 : decode cX11_falls 1 = .ok (.getfield 10, 3) := by decide +kernel
theorem dX11_falls_4 : decode cX11_falls 4 = .ok (.iload_n 1, 1) := by decide +kernel
theorem dX11_falls_5 : decode cX11_falls 5 = .ok (.invokevirtual 130, 3) := by decide +kernel
theorem dX11_falls_8 : decode cX11_falls 8 = .ok (.ifCond .eq 14, 3) := by decide +kernel
theorem dX11_falls_11 : decode cX11_falls 11 = .ok (.aload_n 0, 1) := by decide +kernel
theorem dX11_falls_12 : decode cX11_falls 12 = .ok (.getfield 10, 3) := by decide +kernel
theorem dX11_falls_15 : decode cX11_falls 15 = .ok (.iload_n 1, 1) := by decide +kernel
theorem dX11_falls_16 : decode cX11_falls 16 = .ok (.invokevirtual 133, 3) := by decide +kernel
theorem dX11_falls_19 : decode cX11_falls 19 = .ok (.goto 4, 3) := by decide +kernel
theorem dX11_falls_22 : decode cX11_falls 22 = .ok (.iconst (-1), 1) := by decide +kernel
theorem dX11_falls_23 : decode cX11_falls 23 = .ok (.ireturn, 1) := by decide +kernel
set_option maxRecDepth 20000 in
theorem ggX11_lonely_X9_allowedTo : GoodIn wsX11_lonely wsX9_allowedTo := goodIn_r _ [6, 7, 8, 9, 10, 5, 11, 12, 13, 14, 15, 16, 17, 18, 19, 20, 21, 22, 23, 24, 25, 26, 27, 28, 29, 30, 31, 32, 33, 34, 35, 36, 37, 38, 39, 40, 41, 42, 43, 44, 45, 46, 47, 48, 49, 50, 51, 52, 53, 54, 55, 56, 57, 58, 59, 60, 61, 62, 63, 64, 65, 66, 67, 68, 69, 70, 71, 72, 73, 74, 75, 76, 77, 78, 79, 80, 81, 82, 83, 84, 85, 86, 87, 88, 89, 90, 91, 92, 93, 94, 95, 96, 97, 98, 110, 111, 112, 113, 114, 115, 116, 117, 118, 119, 120, 121, 122, 123, 124, 125, 126, 127, 128, 129, 130, 131, 132, 133, 134, 135] (by decide +kernel) (by decide +kernel)
set_option maxRecDepth 20000 in
theorem gX11_lonely_X9_allowedTo : GoodIn wsX11_lonely (wsV RX11 145 RX9 yX9_allowedTo wsX9_allowedTo) := goodIn_app (goodIn_of _ (by decide +kernel)) ggX11_lonely_X9_allowedTo
set_option maxRecDepth 20000 in
theorem ggX11_lonely_X9_untrue : GoodIn wsX11_lonely wsX9_untrue := goodIn_r _ [102, 7, 12, 110, 111, 112, 113, 114, 115, 116, 117, 118, 119] (by decide +kernel) (by decide +kernel)
set_option maxRecDepth 20000 in
theorem gX11_lonely_X9_untrue : GoodIn wsX11_lonely (wsV RX11 154 RX9 yX9_untrue wsX9_untrue) := goodIn_app (goodIn_of _ (by decide +kernel)) ggX11_lonely_X9_untrue
theorem dX11_lonely_0 : decode cX11_lonely 0 = .ok (.iconst 0, 1) := by decide +kernel
theorem dX11_lonely_1 : decode cX11_lonely 1 = .ok (.istore_n 1, 1) := by decide +kernel
theorem dX11_lonely_2 : decode cX11_lonely 2 = .ok (.iconst 0, 1) := by decide +kernel
theorem dX11_lonely_3 : decode cX11_lonely 3 = .ok (.istore_n 2, 1) := by decide +kernel
theorem dX11_lonely_4 : decode cX11_lonely 4 = .ok (.iload_n 2, 1) := by decide +kernel
theorem dX11_lonely_5 : decode cX11_lonely 5 = .ok (.bipush 6, 2) := by decide +kernel
theorem dX11_lonely_7 : decode cX11_lonely 7 = .ok (.if_icmp .ge 20, 3) := by decide +kernel
theorem dX11_lonely_10 : decode cX11_lonely 10 = .ok (.iload_n 1, 1) := by decide +kernel
theorem dX11_lonely_11 : decode cX11_lonely 11 = .ok (.aload_n 0, 1) := by decide +kernel
theorem dX11_lonely_12 : decode cX11_lonely 12 = .ok (.getfield 10, 3) := by decide +kernel
theorem dX11_lonely_15 : decode cX11_lonely 15 = .ok (.iload_n 2, 1) := by decide +kernel
theorem dX11_lonely_16 : decode cX11_lonely 16 = .ok (.invokevirtual 145, 3) := by decide +kernel
theorem dX11_lonely_19 : decode cX11_lonely 19 = .ok (.ior, 1) := by decide +kernel
theorem dX11_lonely_20 : decode cX11_lonely 20 = .ok (.istore_n 1, 1) := by decide +kernel
theorem dX11_lonely_21 : decode cX11_lonely 21 = .ok (.iinc 2 1, 3) := by decide +kernel
theorem dX11_lonely_24 : decode cX11_lonely 24 = .ok (.goto (-20), 3) := by decide +kernel
theorem dX11_lonely_27 : decode cX11_lonely 27 = .ok (.aload_n 0, 1) := by decide +kernel
theorem dX11_lonely_28 : decode cX11_lonely 28 = .ok (.getfield 10, 3) := by decide +kernel
theorem dX11_lonely_31 : decode cX11_lonely 31 = .ok (.invokevirtual 154, 3) := by decide +kernel
theorem dX11_lonely_34 : decode cX11_lonely 34 = .ok (.iload_n 1, 1) := by decide +kernel
theorem dX11_lonely_35 : decode cX11_lonely 35 = .ok (.iconst (-1), 1) := by decide +kernel
theorem dX11_lonely_36 : decode cX11_lonely 36 = .ok (.ixor, 1) := by decide +kernel
theorem dX11_lonely_37 : decode cX11_lonely 37 = .ok (.iand, 1) := by decide +kernel
theorem dX11_lonely_38 : decode cX11_lonely 38 = .ok (.ireturn, 1) := by decide +kernel
set_option maxRecDepth 20000 in
theorem ggX11_ever_X4_look : GoodIn wsX11_ever wsX4_look := goodIn_r _ [7, 8, 9, 10, 11, 12, 13, 14, 15, 16, 17, 18, 19, 20, 21, 22, 23, 24, 25, 26, 27, 28, 29, 30, 31, 32, 33, 34, 35, 6, 36, 37, 38, 39, 40, 41, 42, 43, 44, 45, 46, 47, 48, 49, 50, 51, 52, 53, 54, 55, 56, 57, 58, 59, 60, 61, 62, 63, 64, 65, 66, 67, 68, 69, 70, 71, 72, 73, 74, 75, 76, 77, 78, 79, 80, 81, 82, 83, 84, 85, 86, 87, 88, 89, 90, 91, 92, 93, 94, 95, 96, 97, 98, 99, 100, 101, 102, 103, 104, 105, 106, 107, 108, 109, 110, 111, 112, 113, 114, 115, 116, 117, 118, 119, 120, 121, 122, 123, 124, 125, 126, 127, 128, 129, 130, 131, 132, 133, 134, 135, 136, 137, 138, 139, 140, 141, 142, 143, 144, 145, 146, 147, 148, 149, 150, 151, 152, 153, 154, 155, 156, 157, 158, 159, 160, 161, 162, 163, 164, 182, 183, 184, 185, 186, 187, 188, 189, 190, 191, 192, 193, 194, 195, 196, 197, 198, 199, 200, 201, 202, 203, 204, 205, 206, 207, 208, 209, 210, 211] (by decide +kernel) (by decide +kernel)
set_option maxRecDepth 20000 in
theorem gX11_ever_X4_look : GoodIn wsX11_ever (wsV RX11 157 RX4 yX4_look wsX4_look) := goodIn_app (goodIn_of _ (by decide +kernel)) ggX11_ever_X4_look
set_option maxRecDepth 20000 in
theorem ggX11_ever_X4_reachable : GoodIn wsX11_ever wsX4_reachable := goodIn_r _ [168, 8, 169, 170, 171, 6, 172, 9, 37, 20, 21, 22, 102, 103, 173, 174, 192, 193, 194, 195] (by decide +kernel) (by decide +kernel)
set_option maxRecDepth 20000 in
theorem gX11_ever_X4_reachable : GoodIn wsX11_ever (wsV RX11 161 RX4 yX4_reachable wsX4_reachable) := goodIn_app (goodIn_of _ (by decide +kernel)) ggX11_ever_X4_reachable
theorem dX11_ever_0 : decode cX11_ever 0 = .ok (.aload_n 0, 1) := by decide +kernel
theorem dX11_ever_1 : decode cX11_ever 1 = .ok (.getfield 25, 3) := by decide +kernel
theorem dX11_ever_4 : decode cX11_ever 4 = .ok (.aload_n 0, 1) := by decide +kernel
theorem dX11_ever_5 : decode cX11_ever 5 = .ok (.getfield 10, 3) := by decide +kernel
theorem dX11_ever_8 : decode cX11_ever 8 = .ok (.aconst_null, 1) := by decide +kernel
theorem dX11_ever_9 : decode cX11_ever 9 = .ok (.invokevirtual 157, 3) := by decide +kernel
theorem dX11_ever_12 : decode cX11_ever 12 = .ok (.aload_n 0, 1) := by decide +kernel
theorem dX11_ever_13 : decode cX11_ever 13 = .ok (.getfield 25, 3) := by decide +kernel
theorem dX11_ever_16 : decode cX11_ever 16 = .ok (.invokevirtual 161, 3) := by decide +kernel
theorem dX11_ever_19 : decode cX11_ever 19 = .ok (.ireturn, 1) := by decide +kernel
set_option maxRecDepth 20000 in
theorem ggX11_soonest_X9_hasSentence : GoodIn wsX11_soonest wsX9_hasSentence := goodIn_r _ [7, 8, 200, 201, 202, 203, 204, 205, 206, 207, 208, 209] (by decide +kernel) (by decide +kernel)
set_option maxRecDepth 20000 in
theorem gX11_soonest_X9_hasSentence : GoodIn wsX11_soonest (wsV RX11 75 RX9 yX9_hasSentence wsX9_hasSentence) := goodIn_app (goodIn_of _ (by decide +kernel)) ggX11_soonest_X9_hasSentence
set_option maxRecDepth 20000 in
theorem ggX11_soonest_X4_look : GoodIn wsX11_soonest wsX4_look := goodIn_r _ [13, 14, 15, 16, 17, 18, 19, 20, 21, 22, 6, 23, 24, 25, 26, 27, 28, 29, 30, 31, 32, 33, 34, 35, 36, 37, 38, 39, 40, 12, 41, 42, 43, 44, 45, 46, 8, 47, 48, 49, 50, 51, 52, 53, 54, 55, 56, 57, 58, 59, 60, 61, 62, 63, 64, 65, 66, 67, 68, 69, 70, 71, 72, 73, 74, 75, 76, 77, 78, 79, 80, 81, 82, 83, 84, 85, 86, 87, 88, 89, 90, 91, 92, 93, 94, 95, 96, 97, 98, 99, 100, 101, 102, 103, 104, 105, 106, 107, 108, 109, 110, 111, 112, 113, 114, 115, 116, 117, 118, 119, 120, 121, 122, 123, 124, 125, 126, 127, 128, 129, 130, 131, 132, 133, 134, 135, 136, 137, 138, 139, 140, 141, 142, 143, 144, 145, 146, 147, 148, 149, 150, 151, 152, 153, 154, 155, 156, 157, 158, 159, 160, 161, 162, 163, 164, 165, 166, 167, 168, 200, 201, 202, 203, 204, 205, 206, 207, 208, 209, 210, 211, 212, 213, 214, 215, 216, 217, 218, 219, 220, 221, 222, 223, 224, 225, 226, 227, 228, 229] (by decide +kernel) (by decide +kernel)
set_option maxRecDepth 20000 in
theorem gX11_soonest_X4_look : GoodIn wsX11_soonest (wsV RX11 157 RX4 yX4_look wsX4_look) := goodIn_app (goodIn_of _ (by decide +kernel)) ggX11_soonest_X4_look
set_option maxRecDepth 20000 in
theorem ggX11_soonest_X11_bit : GoodIn wsX11_soonest wsX11_bit := goodIn_r _ [171] (by decide +kernel) (by decide +kernel)
set_option maxRecDepth 20000 in
theorem gX11_soonest_X11_bit : GoodIn wsX11_soonest (va_wsS RX11 164 yX11_bit wsX11_bit) := goodIn_app (goodIn_of _ (by decide +kernel)) ggX11_soonest_X11_bit
set_option maxRecDepth 20000 in
theorem ggX11_soonest_X4_fewestDenials : GoodIn wsX11_soonest wsX4_fewestDenials := goodIn_r _ [175, 14, 176, 177, 178, 12, 179, 180, 106, 26, 107, 181, 182, 183, 184, 185, 186, 187, 188, 15, 42, 25, 27, 170, 171, 189, 190, 191, 192, 210, 211, 212, 213] (by decide +kernel) (by decide +kernel)
set_option maxRecDepth 20000 in
theorem gX11_soonest_X4_fewestDenials : GoodIn wsX11_soonest (wsV RX11 167 RX4 yX4_fewestDenials wsX4_fewestDenials) := goodIn_app (goodIn_of _ (by decide +kernel)) ggX11_soonest_X4_fewestDenials
theorem dX11_soonest_0 : decode cX11_soonest 0 = .ok (.aload_n 0, 1) := by decide +kernel
theorem dX11_soonest_1 : decode cX11_soonest 1 = .ok (.getfield 10, 3) := by decide +kernel
theorem dX11_soonest_4 : decode cX11_soonest 4 = .ok (.iload_n 1, 1) := by decide +kernel
theorem dX11_soonest_5 : decode cX11_soonest 5 = .ok (.invokevirtual 75, 3) := by decide +kernel
theorem dX11_soonest_8 : decode cX11_soonest 8 = .ok (.ifCond .ne 5, 3) := by decide +kernel
theorem dX11_soonest_11 : decode cX11_soonest 11 = .ok (.iconst (-1), 1) := by decide +kernel
theorem dX11_soonest_12 : decode cX11_soonest 12 = .ok (.ireturn, 1) := by decide +kernel
theorem dX11_soonest_13 : decode cX11_soonest 13 = .ok (.aload_n 0, 1) := by decide +kernel
theorem dX11_soonest_14 : decode cX11_soonest 14 = .ok (.getfield 25, 3) := by decide +kernel
theorem dX11_soonest_17 : decode cX11_soonest 17 = .ok (.aload_n 0, 1) := by decide +kernel
theorem dX11_soonest_18 : decode cX11_soonest 18 = .ok (.getfield 10, 3) := by decide +kernel
theorem dX11_soonest_21 : decode cX11_soonest 21 = .ok (.aconst_null, 1) := by decide +kernel
theorem dX11_soonest_22 : decode cX11_soonest 22 = .ok (.invokevirtual 157, 3) := by decide +kernel
theorem dX11_soonest_25 : decode cX11_soonest 25 = .ok (.aload_n 0, 1) := by decide +kernel
theorem dX11_soonest_26 : decode cX11_soonest 26 = .ok (.getfield 25, 3) := by decide +kernel
theorem dX11_soonest_29 : decode cX11_soonest 29 = .ok (.iload_n 1, 1) := by decide +kernel
theorem dX11_soonest_30 : decode cX11_soonest 30 = .ok (.invokestatic 164, 3) := by decide +kernel
theorem dX11_soonest_33 : decode cX11_soonest 33 = .ok (.invokevirtual 167, 3) := by decide +kernel
theorem dX11_soonest_36 : decode cX11_soonest 36 = .ok (.ireturn, 1) := by decide +kernel
set_option maxRecDepth 20000 in
theorem ggX11_first_X9_hasSentence : GoodIn wsX11_first wsX9_hasSentence := goodIn_r _ [7, 8, 204, 205, 206, 207, 208, 209, 210, 211, 212, 213] (by decide +kernel) (by decide +kernel)
set_option maxRecDepth 20000 in
theorem gX11_first_X9_hasSentence : GoodIn wsX11_first (wsV RX11 75 RX9 yX9_hasSentence wsX9_hasSentence) := goodIn_app (goodIn_of _ (by decide +kernel)) ggX11_first_X9_hasSentence
set_option maxRecDepth 20000 in
theorem ggX11_first_X4_look : GoodIn wsX11_first wsX4_look := goodIn_r _ [13, 14, 15, 16, 17, 18, 19, 20, 21, 22, 6, 23, 24, 25, 26, 27, 28, 29, 30, 31, 32, 33, 34, 35, 36, 37, 38, 39, 40, 12, 41, 42, 43, 44, 45, 46, 8, 47, 48, 49, 50, 51, 52, 53, 54, 55, 56, 57, 58, 59, 60, 61, 62, 63, 64, 65, 66, 67, 68, 69, 70, 71, 72, 73, 74, 75, 76, 77, 78, 79, 80, 81, 82, 83, 84, 85, 86, 87, 88, 89, 90, 91, 92, 93, 94, 95, 96, 97, 98, 99, 100, 101, 102, 103, 104, 105, 106, 107, 108, 109, 110, 111, 112, 113, 114, 115, 116, 117, 118, 119, 120, 121, 122, 123, 124, 125, 126, 127, 128, 129, 130, 131, 132, 133, 134, 135, 136, 137, 138, 139, 140, 141, 142, 143, 144, 145, 146, 147, 148, 149, 150, 151, 152, 153, 154, 155, 156, 157, 158, 159, 160, 161, 162, 163, 164, 165, 166, 167, 168, 204, 205, 206, 207, 208, 209, 210, 211, 212, 213, 214, 215, 216, 217, 218, 219, 220, 221, 222, 223, 224, 225, 226, 227, 228, 229, 230, 231, 232, 233] (by decide +kernel) (by decide +kernel)
set_option maxRecDepth 20000 in
theorem gX11_first_X4_look : GoodIn wsX11_first (wsV RX11 157 RX4 yX4_look wsX4_look) := goodIn_app (goodIn_of _ (by decide +kernel)) ggX11_first_X4_look
set_option maxRecDepth 20000 in
theorem ggX11_first_X11_bit : GoodIn wsX11_first wsX11_bit := goodIn_r _ [171] (by decide +kernel) (by decide +kernel)
set_option maxRecDepth 20000 in
theorem gX11_first_X11_bit : GoodIn wsX11_first (va_wsS RX11 164 yX11_bit wsX11_bit) := goodIn_app (goodIn_of _ (by decide +kernel)) ggX11_first_X11_bit
set_option maxRecDepth 20000 in
theorem ggX11_first_X4_beginning : GoodIn wsX11_first wsX4_beginning := goodIn_r _ [175, 14, 176, 177, 178, 12, 179, 180, 181, 182, 183, 184, 106, 26, 107, 185, 186, 187, 188, 189, 190, 191, 192, 15, 42, 25, 27, 170, 171, 193, 194, 195, 196, 214, 215, 216, 217] (by decide +kernel) (by decide +kernel)
set_option maxRecDepth 20000 in
theorem gX11_first_X4_beginning : GoodIn wsX11_first (wsV RX11 170 RX4 yX4_beginning wsX4_beginning) := goodIn_app (goodIn_of _ (by decide +kernel)) ggX11_first_X4_beginning
theorem dX11_first_0 : decode cX11_first 0 = .ok (.aload_n 0, 1) := by decide +kernel
theorem dX11_first_1 : decode cX11_first 1 = .ok (.getfield 10, 3) := by decide +kernel
theorem dX11_first_4 : decode cX11_first 4 = .ok (.iload_n 1, 1) := by decide +kernel
theorem dX11_first_5 : decode cX11_first 5 = .ok (.invokevirtual 75, 3) := by decide +kernel
theorem dX11_first_8 : decode cX11_first 8 = .ok (.ifCond .ne 5, 3) := by decide +kernel
theorem dX11_first_11 : decode cX11_first 11 = .ok (.iconst (-1), 1) := by decide +kernel
theorem dX11_first_12 : decode cX11_first 12 = .ok (.ireturn, 1) := by decide +kernel
theorem dX11_first_13 : decode cX11_first 13 = .ok (.aload_n 0, 1) := by decide +kernel
theorem dX11_first_14 : decode cX11_first 14 = .ok (.getfield 25, 3) := by decide +kernel
theorem dX11_first_17 : decode cX11_first 17 = .ok (.aload_n 0, 1) := by decide +kernel
theorem dX11_first_18 : decode cX11_first 18 = .ok (.getfield 10, 3) := by decide +kernel
theorem dX11_first_21 : decode cX11_first 21 = .ok (.aconst_null, 1) := by decide +kernel
theorem dX11_first_22 : decode cX11_first 22 = .ok (.invokevirtual 157, 3) := by decide +kernel
theorem dX11_first_25 : decode cX11_first 25 = .ok (.aload_n 0, 1) := by decide +kernel
theorem dX11_first_26 : decode cX11_first 26 = .ok (.getfield 25, 3) := by decide +kernel
theorem dX11_first_29 : decode cX11_first 29 = .ok (.iload_n 1, 1) := by decide +kernel
theorem dX11_first_30 : decode cX11_first 30 = .ok (.invokestatic 164, 3) := by decide +kernel
theorem dX11_first_33 : decode cX11_first 33 = .ok (.invokevirtual 170, 3) := by decide +kernel
theorem dX11_first_36 : decode cX11_first 36 = .ok (.ireturn, 1) := by decide +kernel
set_option maxRecDepth 20000 in
theorem ggX11_easiest_X9_hasSentence : GoodIn wsX11_easiest wsX9_hasSentence := goodIn_r _ [7, 8, 200, 201, 202, 203, 204, 205, 206, 207, 208, 209] (by decide +kernel) (by decide +kernel)
set_option maxRecDepth 20000 in
theorem gX11_easiest_X9_hasSentence : GoodIn wsX11_easiest (wsV RX11 75 RX9 yX9_hasSentence wsX9_hasSentence) := goodIn_app (goodIn_of _ (by decide +kernel)) ggX11_easiest_X9_hasSentence
set_option maxRecDepth 20000 in
theorem ggX11_easiest_X4_look : GoodIn wsX11_easiest wsX4_look := goodIn_r _ [13, 14, 15, 16, 17, 18, 19, 20, 21, 22, 6, 23, 24, 25, 26, 27, 28, 29, 30, 31, 32, 33, 34, 35, 36, 37, 38, 39, 40, 12, 41, 42, 43, 44, 45, 46, 8, 47, 48, 49, 50, 51, 52, 53, 54, 55, 56, 57, 58, 59, 60, 61, 62, 63, 64, 65, 66, 67, 68, 69, 70, 71, 72, 73, 74, 75, 76, 77, 78, 79, 80, 81, 82, 83, 84, 85, 86, 87, 88, 89, 90, 91, 92, 93, 94, 95, 96, 97, 98, 99, 100, 101, 102, 103, 104, 105, 106, 107, 108, 109, 110, 111, 112, 113, 114, 115, 116, 117, 118, 119, 120, 121, 122, 123, 124, 125, 126, 127, 128, 129, 130, 131, 132, 133, 134, 135, 136, 137, 138, 139, 140, 141, 142, 143, 144, 145, 146, 147, 148, 149, 150, 151, 152, 153, 154, 155, 156, 157, 158, 159, 160, 161, 162, 163, 164, 165, 166, 167, 168, 200, 201, 202, 203, 204, 205, 206, 207, 208, 209, 210, 211, 212, 213, 214, 215, 216, 217, 218, 219, 220, 221, 222, 223, 224, 225, 226, 227, 228, 229] (by decide +kernel) (by decide +kernel)
set_option maxRecDepth 20000 in
theorem gX11_easiest_X4_look : GoodIn wsX11_easiest (wsV RX11 157 RX4 yX4_look wsX4_look) := goodIn_app (goodIn_of _ (by decide +kernel)) ggX11_easiest_X4_look
set_option maxRecDepth 20000 in
theorem ggX11_easiest_X11_bit : GoodIn wsX11_easiest wsX11_bit := goodIn_r _ [171] (by decide +kernel) (by decide +kernel)
set_option maxRecDepth 20000 in
theorem gX11_easiest_X11_bit : GoodIn wsX11_easiest (va_wsS RX11 164 yX11_bit wsX11_bit) := goodIn_app (goodIn_of _ (by decide +kernel)) ggX11_easiest_X11_bit
set_option maxRecDepth 20000 in
theorem ggX11_easiest_X4_fewestSteps : GoodIn wsX11_easiest wsX4_fewestSteps := goodIn_r _ [175, 14, 176, 177, 178, 12, 179, 180, 106, 26, 107, 181, 182, 183, 184, 185, 186, 187, 188, 15, 42, 25, 27, 170, 171, 189, 190, 191, 192, 210, 211, 212, 213] (by decide +kernel) (by decide +kernel)
set_option maxRecDepth 20000 in
theorem gX11_easiest_X4_fewestSteps : GoodIn wsX11_easiest (wsV RX11 173 RX4 yX4_fewestSteps wsX4_fewestSteps) := goodIn_app (goodIn_of _ (by decide +kernel)) ggX11_easiest_X4_fewestSteps
theorem dX11_easiest_0 : decode cX11_easiest 0 = .ok (.aload_n 0, 1) := by decide +kernel
theorem dX11_easiest_1 : decode cX11_easiest 1 = .ok (.getfield 10, 3) := by decide +kernel
theorem dX11_easiest_4 : decode cX11_easiest 4 = .ok (.iload_n 1, 1) := by decide +kernel
theorem dX11_easiest_5 : decode cX11_easiest 5 = .ok (.invokevirtual 75, 3) := by decide +kernel
theorem dX11_easiest_8 : decode cX11_easiest 8 = .ok (.ifCond .ne 5, 3) := by decide +kernel
theorem dX11_easiest_11 : decode cX11_easiest 11 = .ok (.iconst (-1), 1) := by decide +kernel
theorem dX11_easiest_12 : decode cX11_easiest 12 = .ok (.ireturn, 1) := by decide +kernel
theorem dX11_easiest_13 : decode cX11_easiest 13 = .ok (.aload_n 0, 1) := by decide +kernel
theorem dX11_easiest_14 : decode cX11_easiest 14 = .ok (.getfield 25, 3) := by decide +kernel
theorem dX11_easiest_17 : decode cX11_easiest 17 = .ok (.aload_n 0, 1) := by decide +kernel
theorem dX11_easiest_18 : decode cX11_easiest 18 = .ok (.getfield 10, 3) := by decide +kernel
theorem dX11_easiest_21 : decode cX11_easiest 21 = .ok (.aconst_null, 1) := by decide +kernel
theorem dX11_easiest_22 : decode cX11_easiest 22 = .ok (.invokevirtual 157, 3) := by decide +kernel
theorem dX11_easiest_25 : decode cX11_easiest 25 = .ok (.aload_n 0, 1) := by decide +kernel
theorem dX11_easiest_26 : decode cX11_easiest 26 = .ok (.getfield 25, 3) := by decide +kernel
theorem dX11_easiest_29 : decode cX11_easiest 29 = .ok (.iload_n 1, 1) := by decide +kernel
theorem dX11_easiest_30 : decode cX11_easiest 30 = .ok (.invokestatic 164, 3) := by decide +kernel
theorem dX11_easiest_33 : decode cX11_easiest 33 = .ok (.invokevirtual 173, 3) := by decide +kernel
theorem dX11_easiest_36 : decode cX11_easiest 36 = .ok (.ireturn, 1) := by decide +kernel
set_option maxRecDepth 20000 in
theorem ggX11_all_X4_look : GoodIn wsX11_all wsX4_look := goodIn_r _ [7, 8, 9, 10, 11, 12, 13, 14, 15, 16, 17, 18, 19, 20, 21, 22, 23, 24, 25, 26, 27, 28, 29, 30, 31, 32, 33, 34, 35, 6, 36, 37, 38, 39, 40, 41, 42, 43, 44, 45, 46, 47, 48, 49, 50, 51, 52, 53, 54, 55, 56, 57, 58, 59, 60, 61, 62, 63, 64, 65, 66, 67, 68, 69, 70, 71, 72, 73, 74, 75, 76, 77, 78, 79, 80, 81, 82, 83, 84, 85, 86, 87, 88, 89, 90, 91, 92, 93, 94, 95, 96, 97, 98, 99, 100, 101, 102, 103, 104, 105, 106, 107, 108, 109, 110, 111, 112, 113, 114, 115, 116, 117, 118, 119, 120, 121, 122, 123, 124, 125, 126, 127, 128, 129, 130, 131, 132, 133, 134, 135, 136, 137, 138, 139, 140, 141, 142, 143, 144, 145, 146, 147, 148, 149, 150, 151, 152, 153, 154, 155, 156, 157, 158, 159, 160, 161, 162, 163, 164, 199, 200, 201, 202, 203, 204, 205, 206, 207, 208, 209, 210, 211, 212, 213, 214, 215, 216, 217, 218, 219, 220, 221, 222, 223, 224, 225, 226, 227, 228] (by decide +kernel) (by decide +kernel)
set_option maxRecDepth 20000 in
theorem gX11_all_X4_look : GoodIn wsX11_all (wsV RX11 157 RX4 yX4_look wsX4_look) := goodIn_app (goodIn_of _ (by decide +kernel)) ggX11_all_X4_look
set_option maxRecDepth 20000 in
theorem ggX11_all_X4_reachable : GoodIn wsX11_all wsX4_reachable := goodIn_r _ [168, 8, 169, 170, 171, 6, 172, 9, 37, 20, 21, 22, 102, 103, 173, 174, 209, 210, 211, 212] (by decide +kernel) (by decide +kernel)
set_option maxRecDepth 20000 in
theorem gX11_all_X4_reachable : GoodIn wsX11_all (wsV RX11 161 RX4 yX4_reachable wsX4_reachable) := goodIn_app (goodIn_of _ (by decide +kernel)) ggX11_all_X4_reachable
set_option maxRecDepth 20000 in
theorem ggX11_all_X4_fewestSteps : GoodIn wsX11_all wsX4_fewestSteps := goodIn_r _ [178, 8, 179, 180, 181, 6, 182, 183, 102, 21, 103, 184, 185, 186, 187, 169, 170, 171, 172, 9, 37, 20, 22, 173, 174, 188, 189, 190, 191, 209, 210, 211, 212] (by decide +kernel) (by decide +kernel)
set_option maxRecDepth 20000 in
theorem gX11_all_X4_fewestSteps : GoodIn wsX11_all (wsV RX11 173 RX4 yX4_fewestSteps wsX4_fewestSteps) := goodIn_app (goodIn_of _ (by decide +kernel)) ggX11_all_X4_fewestSteps
theorem dX11_all_0 : decode cX11_all 0 = .ok (.aload_n 0, 1) := by decide +kernel
theorem dX11_all_1 : decode cX11_all 1 = .ok (.getfield 25, 3) := by decide +kernel
theorem dX11_all_4 : decode cX11_all 4 = .ok (.aload_n 0, 1) := by decide +kernel
theorem dX11_all_5 : decode cX11_all 5 = .ok (.getfield 10, 3) := by decide +kernel
theorem dX11_all_8 : decode cX11_all 8 = .ok (.aconst_null, 1) := by decide +kernel
theorem dX11_all_9 : decode cX11_all 9 = .ok (.invokevirtual 157, 3) := by decide +kernel
theorem dX11_all_12 : decode cX11_all 12 = .ok (.aload_n 0, 1) := by decide +kernel
theorem dX11_all_13 : decode cX11_all 13 = .ok (.getfield 25, 3) := by decide +kernel
theorem dX11_all_16 : decode cX11_all 16 = .ok (.aload_n 0, 1) := by decide +kernel
theorem dX11_all_17 : decode cX11_all 17 = .ok (.getfield 25, 3) := by decide +kernel
theorem dX11_all_20 : decode cX11_all 20 = .ok (.invokevirtual 161, 3) := by decide +kernel
theorem dX11_all_23 : decode cX11_all 23 = .ok (.invokevirtual 173, 3) := by decide +kernel
theorem dX11_all_26 : decode cX11_all 26 = .ok (.ireturn, 1) := by decide +kernel
set_option maxRecDepth 20000 in
theorem ggX11_atOnce_X4_together : GoodIn wsX11_atOnce wsX4_together := goodIn_r _ [7, 8, 9, 10, 11, 12, 13, 14, 15, 16, 17, 18, 19, 20, 21, 22, 23, 24, 25, 26, 27, 28, 29, 30, 31, 32, 33, 34, 35, 36, 37, 38, 39, 40, 41, 42, 43, 44, 45, 46, 47, 48, 49, 50, 51, 52, 53, 54, 55, 56, 57, 58, 59, 60, 61, 62, 63, 64, 65, 66, 67, 68, 69, 70, 71, 72, 73, 74, 75, 76, 77, 78, 79, 80, 81, 82, 83, 84, 85, 86, 87, 88, 89, 90, 91, 92, 93, 94, 95, 96, 97, 98, 99, 100, 101, 102, 103, 104, 105, 106, 107, 108, 109, 110, 111, 112, 113, 114, 115, 116, 117, 118, 119, 120, 121, 122, 123, 124, 125, 126, 127, 128, 129, 130, 131, 132, 133, 134, 135, 136, 137, 138, 139, 140, 141, 142, 143, 144, 145, 146, 147, 148, 149, 150, 151, 152, 153, 154, 155, 156, 157, 158, 159, 160, 161, 162, 163, 164, 165, 166, 167, 168, 169, 170, 171, 172, 173, 174, 6, 175, 176, 177, 178, 179, 180, 181, 182, 190, 191, 192, 193, 194, 195, 196, 197, 198, 199, 200, 201, 202, 203, 204, 205, 206, 207, 208, 209, 210, 211, 212, 213, 214, 215, 216, 217, 218, 219] (by decide +kernel) (by decide +kernel)
set_option maxRecDepth 20000 in
theorem gX11_atOnce_X4_together : GoodIn wsX11_atOnce (wsV RX11 176 RX4 yX4_together wsX4_together) := goodIn_app (goodIn_of _ (by decide +kernel)) ggX11_atOnce_X4_together
theorem dX11_atOnce_0 : decode cX11_atOnce 0 = .ok (.iload_n 1, 1) := by decide +kernel
theorem dX11_atOnce_1 : decode cX11_atOnce 1 = .ok (.ifCond .eq 10, 3) := by decide +kernel
theorem dX11_atOnce_4 : decode cX11_atOnce 4 = .ok (.iload_n 1, 1) := by decide +kernel
theorem dX11_atOnce_5 : decode cX11_atOnce 5 = .ok (.iconst 1, 1) := by decide +kernel
theorem dX11_atOnce_6 : decode cX11_atOnce 6 = .ok (.if_icmp .eq 5, 3) := by decide +kernel
theorem dX11_atOnce_9 : decode cX11_atOnce 9 = .ok (.iconst (-1), 1) := by decide +kernel
theorem dX11_atOnce_10 : decode cX11_atOnce 10 = .ok (.ireturn, 1) := by decide +kernel
theorem dX11_atOnce_11 : decode cX11_atOnce 11 = .ok (.aload_n 0, 1) := by decide +kernel
theorem dX11_atOnce_12 : decode cX11_atOnce 12 = .ok (.getfield 25, 3) := by decide +kernel
theorem dX11_atOnce_15 : decode cX11_atOnce 15 = .ok (.aload_n 0, 1) := by decide +kernel
theorem dX11_atOnce_16 : decode cX11_atOnce 16 = .ok (.getfield 10, 3) := by decide +kernel
theorem dX11_atOnce_19 : decode cX11_atOnce 19 = .ok (.iload_n 1, 1) := by decide +kernel
theorem dX11_atOnce_20 : decode cX11_atOnce 20 = .ok (.iconst 1, 1) := by decide +kernel
theorem dX11_atOnce_21 : decode cX11_atOnce 21 = .ok (.if_icmp .ne 7, 3) := by decide +kernel
theorem dX11_atOnce_24 : decode cX11_atOnce 24 = .ok (.iconst 1, 1) := by decide +kernel
theorem dX11_atOnce_25 : decode cX11_atOnce 25 = .ok (.goto 4, 3) := by decide +kernel
theorem dX11_atOnce_28 : decode cX11_atOnce 28 = .ok (.iconst 0, 1) := by decide +kernel
theorem dX11_atOnce_29 : decode cX11_atOnce 29 = .ok (.invokevirtual 176, 3) := by decide +kernel
theorem dX11_atOnce_32 : decode cX11_atOnce 32 = .ok (.ireturn, 1) := by decide +kernel
set_option maxRecDepth 20000 in
theorem ggX11_hire_X11_isFigure : GoodIn wsX11_hire wsX11_isFigure := goodIn_r _ [6] (by decide +kernel) (by decide +kernel)
set_option maxRecDepth 20000 in
theorem gX11_hire_X11_isFigure : GoodIn wsX11_hire (va_wsS RX11 180 yX11_isFigure wsX11_isFigure) := goodIn_app (goodIn_of _ (by decide +kernel)) ggX11_hire_X11_isFigure
set_option maxRecDepth 20000 in
theorem ggX11_hire_X11_newDenier : GoodIn wsX11_hire wsX11_newDenier := goodIn_r _ [9, 10, 11, 12, 13, 14, 15, 16, 17, 18, 19, 20, 21, 22, 23, 24, 25, 26, 27, 28, 29, 30, 31, 32, 33, 34, 35, 36, 37, 38, 39, 40, 41, 42, 43, 44, 45, 46, 47, 48, 49, 50, 51, 52, 53, 54, 55, 56, 57, 58, 59, 60, 61, 62, 63, 64, 65, 66, 67, 68, 69, 241, 242, 243, 244, 245, 246, 247, 248, 249, 250, 251, 252, 253, 254, 255, 256] (by decide +kernel) (by decide +kernel)
set_option maxRecDepth 20000 in
theorem gX11_hire_X11_newDenier : GoodIn wsX11_hire (va_wsS RX11 183 yX11_newDenier wsX11_newDenier) := goodIn_app (goodIn_of _ (by decide +kernel)) ggX11_hire_X11_newDenier
set_option maxRecDepth 20000 in
theorem ggX11_hire_X4_look : GoodIn wsX11_hire wsX4_look := goodIn_r _ [74, 75, 76, 77, 78, 79, 80, 81, 82, 83, 84, 85, 86, 87, 5, 88, 89, 90, 91, 92, 93, 94, 95, 96, 97, 98, 99, 100, 101, 73, 102, 103, 104, 105, 106, 107, 108, 109, 110, 111, 112, 113, 114, 115, 116, 117, 118, 33, 119, 120, 121, 122, 123, 24, 124, 125, 126, 127, 128, 129, 12, 130, 131, 132, 21, 133, 134, 135, 136, 137, 15, 138, 139, 140, 141, 27, 142, 143, 144, 145, 146, 147, 148, 149, 30, 150, 151, 152, 153, 154, 155, 156, 18, 157, 158, 159, 160, 161, 162, 163, 164, 165, 166, 167, 168, 169, 170, 171, 172, 173, 174, 175, 176, 177, 178, 179, 180, 181, 182, 183, 184, 185, 186, 187, 188, 189, 190, 191, 192, 193, 194, 195, 196, 197, 198, 199, 200, 201, 202, 203, 204, 205, 206, 207, 208, 209, 210, 211, 212, 213, 214, 215, 216, 217, 218, 219, 220, 221, 222, 257, 258, 259, 260, 261, 262, 263, 264, 265, 266, 267, 268, 269, 270, 255, 256, 247, 248, 241, 242, 243, 244, 249, 250, 251, 252, 253, 254, 245, 246] (by decide +kernel) (by decide +kernel)
set_option maxRecDepth 20000 in
theorem gX11_hire_X4_look : GoodIn wsX11_hire (wsV RX11 157 RX4 yX4_look wsX4_look) := goodIn_app (goodIn_of _ (by decide +kernel)) ggX11_hire_X4_look
set_option maxRecDepth 20000 in
theorem ggX11_hire_X4_reachable : GoodIn wsX11_hire wsX4_reachable := goodIn_r _ [226, 75, 227, 228, 229, 73, 230, 76, 103, 87, 5, 88, 160, 161, 231, 232, 267, 268, 269, 270] (by decide +kernel) (by decide +kernel)
set_option maxRecDepth 20000 in
theorem gX11_hire_X4_reachable : GoodIn wsX11_hire (wsV RX11 161 RX4 yX4_reachable wsX4_reachable) := goodIn_app (goodIn_of _ (by decide +kernel)) ggX11_hire_X4_reachable
set_option maxRecDepth 20000 in
theorem ggX11_hire_J6_bitCount_0f7a4 : GoodIn wsX11_hire wsJ6_bitCount_0f7a4 := goodIn_r _ [184, 185, 186, 187] (by decide +kernel) (by decide +kernel)
set_option maxRecDepth 20000 in
theorem gX11_hire_J6_bitCount_0f7a4 : GoodIn wsX11_hire (va_wsS RX11 140 yJ6_bitCount_0f7a4 wsJ6_bitCount_0f7a4) := goodIn_app (goodIn_of _ (by decide +kernel)) ggX11_hire_J6_bitCount_0f7a4
theorem dX11_hire_0 : decode cX11_hire 0 = .ok (.iload_n 1, 1) := by decide +kernel
theorem dX11_hire_1 : decode cX11_hire 1 = .ok (.invokestatic 180, 3) := by decide +kernel
theorem dX11_hire_4 : decode cX11_hire 4 = .ok (.ifCond .eq 12, 3) := by decide +kernel
theorem dX11_hire_7 : decode cX11_hire 7 = .ok (.iload_n 2, 1) := by decide +kernel
theorem dX11_hire_8 : decode cX11_hire 8 = .ok (.ifCond .eq 10, 3) := by decide +kernel
theorem dX11_hire_11 : decode cX11_hire 11 = .ok (.iload_n 2, 1) := by decide +kernel
theorem dX11_hire_12 : decode cX11_hire 12 = .ok (.iconst 1, 1) := by decide +kernel
theorem dX11_hire_13 : decode cX11_hire 13 = .ok (.if_icmp .eq 5, 3) := by decide +kernel
theorem dX11_hire_16 : decode cX11_hire 16 = .ok (.iconst (-1), 1) := by decide +kernel
theorem dX11_hire_17 : decode cX11_hire 17 = .ok (.ireturn, 1) := by decide +kernel
theorem dX11_hire_18 : decode cX11_hire 18 = .ok (.iconst 0, 1) := by decide +kernel
theorem dX11_hire_19 : decode cX11_hire 19 = .ok (.istore_n 3, 1) := by decide +kernel
theorem dX11_hire_20 : decode cX11_hire 20 = .ok (.iconst (-1), 1) := by decide +kernel
theorem dX11_hire_21 : decode cX11_hire 21 = .ok (.istore 4, 2) := by decide +kernel
theorem dX11_hire_23 : decode cX11_hire 23 = .ok (.iconst 0, 1) := by decide +kernel
theorem dX11_hire_24 : decode cX11_hire 24 = .ok (.istore 5, 2) := by decide +kernel
theorem dX11_hire_26 : decode cX11_hire 26 = .ok (.iload 5, 2) := by decide +kernel
theorem dX11_hire_28 : decode cX11_hire 28 = .ok (.bipush 8, 2) := by decide +kernel
theorem dX11_hire_30 : decode cX11_hire 30 = .ok (.if_icmp .ge 52, 3) := by decide +kernel
theorem dX11_hire_33 : decode cX11_hire 33 = .ok (.aload_n 0, 1) := by decide +kernel
theorem dX11_hire_34 : decode cX11_hire 34 = .ok (.getfield 25, 3) := by decide +kernel
theorem dX11_hire_37 : decode cX11_hire 37 = .ok (.aload_n 0, 1) := by decide +kernel
theorem dX11_hire_38 : decode cX11_hire 38 = .ok (.getfield 10, 3) := by decide +kernel
theorem dX11_hire_41 : decode cX11_hire 41 = .ok (.iload 5, 2) := by decide +kernel
theorem dX11_hire_43 : decode cX11_hire 43 = .ok (.iload_n 1, 1) := by decide +kernel
theorem dX11_hire_44 : decode cX11_hire 44 = .ok (.invokestatic 183, 3) := by decide +kernel
theorem dX11_hire_47 : decode cX11_hire 47 = .ok (.invokevirtual 157, 3) := by decide +kernel
theorem dX11_hire_50 : decode cX11_hire 50 = .ok (.aload_n 0, 1) := by decide +kernel
theorem dX11_hire_51 : decode cX11_hire 51 = .ok (.getfield 25, 3) := by decide +kernel
theorem dX11_hire_54 : decode cX11_hire 54 = .ok (.invokevirtual 161, 3) := by decide +kernel
theorem dX11_hire_57 : decode cX11_hire 57 = .ok (.invokestatic 140, 3) := by decide +kernel
theorem dX11_hire_60 : decode cX11_hire 60 = .ok (.istore 6, 2) := by decide +kernel
theorem dX11_hire_62 : decode cX11_hire 62 = .ok (.iload 6, 2) := by decide +kernel
theorem dX11_hire_64 : decode cX11_hire 64 = .ok (.iload 4, 2) := by decide +kernel
theorem dX11_hire_66 : decode cX11_hire 66 = .ok (.if_icmp .le 10, 3) := by decide +kernel
theorem dX11_hire_69 : decode cX11_hire 69 = .ok (.iload 6, 2) := by decide +kernel
theorem dX11_hire_71 : decode cX11_hire 71 = .ok (.istore 4, 2) := by decide +kernel
theorem dX11_hire_73 : decode cX11_hire 73 = .ok (.iload 5, 2) := by decide +kernel
theorem dX11_hire_75 : decode cX11_hire 75 = .ok (.istore_n 3, 1) := by decide +kernel
theorem dX11_hire_76 : decode cX11_hire 76 = .ok (.iinc 5 1, 3) := by decide +kernel
theorem dX11_hire_79 : decode cX11_hire 79 = .ok (.goto (-53), 3) := by decide +kernel
theorem dX11_hire_82 : decode cX11_hire 82 = .ok (.iload_n 2, 1) := by decide +kernel
theorem dX11_hire_83 : decode cX11_hire 83 = .ok (.ifCond .ne 7, 3) := by decide +kernel
theorem dX11_hire_86 : decode cX11_hire 86 = .ok (.iload_n 3, 1) := by decide +kernel
theorem dX11_hire_87 : decode cX11_hire 87 = .ok (.goto 5, 3) := by decide +kernel
theorem dX11_hire_90 : decode cX11_hire 90 = .ok (.iload 4, 2) := by decide +kernel
theorem dX11_hire_92 : decode cX11_hire 92 = .ok (.ireturn, 1) := by decide +kernel
set_option maxRecDepth 20000 in
theorem ggX11_canHave_X9_hasSentence : GoodIn wsX11_canHave wsX9_hasSentence := goodIn_r _ [6, 7, 120, 121, 122, 123, 124, 125, 126, 127, 128, 129] (by decide +kernel) (by decide +kernel)
set_option maxRecDepth 20000 in
theorem gX11_canHave_X9_hasSentence : GoodIn wsX11_canHave (wsV RX11 75 RX9 yX9_hasSentence wsX9_hasSentence) := goodIn_app (goodIn_of _ (by decide +kernel)) ggX11_canHave_X9_hasSentence
set_option maxRecDepth 20000 in
theorem ggX11_canHave_X9_isTrue : GoodIn wsX11_canHave wsX9_isTrue := goodIn_r _ [11, 12, 13, 14, 15, 120, 121, 122, 123, 124, 125, 126, 127, 128, 129] (by decide +kernel) (by decide +kernel)
set_option maxRecDepth 20000 in
theorem gX11_canHave_X9_isTrue : GoodIn wsX11_canHave (wsV RX11 81 RX9 yX9_isTrue wsX9_isTrue) := goodIn_app (goodIn_of _ (by decide +kernel)) ggX11_canHave_X9_isTrue
set_option maxRecDepth 20000 in
theorem ggX11_canHave_X9_suspects : GoodIn wsX11_canHave wsX9_suspects := goodIn_r _ [19, 20, 12, 21, 14, 22, 23, 24, 25, 5, 26, 27, 28, 29, 30, 31, 32, 33, 34, 35, 36, 37, 38, 39, 40, 41, 42, 43, 44, 45, 46, 47, 48, 49, 50, 51, 52, 53, 54, 55, 56, 57, 13, 15, 58, 59, 60, 61, 62, 63, 64, 65, 66, 67, 68, 69, 70, 71, 72, 73, 74, 75, 76, 77, 78, 79, 80, 81, 82, 83, 84, 85, 86, 87, 88, 89, 90, 91, 92, 93, 94, 95, 96, 97, 98, 99, 100, 101, 102, 103, 104, 105, 106, 107, 108, 109, 110, 111, 112, 120, 121, 122, 123, 124, 125, 126, 127, 128, 129, 130, 131, 132, 133, 134, 135, 136, 137, 138, 139, 140, 141, 142, 143, 144, 145] (by decide +kernel) (by decide +kernel)
set_option maxRecDepth 20000 in
theorem gX11_canHave_X9_suspects : GoodIn wsX11_canHave (wsV RX11 187 RX9 yX9_suspects wsX9_suspects) := goodIn_app (goodIn_of _ (by decide +kernel)) ggX11_canHave_X9_suspects
theorem dX11_canHave_0 : decode cX11_canHave 0 = .ok (.aload_n 0, 1) := by decide +kernel
theorem dX11_canHave_1 : decode cX11_canHave 1 = .ok (.getfield 10, 3) := by decide +kernel
theorem dX11_canHave_4 : decode cX11_canHave 4 = .ok (.iload_n 1, 1) := by decide +kernel
theorem dX11_canHave_5 : decode cX11_canHave 5 = .ok (.invokevirtual 75, 3) := by decide +kernel
theorem dX11_canHave_8 : decode cX11_canHave 8 = .ok (.ifCond .ne 5, 3) := by decide +kernel
theorem dX11_canHave_11 : decode cX11_canHave 11 = .ok (.iconst (-1), 1) := by decide +kernel
theorem dX11_canHave_12 : decode cX11_canHave 12 = .ok (.ireturn, 1) := by decide +kernel
theorem dX11_canHave_13 : decode cX11_canHave 13 = .ok (.aload_n 0, 1) := by decide +kernel
theorem dX11_canHave_14 : decode cX11_canHave 14 = .ok (.getfield 10, 3) := by decide +kernel
theorem dX11_canHave_17 : decode cX11_canHave 17 = .ok (.iload_n 1, 1) := by decide +kernel
theorem dX11_canHave_18 : decode cX11_canHave 18 = .ok (.invokevirtual 81, 3) := by decide +kernel
theorem dX11_canHave_21 : decode cX11_canHave 21 = .ok (.ifCond .ne 6, 3) := by decide +kernel
theorem dX11_canHave_24 : decode cX11_canHave 24 = .ok (.bipush (-3), 2) := by decide +kernel
theorem dX11_canHave_26 : decode cX11_canHave 26 = .ok (.ireturn, 1) := by decide +kernel
theorem dX11_canHave_27 : decode cX11_canHave 27 = .ok (.aload_n 0, 1) := by decide +kernel
theorem dX11_canHave_28 : decode cX11_canHave 28 = .ok (.getfield 10, 3) := by decide +kernel
theorem dX11_canHave_31 : decode cX11_canHave 31 = .ok (.iload_n 1, 1) := by decide +kernel
theorem dX11_canHave_32 : decode cX11_canHave 32 = .ok (.invokevirtual 187, 3) := by decide +kernel
theorem dX11_canHave_35 : decode cX11_canHave 35 = .ok (.ireturn, 1) := by decide +kernel
set_option maxRecDepth 20000 in
theorem ggX11_run_X11_rowAt : GoodIn wsX11_run wsX11_rowAt := goodIn_r _ [7, 8, 210, 211, 212, 213, 214, 215, 216] (by decide +kernel) (by decide +kernel)
set_option maxRecDepth 20000 in
theorem gX11_run_X11_rowAt : GoodIn wsX11_run (wsV RX11 41 RX11 yX11_rowAt wsX11_rowAt) := goodIn_app (goodIn_of _ (by decide +kernel)) ggX11_run_X11_rowAt
set_option maxRecDepth 20000 in
theorem ggX11_run_X11_whyMissing : GoodIn wsX11_run wsX11_whyMissing := goodIn_r _ [12, 13, 14, 6, 15, 16, 17, 18, 19, 3, 4, 5, 7, 8, 20, 21, 22, 23, 24, 210, 211, 212, 213, 214, 215, 216] (by decide +kernel) (by decide +kernel)
set_option maxRecDepth 20000 in
theorem gX11_run_X11_whyMissing : GoodIn wsX11_run (wsV RX11 45 RX11 yX11_whyMissing wsX11_whyMissing) := goodIn_app (goodIn_of _ (by decide +kernel)) ggX11_run_X11_whyMissing
set_option maxRecDepth 20000 in
theorem ggX11_run_X8_isOf : GoodIn wsX11_run wsX8_isOf := goodIn_r _ [29, 30, 217, 218] (by decide +kernel) (by decide +kernel)
set_option maxRecDepth 20000 in
theorem gX11_run_X8_isOf : GoodIn wsX11_run (wsV RX11 49 RX8 yX8_isOf wsX8_isOf) := goodIn_app (goodIn_of _ (by decide +kernel)) ggX11_run_X8_isOf
set_option maxRecDepth 20000 in
theorem ggX11_run_X11_areDenials : GoodIn wsX11_run wsX11_areDenials := goodIn_r _ [34, 35, 36, 37, 28, 38, 39, 40, 41, 42, 43, 44, 45, 46, 6, 47, 2, 48, 49, 50, 51, 52, 53, 54, 55, 56, 57, 58, 217, 218, 210, 211, 212, 213, 214, 215, 216, 219, 220, 221, 222, 223, 224, 225, 226, 227, 228] (by decide +kernel) (by decide +kernel)
set_option maxRecDepth 20000 in
theorem gX11_run_X11_areDenials : GoodIn wsX11_run (wsV RX11 190 RX11 yX11_areDenials wsX11_areDenials) := goodIn_app (goodIn_of _ (by decide +kernel)) ggX11_run_X11_areDenials
set_option maxRecDepth 20000 in
theorem ggX11_run_X9_become : GoodIn wsX11_run wsX9_become := goodIn_r _ [62, 58, 53, 63, 64, 65, 66, 67, 68, 69, 70, 71, 72, 73, 74, 219, 220, 221, 222, 223, 224, 225, 226, 227, 228] (by decide +kernel) (by decide +kernel)
set_option maxRecDepth 20000 in
theorem gX11_run_X9_become : GoodIn wsX11_run (wsV RX11 57 RX9 yX9_become wsX9_become) := goodIn_app (goodIn_of _ (by decide +kernel)) ggX11_run_X9_become
set_option maxRecDepth 20000 in
theorem ggX11_run_X8_size : GoodIn wsX11_run wsX8_size := goodIn_r _ [38, 39, 217, 218] (by decide +kernel) (by decide +kernel)
set_option maxRecDepth 20000 in
theorem gX11_run_X8_size : GoodIn wsX11_run (wsV RX11 61 RX8 yX8_size wsX8_size) := goodIn_app (goodIn_of _ (by decide +kernel)) ggX11_run_X8_size
set_option maxRecDepth 20000 in
theorem ggX11_run_X8_at : GoodIn wsX11_run wsX8_at := goodIn_r _ [43, 39, 217, 218] (by decide +kernel) (by decide +kernel)
set_option maxRecDepth 20000 in
theorem gX11_run_X8_at : GoodIn wsX11_run (wsV RX11 69 RX8 yX8_at wsX8_at) := goodIn_app (goodIn_of _ (by decide +kernel)) ggX11_run_X8_at
set_option maxRecDepth 20000 in
theorem ggX11_run_X11_disputeIfAllowed : GoodIn wsX11_run wsX11_disputeIfAllowed := goodIn_r _ [78, 1, 79, 80, 81, 51, 82, 63, 83, 84, 85, 86, 74, 87, 88, 89, 90, 64, 91, 6, 92, 93, 55, 56, 57, 58, 94, 95, 96, 97, 73, 98, 99, 100, 101, 66, 102, 103, 104, 105, 106, 107, 108, 109, 110, 111, 112, 113, 114, 115, 116, 117, 118, 119, 120, 121, 122, 123, 124, 125, 126, 127, 128, 129, 130, 131, 132, 133, 134, 135, 136, 137, 138, 139, 140, 141, 142, 143, 144, 145, 146, 147, 148, 149, 150, 151, 152, 153, 154, 155, 156, 157, 158, 159, 160, 161, 162, 65, 163, 164, 165, 166, 167, 168, 169, 170, 171, 172, 173, 174, 175, 176, 177, 178, 179, 180, 181, 182, 183, 184, 185, 186, 187, 188, 189, 190, 191, 192, 71, 72, 193, 194, 195, 196, 197, 198, 210, 211, 212, 213, 214, 215, 216, 219, 220, 221, 222, 223, 224, 225, 226, 227, 228, 229, 230, 231, 232, 233, 234, 235, 236, 237, 238, 239, 240, 241, 242, 243, 244] (by decide +kernel) (by decide +kernel)
set_option maxRecDepth 20000 in
theorem gX11_run_X11_disputeIfAllowed : GoodIn wsX11_run (wsV RX11 194 RX11 yX11_disputeIfAllowed wsX11_disputeIfAllowed) := goodIn_app (goodIn_of _ (by decide +kernel)) ggX11_run_X11_disputeIfAllowed
set_option maxRecDepth 20000 in
theorem ggX11_run_X9_countTrue : GoodIn wsX11_run wsX9_countTrue := goodIn_r _ [202, 63, 203, 204, 205, 206, 207, 208, 209, 219, 220, 221, 222, 223, 224, 225, 226, 227, 228] (by decide +kernel) (by decide +kernel)
set_option maxRecDepth 20000 in
theorem gX11_run_X9_countTrue : GoodIn wsX11_run (wsV RX11 198 RX9 yX9_countTrue wsX9_countTrue) := goodIn_app (goodIn_of _ (by decide +kernel)) ggX11_run_X9_countTrue
theorem dX11_run_0 : decode cX11_run 0 = .ok (.aload_n 0, 1) := by decide +kernel
theorem dX11_run_1 : decode cX11_run 1 = .ok (.iload_n 1, 1) := by decide +kernel
theorem dX11_run_2 : decode cX11_run 2 = .ok (.invokevirtual 41, 3) := by decide +kernel
theorem dX11_run_5 : decode cX11_run 5 = .ok (.astore_n 3, 1) := by decide +kernel
theorem dX11_run_6 : decode cX11_run 6 = .ok (.iload_n 2, 1) := by decide +kernel
theorem dX11_run_7 : decode cX11_run 7 = .ok (.ifCond .eq 10, 3) := by decide +kernel
theorem dX11_run_10 : decode cX11_run 10 = .ok (.iload_n 2, 1) := by decide +kernel
theorem dX11_run_11 : decode cX11_run 11 = .ok (.iconst 1, 1) := by decide +kernel
theorem dX11_run_12 : decode cX11_run 12 = .ok (.if_icmp .eq 5, 3) := by decide +kernel
theorem dX11_run_15 : decode cX11_run 15 = .ok (.iconst (-1), 1) := by decide +kernel
theorem dX11_run_16 : decode cX11_run 16 = .ok (.ireturn, 1) := by decide +kernel
theorem dX11_run_17 : decode cX11_run 17 = .ok (.aload_n 3, 1) := by decide +kernel
theorem dX11_run_18 : decode cX11_run 18 = .ok (.ifnonnull 9, 3) := by decide +kernel
theorem dX11_run_21 : decode cX11_run 21 = .ok (.aload_n 0, 1) := by decide +kernel
theorem dX11_run_22 : decode cX11_run 22 = .ok (.iload_n 1, 1) := by decide +kernel
theorem dX11_run_23 : decode cX11_run 23 = .ok (.invokevirtual 45, 3) := by decide +kernel
theorem dX11_run_26 : decode cX11_run 26 = .ok (.ireturn, 1) := by decide +kernel
theorem dX11_run_27 : decode cX11_run 27 = .ok (.aload_n 3, 1) := by decide +kernel
theorem dX11_run_28 : decode cX11_run 28 = .ok (.iconst 0, 1) := by decide +kernel
theorem dX11_run_29 : decode cX11_run 29 = .ok (.invokevirtual 49, 3) := by decide +kernel
theorem dX11_run_32 : decode cX11_run 32 = .ok (.ifCond .ne 6, 3) := by decide +kernel
theorem dX11_run_35 : decode cX11_run 35 = .ok (.bipush (-12), 2) := by decide +kernel
theorem dX11_run_37 : decode cX11_run 37 = .ok (.ireturn, 1) := by decide +kernel
theorem dX11_run_38 : decode cX11_run 38 = .ok (.aload_n 0, 1) := by decide +kernel
theorem dX11_run_39 : decode cX11_run 39 = .ok (.aload_n 3, 1) := by decide +kernel
theorem dX11_run_40 : decode cX11_run 40 = .ok (.invokevirtual 190, 3) := by decide +kernel
theorem dX11_run_43 : decode cX11_run 43 = .ok (.ifCond .ne 6, 3) := by decide +kernel
theorem dX11_run_46 : decode cX11_run 46 = .ok (.bipush (-13), 2) := by decide +kernel
theorem dX11_run_48 : decode cX11_run 48 = .ok (.ireturn, 1) := by decide +kernel
theorem dX11_run_49 : decode cX11_run 49 = .ok (.aload_n 0, 1) := by decide +kernel
theorem dX11_run_50 : decode cX11_run 50 = .ok (.getfield 16, 3) := by decide +kernel
theorem dX11_run_53 : decode cX11_run 53 = .ok (.aload_n 0, 1) := by decide +kernel
theorem dX11_run_54 : decode cX11_run 54 = .ok (.getfield 10, 3) := by decide +kernel
theorem dX11_run_57 : decode cX11_run 57 = .ok (.invokevirtual 57, 3) := by decide +kernel
theorem dX11_run_60 : decode cX11_run 60 = .ok (.iconst 0, 1) := by decide +kernel
theorem dX11_run_61 : decode cX11_run 61 = .ok (.istore 4, 2) := by decide +kernel
theorem dX11_run_63 : decode cX11_run 63 = .ok (.iconst 0, 1) := by decide +kernel
theorem dX11_run_64 : decode cX11_run 64 = .ok (.istore 5, 2) := by decide +kernel
theorem dX11_run_66 : decode cX11_run 66 = .ok (.iload 5, 2) := by decide +kernel
theorem dX11_run_68 : decode cX11_run 68 = .ok (.aload_n 3, 1) := by decide +kernel
theorem dX11_run_69 : decode cX11_run 69 = .ok (.invokevirtual 61, 3) := by decide +kernel
theorem dX11_run_72 : decode cX11_run 72 = .ok (.if_icmp .ge 32, 3) := by decide +kernel
theorem dX11_run_75 : decode cX11_run 75 = .ok (.iload 4, 2) := by decide +kernel
theorem dX11_run_77 : decode cX11_run 77 = .ok (.aload_n 0, 1) := by decide +kernel
theorem dX11_run_78 : decode cX11_run 78 = .ok (.aload_n 3, 1) := by decide +kernel
theorem dX11_run_79 : decode cX11_run 79 = .ok (.iload 5, 2) := by decide +kernel
theorem dX11_run_81 : decode cX11_run 81 = .ok (.invokevirtual 69, 3) := by decide +kernel
theorem dX11_run_84 : decode cX11_run 84 = .ok (.aload_n 3, 1) := by decide +kernel
theorem dX11_run_85 : decode cX11_run 85 = .ok (.iload 5, 2) := by decide +kernel
theorem dX11_run_87 : decode cX11_run 87 = .ok (.iconst 1, 1) := by decide +kernel
theorem dX11_run_88 : decode cX11_run 88 = .ok (.iadd, 1) := by decide +kernel
theorem dX11_run_89 : decode cX11_run 89 = .ok (.invokevirtual 69, 3) := by decide +kernel
theorem dX11_run_92 : decode cX11_run 92 = .ok (.invokevirtual 194, 3) := by decide +kernel
theorem dX11_run_95 : decode cX11_run 95 = .ok (.iadd, 1) := by decide +kernel
theorem dX11_run_96 : decode cX11_run 96 = .ok (.istore 4, 2) := by decide +kernel
theorem dX11_run_98 : decode cX11_run 98 = .ok (.iinc 5 2, 3) := by decide +kernel
theorem dX11_run_101 : decode cX11_run 101 = .ok (.goto (-35), 3) := by decide +kernel
theorem dX11_run_104 : decode cX11_run 104 = .ok (.iload_n 2, 1) := by decide +kernel
theorem dX11_run_105 : decode cX11_run 105 = .ok (.ifCond .ne 13, 3) := by decide +kernel
theorem dX11_run_108 : decode cX11_run 108 = .ok (.aload_n 0, 1) := by decide +kernel
theorem dX11_run_109 : decode cX11_run 109 = .ok (.getfield 16, 3) := by decide +kernel
theorem dX11_run_112 : decode cX11_run 112 = .ok (.invokevirtual 198, 3) := by decide +kernel
theorem dX11_run_115 : decode cX11_run 115 = .ok (.goto 5, 3) := by decide +kernel
theorem dX11_run_118 : decode cX11_run 118 = .ok (.iload 4, 2) := by decide +kernel
theorem dX11_run_120 : decode cX11_run 120 = .ok (.ireturn, 1) := by decide +kernel
set_option maxRecDepth 20000 in
theorem ggX11_seeded_X9_countDeniers : GoodIn wsX11_seeded wsX9_countDeniers := goodIn_r _ [7, 8, 184, 185, 186, 187, 188, 189, 190, 191, 192, 193] (by decide +kernel) (by decide +kernel)
set_option maxRecDepth 20000 in
theorem gX11_seeded_X9_countDeniers : GoodIn wsX11_seeded (wsV RX11 201 RX9 yX9_countDeniers wsX9_countDeniers) := goodIn_app (goodIn_of _ (by decide +kernel)) ggX11_seeded_X9_countDeniers
set_option maxRecDepth 20000 in
theorem ggX11_seeded_X9_countSentences : GoodIn wsX11_seeded wsX9_countSentences := goodIn_r _ [12, 13, 184, 185, 186, 187, 188, 189, 190, 191, 192, 193] (by decide +kernel) (by decide +kernel)
set_option maxRecDepth 20000 in
theorem gX11_seeded_X9_countSentences : GoodIn wsX11_seeded (wsV RX11 204 RX9 yX9_countSentences wsX9_countSentences) := goodIn_app (goodIn_of _ (by decide +kernel)) ggX11_seeded_X9_countSentences
set_option maxRecDepth 20000 in
theorem ggX11_seeded_X9_become : GoodIn wsX11_seeded wsX9_become := goodIn_r _ [17, 13, 8, 18, 19, 20, 21, 22, 23, 24, 25, 26, 27, 28, 29, 184, 185, 186, 187, 188, 189, 190, 191, 192, 193] (by decide +kernel) (by decide +kernel)
set_option maxRecDepth 20000 in
theorem gX11_seeded_X9_become : GoodIn wsX11_seeded (wsV RX11 57 RX9 yX9_become wsX9_become) := goodIn_app (goodIn_of _ (by decide +kernel)) ggX11_seeded_X9_become
set_option maxRecDepth 20000 in
theorem ggX11_seeded_X11_nextSeed : GoodIn wsX11_seeded wsX11_nextSeed := goodIn_r _ [33, 34] (by decide +kernel) (by decide +kernel)
set_option maxRecDepth 20000 in
theorem gX11_seeded_X11_nextSeed : GoodIn wsX11_seeded (va_wsS RX11 207 yX11_nextSeed wsX11_nextSeed) := goodIn_app (goodIn_of _ (by decide +kernel)) ggX11_seeded_X11_nextSeed
set_option maxRecDepth 20000 in
theorem ggX11_seeded_X11_draw : GoodIn wsX11_seeded wsX11_draw := goodIn_r _ [37, 38] (by decide +kernel) (by decide +kernel)
set_option maxRecDepth 20000 in
theorem gX11_seeded_X11_draw : GoodIn wsX11_seeded (va_wsS RX11 210 yX11_draw wsX11_draw) := goodIn_app (goodIn_of _ (by decide +kernel)) ggX11_seeded_X11_draw
set_option maxRecDepth 20000 in
theorem ggX11_seeded_X11_disputeIfAllowed : GoodIn wsX11_seeded wsX11_disputeIfAllowed := goodIn_r _ [42, 2, 43, 44, 45, 6, 46, 18, 47, 48, 49, 50, 29, 51, 52, 53, 54, 19, 55, 32, 56, 57, 58, 59, 60, 13, 61, 62, 63, 64, 28, 65, 66, 67, 68, 21, 69, 70, 71, 72, 73, 74, 75, 76, 77, 78, 79, 80, 81, 82, 83, 84, 85, 86, 87, 88, 89, 90, 91, 92, 93, 94, 95, 96, 97, 98, 99, 100, 101, 102, 103, 104, 105, 106, 107, 108, 109, 110, 111, 112, 113, 114, 115, 116, 117, 118, 119, 120, 121, 122, 123, 124, 125, 126, 127, 128, 129, 20, 130, 131, 132, 133, 134, 135, 136, 137, 138, 139, 140, 141, 142, 143, 144, 145, 146, 147, 148, 149, 150, 151, 152, 153, 154, 155, 156, 157, 158, 159, 26, 27, 160, 161, 162, 163, 164, 165, 177, 178, 179, 180, 181, 182, 183, 184, 185, 186, 187, 188, 189, 190, 191, 192, 193, 194, 195, 196, 197, 198, 199, 200, 201, 202, 203, 204, 205, 206, 207, 208, 209] (by decide +kernel) (by decide +kernel)
set_option maxRecDepth 20000 in
theorem gX11_seeded_X11_disputeIfAllowed : GoodIn wsX11_seeded (wsV RX11 194 RX11 yX11_disputeIfAllowed wsX11_disputeIfAllowed) := goodIn_app (goodIn_of _ (by decide +kernel)) ggX11_seeded_X11_disputeIfAllowed
set_option maxRecDepth 20000 in
theorem ggX11_seeded_X9_countTrue : GoodIn wsX11_seeded wsX9_countTrue := goodIn_r _ [169, 18, 170, 171, 172, 173, 174, 175, 176, 184, 185, 186, 187, 188, 189, 190, 191, 192, 193] (by decide +kernel) (by decide +kernel)
set_option maxRecDepth 20000 in
theorem gX11_seeded_X9_countTrue : GoodIn wsX11_seeded (wsV RX11 198 RX9 yX9_countTrue wsX9_countTrue) := goodIn_app (goodIn_of _ (by decide +kernel)) ggX11_seeded_X9_countTrue
theorem dX11_seeded_0 : decode cX11_seeded 0 = .ok (.iload_n 1, 1) := by decide +kernel
theorem dX11_seeded_1 : decode cX11_seeded 1 = .ok (.iconst 1, 1) := by decide +kernel
theorem dX11_seeded_2 : decode cX11_seeded 2 = .ok (.if_icmp .lt 9, 3) := by decide +kernel
theorem dX11_seeded_5 : decode cX11_seeded 5 = .ok (.iload_n 1, 1) := by decide +kernel
theorem dX11_seeded_6 : decode cX11_seeded 6 = .ok (.bipush 40, 2) := by decide +kernel
theorem dX11_seeded_8 : decode cX11_seeded 8 = .ok (.if_icmp .le 5, 3) := by decide +kernel
theorem dX11_seeded_11 : decode cX11_seeded 11 = .ok (.iconst (-1), 1) := by decide +kernel
theorem dX11_seeded_12 : decode cX11_seeded 12 = .ok (.ireturn, 1) := by decide +kernel
theorem dX11_seeded_13 : decode cX11_seeded 13 = .ok (.aload_n 0, 1) := by decide +kernel
theorem dX11_seeded_14 : decode cX11_seeded 14 = .ok (.getfield 10, 3) := by decide +kernel
theorem dX11_seeded_17 : decode cX11_seeded 17 = .ok (.invokevirtual 201, 3) := by decide +kernel
theorem dX11_seeded_20 : decode cX11_seeded 20 = .ok (.iconst 1, 1) := by decide +kernel
theorem dX11_seeded_21 : decode cX11_seeded 21 = .ok (.if_icmp .lt 14, 3) := by decide +kernel
theorem dX11_seeded_24 : decode cX11_seeded 24 = .ok (.aload_n 0, 1) := by decide +kernel
theorem dX11_seeded_25 : decode cX11_seeded 25 = .ok (.getfield 10, 3) := by decide +kernel
theorem dX11_seeded_28 : decode cX11_seeded 28 = .ok (.invokevirtual 204, 3) := by decide +kernel
theorem dX11_seeded_31 : decode cX11_seeded 31 = .ok (.iconst 1, 1) := by decide +kernel
theorem dX11_seeded_32 : decode cX11_seeded 32 = .ok (.if_icmp .ge 6, 3) := by decide +kernel
theorem dX11_seeded_35 : decode cX11_seeded 35 = .ok (.bipush (-3), 2) := by decide +kernel
theorem dX11_seeded_37 : decode cX11_seeded 37 = .ok (.ireturn, 1) := by decide +kernel
theorem dX11_seeded_38 : decode cX11_seeded 38 = .ok (.aload_n 0, 1) := by decide +kernel
theorem dX11_seeded_39 : decode cX11_seeded 39 = .ok (.getfield 16, 3) := by decide +kernel
theorem dX11_seeded_42 : decode cX11_seeded 42 = .ok (.aload_n 0, 1) := by decide +kernel
theorem dX11_seeded_43 : decode cX11_seeded 43 = .ok (.getfield 10, 3) := by decide +kernel
theorem dX11_seeded_46 : decode cX11_seeded 46 = .ok (.invokevirtual 57, 3) := by decide +kernel
theorem dX11_seeded_49 : decode cX11_seeded 49 = .ok (.iload_n 2, 1) := by decide +kernel
theorem dX11_seeded_50 : decode cX11_seeded 50 = .ok (.istore_n 3, 1) := by decide +kernel
theorem dX11_seeded_51 : decode cX11_seeded 51 = .ok (.iconst 0, 1) := by decide +kernel
theorem dX11_seeded_52 : decode cX11_seeded 52 = .ok (.istore 4, 2) := by decide +kernel
theorem dX11_seeded_54 : decode cX11_seeded 54 = .ok (.iload 4, 2) := by decide +kernel
theorem dX11_seeded_56 : decode cX11_seeded 56 = .ok (.iload_n 1, 1) := by decide +kernel
theorem dX11_seeded_57 : decode cX11_seeded 57 = .ok (.if_icmp .ge 50, 3) := by decide +kernel
theorem dX11_seeded_60 : decode cX11_seeded 60 = .ok (.iload_n 3, 1) := by decide +kernel
theorem dX11_seeded_61 : decode cX11_seeded 61 = .ok (.invokestatic 207, 3) := by decide +kernel
theorem dX11_seeded_64 : decode cX11_seeded 64 = .ok (.istore_n 3, 1) := by decide +kernel
theorem dX11_seeded_65 : decode cX11_seeded 65 = .ok (.iload_n 3, 1) := by decide +kernel
theorem dX11_seeded_66 : decode cX11_seeded 66 = .ok (.aload_n 0, 1) := by decide +kernel
theorem dX11_seeded_67 : decode cX11_seeded 67 = .ok (.getfield 10, 3) := by decide +kernel
theorem dX11_seeded_70 : decode cX11_seeded 70 = .ok (.invokevirtual 201, 3) := by decide +kernel
theorem dX11_seeded_73 : decode cX11_seeded 73 = .ok (.invokestatic 210, 3) := by decide +kernel
theorem dX11_seeded_76 : decode cX11_seeded 76 = .ok (.istore 5, 2) := by decide +kernel
theorem dX11_seeded_78 : decode cX11_seeded 78 = .ok (.iload_n 3, 1) := by decide +kernel
theorem dX11_seeded_79 : decode cX11_seeded 79 = .ok (.invokestatic 207, 3) := by decide +kernel
theorem dX11_seeded_82 : decode cX11_seeded 82 = .ok (.istore_n 3, 1) := by decide +kernel
theorem dX11_seeded_83 : decode cX11_seeded 83 = .ok (.aload_n 0, 1) := by decide +kernel
theorem dX11_seeded_84 : decode cX11_seeded 84 = .ok (.iload 5, 2) := by decide +kernel
theorem dX11_seeded_86 : decode cX11_seeded 86 = .ok (.iload_n 3, 1) := by decide +kernel
theorem dX11_seeded_87 : decode cX11_seeded 87 = .ok (.aload_n 0, 1) := by decide +kernel
theorem dX11_seeded_88 : decode cX11_seeded 88 = .ok (.getfield 10, 3) := by decide +kernel
theorem dX11_seeded_91 : decode cX11_seeded 91 = .ok (.invokevirtual 204, 3) := by decide +kernel
theorem dX11_seeded_94 : decode cX11_seeded 94 = .ok (.invokestatic 210, 3) := by decide +kernel
theorem dX11_seeded_97 : decode cX11_seeded 97 = .ok (.invokevirtual 194, 3) := by decide +kernel
theorem dX11_seeded_100 : decode cX11_seeded 100 = .ok (.pop, 1) := by decide +kernel
theorem dX11_seeded_101 : decode cX11_seeded 101 = .ok (.iinc 4 1, 3) := by decide +kernel
theorem dX11_seeded_104 : decode cX11_seeded 104 = .ok (.goto (-50), 3) := by decide +kernel
theorem dX11_seeded_107 : decode cX11_seeded 107 = .ok (.aload_n 0, 1) := by decide +kernel
theorem dX11_seeded_108 : decode cX11_seeded 108 = .ok (.getfield 16, 3) := by decide +kernel
theorem dX11_seeded_111 : decode cX11_seeded 111 = .ok (.invokevirtual 198, 3) := by decide +kernel
theorem dX11_seeded_114 : decode cX11_seeded 114 = .ok (.ireturn, 1) := by decide +kernel
set_option maxRecDepth 20000 in
theorem ggX11_judge_X11_rowAt : GoodIn wsX11_judge wsX11_rowAt := goodIn_r _ [7, 8, 182, 183, 184, 185, 186, 187, 188] (by decide +kernel) (by decide +kernel)
set_option maxRecDepth 20000 in
theorem gX11_judge_X11_rowAt : GoodIn wsX11_judge (wsV RX11 41 RX11 yX11_rowAt wsX11_rowAt) := goodIn_app (goodIn_of _ (by decide +kernel)) ggX11_judge_X11_rowAt
set_option maxRecDepth 20000 in
theorem ggX11_judge_X11_whyMissing : GoodIn wsX11_judge wsX11_whyMissing := goodIn_r _ [12, 13, 14, 6, 15, 16, 17, 18, 19, 3, 4, 5, 7, 8, 20, 21, 22, 23, 24, 182, 183, 184, 185, 186, 187, 188] (by decide +kernel) (by decide +kernel)
set_option maxRecDepth 20000 in
theorem gX11_judge_X11_whyMissing : GoodIn wsX11_judge (wsV RX11 45 RX11 yX11_whyMissing wsX11_whyMissing) := goodIn_app (goodIn_of _ (by decide +kernel)) ggX11_judge_X11_whyMissing
set_option maxRecDepth 20000 in
theorem ggX11_judge_X9_become : GoodIn wsX11_judge wsX9_become := goodIn_r _ [29, 30, 31, 32, 33, 34, 35, 36, 37, 38, 39, 40, 41, 42, 43, 189, 190, 191, 192, 193, 194, 195, 196, 197, 198] (by decide +kernel) (by decide +kernel)
set_option maxRecDepth 20000 in
theorem gX11_judge_X9_become : GoodIn wsX11_judge (wsV RX11 57 RX9 yX9_become wsX9_become) := goodIn_app (goodIn_of _ (by decide +kernel)) ggX11_judge_X9_become
set_option maxRecDepth 20000 in
theorem ggX11_judge_X8_size : GoodIn wsX11_judge wsX8_size := goodIn_r _ [48, 49, 199, 200] (by decide +kernel) (by decide +kernel)
set_option maxRecDepth 20000 in
theorem gX11_judge_X8_size : GoodIn wsX11_judge (wsV RX11 61 RX8 yX8_size wsX8_size) := goodIn_app (goodIn_of _ (by decide +kernel)) ggX11_judge_X8_size
set_option maxRecDepth 20000 in
theorem ggX11_judge_X8_at : GoodIn wsX11_judge wsX8_at := goodIn_r _ [53, 49, 199, 200] (by decide +kernel) (by decide +kernel)
set_option maxRecDepth 20000 in
theorem gX11_judge_X8_at : GoodIn wsX11_judge (wsV RX11 69 RX8 yX8_at wsX8_at) := goodIn_app (goodIn_of _ (by decide +kernel)) ggX11_judge_X8_at
set_option maxRecDepth 20000 in
theorem ggX11_judge_X9_hasDenier : GoodIn wsX11_judge wsX9_hasDenier := goodIn_r _ [57, 31, 189, 190, 191, 192, 193, 194, 195, 196, 197, 198] (by decide +kernel) (by decide +kernel)
set_option maxRecDepth 20000 in
theorem gX11_judge_X9_hasDenier : GoodIn wsX11_judge (wsV RX11 130 RX9 yX9_hasDenier wsX9_hasDenier) := goodIn_app (goodIn_of _ (by decide +kernel)) ggX11_judge_X9_hasDenier
set_option maxRecDepth 20000 in
theorem ggX11_judge_X9_hasSentence : GoodIn wsX11_judge wsX9_hasSentence := goodIn_r _ [61, 30, 189, 190, 191, 192, 193, 194, 195, 196, 197, 198] (by decide +kernel) (by decide +kernel)
set_option maxRecDepth 20000 in
theorem gX11_judge_X9_hasSentence : GoodIn wsX11_judge (wsV RX11 75 RX9 yX9_hasSentence wsX9_hasSentence) := goodIn_app (goodIn_of _ (by decide +kernel)) ggX11_judge_X9_hasSentence
set_option maxRecDepth 20000 in
theorem ggX11_judge_X9_isAllowed : GoodIn wsX11_judge wsX9_isAllowed := goodIn_r _ [65, 32, 66, 67, 68, 28, 69, 43, 70, 71, 72, 73, 33, 74, 6, 75, 76, 59, 60, 61, 30, 77, 78, 79, 80, 42, 81, 82, 83, 84, 35, 85, 86, 87, 88, 89, 90, 91, 92, 93, 94, 95, 96, 97, 98, 99, 100, 101, 102, 103, 104, 105, 106, 107, 108, 109, 110, 111, 112, 113, 114, 115, 116, 117, 118, 119, 120, 121, 122, 123, 124, 125, 126, 127, 128, 129, 130, 131, 132, 133, 134, 135, 136, 137, 138, 139, 140, 141, 189, 190, 191, 192, 193, 194, 195, 196, 197, 198, 201, 202, 203, 204, 205, 206, 207, 208, 209, 210, 211, 212, 213, 214, 215, 216] (by decide +kernel) (by decide +kernel)
set_option maxRecDepth 20000 in
theorem gX11_judge_X9_isAllowed : GoodIn wsX11_judge (wsV RX11 124 RX9 yX9_isAllowed wsX9_isAllowed) := goodIn_app (goodIn_of _ (by decide +kernel)) ggX11_judge_X9_isAllowed
set_option maxRecDepth 20000 in
theorem ggX11_judge_X9_dispute : GoodIn wsX11_judge wsX9_dispute := goodIn_r _ [145, 34, 146, 147, 148, 28, 149, 32, 66, 67, 68, 69, 43, 77, 78, 79, 80, 42, 81, 82, 83, 84, 35, 150, 151, 152, 153, 154, 155, 156, 157, 158, 90, 159, 160, 161, 162, 107, 163, 164, 165, 166, 103, 139, 6, 140, 167, 168, 169, 170, 171, 172, 173, 174, 175, 40, 41, 176, 177, 178, 179, 180, 181, 74, 75, 189, 190, 191, 192, 193, 194, 195, 196, 197, 198] (by decide +kernel) (by decide +kernel)
set_option maxRecDepth 20000 in
theorem gX11_judge_X9_dispute : GoodIn wsX11_judge (wsV RX11 127 RX9 yX9_dispute wsX9_dispute) := goodIn_app (goodIn_of _ (by decide +kernel)) ggX11_judge_X9_dispute
theorem dX11_judge_0 : decode cX11_judge 0 = .ok (.aload_n 0, 1) := by decide +kernel
theorem dX11_judge_1 : decode cX11_judge 1 = .ok (.iload_n 1, 1) := by decide +kernel
theorem dX11_judge_2 : decode cX11_judge 2 = .ok (.invokevirtual 41, 3) := by decide +kernel
theorem dX11_judge_5 : decode cX11_judge 5 = .ok (.astore_n 2, 1) := by decide +kernel
theorem dX11_judge_6 : decode cX11_judge 6 = .ok (.aload_n 2, 1) := by decide +kernel
theorem dX11_judge_7 : decode cX11_judge 7 = .ok (.ifnonnull 9, 3) := by decide +kernel
theorem dX11_judge_10 : decode cX11_judge 10 = .ok (.aload_n 0, 1) := by decide +kernel
theorem dX11_judge_11 : decode cX11_judge 11 = .ok (.iload_n 1, 1) := by decide +kernel
theorem dX11_judge_12 : decode cX11_judge 12 = .ok (.invokevirtual 45, 3) := by decide +kernel
theorem dX11_judge_15 : decode cX11_judge 15 = .ok (.ireturn, 1) := by decide +kernel
theorem dX11_judge_16 : decode cX11_judge 16 = .ok (.aload_n 0, 1) := by decide +kernel
theorem dX11_judge_17 : decode cX11_judge 17 = .ok (.getfield 16, 3) := by decide +kernel
theorem dX11_judge_20 : decode cX11_judge 20 = .ok (.aload_n 0, 1) := by decide +kernel
theorem dX11_judge_21 : decode cX11_judge 21 = .ok (.getfield 10, 3) := by decide +kernel
theorem dX11_judge_24 : decode cX11_judge 24 = .ok (.invokevirtual 57, 3) := by decide +kernel
theorem dX11_judge_27 : decode cX11_judge 27 = .ok (.iconst 0, 1) := by decide +kernel
theorem dX11_judge_28 : decode cX11_judge 28 = .ok (.istore_n 3, 1) := by decide +kernel
theorem dX11_judge_29 : decode cX11_judge 29 = .ok (.iload_n 3, 1) := by decide +kernel
theorem dX11_judge_30 : decode cX11_judge 30 = .ok (.aload_n 2, 1) := by decide +kernel
theorem dX11_judge_31 : decode cX11_judge 31 = .ok (.invokevirtual 61, 3) := by decide +kernel
theorem dX11_judge_34 : decode cX11_judge 34 = .ok (.if_icmp .ge 118, 3) := by decide +kernel
theorem dX11_judge_37 : decode cX11_judge 37 = .ok (.iload_n 3, 1) := by decide +kernel
theorem dX11_judge_38 : decode cX11_judge 38 = .ok (.iconst 3, 1) := by decide +kernel
theorem dX11_judge_39 : decode cX11_judge 39 = .ok (.iadd, 1) := by decide +kernel
theorem dX11_judge_40 : decode cX11_judge 40 = .ok (.aload_n 2, 1) := by decide +kernel
theorem dX11_judge_41 : decode cX11_judge 41 = .ok (.invokevirtual 61, 3) := by decide +kernel
theorem dX11_judge_44 : decode cX11_judge 44 = .ok (.if_icmp .le 5, 3) := by decide +kernel
theorem dX11_judge_47 : decode cX11_judge 47 = .ok (.iload_n 3, 1) := by decide +kernel
theorem dX11_judge_48 : decode cX11_judge 48 = .ok (.ireturn, 1) := by decide +kernel
theorem dX11_judge_49 : decode cX11_judge 49 = .ok (.aload_n 2, 1) := by decide +kernel
theorem dX11_judge_50 : decode cX11_judge 50 = .ok (.iload_n 3, 1) := by decide +kernel
theorem dX11_judge_51 : decode cX11_judge 51 = .ok (.invokevirtual 69, 3) := by decide +kernel
theorem dX11_judge_54 : decode cX11_judge 54 = .ok (.istore 4, 2) := by decide +kernel
theorem dX11_judge_56 : decode cX11_judge 56 = .ok (.aload_n 2, 1) := by decide +kernel
theorem dX11_judge_57 : decode cX11_judge 57 = .ok (.iload_n 3, 1) := by decide +kernel
theorem dX11_judge_58 : decode cX11_judge 58 = .ok (.iconst 1, 1) := by decide +kernel
theorem dX11_judge_59 : decode cX11_judge 59 = .ok (.iadd, 1) := by decide +kernel
theorem dX11_judge_60 : decode cX11_judge 60 = .ok (.invokevirtual 69, 3) := by decide +kernel
theorem dX11_judge_63 : decode cX11_judge 63 = .ok (.istore 5, 2) := by decide +kernel
theorem dX11_judge_65 : decode cX11_judge 65 = .ok (.aload_n 0, 1) := by decide +kernel
theorem dX11_judge_66 : decode cX11_judge 66 = .ok (.getfield 16, 3) := by decide +kernel
theorem dX11_judge_69 : decode cX11_judge 69 = .ok (.iload 4, 2) := by decide +kernel
theorem dX11_judge_71 : decode cX11_judge 71 = .ok (.invokevirtual 130, 3) := by decide +kernel
theorem dX11_judge_74 : decode cX11_judge 74 = .ok (.ifCond .ne 5, 3) := by decide +kernel
theorem dX11_judge_77 : decode cX11_judge 77 = .ok (.iload_n 3, 1) := by decide +kernel
theorem dX11_judge_78 : decode cX11_judge 78 = .ok (.ireturn, 1) := by decide +kernel
theorem dX11_judge_79 : decode cX11_judge 79 = .ok (.aload_n 0, 1) := by decide +kernel
theorem dX11_judge_80 : decode cX11_judge 80 = .ok (.getfield 16, 3) := by decide +kernel
theorem dX11_judge_83 : decode cX11_judge 83 = .ok (.iload 5, 2) := by decide +kernel
theorem dX11_judge_85 : decode cX11_judge 85 = .ok (.invokevirtual 75, 3) := by decide +kernel
theorem dX11_judge_88 : decode cX11_judge 88 = .ok (.ifCond .eq 17, 3) := by decide +kernel
theorem dX11_judge_91 : decode cX11_judge 91 = .ok (.aload_n 0, 1) := by decide +kernel
theorem dX11_judge_92 : decode cX11_judge 92 = .ok (.getfield 16, 3) := by decide +kernel
theorem dX11_judge_95 : decode cX11_judge 95 = .ok (.iload 4, 2) := by decide +kernel
theorem dX11_judge_97 : decode cX11_judge 97 = .ok (.iload 5, 2) := by decide +kernel
theorem dX11_judge_99 : decode cX11_judge 99 = .ok (.invokevirtual 124, 3) := by decide +kernel
theorem dX11_judge_102 : decode cX11_judge 102 = .ok (.ifCond .ne 7, 3) := by decide +kernel
theorem dX11_judge_105 : decode cX11_judge 105 = .ok (.iload_n 3, 1) := by decide +kernel
theorem dX11_judge_106 : decode cX11_judge 106 = .ok (.iconst 1, 1) := by decide +kernel
theorem dX11_judge_107 : decode cX11_judge 107 = .ok (.iadd, 1) := by decide +kernel
theorem dX11_judge_108 : decode cX11_judge 108 = .ok (.ireturn, 1) := by decide +kernel
theorem dX11_judge_109 : decode cX11_judge 109 = .ok (.aload_n 0, 1) := by decide +kernel
theorem dX11_judge_110 : decode cX11_judge 110 = .ok (.getfield 16, 3) := by decide +kernel
theorem dX11_judge_113 : decode cX11_judge 113 = .ok (.iload 4, 2) := by decide +kernel
theorem dX11_judge_115 : decode cX11_judge 115 = .ok (.iload 5, 2) := by decide +kernel
theorem dX11_judge_117 : decode cX11_judge 117 = .ok (.invokevirtual 127, 3) := by decide +kernel
theorem dX11_judge_120 : decode cX11_judge 120 = .ok (.ifCond .eq 7, 3) := by decide +kernel
theorem dX11_judge_123 : decode cX11_judge 123 = .ok (.iconst 1, 1) := by decide +kernel
theorem dX11_judge_124 : decode cX11_judge 124 = .ok (.goto 4, 3) := by decide +kernel
theorem dX11_judge_127 : decode cX11_judge 127 = .ok (.iconst 0, 1) := by decide +kernel
theorem dX11_judge_128 : decode cX11_judge 128 = .ok (.istore 6, 2) := by decide +kernel
theorem dX11_judge_130 : decode cX11_judge 130 = .ok (.aload_n 2, 1) := by decide +kernel
theorem dX11_judge_131 : decode cX11_judge 131 = .ok (.iload_n 3, 1) := by decide +kernel
theorem dX11_judge_132 : decode cX11_judge 132 = .ok (.iconst 2, 1) := by decide +kernel
theorem dX11_judge_133 : decode cX11_judge 133 = .ok (.iadd, 1) := by decide +kernel
theorem dX11_judge_134 : decode cX11_judge 134 = .ok (.invokevirtual 69, 3) := by decide +kernel
theorem dX11_judge_137 : decode cX11_judge 137 = .ok (.iload 6, 2) := by decide +kernel
theorem dX11_judge_139 : decode cX11_judge 139 = .ok (.if_icmp .eq 7, 3) := by decide +kernel
theorem dX11_judge_142 : decode cX11_judge 142 = .ok (.iload_n 3, 1) := by decide +kernel
theorem dX11_judge_143 : decode cX11_judge 143 = .ok (.iconst 2, 1) := by decide +kernel
theorem dX11_judge_144 : decode cX11_judge 144 = .ok (.iadd, 1) := by decide +kernel
theorem dX11_judge_145 : decode cX11_judge 145 = .ok (.ireturn, 1) := by decide +kernel
theorem dX11_judge_146 : decode cX11_judge 146 = .ok (.iinc 3 3, 3) := by decide +kernel
theorem dX11_judge_149 : decode cX11_judge 149 = .ok (.goto (-120), 3) := by decide +kernel
theorem dX11_judge_152 : decode cX11_judge 152 = .ok (.bipush (-4), 2) := by decide +kernel
theorem dX11_judge_154 : decode cX11_judge 154 = .ok (.ireturn, 1) := by decide +kernel
set_option maxRecDepth 20000 in
theorem ggX11_image_X9_become : GoodIn wsX11_image wsX9_become := goodIn_r _ [8, 9, 10, 11, 12, 13, 14, 15, 16, 17, 18, 19, 20, 21, 22, 41, 42, 43, 44, 45, 46, 47, 48, 49, 50] (by decide +kernel) (by decide +kernel)
set_option maxRecDepth 20000 in
theorem gX11_image_X9_become : GoodIn wsX11_image (wsV RX11 57 RX9 yX9_become wsX9_become) := goodIn_app (goodIn_of _ (by decide +kernel)) ggX11_image_X9_become
set_option maxRecDepth 20000 in
theorem ggX11_image_X9_countTrue : GoodIn wsX11_image wsX9_countTrue := goodIn_r _ [26, 11, 27, 28, 29, 30, 31, 32, 33, 41, 42, 43, 44, 45, 46, 47, 48, 49, 50] (by decide +kernel) (by decide +kernel)
set_option maxRecDepth 20000 in
theorem gX11_image_X9_countTrue : GoodIn wsX11_image (wsV RX11 198 RX9 yX9_countTrue wsX9_countTrue) := goodIn_app (goodIn_of _ (by decide +kernel)) ggX11_image_X9_countTrue
theorem dX11_image_0 : decode cX11_image 0 = .ok (.aload_n 0, 1) := by decide +kernel
theorem dX11_image_1 : decode cX11_image 1 = .ok (.getfield 19, 3) := by decide +kernel
theorem dX11_image_4 : decode cX11_image 4 = .ok (.aload_n 0, 1) := by decide +kernel
theorem dX11_image_5 : decode cX11_image 5 = .ok (.getfield 10, 3) := by decide +kernel
theorem dX11_image_8 : decode cX11_image 8 = .ok (.invokevirtual 57, 3) := by decide +kernel
theorem dX11_image_11 : decode cX11_image 11 = .ok (.aload_n 0, 1) := by decide +kernel
theorem dX11_image_12 : decode cX11_image 12 = .ok (.iconst 1, 1) := by decide +kernel
theorem dX11_image_13 : decode cX11_image 13 = .ok (.putfield 213, 3) := by decide +kernel
theorem dX11_image_16 : decode cX11_image 16 = .ok (.aload_n 0, 1) := by decide +kernel
theorem dX11_image_17 : decode cX11_image 17 = .ok (.getfield 10, 3) := by decide +kernel
theorem dX11_image_20 : decode cX11_image 20 = .ok (.invokevirtual 198, 3) := by decide +kernel
theorem dX11_image_23 : decode cX11_image 23 = .ok (.ireturn, 1) := by decide +kernel
set_option maxRecDepth 20000 in
theorem ggX11_restore_X9_become : GoodIn wsX11_restore wsX9_become := goodIn_r _ [8, 9, 10, 11, 12, 13, 14, 15, 16, 17, 18, 19, 20, 21, 22, 41, 42, 43, 44, 45, 46, 47, 48, 49, 50] (by decide +kernel) (by decide +kernel)
set_option maxRecDepth 20000 in
theorem gX11_restore_X9_become : GoodIn wsX11_restore (wsV RX11 57 RX9 yX9_become wsX9_become) := goodIn_app (goodIn_of _ (by decide +kernel)) ggX11_restore_X9_become
set_option maxRecDepth 20000 in
theorem ggX11_restore_X9_countTrue : GoodIn wsX11_restore wsX9_countTrue := goodIn_r _ [26, 11, 27, 28, 29, 30, 31, 32, 33, 41, 42, 43, 44, 45, 46, 47, 48, 49, 50] (by decide +kernel) (by decide +kernel)
set_option maxRecDepth 20000 in
theorem gX11_restore_X9_countTrue : GoodIn wsX11_restore (wsV RX11 198 RX9 yX9_countTrue wsX9_countTrue) := goodIn_app (goodIn_of _ (by decide +kernel)) ggX11_restore_X9_countTrue
theorem dX11_restore_0 : decode cX11_restore 0 = .ok (.aload_n 0, 1) := by decide +kernel
theorem dX11_restore_1 : decode cX11_restore 1 = .ok (.getfield 213, 3) := by decide +kernel
theorem dX11_restore_4 : decode cX11_restore 4 = .ok (.ifCond .ne 6, 3) := by decide +kernel
theorem dX11_restore_7 : decode cX11_restore 7 = .ok (.bipush (-3), 2) := by decide +kernel
theorem dX11_restore_9 : decode cX11_restore 9 = .ok (.ireturn, 1) := by decide +kernel
theorem dX11_restore_10 : decode cX11_restore 10 = .ok (.aload_n 0, 1) := by decide +kernel
theorem dX11_restore_11 : decode cX11_restore 11 = .ok (.getfield 10, 3) := by decide +kernel
theorem dX11_restore_14 : decode cX11_restore 14 = .ok (.aload_n 0, 1) := by decide +kernel
theorem dX11_restore_15 : decode cX11_restore 15 = .ok (.getfield 19, 3) := by decide +kernel
theorem dX11_restore_18 : decode cX11_restore 18 = .ok (.invokevirtual 57, 3) := by decide +kernel
theorem dX11_restore_21 : decode cX11_restore 21 = .ok (.aload_n 0, 1) := by decide +kernel
theorem dX11_restore_22 : decode cX11_restore 22 = .ok (.getfield 10, 3) := by decide +kernel
theorem dX11_restore_25 : decode cX11_restore 25 = .ok (.invokevirtual 198, 3) := by decide +kernel
theorem dX11_restore_28 : decode cX11_restore 28 = .ok (.ireturn, 1) := by decide +kernel
set_option maxRecDepth 20000 in
theorem ggX11_count_X9_countSentences : GoodIn wsX11_count wsX9_countSentences := goodIn_r _ [6, 7, 42, 43, 44, 45, 46, 47, 48, 49, 50, 51] (by decide +kernel) (by decide +kernel)
set_option maxRecDepth 20000 in
theorem gX11_count_X9_countSentences : GoodIn wsX11_count (wsV RX11 204 RX9 yX9_countSentences wsX9_countSentences) := goodIn_app (goodIn_of _ (by decide +kernel)) ggX11_count_X9_countSentences
set_option maxRecDepth 20000 in
theorem ggX11_count_X9_countDeniers : GoodIn wsX11_count wsX9_countDeniers := goodIn_r _ [11, 12, 42, 43, 44, 45, 46, 47, 48, 49, 50, 51] (by decide +kernel) (by decide +kernel)
set_option maxRecDepth 20000 in
theorem gX11_count_X9_countDeniers : GoodIn wsX11_count (wsV RX11 201 RX9 yX9_countDeniers wsX9_countDeniers) := goodIn_app (goodIn_of _ (by decide +kernel)) ggX11_count_X9_countDeniers
set_option maxRecDepth 20000 in
theorem ggX11_count_X9_today : GoodIn wsX11_count wsX9_today := goodIn_r _ [16, 17, 42, 43, 44, 45, 46, 47, 48, 49, 50, 51] (by decide +kernel) (by decide +kernel)
set_option maxRecDepth 20000 in
theorem gX11_count_X9_today : GoodIn wsX11_count (wsV RX11 217 RX9 yX9_today wsX9_today) := goodIn_app (goodIn_of _ (by decide +kernel)) ggX11_count_X9_today
set_option maxRecDepth 20000 in
theorem ggX11_count_X9_countTrue : GoodIn wsX11_count wsX9_countTrue := goodIn_r _ [21, 22, 23, 24, 25, 26, 27, 28, 29, 42, 43, 44, 45, 46, 47, 48, 49, 50, 51] (by decide +kernel) (by decide +kernel)
set_option maxRecDepth 20000 in
theorem gX11_count_X9_countTrue : GoodIn wsX11_count (wsV RX11 198 RX9 yX9_countTrue wsX9_countTrue) := goodIn_app (goodIn_of _ (by decide +kernel)) ggX11_count_X9_countTrue
set_option maxRecDepth 20000 in
theorem ggX11_count_X9_countAlive : GoodIn wsX11_count wsX9_countAlive := goodIn_r _ [33, 34, 23, 24, 25, 26, 27, 28, 29, 42, 43, 44, 45, 46, 47, 48, 49, 50, 51] (by decide +kernel) (by decide +kernel)
set_option maxRecDepth 20000 in
theorem gX11_count_X9_countAlive : GoodIn wsX11_count (wsV RX11 220 RX9 yX9_countAlive wsX9_countAlive) := goodIn_app (goodIn_of _ (by decide +kernel)) ggX11_count_X9_countAlive
theorem dX11_count_0 : decode cX11_count 0 = .ok (.iload_n 1, 1) := by decide +kernel
theorem dX11_count_1 : decode cX11_count 1 = .ok (.tableswitch 75 0 4 #[35, 43, 51, 59, 67], 35) := by decide +kernel
theorem dX11_count_36 : decode cX11_count 36 = .ok (.aload_n 0, 1) := by decide +kernel
theorem dX11_count_37 : decode cX11_count 37 = .ok (.getfield 10, 3) := by decide +kernel
theorem dX11_count_40 : decode cX11_count 40 = .ok (.invokevirtual 204, 3) := by decide +kernel
theorem dX11_count_43 : decode cX11_count 43 = .ok (.ireturn, 1) := by decide +kernel
theorem dX11_count_44 : decode cX11_count 44 = .ok (.aload_n 0, 1) := by decide +kernel
theorem dX11_count_45 : decode cX11_count 45 = .ok (.getfield 10, 3) := by decide +kernel
theorem dX11_count_48 : decode cX11_count 48 = .ok (.invokevirtual 201, 3) := by decide +kernel
theorem dX11_count_51 : decode cX11_count 51 = .ok (.ireturn, 1) := by decide +kernel
theorem dX11_count_52 : decode cX11_count 52 = .ok (.aload_n 0, 1) := by decide +kernel
theorem dX11_count_53 : decode cX11_count 53 = .ok (.getfield 10, 3) := by decide +kernel
theorem dX11_count_56 : decode cX11_count 56 = .ok (.invokevirtual 217, 3) := by decide +kernel
theorem dX11_count_59 : decode cX11_count 59 = .ok (.ireturn, 1) := by decide +kernel
theorem dX11_count_60 : decode cX11_count 60 = .ok (.aload_n 0, 1) := by decide +kernel
theorem dX11_count_61 : decode cX11_count 61 = .ok (.getfield 10, 3) := by decide +kernel
theorem dX11_count_64 : decode cX11_count 64 = .ok (.invokevirtual 198, 3) := by decide +kernel
theorem dX11_count_67 : decode cX11_count 67 = .ok (.ireturn, 1) := by decide +kernel
theorem dX11_count_68 : decode cX11_count 68 = .ok (.aload_n 0, 1) := by decide +kernel
theorem dX11_count_69 : decode cX11_count 69 = .ok (.getfield 10, 3) := by decide +kernel
theorem dX11_count_72 : decode cX11_count 72 = .ok (.invokevirtual 220, 3) := by decide +kernel
theorem dX11_count_75 : decode cX11_count 75 = .ok (.ireturn, 1) := by decide +kernel
theorem dX11_count_76 : decode cX11_count 76 = .ok (.iconst (-1), 1) := by decide +kernel
theorem dX11_count_77 : decode cX11_count 77 = .ok (.ireturn, 1) := by decide +kernel
set_option maxRecDepth 20000 in
theorem ggX11_keep_X11_isShelf : GoodIn wsX11_keep wsX11_isShelf := goodIn_r _ [4] (by decide +kernel) (by decide +kernel)
set_option maxRecDepth 20000 in
theorem gX11_keep_X11_isShelf : GoodIn wsX11_keep (va_wsS RX11 223 yX11_isShelf wsX11_isShelf) := goodIn_app (goodIn_of _ (by decide +kernel)) ggX11_keep_X11_isShelf
set_option maxRecDepth 20000 in
theorem ggX11_keep_X11_fillShelf : GoodIn wsX11_keep wsX11_fillShelf := goodIn_r _ [8, 9, 10, 77, 78, 79, 80, 81, 82, 83] (by decide +kernel) (by decide +kernel)
set_option maxRecDepth 20000 in
theorem gX11_keep_X11_fillShelf : GoodIn wsX11_keep (wsV RX11 226 RX11 yX11_fillShelf wsX11_fillShelf) := goodIn_app (goodIn_of _ (by decide +kernel)) ggX11_keep_X11_fillShelf
set_option maxRecDepth 20000 in
theorem ggX11_keep_X11_isFigure : GoodIn wsX11_keep wsX11_isFigure := goodIn_r _ [13] (by decide +kernel) (by decide +kernel)
set_option maxRecDepth 20000 in
theorem gX11_keep_X11_isFigure : GoodIn wsX11_keep (va_wsS RX11 180 yX11_isFigure wsX11_isFigure) := goodIn_app (goodIn_of _ (by decide +kernel)) ggX11_keep_X11_isFigure
set_option maxRecDepth 20000 in
theorem ggX11_keep_X11_newDenier : GoodIn wsX11_keep wsX11_newDenier := goodIn_r _ [16, 17, 18, 19, 20, 21, 22, 23, 24, 25, 26, 27, 28, 29, 30, 31, 32, 33, 34, 35, 36, 37, 38, 39, 40, 41, 42, 43, 44, 45, 46, 47, 48, 49, 50, 51, 52, 53, 54, 55, 56, 57, 58, 59, 60, 61, 62, 63, 64, 65, 66, 67, 68, 69, 70, 71, 72, 73, 74, 75, 76, 84, 85, 86, 87, 88, 89, 90, 91, 92, 93, 94, 95, 96, 97, 98, 99] (by decide +kernel) (by decide +kernel)
set_option maxRecDepth 20000 in
theorem gX11_keep_X11_newDenier : GoodIn wsX11_keep (va_wsS RX11 183 yX11_newDenier wsX11_newDenier) := goodIn_app (goodIn_of _ (by decide +kernel)) ggX11_keep_X11_newDenier
theorem dX11_keep_0 : decode cX11_keep 0 = .ok (.iload_n 1, 1) := by decide +kernel
theorem dX11_keep_1 : decode cX11_keep 1 = .ok (.invokestatic 223, 3) := by decide +kernel
theorem dX11_keep_4 : decode cX11_keep 4 = .ok (.ifCond .ne 5, 3) := by decide +kernel
theorem dX11_keep_7 : decode cX11_keep 7 = .ok (.iconst (-1), 1) := by decide +kernel
theorem dX11_keep_8 : decode cX11_keep 8 = .ok (.ireturn, 1) := by decide +kernel
theorem dX11_keep_9 : decode cX11_keep 9 = .ok (.iload_n 2, 1) := by decide +kernel
theorem dX11_keep_10 : decode cX11_keep 10 = .ok (.ifCond .ne 12, 3) := by decide +kernel
theorem dX11_keep_13 : decode cX11_keep 13 = .ok (.aload_n 0, 1) := by decide +kernel
theorem dX11_keep_14 : decode cX11_keep 14 = .ok (.iload_n 1, 1) := by decide +kernel
theorem dX11_keep_15 : decode cX11_keep 15 = .ok (.aconst_null, 1) := by decide +kernel
theorem dX11_keep_16 : decode cX11_keep 16 = .ok (.aconst_null, 1) := by decide +kernel
theorem dX11_keep_17 : decode cX11_keep 17 = .ok (.invokevirtual 226, 3) := by decide +kernel
theorem dX11_keep_20 : decode cX11_keep 20 = .ok (.iconst 0, 1) := by decide +kernel
theorem dX11_keep_21 : decode cX11_keep 21 = .ok (.ireturn, 1) := by decide +kernel
theorem dX11_keep_22 : decode cX11_keep 22 = .ok (.iload_n 2, 1) := by decide +kernel
theorem dX11_keep_23 : decode cX11_keep 23 = .ok (.iconst 1, 1) := by decide +kernel
theorem dX11_keep_24 : decode cX11_keep 24 = .ok (.if_icmp .ne 21, 3) := by decide +kernel
theorem dX11_keep_27 : decode cX11_keep 27 = .ok (.iload_n 3, 1) := by decide +kernel
theorem dX11_keep_28 : decode cX11_keep 28 = .ok (.ifCond .lt 17, 3) := by decide +kernel
theorem dX11_keep_31 : decode cX11_keep 31 = .ok (.iload_n 3, 1) := by decide +kernel
theorem dX11_keep_32 : decode cX11_keep 32 = .ok (.bipush 8, 2) := by decide +kernel
theorem dX11_keep_34 : decode cX11_keep 34 = .ok (.if_icmp .ge 11, 3) := by decide +kernel
theorem dX11_keep_37 : decode cX11_keep 37 = .ok (.iload 4, 2) := by decide +kernel
theorem dX11_keep_39 : decode cX11_keep 39 = .ok (.invokestatic 180, 3) := by decide +kernel
theorem dX11_keep_42 : decode cX11_keep 42 = .ok (.ifCond .ne 5, 3) := by decide +kernel
theorem dX11_keep_45 : decode cX11_keep 45 = .ok (.iconst (-1), 1) := by decide +kernel
theorem dX11_keep_46 : decode cX11_keep 46 = .ok (.ireturn, 1) := by decide +kernel
theorem dX11_keep_47 : decode cX11_keep 47 = .ok (.aload_n 0, 1) := by decide +kernel
theorem dX11_keep_48 : decode cX11_keep 48 = .ok (.iload_n 1, 1) := by decide +kernel
theorem dX11_keep_49 : decode cX11_keep 49 = .ok (.iload_n 3, 1) := by decide +kernel
theorem dX11_keep_50 : decode cX11_keep 50 = .ok (.iload 4, 2) := by decide +kernel
theorem dX11_keep_52 : decode cX11_keep 52 = .ok (.invokestatic 183, 3) := by decide +kernel
theorem dX11_keep_55 : decode cX11_keep 55 = .ok (.aconst_null, 1) := by decide +kernel
theorem dX11_keep_56 : decode cX11_keep 56 = .ok (.invokevirtual 226, 3) := by decide +kernel
theorem dX11_keep_59 : decode cX11_keep 59 = .ok (.iconst 0, 1) := by decide +kernel
theorem dX11_keep_60 : decode cX11_keep 60 = .ok (.ireturn, 1) := by decide +kernel
set_option maxRecDepth 20000 in
theorem ggX11_row_X11_isShelf : GoodIn wsX11_row wsX11_isShelf := goodIn_r _ [8] (by decide +kernel) (by decide +kernel)
set_option maxRecDepth 20000 in
theorem gX11_row_X11_isShelf : GoodIn wsX11_row (va_wsS RX11 223 yX11_isShelf wsX11_isShelf) := goodIn_app (goodIn_of _ (by decide +kernel)) ggX11_row_X11_isShelf
set_option maxRecDepth 20000 in
theorem ggX11_row_X8_init : GoodIn wsX11_row wsX8_init := goodIn_r _ [11, 12, 13, 14, 15, 16, 23, 24] (by decide +kernel) (by decide +kernel)
set_option maxRecDepth 20000 in
theorem gX11_row_X8_init : GoodIn wsX11_row (wsX8_init) := ggX11_row_X8_init
set_option maxRecDepth 20000 in
theorem ggX11_row_X11_fillShelf : GoodIn wsX11_row wsX11_fillShelf := goodIn_r _ [20, 21, 22, 25, 26, 27, 28, 29, 30, 31] (by decide +kernel) (by decide +kernel)
set_option maxRecDepth 20000 in
theorem gX11_row_X11_fillShelf : GoodIn wsX11_row (wsV RX11 226 RX11 yX11_fillShelf wsX11_fillShelf) := goodIn_app (goodIn_of _ (by decide +kernel)) ggX11_row_X11_fillShelf
theorem dX11_row_0 : decode cX11_row 0 = .ok (.iload_n 1, 1) := by decide +kernel
theorem dX11_row_1 : decode cX11_row 1 = .ok (.invokestatic 223, 3) := by decide +kernel
theorem dX11_row_4 : decode cX11_row 4 = .ok (.ifCond .eq 18, 3) := by decide +kernel
theorem dX11_row_7 : decode cX11_row 7 = .ok (.iload_n 2, 1) := by decide +kernel
theorem dX11_row_8 : decode cX11_row 8 = .ok (.ifCond .lt 14, 3) := by decide +kernel
theorem dX11_row_11 : decode cX11_row 11 = .ok (.iload_n 2, 1) := by decide +kernel
theorem dX11_row_12 : decode cX11_row 12 = .ok (.iconst 3, 1) := by decide +kernel
theorem dX11_row_13 : decode cX11_row 13 = .ok (.if_icmp .ge 9, 3) := by decide +kernel
theorem dX11_row_16 : decode cX11_row 16 = .ok (.iload_n 3, 1) := by decide +kernel
theorem dX11_row_17 : decode cX11_row 17 = .ok (.bipush 100, 2) := by decide +kernel
theorem dX11_row_19 : decode cX11_row 19 = .ok (.if_icmp .le 5, 3) := by decide +kernel
theorem dX11_row_22 : decode cX11_row 22 = .ok (.iconst (-1), 1) := by decide +kernel
theorem dX11_row_23 : decode cX11_row 23 = .ok (.ireturn, 1) := by decide +kernel
theorem dX11_row_24 : decode cX11_row 24 = .ok (.iload_n 3, 1) := by decide +kernel
theorem dX11_row_25 : decode cX11_row 25 = .ok (.ifCond .ge 6, 3) := by decide +kernel
theorem dX11_row_28 : decode cX11_row 28 = .ok (.bipush (-14), 2) := by decide +kernel
theorem dX11_row_30 : decode cX11_row 30 = .ok (.ireturn, 1) := by decide +kernel
theorem dX11_row_31 : decode cX11_row 31 = .ok (.aload_n 0, 1) := by decide +kernel
theorem dX11_row_32 : decode cX11_row 32 = .ok (.iload_n 1, 1) := by decide +kernel
theorem dX11_row_33 : decode cX11_row 33 = .ok (.aconst_null, 1) := by decide +kernel
theorem dX11_row_34 : decode cX11_row 34 = .ok (.new 35, 3) := by decide +kernel
theorem dX11_row_37 : decode cX11_row 37 = .ok (.dup, 1) := by decide +kernel
theorem dX11_row_38 : decode cX11_row 38 = .ok (.iload_n 2, 1) := by decide +kernel
theorem dX11_row_39 : decode cX11_row 39 = .ok (.iload_n 3, 1) := by decide +kernel
theorem dX11_row_40 : decode cX11_row 40 = .ok (.newarray .int, 2) := by decide +kernel
theorem dX11_row_42 : decode cX11_row 42 = .ok (.invokespecial 230, 3) := by decide +kernel
theorem dX11_row_45 : decode cX11_row 45 = .ok (.invokevirtual 226, 3) := by decide +kernel
theorem dX11_row_48 : decode cX11_row 48 = .ok (.iconst 0, 1) := by decide +kernel
theorem dX11_row_49 : decode cX11_row 49 = .ok (.ireturn, 1) := by decide +kernel
set_option maxRecDepth 20000 in
theorem ggX11_put_X11_rowAt : GoodIn wsX11_put wsX11_rowAt := goodIn_r _ [5, 6, 38, 39, 40, 41, 42, 43, 44] (by decide +kernel) (by decide +kernel)
set_option maxRecDepth 20000 in
theorem gX11_put_X11_rowAt : GoodIn wsX11_put (wsV RX11 41 RX11 yX11_rowAt wsX11_rowAt) := goodIn_app (goodIn_of _ (by decide +kernel)) ggX11_put_X11_rowAt
set_option maxRecDepth 20000 in
theorem ggX11_put_X11_whyMissing : GoodIn wsX11_put wsX11_whyMissing := goodIn_r _ [10, 11, 12, 4, 13, 14, 15, 16, 17, 1, 2, 3, 5, 6, 18, 19, 20, 21, 22, 38, 39, 40, 41, 42, 43, 44] (by decide +kernel) (by decide +kernel)
set_option maxRecDepth 20000 in
theorem gX11_put_X11_whyMissing : GoodIn wsX11_put (wsV RX11 45 RX11 yX11_whyMissing wsX11_whyMissing) := goodIn_app (goodIn_of _ (by decide +kernel)) ggX11_put_X11_whyMissing
set_option maxRecDepth 20000 in
theorem ggX11_put_X8_hasPlace : GoodIn wsX11_put wsX8_hasPlace := goodIn_r _ [27, 28, 45, 46] (by decide +kernel) (by decide +kernel)
set_option maxRecDepth 20000 in
theorem gX11_put_X8_hasPlace : GoodIn wsX11_put (wsV RX11 233 RX8 yX8_hasPlace wsX8_hasPlace) := goodIn_app (goodIn_of _ (by decide +kernel)) ggX11_put_X8_hasPlace
set_option maxRecDepth 20000 in
theorem ggX11_put_X8_store : GoodIn wsX11_put wsX8_store := goodIn_r _ [32, 28, 33, 34, 35, 26, 36, 37, 45, 46] (by decide +kernel) (by decide +kernel)
set_option maxRecDepth 20000 in
theorem gX11_put_X8_store : GoodIn wsX11_put (wsV RX11 236 RX8 yX8_store wsX8_store) := goodIn_app (goodIn_of _ (by decide +kernel)) ggX11_put_X8_store
theorem dX11_put_0 : decode cX11_put 0 = .ok (.aload_n 0, 1) := by decide +kernel
theorem dX11_put_1 : decode cX11_put 1 = .ok (.iload_n 1, 1) := by decide +kernel
theorem dX11_put_2 : decode cX11_put 2 = .ok (.invokevirtual 41, 3) := by decide +kernel
theorem dX11_put_5 : decode cX11_put 5 = .ok (.astore 4, 2) := by decide +kernel
theorem dX11_put_7 : decode cX11_put 7 = .ok (.aload 4, 2) := by decide +kernel
theorem dX11_put_9 : decode cX11_put 9 = .ok (.ifnonnull 9, 3) := by decide +kernel
theorem dX11_put_12 : decode cX11_put 12 = .ok (.aload_n 0, 1) := by decide +kernel
theorem dX11_put_13 : decode cX11_put 13 = .ok (.iload_n 1, 1) := by decide +kernel
theorem dX11_put_14 : decode cX11_put 14 = .ok (.invokevirtual 45, 3) := by decide +kernel
theorem dX11_put_17 : decode cX11_put 17 = .ok (.ireturn, 1) := by decide +kernel
theorem dX11_put_18 : decode cX11_put 18 = .ok (.aload 4, 2) := by decide +kernel
theorem dX11_put_20 : decode cX11_put 20 = .ok (.iload_n 2, 1) := by decide +kernel
theorem dX11_put_21 : decode cX11_put 21 = .ok (.invokevirtual 233, 3) := by decide +kernel
theorem dX11_put_24 : decode cX11_put 24 = .ok (.ifCond .ne 6, 3) := by decide +kernel
theorem dX11_put_27 : decode cX11_put 27 = .ok (.bipush (-13), 2) := by decide +kernel
theorem dX11_put_29 : decode cX11_put 29 = .ok (.ireturn, 1) := by decide +kernel
theorem dX11_put_30 : decode cX11_put 30 = .ok (.aload 4, 2) := by decide +kernel
theorem dX11_put_32 : decode cX11_put 32 = .ok (.iload_n 2, 1) := by decide +kernel
theorem dX11_put_33 : decode cX11_put 33 = .ok (.iload_n 3, 1) := by decide +kernel
theorem dX11_put_34 : decode cX11_put 34 = .ok (.invokevirtual 236, 3) := by decide +kernel
theorem dX11_put_37 : decode cX11_put 37 = .ok (.iconst 0, 1) := by decide +kernel
theorem dX11_put_38 : decode cX11_put 38 = .ok (.ireturn, 1) := by decide +kernel
set_option maxRecDepth 20000 in
theorem ggX11_element_X11_isShelf : GoodIn wsX11_element wsX11_isShelf := goodIn_r _ [8] (by decide +kernel) (by decide +kernel)
set_option maxRecDepth 20000 in
theorem gX11_element_X11_isShelf : GoodIn wsX11_element (va_wsS RX11 223 yX11_isShelf wsX11_isShelf) := goodIn_app (goodIn_of _ (by decide +kernel)) ggX11_element_X11_isShelf
set_option maxRecDepth 20000 in
theorem ggX11_element_X11_rowAt : GoodIn wsX11_element wsX11_rowAt := goodIn_r _ [12, 13, 24, 25, 26, 27, 28, 29, 30] (by decide +kernel) (by decide +kernel)
set_option maxRecDepth 20000 in
theorem gX11_element_X11_rowAt : GoodIn wsX11_element (wsV RX11 41 RX11 yX11_rowAt wsX11_rowAt) := goodIn_app (goodIn_of _ (by decide +kernel)) ggX11_element_X11_rowAt
set_option maxRecDepth 20000 in
theorem ggX11_element_X8_hasPlace : GoodIn wsX11_element wsX8_hasPlace := goodIn_r _ [18, 19, 31, 32] (by decide +kernel) (by decide +kernel)
set_option maxRecDepth 20000 in
theorem gX11_element_X8_hasPlace : GoodIn wsX11_element (wsV RX11 233 RX8 yX8_hasPlace wsX8_hasPlace) := goodIn_app (goodIn_of _ (by decide +kernel)) ggX11_element_X8_hasPlace
set_option maxRecDepth 20000 in
theorem ggX11_element_X8_at : GoodIn wsX11_element wsX8_at := goodIn_r _ [23, 19, 31, 32] (by decide +kernel) (by decide +kernel)
set_option maxRecDepth 20000 in
theorem gX11_element_X8_at : GoodIn wsX11_element (wsV RX11 69 RX8 yX8_at wsX8_at) := goodIn_app (goodIn_of _ (by decide +kernel)) ggX11_element_X8_at
theorem dX11_element_0 : decode cX11_element 0 = .ok (.iload_n 1, 1) := by decide +kernel
theorem dX11_element_1 : decode cX11_element 1 = .ok (.invokestatic 223, 3) := by decide +kernel
theorem dX11_element_4 : decode cX11_element 4 = .ok (.ifCond .ne 13, 3) := by decide +kernel
theorem dX11_element_7 : decode cX11_element 7 = .ok (.new 239, 3) := by decide +kernel
theorem dX11_element_10 : decode cX11_element 10 = .ok (.dup, 1) := by decide +kernel
theorem dX11_element_11 : decode cX11_element 11 = .ok (.ldc 241, 2) := by decide +kernel
theorem dX11_element_13 : decode cX11_element 13 = .ok (.invokespecial 243, 3) := by decide +kernel
theorem dX11_element_16 : decode cX11_element 16 = .ok (.athrow, 1) := by decide +kernel
theorem dX11_element_17 : decode cX11_element 17 = .ok (.aload_n 0, 1) := by decide +kernel
theorem dX11_element_18 : decode cX11_element 18 = .ok (.iload_n 1, 1) := by decide +kernel
theorem dX11_element_19 : decode cX11_element 19 = .ok (.invokevirtual 41, 3) := by decide +kernel
theorem dX11_element_22 : decode cX11_element 22 = .ok (.astore_n 3, 1) := by decide +kernel
theorem dX11_element_23 : decode cX11_element 23 = .ok (.aload_n 3, 1) := by decide +kernel
theorem dX11_element_24 : decode cX11_element 24 = .ok (.ifnull 11, 3) := by decide +kernel
theorem dX11_element_27 : decode cX11_element 27 = .ok (.aload_n 3, 1) := by decide +kernel
theorem dX11_element_28 : decode cX11_element 28 = .ok (.iload_n 2, 1) := by decide +kernel
theorem dX11_element_29 : decode cX11_element 29 = .ok (.invokevirtual 233, 3) := by decide +kernel
theorem dX11_element_32 : decode cX11_element 32 = .ok (.ifCond .ne 13, 3) := by decide +kernel
theorem dX11_element_35 : decode cX11_element 35 = .ok (.new 246, 3) := by decide +kernel
theorem dX11_element_38 : decode cX11_element 38 = .ok (.dup, 1) := by decide +kernel
theorem dX11_element_39 : decode cX11_element 39 = .ok (.ldc 248, 2) := by decide +kernel
theorem dX11_element_41 : decode cX11_element 41 = .ok (.invokespecial 250, 3) := by decide +kernel
theorem dX11_element_44 : decode cX11_element 44 = .ok (.athrow, 1) := by decide +kernel
theorem dX11_element_45 : decode cX11_element 45 = .ok (.aload_n 3, 1) := by decide +kernel
theorem dX11_element_46 : decode cX11_element 46 = .ok (.iload_n 2, 1) := by decide +kernel
theorem dX11_element_47 : decode cX11_element 47 = .ok (.invokevirtual 69, 3) := by decide +kernel
theorem dX11_element_50 : decode cX11_element 50 = .ok (.i2l, 1) := by decide +kernel
theorem dX11_element_51 : decode cX11_element 51 = .ok (.lreturn, 1) := by decide +kernel
set_option maxRecDepth 20000 in
theorem ggX11_copy_X11_isShelf : GoodIn wsX11_copy wsX11_isShelf := goodIn_r _ [8] (by decide +kernel) (by decide +kernel)
set_option maxRecDepth 20000 in
theorem gX11_copy_X11_isShelf : GoodIn wsX11_copy (va_wsS RX11 223 yX11_isShelf wsX11_isShelf) := goodIn_app (goodIn_of _ (by decide +kernel)) ggX11_copy_X11_isShelf
set_option maxRecDepth 20000 in
theorem ggX11_copy_X11_isEmpty : GoodIn wsX11_copy wsX11_isEmpty := goodIn_r _ [12, 13, 14, 15, 7, 16, 17, 18, 19, 20, 21, 22, 36, 37, 38, 39, 40, 41, 42] (by decide +kernel) (by decide +kernel)
set_option maxRecDepth 20000 in
theorem gX11_copy_X11_isEmpty : GoodIn wsX11_copy (wsV RX11 251 RX11 yX11_isEmpty wsX11_isEmpty) := goodIn_app (goodIn_of _ (by decide +kernel)) ggX11_copy_X11_isEmpty
set_option maxRecDepth 20000 in
theorem ggX11_copy_X11_rowAt : GoodIn wsX11_copy wsX11_rowAt := goodIn_r _ [16, 17, 36, 37, 38, 39, 40, 41, 42] (by decide +kernel) (by decide +kernel)
set_option maxRecDepth 20000 in
theorem gX11_copy_X11_rowAt : GoodIn wsX11_copy (wsV RX11 41 RX11 yX11_rowAt wsX11_rowAt) := goodIn_app (goodIn_of _ (by decide +kernel)) ggX11_copy_X11_rowAt
set_option maxRecDepth 20000 in
theorem ggX11_copy_X8_isOf : GoodIn wsX11_copy wsX8_isOf := goodIn_r _ [27, 28, 34, 35] (by decide +kernel) (by decide +kernel)
set_option maxRecDepth 20000 in
theorem gX11_copy_X8_isOf : GoodIn wsX11_copy (wsV RX11 49 RX8 yX8_isOf wsX8_isOf) := goodIn_app (goodIn_of _ (by decide +kernel)) ggX11_copy_X8_isOf
set_option maxRecDepth 20000 in
theorem ggX11_copy_X8_hasStretch : GoodIn wsX11_copy wsX8_hasStretch := goodIn_r _ [32, 33, 34, 35] (by decide +kernel) (by decide +kernel)
set_option maxRecDepth 20000 in
theorem gX11_copy_X8_hasStretch : GoodIn wsX11_copy (wsV RX11 257 RX8 yX8_hasStretch wsX8_hasStretch) := goodIn_app (goodIn_of _ (by decide +kernel)) ggX11_copy_X8_hasStretch
theorem dX11_copy_0 : decode cX11_copy 0 = .ok (.iload_n 1, 1) := by decide +kernel
theorem dX11_copy_1 : decode cX11_copy 1 = .ok (.invokestatic 223, 3) := by decide +kernel
theorem dX11_copy_4 : decode cX11_copy 4 = .ok (.ifCond .eq 10, 3) := by decide +kernel
theorem dX11_copy_7 : decode cX11_copy 7 = .ok (.iload_n 3, 1) := by decide +kernel
theorem dX11_copy_8 : decode cX11_copy 8 = .ok (.invokestatic 223, 3) := by decide +kernel
theorem dX11_copy_11 : decode cX11_copy 11 = .ok (.ifCond .ne 5, 3) := by decide +kernel
theorem dX11_copy_14 : decode cX11_copy 14 = .ok (.iconst (-1), 1) := by decide +kernel
theorem dX11_copy_15 : decode cX11_copy 15 = .ok (.ireturn, 1) := by decide +kernel
theorem dX11_copy_16 : decode cX11_copy 16 = .ok (.aload_n 0, 1) := by decide +kernel
theorem dX11_copy_17 : decode cX11_copy 17 = .ok (.iload_n 1, 1) := by decide +kernel
theorem dX11_copy_18 : decode cX11_copy 18 = .ok (.invokevirtual 251, 3) := by decide +kernel
theorem dX11_copy_21 : decode cX11_copy 21 = .ok (.ifCond .ne 11, 3) := by decide +kernel
theorem dX11_copy_24 : decode cX11_copy 24 = .ok (.aload_n 0, 1) := by decide +kernel
theorem dX11_copy_25 : decode cX11_copy 25 = .ok (.iload_n 3, 1) := by decide +kernel
theorem dX11_copy_26 : decode cX11_copy 26 = .ok (.invokevirtual 251, 3) := by decide +kernel
theorem dX11_copy_29 : decode cX11_copy 29 = .ok (.ifCond .eq 6, 3) := by decide +kernel
theorem dX11_copy_32 : decode cX11_copy 32 = .ok (.bipush (-11), 2) := by decide +kernel
theorem dX11_copy_34 : decode cX11_copy 34 = .ok (.ireturn, 1) := by decide +kernel
theorem dX11_copy_35 : decode cX11_copy 35 = .ok (.aload_n 0, 1) := by decide +kernel
theorem dX11_copy_36 : decode cX11_copy 36 = .ok (.iload_n 1, 1) := by decide +kernel
theorem dX11_copy_37 : decode cX11_copy 37 = .ok (.invokevirtual 41, 3) := by decide +kernel
theorem dX11_copy_40 : decode cX11_copy 40 = .ok (.astore 6, 2) := by decide +kernel
theorem dX11_copy_42 : decode cX11_copy 42 = .ok (.aload_n 0, 1) := by decide +kernel
theorem dX11_copy_43 : decode cX11_copy 43 = .ok (.iload_n 3, 1) := by decide +kernel
theorem dX11_copy_44 : decode cX11_copy 44 = .ok (.invokevirtual 41, 3) := by decide +kernel
theorem dX11_copy_47 : decode cX11_copy 47 = .ok (.astore 7, 2) := by decide +kernel
theorem dX11_copy_49 : decode cX11_copy 49 = .ok (.aload 6, 2) := by decide +kernel
theorem dX11_copy_51 : decode cX11_copy 51 = .ok (.ifnull 21, 3) := by decide +kernel
theorem dX11_copy_54 : decode cX11_copy 54 = .ok (.aload 7, 2) := by decide +kernel
theorem dX11_copy_56 : decode cX11_copy 56 = .ok (.ifnull 16, 3) := by decide +kernel
theorem dX11_copy_59 : decode cX11_copy 59 = .ok (.aload 7, 2) := by decide +kernel
theorem dX11_copy_61 : decode cX11_copy 61 = .ok (.aload 6, 2) := by decide +kernel
theorem dX11_copy_63 : decode cX11_copy 63 = .ok (.getfield 254, 3) := by decide +kernel
theorem dX11_copy_66 : decode cX11_copy 66 = .ok (.invokevirtual 49, 3) := by decide +kernel
theorem dX11_copy_69 : decode cX11_copy 69 = .ok (.ifCond .ne 6, 3) := by decide +kernel
theorem dX11_copy_72 : decode cX11_copy 72 = .ok (.bipush (-12), 2) := by decide +kernel
theorem dX11_copy_74 : decode cX11_copy 74 = .ok (.ireturn, 1) := by decide +kernel
theorem dX11_copy_75 : decode cX11_copy 75 = .ok (.aload 6, 2) := by decide +kernel
theorem dX11_copy_77 : decode cX11_copy 77 = .ok (.iload_n 2, 1) := by decide +kernel
theorem dX11_copy_78 : decode cX11_copy 78 = .ok (.iload 5, 2) := by decide +kernel
theorem dX11_copy_80 : decode cX11_copy 80 = .ok (.invokevirtual 257, 3) := by decide +kernel
theorem dX11_copy_83 : decode cX11_copy 83 = .ok (.ifCond .eq 15, 3) := by decide +kernel
theorem dX11_copy_86 : decode cX11_copy 86 = .ok (.aload 7, 2) := by decide +kernel
theorem dX11_copy_88 : decode cX11_copy 88 = .ok (.iload 4, 2) := by decide +kernel
theorem dX11_copy_90 : decode cX11_copy 90 = .ok (.iload 5, 2) := by decide +kernel
theorem dX11_copy_92 : decode cX11_copy 92 = .ok (.invokevirtual 257, 3) := by decide +kernel
theorem dX11_copy_95 : decode cX11_copy 95 = .ok (.ifCond .ne 6, 3) := by decide +kernel
theorem dX11_copy_98 : decode cX11_copy 98 = .ok (.bipush (-13), 2) := by decide +kernel
theorem dX11_copy_100 : decode cX11_copy 100 = .ok (.ireturn, 1) := by decide +kernel
theorem dX11_copy_101 : decode cX11_copy 101 = .ok (.aload 6, 2) := by decide +kernel
theorem dX11_copy_103 : decode cX11_copy 103 = .ok (.getfield 260, 3) := by decide +kernel
theorem dX11_copy_106 : decode cX11_copy 106 = .ok (.iload_n 2, 1) := by decide +kernel
theorem dX11_copy_107 : decode cX11_copy 107 = .ok (.aload 7, 2) := by decide +kernel
theorem dX11_copy_109 : decode cX11_copy 109 = .ok (.getfield 260, 3) := by decide +kernel
theorem dX11_copy_112 : decode cX11_copy 112 = .ok (.iload 4, 2) := by decide +kernel
theorem dX11_copy_114 : decode cX11_copy 114 = .ok (.iload 5, 2) := by decide +kernel
theorem dX11_copy_116 : decode cX11_copy 116 = .ok (.invokestatic 264, 3) := by decide +kernel
theorem dX11_copy_119 : decode cX11_copy 119 = .ok (.iload 5, 2) := by decide +kernel
theorem dX11_copy_121 : decode cX11_copy 121 = .ok (.ireturn, 1) := by decide +kernel
set_option maxRecDepth 20000 in
theorem ggX11_price_X11_denierAt : GoodIn wsX11_price wsX11_denierAt := goodIn_r _ [5, 6, 80, 81, 82, 83, 84, 85, 86] (by decide +kernel) (by decide +kernel)
set_option maxRecDepth 20000 in
theorem gX11_price_X11_denierAt : GoodIn wsX11_price (wsV RX11 110 RX11 yX11_denierAt wsX11_denierAt) := goodIn_app (goodIn_of _ (by decide +kernel)) ggX11_price_X11_denierAt
set_option maxRecDepth 20000 in
theorem ggX11_price_X11_whyMissing : GoodIn wsX11_price wsX11_whyMissing := goodIn_r _ [10, 11, 12, 4, 13, 14, 15, 16, 17, 18, 19, 20, 21, 22, 1, 2, 3, 5, 6, 80, 81, 82, 83, 84, 85, 86] (by decide +kernel) (by decide +kernel)
set_option maxRecDepth 20000 in
theorem gX11_price_X11_whyMissing : GoodIn wsX11_price (wsV RX11 45 RX11 yX11_whyMissing wsX11_whyMissing) := goodIn_app (goodIn_of _ (by decide +kernel)) ggX11_price_X11_whyMissing
set_option maxRecDepth 20000 in
theorem ggX11_price_X0_asks : GoodIn wsX11_price wsX0_asks := goodIn_r _ [29, 30, 31, 32, 33, 34, 35, 36, 37, 38, 24, 39, 40, 41, 42, 87, 88, 89, 90, 91, 92, 93, 94, 95, 96, 97, 98, 99, 100, 101, 102] (by decide +kernel) (by decide +kernel)
set_option maxRecDepth 20000 in
theorem gX11_price_X0_asks_u107X0 : GoodIn wsX11_price (va_wsO RX11 107 RX0 "HoldsOnceDenied$Denier" ⟨"HoldsOnceDenied$Denier", "asks", "()I"⟩ yX0_asks wsX0_asks) := goodIn_app (goodIn_of _ (by decide +kernel)) ggX11_price_X0_asks
set_option maxRecDepth 20000 in
theorem ggX11_price_X1_asks : GoodIn wsX11_price wsX1_asks := goodIn_r _ [46, 47, 48, 49, 50, 51, 52, 53, 24, 54, 40, 41, 42] (by decide +kernel) (by decide +kernel)
set_option maxRecDepth 20000 in
theorem gX11_price_X1_asks_u107X1 : GoodIn wsX11_price (va_wsO RX11 107 RX1 "HoldsOnceDenied$Denier" ⟨"HoldsOnceDenied$Denier", "asks", "()I"⟩ yX1_asks wsX1_asks) := goodIn_app (goodIn_of _ (by decide +kernel)) ggX11_price_X1_asks
set_option maxRecDepth 20000 in
theorem ggX11_price_X2_asks : GoodIn wsX11_price wsX2_asks := goodIn_r _ [42] (by decide +kernel) (by decide +kernel)
set_option maxRecDepth 20000 in
theorem gX11_price_X2_asks : GoodIn wsX11_price (wsV RX11 107 RX2 yX2_asks wsX2_asks) := goodIn_app (goodIn_of _ (by decide +kernel)) ggX11_price_X2_asks
set_option maxRecDepth 20000 in
theorem ggX11_price_X3_asks : GoodIn wsX11_price wsX3_asks := goodIn_r _ [52, 53, 24, 54, 40, 41, 42] (by decide +kernel) (by decide +kernel)
set_option maxRecDepth 20000 in
theorem gX11_price_X3_asks_u107X3 : GoodIn wsX11_price (va_wsO RX11 107 RX3 "HoldsOnceDenied$Denier" ⟨"HoldsOnceDenied$Denier", "asks", "()I"⟩ yX3_asks wsX3_asks) := goodIn_app (goodIn_of _ (by decide +kernel)) ggX11_price_X3_asks
set_option maxRecDepth 20000 in
theorem ggX11_price_X5_asks : GoodIn wsX11_price wsX5_asks := goodIn_r _ [35, 36, 37, 38, 24, 39, 40, 41, 42, 87, 88, 89, 90, 91, 92, 93, 94, 95, 96, 97, 98, 99, 100, 101, 102] (by decide +kernel) (by decide +kernel)
set_option maxRecDepth 20000 in
theorem gX11_price_X5_asks_u107X5 : GoodIn wsX11_price (va_wsO RX11 107 RX5 "HoldsOnceDenied$Denier" ⟨"HoldsOnceDenied$Denier", "asks", "()I"⟩ yX5_asks wsX5_asks) := goodIn_app (goodIn_of _ (by decide +kernel)) ggX11_price_X5_asks
set_option maxRecDepth 20000 in
theorem ggX11_price_X6_asks : GoodIn wsX11_price wsX6_asks := goodIn_r _ [62, 63, 48, 64, 50, 51, 52, 53, 24, 54, 40, 41, 42] (by decide +kernel) (by decide +kernel)
set_option maxRecDepth 20000 in
theorem gX11_price_X6_asks_u107X6 : GoodIn wsX11_price (va_wsO RX11 107 RX6 "HoldsOnceDenied$Denier" ⟨"HoldsOnceDenied$Denier", "asks", "()I"⟩ yX6_asks wsX6_asks) := goodIn_app (goodIn_of _ (by decide +kernel)) ggX11_price_X6_asks
set_option maxRecDepth 20000 in
theorem ggX11_price_X7_asks : GoodIn wsX11_price wsX7_asks := goodIn_r _ [68, 69, 70, 71, 72, 73, 74, 75, 76, 77, 24, 78, 40, 41, 42, 87, 88, 89, 90, 91, 92, 93, 94, 95, 96, 97, 98, 99, 100, 101, 102] (by decide +kernel) (by decide +kernel)
set_option maxRecDepth 20000 in
theorem gX11_price_X7_asks_u107X7 : GoodIn wsX11_price (va_wsO RX11 107 RX7 "HoldsOnceDenied$Denier" ⟨"HoldsOnceDenied$Denier", "asks", "()I"⟩ yX7_asks wsX7_asks) := goodIn_app (goodIn_of _ (by decide +kernel)) ggX11_price_X7_asks
set_option maxRecDepth 20000 in
theorem ggX11_price_X10_asks : GoodIn wsX11_price wsX10_asks := goodIn_r _ [74, 75, 76, 77, 24, 78, 40, 41, 42, 87, 88, 89, 90, 91, 92, 93, 94, 95, 96, 97, 98, 99, 100, 101, 102] (by decide +kernel) (by decide +kernel)
set_option maxRecDepth 20000 in
theorem gX11_price_X10_asks_u107X10 : GoodIn wsX11_price (va_wsO RX11 107 RX10 "HoldsOnceDenied$Denier" ⟨"HoldsOnceDenied$Denier", "asks", "()I"⟩ yX10_asks wsX10_asks) := goodIn_app (goodIn_of _ (by decide +kernel)) ggX11_price_X10_asks
theorem dX11_price_0 : decode cX11_price 0 = .ok (.aload_n 0, 1) := by decide +kernel
theorem dX11_price_1 : decode cX11_price 1 = .ok (.iload_n 1, 1) := by decide +kernel
theorem dX11_price_2 : decode cX11_price 2 = .ok (.invokevirtual 110, 3) := by decide +kernel
theorem dX11_price_5 : decode cX11_price 5 = .ok (.astore_n 2, 1) := by decide +kernel
theorem dX11_price_6 : decode cX11_price 6 = .ok (.aload_n 2, 1) := by decide +kernel
theorem dX11_price_7 : decode cX11_price 7 = .ok (.ifnonnull 11, 3) := by decide +kernel
theorem dX11_price_10 : decode cX11_price 10 = .ok (.aload_n 0, 1) := by decide +kernel
theorem dX11_price_11 : decode cX11_price 11 = .ok (.iload_n 1, 1) := by decide +kernel
theorem dX11_price_12 : decode cX11_price 12 = .ok (.invokevirtual 45, 3) := by decide +kernel
theorem dX11_price_15 : decode cX11_price 15 = .ok (.goto 7, 3) := by decide +kernel
theorem dX11_price_18 : decode cX11_price 18 = .ok (.aload_n 2, 1) := by decide +kernel
theorem dX11_price_19 : decode cX11_price 19 = .ok (.invokevirtual 107, 3) := by decide +kernel
theorem dX11_price_22 : decode cX11_price 22 = .ok (.ireturn, 1) := by decide +kernel
set_option maxRecDepth 20000 in
theorem ggX11_toss_X11_denierAt : GoodIn wsX11_toss wsX11_denierAt := goodIn_r _ [9, 10, 136, 137, 138, 139, 140, 141, 142] (by decide +kernel) (by decide +kernel)
set_option maxRecDepth 20000 in
theorem gX11_toss_X11_denierAt : GoodIn wsX11_toss (wsV RX11 110 RX11 yX11_denierAt wsX11_denierAt) := goodIn_app (goodIn_of _ (by decide +kernel)) ggX11_toss_X11_denierAt
set_option maxRecDepth 20000 in
theorem ggX11_toss_X11_whyMissing : GoodIn wsX11_toss wsX11_whyMissing := goodIn_r _ [14, 15, 16, 8, 17, 18, 19, 20, 21, 22, 23, 24, 25, 26, 5, 6, 7, 9, 10, 136, 137, 138, 139, 140, 141, 142] (by decide +kernel) (by decide +kernel)
set_option maxRecDepth 20000 in
theorem gX11_toss_X11_whyMissing : GoodIn wsX11_toss (wsV RX11 45 RX11 yX11_whyMissing wsX11_whyMissing) := goodIn_app (goodIn_of _ (by decide +kernel)) ggX11_toss_X11_whyMissing
set_option maxRecDepth 20000 in
theorem ggX11_toss_X2_fail : GoodIn wsX11_toss wsX2_fail := goodIn_ca (goodIn_r _ [32, 33, 34, 35, 120, 121, 122, 123, 124, 125, 126, 127, 128, 129, 130, 131, 132, 133, 134, 135] (by decide +kernel) (by decide +kernel)) (goodIn_sub (fun _ h => List.mem_cons_of_mem _ (List.mem_append_left _ (List.mem_append_left _ (List.mem_append_left _ (List.mem_append_right _ h))))) (by decide +kernel))
set_option maxRecDepth 20000 in
theorem gX11_toss_X2_fail_u270X0 : GoodIn wsX11_toss (va_wsU RX11 270 RX0 "HoldsOnceDenied$Denier" ⟨"HoldsOnceDenied$Denier", "fail", "()V"⟩ yX2_fail wsX2_fail) := goodIn_app (goodIn_of _ (by decide +kernel)) ggX11_toss_X2_fail
set_option maxRecDepth 20000 in
theorem ggX11_toss_X1_fail : GoodIn wsX11_toss wsX1_fail := goodIn_r _ [40] (by decide +kernel) (by decide +kernel)
set_option maxRecDepth 20000 in
theorem gX11_toss_X1_fail_u270X1 : GoodIn wsX11_toss (va_wsO RX11 270 RX1 "HoldsOnceDenied$Denier" ⟨"HoldsOnceDenied$Denier", "fail", "()V"⟩ yX1_fail wsX1_fail) := goodIn_app (goodIn_of _ (by decide +kernel)) ggX11_toss_X1_fail
set_option maxRecDepth 20000 in
theorem gX11_toss_X2_fail : GoodIn wsX11_toss (wsV RX11 270 RX2 yX2_fail wsX2_fail) := goodIn_app (goodIn_of _ (by decide +kernel)) ggX11_toss_X2_fail
set_option maxRecDepth 20000 in
theorem ggX11_toss_X3_fail : GoodIn wsX11_toss wsX3_fail := goodIn_ca (goodIn_r _ [46, 47, 48, 49, 50, 120, 121, 122, 123, 124, 125, 126, 127, 128, 129, 130, 131, 132, 133, 134, 135] (by decide +kernel) (by decide +kernel)) (goodIn_sub (fun _ h => List.mem_cons_of_mem _ (List.mem_append_left _ (List.mem_append_left _ (List.mem_append_right _ h)))) (by decide +kernel))
set_option maxRecDepth 20000 in
theorem gX11_toss_X3_fail_u270X3 : GoodIn wsX11_toss (va_wsO RX11 270 RX3 "HoldsOnceDenied$Denier" ⟨"HoldsOnceDenied$Denier", "fail", "()V"⟩ yX3_fail wsX3_fail) := goodIn_app (goodIn_of _ (by decide +kernel)) ggX11_toss_X3_fail
set_option maxRecDepth 20000 in
theorem gX11_toss_X2_fail_u270X5 : GoodIn wsX11_toss (va_wsU RX11 270 RX5 "HoldsOnceDenied$Denier" ⟨"HoldsOnceDenied$Denier", "fail", "()V"⟩ yX2_fail wsX2_fail) := goodIn_app (goodIn_of _ (by decide +kernel)) ggX11_toss_X2_fail
set_option maxRecDepth 20000 in
theorem ggX11_toss_X6_fail : GoodIn wsX11_toss wsX6_fail := goodIn_ca (goodIn_r _ [55, 56, 34, 57, 58, 120, 121, 122, 123, 124, 125, 126, 127, 128, 129, 130, 131, 132, 133, 134, 135] (by decide +kernel) (by decide +kernel)) (goodIn_sub (fun _ h => List.mem_cons_of_mem _ (List.mem_append_left _ (List.mem_append_right _ h))) (by decide +kernel))
set_option maxRecDepth 20000 in
theorem gX11_toss_X6_fail_u270X6 : GoodIn wsX11_toss (va_wsO RX11 270 RX6 "HoldsOnceDenied$Denier" ⟨"HoldsOnceDenied$Denier", "fail", "()V"⟩ yX6_fail wsX6_fail) := goodIn_app (goodIn_of _ (by decide +kernel)) ggX11_toss_X6_fail
set_option maxRecDepth 20000 in
theorem ggX11_toss_X7_fail : GoodIn wsX11_toss wsX7_fail := goodIn_ca (goodIn_r _ [62, 63, 64, 65, 66, 120, 121, 122, 123, 124, 125, 126, 127, 128, 129, 130, 131, 132, 133, 134, 135] (by decide +kernel) (by decide +kernel)) (goodIn_sub (fun _ h => List.mem_cons_of_mem _ (List.mem_append_right _ h)) (by decide +kernel))
set_option maxRecDepth 20000 in
theorem gX11_toss_X7_fail_u270X7 : GoodIn wsX11_toss (va_wsO RX11 270 RX7 "HoldsOnceDenied$Denier" ⟨"HoldsOnceDenied$Denier", "fail", "()V"⟩ yX7_fail wsX7_fail) := goodIn_app (goodIn_of _ (by decide +kernel)) ggX11_toss_X7_fail
set_option maxRecDepth 20000 in
theorem gX11_toss_X2_fail_u270X10 : GoodIn wsX11_toss (va_wsU RX11 270 RX10 "HoldsOnceDenied$Denier" ⟨"HoldsOnceDenied$Denier", "fail", "()V"⟩ yX2_fail wsX2_fail) := goodIn_app (goodIn_of _ (by decide +kernel)) ggX11_toss_X2_fail
set_option maxRecDepth 20000 in
theorem ggX11_toss_X0_asks : GoodIn wsX11_toss wsX0_asks := goodIn_r _ [74, 75, 76, 77, 78, 79, 80, 81, 82, 83, 69, 84, 85, 31, 86, 120, 121, 122, 123, 124, 125, 126, 127, 128, 129, 130, 131, 132, 133, 134, 135] (by decide +kernel) (by decide +kernel)
set_option maxRecDepth 20000 in
theorem gX11_toss_X0_asks_u107X0 : GoodIn wsX11_toss (va_wsO RX11 107 RX0 "HoldsOnceDenied$Denier" ⟨"HoldsOnceDenied$Denier", "asks", "()I"⟩ yX0_asks wsX0_asks) := goodIn_app (goodIn_of _ (by decide +kernel)) ggX11_toss_X0_asks
set_option maxRecDepth 20000 in
theorem ggX11_toss_X1_asks : GoodIn wsX11_toss wsX1_asks := goodIn_r _ [89, 90, 91, 92, 93, 45, 94, 95, 69, 96, 85, 31, 86] (by decide +kernel) (by decide +kernel)
set_option maxRecDepth 20000 in
theorem gX11_toss_X1_asks_u107X1 : GoodIn wsX11_toss (va_wsO RX11 107 RX1 "HoldsOnceDenied$Denier" ⟨"HoldsOnceDenied$Denier", "asks", "()I"⟩ yX1_asks wsX1_asks) := goodIn_app (goodIn_of _ (by decide +kernel)) ggX11_toss_X1_asks
set_option maxRecDepth 20000 in
theorem ggX11_toss_X2_asks : GoodIn wsX11_toss wsX2_asks := goodIn_r _ [86] (by decide +kernel) (by decide +kernel)
set_option maxRecDepth 20000 in
theorem gX11_toss_X2_asks : GoodIn wsX11_toss (wsV RX11 107 RX2 yX2_asks wsX2_asks) := goodIn_app (goodIn_of _ (by decide +kernel)) ggX11_toss_X2_asks
set_option maxRecDepth 20000 in
theorem ggX11_toss_X3_asks : GoodIn wsX11_toss wsX3_asks := goodIn_r _ [94, 95, 69, 96, 85, 31, 86] (by decide +kernel) (by decide +kernel)
set_option maxRecDepth 20000 in
theorem gX11_toss_X3_asks_u107X3 : GoodIn wsX11_toss (va_wsO RX11 107 RX3 "HoldsOnceDenied$Denier" ⟨"HoldsOnceDenied$Denier", "asks", "()I"⟩ yX3_asks wsX3_asks) := goodIn_app (goodIn_of _ (by decide +kernel)) ggX11_toss_X3_asks
set_option maxRecDepth 20000 in
theorem ggX11_toss_X5_asks : GoodIn wsX11_toss wsX5_asks := goodIn_r _ [80, 81, 82, 83, 69, 84, 85, 31, 86, 120, 121, 122, 123, 124, 125, 126, 127, 128, 129, 130, 131, 132, 133, 134, 135] (by decide +kernel) (by decide +kernel)
set_option maxRecDepth 20000 in
theorem gX11_toss_X5_asks_u107X5 : GoodIn wsX11_toss (va_wsO RX11 107 RX5 "HoldsOnceDenied$Denier" ⟨"HoldsOnceDenied$Denier", "asks", "()I"⟩ yX5_asks wsX5_asks) := goodIn_app (goodIn_of _ (by decide +kernel)) ggX11_toss_X5_asks
set_option maxRecDepth 20000 in
theorem ggX11_toss_X6_asks : GoodIn wsX11_toss wsX6_asks := goodIn_r _ [103, 104, 91, 105, 93, 45, 94, 95, 69, 96, 85, 31, 86] (by decide +kernel) (by decide +kernel)
set_option maxRecDepth 20000 in
theorem gX11_toss_X6_asks_u107X6 : GoodIn wsX11_toss (va_wsO RX11 107 RX6 "HoldsOnceDenied$Denier" ⟨"HoldsOnceDenied$Denier", "asks", "()I"⟩ yX6_asks wsX6_asks) := goodIn_app (goodIn_of _ (by decide +kernel)) ggX11_toss_X6_asks
set_option maxRecDepth 20000 in
theorem ggX11_toss_X7_asks : GoodIn wsX11_toss wsX7_asks := goodIn_r _ [108, 109, 110, 111, 112, 113, 114, 115, 116, 117, 69, 118, 85, 31, 86, 120, 121, 122, 123, 124, 125, 126, 127, 128, 129, 130, 131, 132, 133, 134, 135] (by decide +kernel) (by decide +kernel)
set_option maxRecDepth 20000 in
theorem gX11_toss_X7_asks_u107X7 : GoodIn wsX11_toss (va_wsO RX11 107 RX7 "HoldsOnceDenied$Denier" ⟨"HoldsOnceDenied$Denier", "asks", "()I"⟩ yX7_asks wsX7_asks) := goodIn_app (goodIn_of _ (by decide +kernel)) ggX11_toss_X7_asks
set_option maxRecDepth 20000 in
theorem ggX11_toss_X10_asks : GoodIn wsX11_toss wsX10_asks := goodIn_r _ [114, 115, 116, 117, 69, 118, 85, 31, 86, 120, 121, 122, 123, 124, 125, 126, 127, 128, 129, 130, 131, 132, 133, 134, 135] (by decide +kernel) (by decide +kernel)
set_option maxRecDepth 20000 in
theorem gX11_toss_X10_asks_u107X10 : GoodIn wsX11_toss (va_wsO RX11 107 RX10 "HoldsOnceDenied$Denier" ⟨"HoldsOnceDenied$Denier", "asks", "()I"⟩ yX10_asks wsX10_asks) := goodIn_app (goodIn_of _ (by decide +kernel)) ggX11_toss_X10_asks
theorem dX11_toss_0 : decode cX11_toss 0 = .ok (.aload_n 0, 1) := by decide +kernel
theorem dX11_toss_1 : decode cX11_toss 1 = .ok (.iload_n 1, 1) := by decide +kernel
theorem dX11_toss_2 : decode cX11_toss 2 = .ok (.invokevirtual 110, 3) := by decide +kernel
theorem dX11_toss_5 : decode cX11_toss 5 = .ok (.astore_n 2, 1) := by decide +kernel
theorem dX11_toss_6 : decode cX11_toss 6 = .ok (.aload_n 2, 1) := by decide +kernel
theorem dX11_toss_7 : decode cX11_toss 7 = .ok (.ifnonnull 9, 3) := by decide +kernel
theorem dX11_toss_10 : decode cX11_toss 10 = .ok (.aload_n 0, 1) := by decide +kernel
theorem dX11_toss_11 : decode cX11_toss 11 = .ok (.iload_n 1, 1) := by decide +kernel
theorem dX11_toss_12 : decode cX11_toss 12 = .ok (.invokevirtual 45, 3) := by decide +kernel
theorem dX11_toss_15 : decode cX11_toss 15 = .ok (.ireturn, 1) := by decide +kernel
theorem dX11_toss_16 : decode cX11_toss 16 = .ok (.aload_n 2, 1) := by decide +kernel
theorem dX11_toss_17 : decode cX11_toss 17 = .ok (.invokevirtual 270, 3) := by decide +kernel
theorem dX11_toss_20 : decode cX11_toss 20 = .ok (.goto 28, 3) := by decide +kernel
theorem dX11_toss_23 : decode cX11_toss 23 = .ok (.astore_n 3, 1) := by decide +kernel
theorem dX11_toss_24 : decode cX11_toss 24 = .ok (.aload_n 2, 1) := by decide +kernel
theorem dX11_toss_25 : decode cX11_toss 25 = .ok (.getfield 98, 3) := by decide +kernel
theorem dX11_toss_28 : decode cX11_toss 28 = .ok (.ireturn, 1) := by decide +kernel
theorem dX11_toss_29 : decode cX11_toss 29 = .ok (.astore_n 3, 1) := by decide +kernel
theorem dX11_toss_30 : decode cX11_toss 30 = .ok (.bipush 100, 2) := by decide +kernel
theorem dX11_toss_32 : decode cX11_toss 32 = .ok (.aload_n 2, 1) := by decide +kernel
theorem dX11_toss_33 : decode cX11_toss 33 = .ok (.getfield 98, 3) := by decide +kernel
theorem dX11_toss_36 : decode cX11_toss 36 = .ok (.iadd, 1) := by decide +kernel
theorem dX11_toss_37 : decode cX11_toss 37 = .ok (.ireturn, 1) := by decide +kernel
theorem dX11_toss_38 : decode cX11_toss 38 = .ok (.astore_n 3, 1) := by decide +kernel
theorem dX11_toss_39 : decode cX11_toss 39 = .ok (.sipush 200, 3) := by decide +kernel
theorem dX11_toss_42 : decode cX11_toss 42 = .ok (.aload_n 2, 1) := by decide +kernel
theorem dX11_toss_43 : decode cX11_toss 43 = .ok (.invokevirtual 107, 3) := by decide +kernel
theorem dX11_toss_46 : decode cX11_toss 46 = .ok (.iadd, 1) := by decide +kernel
theorem dX11_toss_47 : decode cX11_toss 47 = .ok (.ireturn, 1) := by decide +kernel
theorem dX11_toss_48 : decode cX11_toss 48 = .ok (.bipush (-15), 2) := by decide +kernel
theorem dX11_toss_50 : decode cX11_toss 50 = .ok (.ireturn, 1) := by decide +kernel
theorem dX11_bit_0 : decode cX11_bit 0 = .ok (.iload_n 0, 1) := by decide +kernel
theorem dX11_bit_1 : decode cX11_bit 1 = .ok (.ifCond .lt 15, 3) := by decide +kernel
theorem dX11_bit_4 : decode cX11_bit 4 = .ok (.iload_n 0, 1) := by decide +kernel
theorem dX11_bit_5 : decode cX11_bit 5 = .ok (.bipush 9, 2) := by decide +kernel
theorem dX11_bit_7 : decode cX11_bit 7 = .ok (.if_icmp .ge 9, 3) := by decide +kernel
theorem dX11_bit_10 : decode cX11_bit 10 = .ok (.iconst 1, 1) := by decide +kernel
theorem dX11_bit_11 : decode cX11_bit 11 = .ok (.iload_n 0, 1) := by decide +kernel
theorem dX11_bit_12 : decode cX11_bit 12 = .ok (.ishl, 1) := by decide +kernel
theorem dX11_bit_13 : decode cX11_bit 13 = .ok (.goto 4, 3) := by decide +kernel
theorem dX11_bit_16 : decode cX11_bit 16 = .ok (.iconst 0, 1) := by decide +kernel
theorem dX11_bit_17 : decode cX11_bit 17 = .ok (.ireturn, 1) := by decide +kernel
theorem dX11_has_0 : decode cX11_has 0 = .ok (.iload_n 1, 1) := by decide +kernel
theorem dX11_has_1 : decode cX11_has 1 = .ok (.ifCond .lt 21, 3) := by decide +kernel
theorem dX11_has_4 : decode cX11_has 4 = .ok (.iload_n 1, 1) := by decide +kernel
theorem dX11_has_5 : decode cX11_has 5 = .ok (.bipush 9, 2) := by decide +kernel
theorem dX11_has_7 : decode cX11_has 7 = .ok (.if_icmp .ge 15, 3) := by decide +kernel
theorem dX11_has_10 : decode cX11_has 10 = .ok (.iload_n 0, 1) := by decide +kernel
theorem dX11_has_11 : decode cX11_has 11 = .ok (.iload_n 1, 1) := by decide +kernel
theorem dX11_has_12 : decode cX11_has 12 = .ok (.ishr, 1) := by decide +kernel
theorem dX11_has_13 : decode cX11_has 13 = .ok (.iconst 1, 1) := by decide +kernel
theorem dX11_has_14 : decode cX11_has 14 = .ok (.iand, 1) := by decide +kernel
theorem dX11_has_15 : decode cX11_has 15 = .ok (.ifCond .eq 7, 3) := by decide +kernel
theorem dX11_has_18 : decode cX11_has 18 = .ok (.iconst 1, 1) := by decide +kernel
theorem dX11_has_19 : decode cX11_has 19 = .ok (.goto 4, 3) := by decide +kernel
theorem dX11_has_22 : decode cX11_has 22 = .ok (.iconst 0, 1) := by decide +kernel
theorem dX11_has_23 : decode cX11_has 23 = .ok (.ireturn, 1) := by decide +kernel
theorem dX11_within_0 : decode cX11_within 0 = .ok (.iload_n 0, 1) := by decide +kernel
theorem dX11_within_1 : decode cX11_within 1 = .ok (.iload_n 1, 1) := by decide +kernel
theorem dX11_within_2 : decode cX11_within 2 = .ok (.iconst (-1), 1) := by decide +kernel
theorem dX11_within_3 : decode cX11_within 3 = .ok (.ixor, 1) := by decide +kernel
theorem dX11_within_4 : decode cX11_within 4 = .ok (.iand, 1) := by decide +kernel
theorem dX11_within_5 : decode cX11_within 5 = .ok (.ifCond .ne 7, 3) := by decide +kernel
theorem dX11_within_8 : decode cX11_within 8 = .ok (.iconst 1, 1) := by decide +kernel
theorem dX11_within_9 : decode cX11_within 9 = .ok (.goto 4, 3) := by decide +kernel
theorem dX11_within_12 : decode cX11_within 12 = .ok (.iconst 0, 1) := by decide +kernel
theorem dX11_within_13 : decode cX11_within 13 = .ok (.ireturn, 1) := by decide +kernel
theorem dX11_isFigure_0 : decode cX11_isFigure 0 = .ok (.iload_n 0, 1) := by decide +kernel
theorem dX11_isFigure_1 : decode cX11_isFigure 1 = .ok (.ifCond .lt 13, 3) := by decide +kernel
theorem dX11_isFigure_4 : decode cX11_isFigure 4 = .ok (.iload_n 0, 1) := by decide +kernel
theorem dX11_isFigure_5 : decode cX11_isFigure 5 = .ok (.bipush 9, 2) := by decide +kernel
theorem dX11_isFigure_7 : decode cX11_isFigure 7 = .ok (.if_icmp .gt 7, 3) := by decide +kernel
theorem dX11_isFigure_10 : decode cX11_isFigure 10 = .ok (.iconst 1, 1) := by decide +kernel
theorem dX11_isFigure_11 : decode cX11_isFigure 11 = .ok (.goto 4, 3) := by decide +kernel
theorem dX11_isFigure_14 : decode cX11_isFigure 14 = .ok (.iconst 0, 1) := by decide +kernel
theorem dX11_isFigure_15 : decode cX11_isFigure 15 = .ok (.ireturn, 1) := by decide +kernel
theorem dX11_isShelf_0 : decode cX11_isShelf 0 = .ok (.iload_n 0, 1) := by decide +kernel
theorem dX11_isShelf_1 : decode cX11_isShelf 1 = .ok (.ifCond .lt 13, 3) := by decide +kernel
theorem dX11_isShelf_4 : decode cX11_isShelf 4 = .ok (.iload_n 0, 1) := by decide +kernel
theorem dX11_isShelf_5 : decode cX11_isShelf 5 = .ok (.bipush 8, 2) := by decide +kernel
theorem dX11_isShelf_7 : decode cX11_isShelf 7 = .ok (.if_icmp .ge 7, 3) := by decide +kernel
theorem dX11_isShelf_10 : decode cX11_isShelf 10 = .ok (.iconst 1, 1) := by decide +kernel
theorem dX11_isShelf_11 : decode cX11_isShelf 11 = .ok (.goto 4, 3) := by decide +kernel
theorem dX11_isShelf_14 : decode cX11_isShelf 14 = .ok (.iconst 0, 1) := by decide +kernel
theorem dX11_isShelf_15 : decode cX11_isShelf 15 = .ok (.ireturn, 1) := by decide +kernel
set_option maxRecDepth 20000 in
theorem ggX11_isPair_X9_hasDenier : GoodIn wsX11_isPair wsX9_hasDenier := goodIn_r _ [6, 7, 20, 21, 22, 23, 24, 25, 26, 27, 28, 29] (by decide +kernel) (by decide +kernel)
set_option maxRecDepth 20000 in
theorem gX11_isPair_X9_hasDenier : GoodIn wsX11_isPair (wsV RX11 130 RX9 yX9_hasDenier wsX9_hasDenier) := goodIn_app (goodIn_of _ (by decide +kernel)) ggX11_isPair_X9_hasDenier
set_option maxRecDepth 20000 in
theorem ggX11_isPair_X9_hasSentence : GoodIn wsX11_isPair wsX9_hasSentence := goodIn_r _ [11, 12, 20, 21, 22, 23, 24, 25, 26, 27, 28, 29] (by decide +kernel) (by decide +kernel)
set_option maxRecDepth 20000 in
theorem gX11_isPair_X9_hasSentence : GoodIn wsX11_isPair (wsV RX11 75 RX9 yX9_hasSentence wsX9_hasSentence) := goodIn_app (goodIn_of _ (by decide +kernel)) ggX11_isPair_X9_hasSentence
theorem dX11_isPair_0 : decode cX11_isPair 0 = .ok (.aload_n 0, 1) := by decide +kernel
theorem dX11_isPair_1 : decode cX11_isPair 1 = .ok (.getfield 10, 3) := by decide +kernel
theorem dX11_isPair_4 : decode cX11_isPair 4 = .ok (.iload_n 1, 1) := by decide +kernel
theorem dX11_isPair_5 : decode cX11_isPair 5 = .ok (.invokevirtual 130, 3) := by decide +kernel
theorem dX11_isPair_8 : decode cX11_isPair 8 = .ok (.ifCond .eq 18, 3) := by decide +kernel
theorem dX11_isPair_11 : decode cX11_isPair 11 = .ok (.aload_n 0, 1) := by decide +kernel
theorem dX11_isPair_12 : decode cX11_isPair 12 = .ok (.getfield 10, 3) := by decide +kernel
theorem dX11_isPair_15 : decode cX11_isPair 15 = .ok (.iload_n 2, 1) := by decide +kernel
theorem dX11_isPair_16 : decode cX11_isPair 16 = .ok (.invokevirtual 75, 3) := by decide +kernel
theorem dX11_isPair_19 : decode cX11_isPair 19 = .ok (.ifCond .eq 7, 3) := by decide +kernel
theorem dX11_isPair_22 : decode cX11_isPair 22 = .ok (.iconst 1, 1) := by decide +kernel
theorem dX11_isPair_23 : decode cX11_isPair 23 = .ok (.goto 4, 3) := by decide +kernel
theorem dX11_isPair_26 : decode cX11_isPair 26 = .ok (.iconst 0, 1) := by decide +kernel
theorem dX11_isPair_27 : decode cX11_isPair 27 = .ok (.ireturn, 1) := by decide +kernel
theorem dX11_rowAt_0 : decode cX11_rowAt 0 = .ok (.iload_n 1, 1) := by decide +kernel
theorem dX11_rowAt_1 : decode cX11_rowAt 1 = .ok (.ifCond .lt 21, 3) := by decide +kernel
theorem dX11_rowAt_4 : decode cX11_rowAt 4 = .ok (.iload_n 1, 1) := by decide +kernel
theorem dX11_rowAt_5 : decode cX11_rowAt 5 = .ok (.aload_n 0, 1) := by decide +kernel
theorem dX11_rowAt_6 : decode cX11_rowAt 6 = .ok (.getfield 37, 3) := by decide +kernel
theorem dX11_rowAt_9 : decode cX11_rowAt 9 = .ok (.arraylength, 1) := by decide +kernel
theorem dX11_rowAt_10 : decode cX11_rowAt 10 = .ok (.if_icmp .ge 12, 3) := by decide +kernel
theorem dX11_rowAt_13 : decode cX11_rowAt 13 = .ok (.aload_n 0, 1) := by decide +kernel
theorem dX11_rowAt_14 : decode cX11_rowAt 14 = .ok (.getfield 37, 3) := by decide +kernel
theorem dX11_rowAt_17 : decode cX11_rowAt 17 = .ok (.iload_n 1, 1) := by decide +kernel
theorem dX11_rowAt_18 : decode cX11_rowAt 18 = .ok (.aaload, 1) := by decide +kernel
theorem dX11_rowAt_19 : decode cX11_rowAt 19 = .ok (.goto 4, 3) := by decide +kernel
theorem dX11_rowAt_22 : decode cX11_rowAt 22 = .ok (.aconst_null, 1) := by decide +kernel
theorem dX11_rowAt_23 : decode cX11_rowAt 23 = .ok (.areturn, 1) := by decide +kernel
theorem dX11_denierAt_0 : decode cX11_denierAt 0 = .ok (.iload_n 1, 1) := by decide +kernel
theorem dX11_denierAt_1 : decode cX11_denierAt 1 = .ok (.ifCond .lt 21, 3) := by decide +kernel
theorem dX11_denierAt_4 : decode cX11_denierAt 4 = .ok (.iload_n 1, 1) := by decide +kernel
theorem dX11_denierAt_5 : decode cX11_denierAt 5 = .ok (.aload_n 0, 1) := by decide +kernel
theorem dX11_denierAt_6 : decode cX11_denierAt 6 = .ok (.getfield 31, 3) := by decide +kernel
theorem dX11_denierAt_9 : decode cX11_denierAt 9 = .ok (.arraylength, 1) := by decide +kernel
theorem dX11_denierAt_10 : decode cX11_denierAt 10 = .ok (.if_icmp .ge 12, 3) := by decide +kernel
theorem dX11_denierAt_13 : decode cX11_denierAt 13 = .ok (.aload_n 0, 1) := by decide +kernel
theorem dX11_denierAt_14 : decode cX11_denierAt 14 = .ok (.getfield 31, 3) := by decide +kernel
theorem dX11_denierAt_17 : decode cX11_denierAt 17 = .ok (.iload_n 1, 1) := by decide +kernel
theorem dX11_denierAt_18 : decode cX11_denierAt 18 = .ok (.aaload, 1) := by decide +kernel
theorem dX11_denierAt_19 : decode cX11_denierAt 19 = .ok (.goto 4, 3) := by decide +kernel
theorem dX11_denierAt_22 : decode cX11_denierAt 22 = .ok (.aconst_null, 1) := by decide +kernel
theorem dX11_denierAt_23 : decode cX11_denierAt 23 = .ok (.areturn, 1) := by decide +kernel
set_option maxRecDepth 20000 in
theorem ggX11_isEmpty_X11_rowAt : GoodIn wsX11_isEmpty wsX11_rowAt := goodIn_r _ [5, 6, 12, 13, 14, 15, 16, 17, 18] (by decide +kernel) (by decide +kernel)
set_option maxRecDepth 20000 in
theorem gX11_isEmpty_X11_rowAt : GoodIn wsX11_isEmpty (wsV RX11 41 RX11 yX11_rowAt wsX11_rowAt) := goodIn_app (goodIn_of _ (by decide +kernel)) ggX11_isEmpty_X11_rowAt
set_option maxRecDepth 20000 in
theorem ggX11_isEmpty_X11_denierAt : GoodIn wsX11_isEmpty wsX11_denierAt := goodIn_r _ [10, 11, 12, 13, 14, 15, 16, 17, 18] (by decide +kernel) (by decide +kernel)
set_option maxRecDepth 20000 in
theorem gX11_isEmpty_X11_denierAt : GoodIn wsX11_isEmpty (wsV RX11 110 RX11 yX11_denierAt wsX11_denierAt) := goodIn_app (goodIn_of _ (by decide +kernel)) ggX11_isEmpty_X11_denierAt
theorem dX11_isEmpty_0 : decode cX11_isEmpty 0 = .ok (.aload_n 0, 1) := by decide +kernel
theorem dX11_isEmpty_1 : decode cX11_isEmpty 1 = .ok (.iload_n 1, 1) := by decide +kernel
theorem dX11_isEmpty_2 : decode cX11_isEmpty 2 = .ok (.invokevirtual 41, 3) := by decide +kernel
theorem dX11_isEmpty_5 : decode cX11_isEmpty 5 = .ok (.ifnonnull 15, 3) := by decide +kernel
theorem dX11_isEmpty_8 : decode cX11_isEmpty 8 = .ok (.aload_n 0, 1) := by decide +kernel
theorem dX11_isEmpty_9 : decode cX11_isEmpty 9 = .ok (.iload_n 1, 1) := by decide +kernel
theorem dX11_isEmpty_10 : decode cX11_isEmpty 10 = .ok (.invokevirtual 110, 3) := by decide +kernel
theorem dX11_isEmpty_13 : decode cX11_isEmpty 13 = .ok (.ifnonnull 7, 3) := by decide +kernel
theorem dX11_isEmpty_16 : decode cX11_isEmpty 16 = .ok (.iconst 1, 1) := by decide +kernel
theorem dX11_isEmpty_17 : decode cX11_isEmpty 17 = .ok (.goto 4, 3) := by decide +kernel
theorem dX11_isEmpty_20 : decode cX11_isEmpty 20 = .ok (.iconst 0, 1) := by decide +kernel
theorem dX11_isEmpty_21 : decode cX11_isEmpty 21 = .ok (.ireturn, 1) := by decide +kernel
set_option maxRecDepth 20000 in
theorem ggX11_whyMissing_X11_isShelf : GoodIn wsX11_whyMissing wsX11_isShelf := goodIn_r _ [4] (by decide +kernel) (by decide +kernel)
set_option maxRecDepth 20000 in
theorem gX11_whyMissing_X11_isShelf : GoodIn wsX11_whyMissing (va_wsS RX11 223 yX11_isShelf wsX11_isShelf) := goodIn_app (goodIn_of _ (by decide +kernel)) ggX11_whyMissing_X11_isShelf
set_option maxRecDepth 20000 in
theorem ggX11_whyMissing_X11_isEmpty : GoodIn wsX11_whyMissing wsX11_isEmpty := goodIn_r _ [8, 9, 10, 11, 3, 12, 13, 14, 15, 16, 17, 18, 19, 20, 21, 22, 23, 24, 25] (by decide +kernel) (by decide +kernel)
set_option maxRecDepth 20000 in
theorem gX11_whyMissing_X11_isEmpty : GoodIn wsX11_whyMissing (wsV RX11 251 RX11 yX11_isEmpty wsX11_isEmpty) := goodIn_app (goodIn_of _ (by decide +kernel)) ggX11_whyMissing_X11_isEmpty
theorem dX11_whyMissing_0 : decode cX11_whyMissing 0 = .ok (.iload_n 1, 1) := by decide +kernel
theorem dX11_whyMissing_1 : decode cX11_whyMissing 1 = .ok (.invokestatic 223, 3) := by decide +kernel
theorem dX11_whyMissing_4 : decode cX11_whyMissing 4 = .ok (.ifCond .ne 5, 3) := by decide +kernel
theorem dX11_whyMissing_7 : decode cX11_whyMissing 7 = .ok (.iconst (-1), 1) := by decide +kernel
theorem dX11_whyMissing_8 : decode cX11_whyMissing 8 = .ok (.ireturn, 1) := by decide +kernel
theorem dX11_whyMissing_9 : decode cX11_whyMissing 9 = .ok (.aload_n 0, 1) := by decide +kernel
theorem dX11_whyMissing_10 : decode cX11_whyMissing 10 = .ok (.iload_n 1, 1) := by decide +kernel
theorem dX11_whyMissing_11 : decode cX11_whyMissing 11 = .ok (.invokevirtual 251, 3) := by decide +kernel
theorem dX11_whyMissing_14 : decode cX11_whyMissing 14 = .ok (.ifCond .eq 8, 3) := by decide +kernel
theorem dX11_whyMissing_17 : decode cX11_whyMissing 17 = .ok (.bipush (-11), 2) := by decide +kernel
theorem dX11_whyMissing_19 : decode cX11_whyMissing 19 = .ok (.goto 5, 3) := by decide +kernel
theorem dX11_whyMissing_22 : decode cX11_whyMissing 22 = .ok (.bipush (-12), 2) := by decide +kernel
theorem dX11_whyMissing_24 : decode cX11_whyMissing 24 = .ok (.ireturn, 1) := by decide +kernel
theorem dX11_fillShelf_0 : decode cX11_fillShelf 0 = .ok (.iload_n 1, 1) := by decide +kernel
theorem dX11_fillShelf_1 : decode cX11_fillShelf 1 = .ok (.ifCond .lt 35, 3) := by decide +kernel
theorem dX11_fillShelf_4 : decode cX11_fillShelf 4 = .ok (.iload_n 1, 1) := by decide +kernel
theorem dX11_fillShelf_5 : decode cX11_fillShelf 5 = .ok (.aload_n 0, 1) := by decide +kernel
theorem dX11_fillShelf_6 : decode cX11_fillShelf 6 = .ok (.getfield 31, 3) := by decide +kernel
theorem dX11_fillShelf_9 : decode cX11_fillShelf 9 = .ok (.arraylength, 1) := by decide +kernel
theorem dX11_fillShelf_10 : decode cX11_fillShelf 10 = .ok (.if_icmp .ge 26, 3) := by decide +kernel
theorem dX11_fillShelf_13 : decode cX11_fillShelf 13 = .ok (.iload_n 1, 1) := by decide +kernel
theorem dX11_fillShelf_14 : decode cX11_fillShelf 14 = .ok (.aload_n 0, 1) := by decide +kernel
theorem dX11_fillShelf_15 : decode cX11_fillShelf 15 = .ok (.getfield 37, 3) := by decide +kernel
theorem dX11_fillShelf_18 : decode cX11_fillShelf 18 = .ok (.arraylength, 1) := by decide +kernel
theorem dX11_fillShelf_19 : decode cX11_fillShelf 19 = .ok (.if_icmp .ge 17, 3) := by decide +kernel
theorem dX11_fillShelf_22 : decode cX11_fillShelf 22 = .ok (.aload_n 0, 1) := by decide +kernel
theorem dX11_fillShelf_23 : decode cX11_fillShelf 23 = .ok (.getfield 31, 3) := by decide +kernel
theorem dX11_fillShelf_26 : decode cX11_fillShelf 26 = .ok (.iload_n 1, 1) := by decide +kernel
theorem dX11_fillShelf_27 : decode cX11_fillShelf 27 = .ok (.aload_n 2, 1) := by decide +kernel
theorem dX11_fillShelf_28 : decode cX11_fillShelf 28 = .ok (.aastore, 1) := by decide +kernel
theorem dX11_fillShelf_29 : decode cX11_fillShelf 29 = .ok (.aload_n 0, 1) := by decide +kernel
theorem dX11_fillShelf_30 : decode cX11_fillShelf 30 = .ok (.getfield 37, 3) := by decide +kernel
theorem dX11_fillShelf_33 : decode cX11_fillShelf 33 = .ok (.iload_n 1, 1) := by decide +kernel
theorem dX11_fillShelf_34 : decode cX11_fillShelf 34 = .ok (.aload_n 3, 1) := by decide +kernel
theorem dX11_fillShelf_35 : decode cX11_fillShelf 35 = .ok (.aastore, 1) := by decide +kernel
theorem dX11_fillShelf_36 : decode cX11_fillShelf 36 = .ok (.return_, 1) := by decide +kernel
set_option maxRecDepth 20000 in
theorem ggX11_newDenier_X2_init : GoodIn wsX11_newDenier wsX2_init := goodIn_r _ [27, 28, 29, 30, 31, 32, 75, 76, 67, 68, 61, 62, 63, 64, 69, 70, 71, 72, 73, 74, 65, 66] (by decide +kernel) (by decide +kernel)
set_option maxRecDepth 20000 in
theorem gX11_newDenier_X2_init : GoodIn wsX11_newDenier (wsX2_init) := ggX11_newDenier_X2_init
set_option maxRecDepth 20000 in
theorem ggX11_newDenier_X3_init : GoodIn wsX11_newDenier wsX3_init := goodIn_r _ [35, 36, 26, 3, 27, 28, 29, 30, 31, 32, 75, 76, 67, 68, 61, 62, 63, 64, 69, 70, 71, 72, 73, 74, 65, 66] (by decide +kernel) (by decide +kernel)
set_option maxRecDepth 20000 in
theorem gX11_newDenier_X3_init : GoodIn wsX11_newDenier (wsX3_init) := ggX11_newDenier_X3_init
set_option maxRecDepth 20000 in
theorem ggX11_newDenier_X10_init : GoodIn wsX11_newDenier wsX10_init := goodIn_r _ [39, 40, 26, 3, 27, 28, 29, 30, 31, 32, 75, 76, 67, 68, 61, 62, 63, 64, 69, 70, 71, 72, 73, 74, 65, 66] (by decide +kernel) (by decide +kernel)
set_option maxRecDepth 20000 in
theorem gX11_newDenier_X10_init : GoodIn wsX11_newDenier (wsX10_init) := ggX11_newDenier_X10_init
set_option maxRecDepth 20000 in
theorem ggX11_newDenier_X1_init : GoodIn wsX11_newDenier wsX1_init := goodIn_r _ [43, 44, 34, 6, 35, 36, 26, 3, 27, 28, 29, 30, 31, 32, 75, 76, 67, 68, 61, 62, 63, 64, 69, 70, 71, 72, 73, 74, 65, 66] (by decide +kernel) (by decide +kernel)
set_option maxRecDepth 20000 in
theorem gX11_newDenier_X1_init : GoodIn wsX11_newDenier (wsX1_init) := ggX11_newDenier_X1_init
set_option maxRecDepth 20000 in
theorem ggX11_newDenier_X5_init : GoodIn wsX11_newDenier wsX5_init := goodIn_r _ [47, 48, 26, 3, 27, 28, 29, 30, 31, 32, 75, 76, 67, 68, 61, 62, 63, 64, 69, 70, 71, 72, 73, 74, 65, 66] (by decide +kernel) (by decide +kernel)
set_option maxRecDepth 20000 in
theorem gX11_newDenier_X5_init : GoodIn wsX11_newDenier (wsX5_init) := ggX11_newDenier_X5_init
set_option maxRecDepth 20000 in
theorem ggX11_newDenier_X6_init : GoodIn wsX11_newDenier wsX6_init := goodIn_r _ [51, 52, 34, 6, 35, 36, 26, 3, 27, 28, 29, 30, 31, 32, 75, 76, 67, 68, 61, 62, 63, 64, 69, 70, 71, 72, 73, 74, 65, 66] (by decide +kernel) (by decide +kernel)
set_option maxRecDepth 20000 in
theorem gX11_newDenier_X6_init : GoodIn wsX11_newDenier (wsX6_init) := ggX11_newDenier_X6_init
set_option maxRecDepth 20000 in
theorem ggX11_newDenier_X7_init : GoodIn wsX11_newDenier wsX7_init := goodIn_r _ [55, 56, 38, 9, 39, 40, 26, 3, 27, 28, 29, 30, 31, 32, 75, 76, 67, 68, 61, 62, 63, 64, 69, 70, 71, 72, 73, 74, 65, 66] (by decide +kernel) (by decide +kernel)
set_option maxRecDepth 20000 in
theorem gX11_newDenier_X7_init : GoodIn wsX11_newDenier (wsX7_init) := ggX11_newDenier_X7_init
set_option maxRecDepth 20000 in
theorem ggX11_newDenier_X0_init : GoodIn wsX11_newDenier wsX0_init := goodIn_r _ [59, 60, 46, 15, 47, 48, 26, 3, 27, 28, 29, 30, 31, 32, 75, 76, 67, 68, 61, 62, 63, 64, 69, 70, 71, 72, 73, 74, 65, 66] (by decide +kernel) (by decide +kernel)
set_option maxRecDepth 20000 in
theorem gX11_newDenier_X0_init : GoodIn wsX11_newDenier (wsX0_init) := ggX11_newDenier_X0_init
theorem dX11_newDenier_0 : decode cX11_newDenier 0 = .ok (.iload_n 0, 1) := by decide +kernel
theorem dX11_newDenier_1 : decode cX11_newDenier 1 = .ok (.tableswitch 127 0 7 #[47, 57, 67, 77, 87, 97, 107, 117], 47) := by decide +kernel
theorem dX11_newDenier_48 : decode cX11_newDenier 48 = .ok (.new 29, 3) := by decide +kernel
theorem dX11_newDenier_51 : decode cX11_newDenier 51 = .ok (.dup, 1) := by decide +kernel
theorem dX11_newDenier_52 : decode cX11_newDenier 52 = .ok (.iload_n 0, 1) := by decide +kernel
theorem dX11_newDenier_53 : decode cX11_newDenier 53 = .ok (.iload_n 1, 1) := by decide +kernel
theorem dX11_newDenier_54 : decode cX11_newDenier 54 = .ok (.invokespecial 275, 3) := by decide +kernel
theorem dX11_newDenier_57 : decode cX11_newDenier 57 = .ok (.areturn, 1) := by decide +kernel
theorem dX11_newDenier_58 : decode cX11_newDenier 58 = .ok (.new 277, 3) := by decide +kernel
theorem dX11_newDenier_61 : decode cX11_newDenier 61 = .ok (.dup, 1) := by decide +kernel
theorem dX11_newDenier_62 : decode cX11_newDenier 62 = .ok (.iload_n 0, 1) := by decide +kernel
theorem dX11_newDenier_63 : decode cX11_newDenier 63 = .ok (.iload_n 1, 1) := by decide +kernel
theorem dX11_newDenier_64 : decode cX11_newDenier 64 = .ok (.invokespecial 279, 3) := by decide +kernel
theorem dX11_newDenier_67 : decode cX11_newDenier 67 = .ok (.areturn, 1) := by decide +kernel
theorem dX11_newDenier_68 : decode cX11_newDenier 68 = .ok (.new 280, 3) := by decide +kernel
theorem dX11_newDenier_71 : decode cX11_newDenier 71 = .ok (.dup, 1) := by decide +kernel
theorem dX11_newDenier_72 : decode cX11_newDenier 72 = .ok (.iload_n 0, 1) := by decide +kernel
theorem dX11_newDenier_73 : decode cX11_newDenier 73 = .ok (.iload_n 1, 1) := by decide +kernel
theorem dX11_newDenier_74 : decode cX11_newDenier 74 = .ok (.invokespecial 282, 3) := by decide +kernel
theorem dX11_newDenier_77 : decode cX11_newDenier 77 = .ok (.areturn, 1) := by decide +kernel
theorem dX11_newDenier_78 : decode cX11_newDenier 78 = .ok (.new 283, 3) := by decide +kernel
theorem dX11_newDenier_81 : decode cX11_newDenier 81 = .ok (.dup, 1) := by decide +kernel
theorem dX11_newDenier_82 : decode cX11_newDenier 82 = .ok (.iload_n 0, 1) := by decide +kernel
theorem dX11_newDenier_83 : decode cX11_newDenier 83 = .ok (.iload_n 1, 1) := by decide +kernel
theorem dX11_newDenier_84 : decode cX11_newDenier 84 = .ok (.invokespecial 285, 3) := by decide +kernel
theorem dX11_newDenier_87 : decode cX11_newDenier 87 = .ok (.areturn, 1) := by decide +kernel
theorem dX11_newDenier_88 : decode cX11_newDenier 88 = .ok (.new 286, 3) := by decide +kernel
theorem dX11_newDenier_91 : decode cX11_newDenier 91 = .ok (.dup, 1) := by decide +kernel
theorem dX11_newDenier_92 : decode cX11_newDenier 92 = .ok (.iload_n 0, 1) := by decide +kernel
theorem dX11_newDenier_93 : decode cX11_newDenier 93 = .ok (.iload_n 1, 1) := by decide +kernel
theorem dX11_newDenier_94 : decode cX11_newDenier 94 = .ok (.invokespecial 288, 3) := by decide +kernel
theorem dX11_newDenier_97 : decode cX11_newDenier 97 = .ok (.areturn, 1) := by decide +kernel
theorem dX11_newDenier_98 : decode cX11_newDenier 98 = .ok (.new 289, 3) := by decide +kernel
theorem dX11_newDenier_101 : decode cX11_newDenier 101 = .ok (.dup, 1) := by decide +kernel
theorem dX11_newDenier_102 : decode cX11_newDenier 102 = .ok (.iload_n 0, 1) := by decide +kernel
theorem dX11_newDenier_103 : decode cX11_newDenier 103 = .ok (.iload_n 1, 1) := by decide +kernel
theorem dX11_newDenier_104 : decode cX11_newDenier 104 = .ok (.invokespecial 291, 3) := by decide +kernel
theorem dX11_newDenier_107 : decode cX11_newDenier 107 = .ok (.areturn, 1) := by decide +kernel
theorem dX11_newDenier_108 : decode cX11_newDenier 108 = .ok (.new 292, 3) := by decide +kernel
theorem dX11_newDenier_111 : decode cX11_newDenier 111 = .ok (.dup, 1) := by decide +kernel
theorem dX11_newDenier_112 : decode cX11_newDenier 112 = .ok (.iload_n 0, 1) := by decide +kernel
theorem dX11_newDenier_113 : decode cX11_newDenier 113 = .ok (.iload_n 1, 1) := by decide +kernel
theorem dX11_newDenier_114 : decode cX11_newDenier 114 = .ok (.invokespecial 294, 3) := by decide +kernel
theorem dX11_newDenier_117 : decode cX11_newDenier 117 = .ok (.areturn, 1) := by decide +kernel
theorem dX11_newDenier_118 : decode cX11_newDenier 118 = .ok (.new 295, 3) := by decide +kernel
theorem dX11_newDenier_121 : decode cX11_newDenier 121 = .ok (.dup, 1) := by decide +kernel
theorem dX11_newDenier_122 : decode cX11_newDenier 122 = .ok (.iload_n 0, 1) := by decide +kernel
theorem dX11_newDenier_123 : decode cX11_newDenier 123 = .ok (.iload_n 1, 1) := by decide +kernel
theorem dX11_newDenier_124 : decode cX11_newDenier 124 = .ok (.invokespecial 297, 3) := by decide +kernel
theorem dX11_newDenier_127 : decode cX11_newDenier 127 = .ok (.areturn, 1) := by decide +kernel
theorem dX11_newDenier_128 : decode cX11_newDenier 128 = .ok (.aconst_null, 1) := by decide +kernel
theorem dX11_newDenier_129 : decode cX11_newDenier 129 = .ok (.areturn, 1) := by decide +kernel
set_option maxRecDepth 20000 in
theorem ggX11_areDenials_X8_size : GoodIn wsX11_areDenials wsX8_size := goodIn_r _ [5, 6, 28, 29] (by decide +kernel) (by decide +kernel)
set_option maxRecDepth 20000 in
theorem gX11_areDenials_X8_size : GoodIn wsX11_areDenials (wsV RX11 61 RX8 yX8_size wsX8_size) := goodIn_app (goodIn_of _ (by decide +kernel)) ggX11_areDenials_X8_size
set_option maxRecDepth 20000 in
theorem ggX11_areDenials_X8_at : GoodIn wsX11_areDenials wsX8_at := goodIn_r _ [10, 6, 28, 29] (by decide +kernel) (by decide +kernel)
set_option maxRecDepth 20000 in
theorem gX11_areDenials_X8_at : GoodIn wsX11_areDenials (wsV RX11 69 RX8 yX8_at wsX8_at) := goodIn_app (goodIn_of _ (by decide +kernel)) ggX11_areDenials_X8_at
set_option maxRecDepth 20000 in
theorem ggX11_areDenials_X11_isPair : GoodIn wsX11_areDenials wsX11_isPair := goodIn_r _ [15, 16, 17, 18, 19, 20, 21, 22, 23, 24, 25, 26, 27, 30, 31, 32, 33, 34, 35, 36, 37, 38, 39, 40, 41, 42, 43, 44, 45, 46] (by decide +kernel) (by decide +kernel)
set_option maxRecDepth 20000 in
theorem gX11_areDenials_X11_isPair : GoodIn wsX11_areDenials (wsV RX11 117 RX11 yX11_isPair wsX11_isPair) := goodIn_app (goodIn_of _ (by decide +kernel)) ggX11_areDenials_X11_isPair
theorem dX11_areDenials_0 : decode cX11_areDenials 0 = .ok (.aload_n 1, 1) := by decide +kernel
theorem dX11_areDenials_1 : decode cX11_areDenials 1 = .ok (.invokevirtual 61, 3) := by decide +kernel
theorem dX11_areDenials_4 : decode cX11_areDenials 4 = .ok (.iconst 2, 1) := by decide +kernel
theorem dX11_areDenials_5 : decode cX11_areDenials 5 = .ok (.irem, 1) := by decide +kernel
theorem dX11_areDenials_6 : decode cX11_areDenials 6 = .ok (.ifCond .ne 12, 3) := by decide +kernel
theorem dX11_areDenials_9 : decode cX11_areDenials 9 = .ok (.aload_n 1, 1) := by decide +kernel
theorem dX11_areDenials_10 : decode cX11_areDenials 10 = .ok (.invokevirtual 61, 3) := by decide +kernel
theorem dX11_areDenials_13 : decode cX11_areDenials 13 = .ok (.bipush 24, 2) := by decide +kernel
theorem dX11_areDenials_15 : decode cX11_areDenials 15 = .ok (.if_icmp .le 5, 3) := by decide +kernel
theorem dX11_areDenials_18 : decode cX11_areDenials 18 = .ok (.iconst 0, 1) := by decide +kernel
theorem dX11_areDenials_19 : decode cX11_areDenials 19 = .ok (.ireturn, 1) := by decide +kernel
theorem dX11_areDenials_20 : decode cX11_areDenials 20 = .ok (.iconst 0, 1) := by decide +kernel
theorem dX11_areDenials_21 : decode cX11_areDenials 21 = .ok (.istore_n 2, 1) := by decide +kernel
theorem dX11_areDenials_22 : decode cX11_areDenials 22 = .ok (.iload_n 2, 1) := by decide +kernel
theorem dX11_areDenials_23 : decode cX11_areDenials 23 = .ok (.aload_n 1, 1) := by decide +kernel
theorem dX11_areDenials_24 : decode cX11_areDenials 24 = .ok (.invokevirtual 61, 3) := by decide +kernel
theorem dX11_areDenials_27 : decode cX11_areDenials 27 = .ok (.if_icmp .ge 30, 3) := by decide +kernel
theorem dX11_areDenials_30 : decode cX11_areDenials 30 = .ok (.aload_n 0, 1) := by decide +kernel
theorem dX11_areDenials_31 : decode cX11_areDenials 31 = .ok (.aload_n 1, 1) := by decide +kernel
theorem dX11_areDenials_32 : decode cX11_areDenials 32 = .ok (.iload_n 2, 1) := by decide +kernel
theorem dX11_areDenials_33 : decode cX11_areDenials 33 = .ok (.invokevirtual 69, 3) := by decide +kernel
theorem dX11_areDenials_36 : decode cX11_areDenials 36 = .ok (.aload_n 1, 1) := by decide +kernel
theorem dX11_areDenials_37 : decode cX11_areDenials 37 = .ok (.iload_n 2, 1) := by decide +kernel
theorem dX11_areDenials_38 : decode cX11_areDenials 38 = .ok (.iconst 1, 1) := by decide +kernel
theorem dX11_areDenials_39 : decode cX11_areDenials 39 = .ok (.iadd, 1) := by decide +kernel
theorem dX11_areDenials_40 : decode cX11_areDenials 40 = .ok (.invokevirtual 69, 3) := by decide +kernel
theorem dX11_areDenials_43 : decode cX11_areDenials 43 = .ok (.invokevirtual 117, 3) := by decide +kernel
theorem dX11_areDenials_46 : decode cX11_areDenials 46 = .ok (.ifCond .ne 5, 3) := by decide +kernel
theorem dX11_areDenials_49 : decode cX11_areDenials 49 = .ok (.iconst 0, 1) := by decide +kernel
theorem dX11_areDenials_50 : decode cX11_areDenials 50 = .ok (.ireturn, 1) := by decide +kernel
theorem dX11_areDenials_51 : decode cX11_areDenials 51 = .ok (.iinc 2 2, 3) := by decide +kernel
theorem dX11_areDenials_54 : decode cX11_areDenials 54 = .ok (.goto (-32), 3) := by decide +kernel
theorem dX11_areDenials_57 : decode cX11_areDenials 57 = .ok (.iconst 1, 1) := by decide +kernel
theorem dX11_areDenials_58 : decode cX11_areDenials 58 = .ok (.ireturn, 1) := by decide +kernel
set_option maxRecDepth 20000 in
theorem ggX11_disputeIfAllowed_X9_isAllowed : GoodIn wsX11_disputeIfAllowed wsX9_isAllowed := goodIn_r _ [6, 7, 8, 9, 10, 5, 11, 12, 13, 14, 15, 16, 17, 18, 19, 20, 21, 22, 23, 24, 25, 26, 27, 28, 29, 30, 31, 32, 33, 34, 35, 36, 37, 38, 39, 40, 41, 42, 43, 44, 45, 46, 47, 48, 49, 50, 51, 52, 53, 54, 55, 56, 57, 58, 59, 60, 61, 62, 63, 64, 65, 66, 67, 68, 69, 70, 71, 72, 73, 74, 75, 76, 77, 78, 79, 80, 81, 82, 83, 84, 85, 86, 87, 88, 89, 90, 91, 92, 143, 144, 145, 146, 147, 148, 149, 150, 151, 152, 153, 154, 155, 156, 157, 158, 159, 160, 161, 162, 163, 164, 165, 166, 167, 168] (by decide +kernel) (by decide +kernel)
set_option maxRecDepth 20000 in
theorem gX11_disputeIfAllowed_X9_isAllowed : GoodIn wsX11_disputeIfAllowed (wsV RX11 124 RX9 yX9_isAllowed wsX9_isAllowed) := goodIn_app (goodIn_of _ (by decide +kernel)) ggX11_disputeIfAllowed_X9_isAllowed
set_option maxRecDepth 20000 in
theorem ggX11_disputeIfAllowed_X9_dispute : GoodIn wsX11_disputeIfAllowed wsX9_dispute := goodIn_r _ [96, 97, 98, 99, 100, 5, 101, 7, 8, 9, 10, 11, 12, 26, 27, 28, 29, 30, 31, 32, 33, 34, 35, 102, 103, 104, 105, 106, 107, 108, 109, 110, 41, 111, 112, 113, 114, 58, 115, 116, 117, 118, 54, 90, 19, 91, 119, 120, 121, 122, 123, 124, 125, 126, 127, 128, 129, 130, 131, 132, 133, 134, 135, 18, 20, 143, 144, 145, 146, 147, 148, 149, 150, 151, 152] (by decide +kernel) (by decide +kernel)
set_option maxRecDepth 20000 in
theorem gX11_disputeIfAllowed_X9_dispute : GoodIn wsX11_disputeIfAllowed (wsV RX11 127 RX9 yX9_dispute wsX9_dispute) := goodIn_app (goodIn_of _ (by decide +kernel)) ggX11_disputeIfAllowed_X9_dispute
theorem dX11_disputeIfAllowed_0 : decode cX11_disputeIfAllowed 0 = .ok (.aload_n 0, 1) := by decide +kernel
theorem dX11_disputeIfAllowed_1 : decode cX11_disputeIfAllowed 1 = .ok (.getfield 16, 3) := by decide +kernel
theorem dX11_disputeIfAllowed_4 : decode cX11_disputeIfAllowed 4 = .ok (.iload_n 1, 1) := by decide +kernel
theorem dX11_disputeIfAllowed_5 : decode cX11_disputeIfAllowed 5 = .ok (.iload_n 2, 1) := by decide +kernel
theorem dX11_disputeIfAllowed_6 : decode cX11_disputeIfAllowed 6 = .ok (.invokevirtual 124, 3) := by decide +kernel
theorem dX11_disputeIfAllowed_9 : decode cX11_disputeIfAllowed 9 = .ok (.ifCond .ne 5, 3) := by decide +kernel
theorem dX11_disputeIfAllowed_12 : decode cX11_disputeIfAllowed 12 = .ok (.iconst 0, 1) := by decide +kernel
theorem dX11_disputeIfAllowed_13 : decode cX11_disputeIfAllowed 13 = .ok (.ireturn, 1) := by decide +kernel
theorem dX11_disputeIfAllowed_14 : decode cX11_disputeIfAllowed 14 = .ok (.aload_n 0, 1) := by decide +kernel
theorem dX11_disputeIfAllowed_15 : decode cX11_disputeIfAllowed 15 = .ok (.getfield 16, 3) := by decide +kernel
theorem dX11_disputeIfAllowed_18 : decode cX11_disputeIfAllowed 18 = .ok (.iload_n 1, 1) := by decide +kernel
theorem dX11_disputeIfAllowed_19 : decode cX11_disputeIfAllowed 19 = .ok (.iload_n 2, 1) := by decide +kernel
theorem dX11_disputeIfAllowed_20 : decode cX11_disputeIfAllowed 20 = .ok (.invokevirtual 127, 3) := by decide +kernel
theorem dX11_disputeIfAllowed_23 : decode cX11_disputeIfAllowed 23 = .ok (.pop, 1) := by decide +kernel
theorem dX11_disputeIfAllowed_24 : decode cX11_disputeIfAllowed 24 = .ok (.iconst 1, 1) := by decide +kernel
theorem dX11_disputeIfAllowed_25 : decode cX11_disputeIfAllowed 25 = .ok (.ireturn, 1) := by decide +kernel
theorem dX11_nextSeed_0 : decode cX11_nextSeed 0 = .ok (.iload_n 0, 1) := by decide +kernel
theorem dX11_nextSeed_1 : decode cX11_nextSeed 1 = .ok (.ldc_w 298, 3) := by decide +kernel
theorem dX11_nextSeed_4 : decode cX11_nextSeed 4 = .ok (.imul, 1) := by decide +kernel
theorem dX11_nextSeed_5 : decode cX11_nextSeed 5 = .ok (.sipush 12345, 3) := by decide +kernel
theorem dX11_nextSeed_8 : decode cX11_nextSeed 8 = .ok (.iadd, 1) := by decide +kernel
theorem dX11_nextSeed_9 : decode cX11_nextSeed 9 = .ok (.ireturn, 1) := by decide +kernel
theorem dX11_draw_0 : decode cX11_draw 0 = .ok (.iload_n 1, 1) := by decide +kernel
theorem dX11_draw_1 : decode cX11_draw 1 = .ok (.iconst 1, 1) := by decide +kernel
theorem dX11_draw_2 : decode cX11_draw 2 = .ok (.if_icmp .ge 7, 3) := by decide +kernel
theorem dX11_draw_5 : decode cX11_draw 5 = .ok (.iconst 0, 1) := by decide +kernel
theorem dX11_draw_6 : decode cX11_draw 6 = .ok (.goto 13, 3) := by decide +kernel
theorem dX11_draw_9 : decode cX11_draw 9 = .ok (.iload_n 0, 1) := by decide +kernel
theorem dX11_draw_10 : decode cX11_draw 10 = .ok (.ldc_w 299, 3) := by decide +kernel
theorem dX11_draw_13 : decode cX11_draw 13 = .ok (.iand, 1) := by decide +kernel
theorem dX11_draw_14 : decode cX11_draw 14 = .ok (.bipush 16, 2) := by decide +kernel
theorem dX11_draw_16 : decode cX11_draw 16 = .ok (.ishr, 1) := by decide +kernel
theorem dX11_draw_17 : decode cX11_draw 17 = .ok (.iload_n 1, 1) := by decide +kernel
theorem dX11_draw_18 : decode cX11_draw 18 = .ok (.irem, 1) := by decide +kernel
theorem dX11_draw_19 : decode cX11_draw 19 = .ok (.ireturn, 1) := by decide +kernel
theorem dX11_digitsBehind_0 : decode cX11_digitsBehind 0 = .ok (.iload_n 0, 1) := by decide +kernel
theorem dX11_digitsBehind_1 : decode cX11_digitsBehind 1 = .ok (.lookupswitch 65 #[(100, 63), (107, 63), (110, 63), (115, 59), (116, 61), (120, 63)], 59) := by decide +kernel
theorem dX11_digitsBehind_60 : decode cX11_digitsBehind 60 = .ok (.iconst 0, 1) := by decide +kernel
theorem dX11_digitsBehind_61 : decode cX11_digitsBehind 61 = .ok (.ireturn, 1) := by decide +kernel
theorem dX11_digitsBehind_62 : decode cX11_digitsBehind 62 = .ok (.iconst 1, 1) := by decide +kernel
theorem dX11_digitsBehind_63 : decode cX11_digitsBehind 63 = .ok (.ireturn, 1) := by decide +kernel
theorem dX11_digitsBehind_64 : decode cX11_digitsBehind 64 = .ok (.iconst 2, 1) := by decide +kernel
theorem dX11_digitsBehind_65 : decode cX11_digitsBehind 65 = .ok (.ireturn, 1) := by decide +kernel
theorem dX11_digitsBehind_66 : decode cX11_digitsBehind 66 = .ok (.iconst (-1), 1) := by decide +kernel
theorem dX11_digitsBehind_67 : decode cX11_digitsBehind 67 = .ok (.ireturn, 1) := by decide +kernel
theorem dX11_digit_0 : decode cX11_digit 0 = .ok (.iload_n 0, 1) := by decide +kernel
theorem dX11_digit_1 : decode cX11_digit 1 = .ok (.bipush 48, 2) := by decide +kernel
theorem dX11_digit_3 : decode cX11_digit 3 = .ok (.if_icmp .lt 16, 3) := by decide +kernel
theorem dX11_digit_6 : decode cX11_digit 6 = .ok (.iload_n 0, 1) := by decide +kernel
theorem dX11_digit_7 : decode cX11_digit 7 = .ok (.bipush 57, 2) := by decide +kernel
theorem dX11_digit_9 : decode cX11_digit 9 = .ok (.if_icmp .gt 10, 3) := by decide +kernel
theorem dX11_digit_12 : decode cX11_digit 12 = .ok (.iload_n 0, 1) := by decide +kernel
theorem dX11_digit_13 : decode cX11_digit 13 = .ok (.bipush 48, 2) := by decide +kernel
theorem dX11_digit_15 : decode cX11_digit 15 = .ok (.isub, 1) := by decide +kernel
theorem dX11_digit_16 : decode cX11_digit 16 = .ok (.goto 4, 3) := by decide +kernel
theorem dX11_digit_19 : decode cX11_digit 19 = .ok (.iconst (-1), 1) := by decide +kernel
theorem dX11_digit_20 : decode cX11_digit 20 = .ok (.ireturn, 1) := by decide +kernel
set_option maxRecDepth 20000 in
theorem ggX11_firstBadByte_X8_at : GoodIn wsX11_firstBadByte wsX8_at := goodIn_r _ [5, 6, 18, 19] (by decide +kernel) (by decide +kernel)
set_option maxRecDepth 20000 in
theorem gX11_firstBadByte_X8_at : GoodIn wsX11_firstBadByte (wsV RX11 69 RX8 yX8_at wsX8_at) := goodIn_app (goodIn_of _ (by decide +kernel)) ggX11_firstBadByte_X8_at
set_option maxRecDepth 20000 in
theorem ggX11_firstBadByte_X11_digitsBehind : GoodIn wsX11_firstBadByte wsX11_digitsBehind := goodIn_r _ [10] (by decide +kernel) (by decide +kernel)
set_option maxRecDepth 20000 in
theorem gX11_firstBadByte_X11_digitsBehind : GoodIn wsX11_firstBadByte (va_wsS RX11 72 yX11_digitsBehind wsX11_digitsBehind) := goodIn_app (goodIn_of _ (by decide +kernel)) ggX11_firstBadByte_X11_digitsBehind
set_option maxRecDepth 20000 in
theorem ggX11_firstBadByte_X11_digit : GoodIn wsX11_firstBadByte wsX11_digit := goodIn_r _ [13] (by decide +kernel) (by decide +kernel)
set_option maxRecDepth 20000 in
theorem gX11_firstBadByte_X11_digit : GoodIn wsX11_firstBadByte (va_wsS RX11 300 yX11_digit wsX11_digit) := goodIn_app (goodIn_of _ (by decide +kernel)) ggX11_firstBadByte_X11_digit
set_option maxRecDepth 20000 in
theorem ggX11_firstBadByte_X8_size : GoodIn wsX11_firstBadByte wsX8_size := goodIn_r _ [17, 6, 18, 19] (by decide +kernel) (by decide +kernel)
set_option maxRecDepth 20000 in
theorem gX11_firstBadByte_X8_size : GoodIn wsX11_firstBadByte (wsV RX11 61 RX8 yX8_size wsX8_size) := goodIn_app (goodIn_of _ (by decide +kernel)) ggX11_firstBadByte_X8_size
theorem dX11_firstBadByte_0 : decode cX11_firstBadByte 0 = .ok (.iconst 0, 1) := by decide +kernel
theorem dX11_firstBadByte_1 : decode cX11_firstBadByte 1 = .ok (.istore_n 1, 1) := by decide +kernel
theorem dX11_firstBadByte_2 : decode cX11_firstBadByte 2 = .ok (.aload_n 0, 1) := by decide +kernel
theorem dX11_firstBadByte_3 : decode cX11_firstBadByte 3 = .ok (.iload_n 1, 1) := by decide +kernel
theorem dX11_firstBadByte_4 : decode cX11_firstBadByte 4 = .ok (.invokevirtual 69, 3) := by decide +kernel
theorem dX11_firstBadByte_7 : decode cX11_firstBadByte 7 = .ok (.invokestatic 72, 3) := by decide +kernel
theorem dX11_firstBadByte_10 : decode cX11_firstBadByte 10 = .ok (.istore_n 2, 1) := by decide +kernel
theorem dX11_firstBadByte_11 : decode cX11_firstBadByte 11 = .ok (.iload_n 2, 1) := by decide +kernel
theorem dX11_firstBadByte_12 : decode cX11_firstBadByte 12 = .ok (.ifCond .ge 5, 3) := by decide +kernel
theorem dX11_firstBadByte_15 : decode cX11_firstBadByte 15 = .ok (.iload_n 1, 1) := by decide +kernel
theorem dX11_firstBadByte_16 : decode cX11_firstBadByte 16 = .ok (.ireturn, 1) := by decide +kernel
theorem dX11_firstBadByte_17 : decode cX11_firstBadByte 17 = .ok (.iinc 1 1, 3) := by decide +kernel
theorem dX11_firstBadByte_20 : decode cX11_firstBadByte 20 = .ok (.iconst 0, 1) := by decide +kernel
theorem dX11_firstBadByte_21 : decode cX11_firstBadByte 21 = .ok (.istore_n 3, 1) := by decide +kernel
theorem dX11_firstBadByte_22 : decode cX11_firstBadByte 22 = .ok (.iload_n 3, 1) := by decide +kernel
theorem dX11_firstBadByte_23 : decode cX11_firstBadByte 23 = .ok (.iload_n 2, 1) := by decide +kernel
theorem dX11_firstBadByte_24 : decode cX11_firstBadByte 24 = .ok (.if_icmp .ge 25, 3) := by decide +kernel
theorem dX11_firstBadByte_27 : decode cX11_firstBadByte 27 = .ok (.aload_n 0, 1) := by decide +kernel
theorem dX11_firstBadByte_28 : decode cX11_firstBadByte 28 = .ok (.iload_n 1, 1) := by decide +kernel
theorem dX11_firstBadByte_29 : decode cX11_firstBadByte 29 = .ok (.invokevirtual 69, 3) := by decide +kernel
theorem dX11_firstBadByte_32 : decode cX11_firstBadByte 32 = .ok (.invokestatic 300, 3) := by decide +kernel
theorem dX11_firstBadByte_35 : decode cX11_firstBadByte 35 = .ok (.ifCond .ge 5, 3) := by decide +kernel
theorem dX11_firstBadByte_38 : decode cX11_firstBadByte 38 = .ok (.iload_n 1, 1) := by decide +kernel
theorem dX11_firstBadByte_39 : decode cX11_firstBadByte 39 = .ok (.ireturn, 1) := by decide +kernel
theorem dX11_firstBadByte_40 : decode cX11_firstBadByte 40 = .ok (.iinc 1 1, 3) := by decide +kernel
theorem dX11_firstBadByte_43 : decode cX11_firstBadByte 43 = .ok (.iinc 3 1, 3) := by decide +kernel
theorem dX11_firstBadByte_46 : decode cX11_firstBadByte 46 = .ok (.goto (-24), 3) := by decide +kernel
theorem dX11_firstBadByte_49 : decode cX11_firstBadByte 49 = .ok (.aload_n 0, 1) := by decide +kernel
theorem dX11_firstBadByte_50 : decode cX11_firstBadByte 50 = .ok (.iload_n 1, 1) := by decide +kernel
theorem dX11_firstBadByte_51 : decode cX11_firstBadByte 51 = .ok (.invokevirtual 69, 3) := by decide +kernel
theorem dX11_firstBadByte_54 : decode cX11_firstBadByte 54 = .ok (.bipush 59, 2) := by decide +kernel
theorem dX11_firstBadByte_56 : decode cX11_firstBadByte 56 = .ok (.if_icmp .eq 5, 3) := by decide +kernel
theorem dX11_firstBadByte_59 : decode cX11_firstBadByte 59 = .ok (.iload_n 1, 1) := by decide +kernel
theorem dX11_firstBadByte_60 : decode cX11_firstBadByte 60 = .ok (.ireturn, 1) := by decide +kernel
theorem dX11_firstBadByte_61 : decode cX11_firstBadByte 61 = .ok (.iinc 1 1, 3) := by decide +kernel
theorem dX11_firstBadByte_64 : decode cX11_firstBadByte 64 = .ok (.iload_n 1, 1) := by decide +kernel
theorem dX11_firstBadByte_65 : decode cX11_firstBadByte 65 = .ok (.aload_n 0, 1) := by decide +kernel
theorem dX11_firstBadByte_66 : decode cX11_firstBadByte 66 = .ok (.invokevirtual 61, 3) := by decide +kernel
theorem dX11_firstBadByte_69 : decode cX11_firstBadByte 69 = .ok (.if_icmp .lt (-67), 3) := by decide +kernel
theorem dX11_firstBadByte_72 : decode cX11_firstBadByte 72 = .ok (.iconst (-1), 1) := by decide +kernel
theorem dX11_firstBadByte_73 : decode cX11_firstBadByte 73 = .ok (.ireturn, 1) := by decide +kernel
set_option maxRecDepth 20000 in
theorem ggX11_tell_X8_at : GoodIn wsX11_tell wsX8_at := goodIn_r _ [5, 6, 226, 227] (by decide +kernel) (by decide +kernel)
set_option maxRecDepth 20000 in
theorem gX11_tell_X8_at : GoodIn wsX11_tell (wsV RX11 69 RX8 yX8_at wsX8_at) := goodIn_app (goodIn_of _ (by decide +kernel)) ggX11_tell_X8_at
set_option maxRecDepth 20000 in
theorem ggX11_tell_X11_digit : GoodIn wsX11_tell wsX11_digit := goodIn_r _ [10] (by decide +kernel) (by decide +kernel)
set_option maxRecDepth 20000 in
theorem gX11_tell_X11_digit : GoodIn wsX11_tell (va_wsS RX11 300 yX11_digit wsX11_digit) := goodIn_app (goodIn_of _ (by decide +kernel)) ggX11_tell_X11_digit
set_option maxRecDepth 20000 in
theorem ggX11_tell_X9_addSentence : GoodIn wsX11_tell wsX9_addSentence := goodIn_r _ [15, 16, 17, 228, 229, 230, 231, 232, 233, 234, 235, 236, 237] (by decide +kernel) (by decide +kernel)
set_option maxRecDepth 20000 in
theorem gX11_tell_X9_addSentence : GoodIn wsX11_tell (wsV RX11 303 RX9 yX9_addSentence wsX9_addSentence) := goodIn_app (goodIn_of _ (by decide +kernel)) ggX11_tell_X9_addSentence
set_option maxRecDepth 20000 in
theorem ggX11_tell_X9_addNeed : GoodIn wsX11_tell wsX9_addNeed := goodIn_r _ [21, 17, 22, 23, 24, 14, 25, 16, 26, 9, 27, 228, 229, 230, 231, 232, 233, 234, 235, 236, 237] (by decide +kernel) (by decide +kernel)
set_option maxRecDepth 20000 in
theorem gX11_tell_X9_addNeed : GoodIn wsX11_tell (wsV RX11 307 RX9 yX9_addNeed wsX9_addNeed) := goodIn_app (goodIn_of _ (by decide +kernel)) ggX11_tell_X9_addNeed
set_option maxRecDepth 20000 in
theorem ggX11_tell_X9_found : GoodIn wsX11_tell wsX9_found := goodIn_r _ [31, 22, 23, 24, 14, 25, 16, 32, 33, 34, 35, 36, 37, 9, 38, 39, 40, 41, 42, 43, 44, 45, 26, 27, 228, 229, 230, 231, 232, 233, 234, 235, 236, 237] (by decide +kernel) (by decide +kernel)
set_option maxRecDepth 20000 in
theorem gX11_tell_X9_found : GoodIn wsX11_tell (wsV RX11 310 RX9 yX9_found wsX9_found) := goodIn_app (goodIn_of _ (by decide +kernel)) ggX11_tell_X9_found
set_option maxRecDepth 20000 in
theorem ggX11_tell_X11_newDenier : GoodIn wsX11_tell wsX11_newDenier := goodIn_r _ [48, 49, 50, 51, 52, 53, 54, 55, 56, 57, 58, 59, 60, 61, 62, 63, 64, 65, 66, 67, 68, 69, 70, 71, 72, 73, 74, 75, 76, 77, 78, 79, 80, 81, 82, 83, 84, 85, 86, 87, 88, 89, 90, 91, 92, 93, 94, 95, 96, 97, 98, 99, 100, 101, 102, 103, 104, 105, 106, 107, 108, 238, 239, 240, 241, 242, 243, 244, 245, 246, 247, 248, 249, 250, 251, 252, 253] (by decide +kernel) (by decide +kernel)
set_option maxRecDepth 20000 in
theorem gX11_tell_X11_newDenier : GoodIn wsX11_tell (va_wsS RX11 183 yX11_newDenier wsX11_newDenier) := goodIn_app (goodIn_of _ (by decide +kernel)) ggX11_tell_X11_newDenier
set_option maxRecDepth 20000 in
theorem ggX11_tell_X9_join : GoodIn wsX11_tell wsX9_join := goodIn_r _ [112, 113, 114, 115, 116, 26, 9, 27, 228, 229, 230, 231, 232, 233, 234, 235, 236, 237] (by decide +kernel) (by decide +kernel)
set_option maxRecDepth 20000 in
theorem gX11_tell_X9_join : GoodIn wsX11_tell (wsV RX11 113 RX9 yX9_join wsX9_join) := goodIn_app (goodIn_of _ (by decide +kernel)) ggX11_tell_X9_join
set_option maxRecDepth 20000 in
theorem ggX11_tell_X9_hasDenier : GoodIn wsX11_tell wsX9_hasDenier := goodIn_r _ [120, 113, 228, 229, 230, 231, 232, 233, 234, 235, 236, 237] (by decide +kernel) (by decide +kernel)
set_option maxRecDepth 20000 in
theorem gX11_tell_X9_hasDenier : GoodIn wsX11_tell (wsV RX11 130 RX9 yX9_hasDenier wsX9_hasDenier) := goodIn_app (goodIn_of _ (by decide +kernel)) ggX11_tell_X9_hasDenier
set_option maxRecDepth 20000 in
theorem ggX11_tell_X9_hasSentence : GoodIn wsX11_tell wsX9_hasSentence := goodIn_r _ [25, 16, 228, 229, 230, 231, 232, 233, 234, 235, 236, 237] (by decide +kernel) (by decide +kernel)
set_option maxRecDepth 20000 in
theorem gX11_tell_X9_hasSentence : GoodIn wsX11_tell (wsV RX11 75 RX9 yX9_hasSentence wsX9_hasSentence) := goodIn_app (goodIn_of _ (by decide +kernel)) ggX11_tell_X9_hasSentence
set_option maxRecDepth 20000 in
theorem ggX11_tell_X9_learn : GoodIn wsX11_tell wsX9_learn := goodIn_r _ [125, 115, 37, 9, 38, 26, 27, 228, 229, 230, 231, 232, 233, 234, 235, 236, 237] (by decide +kernel) (by decide +kernel)
set_option maxRecDepth 20000 in
theorem gX11_tell_X9_learn : GoodIn wsX11_tell (wsV RX11 121 RX9 yX9_learn wsX9_learn) := goodIn_app (goodIn_of _ (by decide +kernel)) ggX11_tell_X9_learn
set_option maxRecDepth 20000 in
theorem ggX11_tell_X9_isAllowed : GoodIn wsX11_tell wsX9_isAllowed := goodIn_r _ [129, 36, 130, 131, 132, 14, 133, 114, 134, 135, 136, 137, 116, 37, 9, 38, 22, 23, 24, 25, 16, 138, 139, 140, 141, 115, 142, 143, 144, 145, 17, 146, 147, 148, 149, 150, 72, 151, 152, 153, 154, 155, 63, 156, 157, 158, 159, 160, 161, 51, 162, 163, 164, 60, 165, 166, 167, 168, 169, 54, 170, 171, 172, 173, 66, 174, 175, 176, 177, 178, 179, 180, 181, 69, 182, 183, 184, 185, 186, 187, 188, 57, 189, 190, 191, 192, 193, 194, 228, 229, 230, 231, 232, 233, 234, 235, 236, 237, 252, 253, 244, 245, 238, 239, 240, 241, 246, 247, 248, 249, 250, 251, 242, 243] (by decide +kernel) (by decide +kernel)
set_option maxRecDepth 20000 in
theorem gX11_tell_X9_isAllowed : GoodIn wsX11_tell (wsV RX11 124 RX9 yX9_isAllowed wsX9_isAllowed) := goodIn_app (goodIn_of _ (by decide +kernel)) ggX11_tell_X9_isAllowed
set_option maxRecDepth 20000 in
theorem ggX11_tell_X9_dispute : GoodIn wsX11_tell wsX9_dispute := goodIn_r _ [198, 45, 199, 200, 201, 14, 202, 36, 130, 131, 132, 133, 114, 138, 139, 140, 141, 115, 142, 143, 144, 145, 17, 203, 204, 205, 206, 207, 208, 209, 210, 211, 72, 212, 213, 214, 215, 60, 216, 217, 218, 219, 51, 192, 9, 193, 220, 221, 222, 223, 224, 39, 40, 41, 42, 43, 44, 26, 27, 225, 123, 124, 125, 37, 38, 228, 229, 230, 231, 232, 233, 234, 235, 236, 237] (by decide +kernel) (by decide +kernel)
set_option maxRecDepth 20000 in
theorem gX11_tell_X9_dispute : GoodIn wsX11_tell (wsV RX11 127 RX9 yX9_dispute wsX9_dispute) := goodIn_app (goodIn_of _ (by decide +kernel)) ggX11_tell_X9_dispute
theorem dX11_tell_0 : decode cX11_tell 0 = .ok (.aload_n 1, 1) := by decide +kernel
theorem dX11_tell_1 : decode cX11_tell 1 = .ok (.iload_n 2, 1) := by decide +kernel
theorem dX11_tell_2 : decode cX11_tell 2 = .ok (.iconst 1, 1) := by decide +kernel
theorem dX11_tell_3 : decode cX11_tell 3 = .ok (.iadd, 1) := by decide +kernel
theorem dX11_tell_4 : decode cX11_tell 4 = .ok (.invokevirtual 69, 3) := by decide +kernel
theorem dX11_tell_7 : decode cX11_tell 7 = .ok (.invokestatic 300, 3) := by decide +kernel
theorem dX11_tell_10 : decode cX11_tell 10 = .ok (.istore_n 3, 1) := by decide +kernel
theorem dX11_tell_11 : decode cX11_tell 11 = .ok (.aload_n 1, 1) := by decide +kernel
theorem dX11_tell_12 : decode cX11_tell 12 = .ok (.iload_n 2, 1) := by decide +kernel
theorem dX11_tell_13 : decode cX11_tell 13 = .ok (.iconst 2, 1) := by decide +kernel
theorem dX11_tell_14 : decode cX11_tell 14 = .ok (.iadd, 1) := by decide +kernel
theorem dX11_tell_15 : decode cX11_tell 15 = .ok (.invokevirtual 69, 3) := by decide +kernel
theorem dX11_tell_18 : decode cX11_tell 18 = .ok (.invokestatic 300, 3) := by decide +kernel
theorem dX11_tell_21 : decode cX11_tell 21 = .ok (.istore 4, 2) := by decide +kernel
theorem dX11_tell_23 : decode cX11_tell 23 = .ok (.aload_n 1, 1) := by decide +kernel
theorem dX11_tell_24 : decode cX11_tell 24 = .ok (.iload_n 2, 1) := by decide +kernel
theorem dX11_tell_25 : decode cX11_tell 25 = .ok (.invokevirtual 69, 3) := by decide +kernel
theorem dX11_tell_28 : decode cX11_tell 28 = .ok (.lookupswitch 149 #[(100, 79), (107, 98), (110, 65), (115, 60), (116, 73), (120, 127)], 60) := by decide +kernel
theorem dX11_tell_88 : decode cX11_tell 88 = .ok (.aload_n 0, 1) := by decide +kernel
theorem dX11_tell_89 : decode cX11_tell 89 = .ok (.invokevirtual 303, 3) := by decide +kernel
theorem dX11_tell_92 : decode cX11_tell 92 = .ok (.ireturn, 1) := by decide +kernel
theorem dX11_tell_93 : decode cX11_tell 93 = .ok (.aload_n 0, 1) := by decide +kernel
theorem dX11_tell_94 : decode cX11_tell 94 = .ok (.iload_n 3, 1) := by decide +kernel
theorem dX11_tell_95 : decode cX11_tell 95 = .ok (.iload 4, 2) := by decide +kernel
theorem dX11_tell_97 : decode cX11_tell 97 = .ok (.invokevirtual 307, 3) := by decide +kernel
theorem dX11_tell_100 : decode cX11_tell 100 = .ok (.ireturn, 1) := by decide +kernel
theorem dX11_tell_101 : decode cX11_tell 101 = .ok (.aload_n 0, 1) := by decide +kernel
theorem dX11_tell_102 : decode cX11_tell 102 = .ok (.iload_n 3, 1) := by decide +kernel
theorem dX11_tell_103 : decode cX11_tell 103 = .ok (.invokevirtual 310, 3) := by decide +kernel
theorem dX11_tell_106 : decode cX11_tell 106 = .ok (.ireturn, 1) := by decide +kernel
theorem dX11_tell_107 : decode cX11_tell 107 = .ok (.aload_n 0, 1) := by decide +kernel
theorem dX11_tell_108 : decode cX11_tell 108 = .ok (.iload_n 3, 1) := by decide +kernel
theorem dX11_tell_109 : decode cX11_tell 109 = .ok (.iload 4, 2) := by decide +kernel
theorem dX11_tell_111 : decode cX11_tell 111 = .ok (.invokestatic 183, 3) := by decide +kernel
theorem dX11_tell_114 : decode cX11_tell 114 = .ok (.invokevirtual 113, 3) := by decide +kernel
theorem dX11_tell_117 : decode cX11_tell 117 = .ok (.ifCond .lt 7, 3) := by decide +kernel
theorem dX11_tell_120 : decode cX11_tell 120 = .ok (.iconst 1, 1) := by decide +kernel
theorem dX11_tell_121 : decode cX11_tell 121 = .ok (.goto 4, 3) := by decide +kernel
theorem dX11_tell_124 : decode cX11_tell 124 = .ok (.iconst 0, 1) := by decide +kernel
theorem dX11_tell_125 : decode cX11_tell 125 = .ok (.ireturn, 1) := by decide +kernel
theorem dX11_tell_126 : decode cX11_tell 126 = .ok (.aload_n 0, 1) := by decide +kernel
theorem dX11_tell_127 : decode cX11_tell 127 = .ok (.iload_n 3, 1) := by decide +kernel
theorem dX11_tell_128 : decode cX11_tell 128 = .ok (.invokevirtual 130, 3) := by decide +kernel
theorem dX11_tell_131 : decode cX11_tell 131 = .ok (.ifCond .eq 12, 3) := by decide +kernel
theorem dX11_tell_134 : decode cX11_tell 134 = .ok (.aload_n 0, 1) := by decide +kernel
theorem dX11_tell_135 : decode cX11_tell 135 = .ok (.iload 4, 2) := by decide +kernel
theorem dX11_tell_137 : decode cX11_tell 137 = .ok (.invokevirtual 75, 3) := by decide +kernel
theorem dX11_tell_140 : decode cX11_tell 140 = .ok (.ifCond .ne 5, 3) := by decide +kernel
theorem dX11_tell_143 : decode cX11_tell 143 = .ok (.iconst 0, 1) := by decide +kernel
theorem dX11_tell_144 : decode cX11_tell 144 = .ok (.ireturn, 1) := by decide +kernel
theorem dX11_tell_145 : decode cX11_tell 145 = .ok (.aload_n 0, 1) := by decide +kernel
theorem dX11_tell_146 : decode cX11_tell 146 = .ok (.iload_n 3, 1) := by decide +kernel
theorem dX11_tell_147 : decode cX11_tell 147 = .ok (.iload 4, 2) := by decide +kernel
theorem dX11_tell_149 : decode cX11_tell 149 = .ok (.invokevirtual 121, 3) := by decide +kernel
theorem dX11_tell_152 : decode cX11_tell 152 = .ok (.pop, 1) := by decide +kernel
theorem dX11_tell_153 : decode cX11_tell 153 = .ok (.iconst 1, 1) := by decide +kernel
theorem dX11_tell_154 : decode cX11_tell 154 = .ok (.ireturn, 1) := by decide +kernel
theorem dX11_tell_155 : decode cX11_tell 155 = .ok (.aload_n 0, 1) := by decide +kernel
theorem dX11_tell_156 : decode cX11_tell 156 = .ok (.iload_n 3, 1) := by decide +kernel
theorem dX11_tell_157 : decode cX11_tell 157 = .ok (.iload 4, 2) := by decide +kernel
theorem dX11_tell_159 : decode cX11_tell 159 = .ok (.invokevirtual 124, 3) := by decide +kernel
theorem dX11_tell_162 : decode cX11_tell 162 = .ok (.ifCond .ne 5, 3) := by decide +kernel
theorem dX11_tell_165 : decode cX11_tell 165 = .ok (.iconst 0, 1) := by decide +kernel
theorem dX11_tell_166 : decode cX11_tell 166 = .ok (.ireturn, 1) := by decide +kernel
theorem dX11_tell_167 : decode cX11_tell 167 = .ok (.aload_n 0, 1) := by decide +kernel
theorem dX11_tell_168 : decode cX11_tell 168 = .ok (.iload_n 3, 1) := by decide +kernel
theorem dX11_tell_169 : decode cX11_tell 169 = .ok (.iload 4, 2) := by decide +kernel
theorem dX11_tell_171 : decode cX11_tell 171 = .ok (.invokevirtual 127, 3) := by decide +kernel
theorem dX11_tell_174 : decode cX11_tell 174 = .ok (.pop, 1) := by decide +kernel
theorem dX11_tell_175 : decode cX11_tell 175 = .ok (.iconst 1, 1) := by decide +kernel
theorem dX11_tell_176 : decode cX11_tell 176 = .ok (.ireturn, 1) := by decide +kernel
theorem dX11_tell_177 : decode cX11_tell 177 = .ok (.iconst 0, 1) := by decide +kernel
theorem dX11_tell_178 : decode cX11_tell 178 = .ok (.ireturn, 1) := by decide +kernel

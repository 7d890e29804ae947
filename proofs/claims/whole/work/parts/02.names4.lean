theorem dX6_six_15 : decode cX6_six 15 = .ok (.invokestatic 54, 3) := by decide +kernel
theorem dX6_six_18 : decode cX6_six 18 = .ok (.ladd, 1) := by decide +kernel
theorem dX6_six_19 : decode cX6_six 19 = .ok (.lreturn, 1) := by decide +kernel
set_option maxRecDepth 20000 in
theorem ggX6_four_X6_three : GoodIn wsX6_four wsX6_three := goodIn_r _ [6, 1, 2] (by decide +kernel) (by decide +kernel)
set_option maxRecDepth 20000 in
theorem gX6_four_X6_three : GoodIn wsX6_four (va_wsS RX6 54 yX6_three wsX6_three) := goodIn_app (goodIn_of _ (by decide +kernel)) ggX6_four_X6_three
theorem dX6_four_0 : decode cX6_four 0 = .ok (.ldc2_w 48, 3) := by decide +kernel
theorem dX6_four_3 : decode cX6_four 3 = .ok (.iload_n 0, 1) := by decide +kernel
theorem dX6_four_4 : decode cX6_four 4 = .ok (.iload_n 1, 1) := by decide +kernel
theorem dX6_four_5 : decode cX6_four 5 = .ok (.iload_n 2, 1) := by decide +kernel
theorem dX6_four_6 : decode cX6_four 6 = .ok (.invokestatic 54, 3) := by decide +kernel
theorem dX6_four_9 : decode cX6_four 9 = .ok (.lmul, 1) := by decide +kernel
theorem dX6_four_10 : decode cX6_four 10 = .ok (.iload_n 3, 1) := by decide +kernel
theorem dX6_four_11 : decode cX6_four 11 = .ok (.i2l, 1) := by decide +kernel
theorem dX6_four_12 : decode cX6_four 12 = .ok (.ladd, 1) := by decide +kernel
theorem dX6_four_13 : decode cX6_four 13 = .ok (.ldc2_w 50, 3) := by decide +kernel
theorem dX6_four_16 : decode cX6_four 16 = .ok (.lsub, 1) := by decide +kernel
theorem dX6_four_17 : decode cX6_four 17 = .ok (.lreturn, 1) := by decide +kernel
theorem dX6_isWord_0 : decode cX6_isWord 0 = .ok (.aload_n 0, 1) := by decide +kernel
theorem dX6_isWord_1 : decode cX6_isWord 1 = .ok (.getfield 27, 3) := by decide +kernel
theorem dX6_isWord_4 : decode cX6_isWord 4 = .ok (.iconst 2, 1) := by decide +kernel
theorem dX6_isWord_5 : decode cX6_isWord 5 = .ok (.if_icmp .ne 16, 3) := by decide +kernel
theorem dX6_isWord_8 : decode cX6_isWord 8 = .ok (.aload_n 0, 1) := by decide +kernel
theorem dX6_isWord_9 : decode cX6_isWord 9 = .ok (.getfield 37, 3) := by decide +kernel
theorem dX6_isWord_12 : decode cX6_isWord 12 = .ok (.lload_n 1, 1) := by decide +kernel
theorem dX6_isWord_13 : decode cX6_isWord 13 = .ok (.lcmp, 1) := by decide +kernel
theorem dX6_isWord_14 : decode cX6_isWord 14 = .ok (.ifCond .ne 7, 3) := by decide +kernel
theorem dX6_isWord_17 : decode cX6_isWord 17 = .ok (.iconst 1, 1) := by decide +kernel
theorem dX6_isWord_18 : decode cX6_isWord 18 = .ok (.goto 4, 3) := by decide +kernel
theorem dX6_isWord_21 : decode cX6_isWord 21 = .ok (.iconst 0, 1) := by decide +kernel
theorem dX6_isWord_22 : decode cX6_isWord 22 = .ok (.ireturn, 1) := by decide +kernel
theorem dX6_bad_0 : decode cX6_bad 0 = .ok (.aload_n 0, 1) := by decide +kernel
theorem dX6_bad_1 : decode cX6_bad 1 = .ok (.aload_n 0, 1) := by decide +kernel
theorem dX6_bad_2 : decode cX6_bad 2 = .ok (.getfield 27, 3) := by decide +kernel
theorem dX6_bad_5 : decode cX6_bad 5 = .ok (.iconst 1, 1) := by decide +kernel
theorem dX6_bad_6 : decode cX6_bad 6 = .ok (.if_icmp .ne 7, 3) := by decide +kernel
theorem dX6_bad_9 : decode cX6_bad 9 = .ok (.iconst 1, 1) := by decide +kernel
theorem dX6_bad_10 : decode cX6_bad 10 = .ok (.goto 4, 3) := by decide +kernel
theorem dX6_bad_13 : decode cX6_bad 13 = .ok (.iload_n 1, 1) := by decide +kernel
theorem dX6_bad_14 : decode cX6_bad 14 = .ok (.putfield 58, 3) := by decide +kernel
theorem dX6_bad_17 : decode cX6_bad 17 = .ok (.aload_n 0, 1) := by decide +kernel
theorem dX6_bad_18 : decode cX6_bad 18 = .ok (.aload_n 0, 1) := by decide +kernel
theorem dX6_bad_19 : decode cX6_bad 19 = .ok (.getfield 24, 3) := by decide +kernel
theorem dX6_bad_22 : decode cX6_bad 22 = .ok (.putfield 61, 3) := by decide +kernel
theorem dX6_bad_25 : decode cX6_bad 25 = .ok (.iconst 0, 1) := by decide +kernel
theorem dX6_bad_26 : decode cX6_bad 26 = .ok (.ireturn, 1) := by decide +kernel
theorem dX6_init_0 : decode cX6_init 0 = .ok (.aload_n 0, 1) := by decide +kernel
theorem dX6_init_1 : decode cX6_init 1 = .ok (.invokespecial 64, 3) := by decide +kernel
theorem dX6_init_4 : decode cX6_init 4 = .ok (.aload_n 0, 1) := by decide +kernel
theorem dX6_init_5 : decode cX6_init 5 = .ok (.sipush 640, 3) := by decide +kernel
theorem dX6_init_8 : decode cX6_init 8 = .ok (.newarray .int, 2) := by decide +kernel
theorem dX6_init_10 : decode cX6_init 10 = .ok (.putfield 7, 3) := by decide +kernel
theorem dX6_init_13 : decode cX6_init 13 = .ok (.aload_n 0, 1) := by decide +kernel
theorem dX6_init_14 : decode cX6_init 14 = .ok (.sipush 785, 3) := by decide +kernel
theorem dX6_init_17 : decode cX6_init 17 = .ok (.newarray .int, 2) := by decide +kernel
theorem dX6_init_19 : decode cX6_init 19 = .ok (.putfield 70, 3) := by decide +kernel
theorem dX6_init_22 : decode cX6_init 22 = .ok (.aload_n 0, 1) := by decide +kernel
theorem dX6_init_23 : decode cX6_init 23 = .ok (.sipush 785, 3) := by decide +kernel
theorem dX6_init_26 : decode cX6_init 26 = .ok (.newarray .int, 2) := by decide +kernel
theorem dX6_init_28 : decode cX6_init 28 = .ok (.putfield 73, 3) := by decide +kernel
theorem dX6_init_31 : decode cX6_init 31 = .ok (.aload_n 0, 1) := by decide +kernel
theorem dX6_init_32 : decode cX6_init 32 = .ok (.sipush 785, 3) := by decide +kernel
theorem dX6_init_35 : decode cX6_init 35 = .ok (.newarray .int, 2) := by decide +kernel
theorem dX6_init_37 : decode cX6_init 37 = .ok (.putfield 76, 3) := by decide +kernel
theorem dX6_init_40 : decode cX6_init 40 = .ok (.aload_n 0, 1) := by decide +kernel
theorem dX6_init_41 : decode cX6_init 41 = .ok (.sipush 7850, 3) := by decide +kernel
theorem dX6_init_44 : decode cX6_init 44 = .ok (.newarray .int, 2) := by decide +kernel
theorem dX6_init_46 : decode cX6_init 46 = .ok (.putfield 79, 3) := by decide +kernel
theorem dX6_init_49 : decode cX6_init 49 = .ok (.aload_n 0, 1) := by decide +kernel
theorem dX6_init_50 : decode cX6_init 50 = .ok (.getfield 70, 3) := by decide +kernel
theorem dX6_init_53 : decode cX6_init 53 = .ok (.iconst 1, 1) := by decide +kernel
theorem dX6_init_54 : decode cX6_init 54 = .ok (.iconst 1, 1) := by decide +kernel
theorem dX6_init_55 : decode cX6_init 55 = .ok (.iastore, 1) := by decide +kernel
theorem dX6_init_56 : decode cX6_init 56 = .ok (.return_, 1) := by decide +kernel
set_option maxRecDepth 20000 in
theorem ggX6_told_X6_bad : GoodIn wsX6_told wsX6_bad := goodIn_r _ [8, 1, 9, 10, 11, 35, 36, 37, 38, 39, 40, 41, 42, 43, 44, 45, 46, 47, 48, 49, 50, 51, 52, 53, 54] (by decide +kernel) (by decide +kernel)
set_option maxRecDepth 20000 in
theorem gX6_told_X6_bad : GoodIn wsX6_told (wsV RX6 82 RX6 yX6_bad wsX6_bad) := goodIn_app (goodIn_of _ (by decide +kernel)) ggX6_told_X6_bad
set_option maxRecDepth 20000 in
theorem ggX6_told_X6_isIn : GoodIn wsX6_told wsX6_isIn := goodIn_r _ [14] (by decide +kernel) (by decide +kernel)
set_option maxRecDepth 20000 in
theorem gX6_told_X6_isIn : GoodIn wsX6_told (va_wsS RX6 85 yX6_isIn wsX6_isIn) := goodIn_app (goodIn_of _ (by decide +kernel)) ggX6_told_X6_isIn
set_option maxRecDepth 20000 in
theorem ggX6_told_X6_go : GoodIn wsX6_told wsX6_go := goodIn_r _ [18, 19, 20, 21, 10, 1, 22, 2, 23, 24, 25, 26, 7, 27, 28, 29, 30, 31, 32, 33, 34, 35, 36, 37, 38, 39, 40, 41, 42, 43, 44, 45, 46, 47, 48, 49, 50, 51, 52, 53, 54] (by decide +kernel) (by decide +kernel)
set_option maxRecDepth 20000 in
theorem gX6_told_X6_go : GoodIn wsX6_told (wsV RX6 89 RX6 yX6_go wsX6_go) := goodIn_app (goodIn_of _ (by decide +kernel)) ggX6_told_X6_go
theorem dX6_told_0 : decode cX6_told 0 = .ok (.aload_n 0, 1) := by decide +kernel
theorem dX6_told_1 : decode cX6_told 1 = .ok (.getfield 27, 3) := by decide +kernel
theorem dX6_told_4 : decode cX6_told 4 = .ok (.iconst 3, 1) := by decide +kernel
theorem dX6_told_5 : decode cX6_told 5 = .ok (.if_icmp .eq 9, 3) := by decide +kernel
theorem dX6_told_8 : decode cX6_told 8 = .ok (.aload_n 0, 1) := by decide +kernel
theorem dX6_told_9 : decode cX6_told 9 = .ok (.iconst 1, 1) := by decide +kernel
theorem dX6_told_10 : decode cX6_told 10 = .ok (.invokevirtual 82, 3) := by decide +kernel
theorem dX6_told_13 : decode cX6_told 13 = .ok (.ireturn, 1) := by decide +kernel
theorem dX6_told_14 : decode cX6_told 14 = .ok (.aload_n 0, 1) := by decide +kernel
theorem dX6_told_15 : decode cX6_told 15 = .ok (.getfield 41, 3) := by decide +kernel
theorem dX6_told_18 : decode cX6_told 18 = .ok (.iload_n 2, 1) := by decide +kernel
theorem dX6_told_19 : decode cX6_told 19 = .ok (.iload_n 3, 1) := by decide +kernel
theorem dX6_told_20 : decode cX6_told 20 = .ok (.invokestatic 85, 3) := by decide +kernel
theorem dX6_told_23 : decode cX6_told 23 = .ok (.ifCond .ne 9, 3) := by decide +kernel
theorem dX6_told_26 : decode cX6_told 26 = .ok (.aload_n 0, 1) := by decide +kernel
theorem dX6_told_27 : decode cX6_told 27 = .ok (.iconst 2, 1) := by decide +kernel
theorem dX6_told_28 : decode cX6_told 28 = .ok (.invokevirtual 82, 3) := by decide +kernel
theorem dX6_told_31 : decode cX6_told 31 = .ok (.ireturn, 1) := by decide +kernel
theorem dX6_told_32 : decode cX6_told 32 = .ok (.aload_n 0, 1) := by decide +kernel
theorem dX6_told_33 : decode cX6_told 33 = .ok (.getfield 73, 3) := by decide +kernel
theorem dX6_told_36 : decode cX6_told 36 = .ok (.iload_n 1, 1) := by decide +kernel
theorem dX6_told_37 : decode cX6_told 37 = .ok (.aload_n 0, 1) := by decide +kernel
theorem dX6_told_38 : decode cX6_told 38 = .ok (.getfield 41, 3) := by decide +kernel
theorem dX6_told_41 : decode cX6_told 41 = .ok (.iastore, 1) := by decide +kernel
theorem dX6_told_42 : decode cX6_told 42 = .ok (.aload_n 0, 1) := by decide +kernel
theorem dX6_told_43 : decode cX6_told 43 = .ok (.invokevirtual 89, 3) := by decide +kernel
theorem dX6_told_46 : decode cX6_told 46 = .ok (.iconst 1, 1) := by decide +kernel
theorem dX6_told_47 : decode cX6_told 47 = .ok (.ireturn, 1) := by decide +kernel
set_option maxRecDepth 20000 in
theorem ggX6_readEnd_X6_bad : GoodIn wsX6_readEnd wsX6_bad := goodIn_r _ [6, 1, 7, 8, 9, 31, 32, 33, 34, 35, 36, 37, 38, 39, 40, 41, 42, 43, 44, 45, 46, 47, 48, 49, 50] (by decide +kernel) (by decide +kernel)
set_option maxRecDepth 20000 in
theorem gX6_readEnd_X6_bad : GoodIn wsX6_readEnd (wsV RX6 82 RX6 yX6_bad wsX6_bad) := goodIn_app (goodIn_of _ (by decide +kernel)) ggX6_readEnd_X6_bad
set_option maxRecDepth 20000 in
theorem ggX6_readEnd_X6_go : GoodIn wsX6_readEnd wsX6_go := goodIn_r _ [13, 14, 15, 16, 8, 1, 17, 18, 19, 20, 21, 22, 5, 23, 24, 25, 26, 27, 28, 29, 30, 31, 32, 33, 34, 35, 36, 37, 38, 39, 40, 41, 42, 43, 44, 45, 46, 47, 48, 49, 50] (by decide +kernel) (by decide +kernel)
set_option maxRecDepth 20000 in
theorem gX6_readEnd_X6_go : GoodIn wsX6_readEnd (wsV RX6 89 RX6 yX6_go wsX6_go) := goodIn_app (goodIn_of _ (by decide +kernel)) ggX6_readEnd_X6_go
theorem dX6_readEnd_0 : decode cX6_readEnd 0 = .ok (.aload_n 0, 1) := by decide +kernel
theorem dX6_readEnd_1 : decode cX6_readEnd 1 = .ok (.getfield 27, 3) := by decide +kernel
theorem dX6_readEnd_4 : decode cX6_readEnd 4 = .ok (.iconst 4, 1) := by decide +kernel
theorem dX6_readEnd_5 : decode cX6_readEnd 5 = .ok (.if_icmp .eq 9, 3) := by decide +kernel
theorem dX6_readEnd_8 : decode cX6_readEnd 8 = .ok (.aload_n 0, 1) := by decide +kernel
theorem dX6_readEnd_9 : decode cX6_readEnd 9 = .ok (.iconst 1, 1) := by decide +kernel
theorem dX6_readEnd_10 : decode cX6_readEnd 10 = .ok (.invokevirtual 82, 3) := by decide +kernel
theorem dX6_readEnd_13 : decode cX6_readEnd 13 = .ok (.ireturn, 1) := by decide +kernel
theorem dX6_readEnd_14 : decode cX6_readEnd 14 = .ok (.aload_n 0, 1) := by decide +kernel
theorem dX6_readEnd_15 : decode cX6_readEnd 15 = .ok (.invokevirtual 89, 3) := by decide +kernel
theorem dX6_readEnd_18 : decode cX6_readEnd 18 = .ok (.iconst 1, 1) := by decide +kernel
theorem dX6_readEnd_19 : decode cX6_readEnd 19 = .ok (.ireturn, 1) := by decide +kernel
set_option maxRecDepth 20000 in
theorem ggX6_readStep_X6_bad : GoodIn wsX6_readStep wsX6_bad := goodIn_r _ [6, 7, 8, 9, 10, 43, 44, 45, 46, 47, 48, 49, 50, 51, 52, 53, 54, 55, 56, 57, 58, 59, 60, 61, 62] (by decide +kernel) (by decide +kernel)
set_option maxRecDepth 20000 in
theorem gX6_readStep_X6_bad : GoodIn wsX6_readStep (wsV RX6 82 RX6 yX6_bad wsX6_bad) := goodIn_app (goodIn_of _ (by decide +kernel)) ggX6_readStep_X6_bad
set_option maxRecDepth 20000 in
theorem ggX6_readStep_X6_go : GoodIn wsX6_readStep wsX6_go := goodIn_r _ [14, 15, 16, 17, 9, 7, 18, 19, 20, 21, 22, 23, 5, 24, 25, 26, 27, 28, 29, 30, 31, 43, 44, 45, 46, 47, 48, 49, 50, 51, 52, 53, 54, 55, 56, 57, 58, 59, 60, 61, 62] (by decide +kernel) (by decide +kernel)
set_option maxRecDepth 20000 in
theorem gX6_readStep_X6_go : GoodIn wsX6_readStep (wsV RX6 89 RX6 yX6_go wsX6_go) := goodIn_app (goodIn_of _ (by decide +kernel)) ggX6_readStep_X6_go
set_option maxRecDepth 20000 in
theorem ggX6_readStep_X6_told : GoodIn wsX6_readStep wsX6_told := goodIn_r _ [35, 7, 19, 1, 2, 3, 4, 5, 6, 8, 9, 10, 36, 37, 38, 11, 12, 13, 14, 15, 16, 17, 18, 20, 21, 22, 23, 24, 25, 26, 27, 28, 29, 30, 31, 43, 44, 45, 46, 47, 48, 49, 50, 51, 52, 53, 54, 55, 56, 57, 58, 59, 60, 61, 62] (by decide +kernel) (by decide +kernel)
set_option maxRecDepth 20000 in
theorem gX6_readStep_X6_told : GoodIn wsX6_readStep (wsV RX6 92 RX6 yX6_told wsX6_told) := goodIn_app (goodIn_of _ (by decide +kernel)) ggX6_readStep_X6_told
set_option maxRecDepth 20000 in
theorem ggX6_readStep_X6_readEnd : GoodIn wsX6_readStep wsX6_readEnd := goodIn_r _ [42, 7, 2, 3, 4, 5, 6, 8, 9, 10, 11, 12, 13, 14, 15, 16, 17, 18, 19, 20, 21, 22, 23, 24, 25, 26, 27, 28, 29, 30, 31, 43, 44, 45, 46, 47, 48, 49, 50, 51, 52, 53, 54, 55, 56, 57, 58, 59, 60, 61, 62] (by decide +kernel) (by decide +kernel)
set_option maxRecDepth 20000 in
theorem gX6_readStep_X6_readEnd : GoodIn wsX6_readStep (wsV RX6 95 RX6 yX6_readEnd wsX6_readEnd) := goodIn_app (goodIn_of _ (by decide +kernel)) ggX6_readStep_X6_readEnd
theorem dX6_readStep_0 : decode cX6_readStep 0 = .ok (.aload_n 0, 1) := by decide +kernel
theorem dX6_readStep_1 : decode cX6_readStep 1 = .ok (.getfield 73, 3) := by decide +kernel
theorem dX6_readStep_4 : decode cX6_readStep 4 = .ok (.iconst 2, 1) := by decide +kernel
theorem dX6_readStep_5 : decode cX6_readStep 5 = .ok (.iaload, 1) := by decide +kernel
theorem dX6_readStep_6 : decode cX6_readStep 6 = .ok (.bipush 6, 2) := by decide +kernel
theorem dX6_readStep_8 : decode cX6_readStep 8 = .ok (.if_icmp .ne 9, 3) := by decide +kernel
theorem dX6_readStep_11 : decode cX6_readStep 11 = .ok (.aload_n 0, 1) := by decide +kernel
theorem dX6_readStep_12 : decode cX6_readStep 12 = .ok (.iconst 3, 1) := by decide +kernel
theorem dX6_readStep_13 : decode cX6_readStep 13 = .ok (.invokevirtual 82, 3) := by decide +kernel
theorem dX6_readStep_16 : decode cX6_readStep 16 = .ok (.ireturn, 1) := by decide +kernel
theorem dX6_readStep_17 : decode cX6_readStep 17 = .ok (.aload_n 0, 1) := by decide +kernel
theorem dX6_readStep_18 : decode cX6_readStep 18 = .ok (.invokevirtual 89, 3) := by decide +kernel
theorem dX6_readStep_21 : decode cX6_readStep 21 = .ok (.bipush 7, 2) := by decide +kernel
theorem dX6_readStep_23 : decode cX6_readStep 23 = .ok (.iconst 3, 1) := by decide +kernel
theorem dX6_readStep_24 : decode cX6_readStep 24 = .ok (.aload_n 0, 1) := by decide +kernel
theorem dX6_readStep_25 : decode cX6_readStep 25 = .ok (.getfield 73, 3) := by decide +kernel
theorem dX6_readStep_28 : decode cX6_readStep 28 = .ok (.iconst 2, 1) := by decide +kernel
theorem dX6_readStep_29 : decode cX6_readStep 29 = .ok (.iaload, 1) := by decide +kernel
theorem dX6_readStep_30 : decode cX6_readStep 30 = .ok (.imul, 1) := by decide +kernel
theorem dX6_readStep_31 : decode cX6_readStep 31 = .ok (.iadd, 1) := by decide +kernel
theorem dX6_readStep_32 : decode cX6_readStep 32 = .ok (.istore_n 1, 1) := by decide +kernel
theorem dX6_readStep_33 : decode cX6_readStep 33 = .ok (.aload_n 0, 1) := by decide +kernel
theorem dX6_readStep_34 : decode cX6_readStep 34 = .ok (.iload_n 1, 1) := by decide +kernel
theorem dX6_readStep_35 : decode cX6_readStep 35 = .ok (.iconst 0, 1) := by decide +kernel
theorem dX6_readStep_36 : decode cX6_readStep 36 = .ok (.iadd, 1) := by decide +kernel
theorem dX6_readStep_37 : decode cX6_readStep 37 = .ok (.iconst 1, 1) := by decide +kernel
theorem dX6_readStep_38 : decode cX6_readStep 38 = .ok (.bipush 99, 2) := by decide +kernel
theorem dX6_readStep_40 : decode cX6_readStep 40 = .ok (.invokevirtual 92, 3) := by decide +kernel
theorem dX6_readStep_43 : decode cX6_readStep 43 = .ok (.ifCond .eq 30, 3) := by decide +kernel
theorem dX6_readStep_46 : decode cX6_readStep 46 = .ok (.aload_n 0, 1) := by decide +kernel
theorem dX6_readStep_47 : decode cX6_readStep 47 = .ok (.iload_n 1, 1) := by decide +kernel
theorem dX6_readStep_48 : decode cX6_readStep 48 = .ok (.iconst 1, 1) := by decide +kernel
theorem dX6_readStep_49 : decode cX6_readStep 49 = .ok (.iadd, 1) := by decide +kernel
theorem dX6_readStep_50 : decode cX6_readStep 50 = .ok (.iconst 0, 1) := by decide +kernel
theorem dX6_readStep_51 : decode cX6_readStep 51 = .ok (.bipush 99, 2) := by decide +kernel
theorem dX6_readStep_53 : decode cX6_readStep 53 = .ok (.invokevirtual 92, 3) := by decide +kernel
theorem dX6_readStep_56 : decode cX6_readStep 56 = .ok (.ifCond .eq 17, 3) := by decide +kernel
theorem dX6_readStep_59 : decode cX6_readStep 59 = .ok (.aload_n 0, 1) := by decide +kernel
theorem dX6_readStep_60 : decode cX6_readStep 60 = .ok (.iload_n 1, 1) := by decide +kernel
theorem dX6_readStep_61 : decode cX6_readStep 61 = .ok (.iconst 2, 1) := by decide +kernel
theorem dX6_readStep_62 : decode cX6_readStep 62 = .ok (.iadd, 1) := by decide +kernel
theorem dX6_readStep_63 : decode cX6_readStep 63 = .ok (.iconst 0, 1) := by decide +kernel
theorem dX6_readStep_64 : decode cX6_readStep 64 = .ok (.sipush 999, 3) := by decide +kernel
theorem dX6_readStep_67 : decode cX6_readStep 67 = .ok (.invokevirtual 92, 3) := by decide +kernel
theorem dX6_readStep_70 : decode cX6_readStep 70 = .ok (.ifCond .ne 5, 3) := by decide +kernel
theorem dX6_readStep_73 : decode cX6_readStep 73 = .ok (.iconst 0, 1) := by decide +kernel
theorem dX6_readStep_74 : decode cX6_readStep 74 = .ok (.ireturn, 1) := by decide +kernel
theorem dX6_readStep_75 : decode cX6_readStep 75 = .ok (.aload_n 0, 1) := by decide +kernel
theorem dX6_readStep_76 : decode cX6_readStep 76 = .ok (.getfield 73, 3) := by decide +kernel
theorem dX6_readStep_79 : decode cX6_readStep 79 = .ok (.iconst 2, 1) := by decide +kernel
theorem dX6_readStep_80 : decode cX6_readStep 80 = .ok (.dup2, 1) := by decide +kernel
theorem dX6_readStep_81 : decode cX6_readStep 81 = .ok (.iaload, 1) := by decide +kernel
theorem dX6_readStep_82 : decode cX6_readStep 82 = .ok (.iconst 1, 1) := by decide +kernel
theorem dX6_readStep_83 : decode cX6_readStep 83 = .ok (.iadd, 1) := by decide +kernel
theorem dX6_readStep_84 : decode cX6_readStep 84 = .ok (.iastore, 1) := by decide +kernel
theorem dX6_readStep_85 : decode cX6_readStep 85 = .ok (.aload_n 0, 1) := by decide +kernel
theorem dX6_readStep_86 : decode cX6_readStep 86 = .ok (.invokevirtual 95, 3) := by decide +kernel
theorem dX6_readStep_89 : decode cX6_readStep 89 = .ok (.ireturn, 1) := by decide +kernel
set_option maxRecDepth 20000 in
theorem ggX6_readHold_X6_four : GoodIn wsX6_readHold wsX6_four := goodIn_r _ [4, 5, 6, 7, 8, 3, 9] (by decide +kernel) (by decide +kernel)
set_option maxRecDepth 20000 in
theorem gX6_readHold_X6_four : GoodIn wsX6_readHold (va_wsS RX6 99 yX6_four wsX6_four) := goodIn_app (goodIn_of _ (by decide +kernel)) ggX6_readHold_X6_four
set_option maxRecDepth 20000 in
theorem ggX6_readHold_X6_isWord : GoodIn wsX6_readHold wsX6_isWord := goodIn_r _ [13, 14, 15, 53, 54, 55, 56, 57, 58, 59, 60, 61, 62, 63, 64, 65, 66, 67, 68, 69, 70, 71, 72] (by decide +kernel) (by decide +kernel)
set_option maxRecDepth 20000 in
theorem gX6_readHold_X6_isWord : GoodIn wsX6_readHold (wsV RX6 103 RX6 yX6_isWord wsX6_isWord) := goodIn_app (goodIn_of _ (by decide +kernel)) ggX6_readHold_X6_isWord
set_option maxRecDepth 20000 in
theorem ggX6_readHold_X6_bad : GoodIn wsX6_readHold wsX6_bad := goodIn_r _ [19, 14, 20, 21, 22, 53, 54, 55, 56, 57, 58, 59, 60, 61, 62, 63, 64, 65, 66, 67, 68, 69, 70, 71, 72] (by decide +kernel) (by decide +kernel)
set_option maxRecDepth 20000 in
theorem gX6_readHold_X6_bad : GoodIn wsX6_readHold (wsV RX6 82 RX6 yX6_bad wsX6_bad) := goodIn_app (goodIn_of _ (by decide +kernel)) ggX6_readHold_X6_bad
set_option maxRecDepth 20000 in
theorem ggX6_readHold_X6_go : GoodIn wsX6_readHold wsX6_go := goodIn_r _ [26, 27, 28, 29, 21, 14, 15, 30, 5, 6, 31, 32, 3, 33, 34, 35, 36, 37, 38, 39, 40, 53, 54, 55, 56, 57, 58, 59, 60, 61, 62, 63, 64, 65, 66, 67, 68, 69, 70, 71, 72] (by decide +kernel) (by decide +kernel)
set_option maxRecDepth 20000 in
theorem gX6_readHold_X6_go : GoodIn wsX6_readHold (wsV RX6 89 RX6 yX6_go wsX6_go) := goodIn_app (goodIn_of _ (by decide +kernel)) ggX6_readHold_X6_go
set_option maxRecDepth 20000 in
theorem ggX6_readHold_X6_told : GoodIn wsX6_readHold wsX6_told := goodIn_r _ [44, 14, 30, 45, 16, 17, 18, 3, 19, 20, 21, 22, 46, 47, 48, 23, 24, 25, 26, 27, 28, 29, 15, 5, 6, 31, 32, 33, 34, 35, 36, 37, 38, 39, 40, 53, 54, 55, 56, 57, 58, 59, 60, 61, 62, 63, 64, 65, 66, 67, 68, 69, 70, 71, 72] (by decide +kernel) (by decide +kernel)
set_option maxRecDepth 20000 in
theorem gX6_readHold_X6_told : GoodIn wsX6_readHold (wsV RX6 92 RX6 yX6_told wsX6_told) := goodIn_app (goodIn_of _ (by decide +kernel)) ggX6_readHold_X6_told
set_option maxRecDepth 20000 in
theorem ggX6_readHold_X6_readEnd : GoodIn wsX6_readHold wsX6_readEnd := goodIn_r _ [52, 14, 16, 17, 18, 3, 19, 20, 21, 22, 23, 24, 25, 26, 27, 28, 29, 15, 30, 5, 6, 31, 32, 33, 34, 35, 36, 37, 38, 39, 40, 53, 54, 55, 56, 57, 58, 59, 60, 61, 62, 63, 64, 65, 66, 67, 68, 69, 70, 71, 72] (by decide +kernel) (by decide +kernel)
set_option maxRecDepth 20000 in
theorem gX6_readHold_X6_readEnd : GoodIn wsX6_readHold (wsV RX6 95 RX6 yX6_readEnd wsX6_readEnd) := goodIn_app (goodIn_of _ (by decide +kernel)) ggX6_readHold_X6_readEnd
theorem dX6_readHold_0 : decode cX6_readHold 0 = .ok (.aload_n 0, 1) := by decide +kernel
theorem dX6_readHold_1 : decode cX6_readHold 1 = .ok (.bipush 104, 2) := by decide +kernel
theorem dX6_readHold_3 : decode cX6_readHold 3 = .ok (.bipush 111, 2) := by decide +kernel
theorem dX6_readHold_5 : decode cX6_readHold 5 = .ok (.bipush 108, 2) := by decide +kernel
theorem dX6_readHold_7 : decode cX6_readHold 7 = .ok (.bipush 100, 2) := by decide +kernel
theorem dX6_readHold_9 : decode cX6_readHold 9 = .ok (.invokestatic 99, 3) := by decide +kernel
theorem dX6_readHold_12 : decode cX6_readHold 12 = .ok (.invokevirtual 103, 3) := by decide +kernel
theorem dX6_readHold_15 : decode cX6_readHold 15 = .ok (.ifCond .ne 9, 3) := by decide +kernel
theorem dX6_readHold_18 : decode cX6_readHold 18 = .ok (.aload_n 0, 1) := by decide +kernel
theorem dX6_readHold_19 : decode cX6_readHold 19 = .ok (.iconst 1, 1) := by decide +kernel
theorem dX6_readHold_20 : decode cX6_readHold 20 = .ok (.invokevirtual 82, 3) := by decide +kernel
theorem dX6_readHold_23 : decode cX6_readHold 23 = .ok (.ireturn, 1) := by decide +kernel
theorem dX6_readHold_24 : decode cX6_readHold 24 = .ok (.aload_n 0, 1) := by decide +kernel
theorem dX6_readHold_25 : decode cX6_readHold 25 = .ok (.invokevirtual 89, 3) := by decide +kernel
theorem dX6_readHold_28 : decode cX6_readHold 28 = .ok (.aload_n 0, 1) := by decide +kernel
theorem dX6_readHold_29 : decode cX6_readHold 29 = .ok (.iconst 1, 1) := by decide +kernel
theorem dX6_readHold_30 : decode cX6_readHold 30 = .ok (.iconst 1, 1) := by decide +kernel
theorem dX6_readHold_31 : decode cX6_readHold 31 = .ok (.bipush 9, 2) := by decide +kernel
theorem dX6_readHold_33 : decode cX6_readHold 33 = .ok (.invokevirtual 92, 3) := by decide +kernel
theorem dX6_readHold_36 : decode cX6_readHold 36 = .ok (.ifCond .eq 14, 3) := by decide +kernel
theorem dX6_readHold_39 : decode cX6_readHold 39 = .ok (.aload_n 0, 1) := by decide +kernel
theorem dX6_readHold_40 : decode cX6_readHold 40 = .ok (.invokevirtual 95, 3) := by decide +kernel
theorem dX6_readHold_43 : decode cX6_readHold 43 = .ok (.ifCond .eq 7, 3) := by decide +kernel
theorem dX6_readHold_46 : decode cX6_readHold 46 = .ok (.iconst 1, 1) := by decide +kernel
theorem dX6_readHold_47 : decode cX6_readHold 47 = .ok (.goto 4, 3) := by decide +kernel
theorem dX6_readHold_50 : decode cX6_readHold 50 = .ok (.iconst 0, 1) := by decide +kernel
theorem dX6_readHold_51 : decode cX6_readHold 51 = .ok (.ireturn, 1) := by decide +kernel
set_option maxRecDepth 20000 in
theorem ggX6_readDebtor_X6_bad : GoodIn wsX6_readDebtor wsX6_bad := goodIn_r _ [6, 7, 8, 9, 10, 43, 44, 45, 46, 47, 48, 49, 50, 51, 52, 53, 54, 55, 56, 57, 58, 59, 60, 61, 62] (by decide +kernel) (by decide +kernel)
set_option maxRecDepth 20000 in
theorem gX6_readDebtor_X6_bad : GoodIn wsX6_readDebtor (wsV RX6 82 RX6 yX6_bad wsX6_bad) := goodIn_app (goodIn_of _ (by decide +kernel)) ggX6_readDebtor_X6_bad
set_option maxRecDepth 20000 in
theorem ggX6_readDebtor_X6_go : GoodIn wsX6_readDebtor wsX6_go := goodIn_r _ [14, 15, 16, 17, 9, 7, 18, 19, 20, 21, 22, 23, 5, 24, 25, 26, 27, 28, 29, 30, 31, 43, 44, 45, 46, 47, 48, 49, 50, 51, 52, 53, 54, 55, 56, 57, 58, 59, 60, 61, 62] (by decide +kernel) (by decide +kernel)
set_option maxRecDepth 20000 in
theorem gX6_readDebtor_X6_go : GoodIn wsX6_readDebtor (wsV RX6 89 RX6 yX6_go wsX6_go) := goodIn_app (goodIn_of _ (by decide +kernel)) ggX6_readDebtor_X6_go
set_option maxRecDepth 20000 in
theorem ggX6_readDebtor_X6_told : GoodIn wsX6_readDebtor wsX6_told := goodIn_r _ [35, 7, 19, 1, 2, 3, 4, 5, 6, 8, 9, 10, 36, 37, 38, 11, 12, 13, 14, 15, 16, 17, 18, 20, 21, 22, 23, 24, 25, 26, 27, 28, 29, 30, 31, 43, 44, 45, 46, 47, 48, 49, 50, 51, 52, 53, 54, 55, 56, 57, 58, 59, 60, 61, 62] (by decide +kernel) (by decide +kernel)
set_option maxRecDepth 20000 in
theorem gX6_readDebtor_X6_told : GoodIn wsX6_readDebtor (wsV RX6 92 RX6 yX6_told wsX6_told) := goodIn_app (goodIn_of _ (by decide +kernel)) ggX6_readDebtor_X6_told
set_option maxRecDepth 20000 in
theorem ggX6_readDebtor_X6_readEnd : GoodIn wsX6_readDebtor wsX6_readEnd := goodIn_r _ [42, 7, 2, 3, 4, 5, 6, 8, 9, 10, 11, 12, 13, 14, 15, 16, 17, 18, 19, 20, 21, 22, 23, 24, 25, 26, 27, 28, 29, 30, 31, 43, 44, 45, 46, 47, 48, 49, 50, 51, 52, 53, 54, 55, 56, 57, 58, 59, 60, 61, 62] (by decide +kernel) (by decide +kernel)
set_option maxRecDepth 20000 in
theorem gX6_readDebtor_X6_readEnd : GoodIn wsX6_readDebtor (wsV RX6 95 RX6 yX6_readEnd wsX6_readEnd) := goodIn_app (goodIn_of _ (by decide +kernel)) ggX6_readDebtor_X6_readEnd
theorem dX6_readDebtor_0 : decode cX6_readDebtor 0 = .ok (.aload_n 0, 1) := by decide +kernel
theorem dX6_readDebtor_1 : decode cX6_readDebtor 1 = .ok (.getfield 73, 3) := by decide +kernel
theorem dX6_readDebtor_4 : decode cX6_readDebtor 4 = .ok (.iconst 3, 1) := by decide +kernel
theorem dX6_readDebtor_5 : decode cX6_readDebtor 5 = .ok (.iaload, 1) := by decide +kernel
theorem dX6_readDebtor_6 : decode cX6_readDebtor 6 = .ok (.bipush 6, 2) := by decide +kernel
theorem dX6_readDebtor_8 : decode cX6_readDebtor 8 = .ok (.if_icmp .ne 9, 3) := by decide +kernel
theorem dX6_readDebtor_11 : decode cX6_readDebtor 11 = .ok (.aload_n 0, 1) := by decide +kernel
theorem dX6_readDebtor_12 : decode cX6_readDebtor 12 = .ok (.iconst 3, 1) := by decide +kernel
theorem dX6_readDebtor_13 : decode cX6_readDebtor 13 = .ok (.invokevirtual 82, 3) := by decide +kernel
theorem dX6_readDebtor_16 : decode cX6_readDebtor 16 = .ok (.ireturn, 1) := by decide +kernel
theorem dX6_readDebtor_17 : decode cX6_readDebtor 17 = .ok (.aload_n 0, 1) := by decide +kernel
theorem dX6_readDebtor_18 : decode cX6_readDebtor 18 = .ok (.invokevirtual 89, 3) := by decide +kernel
theorem dX6_readDebtor_21 : decode cX6_readDebtor 21 = .ok (.bipush 25, 2) := by decide +kernel
theorem dX6_readDebtor_23 : decode cX6_readDebtor 23 = .ok (.bipush 30, 2) := by decide +kernel
theorem dX6_readDebtor_25 : decode cX6_readDebtor 25 = .ok (.aload_n 0, 1) := by decide +kernel
theorem dX6_readDebtor_26 : decode cX6_readDebtor 26 = .ok (.getfield 73, 3) := by decide +kernel
theorem dX6_readDebtor_29 : decode cX6_readDebtor 29 = .ok (.iconst 3, 1) := by decide +kernel
theorem dX6_readDebtor_30 : decode cX6_readDebtor 30 = .ok (.iaload, 1) := by decide +kernel
theorem dX6_readDebtor_31 : decode cX6_readDebtor 31 = .ok (.imul, 1) := by decide +kernel
theorem dX6_readDebtor_32 : decode cX6_readDebtor 32 = .ok (.iadd, 1) := by decide +kernel
theorem dX6_readDebtor_33 : decode cX6_readDebtor 33 = .ok (.istore_n 1, 1) := by decide +kernel
theorem dX6_readDebtor_34 : decode cX6_readDebtor 34 = .ok (.aload_n 0, 1) := by decide +kernel
theorem dX6_readDebtor_35 : decode cX6_readDebtor 35 = .ok (.iload_n 1, 1) := by decide +kernel
theorem dX6_readDebtor_36 : decode cX6_readDebtor 36 = .ok (.iconst 0, 1) := by decide +kernel
theorem dX6_readDebtor_37 : decode cX6_readDebtor 37 = .ok (.iadd, 1) := by decide +kernel
theorem dX6_readDebtor_38 : decode cX6_readDebtor 38 = .ok (.iconst 0, 1) := by decide +kernel
theorem dX6_readDebtor_39 : decode cX6_readDebtor 39 = .ok (.sipush 9999, 3) := by decide +kernel
theorem dX6_readDebtor_42 : decode cX6_readDebtor 42 = .ok (.invokevirtual 92, 3) := by decide +kernel
theorem dX6_readDebtor_45 : decode cX6_readDebtor 45 = .ok (.ifCond .eq 16, 3) := by decide +kernel
theorem dX6_readDebtor_48 : decode cX6_readDebtor 48 = .ok (.aload_n 0, 1) := by decide +kernel
theorem dX6_readDebtor_49 : decode cX6_readDebtor 49 = .ok (.iload_n 1, 1) := by decide +kernel
theorem dX6_readDebtor_50 : decode cX6_readDebtor 50 = .ok (.iconst 1, 1) := by decide +kernel
theorem dX6_readDebtor_51 : decode cX6_readDebtor 51 = .ok (.iadd, 1) := by decide +kernel
theorem dX6_readDebtor_52 : decode cX6_readDebtor 52 = .ok (.iconst 0, 1) := by decide +kernel
theorem dX6_readDebtor_53 : decode cX6_readDebtor 53 = .ok (.bipush 99, 2) := by decide +kernel
theorem dX6_readDebtor_55 : decode cX6_readDebtor 55 = .ok (.invokevirtual 92, 3) := by decide +kernel
theorem dX6_readDebtor_58 : decode cX6_readDebtor 58 = .ok (.ifCond .ne 5, 3) := by decide +kernel
theorem dX6_readDebtor_61 : decode cX6_readDebtor 61 = .ok (.iconst 0, 1) := by decide +kernel
theorem dX6_readDebtor_62 : decode cX6_readDebtor 62 = .ok (.ireturn, 1) := by decide +kernel
theorem dX6_readDebtor_63 : decode cX6_readDebtor 63 = .ok (.aload_n 0, 1) := by decide +kernel
theorem dX6_readDebtor_64 : decode cX6_readDebtor 64 = .ok (.getfield 73, 3) := by decide +kernel
theorem dX6_readDebtor_67 : decode cX6_readDebtor 67 = .ok (.iconst 3, 1) := by decide +kernel
theorem dX6_readDebtor_68 : decode cX6_readDebtor 68 = .ok (.dup2, 1) := by decide +kernel
theorem dX6_readDebtor_69 : decode cX6_readDebtor 69 = .ok (.iaload, 1) := by decide +kernel
theorem dX6_readDebtor_70 : decode cX6_readDebtor 70 = .ok (.iconst 1, 1) := by decide +kernel
theorem dX6_readDebtor_71 : decode cX6_readDebtor 71 = .ok (.iadd, 1) := by decide +kernel
theorem dX6_readDebtor_72 : decode cX6_readDebtor 72 = .ok (.iastore, 1) := by decide +kernel
theorem dX6_readDebtor_73 : decode cX6_readDebtor 73 = .ok (.aload_n 0, 1) := by decide +kernel
theorem dX6_readDebtor_74 : decode cX6_readDebtor 74 = .ok (.invokevirtual 95, 3) := by decide +kernel
theorem dX6_readDebtor_77 : decode cX6_readDebtor 77 = .ok (.ireturn, 1) := by decide +kernel
set_option maxRecDepth 20000 in
theorem ggX6_readInvoice_X6_bad : GoodIn wsX6_readInvoice wsX6_bad := goodIn_r _ [6, 7, 8, 9, 10, 43, 44, 45, 46, 47, 48, 49, 50, 51, 52, 53, 54, 55, 56, 57, 58, 59, 60, 61, 62] (by decide +kernel) (by decide +kernel)
set_option maxRecDepth 20000 in
theorem gX6_readInvoice_X6_bad : GoodIn wsX6_readInvoice (wsV RX6 82 RX6 yX6_bad wsX6_bad) := goodIn_app (goodIn_of _ (by decide +kernel)) ggX6_readInvoice_X6_bad
set_option maxRecDepth 20000 in
theorem ggX6_readInvoice_X6_go : GoodIn wsX6_readInvoice wsX6_go := goodIn_r _ [14, 15, 16, 17, 9, 7, 18, 19, 20, 21, 22, 23, 5, 24, 25, 26, 27, 28, 29, 30, 31, 43, 44, 45, 46, 47, 48, 49, 50, 51, 52, 53, 54, 55, 56, 57, 58, 59, 60, 61, 62] (by decide +kernel) (by decide +kernel)
set_option maxRecDepth 20000 in
theorem gX6_readInvoice_X6_go : GoodIn wsX6_readInvoice (wsV RX6 89 RX6 yX6_go wsX6_go) := goodIn_app (goodIn_of _ (by decide +kernel)) ggX6_readInvoice_X6_go
set_option maxRecDepth 20000 in
theorem ggX6_readInvoice_X6_told : GoodIn wsX6_readInvoice wsX6_told := goodIn_r _ [35, 7, 19, 1, 2, 3, 4, 5, 6, 8, 9, 10, 36, 37, 38, 11, 12, 13, 14, 15, 16, 17, 18, 20, 21, 22, 23, 24, 25, 26, 27, 28, 29, 30, 31, 43, 44, 45, 46, 47, 48, 49, 50, 51, 52, 53, 54, 55, 56, 57, 58, 59, 60, 61, 62] (by decide +kernel) (by decide +kernel)
set_option maxRecDepth 20000 in
theorem gX6_readInvoice_X6_told : GoodIn wsX6_readInvoice (wsV RX6 92 RX6 yX6_told wsX6_told) := goodIn_app (goodIn_of _ (by decide +kernel)) ggX6_readInvoice_X6_told
set_option maxRecDepth 20000 in
theorem ggX6_readInvoice_X6_readEnd : GoodIn wsX6_readInvoice wsX6_readEnd := goodIn_r _ [42, 7, 2, 3, 4, 5, 6, 8, 9, 10, 11, 12, 13, 14, 15, 16, 17, 18, 19, 20, 21, 22, 23, 24, 25, 26, 27, 28, 29, 30, 31, 43, 44, 45, 46, 47, 48, 49, 50, 51, 52, 53, 54, 55, 56, 57, 58, 59, 60, 61, 62] (by decide +kernel) (by decide +kernel)
set_option maxRecDepth 20000 in
theorem gX6_readInvoice_X6_readEnd : GoodIn wsX6_readInvoice (wsV RX6 95 RX6 yX6_readEnd wsX6_readEnd) := goodIn_app (goodIn_of _ (by decide +kernel)) ggX6_readInvoice_X6_readEnd
theorem dX6_readInvoice_0 : decode cX6_readInvoice 0 = .ok (.aload_n 0, 1) := by decide +kernel
theorem dX6_readInvoice_1 : decode cX6_readInvoice 1 = .ok (.getfield 73, 3) := by decide +kernel
theorem dX6_readInvoice_4 : decode cX6_readInvoice 4 = .ok (.iconst 4, 1) := by decide +kernel
theorem dX6_readInvoice_5 : decode cX6_readInvoice 5 = .ok (.iaload, 1) := by decide +kernel
theorem dX6_readInvoice_6 : decode cX6_readInvoice 6 = .ok (.bipush 12, 2) := by decide +kernel
theorem dX6_readInvoice_8 : decode cX6_readInvoice 8 = .ok (.if_icmp .ne 9, 3) := by decide +kernel
theorem dX6_readInvoice_11 : decode cX6_readInvoice 11 = .ok (.aload_n 0, 1) := by decide +kernel
theorem dX6_readInvoice_12 : decode cX6_readInvoice 12 = .ok (.iconst 3, 1) := by decide +kernel
theorem dX6_readInvoice_13 : decode cX6_readInvoice 13 = .ok (.invokevirtual 82, 3) := by decide +kernel
theorem dX6_readInvoice_16 : decode cX6_readInvoice 16 = .ok (.ireturn, 1) := by decide +kernel
theorem dX6_readInvoice_17 : decode cX6_readInvoice 17 = .ok (.aload_n 0, 1) := by decide +kernel
theorem dX6_readInvoice_18 : decode cX6_readInvoice 18 = .ok (.invokevirtual 89, 3) := by decide +kernel
theorem dX6_readInvoice_21 : decode cX6_readInvoice 21 = .ok (.sipush 205, 3) := by decide +kernel
theorem dX6_readInvoice_24 : decode cX6_readInvoice 24 = .ok (.bipush 7, 2) := by decide +kernel
theorem dX6_readInvoice_26 : decode cX6_readInvoice 26 = .ok (.aload_n 0, 1) := by decide +kernel
theorem dX6_readInvoice_27 : decode cX6_readInvoice 27 = .ok (.getfield 73, 3) := by decide +kernel
theorem dX6_readInvoice_30 : decode cX6_readInvoice 30 = .ok (.iconst 4, 1) := by decide +kernel
theorem dX6_readInvoice_31 : decode cX6_readInvoice 31 = .ok (.iaload, 1) := by decide +kernel
theorem dX6_readInvoice_32 : decode cX6_readInvoice 32 = .ok (.imul, 1) := by decide +kernel
theorem dX6_readInvoice_33 : decode cX6_readInvoice 33 = .ok (.iadd, 1) := by decide +kernel
theorem dX6_readInvoice_34 : decode cX6_readInvoice 34 = .ok (.istore_n 1, 1) := by decide +kernel
theorem dX6_readInvoice_35 : decode cX6_readInvoice 35 = .ok (.aload_n 0, 1) := by decide +kernel
theorem dX6_readInvoice_36 : decode cX6_readInvoice 36 = .ok (.iload_n 1, 1) := by decide +kernel
theorem dX6_readInvoice_37 : decode cX6_readInvoice 37 = .ok (.iconst 0, 1) := by decide +kernel
theorem dX6_readInvoice_38 : decode cX6_readInvoice 38 = .ok (.iadd, 1) := by decide +kernel
theorem dX6_readInvoice_39 : decode cX6_readInvoice 39 = .ok (.iconst 0, 1) := by decide +kernel
theorem dX6_readInvoice_40 : decode cX6_readInvoice 40 = .ok (.aload_n 0, 1) := by decide +kernel
theorem dX6_readInvoice_41 : decode cX6_readInvoice 41 = .ok (.getfield 73, 3) := by decide +kernel
theorem dX6_readInvoice_44 : decode cX6_readInvoice 44 = .ok (.iconst 3, 1) := by decide +kernel
theorem dX6_readInvoice_45 : decode cX6_readInvoice 45 = .ok (.iaload, 1) := by decide +kernel
theorem dX6_readInvoice_46 : decode cX6_readInvoice 46 = .ok (.iconst 1, 1) := by decide +kernel
theorem dX6_readInvoice_47 : decode cX6_readInvoice 47 = .ok (.isub, 1) := by decide +kernel
theorem dX6_readInvoice_48 : decode cX6_readInvoice 48 = .ok (.invokevirtual 92, 3) := by decide +kernel
theorem dX6_readInvoice_51 : decode cX6_readInvoice 51 = .ok (.ifCond .eq 30, 3) := by decide +kernel
theorem dX6_readInvoice_54 : decode cX6_readInvoice 54 = .ok (.aload_n 0, 1) := by decide +kernel
theorem dX6_readInvoice_55 : decode cX6_readInvoice 55 = .ok (.iload_n 1, 1) := by decide +kernel
theorem dX6_readInvoice_56 : decode cX6_readInvoice 56 = .ok (.iconst 1, 1) := by decide +kernel
theorem dX6_readInvoice_57 : decode cX6_readInvoice 57 = .ok (.iadd, 1) := by decide +kernel
theorem dX6_readInvoice_58 : decode cX6_readInvoice 58 = .ok (.iconst 1, 1) := by decide +kernel
theorem dX6_readInvoice_59 : decode cX6_readInvoice 59 = .ok (.sipush 9999, 3) := by decide +kernel
theorem dX6_readInvoice_62 : decode cX6_readInvoice 62 = .ok (.invokevirtual 92, 3) := by decide +kernel
theorem dX6_readInvoice_65 : decode cX6_readInvoice 65 = .ok (.ifCond .eq 16, 3) := by decide +kernel
theorem dX6_readInvoice_68 : decode cX6_readInvoice 68 = .ok (.aload_n 0, 1) := by decide +kernel
theorem dX6_readInvoice_69 : decode cX6_readInvoice 69 = .ok (.iload_n 1, 1) := by decide +kernel
theorem dX6_readInvoice_70 : decode cX6_readInvoice 70 = .ok (.iconst 3, 1) := by decide +kernel
theorem dX6_readInvoice_71 : decode cX6_readInvoice 71 = .ok (.iadd, 1) := by decide +kernel
theorem dX6_readInvoice_72 : decode cX6_readInvoice 72 = .ok (.iconst 0, 1) := by decide +kernel
theorem dX6_readInvoice_73 : decode cX6_readInvoice 73 = .ok (.bipush 99, 2) := by decide +kernel
theorem dX6_readInvoice_75 : decode cX6_readInvoice 75 = .ok (.invokevirtual 92, 3) := by decide +kernel
theorem dX6_readInvoice_78 : decode cX6_readInvoice 78 = .ok (.ifCond .ne 5, 3) := by decide +kernel
theorem dX6_readInvoice_81 : decode cX6_readInvoice 81 = .ok (.iconst 0, 1) := by decide +kernel
theorem dX6_readInvoice_82 : decode cX6_readInvoice 82 = .ok (.ireturn, 1) := by decide +kernel
theorem dX6_readInvoice_83 : decode cX6_readInvoice 83 = .ok (.aload_n 0, 1) := by decide +kernel
theorem dX6_readInvoice_84 : decode cX6_readInvoice 84 = .ok (.getfield 73, 3) := by decide +kernel
theorem dX6_readInvoice_87 : decode cX6_readInvoice 87 = .ok (.iload_n 1, 1) := by decide +kernel
theorem dX6_readInvoice_88 : decode cX6_readInvoice 88 = .ok (.iconst 2, 1) := by decide +kernel
theorem dX6_readInvoice_89 : decode cX6_readInvoice 89 = .ok (.iadd, 1) := by decide +kernel
theorem dX6_readInvoice_90 : decode cX6_readInvoice 90 = .ok (.aload_n 0, 1) := by decide +kernel
theorem dX6_readInvoice_91 : decode cX6_readInvoice 91 = .ok (.getfield 73, 3) := by decide +kernel
theorem dX6_readInvoice_94 : decode cX6_readInvoice 94 = .ok (.iload_n 1, 1) := by decide +kernel
theorem dX6_readInvoice_95 : decode cX6_readInvoice 95 = .ok (.iconst 1, 1) := by decide +kernel
theorem dX6_readInvoice_96 : decode cX6_readInvoice 96 = .ok (.iadd, 1) := by decide +kernel
theorem dX6_readInvoice_97 : decode cX6_readInvoice 97 = .ok (.iaload, 1) := by decide +kernel
theorem dX6_readInvoice_98 : decode cX6_readInvoice 98 = .ok (.iastore, 1) := by decide +kernel
theorem dX6_readInvoice_99 : decode cX6_readInvoice 99 = .ok (.aload_n 0, 1) := by decide +kernel
theorem dX6_readInvoice_100 : decode cX6_readInvoice 100 = .ok (.getfield 73, 3) := by decide +kernel
theorem dX6_readInvoice_103 : decode cX6_readInvoice 103 = .ok (.iconst 4, 1) := by decide +kernel
theorem dX6_readInvoice_104 : decode cX6_readInvoice 104 = .ok (.dup2, 1) := by decide +kernel
theorem dX6_readInvoice_105 : decode cX6_readInvoice 105 = .ok (.iaload, 1) := by decide +kernel
theorem dX6_readInvoice_106 : decode cX6_readInvoice 106 = .ok (.iconst 1, 1) := by decide +kernel
theorem dX6_readInvoice_107 : decode cX6_readInvoice 107 = .ok (.iadd, 1) := by decide +kernel
theorem dX6_readInvoice_108 : decode cX6_readInvoice 108 = .ok (.iastore, 1) := by decide +kernel
theorem dX6_readInvoice_109 : decode cX6_readInvoice 109 = .ok (.aload_n 0, 1) := by decide +kernel
theorem dX6_readInvoice_110 : decode cX6_readInvoice 110 = .ok (.invokevirtual 95, 3) := by decide +kernel
theorem dX6_readInvoice_113 : decode cX6_readInvoice 113 = .ok (.ireturn, 1) := by decide +kernel
set_option maxRecDepth 20000 in
theorem ggX6_readAll_X6_isSort : GoodIn wsX6_readAll wsX6_isSort := goodIn_r _ [6, 7, 8, 9, 10, 5, 11, 12, 13, 14, 15, 16, 17, 18, 19, 20, 21, 22, 23, 24, 25, 75, 76, 77, 78, 79, 80, 81, 82, 83, 84, 85, 86, 87, 88, 89, 90, 91, 92, 93, 94] (by decide +kernel) (by decide +kernel)
set_option maxRecDepth 20000 in
theorem gX6_readAll_X6_isSort : GoodIn wsX6_readAll (wsV RX6 107 RX6 yX6_isSort wsX6_isSort) := goodIn_app (goodIn_of _ (by decide +kernel)) ggX6_readAll_X6_isSort
set_option maxRecDepth 20000 in
theorem ggX6_readAll_X6_readStep : GoodIn wsX6_readAll wsX6_readStep := goodIn_r _ [29, 30, 31, 32, 33, 5, 34, 24, 35, 36, 37, 38, 39, 40, 41, 42, 43, 44, 25, 45, 7, 12, 46, 47, 48, 49, 50, 51, 52, 53, 54, 55, 56, 57, 58, 59, 60, 61, 62, 63, 64, 65, 66, 75, 76, 77, 78, 79, 80, 81, 82, 83, 84, 85, 86, 87, 88, 89, 90, 91, 92, 93, 94] (by decide +kernel) (by decide +kernel)
set_option maxRecDepth 20000 in
theorem gX6_readAll_X6_readStep : GoodIn wsX6_readAll (wsV RX6 110 RX6 yX6_readStep wsX6_readStep) := goodIn_app (goodIn_of _ (by decide +kernel)) ggX6_readAll_X6_readStep
set_option maxRecDepth 20000 in
theorem ggX6_readAll_X6_readDebtor : GoodIn wsX6_readAll wsX6_readDebtor := goodIn_r _ [70, 30, 31, 32, 33, 5, 34, 24, 35, 36, 37, 38, 39, 40, 41, 42, 43, 44, 25, 45, 7, 12, 46, 47, 48, 49, 50, 51, 52, 53, 54, 55, 56, 57, 58, 59, 60, 61, 62, 63, 64, 65, 66, 75, 76, 77, 78, 79, 80, 81, 82, 83, 84, 85, 86, 87, 88, 89, 90, 91, 92, 93, 94] (by decide +kernel) (by decide +kernel)
set_option maxRecDepth 20000 in
theorem gX6_readAll_X6_readDebtor : GoodIn wsX6_readAll (wsV RX6 113 RX6 yX6_readDebtor wsX6_readDebtor) := goodIn_app (goodIn_of _ (by decide +kernel)) ggX6_readAll_X6_readDebtor
set_option maxRecDepth 20000 in
theorem ggX6_readAll_X6_readInvoice : GoodIn wsX6_readAll wsX6_readInvoice := goodIn_r _ [74, 30, 31, 32, 33, 5, 34, 24, 35, 36, 37, 38, 39, 40, 41, 42, 43, 44, 25, 45, 7, 12, 46, 47, 48, 49, 50, 51, 52, 53, 54, 55, 56, 57, 58, 59, 60, 61, 62, 63, 64, 65, 66, 75, 76, 77, 78, 79, 80, 81, 82, 83, 84, 85, 86, 87, 88, 89, 90, 91, 92, 93, 94] (by decide +kernel) (by decide +kernel)
set_option maxRecDepth 20000 in
theorem gX6_readAll_X6_readInvoice : GoodIn wsX6_readAll (wsV RX6 116 RX6 yX6_readInvoice wsX6_readInvoice) := goodIn_app (goodIn_of _ (by decide +kernel)) ggX6_readAll_X6_readInvoice
theorem dX6_readAll_0 : decode cX6_readAll 0 = .ok (.aload_n 0, 1) := by decide +kernel
theorem dX6_readAll_1 : decode cX6_readAll 1 = .ok (.iload_n 1, 1) := by decide +kernel
theorem dX6_readAll_2 : decode cX6_readAll 2 = .ok (.invokevirtual 107, 3) := by decide +kernel
theorem dX6_readAll_5 : decode cX6_readAll 5 = .ok (.ifCond .eq 54, 3) := by decide +kernel
theorem dX6_readAll_8 : decode cX6_readAll 8 = .ok (.iload_n 1, 1) := by decide +kernel
theorem dX6_readAll_9 : decode cX6_readAll 9 = .ok (.ifCond .ne 13, 3) := by decide +kernel
theorem dX6_readAll_12 : decode cX6_readAll 12 = .ok (.aload_n 0, 1) := by decide +kernel
theorem dX6_readAll_13 : decode cX6_readAll 13 = .ok (.invokevirtual 110, 3) := by decide +kernel
theorem dX6_readAll_16 : decode cX6_readAll 16 = .ok (.ifCond .eq 28, 3) := by decide +kernel
theorem dX6_readAll_19 : decode cX6_readAll 19 = .ok (.goto 27, 3) := by decide +kernel
theorem dX6_readAll_22 : decode cX6_readAll 22 = .ok (.iload_n 1, 1) := by decide +kernel
theorem dX6_readAll_23 : decode cX6_readAll 23 = .ok (.iconst 1, 1) := by decide +kernel
theorem dX6_readAll_24 : decode cX6_readAll 24 = .ok (.if_icmp .ne 13, 3) := by decide +kernel
theorem dX6_readAll_27 : decode cX6_readAll 27 = .ok (.aload_n 0, 1) := by decide +kernel
theorem dX6_readAll_28 : decode cX6_readAll 28 = .ok (.invokevirtual 113, 3) := by decide +kernel
theorem dX6_readAll_31 : decode cX6_readAll 31 = .ok (.ifCond .eq 13, 3) := by decide +kernel
theorem dX6_readAll_34 : decode cX6_readAll 34 = .ok (.goto 12, 3) := by decide +kernel
theorem dX6_readAll_37 : decode cX6_readAll 37 = .ok (.aload_n 0, 1) := by decide +kernel
theorem dX6_readAll_38 : decode cX6_readAll 38 = .ok (.invokevirtual 116, 3) := by decide +kernel
theorem dX6_readAll_41 : decode cX6_readAll 41 = .ok (.ifCond .ne 5, 3) := by decide +kernel
theorem dX6_readAll_44 : decode cX6_readAll 44 = .ok (.iconst 0, 1) := by decide +kernel
theorem dX6_readAll_45 : decode cX6_readAll 45 = .ok (.ireturn, 1) := by decide +kernel
theorem dX6_readAll_46 : decode cX6_readAll 46 = .ok (.aload_n 0, 1) := by decide +kernel
theorem dX6_readAll_47 : decode cX6_readAll 47 = .ok (.dup, 1) := by decide +kernel
theorem dX6_readAll_48 : decode cX6_readAll 48 = .ok (.getfield 119, 3) := by decide +kernel
theorem dX6_readAll_51 : decode cX6_readAll 51 = .ok (.iconst 1, 1) := by decide +kernel
theorem dX6_readAll_52 : decode cX6_readAll 52 = .ok (.iadd, 1) := by decide +kernel
theorem dX6_readAll_53 : decode cX6_readAll 53 = .ok (.putfield 119, 3) := by decide +kernel
theorem dX6_readAll_56 : decode cX6_readAll 56 = .ok (.goto (-56), 3) := by decide +kernel
theorem dX6_readAll_59 : decode cX6_readAll 59 = .ok (.iconst 1, 1) := by decide +kernel
theorem dX6_readAll_60 : decode cX6_readAll 60 = .ok (.ireturn, 1) := by decide +kernel
set_option maxRecDepth 20000 in
theorem ggX6_isSort_X6_four : GoodIn wsX6_isSort wsX6_four := goodIn_r _ [6, 1, 7, 8, 9, 5, 10] (by decide +kernel) (by decide +kernel)
set_option maxRecDepth 20000 in
theorem gX6_isSort_X6_four : GoodIn wsX6_isSort (va_wsS RX6 99 yX6_four wsX6_four) := goodIn_app (goodIn_of _ (by decide +kernel)) ggX6_isSort_X6_four
set_option maxRecDepth 20000 in
theorem ggX6_isSort_X6_six : GoodIn wsX6_isSort wsX6_six := goodIn_r _ [13, 14, 8, 9, 5, 10, 1, 7] (by decide +kernel) (by decide +kernel)
set_option maxRecDepth 20000 in
theorem gX6_isSort_X6_six : GoodIn wsX6_isSort (va_wsS RX6 122 yX6_six wsX6_six) := goodIn_app (goodIn_of _ (by decide +kernel)) ggX6_isSort_X6_six
set_option maxRecDepth 20000 in
theorem ggX6_isSort_X6_isWord : GoodIn wsX6_isSort wsX6_isWord := goodIn_r _ [18, 19, 20, 21, 22, 23, 24, 25, 26, 27, 28, 29, 30, 31, 32, 33, 34, 35, 36, 37, 38, 39, 40] (by decide +kernel) (by decide +kernel)
set_option maxRecDepth 20000 in
theorem gX6_isSort_X6_isWord : GoodIn wsX6_isSort (wsV RX6 103 RX6 yX6_isWord wsX6_isWord) := goodIn_app (goodIn_of _ (by decide +kernel)) ggX6_isSort_X6_isWord
theorem dX6_isSort_0 : decode cX6_isSort 0 = .ok (.aload_n 0, 1) := by decide +kernel
theorem dX6_isSort_1 : decode cX6_isSort 1 = .ok (.iload_n 1, 1) := by decide +kernel
theorem dX6_isSort_2 : decode cX6_isSort 2 = .ok (.ifCond .ne 17, 3) := by decide +kernel
theorem dX6_isSort_5 : decode cX6_isSort 5 = .ok (.bipush 115, 2) := by decide +kernel
theorem dX6_isSort_7 : decode cX6_isSort 7 = .ok (.bipush 116, 2) := by decide +kernel
theorem dX6_isSort_9 : decode cX6_isSort 9 = .ok (.bipush 101, 2) := by decide +kernel
theorem dX6_isSort_11 : decode cX6_isSort 11 = .ok (.bipush 112, 2) := by decide +kernel
theorem dX6_isSort_13 : decode cX6_isSort 13 = .ok (.invokestatic 99, 3) := by decide +kernel
theorem dX6_isSort_16 : decode cX6_isSort 16 = .ok (.goto 49, 3) := by decide +kernel
theorem dX6_isSort_19 : decode cX6_isSort 19 = .ok (.iload_n 1, 1) := by decide +kernel
theorem dX6_isSort_20 : decode cX6_isSort 20 = .ok (.iconst 1, 1) := by decide +kernel
theorem dX6_isSort_21 : decode cX6_isSort 21 = .ok (.if_icmp .ne 21, 3) := by decide +kernel
theorem dX6_isSort_24 : decode cX6_isSort 24 = .ok (.bipush 100, 2) := by decide +kernel
theorem dX6_isSort_26 : decode cX6_isSort 26 = .ok (.bipush 101, 2) := by decide +kernel
theorem dX6_isSort_28 : decode cX6_isSort 28 = .ok (.bipush 98, 2) := by decide +kernel
theorem dX6_isSort_30 : decode cX6_isSort 30 = .ok (.bipush 116, 2) := by decide +kernel
theorem dX6_isSort_32 : decode cX6_isSort 32 = .ok (.bipush 111, 2) := by decide +kernel
theorem dX6_isSort_34 : decode cX6_isSort 34 = .ok (.bipush 114, 2) := by decide +kernel
theorem dX6_isSort_36 : decode cX6_isSort 36 = .ok (.invokestatic 122, 3) := by decide +kernel
theorem dX6_isSort_39 : decode cX6_isSort 39 = .ok (.goto 26, 3) := by decide +kernel
theorem dX6_isSort_42 : decode cX6_isSort 42 = .ok (.ldc2_w 48, 3) := by decide +kernel
theorem dX6_isSort_45 : decode cX6_isSort 45 = .ok (.bipush 105, 2) := by decide +kernel
theorem dX6_isSort_47 : decode cX6_isSort 47 = .ok (.bipush 110, 2) := by decide +kernel
theorem dX6_isSort_49 : decode cX6_isSort 49 = .ok (.bipush 118, 2) := by decide +kernel
theorem dX6_isSort_51 : decode cX6_isSort 51 = .ok (.bipush 111, 2) := by decide +kernel
theorem dX6_isSort_53 : decode cX6_isSort 53 = .ok (.bipush 105, 2) := by decide +kernel
theorem dX6_isSort_55 : decode cX6_isSort 55 = .ok (.bipush 99, 2) := by decide +kernel
theorem dX6_isSort_57 : decode cX6_isSort 57 = .ok (.invokestatic 122, 3) := by decide +kernel
theorem dX6_isSort_60 : decode cX6_isSort 60 = .ok (.lmul, 1) := by decide +kernel
theorem dX6_isSort_61 : decode cX6_isSort 61 = .ok (.ldc2_w 126, 3) := by decide +kernel
theorem dX6_isSort_64 : decode cX6_isSort 64 = .ok (.ladd, 1) := by decide +kernel
theorem dX6_isSort_65 : decode cX6_isSort 65 = .ok (.invokevirtual 103, 3) := by decide +kernel
theorem dX6_isSort_68 : decode cX6_isSort 68 = .ok (.ireturn, 1) := by decide +kernel
set_option maxRecDepth 20000 in
theorem ggX6_readWhole_X6_readAll : GoodIn wsX6_readWhole wsX6_readAll := goodIn_r _ [7, 1, 8, 9, 10, 6, 11, 12, 13, 14, 15, 16, 17, 18, 19, 20, 21, 22, 23, 24, 25, 26, 27, 28, 2, 29, 30, 31, 32, 33, 34, 35, 36, 37, 38, 39, 40, 41, 42, 43, 44, 45, 46, 47, 48, 49, 50, 51, 52, 53, 54, 55, 56, 57, 58, 59, 60, 61, 62, 63, 64, 65, 66, 67, 68, 69, 70, 71, 72, 73, 74, 75, 76, 77, 78, 83, 84, 85, 86, 87, 88, 89, 90, 91, 92, 93, 94, 95, 96, 97, 98, 99, 100, 101, 102] (by decide +kernel) (by decide +kernel)
set_option maxRecDepth 20000 in
theorem gX6_readWhole_X6_readAll : GoodIn wsX6_readWhole (wsV RX6 128 RX6 yX6_readAll wsX6_readAll) := goodIn_app (goodIn_of _ (by decide +kernel)) ggX6_readWhole_X6_readAll
set_option maxRecDepth 20000 in
theorem ggX6_readWhole_X6_readHold : GoodIn wsX6_readWhole wsX6_readHold := goodIn_r _ [82, 14, 15, 6, 16, 12, 17, 18, 19, 20, 25, 26, 27, 28, 2, 29, 35, 36, 37, 38, 39, 40, 41, 42, 43, 44, 45, 46, 47, 48, 49, 50, 51, 52, 53, 54, 55, 56, 57, 58, 59, 60, 61, 62, 63, 34, 64, 65, 66, 67, 68, 69, 70, 83, 84, 85, 86, 87, 88, 89, 90, 91, 92, 93, 94, 95, 96, 97, 98, 99, 100, 101, 102] (by decide +kernel) (by decide +kernel)
set_option maxRecDepth 20000 in
theorem gX6_readWhole_X6_readHold : GoodIn wsX6_readWhole (wsV RX6 131 RX6 yX6_readHold wsX6_readHold) := goodIn_app (goodIn_of _ (by decide +kernel)) ggX6_readWhole_X6_readHold
set_option maxRecDepth 20000 in
theorem ggX6_readWhole_X6_bad : GoodIn wsX6_readWhole wsX6_bad := goodIn_r _ [38, 2, 39, 40, 41, 83, 84, 85, 86, 87, 88, 89, 90, 91, 92, 93, 94, 95, 96, 97, 98, 99, 100, 101, 102] (by decide +kernel) (by decide +kernel)
set_option maxRecDepth 20000 in
theorem gX6_readWhole_X6_bad : GoodIn wsX6_readWhole (wsV RX6 82 RX6 yX6_bad wsX6_bad) := goodIn_app (goodIn_of _ (by decide +kernel)) ggX6_readWhole_X6_bad
theorem dX6_readWhole_0 : decode cX6_readWhole 0 = .ok (.aload_n 0, 1) := by decide +kernel
theorem dX6_readWhole_1 : decode cX6_readWhole 1 = .ok (.iconst 0, 1) := by decide +kernel
theorem dX6_readWhole_2 : decode cX6_readWhole 2 = .ok (.invokevirtual 128, 3) := by decide +kernel
theorem dX6_readWhole_5 : decode cX6_readWhole 5 = .ok (.ifCond .eq 10, 3) := by decide +kernel
theorem dX6_readWhole_8 : decode cX6_readWhole 8 = .ok (.aload_n 0, 1) := by decide +kernel
theorem dX6_readWhole_9 : decode cX6_readWhole 9 = .ok (.invokevirtual 131, 3) := by decide +kernel
theorem dX6_readWhole_12 : decode cX6_readWhole 12 = .ok (.ifCond .ne 5, 3) := by decide +kernel
theorem dX6_readWhole_15 : decode cX6_readWhole 15 = .ok (.iconst 0, 1) := by decide +kernel
theorem dX6_readWhole_16 : decode cX6_readWhole 16 = .ok (.ireturn, 1) := by decide +kernel
theorem dX6_readWhole_17 : decode cX6_readWhole 17 = .ok (.aload_n 0, 1) := by decide +kernel
theorem dX6_readWhole_18 : decode cX6_readWhole 18 = .ok (.dup, 1) := by decide +kernel
theorem dX6_readWhole_19 : decode cX6_readWhole 19 = .ok (.getfield 119, 3) := by decide +kernel
theorem dX6_readWhole_22 : decode cX6_readWhole 22 = .ok (.iconst 1, 1) := by decide +kernel
theorem dX6_readWhole_23 : decode cX6_readWhole 23 = .ok (.iadd, 1) := by decide +kernel
theorem dX6_readWhole_24 : decode cX6_readWhole 24 = .ok (.putfield 119, 3) := by decide +kernel
theorem dX6_readWhole_27 : decode cX6_readWhole 27 = .ok (.aload_n 0, 1) := by decide +kernel
theorem dX6_readWhole_28 : decode cX6_readWhole 28 = .ok (.iconst 1, 1) := by decide +kernel
theorem dX6_readWhole_29 : decode cX6_readWhole 29 = .ok (.invokevirtual 128, 3) := by decide +kernel
theorem dX6_readWhole_32 : decode cX6_readWhole 32 = .ok (.ifCond .eq 30, 3) := by decide +kernel
theorem dX6_readWhole_35 : decode cX6_readWhole 35 = .ok (.aload_n 0, 1) := by decide +kernel
theorem dX6_readWhole_36 : decode cX6_readWhole 36 = .ok (.iconst 2, 1) := by decide +kernel
theorem dX6_readWhole_37 : decode cX6_readWhole 37 = .ok (.invokevirtual 128, 3) := by decide +kernel
theorem dX6_readWhole_40 : decode cX6_readWhole 40 = .ok (.ifCond .eq 22, 3) := by decide +kernel
theorem dX6_readWhole_43 : decode cX6_readWhole 43 = .ok (.aload_n 0, 1) := by decide +kernel
theorem dX6_readWhole_44 : decode cX6_readWhole 44 = .ok (.getfield 27, 3) := by decide +kernel
theorem dX6_readWhole_47 : decode cX6_readWhole 47 = .ok (.ifCond .eq 11, 3) := by decide +kernel
theorem dX6_readWhole_50 : decode cX6_readWhole 50 = .ok (.aload_n 0, 1) := by decide +kernel
theorem dX6_readWhole_51 : decode cX6_readWhole 51 = .ok (.iconst 1, 1) := by decide +kernel
theorem dX6_readWhole_52 : decode cX6_readWhole 52 = .ok (.invokevirtual 82, 3) := by decide +kernel
theorem dX6_readWhole_55 : decode cX6_readWhole 55 = .ok (.ifCond .eq 7, 3) := by decide +kernel
theorem dX6_readWhole_58 : decode cX6_readWhole 58 = .ok (.iconst 1, 1) := by decide +kernel
theorem dX6_readWhole_59 : decode cX6_readWhole 59 = .ok (.goto 4, 3) := by decide +kernel
theorem dX6_readWhole_62 : decode cX6_readWhole 62 = .ok (.iconst 0, 1) := by decide +kernel
theorem dX6_readWhole_63 : decode cX6_readWhole 63 = .ok (.ireturn, 1) := by decide +kernel
set_option maxRecDepth 20000 in
theorem ggX6_text_X6_go : GoodIn wsX6_text wsX6_go := goodIn_r _ [15, 5, 3, 16, 17, 18, 19, 20, 21, 22, 23, 24, 14, 25, 26, 27, 28, 29, 30, 31, 32, 91, 92, 93, 94, 95, 96, 97, 98, 99, 100, 101, 102, 103, 104, 105, 106, 107, 108, 109, 110] (by decide +kernel) (by decide +kernel)
set_option maxRecDepth 20000 in
theorem gX6_text_X6_go : GoodIn wsX6_text (wsV RX6 89 RX6 yX6_go wsX6_go) := goodIn_app (goodIn_of _ (by decide +kernel)) ggX6_text_X6_go
set_option maxRecDepth 20000 in
theorem ggX6_text_X6_readWhole : GoodIn wsX6_text wsX6_readWhole := goodIn_r _ [36, 6, 18, 37, 38, 39, 14, 40, 41, 42, 43, 44, 21, 45, 46, 47, 48, 22, 49, 50, 51, 52, 53, 54, 55, 56, 57, 58, 59, 19, 60, 61, 62, 63, 7, 64, 65, 66, 67, 4, 17, 8, 11, 12, 13, 15, 5, 3, 16, 20, 23, 24, 25, 26, 27, 28, 29, 30, 31, 32, 68, 69, 70, 71, 72, 73, 74, 75, 76, 77, 78, 79, 80, 81, 82, 83, 84, 85, 86, 87, 88, 89, 90, 91, 92, 93, 94, 95, 96, 97, 98, 99, 100, 101, 102, 103, 104, 105, 106, 107, 108, 109, 110] (by decide +kernel) (by decide +kernel)
set_option maxRecDepth 20000 in
theorem gX6_text_X6_readWhole : GoodIn wsX6_text (wsV RX6 134 RX6 yX6_readWhole wsX6_readWhole) := goodIn_app (goodIn_of _ (by decide +kernel)) ggX6_text_X6_readWhole
theorem dX6_text_0 : decode cX6_text 0 = .ok (.aload_n 0, 1) := by decide +kernel
theorem dX6_text_1 : decode cX6_text 1 = .ok (.iconst 0, 1) := by decide +kernel
theorem dX6_text_2 : decode cX6_text 2 = .ok (.putfield 1, 3) := by decide +kernel
theorem dX6_text_5 : decode cX6_text 5 = .ok (.aload_n 0, 1) := by decide +kernel
theorem dX6_text_6 : decode cX6_text 6 = .ok (.aload_n 0, 1) := by decide +kernel
theorem dX6_text_7 : decode cX6_text 7 = .ok (.getfield 11, 3) := by decide +kernel
theorem dX6_text_10 : decode cX6_text 10 = .ok (.putfield 18, 3) := by decide +kernel
theorem dX6_text_13 : decode cX6_text 13 = .ok (.aload_n 0, 1) := by decide +kernel
theorem dX6_text_14 : decode cX6_text 14 = .ok (.iconst 0, 1) := by decide +kernel
theorem dX6_text_15 : decode cX6_text 15 = .ok (.putfield 11, 3) := by decide +kernel
theorem dX6_text_18 : decode cX6_text 18 = .ok (.aload_n 0, 1) := by decide +kernel
theorem dX6_text_19 : decode cX6_text 19 = .ok (.iconst 0, 1) := by decide +kernel
theorem dX6_text_20 : decode cX6_text 20 = .ok (.putfield 58, 3) := by decide +kernel
theorem dX6_text_23 : decode cX6_text 23 = .ok (.aload_n 0, 1) := by decide +kernel
theorem dX6_text_24 : decode cX6_text 24 = .ok (.iconst 0, 1) := by decide +kernel
theorem dX6_text_25 : decode cX6_text 25 = .ok (.putfield 21, 3) := by decide +kernel
theorem dX6_text_28 : decode cX6_text 28 = .ok (.aload_n 0, 1) := by decide +kernel
theorem dX6_text_29 : decode cX6_text 29 = .ok (.iconst 0, 1) := by decide +kernel
theorem dX6_text_30 : decode cX6_text 30 = .ok (.putfield 119, 3) := by decide +kernel
theorem dX6_text_33 : decode cX6_text 33 = .ok (.iconst 0, 1) := by decide +kernel
theorem dX6_text_34 : decode cX6_text 34 = .ok (.istore_n 1, 1) := by decide +kernel
theorem dX6_text_35 : decode cX6_text 35 = .ok (.iload_n 1, 1) := by decide +kernel
theorem dX6_text_36 : decode cX6_text 36 = .ok (.sipush 785, 3) := by decide +kernel
theorem dX6_text_39 : decode cX6_text 39 = .ok (.if_icmp .ge 16, 3) := by decide +kernel
theorem dX6_text_42 : decode cX6_text 42 = .ok (.aload_n 0, 1) := by decide +kernel
theorem dX6_text_43 : decode cX6_text 43 = .ok (.getfield 73, 3) := by decide +kernel
theorem dX6_text_46 : decode cX6_text 46 = .ok (.iload_n 1, 1) := by decide +kernel
theorem dX6_text_47 : decode cX6_text 47 = .ok (.iconst 0, 1) := by decide +kernel
theorem dX6_text_48 : decode cX6_text 48 = .ok (.iastore, 1) := by decide +kernel
theorem dX6_text_49 : decode cX6_text 49 = .ok (.iinc 1 1, 3) := by decide +kernel
theorem dX6_text_52 : decode cX6_text 52 = .ok (.goto (-17), 3) := by decide +kernel
theorem dX6_text_55 : decode cX6_text 55 = .ok (.aload_n 0, 1) := by decide +kernel
theorem dX6_text_56 : decode cX6_text 56 = .ok (.invokevirtual 89, 3) := by decide +kernel
theorem dX6_text_59 : decode cX6_text 59 = .ok (.aload_n 0, 1) := by decide +kernel
theorem dX6_text_60 : decode cX6_text 60 = .ok (.invokevirtual 134, 3) := by decide +kernel
theorem dX6_text_63 : decode cX6_text 63 = .ok (.ifCond .ne 10, 3) := by decide +kernel
theorem dX6_text_66 : decode cX6_text 66 = .ok (.iconst (-1), 1) := by decide +kernel
theorem dX6_text_67 : decode cX6_text 67 = .ok (.aload_n 0, 1) := by decide +kernel
theorem dX6_text_68 : decode cX6_text 68 = .ok (.getfield 61, 3) := by decide +kernel
theorem dX6_text_71 : decode cX6_text 71 = .ok (.isub, 1) := by decide +kernel
theorem dX6_text_72 : decode cX6_text 72 = .ok (.ireturn, 1) := by decide +kernel
theorem dX6_text_73 : decode cX6_text 73 = .ok (.iconst 0, 1) := by decide +kernel
theorem dX6_text_74 : decode cX6_text 74 = .ok (.istore_n 1, 1) := by decide +kernel
theorem dX6_text_75 : decode cX6_text 75 = .ok (.iload_n 1, 1) := by decide +kernel
theorem dX6_text_76 : decode cX6_text 76 = .ok (.sipush 785, 3) := by decide +kernel
theorem dX6_text_79 : decode cX6_text 79 = .ok (.if_icmp .ge 21, 3) := by decide +kernel
theorem dX6_text_82 : decode cX6_text 82 = .ok (.aload_n 0, 1) := by decide +kernel
theorem dX6_text_83 : decode cX6_text 83 = .ok (.getfield 70, 3) := by decide +kernel
theorem dX6_text_86 : decode cX6_text 86 = .ok (.iload_n 1, 1) := by decide +kernel
theorem dX6_text_87 : decode cX6_text 87 = .ok (.aload_n 0, 1) := by decide +kernel
theorem dX6_text_88 : decode cX6_text 88 = .ok (.getfield 73, 3) := by decide +kernel
theorem dX6_text_91 : decode cX6_text 91 = .ok (.iload_n 1, 1) := by decide +kernel
theorem dX6_text_92 : decode cX6_text 92 = .ok (.iaload, 1) := by decide +kernel
theorem dX6_text_93 : decode cX6_text 93 = .ok (.iastore, 1) := by decide +kernel
theorem dX6_text_94 : decode cX6_text 94 = .ok (.iinc 1 1, 3) := by decide +kernel
theorem dX6_text_97 : decode cX6_text 97 = .ok (.goto (-22), 3) := by decide +kernel
theorem dX6_text_100 : decode cX6_text 100 = .ok (.aload_n 0, 1) := by decide +kernel
theorem dX6_text_101 : decode cX6_text 101 = .ok (.iconst 0, 1) := by decide +kernel
theorem dX6_text_102 : decode cX6_text 102 = .ok (.putfield 137, 3) := by decide +kernel
theorem dX6_text_105 : decode cX6_text 105 = .ok (.aload_n 0, 1) := by decide +kernel
theorem dX6_text_106 : decode cX6_text 106 = .ok (.getfield 119, 3) := by decide +kernel
theorem dX6_text_109 : decode cX6_text 109 = .ok (.ireturn, 1) := by decide +kernel
theorem dX6_fault_0 : decode cX6_fault 0 = .ok (.aload_n 0, 1) := by decide +kernel
theorem dX6_fault_1 : decode cX6_fault 1 = .ok (.iconst 0, 1) := by decide +kernel
theorem dX6_fault_2 : decode cX6_fault 2 = .ok (.putfield 1, 3) := by decide +kernel
theorem dX6_fault_5 : decode cX6_fault 5 = .ok (.aload_n 0, 1) := by decide +kernel
theorem dX6_fault_6 : decode cX6_fault 6 = .ok (.getfield 58, 3) := by decide +kernel
theorem dX6_fault_9 : decode cX6_fault 9 = .ok (.ireturn, 1) := by decide +kernel
theorem dX6_today_0 : decode cX6_today 0 = .ok (.aload_n 0, 1) := by decide +kernel
theorem dX6_today_1 : decode cX6_today 1 = .ok (.getfield 70, 3) := by decide +kernel
theorem dX6_today_4 : decode cX6_today 4 = .ok (.iconst 0, 1) := by decide +kernel
theorem dX6_today_5 : decode cX6_today 5 = .ok (.iaload, 1) := by decide +kernel
theorem dX6_today_6 : decode cX6_today 6 = .ok (.ireturn, 1) := by decide +kernel
set_option maxRecDepth 20000 in
theorem ggX6_isDebtor_X6_isIn : GoodIn wsX6_isDebtor wsX6_isIn := goodIn_r _ [5] (by decide +kernel) (by decide +kernel)
set_option maxRecDepth 20000 in
theorem gX6_isDebtor_X6_isIn : GoodIn wsX6_isDebtor (va_wsS RX6 85 yX6_isIn wsX6_isIn) := goodIn_app (goodIn_of _ (by decide +kernel)) ggX6_isDebtor_X6_isIn
theorem dX6_isDebtor_0 : decode cX6_isDebtor 0 = .ok (.iload_n 1, 1) := by decide +kernel
theorem dX6_isDebtor_1 : decode cX6_isDebtor 1 = .ok (.iconst 0, 1) := by decide +kernel
theorem dX6_isDebtor_2 : decode cX6_isDebtor 2 = .ok (.aload_n 0, 1) := by decide +kernel
theorem dX6_isDebtor_3 : decode cX6_isDebtor 3 = .ok (.getfield 70, 3) := by decide +kernel
theorem dX6_isDebtor_6 : decode cX6_isDebtor 6 = .ok (.iconst 3, 1) := by decide +kernel
theorem dX6_isDebtor_7 : decode cX6_isDebtor 7 = .ok (.iaload, 1) := by decide +kernel
theorem dX6_isDebtor_8 : decode cX6_isDebtor 8 = .ok (.iconst 1, 1) := by decide +kernel
theorem dX6_isDebtor_9 : decode cX6_isDebtor 9 = .ok (.isub, 1) := by decide +kernel
theorem dX6_isDebtor_10 : decode cX6_isDebtor 10 = .ok (.invokestatic 85, 3) := by decide +kernel
theorem dX6_isDebtor_13 : decode cX6_isDebtor 13 = .ok (.ireturn, 1) := by decide +kernel
set_option maxRecDepth 20000 in
theorem ggX6_isInvoice_X6_isIn : GoodIn wsX6_isInvoice wsX6_isIn := goodIn_r _ [5] (by decide +kernel) (by decide +kernel)
set_option maxRecDepth 20000 in
theorem gX6_isInvoice_X6_isIn : GoodIn wsX6_isInvoice (va_wsS RX6 85 yX6_isIn wsX6_isIn) := goodIn_app (goodIn_of _ (by decide +kernel)) ggX6_isInvoice_X6_isIn
theorem dX6_isInvoice_0 : decode cX6_isInvoice 0 = .ok (.iload_n 1, 1) := by decide +kernel
theorem dX6_isInvoice_1 : decode cX6_isInvoice 1 = .ok (.iconst 0, 1) := by decide +kernel
theorem dX6_isInvoice_2 : decode cX6_isInvoice 2 = .ok (.aload_n 0, 1) := by decide +kernel
theorem dX6_isInvoice_3 : decode cX6_isInvoice 3 = .ok (.getfield 70, 3) := by decide +kernel
theorem dX6_isInvoice_6 : decode cX6_isInvoice 6 = .ok (.iconst 4, 1) := by decide +kernel
theorem dX6_isInvoice_7 : decode cX6_isInvoice 7 = .ok (.iaload, 1) := by decide +kernel
theorem dX6_isInvoice_8 : decode cX6_isInvoice 8 = .ok (.iconst 1, 1) := by decide +kernel
theorem dX6_isInvoice_9 : decode cX6_isInvoice 9 = .ok (.isub, 1) := by decide +kernel
theorem dX6_isInvoice_10 : decode cX6_isInvoice 10 = .ok (.invokestatic 85, 3) := by decide +kernel
theorem dX6_isInvoice_13 : decode cX6_isInvoice 13 = .ok (.ireturn, 1) := by decide +kernel
set_option maxRecDepth 20000 in
theorem ggX6_isOrder_X6_isIn : GoodIn wsX6_isOrder wsX6_isIn := goodIn_r _ [5] (by decide +kernel) (by decide +kernel)
set_option maxRecDepth 20000 in
theorem gX6_isOrder_X6_isIn : GoodIn wsX6_isOrder (va_wsS RX6 85 yX6_isIn wsX6_isIn) := goodIn_app (goodIn_of _ (by decide +kernel)) ggX6_isOrder_X6_isIn
theorem dX6_isOrder_0 : decode cX6_isOrder 0 = .ok (.iload_n 1, 1) := by decide +kernel
theorem dX6_isOrder_1 : decode cX6_isOrder 1 = .ok (.iconst 0, 1) := by decide +kernel
theorem dX6_isOrder_2 : decode cX6_isOrder 2 = .ok (.aload_n 0, 1) := by decide +kernel
theorem dX6_isOrder_3 : decode cX6_isOrder 3 = .ok (.getfield 70, 3) := by decide +kernel
theorem dX6_isOrder_6 : decode cX6_isOrder 6 = .ok (.iconst 5, 1) := by decide +kernel
theorem dX6_isOrder_7 : decode cX6_isOrder 7 = .ok (.iaload, 1) := by decide +kernel
theorem dX6_isOrder_8 : decode cX6_isOrder 8 = .ok (.iconst 1, 1) := by decide +kernel
theorem dX6_isOrder_9 : decode cX6_isOrder 9 = .ok (.isub, 1) := by decide +kernel
theorem dX6_isOrder_10 : decode cX6_isOrder 10 = .ok (.invokestatic 85, 3) := by decide +kernel
theorem dX6_isOrder_13 : decode cX6_isOrder 13 = .ok (.ireturn, 1) := by decide +kernel
theorem dX6_its_0 : decode cX6_its 0 = .ok (.aload_n 0, 1) := by decide +kernel
theorem dX6_its_1 : decode cX6_its 1 = .ok (.getfield 70, 3) := by decide +kernel
theorem dX6_its_4 : decode cX6_its 4 = .ok (.bipush 25, 2) := by decide +kernel
theorem dX6_its_6 : decode cX6_its 6 = .ok (.bipush 30, 2) := by decide +kernel
theorem dX6_its_8 : decode cX6_its 8 = .ok (.iload_n 1, 1) := by decide +kernel
theorem dX6_its_9 : decode cX6_its 9 = .ok (.imul, 1) := by decide +kernel
theorem dX6_its_10 : decode cX6_its 10 = .ok (.iadd, 1) := by decide +kernel
theorem dX6_its_11 : decode cX6_its 11 = .ok (.iload_n 2, 1) := by decide +kernel
theorem dX6_its_12 : decode cX6_its 12 = .ok (.iadd, 1) := by decide +kernel
theorem dX6_its_13 : decode cX6_its 13 = .ok (.iaload, 1) := by decide +kernel
theorem dX6_its_14 : decode cX6_its 14 = .ok (.ireturn, 1) := by decide +kernel
theorem dX6_puts_0 : decode cX6_puts 0 = .ok (.aload_n 0, 1) := by decide +kernel
theorem dX6_puts_1 : decode cX6_puts 1 = .ok (.getfield 70, 3) := by decide +kernel
theorem dX6_puts_4 : decode cX6_puts 4 = .ok (.bipush 25, 2) := by decide +kernel
theorem dX6_puts_6 : decode cX6_puts 6 = .ok (.bipush 30, 2) := by decide +kernel
theorem dX6_puts_8 : decode cX6_puts 8 = .ok (.iload_n 1, 1) := by decide +kernel
theorem dX6_puts_9 : decode cX6_puts 9 = .ok (.imul, 1) := by decide +kernel
theorem dX6_puts_10 : decode cX6_puts 10 = .ok (.iadd, 1) := by decide +kernel
theorem dX6_puts_11 : decode cX6_puts 11 = .ok (.iload_n 2, 1) := by decide +kernel
theorem dX6_puts_12 : decode cX6_puts 12 = .ok (.iadd, 1) := by decide +kernel
theorem dX6_puts_13 : decode cX6_puts 13 = .ok (.iload_n 3, 1) := by decide +kernel
theorem dX6_puts_14 : decode cX6_puts 14 = .ok (.iastore, 1) := by decide +kernel
theorem dX6_puts_15 : decode cX6_puts 15 = .ok (.return_, 1) := by decide +kernel
theorem dX6_billed_0 : decode cX6_billed 0 = .ok (.aload_n 0, 1) := by decide +kernel
theorem dX6_billed_1 : decode cX6_billed 1 = .ok (.getfield 70, 3) := by decide +kernel
theorem dX6_billed_4 : decode cX6_billed 4 = .ok (.sipush 205, 3) := by decide +kernel
theorem dX6_billed_7 : decode cX6_billed 7 = .ok (.bipush 7, 2) := by decide +kernel
theorem dX6_billed_9 : decode cX6_billed 9 = .ok (.iload_n 1, 1) := by decide +kernel
theorem dX6_billed_10 : decode cX6_billed 10 = .ok (.imul, 1) := by decide +kernel
theorem dX6_billed_11 : decode cX6_billed 11 = .ok (.iadd, 1) := by decide +kernel
theorem dX6_billed_12 : decode cX6_billed 12 = .ok (.iload_n 2, 1) := by decide +kernel
theorem dX6_billed_13 : decode cX6_billed 13 = .ok (.iadd, 1) := by decide +kernel
theorem dX6_billed_14 : decode cX6_billed 14 = .ok (.iaload, 1) := by decide +kernel
theorem dX6_billed_15 : decode cX6_billed 15 = .ok (.ireturn, 1) := by decide +kernel
theorem dX6_ordered_0 : decode cX6_ordered 0 = .ok (.aload_n 0, 1) := by decide +kernel
theorem dX6_ordered_1 : decode cX6_ordered 1 = .ok (.getfield 70, 3) := by decide +kernel
theorem dX6_ordered_4 : decode cX6_ordered 4 = .ok (.sipush 625, 3) := by decide +kernel
theorem dX6_ordered_7 : decode cX6_ordered 7 = .ok (.iconst 4, 1) := by decide +kernel
theorem dX6_ordered_8 : decode cX6_ordered 8 = .ok (.iload_n 1, 1) := by decide +kernel
theorem dX6_ordered_9 : decode cX6_ordered 9 = .ok (.imul, 1) := by decide +kernel
theorem dX6_ordered_10 : decode cX6_ordered 10 = .ok (.iadd, 1) := by decide +kernel
theorem dX6_ordered_11 : decode cX6_ordered 11 = .ok (.iload_n 2, 1) := by decide +kernel
theorem dX6_ordered_12 : decode cX6_ordered 12 = .ok (.iadd, 1) := by decide +kernel
theorem dX6_ordered_13 : decode cX6_ordered 13 = .ok (.iaload, 1) := by decide +kernel
theorem dX6_ordered_14 : decode cX6_ordered 14 = .ok (.ireturn, 1) := by decide +kernel
set_option maxRecDepth 20000 in
theorem ggX6_owes_X6_billed : GoodIn wsX6_owes wsX6_billed := goodIn_r _ [6, 1, 7, 8, 9, 10, 11, 12, 13, 14, 15, 16, 17, 18, 19, 20, 21, 22, 23, 24, 25, 26] (by decide +kernel) (by decide +kernel)
set_option maxRecDepth 20000 in
theorem gX6_owes_X6_billed : GoodIn wsX6_owes (wsV RX6 140 RX6 yX6_billed wsX6_billed) := goodIn_app (goodIn_of _ (by decide +kernel)) ggX6_owes_X6_billed
theorem dX6_owes_0 : decode cX6_owes 0 = .ok (.iconst 0, 1) := by decide +kernel
theorem dX6_owes_1 : decode cX6_owes 1 = .ok (.istore_n 2, 1) := by decide +kernel
theorem dX6_owes_2 : decode cX6_owes 2 = .ok (.iconst 0, 1) := by decide +kernel
theorem dX6_owes_3 : decode cX6_owes 3 = .ok (.istore_n 3, 1) := by decide +kernel
theorem dX6_owes_4 : decode cX6_owes 4 = .ok (.iload_n 3, 1) := by decide +kernel
theorem dX6_owes_5 : decode cX6_owes 5 = .ok (.aload_n 0, 1) := by decide +kernel
theorem dX6_owes_6 : decode cX6_owes 6 = .ok (.getfield 70, 3) := by decide +kernel
theorem dX6_owes_9 : decode cX6_owes 9 = .ok (.iconst 4, 1) := by decide +kernel
theorem dX6_owes_10 : decode cX6_owes 10 = .ok (.iaload, 1) := by decide +kernel
theorem dX6_owes_11 : decode cX6_owes 11 = .ok (.if_icmp .ge 28, 3) := by decide +kernel
theorem dX6_owes_14 : decode cX6_owes 14 = .ok (.aload_n 0, 1) := by decide +kernel
theorem dX6_owes_15 : decode cX6_owes 15 = .ok (.iload_n 3, 1) := by decide +kernel
theorem dX6_owes_16 : decode cX6_owes 16 = .ok (.iconst 0, 1) := by decide +kernel
theorem dX6_owes_17 : decode cX6_owes 17 = .ok (.invokevirtual 140, 3) := by decide +kernel
theorem dX6_owes_20 : decode cX6_owes 20 = .ok (.iload_n 1, 1) := by decide +kernel
theorem dX6_owes_21 : decode cX6_owes 21 = .ok (.if_icmp .ne 12, 3) := by decide +kernel
theorem dX6_owes_24 : decode cX6_owes 24 = .ok (.iload_n 2, 1) := by decide +kernel
theorem dX6_owes_25 : decode cX6_owes 25 = .ok (.aload_n 0, 1) := by decide +kernel
theorem dX6_owes_26 : decode cX6_owes 26 = .ok (.iload_n 3, 1) := by decide +kernel
theorem dX6_owes_27 : decode cX6_owes 27 = .ok (.iconst 2, 1) := by decide +kernel
theorem dX6_owes_28 : decode cX6_owes 28 = .ok (.invokevirtual 140, 3) := by decide +kernel
theorem dX6_owes_31 : decode cX6_owes 31 = .ok (.iadd, 1) := by decide +kernel
theorem dX6_owes_32 : decode cX6_owes 32 = .ok (.istore_n 2, 1) := by decide +kernel
theorem dX6_owes_33 : decode cX6_owes 33 = .ok (.iinc 3 1, 3) := by decide +kernel
theorem dX6_owes_36 : decode cX6_owes 36 = .ok (.goto (-32), 3) := by decide +kernel
theorem dX6_owes_39 : decode cX6_owes 39 = .ok (.iload_n 2, 1) := by decide +kernel
theorem dX6_owes_40 : decode cX6_owes 40 = .ok (.ireturn, 1) := by decide +kernel
set_option maxRecDepth 20000 in
theorem ggX6_counts_X6_billed : GoodIn wsX6_counts wsX6_billed := goodIn_r _ [5, 6, 7, 8, 9, 10, 11, 12, 13, 14, 15, 16, 17, 18, 19, 20, 21, 22, 23, 24, 25, 26] (by decide +kernel) (by decide +kernel)
set_option maxRecDepth 20000 in
theorem gX6_counts_X6_billed : GoodIn wsX6_counts (wsV RX6 140 RX6 yX6_billed wsX6_billed) := goodIn_app (goodIn_of _ (by decide +kernel)) ggX6_counts_X6_billed
theorem dX6_counts_0 : decode cX6_counts 0 = .ok (.aload_n 0, 1) := by decide +kernel
theorem dX6_counts_1 : decode cX6_counts 1 = .ok (.iload_n 1, 1) := by decide +kernel
theorem dX6_counts_2 : decode cX6_counts 2 = .ok (.iconst 0, 1) := by decide +kernel
theorem dX6_counts_3 : decode cX6_counts 3 = .ok (.invokevirtual 140, 3) := by decide +kernel
theorem dX6_counts_6 : decode cX6_counts 6 = .ok (.iload_n 2, 1) := by decide +kernel
theorem dX6_counts_7 : decode cX6_counts 7 = .ok (.if_icmp .ne 25, 3) := by decide +kernel
theorem dX6_counts_10 : decode cX6_counts 10 = .ok (.aload_n 0, 1) := by decide +kernel
theorem dX6_counts_11 : decode cX6_counts 11 = .ok (.iload_n 1, 1) := by decide +kernel
theorem dX6_counts_12 : decode cX6_counts 12 = .ok (.iconst 2, 1) := by decide +kernel
theorem dX6_counts_13 : decode cX6_counts 13 = .ok (.invokevirtual 140, 3) := by decide +kernel
theorem dX6_counts_16 : decode cX6_counts 16 = .ok (.ifCond .le 16, 3) := by decide +kernel
theorem dX6_counts_19 : decode cX6_counts 19 = .ok (.aload_n 0, 1) := by decide +kernel
theorem dX6_counts_20 : decode cX6_counts 20 = .ok (.iload_n 1, 1) := by decide +kernel
theorem dX6_counts_21 : decode cX6_counts 21 = .ok (.iconst 5, 1) := by decide +kernel
theorem dX6_counts_22 : decode cX6_counts 22 = .ok (.invokevirtual 140, 3) := by decide +kernel
theorem dX6_counts_25 : decode cX6_counts 25 = .ok (.ifCond .ne 7, 3) := by decide +kernel
theorem dX6_counts_28 : decode cX6_counts 28 = .ok (.iconst 1, 1) := by decide +kernel
theorem dX6_counts_29 : decode cX6_counts 29 = .ok (.goto 4, 3) := by decide +kernel
theorem dX6_counts_32 : decode cX6_counts 32 = .ok (.iconst 0, 1) := by decide +kernel
theorem dX6_counts_33 : decode cX6_counts 33 = .ok (.ireturn, 1) := by decide +kernel
set_option maxRecDepth 20000 in
theorem ggX6_debt_X6_counts : GoodIn wsX6_debt wsX6_counts := goodIn_r _ [6, 7, 8, 9, 5, 10, 1, 11, 12, 13, 14, 15, 16, 17, 18, 19, 20, 21, 22, 23, 24, 25, 26, 27, 28, 29, 30] (by decide +kernel) (by decide +kernel)
set_option maxRecDepth 20000 in
theorem gX6_debt_X6_counts : GoodIn wsX6_debt (wsV RX6 144 RX6 yX6_counts wsX6_counts) := goodIn_app (goodIn_of _ (by decide +kernel)) ggX6_debt_X6_counts
set_option maxRecDepth 20000 in
theorem ggX6_debt_X6_billed : GoodIn wsX6_debt wsX6_billed := goodIn_r _ [10, 1, 11, 12, 13, 14, 15, 16, 17, 18, 19, 20, 21, 22, 23, 24, 25, 26, 27, 28, 29, 30] (by decide +kernel) (by decide +kernel)
set_option maxRecDepth 20000 in
theorem gX6_debt_X6_billed : GoodIn wsX6_debt (wsV RX6 140 RX6 yX6_billed wsX6_billed) := goodIn_app (goodIn_of _ (by decide +kernel)) ggX6_debt_X6_billed
theorem dX6_debt_0 : decode cX6_debt 0 = .ok (.iconst 0, 1) := by decide +kernel
theorem dX6_debt_1 : decode cX6_debt 1 = .ok (.istore_n 2, 1) := by decide +kernel
theorem dX6_debt_2 : decode cX6_debt 2 = .ok (.iconst 0, 1) := by decide +kernel
theorem dX6_debt_3 : decode cX6_debt 3 = .ok (.istore_n 3, 1) := by decide +kernel
theorem dX6_debt_4 : decode cX6_debt 4 = .ok (.iload_n 3, 1) := by decide +kernel
theorem dX6_debt_5 : decode cX6_debt 5 = .ok (.aload_n 0, 1) := by decide +kernel
theorem dX6_debt_6 : decode cX6_debt 6 = .ok (.getfield 70, 3) := by decide +kernel
theorem dX6_debt_9 : decode cX6_debt 9 = .ok (.iconst 4, 1) := by decide +kernel
theorem dX6_debt_10 : decode cX6_debt 10 = .ok (.iaload, 1) := by decide +kernel
theorem dX6_debt_11 : decode cX6_debt 11 = .ok (.if_icmp .ge 27, 3) := by decide +kernel
theorem dX6_debt_14 : decode cX6_debt 14 = .ok (.aload_n 0, 1) := by decide +kernel
theorem dX6_debt_15 : decode cX6_debt 15 = .ok (.iload_n 3, 1) := by decide +kernel
theorem dX6_debt_16 : decode cX6_debt 16 = .ok (.iload_n 1, 1) := by decide +kernel
theorem dX6_debt_17 : decode cX6_debt 17 = .ok (.invokevirtual 144, 3) := by decide +kernel
theorem dX6_debt_20 : decode cX6_debt 20 = .ok (.ifCond .eq 12, 3) := by decide +kernel
theorem dX6_debt_23 : decode cX6_debt 23 = .ok (.iload_n 2, 1) := by decide +kernel
theorem dX6_debt_24 : decode cX6_debt 24 = .ok (.aload_n 0, 1) := by decide +kernel
theorem dX6_debt_25 : decode cX6_debt 25 = .ok (.iload_n 3, 1) := by decide +kernel
theorem dX6_debt_26 : decode cX6_debt 26 = .ok (.iconst 2, 1) := by decide +kernel
theorem dX6_debt_27 : decode cX6_debt 27 = .ok (.invokevirtual 140, 3) := by decide +kernel
theorem dX6_debt_30 : decode cX6_debt 30 = .ok (.iadd, 1) := by decide +kernel
theorem dX6_debt_31 : decode cX6_debt 31 = .ok (.istore_n 2, 1) := by decide +kernel
theorem dX6_debt_32 : decode cX6_debt 32 = .ok (.iinc 3 1, 3) := by decide +kernel
theorem dX6_debt_35 : decode cX6_debt 35 = .ok (.goto (-31), 3) := by decide +kernel
theorem dX6_debt_38 : decode cX6_debt 38 = .ok (.iload_n 2, 1) := by decide +kernel
theorem dX6_debt_39 : decode cX6_debt 39 = .ok (.ireturn, 1) := by decide +kernel
set_option maxRecDepth 20000 in
theorem ggX6_eldest_X6_counts : GoodIn wsX6_eldest wsX6_counts := goodIn_r _ [6, 7, 8, 9, 5, 10, 1, 11, 12, 13, 14, 15, 16, 17, 18, 19, 20, 21, 22, 23, 24, 25, 26, 27, 28, 29, 30] (by decide +kernel) (by decide +kernel)
set_option maxRecDepth 20000 in
theorem gX6_eldest_X6_counts : GoodIn wsX6_eldest (wsV RX6 144 RX6 yX6_counts wsX6_counts) := goodIn_app (goodIn_of _ (by decide +kernel)) ggX6_eldest_X6_counts
set_option maxRecDepth 20000 in
theorem ggX6_eldest_X6_billed : GoodIn wsX6_eldest wsX6_billed := goodIn_r _ [10, 1, 11, 12, 13, 14, 15, 16, 17, 18, 19, 20, 21, 22, 23, 24, 25, 26, 27, 28, 29, 30] (by decide +kernel) (by decide +kernel)
set_option maxRecDepth 20000 in
theorem gX6_eldest_X6_billed : GoodIn wsX6_eldest (wsV RX6 140 RX6 yX6_billed wsX6_billed) := goodIn_app (goodIn_of _ (by decide +kernel)) ggX6_eldest_X6_billed
theorem dX6_eldest_0 : decode cX6_eldest 0 = .ok (.iconst 0, 1) := by decide +kernel
theorem dX6_eldest_1 : decode cX6_eldest 1 = .ok (.istore_n 2, 1) := by decide +kernel
theorem dX6_eldest_2 : decode cX6_eldest 2 = .ok (.iconst 0, 1) := by decide +kernel
theorem dX6_eldest_3 : decode cX6_eldest 3 = .ok (.istore_n 3, 1) := by decide +kernel
theorem dX6_eldest_4 : decode cX6_eldest 4 = .ok (.iload_n 3, 1) := by decide +kernel
theorem dX6_eldest_5 : decode cX6_eldest 5 = .ok (.aload_n 0, 1) := by decide +kernel
theorem dX6_eldest_6 : decode cX6_eldest 6 = .ok (.getfield 70, 3) := by decide +kernel
theorem dX6_eldest_9 : decode cX6_eldest 9 = .ok (.iconst 4, 1) := by decide +kernel
theorem dX6_eldest_10 : decode cX6_eldest 10 = .ok (.iaload, 1) := by decide +kernel
theorem dX6_eldest_11 : decode cX6_eldest 11 = .ok (.if_icmp .ge 35, 3) := by decide +kernel
theorem dX6_eldest_14 : decode cX6_eldest 14 = .ok (.aload_n 0, 1) := by decide +kernel
theorem dX6_eldest_15 : decode cX6_eldest 15 = .ok (.iload_n 3, 1) := by decide +kernel
theorem dX6_eldest_16 : decode cX6_eldest 16 = .ok (.iload_n 1, 1) := by decide +kernel
theorem dX6_eldest_17 : decode cX6_eldest 17 = .ok (.invokevirtual 144, 3) := by decide +kernel
theorem dX6_eldest_20 : decode cX6_eldest 20 = .ok (.ifCond .eq 20, 3) := by decide +kernel
theorem dX6_eldest_23 : decode cX6_eldest 23 = .ok (.aload_n 0, 1) := by decide +kernel
theorem dX6_eldest_24 : decode cX6_eldest 24 = .ok (.iload_n 3, 1) := by decide +kernel
theorem dX6_eldest_25 : decode cX6_eldest 25 = .ok (.iconst 4, 1) := by decide +kernel
theorem dX6_eldest_26 : decode cX6_eldest 26 = .ok (.invokevirtual 140, 3) := by decide +kernel
theorem dX6_eldest_29 : decode cX6_eldest 29 = .ok (.iload_n 2, 1) := by decide +kernel
theorem dX6_eldest_30 : decode cX6_eldest 30 = .ok (.if_icmp .le 10, 3) := by decide +kernel
theorem dX6_eldest_33 : decode cX6_eldest 33 = .ok (.aload_n 0, 1) := by decide +kernel
theorem dX6_eldest_34 : decode cX6_eldest 34 = .ok (.iload_n 3, 1) := by decide +kernel
theorem dX6_eldest_35 : decode cX6_eldest 35 = .ok (.iconst 4, 1) := by decide +kernel
theorem dX6_eldest_36 : decode cX6_eldest 36 = .ok (.invokevirtual 140, 3) := by decide +kernel
theorem dX6_eldest_39 : decode cX6_eldest 39 = .ok (.istore_n 2, 1) := by decide +kernel
theorem dX6_eldest_40 : decode cX6_eldest 40 = .ok (.iinc 3 1, 3) := by decide +kernel
theorem dX6_eldest_43 : decode cX6_eldest 43 = .ok (.goto (-39), 3) := by decide +kernel
theorem dX6_eldest_46 : decode cX6_eldest 46 = .ok (.iload_n 2, 1) := by decide +kernel
theorem dX6_eldest_47 : decode cX6_eldest 47 = .ok (.ireturn, 1) := by decide +kernel
set_option maxRecDepth 20000 in
theorem ggX6_isAtCourt_X6_its : GoodIn wsX6_isAtCourt wsX6_its := goodIn_r _ [6, 1, 7, 8, 9, 10, 11, 12, 13, 14, 15, 16, 17, 18, 19, 20, 21, 22, 23, 24, 25, 26] (by decide +kernel) (by decide +kernel)
set_option maxRecDepth 20000 in
theorem gX6_isAtCourt_X6_its : GoodIn wsX6_isAtCourt (wsV RX6 148 RX6 yX6_its wsX6_its) := goodIn_app (goodIn_of _ (by decide +kernel)) ggX6_isAtCourt_X6_its
theorem dX6_isAtCourt_0 : decode cX6_isAtCourt 0 = .ok (.aload_n 0, 1) := by decide +kernel
theorem dX6_isAtCourt_1 : decode cX6_isAtCourt 1 = .ok (.getfield 70, 3) := by decide +kernel
theorem dX6_isAtCourt_4 : decode cX6_isAtCourt 4 = .ok (.iconst 2, 1) := by decide +kernel
theorem dX6_isAtCourt_5 : decode cX6_isAtCourt 5 = .ok (.iaload, 1) := by decide +kernel
theorem dX6_isAtCourt_6 : decode cX6_isAtCourt 6 = .ok (.ifCond .le 22, 3) := by decide +kernel
theorem dX6_isAtCourt_9 : decode cX6_isAtCourt 9 = .ok (.aload_n 0, 1) := by decide +kernel
theorem dX6_isAtCourt_10 : decode cX6_isAtCourt 10 = .ok (.iload_n 1, 1) := by decide +kernel
theorem dX6_isAtCourt_11 : decode cX6_isAtCourt 11 = .ok (.iconst 3, 1) := by decide +kernel
theorem dX6_isAtCourt_12 : decode cX6_isAtCourt 12 = .ok (.invokevirtual 148, 3) := by decide +kernel
theorem dX6_isAtCourt_15 : decode cX6_isAtCourt 15 = .ok (.aload_n 0, 1) := by decide +kernel
theorem dX6_isAtCourt_16 : decode cX6_isAtCourt 16 = .ok (.getfield 70, 3) := by decide +kernel
theorem dX6_isAtCourt_19 : decode cX6_isAtCourt 19 = .ok (.iconst 2, 1) := by decide +kernel
theorem dX6_isAtCourt_20 : decode cX6_isAtCourt 20 = .ok (.iaload, 1) := by decide +kernel
theorem dX6_isAtCourt_21 : decode cX6_isAtCourt 21 = .ok (.if_icmp .ne 7, 3) := by decide +kernel
theorem dX6_isAtCourt_24 : decode cX6_isAtCourt 24 = .ok (.iconst 1, 1) := by decide +kernel
theorem dX6_isAtCourt_25 : decode cX6_isAtCourt 25 = .ok (.goto 4, 3) := by decide +kernel
theorem dX6_isAtCourt_28 : decode cX6_isAtCourt 28 = .ok (.iconst 0, 1) := by decide +kernel
theorem dX6_isAtCourt_29 : decode cX6_isAtCourt 29 = .ok (.ireturn, 1) := by decide +kernel
set_option maxRecDepth 20000 in
theorem ggX6_isStopped_X6_its : GoodIn wsX6_isStopped wsX6_its := goodIn_r _ [5, 6, 7, 8, 9, 10, 11, 12, 13, 14, 15, 16, 17, 18, 19, 20, 21, 22, 23, 24, 25, 26] (by decide +kernel) (by decide +kernel)
set_option maxRecDepth 20000 in
theorem gX6_isStopped_X6_its : GoodIn wsX6_isStopped (wsV RX6 148 RX6 yX6_its wsX6_its) := goodIn_app (goodIn_of _ (by decide +kernel)) ggX6_isStopped_X6_its
theorem dX6_isStopped_0 : decode cX6_isStopped 0 = .ok (.aload_n 0, 1) := by decide +kernel
theorem dX6_isStopped_1 : decode cX6_isStopped 1 = .ok (.iload_n 1, 1) := by decide +kernel
theorem dX6_isStopped_2 : decode cX6_isStopped 2 = .ok (.iconst 5, 1) := by decide +kernel
theorem dX6_isStopped_3 : decode cX6_isStopped 3 = .ok (.invokevirtual 148, 3) := by decide +kernel
theorem dX6_isStopped_6 : decode cX6_isStopped 6 = .ok (.ifCond .gt 13, 3) := by decide +kernel
theorem dX6_isStopped_9 : decode cX6_isStopped 9 = .ok (.aload_n 0, 1) := by decide +kernel
theorem dX6_isStopped_10 : decode cX6_isStopped 10 = .ok (.iload_n 1, 1) := by decide +kernel
theorem dX6_isStopped_11 : decode cX6_isStopped 11 = .ok (.bipush 9, 2) := by decide +kernel
theorem dX6_isStopped_13 : decode cX6_isStopped 13 = .ok (.invokevirtual 148, 3) := by decide +kernel
theorem dX6_isStopped_16 : decode cX6_isStopped 16 = .ok (.ifCond .le 7, 3) := by decide +kernel
theorem dX6_isStopped_19 : decode cX6_isStopped 19 = .ok (.iconst 1, 1) := by decide +kernel
theorem dX6_isStopped_20 : decode cX6_isStopped 20 = .ok (.goto 4, 3) := by decide +kernel
theorem dX6_isStopped_23 : decode cX6_isStopped 23 = .ok (.iconst 0, 1) := by decide +kernel
theorem dX6_isStopped_24 : decode cX6_isStopped 24 = .ok (.ireturn, 1) := by decide +kernel
set_option maxRecDepth 20000 in
theorem ggX6_risk_X6_owes : GoodIn wsX6_risk wsX6_owes := goodIn_r _ [6, 1, 7, 8, 9, 5, 10, 19, 20, 21, 22, 23, 24, 25, 26, 27, 28, 29, 30, 31, 32, 33, 34, 35, 36, 37, 38] (by decide +kernel) (by decide +kernel)
set_option maxRecDepth 20000 in
theorem gX6_risk_X6_owes : GoodIn wsX6_risk (wsV RX6 151 RX6 yX6_owes wsX6_owes) := goodIn_app (goodIn_of _ (by decide +kernel)) ggX6_risk_X6_owes
set_option maxRecDepth 20000 in
theorem ggX6_risk_X6_its : GoodIn wsX6_risk wsX6_its := goodIn_r _ [14, 1, 19, 20, 21, 22, 23, 24, 25, 26, 27, 28, 29, 30, 31, 32, 33, 34, 35, 36, 37, 38] (by decide +kernel) (by decide +kernel)
set_option maxRecDepth 20000 in
theorem gX6_risk_X6_its : GoodIn wsX6_risk (wsV RX6 148 RX6 yX6_its wsX6_its) := goodIn_app (goodIn_of _ (by decide +kernel)) ggX6_risk_X6_its
set_option maxRecDepth 20000 in
theorem ggX6_risk_X6_ordered : GoodIn wsX6_risk wsX6_ordered := goodIn_r _ [18, 1, 19, 20, 21, 22, 23, 24, 25, 26, 27, 28, 29, 30, 31, 32, 33, 34, 35, 36, 37, 38] (by decide +kernel) (by decide +kernel)
set_option maxRecDepth 20000 in
theorem gX6_risk_X6_ordered : GoodIn wsX6_risk (wsV RX6 154 RX6 yX6_ordered wsX6_ordered) := goodIn_app (goodIn_of _ (by decide +kernel)) ggX6_risk_X6_ordered
theorem dX6_risk_0 : decode cX6_risk 0 = .ok (.aload_n 0, 1) := by decide +kernel
theorem dX6_risk_1 : decode cX6_risk 1 = .ok (.iload_n 1, 1) := by decide +kernel
theorem dX6_risk_2 : decode cX6_risk 2 = .ok (.invokevirtual 151, 3) := by decide +kernel
theorem dX6_risk_5 : decode cX6_risk 5 = .ok (.aload_n 0, 1) := by decide +kernel
theorem dX6_risk_6 : decode cX6_risk 6 = .ok (.iload_n 1, 1) := by decide +kernel
theorem dX6_risk_7 : decode cX6_risk 7 = .ok (.iconst 2, 1) := by decide +kernel
theorem dX6_risk_8 : decode cX6_risk 8 = .ok (.invokevirtual 148, 3) := by decide +kernel
theorem dX6_risk_11 : decode cX6_risk 11 = .ok (.isub, 1) := by decide +kernel
theorem dX6_risk_12 : decode cX6_risk 12 = .ok (.istore_n 2, 1) := by decide +kernel
theorem dX6_risk_13 : decode cX6_risk 13 = .ok (.iconst 0, 1) := by decide +kernel
theorem dX6_risk_14 : decode cX6_risk 14 = .ok (.istore_n 3, 1) := by decide +kernel
theorem dX6_risk_15 : decode cX6_risk 15 = .ok (.iload_n 3, 1) := by decide +kernel
theorem dX6_risk_16 : decode cX6_risk 16 = .ok (.aload_n 0, 1) := by decide +kernel
theorem dX6_risk_17 : decode cX6_risk 17 = .ok (.getfield 70, 3) := by decide +kernel
theorem dX6_risk_20 : decode cX6_risk 20 = .ok (.iconst 5, 1) := by decide +kernel
theorem dX6_risk_21 : decode cX6_risk 21 = .ok (.iaload, 1) := by decide +kernel
theorem dX6_risk_22 : decode cX6_risk 22 = .ok (.if_icmp .ge 38, 3) := by decide +kernel
theorem dX6_risk_25 : decode cX6_risk 25 = .ok (.aload_n 0, 1) := by decide +kernel
theorem dX6_risk_26 : decode cX6_risk 26 = .ok (.iload_n 3, 1) := by decide +kernel
theorem dX6_risk_27 : decode cX6_risk 27 = .ok (.iconst 0, 1) := by decide +kernel
theorem dX6_risk_28 : decode cX6_risk 28 = .ok (.invokevirtual 154, 3) := by decide +kernel
theorem dX6_risk_31 : decode cX6_risk 31 = .ok (.iload_n 1, 1) := by decide +kernel
theorem dX6_risk_32 : decode cX6_risk 32 = .ok (.if_icmp .ne 22, 3) := by decide +kernel
theorem dX6_risk_35 : decode cX6_risk 35 = .ok (.aload_n 0, 1) := by decide +kernel
theorem dX6_risk_36 : decode cX6_risk 36 = .ok (.iload_n 3, 1) := by decide +kernel
theorem dX6_risk_37 : decode cX6_risk 37 = .ok (.iconst 2, 1) := by decide +kernel
theorem dX6_risk_38 : decode cX6_risk 38 = .ok (.invokevirtual 154, 3) := by decide +kernel
theorem dX6_risk_41 : decode cX6_risk 41 = .ok (.iconst 1, 1) := by decide +kernel
theorem dX6_risk_42 : decode cX6_risk 42 = .ok (.if_icmp .ne 12, 3) := by decide +kernel
theorem dX6_risk_45 : decode cX6_risk 45 = .ok (.iload_n 2, 1) := by decide +kernel
theorem dX6_risk_46 : decode cX6_risk 46 = .ok (.aload_n 0, 1) := by decide +kernel
theorem dX6_risk_47 : decode cX6_risk 47 = .ok (.iload_n 3, 1) := by decide +kernel
theorem dX6_risk_48 : decode cX6_risk 48 = .ok (.iconst 1, 1) := by decide +kernel
theorem dX6_risk_49 : decode cX6_risk 49 = .ok (.invokevirtual 154, 3) := by decide +kernel
theorem dX6_risk_52 : decode cX6_risk 52 = .ok (.iadd, 1) := by decide +kernel
theorem dX6_risk_53 : decode cX6_risk 53 = .ok (.istore_n 2, 1) := by decide +kernel
theorem dX6_risk_54 : decode cX6_risk 54 = .ok (.iinc 3 1, 3) := by decide +kernel
theorem dX6_risk_57 : decode cX6_risk 57 = .ok (.goto (-42), 3) := by decide +kernel
theorem dX6_risk_60 : decode cX6_risk 60 = .ok (.iload_n 2, 1) := by decide +kernel
theorem dX6_risk_61 : decode cX6_risk 61 = .ok (.ireturn, 1) := by decide +kernel
set_option maxRecDepth 20000 in
theorem ggX6_places_X6_its : GoodIn wsX6_places wsX6_its := goodIn_r _ [6, 1, 19, 20, 21, 22, 23, 24, 25, 26, 27, 28, 29, 30, 31, 32, 33, 34, 35, 36, 37, 38] (by decide +kernel) (by decide +kernel)
set_option maxRecDepth 20000 in
theorem gX6_places_X6_its : GoodIn wsX6_places (wsV RX6 148 RX6 yX6_its wsX6_its) := goodIn_app (goodIn_of _ (by decide +kernel)) ggX6_places_X6_its
set_option maxRecDepth 20000 in
theorem ggX6_places_X6_counts : GoodIn wsX6_places wsX6_counts := goodIn_r _ [10, 11, 12, 13, 5, 14, 1, 19, 20, 21, 22, 23, 24, 25, 26, 27, 28, 29, 30, 31, 32, 33, 34, 35, 36, 37, 38] (by decide +kernel) (by decide +kernel)
set_option maxRecDepth 20000 in
theorem gX6_places_X6_counts : GoodIn wsX6_places (wsV RX6 144 RX6 yX6_counts wsX6_counts) := goodIn_app (goodIn_of _ (by decide +kernel)) ggX6_places_X6_counts
set_option maxRecDepth 20000 in
theorem ggX6_places_X6_billed : GoodIn wsX6_places wsX6_billed := goodIn_r _ [14, 1, 19, 20, 21, 22, 23, 24, 25, 26, 27, 28, 29, 30, 31, 32, 33, 34, 35, 36, 37, 38] (by decide +kernel) (by decide +kernel)
set_option maxRecDepth 20000 in
theorem gX6_places_X6_billed : GoodIn wsX6_places (wsV RX6 140 RX6 yX6_billed wsX6_billed) := goodIn_app (goodIn_of _ (by decide +kernel)) ggX6_places_X6_billed
set_option maxRecDepth 20000 in
theorem ggX6_places_X6_puts : GoodIn wsX6_places wsX6_puts := goodIn_r _ [18, 1, 19, 20, 21, 22, 23, 24, 25, 26, 27, 28, 29, 30, 31, 32, 33, 34, 35, 36, 37, 38] (by decide +kernel) (by decide +kernel)
set_option maxRecDepth 20000 in
theorem gX6_places_X6_puts : GoodIn wsX6_places (wsV RX6 157 RX6 yX6_puts wsX6_puts) := goodIn_app (goodIn_of _ (by decide +kernel)) ggX6_places_X6_puts
theorem dX6_places_0 : decode cX6_places 0 = .ok (.iconst 0, 1) := by decide +kernel
theorem dX6_places_1 : decode cX6_places 1 = .ok (.istore_n 2, 1) := by decide +kernel
theorem dX6_places_2 : decode cX6_places 2 = .ok (.aload_n 0, 1) := by decide +kernel
theorem dX6_places_3 : decode cX6_places 3 = .ok (.iload_n 1, 1) := by decide +kernel
theorem dX6_places_4 : decode cX6_places 4 = .ok (.iconst 2, 1) := by decide +kernel
theorem dX6_places_5 : decode cX6_places 5 = .ok (.invokevirtual 148, 3) := by decide +kernel
theorem dX6_places_8 : decode cX6_places 8 = .ok (.ifCond .le 132, 3) := by decide +kernel
theorem dX6_places_11 : decode cX6_places 11 = .ok (.iload_n 2, 1) := by decide +kernel
theorem dX6_places_12 : decode cX6_places 12 = .ok (.iconst (-1), 1) := by decide +kernel
theorem dX6_places_13 : decode cX6_places 13 = .ok (.if_icmp .eq 127, 3) := by decide +kernel
theorem dX6_places_16 : decode cX6_places 16 = .ok (.iconst (-1), 1) := by decide +kernel
theorem dX6_places_17 : decode cX6_places 17 = .ok (.istore_n 2, 1) := by decide +kernel
theorem dX6_places_18 : decode cX6_places 18 = .ok (.iconst 0, 1) := by decide +kernel
theorem dX6_places_19 : decode cX6_places 19 = .ok (.istore_n 3, 1) := by decide +kernel
theorem dX6_places_20 : decode cX6_places 20 = .ok (.iload_n 3, 1) := by decide +kernel
theorem dX6_places_21 : decode cX6_places 21 = .ok (.aload_n 0, 1) := by decide +kernel
theorem dX6_places_22 : decode cX6_places 22 = .ok (.getfield 70, 3) := by decide +kernel
theorem dX6_places_25 : decode cX6_places 25 = .ok (.iconst 4, 1) := by decide +kernel
theorem dX6_places_26 : decode cX6_places 26 = .ok (.iaload, 1) := by decide +kernel
theorem dX6_places_27 : decode cX6_places 27 = .ok (.if_icmp .ge 40, 3) := by decide +kernel
theorem dX6_places_30 : decode cX6_places 30 = .ok (.aload_n 0, 1) := by decide +kernel
theorem dX6_places_31 : decode cX6_places 31 = .ok (.iload_n 3, 1) := by decide +kernel
theorem dX6_places_32 : decode cX6_places 32 = .ok (.iload_n 1, 1) := by decide +kernel
theorem dX6_places_33 : decode cX6_places 33 = .ok (.invokevirtual 144, 3) := by decide +kernel
theorem dX6_places_36 : decode cX6_places 36 = .ok (.ifCond .eq 25, 3) := by decide +kernel
theorem dX6_places_39 : decode cX6_places 39 = .ok (.iload_n 2, 1) := by decide +kernel
theorem dX6_places_40 : decode cX6_places 40 = .ok (.iconst (-1), 1) := by decide +kernel
theorem dX6_places_41 : decode cX6_places 41 = .ok (.if_icmp .eq 18, 3) := by decide +kernel
theorem dX6_places_44 : decode cX6_places 44 = .ok (.aload_n 0, 1) := by decide +kernel
theorem dX6_places_45 : decode cX6_places 45 = .ok (.iload_n 3, 1) := by decide +kernel
theorem dX6_places_46 : decode cX6_places 46 = .ok (.iconst 3, 1) := by decide +kernel
theorem dX6_places_47 : decode cX6_places 47 = .ok (.invokevirtual 140, 3) := by decide +kernel
theorem dX6_places_50 : decode cX6_places 50 = .ok (.aload_n 0, 1) := by decide +kernel
theorem dX6_places_51 : decode cX6_places 51 = .ok (.iload_n 2, 1) := by decide +kernel
theorem dX6_places_52 : decode cX6_places 52 = .ok (.iconst 3, 1) := by decide +kernel
theorem dX6_places_53 : decode cX6_places 53 = .ok (.invokevirtual 140, 3) := by decide +kernel
theorem dX6_places_56 : decode cX6_places 56 = .ok (.if_icmp .ge 5, 3) := by decide +kernel
theorem dX6_places_59 : decode cX6_places 59 = .ok (.iload_n 3, 1) := by decide +kernel
theorem dX6_places_60 : decode cX6_places 60 = .ok (.istore_n 2, 1) := by decide +kernel
theorem dX6_places_61 : decode cX6_places 61 = .ok (.iinc 3 1, 3) := by decide +kernel
theorem dX6_places_64 : decode cX6_places 64 = .ok (.goto (-44), 3) := by decide +kernel
theorem dX6_places_67 : decode cX6_places 67 = .ok (.iload_n 2, 1) := by decide +kernel
theorem dX6_places_68 : decode cX6_places 68 = .ok (.iconst (-1), 1) := by decide +kernel
theorem dX6_places_69 : decode cX6_places 69 = .ok (.if_icmp .ne 4, 3) := by decide +kernel
theorem dX6_places_72 : decode cX6_places 72 = .ok (.return_, 1) := by decide +kernel
theorem dX6_places_73 : decode cX6_places 73 = .ok (.aload_n 0, 1) := by decide +kernel
theorem dX6_places_74 : decode cX6_places 74 = .ok (.iload_n 1, 1) := by decide +kernel
theorem dX6_places_75 : decode cX6_places 75 = .ok (.iconst 2, 1) := by decide +kernel
theorem dX6_places_76 : decode cX6_places 76 = .ok (.invokevirtual 148, 3) := by decide +kernel
theorem dX6_places_79 : decode cX6_places 79 = .ok (.aload_n 0, 1) := by decide +kernel
theorem dX6_places_80 : decode cX6_places 80 = .ok (.iload_n 2, 1) := by decide +kernel
theorem dX6_places_81 : decode cX6_places 81 = .ok (.iconst 2, 1) := by decide +kernel
theorem dX6_places_82 : decode cX6_places 82 = .ok (.invokevirtual 140, 3) := by decide +kernel
theorem dX6_places_85 : decode cX6_places 85 = .ok (.if_icmp .ge 12, 3) := by decide +kernel
theorem dX6_places_88 : decode cX6_places 88 = .ok (.aload_n 0, 1) := by decide +kernel
theorem dX6_places_89 : decode cX6_places 89 = .ok (.iload_n 1, 1) := by decide +kernel
theorem dX6_places_90 : decode cX6_places 90 = .ok (.iconst 2, 1) := by decide +kernel
theorem dX6_places_91 : decode cX6_places 91 = .ok (.invokevirtual 148, 3) := by decide +kernel
theorem dX6_places_94 : decode cX6_places 94 = .ok (.goto 9, 3) := by decide +kernel
theorem dX6_places_97 : decode cX6_places 97 = .ok (.aload_n 0, 1) := by decide +kernel
theorem dX6_places_98 : decode cX6_places 98 = .ok (.iload_n 2, 1) := by decide +kernel
theorem dX6_places_99 : decode cX6_places 99 = .ok (.iconst 2, 1) := by decide +kernel
theorem dX6_places_100 : decode cX6_places 100 = .ok (.invokevirtual 140, 3) := by decide +kernel
theorem dX6_places_103 : decode cX6_places 103 = .ok (.istore_n 3, 1) := by decide +kernel
theorem dX6_places_104 : decode cX6_places 104 = .ok (.aload_n 0, 1) := by decide +kernel
theorem dX6_places_105 : decode cX6_places 105 = .ok (.iload_n 1, 1) := by decide +kernel
theorem dX6_places_106 : decode cX6_places 106 = .ok (.iconst 2, 1) := by decide +kernel
theorem dX6_places_107 : decode cX6_places 107 = .ok (.aload_n 0, 1) := by decide +kernel
theorem dX6_places_108 : decode cX6_places 108 = .ok (.iload_n 1, 1) := by decide +kernel
theorem dX6_places_109 : decode cX6_places 109 = .ok (.iconst 2, 1) := by decide +kernel
theorem dX6_places_110 : decode cX6_places 110 = .ok (.invokevirtual 148, 3) := by decide +kernel
theorem dX6_places_113 : decode cX6_places 113 = .ok (.iload_n 3, 1) := by decide +kernel
theorem dX6_places_114 : decode cX6_places 114 = .ok (.isub, 1) := by decide +kernel
theorem dX6_places_115 : decode cX6_places 115 = .ok (.invokevirtual 157, 3) := by decide +kernel
theorem dX6_places_118 : decode cX6_places 118 = .ok (.aload_n 0, 1) := by decide +kernel
theorem dX6_places_119 : decode cX6_places 119 = .ok (.getfield 70, 3) := by decide +kernel
theorem dX6_places_122 : decode cX6_places 122 = .ok (.sipush 205, 3) := by decide +kernel
theorem dX6_places_125 : decode cX6_places 125 = .ok (.bipush 7, 2) := by decide +kernel
theorem dX6_places_127 : decode cX6_places 127 = .ok (.iload_n 2, 1) := by decide +kernel
theorem dX6_places_128 : decode cX6_places 128 = .ok (.imul, 1) := by decide +kernel
theorem dX6_places_129 : decode cX6_places 129 = .ok (.iadd, 1) := by decide +kernel
theorem dX6_places_130 : decode cX6_places 130 = .ok (.iconst 2, 1) := by decide +kernel
theorem dX6_places_131 : decode cX6_places 131 = .ok (.iadd, 1) := by decide +kernel
theorem dX6_places_132 : decode cX6_places 132 = .ok (.dup2, 1) := by decide +kernel
theorem dX6_places_133 : decode cX6_places 133 = .ok (.iaload, 1) := by decide +kernel
theorem dX6_places_134 : decode cX6_places 134 = .ok (.iload_n 3, 1) := by decide +kernel
theorem dX6_places_135 : decode cX6_places 135 = .ok (.isub, 1) := by decide +kernel
theorem dX6_places_136 : decode cX6_places 136 = .ok (.iastore, 1) := by decide +kernel
theorem dX6_places_137 : decode cX6_places 137 = .ok (.goto (-135), 3) := by decide +kernel
theorem dX6_places_140 : decode cX6_places 140 = .ok (.return_, 1) := by decide +kernel
set_option maxRecDepth 20000 in
theorem ggX6_releases_X6_ordered : GoodIn wsX6_releases wsX6_ordered := goodIn_r _ [6, 1, 23, 24, 25, 26, 27, 28, 29, 30, 31, 32, 33, 34, 35, 36, 37, 38, 39, 40, 41, 42] (by decide +kernel) (by decide +kernel)
set_option maxRecDepth 20000 in
theorem gX6_releases_X6_ordered : GoodIn wsX6_releases (wsV RX6 154 RX6 yX6_ordered wsX6_ordered) := goodIn_app (goodIn_of _ (by decide +kernel)) ggX6_releases_X6_ordered
set_option maxRecDepth 20000 in
theorem ggX6_releases_X6_its : GoodIn wsX6_releases wsX6_its := goodIn_r _ [10, 1, 23, 24, 25, 26, 27, 28, 29, 30, 31, 32, 33, 34, 35, 36, 37, 38, 39, 40, 41, 42] (by decide +kernel) (by decide +kernel)
set_option maxRecDepth 20000 in
theorem gX6_releases_X6_its : GoodIn wsX6_releases (wsV RX6 148 RX6 yX6_its wsX6_its) := goodIn_app (goodIn_of _ (by decide +kernel)) ggX6_releases_X6_its
set_option maxRecDepth 20000 in
theorem ggX6_releases_X6_risk : GoodIn wsX6_releases wsX6_risk := goodIn_r _ [14, 1, 15, 16, 17, 5, 18, 19, 20, 21, 22, 7, 8, 9, 10, 2, 3, 4, 6, 23, 24, 25, 26, 27, 28, 29, 30, 31, 32, 33, 34, 35, 36, 37, 38, 39, 40, 41, 42] (by decide +kernel) (by decide +kernel)
set_option maxRecDepth 20000 in
theorem gX6_releases_X6_risk : GoodIn wsX6_releases (wsV RX6 161 RX6 yX6_risk wsX6_risk) := goodIn_app (goodIn_of _ (by decide +kernel)) ggX6_releases_X6_risk
theorem dX6_releases_0 : decode cX6_releases 0 = .ok (.iconst 0, 1) := by decide +kernel
theorem dX6_releases_1 : decode cX6_releases 1 = .ok (.istore_n 2, 1) := by decide +kernel
theorem dX6_releases_2 : decode cX6_releases 2 = .ok (.iconst 0, 1) := by decide +kernel
theorem dX6_releases_3 : decode cX6_releases 3 = .ok (.istore_n 3, 1) := by decide +kernel
theorem dX6_releases_4 : decode cX6_releases 4 = .ok (.iload_n 3, 1) := by decide +kernel
theorem dX6_releases_5 : decode cX6_releases 5 = .ok (.aload_n 0, 1) := by decide +kernel
theorem dX6_releases_6 : decode cX6_releases 6 = .ok (.getfield 70, 3) := by decide +kernel
theorem dX6_releases_9 : decode cX6_releases 9 = .ok (.iconst 5, 1) := by decide +kernel
theorem dX6_releases_10 : decode cX6_releases 10 = .ok (.iaload, 1) := by decide +kernel
theorem dX6_releases_11 : decode cX6_releases 11 = .ok (.if_icmp .ge 87, 3) := by decide +kernel
theorem dX6_releases_14 : decode cX6_releases 14 = .ok (.aload_n 0, 1) := by decide +kernel
theorem dX6_releases_15 : decode cX6_releases 15 = .ok (.iload_n 3, 1) := by decide +kernel
theorem dX6_releases_16 : decode cX6_releases 16 = .ok (.iconst 0, 1) := by decide +kernel
theorem dX6_releases_17 : decode cX6_releases 17 = .ok (.invokevirtual 154, 3) := by decide +kernel
theorem dX6_releases_20 : decode cX6_releases 20 = .ok (.iload_n 1, 1) := by decide +kernel
theorem dX6_releases_21 : decode cX6_releases 21 = .ok (.if_icmp .ne 71, 3) := by decide +kernel
theorem dX6_releases_24 : decode cX6_releases 24 = .ok (.aload_n 0, 1) := by decide +kernel
theorem dX6_releases_25 : decode cX6_releases 25 = .ok (.iload_n 3, 1) := by decide +kernel
theorem dX6_releases_26 : decode cX6_releases 26 = .ok (.iconst 2, 1) := by decide +kernel
theorem dX6_releases_27 : decode cX6_releases 27 = .ok (.invokevirtual 154, 3) := by decide +kernel
theorem dX6_releases_30 : decode cX6_releases 30 = .ok (.ifCond .eq 6, 3) := by decide +kernel
theorem dX6_releases_33 : decode cX6_releases 33 = .ok (.goto 59, 3) := by decide +kernel
theorem dX6_releases_36 : decode cX6_releases 36 = .ok (.aload_n 0, 1) := by decide +kernel
theorem dX6_releases_37 : decode cX6_releases 37 = .ok (.iload_n 1, 1) := by decide +kernel
theorem dX6_releases_38 : decode cX6_releases 38 = .ok (.iconst 3, 1) := by decide +kernel
theorem dX6_releases_39 : decode cX6_releases 39 = .ok (.invokevirtual 148, 3) := by decide +kernel
theorem dX6_releases_42 : decode cX6_releases 42 = .ok (.aload_n 0, 1) := by decide +kernel
theorem dX6_releases_43 : decode cX6_releases 43 = .ok (.getfield 70, 3) := by decide +kernel
theorem dX6_releases_46 : decode cX6_releases 46 = .ok (.iconst 1, 1) := by decide +kernel
theorem dX6_releases_47 : decode cX6_releases 47 = .ok (.iaload, 1) := by decide +kernel
theorem dX6_releases_48 : decode cX6_releases 48 = .ok (.if_icmp .ge 24, 3) := by decide +kernel
theorem dX6_releases_51 : decode cX6_releases 51 = .ok (.aload_n 0, 1) := by decide +kernel
theorem dX6_releases_52 : decode cX6_releases 52 = .ok (.iload_n 1, 1) := by decide +kernel
theorem dX6_releases_53 : decode cX6_releases 53 = .ok (.invokevirtual 161, 3) := by decide +kernel
theorem dX6_releases_56 : decode cX6_releases 56 = .ok (.aload_n 0, 1) := by decide +kernel
theorem dX6_releases_57 : decode cX6_releases 57 = .ok (.iload_n 3, 1) := by decide +kernel
theorem dX6_releases_58 : decode cX6_releases 58 = .ok (.iconst 1, 1) := by decide +kernel
theorem dX6_releases_59 : decode cX6_releases 59 = .ok (.invokevirtual 154, 3) := by decide +kernel
theorem dX6_releases_62 : decode cX6_releases 62 = .ok (.iadd, 1) := by decide +kernel
theorem dX6_releases_63 : decode cX6_releases 63 = .ok (.aload_n 0, 1) := by decide +kernel
theorem dX6_releases_64 : decode cX6_releases 64 = .ok (.iload_n 1, 1) := by decide +kernel
theorem dX6_releases_65 : decode cX6_releases 65 = .ok (.iconst 0, 1) := by decide +kernel
theorem dX6_releases_66 : decode cX6_releases 66 = .ok (.invokevirtual 148, 3) := by decide +kernel
theorem dX6_releases_69 : decode cX6_releases 69 = .ok (.if_icmp .le 5, 3) := by decide +kernel
theorem dX6_releases_72 : decode cX6_releases 72 = .ok (.iload_n 2, 1) := by decide +kernel
theorem dX6_releases_73 : decode cX6_releases 73 = .ok (.ireturn, 1) := by decide +kernel
theorem dX6_releases_74 : decode cX6_releases 74 = .ok (.aload_n 0, 1) := by decide +kernel
theorem dX6_releases_75 : decode cX6_releases 75 = .ok (.getfield 70, 3) := by decide +kernel
theorem dX6_releases_78 : decode cX6_releases 78 = .ok (.sipush 625, 3) := by decide +kernel
theorem dX6_releases_81 : decode cX6_releases 81 = .ok (.iconst 4, 1) := by decide +kernel
theorem dX6_releases_82 : decode cX6_releases 82 = .ok (.iload_n 3, 1) := by decide +kernel
theorem dX6_releases_83 : decode cX6_releases 83 = .ok (.imul, 1) := by decide +kernel
theorem dX6_releases_84 : decode cX6_releases 84 = .ok (.iadd, 1) := by decide +kernel
theorem dX6_releases_85 : decode cX6_releases 85 = .ok (.iconst 2, 1) := by decide +kernel
theorem dX6_releases_86 : decode cX6_releases 86 = .ok (.iadd, 1) := by decide +kernel
theorem dX6_releases_87 : decode cX6_releases 87 = .ok (.iconst 1, 1) := by decide +kernel
theorem dX6_releases_88 : decode cX6_releases 88 = .ok (.iastore, 1) := by decide +kernel
theorem dX6_releases_89 : decode cX6_releases 89 = .ok (.iinc 2 1, 3) := by decide +kernel
theorem dX6_releases_92 : decode cX6_releases 92 = .ok (.iinc 3 1, 3) := by decide +kernel
theorem dX6_releases_95 : decode cX6_releases 95 = .ok (.goto (-91), 3) := by decide +kernel
theorem dX6_releases_98 : decode cX6_releases 98 = .ok (.iload_n 2, 1) := by decide +kernel
theorem dX6_releases_99 : decode cX6_releases 99 = .ok (.ireturn, 1) := by decide +kernel
set_option maxRecDepth 20000 in
theorem ggX6_invoices_X6_places : GoodIn wsX6_invoices wsX6_places := goodIn_r _ [6, 1, 7, 8, 9, 5, 10, 11, 12, 13, 14, 15, 16, 17, 18, 19, 20, 21, 22, 23, 24, 25, 26, 27, 28, 29, 30, 31, 32, 33, 34, 35, 36, 37, 38, 39, 40, 41, 42] (by decide +kernel) (by decide +kernel)
set_option maxRecDepth 20000 in
theorem gX6_invoices_X6_places : GoodIn wsX6_invoices (wsV RX6 164 RX6 yX6_places wsX6_places) := goodIn_app (goodIn_of _ (by decide +kernel)) ggX6_invoices_X6_places
theorem dX6_invoices_0 : decode cX6_invoices 0 = .ok (.sipush 205, 3) := by decide +kernel
theorem dX6_invoices_3 : decode cX6_invoices 3 = .ok (.bipush 7, 2) := by decide +kernel
theorem dX6_invoices_5 : decode cX6_invoices 5 = .ok (.aload_n 0, 1) := by decide +kernel
theorem dX6_invoices_6 : decode cX6_invoices 6 = .ok (.getfield 70, 3) := by decide +kernel
theorem dX6_invoices_9 : decode cX6_invoices 9 = .ok (.iconst 4, 1) := by decide +kernel
theorem dX6_invoices_10 : decode cX6_invoices 10 = .ok (.iaload, 1) := by decide +kernel
theorem dX6_invoices_11 : decode cX6_invoices 11 = .ok (.imul, 1) := by decide +kernel
theorem dX6_invoices_12 : decode cX6_invoices 12 = .ok (.iadd, 1) := by decide +kernel
theorem dX6_invoices_13 : decode cX6_invoices 13 = .ok (.istore 5, 2) := by decide +kernel
theorem dX6_invoices_15 : decode cX6_invoices 15 = .ok (.aload_n 0, 1) := by decide +kernel
theorem dX6_invoices_16 : decode cX6_invoices 16 = .ok (.getfield 70, 3) := by decide +kernel
theorem dX6_invoices_19 : decode cX6_invoices 19 = .ok (.iload 5, 2) := by decide +kernel
theorem dX6_invoices_21 : decode cX6_invoices 21 = .ok (.iconst 0, 1) := by decide +kernel
theorem dX6_invoices_22 : decode cX6_invoices 22 = .ok (.iadd, 1) := by decide +kernel
theorem dX6_invoices_23 : decode cX6_invoices 23 = .ok (.iload_n 1, 1) := by decide +kernel
theorem dX6_invoices_24 : decode cX6_invoices 24 = .ok (.iastore, 1) := by decide +kernel
theorem dX6_invoices_25 : decode cX6_invoices 25 = .ok (.aload_n 0, 1) := by decide +kernel
theorem dX6_invoices_26 : decode cX6_invoices 26 = .ok (.getfield 70, 3) := by decide +kernel
theorem dX6_invoices_29 : decode cX6_invoices 29 = .ok (.iload 5, 2) := by decide +kernel
theorem dX6_invoices_31 : decode cX6_invoices 31 = .ok (.iconst 1, 1) := by decide +kernel
theorem dX6_invoices_32 : decode cX6_invoices 32 = .ok (.iadd, 1) := by decide +kernel
theorem dX6_invoices_33 : decode cX6_invoices 33 = .ok (.iload_n 2, 1) := by decide +kernel
theorem dX6_invoices_34 : decode cX6_invoices 34 = .ok (.iastore, 1) := by decide +kernel
theorem dX6_invoices_35 : decode cX6_invoices 35 = .ok (.aload_n 0, 1) := by decide +kernel
theorem dX6_invoices_36 : decode cX6_invoices 36 = .ok (.getfield 70, 3) := by decide +kernel
theorem dX6_invoices_39 : decode cX6_invoices 39 = .ok (.iload 5, 2) := by decide +kernel
theorem dX6_invoices_41 : decode cX6_invoices 41 = .ok (.iconst 2, 1) := by decide +kernel
theorem dX6_invoices_42 : decode cX6_invoices 42 = .ok (.iadd, 1) := by decide +kernel
theorem dX6_invoices_43 : decode cX6_invoices 43 = .ok (.iload_n 2, 1) := by decide +kernel
theorem dX6_invoices_44 : decode cX6_invoices 44 = .ok (.iastore, 1) := by decide +kernel
theorem dX6_invoices_45 : decode cX6_invoices 45 = .ok (.aload_n 0, 1) := by decide +kernel
theorem dX6_invoices_46 : decode cX6_invoices 46 = .ok (.getfield 70, 3) := by decide +kernel
theorem dX6_invoices_49 : decode cX6_invoices 49 = .ok (.iload 5, 2) := by decide +kernel
theorem dX6_invoices_51 : decode cX6_invoices 51 = .ok (.iconst 3, 1) := by decide +kernel
theorem dX6_invoices_52 : decode cX6_invoices 52 = .ok (.iadd, 1) := by decide +kernel
theorem dX6_invoices_53 : decode cX6_invoices 53 = .ok (.iload_n 3, 1) := by decide +kernel
theorem dX6_invoices_54 : decode cX6_invoices 54 = .ok (.iastore, 1) := by decide +kernel
theorem dX6_invoices_55 : decode cX6_invoices 55 = .ok (.aload_n 0, 1) := by decide +kernel
theorem dX6_invoices_56 : decode cX6_invoices 56 = .ok (.getfield 70, 3) := by decide +kernel
theorem dX6_invoices_59 : decode cX6_invoices 59 = .ok (.iload 5, 2) := by decide +kernel
theorem dX6_invoices_61 : decode cX6_invoices 61 = .ok (.iconst 4, 1) := by decide +kernel
theorem dX6_invoices_62 : decode cX6_invoices 62 = .ok (.iadd, 1) := by decide +kernel
theorem dX6_invoices_63 : decode cX6_invoices 63 = .ok (.iconst 0, 1) := by decide +kernel
theorem dX6_invoices_64 : decode cX6_invoices 64 = .ok (.iastore, 1) := by decide +kernel
theorem dX6_invoices_65 : decode cX6_invoices 65 = .ok (.aload_n 0, 1) := by decide +kernel
theorem dX6_invoices_66 : decode cX6_invoices 66 = .ok (.getfield 70, 3) := by decide +kernel
theorem dX6_invoices_69 : decode cX6_invoices 69 = .ok (.iload 5, 2) := by decide +kernel
theorem dX6_invoices_71 : decode cX6_invoices 71 = .ok (.iconst 5, 1) := by decide +kernel
theorem dX6_invoices_72 : decode cX6_invoices 72 = .ok (.iadd, 1) := by decide +kernel
theorem dX6_invoices_73 : decode cX6_invoices 73 = .ok (.iconst 0, 1) := by decide +kernel
theorem dX6_invoices_74 : decode cX6_invoices 74 = .ok (.iastore, 1) := by decide +kernel
theorem dX6_invoices_75 : decode cX6_invoices 75 = .ok (.aload_n 0, 1) := by decide +kernel
theorem dX6_invoices_76 : decode cX6_invoices 76 = .ok (.getfield 70, 3) := by decide +kernel
theorem dX6_invoices_79 : decode cX6_invoices 79 = .ok (.iload 5, 2) := by decide +kernel
theorem dX6_invoices_81 : decode cX6_invoices 81 = .ok (.bipush 6, 2) := by decide +kernel
theorem dX6_invoices_83 : decode cX6_invoices 83 = .ok (.iadd, 1) := by decide +kernel
theorem dX6_invoices_84 : decode cX6_invoices 84 = .ok (.iload 4, 2) := by decide +kernel
theorem dX6_invoices_86 : decode cX6_invoices 86 = .ok (.iastore, 1) := by decide +kernel
theorem dX6_invoices_87 : decode cX6_invoices 87 = .ok (.aload_n 0, 1) := by decide +kernel
theorem dX6_invoices_88 : decode cX6_invoices 88 = .ok (.getfield 70, 3) := by decide +kernel
theorem dX6_invoices_91 : decode cX6_invoices 91 = .ok (.iconst 4, 1) := by decide +kernel
theorem dX6_invoices_92 : decode cX6_invoices 92 = .ok (.dup2, 1) := by decide +kernel
theorem dX6_invoices_93 : decode cX6_invoices 93 = .ok (.iaload, 1) := by decide +kernel
theorem dX6_invoices_94 : decode cX6_invoices 94 = .ok (.iconst 1, 1) := by decide +kernel
theorem dX6_invoices_95 : decode cX6_invoices 95 = .ok (.iadd, 1) := by decide +kernel
theorem dX6_invoices_96 : decode cX6_invoices 96 = .ok (.iastore, 1) := by decide +kernel
theorem dX6_invoices_97 : decode cX6_invoices 97 = .ok (.aload_n 0, 1) := by decide +kernel
theorem dX6_invoices_98 : decode cX6_invoices 98 = .ok (.iload_n 1, 1) := by decide +kernel
theorem dX6_invoices_99 : decode cX6_invoices 99 = .ok (.invokevirtual 164, 3) := by decide +kernel
theorem dX6_invoices_102 : decode cX6_invoices 102 = .ok (.aload_n 0, 1) := by decide +kernel
theorem dX6_invoices_103 : decode cX6_invoices 103 = .ok (.getfield 70, 3) := by decide +kernel
theorem dX6_invoices_106 : decode cX6_invoices 106 = .ok (.iconst 4, 1) := by decide +kernel
theorem dX6_invoices_107 : decode cX6_invoices 107 = .ok (.iaload, 1) := by decide +kernel
theorem dX6_invoices_108 : decode cX6_invoices 108 = .ok (.iconst 1, 1) := by decide +kernel
theorem dX6_invoices_109 : decode cX6_invoices 109 = .ok (.isub, 1) := by decide +kernel
theorem dX6_invoices_110 : decode cX6_invoices 110 = .ok (.ireturn, 1) := by decide +kernel
set_option maxRecDepth 20000 in
theorem ggX6_dayOf_X6_its : GoodIn wsX6_dayOf wsX6_its := goodIn_r _ [5, 6, 7, 8, 9, 10, 11, 12, 13, 14, 15, 16, 17, 18, 19, 20, 21, 22, 23, 24, 25, 26] (by decide +kernel) (by decide +kernel)
set_option maxRecDepth 20000 in
theorem gX6_dayOf_X6_its : GoodIn wsX6_dayOf (wsV RX6 148 RX6 yX6_its wsX6_its) := goodIn_app (goodIn_of _ (by decide +kernel)) ggX6_dayOf_X6_its
theorem dX6_dayOf_0 : decode cX6_dayOf 0 = .ok (.aload_n 0, 1) := by decide +kernel
theorem dX6_dayOf_1 : decode cX6_dayOf 1 = .ok (.iload_n 1, 1) := by decide +kernel
theorem dX6_dayOf_2 : decode cX6_dayOf 2 = .ok (.bipush 10, 2) := by decide +kernel
theorem dX6_dayOf_4 : decode cX6_dayOf 4 = .ok (.invokevirtual 148, 3) := by decide +kernel
theorem dX6_dayOf_7 : decode cX6_dayOf 7 = .ok (.aload_n 0, 1) := by decide +kernel
theorem dX6_dayOf_8 : decode cX6_dayOf 8 = .ok (.iload_n 1, 1) := by decide +kernel
theorem dX6_dayOf_9 : decode cX6_dayOf 9 = .ok (.bipush 11, 2) := by decide +kernel
theorem dX6_dayOf_11 : decode cX6_dayOf 11 = .ok (.invokevirtual 148, 3) := by decide +kernel
theorem dX6_dayOf_14 : decode cX6_dayOf 14 = .ok (.iload_n 2, 1) := by decide +kernel
theorem dX6_dayOf_15 : decode cX6_dayOf 15 = .ok (.iconst 1, 1) := by decide +kernel
theorem dX6_dayOf_16 : decode cX6_dayOf 16 = .ok (.iadd, 1) := by decide +kernel
theorem dX6_dayOf_17 : decode cX6_dayOf 17 = .ok (.imul, 1) := by decide +kernel
theorem dX6_dayOf_18 : decode cX6_dayOf 18 = .ok (.iadd, 1) := by decide +kernel
theorem dX6_dayOf_19 : decode cX6_dayOf 19 = .ok (.ireturn, 1) := by decide +kernel
set_option maxRecDepth 20000 in
theorem ggX6_endsPlan_X6_its : GoodIn wsX6_endsPlan wsX6_its := goodIn_r _ [5, 6, 31, 32, 33, 34, 35, 36, 37, 38, 39, 40, 41, 42, 43, 44, 45, 46, 47, 48, 49, 50] (by decide +kernel) (by decide +kernel)
set_option maxRecDepth 20000 in
theorem gX6_endsPlan_X6_its : GoodIn wsX6_endsPlan (wsV RX6 148 RX6 yX6_its wsX6_its) := goodIn_app (goodIn_of _ (by decide +kernel)) ggX6_endsPlan_X6_its
set_option maxRecDepth 20000 in
theorem ggX6_endsPlan_X6_debt : GoodIn wsX6_endsPlan wsX6_debt := goodIn_r _ [10, 6, 11, 12, 13, 4, 14, 15, 16, 17, 18, 31, 32, 33, 34, 35, 36, 37, 38, 39, 40, 41, 42, 43, 44, 45, 46, 47, 48, 49, 50] (by decide +kernel) (by decide +kernel)
set_option maxRecDepth 20000 in
theorem gX6_endsPlan_X6_debt : GoodIn wsX6_endsPlan (wsV RX6 167 RX6 yX6_debt wsX6_debt) := goodIn_app (goodIn_of _ (by decide +kernel)) ggX6_endsPlan_X6_debt
set_option maxRecDepth 20000 in
theorem ggX6_endsPlan_X6_dayOf : GoodIn wsX6_endsPlan wsX6_dayOf := goodIn_r _ [22, 1, 2, 3, 4, 5, 6, 31, 32, 33, 34, 35, 36, 37, 38, 39, 40, 41, 42, 43, 44, 45, 46, 47, 48, 49, 50] (by decide +kernel) (by decide +kernel)
set_option maxRecDepth 20000 in
theorem gX6_endsPlan_X6_dayOf : GoodIn wsX6_endsPlan (wsV RX6 170 RX6 yX6_dayOf wsX6_dayOf) := goodIn_app (goodIn_of _ (by decide +kernel)) ggX6_endsPlan_X6_dayOf
set_option maxRecDepth 20000 in
theorem ggX6_endsPlan_X6_today : GoodIn wsX6_endsPlan wsX6_today := goodIn_r _ [26, 6, 31, 32, 33, 34, 35, 36, 37, 38, 39, 40, 41, 42, 43, 44, 45, 46, 47, 48, 49, 50] (by decide +kernel) (by decide +kernel)
set_option maxRecDepth 20000 in
theorem gX6_endsPlan_X6_today : GoodIn wsX6_endsPlan (wsV RX6 173 RX6 yX6_today wsX6_today) := goodIn_app (goodIn_of _ (by decide +kernel)) ggX6_endsPlan_X6_today
set_option maxRecDepth 20000 in
theorem ggX6_endsPlan_X6_puts : GoodIn wsX6_endsPlan wsX6_puts := goodIn_r _ [30, 6, 31, 32, 33, 34, 35, 36, 37, 38, 39, 40, 41, 42, 43, 44, 45, 46, 47, 48, 49, 50] (by decide +kernel) (by decide +kernel)
set_option maxRecDepth 20000 in
theorem gX6_endsPlan_X6_puts : GoodIn wsX6_endsPlan (wsV RX6 157 RX6 yX6_puts wsX6_puts) := goodIn_app (goodIn_of _ (by decide +kernel)) ggX6_endsPlan_X6_puts
theorem dX6_endsPlan_0 : decode cX6_endsPlan 0 = .ok (.aload_n 0, 1) := by decide +kernel
theorem dX6_endsPlan_1 : decode cX6_endsPlan 1 = .ok (.iload_n 1, 1) := by decide +kernel
theorem dX6_endsPlan_2 : decode cX6_endsPlan 2 = .ok (.bipush 9, 2) := by decide +kernel
theorem dX6_endsPlan_4 : decode cX6_endsPlan 4 = .ok (.invokevirtual 148, 3) := by decide +kernel
theorem dX6_endsPlan_7 : decode cX6_endsPlan 7 = .ok (.istore_n 2, 1) := by decide +kernel
theorem dX6_endsPlan_8 : decode cX6_endsPlan 8 = .ok (.iconst 0, 1) := by decide +kernel
theorem dX6_endsPlan_9 : decode cX6_endsPlan 9 = .ok (.istore_n 3, 1) := by decide +kernel
theorem dX6_endsPlan_10 : decode cX6_endsPlan 10 = .ok (.aload_n 0, 1) := by decide +kernel
theorem dX6_endsPlan_11 : decode cX6_endsPlan 11 = .ok (.iload_n 1, 1) := by decide +kernel
theorem dX6_endsPlan_12 : decode cX6_endsPlan 12 = .ok (.invokevirtual 167, 3) := by decide +kernel
theorem dX6_endsPlan_15 : decode cX6_endsPlan 15 = .ok (.ifCond .ne 7, 3) := by decide +kernel
theorem dX6_endsPlan_18 : decode cX6_endsPlan 18 = .ok (.iconst 1, 1) := by decide +kernel
theorem dX6_endsPlan_19 : decode cX6_endsPlan 19 = .ok (.goto 4, 3) := by decide +kernel
theorem dX6_endsPlan_22 : decode cX6_endsPlan 22 = .ok (.iconst 0, 1) := by decide +kernel
theorem dX6_endsPlan_23 : decode cX6_endsPlan 23 = .ok (.istore 4, 2) := by decide +kernel
theorem dX6_endsPlan_25 : decode cX6_endsPlan 25 = .ok (.iconst 0, 1) := by decide +kernel
theorem dX6_endsPlan_26 : decode cX6_endsPlan 26 = .ok (.istore 5, 2) := by decide +kernel
theorem dX6_endsPlan_28 : decode cX6_endsPlan 28 = .ok (.iload 5, 2) := by decide +kernel
theorem dX6_endsPlan_30 : decode cX6_endsPlan 30 = .ok (.iload_n 2, 1) := by decide +kernel
theorem dX6_endsPlan_31 : decode cX6_endsPlan 31 = .ok (.if_icmp .ge 67, 3) := by decide +kernel
theorem dX6_endsPlan_34 : decode cX6_endsPlan 34 = .ok (.iload_n 3, 1) := by decide +kernel
theorem dX6_endsPlan_35 : decode cX6_endsPlan 35 = .ok (.aload_n 0, 1) := by decide +kernel
theorem dX6_endsPlan_36 : decode cX6_endsPlan 36 = .ok (.iload_n 1, 1) := by decide +kernel
theorem dX6_endsPlan_37 : decode cX6_endsPlan 37 = .ok (.bipush 13, 2) := by decide +kernel
theorem dX6_endsPlan_39 : decode cX6_endsPlan 39 = .ok (.iload 5, 2) := by decide +kernel
theorem dX6_endsPlan_41 : decode cX6_endsPlan 41 = .ok (.iadd, 1) := by decide +kernel
theorem dX6_endsPlan_42 : decode cX6_endsPlan 42 = .ok (.invokevirtual 148, 3) := by decide +kernel
theorem dX6_endsPlan_45 : decode cX6_endsPlan 45 = .ok (.iadd, 1) := by decide +kernel
theorem dX6_endsPlan_46 : decode cX6_endsPlan 46 = .ok (.istore_n 3, 1) := by decide +kernel
theorem dX6_endsPlan_47 : decode cX6_endsPlan 47 = .ok (.aload_n 0, 1) := by decide +kernel
theorem dX6_endsPlan_48 : decode cX6_endsPlan 48 = .ok (.iload_n 1, 1) := by decide +kernel
theorem dX6_endsPlan_49 : decode cX6_endsPlan 49 = .ok (.iload 5, 2) := by decide +kernel
theorem dX6_endsPlan_51 : decode cX6_endsPlan 51 = .ok (.invokevirtual 170, 3) := by decide +kernel
theorem dX6_endsPlan_54 : decode cX6_endsPlan 54 = .ok (.aload_n 0, 1) := by decide +kernel
theorem dX6_endsPlan_55 : decode cX6_endsPlan 55 = .ok (.invokevirtual 173, 3) := by decide +kernel
theorem dX6_endsPlan_58 : decode cX6_endsPlan 58 = .ok (.if_icmp .ne 34, 3) := by decide +kernel
theorem dX6_endsPlan_61 : decode cX6_endsPlan 61 = .ok (.iload 4, 2) := by decide +kernel
theorem dX6_endsPlan_63 : decode cX6_endsPlan 63 = .ok (.ifCond .ne 22, 3) := by decide +kernel
theorem dX6_endsPlan_66 : decode cX6_endsPlan 66 = .ok (.aload_n 0, 1) := by decide +kernel
theorem dX6_endsPlan_67 : decode cX6_endsPlan 67 = .ok (.iload_n 1, 1) := by decide +kernel
theorem dX6_endsPlan_68 : decode cX6_endsPlan 68 = .ok (.bipush 12, 2) := by decide +kernel
theorem dX6_endsPlan_70 : decode cX6_endsPlan 70 = .ok (.invokevirtual 148, 3) := by decide +kernel
theorem dX6_endsPlan_73 : decode cX6_endsPlan 73 = .ok (.iload_n 3, 1) := by decide +kernel
theorem dX6_endsPlan_74 : decode cX6_endsPlan 74 = .ok (.if_icmp .lt 11, 3) := by decide +kernel
theorem dX6_endsPlan_77 : decode cX6_endsPlan 77 = .ok (.iload 5, 2) := by decide +kernel
theorem dX6_endsPlan_79 : decode cX6_endsPlan 79 = .ok (.iload_n 2, 1) := by decide +kernel
theorem dX6_endsPlan_80 : decode cX6_endsPlan 80 = .ok (.iconst 1, 1) := by decide +kernel
theorem dX6_endsPlan_81 : decode cX6_endsPlan 81 = .ok (.isub, 1) := by decide +kernel
theorem dX6_endsPlan_82 : decode cX6_endsPlan 82 = .ok (.if_icmp .ne 7, 3) := by decide +kernel
theorem dX6_endsPlan_85 : decode cX6_endsPlan 85 = .ok (.iconst 1, 1) := by decide +kernel
theorem dX6_endsPlan_86 : decode cX6_endsPlan 86 = .ok (.goto 4, 3) := by decide +kernel
theorem dX6_endsPlan_89 : decode cX6_endsPlan 89 = .ok (.iconst 0, 1) := by decide +kernel
theorem dX6_endsPlan_90 : decode cX6_endsPlan 90 = .ok (.istore 4, 2) := by decide +kernel
theorem dX6_endsPlan_92 : decode cX6_endsPlan 92 = .ok (.iinc 5 1, 3) := by decide +kernel
theorem dX6_endsPlan_95 : decode cX6_endsPlan 95 = .ok (.goto (-67), 3) := by decide +kernel
theorem dX6_endsPlan_98 : decode cX6_endsPlan 98 = .ok (.iload 4, 2) := by decide +kernel
theorem dX6_endsPlan_100 : decode cX6_endsPlan 100 = .ok (.ifCond .eq 11, 3) := by decide +kernel
theorem dX6_endsPlan_103 : decode cX6_endsPlan 103 = .ok (.aload_n 0, 1) := by decide +kernel
theorem dX6_endsPlan_104 : decode cX6_endsPlan 104 = .ok (.iload_n 1, 1) := by decide +kernel
theorem dX6_endsPlan_105 : decode cX6_endsPlan 105 = .ok (.bipush 9, 2) := by decide +kernel
theorem dX6_endsPlan_107 : decode cX6_endsPlan 107 = .ok (.iconst 0, 1) := by decide +kernel
theorem dX6_endsPlan_108 : decode cX6_endsPlan 108 = .ok (.invokevirtual 157, 3) := by decide +kernel
theorem dX6_endsPlan_111 : decode cX6_endsPlan 111 = .ok (.return_, 1) := by decide +kernel
set_option maxRecDepth 20000 in
theorem ggX6_endsPromise_X6_its : GoodIn wsX6_endsPromise wsX6_its := goodIn_r _ [5, 6, 15, 16, 17, 18, 19, 20, 21, 22, 23, 24, 25, 26, 27, 28, 29, 30, 31, 32, 33, 34] (by decide +kernel) (by decide +kernel)
set_option maxRecDepth 20000 in
theorem gX6_endsPromise_X6_its : GoodIn wsX6_endsPromise (wsV RX6 148 RX6 yX6_its wsX6_its) := goodIn_app (goodIn_of _ (by decide +kernel)) ggX6_endsPromise_X6_its
set_option maxRecDepth 20000 in
theorem ggX6_endsPromise_X6_today : GoodIn wsX6_endsPromise wsX6_today := goodIn_r _ [10, 6, 15, 16, 17, 18, 19, 20, 21, 22, 23, 24, 25, 26, 27, 28, 29, 30, 31, 32, 33, 34] (by decide +kernel) (by decide +kernel)
set_option maxRecDepth 20000 in
theorem gX6_endsPromise_X6_today : GoodIn wsX6_endsPromise (wsV RX6 173 RX6 yX6_today wsX6_today) := goodIn_app (goodIn_of _ (by decide +kernel)) ggX6_endsPromise_X6_today
set_option maxRecDepth 20000 in
theorem ggX6_endsPromise_X6_puts : GoodIn wsX6_endsPromise wsX6_puts := goodIn_r _ [14, 6, 15, 16, 17, 18, 19, 20, 21, 22, 23, 24, 25, 26, 27, 28, 29, 30, 31, 32, 33, 34] (by decide +kernel) (by decide +kernel)
set_option maxRecDepth 20000 in
theorem gX6_endsPromise_X6_puts : GoodIn wsX6_endsPromise (wsV RX6 157 RX6 yX6_puts wsX6_puts) := goodIn_app (goodIn_of _ (by decide +kernel)) ggX6_endsPromise_X6_puts
theorem dX6_endsPromise_0 : decode cX6_endsPromise 0 = .ok (.aload_n 0, 1) := by decide +kernel
theorem dX6_endsPromise_1 : decode cX6_endsPromise 1 = .ok (.iload_n 1, 1) := by decide +kernel
theorem dX6_endsPromise_2 : decode cX6_endsPromise 2 = .ok (.iconst 5, 1) := by decide +kernel
theorem dX6_endsPromise_3 : decode cX6_endsPromise 3 = .ok (.invokevirtual 148, 3) := by decide +kernel
theorem dX6_endsPromise_6 : decode cX6_endsPromise 6 = .ok (.ifCond .eq 17, 3) := by decide +kernel
theorem dX6_endsPromise_9 : decode cX6_endsPromise 9 = .ok (.aload_n 0, 1) := by decide +kernel
theorem dX6_endsPromise_10 : decode cX6_endsPromise 10 = .ok (.iload_n 1, 1) := by decide +kernel
theorem dX6_endsPromise_11 : decode cX6_endsPromise 11 = .ok (.bipush 6, 2) := by decide +kernel
theorem dX6_endsPromise_13 : decode cX6_endsPromise 13 = .ok (.invokevirtual 148, 3) := by decide +kernel
theorem dX6_endsPromise_16 : decode cX6_endsPromise 16 = .ok (.aload_n 0, 1) := by decide +kernel
theorem dX6_endsPromise_17 : decode cX6_endsPromise 17 = .ok (.invokevirtual 173, 3) := by decide +kernel
theorem dX6_endsPromise_20 : decode cX6_endsPromise 20 = .ok (.if_icmp .le 4, 3) := by decide +kernel
theorem dX6_endsPromise_23 : decode cX6_endsPromise 23 = .ok (.return_, 1) := by decide +kernel
theorem dX6_endsPromise_24 : decode cX6_endsPromise 24 = .ok (.aload_n 0, 1) := by decide +kernel
theorem dX6_endsPromise_25 : decode cX6_endsPromise 25 = .ok (.iload_n 1, 1) := by decide +kernel
theorem dX6_endsPromise_26 : decode cX6_endsPromise 26 = .ok (.bipush 7, 2) := by decide +kernel
theorem dX6_endsPromise_28 : decode cX6_endsPromise 28 = .ok (.invokevirtual 148, 3) := by decide +kernel
theorem dX6_endsPromise_31 : decode cX6_endsPromise 31 = .ok (.aload_n 0, 1) := by decide +kernel
theorem dX6_endsPromise_32 : decode cX6_endsPromise 32 = .ok (.iload_n 1, 1) := by decide +kernel
theorem dX6_endsPromise_33 : decode cX6_endsPromise 33 = .ok (.iconst 5, 1) := by decide +kernel
theorem dX6_endsPromise_34 : decode cX6_endsPromise 34 = .ok (.invokevirtual 148, 3) := by decide +kernel
theorem dX6_endsPromise_37 : decode cX6_endsPromise 37 = .ok (.if_icmp .ge 19, 3) := by decide +kernel
theorem dX6_endsPromise_40 : decode cX6_endsPromise 40 = .ok (.aload_n 0, 1) := by decide +kernel
theorem dX6_endsPromise_41 : decode cX6_endsPromise 41 = .ok (.iload_n 1, 1) := by decide +kernel
theorem dX6_endsPromise_42 : decode cX6_endsPromise 42 = .ok (.bipush 8, 2) := by decide +kernel
theorem dX6_endsPromise_44 : decode cX6_endsPromise 44 = .ok (.aload_n 0, 1) := by decide +kernel
theorem dX6_endsPromise_45 : decode cX6_endsPromise 45 = .ok (.iload_n 1, 1) := by decide +kernel
theorem dX6_endsPromise_46 : decode cX6_endsPromise 46 = .ok (.bipush 8, 2) := by decide +kernel
theorem dX6_endsPromise_48 : decode cX6_endsPromise 48 = .ok (.invokevirtual 148, 3) := by decide +kernel
theorem dX6_endsPromise_51 : decode cX6_endsPromise 51 = .ok (.iconst 1, 1) := by decide +kernel
theorem dX6_endsPromise_52 : decode cX6_endsPromise 52 = .ok (.iadd, 1) := by decide +kernel
theorem dX6_endsPromise_53 : decode cX6_endsPromise 53 = .ok (.invokevirtual 157, 3) := by decide +kernel
theorem dX6_endsPromise_56 : decode cX6_endsPromise 56 = .ok (.aload_n 0, 1) := by decide +kernel
theorem dX6_endsPromise_57 : decode cX6_endsPromise 57 = .ok (.iload_n 1, 1) := by decide +kernel
theorem dX6_endsPromise_58 : decode cX6_endsPromise 58 = .ok (.iconst 5, 1) := by decide +kernel
theorem dX6_endsPromise_59 : decode cX6_endsPromise 59 = .ok (.iconst 0, 1) := by decide +kernel
theorem dX6_endsPromise_60 : decode cX6_endsPromise 60 = .ok (.invokevirtual 157, 3) := by decide +kernel
theorem dX6_endsPromise_63 : decode cX6_endsPromise 63 = .ok (.return_, 1) := by decide +kernel
set_option maxRecDepth 20000 in
theorem ggX6_steps_X6_eldest : GoodIn wsX6_steps wsX6_eldest := goodIn_r _ [7, 1, 8, 9, 10, 6, 11, 12, 13, 14, 15, 44, 45, 46, 47, 48, 49, 50, 51, 52, 53, 54, 55, 56, 57, 58, 59, 60, 61, 62, 63] (by decide +kernel) (by decide +kernel)
set_option maxRecDepth 20000 in
theorem gX6_steps_X6_eldest : GoodIn wsX6_steps (wsV RX6 177 RX6 yX6_eldest wsX6_eldest) := goodIn_app (goodIn_of _ (by decide +kernel)) ggX6_steps_X6_eldest
set_option maxRecDepth 20000 in
theorem ggX6_steps_X6_isAtCourt : GoodIn wsX6_steps wsX6_isAtCourt := goodIn_r _ [19, 1, 20, 21, 22, 6, 23, 44, 45, 46, 47, 48, 49, 50, 51, 52, 53, 54, 55, 56, 57, 58, 59, 60, 61, 62, 63] (by decide +kernel) (by decide +kernel)
set_option maxRecDepth 20000 in
theorem gX6_steps_X6_isAtCourt : GoodIn wsX6_steps (wsV RX6 180 RX6 yX6_isAtCourt wsX6_isAtCourt) := goodIn_app (goodIn_of _ (by decide +kernel)) ggX6_steps_X6_isAtCourt
set_option maxRecDepth 20000 in
theorem ggX6_steps_X6_puts : GoodIn wsX6_steps wsX6_puts := goodIn_r _ [27, 1, 44, 45, 46, 47, 48, 49, 50, 51, 52, 53, 54, 55, 56, 57, 58, 59, 60, 61, 62, 63] (by decide +kernel) (by decide +kernel)
set_option maxRecDepth 20000 in
theorem gX6_steps_X6_puts : GoodIn wsX6_steps (wsV RX6 157 RX6 yX6_puts wsX6_puts) := goodIn_app (goodIn_of _ (by decide +kernel)) ggX6_steps_X6_puts
set_option maxRecDepth 20000 in
theorem ggX6_steps_X6_its : GoodIn wsX6_steps wsX6_its := goodIn_r _ [23, 1, 44, 45, 46, 47, 48, 49, 50, 51, 52, 53, 54, 55, 56, 57, 58, 59, 60, 61, 62, 63] (by decide +kernel) (by decide +kernel)
set_option maxRecDepth 20000 in
theorem gX6_steps_X6_its : GoodIn wsX6_steps (wsV RX6 148 RX6 yX6_its wsX6_its) := goodIn_app (goodIn_of _ (by decide +kernel)) ggX6_steps_X6_its
set_option maxRecDepth 20000 in
theorem ggX6_steps_X6_isStopped : GoodIn wsX6_steps wsX6_isStopped := goodIn_r _ [31, 20, 21, 22, 6, 23, 1, 44, 45, 46, 47, 48, 49, 50, 51, 52, 53, 54, 55, 56, 57, 58, 59, 60, 61, 62, 63] (by decide +kernel) (by decide +kernel)
set_option maxRecDepth 20000 in
theorem gX6_steps_X6_isStopped : GoodIn wsX6_steps (wsV RX6 183 RX6 yX6_isStopped wsX6_isStopped) := goodIn_app (goodIn_of _ (by decide +kernel)) ggX6_steps_X6_isStopped
set_option maxRecDepth 20000 in
theorem ggX6_steps_X6_today : GoodIn wsX6_steps wsX6_today := goodIn_r _ [35, 1, 44, 45, 46, 47, 48, 49, 50, 51, 52, 53, 54, 55, 56, 57, 58, 59, 60, 61, 62, 63] (by decide +kernel) (by decide +kernel)
set_option maxRecDepth 20000 in
theorem gX6_steps_X6_today : GoodIn wsX6_steps (wsV RX6 173 RX6 yX6_today wsX6_today) := goodIn_app (goodIn_of _ (by decide +kernel)) ggX6_steps_X6_today
set_option maxRecDepth 20000 in
theorem ggX6_steps_X6_invoices : GoodIn wsX6_steps wsX6_invoices := goodIn_r _ [39, 1, 40, 41, 42, 6, 43, 20, 21, 22, 23, 8, 9, 10, 11, 12, 13, 14, 15, 24, 25, 26, 27, 44, 45, 46, 47, 48, 49, 50, 51, 52, 53, 54, 55, 56, 57, 58, 59, 60, 61, 62, 63] (by decide +kernel) (by decide +kernel)
set_option maxRecDepth 20000 in
theorem gX6_steps_X6_invoices : GoodIn wsX6_steps (wsV RX6 186 RX6 yX6_invoices wsX6_invoices) := goodIn_app (goodIn_of _ (by decide +kernel)) ggX6_steps_X6_invoices
theorem dX6_steps_0 : decode cX6_steps 0 = .ok (.aload_n 0, 1) := by decide +kernel
theorem dX6_steps_1 : decode cX6_steps 1 = .ok (.iload_n 1, 1) := by decide +kernel
theorem dX6_steps_2 : decode cX6_steps 2 = .ok (.invokevirtual 177, 3) := by decide +kernel
theorem dX6_steps_5 : decode cX6_steps 5 = .ok (.istore_n 2, 1) := by decide +kernel
theorem dX6_steps_6 : decode cX6_steps 6 = .ok (.iload_n 2, 1) := by decide +kernel
theorem dX6_steps_7 : decode cX6_steps 7 = .ok (.ifCond .ne 19, 3) := by decide +kernel
theorem dX6_steps_10 : decode cX6_steps 10 = .ok (.aload_n 0, 1) := by decide +kernel
theorem dX6_steps_11 : decode cX6_steps 11 = .ok (.iload_n 1, 1) := by decide +kernel
theorem dX6_steps_12 : decode cX6_steps 12 = .ok (.invokevirtual 180, 3) := by decide +kernel
theorem dX6_steps_15 : decode cX6_steps 15 = .ok (.ifCond .ne 10, 3) := by decide +kernel
theorem dX6_steps_18 : decode cX6_steps 18 = .ok (.aload_n 0, 1) := by decide +kernel
theorem dX6_steps_19 : decode cX6_steps 19 = .ok (.iload_n 1, 1) := by decide +kernel
theorem dX6_steps_20 : decode cX6_steps 20 = .ok (.iconst 3, 1) := by decide +kernel
theorem dX6_steps_21 : decode cX6_steps 21 = .ok (.iconst 0, 1) := by decide +kernel
theorem dX6_steps_22 : decode cX6_steps 22 = .ok (.invokevirtual 157, 3) := by decide +kernel
theorem dX6_steps_25 : decode cX6_steps 25 = .ok (.return_, 1) := by decide +kernel
theorem dX6_steps_26 : decode cX6_steps 26 = .ok (.aload_n 0, 1) := by decide +kernel
theorem dX6_steps_27 : decode cX6_steps 27 = .ok (.iload_n 1, 1) := by decide +kernel
theorem dX6_steps_28 : decode cX6_steps 28 = .ok (.iconst 3, 1) := by decide +kernel
theorem dX6_steps_29 : decode cX6_steps 29 = .ok (.invokevirtual 148, 3) := by decide +kernel
theorem dX6_steps_32 : decode cX6_steps 32 = .ok (.istore_n 3, 1) := by decide +kernel
theorem dX6_steps_33 : decode cX6_steps 33 = .ok (.aload_n 0, 1) := by decide +kernel
theorem dX6_steps_34 : decode cX6_steps 34 = .ok (.iload_n 1, 1) := by decide +kernel
theorem dX6_steps_35 : decode cX6_steps 35 = .ok (.invokevirtual 183, 3) := by decide +kernel
theorem dX6_steps_38 : decode cX6_steps 38 = .ok (.ifCond .ne 13, 3) := by decide +kernel
theorem dX6_steps_41 : decode cX6_steps 41 = .ok (.iload_n 3, 1) := by decide +kernel
theorem dX6_steps_42 : decode cX6_steps 42 = .ok (.aload_n 0, 1) := by decide +kernel
theorem dX6_steps_43 : decode cX6_steps 43 = .ok (.getfield 70, 3) := by decide +kernel
theorem dX6_steps_46 : decode cX6_steps 46 = .ok (.iconst 2, 1) := by decide +kernel
theorem dX6_steps_47 : decode cX6_steps 47 = .ok (.iaload, 1) := by decide +kernel
theorem dX6_steps_48 : decode cX6_steps 48 = .ok (.if_icmp .lt 4, 3) := by decide +kernel
theorem dX6_steps_51 : decode cX6_steps 51 = .ok (.return_, 1) := by decide +kernel
theorem dX6_steps_52 : decode cX6_steps 52 = .ok (.bipush 7, 2) := by decide +kernel
theorem dX6_steps_54 : decode cX6_steps 54 = .ok (.iconst 3, 1) := by decide +kernel
theorem dX6_steps_55 : decode cX6_steps 55 = .ok (.iload_n 3, 1) := by decide +kernel
theorem dX6_steps_56 : decode cX6_steps 56 = .ok (.imul, 1) := by decide +kernel
theorem dX6_steps_57 : decode cX6_steps 57 = .ok (.iadd, 1) := by decide +kernel
theorem dX6_steps_58 : decode cX6_steps 58 = .ok (.istore 4, 2) := by decide +kernel
theorem dX6_steps_60 : decode cX6_steps 60 = .ok (.iload_n 2, 1) := by decide +kernel
theorem dX6_steps_61 : decode cX6_steps 61 = .ok (.aload_n 0, 1) := by decide +kernel
theorem dX6_steps_62 : decode cX6_steps 62 = .ok (.getfield 70, 3) := by decide +kernel
theorem dX6_steps_65 : decode cX6_steps 65 = .ok (.iload 4, 2) := by decide +kernel
theorem dX6_steps_67 : decode cX6_steps 67 = .ok (.iconst 0, 1) := by decide +kernel
theorem dX6_steps_68 : decode cX6_steps 68 = .ok (.iadd, 1) := by decide +kernel
theorem dX6_steps_69 : decode cX6_steps 69 = .ok (.iaload, 1) := by decide +kernel
theorem dX6_steps_70 : decode cX6_steps 70 = .ok (.if_icmp .lt 30, 3) := by decide +kernel
theorem dX6_steps_73 : decode cX6_steps 73 = .ok (.iload_n 3, 1) := by decide +kernel
theorem dX6_steps_74 : decode cX6_steps 74 = .ok (.ifCond .le 27, 3) := by decide +kernel
theorem dX6_steps_77 : decode cX6_steps 77 = .ok (.aload_n 0, 1) := by decide +kernel
theorem dX6_steps_78 : decode cX6_steps 78 = .ok (.invokevirtual 173, 3) := by decide +kernel
theorem dX6_steps_81 : decode cX6_steps 81 = .ok (.aload_n 0, 1) := by decide +kernel
theorem dX6_steps_82 : decode cX6_steps 82 = .ok (.iload_n 1, 1) := by decide +kernel
theorem dX6_steps_83 : decode cX6_steps 83 = .ok (.iconst 4, 1) := by decide +kernel
theorem dX6_steps_84 : decode cX6_steps 84 = .ok (.invokevirtual 148, 3) := by decide +kernel
theorem dX6_steps_87 : decode cX6_steps 87 = .ok (.isub, 1) := by decide +kernel
theorem dX6_steps_88 : decode cX6_steps 88 = .ok (.aload_n 0, 1) := by decide +kernel
theorem dX6_steps_89 : decode cX6_steps 89 = .ok (.getfield 70, 3) := by decide +kernel
theorem dX6_steps_92 : decode cX6_steps 92 = .ok (.iload 4, 2) := by decide +kernel
theorem dX6_steps_94 : decode cX6_steps 94 = .ok (.iconst 1, 1) := by decide +kernel
theorem dX6_steps_95 : decode cX6_steps 95 = .ok (.iadd, 1) := by decide +kernel
theorem dX6_steps_96 : decode cX6_steps 96 = .ok (.iaload, 1) := by decide +kernel
theorem dX6_steps_97 : decode cX6_steps 97 = .ok (.if_icmp .ge 4, 3) := by decide +kernel
theorem dX6_steps_100 : decode cX6_steps 100 = .ok (.return_, 1) := by decide +kernel
theorem dX6_steps_101 : decode cX6_steps 101 = .ok (.aload_n 0, 1) := by decide +kernel
theorem dX6_steps_102 : decode cX6_steps 102 = .ok (.iload_n 1, 1) := by decide +kernel
theorem dX6_steps_103 : decode cX6_steps 103 = .ok (.iconst 3, 1) := by decide +kernel
theorem dX6_steps_104 : decode cX6_steps 104 = .ok (.iload_n 3, 1) := by decide +kernel
theorem dX6_steps_105 : decode cX6_steps 105 = .ok (.iconst 1, 1) := by decide +kernel
theorem dX6_steps_106 : decode cX6_steps 106 = .ok (.iadd, 1) := by decide +kernel
theorem dX6_steps_107 : decode cX6_steps 107 = .ok (.invokevirtual 157, 3) := by decide +kernel
theorem dX6_steps_110 : decode cX6_steps 110 = .ok (.aload_n 0, 1) := by decide +kernel
theorem dX6_steps_111 : decode cX6_steps 111 = .ok (.iload_n 1, 1) := by decide +kernel
theorem dX6_steps_112 : decode cX6_steps 112 = .ok (.iconst 4, 1) := by decide +kernel
theorem dX6_steps_113 : decode cX6_steps 113 = .ok (.aload_n 0, 1) := by decide +kernel
theorem dX6_steps_114 : decode cX6_steps 114 = .ok (.invokevirtual 173, 3) := by decide +kernel
theorem dX6_steps_117 : decode cX6_steps 117 = .ok (.invokevirtual 157, 3) := by decide +kernel
theorem dX6_steps_120 : decode cX6_steps 120 = .ok (.aload_n 0, 1) := by decide +kernel
theorem dX6_steps_121 : decode cX6_steps 121 = .ok (.getfield 70, 3) := by decide +kernel
theorem dX6_steps_124 : decode cX6_steps 124 = .ok (.iload 4, 2) := by decide +kernel
theorem dX6_steps_126 : decode cX6_steps 126 = .ok (.iconst 2, 1) := by decide +kernel
theorem dX6_steps_127 : decode cX6_steps 127 = .ok (.iadd, 1) := by decide +kernel
theorem dX6_steps_128 : decode cX6_steps 128 = .ok (.iaload, 1) := by decide +kernel
theorem dX6_steps_129 : decode cX6_steps 129 = .ok (.ifCond .le 34, 3) := by decide +kernel
theorem dX6_steps_132 : decode cX6_steps 132 = .ok (.aload_n 0, 1) := by decide +kernel
theorem dX6_steps_133 : decode cX6_steps 133 = .ok (.getfield 70, 3) := by decide +kernel
theorem dX6_steps_136 : decode cX6_steps 136 = .ok (.iconst 4, 1) := by decide +kernel
theorem dX6_steps_137 : decode cX6_steps 137 = .ok (.iaload, 1) := by decide +kernel
theorem dX6_steps_138 : decode cX6_steps 138 = .ok (.bipush 60, 2) := by decide +kernel
theorem dX6_steps_140 : decode cX6_steps 140 = .ok (.if_icmp .ge 23, 3) := by decide +kernel
theorem dX6_steps_143 : decode cX6_steps 143 = .ok (.aload_n 0, 1) := by decide +kernel
theorem dX6_steps_144 : decode cX6_steps 144 = .ok (.iload_n 1, 1) := by decide +kernel
theorem dX6_steps_145 : decode cX6_steps 145 = .ok (.aload_n 0, 1) := by decide +kernel

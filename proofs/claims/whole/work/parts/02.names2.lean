theorem dX0_isPlanOver_46 : decode cX0_isPlanOver 46 = .ok (.iconst 1, 1) := by decide +kernel
theorem dX0_isPlanOver_47 : decode cX0_isPlanOver 47 = .ok (.iadd, 1) := by decide +kernel
theorem dX0_isPlanOver_48 : decode cX0_isPlanOver 48 = .ok (.invokevirtual 104, 3) := by decide +kernel
theorem dX0_isPlanOver_51 : decode cX0_isPlanOver 51 = .ok (.if_icmp .ge 7, 3) := by decide +kernel
theorem dX0_isPlanOver_54 : decode cX0_isPlanOver 54 = .ok (.iconst 1, 1) := by decide +kernel
theorem dX0_isPlanOver_55 : decode cX0_isPlanOver 55 = .ok (.goto 4, 3) := by decide +kernel
theorem dX0_isPlanOver_58 : decode cX0_isPlanOver 58 = .ok (.iconst 0, 1) := by decide +kernel
theorem dX0_isPlanOver_59 : decode cX0_isPlanOver 59 = .ok (.istore 4, 2) := by decide +kernel
theorem dX0_isPlanOver_61 : decode cX0_isPlanOver 61 = .ok (.iload 4, 2) := by decide +kernel
theorem dX0_isPlanOver_63 : decode cX0_isPlanOver 63 = .ok (.ifCond .ne 8, 3) := by decide +kernel
theorem dX0_isPlanOver_66 : decode cX0_isPlanOver 66 = .ok (.iload_n 3, 1) := by decide +kernel
theorem dX0_isPlanOver_67 : decode cX0_isPlanOver 67 = .ok (.iload_n 2, 1) := by decide +kernel
theorem dX0_isPlanOver_68 : decode cX0_isPlanOver 68 = .ok (.if_icmp .ne 5, 3) := by decide +kernel
theorem dX0_isPlanOver_71 : decode cX0_isPlanOver 71 = .ok (.iconst 1, 1) := by decide +kernel
theorem dX0_isPlanOver_72 : decode cX0_isPlanOver 72 = .ok (.ireturn, 1) := by decide +kernel
theorem dX0_isPlanOver_73 : decode cX0_isPlanOver 73 = .ok (.iinc 3 1, 3) := by decide +kernel
theorem dX0_isPlanOver_76 : decode cX0_isPlanOver 76 = .ok (.goto (-61), 3) := by decide +kernel
theorem dX0_isPlanOver_79 : decode cX0_isPlanOver 79 = .ok (.aload_n 0, 1) := by decide +kernel
theorem dX0_isPlanOver_80 : decode cX0_isPlanOver 80 = .ok (.iload_n 1, 1) := by decide +kernel
theorem dX0_isPlanOver_81 : decode cX0_isPlanOver 81 = .ok (.invokevirtual 73, 3) := by decide +kernel
theorem dX0_isPlanOver_84 : decode cX0_isPlanOver 84 = .ok (.ifCond .ne 7, 3) := by decide +kernel
theorem dX0_isPlanOver_87 : decode cX0_isPlanOver 87 = .ok (.iconst 1, 1) := by decide +kernel
theorem dX0_isPlanOver_88 : decode cX0_isPlanOver 88 = .ok (.goto 4, 3) := by decide +kernel
theorem dX0_isPlanOver_91 : decode cX0_isPlanOver 91 = .ok (.iconst 0, 1) := by decide +kernel
theorem dX0_isPlanOver_92 : decode cX0_isPlanOver 92 = .ok (.ireturn, 1) := by decide +kernel
set_option maxRecDepth 20000 in
theorem ggX0_doStep_X0_greatestAge : GoodIn wsX0_doStep wsX0_greatestAge := goodIn_r _ [9, 4, 10, 11, 12, 13, 14, 15, 16, 17, 18, 19, 20, 21, 22, 8, 23, 24, 25, 26, 27, 28, 29, 88, 89, 90, 91, 92, 93, 94, 95, 96, 97] (by decide +kernel) (by decide +kernel)
set_option maxRecDepth 20000 in
theorem gX0_doStep_X0_greatestAge : GoodIn wsX0_doStep (wsV RX0 134 RX0 yX0_greatestAge wsX0_greatestAge) := goodIn_app (goodIn_of _ (by decide +kernel)) ggX0_doStep_X0_greatestAge
set_option maxRecDepth 20000 in
theorem ggX0_doStep_X0_isAtCourt : GoodIn wsX0_doStep wsX0_isAtCourt := goodIn_r _ [33, 3, 1, 14, 15, 16, 17, 18, 19, 24, 25, 26, 27, 28, 29, 88, 89, 90, 91, 92, 93, 94, 95, 96, 97] (by decide +kernel) (by decide +kernel)
set_option maxRecDepth 20000 in
theorem gX0_doStep_X0_isAtCourt : GoodIn wsX0_doStep (wsV RX0 137 RX0 yX0_isAtCourt wsX0_isAtCourt) := goodIn_app (goodIn_of _ (by decide +kernel)) ggX0_doStep_X0_isAtCourt
set_option maxRecDepth 20000 in
theorem ggX0_doStep_X3_set : GoodIn wsX0_doStep wsX3_set := goodIn_r _ [37, 19, 28, 29, 95, 96, 97] (by decide +kernel) (by decide +kernel)
set_option maxRecDepth 20000 in
theorem gX0_doStep_X3_set : GoodIn wsX0_doStep (wsV RX0 50 RX3 yX3_set wsX3_set) := goodIn_app (goodIn_of _ (by decide +kernel)) ggX0_doStep_X3_set
set_option maxRecDepth 20000 in
theorem ggX0_doStep_X3_get : GoodIn wsX0_doStep wsX3_get := goodIn_r _ [27, 19, 28, 29, 95, 96, 97] (by decide +kernel) (by decide +kernel)
set_option maxRecDepth 20000 in
theorem gX0_doStep_X3_get : GoodIn wsX0_doStep (wsV RX0 58 RX3 yX3_get wsX3_get) := goodIn_app (goodIn_of _ (by decide +kernel)) ggX0_doStep_X3_get
set_option maxRecDepth 20000 in
theorem ggX0_doStep_X0_hasAgreement : GoodIn wsX0_doStep wsX0_hasAgreement := goodIn_r _ [41, 42, 43, 44, 8, 45, 1, 24, 25, 26, 17, 27, 19, 28, 29, 46, 47, 48, 49, 88, 89, 90, 91, 92, 93, 94, 95, 96, 97] (by decide +kernel) (by decide +kernel)
set_option maxRecDepth 20000 in
theorem gX0_doStep_X0_hasAgreement : GoodIn wsX0_doStep (wsV RX0 128 RX0 yX0_hasAgreement wsX0_hasAgreement) := goodIn_app (goodIn_of _ (by decide +kernel)) ggX0_doStep_X0_hasAgreement
set_option maxRecDepth 20000 in
theorem ggX0_doStep_X0_isStepRipe : GoodIn wsX0_doStep wsX0_isStepRipe := goodIn_r _ [53, 3, 2, 1, 54, 55, 56, 17, 57, 19, 24, 25, 26, 27, 28, 29, 88, 89, 90, 91, 92, 93, 94, 95, 96, 97] (by decide +kernel) (by decide +kernel)
set_option maxRecDepth 20000 in
theorem gX0_doStep_X0_isStepRipe : GoodIn wsX0_doStep (wsV RX0 140 RX0 yX0_isStepRipe wsX0_isStepRipe) := goodIn_app (goodIn_of _ (by decide +kernel)) ggX0_doStep_X0_isStepRipe
set_option maxRecDepth 20000 in
theorem ggX0_doStep_X3_isFull : GoodIn wsX0_doStep wsX3_isFull := goodIn_r _ [61, 19, 28, 29, 95, 96, 97] (by decide +kernel) (by decide +kernel)
set_option maxRecDepth 20000 in
theorem gX0_doStep_X3_isFull : GoodIn wsX0_doStep (wsV RX0 144 RX3 yX3_isFull wsX3_isFull) := goodIn_app (goodIn_of _ (by decide +kernel)) ggX0_doStep_X3_isFull
set_option maxRecDepth 20000 in
theorem ggX0_doStep_X0_addInvoice : GoodIn wsX0_doStep wsX0_addInvoice := goodIn_r _ [65, 4, 66, 67, 68, 17, 69, 19, 28, 70, 59, 60, 61, 29, 71, 35, 36, 37, 34, 88, 89, 90, 91, 92, 93, 94, 95, 96, 97] (by decide +kernel) (by decide +kernel)
set_option maxRecDepth 20000 in
theorem gX0_doStep_X0_addInvoice : GoodIn wsX0_doStep (wsV RX0 62 RX0 yX0_addInvoice wsX0_addInvoice) := goodIn_app (goodIn_of _ (by decide +kernel)) ggX0_doStep_X0_addInvoice
set_option maxRecDepth 20000 in
theorem ggX0_doStep_X0_placeCash : GoodIn wsX0_doStep wsX0_placeCash := goodIn_r _ [75, 1, 4, 76, 77, 12, 78, 24, 25, 26, 17, 27, 19, 28, 29, 79, 80, 81, 8, 82, 14, 15, 16, 18, 20, 21, 22, 23, 83, 84, 85, 86, 87, 71, 35, 36, 37, 88, 89, 90, 91, 92, 93, 94, 95, 96, 97] (by decide +kernel) (by decide +kernel)
set_option maxRecDepth 20000 in
theorem gX0_doStep_X0_placeCash : GoodIn wsX0_doStep (wsV RX0 66 RX0 yX0_placeCash wsX0_placeCash) := goodIn_app (goodIn_of _ (by decide +kernel)) ggX0_doStep_X0_placeCash
theorem dX0_doStep_0 : decode cX0_doStep 0 = .ok (.aload_n 0, 1) := by decide +kernel
theorem dX0_doStep_1 : decode cX0_doStep 1 = .ok (.iload_n 1, 1) := by decide +kernel
theorem dX0_doStep_2 : decode cX0_doStep 2 = .ok (.invokevirtual 134, 3) := by decide +kernel
theorem dX0_doStep_5 : decode cX0_doStep 5 = .ok (.istore_n 2, 1) := by decide +kernel
theorem dX0_doStep_6 : decode cX0_doStep 6 = .ok (.iload_n 2, 1) := by decide +kernel
theorem dX0_doStep_7 : decode cX0_doStep 7 = .ok (.ifCond .ne 23, 3) := by decide +kernel
theorem dX0_doStep_10 : decode cX0_doStep 10 = .ok (.aload_n 0, 1) := by decide +kernel
theorem dX0_doStep_11 : decode cX0_doStep 11 = .ok (.iload_n 1, 1) := by decide +kernel
theorem dX0_doStep_12 : decode cX0_doStep 12 = .ok (.invokevirtual 137, 3) := by decide +kernel
theorem dX0_doStep_15 : decode cX0_doStep 15 = .ok (.ifCond .ne 13, 3) := by decide +kernel
theorem dX0_doStep_18 : decode cX0_doStep 18 = .ok (.aload_n 0, 1) := by decide +kernel
theorem dX0_doStep_19 : decode cX0_doStep 19 = .ok (.getfield 20, 3) := by decide +kernel
theorem dX0_doStep_22 : decode cX0_doStep 22 = .ok (.iload_n 1, 1) := by decide +kernel
theorem dX0_doStep_23 : decode cX0_doStep 23 = .ok (.iconst 3, 1) := by decide +kernel
theorem dX0_doStep_24 : decode cX0_doStep 24 = .ok (.iconst 0, 1) := by decide +kernel
theorem dX0_doStep_25 : decode cX0_doStep 25 = .ok (.invokevirtual 50, 3) := by decide +kernel
theorem dX0_doStep_28 : decode cX0_doStep 28 = .ok (.iconst 0, 1) := by decide +kernel
theorem dX0_doStep_29 : decode cX0_doStep 29 = .ok (.ireturn, 1) := by decide +kernel
theorem dX0_doStep_30 : decode cX0_doStep 30 = .ok (.aload_n 0, 1) := by decide +kernel
theorem dX0_doStep_31 : decode cX0_doStep 31 = .ok (.getfield 20, 3) := by decide +kernel
theorem dX0_doStep_34 : decode cX0_doStep 34 = .ok (.iload_n 1, 1) := by decide +kernel
theorem dX0_doStep_35 : decode cX0_doStep 35 = .ok (.iconst 3, 1) := by decide +kernel
theorem dX0_doStep_36 : decode cX0_doStep 36 = .ok (.invokevirtual 58, 3) := by decide +kernel
theorem dX0_doStep_39 : decode cX0_doStep 39 = .ok (.istore_n 3, 1) := by decide +kernel
theorem dX0_doStep_40 : decode cX0_doStep 40 = .ok (.aload_n 0, 1) := by decide +kernel
theorem dX0_doStep_41 : decode cX0_doStep 41 = .ok (.iload_n 1, 1) := by decide +kernel
theorem dX0_doStep_42 : decode cX0_doStep 42 = .ok (.invokevirtual 128, 3) := by decide +kernel
theorem dX0_doStep_45 : decode cX0_doStep 45 = .ok (.ifCond .ne 13, 3) := by decide +kernel
theorem dX0_doStep_48 : decode cX0_doStep 48 = .ok (.aload_n 0, 1) := by decide +kernel
theorem dX0_doStep_49 : decode cX0_doStep 49 = .ok (.iload_n 1, 1) := by decide +kernel
theorem dX0_doStep_50 : decode cX0_doStep 50 = .ok (.iload_n 3, 1) := by decide +kernel
theorem dX0_doStep_51 : decode cX0_doStep 51 = .ok (.iload_n 2, 1) := by decide +kernel
theorem dX0_doStep_52 : decode cX0_doStep 52 = .ok (.invokevirtual 140, 3) := by decide +kernel
theorem dX0_doStep_55 : decode cX0_doStep 55 = .ok (.ifCond .ne 5, 3) := by decide +kernel
theorem dX0_doStep_58 : decode cX0_doStep 58 = .ok (.iconst 0, 1) := by decide +kernel
theorem dX0_doStep_59 : decode cX0_doStep 59 = .ok (.ireturn, 1) := by decide +kernel
theorem dX0_doStep_60 : decode cX0_doStep 60 = .ok (.aload_n 0, 1) := by decide +kernel
theorem dX0_doStep_61 : decode cX0_doStep 61 = .ok (.getfield 20, 3) := by decide +kernel
theorem dX0_doStep_64 : decode cX0_doStep 64 = .ok (.iload_n 1, 1) := by decide +kernel
theorem dX0_doStep_65 : decode cX0_doStep 65 = .ok (.iconst 3, 1) := by decide +kernel
theorem dX0_doStep_66 : decode cX0_doStep 66 = .ok (.iload_n 3, 1) := by decide +kernel
theorem dX0_doStep_67 : decode cX0_doStep 67 = .ok (.iconst 1, 1) := by decide +kernel
theorem dX0_doStep_68 : decode cX0_doStep 68 = .ok (.iadd, 1) := by decide +kernel
theorem dX0_doStep_69 : decode cX0_doStep 69 = .ok (.invokevirtual 50, 3) := by decide +kernel
theorem dX0_doStep_72 : decode cX0_doStep 72 = .ok (.aload_n 0, 1) := by decide +kernel
theorem dX0_doStep_73 : decode cX0_doStep 73 = .ok (.getfield 20, 3) := by decide +kernel
theorem dX0_doStep_76 : decode cX0_doStep 76 = .ok (.iload_n 1, 1) := by decide +kernel
theorem dX0_doStep_77 : decode cX0_doStep 77 = .ok (.iconst 4, 1) := by decide +kernel
theorem dX0_doStep_78 : decode cX0_doStep 78 = .ok (.aload_n 0, 1) := by decide +kernel
theorem dX0_doStep_79 : decode cX0_doStep 79 = .ok (.getfield 36, 3) := by decide +kernel
theorem dX0_doStep_82 : decode cX0_doStep 82 = .ok (.invokevirtual 50, 3) := by decide +kernel
theorem dX0_doStep_85 : decode cX0_doStep 85 = .ok (.aload_n 0, 1) := by decide +kernel
theorem dX0_doStep_86 : decode cX0_doStep 86 = .ok (.getfield 14, 3) := by decide +kernel
theorem dX0_doStep_89 : decode cX0_doStep 89 = .ok (.iload_n 3, 1) := by decide +kernel
theorem dX0_doStep_90 : decode cX0_doStep 90 = .ok (.iconst 2, 1) := by decide +kernel
theorem dX0_doStep_91 : decode cX0_doStep 91 = .ok (.invokevirtual 58, 3) := by decide +kernel
theorem dX0_doStep_94 : decode cX0_doStep 94 = .ok (.istore 4, 2) := by decide +kernel
theorem dX0_doStep_96 : decode cX0_doStep 96 = .ok (.iload 4, 2) := by decide +kernel
theorem dX0_doStep_98 : decode cX0_doStep 98 = .ok (.ifCond .le 31, 3) := by decide +kernel
theorem dX0_doStep_101 : decode cX0_doStep 101 = .ok (.aload_n 0, 1) := by decide +kernel
theorem dX0_doStep_102 : decode cX0_doStep 102 = .ok (.getfield 23, 3) := by decide +kernel
theorem dX0_doStep_105 : decode cX0_doStep 105 = .ok (.invokevirtual 144, 3) := by decide +kernel
theorem dX0_doStep_108 : decode cX0_doStep 108 = .ok (.ifCond .ne 21, 3) := by decide +kernel
theorem dX0_doStep_111 : decode cX0_doStep 111 = .ok (.aload_n 0, 1) := by decide +kernel
theorem dX0_doStep_112 : decode cX0_doStep 112 = .ok (.iload_n 1, 1) := by decide +kernel
theorem dX0_doStep_113 : decode cX0_doStep 113 = .ok (.iload 4, 2) := by decide +kernel
theorem dX0_doStep_115 : decode cX0_doStep 115 = .ok (.aload_n 0, 1) := by decide +kernel
theorem dX0_doStep_116 : decode cX0_doStep 116 = .ok (.getfield 36, 3) := by decide +kernel
theorem dX0_doStep_119 : decode cX0_doStep 119 = .ok (.iconst 1, 1) := by decide +kernel
theorem dX0_doStep_120 : decode cX0_doStep 120 = .ok (.invokevirtual 62, 3) := by decide +kernel
theorem dX0_doStep_123 : decode cX0_doStep 123 = .ok (.pop, 1) := by decide +kernel
theorem dX0_doStep_124 : decode cX0_doStep 124 = .ok (.aload_n 0, 1) := by decide +kernel
theorem dX0_doStep_125 : decode cX0_doStep 125 = .ok (.iload_n 1, 1) := by decide +kernel
theorem dX0_doStep_126 : decode cX0_doStep 126 = .ok (.invokevirtual 66, 3) := by decide +kernel
theorem dX0_doStep_129 : decode cX0_doStep 129 = .ok (.iconst 1, 1) := by decide +kernel
theorem dX0_doStep_130 : decode cX0_doStep 130 = .ok (.ireturn, 1) := by decide +kernel
set_option maxRecDepth 20000 in
theorem ggX0_isStepRipe_X3_has : GoodIn wsX0_isStepRipe wsX3_has := goodIn_r _ [8, 9, 23, 24, 25] (by decide +kernel) (by decide +kernel)
set_option maxRecDepth 20000 in
theorem gX0_isStepRipe_X3_has : GoodIn wsX0_isStepRipe (wsV RX0 148 RX3 yX3_has wsX3_has) := goodIn_app (goodIn_of _ (by decide +kernel)) ggX0_isStepRipe_X3_has
set_option maxRecDepth 20000 in
theorem ggX0_isStepRipe_X3_get : GoodIn wsX0_isStepRipe wsX3_get := goodIn_r _ [13, 9, 14, 15, 23, 24, 25] (by decide +kernel) (by decide +kernel)
set_option maxRecDepth 20000 in
theorem gX0_isStepRipe_X3_get : GoodIn wsX0_isStepRipe (wsV RX0 58 RX3 yX3_get wsX3_get) := goodIn_app (goodIn_of _ (by decide +kernel)) ggX0_isStepRipe_X3_get
theorem dX0_isStepRipe_0 : decode cX0_isStepRipe 0 = .ok (.aload_n 0, 1) := by decide +kernel
theorem dX0_isStepRipe_1 : decode cX0_isStepRipe 1 = .ok (.getfield 14, 3) := by decide +kernel
theorem dX0_isStepRipe_4 : decode cX0_isStepRipe 4 = .ok (.iload_n 2, 1) := by decide +kernel
theorem dX0_isStepRipe_5 : decode cX0_isStepRipe 5 = .ok (.invokevirtual 148, 3) := by decide +kernel
theorem dX0_isStepRipe_8 : decode cX0_isStepRipe 8 = .ok (.ifCond .eq 16, 3) := by decide +kernel
theorem dX0_isStepRipe_11 : decode cX0_isStepRipe 11 = .ok (.iload_n 3, 1) := by decide +kernel
theorem dX0_isStepRipe_12 : decode cX0_isStepRipe 12 = .ok (.aload_n 0, 1) := by decide +kernel
theorem dX0_isStepRipe_13 : decode cX0_isStepRipe 13 = .ok (.getfield 14, 3) := by decide +kernel
theorem dX0_isStepRipe_16 : decode cX0_isStepRipe 16 = .ok (.iload_n 2, 1) := by decide +kernel
theorem dX0_isStepRipe_17 : decode cX0_isStepRipe 17 = .ok (.iconst 0, 1) := by decide +kernel
theorem dX0_isStepRipe_18 : decode cX0_isStepRipe 18 = .ok (.invokevirtual 58, 3) := by decide +kernel
theorem dX0_isStepRipe_21 : decode cX0_isStepRipe 21 = .ok (.if_icmp .ge 5, 3) := by decide +kernel
theorem dX0_isStepRipe_24 : decode cX0_isStepRipe 24 = .ok (.iconst 0, 1) := by decide +kernel
theorem dX0_isStepRipe_25 : decode cX0_isStepRipe 25 = .ok (.ireturn, 1) := by decide +kernel
theorem dX0_isStepRipe_26 : decode cX0_isStepRipe 26 = .ok (.iload_n 2, 1) := by decide +kernel
theorem dX0_isStepRipe_27 : decode cX0_isStepRipe 27 = .ok (.ifCond .eq 29, 3) := by decide +kernel
theorem dX0_isStepRipe_30 : decode cX0_isStepRipe 30 = .ok (.aload_n 0, 1) := by decide +kernel
theorem dX0_isStepRipe_31 : decode cX0_isStepRipe 31 = .ok (.getfield 36, 3) := by decide +kernel
theorem dX0_isStepRipe_34 : decode cX0_isStepRipe 34 = .ok (.aload_n 0, 1) := by decide +kernel
theorem dX0_isStepRipe_35 : decode cX0_isStepRipe 35 = .ok (.getfield 20, 3) := by decide +kernel
theorem dX0_isStepRipe_38 : decode cX0_isStepRipe 38 = .ok (.iload_n 1, 1) := by decide +kernel
theorem dX0_isStepRipe_39 : decode cX0_isStepRipe 39 = .ok (.iconst 4, 1) := by decide +kernel
theorem dX0_isStepRipe_40 : decode cX0_isStepRipe 40 = .ok (.invokevirtual 58, 3) := by decide +kernel
theorem dX0_isStepRipe_43 : decode cX0_isStepRipe 43 = .ok (.isub, 1) := by decide +kernel
theorem dX0_isStepRipe_44 : decode cX0_isStepRipe 44 = .ok (.aload_n 0, 1) := by decide +kernel
theorem dX0_isStepRipe_45 : decode cX0_isStepRipe 45 = .ok (.getfield 14, 3) := by decide +kernel
theorem dX0_isStepRipe_48 : decode cX0_isStepRipe 48 = .ok (.iload_n 2, 1) := by decide +kernel
theorem dX0_isStepRipe_49 : decode cX0_isStepRipe 49 = .ok (.iconst 1, 1) := by decide +kernel
theorem dX0_isStepRipe_50 : decode cX0_isStepRipe 50 = .ok (.invokevirtual 58, 3) := by decide +kernel
theorem dX0_isStepRipe_53 : decode cX0_isStepRipe 53 = .ok (.if_icmp .lt 7, 3) := by decide +kernel
theorem dX0_isStepRipe_56 : decode cX0_isStepRipe 56 = .ok (.iconst 1, 1) := by decide +kernel
theorem dX0_isStepRipe_57 : decode cX0_isStepRipe 57 = .ok (.goto 4, 3) := by decide +kernel
theorem dX0_isStepRipe_60 : decode cX0_isStepRipe 60 = .ok (.iconst 0, 1) := by decide +kernel
theorem dX0_isStepRipe_61 : decode cX0_isStepRipe 61 = .ok (.ireturn, 1) := by decide +kernel
set_option maxRecDepth 20000 in
theorem ggX1_init_X0_init : GoodIn wsX1_init wsX0_init := goodIn_r _ [12, 13, 2, 3, 14, 15, 16, 17, 18, 19, 20, 21, 22, 23, 24, 25, 26, 27, 28, 29, 30, 31, 32, 33, 44, 45, 46, 37, 38, 39, 40, 41, 42, 43] (by decide +kernel) (by decide +kernel)
set_option maxRecDepth 20000 in
theorem gX1_init_X0_init : GoodIn wsX1_init (wsX0_init) := ggX1_init_X0_init
theorem dX1_init_0 : decode cX1_init 0 = .ok (.aload_n 0, 1) := by decide +kernel
theorem dX1_init_1 : decode cX1_init 1 = .ok (.invokespecial 3, 3) := by decide +kernel
theorem dX1_init_4 : decode cX1_init 4 = .ok (.aload_n 0, 1) := by decide +kernel
theorem dX1_init_5 : decode cX1_init 5 = .ok (.bipush 10, 2) := by decide +kernel
theorem dX1_init_7 : decode cX1_init 7 = .ok (.anewarray 9, 3) := by decide +kernel
theorem dX1_init_10 : decode cX1_init 10 = .ok (.putfield 11, 3) := by decide +kernel
theorem dX1_init_13 : decode cX1_init 13 = .ok (.iconst 0, 1) := by decide +kernel
theorem dX1_init_14 : decode cX1_init 14 = .ok (.istore_n 1, 1) := by decide +kernel
theorem dX1_init_15 : decode cX1_init 15 = .ok (.iload_n 1, 1) := by decide +kernel
theorem dX1_init_16 : decode cX1_init 16 = .ok (.aload_n 0, 1) := by decide +kernel
theorem dX1_init_17 : decode cX1_init 17 = .ok (.getfield 11, 3) := by decide +kernel
theorem dX1_init_20 : decode cX1_init 20 = .ok (.arraylength, 1) := by decide +kernel
theorem dX1_init_21 : decode cX1_init 21 = .ok (.if_icmp .ge 22, 3) := by decide +kernel
theorem dX1_init_24 : decode cX1_init 24 = .ok (.aload_n 0, 1) := by decide +kernel
theorem dX1_init_25 : decode cX1_init 25 = .ok (.getfield 11, 3) := by decide +kernel
theorem dX1_init_28 : decode cX1_init 28 = .ok (.iload_n 1, 1) := by decide +kernel
theorem dX1_init_29 : decode cX1_init 29 = .ok (.new 9, 3) := by decide +kernel
theorem dX1_init_32 : decode cX1_init 32 = .ok (.dup, 1) := by decide +kernel
theorem dX1_init_33 : decode cX1_init 33 = .ok (.invokespecial 17, 3) := by decide +kernel
theorem dX1_init_36 : decode cX1_init 36 = .ok (.aastore, 1) := by decide +kernel
theorem dX1_init_37 : decode cX1_init 37 = .ok (.iinc 1 1, 3) := by decide +kernel
theorem dX1_init_40 : decode cX1_init 40 = .ok (.goto (-25), 3) := by decide +kernel
theorem dX1_init_43 : decode cX1_init 43 = .ok (.aload_n 0, 1) := by decide +kernel
theorem dX1_init_44 : decode cX1_init 44 = .ok (.iconst 0, 1) := by decide +kernel
theorem dX1_init_45 : decode cX1_init 45 = .ok (.putfield 18, 3) := by decide +kernel
theorem dX1_init_48 : decode cX1_init 48 = .ok (.aload_n 0, 1) := by decide +kernel
theorem dX1_init_49 : decode cX1_init 49 = .ok (.iconst 0, 1) := by decide +kernel
theorem dX1_init_50 : decode cX1_init 50 = .ok (.putfield 22, 3) := by decide +kernel
theorem dX1_init_53 : decode cX1_init 53 = .ok (.return_, 1) := by decide +kernel
theorem dX1_size_0 : decode cX1_size 0 = .ok (.aload_n 0, 1) := by decide +kernel
theorem dX1_size_1 : decode cX1_size 1 = .ok (.getfield 18, 3) := by decide +kernel
theorem dX1_size_4 : decode cX1_size 4 = .ok (.ireturn, 1) := by decide +kernel
theorem dX1_forget_0 : decode cX1_forget 0 = .ok (.aload_n 0, 1) := by decide +kernel
theorem dX1_forget_1 : decode cX1_forget 1 = .ok (.iconst 0, 1) := by decide +kernel
theorem dX1_forget_2 : decode cX1_forget 2 = .ok (.putfield 18, 3) := by decide +kernel
theorem dX1_forget_5 : decode cX1_forget 5 = .ok (.return_, 1) := by decide +kernel
set_option maxRecDepth 20000 in
theorem ggX1_keep_X0_copyFrom : GoodIn wsX1_keep wsX0_copyFrom := goodIn_r _ [12, 13, 14, 15, 16, 17, 18, 19, 20, 21, 22, 23, 24, 25, 26, 27, 28, 5, 6, 7, 29, 30, 31, 32, 33, 34, 35, 39, 40, 41, 42, 43, 44, 45, 46, 47, 48] (by decide +kernel) (by decide +kernel)
set_option maxRecDepth 20000 in
theorem gX1_keep_X0_copyFrom : GoodIn wsX1_keep (wsV RX1 25 RX0 yX0_copyFrom wsX0_copyFrom) := goodIn_app (goodIn_of _ (by decide +kernel)) ggX1_keep_X0_copyFrom
theorem dX1_keep_0 : decode cX1_keep 0 = .ok (.aload_n 0, 1) := by decide +kernel
theorem dX1_keep_1 : decode cX1_keep 1 = .ok (.getfield 22, 3) := by decide +kernel
theorem dX1_keep_4 : decode cX1_keep 4 = .ok (.ifCond .lt 27, 3) := by decide +kernel
theorem dX1_keep_7 : decode cX1_keep 7 = .ok (.aload_n 0, 1) := by decide +kernel
theorem dX1_keep_8 : decode cX1_keep 8 = .ok (.getfield 22, 3) := by decide +kernel
theorem dX1_keep_11 : decode cX1_keep 11 = .ok (.aload_n 0, 1) := by decide +kernel
theorem dX1_keep_12 : decode cX1_keep 12 = .ok (.getfield 11, 3) := by decide +kernel
theorem dX1_keep_15 : decode cX1_keep 15 = .ok (.arraylength, 1) := by decide +kernel
theorem dX1_keep_16 : decode cX1_keep 16 = .ok (.if_icmp .ge 15, 3) := by decide +kernel
theorem dX1_keep_19 : decode cX1_keep 19 = .ok (.aload_n 0, 1) := by decide +kernel
theorem dX1_keep_20 : decode cX1_keep 20 = .ok (.getfield 11, 3) := by decide +kernel
theorem dX1_keep_23 : decode cX1_keep 23 = .ok (.aload_n 0, 1) := by decide +kernel
theorem dX1_keep_24 : decode cX1_keep 24 = .ok (.getfield 22, 3) := by decide +kernel
theorem dX1_keep_27 : decode cX1_keep 27 = .ok (.aaload, 1) := by decide +kernel
theorem dX1_keep_28 : decode cX1_keep 28 = .ok (.ifnonnull 4, 3) := by decide +kernel
theorem dX1_keep_31 : decode cX1_keep 31 = .ok (.return_, 1) := by decide +kernel
theorem dX1_keep_32 : decode cX1_keep 32 = .ok (.aload_n 0, 1) := by decide +kernel
theorem dX1_keep_33 : decode cX1_keep 33 = .ok (.getfield 11, 3) := by decide +kernel
theorem dX1_keep_36 : decode cX1_keep 36 = .ok (.aload_n 0, 1) := by decide +kernel
theorem dX1_keep_37 : decode cX1_keep 37 = .ok (.getfield 22, 3) := by decide +kernel
theorem dX1_keep_40 : decode cX1_keep 40 = .ok (.aaload, 1) := by decide +kernel
theorem dX1_keep_41 : decode cX1_keep 41 = .ok (.aload_n 1, 1) := by decide +kernel
theorem dX1_keep_42 : decode cX1_keep 42 = .ok (.invokevirtual 25, 3) := by decide +kernel
theorem dX1_keep_45 : decode cX1_keep 45 = .ok (.aload_n 0, 1) := by decide +kernel
theorem dX1_keep_46 : decode cX1_keep 46 = .ok (.aload_n 0, 1) := by decide +kernel
theorem dX1_keep_47 : decode cX1_keep 47 = .ok (.getfield 22, 3) := by decide +kernel
theorem dX1_keep_50 : decode cX1_keep 50 = .ok (.iconst 1, 1) := by decide +kernel
theorem dX1_keep_51 : decode cX1_keep 51 = .ok (.iadd, 1) := by decide +kernel
theorem dX1_keep_52 : decode cX1_keep 52 = .ok (.aload_n 0, 1) := by decide +kernel
theorem dX1_keep_53 : decode cX1_keep 53 = .ok (.getfield 11, 3) := by decide +kernel
theorem dX1_keep_56 : decode cX1_keep 56 = .ok (.arraylength, 1) := by decide +kernel
theorem dX1_keep_57 : decode cX1_keep 57 = .ok (.if_icmp .ge 12, 3) := by decide +kernel
theorem dX1_keep_60 : decode cX1_keep 60 = .ok (.aload_n 0, 1) := by decide +kernel
theorem dX1_keep_61 : decode cX1_keep 61 = .ok (.getfield 22, 3) := by decide +kernel
theorem dX1_keep_64 : decode cX1_keep 64 = .ok (.iconst 1, 1) := by decide +kernel
theorem dX1_keep_65 : decode cX1_keep 65 = .ok (.iadd, 1) := by decide +kernel
theorem dX1_keep_66 : decode cX1_keep 66 = .ok (.goto 4, 3) := by decide +kernel
theorem dX1_keep_69 : decode cX1_keep 69 = .ok (.iconst 0, 1) := by decide +kernel
theorem dX1_keep_70 : decode cX1_keep 70 = .ok (.putfield 22, 3) := by decide +kernel
theorem dX1_keep_73 : decode cX1_keep 73 = .ok (.aload_n 0, 1) := by decide +kernel
theorem dX1_keep_74 : decode cX1_keep 74 = .ok (.aload_n 0, 1) := by decide +kernel
theorem dX1_keep_75 : decode cX1_keep 75 = .ok (.getfield 18, 3) := by decide +kernel
theorem dX1_keep_78 : decode cX1_keep 78 = .ok (.iconst 1, 1) := by decide +kernel
theorem dX1_keep_79 : decode cX1_keep 79 = .ok (.iadd, 1) := by decide +kernel
theorem dX1_keep_80 : decode cX1_keep 80 = .ok (.aload_n 0, 1) := by decide +kernel
theorem dX1_keep_81 : decode cX1_keep 81 = .ok (.getfield 11, 3) := by decide +kernel
theorem dX1_keep_84 : decode cX1_keep 84 = .ok (.arraylength, 1) := by decide +kernel
theorem dX1_keep_85 : decode cX1_keep 85 = .ok (.invokestatic 29, 3) := by decide +kernel
theorem dX1_keep_88 : decode cX1_keep 88 = .ok (.putfield 18, 3) := by decide +kernel
theorem dX1_keep_91 : decode cX1_keep 91 = .ok (.return_, 1) := by decide +kernel
set_option maxRecDepth 20000 in
theorem ggX1_restore_X0_copyFrom : GoodIn wsX1_restore wsX0_copyFrom := goodIn_r _ [8, 9, 10, 11, 12, 13, 14, 15, 16, 17, 18, 19, 20, 21, 22, 23, 24, 25, 26, 27, 28, 29, 30, 31, 32, 33, 34, 38, 39, 40, 41, 42, 43, 44, 45, 46, 47] (by decide +kernel) (by decide +kernel)
set_option maxRecDepth 20000 in
theorem gX1_restore_X0_copyFrom : GoodIn wsX1_restore (wsV RX1 25 RX0 yX0_copyFrom wsX0_copyFrom) := goodIn_app (goodIn_of _ (by decide +kernel)) ggX1_restore_X0_copyFrom
theorem dX1_restore_0 : decode cX1_restore 0 = .ok (.aload_n 0, 1) := by decide +kernel
theorem dX1_restore_1 : decode cX1_restore 1 = .ok (.getfield 22, 3) := by decide +kernel
theorem dX1_restore_4 : decode cX1_restore 4 = .ok (.ifCond .le 12, 3) := by decide +kernel
theorem dX1_restore_7 : decode cX1_restore 7 = .ok (.aload_n 0, 1) := by decide +kernel
theorem dX1_restore_8 : decode cX1_restore 8 = .ok (.getfield 22, 3) := by decide +kernel
theorem dX1_restore_11 : decode cX1_restore 11 = .ok (.iconst 1, 1) := by decide +kernel
theorem dX1_restore_12 : decode cX1_restore 12 = .ok (.isub, 1) := by decide +kernel
theorem dX1_restore_13 : decode cX1_restore 13 = .ok (.goto 10, 3) := by decide +kernel
theorem dX1_restore_16 : decode cX1_restore 16 = .ok (.aload_n 0, 1) := by decide +kernel
theorem dX1_restore_17 : decode cX1_restore 17 = .ok (.getfield 11, 3) := by decide +kernel
theorem dX1_restore_20 : decode cX1_restore 20 = .ok (.arraylength, 1) := by decide +kernel
theorem dX1_restore_21 : decode cX1_restore 21 = .ok (.iconst 1, 1) := by decide +kernel
theorem dX1_restore_22 : decode cX1_restore 22 = .ok (.isub, 1) := by decide +kernel
theorem dX1_restore_23 : decode cX1_restore 23 = .ok (.istore_n 2, 1) := by decide +kernel
theorem dX1_restore_24 : decode cX1_restore 24 = .ok (.aload_n 0, 1) := by decide +kernel
theorem dX1_restore_25 : decode cX1_restore 25 = .ok (.getfield 18, 3) := by decide +kernel
theorem dX1_restore_28 : decode cX1_restore 28 = .ok (.ifCond .eq 25, 3) := by decide +kernel
theorem dX1_restore_31 : decode cX1_restore 31 = .ok (.iload_n 2, 1) := by decide +kernel
theorem dX1_restore_32 : decode cX1_restore 32 = .ok (.ifCond .lt 21, 3) := by decide +kernel
theorem dX1_restore_35 : decode cX1_restore 35 = .ok (.iload_n 2, 1) := by decide +kernel
theorem dX1_restore_36 : decode cX1_restore 36 = .ok (.aload_n 0, 1) := by decide +kernel
theorem dX1_restore_37 : decode cX1_restore 37 = .ok (.getfield 11, 3) := by decide +kernel
theorem dX1_restore_40 : decode cX1_restore 40 = .ok (.arraylength, 1) := by decide +kernel
theorem dX1_restore_41 : decode cX1_restore 41 = .ok (.if_icmp .ge 12, 3) := by decide +kernel
theorem dX1_restore_44 : decode cX1_restore 44 = .ok (.aload_n 0, 1) := by decide +kernel
theorem dX1_restore_45 : decode cX1_restore 45 = .ok (.getfield 11, 3) := by decide +kernel
theorem dX1_restore_48 : decode cX1_restore 48 = .ok (.iload_n 2, 1) := by decide +kernel
theorem dX1_restore_49 : decode cX1_restore 49 = .ok (.aaload, 1) := by decide +kernel
theorem dX1_restore_50 : decode cX1_restore 50 = .ok (.ifnonnull 4, 3) := by decide +kernel
theorem dX1_restore_53 : decode cX1_restore 53 = .ok (.return_, 1) := by decide +kernel
theorem dX1_restore_54 : decode cX1_restore 54 = .ok (.aload_n 1, 1) := by decide +kernel
theorem dX1_restore_55 : decode cX1_restore 55 = .ok (.aload_n 0, 1) := by decide +kernel
theorem dX1_restore_56 : decode cX1_restore 56 = .ok (.getfield 11, 3) := by decide +kernel
theorem dX1_restore_59 : decode cX1_restore 59 = .ok (.iload_n 2, 1) := by decide +kernel
theorem dX1_restore_60 : decode cX1_restore 60 = .ok (.aaload, 1) := by decide +kernel
theorem dX1_restore_61 : decode cX1_restore 61 = .ok (.invokevirtual 25, 3) := by decide +kernel
theorem dX1_restore_64 : decode cX1_restore 64 = .ok (.aload_n 0, 1) := by decide +kernel
theorem dX1_restore_65 : decode cX1_restore 65 = .ok (.iload_n 2, 1) := by decide +kernel
theorem dX1_restore_66 : decode cX1_restore 66 = .ok (.putfield 22, 3) := by decide +kernel
theorem dX1_restore_69 : decode cX1_restore 69 = .ok (.aload_n 0, 1) := by decide +kernel
theorem dX1_restore_70 : decode cX1_restore 70 = .ok (.dup, 1) := by decide +kernel
theorem dX1_restore_71 : decode cX1_restore 71 = .ok (.getfield 18, 3) := by decide +kernel
theorem dX1_restore_74 : decode cX1_restore 74 = .ok (.iconst 1, 1) := by decide +kernel
theorem dX1_restore_75 : decode cX1_restore 75 = .ok (.isub, 1) := by decide +kernel
theorem dX1_restore_76 : decode cX1_restore 76 = .ok (.putfield 18, 3) := by decide +kernel
theorem dX1_restore_79 : decode cX1_restore 79 = .ok (.return_, 1) := by decide +kernel
theorem dX2_init_0 : decode cX2_init 0 = .ok (.aload_n 0, 1) := by decide +kernel
theorem dX2_init_1 : decode cX2_init 1 = .ok (.invokespecial 3, 3) := by decide +kernel
theorem dX2_init_4 : decode cX2_init 4 = .ok (.aload_n 0, 1) := by decide +kernel
theorem dX2_init_5 : decode cX2_init 5 = .ok (.aload_n 1, 1) := by decide +kernel
theorem dX2_init_6 : decode cX2_init 6 = .ok (.putfield 9, 3) := by decide +kernel
theorem dX2_init_9 : decode cX2_init 9 = .ok (.aload_n 0, 1) := by decide +kernel
theorem dX2_init_10 : decode cX2_init 10 = .ok (.aload_n 2, 1) := by decide +kernel
theorem dX2_init_11 : decode cX2_init 11 = .ok (.putfield 15, 3) := by decide +kernel
theorem dX2_init_14 : decode cX2_init 14 = .ok (.aload_n 0, 1) := by decide +kernel
theorem dX2_init_15 : decode cX2_init 15 = .ok (.iconst 0, 1) := by decide +kernel
theorem dX2_init_16 : decode cX2_init 16 = .ok (.putfield 19, 3) := by decide +kernel
theorem dX2_init_19 : decode cX2_init 19 = .ok (.return_, 1) := by decide +kernel
theorem dX2_faultKind_0 : decode cX2_faultKind 0 = .ok (.aload_n 0, 1) := by decide +kernel
theorem dX2_faultKind_1 : decode cX2_faultKind 1 = .ok (.getfield 23, 3) := by decide +kernel
theorem dX2_faultKind_4 : decode cX2_faultKind 4 = .ok (.ireturn, 1) := by decide +kernel
set_option maxRecDepth 20000 in
theorem ggX2_read_X2_advance : GoodIn wsX2_read wsX2_advance := goodIn_r _ [9, 10, 11, 4, 1, 12, 13, 14, 15, 16, 17, 18, 19, 20, 21, 22, 23, 24, 8, 25, 26, 27, 28, 29, 30, 31, 32, 33, 34, 35, 36, 172, 173, 174, 175, 176, 177, 178, 179, 180, 181] (by decide +kernel) (by decide +kernel)
set_option maxRecDepth 20000 in
theorem gX2_read_X2_advance : GoodIn wsX2_read (wsV RX2 26 RX2 yX2_advance wsX2_advance) := goodIn_app (goodIn_of _ (by decide +kernel)) ggX2_read_X2_advance
set_option maxRecDepth 20000 in
theorem ggX2_read_X2_takeSort : GoodIn wsX2_read wsX2_takeSort := goodIn_r _ [40, 1, 3, 2, 41, 42, 43, 8, 44, 45, 46, 47, 48, 11, 4, 10, 49, 50, 51, 52, 53, 54, 55, 56, 57, 58, 59, 60, 18, 19, 20, 15, 21, 17, 22, 61, 62, 63, 64, 65, 66, 67, 68, 69, 70, 71, 72, 73, 74, 75, 76, 77, 78, 79, 80, 81, 82, 83, 84, 85, 86, 87, 88, 89, 90, 91, 92, 93, 94, 95, 96, 97, 98, 99, 100, 101, 102, 103, 104, 105, 106, 107, 108, 109, 110, 111, 112, 113, 114, 115, 172, 173, 174, 175, 176, 177, 178, 179, 180, 181, 182, 183, 184, 185, 186, 187, 188, 189, 190, 191] (by decide +kernel) (by decide +kernel)
set_option maxRecDepth 20000 in
theorem gX2_read_X2_takeSort : GoodIn wsX2_read (wsV RX2 32 RX2 yX2_takeSort wsX2_takeSort) := goodIn_app (goodIn_of _ (by decide +kernel)) ggX2_read_X2_takeSort
set_option maxRecDepth 20000 in
theorem ggX2_read_X2_readStep : GoodIn wsX2_read wsX2_readStep := goodIn_r _ [119, 106, 120, 121, 122, 8, 123, 3, 1, 30, 5, 6, 7, 9, 10, 11, 4, 12, 13, 14, 15, 16, 17, 18, 19, 20, 21, 22, 23, 24, 25, 26, 27, 28, 29, 31, 32, 33, 34, 35, 36, 124, 125, 126, 127, 128, 129, 130, 131, 132, 133, 134, 135, 136, 113, 137, 115, 138, 139, 140, 141, 142, 143, 144, 145, 146, 147, 148, 172, 173, 174, 175, 176, 177, 178, 179, 180, 181, 182, 183, 184, 185, 186, 187, 188, 189, 190, 191] (by decide +kernel) (by decide +kernel)
set_option maxRecDepth 20000 in
theorem gX2_read_X2_readStep : GoodIn wsX2_read (wsV RX2 35 RX2 yX2_readStep wsX2_readStep) := goodIn_app (goodIn_of _ (by decide +kernel)) ggX2_read_X2_readStep
set_option maxRecDepth 20000 in
theorem ggX2_read_X2_readHold : GoodIn wsX2_read wsX2_readHold := goodIn_r _ [152, 106, 153, 120, 121, 122, 8, 123, 3, 1, 30, 5, 6, 7, 9, 10, 11, 4, 12, 13, 14, 15, 16, 17, 18, 19, 20, 21, 22, 23, 24, 25, 26, 27, 28, 29, 31, 32, 33, 34, 35, 36, 124, 125, 126, 127, 172, 173, 174, 175, 176, 177, 178, 179, 182, 183, 184, 185, 186, 187, 188, 180, 181] (by decide +kernel) (by decide +kernel)
set_option maxRecDepth 20000 in
theorem gX2_read_X2_readHold : GoodIn wsX2_read (wsV RX2 38 RX2 yX2_readHold wsX2_readHold) := goodIn_app (goodIn_of _ (by decide +kernel)) ggX2_read_X2_readHold
set_option maxRecDepth 20000 in
theorem ggX2_read_X2_readDebtor : GoodIn wsX2_read wsX2_readDebtor := goodIn_r _ [157, 106, 120, 121, 122, 8, 123, 3, 1, 30, 5, 6, 7, 9, 10, 11, 4, 12, 13, 14, 15, 16, 17, 18, 19, 20, 21, 22, 23, 24, 25, 26, 27, 28, 29, 31, 32, 33, 34, 35, 36, 124, 125, 126, 127, 158, 159, 160, 131, 161, 162, 134, 135, 136, 113, 137, 115, 138, 139, 140, 141, 142, 143, 144, 145, 146, 147, 148, 172, 173, 174, 175, 176, 177, 178, 179, 180, 181, 182, 183, 184, 185, 186, 187, 188, 189, 190, 191] (by decide +kernel) (by decide +kernel)
set_option maxRecDepth 20000 in
theorem gX2_read_X2_readDebtor : GoodIn wsX2_read (wsV RX2 41 RX2 yX2_readDebtor wsX2_readDebtor) := goodIn_app (goodIn_of _ (by decide +kernel)) ggX2_read_X2_readDebtor
set_option maxRecDepth 20000 in
theorem ggX2_read_X2_readInvoice : GoodIn wsX2_read wsX2_readInvoice := goodIn_r _ [166, 106, 108, 110, 111, 112, 113, 114, 115, 120, 121, 122, 8, 123, 3, 1, 30, 5, 6, 7, 9, 10, 11, 4, 12, 13, 14, 15, 16, 17, 18, 19, 20, 21, 22, 23, 24, 25, 26, 27, 28, 29, 31, 32, 33, 34, 35, 36, 124, 125, 126, 127, 167, 168, 169, 131, 170, 171, 134, 135, 136, 137, 138, 139, 140, 141, 142, 143, 144, 145, 146, 147, 148, 172, 173, 174, 175, 176, 177, 178, 179, 182, 183, 184, 185, 186, 187, 188, 189, 190, 191, 180, 181] (by decide +kernel) (by decide +kernel)
set_option maxRecDepth 20000 in
theorem gX2_read_X2_readInvoice : GoodIn wsX2_read (wsV RX2 44 RX2 yX2_readInvoice wsX2_readInvoice) := goodIn_app (goodIn_of _ (by decide +kernel)) ggX2_read_X2_readInvoice
theorem dX2_read_0 : decode cX2_read 0 = .ok (.iconst 0, 1) := by decide +kernel
theorem dX2_read_1 : decode cX2_read 1 = .ok (.istore_n 1, 1) := by decide +kernel
theorem dX2_read_2 : decode cX2_read 2 = .ok (.iload_n 1, 1) := by decide +kernel
theorem dX2_read_3 : decode cX2_read 3 = .ok (.bipush 25, 2) := by decide +kernel
theorem dX2_read_5 : decode cX2_read 5 = .ok (.if_icmp .gt 123, 3) := by decide +kernel
theorem dX2_read_8 : decode cX2_read 8 = .ok (.aload_n 0, 1) := by decide +kernel
theorem dX2_read_9 : decode cX2_read 9 = .ok (.invokevirtual 26, 3) := by decide +kernel
theorem dX2_read_12 : decode cX2_read 12 = .ok (.aload_n 0, 1) := by decide +kernel
theorem dX2_read_13 : decode cX2_read 13 = .ok (.getfield 29, 3) := by decide +kernel
theorem dX2_read_16 : decode cX2_read 16 = .ok (.iconst 4, 1) := by decide +kernel
theorem dX2_read_17 : decode cX2_read 17 = .ok (.if_icmp .ne 13, 3) := by decide +kernel
theorem dX2_read_20 : decode cX2_read 20 = .ok (.aload_n 0, 1) := by decide +kernel
theorem dX2_read_21 : decode cX2_read 21 = .ok (.getfield 19, 3) := by decide +kernel
theorem dX2_read_24 : decode cX2_read 24 = .ok (.iconst 1, 1) := by decide +kernel
theorem dX2_read_25 : decode cX2_read 25 = .ok (.if_icmp .lt 5, 3) := by decide +kernel
theorem dX2_read_28 : decode cX2_read 28 = .ok (.iload_n 1, 1) := by decide +kernel
theorem dX2_read_29 : decode cX2_read 29 = .ok (.ireturn, 1) := by decide +kernel
theorem dX2_read_30 : decode cX2_read 30 = .ok (.aload_n 0, 1) := by decide +kernel
theorem dX2_read_31 : decode cX2_read 31 = .ok (.invokevirtual 32, 3) := by decide +kernel
theorem dX2_read_34 : decode cX2_read 34 = .ok (.aload_n 0, 1) := by decide +kernel
theorem dX2_read_35 : decode cX2_read 35 = .ok (.getfield 23, 3) := by decide +kernel
theorem dX2_read_38 : decode cX2_read 38 = .ok (.ifCond .ne 10, 3) := by decide +kernel
theorem dX2_read_41 : decode cX2_read 41 = .ok (.aload_n 0, 1) := by decide +kernel
theorem dX2_read_42 : decode cX2_read 42 = .ok (.getfield 19, 3) := by decide +kernel
theorem dX2_read_45 : decode cX2_read 45 = .ok (.goto 4, 3) := by decide +kernel
theorem dX2_read_48 : decode cX2_read 48 = .ok (.iconst (-1), 1) := by decide +kernel
theorem dX2_read_49 : decode cX2_read 49 = .ok (.tableswitch 59 0 3 #[31, 38, 45, 52], 31) := by decide +kernel
theorem dX2_read_80 : decode cX2_read 80 = .ok (.aload_n 0, 1) := by decide +kernel
theorem dX2_read_81 : decode cX2_read 81 = .ok (.invokevirtual 35, 3) := by decide +kernel
theorem dX2_read_84 : decode cX2_read 84 = .ok (.goto 24, 3) := by decide +kernel
theorem dX2_read_87 : decode cX2_read 87 = .ok (.aload_n 0, 1) := by decide +kernel
theorem dX2_read_88 : decode cX2_read 88 = .ok (.invokevirtual 38, 3) := by decide +kernel
theorem dX2_read_91 : decode cX2_read 91 = .ok (.goto 17, 3) := by decide +kernel
theorem dX2_read_94 : decode cX2_read 94 = .ok (.aload_n 0, 1) := by decide +kernel
theorem dX2_read_95 : decode cX2_read 95 = .ok (.invokevirtual 41, 3) := by decide +kernel
theorem dX2_read_98 : decode cX2_read 98 = .ok (.goto 10, 3) := by decide +kernel
theorem dX2_read_101 : decode cX2_read 101 = .ok (.aload_n 0, 1) := by decide +kernel
theorem dX2_read_102 : decode cX2_read 102 = .ok (.invokevirtual 44, 3) := by decide +kernel
theorem dX2_read_105 : decode cX2_read 105 = .ok (.goto 3, 3) := by decide +kernel
theorem dX2_read_108 : decode cX2_read 108 = .ok (.aload_n 0, 1) := by decide +kernel
theorem dX2_read_109 : decode cX2_read 109 = .ok (.getfield 23, 3) := by decide +kernel
theorem dX2_read_112 : decode cX2_read 112 = .ok (.ifCond .eq 10, 3) := by decide +kernel
theorem dX2_read_115 : decode cX2_read 115 = .ok (.iconst (-1), 1) := by decide +kernel
theorem dX2_read_116 : decode cX2_read 116 = .ok (.aload_n 0, 1) := by decide +kernel
theorem dX2_read_117 : decode cX2_read 117 = .ok (.getfield 47, 3) := by decide +kernel
theorem dX2_read_120 : decode cX2_read 120 = .ok (.isub, 1) := by decide +kernel
theorem dX2_read_121 : decode cX2_read 121 = .ok (.ireturn, 1) := by decide +kernel
theorem dX2_read_122 : decode cX2_read 122 = .ok (.iinc 1 1, 3) := by decide +kernel
theorem dX2_read_125 : decode cX2_read 125 = .ok (.goto (-123), 3) := by decide +kernel
theorem dX2_read_128 : decode cX2_read 128 = .ok (.aload_n 0, 1) := by decide +kernel
theorem dX2_read_129 : decode cX2_read 129 = .ok (.iconst 3, 1) := by decide +kernel
theorem dX2_read_130 : decode cX2_read 130 = .ok (.putfield 23, 3) := by decide +kernel
theorem dX2_read_133 : decode cX2_read 133 = .ok (.iconst (-1), 1) := by decide +kernel
theorem dX2_read_134 : decode cX2_read 134 = .ok (.aload_n 0, 1) := by decide +kernel
theorem dX2_read_135 : decode cX2_read 135 = .ok (.getfield 47, 3) := by decide +kernel
theorem dX2_read_138 : decode cX2_read 138 = .ok (.isub, 1) := by decide +kernel
theorem dX2_read_139 : decode cX2_read 139 = .ok (.ireturn, 1) := by decide +kernel
set_option maxRecDepth 20000 in
theorem ggX2_takeSort_X2_sortOfWord : GoodIn wsX2_takeSort wsX2_sortOfWord := goodIn_r _ [8, 9, 10, 11, 7, 12, 13, 14, 15, 16, 17, 18, 19, 20, 21, 22, 23, 24, 25, 26, 27, 28, 29, 30, 31, 32, 33, 34, 35, 36, 37, 38, 39, 40, 41, 42, 43, 44, 45, 46, 47, 48, 49, 50, 51, 52, 53, 54, 55, 56, 57, 58, 59, 60, 61, 62, 63, 64, 65, 66, 67, 68, 69, 70, 71, 90, 91, 92, 93, 94, 95, 96, 97, 98, 99] (by decide +kernel) (by decide +kernel)
set_option maxRecDepth 20000 in
theorem gX2_takeSort_X2_sortOfWord : GoodIn wsX2_takeSort (wsV RX2 50 RX2 yX2_sortOfWord wsX2_sortOfWord) := goodIn_app (goodIn_of _ (by decide +kernel)) ggX2_takeSort_X2_sortOfWord
set_option maxRecDepth 20000 in
theorem ggX2_takeSort_X2_mayComeNow : GoodIn wsX2_takeSort wsX2_mayComeNow := goodIn_r _ [75, 3, 90, 91, 92, 93, 94, 95, 96, 97] (by decide +kernel) (by decide +kernel)
set_option maxRecDepth 20000 in
theorem gX2_takeSort_X2_mayComeNow : GoodIn wsX2_takeSort (wsV RX2 54 RX2 yX2_mayComeNow wsX2_mayComeNow) := goodIn_app (goodIn_of _ (by decide +kernel)) ggX2_takeSort_X2_mayComeNow
set_option maxRecDepth 20000 in
theorem ggX2_takeSort_X2_hasAllOf : GoodIn wsX2_takeSort wsX2_hasAllOf := goodIn_r _ [79, 80, 81, 82, 83, 84, 85, 86, 87, 88, 89, 90, 91, 92, 93, 94, 95, 96, 97, 100, 101, 102, 103, 104, 105, 106, 107, 108, 109] (by decide +kernel) (by decide +kernel)
set_option maxRecDepth 20000 in
theorem gX2_takeSort_X2_hasAllOf : GoodIn wsX2_takeSort (wsV RX2 58 RX2 yX2_hasAllOf wsX2_hasAllOf) := goodIn_app (goodIn_of _ (by decide +kernel)) ggX2_takeSort_X2_hasAllOf
theorem dX2_takeSort_0 : decode cX2_takeSort 0 = .ok (.aload_n 0, 1) := by decide +kernel
theorem dX2_takeSort_1 : decode cX2_takeSort 1 = .ok (.getfield 29, 3) := by decide +kernel
theorem dX2_takeSort_4 : decode cX2_takeSort 4 = .ok (.iconst 1, 1) := by decide +kernel
theorem dX2_takeSort_5 : decode cX2_takeSort 5 = .ok (.if_icmp .ne 10, 3) := by decide +kernel
theorem dX2_takeSort_8 : decode cX2_takeSort 8 = .ok (.aload_n 0, 1) := by decide +kernel
theorem dX2_takeSort_9 : decode cX2_takeSort 9 = .ok (.invokevirtual 50, 3) := by decide +kernel
theorem dX2_takeSort_12 : decode cX2_takeSort 12 = .ok (.goto 4, 3) := by decide +kernel
theorem dX2_takeSort_15 : decode cX2_takeSort 15 = .ok (.iconst (-1), 1) := by decide +kernel
theorem dX2_takeSort_16 : decode cX2_takeSort 16 = .ok (.istore_n 1, 1) := by decide +kernel
theorem dX2_takeSort_17 : decode cX2_takeSort 17 = .ok (.aload_n 0, 1) := by decide +kernel
theorem dX2_takeSort_18 : decode cX2_takeSort 18 = .ok (.iload_n 1, 1) := by decide +kernel
theorem dX2_takeSort_19 : decode cX2_takeSort 19 = .ok (.invokevirtual 54, 3) := by decide +kernel
theorem dX2_takeSort_22 : decode cX2_takeSort 22 = .ok (.ifCond .ne 11, 3) := by decide +kernel
theorem dX2_takeSort_25 : decode cX2_takeSort 25 = .ok (.aload_n 0, 1) := by decide +kernel
theorem dX2_takeSort_26 : decode cX2_takeSort 26 = .ok (.iconst 1, 1) := by decide +kernel
theorem dX2_takeSort_27 : decode cX2_takeSort 27 = .ok (.putfield 23, 3) := by decide +kernel
theorem dX2_takeSort_30 : decode cX2_takeSort 30 = .ok (.goto 24, 3) := by decide +kernel
theorem dX2_takeSort_33 : decode cX2_takeSort 33 = .ok (.aload_n 0, 1) := by decide +kernel
theorem dX2_takeSort_34 : decode cX2_takeSort 34 = .ok (.iload_n 1, 1) := by decide +kernel
theorem dX2_takeSort_35 : decode cX2_takeSort 35 = .ok (.invokevirtual 58, 3) := by decide +kernel
theorem dX2_takeSort_38 : decode cX2_takeSort 38 = .ok (.ifCond .eq 11, 3) := by decide +kernel
theorem dX2_takeSort_41 : decode cX2_takeSort 41 = .ok (.aload_n 0, 1) := by decide +kernel
theorem dX2_takeSort_42 : decode cX2_takeSort 42 = .ok (.iconst 3, 1) := by decide +kernel
theorem dX2_takeSort_43 : decode cX2_takeSort 43 = .ok (.putfield 23, 3) := by decide +kernel
theorem dX2_takeSort_46 : decode cX2_takeSort 46 = .ok (.goto 8, 3) := by decide +kernel
theorem dX2_takeSort_49 : decode cX2_takeSort 49 = .ok (.aload_n 0, 1) := by decide +kernel
theorem dX2_takeSort_50 : decode cX2_takeSort 50 = .ok (.iload_n 1, 1) := by decide +kernel
theorem dX2_takeSort_51 : decode cX2_takeSort 51 = .ok (.putfield 19, 3) := by decide +kernel
theorem dX2_takeSort_54 : decode cX2_takeSort 54 = .ok (.return_, 1) := by decide +kernel
set_option maxRecDepth 20000 in
theorem ggX2_sortOfWord_X2_isWord : GoodIn wsX2_sortOfWord wsX2_isWord := goodIn_r _ [5, 6, 7, 8, 9, 10, 11, 12, 13, 14, 15, 16, 17, 18, 19, 20, 21, 22, 23, 24, 25, 26, 27, 28, 29, 30, 31, 32, 33, 34, 35, 36, 37, 38, 39, 40, 41, 42, 43, 44, 45, 46, 47, 48, 49, 50, 51, 52, 53, 54, 55, 56, 57, 58, 59, 60, 61, 62, 63, 64, 65, 66, 67, 68, 69, 70, 71, 72, 73, 74] (by decide +kernel) (by decide +kernel)
set_option maxRecDepth 20000 in
theorem gX2_sortOfWord_X2_isWord : GoodIn wsX2_sortOfWord (wsV RX2 63 RX2 yX2_isWord wsX2_isWord) := goodIn_app (goodIn_of _ (by decide +kernel)) ggX2_sortOfWord_X2_isWord
theorem dX2_sortOfWord_0 : decode cX2_sortOfWord 0 = .ok (.aload_n 0, 1) := by decide +kernel
theorem dX2_sortOfWord_1 : decode cX2_sortOfWord 1 = .ok (.ldc 61, 2) := by decide +kernel
theorem dX2_sortOfWord_3 : decode cX2_sortOfWord 3 = .ok (.invokevirtual 63, 3) := by decide +kernel
theorem dX2_sortOfWord_6 : decode cX2_sortOfWord 6 = .ok (.ifCond .eq 5, 3) := by decide +kernel
theorem dX2_sortOfWord_9 : decode cX2_sortOfWord 9 = .ok (.iconst 0, 1) := by decide +kernel
theorem dX2_sortOfWord_10 : decode cX2_sortOfWord 10 = .ok (.ireturn, 1) := by decide +kernel
theorem dX2_sortOfWord_11 : decode cX2_sortOfWord 11 = .ok (.aload_n 0, 1) := by decide +kernel
theorem dX2_sortOfWord_12 : decode cX2_sortOfWord 12 = .ok (.ldc 67, 2) := by decide +kernel
theorem dX2_sortOfWord_14 : decode cX2_sortOfWord 14 = .ok (.invokevirtual 63, 3) := by decide +kernel
theorem dX2_sortOfWord_17 : decode cX2_sortOfWord 17 = .ok (.ifCond .eq 5, 3) := by decide +kernel
theorem dX2_sortOfWord_20 : decode cX2_sortOfWord 20 = .ok (.iconst 1, 1) := by decide +kernel
theorem dX2_sortOfWord_21 : decode cX2_sortOfWord 21 = .ok (.ireturn, 1) := by decide +kernel
theorem dX2_sortOfWord_22 : decode cX2_sortOfWord 22 = .ok (.aload_n 0, 1) := by decide +kernel
theorem dX2_sortOfWord_23 : decode cX2_sortOfWord 23 = .ok (.ldc 69, 2) := by decide +kernel
theorem dX2_sortOfWord_25 : decode cX2_sortOfWord 25 = .ok (.invokevirtual 63, 3) := by decide +kernel
theorem dX2_sortOfWord_28 : decode cX2_sortOfWord 28 = .ok (.ifCond .eq 5, 3) := by decide +kernel
theorem dX2_sortOfWord_31 : decode cX2_sortOfWord 31 = .ok (.iconst 2, 1) := by decide +kernel
theorem dX2_sortOfWord_32 : decode cX2_sortOfWord 32 = .ok (.ireturn, 1) := by decide +kernel
theorem dX2_sortOfWord_33 : decode cX2_sortOfWord 33 = .ok (.aload_n 0, 1) := by decide +kernel
theorem dX2_sortOfWord_34 : decode cX2_sortOfWord 34 = .ok (.ldc 71, 2) := by decide +kernel
theorem dX2_sortOfWord_36 : decode cX2_sortOfWord 36 = .ok (.invokevirtual 63, 3) := by decide +kernel
theorem dX2_sortOfWord_39 : decode cX2_sortOfWord 39 = .ok (.ifCond .eq 7, 3) := by decide +kernel
theorem dX2_sortOfWord_42 : decode cX2_sortOfWord 42 = .ok (.iconst 3, 1) := by decide +kernel
theorem dX2_sortOfWord_43 : decode cX2_sortOfWord 43 = .ok (.goto 4, 3) := by decide +kernel
theorem dX2_sortOfWord_46 : decode cX2_sortOfWord 46 = .ok (.iconst (-1), 1) := by decide +kernel
theorem dX2_sortOfWord_47 : decode cX2_sortOfWord 47 = .ok (.ireturn, 1) := by decide +kernel
theorem dX2_mayComeNow_0 : decode cX2_mayComeNow 0 = .ok (.aload_n 0, 1) := by decide +kernel
theorem dX2_mayComeNow_1 : decode cX2_mayComeNow 1 = .ok (.getfield 19, 3) := by decide +kernel
theorem dX2_mayComeNow_4 : decode cX2_mayComeNow 4 = .ok (.lookupswitch 54 #[(0, 28), (3, 43)], 28) := by decide +kernel
theorem dX2_mayComeNow_32 : decode cX2_mayComeNow 32 = .ok (.iload_n 1, 1) := by decide +kernel
theorem dX2_mayComeNow_33 : decode cX2_mayComeNow 33 = .ok (.ifCond .eq 8, 3) := by decide +kernel
theorem dX2_mayComeNow_36 : decode cX2_mayComeNow 36 = .ok (.iload_n 1, 1) := by decide +kernel
theorem dX2_mayComeNow_37 : decode cX2_mayComeNow 37 = .ok (.iconst 1, 1) := by decide +kernel
theorem dX2_mayComeNow_38 : decode cX2_mayComeNow 38 = .ok (.if_icmp .ne 7, 3) := by decide +kernel
theorem dX2_mayComeNow_41 : decode cX2_mayComeNow 41 = .ok (.iconst 1, 1) := by decide +kernel
theorem dX2_mayComeNow_42 : decode cX2_mayComeNow 42 = .ok (.goto 4, 3) := by decide +kernel
theorem dX2_mayComeNow_45 : decode cX2_mayComeNow 45 = .ok (.iconst 0, 1) := by decide +kernel
theorem dX2_mayComeNow_46 : decode cX2_mayComeNow 46 = .ok (.ireturn, 1) := by decide +kernel
theorem dX2_mayComeNow_47 : decode cX2_mayComeNow 47 = .ok (.iload_n 1, 1) := by decide +kernel
theorem dX2_mayComeNow_48 : decode cX2_mayComeNow 48 = .ok (.iconst 3, 1) := by decide +kernel
theorem dX2_mayComeNow_49 : decode cX2_mayComeNow 49 = .ok (.if_icmp .ne 7, 3) := by decide +kernel
theorem dX2_mayComeNow_52 : decode cX2_mayComeNow 52 = .ok (.iconst 1, 1) := by decide +kernel
theorem dX2_mayComeNow_53 : decode cX2_mayComeNow 53 = .ok (.goto 4, 3) := by decide +kernel
theorem dX2_mayComeNow_56 : decode cX2_mayComeNow 56 = .ok (.iconst 0, 1) := by decide +kernel
theorem dX2_mayComeNow_57 : decode cX2_mayComeNow 57 = .ok (.ireturn, 1) := by decide +kernel
theorem dX2_mayComeNow_58 : decode cX2_mayComeNow 58 = .ok (.iload_n 1, 1) := by decide +kernel
theorem dX2_mayComeNow_59 : decode cX2_mayComeNow 59 = .ok (.iconst 2, 1) := by decide +kernel
theorem dX2_mayComeNow_60 : decode cX2_mayComeNow 60 = .ok (.if_icmp .eq 8, 3) := by decide +kernel
theorem dX2_mayComeNow_63 : decode cX2_mayComeNow 63 = .ok (.iload_n 1, 1) := by decide +kernel
theorem dX2_mayComeNow_64 : decode cX2_mayComeNow 64 = .ok (.iconst 3, 1) := by decide +kernel
theorem dX2_mayComeNow_65 : decode cX2_mayComeNow 65 = .ok (.if_icmp .ne 7, 3) := by decide +kernel
theorem dX2_mayComeNow_68 : decode cX2_mayComeNow 68 = .ok (.iconst 1, 1) := by decide +kernel
theorem dX2_mayComeNow_69 : decode cX2_mayComeNow 69 = .ok (.goto 4, 3) := by decide +kernel
theorem dX2_mayComeNow_72 : decode cX2_mayComeNow 72 = .ok (.iconst 0, 1) := by decide +kernel
theorem dX2_mayComeNow_73 : decode cX2_mayComeNow 73 = .ok (.ireturn, 1) := by decide +kernel
set_option maxRecDepth 20000 in
theorem ggX2_hasAllOf_X3_size : GoodIn wsX2_hasAllOf wsX3_size := goodIn_r _ [9, 10, 26, 27, 28] (by decide +kernel) (by decide +kernel)
set_option maxRecDepth 20000 in
theorem gX2_hasAllOf_X3_size : GoodIn wsX2_hasAllOf (wsV RX2 79 RX3 yX3_size wsX3_size) := goodIn_app (goodIn_of _ (by decide +kernel)) ggX2_hasAllOf_X3_size
theorem dX2_hasAllOf_0 : decode cX2_hasAllOf 0 = .ok (.iload_n 1, 1) := by decide +kernel
theorem dX2_hasAllOf_1 : decode cX2_hasAllOf 1 = .ok (.tableswitch 94 0 3 #[31, 94, 52, 73], 31) := by decide +kernel
theorem dX2_hasAllOf_32 : decode cX2_hasAllOf 32 = .ok (.aload_n 0, 1) := by decide +kernel
theorem dX2_hasAllOf_33 : decode cX2_hasAllOf 33 = .ok (.getfield 15, 3) := by decide +kernel
theorem dX2_hasAllOf_36 : decode cX2_hasAllOf 36 = .ok (.getfield 73, 3) := by decide +kernel
theorem dX2_hasAllOf_39 : decode cX2_hasAllOf 39 = .ok (.invokevirtual 79, 3) := by decide +kernel
theorem dX2_hasAllOf_42 : decode cX2_hasAllOf 42 = .ok (.bipush 6, 2) := by decide +kernel
theorem dX2_hasAllOf_44 : decode cX2_hasAllOf 44 = .ok (.if_icmp .lt 7, 3) := by decide +kernel
theorem dX2_hasAllOf_47 : decode cX2_hasAllOf 47 = .ok (.iconst 1, 1) := by decide +kernel
theorem dX2_hasAllOf_48 : decode cX2_hasAllOf 48 = .ok (.goto 4, 3) := by decide +kernel
theorem dX2_hasAllOf_51 : decode cX2_hasAllOf 51 = .ok (.iconst 0, 1) := by decide +kernel
theorem dX2_hasAllOf_52 : decode cX2_hasAllOf 52 = .ok (.ireturn, 1) := by decide +kernel
theorem dX2_hasAllOf_53 : decode cX2_hasAllOf 53 = .ok (.aload_n 0, 1) := by decide +kernel
theorem dX2_hasAllOf_54 : decode cX2_hasAllOf 54 = .ok (.getfield 15, 3) := by decide +kernel
theorem dX2_hasAllOf_57 : decode cX2_hasAllOf 57 = .ok (.getfield 84, 3) := by decide +kernel
theorem dX2_hasAllOf_60 : decode cX2_hasAllOf 60 = .ok (.invokevirtual 79, 3) := by decide +kernel
theorem dX2_hasAllOf_63 : decode cX2_hasAllOf 63 = .ok (.bipush 6, 2) := by decide +kernel
theorem dX2_hasAllOf_65 : decode cX2_hasAllOf 65 = .ok (.if_icmp .lt 7, 3) := by decide +kernel
theorem dX2_hasAllOf_68 : decode cX2_hasAllOf 68 = .ok (.iconst 1, 1) := by decide +kernel
theorem dX2_hasAllOf_69 : decode cX2_hasAllOf 69 = .ok (.goto 4, 3) := by decide +kernel
theorem dX2_hasAllOf_72 : decode cX2_hasAllOf 72 = .ok (.iconst 0, 1) := by decide +kernel
theorem dX2_hasAllOf_73 : decode cX2_hasAllOf 73 = .ok (.ireturn, 1) := by decide +kernel
theorem dX2_hasAllOf_74 : decode cX2_hasAllOf 74 = .ok (.aload_n 0, 1) := by decide +kernel
theorem dX2_hasAllOf_75 : decode cX2_hasAllOf 75 = .ok (.getfield 15, 3) := by decide +kernel
theorem dX2_hasAllOf_78 : decode cX2_hasAllOf 78 = .ok (.getfield 87, 3) := by decide +kernel
theorem dX2_hasAllOf_81 : decode cX2_hasAllOf 81 = .ok (.invokevirtual 79, 3) := by decide +kernel
theorem dX2_hasAllOf_84 : decode cX2_hasAllOf 84 = .ok (.bipush 12, 2) := by decide +kernel
theorem dX2_hasAllOf_86 : decode cX2_hasAllOf 86 = .ok (.if_icmp .lt 7, 3) := by decide +kernel
theorem dX2_hasAllOf_89 : decode cX2_hasAllOf 89 = .ok (.iconst 1, 1) := by decide +kernel
theorem dX2_hasAllOf_90 : decode cX2_hasAllOf 90 = .ok (.goto 4, 3) := by decide +kernel
theorem dX2_hasAllOf_93 : decode cX2_hasAllOf 93 = .ok (.iconst 0, 1) := by decide +kernel
theorem dX2_hasAllOf_94 : decode cX2_hasAllOf 94 = .ok (.ireturn, 1) := by decide +kernel
theorem dX2_hasAllOf_95 : decode cX2_hasAllOf 95 = .ok (.iconst 0, 1) := by decide +kernel
theorem dX2_hasAllOf_96 : decode cX2_hasAllOf 96 = .ok (.ireturn, 1) := by decide +kernel
set_option maxRecDepth 20000 in
theorem ggX2_readStep_X2_takeNumber : GoodIn wsX2_readStep wsX2_takeNumber := goodIn_r _ [6, 7, 8, 9, 10, 11, 12, 5, 13, 14, 15, 16, 17, 18, 19, 20, 21, 22, 23, 24, 25, 26, 27, 28, 29, 30, 31, 32, 33, 34, 35, 36, 37, 38, 39, 40, 68, 69, 70, 71, 72, 73, 74, 75, 76, 77] (by decide +kernel) (by decide +kernel)
set_option maxRecDepth 20000 in
theorem gX2_readStep_X2_takeNumber : GoodIn wsX2_readStep (wsV RX2 90 RX2 yX2_takeNumber wsX2_takeNumber) := goodIn_app (goodIn_of _ (by decide +kernel)) ggX2_readStep_X2_takeNumber
set_option maxRecDepth 20000 in
theorem ggX2_readStep_X2_takeSemicolon : GoodIn wsX2_readStep wsX2_takeSemicolon := goodIn_r _ [44, 7, 8, 10, 11, 12, 5, 13, 14, 15, 16, 17, 18, 19, 20, 21, 22, 23, 24, 25, 26, 27, 28, 29, 30, 31, 32, 33, 34, 9, 35, 36, 37, 38, 39, 40, 68, 69, 70, 71, 72, 73, 74, 75, 76, 77] (by decide +kernel) (by decide +kernel)
set_option maxRecDepth 20000 in
theorem gX2_readStep_X2_takeSemicolon : GoodIn wsX2_readStep (wsV RX2 94 RX2 yX2_takeSemicolon wsX2_takeSemicolon) := goodIn_app (goodIn_of _ (by decide +kernel)) ggX2_readStep_X2_takeSemicolon
set_option maxRecDepth 20000 in
theorem ggX2_readStep_X0_addStep : GoodIn wsX2_readStep wsX0_addStep := goodIn_r _ [49, 50, 51, 52, 53, 54, 55, 56, 57, 58, 59, 60, 61, 62, 63, 64, 65, 66, 67, 78, 79, 80, 81, 82, 83, 84, 85, 86, 87] (by decide +kernel) (by decide +kernel)
set_option maxRecDepth 20000 in
theorem gX2_readStep_X0_addStep : GoodIn wsX2_readStep (wsV RX2 98 RX0 yX0_addStep wsX0_addStep) := goodIn_app (goodIn_of _ (by decide +kernel)) ggX2_readStep_X0_addStep
theorem dX2_readStep_0 : decode cX2_readStep 0 = .ok (.aload_n 0, 1) := by decide +kernel
theorem dX2_readStep_1 : decode cX2_readStep 1 = .ok (.iconst 1, 1) := by decide +kernel
theorem dX2_readStep_2 : decode cX2_readStep 2 = .ok (.bipush 99, 2) := by decide +kernel
theorem dX2_readStep_4 : decode cX2_readStep 4 = .ok (.invokevirtual 90, 3) := by decide +kernel
theorem dX2_readStep_7 : decode cX2_readStep 7 = .ok (.istore_n 1, 1) := by decide +kernel
theorem dX2_readStep_8 : decode cX2_readStep 8 = .ok (.aload_n 0, 1) := by decide +kernel
theorem dX2_readStep_9 : decode cX2_readStep 9 = .ok (.iconst 0, 1) := by decide +kernel
theorem dX2_readStep_10 : decode cX2_readStep 10 = .ok (.bipush 99, 2) := by decide +kernel
theorem dX2_readStep_12 : decode cX2_readStep 12 = .ok (.invokevirtual 90, 3) := by decide +kernel
theorem dX2_readStep_15 : decode cX2_readStep 15 = .ok (.istore_n 2, 1) := by decide +kernel
theorem dX2_readStep_16 : decode cX2_readStep 16 = .ok (.aload_n 0, 1) := by decide +kernel
theorem dX2_readStep_17 : decode cX2_readStep 17 = .ok (.iconst 0, 1) := by decide +kernel
theorem dX2_readStep_18 : decode cX2_readStep 18 = .ok (.sipush 999, 3) := by decide +kernel
theorem dX2_readStep_21 : decode cX2_readStep 21 = .ok (.invokevirtual 90, 3) := by decide +kernel
theorem dX2_readStep_24 : decode cX2_readStep 24 = .ok (.istore_n 3, 1) := by decide +kernel
theorem dX2_readStep_25 : decode cX2_readStep 25 = .ok (.aload_n 0, 1) := by decide +kernel
theorem dX2_readStep_26 : decode cX2_readStep 26 = .ok (.invokevirtual 94, 3) := by decide +kernel
theorem dX2_readStep_29 : decode cX2_readStep 29 = .ok (.ifCond .eq 13, 3) := by decide +kernel
theorem dX2_readStep_32 : decode cX2_readStep 32 = .ok (.aload_n 0, 1) := by decide +kernel
theorem dX2_readStep_33 : decode cX2_readStep 33 = .ok (.getfield 15, 3) := by decide +kernel
theorem dX2_readStep_36 : decode cX2_readStep 36 = .ok (.iload_n 1, 1) := by decide +kernel
theorem dX2_readStep_37 : decode cX2_readStep 37 = .ok (.iload_n 2, 1) := by decide +kernel
theorem dX2_readStep_38 : decode cX2_readStep 38 = .ok (.iload_n 3, 1) := by decide +kernel
theorem dX2_readStep_39 : decode cX2_readStep 39 = .ok (.invokevirtual 98, 3) := by decide +kernel
theorem dX2_readStep_42 : decode cX2_readStep 42 = .ok (.return_, 1) := by decide +kernel
set_option maxRecDepth 20000 in
theorem ggX2_readHold_X2_takeNumber : GoodIn wsX2_readHold wsX2_takeNumber := goodIn_r _ [7, 8, 9, 10, 11, 12, 13, 6, 14, 15, 16, 17, 18, 19, 20, 21, 22, 23, 24, 25, 26, 27, 28, 29, 30, 31, 32, 33, 34, 35, 36, 37, 38, 39, 40, 41, 46, 47, 48, 49, 50, 51, 52, 53, 61, 62] (by decide +kernel) (by decide +kernel)
set_option maxRecDepth 20000 in
theorem gX2_readHold_X2_takeNumber : GoodIn wsX2_readHold (wsV RX2 90 RX2 yX2_takeNumber wsX2_takeNumber) := goodIn_app (goodIn_of _ (by decide +kernel)) ggX2_readHold_X2_takeNumber
set_option maxRecDepth 20000 in
theorem ggX2_readHold_X2_takeSemicolon : GoodIn wsX2_readHold wsX2_takeSemicolon := goodIn_r _ [45, 8, 9, 11, 12, 13, 6, 14, 15, 16, 17, 18, 19, 20, 21, 22, 23, 24, 25, 26, 27, 28, 29, 30, 31, 32, 33, 34, 35, 10, 36, 37, 38, 39, 40, 41, 46, 47, 48, 49, 50, 51, 52, 53, 61, 62] (by decide +kernel) (by decide +kernel)
set_option maxRecDepth 20000 in
theorem gX2_readHold_X2_takeSemicolon : GoodIn wsX2_readHold (wsV RX2 94 RX2 yX2_takeSemicolon wsX2_takeSemicolon) := goodIn_app (goodIn_of _ (by decide +kernel)) ggX2_readHold_X2_takeSemicolon
theorem dX2_readHold_0 : decode cX2_readHold 0 = .ok (.aload_n 0, 1) := by decide +kernel
theorem dX2_readHold_1 : decode cX2_readHold 1 = .ok (.iconst 1, 1) := by decide +kernel
theorem dX2_readHold_2 : decode cX2_readHold 2 = .ok (.bipush 9, 2) := by decide +kernel
theorem dX2_readHold_4 : decode cX2_readHold 4 = .ok (.invokevirtual 90, 3) := by decide +kernel
theorem dX2_readHold_7 : decode cX2_readHold 7 = .ok (.istore_n 1, 1) := by decide +kernel
theorem dX2_readHold_8 : decode cX2_readHold 8 = .ok (.aload_n 0, 1) := by decide +kernel
theorem dX2_readHold_9 : decode cX2_readHold 9 = .ok (.invokevirtual 94, 3) := by decide +kernel
theorem dX2_readHold_12 : decode cX2_readHold 12 = .ok (.ifCond .eq 11, 3) := by decide +kernel
theorem dX2_readHold_15 : decode cX2_readHold 15 = .ok (.aload_n 0, 1) := by decide +kernel
theorem dX2_readHold_16 : decode cX2_readHold 16 = .ok (.getfield 15, 3) := by decide +kernel
theorem dX2_readHold_19 : decode cX2_readHold 19 = .ok (.iload_n 1, 1) := by decide +kernel
theorem dX2_readHold_20 : decode cX2_readHold 20 = .ok (.putfield 102, 3) := by decide +kernel
theorem dX2_readHold_23 : decode cX2_readHold 23 = .ok (.return_, 1) := by decide +kernel
set_option maxRecDepth 20000 in
theorem ggX2_readDebtor_X2_takeNumber : GoodIn wsX2_readDebtor wsX2_takeNumber := goodIn_r _ [6, 7, 8, 9, 10, 11, 12, 5, 13, 14, 15, 16, 17, 18, 19, 20, 21, 22, 23, 24, 25, 26, 27, 28, 29, 30, 31, 32, 33, 34, 35, 36, 37, 38, 39, 40, 68, 69, 70, 71, 72, 73, 74, 75, 76, 77] (by decide +kernel) (by decide +kernel)
set_option maxRecDepth 20000 in
theorem gX2_readDebtor_X2_takeNumber : GoodIn wsX2_readDebtor (wsV RX2 90 RX2 yX2_takeNumber wsX2_takeNumber) := goodIn_app (goodIn_of _ (by decide +kernel)) ggX2_readDebtor_X2_takeNumber
set_option maxRecDepth 20000 in
theorem ggX2_readDebtor_X2_takeSemicolon : GoodIn wsX2_readDebtor wsX2_takeSemicolon := goodIn_r _ [44, 7, 8, 10, 11, 12, 5, 13, 14, 15, 16, 17, 18, 19, 20, 21, 22, 23, 24, 25, 26, 27, 28, 29, 30, 31, 32, 33, 34, 9, 35, 36, 37, 38, 39, 40, 68, 69, 70, 71, 72, 73, 74, 75, 76, 77] (by decide +kernel) (by decide +kernel)
set_option maxRecDepth 20000 in
theorem gX2_readDebtor_X2_takeSemicolon : GoodIn wsX2_readDebtor (wsV RX2 94 RX2 yX2_takeSemicolon wsX2_takeSemicolon) := goodIn_app (goodIn_of _ (by decide +kernel)) ggX2_readDebtor_X2_takeSemicolon
set_option maxRecDepth 20000 in
theorem ggX2_readDebtor_X0_addDebtor : GoodIn wsX2_readDebtor wsX0_addDebtor := goodIn_r _ [49, 50, 51, 52, 53, 54, 55, 56, 57, 58, 59, 60, 61, 62, 63, 64, 65, 66, 67, 78, 79, 80, 81, 82, 83, 84, 85, 86, 87] (by decide +kernel) (by decide +kernel)
set_option maxRecDepth 20000 in
theorem gX2_readDebtor_X0_addDebtor : GoodIn wsX2_readDebtor (wsV RX2 104 RX0 yX0_addDebtor wsX0_addDebtor) := goodIn_app (goodIn_of _ (by decide +kernel)) ggX2_readDebtor_X0_addDebtor
theorem dX2_readDebtor_0 : decode cX2_readDebtor 0 = .ok (.aload_n 0, 1) := by decide +kernel
theorem dX2_readDebtor_1 : decode cX2_readDebtor 1 = .ok (.iconst 0, 1) := by decide +kernel
theorem dX2_readDebtor_2 : decode cX2_readDebtor 2 = .ok (.sipush 9999, 3) := by decide +kernel
theorem dX2_readDebtor_5 : decode cX2_readDebtor 5 = .ok (.invokevirtual 90, 3) := by decide +kernel
theorem dX2_readDebtor_8 : decode cX2_readDebtor 8 = .ok (.istore_n 1, 1) := by decide +kernel
theorem dX2_readDebtor_9 : decode cX2_readDebtor 9 = .ok (.aload_n 0, 1) := by decide +kernel
theorem dX2_readDebtor_10 : decode cX2_readDebtor 10 = .ok (.iconst 0, 1) := by decide +kernel
theorem dX2_readDebtor_11 : decode cX2_readDebtor 11 = .ok (.bipush 99, 2) := by decide +kernel
theorem dX2_readDebtor_13 : decode cX2_readDebtor 13 = .ok (.invokevirtual 90, 3) := by decide +kernel
theorem dX2_readDebtor_16 : decode cX2_readDebtor 16 = .ok (.istore_n 2, 1) := by decide +kernel
theorem dX2_readDebtor_17 : decode cX2_readDebtor 17 = .ok (.aload_n 0, 1) := by decide +kernel
theorem dX2_readDebtor_18 : decode cX2_readDebtor 18 = .ok (.invokevirtual 94, 3) := by decide +kernel
theorem dX2_readDebtor_21 : decode cX2_readDebtor 21 = .ok (.ifCond .eq 12, 3) := by decide +kernel
theorem dX2_readDebtor_24 : decode cX2_readDebtor 24 = .ok (.aload_n 0, 1) := by decide +kernel
theorem dX2_readDebtor_25 : decode cX2_readDebtor 25 = .ok (.getfield 15, 3) := by decide +kernel
theorem dX2_readDebtor_28 : decode cX2_readDebtor 28 = .ok (.iload_n 1, 1) := by decide +kernel
theorem dX2_readDebtor_29 : decode cX2_readDebtor 29 = .ok (.iload_n 2, 1) := by decide +kernel
theorem dX2_readDebtor_30 : decode cX2_readDebtor 30 = .ok (.invokevirtual 104, 3) := by decide +kernel
theorem dX2_readDebtor_33 : decode cX2_readDebtor 33 = .ok (.return_, 1) := by decide +kernel
set_option maxRecDepth 20000 in
theorem ggX2_readInvoice_X3_size : GoodIn wsX2_readInvoice wsX3_size := goodIn_r _ [7, 8, 88, 89, 90] (by decide +kernel) (by decide +kernel)
set_option maxRecDepth 20000 in
theorem gX2_readInvoice_X3_size : GoodIn wsX2_readInvoice (wsV RX2 79 RX3 yX3_size wsX3_size) := goodIn_app (goodIn_of _ (by decide +kernel)) ggX2_readInvoice_X3_size
set_option maxRecDepth 20000 in
theorem ggX2_readInvoice_X2_takeNumber : GoodIn wsX2_readInvoice wsX2_takeNumber := goodIn_r _ [13, 14, 15, 16, 17, 18, 19, 12, 20, 21, 22, 23, 24, 25, 26, 27, 28, 29, 30, 31, 32, 33, 34, 35, 36, 37, 38, 39, 40, 41, 42, 43, 44, 45, 46, 47, 73, 74, 75, 76, 77, 78, 79, 80, 91, 92] (by decide +kernel) (by decide +kernel)
set_option maxRecDepth 20000 in
theorem gX2_readInvoice_X2_takeNumber : GoodIn wsX2_readInvoice (wsV RX2 90 RX2 yX2_takeNumber wsX2_takeNumber) := goodIn_app (goodIn_of _ (by decide +kernel)) ggX2_readInvoice_X2_takeNumber
set_option maxRecDepth 20000 in
theorem ggX2_readInvoice_X2_takeSemicolon : GoodIn wsX2_readInvoice wsX2_takeSemicolon := goodIn_r _ [51, 14, 15, 17, 18, 19, 12, 20, 21, 22, 23, 24, 25, 26, 27, 28, 29, 30, 31, 32, 33, 34, 35, 36, 37, 38, 39, 40, 41, 16, 42, 43, 44, 45, 46, 47, 73, 74, 75, 76, 77, 78, 79, 80, 91, 92] (by decide +kernel) (by decide +kernel)
set_option maxRecDepth 20000 in
theorem gX2_readInvoice_X2_takeSemicolon : GoodIn wsX2_readInvoice (wsV RX2 94 RX2 yX2_takeSemicolon wsX2_takeSemicolon) := goodIn_app (goodIn_of _ (by decide +kernel)) ggX2_readInvoice_X2_takeSemicolon
set_option maxRecDepth 20000 in
theorem ggX2_readInvoice_X0_addInvoice : GoodIn wsX2_readInvoice wsX0_addInvoice := goodIn_r _ [56, 57, 58, 59, 60, 6, 61, 8, 62, 63, 64, 65, 66, 67, 68, 69, 70, 71, 72, 81, 82, 83, 84, 85, 86, 87, 88, 89, 90] (by decide +kernel) (by decide +kernel)
set_option maxRecDepth 20000 in
theorem gX2_readInvoice_X0_addInvoice : GoodIn wsX2_readInvoice (wsV RX2 108 RX0 yX0_addInvoice wsX0_addInvoice) := goodIn_app (goodIn_of _ (by decide +kernel)) ggX2_readInvoice_X0_addInvoice
theorem dX2_readInvoice_0 : decode cX2_readInvoice 0 = .ok (.aload_n 0, 1) := by decide +kernel
theorem dX2_readInvoice_1 : decode cX2_readInvoice 1 = .ok (.iconst 0, 1) := by decide +kernel
theorem dX2_readInvoice_2 : decode cX2_readInvoice 2 = .ok (.aload_n 0, 1) := by decide +kernel
theorem dX2_readInvoice_3 : decode cX2_readInvoice 3 = .ok (.getfield 15, 3) := by decide +kernel
theorem dX2_readInvoice_6 : decode cX2_readInvoice 6 = .ok (.getfield 84, 3) := by decide +kernel
theorem dX2_readInvoice_9 : decode cX2_readInvoice 9 = .ok (.invokevirtual 79, 3) := by decide +kernel
theorem dX2_readInvoice_12 : decode cX2_readInvoice 12 = .ok (.iconst 1, 1) := by decide +kernel
theorem dX2_readInvoice_13 : decode cX2_readInvoice 13 = .ok (.isub, 1) := by decide +kernel
theorem dX2_readInvoice_14 : decode cX2_readInvoice 14 = .ok (.invokevirtual 90, 3) := by decide +kernel
theorem dX2_readInvoice_17 : decode cX2_readInvoice 17 = .ok (.istore_n 1, 1) := by decide +kernel
theorem dX2_readInvoice_18 : decode cX2_readInvoice 18 = .ok (.aload_n 0, 1) := by decide +kernel
theorem dX2_readInvoice_19 : decode cX2_readInvoice 19 = .ok (.iconst 1, 1) := by decide +kernel
theorem dX2_readInvoice_20 : decode cX2_readInvoice 20 = .ok (.sipush 9999, 3) := by decide +kernel
theorem dX2_readInvoice_23 : decode cX2_readInvoice 23 = .ok (.invokevirtual 90, 3) := by decide +kernel
theorem dX2_readInvoice_26 : decode cX2_readInvoice 26 = .ok (.istore_n 2, 1) := by decide +kernel
theorem dX2_readInvoice_27 : decode cX2_readInvoice 27 = .ok (.aload_n 0, 1) := by decide +kernel
theorem dX2_readInvoice_28 : decode cX2_readInvoice 28 = .ok (.iconst 0, 1) := by decide +kernel
theorem dX2_readInvoice_29 : decode cX2_readInvoice 29 = .ok (.bipush 99, 2) := by decide +kernel
theorem dX2_readInvoice_31 : decode cX2_readInvoice 31 = .ok (.invokevirtual 90, 3) := by decide +kernel
theorem dX2_readInvoice_34 : decode cX2_readInvoice 34 = .ok (.istore_n 3, 1) := by decide +kernel
theorem dX2_readInvoice_35 : decode cX2_readInvoice 35 = .ok (.aload_n 0, 1) := by decide +kernel
theorem dX2_readInvoice_36 : decode cX2_readInvoice 36 = .ok (.invokevirtual 94, 3) := by decide +kernel
theorem dX2_readInvoice_39 : decode cX2_readInvoice 39 = .ok (.ifCond .eq 15, 3) := by decide +kernel
theorem dX2_readInvoice_42 : decode cX2_readInvoice 42 = .ok (.aload_n 0, 1) := by decide +kernel
theorem dX2_readInvoice_43 : decode cX2_readInvoice 43 = .ok (.getfield 15, 3) := by decide +kernel
theorem dX2_readInvoice_46 : decode cX2_readInvoice 46 = .ok (.iload_n 1, 1) := by decide +kernel
theorem dX2_readInvoice_47 : decode cX2_readInvoice 47 = .ok (.iload_n 2, 1) := by decide +kernel
theorem dX2_readInvoice_48 : decode cX2_readInvoice 48 = .ok (.iload_n 3, 1) := by decide +kernel
theorem dX2_readInvoice_49 : decode cX2_readInvoice 49 = .ok (.iconst 0, 1) := by decide +kernel
theorem dX2_readInvoice_50 : decode cX2_readInvoice 50 = .ok (.invokevirtual 108, 3) := by decide +kernel
theorem dX2_readInvoice_53 : decode cX2_readInvoice 53 = .ok (.pop, 1) := by decide +kernel
theorem dX2_readInvoice_54 : decode cX2_readInvoice 54 = .ok (.return_, 1) := by decide +kernel
set_option maxRecDepth 20000 in
theorem ggX2_takeNumber_X2_advance : GoodIn wsX2_takeNumber wsX2_advance := goodIn_r _ [8, 9, 10, 11, 2, 12, 13, 14, 15, 16, 17, 18, 19, 20, 21, 22, 23, 24, 7, 25, 26, 27, 28, 29, 3, 30, 31, 32, 33, 34, 35, 36, 37, 38, 39, 40, 41, 42, 43, 44, 45] (by decide +kernel) (by decide +kernel)
set_option maxRecDepth 20000 in
theorem gX2_takeNumber_X2_advance : GoodIn wsX2_takeNumber (wsV RX2 26 RX2 yX2_advance wsX2_advance) := goodIn_app (goodIn_of _ (by decide +kernel)) ggX2_takeNumber_X2_advance
theorem dX2_takeNumber_0 : decode cX2_takeNumber 0 = .ok (.aload_n 0, 1) := by decide +kernel
theorem dX2_takeNumber_1 : decode cX2_takeNumber 1 = .ok (.getfield 23, 3) := by decide +kernel
theorem dX2_takeNumber_4 : decode cX2_takeNumber 4 = .ok (.ifCond .eq 5, 3) := by decide +kernel
theorem dX2_takeNumber_7 : decode cX2_takeNumber 7 = .ok (.iconst 0, 1) := by decide +kernel
theorem dX2_takeNumber_8 : decode cX2_takeNumber 8 = .ok (.ireturn, 1) := by decide +kernel
theorem dX2_takeNumber_9 : decode cX2_takeNumber 9 = .ok (.aload_n 0, 1) := by decide +kernel
theorem dX2_takeNumber_10 : decode cX2_takeNumber 10 = .ok (.invokevirtual 26, 3) := by decide +kernel
theorem dX2_takeNumber_13 : decode cX2_takeNumber 13 = .ok (.aload_n 0, 1) := by decide +kernel
theorem dX2_takeNumber_14 : decode cX2_takeNumber 14 = .ok (.getfield 29, 3) := by decide +kernel
theorem dX2_takeNumber_17 : decode cX2_takeNumber 17 = .ok (.iconst 2, 1) := by decide +kernel
theorem dX2_takeNumber_18 : decode cX2_takeNumber 18 = .ok (.if_icmp .eq 11, 3) := by decide +kernel
theorem dX2_takeNumber_21 : decode cX2_takeNumber 21 = .ok (.aload_n 0, 1) := by decide +kernel
theorem dX2_takeNumber_22 : decode cX2_takeNumber 22 = .ok (.iconst 1, 1) := by decide +kernel
theorem dX2_takeNumber_23 : decode cX2_takeNumber 23 = .ok (.putfield 23, 3) := by decide +kernel
theorem dX2_takeNumber_26 : decode cX2_takeNumber 26 = .ok (.goto 24, 3) := by decide +kernel
theorem dX2_takeNumber_29 : decode cX2_takeNumber 29 = .ok (.aload_n 0, 1) := by decide +kernel
theorem dX2_takeNumber_30 : decode cX2_takeNumber 30 = .ok (.getfield 112, 3) := by decide +kernel
theorem dX2_takeNumber_33 : decode cX2_takeNumber 33 = .ok (.iload_n 1, 1) := by decide +kernel
theorem dX2_takeNumber_34 : decode cX2_takeNumber 34 = .ok (.if_icmp .lt 11, 3) := by decide +kernel
theorem dX2_takeNumber_37 : decode cX2_takeNumber 37 = .ok (.aload_n 0, 1) := by decide +kernel
theorem dX2_takeNumber_38 : decode cX2_takeNumber 38 = .ok (.getfield 112, 3) := by decide +kernel
theorem dX2_takeNumber_41 : decode cX2_takeNumber 41 = .ok (.iload_n 2, 1) := by decide +kernel
theorem dX2_takeNumber_42 : decode cX2_takeNumber 42 = .ok (.if_icmp .le 8, 3) := by decide +kernel
theorem dX2_takeNumber_45 : decode cX2_takeNumber 45 = .ok (.aload_n 0, 1) := by decide +kernel
theorem dX2_takeNumber_46 : decode cX2_takeNumber 46 = .ok (.iconst 2, 1) := by decide +kernel
theorem dX2_takeNumber_47 : decode cX2_takeNumber 47 = .ok (.putfield 23, 3) := by decide +kernel
theorem dX2_takeNumber_50 : decode cX2_takeNumber 50 = .ok (.aload_n 0, 1) := by decide +kernel
theorem dX2_takeNumber_51 : decode cX2_takeNumber 51 = .ok (.getfield 112, 3) := by decide +kernel
theorem dX2_takeNumber_54 : decode cX2_takeNumber 54 = .ok (.ireturn, 1) := by decide +kernel
set_option maxRecDepth 20000 in
theorem ggX2_takeSemicolon_X2_advance : GoodIn wsX2_takeSemicolon wsX2_advance := goodIn_r _ [7, 8, 9, 10, 2, 11, 12, 13, 14, 15, 16, 17, 18, 19, 20, 21, 22, 23, 6, 24, 25, 26, 27, 28, 29, 30, 31, 32, 33, 34, 35, 36, 37, 38, 39, 40, 41, 42, 43, 44, 45] (by decide +kernel) (by decide +kernel)
set_option maxRecDepth 20000 in
theorem gX2_takeSemicolon_X2_advance : GoodIn wsX2_takeSemicolon (wsV RX2 26 RX2 yX2_advance wsX2_advance) := goodIn_app (goodIn_of _ (by decide +kernel)) ggX2_takeSemicolon_X2_advance
theorem dX2_takeSemicolon_0 : decode cX2_takeSemicolon 0 = .ok (.aload_n 0, 1) := by decide +kernel
theorem dX2_takeSemicolon_1 : decode cX2_takeSemicolon 1 = .ok (.getfield 23, 3) := by decide +kernel
theorem dX2_takeSemicolon_4 : decode cX2_takeSemicolon 4 = .ok (.ifCond .eq 5, 3) := by decide +kernel
theorem dX2_takeSemicolon_7 : decode cX2_takeSemicolon 7 = .ok (.iconst 0, 1) := by decide +kernel
theorem dX2_takeSemicolon_8 : decode cX2_takeSemicolon 8 = .ok (.ireturn, 1) := by decide +kernel
theorem dX2_takeSemicolon_9 : decode cX2_takeSemicolon 9 = .ok (.aload_n 0, 1) := by decide +kernel
theorem dX2_takeSemicolon_10 : decode cX2_takeSemicolon 10 = .ok (.invokevirtual 26, 3) := by decide +kernel
theorem dX2_takeSemicolon_13 : decode cX2_takeSemicolon 13 = .ok (.aload_n 0, 1) := by decide +kernel
theorem dX2_takeSemicolon_14 : decode cX2_takeSemicolon 14 = .ok (.getfield 29, 3) := by decide +kernel
theorem dX2_takeSemicolon_17 : decode cX2_takeSemicolon 17 = .ok (.iconst 3, 1) := by decide +kernel
theorem dX2_takeSemicolon_18 : decode cX2_takeSemicolon 18 = .ok (.if_icmp .eq 8, 3) := by decide +kernel
theorem dX2_takeSemicolon_21 : decode cX2_takeSemicolon 21 = .ok (.aload_n 0, 1) := by decide +kernel
theorem dX2_takeSemicolon_22 : decode cX2_takeSemicolon 22 = .ok (.iconst 1, 1) := by decide +kernel
theorem dX2_takeSemicolon_23 : decode cX2_takeSemicolon 23 = .ok (.putfield 23, 3) := by decide +kernel
theorem dX2_takeSemicolon_26 : decode cX2_takeSemicolon 26 = .ok (.aload_n 0, 1) := by decide +kernel
theorem dX2_takeSemicolon_27 : decode cX2_takeSemicolon 27 = .ok (.getfield 23, 3) := by decide +kernel
theorem dX2_takeSemicolon_30 : decode cX2_takeSemicolon 30 = .ok (.ifCond .ne 7, 3) := by decide +kernel
theorem dX2_takeSemicolon_33 : decode cX2_takeSemicolon 33 = .ok (.iconst 1, 1) := by decide +kernel
theorem dX2_takeSemicolon_34 : decode cX2_takeSemicolon 34 = .ok (.goto 4, 3) := by decide +kernel
theorem dX2_takeSemicolon_37 : decode cX2_takeSemicolon 37 = .ok (.iconst 0, 1) := by decide +kernel
theorem dX2_takeSemicolon_38 : decode cX2_takeSemicolon 38 = .ok (.ireturn, 1) := by decide +kernel
set_option maxRecDepth 20000 in
theorem ggX2_advance_X4_length : GoodIn wsX2_advance wsX4_length := goodIn_r _ [9, 10, 39, 40] (by decide +kernel) (by decide +kernel)
set_option maxRecDepth 20000 in
theorem gX2_advance_X4_length : GoodIn wsX2_advance (wsV RX2 115 RX4 yX4_length wsX4_length) := goodIn_app (goodIn_of _ (by decide +kernel)) ggX2_advance_X4_length
set_option maxRecDepth 20000 in
theorem ggX2_advance_X4_at : GoodIn wsX2_advance wsX4_at := goodIn_r _ [14, 10, 15, 39, 40] (by decide +kernel) (by decide +kernel)
set_option maxRecDepth 20000 in
theorem gX2_advance_X4_at : GoodIn wsX2_advance (wsV RX2 123 RX4 yX4_at wsX4_at) := goodIn_app (goodIn_of _ (by decide +kernel)) ggX2_advance_X4_at
set_option maxRecDepth 20000 in
theorem ggX2_advance_X2_isBlank : GoodIn wsX2_advance wsX2_isBlank := goodIn_r _ [19] (by decide +kernel) (by decide +kernel)
set_option maxRecDepth 20000 in
theorem gX2_advance_X2_isBlank : GoodIn wsX2_advance (va_wsS RX2 127 yX2_isBlank wsX2_isBlank) := goodIn_app (goodIn_of _ (by decide +kernel)) ggX2_advance_X2_isBlank
set_option maxRecDepth 20000 in
theorem ggX2_advance_X2_scanRun : GoodIn wsX2_advance wsX2_scanRun := goodIn_r _ [23, 24, 2, 1, 4, 11, 12, 13, 8, 14, 10, 15, 25, 26, 18, 27, 28, 29, 30, 31, 32, 33, 34, 35, 36, 37, 38, 39, 40] (by decide +kernel) (by decide +kernel)
set_option maxRecDepth 20000 in
theorem gX2_advance_X2_scanRun : GoodIn wsX2_advance (wsV RX2 130 RX2 yX2_scanRun wsX2_scanRun) := goodIn_app (goodIn_of _ (by decide +kernel)) ggX2_advance_X2_scanRun
theorem dX2_advance_0 : decode cX2_advance 0 = .ok (.aload_n 0, 1) := by decide +kernel
theorem dX2_advance_1 : decode cX2_advance 1 = .ok (.getfield 9, 3) := by decide +kernel
theorem dX2_advance_4 : decode cX2_advance 4 = .ok (.invokevirtual 115, 3) := by decide +kernel
theorem dX2_advance_7 : decode cX2_advance 7 = .ok (.istore_n 1, 1) := by decide +kernel
theorem dX2_advance_8 : decode cX2_advance 8 = .ok (.aload_n 0, 1) := by decide +kernel
theorem dX2_advance_9 : decode cX2_advance 9 = .ok (.aload_n 0, 1) := by decide +kernel
theorem dX2_advance_10 : decode cX2_advance 10 = .ok (.getfield 120, 3) := by decide +kernel
theorem dX2_advance_13 : decode cX2_advance 13 = .ok (.putfield 47, 3) := by decide +kernel
theorem dX2_advance_16 : decode cX2_advance 16 = .ok (.aload_n 0, 1) := by decide +kernel
theorem dX2_advance_17 : decode cX2_advance 17 = .ok (.getfield 47, 3) := by decide +kernel
theorem dX2_advance_20 : decode cX2_advance 20 = .ok (.iload_n 1, 1) := by decide +kernel
theorem dX2_advance_21 : decode cX2_advance 21 = .ok (.if_icmp .ge 33, 3) := by decide +kernel
theorem dX2_advance_24 : decode cX2_advance 24 = .ok (.aload_n 0, 1) := by decide +kernel
theorem dX2_advance_25 : decode cX2_advance 25 = .ok (.getfield 9, 3) := by decide +kernel
theorem dX2_advance_28 : decode cX2_advance 28 = .ok (.aload_n 0, 1) := by decide +kernel
theorem dX2_advance_29 : decode cX2_advance 29 = .ok (.getfield 47, 3) := by decide +kernel
theorem dX2_advance_32 : decode cX2_advance 32 = .ok (.invokevirtual 123, 3) := by decide +kernel
theorem dX2_advance_35 : decode cX2_advance 35 = .ok (.invokestatic 127, 3) := by decide +kernel
theorem dX2_advance_38 : decode cX2_advance 38 = .ok (.ifCond .eq 16, 3) := by decide +kernel
theorem dX2_advance_41 : decode cX2_advance 41 = .ok (.aload_n 0, 1) := by decide +kernel
theorem dX2_advance_42 : decode cX2_advance 42 = .ok (.dup, 1) := by decide +kernel
theorem dX2_advance_43 : decode cX2_advance 43 = .ok (.getfield 47, 3) := by decide +kernel
theorem dX2_advance_46 : decode cX2_advance 46 = .ok (.iconst 1, 1) := by decide +kernel
theorem dX2_advance_47 : decode cX2_advance 47 = .ok (.iadd, 1) := by decide +kernel
theorem dX2_advance_48 : decode cX2_advance 48 = .ok (.putfield 47, 3) := by decide +kernel
theorem dX2_advance_51 : decode cX2_advance 51 = .ok (.goto (-35), 3) := by decide +kernel
theorem dX2_advance_54 : decode cX2_advance 54 = .ok (.aload_n 0, 1) := by decide +kernel
theorem dX2_advance_55 : decode cX2_advance 55 = .ok (.aload_n 0, 1) := by decide +kernel
theorem dX2_advance_56 : decode cX2_advance 56 = .ok (.getfield 47, 3) := by decide +kernel
theorem dX2_advance_59 : decode cX2_advance 59 = .ok (.putfield 120, 3) := by decide +kernel
theorem dX2_advance_62 : decode cX2_advance 62 = .ok (.iload_n 1, 1) := by decide +kernel
theorem dX2_advance_63 : decode cX2_advance 63 = .ok (.sipush 600, 3) := by decide +kernel
theorem dX2_advance_66 : decode cX2_advance 66 = .ok (.if_icmp .le 28, 3) := by decide +kernel
theorem dX2_advance_69 : decode cX2_advance 69 = .ok (.aload_n 0, 1) := by decide +kernel
theorem dX2_advance_70 : decode cX2_advance 70 = .ok (.getfield 47, 3) := by decide +kernel
theorem dX2_advance_73 : decode cX2_advance 73 = .ok (.sipush 600, 3) := by decide +kernel
theorem dX2_advance_76 : decode cX2_advance 76 = .ok (.if_icmp .lt 18, 3) := by decide +kernel
theorem dX2_advance_79 : decode cX2_advance 79 = .ok (.aload_n 0, 1) := by decide +kernel
theorem dX2_advance_80 : decode cX2_advance 80 = .ok (.sipush 600, 3) := by decide +kernel
theorem dX2_advance_83 : decode cX2_advance 83 = .ok (.putfield 47, 3) := by decide +kernel
theorem dX2_advance_86 : decode cX2_advance 86 = .ok (.aload_n 0, 1) := by decide +kernel
theorem dX2_advance_87 : decode cX2_advance 87 = .ok (.iconst 0, 1) := by decide +kernel
theorem dX2_advance_88 : decode cX2_advance 88 = .ok (.putfield 29, 3) := by decide +kernel
theorem dX2_advance_91 : decode cX2_advance 91 = .ok (.goto 58, 3) := by decide +kernel
theorem dX2_advance_94 : decode cX2_advance 94 = .ok (.aload_n 0, 1) := by decide +kernel
theorem dX2_advance_95 : decode cX2_advance 95 = .ok (.getfield 47, 3) := by decide +kernel
theorem dX2_advance_98 : decode cX2_advance 98 = .ok (.iload_n 1, 1) := by decide +kernel
theorem dX2_advance_99 : decode cX2_advance 99 = .ok (.if_icmp .lt 11, 3) := by decide +kernel
theorem dX2_advance_102 : decode cX2_advance 102 = .ok (.aload_n 0, 1) := by decide +kernel
theorem dX2_advance_103 : decode cX2_advance 103 = .ok (.iconst 4, 1) := by decide +kernel
theorem dX2_advance_104 : decode cX2_advance 104 = .ok (.putfield 29, 3) := by decide +kernel
theorem dX2_advance_107 : decode cX2_advance 107 = .ok (.goto 42, 3) := by decide +kernel
theorem dX2_advance_110 : decode cX2_advance 110 = .ok (.aload_n 0, 1) := by decide +kernel
theorem dX2_advance_111 : decode cX2_advance 111 = .ok (.getfield 9, 3) := by decide +kernel
theorem dX2_advance_114 : decode cX2_advance 114 = .ok (.aload_n 0, 1) := by decide +kernel
theorem dX2_advance_115 : decode cX2_advance 115 = .ok (.getfield 47, 3) := by decide +kernel
theorem dX2_advance_118 : decode cX2_advance 118 = .ok (.invokevirtual 123, 3) := by decide +kernel
theorem dX2_advance_121 : decode cX2_advance 121 = .ok (.bipush 59, 2) := by decide +kernel
theorem dX2_advance_123 : decode cX2_advance 123 = .ok (.if_icmp .ne 21, 3) := by decide +kernel
theorem dX2_advance_126 : decode cX2_advance 126 = .ok (.aload_n 0, 1) := by decide +kernel
theorem dX2_advance_127 : decode cX2_advance 127 = .ok (.dup, 1) := by decide +kernel
theorem dX2_advance_128 : decode cX2_advance 128 = .ok (.getfield 120, 3) := by decide +kernel
theorem dX2_advance_131 : decode cX2_advance 131 = .ok (.iconst 1, 1) := by decide +kernel
theorem dX2_advance_132 : decode cX2_advance 132 = .ok (.iadd, 1) := by decide +kernel
theorem dX2_advance_133 : decode cX2_advance 133 = .ok (.putfield 120, 3) := by decide +kernel
theorem dX2_advance_136 : decode cX2_advance 136 = .ok (.aload_n 0, 1) := by decide +kernel
theorem dX2_advance_137 : decode cX2_advance 137 = .ok (.iconst 3, 1) := by decide +kernel
theorem dX2_advance_138 : decode cX2_advance 138 = .ok (.putfield 29, 3) := by decide +kernel
theorem dX2_advance_141 : decode cX2_advance 141 = .ok (.goto 8, 3) := by decide +kernel
theorem dX2_advance_144 : decode cX2_advance 144 = .ok (.aload_n 0, 1) := by decide +kernel
theorem dX2_advance_145 : decode cX2_advance 145 = .ok (.iload_n 1, 1) := by decide +kernel
theorem dX2_advance_146 : decode cX2_advance 146 = .ok (.invokevirtual 130, 3) := by decide +kernel
theorem dX2_advance_149 : decode cX2_advance 149 = .ok (.return_, 1) := by decide +kernel
set_option maxRecDepth 20000 in
theorem ggX2_scanRun_X4_at : GoodIn wsX2_scanRun wsX4_at := goodIn_r _ [9, 10, 11, 27, 28] (by decide +kernel) (by decide +kernel)
set_option maxRecDepth 20000 in
theorem gX2_scanRun_X4_at : GoodIn wsX2_scanRun (wsV RX2 123 RX4 yX4_at wsX4_at) := goodIn_app (goodIn_of _ (by decide +kernel)) ggX2_scanRun_X4_at
set_option maxRecDepth 20000 in
theorem ggX2_scanRun_X2_isLetter : GoodIn wsX2_scanRun wsX2_isLetter := goodIn_r _ [15] (by decide +kernel) (by decide +kernel)
set_option maxRecDepth 20000 in
theorem gX2_scanRun_X2_isLetter : GoodIn wsX2_scanRun (va_wsS RX2 134 yX2_isLetter wsX2_isLetter) := goodIn_app (goodIn_of _ (by decide +kernel)) ggX2_scanRun_X2_isLetter
set_option maxRecDepth 20000 in
theorem ggX2_scanRun_X2_isDigit : GoodIn wsX2_scanRun wsX2_isDigit := goodIn_r _ [18] (by decide +kernel) (by decide +kernel)
set_option maxRecDepth 20000 in
theorem gX2_scanRun_X2_isDigit : GoodIn wsX2_scanRun (va_wsS RX2 137 yX2_isDigit wsX2_isDigit) := goodIn_app (goodIn_of _ (by decide +kernel)) ggX2_scanRun_X2_isDigit
theorem dX2_scanRun_0 : decode cX2_scanRun 0 = .ok (.iconst 0, 1) := by decide +kernel
theorem dX2_scanRun_1 : decode cX2_scanRun 1 = .ok (.istore_n 2, 1) := by decide +kernel
theorem dX2_scanRun_2 : decode cX2_scanRun 2 = .ok (.iconst 0, 1) := by decide +kernel
theorem dX2_scanRun_3 : decode cX2_scanRun 3 = .ok (.istore_n 3, 1) := by decide +kernel
theorem dX2_scanRun_4 : decode cX2_scanRun 4 = .ok (.aload_n 0, 1) := by decide +kernel
theorem dX2_scanRun_5 : decode cX2_scanRun 5 = .ok (.iconst 0, 1) := by decide +kernel
theorem dX2_scanRun_6 : decode cX2_scanRun 6 = .ok (.putfield 112, 3) := by decide +kernel
theorem dX2_scanRun_9 : decode cX2_scanRun 9 = .ok (.aload_n 0, 1) := by decide +kernel
theorem dX2_scanRun_10 : decode cX2_scanRun 10 = .ok (.getfield 120, 3) := by decide +kernel
theorem dX2_scanRun_13 : decode cX2_scanRun 13 = .ok (.iload_n 1, 1) := by decide +kernel
theorem dX2_scanRun_14 : decode cX2_scanRun 14 = .ok (.if_icmp .ge 102, 3) := by decide +kernel
theorem dX2_scanRun_17 : decode cX2_scanRun 17 = .ok (.aload_n 0, 1) := by decide +kernel
theorem dX2_scanRun_18 : decode cX2_scanRun 18 = .ok (.getfield 9, 3) := by decide +kernel
theorem dX2_scanRun_21 : decode cX2_scanRun 21 = .ok (.aload_n 0, 1) := by decide +kernel
theorem dX2_scanRun_22 : decode cX2_scanRun 22 = .ok (.getfield 120, 3) := by decide +kernel
theorem dX2_scanRun_25 : decode cX2_scanRun 25 = .ok (.invokevirtual 123, 3) := by decide +kernel
theorem dX2_scanRun_28 : decode cX2_scanRun 28 = .ok (.invokestatic 134, 3) := by decide +kernel
theorem dX2_scanRun_31 : decode cX2_scanRun 31 = .ok (.ifCond .ne 20, 3) := by decide +kernel
theorem dX2_scanRun_34 : decode cX2_scanRun 34 = .ok (.aload_n 0, 1) := by decide +kernel
theorem dX2_scanRun_35 : decode cX2_scanRun 35 = .ok (.getfield 9, 3) := by decide +kernel
theorem dX2_scanRun_38 : decode cX2_scanRun 38 = .ok (.aload_n 0, 1) := by decide +kernel
theorem dX2_scanRun_39 : decode cX2_scanRun 39 = .ok (.getfield 120, 3) := by decide +kernel
theorem dX2_scanRun_42 : decode cX2_scanRun 42 = .ok (.invokevirtual 123, 3) := by decide +kernel
theorem dX2_scanRun_45 : decode cX2_scanRun 45 = .ok (.invokestatic 137, 3) := by decide +kernel
theorem dX2_scanRun_48 : decode cX2_scanRun 48 = .ok (.ifCond .eq 68, 3) := by decide +kernel
theorem dX2_scanRun_51 : decode cX2_scanRun 51 = .ok (.aload_n 0, 1) := by decide +kernel
theorem dX2_scanRun_52 : decode cX2_scanRun 52 = .ok (.getfield 9, 3) := by decide +kernel
theorem dX2_scanRun_55 : decode cX2_scanRun 55 = .ok (.aload_n 0, 1) := by decide +kernel
theorem dX2_scanRun_56 : decode cX2_scanRun 56 = .ok (.getfield 120, 3) := by decide +kernel
theorem dX2_scanRun_59 : decode cX2_scanRun 59 = .ok (.invokevirtual 123, 3) := by decide +kernel
theorem dX2_scanRun_62 : decode cX2_scanRun 62 = .ok (.invokestatic 134, 3) := by decide +kernel
theorem dX2_scanRun_65 : decode cX2_scanRun 65 = .ok (.ifCond .eq 9, 3) := by decide +kernel
theorem dX2_scanRun_68 : decode cX2_scanRun 68 = .ok (.iinc 2 1, 3) := by decide +kernel
theorem dX2_scanRun_71 : decode cX2_scanRun 71 = .ok (.goto 32, 3) := by decide +kernel
theorem dX2_scanRun_74 : decode cX2_scanRun 74 = .ok (.iinc 3 1, 3) := by decide +kernel
theorem dX2_scanRun_77 : decode cX2_scanRun 77 = .ok (.aload_n 0, 1) := by decide +kernel
theorem dX2_scanRun_78 : decode cX2_scanRun 78 = .ok (.aload_n 0, 1) := by decide +kernel
theorem dX2_scanRun_79 : decode cX2_scanRun 79 = .ok (.getfield 112, 3) := by decide +kernel
theorem dX2_scanRun_82 : decode cX2_scanRun 82 = .ok (.bipush 10, 2) := by decide +kernel
theorem dX2_scanRun_84 : decode cX2_scanRun 84 = .ok (.imul, 1) := by decide +kernel
theorem dX2_scanRun_85 : decode cX2_scanRun 85 = .ok (.aload_n 0, 1) := by decide +kernel
theorem dX2_scanRun_86 : decode cX2_scanRun 86 = .ok (.getfield 9, 3) := by decide +kernel
theorem dX2_scanRun_89 : decode cX2_scanRun 89 = .ok (.aload_n 0, 1) := by decide +kernel
theorem dX2_scanRun_90 : decode cX2_scanRun 90 = .ok (.getfield 120, 3) := by decide +kernel
theorem dX2_scanRun_93 : decode cX2_scanRun 93 = .ok (.invokevirtual 123, 3) := by decide +kernel
theorem dX2_scanRun_96 : decode cX2_scanRun 96 = .ok (.iadd, 1) := by decide +kernel
theorem dX2_scanRun_97 : decode cX2_scanRun 97 = .ok (.bipush 48, 2) := by decide +kernel
theorem dX2_scanRun_99 : decode cX2_scanRun 99 = .ok (.isub, 1) := by decide +kernel
theorem dX2_scanRun_100 : decode cX2_scanRun 100 = .ok (.putfield 112, 3) := by decide +kernel
theorem dX2_scanRun_103 : decode cX2_scanRun 103 = .ok (.aload_n 0, 1) := by decide +kernel
theorem dX2_scanRun_104 : decode cX2_scanRun 104 = .ok (.dup, 1) := by decide +kernel
theorem dX2_scanRun_105 : decode cX2_scanRun 105 = .ok (.getfield 120, 3) := by decide +kernel
theorem dX2_scanRun_108 : decode cX2_scanRun 108 = .ok (.iconst 1, 1) := by decide +kernel
theorem dX2_scanRun_109 : decode cX2_scanRun 109 = .ok (.iadd, 1) := by decide +kernel
theorem dX2_scanRun_110 : decode cX2_scanRun 110 = .ok (.putfield 120, 3) := by decide +kernel
theorem dX2_scanRun_113 : decode cX2_scanRun 113 = .ok (.goto (-104), 3) := by decide +kernel
theorem dX2_scanRun_116 : decode cX2_scanRun 116 = .ok (.iload_n 2, 1) := by decide +kernel
theorem dX2_scanRun_117 : decode cX2_scanRun 117 = .ok (.ifCond .le 15, 3) := by decide +kernel
theorem dX2_scanRun_120 : decode cX2_scanRun 120 = .ok (.iload_n 3, 1) := by decide +kernel
theorem dX2_scanRun_121 : decode cX2_scanRun 121 = .ok (.ifCond .ne 11, 3) := by decide +kernel
theorem dX2_scanRun_124 : decode cX2_scanRun 124 = .ok (.aload_n 0, 1) := by decide +kernel
theorem dX2_scanRun_125 : decode cX2_scanRun 125 = .ok (.iconst 1, 1) := by decide +kernel
theorem dX2_scanRun_126 : decode cX2_scanRun 126 = .ok (.putfield 29, 3) := by decide +kernel
theorem dX2_scanRun_129 : decode cX2_scanRun 129 = .ok (.goto 29, 3) := by decide +kernel
theorem dX2_scanRun_132 : decode cX2_scanRun 132 = .ok (.iload_n 2, 1) := by decide +kernel
theorem dX2_scanRun_133 : decode cX2_scanRun 133 = .ok (.ifCond .ne 20, 3) := by decide +kernel
theorem dX2_scanRun_136 : decode cX2_scanRun 136 = .ok (.iload_n 3, 1) := by decide +kernel
theorem dX2_scanRun_137 : decode cX2_scanRun 137 = .ok (.ifCond .le 16, 3) := by decide +kernel
theorem dX2_scanRun_140 : decode cX2_scanRun 140 = .ok (.iload_n 3, 1) := by decide +kernel
theorem dX2_scanRun_141 : decode cX2_scanRun 141 = .ok (.iconst 4, 1) := by decide +kernel
theorem dX2_scanRun_142 : decode cX2_scanRun 142 = .ok (.if_icmp .gt 11, 3) := by decide +kernel
theorem dX2_scanRun_145 : decode cX2_scanRun 145 = .ok (.aload_n 0, 1) := by decide +kernel
theorem dX2_scanRun_146 : decode cX2_scanRun 146 = .ok (.iconst 2, 1) := by decide +kernel
theorem dX2_scanRun_147 : decode cX2_scanRun 147 = .ok (.putfield 29, 3) := by decide +kernel
theorem dX2_scanRun_150 : decode cX2_scanRun 150 = .ok (.goto 8, 3) := by decide +kernel
theorem dX2_scanRun_153 : decode cX2_scanRun 153 = .ok (.aload_n 0, 1) := by decide +kernel
theorem dX2_scanRun_154 : decode cX2_scanRun 154 = .ok (.iconst 0, 1) := by decide +kernel
theorem dX2_scanRun_155 : decode cX2_scanRun 155 = .ok (.putfield 29, 3) := by decide +kernel
theorem dX2_scanRun_158 : decode cX2_scanRun 158 = .ok (.return_, 1) := by decide +kernel
set_option maxRecDepth 20000 in
theorem ggX2_isWord_J0_length_8abf5 : GoodIn wsX2_isWord wsJ0_length_8abf5 := goodIn_r _ [8, 9, 10, 11, 12, 7, 13, 14, 15] (by decide +kernel) (by decide +kernel)
set_option maxRecDepth 20000 in
theorem gX2_isWord_J0_length_8abf5 : GoodIn wsX2_isWord (wsV RX2 140 RJ0 yJ0_length_8abf5 wsJ0_length_8abf5) := goodIn_app (goodIn_of _ (by decide +kernel)) ggX2_isWord_J0_length_8abf5
set_option maxRecDepth 20000 in
theorem ggX2_isWord_X4_at : GoodIn wsX2_isWord wsX4_at := goodIn_r _ [20, 21, 22, 68, 69] (by decide +kernel) (by decide +kernel)
set_option maxRecDepth 20000 in
theorem gX2_isWord_X4_at : GoodIn wsX2_isWord (wsV RX2 123 RX4 yX4_at wsX4_at) := goodIn_app (goodIn_of _ (by decide +kernel)) ggX2_isWord_X4_at
set_option maxRecDepth 20000 in
theorem ggX2_isWord_J0_charAt_5068e : GoodIn wsX2_isWord wsJ0_charAt_5068e := goodIn_r _ [26, 9, 27, 28, 29, 7, 30, 14, 15, 31, 32, 33, 34, 35, 36, 37, 38, 39, 40, 41, 42, 43, 44, 45, 46, 47, 48, 49, 50, 51, 52, 53, 54, 55, 56, 57, 58, 59] (by decide +kernel) (by decide +kernel)
set_option maxRecDepth 20000 in
theorem gX2_isWord_J0_charAt_5068e : GoodIn wsX2_isWord (wsV RX2 143 RJ0 yJ0_charAt_5068e wsJ0_charAt_5068e) := goodIn_app (goodIn_of _ (by decide +kernel)) ggX2_isWord_J0_charAt_5068e
theorem dX2_isWord_0 : decode cX2_isWord 0 = .ok (.aload_n 0, 1) := by decide +kernel
theorem dX2_isWord_1 : decode cX2_isWord 1 = .ok (.getfield 120, 3) := by decide +kernel
theorem dX2_isWord_4 : decode cX2_isWord 4 = .ok (.aload_n 0, 1) := by decide +kernel
theorem dX2_isWord_5 : decode cX2_isWord 5 = .ok (.getfield 47, 3) := by decide +kernel
theorem dX2_isWord_8 : decode cX2_isWord 8 = .ok (.isub, 1) := by decide +kernel
theorem dX2_isWord_9 : decode cX2_isWord 9 = .ok (.aload_n 1, 1) := by decide +kernel
theorem dX2_isWord_10 : decode cX2_isWord 10 = .ok (.invokevirtual 140, 3) := by decide +kernel
theorem dX2_isWord_13 : decode cX2_isWord 13 = .ok (.if_icmp .eq 5, 3) := by decide +kernel
theorem dX2_isWord_16 : decode cX2_isWord 16 = .ok (.iconst 0, 1) := by decide +kernel
theorem dX2_isWord_17 : decode cX2_isWord 17 = .ok (.ireturn, 1) := by decide +kernel
theorem dX2_isWord_18 : decode cX2_isWord 18 = .ok (.iconst 0, 1) := by decide +kernel
theorem dX2_isWord_19 : decode cX2_isWord 19 = .ok (.istore_n 2, 1) := by decide +kernel
theorem dX2_isWord_20 : decode cX2_isWord 20 = .ok (.iload_n 2, 1) := by decide +kernel
theorem dX2_isWord_21 : decode cX2_isWord 21 = .ok (.aload_n 1, 1) := by decide +kernel
theorem dX2_isWord_22 : decode cX2_isWord 22 = .ok (.invokevirtual 140, 3) := by decide +kernel
theorem dX2_isWord_25 : decode cX2_isWord 25 = .ok (.if_icmp .ge 32, 3) := by decide +kernel
theorem dX2_isWord_28 : decode cX2_isWord 28 = .ok (.aload_n 0, 1) := by decide +kernel
theorem dX2_isWord_29 : decode cX2_isWord 29 = .ok (.getfield 9, 3) := by decide +kernel
theorem dX2_isWord_32 : decode cX2_isWord 32 = .ok (.aload_n 0, 1) := by decide +kernel
theorem dX2_isWord_33 : decode cX2_isWord 33 = .ok (.getfield 47, 3) := by decide +kernel
theorem dX2_isWord_36 : decode cX2_isWord 36 = .ok (.iload_n 2, 1) := by decide +kernel
theorem dX2_isWord_37 : decode cX2_isWord 37 = .ok (.iadd, 1) := by decide +kernel
theorem dX2_isWord_38 : decode cX2_isWord 38 = .ok (.invokevirtual 123, 3) := by decide +kernel
theorem dX2_isWord_41 : decode cX2_isWord 41 = .ok (.aload_n 1, 1) := by decide +kernel
theorem dX2_isWord_42 : decode cX2_isWord 42 = .ok (.iload_n 2, 1) := by decide +kernel
theorem dX2_isWord_43 : decode cX2_isWord 43 = .ok (.invokevirtual 143, 3) := by decide +kernel
theorem dX2_isWord_46 : decode cX2_isWord 46 = .ok (.if_icmp .eq 5, 3) := by decide +kernel
theorem dX2_isWord_49 : decode cX2_isWord 49 = .ok (.iconst 0, 1) := by decide +kernel
theorem dX2_isWord_50 : decode cX2_isWord 50 = .ok (.ireturn, 1) := by decide +kernel
theorem dX2_isWord_51 : decode cX2_isWord 51 = .ok (.iinc 2 1, 3) := by decide +kernel
theorem dX2_isWord_54 : decode cX2_isWord 54 = .ok (.goto (-34), 3) := by decide +kernel
theorem dX2_isWord_57 : decode cX2_isWord 57 = .ok (.iconst 1, 1) := by decide +kernel
theorem dX2_isWord_58 : decode cX2_isWord 58 = .ok (.ireturn, 1) := by decide +kernel
theorem dX2_isBlank_0 : decode cX2_isBlank 0 = .ok (.iload_n 0, 1) := by decide +kernel
theorem dX2_isBlank_1 : decode cX2_isBlank 1 = .ok (.bipush 32, 2) := by decide +kernel
theorem dX2_isBlank_3 : decode cX2_isBlank 3 = .ok (.if_icmp .eq 9, 3) := by decide +kernel
theorem dX2_isBlank_6 : decode cX2_isBlank 6 = .ok (.iload_n 0, 1) := by decide +kernel
theorem dX2_isBlank_7 : decode cX2_isBlank 7 = .ok (.bipush 10, 2) := by decide +kernel
theorem dX2_isBlank_9 : decode cX2_isBlank 9 = .ok (.if_icmp .ne 7, 3) := by decide +kernel
theorem dX2_isBlank_12 : decode cX2_isBlank 12 = .ok (.iconst 1, 1) := by decide +kernel
theorem dX2_isBlank_13 : decode cX2_isBlank 13 = .ok (.goto 4, 3) := by decide +kernel
theorem dX2_isBlank_16 : decode cX2_isBlank 16 = .ok (.iconst 0, 1) := by decide +kernel
theorem dX2_isBlank_17 : decode cX2_isBlank 17 = .ok (.ireturn, 1) := by decide +kernel
theorem dX2_isLetter_0 : decode cX2_isLetter 0 = .ok (.iload_n 0, 1) := by decide +kernel
theorem dX2_isLetter_1 : decode cX2_isLetter 1 = .ok (.bipush 97, 2) := by decide +kernel
theorem dX2_isLetter_3 : decode cX2_isLetter 3 = .ok (.if_icmp .lt 13, 3) := by decide +kernel
theorem dX2_isLetter_6 : decode cX2_isLetter 6 = .ok (.iload_n 0, 1) := by decide +kernel
theorem dX2_isLetter_7 : decode cX2_isLetter 7 = .ok (.bipush 122, 2) := by decide +kernel
theorem dX2_isLetter_9 : decode cX2_isLetter 9 = .ok (.if_icmp .gt 7, 3) := by decide +kernel
theorem dX2_isLetter_12 : decode cX2_isLetter 12 = .ok (.iconst 1, 1) := by decide +kernel
theorem dX2_isLetter_13 : decode cX2_isLetter 13 = .ok (.goto 4, 3) := by decide +kernel
theorem dX2_isLetter_16 : decode cX2_isLetter 16 = .ok (.iconst 0, 1) := by decide +kernel
theorem dX2_isLetter_17 : decode cX2_isLetter 17 = .ok (.ireturn, 1) := by decide +kernel
theorem dX2_isDigit_0 : decode cX2_isDigit 0 = .ok (.iload_n 0, 1) := by decide +kernel
theorem dX2_isDigit_1 : decode cX2_isDigit 1 = .ok (.bipush 48, 2) := by decide +kernel
theorem dX2_isDigit_3 : decode cX2_isDigit 3 = .ok (.if_icmp .lt 13, 3) := by decide +kernel
theorem dX2_isDigit_6 : decode cX2_isDigit 6 = .ok (.iload_n 0, 1) := by decide +kernel
theorem dX2_isDigit_7 : decode cX2_isDigit 7 = .ok (.bipush 57, 2) := by decide +kernel
theorem dX2_isDigit_9 : decode cX2_isDigit 9 = .ok (.if_icmp .gt 7, 3) := by decide +kernel
theorem dX2_isDigit_12 : decode cX2_isDigit 12 = .ok (.iconst 1, 1) := by decide +kernel
theorem dX2_isDigit_13 : decode cX2_isDigit 13 = .ok (.goto 4, 3) := by decide +kernel
theorem dX2_isDigit_16 : decode cX2_isDigit 16 = .ok (.iconst 0, 1) := by decide +kernel
theorem dX2_isDigit_17 : decode cX2_isDigit 17 = .ok (.ireturn, 1) := by decide +kernel
theorem dX3_init_0 : decode cX3_init 0 = .ok (.aload_n 0, 1) := by decide +kernel
theorem dX3_init_1 : decode cX3_init 1 = .ok (.invokespecial 3, 3) := by decide +kernel
theorem dX3_init_4 : decode cX3_init 4 = .ok (.aload_n 0, 1) := by decide +kernel
theorem dX3_init_5 : decode cX3_init 5 = .ok (.iconst 0, 1) := by decide +kernel
theorem dX3_init_6 : decode cX3_init 6 = .ok (.iload_n 1, 1) := by decide +kernel
theorem dX3_init_7 : decode cX3_init 7 = .ok (.iload_n 2, 1) := by decide +kernel
theorem dX3_init_8 : decode cX3_init 8 = .ok (.imul, 1) := by decide +kernel
theorem dX3_init_9 : decode cX3_init 9 = .ok (.invokestatic 9, 3) := by decide +kernel
theorem dX3_init_12 : decode cX3_init 12 = .ok (.newarray .int, 2) := by decide +kernel
theorem dX3_init_14 : decode cX3_init 14 = .ok (.putfield 15, 3) := by decide +kernel
theorem dX3_init_17 : decode cX3_init 17 = .ok (.aload_n 0, 1) := by decide +kernel
theorem dX3_init_18 : decode cX3_init 18 = .ok (.iconst 1, 1) := by decide +kernel
theorem dX3_init_19 : decode cX3_init 19 = .ok (.iload_n 2, 1) := by decide +kernel
theorem dX3_init_20 : decode cX3_init 20 = .ok (.invokestatic 9, 3) := by decide +kernel
theorem dX3_init_23 : decode cX3_init 23 = .ok (.putfield 21, 3) := by decide +kernel
theorem dX3_init_26 : decode cX3_init 26 = .ok (.aload_n 0, 1) := by decide +kernel
theorem dX3_init_27 : decode cX3_init 27 = .ok (.iconst 0, 1) := by decide +kernel
theorem dX3_init_28 : decode cX3_init 28 = .ok (.putfield 25, 3) := by decide +kernel
theorem dX3_init_31 : decode cX3_init 31 = .ok (.return_, 1) := by decide +kernel
theorem dX3_size_0 : decode cX3_size 0 = .ok (.aload_n 0, 1) := by decide +kernel
theorem dX3_size_1 : decode cX3_size 1 = .ok (.getfield 25, 3) := by decide +kernel
theorem dX3_size_4 : decode cX3_size 4 = .ok (.ireturn, 1) := by decide +kernel
theorem dX3_has_0 : decode cX3_has 0 = .ok (.iload_n 1, 1) := by decide +kernel
theorem dX3_has_1 : decode cX3_has 1 = .ok (.ifCond .lt 15, 3) := by decide +kernel
theorem dX3_has_4 : decode cX3_has 4 = .ok (.iload_n 1, 1) := by decide +kernel
theorem dX3_has_5 : decode cX3_has 5 = .ok (.aload_n 0, 1) := by decide +kernel
theorem dX3_has_6 : decode cX3_has 6 = .ok (.getfield 25, 3) := by decide +kernel
theorem dX3_has_9 : decode cX3_has 9 = .ok (.if_icmp .ge 7, 3) := by decide +kernel
theorem dX3_has_12 : decode cX3_has 12 = .ok (.iconst 1, 1) := by decide +kernel
theorem dX3_has_13 : decode cX3_has 13 = .ok (.goto 4, 3) := by decide +kernel
theorem dX3_has_16 : decode cX3_has 16 = .ok (.iconst 0, 1) := by decide +kernel
theorem dX3_has_17 : decode cX3_has 17 = .ok (.ireturn, 1) := by decide +kernel
theorem dX3_isFull_0 : decode cX3_isFull 0 = .ok (.aload_n 0, 1) := by decide +kernel
theorem dX3_isFull_1 : decode cX3_isFull 1 = .ok (.getfield 25, 3) := by decide +kernel
theorem dX3_isFull_4 : decode cX3_isFull 4 = .ok (.iconst 1, 1) := by decide +kernel
theorem dX3_isFull_5 : decode cX3_isFull 5 = .ok (.iadd, 1) := by decide +kernel
theorem dX3_isFull_6 : decode cX3_isFull 6 = .ok (.aload_n 0, 1) := by decide +kernel
theorem dX3_isFull_7 : decode cX3_isFull 7 = .ok (.getfield 21, 3) := by decide +kernel
theorem dX3_isFull_10 : decode cX3_isFull 10 = .ok (.imul, 1) := by decide +kernel
theorem dX3_isFull_11 : decode cX3_isFull 11 = .ok (.aload_n 0, 1) := by decide +kernel
theorem dX3_isFull_12 : decode cX3_isFull 12 = .ok (.getfield 15, 3) := by decide +kernel
theorem dX3_isFull_15 : decode cX3_isFull 15 = .ok (.arraylength, 1) := by decide +kernel
theorem dX3_isFull_16 : decode cX3_isFull 16 = .ok (.if_icmp .le 7, 3) := by decide +kernel
theorem dX3_isFull_19 : decode cX3_isFull 19 = .ok (.iconst 1, 1) := by decide +kernel
theorem dX3_isFull_20 : decode cX3_isFull 20 = .ok (.goto 4, 3) := by decide +kernel
theorem dX3_isFull_23 : decode cX3_isFull 23 = .ok (.iconst 0, 1) := by decide +kernel
theorem dX3_isFull_24 : decode cX3_isFull 24 = .ok (.ireturn, 1) := by decide +kernel
theorem dX3_get_0 : decode cX3_get 0 = .ok (.iload_n 1, 1) := by decide +kernel
theorem dX3_get_1 : decode cX3_get 1 = .ok (.ifCond .lt 23, 3) := by decide +kernel
theorem dX3_get_4 : decode cX3_get 4 = .ok (.iload_n 1, 1) := by decide +kernel
theorem dX3_get_5 : decode cX3_get 5 = .ok (.aload_n 0, 1) := by decide +kernel
theorem dX3_get_6 : decode cX3_get 6 = .ok (.getfield 25, 3) := by decide +kernel
theorem dX3_get_9 : decode cX3_get 9 = .ok (.if_icmp .ge 15, 3) := by decide +kernel
theorem dX3_get_12 : decode cX3_get 12 = .ok (.iload_n 2, 1) := by decide +kernel
theorem dX3_get_13 : decode cX3_get 13 = .ok (.ifCond .lt 11, 3) := by decide +kernel
theorem dX3_get_16 : decode cX3_get 16 = .ok (.iload_n 2, 1) := by decide +kernel
theorem dX3_get_17 : decode cX3_get 17 = .ok (.aload_n 0, 1) := by decide +kernel
theorem dX3_get_18 : decode cX3_get 18 = .ok (.getfield 21, 3) := by decide +kernel
theorem dX3_get_21 : decode cX3_get 21 = .ok (.if_icmp .lt 5, 3) := by decide +kernel
theorem dX3_get_24 : decode cX3_get 24 = .ok (.iconst (-1), 1) := by decide +kernel
theorem dX3_get_25 : decode cX3_get 25 = .ok (.ireturn, 1) := by decide +kernel
theorem dX3_get_26 : decode cX3_get 26 = .ok (.iload_n 1, 1) := by decide +kernel
theorem dX3_get_27 : decode cX3_get 27 = .ok (.aload_n 0, 1) := by decide +kernel
theorem dX3_get_28 : decode cX3_get 28 = .ok (.getfield 21, 3) := by decide +kernel
theorem dX3_get_31 : decode cX3_get 31 = .ok (.imul, 1) := by decide +kernel
theorem dX3_get_32 : decode cX3_get 32 = .ok (.iload_n 2, 1) := by decide +kernel
theorem dX3_get_33 : decode cX3_get 33 = .ok (.iadd, 1) := by decide +kernel
theorem dX3_get_34 : decode cX3_get 34 = .ok (.istore_n 3, 1) := by decide +kernel
theorem dX3_get_35 : decode cX3_get 35 = .ok (.iload_n 3, 1) := by decide +kernel
theorem dX3_get_36 : decode cX3_get 36 = .ok (.ifCond .lt 21, 3) := by decide +kernel
theorem dX3_get_39 : decode cX3_get 39 = .ok (.iload_n 3, 1) := by decide +kernel
theorem dX3_get_40 : decode cX3_get 40 = .ok (.aload_n 0, 1) := by decide +kernel
theorem dX3_get_41 : decode cX3_get 41 = .ok (.getfield 15, 3) := by decide +kernel
theorem dX3_get_44 : decode cX3_get 44 = .ok (.arraylength, 1) := by decide +kernel
theorem dX3_get_45 : decode cX3_get 45 = .ok (.if_icmp .ge 12, 3) := by decide +kernel
theorem dX3_get_48 : decode cX3_get 48 = .ok (.aload_n 0, 1) := by decide +kernel
theorem dX3_get_49 : decode cX3_get 49 = .ok (.getfield 15, 3) := by decide +kernel
theorem dX3_get_52 : decode cX3_get 52 = .ok (.iload_n 3, 1) := by decide +kernel
theorem dX3_get_53 : decode cX3_get 53 = .ok (.iaload, 1) := by decide +kernel
theorem dX3_get_54 : decode cX3_get 54 = .ok (.goto 4, 3) := by decide +kernel
theorem dX3_get_57 : decode cX3_get 57 = .ok (.iconst (-1), 1) := by decide +kernel
theorem dX3_get_58 : decode cX3_get 58 = .ok (.ireturn, 1) := by decide +kernel
theorem dX3_set_0 : decode cX3_set 0 = .ok (.iload_n 1, 1) := by decide +kernel
theorem dX3_set_1 : decode cX3_set 1 = .ok (.ifCond .lt 23, 3) := by decide +kernel
theorem dX3_set_4 : decode cX3_set 4 = .ok (.iload_n 1, 1) := by decide +kernel
theorem dX3_set_5 : decode cX3_set 5 = .ok (.aload_n 0, 1) := by decide +kernel
theorem dX3_set_6 : decode cX3_set 6 = .ok (.getfield 25, 3) := by decide +kernel
theorem dX3_set_9 : decode cX3_set 9 = .ok (.if_icmp .ge 15, 3) := by decide +kernel
theorem dX3_set_12 : decode cX3_set 12 = .ok (.iload_n 2, 1) := by decide +kernel
theorem dX3_set_13 : decode cX3_set 13 = .ok (.ifCond .lt 11, 3) := by decide +kernel
theorem dX3_set_16 : decode cX3_set 16 = .ok (.iload_n 2, 1) := by decide +kernel
theorem dX3_set_17 : decode cX3_set 17 = .ok (.aload_n 0, 1) := by decide +kernel
theorem dX3_set_18 : decode cX3_set 18 = .ok (.getfield 21, 3) := by decide +kernel
theorem dX3_set_21 : decode cX3_set 21 = .ok (.if_icmp .lt 4, 3) := by decide +kernel
theorem dX3_set_24 : decode cX3_set 24 = .ok (.return_, 1) := by decide +kernel
theorem dX3_set_25 : decode cX3_set 25 = .ok (.iload_n 1, 1) := by decide +kernel
theorem dX3_set_26 : decode cX3_set 26 = .ok (.aload_n 0, 1) := by decide +kernel
theorem dX3_set_27 : decode cX3_set 27 = .ok (.getfield 21, 3) := by decide +kernel
theorem dX3_set_30 : decode cX3_set 30 = .ok (.imul, 1) := by decide +kernel
theorem dX3_set_31 : decode cX3_set 31 = .ok (.iload_n 2, 1) := by decide +kernel
theorem dX3_set_32 : decode cX3_set 32 = .ok (.iadd, 1) := by decide +kernel
theorem dX3_set_33 : decode cX3_set 33 = .ok (.istore 4, 2) := by decide +kernel
theorem dX3_set_35 : decode cX3_set 35 = .ok (.iload 4, 2) := by decide +kernel
theorem dX3_set_37 : decode cX3_set 37 = .ok (.ifCond .lt 21, 3) := by decide +kernel
theorem dX3_set_40 : decode cX3_set 40 = .ok (.iload 4, 2) := by decide +kernel
theorem dX3_set_42 : decode cX3_set 42 = .ok (.aload_n 0, 1) := by decide +kernel
theorem dX3_set_43 : decode cX3_set 43 = .ok (.getfield 15, 3) := by decide +kernel
theorem dX3_set_46 : decode cX3_set 46 = .ok (.arraylength, 1) := by decide +kernel
theorem dX3_set_47 : decode cX3_set 47 = .ok (.if_icmp .ge 11, 3) := by decide +kernel
theorem dX3_set_50 : decode cX3_set 50 = .ok (.aload_n 0, 1) := by decide +kernel
theorem dX3_set_51 : decode cX3_set 51 = .ok (.getfield 15, 3) := by decide +kernel
theorem dX3_set_54 : decode cX3_set 54 = .ok (.iload 4, 2) := by decide +kernel
theorem dX3_set_56 : decode cX3_set 56 = .ok (.iload_n 3, 1) := by decide +kernel
theorem dX3_set_57 : decode cX3_set 57 = .ok (.iastore, 1) := by decide +kernel
theorem dX3_set_58 : decode cX3_set 58 = .ok (.return_, 1) := by decide +kernel
set_option maxRecDepth 20000 in
theorem ggX3_increase_X3_get : GoodIn wsX3_increase wsX3_get := goodIn_r _ [5, 6, 7, 8, 13, 14, 15] (by decide +kernel) (by decide +kernel)
set_option maxRecDepth 20000 in
theorem gX3_increase_X3_get : GoodIn wsX3_increase (wsV RX3 28 RX3 yX3_get wsX3_get) := goodIn_app (goodIn_of _ (by decide +kernel)) ggX3_increase_X3_get
set_option maxRecDepth 20000 in
theorem ggX3_increase_X3_set : GoodIn wsX3_increase wsX3_set := goodIn_r _ [12, 6, 7, 8, 13, 14, 15] (by decide +kernel) (by decide +kernel)
set_option maxRecDepth 20000 in
theorem gX3_increase_X3_set : GoodIn wsX3_increase (wsV RX3 31 RX3 yX3_set wsX3_set) := goodIn_app (goodIn_of _ (by decide +kernel)) ggX3_increase_X3_set
theorem dX3_increase_0 : decode cX3_increase 0 = .ok (.aload_n 0, 1) := by decide +kernel
theorem dX3_increase_1 : decode cX3_increase 1 = .ok (.iload_n 1, 1) := by decide +kernel
theorem dX3_increase_2 : decode cX3_increase 2 = .ok (.iload_n 2, 1) := by decide +kernel
theorem dX3_increase_3 : decode cX3_increase 3 = .ok (.aload_n 0, 1) := by decide +kernel
theorem dX3_increase_4 : decode cX3_increase 4 = .ok (.iload_n 1, 1) := by decide +kernel
theorem dX3_increase_5 : decode cX3_increase 5 = .ok (.iload_n 2, 1) := by decide +kernel
theorem dX3_increase_6 : decode cX3_increase 6 = .ok (.invokevirtual 28, 3) := by decide +kernel
theorem dX3_increase_9 : decode cX3_increase 9 = .ok (.iload_n 3, 1) := by decide +kernel
theorem dX3_increase_10 : decode cX3_increase 10 = .ok (.iadd, 1) := by decide +kernel
theorem dX3_increase_11 : decode cX3_increase 11 = .ok (.invokevirtual 31, 3) := by decide +kernel
theorem dX3_increase_14 : decode cX3_increase 14 = .ok (.return_, 1) := by decide +kernel
set_option maxRecDepth 20000 in
theorem ggX3_add_X3_isFull : GoodIn wsX3_add wsX3_isFull := goodIn_r _ [7, 1, 2, 8, 13, 14, 15] (by decide +kernel) (by decide +kernel)
set_option maxRecDepth 20000 in
theorem gX3_add_X3_isFull : GoodIn wsX3_add (wsV RX3 35 RX3 yX3_isFull wsX3_isFull) := goodIn_app (goodIn_of _ (by decide +kernel)) ggX3_add_X3_isFull
set_option maxRecDepth 20000 in
theorem ggX3_add_X3_set : GoodIn wsX3_add wsX3_set := goodIn_r _ [12, 1, 2, 8, 13, 14, 15] (by decide +kernel) (by decide +kernel)
set_option maxRecDepth 20000 in
theorem gX3_add_X3_set : GoodIn wsX3_add (wsV RX3 31 RX3 yX3_set wsX3_set) := goodIn_app (goodIn_of _ (by decide +kernel)) ggX3_add_X3_set
theorem dX3_add_0 : decode cX3_add 0 = .ok (.aload_n 0, 1) := by decide +kernel
theorem dX3_add_1 : decode cX3_add 1 = .ok (.invokevirtual 35, 3) := by decide +kernel
theorem dX3_add_4 : decode cX3_add 4 = .ok (.ifCond .eq 5, 3) := by decide +kernel
theorem dX3_add_7 : decode cX3_add 7 = .ok (.iconst (-1), 1) := by decide +kernel
theorem dX3_add_8 : decode cX3_add 8 = .ok (.ireturn, 1) := by decide +kernel
theorem dX3_add_9 : decode cX3_add 9 = .ok (.aload_n 0, 1) := by decide +kernel
theorem dX3_add_10 : decode cX3_add 10 = .ok (.getfield 25, 3) := by decide +kernel
theorem dX3_add_13 : decode cX3_add 13 = .ok (.istore_n 1, 1) := by decide +kernel
theorem dX3_add_14 : decode cX3_add 14 = .ok (.aload_n 0, 1) := by decide +kernel
theorem dX3_add_15 : decode cX3_add 15 = .ok (.dup, 1) := by decide +kernel
theorem dX3_add_16 : decode cX3_add 16 = .ok (.getfield 25, 3) := by decide +kernel
theorem dX3_add_19 : decode cX3_add 19 = .ok (.iconst 1, 1) := by decide +kernel
theorem dX3_add_20 : decode cX3_add 20 = .ok (.iadd, 1) := by decide +kernel
theorem dX3_add_21 : decode cX3_add 21 = .ok (.putfield 25, 3) := by decide +kernel
theorem dX3_add_24 : decode cX3_add 24 = .ok (.iconst 0, 1) := by decide +kernel
theorem dX3_add_25 : decode cX3_add 25 = .ok (.istore_n 2, 1) := by decide +kernel
theorem dX3_add_26 : decode cX3_add 26 = .ok (.iload_n 2, 1) := by decide +kernel
theorem dX3_add_27 : decode cX3_add 27 = .ok (.aload_n 0, 1) := by decide +kernel
theorem dX3_add_28 : decode cX3_add 28 = .ok (.getfield 21, 3) := by decide +kernel
theorem dX3_add_31 : decode cX3_add 31 = .ok (.if_icmp .ge 16, 3) := by decide +kernel
theorem dX3_add_34 : decode cX3_add 34 = .ok (.aload_n 0, 1) := by decide +kernel
theorem dX3_add_35 : decode cX3_add 35 = .ok (.iload_n 1, 1) := by decide +kernel
theorem dX3_add_36 : decode cX3_add 36 = .ok (.iload_n 2, 1) := by decide +kernel
theorem dX3_add_37 : decode cX3_add 37 = .ok (.iconst 0, 1) := by decide +kernel
theorem dX3_add_38 : decode cX3_add 38 = .ok (.invokevirtual 31, 3) := by decide +kernel
theorem dX3_add_41 : decode cX3_add 41 = .ok (.iinc 2 1, 3) := by decide +kernel
theorem dX3_add_44 : decode cX3_add 44 = .ok (.goto (-18), 3) := by decide +kernel
theorem dX3_add_47 : decode cX3_add 47 = .ok (.iload_n 1, 1) := by decide +kernel
theorem dX3_add_48 : decode cX3_add 48 = .ok (.ireturn, 1) := by decide +kernel
theorem dX3_clear_0 : decode cX3_clear 0 = .ok (.aload_n 0, 1) := by decide +kernel
theorem dX3_clear_1 : decode cX3_clear 1 = .ok (.iconst 0, 1) := by decide +kernel
theorem dX3_clear_2 : decode cX3_clear 2 = .ok (.putfield 25, 3) := by decide +kernel
theorem dX3_clear_5 : decode cX3_clear 5 = .ok (.return_, 1) := by decide +kernel
theorem dX3_copyFrom_0 : decode cX3_copyFrom 0 = .ok (.aload_n 0, 1) := by decide +kernel
theorem dX3_copyFrom_1 : decode cX3_copyFrom 1 = .ok (.aload_n 1, 1) := by decide +kernel
theorem dX3_copyFrom_2 : decode cX3_copyFrom 2 = .ok (.getfield 25, 3) := by decide +kernel
theorem dX3_copyFrom_5 : decode cX3_copyFrom 5 = .ok (.putfield 25, 3) := by decide +kernel
theorem dX3_copyFrom_8 : decode cX3_copyFrom 8 = .ok (.aload_n 0, 1) := by decide +kernel
theorem dX3_copyFrom_9 : decode cX3_copyFrom 9 = .ok (.getfield 25, 3) := by decide +kernel
theorem dX3_copyFrom_12 : decode cX3_copyFrom 12 = .ok (.aload_n 0, 1) := by decide +kernel
theorem dX3_copyFrom_13 : decode cX3_copyFrom 13 = .ok (.getfield 21, 3) := by decide +kernel
theorem dX3_copyFrom_16 : decode cX3_copyFrom 16 = .ok (.imul, 1) := by decide +kernel
theorem dX3_copyFrom_17 : decode cX3_copyFrom 17 = .ok (.aload_n 0, 1) := by decide +kernel
theorem dX3_copyFrom_18 : decode cX3_copyFrom 18 = .ok (.getfield 15, 3) := by decide +kernel
theorem dX3_copyFrom_21 : decode cX3_copyFrom 21 = .ok (.arraylength, 1) := by decide +kernel
theorem dX3_copyFrom_22 : decode cX3_copyFrom 22 = .ok (.aload_n 1, 1) := by decide +kernel
theorem dX3_copyFrom_23 : decode cX3_copyFrom 23 = .ok (.getfield 15, 3) := by decide +kernel
theorem dX3_copyFrom_26 : decode cX3_copyFrom 26 = .ok (.arraylength, 1) := by decide +kernel
theorem dX3_copyFrom_27 : decode cX3_copyFrom 27 = .ok (.invokestatic 39, 3) := by decide +kernel
theorem dX3_copyFrom_30 : decode cX3_copyFrom 30 = .ok (.invokestatic 39, 3) := by decide +kernel
theorem dX3_copyFrom_33 : decode cX3_copyFrom 33 = .ok (.istore_n 2, 1) := by decide +kernel
theorem dX3_copyFrom_34 : decode cX3_copyFrom 34 = .ok (.aload_n 1, 1) := by decide +kernel
theorem dX3_copyFrom_35 : decode cX3_copyFrom 35 = .ok (.getfield 15, 3) := by decide +kernel
theorem dX3_copyFrom_38 : decode cX3_copyFrom 38 = .ok (.iconst 0, 1) := by decide +kernel
theorem dX3_copyFrom_39 : decode cX3_copyFrom 39 = .ok (.aload_n 0, 1) := by decide +kernel
theorem dX3_copyFrom_40 : decode cX3_copyFrom 40 = .ok (.getfield 15, 3) := by decide +kernel
theorem dX3_copyFrom_43 : decode cX3_copyFrom 43 = .ok (.iconst 0, 1) := by decide +kernel
theorem dX3_copyFrom_44 : decode cX3_copyFrom 44 = .ok (.iconst 0, 1) := by decide +kernel
theorem dX3_copyFrom_45 : decode cX3_copyFrom 45 = .ok (.iload_n 2, 1) := by decide +kernel
theorem dX3_copyFrom_46 : decode cX3_copyFrom 46 = .ok (.invokestatic 9, 3) := by decide +kernel
theorem dX3_copyFrom_49 : decode cX3_copyFrom 49 = .ok (.invokestatic 42, 3) := by decide +kernel
theorem dX3_copyFrom_52 : decode cX3_copyFrom 52 = .ok (.return_, 1) := by decide +kernel
theorem dX4_init_0 : decode cX4_init 0 = .ok (.aload_n 0, 1) := by decide +kernel
theorem dX4_init_1 : decode cX4_init 1 = .ok (.invokespecial 3, 3) := by decide +kernel
theorem dX4_init_4 : decode cX4_init 4 = .ok (.aload_n 0, 1) := by decide +kernel
theorem dX4_init_5 : decode cX4_init 5 = .ok (.sipush 640, 3) := by decide +kernel
theorem dX4_init_8 : decode cX4_init 8 = .ok (.newarray .byte, 2) := by decide +kernel
theorem dX4_init_10 : decode cX4_init 10 = .ok (.putfield 11, 3) := by decide +kernel
theorem dX4_init_13 : decode cX4_init 13 = .ok (.aload_n 0, 1) := by decide +kernel
theorem dX4_init_14 : decode cX4_init 14 = .ok (.iconst 0, 1) := by decide +kernel
theorem dX4_init_15 : decode cX4_init 15 = .ok (.putfield 15, 3) := by decide +kernel
theorem dX4_init_18 : decode cX4_init 18 = .ok (.return_, 1) := by decide +kernel
theorem dX4_length_0 : decode cX4_length 0 = .ok (.aload_n 0, 1) := by decide +kernel
theorem dX4_length_1 : decode cX4_length 1 = .ok (.getfield 15, 3) := by decide +kernel
theorem dX4_length_4 : decode cX4_length 4 = .ok (.ireturn, 1) := by decide +kernel
theorem dX4_hasRoom_0 : decode cX4_hasRoom 0 = .ok (.aload_n 0, 1) := by decide +kernel
theorem dX4_hasRoom_1 : decode cX4_hasRoom 1 = .ok (.getfield 15, 3) := by decide +kernel
theorem dX4_hasRoom_4 : decode cX4_hasRoom 4 = .ok (.bipush 20, 2) := by decide +kernel
theorem dX4_hasRoom_6 : decode cX4_hasRoom 6 = .ok (.iadd, 1) := by decide +kernel
theorem dX4_hasRoom_7 : decode cX4_hasRoom 7 = .ok (.aload_n 0, 1) := by decide +kernel
theorem dX4_hasRoom_8 : decode cX4_hasRoom 8 = .ok (.getfield 11, 3) := by decide +kernel
theorem dX4_hasRoom_11 : decode cX4_hasRoom 11 = .ok (.arraylength, 1) := by decide +kernel
theorem dX4_hasRoom_12 : decode cX4_hasRoom 12 = .ok (.if_icmp .gt 7, 3) := by decide +kernel
theorem dX4_hasRoom_15 : decode cX4_hasRoom 15 = .ok (.iconst 1, 1) := by decide +kernel
theorem dX4_hasRoom_16 : decode cX4_hasRoom 16 = .ok (.goto 4, 3) := by decide +kernel
theorem dX4_hasRoom_19 : decode cX4_hasRoom 19 = .ok (.iconst 0, 1) := by decide +kernel
theorem dX4_hasRoom_20 : decode cX4_hasRoom 20 = .ok (.ireturn, 1) := by decide +kernel
theorem dX4_append_0 : decode cX4_append 0 = .ok (.bipush 24, 2) := by decide +kernel
theorem dX4_append_2 : decode cX4_append 2 = .ok (.istore_n 2, 1) := by decide +kernel
theorem dX4_append_3 : decode cX4_append 3 = .ok (.iload_n 2, 1) := by decide +kernel
theorem dX4_append_4 : decode cX4_append 4 = .ok (.ifCond .lt 51, 3) := by decide +kernel
theorem dX4_append_7 : decode cX4_append 7 = .ok (.aload_n 0, 1) := by decide +kernel
theorem dX4_append_8 : decode cX4_append 8 = .ok (.getfield 15, 3) := by decide +kernel
theorem dX4_append_11 : decode cX4_append 11 = .ok (.ifCond .lt 38, 3) := by decide +kernel
theorem dX4_append_14 : decode cX4_append 14 = .ok (.aload_n 0, 1) := by decide +kernel
theorem dX4_append_15 : decode cX4_append 15 = .ok (.getfield 15, 3) := by decide +kernel
theorem dX4_append_18 : decode cX4_append 18 = .ok (.aload_n 0, 1) := by decide +kernel
theorem dX4_append_19 : decode cX4_append 19 = .ok (.getfield 11, 3) := by decide +kernel
theorem dX4_append_22 : decode cX4_append 22 = .ok (.arraylength, 1) := by decide +kernel
theorem dX4_append_23 : decode cX4_append 23 = .ok (.if_icmp .ge 26, 3) := by decide +kernel
theorem dX4_append_26 : decode cX4_append 26 = .ok (.aload_n 0, 1) := by decide +kernel
theorem dX4_append_27 : decode cX4_append 27 = .ok (.getfield 11, 3) := by decide +kernel
theorem dX4_append_30 : decode cX4_append 30 = .ok (.aload_n 0, 1) := by decide +kernel
theorem dX4_append_31 : decode cX4_append 31 = .ok (.getfield 15, 3) := by decide +kernel
theorem dX4_append_34 : decode cX4_append 34 = .ok (.iload_n 1, 1) := by decide +kernel
theorem dX4_append_35 : decode cX4_append 35 = .ok (.iload_n 2, 1) := by decide +kernel
theorem dX4_append_36 : decode cX4_append 36 = .ok (.ishr, 1) := by decide +kernel
theorem dX4_append_37 : decode cX4_append 37 = .ok (.i2b, 1) := by decide +kernel
theorem dX4_append_38 : decode cX4_append 38 = .ok (.bastore, 1) := by decide +kernel
theorem dX4_append_39 : decode cX4_append 39 = .ok (.aload_n 0, 1) := by decide +kernel
theorem dX4_append_40 : decode cX4_append 40 = .ok (.dup, 1) := by decide +kernel
theorem dX4_append_41 : decode cX4_append 41 = .ok (.getfield 15, 3) := by decide +kernel
theorem dX4_append_44 : decode cX4_append 44 = .ok (.iconst 1, 1) := by decide +kernel
theorem dX4_append_45 : decode cX4_append 45 = .ok (.iadd, 1) := by decide +kernel
theorem dX4_append_46 : decode cX4_append 46 = .ok (.putfield 15, 3) := by decide +kernel
theorem dX4_append_49 : decode cX4_append 49 = .ok (.iinc 2 (-8), 3) := by decide +kernel
theorem dX4_append_52 : decode cX4_append 52 = .ok (.goto (-49), 3) := by decide +kernel
theorem dX4_append_55 : decode cX4_append 55 = .ok (.return_, 1) := by decide +kernel
theorem dX4_cut_0 : decode cX4_cut 0 = .ok (.iload_n 1, 1) := by decide +kernel
theorem dX4_cut_1 : decode cX4_cut 1 = .ok (.ifCond .lt 11, 3) := by decide +kernel
theorem dX4_cut_4 : decode cX4_cut 4 = .ok (.iload_n 1, 1) := by decide +kernel
theorem dX4_cut_5 : decode cX4_cut 5 = .ok (.aload_n 0, 1) := by decide +kernel
theorem dX4_cut_6 : decode cX4_cut 6 = .ok (.getfield 15, 3) := by decide +kernel
theorem dX4_cut_9 : decode cX4_cut 9 = .ok (.if_icmp .le 5, 3) := by decide +kernel
theorem dX4_cut_12 : decode cX4_cut 12 = .ok (.iconst 0, 1) := by decide +kernel
theorem dX4_cut_13 : decode cX4_cut 13 = .ok (.ireturn, 1) := by decide +kernel
theorem dX4_cut_14 : decode cX4_cut 14 = .ok (.aload_n 0, 1) := by decide +kernel
theorem dX4_cut_15 : decode cX4_cut 15 = .ok (.iload_n 1, 1) := by decide +kernel
theorem dX4_cut_16 : decode cX4_cut 16 = .ok (.putfield 15, 3) := by decide +kernel
theorem dX4_cut_19 : decode cX4_cut 19 = .ok (.iconst 1, 1) := by decide +kernel
theorem dX4_cut_20 : decode cX4_cut 20 = .ok (.ireturn, 1) := by decide +kernel
theorem dX4_at_0 : decode cX4_at 0 = .ok (.iload_n 1, 1) := by decide +kernel
theorem dX4_at_1 : decode cX4_at 1 = .ok (.ifCond .lt 33, 3) := by decide +kernel
theorem dX4_at_4 : decode cX4_at 4 = .ok (.iload_n 1, 1) := by decide +kernel
theorem dX4_at_5 : decode cX4_at 5 = .ok (.aload_n 0, 1) := by decide +kernel
theorem dX4_at_6 : decode cX4_at 6 = .ok (.getfield 15, 3) := by decide +kernel
theorem dX4_at_9 : decode cX4_at 9 = .ok (.if_icmp .ge 25, 3) := by decide +kernel
theorem dX4_at_12 : decode cX4_at 12 = .ok (.iload_n 1, 1) := by decide +kernel
theorem dX4_at_13 : decode cX4_at 13 = .ok (.aload_n 0, 1) := by decide +kernel
theorem dX4_at_14 : decode cX4_at 14 = .ok (.getfield 11, 3) := by decide +kernel
theorem dX4_at_17 : decode cX4_at 17 = .ok (.arraylength, 1) := by decide +kernel
theorem dX4_at_18 : decode cX4_at 18 = .ok (.if_icmp .ge 16, 3) := by decide +kernel
theorem dX4_at_21 : decode cX4_at 21 = .ok (.aload_n 0, 1) := by decide +kernel
theorem dX4_at_22 : decode cX4_at 22 = .ok (.getfield 11, 3) := by decide +kernel
theorem dX4_at_25 : decode cX4_at 25 = .ok (.iload_n 1, 1) := by decide +kernel
theorem dX4_at_26 : decode cX4_at 26 = .ok (.baload, 1) := by decide +kernel
theorem dX4_at_27 : decode cX4_at 27 = .ok (.sipush 255, 3) := by decide +kernel
theorem dX4_at_30 : decode cX4_at 30 = .ok (.iand, 1) := by decide +kernel
theorem dX4_at_31 : decode cX4_at 31 = .ok (.goto 4, 3) := by decide +kernel
theorem dX4_at_34 : decode cX4_at 34 = .ok (.iconst (-1), 1) := by decide +kernel
theorem dX4_at_35 : decode cX4_at 35 = .ok (.ireturn, 1) := by decide +kernel
set_option maxRecDepth 20000 in
theorem ggX5_init_X4_init : GoodIn wsX5_init wsX4_init := goodIn_r _ [20, 21, 2, 3, 22, 23, 24, 58, 59] (by decide +kernel) (by decide +kernel)
set_option maxRecDepth 20000 in
theorem gX5_init_X4_init : GoodIn wsX5_init (wsX4_init) := ggX5_init_X4_init
set_option maxRecDepth 20000 in
theorem ggX5_init_X0_init : GoodIn wsX5_init wsX0_init := goodIn_r _ [27, 28, 2, 3, 29, 30, 31, 32, 33, 34, 35, 36, 37, 38, 39, 40, 41, 42, 43, 44, 45, 46, 47, 48, 75, 76, 77, 65, 66, 67, 68, 69, 70, 71] (by decide +kernel) (by decide +kernel)
set_option maxRecDepth 20000 in
theorem gX5_init_X0_init : GoodIn wsX5_init (wsX0_init) := ggX5_init_X0_init
set_option maxRecDepth 20000 in
theorem ggX5_init_X1_init : GoodIn wsX5_init wsX1_init := goodIn_r _ [51, 52, 2, 3, 53, 54, 9, 10, 55, 56, 57, 26, 27, 28, 29, 30, 31, 32, 33, 34, 35, 36, 37, 38, 39, 40, 41, 42, 43, 44, 45, 46, 47, 48, 72, 73, 74, 65, 66, 67, 68, 69, 70, 71, 75, 76, 77] (by decide +kernel) (by decide +kernel)
set_option maxRecDepth 20000 in
theorem gX5_init_X1_init : GoodIn wsX5_init (wsX1_init) := ggX5_init_X1_init
theorem dX5_init_0 : decode cX5_init 0 = .ok (.aload_n 0, 1) := by decide +kernel
theorem dX5_init_1 : decode cX5_init 1 = .ok (.invokespecial 3, 3) := by decide +kernel
theorem dX5_init_4 : decode cX5_init 4 = .ok (.aload_n 0, 1) := by decide +kernel
theorem dX5_init_5 : decode cX5_init 5 = .ok (.new 9, 3) := by decide +kernel
theorem dX5_init_8 : decode cX5_init 8 = .ok (.dup, 1) := by decide +kernel
theorem dX5_init_9 : decode cX5_init 9 = .ok (.invokespecial 11, 3) := by decide +kernel
theorem dX5_init_12 : decode cX5_init 12 = .ok (.putfield 12, 3) := by decide +kernel
theorem dX5_init_15 : decode cX5_init 15 = .ok (.aload_n 0, 1) := by decide +kernel
theorem dX5_init_16 : decode cX5_init 16 = .ok (.new 16, 3) := by decide +kernel
theorem dX5_init_19 : decode cX5_init 19 = .ok (.dup, 1) := by decide +kernel
theorem dX5_init_20 : decode cX5_init 20 = .ok (.invokespecial 18, 3) := by decide +kernel
theorem dX5_init_23 : decode cX5_init 23 = .ok (.putfield 19, 3) := by decide +kernel
theorem dX5_init_26 : decode cX5_init 26 = .ok (.aload_n 0, 1) := by decide +kernel
theorem dX5_init_27 : decode cX5_init 27 = .ok (.new 16, 3) := by decide +kernel
theorem dX5_init_30 : decode cX5_init 30 = .ok (.dup, 1) := by decide +kernel
theorem dX5_init_31 : decode cX5_init 31 = .ok (.invokespecial 18, 3) := by decide +kernel
theorem dX5_init_34 : decode cX5_init 34 = .ok (.putfield 23, 3) := by decide +kernel
theorem dX5_init_37 : decode cX5_init 37 = .ok (.aload_n 0, 1) := by decide +kernel
theorem dX5_init_38 : decode cX5_init 38 = .ok (.new 26, 3) := by decide +kernel
theorem dX5_init_41 : decode cX5_init 41 = .ok (.dup, 1) := by decide +kernel
theorem dX5_init_42 : decode cX5_init 42 = .ok (.invokespecial 28, 3) := by decide +kernel
theorem dX5_init_45 : decode cX5_init 45 = .ok (.putfield 29, 3) := by decide +kernel
theorem dX5_init_48 : decode cX5_init 48 = .ok (.aload_n 0, 1) := by decide +kernel
theorem dX5_init_49 : decode cX5_init 49 = .ok (.iconst 0, 1) := by decide +kernel
theorem dX5_init_50 : decode cX5_init 50 = .ok (.putfield 33, 3) := by decide +kernel
theorem dX5_init_53 : decode cX5_init 53 = .ok (.return_, 1) := by decide +kernel
set_option maxRecDepth 20000 in
theorem ggX5_feed_X4_hasRoom : GoodIn wsX5_feed wsX4_hasRoom := goodIn_r _ [6, 7, 8, 22, 23] (by decide +kernel) (by decide +kernel)
set_option maxRecDepth 20000 in
theorem gX5_feed_X4_hasRoom : GoodIn wsX5_feed (wsV RX5 37 RX4 yX4_hasRoom wsX4_hasRoom) := goodIn_app (goodIn_of _ (by decide +kernel)) ggX5_feed_X4_hasRoom
set_option maxRecDepth 20000 in
theorem ggX5_feed_X4_append : GoodIn wsX5_feed wsX4_append := goodIn_r _ [12, 7, 8, 22, 23] (by decide +kernel) (by decide +kernel)
set_option maxRecDepth 20000 in
theorem gX5_feed_X4_append : GoodIn wsX5_feed (wsV RX5 41 RX4 yX4_append wsX4_append) := goodIn_app (goodIn_of _ (by decide +kernel)) ggX5_feed_X4_append
set_option maxRecDepth 20000 in
theorem ggX5_feed_X4_length : GoodIn wsX5_feed wsX4_length := goodIn_r _ [16, 7, 22, 23] (by decide +kernel) (by decide +kernel)
set_option maxRecDepth 20000 in
theorem gX5_feed_X4_length : GoodIn wsX5_feed (wsV RX5 45 RX4 yX4_length wsX4_length) := goodIn_app (goodIn_of _ (by decide +kernel)) ggX5_feed_X4_length
theorem dX5_feed_0 : decode cX5_feed 0 = .ok (.aload_n 0, 1) := by decide +kernel
theorem dX5_feed_1 : decode cX5_feed 1 = .ok (.getfield 12, 3) := by decide +kernel
theorem dX5_feed_4 : decode cX5_feed 4 = .ok (.invokevirtual 37, 3) := by decide +kernel
theorem dX5_feed_7 : decode cX5_feed 7 = .ok (.ifCond .ne 5, 3) := by decide +kernel
theorem dX5_feed_10 : decode cX5_feed 10 = .ok (.iconst (-1), 1) := by decide +kernel
theorem dX5_feed_11 : decode cX5_feed 11 = .ok (.ireturn, 1) := by decide +kernel
theorem dX5_feed_12 : decode cX5_feed 12 = .ok (.aload_n 0, 1) := by decide +kernel
theorem dX5_feed_13 : decode cX5_feed 13 = .ok (.getfield 12, 3) := by decide +kernel
theorem dX5_feed_16 : decode cX5_feed 16 = .ok (.iload_n 1, 1) := by decide +kernel
theorem dX5_feed_17 : decode cX5_feed 17 = .ok (.invokevirtual 41, 3) := by decide +kernel
theorem dX5_feed_20 : decode cX5_feed 20 = .ok (.aload_n 0, 1) := by decide +kernel
theorem dX5_feed_21 : decode cX5_feed 21 = .ok (.getfield 12, 3) := by decide +kernel
theorem dX5_feed_24 : decode cX5_feed 24 = .ok (.iload_n 2, 1) := by decide +kernel
theorem dX5_feed_25 : decode cX5_feed 25 = .ok (.invokevirtual 41, 3) := by decide +kernel
theorem dX5_feed_28 : decode cX5_feed 28 = .ok (.aload_n 0, 1) := by decide +kernel
theorem dX5_feed_29 : decode cX5_feed 29 = .ok (.getfield 12, 3) := by decide +kernel
theorem dX5_feed_32 : decode cX5_feed 32 = .ok (.iload_n 3, 1) := by decide +kernel
theorem dX5_feed_33 : decode cX5_feed 33 = .ok (.invokevirtual 41, 3) := by decide +kernel
theorem dX5_feed_36 : decode cX5_feed 36 = .ok (.aload_n 0, 1) := by decide +kernel
theorem dX5_feed_37 : decode cX5_feed 37 = .ok (.getfield 12, 3) := by decide +kernel
theorem dX5_feed_40 : decode cX5_feed 40 = .ok (.iload 4, 2) := by decide +kernel
theorem dX5_feed_42 : decode cX5_feed 42 = .ok (.invokevirtual 41, 3) := by decide +kernel
theorem dX5_feed_45 : decode cX5_feed 45 = .ok (.aload_n 0, 1) := by decide +kernel
theorem dX5_feed_46 : decode cX5_feed 46 = .ok (.getfield 12, 3) := by decide +kernel
theorem dX5_feed_49 : decode cX5_feed 49 = .ok (.iload 5, 2) := by decide +kernel
theorem dX5_feed_51 : decode cX5_feed 51 = .ok (.invokevirtual 41, 3) := by decide +kernel
theorem dX5_feed_54 : decode cX5_feed 54 = .ok (.aload_n 0, 1) := by decide +kernel
theorem dX5_feed_55 : decode cX5_feed 55 = .ok (.getfield 12, 3) := by decide +kernel
theorem dX5_feed_58 : decode cX5_feed 58 = .ok (.invokevirtual 45, 3) := by decide +kernel
theorem dX5_feed_61 : decode cX5_feed 61 = .ok (.ireturn, 1) := by decide +kernel
set_option maxRecDepth 20000 in
theorem ggX5_end_X4_cut : GoodIn wsX5_end wsX4_cut := goodIn_r _ [6, 7, 13, 14] (by decide +kernel) (by decide +kernel)
set_option maxRecDepth 20000 in
theorem gX5_end_X4_cut : GoodIn wsX5_end (wsV RX5 49 RX4 yX4_cut wsX4_cut) := goodIn_app (goodIn_of _ (by decide +kernel)) ggX5_end_X4_cut
theorem dX5_end_0 : decode cX5_end 0 = .ok (.aload_n 0, 1) := by decide +kernel
theorem dX5_end_1 : decode cX5_end 1 = .ok (.getfield 12, 3) := by decide +kernel
theorem dX5_end_4 : decode cX5_end 4 = .ok (.iload_n 1, 1) := by decide +kernel
theorem dX5_end_5 : decode cX5_end 5 = .ok (.invokevirtual 49, 3) := by decide +kernel
theorem dX5_end_8 : decode cX5_end 8 = .ok (.ireturn, 1) := by decide +kernel
set_option maxRecDepth 20000 in
theorem ggX5_text_X0_clear : GoodIn wsX5_text wsX0_clear := goodIn_r _ [13, 14, 15, 16, 17, 18, 19, 20, 21, 22, 23, 24, 25, 26, 247, 248, 249, 250, 251, 252, 253, 254, 255, 256] (by decide +kernel) (by decide +kernel)
set_option maxRecDepth 20000 in
theorem gX5_text_X0_clear : GoodIn wsX5_text (wsV RX5 53 RX0 yX0_clear wsX0_clear) := goodIn_app (goodIn_of _ (by decide +kernel)) ggX5_text_X0_clear
set_option maxRecDepth 20000 in
theorem ggX5_text_X2_init : GoodIn wsX5_text wsX2_init := goodIn_r _ [29, 30, 31, 32, 33, 34, 35, 239, 240, 241, 242, 243, 244, 245, 246] (by decide +kernel) (by decide +kernel)
set_option maxRecDepth 20000 in
theorem gX5_text_X2_init : GoodIn wsX5_text (wsX2_init) := ggX5_text_X2_init
set_option maxRecDepth 20000 in
theorem ggX5_text_X2_read : GoodIn wsX5_text wsX2_read := goodIn_r _ [39, 40, 35, 41, 42, 43, 44, 45, 4, 46, 33, 47, 48, 49, 50, 51, 52, 53, 54, 55, 56, 57, 58, 59, 60, 61, 62, 63, 64, 65, 66, 67, 68, 69, 70, 71, 72, 73, 74, 75, 76, 77, 78, 79, 80, 81, 82, 83, 84, 85, 86, 87, 88, 89, 90, 91, 92, 93, 94, 95, 96, 97, 98, 99, 100, 101, 102, 103, 104, 105, 106, 107, 108, 109, 110, 111, 112, 113, 114, 115, 116, 117, 118, 119, 120, 121, 122, 123, 124, 125, 126, 127, 128, 129, 130, 131, 132, 133, 134, 135, 136, 137, 138, 139, 140, 141, 34, 142, 143, 144, 145, 146, 147, 24, 148, 26, 149, 150, 151, 152, 153, 154, 155, 156, 157, 158, 159, 160, 161, 162, 163, 12, 164, 14, 165, 166, 167, 168, 169, 170, 171, 172, 173, 174, 175, 176, 177, 178, 179, 180, 181, 182, 183, 184, 185, 186, 187, 188, 189, 190, 191, 192, 15, 193, 194, 195, 196, 197, 198, 199, 200, 16, 239, 240, 241, 242, 243, 244, 245, 246, 257, 258, 247, 248, 249, 250, 251, 252, 253, 254, 255, 256] (by decide +kernel) (by decide +kernel)
set_option maxRecDepth 20000 in
theorem gX5_text_X2_read : GoodIn wsX5_text (wsV RX5 61 RX2 yX2_read wsX2_read) := goodIn_app (goodIn_of _ (by decide +kernel)) ggX5_text_X2_read
set_option maxRecDepth 20000 in
theorem ggX5_text_X2_faultKind : GoodIn wsX5_text wsX2_faultKind := goodIn_r _ [204, 41, 239, 240, 241, 242, 243, 244, 245, 246] (by decide +kernel) (by decide +kernel)
set_option maxRecDepth 20000 in
theorem gX5_text_X2_faultKind : GoodIn wsX5_text (wsV RX5 64 RX2 yX2_faultKind wsX2_faultKind) := goodIn_app (goodIn_of _ (by decide +kernel)) ggX5_text_X2_faultKind
set_option maxRecDepth 20000 in
theorem ggX5_text_X4_cut : GoodIn wsX5_text wsX4_cut := goodIn_r _ [208, 53, 257, 258] (by decide +kernel) (by decide +kernel)
set_option maxRecDepth 20000 in
theorem gX5_text_X4_cut : GoodIn wsX5_text (wsV RX5 49 RX4 yX4_cut wsX4_cut) := goodIn_app (goodIn_of _ (by decide +kernel)) ggX5_text_X4_cut
set_option maxRecDepth 20000 in
theorem ggX5_text_X0_copyFrom : GoodIn wsX5_text wsX0_copyFrom := goodIn_r _ [212, 14, 15, 16, 17, 18, 19, 20, 213, 214, 215, 24, 216, 26, 169, 174, 217, 218, 219, 220, 221, 222, 223, 224, 225, 226, 227, 247, 248, 249, 250, 251, 252, 253, 254, 255, 256] (by decide +kernel) (by decide +kernel)
set_option maxRecDepth 20000 in
theorem gX5_text_X0_copyFrom : GoodIn wsX5_text (wsV RX5 67 RX0 yX0_copyFrom wsX0_copyFrom) := goodIn_app (goodIn_of _ (by decide +kernel)) ggX5_text_X0_copyFrom
set_option maxRecDepth 20000 in
theorem ggX5_text_X1_forget : GoodIn wsX5_text wsX1_forget := goodIn_r _ [232, 233, 259, 260, 261] (by decide +kernel) (by decide +kernel)
set_option maxRecDepth 20000 in
theorem gX5_text_X1_forget : GoodIn wsX5_text (wsV RX5 71 RX1 yX1_forget wsX1_forget) := goodIn_app (goodIn_of _ (by decide +kernel)) ggX5_text_X1_forget
theorem dX5_text_0 : decode cX5_text 0 = .ok (.aload_n 0, 1) := by decide +kernel
theorem dX5_text_1 : decode cX5_text 1 = .ok (.getfield 23, 3) := by decide +kernel
theorem dX5_text_4 : decode cX5_text 4 = .ok (.invokevirtual 53, 3) := by decide +kernel
theorem dX5_text_7 : decode cX5_text 7 = .ok (.new 56, 3) := by decide +kernel
theorem dX5_text_10 : decode cX5_text 10 = .ok (.dup, 1) := by decide +kernel
theorem dX5_text_11 : decode cX5_text 11 = .ok (.aload_n 0, 1) := by decide +kernel
theorem dX5_text_12 : decode cX5_text 12 = .ok (.getfield 12, 3) := by decide +kernel
theorem dX5_text_15 : decode cX5_text 15 = .ok (.aload_n 0, 1) := by decide +kernel
theorem dX5_text_16 : decode cX5_text 16 = .ok (.getfield 23, 3) := by decide +kernel
theorem dX5_text_19 : decode cX5_text 19 = .ok (.invokespecial 58, 3) := by decide +kernel
theorem dX5_text_22 : decode cX5_text 22 = .ok (.astore_n 1, 1) := by decide +kernel
theorem dX5_text_23 : decode cX5_text 23 = .ok (.aload_n 1, 1) := by decide +kernel
theorem dX5_text_24 : decode cX5_text 24 = .ok (.invokevirtual 61, 3) := by decide +kernel
theorem dX5_text_27 : decode cX5_text 27 = .ok (.istore_n 2, 1) := by decide +kernel
theorem dX5_text_28 : decode cX5_text 28 = .ok (.aload_n 0, 1) := by decide +kernel
theorem dX5_text_29 : decode cX5_text 29 = .ok (.aload_n 1, 1) := by decide +kernel
theorem dX5_text_30 : decode cX5_text 30 = .ok (.invokevirtual 64, 3) := by decide +kernel
theorem dX5_text_33 : decode cX5_text 33 = .ok (.putfield 33, 3) := by decide +kernel
theorem dX5_text_36 : decode cX5_text 36 = .ok (.aload_n 0, 1) := by decide +kernel
theorem dX5_text_37 : decode cX5_text 37 = .ok (.getfield 12, 3) := by decide +kernel
theorem dX5_text_40 : decode cX5_text 40 = .ok (.iconst 0, 1) := by decide +kernel
theorem dX5_text_41 : decode cX5_text 41 = .ok (.invokevirtual 49, 3) := by decide +kernel
theorem dX5_text_44 : decode cX5_text 44 = .ok (.pop, 1) := by decide +kernel
theorem dX5_text_45 : decode cX5_text 45 = .ok (.aload_n 0, 1) := by decide +kernel
theorem dX5_text_46 : decode cX5_text 46 = .ok (.getfield 33, 3) := by decide +kernel
theorem dX5_text_49 : decode cX5_text 49 = .ok (.ifCond .ne 21, 3) := by decide +kernel
theorem dX5_text_52 : decode cX5_text 52 = .ok (.aload_n 0, 1) := by decide +kernel
theorem dX5_text_53 : decode cX5_text 53 = .ok (.getfield 19, 3) := by decide +kernel
theorem dX5_text_56 : decode cX5_text 56 = .ok (.aload_n 0, 1) := by decide +kernel
theorem dX5_text_57 : decode cX5_text 57 = .ok (.getfield 23, 3) := by decide +kernel
theorem dX5_text_60 : decode cX5_text 60 = .ok (.invokevirtual 67, 3) := by decide +kernel
theorem dX5_text_63 : decode cX5_text 63 = .ok (.aload_n 0, 1) := by decide +kernel
theorem dX5_text_64 : decode cX5_text 64 = .ok (.getfield 29, 3) := by decide +kernel
theorem dX5_text_67 : decode cX5_text 67 = .ok (.invokevirtual 71, 3) := by decide +kernel
theorem dX5_text_70 : decode cX5_text 70 = .ok (.iload_n 2, 1) := by decide +kernel
theorem dX5_text_71 : decode cX5_text 71 = .ok (.ireturn, 1) := by decide +kernel
theorem dX5_fault_0 : decode cX5_fault 0 = .ok (.aload_n 0, 1) := by decide +kernel
theorem dX5_fault_1 : decode cX5_fault 1 = .ok (.getfield 33, 3) := by decide +kernel
theorem dX5_fault_4 : decode cX5_fault 4 = .ok (.ireturn, 1) := by decide +kernel
set_option maxRecDepth 20000 in
theorem ggX5_now_X3_size : GoodIn wsX5_now wsX3_size := goodIn_r _ [14, 15, 63, 64, 65] (by decide +kernel) (by decide +kernel)
set_option maxRecDepth 20000 in
theorem gX5_now_X3_size : GoodIn wsX5_now (wsV RX5 81 RX3 yX3_size wsX3_size) := goodIn_app (goodIn_of _ (by decide +kernel)) ggX5_now_X3_size
set_option maxRecDepth 20000 in
theorem ggX5_now_X0_waiting : GoodIn wsX5_now wsX0_waiting := goodIn_r _ [20, 21, 22, 11, 12, 13, 14, 15, 23, 24, 25, 26, 27, 28, 56, 57, 58, 59, 60, 61, 62, 63, 64, 65] (by decide +kernel) (by decide +kernel)
set_option maxRecDepth 20000 in
theorem gX5_now_X0_waiting : GoodIn wsX5_now (wsV RX5 95 RX0 yX0_waiting wsX0_waiting) := goodIn_app (goodIn_of _ (by decide +kernel)) ggX5_now_X0_waiting
set_option maxRecDepth 20000 in
theorem ggX5_now_X0_owedByAll : GoodIn wsX5_now wsX0_owedByAll := goodIn_r _ [32, 33, 22, 11, 12, 13, 14, 15, 23, 24, 25, 26, 27, 28, 56, 57, 58, 59, 60, 61, 62, 63, 64, 65] (by decide +kernel) (by decide +kernel)
set_option maxRecDepth 20000 in
theorem gX5_now_X0_owedByAll : GoodIn wsX5_now (wsV RX5 98 RX0 yX0_owedByAll wsX0_owedByAll) := goodIn_app (goodIn_of _ (by decide +kernel)) ggX5_now_X0_owedByAll
set_option maxRecDepth 20000 in
theorem ggX5_now_X0_cashOfAll : GoodIn wsX5_now wsX0_cashOfAll := goodIn_r _ [37, 38, 22, 11, 12, 13, 14, 15, 23, 24, 25, 26, 27, 28, 56, 57, 58, 59, 60, 61, 62, 63, 64, 65] (by decide +kernel) (by decide +kernel)
set_option maxRecDepth 20000 in
theorem gX5_now_X0_cashOfAll : GoodIn wsX5_now (wsV RX5 101 RX0 yX0_cashOfAll wsX0_cashOfAll) := goodIn_app (goodIn_of _ (by decide +kernel)) ggX5_now_X0_cashOfAll
set_option maxRecDepth 20000 in
theorem ggX5_now_X1_size : GoodIn wsX5_now wsX1_size := goodIn_r _ [43, 44, 66, 67, 68] (by decide +kernel) (by decide +kernel)

set_option maxRecDepth 20000 in
theorem ggX0_init_X3_init : GoodIn wsX0_init wsX3_init := goodIn_r _ [14, 15, 2, 3, 16, 17, 18, 19, 20, 21, 22, 23, 24, 25, 26] (by decide +kernel) (by decide +kernel)
set_option maxRecDepth 20000 in
theorem gX0_init_X3_init : GoodIn wsX0_init (wsX3_init) := ggX0_init_X3_init
theorem dX0_init_0 : decode cX0_init 0 = .ok (.aload_n 0, 1) := by decide +kernel
theorem dX0_init_1 : decode cX0_init 1 = .ok (.invokespecial 3, 3) := by decide +kernel
theorem dX0_init_4 : decode cX0_init 4 = .ok (.aload_n 0, 1) := by decide +kernel
theorem dX0_init_5 : decode cX0_init 5 = .ok (.new 9, 3) := by decide +kernel
theorem dX0_init_8 : decode cX0_init 8 = .ok (.dup, 1) := by decide +kernel
theorem dX0_init_9 : decode cX0_init 9 = .ok (.bipush 6, 2) := by decide +kernel
theorem dX0_init_11 : decode cX0_init 11 = .ok (.iconst 3, 1) := by decide +kernel
theorem dX0_init_12 : decode cX0_init 12 = .ok (.invokespecial 11, 3) := by decide +kernel
theorem dX0_init_15 : decode cX0_init 15 = .ok (.putfield 14, 3) := by decide +kernel
theorem dX0_init_18 : decode cX0_init 18 = .ok (.aload_n 0, 1) := by decide +kernel
theorem dX0_init_19 : decode cX0_init 19 = .ok (.new 9, 3) := by decide +kernel
theorem dX0_init_22 : decode cX0_init 22 = .ok (.dup, 1) := by decide +kernel
theorem dX0_init_23 : decode cX0_init 23 = .ok (.bipush 6, 2) := by decide +kernel
theorem dX0_init_25 : decode cX0_init 25 = .ok (.bipush 13, 2) := by decide +kernel
theorem dX0_init_27 : decode cX0_init 27 = .ok (.invokespecial 11, 3) := by decide +kernel
theorem dX0_init_30 : decode cX0_init 30 = .ok (.putfield 20, 3) := by decide +kernel
theorem dX0_init_33 : decode cX0_init 33 = .ok (.aload_n 0, 1) := by decide +kernel
theorem dX0_init_34 : decode cX0_init 34 = .ok (.new 9, 3) := by decide +kernel
theorem dX0_init_37 : decode cX0_init 37 = .ok (.dup, 1) := by decide +kernel
theorem dX0_init_38 : decode cX0_init 38 = .ok (.bipush 60, 2) := by decide +kernel
theorem dX0_init_40 : decode cX0_init 40 = .ok (.bipush 7, 2) := by decide +kernel
theorem dX0_init_42 : decode cX0_init 42 = .ok (.invokespecial 11, 3) := by decide +kernel
theorem dX0_init_45 : decode cX0_init 45 = .ok (.putfield 23, 3) := by decide +kernel
theorem dX0_init_48 : decode cX0_init 48 = .ok (.aload_n 0, 1) := by decide +kernel
theorem dX0_init_49 : decode cX0_init 49 = .ok (.new 9, 3) := by decide +kernel
theorem dX0_init_52 : decode cX0_init 52 = .ok (.dup, 1) := by decide +kernel
theorem dX0_init_53 : decode cX0_init 53 = .ok (.bipush 40, 2) := by decide +kernel
theorem dX0_init_55 : decode cX0_init 55 = .ok (.iconst 4, 1) := by decide +kernel
theorem dX0_init_56 : decode cX0_init 56 = .ok (.invokespecial 11, 3) := by decide +kernel
theorem dX0_init_59 : decode cX0_init 59 = .ok (.putfield 26, 3) := by decide +kernel
theorem dX0_init_62 : decode cX0_init 62 = .ok (.aload_n 0, 1) := by decide +kernel
theorem dX0_init_63 : decode cX0_init 63 = .ok (.iconst 1, 1) := by decide +kernel
theorem dX0_init_64 : decode cX0_init 64 = .ok (.putfield 29, 3) := by decide +kernel
theorem dX0_init_67 : decode cX0_init 67 = .ok (.return_, 1) := by decide +kernel
set_option maxRecDepth 20000 in
theorem ggX0_clear_X3_clear : GoodIn wsX0_clear wsX3_clear := goodIn_r _ [12, 13, 21, 22, 23] (by decide +kernel) (by decide +kernel)
set_option maxRecDepth 20000 in
theorem gX0_clear_X3_clear : GoodIn wsX0_clear (wsV RX0 33 RX3 yX3_clear wsX3_clear) := goodIn_app (goodIn_of _ (by decide +kernel)) ggX0_clear_X3_clear
theorem dX0_clear_0 : decode cX0_clear 0 = .ok (.aload_n 0, 1) := by decide +kernel
theorem dX0_clear_1 : decode cX0_clear 1 = .ok (.getfield 14, 3) := by decide +kernel
theorem dX0_clear_4 : decode cX0_clear 4 = .ok (.invokevirtual 33, 3) := by decide +kernel
theorem dX0_clear_7 : decode cX0_clear 7 = .ok (.aload_n 0, 1) := by decide +kernel
theorem dX0_clear_8 : decode cX0_clear 8 = .ok (.getfield 20, 3) := by decide +kernel
theorem dX0_clear_11 : decode cX0_clear 11 = .ok (.invokevirtual 33, 3) := by decide +kernel
theorem dX0_clear_14 : decode cX0_clear 14 = .ok (.aload_n 0, 1) := by decide +kernel
theorem dX0_clear_15 : decode cX0_clear 15 = .ok (.getfield 23, 3) := by decide +kernel
theorem dX0_clear_18 : decode cX0_clear 18 = .ok (.invokevirtual 33, 3) := by decide +kernel
theorem dX0_clear_21 : decode cX0_clear 21 = .ok (.aload_n 0, 1) := by decide +kernel
theorem dX0_clear_22 : decode cX0_clear 22 = .ok (.getfield 26, 3) := by decide +kernel
theorem dX0_clear_25 : decode cX0_clear 25 = .ok (.invokevirtual 33, 3) := by decide +kernel
theorem dX0_clear_28 : decode cX0_clear 28 = .ok (.aload_n 0, 1) := by decide +kernel
theorem dX0_clear_29 : decode cX0_clear 29 = .ok (.iconst 1, 1) := by decide +kernel
theorem dX0_clear_30 : decode cX0_clear 30 = .ok (.putfield 29, 3) := by decide +kernel
theorem dX0_clear_33 : decode cX0_clear 33 = .ok (.aload_n 0, 1) := by decide +kernel
theorem dX0_clear_34 : decode cX0_clear 34 = .ok (.iconst 0, 1) := by decide +kernel
theorem dX0_clear_35 : decode cX0_clear 35 = .ok (.putfield 36, 3) := by decide +kernel
theorem dX0_clear_38 : decode cX0_clear 38 = .ok (.aload_n 0, 1) := by decide +kernel
theorem dX0_clear_39 : decode cX0_clear 39 = .ok (.iconst 0, 1) := by decide +kernel
theorem dX0_clear_40 : decode cX0_clear 40 = .ok (.putfield 39, 3) := by decide +kernel
theorem dX0_clear_43 : decode cX0_clear 43 = .ok (.return_, 1) := by decide +kernel
set_option maxRecDepth 20000 in
theorem ggX0_copyFrom_X3_copyFrom : GoodIn wsX0_copyFrom wsX3_copyFrom := goodIn_r _ [12, 13, 14, 15, 16, 17, 18, 19, 20, 21, 22, 23, 24, 25, 26, 34, 35, 36] (by decide +kernel) (by decide +kernel)
set_option maxRecDepth 20000 in
theorem gX0_copyFrom_X3_copyFrom : GoodIn wsX0_copyFrom (wsV RX0 42 RX3 yX3_copyFrom wsX3_copyFrom) := goodIn_app (goodIn_of _ (by decide +kernel)) ggX0_copyFrom_X3_copyFrom
theorem dX0_copyFrom_0 : decode cX0_copyFrom 0 = .ok (.aload_n 0, 1) := by decide +kernel
theorem dX0_copyFrom_1 : decode cX0_copyFrom 1 = .ok (.getfield 14, 3) := by decide +kernel
theorem dX0_copyFrom_4 : decode cX0_copyFrom 4 = .ok (.aload_n 1, 1) := by decide +kernel
theorem dX0_copyFrom_5 : decode cX0_copyFrom 5 = .ok (.getfield 14, 3) := by decide +kernel
theorem dX0_copyFrom_8 : decode cX0_copyFrom 8 = .ok (.invokevirtual 42, 3) := by decide +kernel
theorem dX0_copyFrom_11 : decode cX0_copyFrom 11 = .ok (.aload_n 0, 1) := by decide +kernel
theorem dX0_copyFrom_12 : decode cX0_copyFrom 12 = .ok (.getfield 20, 3) := by decide +kernel
theorem dX0_copyFrom_15 : decode cX0_copyFrom 15 = .ok (.aload_n 1, 1) := by decide +kernel
theorem dX0_copyFrom_16 : decode cX0_copyFrom 16 = .ok (.getfield 20, 3) := by decide +kernel
theorem dX0_copyFrom_19 : decode cX0_copyFrom 19 = .ok (.invokevirtual 42, 3) := by decide +kernel
theorem dX0_copyFrom_22 : decode cX0_copyFrom 22 = .ok (.aload_n 0, 1) := by decide +kernel
theorem dX0_copyFrom_23 : decode cX0_copyFrom 23 = .ok (.getfield 23, 3) := by decide +kernel
theorem dX0_copyFrom_26 : decode cX0_copyFrom 26 = .ok (.aload_n 1, 1) := by decide +kernel
theorem dX0_copyFrom_27 : decode cX0_copyFrom 27 = .ok (.getfield 23, 3) := by decide +kernel
theorem dX0_copyFrom_30 : decode cX0_copyFrom 30 = .ok (.invokevirtual 42, 3) := by decide +kernel
theorem dX0_copyFrom_33 : decode cX0_copyFrom 33 = .ok (.aload_n 0, 1) := by decide +kernel
theorem dX0_copyFrom_34 : decode cX0_copyFrom 34 = .ok (.getfield 26, 3) := by decide +kernel
theorem dX0_copyFrom_37 : decode cX0_copyFrom 37 = .ok (.aload_n 1, 1) := by decide +kernel
theorem dX0_copyFrom_38 : decode cX0_copyFrom 38 = .ok (.getfield 26, 3) := by decide +kernel
theorem dX0_copyFrom_41 : decode cX0_copyFrom 41 = .ok (.invokevirtual 42, 3) := by decide +kernel
theorem dX0_copyFrom_44 : decode cX0_copyFrom 44 = .ok (.aload_n 0, 1) := by decide +kernel
theorem dX0_copyFrom_45 : decode cX0_copyFrom 45 = .ok (.aload_n 1, 1) := by decide +kernel
theorem dX0_copyFrom_46 : decode cX0_copyFrom 46 = .ok (.getfield 29, 3) := by decide +kernel
theorem dX0_copyFrom_49 : decode cX0_copyFrom 49 = .ok (.putfield 29, 3) := by decide +kernel
theorem dX0_copyFrom_52 : decode cX0_copyFrom 52 = .ok (.aload_n 0, 1) := by decide +kernel
theorem dX0_copyFrom_53 : decode cX0_copyFrom 53 = .ok (.aload_n 1, 1) := by decide +kernel
theorem dX0_copyFrom_54 : decode cX0_copyFrom 54 = .ok (.getfield 36, 3) := by decide +kernel
theorem dX0_copyFrom_57 : decode cX0_copyFrom 57 = .ok (.putfield 36, 3) := by decide +kernel
theorem dX0_copyFrom_60 : decode cX0_copyFrom 60 = .ok (.aload_n 0, 1) := by decide +kernel
theorem dX0_copyFrom_61 : decode cX0_copyFrom 61 = .ok (.aload_n 1, 1) := by decide +kernel
theorem dX0_copyFrom_62 : decode cX0_copyFrom 62 = .ok (.getfield 39, 3) := by decide +kernel
theorem dX0_copyFrom_65 : decode cX0_copyFrom 65 = .ok (.putfield 39, 3) := by decide +kernel
theorem dX0_copyFrom_68 : decode cX0_copyFrom 68 = .ok (.return_, 1) := by decide +kernel
set_option maxRecDepth 20000 in
theorem ggX0_addStep_X3_add : GoodIn wsX0_addStep wsX3_add := goodIn_r _ [6, 7, 8, 9, 10, 11, 5, 12, 13, 14, 15, 16, 17, 26, 27, 28] (by decide +kernel) (by decide +kernel)
set_option maxRecDepth 20000 in
theorem gX0_addStep_X3_add : GoodIn wsX0_addStep (wsV RX0 46 RX3 yX3_add wsX3_add) := goodIn_app (goodIn_of _ (by decide +kernel)) ggX0_addStep_X3_add
set_option maxRecDepth 20000 in
theorem ggX0_addStep_X3_set : GoodIn wsX0_addStep wsX3_set := goodIn_r _ [17, 7, 8, 13, 26, 27, 28] (by decide +kernel) (by decide +kernel)
set_option maxRecDepth 20000 in
theorem gX0_addStep_X3_set : GoodIn wsX0_addStep (wsV RX0 50 RX3 yX3_set wsX3_set) := goodIn_app (goodIn_of _ (by decide +kernel)) ggX0_addStep_X3_set
theorem dX0_addStep_0 : decode cX0_addStep 0 = .ok (.aload_n 0, 1) := by decide +kernel
theorem dX0_addStep_1 : decode cX0_addStep 1 = .ok (.getfield 14, 3) := by decide +kernel
theorem dX0_addStep_4 : decode cX0_addStep 4 = .ok (.invokevirtual 46, 3) := by decide +kernel
theorem dX0_addStep_7 : decode cX0_addStep 7 = .ok (.istore 4, 2) := by decide +kernel
theorem dX0_addStep_9 : decode cX0_addStep 9 = .ok (.aload_n 0, 1) := by decide +kernel
theorem dX0_addStep_10 : decode cX0_addStep 10 = .ok (.getfield 14, 3) := by decide +kernel
theorem dX0_addStep_13 : decode cX0_addStep 13 = .ok (.iload 4, 2) := by decide +kernel
theorem dX0_addStep_15 : decode cX0_addStep 15 = .ok (.iconst 0, 1) := by decide +kernel
theorem dX0_addStep_16 : decode cX0_addStep 16 = .ok (.iload_n 1, 1) := by decide +kernel
theorem dX0_addStep_17 : decode cX0_addStep 17 = .ok (.invokevirtual 50, 3) := by decide +kernel
theorem dX0_addStep_20 : decode cX0_addStep 20 = .ok (.aload_n 0, 1) := by decide +kernel
theorem dX0_addStep_21 : decode cX0_addStep 21 = .ok (.getfield 14, 3) := by decide +kernel
theorem dX0_addStep_24 : decode cX0_addStep 24 = .ok (.iload 4, 2) := by decide +kernel
theorem dX0_addStep_26 : decode cX0_addStep 26 = .ok (.iconst 1, 1) := by decide +kernel
theorem dX0_addStep_27 : decode cX0_addStep 27 = .ok (.iload_n 2, 1) := by decide +kernel
theorem dX0_addStep_28 : decode cX0_addStep 28 = .ok (.invokevirtual 50, 3) := by decide +kernel
theorem dX0_addStep_31 : decode cX0_addStep 31 = .ok (.aload_n 0, 1) := by decide +kernel
theorem dX0_addStep_32 : decode cX0_addStep 32 = .ok (.getfield 14, 3) := by decide +kernel
theorem dX0_addStep_35 : decode cX0_addStep 35 = .ok (.iload 4, 2) := by decide +kernel
theorem dX0_addStep_37 : decode cX0_addStep 37 = .ok (.iconst 2, 1) := by decide +kernel
theorem dX0_addStep_38 : decode cX0_addStep 38 = .ok (.iload_n 3, 1) := by decide +kernel
theorem dX0_addStep_39 : decode cX0_addStep 39 = .ok (.invokevirtual 50, 3) := by decide +kernel
theorem dX0_addStep_42 : decode cX0_addStep 42 = .ok (.return_, 1) := by decide +kernel
set_option maxRecDepth 20000 in
theorem ggX0_addDebtor_X3_add : GoodIn wsX0_addDebtor wsX3_add := goodIn_r _ [6, 7, 8, 9, 10, 11, 5, 12, 13, 14, 15, 16, 17, 26, 27, 28] (by decide +kernel) (by decide +kernel)
set_option maxRecDepth 20000 in
theorem gX0_addDebtor_X3_add : GoodIn wsX0_addDebtor (wsV RX0 46 RX3 yX3_add wsX3_add) := goodIn_app (goodIn_of _ (by decide +kernel)) ggX0_addDebtor_X3_add
set_option maxRecDepth 20000 in
theorem ggX0_addDebtor_X3_set : GoodIn wsX0_addDebtor wsX3_set := goodIn_r _ [17, 7, 8, 13, 26, 27, 28] (by decide +kernel) (by decide +kernel)
set_option maxRecDepth 20000 in
theorem gX0_addDebtor_X3_set : GoodIn wsX0_addDebtor (wsV RX0 50 RX3 yX3_set wsX3_set) := goodIn_app (goodIn_of _ (by decide +kernel)) ggX0_addDebtor_X3_set
theorem dX0_addDebtor_0 : decode cX0_addDebtor 0 = .ok (.aload_n 0, 1) := by decide +kernel
theorem dX0_addDebtor_1 : decode cX0_addDebtor 1 = .ok (.getfield 20, 3) := by decide +kernel
theorem dX0_addDebtor_4 : decode cX0_addDebtor 4 = .ok (.invokevirtual 46, 3) := by decide +kernel
theorem dX0_addDebtor_7 : decode cX0_addDebtor 7 = .ok (.istore_n 3, 1) := by decide +kernel
theorem dX0_addDebtor_8 : decode cX0_addDebtor 8 = .ok (.aload_n 0, 1) := by decide +kernel
theorem dX0_addDebtor_9 : decode cX0_addDebtor 9 = .ok (.getfield 20, 3) := by decide +kernel
theorem dX0_addDebtor_12 : decode cX0_addDebtor 12 = .ok (.iload_n 3, 1) := by decide +kernel
theorem dX0_addDebtor_13 : decode cX0_addDebtor 13 = .ok (.iconst 0, 1) := by decide +kernel
theorem dX0_addDebtor_14 : decode cX0_addDebtor 14 = .ok (.iload_n 1, 1) := by decide +kernel
theorem dX0_addDebtor_15 : decode cX0_addDebtor 15 = .ok (.invokevirtual 50, 3) := by decide +kernel
theorem dX0_addDebtor_18 : decode cX0_addDebtor 18 = .ok (.aload_n 0, 1) := by decide +kernel
theorem dX0_addDebtor_19 : decode cX0_addDebtor 19 = .ok (.getfield 20, 3) := by decide +kernel
theorem dX0_addDebtor_22 : decode cX0_addDebtor 22 = .ok (.iload_n 3, 1) := by decide +kernel
theorem dX0_addDebtor_23 : decode cX0_addDebtor 23 = .ok (.iconst 1, 1) := by decide +kernel
theorem dX0_addDebtor_24 : decode cX0_addDebtor 24 = .ok (.iload_n 2, 1) := by decide +kernel
theorem dX0_addDebtor_25 : decode cX0_addDebtor 25 = .ok (.invokevirtual 50, 3) := by decide +kernel
theorem dX0_addDebtor_28 : decode cX0_addDebtor 28 = .ok (.return_, 1) := by decide +kernel
set_option maxRecDepth 20000 in
theorem ggX0_addInvoice_X3_add : GoodIn wsX0_addInvoice wsX3_add := goodIn_r _ [6, 7, 8, 9, 10, 11, 5, 12, 13, 14, 15, 16, 17, 26, 27, 28] (by decide +kernel) (by decide +kernel)
set_option maxRecDepth 20000 in
theorem gX0_addInvoice_X3_add : GoodIn wsX0_addInvoice (wsV RX0 46 RX3 yX3_add wsX3_add) := goodIn_app (goodIn_of _ (by decide +kernel)) ggX0_addInvoice_X3_add
set_option maxRecDepth 20000 in
theorem ggX0_addInvoice_X3_set : GoodIn wsX0_addInvoice wsX3_set := goodIn_r _ [17, 7, 8, 13, 26, 27, 28] (by decide +kernel) (by decide +kernel)
set_option maxRecDepth 20000 in
theorem gX0_addInvoice_X3_set : GoodIn wsX0_addInvoice (wsV RX0 50 RX3 yX3_set wsX3_set) := goodIn_app (goodIn_of _ (by decide +kernel)) ggX0_addInvoice_X3_set
theorem dX0_addInvoice_0 : decode cX0_addInvoice 0 = .ok (.aload_n 0, 1) := by decide +kernel
theorem dX0_addInvoice_1 : decode cX0_addInvoice 1 = .ok (.getfield 23, 3) := by decide +kernel
theorem dX0_addInvoice_4 : decode cX0_addInvoice 4 = .ok (.invokevirtual 46, 3) := by decide +kernel
theorem dX0_addInvoice_7 : decode cX0_addInvoice 7 = .ok (.istore 5, 2) := by decide +kernel
theorem dX0_addInvoice_9 : decode cX0_addInvoice 9 = .ok (.aload_n 0, 1) := by decide +kernel
theorem dX0_addInvoice_10 : decode cX0_addInvoice 10 = .ok (.getfield 23, 3) := by decide +kernel
theorem dX0_addInvoice_13 : decode cX0_addInvoice 13 = .ok (.iload 5, 2) := by decide +kernel
theorem dX0_addInvoice_15 : decode cX0_addInvoice 15 = .ok (.iconst 0, 1) := by decide +kernel
theorem dX0_addInvoice_16 : decode cX0_addInvoice 16 = .ok (.iload_n 1, 1) := by decide +kernel
theorem dX0_addInvoice_17 : decode cX0_addInvoice 17 = .ok (.invokevirtual 50, 3) := by decide +kernel
theorem dX0_addInvoice_20 : decode cX0_addInvoice 20 = .ok (.aload_n 0, 1) := by decide +kernel
theorem dX0_addInvoice_21 : decode cX0_addInvoice 21 = .ok (.getfield 23, 3) := by decide +kernel
theorem dX0_addInvoice_24 : decode cX0_addInvoice 24 = .ok (.iload 5, 2) := by decide +kernel
theorem dX0_addInvoice_26 : decode cX0_addInvoice 26 = .ok (.iconst 1, 1) := by decide +kernel
theorem dX0_addInvoice_27 : decode cX0_addInvoice 27 = .ok (.iload_n 2, 1) := by decide +kernel
theorem dX0_addInvoice_28 : decode cX0_addInvoice 28 = .ok (.invokevirtual 50, 3) := by decide +kernel
theorem dX0_addInvoice_31 : decode cX0_addInvoice 31 = .ok (.aload_n 0, 1) := by decide +kernel
theorem dX0_addInvoice_32 : decode cX0_addInvoice 32 = .ok (.getfield 23, 3) := by decide +kernel
theorem dX0_addInvoice_35 : decode cX0_addInvoice 35 = .ok (.iload 5, 2) := by decide +kernel
theorem dX0_addInvoice_37 : decode cX0_addInvoice 37 = .ok (.iconst 2, 1) := by decide +kernel
theorem dX0_addInvoice_38 : decode cX0_addInvoice 38 = .ok (.iload_n 2, 1) := by decide +kernel
theorem dX0_addInvoice_39 : decode cX0_addInvoice 39 = .ok (.invokevirtual 50, 3) := by decide +kernel
theorem dX0_addInvoice_42 : decode cX0_addInvoice 42 = .ok (.aload_n 0, 1) := by decide +kernel
theorem dX0_addInvoice_43 : decode cX0_addInvoice 43 = .ok (.getfield 23, 3) := by decide +kernel
theorem dX0_addInvoice_46 : decode cX0_addInvoice 46 = .ok (.iload 5, 2) := by decide +kernel
theorem dX0_addInvoice_48 : decode cX0_addInvoice 48 = .ok (.iconst 3, 1) := by decide +kernel
theorem dX0_addInvoice_49 : decode cX0_addInvoice 49 = .ok (.iload_n 3, 1) := by decide +kernel
theorem dX0_addInvoice_50 : decode cX0_addInvoice 50 = .ok (.invokevirtual 50, 3) := by decide +kernel
theorem dX0_addInvoice_53 : decode cX0_addInvoice 53 = .ok (.aload_n 0, 1) := by decide +kernel
theorem dX0_addInvoice_54 : decode cX0_addInvoice 54 = .ok (.getfield 23, 3) := by decide +kernel
theorem dX0_addInvoice_57 : decode cX0_addInvoice 57 = .ok (.iload 5, 2) := by decide +kernel
theorem dX0_addInvoice_59 : decode cX0_addInvoice 59 = .ok (.bipush 6, 2) := by decide +kernel
theorem dX0_addInvoice_61 : decode cX0_addInvoice 61 = .ok (.iload 4, 2) := by decide +kernel
theorem dX0_addInvoice_63 : decode cX0_addInvoice 63 = .ok (.invokevirtual 50, 3) := by decide +kernel
theorem dX0_addInvoice_66 : decode cX0_addInvoice 66 = .ok (.iload 5, 2) := by decide +kernel
theorem dX0_addInvoice_68 : decode cX0_addInvoice 68 = .ok (.ireturn, 1) := by decide +kernel
set_option maxRecDepth 20000 in
theorem ggX0_addOrder_X3_add : GoodIn wsX0_addOrder wsX3_add := goodIn_r _ [6, 7, 8, 9, 10, 11, 5, 12, 13, 14, 15, 16, 17, 54, 55, 56] (by decide +kernel) (by decide +kernel)
set_option maxRecDepth 20000 in
theorem gX0_addOrder_X3_add : GoodIn wsX0_addOrder (wsV RX0 46 RX3 yX3_add wsX3_add) := goodIn_app (goodIn_of _ (by decide +kernel)) ggX0_addOrder_X3_add
set_option maxRecDepth 20000 in
theorem ggX0_addOrder_X3_set : GoodIn wsX0_addOrder wsX3_set := goodIn_r _ [17, 7, 8, 13, 54, 55, 56] (by decide +kernel) (by decide +kernel)
set_option maxRecDepth 20000 in
theorem gX0_addOrder_X3_set : GoodIn wsX0_addOrder (wsV RX0 50 RX3 yX3_set wsX3_set) := goodIn_app (goodIn_of _ (by decide +kernel)) ggX0_addOrder_X3_set
set_option maxRecDepth 20000 in
theorem ggX0_addOrder_X0_release : GoodIn wsX0_addOrder wsX0_release := goodIn_r _ [23, 1, 24, 25, 26, 5, 27, 7, 28, 29, 30, 31, 8, 13, 32, 33, 34, 22, 35, 36, 37, 38, 39, 40, 41, 42, 43, 44, 45, 46, 18, 15, 16, 17, 47, 48, 49, 50, 51, 52, 53, 54, 55, 56] (by decide +kernel) (by decide +kernel)
set_option maxRecDepth 20000 in
theorem gX0_addOrder_X0_release : GoodIn wsX0_addOrder (wsV RX0 54 RX0 yX0_release wsX0_release) := goodIn_app (goodIn_of _ (by decide +kernel)) ggX0_addOrder_X0_release
theorem dX0_addOrder_0 : decode cX0_addOrder 0 = .ok (.aload_n 0, 1) := by decide +kernel
theorem dX0_addOrder_1 : decode cX0_addOrder 1 = .ok (.getfield 26, 3) := by decide +kernel
theorem dX0_addOrder_4 : decode cX0_addOrder 4 = .ok (.invokevirtual 46, 3) := by decide +kernel
theorem dX0_addOrder_7 : decode cX0_addOrder 7 = .ok (.istore_n 3, 1) := by decide +kernel
theorem dX0_addOrder_8 : decode cX0_addOrder 8 = .ok (.aload_n 0, 1) := by decide +kernel
theorem dX0_addOrder_9 : decode cX0_addOrder 9 = .ok (.getfield 26, 3) := by decide +kernel
theorem dX0_addOrder_12 : decode cX0_addOrder 12 = .ok (.iload_n 3, 1) := by decide +kernel
theorem dX0_addOrder_13 : decode cX0_addOrder 13 = .ok (.iconst 0, 1) := by decide +kernel
theorem dX0_addOrder_14 : decode cX0_addOrder 14 = .ok (.iload_n 1, 1) := by decide +kernel
theorem dX0_addOrder_15 : decode cX0_addOrder 15 = .ok (.invokevirtual 50, 3) := by decide +kernel
theorem dX0_addOrder_18 : decode cX0_addOrder 18 = .ok (.aload_n 0, 1) := by decide +kernel
theorem dX0_addOrder_19 : decode cX0_addOrder 19 = .ok (.getfield 26, 3) := by decide +kernel
theorem dX0_addOrder_22 : decode cX0_addOrder 22 = .ok (.iload_n 3, 1) := by decide +kernel
theorem dX0_addOrder_23 : decode cX0_addOrder 23 = .ok (.iconst 1, 1) := by decide +kernel
theorem dX0_addOrder_24 : decode cX0_addOrder 24 = .ok (.iload_n 2, 1) := by decide +kernel
theorem dX0_addOrder_25 : decode cX0_addOrder 25 = .ok (.invokevirtual 50, 3) := by decide +kernel
theorem dX0_addOrder_28 : decode cX0_addOrder 28 = .ok (.aload_n 0, 1) := by decide +kernel
theorem dX0_addOrder_29 : decode cX0_addOrder 29 = .ok (.getfield 26, 3) := by decide +kernel
theorem dX0_addOrder_32 : decode cX0_addOrder 32 = .ok (.iload_n 3, 1) := by decide +kernel
theorem dX0_addOrder_33 : decode cX0_addOrder 33 = .ok (.iconst 2, 1) := by decide +kernel
theorem dX0_addOrder_34 : decode cX0_addOrder 34 = .ok (.iconst 0, 1) := by decide +kernel
theorem dX0_addOrder_35 : decode cX0_addOrder 35 = .ok (.invokevirtual 50, 3) := by decide +kernel
theorem dX0_addOrder_38 : decode cX0_addOrder 38 = .ok (.aload_n 0, 1) := by decide +kernel
theorem dX0_addOrder_39 : decode cX0_addOrder 39 = .ok (.getfield 26, 3) := by decide +kernel
theorem dX0_addOrder_42 : decode cX0_addOrder 42 = .ok (.iload_n 3, 1) := by decide +kernel
theorem dX0_addOrder_43 : decode cX0_addOrder 43 = .ok (.iconst 3, 1) := by decide +kernel
theorem dX0_addOrder_44 : decode cX0_addOrder 44 = .ok (.iconst (-1), 1) := by decide +kernel
theorem dX0_addOrder_45 : decode cX0_addOrder 45 = .ok (.invokevirtual 50, 3) := by decide +kernel
theorem dX0_addOrder_48 : decode cX0_addOrder 48 = .ok (.aload_n 0, 1) := by decide +kernel
theorem dX0_addOrder_49 : decode cX0_addOrder 49 = .ok (.iload_n 1, 1) := by decide +kernel
theorem dX0_addOrder_50 : decode cX0_addOrder 50 = .ok (.invokevirtual 54, 3) := by decide +kernel
theorem dX0_addOrder_53 : decode cX0_addOrder 53 = .ok (.pop, 1) := by decide +kernel
theorem dX0_addOrder_54 : decode cX0_addOrder 54 = .ok (.iload_n 3, 1) := by decide +kernel
theorem dX0_addOrder_55 : decode cX0_addOrder 55 = .ok (.ireturn, 1) := by decide +kernel
set_option maxRecDepth 20000 in
theorem ggX0_billOrder_X3_get : GoodIn wsX0_billOrder wsX3_get := goodIn_r _ [8, 9, 10, 11, 63, 64, 65] (by decide +kernel) (by decide +kernel)
set_option maxRecDepth 20000 in
theorem gX0_billOrder_X3_get : GoodIn wsX0_billOrder (wsV RX0 58 RX3 yX3_get wsX3_get) := goodIn_app (goodIn_of _ (by decide +kernel)) ggX0_billOrder_X3_get
set_option maxRecDepth 20000 in
theorem ggX0_billOrder_X0_addInvoice : GoodIn wsX0_billOrder wsX0_addInvoice := goodIn_r _ [16, 17, 18, 19, 20, 7, 21, 9, 10, 22, 23, 24, 25, 11, 26, 27, 28, 29, 30, 56, 57, 58, 59, 60, 61, 62, 63, 64, 65] (by decide +kernel) (by decide +kernel)
set_option maxRecDepth 20000 in
theorem gX0_billOrder_X0_addInvoice : GoodIn wsX0_billOrder (wsV RX0 62 RX0 yX0_addInvoice wsX0_addInvoice) := goodIn_app (goodIn_of _ (by decide +kernel)) ggX0_billOrder_X0_addInvoice
set_option maxRecDepth 20000 in
theorem ggX0_billOrder_X3_set : GoodIn wsX0_billOrder wsX3_set := goodIn_r _ [29, 9, 10, 11, 63, 64, 65] (by decide +kernel) (by decide +kernel)
set_option maxRecDepth 20000 in
theorem gX0_billOrder_X3_set : GoodIn wsX0_billOrder (wsV RX0 50 RX3 yX3_set wsX3_set) := goodIn_app (goodIn_of _ (by decide +kernel)) ggX0_billOrder_X3_set
set_option maxRecDepth 20000 in
theorem ggX0_billOrder_X0_placeCash : GoodIn wsX0_billOrder wsX0_placeCash := goodIn_r _ [34, 3, 17, 35, 36, 37, 38, 4, 5, 6, 7, 8, 9, 10, 11, 39, 40, 41, 15, 42, 43, 44, 45, 46, 47, 48, 49, 50, 51, 52, 53, 54, 55, 26, 27, 28, 29, 56, 57, 58, 59, 60, 61, 62, 63, 64, 65] (by decide +kernel) (by decide +kernel)
set_option maxRecDepth 20000 in
theorem gX0_billOrder_X0_placeCash : GoodIn wsX0_billOrder (wsV RX0 66 RX0 yX0_placeCash wsX0_placeCash) := goodIn_app (goodIn_of _ (by decide +kernel)) ggX0_billOrder_X0_placeCash
theorem dX0_billOrder_0 : decode cX0_billOrder 0 = .ok (.aload_n 0, 1) := by decide +kernel
theorem dX0_billOrder_1 : decode cX0_billOrder 1 = .ok (.getfield 26, 3) := by decide +kernel
theorem dX0_billOrder_4 : decode cX0_billOrder 4 = .ok (.iload_n 1, 1) := by decide +kernel
theorem dX0_billOrder_5 : decode cX0_billOrder 5 = .ok (.iconst 0, 1) := by decide +kernel
theorem dX0_billOrder_6 : decode cX0_billOrder 6 = .ok (.invokevirtual 58, 3) := by decide +kernel
theorem dX0_billOrder_9 : decode cX0_billOrder 9 = .ok (.istore_n 2, 1) := by decide +kernel
theorem dX0_billOrder_10 : decode cX0_billOrder 10 = .ok (.aload_n 0, 1) := by decide +kernel
theorem dX0_billOrder_11 : decode cX0_billOrder 11 = .ok (.getfield 36, 3) := by decide +kernel
theorem dX0_billOrder_14 : decode cX0_billOrder 14 = .ok (.aload_n 0, 1) := by decide +kernel
theorem dX0_billOrder_15 : decode cX0_billOrder 15 = .ok (.getfield 20, 3) := by decide +kernel
theorem dX0_billOrder_18 : decode cX0_billOrder 18 = .ok (.iload_n 2, 1) := by decide +kernel
theorem dX0_billOrder_19 : decode cX0_billOrder 19 = .ok (.iconst 1, 1) := by decide +kernel
theorem dX0_billOrder_20 : decode cX0_billOrder 20 = .ok (.invokevirtual 58, 3) := by decide +kernel
theorem dX0_billOrder_23 : decode cX0_billOrder 23 = .ok (.iadd, 1) := by decide +kernel
theorem dX0_billOrder_24 : decode cX0_billOrder 24 = .ok (.istore_n 3, 1) := by decide +kernel
theorem dX0_billOrder_25 : decode cX0_billOrder 25 = .ok (.aload_n 0, 1) := by decide +kernel
theorem dX0_billOrder_26 : decode cX0_billOrder 26 = .ok (.iload_n 2, 1) := by decide +kernel
theorem dX0_billOrder_27 : decode cX0_billOrder 27 = .ok (.aload_n 0, 1) := by decide +kernel
theorem dX0_billOrder_28 : decode cX0_billOrder 28 = .ok (.getfield 26, 3) := by decide +kernel
theorem dX0_billOrder_31 : decode cX0_billOrder 31 = .ok (.iload_n 1, 1) := by decide +kernel
theorem dX0_billOrder_32 : decode cX0_billOrder 32 = .ok (.iconst 1, 1) := by decide +kernel
theorem dX0_billOrder_33 : decode cX0_billOrder 33 = .ok (.invokevirtual 58, 3) := by decide +kernel
theorem dX0_billOrder_36 : decode cX0_billOrder 36 = .ok (.iload_n 3, 1) := by decide +kernel
theorem dX0_billOrder_37 : decode cX0_billOrder 37 = .ok (.iconst 0, 1) := by decide +kernel
theorem dX0_billOrder_38 : decode cX0_billOrder 38 = .ok (.invokevirtual 62, 3) := by decide +kernel
theorem dX0_billOrder_41 : decode cX0_billOrder 41 = .ok (.istore 4, 2) := by decide +kernel
theorem dX0_billOrder_43 : decode cX0_billOrder 43 = .ok (.aload_n 0, 1) := by decide +kernel
theorem dX0_billOrder_44 : decode cX0_billOrder 44 = .ok (.getfield 26, 3) := by decide +kernel
theorem dX0_billOrder_47 : decode cX0_billOrder 47 = .ok (.iload_n 1, 1) := by decide +kernel
theorem dX0_billOrder_48 : decode cX0_billOrder 48 = .ok (.iconst 2, 1) := by decide +kernel
theorem dX0_billOrder_49 : decode cX0_billOrder 49 = .ok (.iconst 2, 1) := by decide +kernel
theorem dX0_billOrder_50 : decode cX0_billOrder 50 = .ok (.invokevirtual 50, 3) := by decide +kernel
theorem dX0_billOrder_53 : decode cX0_billOrder 53 = .ok (.aload_n 0, 1) := by decide +kernel
theorem dX0_billOrder_54 : decode cX0_billOrder 54 = .ok (.getfield 26, 3) := by decide +kernel
theorem dX0_billOrder_57 : decode cX0_billOrder 57 = .ok (.iload_n 1, 1) := by decide +kernel
theorem dX0_billOrder_58 : decode cX0_billOrder 58 = .ok (.iconst 3, 1) := by decide +kernel
theorem dX0_billOrder_59 : decode cX0_billOrder 59 = .ok (.iload 4, 2) := by decide +kernel
theorem dX0_billOrder_61 : decode cX0_billOrder 61 = .ok (.invokevirtual 50, 3) := by decide +kernel
theorem dX0_billOrder_64 : decode cX0_billOrder 64 = .ok (.aload_n 0, 1) := by decide +kernel
theorem dX0_billOrder_65 : decode cX0_billOrder 65 = .ok (.iload_n 2, 1) := by decide +kernel
theorem dX0_billOrder_66 : decode cX0_billOrder 66 = .ok (.invokevirtual 66, 3) := by decide +kernel
theorem dX0_billOrder_69 : decode cX0_billOrder 69 = .ok (.iload 4, 2) := by decide +kernel
theorem dX0_billOrder_71 : decode cX0_billOrder 71 = .ok (.ireturn, 1) := by decide +kernel
set_option maxRecDepth 20000 in
theorem ggX0_receive_X3_increase : GoodIn wsX0_receive wsX3_increase := goodIn_r _ [7, 8, 9, 10, 6, 11, 12, 13, 14, 15, 16, 17, 18, 68, 69, 70] (by decide +kernel) (by decide +kernel)
set_option maxRecDepth 20000 in
theorem gX0_receive_X3_increase : GoodIn wsX0_receive (wsV RX0 70 RX3 yX3_increase wsX3_increase) := goodIn_app (goodIn_of _ (by decide +kernel)) ggX0_receive_X3_increase
set_option maxRecDepth 20000 in
theorem ggX0_receive_X0_placeCash : GoodIn wsX0_receive wsX0_placeCash := goodIn_r _ [23, 2, 24, 25, 26, 27, 28, 29, 9, 10, 6, 11, 12, 13, 14, 30, 31, 32, 22, 33, 34, 35, 36, 37, 38, 39, 40, 41, 3, 4, 5, 7, 8, 15, 16, 17, 18, 61, 62, 63, 64, 65, 66, 67, 68, 69, 70] (by decide +kernel) (by decide +kernel)
set_option maxRecDepth 20000 in
theorem gX0_receive_X0_placeCash : GoodIn wsX0_receive (wsV RX0 66 RX0 yX0_placeCash wsX0_placeCash) := goodIn_app (goodIn_of _ (by decide +kernel)) ggX0_receive_X0_placeCash
set_option maxRecDepth 20000 in
theorem ggX0_receive_X0_release : GoodIn wsX0_receive wsX0_release := goodIn_r _ [45, 46, 34, 35, 36, 6, 37, 12, 29, 9, 10, 11, 13, 14, 47, 48, 49, 22, 50, 2, 51, 52, 53, 54, 55, 56, 57, 58, 59, 24, 60, 16, 17, 18, 61, 62, 63, 64, 65, 66, 67, 68, 69, 70] (by decide +kernel) (by decide +kernel)
set_option maxRecDepth 20000 in
theorem gX0_receive_X0_release : GoodIn wsX0_receive (wsV RX0 54 RX0 yX0_release wsX0_release) := goodIn_app (goodIn_of _ (by decide +kernel)) ggX0_receive_X0_release
theorem dX0_receive_0 : decode cX0_receive 0 = .ok (.aload_n 0, 1) := by decide +kernel
theorem dX0_receive_1 : decode cX0_receive 1 = .ok (.dup, 1) := by decide +kernel
theorem dX0_receive_2 : decode cX0_receive 2 = .ok (.getfield 39, 3) := by decide +kernel
theorem dX0_receive_5 : decode cX0_receive 5 = .ok (.iload_n 2, 1) := by decide +kernel
theorem dX0_receive_6 : decode cX0_receive 6 = .ok (.iadd, 1) := by decide +kernel
theorem dX0_receive_7 : decode cX0_receive 7 = .ok (.putfield 39, 3) := by decide +kernel
theorem dX0_receive_10 : decode cX0_receive 10 = .ok (.aload_n 0, 1) := by decide +kernel
theorem dX0_receive_11 : decode cX0_receive 11 = .ok (.getfield 20, 3) := by decide +kernel
theorem dX0_receive_14 : decode cX0_receive 14 = .ok (.iload_n 1, 1) := by decide +kernel
theorem dX0_receive_15 : decode cX0_receive 15 = .ok (.iconst 2, 1) := by decide +kernel
theorem dX0_receive_16 : decode cX0_receive 16 = .ok (.iload_n 2, 1) := by decide +kernel
theorem dX0_receive_17 : decode cX0_receive 17 = .ok (.invokevirtual 70, 3) := by decide +kernel
theorem dX0_receive_20 : decode cX0_receive 20 = .ok (.aload_n 0, 1) := by decide +kernel
theorem dX0_receive_21 : decode cX0_receive 21 = .ok (.getfield 20, 3) := by decide +kernel
theorem dX0_receive_24 : decode cX0_receive 24 = .ok (.iload_n 1, 1) := by decide +kernel
theorem dX0_receive_25 : decode cX0_receive 25 = .ok (.bipush 12, 2) := by decide +kernel
theorem dX0_receive_27 : decode cX0_receive 27 = .ok (.iload_n 2, 1) := by decide +kernel
theorem dX0_receive_28 : decode cX0_receive 28 = .ok (.invokevirtual 70, 3) := by decide +kernel
theorem dX0_receive_31 : decode cX0_receive 31 = .ok (.aload_n 0, 1) := by decide +kernel
theorem dX0_receive_32 : decode cX0_receive 32 = .ok (.iload_n 1, 1) := by decide +kernel
theorem dX0_receive_33 : decode cX0_receive 33 = .ok (.invokevirtual 66, 3) := by decide +kernel
theorem dX0_receive_36 : decode cX0_receive 36 = .ok (.aload_n 0, 1) := by decide +kernel
theorem dX0_receive_37 : decode cX0_receive 37 = .ok (.iload_n 1, 1) := by decide +kernel
theorem dX0_receive_38 : decode cX0_receive 38 = .ok (.invokevirtual 54, 3) := by decide +kernel
theorem dX0_receive_41 : decode cX0_receive 41 = .ok (.ireturn, 1) := by decide +kernel
set_option maxRecDepth 20000 in
theorem ggX0_takeOff_X3_get : GoodIn wsX0_takeOff wsX3_get := goodIn_r _ [6, 7, 8, 9, 67, 68, 69] (by decide +kernel) (by decide +kernel)
set_option maxRecDepth 20000 in
theorem gX0_takeOff_X3_get : GoodIn wsX0_takeOff (wsV RX0 58 RX3 yX3_get wsX3_get) := goodIn_app (goodIn_of _ (by decide +kernel)) ggX0_takeOff_X3_get
set_option maxRecDepth 20000 in
theorem ggX0_takeOff_X3_increase : GoodIn wsX0_takeOff wsX3_increase := goodIn_r _ [13, 14, 3, 4, 5, 6, 7, 8, 9, 15, 16, 17, 18, 67, 68, 69] (by decide +kernel) (by decide +kernel)
set_option maxRecDepth 20000 in
theorem gX0_takeOff_X3_increase : GoodIn wsX0_takeOff (wsV RX0 70 RX3 yX3_increase wsX3_increase) := goodIn_app (goodIn_of _ (by decide +kernel)) ggX0_takeOff_X3_increase
set_option maxRecDepth 20000 in
theorem ggX0_takeOff_X3_set : GoodIn wsX0_takeOff wsX3_set := goodIn_r _ [18, 7, 8, 9, 67, 68, 69] (by decide +kernel) (by decide +kernel)
set_option maxRecDepth 20000 in
theorem gX0_takeOff_X3_set : GoodIn wsX0_takeOff (wsV RX0 50 RX3 yX3_set wsX3_set) := goodIn_app (goodIn_of _ (by decide +kernel)) ggX0_takeOff_X3_set
set_option maxRecDepth 20000 in
theorem ggX0_takeOff_X0_placeCash : GoodIn wsX0_takeOff wsX0_placeCash := goodIn_r _ [24, 25, 1, 26, 27, 28, 29, 2, 3, 4, 5, 6, 7, 8, 9, 30, 31, 32, 23, 33, 34, 35, 36, 37, 38, 39, 40, 41, 10, 11, 12, 13, 14, 15, 16, 17, 18, 60, 61, 62, 63, 64, 65, 66, 67, 68, 69] (by decide +kernel) (by decide +kernel)
set_option maxRecDepth 20000 in
theorem gX0_takeOff_X0_placeCash : GoodIn wsX0_takeOff (wsV RX0 66 RX0 yX0_placeCash wsX0_placeCash) := goodIn_app (goodIn_of _ (by decide +kernel)) ggX0_takeOff_X0_placeCash
set_option maxRecDepth 20000 in
theorem ggX0_takeOff_X0_release : GoodIn wsX0_takeOff wsX0_release := goodIn_r _ [45, 46, 34, 35, 36, 5, 37, 7, 2, 3, 4, 6, 8, 9, 47, 48, 49, 23, 50, 25, 51, 52, 53, 54, 55, 56, 57, 58, 59, 1, 19, 16, 17, 18, 60, 61, 62, 63, 64, 65, 66, 67, 68, 69] (by decide +kernel) (by decide +kernel)
set_option maxRecDepth 20000 in
theorem gX0_takeOff_X0_release : GoodIn wsX0_takeOff (wsV RX0 54 RX0 yX0_release wsX0_release) := goodIn_app (goodIn_of _ (by decide +kernel)) ggX0_takeOff_X0_release
theorem dX0_takeOff_0 : decode cX0_takeOff 0 = .ok (.aload_n 0, 1) := by decide +kernel
theorem dX0_takeOff_1 : decode cX0_takeOff 1 = .ok (.getfield 23, 3) := by decide +kernel
theorem dX0_takeOff_4 : decode cX0_takeOff 4 = .ok (.iload_n 1, 1) := by decide +kernel
theorem dX0_takeOff_5 : decode cX0_takeOff 5 = .ok (.iconst 0, 1) := by decide +kernel
theorem dX0_takeOff_6 : decode cX0_takeOff 6 = .ok (.invokevirtual 58, 3) := by decide +kernel
theorem dX0_takeOff_9 : decode cX0_takeOff 9 = .ok (.istore_n 3, 1) := by decide +kernel
theorem dX0_takeOff_10 : decode cX0_takeOff 10 = .ok (.aload_n 0, 1) := by decide +kernel
theorem dX0_takeOff_11 : decode cX0_takeOff 11 = .ok (.getfield 23, 3) := by decide +kernel
theorem dX0_takeOff_14 : decode cX0_takeOff 14 = .ok (.iload_n 1, 1) := by decide +kernel
theorem dX0_takeOff_15 : decode cX0_takeOff 15 = .ok (.iconst 2, 1) := by decide +kernel
theorem dX0_takeOff_16 : decode cX0_takeOff 16 = .ok (.iload_n 2, 1) := by decide +kernel
theorem dX0_takeOff_17 : decode cX0_takeOff 17 = .ok (.ineg, 1) := by decide +kernel
theorem dX0_takeOff_18 : decode cX0_takeOff 18 = .ok (.invokevirtual 70, 3) := by decide +kernel
theorem dX0_takeOff_21 : decode cX0_takeOff 21 = .ok (.aload_n 0, 1) := by decide +kernel
theorem dX0_takeOff_22 : decode cX0_takeOff 22 = .ok (.getfield 23, 3) := by decide +kernel
theorem dX0_takeOff_25 : decode cX0_takeOff 25 = .ok (.iload_n 1, 1) := by decide +kernel
theorem dX0_takeOff_26 : decode cX0_takeOff 26 = .ok (.iconst 5, 1) := by decide +kernel
theorem dX0_takeOff_27 : decode cX0_takeOff 27 = .ok (.iconst 0, 1) := by decide +kernel
theorem dX0_takeOff_28 : decode cX0_takeOff 28 = .ok (.invokevirtual 50, 3) := by decide +kernel
theorem dX0_takeOff_31 : decode cX0_takeOff 31 = .ok (.aload_n 0, 1) := by decide +kernel
theorem dX0_takeOff_32 : decode cX0_takeOff 32 = .ok (.iload_n 3, 1) := by decide +kernel
theorem dX0_takeOff_33 : decode cX0_takeOff 33 = .ok (.invokevirtual 66, 3) := by decide +kernel
theorem dX0_takeOff_36 : decode cX0_takeOff 36 = .ok (.aload_n 0, 1) := by decide +kernel
theorem dX0_takeOff_37 : decode cX0_takeOff 37 = .ok (.iload_n 3, 1) := by decide +kernel
theorem dX0_takeOff_38 : decode cX0_takeOff 38 = .ok (.invokevirtual 54, 3) := by decide +kernel
theorem dX0_takeOff_41 : decode cX0_takeOff 41 = .ok (.pop, 1) := by decide +kernel
theorem dX0_takeOff_42 : decode cX0_takeOff 42 = .ok (.return_, 1) := by decide +kernel
set_option maxRecDepth 20000 in
theorem ggX0_agreePromise_X3_set : GoodIn wsX0_agreePromise wsX3_set := goodIn_r _ [6, 7, 8, 9, 17, 18, 19] (by decide +kernel) (by decide +kernel)
set_option maxRecDepth 20000 in
theorem gX0_agreePromise_X3_set : GoodIn wsX0_agreePromise (wsV RX0 50 RX3 yX3_set wsX3_set) := goodIn_app (goodIn_of _ (by decide +kernel)) ggX0_agreePromise_X3_set
theorem dX0_agreePromise_0 : decode cX0_agreePromise 0 = .ok (.aload_n 0, 1) := by decide +kernel
theorem dX0_agreePromise_1 : decode cX0_agreePromise 1 = .ok (.getfield 20, 3) := by decide +kernel
theorem dX0_agreePromise_4 : decode cX0_agreePromise 4 = .ok (.iload_n 1, 1) := by decide +kernel
theorem dX0_agreePromise_5 : decode cX0_agreePromise 5 = .ok (.bipush 6, 2) := by decide +kernel
theorem dX0_agreePromise_7 : decode cX0_agreePromise 7 = .ok (.iload_n 2, 1) := by decide +kernel
theorem dX0_agreePromise_8 : decode cX0_agreePromise 8 = .ok (.invokevirtual 50, 3) := by decide +kernel
theorem dX0_agreePromise_11 : decode cX0_agreePromise 11 = .ok (.aload_n 0, 1) := by decide +kernel
theorem dX0_agreePromise_12 : decode cX0_agreePromise 12 = .ok (.getfield 20, 3) := by decide +kernel
theorem dX0_agreePromise_15 : decode cX0_agreePromise 15 = .ok (.iload_n 1, 1) := by decide +kernel
theorem dX0_agreePromise_16 : decode cX0_agreePromise 16 = .ok (.bipush 7, 2) := by decide +kernel
theorem dX0_agreePromise_18 : decode cX0_agreePromise 18 = .ok (.iload_n 3, 1) := by decide +kernel
theorem dX0_agreePromise_19 : decode cX0_agreePromise 19 = .ok (.invokevirtual 50, 3) := by decide +kernel
theorem dX0_agreePromise_22 : decode cX0_agreePromise 22 = .ok (.aload_n 0, 1) := by decide +kernel
theorem dX0_agreePromise_23 : decode cX0_agreePromise 23 = .ok (.getfield 20, 3) := by decide +kernel
theorem dX0_agreePromise_26 : decode cX0_agreePromise 26 = .ok (.iload_n 1, 1) := by decide +kernel
theorem dX0_agreePromise_27 : decode cX0_agreePromise 27 = .ok (.bipush 12, 2) := by decide +kernel
theorem dX0_agreePromise_29 : decode cX0_agreePromise 29 = .ok (.iconst 0, 1) := by decide +kernel
theorem dX0_agreePromise_30 : decode cX0_agreePromise 30 = .ok (.invokevirtual 50, 3) := by decide +kernel
theorem dX0_agreePromise_33 : decode cX0_agreePromise 33 = .ok (.return_, 1) := by decide +kernel
set_option maxRecDepth 20000 in
theorem ggX0_agreePlan_X3_set : GoodIn wsX0_agreePlan wsX3_set := goodIn_r _ [7, 8, 9, 10, 36, 37, 38] (by decide +kernel) (by decide +kernel)
set_option maxRecDepth 20000 in
theorem gX0_agreePlan_X3_set : GoodIn wsX0_agreePlan (wsV RX0 50 RX3 yX3_set wsX3_set) := goodIn_app (goodIn_of _ (by decide +kernel)) ggX0_agreePlan_X3_set
set_option maxRecDepth 20000 in
theorem ggX0_agreePlan_X0_debt : GoodIn wsX0_agreePlan wsX0_debt := goodIn_r _ [15, 16, 17, 18, 19, 6, 20, 8, 21, 22, 23, 14, 24, 25, 26, 27, 28, 9, 10, 29, 30, 31, 32, 33, 34, 35, 36, 37, 38] (by decide +kernel) (by decide +kernel)
set_option maxRecDepth 20000 in
theorem gX0_agreePlan_X0_debt : GoodIn wsX0_agreePlan (wsV RX0 73 RX0 yX0_debt wsX0_debt) := goodIn_app (goodIn_of _ (by decide +kernel)) ggX0_agreePlan_X0_debt
theorem dX0_agreePlan_0 : decode cX0_agreePlan 0 = .ok (.aload_n 0, 1) := by decide +kernel
theorem dX0_agreePlan_1 : decode cX0_agreePlan 1 = .ok (.getfield 20, 3) := by decide +kernel
theorem dX0_agreePlan_4 : decode cX0_agreePlan 4 = .ok (.iload_n 1, 1) := by decide +kernel
theorem dX0_agreePlan_5 : decode cX0_agreePlan 5 = .ok (.bipush 6, 2) := by decide +kernel
theorem dX0_agreePlan_7 : decode cX0_agreePlan 7 = .ok (.iconst 0, 1) := by decide +kernel
theorem dX0_agreePlan_8 : decode cX0_agreePlan 8 = .ok (.invokevirtual 50, 3) := by decide +kernel
theorem dX0_agreePlan_11 : decode cX0_agreePlan 11 = .ok (.aload_n 0, 1) := by decide +kernel
theorem dX0_agreePlan_12 : decode cX0_agreePlan 12 = .ok (.getfield 20, 3) := by decide +kernel
theorem dX0_agreePlan_15 : decode cX0_agreePlan 15 = .ok (.iload_n 1, 1) := by decide +kernel
theorem dX0_agreePlan_16 : decode cX0_agreePlan 16 = .ok (.bipush 8, 2) := by decide +kernel
theorem dX0_agreePlan_18 : decode cX0_agreePlan 18 = .ok (.iload_n 2, 1) := by decide +kernel
theorem dX0_agreePlan_19 : decode cX0_agreePlan 19 = .ok (.invokevirtual 50, 3) := by decide +kernel
theorem dX0_agreePlan_22 : decode cX0_agreePlan 22 = .ok (.aload_n 0, 1) := by decide +kernel
theorem dX0_agreePlan_23 : decode cX0_agreePlan 23 = .ok (.getfield 20, 3) := by decide +kernel
theorem dX0_agreePlan_26 : decode cX0_agreePlan 26 = .ok (.iload_n 1, 1) := by decide +kernel
theorem dX0_agreePlan_27 : decode cX0_agreePlan 27 = .ok (.bipush 9, 2) := by decide +kernel
theorem dX0_agreePlan_29 : decode cX0_agreePlan 29 = .ok (.aload_n 0, 1) := by decide +kernel
theorem dX0_agreePlan_30 : decode cX0_agreePlan 30 = .ok (.iload_n 1, 1) := by decide +kernel
theorem dX0_agreePlan_31 : decode cX0_agreePlan 31 = .ok (.invokevirtual 73, 3) := by decide +kernel
theorem dX0_agreePlan_34 : decode cX0_agreePlan 34 = .ok (.invokevirtual 50, 3) := by decide +kernel
theorem dX0_agreePlan_37 : decode cX0_agreePlan 37 = .ok (.aload_n 0, 1) := by decide +kernel
theorem dX0_agreePlan_38 : decode cX0_agreePlan 38 = .ok (.getfield 20, 3) := by decide +kernel
theorem dX0_agreePlan_41 : decode cX0_agreePlan 41 = .ok (.iload_n 1, 1) := by decide +kernel
theorem dX0_agreePlan_42 : decode cX0_agreePlan 42 = .ok (.bipush 10, 2) := by decide +kernel
theorem dX0_agreePlan_44 : decode cX0_agreePlan 44 = .ok (.aload_n 0, 1) := by decide +kernel
theorem dX0_agreePlan_45 : decode cX0_agreePlan 45 = .ok (.getfield 36, 3) := by decide +kernel
theorem dX0_agreePlan_48 : decode cX0_agreePlan 48 = .ok (.invokevirtual 50, 3) := by decide +kernel
theorem dX0_agreePlan_51 : decode cX0_agreePlan 51 = .ok (.aload_n 0, 1) := by decide +kernel
theorem dX0_agreePlan_52 : decode cX0_agreePlan 52 = .ok (.getfield 20, 3) := by decide +kernel
theorem dX0_agreePlan_55 : decode cX0_agreePlan 55 = .ok (.iload_n 1, 1) := by decide +kernel
theorem dX0_agreePlan_56 : decode cX0_agreePlan 56 = .ok (.bipush 11, 2) := by decide +kernel
theorem dX0_agreePlan_58 : decode cX0_agreePlan 58 = .ok (.iload_n 3, 1) := by decide +kernel
theorem dX0_agreePlan_59 : decode cX0_agreePlan 59 = .ok (.invokevirtual 50, 3) := by decide +kernel
theorem dX0_agreePlan_62 : decode cX0_agreePlan 62 = .ok (.aload_n 0, 1) := by decide +kernel
theorem dX0_agreePlan_63 : decode cX0_agreePlan 63 = .ok (.getfield 20, 3) := by decide +kernel
theorem dX0_agreePlan_66 : decode cX0_agreePlan 66 = .ok (.iload_n 1, 1) := by decide +kernel
theorem dX0_agreePlan_67 : decode cX0_agreePlan 67 = .ok (.bipush 12, 2) := by decide +kernel
theorem dX0_agreePlan_69 : decode cX0_agreePlan 69 = .ok (.iconst 0, 1) := by decide +kernel
theorem dX0_agreePlan_70 : decode cX0_agreePlan 70 = .ok (.invokevirtual 50, 3) := by decide +kernel
theorem dX0_agreePlan_73 : decode cX0_agreePlan 73 = .ok (.return_, 1) := by decide +kernel
set_option maxRecDepth 20000 in
theorem ggX0_hasPromise_X3_get : GoodIn wsX0_hasPromise wsX3_get := goodIn_r _ [6, 7, 8, 9, 17, 18, 19] (by decide +kernel) (by decide +kernel)
set_option maxRecDepth 20000 in
theorem gX0_hasPromise_X3_get : GoodIn wsX0_hasPromise (wsV RX0 58 RX3 yX3_get wsX3_get) := goodIn_app (goodIn_of _ (by decide +kernel)) ggX0_hasPromise_X3_get
theorem dX0_hasPromise_0 : decode cX0_hasPromise 0 = .ok (.aload_n 0, 1) := by decide +kernel
theorem dX0_hasPromise_1 : decode cX0_hasPromise 1 = .ok (.getfield 20, 3) := by decide +kernel
theorem dX0_hasPromise_4 : decode cX0_hasPromise 4 = .ok (.iload_n 1, 1) := by decide +kernel
theorem dX0_hasPromise_5 : decode cX0_hasPromise 5 = .ok (.bipush 6, 2) := by decide +kernel
theorem dX0_hasPromise_7 : decode cX0_hasPromise 7 = .ok (.invokevirtual 58, 3) := by decide +kernel
theorem dX0_hasPromise_10 : decode cX0_hasPromise 10 = .ok (.ifCond .le 7, 3) := by decide +kernel
theorem dX0_hasPromise_13 : decode cX0_hasPromise 13 = .ok (.iconst 1, 1) := by decide +kernel
theorem dX0_hasPromise_14 : decode cX0_hasPromise 14 = .ok (.goto 4, 3) := by decide +kernel
theorem dX0_hasPromise_17 : decode cX0_hasPromise 17 = .ok (.iconst 0, 1) := by decide +kernel
theorem dX0_hasPromise_18 : decode cX0_hasPromise 18 = .ok (.ireturn, 1) := by decide +kernel
set_option maxRecDepth 20000 in
theorem ggX0_hasPlan_X3_get : GoodIn wsX0_hasPlan wsX3_get := goodIn_r _ [6, 7, 8, 9, 17, 18, 19] (by decide +kernel) (by decide +kernel)
set_option maxRecDepth 20000 in
theorem gX0_hasPlan_X3_get : GoodIn wsX0_hasPlan (wsV RX0 58 RX3 yX3_get wsX3_get) := goodIn_app (goodIn_of _ (by decide +kernel)) ggX0_hasPlan_X3_get
theorem dX0_hasPlan_0 : decode cX0_hasPlan 0 = .ok (.aload_n 0, 1) := by decide +kernel
theorem dX0_hasPlan_1 : decode cX0_hasPlan 1 = .ok (.getfield 20, 3) := by decide +kernel
theorem dX0_hasPlan_4 : decode cX0_hasPlan 4 = .ok (.iload_n 1, 1) := by decide +kernel
theorem dX0_hasPlan_5 : decode cX0_hasPlan 5 = .ok (.bipush 8, 2) := by decide +kernel
theorem dX0_hasPlan_7 : decode cX0_hasPlan 7 = .ok (.invokevirtual 58, 3) := by decide +kernel
theorem dX0_hasPlan_10 : decode cX0_hasPlan 10 = .ok (.ifCond .le 7, 3) := by decide +kernel
theorem dX0_hasPlan_13 : decode cX0_hasPlan 13 = .ok (.iconst 1, 1) := by decide +kernel
theorem dX0_hasPlan_14 : decode cX0_hasPlan 14 = .ok (.goto 4, 3) := by decide +kernel
theorem dX0_hasPlan_17 : decode cX0_hasPlan 17 = .ok (.iconst 0, 1) := by decide +kernel
theorem dX0_hasPlan_18 : decode cX0_hasPlan 18 = .ok (.ireturn, 1) := by decide +kernel
set_option maxRecDepth 20000 in
theorem ggX0_hasAgreement_X0_hasPromise : GoodIn wsX0_hasAgreement wsX0_hasPromise := goodIn_r _ [5, 6, 7, 8, 9, 10, 11, 12, 13, 14, 19, 20, 21, 22, 23, 24, 25, 26, 27, 28] (by decide +kernel) (by decide +kernel)
set_option maxRecDepth 20000 in
theorem gX0_hasAgreement_X0_hasPromise : GoodIn wsX0_hasAgreement (wsV RX0 76 RX0 yX0_hasPromise wsX0_hasPromise) := goodIn_app (goodIn_of _ (by decide +kernel)) ggX0_hasAgreement_X0_hasPromise
set_option maxRecDepth 20000 in
theorem ggX0_hasAgreement_X0_hasPlan : GoodIn wsX0_hasAgreement wsX0_hasPlan := goodIn_r _ [18, 6, 7, 8, 9, 10, 11, 12, 13, 14, 19, 20, 21, 22, 23, 24, 25, 26, 27, 28] (by decide +kernel) (by decide +kernel)
set_option maxRecDepth 20000 in
theorem gX0_hasAgreement_X0_hasPlan : GoodIn wsX0_hasAgreement (wsV RX0 80 RX0 yX0_hasPlan wsX0_hasPlan) := goodIn_app (goodIn_of _ (by decide +kernel)) ggX0_hasAgreement_X0_hasPlan
theorem dX0_hasAgreement_0 : decode cX0_hasAgreement 0 = .ok (.aload_n 0, 1) := by decide +kernel
theorem dX0_hasAgreement_1 : decode cX0_hasAgreement 1 = .ok (.iload_n 1, 1) := by decide +kernel
theorem dX0_hasAgreement_2 : decode cX0_hasAgreement 2 = .ok (.invokevirtual 76, 3) := by decide +kernel
theorem dX0_hasAgreement_5 : decode cX0_hasAgreement 5 = .ok (.ifCond .ne 11, 3) := by decide +kernel
theorem dX0_hasAgreement_8 : decode cX0_hasAgreement 8 = .ok (.aload_n 0, 1) := by decide +kernel
theorem dX0_hasAgreement_9 : decode cX0_hasAgreement 9 = .ok (.iload_n 1, 1) := by decide +kernel
theorem dX0_hasAgreement_10 : decode cX0_hasAgreement 10 = .ok (.invokevirtual 80, 3) := by decide +kernel
theorem dX0_hasAgreement_13 : decode cX0_hasAgreement 13 = .ok (.ifCond .eq 7, 3) := by decide +kernel
theorem dX0_hasAgreement_16 : decode cX0_hasAgreement 16 = .ok (.iconst 1, 1) := by decide +kernel
theorem dX0_hasAgreement_17 : decode cX0_hasAgreement 17 = .ok (.goto 4, 3) := by decide +kernel
theorem dX0_hasAgreement_20 : decode cX0_hasAgreement 20 = .ok (.iconst 0, 1) := by decide +kernel
theorem dX0_hasAgreement_21 : decode cX0_hasAgreement 21 = .ok (.ireturn, 1) := by decide +kernel
set_option maxRecDepth 20000 in
theorem ggX0_isAtCourt_X3_size : GoodIn wsX0_isAtCourt wsX3_size := goodIn_r _ [7, 8, 22, 23, 24] (by decide +kernel) (by decide +kernel)
set_option maxRecDepth 20000 in
theorem gX0_isAtCourt_X3_size : GoodIn wsX0_isAtCourt (wsV RX0 83 RX3 yX3_size wsX3_size) := goodIn_app (goodIn_of _ (by decide +kernel)) ggX0_isAtCourt_X3_size
set_option maxRecDepth 20000 in
theorem ggX0_isAtCourt_X3_get : GoodIn wsX0_isAtCourt wsX3_get := goodIn_r _ [12, 8, 13, 14, 22, 23, 24] (by decide +kernel) (by decide +kernel)
set_option maxRecDepth 20000 in
theorem gX0_isAtCourt_X3_get : GoodIn wsX0_isAtCourt (wsV RX0 58 RX3 yX3_get wsX3_get) := goodIn_app (goodIn_of _ (by decide +kernel)) ggX0_isAtCourt_X3_get
theorem dX0_isAtCourt_0 : decode cX0_isAtCourt 0 = .ok (.aload_n 0, 1) := by decide +kernel
theorem dX0_isAtCourt_1 : decode cX0_isAtCourt 1 = .ok (.getfield 14, 3) := by decide +kernel
theorem dX0_isAtCourt_4 : decode cX0_isAtCourt 4 = .ok (.invokevirtual 83, 3) := by decide +kernel
theorem dX0_isAtCourt_7 : decode cX0_isAtCourt 7 = .ok (.ifCond .le 26, 3) := by decide +kernel
theorem dX0_isAtCourt_10 : decode cX0_isAtCourt 10 = .ok (.aload_n 0, 1) := by decide +kernel
theorem dX0_isAtCourt_11 : decode cX0_isAtCourt 11 = .ok (.getfield 20, 3) := by decide +kernel
theorem dX0_isAtCourt_14 : decode cX0_isAtCourt 14 = .ok (.iload_n 1, 1) := by decide +kernel
theorem dX0_isAtCourt_15 : decode cX0_isAtCourt 15 = .ok (.iconst 3, 1) := by decide +kernel
theorem dX0_isAtCourt_16 : decode cX0_isAtCourt 16 = .ok (.invokevirtual 58, 3) := by decide +kernel
theorem dX0_isAtCourt_19 : decode cX0_isAtCourt 19 = .ok (.aload_n 0, 1) := by decide +kernel
theorem dX0_isAtCourt_20 : decode cX0_isAtCourt 20 = .ok (.getfield 14, 3) := by decide +kernel
theorem dX0_isAtCourt_23 : decode cX0_isAtCourt 23 = .ok (.invokevirtual 83, 3) := by decide +kernel
theorem dX0_isAtCourt_26 : decode cX0_isAtCourt 26 = .ok (.if_icmp .lt 7, 3) := by decide +kernel
theorem dX0_isAtCourt_29 : decode cX0_isAtCourt 29 = .ok (.iconst 1, 1) := by decide +kernel
theorem dX0_isAtCourt_30 : decode cX0_isAtCourt 30 = .ok (.goto 4, 3) := by decide +kernel
theorem dX0_isAtCourt_33 : decode cX0_isAtCourt 33 = .ok (.iconst 0, 1) := by decide +kernel
theorem dX0_isAtCourt_34 : decode cX0_isAtCourt 34 = .ok (.ireturn, 1) := by decide +kernel
set_option maxRecDepth 20000 in
theorem ggX0_isClaim_X3_get : GoodIn wsX0_isClaim wsX3_get := goodIn_r _ [6, 7, 8, 9, 17, 18, 19] (by decide +kernel) (by decide +kernel)
set_option maxRecDepth 20000 in
theorem gX0_isClaim_X3_get : GoodIn wsX0_isClaim (wsV RX0 58 RX3 yX3_get wsX3_get) := goodIn_app (goodIn_of _ (by decide +kernel)) ggX0_isClaim_X3_get
theorem dX0_isClaim_0 : decode cX0_isClaim 0 = .ok (.aload_n 0, 1) := by decide +kernel
theorem dX0_isClaim_1 : decode cX0_isClaim 1 = .ok (.getfield 23, 3) := by decide +kernel
theorem dX0_isClaim_4 : decode cX0_isClaim 4 = .ok (.iload_n 1, 1) := by decide +kernel
theorem dX0_isClaim_5 : decode cX0_isClaim 5 = .ok (.iconst 0, 1) := by decide +kernel
theorem dX0_isClaim_6 : decode cX0_isClaim 6 = .ok (.invokevirtual 58, 3) := by decide +kernel
theorem dX0_isClaim_9 : decode cX0_isClaim 9 = .ok (.iload_n 2, 1) := by decide +kernel
theorem dX0_isClaim_10 : decode cX0_isClaim 10 = .ok (.if_icmp .ne 31, 3) := by decide +kernel
theorem dX0_isClaim_13 : decode cX0_isClaim 13 = .ok (.aload_n 0, 1) := by decide +kernel
theorem dX0_isClaim_14 : decode cX0_isClaim 14 = .ok (.getfield 23, 3) := by decide +kernel
theorem dX0_isClaim_17 : decode cX0_isClaim 17 = .ok (.iload_n 1, 1) := by decide +kernel
theorem dX0_isClaim_18 : decode cX0_isClaim 18 = .ok (.iconst 2, 1) := by decide +kernel
theorem dX0_isClaim_19 : decode cX0_isClaim 19 = .ok (.invokevirtual 58, 3) := by decide +kernel
theorem dX0_isClaim_22 : decode cX0_isClaim 22 = .ok (.ifCond .le 19, 3) := by decide +kernel
theorem dX0_isClaim_25 : decode cX0_isClaim 25 = .ok (.aload_n 0, 1) := by decide +kernel
theorem dX0_isClaim_26 : decode cX0_isClaim 26 = .ok (.getfield 23, 3) := by decide +kernel
theorem dX0_isClaim_29 : decode cX0_isClaim 29 = .ok (.iload_n 1, 1) := by decide +kernel
theorem dX0_isClaim_30 : decode cX0_isClaim 30 = .ok (.iconst 5, 1) := by decide +kernel
theorem dX0_isClaim_31 : decode cX0_isClaim 31 = .ok (.invokevirtual 58, 3) := by decide +kernel
theorem dX0_isClaim_34 : decode cX0_isClaim 34 = .ok (.ifCond .ne 7, 3) := by decide +kernel
theorem dX0_isClaim_37 : decode cX0_isClaim 37 = .ok (.iconst 1, 1) := by decide +kernel
theorem dX0_isClaim_38 : decode cX0_isClaim 38 = .ok (.goto 4, 3) := by decide +kernel
theorem dX0_isClaim_41 : decode cX0_isClaim 41 = .ok (.iconst 0, 1) := by decide +kernel
theorem dX0_isClaim_42 : decode cX0_isClaim 42 = .ok (.ireturn, 1) := by decide +kernel
set_option maxRecDepth 20000 in
theorem ggX0_owes_X3_size : GoodIn wsX0_owes wsX3_size := goodIn_r _ [6, 7, 21, 22, 23] (by decide +kernel) (by decide +kernel)
set_option maxRecDepth 20000 in
theorem gX0_owes_X3_size : GoodIn wsX0_owes (wsV RX0 83 RX3 yX3_size wsX3_size) := goodIn_app (goodIn_of _ (by decide +kernel)) ggX0_owes_X3_size
set_option maxRecDepth 20000 in
theorem ggX0_owes_X3_get : GoodIn wsX0_owes wsX3_get := goodIn_r _ [11, 7, 12, 13, 21, 22, 23] (by decide +kernel) (by decide +kernel)
set_option maxRecDepth 20000 in
theorem gX0_owes_X3_get : GoodIn wsX0_owes (wsV RX0 58 RX3 yX3_get wsX3_get) := goodIn_app (goodIn_of _ (by decide +kernel)) ggX0_owes_X3_get
theorem dX0_owes_0 : decode cX0_owes 0 = .ok (.iconst 0, 1) := by decide +kernel
theorem dX0_owes_1 : decode cX0_owes 1 = .ok (.istore_n 2, 1) := by decide +kernel
theorem dX0_owes_2 : decode cX0_owes 2 = .ok (.iconst 0, 1) := by decide +kernel
theorem dX0_owes_3 : decode cX0_owes 3 = .ok (.istore_n 3, 1) := by decide +kernel
theorem dX0_owes_4 : decode cX0_owes 4 = .ok (.iload_n 3, 1) := by decide +kernel
theorem dX0_owes_5 : decode cX0_owes 5 = .ok (.aload_n 0, 1) := by decide +kernel
theorem dX0_owes_6 : decode cX0_owes 6 = .ok (.getfield 23, 3) := by decide +kernel
theorem dX0_owes_9 : decode cX0_owes 9 = .ok (.invokevirtual 83, 3) := by decide +kernel
theorem dX0_owes_12 : decode cX0_owes 12 = .ok (.if_icmp .ge 34, 3) := by decide +kernel
theorem dX0_owes_15 : decode cX0_owes 15 = .ok (.aload_n 0, 1) := by decide +kernel
theorem dX0_owes_16 : decode cX0_owes 16 = .ok (.getfield 23, 3) := by decide +kernel
theorem dX0_owes_19 : decode cX0_owes 19 = .ok (.iload_n 3, 1) := by decide +kernel
theorem dX0_owes_20 : decode cX0_owes 20 = .ok (.iconst 0, 1) := by decide +kernel
theorem dX0_owes_21 : decode cX0_owes 21 = .ok (.invokevirtual 58, 3) := by decide +kernel
theorem dX0_owes_24 : decode cX0_owes 24 = .ok (.iload_n 1, 1) := by decide +kernel
theorem dX0_owes_25 : decode cX0_owes 25 = .ok (.if_icmp .ne 15, 3) := by decide +kernel
theorem dX0_owes_28 : decode cX0_owes 28 = .ok (.iload_n 2, 1) := by decide +kernel
theorem dX0_owes_29 : decode cX0_owes 29 = .ok (.aload_n 0, 1) := by decide +kernel
theorem dX0_owes_30 : decode cX0_owes 30 = .ok (.getfield 23, 3) := by decide +kernel
theorem dX0_owes_33 : decode cX0_owes 33 = .ok (.iload_n 3, 1) := by decide +kernel
theorem dX0_owes_34 : decode cX0_owes 34 = .ok (.iconst 2, 1) := by decide +kernel
theorem dX0_owes_35 : decode cX0_owes 35 = .ok (.invokevirtual 58, 3) := by decide +kernel
theorem dX0_owes_38 : decode cX0_owes 38 = .ok (.iadd, 1) := by decide +kernel
theorem dX0_owes_39 : decode cX0_owes 39 = .ok (.istore_n 2, 1) := by decide +kernel
theorem dX0_owes_40 : decode cX0_owes 40 = .ok (.iinc 3 1, 3) := by decide +kernel
theorem dX0_owes_43 : decode cX0_owes 43 = .ok (.goto (-39), 3) := by decide +kernel
theorem dX0_owes_46 : decode cX0_owes 46 = .ok (.iload_n 2, 1) := by decide +kernel
theorem dX0_owes_47 : decode cX0_owes 47 = .ok (.ireturn, 1) := by decide +kernel
set_option maxRecDepth 20000 in
theorem ggX0_debt_X3_size : GoodIn wsX0_debt wsX3_size := goodIn_r _ [6, 7, 26, 27, 28] (by decide +kernel) (by decide +kernel)
set_option maxRecDepth 20000 in
theorem gX0_debt_X3_size : GoodIn wsX0_debt (wsV RX0 83 RX3 yX3_size wsX3_size) := goodIn_app (goodIn_of _ (by decide +kernel)) ggX0_debt_X3_size
set_option maxRecDepth 20000 in
theorem ggX0_debt_X0_isClaim : GoodIn wsX0_debt wsX0_isClaim := goodIn_r _ [12, 1, 13, 14, 15, 5, 16, 7, 17, 18, 19, 20, 21, 22, 23, 24, 25, 26, 27, 28] (by decide +kernel) (by decide +kernel)
set_option maxRecDepth 20000 in
theorem gX0_debt_X0_isClaim : GoodIn wsX0_debt (wsV RX0 86 RX0 yX0_isClaim wsX0_isClaim) := goodIn_app (goodIn_of _ (by decide +kernel)) ggX0_debt_X0_isClaim
set_option maxRecDepth 20000 in
theorem ggX0_debt_X3_get : GoodIn wsX0_debt wsX3_get := goodIn_r _ [16, 7, 17, 18, 26, 27, 28] (by decide +kernel) (by decide +kernel)
set_option maxRecDepth 20000 in
theorem gX0_debt_X3_get : GoodIn wsX0_debt (wsV RX0 58 RX3 yX3_get wsX3_get) := goodIn_app (goodIn_of _ (by decide +kernel)) ggX0_debt_X3_get
theorem dX0_debt_0 : decode cX0_debt 0 = .ok (.iconst 0, 1) := by decide +kernel
theorem dX0_debt_1 : decode cX0_debt 1 = .ok (.istore_n 2, 1) := by decide +kernel
theorem dX0_debt_2 : decode cX0_debt 2 = .ok (.iconst 0, 1) := by decide +kernel
theorem dX0_debt_3 : decode cX0_debt 3 = .ok (.istore_n 3, 1) := by decide +kernel
theorem dX0_debt_4 : decode cX0_debt 4 = .ok (.iload_n 3, 1) := by decide +kernel
theorem dX0_debt_5 : decode cX0_debt 5 = .ok (.aload_n 0, 1) := by decide +kernel
theorem dX0_debt_6 : decode cX0_debt 6 = .ok (.getfield 23, 3) := by decide +kernel
theorem dX0_debt_9 : decode cX0_debt 9 = .ok (.invokevirtual 83, 3) := by decide +kernel
theorem dX0_debt_12 : decode cX0_debt 12 = .ok (.if_icmp .ge 30, 3) := by decide +kernel
theorem dX0_debt_15 : decode cX0_debt 15 = .ok (.aload_n 0, 1) := by decide +kernel
theorem dX0_debt_16 : decode cX0_debt 16 = .ok (.iload_n 3, 1) := by decide +kernel
theorem dX0_debt_17 : decode cX0_debt 17 = .ok (.iload_n 1, 1) := by decide +kernel
theorem dX0_debt_18 : decode cX0_debt 18 = .ok (.invokevirtual 86, 3) := by decide +kernel
theorem dX0_debt_21 : decode cX0_debt 21 = .ok (.ifCond .eq 15, 3) := by decide +kernel
theorem dX0_debt_24 : decode cX0_debt 24 = .ok (.iload_n 2, 1) := by decide +kernel
theorem dX0_debt_25 : decode cX0_debt 25 = .ok (.aload_n 0, 1) := by decide +kernel
theorem dX0_debt_26 : decode cX0_debt 26 = .ok (.getfield 23, 3) := by decide +kernel
theorem dX0_debt_29 : decode cX0_debt 29 = .ok (.iload_n 3, 1) := by decide +kernel
theorem dX0_debt_30 : decode cX0_debt 30 = .ok (.iconst 2, 1) := by decide +kernel
theorem dX0_debt_31 : decode cX0_debt 31 = .ok (.invokevirtual 58, 3) := by decide +kernel
theorem dX0_debt_34 : decode cX0_debt 34 = .ok (.iadd, 1) := by decide +kernel
theorem dX0_debt_35 : decode cX0_debt 35 = .ok (.istore_n 2, 1) := by decide +kernel
theorem dX0_debt_36 : decode cX0_debt 36 = .ok (.iinc 3 1, 3) := by decide +kernel
theorem dX0_debt_39 : decode cX0_debt 39 = .ok (.goto (-35), 3) := by decide +kernel
theorem dX0_debt_42 : decode cX0_debt 42 = .ok (.iload_n 2, 1) := by decide +kernel
theorem dX0_debt_43 : decode cX0_debt 43 = .ok (.ireturn, 1) := by decide +kernel
set_option maxRecDepth 20000 in
theorem ggX0_greatestAge_X3_size : GoodIn wsX0_greatestAge wsX3_size := goodIn_r _ [10, 11, 30, 31, 32] (by decide +kernel) (by decide +kernel)
set_option maxRecDepth 20000 in
theorem gX0_greatestAge_X3_size : GoodIn wsX0_greatestAge (wsV RX0 83 RX3 yX3_size wsX3_size) := goodIn_app (goodIn_of _ (by decide +kernel)) ggX0_greatestAge_X3_size
set_option maxRecDepth 20000 in
theorem ggX0_greatestAge_X0_isClaim : GoodIn wsX0_greatestAge wsX0_isClaim := goodIn_r _ [16, 1, 17, 18, 19, 9, 20, 11, 21, 22, 23, 24, 25, 26, 27, 28, 29, 30, 31, 32] (by decide +kernel) (by decide +kernel)
set_option maxRecDepth 20000 in
theorem gX0_greatestAge_X0_isClaim : GoodIn wsX0_greatestAge (wsV RX0 86 RX0 yX0_isClaim wsX0_isClaim) := goodIn_app (goodIn_of _ (by decide +kernel)) ggX0_greatestAge_X0_isClaim
set_option maxRecDepth 20000 in
theorem ggX0_greatestAge_X3_get : GoodIn wsX0_greatestAge wsX3_get := goodIn_r _ [20, 11, 21, 22, 30, 31, 32] (by decide +kernel) (by decide +kernel)
set_option maxRecDepth 20000 in
theorem gX0_greatestAge_X3_get : GoodIn wsX0_greatestAge (wsV RX0 58 RX3 yX3_get wsX3_get) := goodIn_app (goodIn_of _ (by decide +kernel)) ggX0_greatestAge_X3_get
theorem dX0_greatestAge_0 : decode cX0_greatestAge 0 = .ok (.iconst 0, 1) := by decide +kernel
theorem dX0_greatestAge_1 : decode cX0_greatestAge 1 = .ok (.istore_n 2, 1) := by decide +kernel
theorem dX0_greatestAge_2 : decode cX0_greatestAge 2 = .ok (.iconst 0, 1) := by decide +kernel
theorem dX0_greatestAge_3 : decode cX0_greatestAge 3 = .ok (.istore_n 3, 1) := by decide +kernel
theorem dX0_greatestAge_4 : decode cX0_greatestAge 4 = .ok (.iload_n 3, 1) := by decide +kernel
theorem dX0_greatestAge_5 : decode cX0_greatestAge 5 = .ok (.aload_n 0, 1) := by decide +kernel
theorem dX0_greatestAge_6 : decode cX0_greatestAge 6 = .ok (.getfield 23, 3) := by decide +kernel
theorem dX0_greatestAge_9 : decode cX0_greatestAge 9 = .ok (.invokevirtual 83, 3) := by decide +kernel
theorem dX0_greatestAge_12 : decode cX0_greatestAge 12 = .ok (.if_icmp .ge 32, 3) := by decide +kernel
theorem dX0_greatestAge_15 : decode cX0_greatestAge 15 = .ok (.aload_n 0, 1) := by decide +kernel
theorem dX0_greatestAge_16 : decode cX0_greatestAge 16 = .ok (.iload_n 3, 1) := by decide +kernel
theorem dX0_greatestAge_17 : decode cX0_greatestAge 17 = .ok (.iload_n 1, 1) := by decide +kernel
theorem dX0_greatestAge_18 : decode cX0_greatestAge 18 = .ok (.invokevirtual 86, 3) := by decide +kernel
theorem dX0_greatestAge_21 : decode cX0_greatestAge 21 = .ok (.ifCond .eq 17, 3) := by decide +kernel
theorem dX0_greatestAge_24 : decode cX0_greatestAge 24 = .ok (.iload_n 2, 1) := by decide +kernel
theorem dX0_greatestAge_25 : decode cX0_greatestAge 25 = .ok (.aload_n 0, 1) := by decide +kernel
theorem dX0_greatestAge_26 : decode cX0_greatestAge 26 = .ok (.getfield 23, 3) := by decide +kernel
theorem dX0_greatestAge_29 : decode cX0_greatestAge 29 = .ok (.iload_n 3, 1) := by decide +kernel
theorem dX0_greatestAge_30 : decode cX0_greatestAge 30 = .ok (.iconst 4, 1) := by decide +kernel
theorem dX0_greatestAge_31 : decode cX0_greatestAge 31 = .ok (.invokevirtual 58, 3) := by decide +kernel
theorem dX0_greatestAge_34 : decode cX0_greatestAge 34 = .ok (.invokestatic 90, 3) := by decide +kernel
theorem dX0_greatestAge_37 : decode cX0_greatestAge 37 = .ok (.istore_n 2, 1) := by decide +kernel
theorem dX0_greatestAge_38 : decode cX0_greatestAge 38 = .ok (.iinc 3 1, 3) := by decide +kernel
theorem dX0_greatestAge_41 : decode cX0_greatestAge 41 = .ok (.goto (-37), 3) := by decide +kernel
theorem dX0_greatestAge_44 : decode cX0_greatestAge 44 = .ok (.iload_n 2, 1) := by decide +kernel
theorem dX0_greatestAge_45 : decode cX0_greatestAge 45 = .ok (.ireturn, 1) := by decide +kernel
set_option maxRecDepth 20000 in
theorem ggX0_risk_X0_owes : GoodIn wsX0_risk wsX0_owes := goodIn_r _ [7, 8, 9, 10, 11, 12, 13, 14, 15, 16, 17, 18, 19, 20, 21, 22, 23, 24, 25, 26, 27, 28, 29, 30] (by decide +kernel) (by decide +kernel)
set_option maxRecDepth 20000 in
theorem gX0_risk_X0_owes : GoodIn wsX0_risk (wsV RX0 95 RX0 yX0_owes wsX0_owes) := goodIn_app (goodIn_of _ (by decide +kernel)) ggX0_risk_X0_owes
set_option maxRecDepth 20000 in
theorem ggX0_risk_X3_get : GoodIn wsX0_risk wsX3_get := goodIn_r _ [18, 14, 19, 20, 28, 29, 30] (by decide +kernel) (by decide +kernel)
set_option maxRecDepth 20000 in
theorem gX0_risk_X3_get : GoodIn wsX0_risk (wsV RX0 58 RX3 yX3_get wsX3_get) := goodIn_app (goodIn_of _ (by decide +kernel)) ggX0_risk_X3_get
set_option maxRecDepth 20000 in
theorem ggX0_risk_X3_size : GoodIn wsX0_risk wsX3_size := goodIn_r _ [13, 14, 28, 29, 30] (by decide +kernel) (by decide +kernel)
set_option maxRecDepth 20000 in
theorem gX0_risk_X3_size : GoodIn wsX0_risk (wsV RX0 83 RX3 yX3_size wsX3_size) := goodIn_app (goodIn_of _ (by decide +kernel)) ggX0_risk_X3_size
theorem dX0_risk_0 : decode cX0_risk 0 = .ok (.aload_n 0, 1) := by decide +kernel
theorem dX0_risk_1 : decode cX0_risk 1 = .ok (.iload_n 1, 1) := by decide +kernel
theorem dX0_risk_2 : decode cX0_risk 2 = .ok (.invokevirtual 95, 3) := by decide +kernel
theorem dX0_risk_5 : decode cX0_risk 5 = .ok (.aload_n 0, 1) := by decide +kernel
theorem dX0_risk_6 : decode cX0_risk 6 = .ok (.getfield 20, 3) := by decide +kernel
theorem dX0_risk_9 : decode cX0_risk 9 = .ok (.iload_n 1, 1) := by decide +kernel
theorem dX0_risk_10 : decode cX0_risk 10 = .ok (.iconst 2, 1) := by decide +kernel
theorem dX0_risk_11 : decode cX0_risk 11 = .ok (.invokevirtual 58, 3) := by decide +kernel
theorem dX0_risk_14 : decode cX0_risk 14 = .ok (.isub, 1) := by decide +kernel
theorem dX0_risk_15 : decode cX0_risk 15 = .ok (.istore_n 2, 1) := by decide +kernel
theorem dX0_risk_16 : decode cX0_risk 16 = .ok (.iconst 0, 1) := by decide +kernel
theorem dX0_risk_17 : decode cX0_risk 17 = .ok (.istore_n 3, 1) := by decide +kernel
theorem dX0_risk_18 : decode cX0_risk 18 = .ok (.iload_n 3, 1) := by decide +kernel
theorem dX0_risk_19 : decode cX0_risk 19 = .ok (.aload_n 0, 1) := by decide +kernel
theorem dX0_risk_20 : decode cX0_risk 20 = .ok (.getfield 26, 3) := by decide +kernel
theorem dX0_risk_23 : decode cX0_risk 23 = .ok (.invokevirtual 83, 3) := by decide +kernel
theorem dX0_risk_26 : decode cX0_risk 26 = .ok (.if_icmp .ge 47, 3) := by decide +kernel
theorem dX0_risk_29 : decode cX0_risk 29 = .ok (.aload_n 0, 1) := by decide +kernel
theorem dX0_risk_30 : decode cX0_risk 30 = .ok (.getfield 26, 3) := by decide +kernel
theorem dX0_risk_33 : decode cX0_risk 33 = .ok (.iload_n 3, 1) := by decide +kernel
theorem dX0_risk_34 : decode cX0_risk 34 = .ok (.iconst 0, 1) := by decide +kernel
theorem dX0_risk_35 : decode cX0_risk 35 = .ok (.invokevirtual 58, 3) := by decide +kernel
theorem dX0_risk_38 : decode cX0_risk 38 = .ok (.iload_n 1, 1) := by decide +kernel
theorem dX0_risk_39 : decode cX0_risk 39 = .ok (.if_icmp .ne 28, 3) := by decide +kernel
theorem dX0_risk_42 : decode cX0_risk 42 = .ok (.aload_n 0, 1) := by decide +kernel
theorem dX0_risk_43 : decode cX0_risk 43 = .ok (.getfield 26, 3) := by decide +kernel
theorem dX0_risk_46 : decode cX0_risk 46 = .ok (.iload_n 3, 1) := by decide +kernel
theorem dX0_risk_47 : decode cX0_risk 47 = .ok (.iconst 2, 1) := by decide +kernel
theorem dX0_risk_48 : decode cX0_risk 48 = .ok (.invokevirtual 58, 3) := by decide +kernel
theorem dX0_risk_51 : decode cX0_risk 51 = .ok (.iconst 1, 1) := by decide +kernel
theorem dX0_risk_52 : decode cX0_risk 52 = .ok (.if_icmp .ne 15, 3) := by decide +kernel
theorem dX0_risk_55 : decode cX0_risk 55 = .ok (.iload_n 2, 1) := by decide +kernel
theorem dX0_risk_56 : decode cX0_risk 56 = .ok (.aload_n 0, 1) := by decide +kernel
theorem dX0_risk_57 : decode cX0_risk 57 = .ok (.getfield 26, 3) := by decide +kernel
theorem dX0_risk_60 : decode cX0_risk 60 = .ok (.iload_n 3, 1) := by decide +kernel
theorem dX0_risk_61 : decode cX0_risk 61 = .ok (.iconst 1, 1) := by decide +kernel
theorem dX0_risk_62 : decode cX0_risk 62 = .ok (.invokevirtual 58, 3) := by decide +kernel
theorem dX0_risk_65 : decode cX0_risk 65 = .ok (.iadd, 1) := by decide +kernel
theorem dX0_risk_66 : decode cX0_risk 66 = .ok (.istore_n 2, 1) := by decide +kernel
theorem dX0_risk_67 : decode cX0_risk 67 = .ok (.iinc 3 1, 3) := by decide +kernel
theorem dX0_risk_70 : decode cX0_risk 70 = .ok (.goto (-52), 3) := by decide +kernel
theorem dX0_risk_73 : decode cX0_risk 73 = .ok (.iload_n 2, 1) := by decide +kernel
theorem dX0_risk_74 : decode cX0_risk 74 = .ok (.ireturn, 1) := by decide +kernel
set_option maxRecDepth 20000 in
theorem ggX0_waiting_X3_size : GoodIn wsX0_waiting wsX3_size := goodIn_r _ [6, 7, 21, 22, 23] (by decide +kernel) (by decide +kernel)
set_option maxRecDepth 20000 in
theorem gX0_waiting_X3_size : GoodIn wsX0_waiting (wsV RX0 83 RX3 yX3_size wsX3_size) := goodIn_app (goodIn_of _ (by decide +kernel)) ggX0_waiting_X3_size
set_option maxRecDepth 20000 in
theorem ggX0_waiting_X3_get : GoodIn wsX0_waiting wsX3_get := goodIn_r _ [11, 7, 12, 13, 21, 22, 23] (by decide +kernel) (by decide +kernel)
set_option maxRecDepth 20000 in
theorem gX0_waiting_X3_get : GoodIn wsX0_waiting (wsV RX0 58 RX3 yX3_get wsX3_get) := goodIn_app (goodIn_of _ (by decide +kernel)) ggX0_waiting_X3_get
theorem dX0_waiting_0 : decode cX0_waiting 0 = .ok (.iconst 0, 1) := by decide +kernel
theorem dX0_waiting_1 : decode cX0_waiting 1 = .ok (.istore_n 1, 1) := by decide +kernel
theorem dX0_waiting_2 : decode cX0_waiting 2 = .ok (.iconst 0, 1) := by decide +kernel
theorem dX0_waiting_3 : decode cX0_waiting 3 = .ok (.istore_n 2, 1) := by decide +kernel
theorem dX0_waiting_4 : decode cX0_waiting 4 = .ok (.iload_n 2, 1) := by decide +kernel
theorem dX0_waiting_5 : decode cX0_waiting 5 = .ok (.aload_n 0, 1) := by decide +kernel
theorem dX0_waiting_6 : decode cX0_waiting 6 = .ok (.getfield 26, 3) := by decide +kernel
theorem dX0_waiting_9 : decode cX0_waiting 9 = .ok (.invokevirtual 83, 3) := by decide +kernel
theorem dX0_waiting_12 : decode cX0_waiting 12 = .ok (.if_icmp .ge 24, 3) := by decide +kernel
theorem dX0_waiting_15 : decode cX0_waiting 15 = .ok (.aload_n 0, 1) := by decide +kernel
theorem dX0_waiting_16 : decode cX0_waiting 16 = .ok (.getfield 26, 3) := by decide +kernel
theorem dX0_waiting_19 : decode cX0_waiting 19 = .ok (.iload_n 2, 1) := by decide +kernel
theorem dX0_waiting_20 : decode cX0_waiting 20 = .ok (.iconst 2, 1) := by decide +kernel
theorem dX0_waiting_21 : decode cX0_waiting 21 = .ok (.invokevirtual 58, 3) := by decide +kernel
theorem dX0_waiting_24 : decode cX0_waiting 24 = .ok (.ifCond .ne 6, 3) := by decide +kernel
theorem dX0_waiting_27 : decode cX0_waiting 27 = .ok (.iinc 1 1, 3) := by decide +kernel
theorem dX0_waiting_30 : decode cX0_waiting 30 = .ok (.iinc 2 1, 3) := by decide +kernel
theorem dX0_waiting_33 : decode cX0_waiting 33 = .ok (.goto (-29), 3) := by decide +kernel
theorem dX0_waiting_36 : decode cX0_waiting 36 = .ok (.iload_n 1, 1) := by decide +kernel
theorem dX0_waiting_37 : decode cX0_waiting 37 = .ok (.ireturn, 1) := by decide +kernel
set_option maxRecDepth 20000 in
theorem ggX0_owedByAll_X3_size : GoodIn wsX0_owedByAll wsX3_size := goodIn_r _ [6, 7, 21, 22, 23] (by decide +kernel) (by decide +kernel)
set_option maxRecDepth 20000 in
theorem gX0_owedByAll_X3_size : GoodIn wsX0_owedByAll (wsV RX0 83 RX3 yX3_size wsX3_size) := goodIn_app (goodIn_of _ (by decide +kernel)) ggX0_owedByAll_X3_size
set_option maxRecDepth 20000 in
theorem ggX0_owedByAll_X3_get : GoodIn wsX0_owedByAll wsX3_get := goodIn_r _ [11, 7, 12, 13, 21, 22, 23] (by decide +kernel) (by decide +kernel)
set_option maxRecDepth 20000 in
theorem gX0_owedByAll_X3_get : GoodIn wsX0_owedByAll (wsV RX0 58 RX3 yX3_get wsX3_get) := goodIn_app (goodIn_of _ (by decide +kernel)) ggX0_owedByAll_X3_get
theorem dX0_owedByAll_0 : decode cX0_owedByAll 0 = .ok (.iconst 0, 1) := by decide +kernel
theorem dX0_owedByAll_1 : decode cX0_owedByAll 1 = .ok (.istore_n 1, 1) := by decide +kernel
theorem dX0_owedByAll_2 : decode cX0_owedByAll 2 = .ok (.iconst 0, 1) := by decide +kernel
theorem dX0_owedByAll_3 : decode cX0_owedByAll 3 = .ok (.istore_n 2, 1) := by decide +kernel
theorem dX0_owedByAll_4 : decode cX0_owedByAll 4 = .ok (.iload_n 2, 1) := by decide +kernel
theorem dX0_owedByAll_5 : decode cX0_owedByAll 5 = .ok (.aload_n 0, 1) := by decide +kernel
theorem dX0_owedByAll_6 : decode cX0_owedByAll 6 = .ok (.getfield 23, 3) := by decide +kernel
theorem dX0_owedByAll_9 : decode cX0_owedByAll 9 = .ok (.invokevirtual 83, 3) := by decide +kernel
theorem dX0_owedByAll_12 : decode cX0_owedByAll 12 = .ok (.if_icmp .ge 21, 3) := by decide +kernel
theorem dX0_owedByAll_15 : decode cX0_owedByAll 15 = .ok (.iload_n 1, 1) := by decide +kernel
theorem dX0_owedByAll_16 : decode cX0_owedByAll 16 = .ok (.aload_n 0, 1) := by decide +kernel
theorem dX0_owedByAll_17 : decode cX0_owedByAll 17 = .ok (.getfield 23, 3) := by decide +kernel
theorem dX0_owedByAll_20 : decode cX0_owedByAll 20 = .ok (.iload_n 2, 1) := by decide +kernel
theorem dX0_owedByAll_21 : decode cX0_owedByAll 21 = .ok (.iconst 2, 1) := by decide +kernel
theorem dX0_owedByAll_22 : decode cX0_owedByAll 22 = .ok (.invokevirtual 58, 3) := by decide +kernel
theorem dX0_owedByAll_25 : decode cX0_owedByAll 25 = .ok (.iadd, 1) := by decide +kernel
theorem dX0_owedByAll_26 : decode cX0_owedByAll 26 = .ok (.istore_n 1, 1) := by decide +kernel
theorem dX0_owedByAll_27 : decode cX0_owedByAll 27 = .ok (.iinc 2 1, 3) := by decide +kernel
theorem dX0_owedByAll_30 : decode cX0_owedByAll 30 = .ok (.goto (-26), 3) := by decide +kernel
theorem dX0_owedByAll_33 : decode cX0_owedByAll 33 = .ok (.iload_n 1, 1) := by decide +kernel
theorem dX0_owedByAll_34 : decode cX0_owedByAll 34 = .ok (.ireturn, 1) := by decide +kernel
set_option maxRecDepth 20000 in
theorem ggX0_cashOfAll_X3_size : GoodIn wsX0_cashOfAll wsX3_size := goodIn_r _ [6, 7, 21, 22, 23] (by decide +kernel) (by decide +kernel)
set_option maxRecDepth 20000 in
theorem gX0_cashOfAll_X3_size : GoodIn wsX0_cashOfAll (wsV RX0 83 RX3 yX3_size wsX3_size) := goodIn_app (goodIn_of _ (by decide +kernel)) ggX0_cashOfAll_X3_size
set_option maxRecDepth 20000 in
theorem ggX0_cashOfAll_X3_get : GoodIn wsX0_cashOfAll wsX3_get := goodIn_r _ [11, 7, 12, 13, 21, 22, 23] (by decide +kernel) (by decide +kernel)
set_option maxRecDepth 20000 in
theorem gX0_cashOfAll_X3_get : GoodIn wsX0_cashOfAll (wsV RX0 58 RX3 yX3_get wsX3_get) := goodIn_app (goodIn_of _ (by decide +kernel)) ggX0_cashOfAll_X3_get
theorem dX0_cashOfAll_0 : decode cX0_cashOfAll 0 = .ok (.iconst 0, 1) := by decide +kernel
theorem dX0_cashOfAll_1 : decode cX0_cashOfAll 1 = .ok (.istore_n 1, 1) := by decide +kernel
theorem dX0_cashOfAll_2 : decode cX0_cashOfAll 2 = .ok (.iconst 0, 1) := by decide +kernel
theorem dX0_cashOfAll_3 : decode cX0_cashOfAll 3 = .ok (.istore_n 2, 1) := by decide +kernel
theorem dX0_cashOfAll_4 : decode cX0_cashOfAll 4 = .ok (.iload_n 2, 1) := by decide +kernel
theorem dX0_cashOfAll_5 : decode cX0_cashOfAll 5 = .ok (.aload_n 0, 1) := by decide +kernel
theorem dX0_cashOfAll_6 : decode cX0_cashOfAll 6 = .ok (.getfield 20, 3) := by decide +kernel
theorem dX0_cashOfAll_9 : decode cX0_cashOfAll 9 = .ok (.invokevirtual 83, 3) := by decide +kernel
theorem dX0_cashOfAll_12 : decode cX0_cashOfAll 12 = .ok (.if_icmp .ge 21, 3) := by decide +kernel
theorem dX0_cashOfAll_15 : decode cX0_cashOfAll 15 = .ok (.iload_n 1, 1) := by decide +kernel
theorem dX0_cashOfAll_16 : decode cX0_cashOfAll 16 = .ok (.aload_n 0, 1) := by decide +kernel
theorem dX0_cashOfAll_17 : decode cX0_cashOfAll 17 = .ok (.getfield 20, 3) := by decide +kernel
theorem dX0_cashOfAll_20 : decode cX0_cashOfAll 20 = .ok (.iload_n 2, 1) := by decide +kernel
theorem dX0_cashOfAll_21 : decode cX0_cashOfAll 21 = .ok (.iconst 2, 1) := by decide +kernel
theorem dX0_cashOfAll_22 : decode cX0_cashOfAll 22 = .ok (.invokevirtual 58, 3) := by decide +kernel
theorem dX0_cashOfAll_25 : decode cX0_cashOfAll 25 = .ok (.iadd, 1) := by decide +kernel
theorem dX0_cashOfAll_26 : decode cX0_cashOfAll 26 = .ok (.istore_n 1, 1) := by decide +kernel
theorem dX0_cashOfAll_27 : decode cX0_cashOfAll 27 = .ok (.iinc 2 1, 3) := by decide +kernel
theorem dX0_cashOfAll_30 : decode cX0_cashOfAll 30 = .ok (.goto (-26), 3) := by decide +kernel
theorem dX0_cashOfAll_33 : decode cX0_cashOfAll 33 = .ok (.iload_n 1, 1) := by decide +kernel
theorem dX0_cashOfAll_34 : decode cX0_cashOfAll 34 = .ok (.ireturn, 1) := by decide +kernel
set_option maxRecDepth 20000 in
theorem ggX0_openInBracket_X3_size : GoodIn wsX0_openInBracket wsX3_size := goodIn_r _ [6, 7, 26, 27, 28] (by decide +kernel) (by decide +kernel)
set_option maxRecDepth 20000 in
theorem gX0_openInBracket_X3_size : GoodIn wsX0_openInBracket (wsV RX0 83 RX3 yX3_size wsX3_size) := goodIn_app (goodIn_of _ (by decide +kernel)) ggX0_openInBracket_X3_size
set_option maxRecDepth 20000 in
theorem ggX0_openInBracket_X3_get : GoodIn wsX0_openInBracket wsX3_get := goodIn_r _ [11, 7, 12, 13, 26, 27, 28] (by decide +kernel) (by decide +kernel)
set_option maxRecDepth 20000 in
theorem gX0_openInBracket_X3_get : GoodIn wsX0_openInBracket (wsV RX0 58 RX3 yX3_get wsX3_get) := goodIn_app (goodIn_of _ (by decide +kernel)) ggX0_openInBracket_X3_get
set_option maxRecDepth 20000 in
theorem ggX0_openInBracket_X0_bracketOf : GoodIn wsX0_openInBracket wsX0_bracketOf := goodIn_r _ [18, 1, 8, 9, 10, 5, 11, 7, 12, 13, 19, 20, 21, 22, 23, 24, 25, 26, 27, 28] (by decide +kernel) (by decide +kernel)
set_option maxRecDepth 20000 in
theorem gX0_openInBracket_X0_bracketOf : GoodIn wsX0_openInBracket (wsV RX0 98 RX0 yX0_bracketOf wsX0_bracketOf) := goodIn_app (goodIn_of _ (by decide +kernel)) ggX0_openInBracket_X0_bracketOf
theorem dX0_openInBracket_0 : decode cX0_openInBracket 0 = .ok (.iconst 0, 1) := by decide +kernel
theorem dX0_openInBracket_1 : decode cX0_openInBracket 1 = .ok (.istore_n 3, 1) := by decide +kernel
theorem dX0_openInBracket_2 : decode cX0_openInBracket 2 = .ok (.iconst 0, 1) := by decide +kernel
theorem dX0_openInBracket_3 : decode cX0_openInBracket 3 = .ok (.istore 4, 2) := by decide +kernel
theorem dX0_openInBracket_5 : decode cX0_openInBracket 5 = .ok (.iload 4, 2) := by decide +kernel
theorem dX0_openInBracket_7 : decode cX0_openInBracket 7 = .ok (.aload_n 0, 1) := by decide +kernel
theorem dX0_openInBracket_8 : decode cX0_openInBracket 8 = .ok (.getfield 23, 3) := by decide +kernel
theorem dX0_openInBracket_11 : decode cX0_openInBracket 11 = .ok (.invokevirtual 83, 3) := by decide +kernel
theorem dX0_openInBracket_14 : decode cX0_openInBracket 14 = .ok (.if_icmp .ge 63, 3) := by decide +kernel
theorem dX0_openInBracket_17 : decode cX0_openInBracket 17 = .ok (.iload_n 1, 1) := by decide +kernel
theorem dX0_openInBracket_18 : decode cX0_openInBracket 18 = .ok (.iconst (-1), 1) := by decide +kernel
theorem dX0_openInBracket_19 : decode cX0_openInBracket 19 = .ok (.if_icmp .eq 17, 3) := by decide +kernel
theorem dX0_openInBracket_22 : decode cX0_openInBracket 22 = .ok (.aload_n 0, 1) := by decide +kernel
theorem dX0_openInBracket_23 : decode cX0_openInBracket 23 = .ok (.getfield 23, 3) := by decide +kernel
theorem dX0_openInBracket_26 : decode cX0_openInBracket 26 = .ok (.iload 4, 2) := by decide +kernel
theorem dX0_openInBracket_28 : decode cX0_openInBracket 28 = .ok (.iconst 0, 1) := by decide +kernel
theorem dX0_openInBracket_29 : decode cX0_openInBracket 29 = .ok (.invokevirtual 58, 3) := by decide +kernel
theorem dX0_openInBracket_32 : decode cX0_openInBracket 32 = .ok (.iload_n 1, 1) := by decide +kernel
theorem dX0_openInBracket_33 : decode cX0_openInBracket 33 = .ok (.if_icmp .ne 7, 3) := by decide +kernel
theorem dX0_openInBracket_36 : decode cX0_openInBracket 36 = .ok (.iconst 1, 1) := by decide +kernel
theorem dX0_openInBracket_37 : decode cX0_openInBracket 37 = .ok (.goto 4, 3) := by decide +kernel
theorem dX0_openInBracket_40 : decode cX0_openInBracket 40 = .ok (.iconst 0, 1) := by decide +kernel
theorem dX0_openInBracket_41 : decode cX0_openInBracket 41 = .ok (.istore 5, 2) := by decide +kernel
theorem dX0_openInBracket_43 : decode cX0_openInBracket 43 = .ok (.iload 5, 2) := by decide +kernel
theorem dX0_openInBracket_45 : decode cX0_openInBracket 45 = .ok (.ifCond .eq 26, 3) := by decide +kernel
theorem dX0_openInBracket_48 : decode cX0_openInBracket 48 = .ok (.aload_n 0, 1) := by decide +kernel
theorem dX0_openInBracket_49 : decode cX0_openInBracket 49 = .ok (.iload 4, 2) := by decide +kernel
theorem dX0_openInBracket_51 : decode cX0_openInBracket 51 = .ok (.invokevirtual 98, 3) := by decide +kernel
theorem dX0_openInBracket_54 : decode cX0_openInBracket 54 = .ok (.iload_n 2, 1) := by decide +kernel
theorem dX0_openInBracket_55 : decode cX0_openInBracket 55 = .ok (.if_icmp .ne 16, 3) := by decide +kernel
theorem dX0_openInBracket_58 : decode cX0_openInBracket 58 = .ok (.iload_n 3, 1) := by decide +kernel
theorem dX0_openInBracket_59 : decode cX0_openInBracket 59 = .ok (.aload_n 0, 1) := by decide +kernel
theorem dX0_openInBracket_60 : decode cX0_openInBracket 60 = .ok (.getfield 23, 3) := by decide +kernel
theorem dX0_openInBracket_63 : decode cX0_openInBracket 63 = .ok (.iload 4, 2) := by decide +kernel
theorem dX0_openInBracket_65 : decode cX0_openInBracket 65 = .ok (.iconst 2, 1) := by decide +kernel
theorem dX0_openInBracket_66 : decode cX0_openInBracket 66 = .ok (.invokevirtual 58, 3) := by decide +kernel
theorem dX0_openInBracket_69 : decode cX0_openInBracket 69 = .ok (.iadd, 1) := by decide +kernel
theorem dX0_openInBracket_70 : decode cX0_openInBracket 70 = .ok (.istore_n 3, 1) := by decide +kernel
theorem dX0_openInBracket_71 : decode cX0_openInBracket 71 = .ok (.iinc 4 1, 3) := by decide +kernel
theorem dX0_openInBracket_74 : decode cX0_openInBracket 74 = .ok (.goto (-69), 3) := by decide +kernel
theorem dX0_openInBracket_77 : decode cX0_openInBracket 77 = .ok (.iload_n 3, 1) := by decide +kernel
theorem dX0_openInBracket_78 : decode cX0_openInBracket 78 = .ok (.ireturn, 1) := by decide +kernel
set_option maxRecDepth 20000 in
theorem ggX0_bracketOf_X3_get : GoodIn wsX0_bracketOf wsX3_get := goodIn_r _ [6, 7, 8, 9, 17, 18, 19] (by decide +kernel) (by decide +kernel)
set_option maxRecDepth 20000 in
theorem gX0_bracketOf_X3_get : GoodIn wsX0_bracketOf (wsV RX0 58 RX3 yX3_get wsX3_get) := goodIn_app (goodIn_of _ (by decide +kernel)) ggX0_bracketOf_X3_get
theorem dX0_bracketOf_0 : decode cX0_bracketOf 0 = .ok (.aload_n 0, 1) := by decide +kernel
theorem dX0_bracketOf_1 : decode cX0_bracketOf 1 = .ok (.getfield 23, 3) := by decide +kernel
theorem dX0_bracketOf_4 : decode cX0_bracketOf 4 = .ok (.iload_n 1, 1) := by decide +kernel
theorem dX0_bracketOf_5 : decode cX0_bracketOf 5 = .ok (.iconst 5, 1) := by decide +kernel
theorem dX0_bracketOf_6 : decode cX0_bracketOf 6 = .ok (.invokevirtual 58, 3) := by decide +kernel
theorem dX0_bracketOf_9 : decode cX0_bracketOf 9 = .ok (.iconst 1, 1) := by decide +kernel
theorem dX0_bracketOf_10 : decode cX0_bracketOf 10 = .ok (.if_icmp .ne 5, 3) := by decide +kernel
theorem dX0_bracketOf_13 : decode cX0_bracketOf 13 = .ok (.iconst 4, 1) := by decide +kernel
theorem dX0_bracketOf_14 : decode cX0_bracketOf 14 = .ok (.ireturn, 1) := by decide +kernel
theorem dX0_bracketOf_15 : decode cX0_bracketOf 15 = .ok (.aload_n 0, 1) := by decide +kernel
theorem dX0_bracketOf_16 : decode cX0_bracketOf 16 = .ok (.getfield 23, 3) := by decide +kernel
theorem dX0_bracketOf_19 : decode cX0_bracketOf 19 = .ok (.iload_n 1, 1) := by decide +kernel
theorem dX0_bracketOf_20 : decode cX0_bracketOf 20 = .ok (.iconst 4, 1) := by decide +kernel
theorem dX0_bracketOf_21 : decode cX0_bracketOf 21 = .ok (.invokevirtual 58, 3) := by decide +kernel
theorem dX0_bracketOf_24 : decode cX0_bracketOf 24 = .ok (.istore_n 2, 1) := by decide +kernel
theorem dX0_bracketOf_25 : decode cX0_bracketOf 25 = .ok (.iload_n 2, 1) := by decide +kernel
theorem dX0_bracketOf_26 : decode cX0_bracketOf 26 = .ok (.bipush 60, 2) := by decide +kernel
theorem dX0_bracketOf_28 : decode cX0_bracketOf 28 = .ok (.if_icmp .le 5, 3) := by decide +kernel
theorem dX0_bracketOf_31 : decode cX0_bracketOf 31 = .ok (.iconst 3, 1) := by decide +kernel
theorem dX0_bracketOf_32 : decode cX0_bracketOf 32 = .ok (.ireturn, 1) := by decide +kernel
theorem dX0_bracketOf_33 : decode cX0_bracketOf 33 = .ok (.iload_n 2, 1) := by decide +kernel
theorem dX0_bracketOf_34 : decode cX0_bracketOf 34 = .ok (.bipush 30, 2) := by decide +kernel
theorem dX0_bracketOf_36 : decode cX0_bracketOf 36 = .ok (.if_icmp .le 5, 3) := by decide +kernel
theorem dX0_bracketOf_39 : decode cX0_bracketOf 39 = .ok (.iconst 2, 1) := by decide +kernel
theorem dX0_bracketOf_40 : decode cX0_bracketOf 40 = .ok (.ireturn, 1) := by decide +kernel
theorem dX0_bracketOf_41 : decode cX0_bracketOf 41 = .ok (.iload_n 2, 1) := by decide +kernel
theorem dX0_bracketOf_42 : decode cX0_bracketOf 42 = .ok (.ifCond .le 7, 3) := by decide +kernel
theorem dX0_bracketOf_45 : decode cX0_bracketOf 45 = .ok (.iconst 1, 1) := by decide +kernel
theorem dX0_bracketOf_46 : decode cX0_bracketOf 46 = .ok (.goto 4, 3) := by decide +kernel
theorem dX0_bracketOf_49 : decode cX0_bracketOf 49 = .ok (.iconst 0, 1) := by decide +kernel
theorem dX0_bracketOf_50 : decode cX0_bracketOf 50 = .ok (.ireturn, 1) := by decide +kernel
set_option maxRecDepth 20000 in
theorem ggX0_instalmentsTogether_X3_get : GoodIn wsX0_instalmentsTogether wsX3_get := goodIn_r _ [10, 11, 12, 13, 21, 22, 23] (by decide +kernel) (by decide +kernel)
set_option maxRecDepth 20000 in
theorem gX0_instalmentsTogether_X3_get : GoodIn wsX0_instalmentsTogether (wsV RX0 58 RX3 yX3_get wsX3_get) := goodIn_app (goodIn_of _ (by decide +kernel)) ggX0_instalmentsTogether_X3_get
theorem dX0_instalmentsTogether_0 : decode cX0_instalmentsTogether 0 = .ok (.aload_n 0, 1) := by decide +kernel
theorem dX0_instalmentsTogether_1 : decode cX0_instalmentsTogether 1 = .ok (.getfield 20, 3) := by decide +kernel
theorem dX0_instalmentsTogether_4 : decode cX0_instalmentsTogether 4 = .ok (.iload_n 1, 1) := by decide +kernel
theorem dX0_instalmentsTogether_5 : decode cX0_instalmentsTogether 5 = .ok (.bipush 8, 2) := by decide +kernel
theorem dX0_instalmentsTogether_7 : decode cX0_instalmentsTogether 7 = .ok (.invokevirtual 58, 3) := by decide +kernel
theorem dX0_instalmentsTogether_10 : decode cX0_instalmentsTogether 10 = .ok (.istore_n 3, 1) := by decide +kernel
theorem dX0_instalmentsTogether_11 : decode cX0_instalmentsTogether 11 = .ok (.aload_n 0, 1) := by decide +kernel
theorem dX0_instalmentsTogether_12 : decode cX0_instalmentsTogether 12 = .ok (.getfield 20, 3) := by decide +kernel
theorem dX0_instalmentsTogether_15 : decode cX0_instalmentsTogether 15 = .ok (.iload_n 1, 1) := by decide +kernel
theorem dX0_instalmentsTogether_16 : decode cX0_instalmentsTogether 16 = .ok (.bipush 9, 2) := by decide +kernel
theorem dX0_instalmentsTogether_18 : decode cX0_instalmentsTogether 18 = .ok (.invokevirtual 58, 3) := by decide +kernel
theorem dX0_instalmentsTogether_21 : decode cX0_instalmentsTogether 21 = .ok (.istore 4, 2) := by decide +kernel
theorem dX0_instalmentsTogether_23 : decode cX0_instalmentsTogether 23 = .ok (.iload_n 3, 1) := by decide +kernel
theorem dX0_instalmentsTogether_24 : decode cX0_instalmentsTogether 24 = .ok (.ifCond .gt 5, 3) := by decide +kernel
theorem dX0_instalmentsTogether_27 : decode cX0_instalmentsTogether 27 = .ok (.iconst 0, 1) := by decide +kernel
theorem dX0_instalmentsTogether_28 : decode cX0_instalmentsTogether 28 = .ok (.ireturn, 1) := by decide +kernel
theorem dX0_instalmentsTogether_29 : decode cX0_instalmentsTogether 29 = .ok (.iload_n 2, 1) := by decide +kernel
theorem dX0_instalmentsTogether_30 : decode cX0_instalmentsTogether 30 = .ok (.iload 4, 2) := by decide +kernel
theorem dX0_instalmentsTogether_32 : decode cX0_instalmentsTogether 32 = .ok (.iload_n 3, 1) := by decide +kernel
theorem dX0_instalmentsTogether_33 : decode cX0_instalmentsTogether 33 = .ok (.idiv, 1) := by decide +kernel
theorem dX0_instalmentsTogether_34 : decode cX0_instalmentsTogether 34 = .ok (.imul, 1) := by decide +kernel
theorem dX0_instalmentsTogether_35 : decode cX0_instalmentsTogether 35 = .ok (.iload_n 2, 1) := by decide +kernel
theorem dX0_instalmentsTogether_36 : decode cX0_instalmentsTogether 36 = .ok (.iload 4, 2) := by decide +kernel
theorem dX0_instalmentsTogether_38 : decode cX0_instalmentsTogether 38 = .ok (.iload_n 3, 1) := by decide +kernel
theorem dX0_instalmentsTogether_39 : decode cX0_instalmentsTogether 39 = .ok (.irem, 1) := by decide +kernel
theorem dX0_instalmentsTogether_40 : decode cX0_instalmentsTogether 40 = .ok (.invokestatic 101, 3) := by decide +kernel
theorem dX0_instalmentsTogether_43 : decode cX0_instalmentsTogether 43 = .ok (.iadd, 1) := by decide +kernel
theorem dX0_instalmentsTogether_44 : decode cX0_instalmentsTogether 44 = .ok (.ireturn, 1) := by decide +kernel
set_option maxRecDepth 20000 in
theorem ggX0_instalment_X0_instalmentsTogether : GoodIn wsX0_instalment wsX0_instalmentsTogether := goodIn_r _ [5, 6, 7, 8, 9, 10, 11, 12, 13, 14, 15, 16, 17, 18, 19, 20, 21, 22, 23, 24, 25, 26, 27, 28] (by decide +kernel) (by decide +kernel)
set_option maxRecDepth 20000 in
theorem gX0_instalment_X0_instalmentsTogether : GoodIn wsX0_instalment (wsV RX0 104 RX0 yX0_instalmentsTogether wsX0_instalmentsTogether) := goodIn_app (goodIn_of _ (by decide +kernel)) ggX0_instalment_X0_instalmentsTogether
theorem dX0_instalment_0 : decode cX0_instalment 0 = .ok (.aload_n 0, 1) := by decide +kernel
theorem dX0_instalment_1 : decode cX0_instalment 1 = .ok (.iload_n 1, 1) := by decide +kernel
theorem dX0_instalment_2 : decode cX0_instalment 2 = .ok (.iload_n 2, 1) := by decide +kernel
theorem dX0_instalment_3 : decode cX0_instalment 3 = .ok (.iconst 1, 1) := by decide +kernel
theorem dX0_instalment_4 : decode cX0_instalment 4 = .ok (.iadd, 1) := by decide +kernel
theorem dX0_instalment_5 : decode cX0_instalment 5 = .ok (.invokevirtual 104, 3) := by decide +kernel
theorem dX0_instalment_8 : decode cX0_instalment 8 = .ok (.aload_n 0, 1) := by decide +kernel
theorem dX0_instalment_9 : decode cX0_instalment 9 = .ok (.iload_n 1, 1) := by decide +kernel
theorem dX0_instalment_10 : decode cX0_instalment 10 = .ok (.iload_n 2, 1) := by decide +kernel
theorem dX0_instalment_11 : decode cX0_instalment 11 = .ok (.invokevirtual 104, 3) := by decide +kernel
theorem dX0_instalment_14 : decode cX0_instalment 14 = .ok (.isub, 1) := by decide +kernel
theorem dX0_instalment_15 : decode cX0_instalment 15 = .ok (.ireturn, 1) := by decide +kernel
set_option maxRecDepth 20000 in
theorem ggX0_instalmentDay_X3_get : GoodIn wsX0_instalmentDay wsX3_get := goodIn_r _ [6, 7, 8, 9, 17, 18, 19] (by decide +kernel) (by decide +kernel)
set_option maxRecDepth 20000 in
theorem gX0_instalmentDay_X3_get : GoodIn wsX0_instalmentDay (wsV RX0 58 RX3 yX3_get wsX3_get) := goodIn_app (goodIn_of _ (by decide +kernel)) ggX0_instalmentDay_X3_get
theorem dX0_instalmentDay_0 : decode cX0_instalmentDay 0 = .ok (.aload_n 0, 1) := by decide +kernel
theorem dX0_instalmentDay_1 : decode cX0_instalmentDay 1 = .ok (.getfield 20, 3) := by decide +kernel
theorem dX0_instalmentDay_4 : decode cX0_instalmentDay 4 = .ok (.iload_n 1, 1) := by decide +kernel
theorem dX0_instalmentDay_5 : decode cX0_instalmentDay 5 = .ok (.bipush 10, 2) := by decide +kernel
theorem dX0_instalmentDay_7 : decode cX0_instalmentDay 7 = .ok (.invokevirtual 58, 3) := by decide +kernel
theorem dX0_instalmentDay_10 : decode cX0_instalmentDay 10 = .ok (.iload_n 2, 1) := by decide +kernel
theorem dX0_instalmentDay_11 : decode cX0_instalmentDay 11 = .ok (.iconst 1, 1) := by decide +kernel
theorem dX0_instalmentDay_12 : decode cX0_instalmentDay 12 = .ok (.iadd, 1) := by decide +kernel
theorem dX0_instalmentDay_13 : decode cX0_instalmentDay 13 = .ok (.aload_n 0, 1) := by decide +kernel
theorem dX0_instalmentDay_14 : decode cX0_instalmentDay 14 = .ok (.getfield 20, 3) := by decide +kernel
theorem dX0_instalmentDay_17 : decode cX0_instalmentDay 17 = .ok (.iload_n 1, 1) := by decide +kernel
theorem dX0_instalmentDay_18 : decode cX0_instalmentDay 18 = .ok (.bipush 11, 2) := by decide +kernel
theorem dX0_instalmentDay_20 : decode cX0_instalmentDay 20 = .ok (.invokevirtual 58, 3) := by decide +kernel
theorem dX0_instalmentDay_23 : decode cX0_instalmentDay 23 = .ok (.imul, 1) := by decide +kernel
theorem dX0_instalmentDay_24 : decode cX0_instalmentDay 24 = .ok (.iadd, 1) := by decide +kernel
theorem dX0_instalmentDay_25 : decode cX0_instalmentDay 25 = .ok (.ireturn, 1) := by decide +kernel
set_option maxRecDepth 20000 in
theorem ggX0_nextInstalmentDay_X3_get : GoodIn wsX0_nextInstalmentDay wsX3_get := goodIn_r _ [7, 8, 9, 10, 23, 24, 25] (by decide +kernel) (by decide +kernel)
set_option maxRecDepth 20000 in
theorem gX0_nextInstalmentDay_X3_get : GoodIn wsX0_nextInstalmentDay (wsV RX0 58 RX3 yX3_get wsX3_get) := goodIn_app (goodIn_of _ (by decide +kernel)) ggX0_nextInstalmentDay_X3_get
set_option maxRecDepth 20000 in
theorem ggX0_nextInstalmentDay_X0_instalmentDay : GoodIn wsX0_nextInstalmentDay wsX0_instalmentDay := goodIn_r _ [15, 1, 3, 4, 5, 6, 7, 8, 9, 10, 16, 17, 18, 19, 20, 21, 22, 23, 24, 25] (by decide +kernel) (by decide +kernel)
set_option maxRecDepth 20000 in
theorem gX0_nextInstalmentDay_X0_instalmentDay : GoodIn wsX0_nextInstalmentDay (wsV RX0 107 RX0 yX0_instalmentDay wsX0_instalmentDay) := goodIn_app (goodIn_of _ (by decide +kernel)) ggX0_nextInstalmentDay_X0_instalmentDay
theorem dX0_nextInstalmentDay_0 : decode cX0_nextInstalmentDay 0 = .ok (.aload_n 0, 1) := by decide +kernel
theorem dX0_nextInstalmentDay_1 : decode cX0_nextInstalmentDay 1 = .ok (.getfield 20, 3) := by decide +kernel
theorem dX0_nextInstalmentDay_4 : decode cX0_nextInstalmentDay 4 = .ok (.iload_n 1, 1) := by decide +kernel
theorem dX0_nextInstalmentDay_5 : decode cX0_nextInstalmentDay 5 = .ok (.bipush 8, 2) := by decide +kernel
theorem dX0_nextInstalmentDay_7 : decode cX0_nextInstalmentDay 7 = .ok (.invokevirtual 58, 3) := by decide +kernel
theorem dX0_nextInstalmentDay_10 : decode cX0_nextInstalmentDay 10 = .ok (.istore_n 2, 1) := by decide +kernel
theorem dX0_nextInstalmentDay_11 : decode cX0_nextInstalmentDay 11 = .ok (.iconst 0, 1) := by decide +kernel
theorem dX0_nextInstalmentDay_12 : decode cX0_nextInstalmentDay 12 = .ok (.istore_n 3, 1) := by decide +kernel
theorem dX0_nextInstalmentDay_13 : decode cX0_nextInstalmentDay 13 = .ok (.iload_n 3, 1) := by decide +kernel
theorem dX0_nextInstalmentDay_14 : decode cX0_nextInstalmentDay 14 = .ok (.iload_n 2, 1) := by decide +kernel
theorem dX0_nextInstalmentDay_15 : decode cX0_nextInstalmentDay 15 = .ok (.if_icmp .ge 29, 3) := by decide +kernel
theorem dX0_nextInstalmentDay_18 : decode cX0_nextInstalmentDay 18 = .ok (.aload_n 0, 1) := by decide +kernel
theorem dX0_nextInstalmentDay_19 : decode cX0_nextInstalmentDay 19 = .ok (.iload_n 1, 1) := by decide +kernel
theorem dX0_nextInstalmentDay_20 : decode cX0_nextInstalmentDay 20 = .ok (.iload_n 3, 1) := by decide +kernel
theorem dX0_nextInstalmentDay_21 : decode cX0_nextInstalmentDay 21 = .ok (.invokevirtual 107, 3) := by decide +kernel
theorem dX0_nextInstalmentDay_24 : decode cX0_nextInstalmentDay 24 = .ok (.istore 4, 2) := by decide +kernel
theorem dX0_nextInstalmentDay_26 : decode cX0_nextInstalmentDay 26 = .ok (.iload 4, 2) := by decide +kernel
theorem dX0_nextInstalmentDay_28 : decode cX0_nextInstalmentDay 28 = .ok (.aload_n 0, 1) := by decide +kernel
theorem dX0_nextInstalmentDay_29 : decode cX0_nextInstalmentDay 29 = .ok (.getfield 36, 3) := by decide +kernel
theorem dX0_nextInstalmentDay_32 : decode cX0_nextInstalmentDay 32 = .ok (.if_icmp .lt 6, 3) := by decide +kernel
theorem dX0_nextInstalmentDay_35 : decode cX0_nextInstalmentDay 35 = .ok (.iload 4, 2) := by decide +kernel
theorem dX0_nextInstalmentDay_37 : decode cX0_nextInstalmentDay 37 = .ok (.ireturn, 1) := by decide +kernel
theorem dX0_nextInstalmentDay_38 : decode cX0_nextInstalmentDay 38 = .ok (.iinc 3 1, 3) := by decide +kernel
theorem dX0_nextInstalmentDay_41 : decode cX0_nextInstalmentDay 41 = .ok (.goto (-28), 3) := by decide +kernel
theorem dX0_nextInstalmentDay_44 : decode cX0_nextInstalmentDay 44 = .ok (.iconst (-1), 1) := by decide +kernel
theorem dX0_nextInstalmentDay_45 : decode cX0_nextInstalmentDay 45 = .ok (.ireturn, 1) := by decide +kernel
set_option maxRecDepth 20000 in
theorem ggX0_placeCash_X3_get : GoodIn wsX0_placeCash wsX3_get := goodIn_r _ [11, 12, 13, 14, 44, 45, 46] (by decide +kernel) (by decide +kernel)
set_option maxRecDepth 20000 in
theorem gX0_placeCash_X3_get : GoodIn wsX0_placeCash (wsV RX0 58 RX3 yX3_get wsX3_get) := goodIn_app (goodIn_of _ (by decide +kernel)) ggX0_placeCash_X3_get
set_option maxRecDepth 20000 in
theorem ggX0_placeCash_X0_eldestClaim : GoodIn wsX0_placeCash wsX0_eldestClaim := goodIn_r _ [19, 2, 20, 21, 22, 10, 23, 12, 24, 25, 26, 18, 27, 7, 8, 9, 11, 13, 14, 37, 38, 39, 40, 41, 42, 43, 44, 45, 46] (by decide +kernel) (by decide +kernel)
set_option maxRecDepth 20000 in
theorem gX0_placeCash_X0_eldestClaim : GoodIn wsX0_placeCash (wsV RX0 110 RX0 yX0_eldestClaim wsX0_eldestClaim) := goodIn_app (goodIn_of _ (by decide +kernel)) ggX0_placeCash_X0_eldestClaim
set_option maxRecDepth 20000 in
theorem ggX0_placeCash_X3_increase : GoodIn wsX0_placeCash wsX3_increase := goodIn_r _ [31, 32, 8, 9, 10, 11, 12, 13, 14, 33, 34, 35, 36, 44, 45, 46] (by decide +kernel) (by decide +kernel)
set_option maxRecDepth 20000 in
theorem gX0_placeCash_X3_increase : GoodIn wsX0_placeCash (wsV RX0 70 RX3 yX3_increase wsX3_increase) := goodIn_app (goodIn_of _ (by decide +kernel)) ggX0_placeCash_X3_increase
theorem dX0_placeCash_0 : decode cX0_placeCash 0 = .ok (.iconst 0, 1) := by decide +kernel
theorem dX0_placeCash_1 : decode cX0_placeCash 1 = .ok (.istore_n 2, 1) := by decide +kernel
theorem dX0_placeCash_2 : decode cX0_placeCash 2 = .ok (.iload_n 2, 1) := by decide +kernel
theorem dX0_placeCash_3 : decode cX0_placeCash 3 = .ok (.bipush 60, 2) := by decide +kernel
theorem dX0_placeCash_5 : decode cX0_placeCash 5 = .ok (.if_icmp .ge 82, 3) := by decide +kernel
theorem dX0_placeCash_8 : decode cX0_placeCash 8 = .ok (.aload_n 0, 1) := by decide +kernel
theorem dX0_placeCash_9 : decode cX0_placeCash 9 = .ok (.getfield 20, 3) := by decide +kernel
theorem dX0_placeCash_12 : decode cX0_placeCash 12 = .ok (.iload_n 1, 1) := by decide +kernel
theorem dX0_placeCash_13 : decode cX0_placeCash 13 = .ok (.iconst 2, 1) := by decide +kernel
theorem dX0_placeCash_14 : decode cX0_placeCash 14 = .ok (.invokevirtual 58, 3) := by decide +kernel
theorem dX0_placeCash_17 : decode cX0_placeCash 17 = .ok (.istore_n 3, 1) := by decide +kernel
theorem dX0_placeCash_18 : decode cX0_placeCash 18 = .ok (.iload_n 3, 1) := by decide +kernel
theorem dX0_placeCash_19 : decode cX0_placeCash 19 = .ok (.ifCond .le 11, 3) := by decide +kernel
theorem dX0_placeCash_22 : decode cX0_placeCash 22 = .ok (.aload_n 0, 1) := by decide +kernel
theorem dX0_placeCash_23 : decode cX0_placeCash 23 = .ok (.iload_n 1, 1) := by decide +kernel
theorem dX0_placeCash_24 : decode cX0_placeCash 24 = .ok (.invokevirtual 110, 3) := by decide +kernel
theorem dX0_placeCash_27 : decode cX0_placeCash 27 = .ok (.goto 4, 3) := by decide +kernel
theorem dX0_placeCash_30 : decode cX0_placeCash 30 = .ok (.iconst (-1), 1) := by decide +kernel
theorem dX0_placeCash_31 : decode cX0_placeCash 31 = .ok (.istore 4, 2) := by decide +kernel
theorem dX0_placeCash_33 : decode cX0_placeCash 33 = .ok (.iload 4, 2) := by decide +kernel
theorem dX0_placeCash_35 : decode cX0_placeCash 35 = .ok (.iconst (-1), 1) := by decide +kernel
theorem dX0_placeCash_36 : decode cX0_placeCash 36 = .ok (.if_icmp .ne 4, 3) := by decide +kernel
theorem dX0_placeCash_39 : decode cX0_placeCash 39 = .ok (.return_, 1) := by decide +kernel
theorem dX0_placeCash_40 : decode cX0_placeCash 40 = .ok (.iload_n 3, 1) := by decide +kernel
theorem dX0_placeCash_41 : decode cX0_placeCash 41 = .ok (.aload_n 0, 1) := by decide +kernel
theorem dX0_placeCash_42 : decode cX0_placeCash 42 = .ok (.getfield 23, 3) := by decide +kernel
theorem dX0_placeCash_45 : decode cX0_placeCash 45 = .ok (.iload 4, 2) := by decide +kernel
theorem dX0_placeCash_47 : decode cX0_placeCash 47 = .ok (.iconst 2, 1) := by decide +kernel
theorem dX0_placeCash_48 : decode cX0_placeCash 48 = .ok (.invokevirtual 58, 3) := by decide +kernel
theorem dX0_placeCash_51 : decode cX0_placeCash 51 = .ok (.invokestatic 101, 3) := by decide +kernel
theorem dX0_placeCash_54 : decode cX0_placeCash 54 = .ok (.istore 5, 2) := by decide +kernel
theorem dX0_placeCash_56 : decode cX0_placeCash 56 = .ok (.aload_n 0, 1) := by decide +kernel
theorem dX0_placeCash_57 : decode cX0_placeCash 57 = .ok (.getfield 23, 3) := by decide +kernel
theorem dX0_placeCash_60 : decode cX0_placeCash 60 = .ok (.iload 4, 2) := by decide +kernel
theorem dX0_placeCash_62 : decode cX0_placeCash 62 = .ok (.iconst 2, 1) := by decide +kernel
theorem dX0_placeCash_63 : decode cX0_placeCash 63 = .ok (.iload 5, 2) := by decide +kernel
theorem dX0_placeCash_65 : decode cX0_placeCash 65 = .ok (.ineg, 1) := by decide +kernel
theorem dX0_placeCash_66 : decode cX0_placeCash 66 = .ok (.invokevirtual 70, 3) := by decide +kernel
theorem dX0_placeCash_69 : decode cX0_placeCash 69 = .ok (.aload_n 0, 1) := by decide +kernel
theorem dX0_placeCash_70 : decode cX0_placeCash 70 = .ok (.getfield 20, 3) := by decide +kernel
theorem dX0_placeCash_73 : decode cX0_placeCash 73 = .ok (.iload_n 1, 1) := by decide +kernel
theorem dX0_placeCash_74 : decode cX0_placeCash 74 = .ok (.iconst 2, 1) := by decide +kernel
theorem dX0_placeCash_75 : decode cX0_placeCash 75 = .ok (.iload 5, 2) := by decide +kernel
theorem dX0_placeCash_77 : decode cX0_placeCash 77 = .ok (.ineg, 1) := by decide +kernel
theorem dX0_placeCash_78 : decode cX0_placeCash 78 = .ok (.invokevirtual 70, 3) := by decide +kernel
theorem dX0_placeCash_81 : decode cX0_placeCash 81 = .ok (.iinc 2 1, 3) := by decide +kernel
theorem dX0_placeCash_84 : decode cX0_placeCash 84 = .ok (.goto (-82), 3) := by decide +kernel
theorem dX0_placeCash_87 : decode cX0_placeCash 87 = .ok (.return_, 1) := by decide +kernel
set_option maxRecDepth 20000 in
theorem ggX0_eldestClaim_X3_size : GoodIn wsX0_eldestClaim wsX3_size := goodIn_r _ [6, 7, 26, 27, 28] (by decide +kernel) (by decide +kernel)
set_option maxRecDepth 20000 in
theorem gX0_eldestClaim_X3_size : GoodIn wsX0_eldestClaim (wsV RX0 83 RX3 yX3_size wsX3_size) := goodIn_app (goodIn_of _ (by decide +kernel)) ggX0_eldestClaim_X3_size
set_option maxRecDepth 20000 in
theorem ggX0_eldestClaim_X0_isClaim : GoodIn wsX0_eldestClaim wsX0_isClaim := goodIn_r _ [12, 1, 13, 14, 15, 5, 16, 7, 17, 18, 19, 20, 21, 22, 23, 24, 25, 26, 27, 28] (by decide +kernel) (by decide +kernel)
set_option maxRecDepth 20000 in
theorem gX0_eldestClaim_X0_isClaim : GoodIn wsX0_eldestClaim (wsV RX0 86 RX0 yX0_isClaim wsX0_isClaim) := goodIn_app (goodIn_of _ (by decide +kernel)) ggX0_eldestClaim_X0_isClaim
set_option maxRecDepth 20000 in
theorem ggX0_eldestClaim_X3_get : GoodIn wsX0_eldestClaim wsX3_get := goodIn_r _ [16, 7, 17, 18, 26, 27, 28] (by decide +kernel) (by decide +kernel)
set_option maxRecDepth 20000 in
theorem gX0_eldestClaim_X3_get : GoodIn wsX0_eldestClaim (wsV RX0 58 RX3 yX3_get wsX3_get) := goodIn_app (goodIn_of _ (by decide +kernel)) ggX0_eldestClaim_X3_get
theorem dX0_eldestClaim_0 : decode cX0_eldestClaim 0 = .ok (.iconst (-1), 1) := by decide +kernel
theorem dX0_eldestClaim_1 : decode cX0_eldestClaim 1 = .ok (.istore_n 2, 1) := by decide +kernel
theorem dX0_eldestClaim_2 : decode cX0_eldestClaim 2 = .ok (.iconst 0, 1) := by decide +kernel
theorem dX0_eldestClaim_3 : decode cX0_eldestClaim 3 = .ok (.istore_n 3, 1) := by decide +kernel
theorem dX0_eldestClaim_4 : decode cX0_eldestClaim 4 = .ok (.iload_n 3, 1) := by decide +kernel
theorem dX0_eldestClaim_5 : decode cX0_eldestClaim 5 = .ok (.aload_n 0, 1) := by decide +kernel
theorem dX0_eldestClaim_6 : decode cX0_eldestClaim 6 = .ok (.getfield 23, 3) := by decide +kernel
theorem dX0_eldestClaim_9 : decode cX0_eldestClaim 9 = .ok (.invokevirtual 83, 3) := by decide +kernel
theorem dX0_eldestClaim_12 : decode cX0_eldestClaim 12 = .ok (.if_icmp .ge 46, 3) := by decide +kernel
theorem dX0_eldestClaim_15 : decode cX0_eldestClaim 15 = .ok (.aload_n 0, 1) := by decide +kernel
theorem dX0_eldestClaim_16 : decode cX0_eldestClaim 16 = .ok (.iload_n 3, 1) := by decide +kernel
theorem dX0_eldestClaim_17 : decode cX0_eldestClaim 17 = .ok (.iload_n 1, 1) := by decide +kernel
theorem dX0_eldestClaim_18 : decode cX0_eldestClaim 18 = .ok (.invokevirtual 86, 3) := by decide +kernel
theorem dX0_eldestClaim_21 : decode cX0_eldestClaim 21 = .ok (.ifCond .eq 31, 3) := by decide +kernel
theorem dX0_eldestClaim_24 : decode cX0_eldestClaim 24 = .ok (.iload_n 2, 1) := by decide +kernel
theorem dX0_eldestClaim_25 : decode cX0_eldestClaim 25 = .ok (.iconst (-1), 1) := by decide +kernel
theorem dX0_eldestClaim_26 : decode cX0_eldestClaim 26 = .ok (.if_icmp .eq 24, 3) := by decide +kernel
theorem dX0_eldestClaim_29 : decode cX0_eldestClaim 29 = .ok (.aload_n 0, 1) := by decide +kernel
theorem dX0_eldestClaim_30 : decode cX0_eldestClaim 30 = .ok (.getfield 23, 3) := by decide +kernel
theorem dX0_eldestClaim_33 : decode cX0_eldestClaim 33 = .ok (.iload_n 3, 1) := by decide +kernel
theorem dX0_eldestClaim_34 : decode cX0_eldestClaim 34 = .ok (.iconst 3, 1) := by decide +kernel
theorem dX0_eldestClaim_35 : decode cX0_eldestClaim 35 = .ok (.invokevirtual 58, 3) := by decide +kernel
theorem dX0_eldestClaim_38 : decode cX0_eldestClaim 38 = .ok (.aload_n 0, 1) := by decide +kernel
theorem dX0_eldestClaim_39 : decode cX0_eldestClaim 39 = .ok (.getfield 23, 3) := by decide +kernel
theorem dX0_eldestClaim_42 : decode cX0_eldestClaim 42 = .ok (.iload_n 2, 1) := by decide +kernel
theorem dX0_eldestClaim_43 : decode cX0_eldestClaim 43 = .ok (.iconst 3, 1) := by decide +kernel
theorem dX0_eldestClaim_44 : decode cX0_eldestClaim 44 = .ok (.invokevirtual 58, 3) := by decide +kernel
theorem dX0_eldestClaim_47 : decode cX0_eldestClaim 47 = .ok (.if_icmp .ge 5, 3) := by decide +kernel
theorem dX0_eldestClaim_50 : decode cX0_eldestClaim 50 = .ok (.iload_n 3, 1) := by decide +kernel
theorem dX0_eldestClaim_51 : decode cX0_eldestClaim 51 = .ok (.istore_n 2, 1) := by decide +kernel
theorem dX0_eldestClaim_52 : decode cX0_eldestClaim 52 = .ok (.iinc 3 1, 3) := by decide +kernel
theorem dX0_eldestClaim_55 : decode cX0_eldestClaim 55 = .ok (.goto (-51), 3) := by decide +kernel
theorem dX0_eldestClaim_58 : decode cX0_eldestClaim 58 = .ok (.iload_n 2, 1) := by decide +kernel
theorem dX0_eldestClaim_59 : decode cX0_eldestClaim 59 = .ok (.ireturn, 1) := by decide +kernel
set_option maxRecDepth 20000 in
theorem ggX0_release_X3_size : GoodIn wsX0_release wsX3_size := goodIn_r _ [6, 7, 41, 42, 43] (by decide +kernel) (by decide +kernel)
set_option maxRecDepth 20000 in
theorem gX0_release_X3_size : GoodIn wsX0_release (wsV RX0 83 RX3 yX3_size wsX3_size) := goodIn_app (goodIn_of _ (by decide +kernel)) ggX0_release_X3_size
set_option maxRecDepth 20000 in
theorem ggX0_release_X3_get : GoodIn wsX0_release wsX3_get := goodIn_r _ [11, 7, 12, 13, 41, 42, 43] (by decide +kernel) (by decide +kernel)
set_option maxRecDepth 20000 in
theorem gX0_release_X3_get : GoodIn wsX0_release (wsV RX0 58 RX3 yX3_get wsX3_get) := goodIn_app (goodIn_of _ (by decide +kernel)) ggX0_release_X3_get
set_option maxRecDepth 20000 in
theorem ggX0_release_X0_mayRelease : GoodIn wsX0_release wsX0_mayRelease := goodIn_r _ [18, 19, 20, 1, 8, 9, 10, 5, 11, 7, 12, 13, 21, 22, 23, 17, 24, 25, 26, 27, 28, 29, 2, 3, 4, 6, 34, 35, 36, 37, 38, 39, 40, 41, 42, 43] (by decide +kernel) (by decide +kernel)
set_option maxRecDepth 20000 in
theorem gX0_release_X0_mayRelease : GoodIn wsX0_release (wsV RX0 113 RX0 yX0_mayRelease wsX0_mayRelease) := goodIn_app (goodIn_of _ (by decide +kernel)) ggX0_release_X0_mayRelease
set_option maxRecDepth 20000 in
theorem ggX0_release_X3_set : GoodIn wsX0_release wsX3_set := goodIn_r _ [33, 7, 12, 13, 41, 42, 43] (by decide +kernel) (by decide +kernel)
set_option maxRecDepth 20000 in
theorem gX0_release_X3_set : GoodIn wsX0_release (wsV RX0 50 RX3 yX3_set wsX3_set) := goodIn_app (goodIn_of _ (by decide +kernel)) ggX0_release_X3_set
theorem dX0_release_0 : decode cX0_release 0 = .ok (.iconst 0, 1) := by decide +kernel
theorem dX0_release_1 : decode cX0_release 1 = .ok (.istore_n 2, 1) := by decide +kernel
theorem dX0_release_2 : decode cX0_release 2 = .ok (.iconst 0, 1) := by decide +kernel
theorem dX0_release_3 : decode cX0_release 3 = .ok (.istore_n 3, 1) := by decide +kernel
theorem dX0_release_4 : decode cX0_release 4 = .ok (.iload_n 3, 1) := by decide +kernel
theorem dX0_release_5 : decode cX0_release 5 = .ok (.aload_n 0, 1) := by decide +kernel
theorem dX0_release_6 : decode cX0_release 6 = .ok (.getfield 26, 3) := by decide +kernel
theorem dX0_release_9 : decode cX0_release 9 = .ok (.invokevirtual 83, 3) := by decide +kernel
theorem dX0_release_12 : decode cX0_release 12 = .ok (.if_icmp .ge 58, 3) := by decide +kernel
theorem dX0_release_15 : decode cX0_release 15 = .ok (.aload_n 0, 1) := by decide +kernel
theorem dX0_release_16 : decode cX0_release 16 = .ok (.getfield 26, 3) := by decide +kernel
theorem dX0_release_19 : decode cX0_release 19 = .ok (.iload_n 3, 1) := by decide +kernel
theorem dX0_release_20 : decode cX0_release 20 = .ok (.iconst 0, 1) := by decide +kernel
theorem dX0_release_21 : decode cX0_release 21 = .ok (.invokevirtual 58, 3) := by decide +kernel
theorem dX0_release_24 : decode cX0_release 24 = .ok (.iload_n 1, 1) := by decide +kernel
theorem dX0_release_25 : decode cX0_release 25 = .ok (.if_icmp .ne 39, 3) := by decide +kernel
theorem dX0_release_28 : decode cX0_release 28 = .ok (.aload_n 0, 1) := by decide +kernel
theorem dX0_release_29 : decode cX0_release 29 = .ok (.getfield 26, 3) := by decide +kernel
theorem dX0_release_32 : decode cX0_release 32 = .ok (.iload_n 3, 1) := by decide +kernel
theorem dX0_release_33 : decode cX0_release 33 = .ok (.iconst 2, 1) := by decide +kernel
theorem dX0_release_34 : decode cX0_release 34 = .ok (.invokevirtual 58, 3) := by decide +kernel
theorem dX0_release_37 : decode cX0_release 37 = .ok (.ifCond .ne 27, 3) := by decide +kernel
theorem dX0_release_40 : decode cX0_release 40 = .ok (.aload_n 0, 1) := by decide +kernel
theorem dX0_release_41 : decode cX0_release 41 = .ok (.iload_n 3, 1) := by decide +kernel
theorem dX0_release_42 : decode cX0_release 42 = .ok (.iload_n 1, 1) := by decide +kernel
theorem dX0_release_43 : decode cX0_release 43 = .ok (.invokevirtual 113, 3) := by decide +kernel
theorem dX0_release_46 : decode cX0_release 46 = .ok (.ifCond .ne 5, 3) := by decide +kernel
theorem dX0_release_49 : decode cX0_release 49 = .ok (.iload_n 2, 1) := by decide +kernel
theorem dX0_release_50 : decode cX0_release 50 = .ok (.ireturn, 1) := by decide +kernel
theorem dX0_release_51 : decode cX0_release 51 = .ok (.aload_n 0, 1) := by decide +kernel
theorem dX0_release_52 : decode cX0_release 52 = .ok (.getfield 26, 3) := by decide +kernel
theorem dX0_release_55 : decode cX0_release 55 = .ok (.iload_n 3, 1) := by decide +kernel
theorem dX0_release_56 : decode cX0_release 56 = .ok (.iconst 2, 1) := by decide +kernel
theorem dX0_release_57 : decode cX0_release 57 = .ok (.iconst 1, 1) := by decide +kernel
theorem dX0_release_58 : decode cX0_release 58 = .ok (.invokevirtual 50, 3) := by decide +kernel
theorem dX0_release_61 : decode cX0_release 61 = .ok (.iinc 2 1, 3) := by decide +kernel
theorem dX0_release_64 : decode cX0_release 64 = .ok (.iinc 3 1, 3) := by decide +kernel
theorem dX0_release_67 : decode cX0_release 67 = .ok (.goto (-63), 3) := by decide +kernel
theorem dX0_release_70 : decode cX0_release 70 = .ok (.iload_n 2, 1) := by decide +kernel
theorem dX0_release_71 : decode cX0_release 71 = .ok (.ireturn, 1) := by decide +kernel
set_option maxRecDepth 20000 in
theorem ggX0_mayRelease_X3_get : GoodIn wsX0_mayRelease wsX3_get := goodIn_r _ [8, 9, 10, 11, 33, 34, 35] (by decide +kernel) (by decide +kernel)
set_option maxRecDepth 20000 in
theorem gX0_mayRelease_X3_get : GoodIn wsX0_mayRelease (wsV RX0 58 RX3 yX3_get wsX3_get) := goodIn_app (goodIn_of _ (by decide +kernel)) ggX0_mayRelease_X3_get
set_option maxRecDepth 20000 in
theorem ggX0_mayRelease_X0_risk : GoodIn wsX0_mayRelease wsX0_risk := goodIn_r _ [16, 1, 3, 17, 18, 19, 15, 20, 21, 22, 23, 24, 7, 25, 9, 4, 5, 6, 8, 10, 11, 26, 27, 28, 29, 30, 31, 32, 33, 34, 35] (by decide +kernel) (by decide +kernel)
set_option maxRecDepth 20000 in
theorem gX0_mayRelease_X0_risk : GoodIn wsX0_mayRelease (wsV RX0 116 RX0 yX0_risk wsX0_risk) := goodIn_app (goodIn_of _ (by decide +kernel)) ggX0_mayRelease_X0_risk
theorem dX0_mayRelease_0 : decode cX0_mayRelease 0 = .ok (.aload_n 0, 1) := by decide +kernel
theorem dX0_mayRelease_1 : decode cX0_mayRelease 1 = .ok (.getfield 20, 3) := by decide +kernel
theorem dX0_mayRelease_4 : decode cX0_mayRelease 4 = .ok (.iload_n 2, 1) := by decide +kernel
theorem dX0_mayRelease_5 : decode cX0_mayRelease 5 = .ok (.iconst 3, 1) := by decide +kernel
theorem dX0_mayRelease_6 : decode cX0_mayRelease 6 = .ok (.invokevirtual 58, 3) := by decide +kernel
theorem dX0_mayRelease_9 : decode cX0_mayRelease 9 = .ok (.aload_n 0, 1) := by decide +kernel
theorem dX0_mayRelease_10 : decode cX0_mayRelease 10 = .ok (.getfield 29, 3) := by decide +kernel
theorem dX0_mayRelease_13 : decode cX0_mayRelease 13 = .ok (.if_icmp .ge 34, 3) := by decide +kernel
theorem dX0_mayRelease_16 : decode cX0_mayRelease 16 = .ok (.aload_n 0, 1) := by decide +kernel
theorem dX0_mayRelease_17 : decode cX0_mayRelease 17 = .ok (.iload_n 2, 1) := by decide +kernel
theorem dX0_mayRelease_18 : decode cX0_mayRelease 18 = .ok (.invokevirtual 116, 3) := by decide +kernel
theorem dX0_mayRelease_21 : decode cX0_mayRelease 21 = .ok (.aload_n 0, 1) := by decide +kernel
theorem dX0_mayRelease_22 : decode cX0_mayRelease 22 = .ok (.getfield 26, 3) := by decide +kernel
theorem dX0_mayRelease_25 : decode cX0_mayRelease 25 = .ok (.iload_n 1, 1) := by decide +kernel
theorem dX0_mayRelease_26 : decode cX0_mayRelease 26 = .ok (.iconst 1, 1) := by decide +kernel
theorem dX0_mayRelease_27 : decode cX0_mayRelease 27 = .ok (.invokevirtual 58, 3) := by decide +kernel
theorem dX0_mayRelease_30 : decode cX0_mayRelease 30 = .ok (.iadd, 1) := by decide +kernel
theorem dX0_mayRelease_31 : decode cX0_mayRelease 31 = .ok (.aload_n 0, 1) := by decide +kernel
theorem dX0_mayRelease_32 : decode cX0_mayRelease 32 = .ok (.getfield 20, 3) := by decide +kernel
theorem dX0_mayRelease_35 : decode cX0_mayRelease 35 = .ok (.iload_n 2, 1) := by decide +kernel
theorem dX0_mayRelease_36 : decode cX0_mayRelease 36 = .ok (.iconst 0, 1) := by decide +kernel
theorem dX0_mayRelease_37 : decode cX0_mayRelease 37 = .ok (.invokevirtual 58, 3) := by decide +kernel
theorem dX0_mayRelease_40 : decode cX0_mayRelease 40 = .ok (.if_icmp .gt 7, 3) := by decide +kernel
theorem dX0_mayRelease_43 : decode cX0_mayRelease 43 = .ok (.iconst 1, 1) := by decide +kernel
theorem dX0_mayRelease_44 : decode cX0_mayRelease 44 = .ok (.goto 4, 3) := by decide +kernel
theorem dX0_mayRelease_47 : decode cX0_mayRelease 47 = .ok (.iconst 0, 1) := by decide +kernel
theorem dX0_mayRelease_48 : decode cX0_mayRelease 48 = .ok (.ireturn, 1) := by decide +kernel
set_option maxRecDepth 20000 in
theorem ggX0_endDay_X0_ageInvoices : GoodIn wsX0_endDay wsX0_ageInvoices := goodIn_r _ [7, 8, 2, 9, 10, 11, 12, 13, 14, 15, 16, 17, 18, 19, 20, 21, 22, 23, 6, 24, 25, 26, 27, 28, 29, 30, 31, 32, 1, 33, 34, 35, 36, 37, 38, 39, 40, 41, 42, 43, 44, 45, 134, 135, 136, 137, 138, 139, 140, 141, 142, 143] (by decide +kernel) (by decide +kernel)
set_option maxRecDepth 20000 in
theorem gX0_endDay_X0_ageInvoices : GoodIn wsX0_endDay (wsV RX0 119 RX0 yX0_ageInvoices wsX0_ageInvoices) := goodIn_app (goodIn_of _ (by decide +kernel)) ggX0_endDay_X0_ageInvoices
set_option maxRecDepth 20000 in
theorem ggX0_endDay_X3_size : GoodIn wsX0_endDay wsX3_size := goodIn_r _ [13, 14, 141, 142, 143] (by decide +kernel) (by decide +kernel)
set_option maxRecDepth 20000 in
theorem gX0_endDay_X3_size : GoodIn wsX0_endDay (wsV RX0 83 RX3 yX3_size wsX3_size) := goodIn_app (goodIn_of _ (by decide +kernel)) ggX0_endDay_X3_size
set_option maxRecDepth 20000 in
theorem ggX0_endDay_X0_closeAgreement : GoodIn wsX0_endDay wsX0_closeAgreement := goodIn_r _ [49, 1, 2, 29, 30, 31, 6, 32, 15, 16, 17, 12, 18, 14, 19, 20, 37, 38, 39, 40, 41, 42, 43, 44, 45, 50, 33, 34, 35, 36, 51, 52, 53, 54, 55, 56, 57, 58, 59, 60, 61, 62, 63, 64, 65, 66, 67, 68, 69, 70, 8, 9, 10, 11, 13, 21, 22, 23, 24, 134, 135, 136, 137, 138, 139, 140, 141, 142, 143] (by decide +kernel) (by decide +kernel)
set_option maxRecDepth 20000 in
theorem gX0_endDay_X0_closeAgreement : GoodIn wsX0_endDay (wsV RX0 122 RX0 yX0_closeAgreement wsX0_closeAgreement) := goodIn_app (goodIn_of _ (by decide +kernel)) ggX0_endDay_X0_closeAgreement
set_option maxRecDepth 20000 in
theorem ggX0_endDay_X0_doStep : GoodIn wsX0_endDay wsX0_doStep := goodIn_r _ [74, 1, 2, 75, 8, 76, 77, 78, 6, 79, 80, 81, 65, 82, 9, 10, 11, 12, 13, 14, 21, 22, 23, 24, 15, 16, 17, 18, 19, 20, 83, 84, 85, 86, 50, 43, 44, 45, 25, 26, 27, 28, 29, 30, 31, 32, 33, 34, 35, 36, 87, 88, 89, 90, 91, 92, 93, 94, 95, 96, 97, 98, 99, 100, 101, 102, 103, 104, 105, 106, 107, 42, 108, 109, 110, 111, 63, 64, 66, 112, 113, 114, 115, 37, 38, 39, 40, 41, 134, 135, 136, 137, 138, 139, 140, 141, 142, 143] (by decide +kernel) (by decide +kernel)
set_option maxRecDepth 20000 in
theorem gX0_endDay_X0_doStep : GoodIn wsX0_endDay (wsV RX0 125 RX0 yX0_doStep wsX0_doStep) := goodIn_app (goodIn_of _ (by decide +kernel)) ggX0_endDay_X0_doStep
set_option maxRecDepth 20000 in
theorem ggX0_endDay_X0_release : GoodIn wsX0_endDay wsX0_release := goodIn_r _ [119, 120, 9, 10, 11, 12, 13, 14, 15, 16, 17, 18, 19, 20, 121, 122, 123, 6, 124, 1, 125, 126, 127, 128, 129, 130, 131, 132, 133, 8, 50, 43, 44, 45, 134, 135, 136, 137, 138, 139, 140, 141, 142, 143] (by decide +kernel) (by decide +kernel)
set_option maxRecDepth 20000 in
theorem gX0_endDay_X0_release : GoodIn wsX0_endDay (wsV RX0 54 RX0 yX0_release wsX0_release) := goodIn_app (goodIn_of _ (by decide +kernel)) ggX0_endDay_X0_release
theorem dX0_endDay_0 : decode cX0_endDay 0 = .ok (.aload_n 0, 1) := by decide +kernel
theorem dX0_endDay_1 : decode cX0_endDay 1 = .ok (.invokevirtual 119, 3) := by decide +kernel
theorem dX0_endDay_4 : decode cX0_endDay 4 = .ok (.iconst 0, 1) := by decide +kernel
theorem dX0_endDay_5 : decode cX0_endDay 5 = .ok (.istore_n 1, 1) := by decide +kernel
theorem dX0_endDay_6 : decode cX0_endDay 6 = .ok (.iload_n 1, 1) := by decide +kernel
theorem dX0_endDay_7 : decode cX0_endDay 7 = .ok (.aload_n 0, 1) := by decide +kernel
theorem dX0_endDay_8 : decode cX0_endDay 8 = .ok (.getfield 20, 3) := by decide +kernel
theorem dX0_endDay_11 : decode cX0_endDay 11 = .ok (.invokevirtual 83, 3) := by decide +kernel
theorem dX0_endDay_14 : decode cX0_endDay 14 = .ok (.if_icmp .ge 14, 3) := by decide +kernel
theorem dX0_endDay_17 : decode cX0_endDay 17 = .ok (.aload_n 0, 1) := by decide +kernel
theorem dX0_endDay_18 : decode cX0_endDay 18 = .ok (.iload_n 1, 1) := by decide +kernel
theorem dX0_endDay_19 : decode cX0_endDay 19 = .ok (.invokevirtual 122, 3) := by decide +kernel
theorem dX0_endDay_22 : decode cX0_endDay 22 = .ok (.iinc 1 1, 3) := by decide +kernel
theorem dX0_endDay_25 : decode cX0_endDay 25 = .ok (.goto (-19), 3) := by decide +kernel
theorem dX0_endDay_28 : decode cX0_endDay 28 = .ok (.aload_n 0, 1) := by decide +kernel
theorem dX0_endDay_29 : decode cX0_endDay 29 = .ok (.dup, 1) := by decide +kernel
theorem dX0_endDay_30 : decode cX0_endDay 30 = .ok (.getfield 36, 3) := by decide +kernel
theorem dX0_endDay_33 : decode cX0_endDay 33 = .ok (.iconst 1, 1) := by decide +kernel
theorem dX0_endDay_34 : decode cX0_endDay 34 = .ok (.iadd, 1) := by decide +kernel
theorem dX0_endDay_35 : decode cX0_endDay 35 = .ok (.putfield 36, 3) := by decide +kernel
theorem dX0_endDay_38 : decode cX0_endDay 38 = .ok (.iconst 0, 1) := by decide +kernel
theorem dX0_endDay_39 : decode cX0_endDay 39 = .ok (.istore_n 1, 1) := by decide +kernel
theorem dX0_endDay_40 : decode cX0_endDay 40 = .ok (.iload_n 1, 1) := by decide +kernel
theorem dX0_endDay_41 : decode cX0_endDay 41 = .ok (.aload_n 0, 1) := by decide +kernel
theorem dX0_endDay_42 : decode cX0_endDay 42 = .ok (.getfield 20, 3) := by decide +kernel
theorem dX0_endDay_45 : decode cX0_endDay 45 = .ok (.invokevirtual 83, 3) := by decide +kernel
theorem dX0_endDay_48 : decode cX0_endDay 48 = .ok (.if_icmp .ge 15, 3) := by decide +kernel
theorem dX0_endDay_51 : decode cX0_endDay 51 = .ok (.aload_n 0, 1) := by decide +kernel
theorem dX0_endDay_52 : decode cX0_endDay 52 = .ok (.iload_n 1, 1) := by decide +kernel
theorem dX0_endDay_53 : decode cX0_endDay 53 = .ok (.invokevirtual 125, 3) := by decide +kernel
theorem dX0_endDay_56 : decode cX0_endDay 56 = .ok (.pop, 1) := by decide +kernel
theorem dX0_endDay_57 : decode cX0_endDay 57 = .ok (.iinc 1 1, 3) := by decide +kernel
theorem dX0_endDay_60 : decode cX0_endDay 60 = .ok (.goto (-20), 3) := by decide +kernel
theorem dX0_endDay_63 : decode cX0_endDay 63 = .ok (.iconst 0, 1) := by decide +kernel
theorem dX0_endDay_64 : decode cX0_endDay 64 = .ok (.istore_n 1, 1) := by decide +kernel
theorem dX0_endDay_65 : decode cX0_endDay 65 = .ok (.iload_n 1, 1) := by decide +kernel
theorem dX0_endDay_66 : decode cX0_endDay 66 = .ok (.aload_n 0, 1) := by decide +kernel
theorem dX0_endDay_67 : decode cX0_endDay 67 = .ok (.getfield 20, 3) := by decide +kernel
theorem dX0_endDay_70 : decode cX0_endDay 70 = .ok (.invokevirtual 83, 3) := by decide +kernel
theorem dX0_endDay_73 : decode cX0_endDay 73 = .ok (.if_icmp .ge 15, 3) := by decide +kernel
theorem dX0_endDay_76 : decode cX0_endDay 76 = .ok (.aload_n 0, 1) := by decide +kernel
theorem dX0_endDay_77 : decode cX0_endDay 77 = .ok (.iload_n 1, 1) := by decide +kernel
theorem dX0_endDay_78 : decode cX0_endDay 78 = .ok (.invokevirtual 54, 3) := by decide +kernel
theorem dX0_endDay_81 : decode cX0_endDay 81 = .ok (.pop, 1) := by decide +kernel
theorem dX0_endDay_82 : decode cX0_endDay 82 = .ok (.iinc 1 1, 3) := by decide +kernel
theorem dX0_endDay_85 : decode cX0_endDay 85 = .ok (.goto (-20), 3) := by decide +kernel
theorem dX0_endDay_88 : decode cX0_endDay 88 = .ok (.return_, 1) := by decide +kernel
set_option maxRecDepth 20000 in
theorem ggX0_endDayOf_X0_ageInvoices : GoodIn wsX0_endDayOf wsX0_ageInvoices := goodIn_r _ [6, 7, 1, 8, 9, 10, 11, 12, 13, 14, 15, 16, 17, 18, 19, 20, 21, 22, 5, 23, 24, 25, 26, 27, 28, 29, 30, 31, 32, 33, 34, 35, 36, 37, 38, 39, 40, 41, 42, 43, 44, 45, 116, 117, 118, 119, 120, 121, 122, 123, 124, 125] (by decide +kernel) (by decide +kernel)
set_option maxRecDepth 20000 in
theorem gX0_endDayOf_X0_ageInvoices : GoodIn wsX0_endDayOf (wsV RX0 119 RX0 yX0_ageInvoices wsX0_ageInvoices) := goodIn_app (goodIn_of _ (by decide +kernel)) ggX0_endDayOf_X0_ageInvoices
set_option maxRecDepth 20000 in
theorem ggX0_endDayOf_X0_closeAgreement : GoodIn wsX0_endDayOf wsX0_closeAgreement := goodIn_r _ [49, 32, 1, 28, 29, 30, 5, 31, 14, 15, 16, 11, 17, 13, 18, 19, 37, 38, 39, 40, 41, 42, 43, 44, 45, 50, 33, 34, 35, 36, 51, 52, 53, 54, 55, 56, 57, 58, 59, 60, 61, 62, 63, 64, 65, 66, 67, 68, 69, 70, 7, 8, 9, 10, 12, 20, 21, 22, 23, 116, 117, 118, 119, 120, 121, 122, 123, 124, 125] (by decide +kernel) (by decide +kernel)
set_option maxRecDepth 20000 in
theorem gX0_endDayOf_X0_closeAgreement : GoodIn wsX0_endDayOf (wsV RX0 122 RX0 yX0_closeAgreement wsX0_closeAgreement) := goodIn_app (goodIn_of _ (by decide +kernel)) ggX0_endDayOf_X0_closeAgreement
set_option maxRecDepth 20000 in
theorem ggX0_endDayOf_X0_doStep : GoodIn wsX0_endDayOf wsX0_doStep := goodIn_r _ [74, 32, 1, 75, 7, 76, 77, 78, 5, 79, 80, 81, 65, 82, 8, 9, 10, 11, 12, 13, 20, 21, 22, 23, 14, 15, 16, 17, 18, 19, 83, 84, 85, 86, 50, 43, 44, 45, 24, 25, 26, 27, 28, 29, 30, 31, 33, 34, 35, 36, 87, 88, 89, 90, 91, 92, 93, 94, 95, 96, 97, 98, 99, 100, 101, 102, 103, 104, 105, 106, 107, 42, 108, 109, 110, 111, 63, 64, 66, 112, 113, 114, 115, 37, 38, 39, 40, 41, 116, 117, 118, 119, 120, 121, 122, 123, 124, 125] (by decide +kernel) (by decide +kernel)
set_option maxRecDepth 20000 in
theorem gX0_endDayOf_X0_doStep : GoodIn wsX0_endDayOf (wsV RX0 125 RX0 yX0_doStep wsX0_doStep) := goodIn_app (goodIn_of _ (by decide +kernel)) ggX0_endDayOf_X0_doStep
theorem dX0_endDayOf_0 : decode cX0_endDayOf 0 = .ok (.aload_n 0, 1) := by decide +kernel
theorem dX0_endDayOf_1 : decode cX0_endDayOf 1 = .ok (.invokevirtual 119, 3) := by decide +kernel
theorem dX0_endDayOf_4 : decode cX0_endDayOf 4 = .ok (.aload_n 0, 1) := by decide +kernel
theorem dX0_endDayOf_5 : decode cX0_endDayOf 5 = .ok (.iload_n 1, 1) := by decide +kernel
theorem dX0_endDayOf_6 : decode cX0_endDayOf 6 = .ok (.invokevirtual 122, 3) := by decide +kernel
theorem dX0_endDayOf_9 : decode cX0_endDayOf 9 = .ok (.aload_n 0, 1) := by decide +kernel
theorem dX0_endDayOf_10 : decode cX0_endDayOf 10 = .ok (.dup, 1) := by decide +kernel
theorem dX0_endDayOf_11 : decode cX0_endDayOf 11 = .ok (.getfield 36, 3) := by decide +kernel
theorem dX0_endDayOf_14 : decode cX0_endDayOf 14 = .ok (.iconst 1, 1) := by decide +kernel
theorem dX0_endDayOf_15 : decode cX0_endDayOf 15 = .ok (.iadd, 1) := by decide +kernel
theorem dX0_endDayOf_16 : decode cX0_endDayOf 16 = .ok (.putfield 36, 3) := by decide +kernel
theorem dX0_endDayOf_19 : decode cX0_endDayOf 19 = .ok (.aload_n 0, 1) := by decide +kernel
theorem dX0_endDayOf_20 : decode cX0_endDayOf 20 = .ok (.iload_n 1, 1) := by decide +kernel
theorem dX0_endDayOf_21 : decode cX0_endDayOf 21 = .ok (.invokevirtual 125, 3) := by decide +kernel
theorem dX0_endDayOf_24 : decode cX0_endDayOf 24 = .ok (.ireturn, 1) := by decide +kernel
set_option maxRecDepth 20000 in
theorem ggX0_ageInvoices_X3_size : GoodIn wsX0_ageInvoices wsX3_size := goodIn_r _ [7, 8, 49, 50, 51] (by decide +kernel) (by decide +kernel)
set_option maxRecDepth 20000 in
theorem gX0_ageInvoices_X3_size : GoodIn wsX0_ageInvoices (wsV RX0 83 RX3 yX3_size wsX3_size) := goodIn_app (goodIn_of _ (by decide +kernel)) ggX0_ageInvoices_X3_size
set_option maxRecDepth 20000 in
theorem ggX0_ageInvoices_X3_get : GoodIn wsX0_ageInvoices wsX3_get := goodIn_r _ [12, 8, 13, 14, 49, 50, 51] (by decide +kernel) (by decide +kernel)
set_option maxRecDepth 20000 in
theorem gX0_ageInvoices_X3_get : GoodIn wsX0_ageInvoices (wsV RX0 58 RX3 yX3_get wsX3_get) := goodIn_app (goodIn_of _ (by decide +kernel)) ggX0_ageInvoices_X3_get
set_option maxRecDepth 20000 in
theorem ggX0_ageInvoices_X0_isClaim : GoodIn wsX0_ageInvoices wsX0_isClaim := goodIn_r _ [19, 1, 9, 10, 11, 6, 12, 8, 13, 14, 42, 43, 44, 45, 46, 47, 48, 49, 50, 51] (by decide +kernel) (by decide +kernel)
set_option maxRecDepth 20000 in
theorem gX0_ageInvoices_X0_isClaim : GoodIn wsX0_ageInvoices (wsV RX0 86 RX0 yX0_isClaim wsX0_isClaim) := goodIn_app (goodIn_of _ (by decide +kernel)) ggX0_ageInvoices_X0_isClaim
set_option maxRecDepth 20000 in
theorem ggX0_ageInvoices_X0_hasAgreement : GoodIn wsX0_ageInvoices wsX0_hasAgreement := goodIn_r _ [23, 24, 25, 26, 18, 27, 28, 9, 10, 11, 6, 12, 8, 13, 14, 29, 30, 31, 32, 42, 43, 44, 45, 46, 47, 48, 49, 50, 51] (by decide +kernel) (by decide +kernel)
set_option maxRecDepth 20000 in
theorem gX0_ageInvoices_X0_hasAgreement : GoodIn wsX0_ageInvoices (wsV RX0 128 RX0 yX0_hasAgreement wsX0_hasAgreement) := goodIn_app (goodIn_of _ (by decide +kernel)) ggX0_ageInvoices_X0_hasAgreement
set_option maxRecDepth 20000 in
theorem ggX0_ageInvoices_X3_increase : GoodIn wsX0_ageInvoices wsX3_increase := goodIn_r _ [36, 37, 10, 11, 6, 12, 8, 13, 14, 38, 39, 40, 41, 49, 50, 51] (by decide +kernel) (by decide +kernel)
set_option maxRecDepth 20000 in
theorem gX0_ageInvoices_X3_increase : GoodIn wsX0_ageInvoices (wsV RX0 70 RX3 yX3_increase wsX3_increase) := goodIn_app (goodIn_of _ (by decide +kernel)) ggX0_ageInvoices_X3_increase
theorem dX0_ageInvoices_0 : decode cX0_ageInvoices 0 = .ok (.iconst 0, 1) := by decide +kernel
theorem dX0_ageInvoices_1 : decode cX0_ageInvoices 1 = .ok (.istore_n 1, 1) := by decide +kernel
theorem dX0_ageInvoices_2 : decode cX0_ageInvoices 2 = .ok (.iload_n 1, 1) := by decide +kernel
theorem dX0_ageInvoices_3 : decode cX0_ageInvoices 3 = .ok (.aload_n 0, 1) := by decide +kernel
theorem dX0_ageInvoices_4 : decode cX0_ageInvoices 4 = .ok (.getfield 23, 3) := by decide +kernel
theorem dX0_ageInvoices_7 : decode cX0_ageInvoices 7 = .ok (.invokevirtual 83, 3) := by decide +kernel
theorem dX0_ageInvoices_10 : decode cX0_ageInvoices 10 = .ok (.if_icmp .ge 62, 3) := by decide +kernel
theorem dX0_ageInvoices_13 : decode cX0_ageInvoices 13 = .ok (.aload_n 0, 1) := by decide +kernel
theorem dX0_ageInvoices_14 : decode cX0_ageInvoices 14 = .ok (.getfield 23, 3) := by decide +kernel
theorem dX0_ageInvoices_17 : decode cX0_ageInvoices 17 = .ok (.iload_n 1, 1) := by decide +kernel
theorem dX0_ageInvoices_18 : decode cX0_ageInvoices 18 = .ok (.iconst 0, 1) := by decide +kernel
theorem dX0_ageInvoices_19 : decode cX0_ageInvoices 19 = .ok (.invokevirtual 58, 3) := by decide +kernel
theorem dX0_ageInvoices_22 : decode cX0_ageInvoices 22 = .ok (.istore_n 2, 1) := by decide +kernel
theorem dX0_ageInvoices_23 : decode cX0_ageInvoices 23 = .ok (.aload_n 0, 1) := by decide +kernel
theorem dX0_ageInvoices_24 : decode cX0_ageInvoices 24 = .ok (.getfield 36, 3) := by decide +kernel
theorem dX0_ageInvoices_27 : decode cX0_ageInvoices 27 = .ok (.aload_n 0, 1) := by decide +kernel
theorem dX0_ageInvoices_28 : decode cX0_ageInvoices 28 = .ok (.getfield 23, 3) := by decide +kernel
theorem dX0_ageInvoices_31 : decode cX0_ageInvoices 31 = .ok (.iload_n 1, 1) := by decide +kernel
theorem dX0_ageInvoices_32 : decode cX0_ageInvoices 32 = .ok (.iconst 3, 1) := by decide +kernel
theorem dX0_ageInvoices_33 : decode cX0_ageInvoices 33 = .ok (.invokevirtual 58, 3) := by decide +kernel
theorem dX0_ageInvoices_36 : decode cX0_ageInvoices 36 = .ok (.if_icmp .lt 30, 3) := by decide +kernel
theorem dX0_ageInvoices_39 : decode cX0_ageInvoices 39 = .ok (.aload_n 0, 1) := by decide +kernel
theorem dX0_ageInvoices_40 : decode cX0_ageInvoices 40 = .ok (.iload_n 1, 1) := by decide +kernel
theorem dX0_ageInvoices_41 : decode cX0_ageInvoices 41 = .ok (.iload_n 2, 1) := by decide +kernel
theorem dX0_ageInvoices_42 : decode cX0_ageInvoices 42 = .ok (.invokevirtual 86, 3) := by decide +kernel
theorem dX0_ageInvoices_45 : decode cX0_ageInvoices 45 = .ok (.ifCond .eq 21, 3) := by decide +kernel
theorem dX0_ageInvoices_48 : decode cX0_ageInvoices 48 = .ok (.aload_n 0, 1) := by decide +kernel
theorem dX0_ageInvoices_49 : decode cX0_ageInvoices 49 = .ok (.iload_n 2, 1) := by decide +kernel
theorem dX0_ageInvoices_50 : decode cX0_ageInvoices 50 = .ok (.invokevirtual 128, 3) := by decide +kernel
theorem dX0_ageInvoices_53 : decode cX0_ageInvoices 53 = .ok (.ifCond .ne 13, 3) := by decide +kernel
theorem dX0_ageInvoices_56 : decode cX0_ageInvoices 56 = .ok (.aload_n 0, 1) := by decide +kernel
theorem dX0_ageInvoices_57 : decode cX0_ageInvoices 57 = .ok (.getfield 23, 3) := by decide +kernel
theorem dX0_ageInvoices_60 : decode cX0_ageInvoices 60 = .ok (.iload_n 1, 1) := by decide +kernel
theorem dX0_ageInvoices_61 : decode cX0_ageInvoices 61 = .ok (.iconst 4, 1) := by decide +kernel
theorem dX0_ageInvoices_62 : decode cX0_ageInvoices 62 = .ok (.iconst 1, 1) := by decide +kernel
theorem dX0_ageInvoices_63 : decode cX0_ageInvoices 63 = .ok (.invokevirtual 70, 3) := by decide +kernel
theorem dX0_ageInvoices_66 : decode cX0_ageInvoices 66 = .ok (.iinc 1 1, 3) := by decide +kernel
theorem dX0_ageInvoices_69 : decode cX0_ageInvoices 69 = .ok (.goto (-67), 3) := by decide +kernel
theorem dX0_ageInvoices_72 : decode cX0_ageInvoices 72 = .ok (.return_, 1) := by decide +kernel
set_option maxRecDepth 20000 in
theorem ggX0_closeAgreement_X0_hasPromise : GoodIn wsX0_closeAgreement wsX0_hasPromise := goodIn_r _ [7, 1, 8, 9, 10, 11, 12, 13, 14, 15, 59, 60, 61, 62, 63, 64, 65, 66, 67, 68] (by decide +kernel) (by decide +kernel)
set_option maxRecDepth 20000 in
theorem gX0_closeAgreement_X0_hasPromise : GoodIn wsX0_closeAgreement (wsV RX0 76 RX0 yX0_hasPromise wsX0_hasPromise) := goodIn_app (goodIn_of _ (by decide +kernel)) ggX0_closeAgreement_X0_hasPromise
set_option maxRecDepth 20000 in
theorem ggX0_closeAgreement_X3_get : GoodIn wsX0_closeAgreement wsX3_get := goodIn_r _ [12, 13, 14, 15, 66, 67, 68] (by decide +kernel) (by decide +kernel)
set_option maxRecDepth 20000 in
theorem gX0_closeAgreement_X3_get : GoodIn wsX0_closeAgreement (wsV RX0 58 RX3 yX3_get wsX3_get) := goodIn_app (goodIn_of _ (by decide +kernel)) ggX0_closeAgreement_X3_get
set_option maxRecDepth 20000 in
theorem ggX0_closeAgreement_X3_increase : GoodIn wsX0_closeAgreement wsX3_increase := goodIn_r _ [19, 20, 9, 10, 11, 12, 13, 14, 15, 21, 22, 23, 24, 66, 67, 68] (by decide +kernel) (by decide +kernel)
set_option maxRecDepth 20000 in
theorem gX0_closeAgreement_X3_increase : GoodIn wsX0_closeAgreement (wsV RX0 70 RX3 yX3_increase wsX3_increase) := goodIn_app (goodIn_of _ (by decide +kernel)) ggX0_closeAgreement_X3_increase
set_option maxRecDepth 20000 in
theorem ggX0_closeAgreement_X3_set : GoodIn wsX0_closeAgreement wsX3_set := goodIn_r _ [24, 13, 14, 15, 66, 67, 68] (by decide +kernel) (by decide +kernel)
set_option maxRecDepth 20000 in
theorem gX0_closeAgreement_X3_set : GoodIn wsX0_closeAgreement (wsV RX0 50 RX3 yX3_set wsX3_set) := goodIn_app (goodIn_of _ (by decide +kernel)) ggX0_closeAgreement_X3_set
set_option maxRecDepth 20000 in
theorem ggX0_closeAgreement_X0_hasPlan : GoodIn wsX0_closeAgreement wsX0_hasPlan := goodIn_r _ [29, 1, 8, 9, 10, 11, 12, 13, 14, 15, 59, 60, 61, 62, 63, 64, 65, 66, 67, 68] (by decide +kernel) (by decide +kernel)
set_option maxRecDepth 20000 in
theorem gX0_closeAgreement_X0_hasPlan : GoodIn wsX0_closeAgreement (wsV RX0 80 RX0 yX0_hasPlan wsX0_hasPlan) := goodIn_app (goodIn_of _ (by decide +kernel)) ggX0_closeAgreement_X0_hasPlan
set_option maxRecDepth 20000 in
theorem ggX0_closeAgreement_X0_isPlanOver : GoodIn wsX0_closeAgreement wsX0_isPlanOver := goodIn_r _ [33, 1, 2, 8, 9, 10, 11, 12, 13, 14, 15, 34, 35, 36, 6, 37, 38, 39, 40, 41, 42, 43, 44, 45, 46, 47, 48, 49, 50, 51, 52, 53, 54, 55, 56, 57, 58, 59, 60, 61, 62, 63, 64, 65, 66, 67, 68] (by decide +kernel) (by decide +kernel)
set_option maxRecDepth 20000 in
theorem gX0_closeAgreement_X0_isPlanOver : GoodIn wsX0_closeAgreement (wsV RX0 131 RX0 yX0_isPlanOver wsX0_isPlanOver) := goodIn_app (goodIn_of _ (by decide +kernel)) ggX0_closeAgreement_X0_isPlanOver
theorem dX0_closeAgreement_0 : decode cX0_closeAgreement 0 = .ok (.aload_n 0, 1) := by decide +kernel
theorem dX0_closeAgreement_1 : decode cX0_closeAgreement 1 = .ok (.iload_n 1, 1) := by decide +kernel
theorem dX0_closeAgreement_2 : decode cX0_closeAgreement 2 = .ok (.invokevirtual 76, 3) := by decide +kernel
theorem dX0_closeAgreement_5 : decode cX0_closeAgreement 5 = .ok (.ifCond .eq 64, 3) := by decide +kernel
theorem dX0_closeAgreement_8 : decode cX0_closeAgreement 8 = .ok (.aload_n 0, 1) := by decide +kernel
theorem dX0_closeAgreement_9 : decode cX0_closeAgreement 9 = .ok (.getfield 20, 3) := by decide +kernel
theorem dX0_closeAgreement_12 : decode cX0_closeAgreement 12 = .ok (.iload_n 1, 1) := by decide +kernel
theorem dX0_closeAgreement_13 : decode cX0_closeAgreement 13 = .ok (.bipush 7, 2) := by decide +kernel
theorem dX0_closeAgreement_15 : decode cX0_closeAgreement 15 = .ok (.invokevirtual 58, 3) := by decide +kernel
theorem dX0_closeAgreement_18 : decode cX0_closeAgreement 18 = .ok (.aload_n 0, 1) := by decide +kernel
theorem dX0_closeAgreement_19 : decode cX0_closeAgreement 19 = .ok (.getfield 36, 3) := by decide +kernel
theorem dX0_closeAgreement_22 : decode cX0_closeAgreement 22 = .ok (.if_icmp .gt 47, 3) := by decide +kernel
theorem dX0_closeAgreement_25 : decode cX0_closeAgreement 25 = .ok (.aload_n 0, 1) := by decide +kernel
theorem dX0_closeAgreement_26 : decode cX0_closeAgreement 26 = .ok (.getfield 20, 3) := by decide +kernel
theorem dX0_closeAgreement_29 : decode cX0_closeAgreement 29 = .ok (.iload_n 1, 1) := by decide +kernel
theorem dX0_closeAgreement_30 : decode cX0_closeAgreement 30 = .ok (.bipush 12, 2) := by decide +kernel
theorem dX0_closeAgreement_32 : decode cX0_closeAgreement 32 = .ok (.invokevirtual 58, 3) := by decide +kernel
theorem dX0_closeAgreement_35 : decode cX0_closeAgreement 35 = .ok (.aload_n 0, 1) := by decide +kernel
theorem dX0_closeAgreement_36 : decode cX0_closeAgreement 36 = .ok (.getfield 20, 3) := by decide +kernel
theorem dX0_closeAgreement_39 : decode cX0_closeAgreement 39 = .ok (.iload_n 1, 1) := by decide +kernel
theorem dX0_closeAgreement_40 : decode cX0_closeAgreement 40 = .ok (.bipush 6, 2) := by decide +kernel
theorem dX0_closeAgreement_42 : decode cX0_closeAgreement 42 = .ok (.invokevirtual 58, 3) := by decide +kernel
theorem dX0_closeAgreement_45 : decode cX0_closeAgreement 45 = .ok (.if_icmp .ge 13, 3) := by decide +kernel
theorem dX0_closeAgreement_48 : decode cX0_closeAgreement 48 = .ok (.aload_n 0, 1) := by decide +kernel
theorem dX0_closeAgreement_49 : decode cX0_closeAgreement 49 = .ok (.getfield 20, 3) := by decide +kernel
theorem dX0_closeAgreement_52 : decode cX0_closeAgreement 52 = .ok (.iload_n 1, 1) := by decide +kernel
theorem dX0_closeAgreement_53 : decode cX0_closeAgreement 53 = .ok (.iconst 5, 1) := by decide +kernel
theorem dX0_closeAgreement_54 : decode cX0_closeAgreement 54 = .ok (.iconst 1, 1) := by decide +kernel
theorem dX0_closeAgreement_55 : decode cX0_closeAgreement 55 = .ok (.invokevirtual 70, 3) := by decide +kernel
theorem dX0_closeAgreement_58 : decode cX0_closeAgreement 58 = .ok (.aload_n 0, 1) := by decide +kernel
theorem dX0_closeAgreement_59 : decode cX0_closeAgreement 59 = .ok (.getfield 20, 3) := by decide +kernel
theorem dX0_closeAgreement_62 : decode cX0_closeAgreement 62 = .ok (.iload_n 1, 1) := by decide +kernel
theorem dX0_closeAgreement_63 : decode cX0_closeAgreement 63 = .ok (.bipush 6, 2) := by decide +kernel
theorem dX0_closeAgreement_65 : decode cX0_closeAgreement 65 = .ok (.iconst 0, 1) := by decide +kernel
theorem dX0_closeAgreement_66 : decode cX0_closeAgreement 66 = .ok (.invokevirtual 50, 3) := by decide +kernel
theorem dX0_closeAgreement_69 : decode cX0_closeAgreement 69 = .ok (.aload_n 0, 1) := by decide +kernel
theorem dX0_closeAgreement_70 : decode cX0_closeAgreement 70 = .ok (.iload_n 1, 1) := by decide +kernel
theorem dX0_closeAgreement_71 : decode cX0_closeAgreement 71 = .ok (.invokevirtual 80, 3) := by decide +kernel
theorem dX0_closeAgreement_74 : decode cX0_closeAgreement 74 = .ok (.ifCond .eq 22, 3) := by decide +kernel
theorem dX0_closeAgreement_77 : decode cX0_closeAgreement 77 = .ok (.aload_n 0, 1) := by decide +kernel
theorem dX0_closeAgreement_78 : decode cX0_closeAgreement 78 = .ok (.iload_n 1, 1) := by decide +kernel
theorem dX0_closeAgreement_79 : decode cX0_closeAgreement 79 = .ok (.invokevirtual 131, 3) := by decide +kernel
theorem dX0_closeAgreement_82 : decode cX0_closeAgreement 82 = .ok (.ifCond .eq 14, 3) := by decide +kernel
theorem dX0_closeAgreement_85 : decode cX0_closeAgreement 85 = .ok (.aload_n 0, 1) := by decide +kernel
theorem dX0_closeAgreement_86 : decode cX0_closeAgreement 86 = .ok (.getfield 20, 3) := by decide +kernel
theorem dX0_closeAgreement_89 : decode cX0_closeAgreement 89 = .ok (.iload_n 1, 1) := by decide +kernel
theorem dX0_closeAgreement_90 : decode cX0_closeAgreement 90 = .ok (.bipush 8, 2) := by decide +kernel
theorem dX0_closeAgreement_92 : decode cX0_closeAgreement 92 = .ok (.iconst 0, 1) := by decide +kernel
theorem dX0_closeAgreement_93 : decode cX0_closeAgreement 93 = .ok (.invokevirtual 50, 3) := by decide +kernel
theorem dX0_closeAgreement_96 : decode cX0_closeAgreement 96 = .ok (.return_, 1) := by decide +kernel
set_option maxRecDepth 20000 in
theorem ggX0_isPlanOver_X3_get : GoodIn wsX0_isPlanOver wsX3_get := goodIn_r _ [7, 8, 9, 10, 44, 45, 46] (by decide +kernel) (by decide +kernel)
set_option maxRecDepth 20000 in
theorem gX0_isPlanOver_X3_get : GoodIn wsX0_isPlanOver (wsV RX0 58 RX3 yX3_get wsX3_get) := goodIn_app (goodIn_of _ (by decide +kernel)) ggX0_isPlanOver_X3_get
set_option maxRecDepth 20000 in
theorem ggX0_isPlanOver_X0_instalmentDay : GoodIn wsX0_isPlanOver wsX0_instalmentDay := goodIn_r _ [15, 1, 3, 4, 5, 6, 7, 8, 9, 10, 37, 38, 39, 40, 41, 42, 43, 44, 45, 46] (by decide +kernel) (by decide +kernel)
set_option maxRecDepth 20000 in
theorem gX0_isPlanOver_X0_instalmentDay : GoodIn wsX0_isPlanOver (wsV RX0 107 RX0 yX0_instalmentDay wsX0_instalmentDay) := goodIn_app (goodIn_of _ (by decide +kernel)) ggX0_isPlanOver_X0_instalmentDay
set_option maxRecDepth 20000 in
theorem ggX0_isPlanOver_X0_instalmentsTogether : GoodIn wsX0_isPlanOver wsX0_instalmentsTogether := goodIn_r _ [19, 1, 20, 21, 22, 23, 3, 4, 5, 6, 7, 8, 9, 10, 37, 38, 39, 40, 41, 42, 43, 44, 45, 46] (by decide +kernel) (by decide +kernel)
set_option maxRecDepth 20000 in
theorem gX0_isPlanOver_X0_instalmentsTogether : GoodIn wsX0_isPlanOver (wsV RX0 104 RX0 yX0_instalmentsTogether wsX0_instalmentsTogether) := goodIn_app (goodIn_of _ (by decide +kernel)) ggX0_isPlanOver_X0_instalmentsTogether
set_option maxRecDepth 20000 in
theorem ggX0_isPlanOver_X0_debt : GoodIn wsX0_isPlanOver wsX0_debt := goodIn_r _ [27, 28, 29, 30, 31, 6, 32, 8, 33, 34, 35, 14, 36, 3, 4, 5, 7, 9, 10, 37, 38, 39, 40, 41, 42, 43, 44, 45, 46] (by decide +kernel) (by decide +kernel)
set_option maxRecDepth 20000 in
theorem gX0_isPlanOver_X0_debt : GoodIn wsX0_isPlanOver (wsV RX0 73 RX0 yX0_debt wsX0_debt) := goodIn_app (goodIn_of _ (by decide +kernel)) ggX0_isPlanOver_X0_debt
theorem dX0_isPlanOver_0 : decode cX0_isPlanOver 0 = .ok (.aload_n 0, 1) := by decide +kernel
theorem dX0_isPlanOver_1 : decode cX0_isPlanOver 1 = .ok (.getfield 20, 3) := by decide +kernel
theorem dX0_isPlanOver_4 : decode cX0_isPlanOver 4 = .ok (.iload_n 1, 1) := by decide +kernel
theorem dX0_isPlanOver_5 : decode cX0_isPlanOver 5 = .ok (.bipush 8, 2) := by decide +kernel
theorem dX0_isPlanOver_7 : decode cX0_isPlanOver 7 = .ok (.invokevirtual 58, 3) := by decide +kernel
theorem dX0_isPlanOver_10 : decode cX0_isPlanOver 10 = .ok (.iconst 1, 1) := by decide +kernel
theorem dX0_isPlanOver_11 : decode cX0_isPlanOver 11 = .ok (.isub, 1) := by decide +kernel
theorem dX0_isPlanOver_12 : decode cX0_isPlanOver 12 = .ok (.istore_n 2, 1) := by decide +kernel
theorem dX0_isPlanOver_13 : decode cX0_isPlanOver 13 = .ok (.iconst 0, 1) := by decide +kernel
theorem dX0_isPlanOver_14 : decode cX0_isPlanOver 14 = .ok (.istore_n 3, 1) := by decide +kernel
theorem dX0_isPlanOver_15 : decode cX0_isPlanOver 15 = .ok (.iload_n 3, 1) := by decide +kernel
theorem dX0_isPlanOver_16 : decode cX0_isPlanOver 16 = .ok (.iload_n 2, 1) := by decide +kernel
theorem dX0_isPlanOver_17 : decode cX0_isPlanOver 17 = .ok (.if_icmp .gt 62, 3) := by decide +kernel
theorem dX0_isPlanOver_20 : decode cX0_isPlanOver 20 = .ok (.aload_n 0, 1) := by decide +kernel
theorem dX0_isPlanOver_21 : decode cX0_isPlanOver 21 = .ok (.iload_n 1, 1) := by decide +kernel
theorem dX0_isPlanOver_22 : decode cX0_isPlanOver 22 = .ok (.iload_n 3, 1) := by decide +kernel
theorem dX0_isPlanOver_23 : decode cX0_isPlanOver 23 = .ok (.invokevirtual 107, 3) := by decide +kernel
theorem dX0_isPlanOver_26 : decode cX0_isPlanOver 26 = .ok (.aload_n 0, 1) := by decide +kernel
theorem dX0_isPlanOver_27 : decode cX0_isPlanOver 27 = .ok (.getfield 36, 3) := by decide +kernel
theorem dX0_isPlanOver_30 : decode cX0_isPlanOver 30 = .ok (.if_icmp .ne 43, 3) := by decide +kernel
theorem dX0_isPlanOver_33 : decode cX0_isPlanOver 33 = .ok (.aload_n 0, 1) := by decide +kernel
theorem dX0_isPlanOver_34 : decode cX0_isPlanOver 34 = .ok (.getfield 20, 3) := by decide +kernel
theorem dX0_isPlanOver_37 : decode cX0_isPlanOver 37 = .ok (.iload_n 1, 1) := by decide +kernel
theorem dX0_isPlanOver_38 : decode cX0_isPlanOver 38 = .ok (.bipush 12, 2) := by decide +kernel
theorem dX0_isPlanOver_40 : decode cX0_isPlanOver 40 = .ok (.invokevirtual 58, 3) := by decide +kernel
theorem dX0_isPlanOver_43 : decode cX0_isPlanOver 43 = .ok (.aload_n 0, 1) := by decide +kernel
theorem dX0_isPlanOver_44 : decode cX0_isPlanOver 44 = .ok (.iload_n 1, 1) := by decide +kernel
theorem dX0_isPlanOver_45 : decode cX0_isPlanOver 45 = .ok (.iload_n 3, 1) := by decide +kernel

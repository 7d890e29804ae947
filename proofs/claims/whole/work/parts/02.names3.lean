set_option maxRecDepth 20000 in
theorem gX5_now_X1_size : GoodIn wsX5_now (wsV RX5 107 RX1 yX1_size wsX1_size) := goodIn_app (goodIn_of _ (by decide +kernel)) ggX5_now_X1_size
set_option maxRecDepth 20000 in
theorem ggX5_now_X4_length : GoodIn wsX5_now wsX4_length := goodIn_r _ [49, 50, 69, 70] (by decide +kernel) (by decide +kernel)
set_option maxRecDepth 20000 in
theorem gX5_now_X4_length : GoodIn wsX5_now (wsV RX5 45 RX4 yX4_length wsX4_length) := goodIn_app (goodIn_of _ (by decide +kernel)) ggX5_now_X4_length
theorem dX5_now_0 : decode cX5_now 0 = .ok (.iload_n 1, 1) := by decide +kernel
theorem dX5_now_1 : decode cX5_now 1 = .ok (.tableswitch 159 0 10 #[59, 67, 78, 89, 100, 111, 119, 127, 135, 143, 151], 59) := by decide +kernel
theorem dX5_now_60 : decode cX5_now 60 = .ok (.aload_n 0, 1) := by decide +kernel
theorem dX5_now_61 : decode cX5_now 61 = .ok (.getfield 19, 3) := by decide +kernel
theorem dX5_now_64 : decode cX5_now 64 = .ok (.getfield 74, 3) := by decide +kernel
theorem dX5_now_67 : decode cX5_now 67 = .ok (.ireturn, 1) := by decide +kernel
theorem dX5_now_68 : decode cX5_now 68 = .ok (.aload_n 0, 1) := by decide +kernel
theorem dX5_now_69 : decode cX5_now 69 = .ok (.getfield 19, 3) := by decide +kernel
theorem dX5_now_72 : decode cX5_now 72 = .ok (.getfield 77, 3) := by decide +kernel
theorem dX5_now_75 : decode cX5_now 75 = .ok (.invokevirtual 81, 3) := by decide +kernel
theorem dX5_now_78 : decode cX5_now 78 = .ok (.ireturn, 1) := by decide +kernel
theorem dX5_now_79 : decode cX5_now 79 = .ok (.aload_n 0, 1) := by decide +kernel
theorem dX5_now_80 : decode cX5_now 80 = .ok (.getfield 19, 3) := by decide +kernel
theorem dX5_now_83 : decode cX5_now 83 = .ok (.getfield 86, 3) := by decide +kernel
theorem dX5_now_86 : decode cX5_now 86 = .ok (.invokevirtual 81, 3) := by decide +kernel
theorem dX5_now_89 : decode cX5_now 89 = .ok (.ireturn, 1) := by decide +kernel
theorem dX5_now_90 : decode cX5_now 90 = .ok (.aload_n 0, 1) := by decide +kernel
theorem dX5_now_91 : decode cX5_now 91 = .ok (.getfield 19, 3) := by decide +kernel
theorem dX5_now_94 : decode cX5_now 94 = .ok (.getfield 89, 3) := by decide +kernel
theorem dX5_now_97 : decode cX5_now 97 = .ok (.invokevirtual 81, 3) := by decide +kernel
theorem dX5_now_100 : decode cX5_now 100 = .ok (.ireturn, 1) := by decide +kernel
theorem dX5_now_101 : decode cX5_now 101 = .ok (.aload_n 0, 1) := by decide +kernel
theorem dX5_now_102 : decode cX5_now 102 = .ok (.getfield 19, 3) := by decide +kernel
theorem dX5_now_105 : decode cX5_now 105 = .ok (.getfield 92, 3) := by decide +kernel
theorem dX5_now_108 : decode cX5_now 108 = .ok (.invokevirtual 81, 3) := by decide +kernel
theorem dX5_now_111 : decode cX5_now 111 = .ok (.ireturn, 1) := by decide +kernel
theorem dX5_now_112 : decode cX5_now 112 = .ok (.aload_n 0, 1) := by decide +kernel
theorem dX5_now_113 : decode cX5_now 113 = .ok (.getfield 19, 3) := by decide +kernel
theorem dX5_now_116 : decode cX5_now 116 = .ok (.invokevirtual 95, 3) := by decide +kernel
theorem dX5_now_119 : decode cX5_now 119 = .ok (.ireturn, 1) := by decide +kernel
theorem dX5_now_120 : decode cX5_now 120 = .ok (.aload_n 0, 1) := by decide +kernel
theorem dX5_now_121 : decode cX5_now 121 = .ok (.getfield 19, 3) := by decide +kernel
theorem dX5_now_124 : decode cX5_now 124 = .ok (.invokevirtual 98, 3) := by decide +kernel
theorem dX5_now_127 : decode cX5_now 127 = .ok (.ireturn, 1) := by decide +kernel
theorem dX5_now_128 : decode cX5_now 128 = .ok (.aload_n 0, 1) := by decide +kernel
theorem dX5_now_129 : decode cX5_now 129 = .ok (.getfield 19, 3) := by decide +kernel
theorem dX5_now_132 : decode cX5_now 132 = .ok (.invokevirtual 101, 3) := by decide +kernel
theorem dX5_now_135 : decode cX5_now 135 = .ok (.ireturn, 1) := by decide +kernel
theorem dX5_now_136 : decode cX5_now 136 = .ok (.aload_n 0, 1) := by decide +kernel
theorem dX5_now_137 : decode cX5_now 137 = .ok (.getfield 19, 3) := by decide +kernel
theorem dX5_now_140 : decode cX5_now 140 = .ok (.getfield 104, 3) := by decide +kernel
theorem dX5_now_143 : decode cX5_now 143 = .ok (.ireturn, 1) := by decide +kernel
theorem dX5_now_144 : decode cX5_now 144 = .ok (.aload_n 0, 1) := by decide +kernel
theorem dX5_now_145 : decode cX5_now 145 = .ok (.getfield 29, 3) := by decide +kernel
theorem dX5_now_148 : decode cX5_now 148 = .ok (.invokevirtual 107, 3) := by decide +kernel
theorem dX5_now_151 : decode cX5_now 151 = .ok (.ireturn, 1) := by decide +kernel
theorem dX5_now_152 : decode cX5_now 152 = .ok (.aload_n 0, 1) := by decide +kernel
theorem dX5_now_153 : decode cX5_now 153 = .ok (.getfield 12, 3) := by decide +kernel
theorem dX5_now_156 : decode cX5_now 156 = .ok (.invokevirtual 45, 3) := by decide +kernel
theorem dX5_now_159 : decode cX5_now 159 = .ok (.ireturn, 1) := by decide +kernel
theorem dX5_now_160 : decode cX5_now 160 = .ok (.iconst (-1), 1) := by decide +kernel
theorem dX5_now_161 : decode cX5_now 161 = .ok (.ireturn, 1) := by decide +kernel
set_option maxRecDepth 20000 in
theorem ggX5_step_X3_get : GoodIn wsX5_step wsX3_get := goodIn_r _ [7, 8, 9, 10, 23, 24, 25] (by decide +kernel) (by decide +kernel)
set_option maxRecDepth 20000 in
theorem gX5_step_X3_get : GoodIn wsX5_step (wsV RX5 108 RX3 yX3_get wsX3_get) := goodIn_app (goodIn_of _ (by decide +kernel)) ggX5_step_X3_get
theorem dX5_step_0 : decode cX5_step 0 = .ok (.aload_n 0, 1) := by decide +kernel
theorem dX5_step_1 : decode cX5_step 1 = .ok (.getfield 19, 3) := by decide +kernel
theorem dX5_step_4 : decode cX5_step 4 = .ok (.getfield 77, 3) := by decide +kernel
theorem dX5_step_7 : decode cX5_step 7 = .ok (.iload_n 1, 1) := by decide +kernel
theorem dX5_step_8 : decode cX5_step 8 = .ok (.iload_n 2, 1) := by decide +kernel
theorem dX5_step_9 : decode cX5_step 9 = .ok (.invokevirtual 108, 3) := by decide +kernel
theorem dX5_step_12 : decode cX5_step 12 = .ok (.ireturn, 1) := by decide +kernel
set_option maxRecDepth 20000 in
theorem ggX5_debtor_X3_has : GoodIn wsX5_debtor wsX3_has := goodIn_r _ [9, 10, 68, 69, 70] (by decide +kernel) (by decide +kernel)
set_option maxRecDepth 20000 in
theorem gX5_debtor_X3_has : GoodIn wsX5_debtor (wsV RX5 112 RX3 yX3_has wsX3_has) := goodIn_app (goodIn_of _ (by decide +kernel)) ggX5_debtor_X3_has
set_option maxRecDepth 20000 in
theorem ggX5_debtor_X3_get : GoodIn wsX5_debtor wsX3_get := goodIn_r _ [14, 10, 15, 16, 68, 69, 70] (by decide +kernel) (by decide +kernel)
set_option maxRecDepth 20000 in
theorem gX5_debtor_X3_get : GoodIn wsX5_debtor (wsV RX5 108 RX3 yX3_get wsX3_get) := goodIn_app (goodIn_of _ (by decide +kernel)) ggX5_debtor_X3_get
set_option maxRecDepth 20000 in
theorem ggX5_debtor_X0_owes : GoodIn wsX5_debtor wsX0_owes := goodIn_r _ [21, 22, 23, 24, 25, 8, 26, 10, 27, 12, 13, 14, 15, 16, 61, 62, 63, 64, 65, 66, 67, 68, 69, 70] (by decide +kernel) (by decide +kernel)
set_option maxRecDepth 20000 in
theorem gX5_debtor_X0_owes : GoodIn wsX5_debtor (wsV RX5 122 RX0 yX0_owes wsX0_owes) := goodIn_app (goodIn_of _ (by decide +kernel)) ggX5_debtor_X0_owes
set_option maxRecDepth 20000 in
theorem ggX5_debtor_X0_debt : GoodIn wsX5_debtor wsX0_debt := goodIn_r _ [31, 22, 23, 24, 25, 8, 26, 10, 32, 33, 34, 20, 35, 27, 12, 13, 14, 15, 16, 61, 62, 63, 64, 65, 66, 67, 68, 69, 70] (by decide +kernel) (by decide +kernel)
set_option maxRecDepth 20000 in
theorem gX5_debtor_X0_debt : GoodIn wsX5_debtor (wsV RX5 126 RX0 yX0_debt wsX0_debt) := goodIn_app (goodIn_of _ (by decide +kernel)) ggX5_debtor_X0_debt
set_option maxRecDepth 20000 in
theorem ggX5_debtor_X0_greatestAge : GoodIn wsX5_debtor wsX0_greatestAge := goodIn_r _ [39, 22, 40, 41, 42, 43, 23, 24, 25, 8, 26, 10, 32, 33, 34, 20, 35, 27, 12, 13, 14, 15, 16, 61, 62, 63, 64, 65, 66, 67, 68, 69, 70] (by decide +kernel) (by decide +kernel)
set_option maxRecDepth 20000 in
theorem gX5_debtor_X0_greatestAge : GoodIn wsX5_debtor (wsV RX5 129 RX0 yX0_greatestAge wsX0_greatestAge) := goodIn_app (goodIn_of _ (by decide +kernel)) ggX5_debtor_X0_greatestAge
set_option maxRecDepth 20000 in
theorem ggX5_debtor_X0_isAtCourt : GoodIn wsX5_debtor wsX0_isAtCourt := goodIn_r _ [47, 48, 49, 23, 24, 25, 8, 26, 10, 27, 12, 13, 14, 15, 16, 61, 62, 63, 64, 65, 66, 67, 68, 69, 70] (by decide +kernel) (by decide +kernel)
set_option maxRecDepth 20000 in
theorem gX5_debtor_X0_isAtCourt : GoodIn wsX5_debtor (wsV RX5 132 RX0 yX0_isAtCourt wsX0_isAtCourt) := goodIn_app (goodIn_of _ (by decide +kernel)) ggX5_debtor_X0_isAtCourt
set_option maxRecDepth 20000 in
theorem ggX5_debtor_X0_risk : GoodIn wsX5_debtor wsX0_risk := goodIn_r _ [53, 49, 54, 55, 18, 19, 20, 21, 22, 23, 24, 25, 8, 26, 10, 27, 12, 13, 14, 15, 16, 61, 62, 63, 64, 65, 66, 67, 68, 69, 70] (by decide +kernel) (by decide +kernel)
set_option maxRecDepth 20000 in
theorem gX5_debtor_X0_risk : GoodIn wsX5_debtor (wsV RX5 135 RX0 yX0_risk wsX0_risk) := goodIn_app (goodIn_of _ (by decide +kernel)) ggX5_debtor_X0_risk
theorem dX5_debtor_0 : decode cX5_debtor 0 = .ok (.aload_n 0, 1) := by decide +kernel
theorem dX5_debtor_1 : decode cX5_debtor 1 = .ok (.getfield 19, 3) := by decide +kernel
theorem dX5_debtor_4 : decode cX5_debtor 4 = .ok (.getfield 86, 3) := by decide +kernel
theorem dX5_debtor_7 : decode cX5_debtor 7 = .ok (.iload_n 1, 1) := by decide +kernel
theorem dX5_debtor_8 : decode cX5_debtor 8 = .ok (.invokevirtual 112, 3) := by decide +kernel
theorem dX5_debtor_11 : decode cX5_debtor 11 = .ok (.ifCond .ne 13, 3) := by decide +kernel
theorem dX5_debtor_14 : decode cX5_debtor 14 = .ok (.new 115, 3) := by decide +kernel
theorem dX5_debtor_17 : decode cX5_debtor 17 = .ok (.dup, 1) := by decide +kernel
theorem dX5_debtor_18 : decode cX5_debtor 18 = .ok (.ldc 117, 2) := by decide +kernel
theorem dX5_debtor_20 : decode cX5_debtor 20 = .ok (.invokespecial 119, 3) := by decide +kernel
theorem dX5_debtor_23 : decode cX5_debtor 23 = .ok (.athrow, 1) := by decide +kernel
theorem dX5_debtor_24 : decode cX5_debtor 24 = .ok (.iload_n 2, 1) := by decide +kernel
theorem dX5_debtor_25 : decode cX5_debtor 25 = .ok (.tableswitch 190 0 10 #[59, 72, 85, 94, 103, 116, 129, 142, 151, 164, 181], 59) := by decide +kernel
theorem dX5_debtor_84 : decode cX5_debtor 84 = .ok (.aload_n 0, 1) := by decide +kernel
theorem dX5_debtor_85 : decode cX5_debtor 85 = .ok (.getfield 19, 3) := by decide +kernel
theorem dX5_debtor_88 : decode cX5_debtor 88 = .ok (.getfield 86, 3) := by decide +kernel
theorem dX5_debtor_91 : decode cX5_debtor 91 = .ok (.iload_n 1, 1) := by decide +kernel
theorem dX5_debtor_92 : decode cX5_debtor 92 = .ok (.iconst 0, 1) := by decide +kernel
theorem dX5_debtor_93 : decode cX5_debtor 93 = .ok (.invokevirtual 108, 3) := by decide +kernel
theorem dX5_debtor_96 : decode cX5_debtor 96 = .ok (.ireturn, 1) := by decide +kernel
theorem dX5_debtor_97 : decode cX5_debtor 97 = .ok (.aload_n 0, 1) := by decide +kernel
theorem dX5_debtor_98 : decode cX5_debtor 98 = .ok (.getfield 19, 3) := by decide +kernel
theorem dX5_debtor_101 : decode cX5_debtor 101 = .ok (.getfield 86, 3) := by decide +kernel
theorem dX5_debtor_104 : decode cX5_debtor 104 = .ok (.iload_n 1, 1) := by decide +kernel
theorem dX5_debtor_105 : decode cX5_debtor 105 = .ok (.iconst 1, 1) := by decide +kernel
theorem dX5_debtor_106 : decode cX5_debtor 106 = .ok (.invokevirtual 108, 3) := by decide +kernel
theorem dX5_debtor_109 : decode cX5_debtor 109 = .ok (.ireturn, 1) := by decide +kernel
theorem dX5_debtor_110 : decode cX5_debtor 110 = .ok (.aload_n 0, 1) := by decide +kernel
theorem dX5_debtor_111 : decode cX5_debtor 111 = .ok (.getfield 19, 3) := by decide +kernel
theorem dX5_debtor_114 : decode cX5_debtor 114 = .ok (.iload_n 1, 1) := by decide +kernel
theorem dX5_debtor_115 : decode cX5_debtor 115 = .ok (.invokevirtual 122, 3) := by decide +kernel
theorem dX5_debtor_118 : decode cX5_debtor 118 = .ok (.ireturn, 1) := by decide +kernel
theorem dX5_debtor_119 : decode cX5_debtor 119 = .ok (.aload_n 0, 1) := by decide +kernel
theorem dX5_debtor_120 : decode cX5_debtor 120 = .ok (.getfield 19, 3) := by decide +kernel
theorem dX5_debtor_123 : decode cX5_debtor 123 = .ok (.iload_n 1, 1) := by decide +kernel
theorem dX5_debtor_124 : decode cX5_debtor 124 = .ok (.invokevirtual 126, 3) := by decide +kernel
theorem dX5_debtor_127 : decode cX5_debtor 127 = .ok (.ireturn, 1) := by decide +kernel
theorem dX5_debtor_128 : decode cX5_debtor 128 = .ok (.aload_n 0, 1) := by decide +kernel
theorem dX5_debtor_129 : decode cX5_debtor 129 = .ok (.getfield 19, 3) := by decide +kernel
theorem dX5_debtor_132 : decode cX5_debtor 132 = .ok (.getfield 86, 3) := by decide +kernel
theorem dX5_debtor_135 : decode cX5_debtor 135 = .ok (.iload_n 1, 1) := by decide +kernel
theorem dX5_debtor_136 : decode cX5_debtor 136 = .ok (.iconst 2, 1) := by decide +kernel
theorem dX5_debtor_137 : decode cX5_debtor 137 = .ok (.invokevirtual 108, 3) := by decide +kernel
theorem dX5_debtor_140 : decode cX5_debtor 140 = .ok (.ireturn, 1) := by decide +kernel
theorem dX5_debtor_141 : decode cX5_debtor 141 = .ok (.aload_n 0, 1) := by decide +kernel
theorem dX5_debtor_142 : decode cX5_debtor 142 = .ok (.getfield 19, 3) := by decide +kernel
theorem dX5_debtor_145 : decode cX5_debtor 145 = .ok (.getfield 86, 3) := by decide +kernel
theorem dX5_debtor_148 : decode cX5_debtor 148 = .ok (.iload_n 1, 1) := by decide +kernel
theorem dX5_debtor_149 : decode cX5_debtor 149 = .ok (.iconst 3, 1) := by decide +kernel
theorem dX5_debtor_150 : decode cX5_debtor 150 = .ok (.invokevirtual 108, 3) := by decide +kernel
theorem dX5_debtor_153 : decode cX5_debtor 153 = .ok (.ireturn, 1) := by decide +kernel
theorem dX5_debtor_154 : decode cX5_debtor 154 = .ok (.aload_n 0, 1) := by decide +kernel
theorem dX5_debtor_155 : decode cX5_debtor 155 = .ok (.getfield 19, 3) := by decide +kernel
theorem dX5_debtor_158 : decode cX5_debtor 158 = .ok (.getfield 86, 3) := by decide +kernel
theorem dX5_debtor_161 : decode cX5_debtor 161 = .ok (.iload_n 1, 1) := by decide +kernel
theorem dX5_debtor_162 : decode cX5_debtor 162 = .ok (.iconst 4, 1) := by decide +kernel
theorem dX5_debtor_163 : decode cX5_debtor 163 = .ok (.invokevirtual 108, 3) := by decide +kernel
theorem dX5_debtor_166 : decode cX5_debtor 166 = .ok (.ireturn, 1) := by decide +kernel
theorem dX5_debtor_167 : decode cX5_debtor 167 = .ok (.aload_n 0, 1) := by decide +kernel
theorem dX5_debtor_168 : decode cX5_debtor 168 = .ok (.getfield 19, 3) := by decide +kernel
theorem dX5_debtor_171 : decode cX5_debtor 171 = .ok (.iload_n 1, 1) := by decide +kernel
theorem dX5_debtor_172 : decode cX5_debtor 172 = .ok (.invokevirtual 129, 3) := by decide +kernel
theorem dX5_debtor_175 : decode cX5_debtor 175 = .ok (.ireturn, 1) := by decide +kernel
theorem dX5_debtor_176 : decode cX5_debtor 176 = .ok (.aload_n 0, 1) := by decide +kernel
theorem dX5_debtor_177 : decode cX5_debtor 177 = .ok (.getfield 19, 3) := by decide +kernel
theorem dX5_debtor_180 : decode cX5_debtor 180 = .ok (.getfield 86, 3) := by decide +kernel
theorem dX5_debtor_183 : decode cX5_debtor 183 = .ok (.iload_n 1, 1) := by decide +kernel
theorem dX5_debtor_184 : decode cX5_debtor 184 = .ok (.iconst 5, 1) := by decide +kernel
theorem dX5_debtor_185 : decode cX5_debtor 185 = .ok (.invokevirtual 108, 3) := by decide +kernel
theorem dX5_debtor_188 : decode cX5_debtor 188 = .ok (.ireturn, 1) := by decide +kernel
theorem dX5_debtor_189 : decode cX5_debtor 189 = .ok (.aload_n 0, 1) := by decide +kernel
theorem dX5_debtor_190 : decode cX5_debtor 190 = .ok (.getfield 19, 3) := by decide +kernel
theorem dX5_debtor_193 : decode cX5_debtor 193 = .ok (.iload_n 1, 1) := by decide +kernel
theorem dX5_debtor_194 : decode cX5_debtor 194 = .ok (.invokevirtual 132, 3) := by decide +kernel
theorem dX5_debtor_197 : decode cX5_debtor 197 = .ok (.ifCond .eq 7, 3) := by decide +kernel
theorem dX5_debtor_200 : decode cX5_debtor 200 = .ok (.iconst 1, 1) := by decide +kernel
theorem dX5_debtor_201 : decode cX5_debtor 201 = .ok (.goto 4, 3) := by decide +kernel
theorem dX5_debtor_204 : decode cX5_debtor 204 = .ok (.iconst 0, 1) := by decide +kernel
theorem dX5_debtor_205 : decode cX5_debtor 205 = .ok (.ireturn, 1) := by decide +kernel
theorem dX5_debtor_206 : decode cX5_debtor 206 = .ok (.aload_n 0, 1) := by decide +kernel
theorem dX5_debtor_207 : decode cX5_debtor 207 = .ok (.getfield 19, 3) := by decide +kernel
theorem dX5_debtor_210 : decode cX5_debtor 210 = .ok (.iload_n 1, 1) := by decide +kernel
theorem dX5_debtor_211 : decode cX5_debtor 211 = .ok (.invokevirtual 135, 3) := by decide +kernel
theorem dX5_debtor_214 : decode cX5_debtor 214 = .ok (.ireturn, 1) := by decide +kernel
theorem dX5_debtor_215 : decode cX5_debtor 215 = .ok (.new 115, 3) := by decide +kernel
theorem dX5_debtor_218 : decode cX5_debtor 218 = .ok (.dup, 1) := by decide +kernel
theorem dX5_debtor_219 : decode cX5_debtor 219 = .ok (.ldc 138, 2) := by decide +kernel
theorem dX5_debtor_221 : decode cX5_debtor 221 = .ok (.invokespecial 119, 3) := by decide +kernel
theorem dX5_debtor_224 : decode cX5_debtor 224 = .ok (.athrow, 1) := by decide +kernel
set_option maxRecDepth 20000 in
theorem ggX5_invoice_X3_get : GoodIn wsX5_invoice wsX3_get := goodIn_r _ [7, 8, 9, 10, 23, 24, 25] (by decide +kernel) (by decide +kernel)
set_option maxRecDepth 20000 in
theorem gX5_invoice_X3_get : GoodIn wsX5_invoice (wsV RX5 108 RX3 yX3_get wsX3_get) := goodIn_app (goodIn_of _ (by decide +kernel)) ggX5_invoice_X3_get
theorem dX5_invoice_0 : decode cX5_invoice 0 = .ok (.aload_n 0, 1) := by decide +kernel
theorem dX5_invoice_1 : decode cX5_invoice 1 = .ok (.getfield 19, 3) := by decide +kernel
theorem dX5_invoice_4 : decode cX5_invoice 4 = .ok (.getfield 89, 3) := by decide +kernel
theorem dX5_invoice_7 : decode cX5_invoice 7 = .ok (.iload_n 1, 1) := by decide +kernel
theorem dX5_invoice_8 : decode cX5_invoice 8 = .ok (.iload_n 2, 1) := by decide +kernel
theorem dX5_invoice_9 : decode cX5_invoice 9 = .ok (.invokevirtual 108, 3) := by decide +kernel
theorem dX5_invoice_12 : decode cX5_invoice 12 = .ok (.ireturn, 1) := by decide +kernel
set_option maxRecDepth 20000 in
theorem ggX5_promised_X3_has : GoodIn wsX5_promised wsX3_has := goodIn_r _ [7, 8, 34, 35, 36] (by decide +kernel) (by decide +kernel)
set_option maxRecDepth 20000 in
theorem gX5_promised_X3_has : GoodIn wsX5_promised (wsV RX5 112 RX3 yX3_has wsX3_has) := goodIn_app (goodIn_of _ (by decide +kernel)) ggX5_promised_X3_has
set_option maxRecDepth 20000 in
theorem ggX5_promised_X0_hasPromise : GoodIn wsX5_promised wsX0_hasPromise := goodIn_r _ [13, 14, 15, 16, 17, 6, 18, 8, 19, 20, 27, 28, 29, 30, 31, 32, 33, 34, 35, 36] (by decide +kernel) (by decide +kernel)
set_option maxRecDepth 20000 in
theorem gX5_promised_X0_hasPromise : GoodIn wsX5_promised (wsV RX5 140 RX0 yX0_hasPromise wsX0_hasPromise) := goodIn_app (goodIn_of _ (by decide +kernel)) ggX5_promised_X0_hasPromise
set_option maxRecDepth 20000 in
theorem ggX5_promised_X3_get : GoodIn wsX5_promised wsX3_get := goodIn_r _ [18, 8, 19, 20, 34, 35, 36] (by decide +kernel) (by decide +kernel)
set_option maxRecDepth 20000 in
theorem gX5_promised_X3_get : GoodIn wsX5_promised (wsV RX5 108 RX3 yX3_get wsX3_get) := goodIn_app (goodIn_of _ (by decide +kernel)) ggX5_promised_X3_get
theorem dX5_promised_0 : decode cX5_promised 0 = .ok (.aload_n 0, 1) := by decide +kernel
theorem dX5_promised_1 : decode cX5_promised 1 = .ok (.getfield 19, 3) := by decide +kernel
theorem dX5_promised_4 : decode cX5_promised 4 = .ok (.getfield 86, 3) := by decide +kernel
theorem dX5_promised_7 : decode cX5_promised 7 = .ok (.iload_n 1, 1) := by decide +kernel
theorem dX5_promised_8 : decode cX5_promised 8 = .ok (.invokevirtual 112, 3) := by decide +kernel
theorem dX5_promised_11 : decode cX5_promised 11 = .ok (.ifCond .eq 14, 3) := by decide +kernel
theorem dX5_promised_14 : decode cX5_promised 14 = .ok (.aload_n 0, 1) := by decide +kernel
theorem dX5_promised_15 : decode cX5_promised 15 = .ok (.getfield 19, 3) := by decide +kernel
theorem dX5_promised_18 : decode cX5_promised 18 = .ok (.iload_n 1, 1) := by decide +kernel
theorem dX5_promised_19 : decode cX5_promised 19 = .ok (.invokevirtual 140, 3) := by decide +kernel
theorem dX5_promised_22 : decode cX5_promised 22 = .ok (.ifCond .ne 5, 3) := by decide +kernel
theorem dX5_promised_25 : decode cX5_promised 25 = .ok (.iconst (-1), 1) := by decide +kernel
theorem dX5_promised_26 : decode cX5_promised 26 = .ok (.ireturn, 1) := by decide +kernel
theorem dX5_promised_27 : decode cX5_promised 27 = .ok (.iload_n 2, 1) := by decide +kernel
theorem dX5_promised_28 : decode cX5_promised 28 = .ok (.tableswitch 70 0 2 #[28, 42, 56], 28) := by decide +kernel
theorem dX5_promised_56 : decode cX5_promised 56 = .ok (.aload_n 0, 1) := by decide +kernel
theorem dX5_promised_57 : decode cX5_promised 57 = .ok (.getfield 19, 3) := by decide +kernel
theorem dX5_promised_60 : decode cX5_promised 60 = .ok (.getfield 86, 3) := by decide +kernel
theorem dX5_promised_63 : decode cX5_promised 63 = .ok (.iload_n 1, 1) := by decide +kernel
theorem dX5_promised_64 : decode cX5_promised 64 = .ok (.bipush 6, 2) := by decide +kernel
theorem dX5_promised_66 : decode cX5_promised 66 = .ok (.invokevirtual 108, 3) := by decide +kernel
theorem dX5_promised_69 : decode cX5_promised 69 = .ok (.ireturn, 1) := by decide +kernel
theorem dX5_promised_70 : decode cX5_promised 70 = .ok (.aload_n 0, 1) := by decide +kernel
theorem dX5_promised_71 : decode cX5_promised 71 = .ok (.getfield 19, 3) := by decide +kernel
theorem dX5_promised_74 : decode cX5_promised 74 = .ok (.getfield 86, 3) := by decide +kernel
theorem dX5_promised_77 : decode cX5_promised 77 = .ok (.iload_n 1, 1) := by decide +kernel
theorem dX5_promised_78 : decode cX5_promised 78 = .ok (.bipush 7, 2) := by decide +kernel
theorem dX5_promised_80 : decode cX5_promised 80 = .ok (.invokevirtual 108, 3) := by decide +kernel
theorem dX5_promised_83 : decode cX5_promised 83 = .ok (.ireturn, 1) := by decide +kernel
theorem dX5_promised_84 : decode cX5_promised 84 = .ok (.aload_n 0, 1) := by decide +kernel
theorem dX5_promised_85 : decode cX5_promised 85 = .ok (.getfield 19, 3) := by decide +kernel
theorem dX5_promised_88 : decode cX5_promised 88 = .ok (.getfield 86, 3) := by decide +kernel
theorem dX5_promised_91 : decode cX5_promised 91 = .ok (.iload_n 1, 1) := by decide +kernel
theorem dX5_promised_92 : decode cX5_promised 92 = .ok (.bipush 12, 2) := by decide +kernel
theorem dX5_promised_94 : decode cX5_promised 94 = .ok (.invokevirtual 108, 3) := by decide +kernel
theorem dX5_promised_97 : decode cX5_promised 97 = .ok (.ireturn, 1) := by decide +kernel
theorem dX5_promised_98 : decode cX5_promised 98 = .ok (.iconst (-1), 1) := by decide +kernel
theorem dX5_promised_99 : decode cX5_promised 99 = .ok (.ireturn, 1) := by decide +kernel
set_option maxRecDepth 20000 in
theorem ggX5_planned_X3_has : GoodIn wsX5_planned wsX3_has := goodIn_r _ [7, 8, 56, 57, 58] (by decide +kernel) (by decide +kernel)
set_option maxRecDepth 20000 in
theorem gX5_planned_X3_has : GoodIn wsX5_planned (wsV RX5 112 RX3 yX3_has wsX3_has) := goodIn_app (goodIn_of _ (by decide +kernel)) ggX5_planned_X3_has
set_option maxRecDepth 20000 in
theorem ggX5_planned_X0_hasPlan : GoodIn wsX5_planned wsX0_hasPlan := goodIn_r _ [13, 14, 15, 16, 17, 6, 18, 8, 19, 20, 49, 50, 51, 52, 53, 54, 55, 56, 57, 58] (by decide +kernel) (by decide +kernel)
set_option maxRecDepth 20000 in
theorem gX5_planned_X0_hasPlan : GoodIn wsX5_planned (wsV RX5 143 RX0 yX0_hasPlan wsX0_hasPlan) := goodIn_app (goodIn_of _ (by decide +kernel)) ggX5_planned_X0_hasPlan
set_option maxRecDepth 20000 in
theorem ggX5_planned_X3_get : GoodIn wsX5_planned wsX3_get := goodIn_r _ [18, 8, 19, 20, 56, 57, 58] (by decide +kernel) (by decide +kernel)
set_option maxRecDepth 20000 in
theorem gX5_planned_X3_get : GoodIn wsX5_planned (wsV RX5 108 RX3 yX3_get wsX3_get) := goodIn_app (goodIn_of _ (by decide +kernel)) ggX5_planned_X3_get
set_option maxRecDepth 20000 in
theorem ggX5_planned_X0_instalment : GoodIn wsX5_planned wsX0_instalment := goodIn_r _ [25, 26, 27, 28, 12, 29, 14, 30, 31, 32, 33, 15, 16, 17, 6, 18, 8, 19, 20, 49, 50, 51, 52, 53, 54, 55, 56, 57, 58] (by decide +kernel) (by decide +kernel)
set_option maxRecDepth 20000 in
theorem gX5_planned_X0_instalment : GoodIn wsX5_planned (wsV RX5 146 RX0 yX0_instalment wsX0_instalment) := goodIn_app (goodIn_of _ (by decide +kernel)) ggX5_planned_X0_instalment
set_option maxRecDepth 20000 in
theorem ggX5_planned_X0_instalmentDay : GoodIn wsX5_planned wsX0_instalmentDay := goodIn_r _ [37, 14, 15, 16, 17, 6, 18, 8, 19, 20, 49, 50, 51, 52, 53, 54, 55, 56, 57, 58] (by decide +kernel) (by decide +kernel)
set_option maxRecDepth 20000 in
theorem gX5_planned_X0_instalmentDay : GoodIn wsX5_planned (wsV RX5 149 RX0 yX0_instalmentDay wsX0_instalmentDay) := goodIn_app (goodIn_of _ (by decide +kernel)) ggX5_planned_X0_instalmentDay
set_option maxRecDepth 20000 in
theorem ggX5_planned_X0_nextInstalmentDay : GoodIn wsX5_planned wsX0_nextInstalmentDay := goodIn_r _ [41, 14, 42, 15, 16, 17, 6, 18, 8, 19, 20, 43, 35, 36, 12, 37, 49, 50, 51, 52, 53, 54, 55, 56, 57, 58] (by decide +kernel) (by decide +kernel)
set_option maxRecDepth 20000 in
theorem gX5_planned_X0_nextInstalmentDay : GoodIn wsX5_planned (wsV RX5 152 RX0 yX0_nextInstalmentDay wsX0_nextInstalmentDay) := goodIn_app (goodIn_of _ (by decide +kernel)) ggX5_planned_X0_nextInstalmentDay
theorem dX5_planned_0 : decode cX5_planned 0 = .ok (.aload_n 0, 1) := by decide +kernel
theorem dX5_planned_1 : decode cX5_planned 1 = .ok (.getfield 19, 3) := by decide +kernel
theorem dX5_planned_4 : decode cX5_planned 4 = .ok (.getfield 86, 3) := by decide +kernel
theorem dX5_planned_7 : decode cX5_planned 7 = .ok (.iload_n 1, 1) := by decide +kernel
theorem dX5_planned_8 : decode cX5_planned 8 = .ok (.invokevirtual 112, 3) := by decide +kernel
theorem dX5_planned_11 : decode cX5_planned 11 = .ok (.ifCond .eq 14, 3) := by decide +kernel
theorem dX5_planned_14 : decode cX5_planned 14 = .ok (.aload_n 0, 1) := by decide +kernel
theorem dX5_planned_15 : decode cX5_planned 15 = .ok (.getfield 19, 3) := by decide +kernel
theorem dX5_planned_18 : decode cX5_planned 18 = .ok (.iload_n 1, 1) := by decide +kernel
theorem dX5_planned_19 : decode cX5_planned 19 = .ok (.invokevirtual 143, 3) := by decide +kernel
theorem dX5_planned_22 : decode cX5_planned 22 = .ok (.ifCond .ne 5, 3) := by decide +kernel
theorem dX5_planned_25 : decode cX5_planned 25 = .ok (.iconst (-1), 1) := by decide +kernel
theorem dX5_planned_26 : decode cX5_planned 26 = .ok (.ireturn, 1) := by decide +kernel
theorem dX5_planned_27 : decode cX5_planned 27 = .ok (.aload_n 0, 1) := by decide +kernel
theorem dX5_planned_28 : decode cX5_planned 28 = .ok (.getfield 19, 3) := by decide +kernel
theorem dX5_planned_31 : decode cX5_planned 31 = .ok (.getfield 86, 3) := by decide +kernel
theorem dX5_planned_34 : decode cX5_planned 34 = .ok (.iload_n 1, 1) := by decide +kernel
theorem dX5_planned_35 : decode cX5_planned 35 = .ok (.bipush 8, 2) := by decide +kernel
theorem dX5_planned_37 : decode cX5_planned 37 = .ok (.invokevirtual 108, 3) := by decide +kernel
theorem dX5_planned_40 : decode cX5_planned 40 = .ok (.istore_n 3, 1) := by decide +kernel
theorem dX5_planned_41 : decode cX5_planned 41 = .ok (.iload_n 2, 1) := by decide +kernel
theorem dX5_planned_42 : decode cX5_planned 42 = .ok (.bipush 10, 2) := by decide +kernel
theorem dX5_planned_44 : decode cX5_planned 44 = .ok (.if_icmp .lt 24, 3) := by decide +kernel
theorem dX5_planned_47 : decode cX5_planned 47 = .ok (.iload_n 2, 1) := by decide +kernel
theorem dX5_planned_48 : decode cX5_planned 48 = .ok (.bipush 10, 2) := by decide +kernel
theorem dX5_planned_50 : decode cX5_planned 50 = .ok (.iload_n 3, 1) := by decide +kernel
theorem dX5_planned_51 : decode cX5_planned 51 = .ok (.iadd, 1) := by decide +kernel
theorem dX5_planned_52 : decode cX5_planned 52 = .ok (.if_icmp .ge 16, 3) := by decide +kernel
theorem dX5_planned_55 : decode cX5_planned 55 = .ok (.aload_n 0, 1) := by decide +kernel
theorem dX5_planned_56 : decode cX5_planned 56 = .ok (.getfield 19, 3) := by decide +kernel
theorem dX5_planned_59 : decode cX5_planned 59 = .ok (.iload_n 1, 1) := by decide +kernel
theorem dX5_planned_60 : decode cX5_planned 60 = .ok (.iload_n 2, 1) := by decide +kernel
theorem dX5_planned_61 : decode cX5_planned 61 = .ok (.bipush 10, 2) := by decide +kernel
theorem dX5_planned_63 : decode cX5_planned 63 = .ok (.isub, 1) := by decide +kernel
theorem dX5_planned_64 : decode cX5_planned 64 = .ok (.invokevirtual 146, 3) := by decide +kernel
theorem dX5_planned_67 : decode cX5_planned 67 = .ok (.ireturn, 1) := by decide +kernel
theorem dX5_planned_68 : decode cX5_planned 68 = .ok (.iload_n 2, 1) := by decide +kernel
theorem dX5_planned_69 : decode cX5_planned 69 = .ok (.bipush 30, 2) := by decide +kernel
theorem dX5_planned_71 : decode cX5_planned 71 = .ok (.if_icmp .lt 24, 3) := by decide +kernel
theorem dX5_planned_74 : decode cX5_planned 74 = .ok (.iload_n 2, 1) := by decide +kernel
theorem dX5_planned_75 : decode cX5_planned 75 = .ok (.bipush 30, 2) := by decide +kernel
theorem dX5_planned_77 : decode cX5_planned 77 = .ok (.iload_n 3, 1) := by decide +kernel
theorem dX5_planned_78 : decode cX5_planned 78 = .ok (.iadd, 1) := by decide +kernel
theorem dX5_planned_79 : decode cX5_planned 79 = .ok (.if_icmp .ge 16, 3) := by decide +kernel
theorem dX5_planned_82 : decode cX5_planned 82 = .ok (.aload_n 0, 1) := by decide +kernel
theorem dX5_planned_83 : decode cX5_planned 83 = .ok (.getfield 19, 3) := by decide +kernel
theorem dX5_planned_86 : decode cX5_planned 86 = .ok (.iload_n 1, 1) := by decide +kernel
theorem dX5_planned_87 : decode cX5_planned 87 = .ok (.iload_n 2, 1) := by decide +kernel
theorem dX5_planned_88 : decode cX5_planned 88 = .ok (.bipush 30, 2) := by decide +kernel
theorem dX5_planned_90 : decode cX5_planned 90 = .ok (.isub, 1) := by decide +kernel
theorem dX5_planned_91 : decode cX5_planned 91 = .ok (.invokevirtual 149, 3) := by decide +kernel
theorem dX5_planned_94 : decode cX5_planned 94 = .ok (.ireturn, 1) := by decide +kernel
theorem dX5_planned_95 : decode cX5_planned 95 = .ok (.iload_n 2, 1) := by decide +kernel
theorem dX5_planned_96 : decode cX5_planned 96 = .ok (.tableswitch 53 0 2 #[28, 30, 44], 28) := by decide +kernel
theorem dX5_planned_124 : decode cX5_planned 124 = .ok (.iload_n 3, 1) := by decide +kernel
theorem dX5_planned_125 : decode cX5_planned 125 = .ok (.ireturn, 1) := by decide +kernel
theorem dX5_planned_126 : decode cX5_planned 126 = .ok (.aload_n 0, 1) := by decide +kernel
theorem dX5_planned_127 : decode cX5_planned 127 = .ok (.getfield 19, 3) := by decide +kernel
theorem dX5_planned_130 : decode cX5_planned 130 = .ok (.getfield 86, 3) := by decide +kernel
theorem dX5_planned_133 : decode cX5_planned 133 = .ok (.iload_n 1, 1) := by decide +kernel
theorem dX5_planned_134 : decode cX5_planned 134 = .ok (.bipush 12, 2) := by decide +kernel
theorem dX5_planned_136 : decode cX5_planned 136 = .ok (.invokevirtual 108, 3) := by decide +kernel
theorem dX5_planned_139 : decode cX5_planned 139 = .ok (.ireturn, 1) := by decide +kernel
theorem dX5_planned_140 : decode cX5_planned 140 = .ok (.aload_n 0, 1) := by decide +kernel
theorem dX5_planned_141 : decode cX5_planned 141 = .ok (.getfield 19, 3) := by decide +kernel
theorem dX5_planned_144 : decode cX5_planned 144 = .ok (.iload_n 1, 1) := by decide +kernel
theorem dX5_planned_145 : decode cX5_planned 145 = .ok (.invokevirtual 152, 3) := by decide +kernel
theorem dX5_planned_148 : decode cX5_planned 148 = .ok (.ireturn, 1) := by decide +kernel
theorem dX5_planned_149 : decode cX5_planned 149 = .ok (.iconst (-1), 1) := by decide +kernel
theorem dX5_planned_150 : decode cX5_planned 150 = .ok (.ireturn, 1) := by decide +kernel
set_option maxRecDepth 20000 in
theorem ggX5_order_X3_get : GoodIn wsX5_order wsX3_get := goodIn_r _ [7, 8, 9, 10, 23, 24, 25] (by decide +kernel) (by decide +kernel)
set_option maxRecDepth 20000 in
theorem gX5_order_X3_get : GoodIn wsX5_order (wsV RX5 108 RX3 yX3_get wsX3_get) := goodIn_app (goodIn_of _ (by decide +kernel)) ggX5_order_X3_get
theorem dX5_order_0 : decode cX5_order 0 = .ok (.aload_n 0, 1) := by decide +kernel
theorem dX5_order_1 : decode cX5_order 1 = .ok (.getfield 19, 3) := by decide +kernel
theorem dX5_order_4 : decode cX5_order 4 = .ok (.getfield 92, 3) := by decide +kernel
theorem dX5_order_7 : decode cX5_order 7 = .ok (.iload_n 1, 1) := by decide +kernel
theorem dX5_order_8 : decode cX5_order 8 = .ok (.iload_n 2, 1) := by decide +kernel
theorem dX5_order_9 : decode cX5_order 9 = .ok (.invokevirtual 108, 3) := by decide +kernel
theorem dX5_order_12 : decode cX5_order 12 = .ok (.ireturn, 1) := by decide +kernel
set_option maxRecDepth 20000 in
theorem ggX5_aged_X3_has : GoodIn wsX5_aged wsX3_has := goodIn_r _ [8, 9, 42, 43, 44] (by decide +kernel) (by decide +kernel)
set_option maxRecDepth 20000 in
theorem gX5_aged_X3_has : GoodIn wsX5_aged (wsV RX5 112 RX3 yX3_has wsX3_has) := goodIn_app (goodIn_of _ (by decide +kernel)) ggX5_aged_X3_has
set_option maxRecDepth 20000 in
theorem ggX5_aged_X0_openInBracket : GoodIn wsX5_aged wsX0_openInBracket := goodIn_r _ [14, 15, 16, 17, 18, 7, 19, 9, 20, 21, 22, 23, 24, 25, 26, 27, 28, 13, 29, 35, 36, 37, 38, 39, 40, 41, 42, 43, 44] (by decide +kernel) (by decide +kernel)
set_option maxRecDepth 20000 in
theorem gX5_aged_X0_openInBracket : GoodIn wsX5_aged (wsV RX5 156 RX0 yX0_openInBracket wsX0_openInBracket) := goodIn_app (goodIn_of _ (by decide +kernel)) ggX5_aged_X0_openInBracket
theorem dX5_aged_0 : decode cX5_aged 0 = .ok (.iload_n 1, 1) := by decide +kernel
theorem dX5_aged_1 : decode cX5_aged 1 = .ok (.iconst (-1), 1) := by decide +kernel
theorem dX5_aged_2 : decode cX5_aged 2 = .ok (.if_icmp .eq 17, 3) := by decide +kernel
theorem dX5_aged_5 : decode cX5_aged 5 = .ok (.aload_n 0, 1) := by decide +kernel
theorem dX5_aged_6 : decode cX5_aged 6 = .ok (.getfield 19, 3) := by decide +kernel
theorem dX5_aged_9 : decode cX5_aged 9 = .ok (.getfield 86, 3) := by decide +kernel
theorem dX5_aged_12 : decode cX5_aged 12 = .ok (.iload_n 1, 1) := by decide +kernel
theorem dX5_aged_13 : decode cX5_aged 13 = .ok (.invokevirtual 112, 3) := by decide +kernel
theorem dX5_aged_16 : decode cX5_aged 16 = .ok (.ifCond .eq 7, 3) := by decide +kernel
theorem dX5_aged_19 : decode cX5_aged 19 = .ok (.iconst 1, 1) := by decide +kernel
theorem dX5_aged_20 : decode cX5_aged 20 = .ok (.goto 4, 3) := by decide +kernel
theorem dX5_aged_23 : decode cX5_aged 23 = .ok (.iconst 0, 1) := by decide +kernel
theorem dX5_aged_24 : decode cX5_aged 24 = .ok (.istore_n 3, 1) := by decide +kernel
theorem dX5_aged_25 : decode cX5_aged 25 = .ok (.iload_n 3, 1) := by decide +kernel
theorem dX5_aged_26 : decode cX5_aged 26 = .ok (.ifCond .eq 12, 3) := by decide +kernel
theorem dX5_aged_29 : decode cX5_aged 29 = .ok (.iload_n 2, 1) := by decide +kernel
theorem dX5_aged_30 : decode cX5_aged 30 = .ok (.ifCond .lt 8, 3) := by decide +kernel
theorem dX5_aged_33 : decode cX5_aged 33 = .ok (.iload_n 2, 1) := by decide +kernel
theorem dX5_aged_34 : decode cX5_aged 34 = .ok (.iconst 4, 1) := by decide +kernel
theorem dX5_aged_35 : decode cX5_aged 35 = .ok (.if_icmp .le 6, 3) := by decide +kernel
theorem dX5_aged_38 : decode cX5_aged 38 = .ok (.ldc 155, 2) := by decide +kernel
theorem dX5_aged_40 : decode cX5_aged 40 = .ok (.ireturn, 1) := by decide +kernel
theorem dX5_aged_41 : decode cX5_aged 41 = .ok (.aload_n 0, 1) := by decide +kernel
theorem dX5_aged_42 : decode cX5_aged 42 = .ok (.getfield 19, 3) := by decide +kernel
theorem dX5_aged_45 : decode cX5_aged 45 = .ok (.iload_n 1, 1) := by decide +kernel
theorem dX5_aged_46 : decode cX5_aged 46 = .ok (.iload_n 2, 1) := by decide +kernel
theorem dX5_aged_47 : decode cX5_aged 47 = .ok (.invokevirtual 156, 3) := by decide +kernel
theorem dX5_aged_50 : decode cX5_aged 50 = .ok (.ireturn, 1) := by decide +kernel
set_option maxRecDepth 20000 in
theorem ggX5_next_X3_has : GoodIn wsX5_next wsX3_has := goodIn_r _ [8, 9, 153, 154, 155] (by decide +kernel) (by decide +kernel)
set_option maxRecDepth 20000 in
theorem gX5_next_X3_has : GoodIn wsX5_next (wsV RX5 112 RX3 yX3_has wsX3_has) := goodIn_app (goodIn_of _ (by decide +kernel)) ggX5_next_X3_has
set_option maxRecDepth 20000 in
theorem ggX5_next_X0_copyFrom : GoodIn wsX5_next wsX0_copyFrom := goodIn_r _ [14, 15, 16, 17, 18, 19, 20, 21, 22, 23, 24, 7, 25, 9, 26, 27, 28, 29, 30, 31, 32, 33, 34, 35, 36, 37, 38, 146, 147, 148, 149, 150, 151, 152, 153, 154, 155] (by decide +kernel) (by decide +kernel)
set_option maxRecDepth 20000 in
theorem gX5_next_X0_copyFrom : GoodIn wsX5_next (wsV RX5 67 RX0 yX0_copyFrom wsX0_copyFrom) := goodIn_app (goodIn_of _ (by decide +kernel)) ggX5_next_X0_copyFrom
set_option maxRecDepth 20000 in
theorem ggX5_next_X0_endDayOf : GoodIn wsX5_next wsX0_endDayOf := goodIn_r _ [42, 20, 43, 44, 45, 13, 46, 17, 47, 48, 49, 7, 50, 9, 51, 52, 53, 54, 26, 27, 55, 56, 57, 58, 59, 60, 61, 62, 63, 64, 65, 66, 16, 67, 68, 69, 70, 71, 72, 73, 74, 75, 76, 77, 78, 79, 80, 81, 82, 83, 84, 85, 86, 87, 88, 89, 90, 91, 92, 93, 94, 95, 96, 97, 29, 30, 31, 98, 99, 100, 101, 102, 103, 104, 105, 15, 106, 107, 108, 109, 110, 33, 34, 111, 112, 113, 114, 115, 116, 117, 118, 119, 5, 6, 8, 120, 121, 122, 123, 124, 125, 126, 127, 128, 129, 130, 131, 132, 133, 134, 135, 136, 137, 138, 139, 140, 146, 147, 148, 149, 150, 151, 152, 153, 154, 155] (by decide +kernel) (by decide +kernel)
set_option maxRecDepth 20000 in
theorem gX5_next_X0_endDayOf : GoodIn wsX5_next (wsV RX5 159 RX0 yX0_endDayOf wsX0_endDayOf) := goodIn_app (goodIn_of _ (by decide +kernel)) ggX5_next_X0_endDayOf
theorem dX5_next_0 : decode cX5_next 0 = .ok (.aload_n 0, 1) := by decide +kernel
theorem dX5_next_1 : decode cX5_next 1 = .ok (.getfield 19, 3) := by decide +kernel
theorem dX5_next_4 : decode cX5_next 4 = .ok (.getfield 86, 3) := by decide +kernel
theorem dX5_next_7 : decode cX5_next 7 = .ok (.iload_n 1, 1) := by decide +kernel
theorem dX5_next_8 : decode cX5_next 8 = .ok (.invokevirtual 112, 3) := by decide +kernel
theorem dX5_next_11 : decode cX5_next 11 = .ok (.ifCond .ne 5, 3) := by decide +kernel
theorem dX5_next_14 : decode cX5_next 14 = .ok (.iconst (-1), 1) := by decide +kernel
theorem dX5_next_15 : decode cX5_next 15 = .ok (.ireturn, 1) := by decide +kernel
theorem dX5_next_16 : decode cX5_next 16 = .ok (.aload_n 0, 1) := by decide +kernel
theorem dX5_next_17 : decode cX5_next 17 = .ok (.getfield 23, 3) := by decide +kernel
theorem dX5_next_20 : decode cX5_next 20 = .ok (.aload_n 0, 1) := by decide +kernel
theorem dX5_next_21 : decode cX5_next 21 = .ok (.getfield 19, 3) := by decide +kernel
theorem dX5_next_24 : decode cX5_next 24 = .ok (.invokevirtual 67, 3) := by decide +kernel
theorem dX5_next_27 : decode cX5_next 27 = .ok (.iconst 1, 1) := by decide +kernel
theorem dX5_next_28 : decode cX5_next 28 = .ok (.istore_n 2, 1) := by decide +kernel
theorem dX5_next_29 : decode cX5_next 29 = .ok (.iload_n 2, 1) := by decide +kernel
theorem dX5_next_30 : decode cX5_next 30 = .ok (.sipush 200, 3) := by decide +kernel
theorem dX5_next_33 : decode cX5_next 33 = .ok (.if_icmp .gt 22, 3) := by decide +kernel
theorem dX5_next_36 : decode cX5_next 36 = .ok (.aload_n 0, 1) := by decide +kernel
theorem dX5_next_37 : decode cX5_next 37 = .ok (.getfield 23, 3) := by decide +kernel
theorem dX5_next_40 : decode cX5_next 40 = .ok (.iload_n 1, 1) := by decide +kernel
theorem dX5_next_41 : decode cX5_next 41 = .ok (.invokevirtual 159, 3) := by decide +kernel
theorem dX5_next_44 : decode cX5_next 44 = .ok (.ifCond .eq 5, 3) := by decide +kernel
theorem dX5_next_47 : decode cX5_next 47 = .ok (.iload_n 2, 1) := by decide +kernel
theorem dX5_next_48 : decode cX5_next 48 = .ok (.ireturn, 1) := by decide +kernel
theorem dX5_next_49 : decode cX5_next 49 = .ok (.iinc 2 1, 3) := by decide +kernel
theorem dX5_next_52 : decode cX5_next 52 = .ok (.goto (-23), 3) := by decide +kernel
theorem dX5_next_55 : decode cX5_next 55 = .ok (.bipush (-2), 2) := by decide +kernel
theorem dX5_next_57 : decode cX5_next 57 = .ok (.ireturn, 1) := by decide +kernel
set_option maxRecDepth 20000 in
theorem ggX5_would_X5_mayPay : GoodIn wsX5_would wsX5_mayPay := goodIn_r _ [7, 2, 8, 9, 10, 11, 12, 13, 14, 15, 96, 97, 98, 99, 100, 101, 102, 103, 104, 105, 106, 107, 108, 109, 110] (by decide +kernel) (by decide +kernel)
set_option maxRecDepth 20000 in
theorem gX5_would_X5_mayPay : GoodIn wsX5_would (wsV RX5 162 RX5 yX5_mayPay wsX5_mayPay) := goodIn_app (goodIn_of _ (by decide +kernel)) ggX5_would_X5_mayPay
set_option maxRecDepth 20000 in
theorem ggX5_would_X0_copyFrom : GoodIn wsX5_would wsX0_copyFrom := goodIn_r _ [20, 21, 22, 23, 24, 25, 26, 27, 28, 29, 30, 13, 31, 15, 32, 33, 34, 35, 36, 37, 38, 39, 40, 41, 42, 43, 44, 101, 102, 103, 104, 105, 106, 107, 108, 109, 110] (by decide +kernel) (by decide +kernel)
set_option maxRecDepth 20000 in
theorem gX5_would_X0_copyFrom : GoodIn wsX5_would (wsV RX5 67 RX0 yX0_copyFrom wsX0_copyFrom) := goodIn_app (goodIn_of _ (by decide +kernel)) ggX5_would_X0_copyFrom
set_option maxRecDepth 20000 in
theorem ggX5_would_X0_receive : GoodIn wsX5_would wsX0_receive := goodIn_r _ [48, 27, 22, 49, 50, 51, 13, 52, 53, 54, 55, 56, 15, 32, 33, 57, 58, 59, 60, 61, 62, 63, 19, 64, 23, 65, 35, 36, 37, 66, 67, 68, 69, 70, 71, 72, 73, 74, 75, 76, 77, 78, 79, 80, 81, 82, 24, 83, 84, 85, 86, 25, 87, 88, 89, 90, 91, 92, 93, 94, 95, 101, 102, 103, 104, 105, 106, 107, 108, 109, 110] (by decide +kernel) (by decide +kernel)
set_option maxRecDepth 20000 in
theorem gX5_would_X0_receive : GoodIn wsX5_would (wsV RX5 166 RX0 yX0_receive wsX0_receive) := goodIn_app (goodIn_of _ (by decide +kernel)) ggX5_would_X0_receive
theorem dX5_would_0 : decode cX5_would 0 = .ok (.aload_n 0, 1) := by decide +kernel
theorem dX5_would_1 : decode cX5_would 1 = .ok (.iload_n 1, 1) := by decide +kernel
theorem dX5_would_2 : decode cX5_would 2 = .ok (.iload_n 2, 1) := by decide +kernel
theorem dX5_would_3 : decode cX5_would 3 = .ok (.invokevirtual 162, 3) := by decide +kernel
theorem dX5_would_6 : decode cX5_would 6 = .ok (.ifCond .ne 5, 3) := by decide +kernel
theorem dX5_would_9 : decode cX5_would 9 = .ok (.iconst (-1), 1) := by decide +kernel
theorem dX5_would_10 : decode cX5_would 10 = .ok (.ireturn, 1) := by decide +kernel
theorem dX5_would_11 : decode cX5_would 11 = .ok (.aload_n 0, 1) := by decide +kernel
theorem dX5_would_12 : decode cX5_would 12 = .ok (.getfield 23, 3) := by decide +kernel
theorem dX5_would_15 : decode cX5_would 15 = .ok (.aload_n 0, 1) := by decide +kernel
theorem dX5_would_16 : decode cX5_would 16 = .ok (.getfield 19, 3) := by decide +kernel
theorem dX5_would_19 : decode cX5_would 19 = .ok (.invokevirtual 67, 3) := by decide +kernel
theorem dX5_would_22 : decode cX5_would 22 = .ok (.aload_n 0, 1) := by decide +kernel
theorem dX5_would_23 : decode cX5_would 23 = .ok (.getfield 23, 3) := by decide +kernel
theorem dX5_would_26 : decode cX5_would 26 = .ok (.iload_n 1, 1) := by decide +kernel
theorem dX5_would_27 : decode cX5_would 27 = .ok (.iload_n 2, 1) := by decide +kernel
theorem dX5_would_28 : decode cX5_would 28 = .ok (.invokevirtual 166, 3) := by decide +kernel
theorem dX5_would_31 : decode cX5_would 31 = .ok (.ireturn, 1) := by decide +kernel
set_option maxRecDepth 20000 in
theorem ggX5_bill_X3_has : GoodIn wsX5_bill wsX3_has := goodIn_r _ [10, 11, 110, 111, 112] (by decide +kernel) (by decide +kernel)
set_option maxRecDepth 20000 in
theorem gX5_bill_X3_has : GoodIn wsX5_bill (wsV RX5 112 RX3 yX3_has wsX3_has) := goodIn_app (goodIn_of _ (by decide +kernel)) ggX5_bill_X3_has
set_option maxRecDepth 20000 in
theorem ggX5_bill_X5_isSum : GoodIn wsX5_bill wsX5_isSum := goodIn_r _ [15] (by decide +kernel) (by decide +kernel)
set_option maxRecDepth 20000 in
theorem gX5_bill_X5_isSum : GoodIn wsX5_bill (va_wsS RX5 169 yX5_isSum wsX5_isSum) := goodIn_app (goodIn_of _ (by decide +kernel)) ggX5_bill_X5_isSum
set_option maxRecDepth 20000 in
theorem ggX5_bill_X3_isFull : GoodIn wsX5_bill wsX3_isFull := goodIn_r _ [19, 11, 20, 21, 110, 111, 112] (by decide +kernel) (by decide +kernel)
set_option maxRecDepth 20000 in
theorem gX5_bill_X3_isFull : GoodIn wsX5_bill (wsV RX5 172 RX3 yX3_isFull wsX3_isFull) := goodIn_app (goodIn_of _ (by decide +kernel)) ggX5_bill_X3_isFull
set_option maxRecDepth 20000 in
theorem ggX5_bill_X1_keep : GoodIn wsX5_bill wsX1_keep := goodIn_r _ [26, 27, 28, 29, 30, 31, 32, 33, 34, 35, 36, 37, 38, 39, 40, 41, 42, 43, 44, 45, 46, 47, 48, 9, 49, 11, 20, 21, 50, 51, 52, 53, 54, 55, 56, 57, 113, 114, 115, 103, 104, 105, 106, 107, 108, 109, 110, 111, 112] (by decide +kernel) (by decide +kernel)
set_option maxRecDepth 20000 in
theorem gX5_bill_X1_keep : GoodIn wsX5_bill (wsV RX5 175 RX1 yX1_keep wsX1_keep) := goodIn_app (goodIn_of _ (by decide +kernel)) ggX5_bill_X1_keep
set_option maxRecDepth 20000 in
theorem ggX5_bill_X0_addInvoice : GoodIn wsX5_bill wsX0_addInvoice := goodIn_r _ [61, 41, 62, 63, 64, 9, 65, 11, 20, 66, 17, 18, 19, 21, 67, 68, 69, 70, 71, 103, 104, 105, 106, 107, 108, 109, 110, 111, 112] (by decide +kernel) (by decide +kernel)
set_option maxRecDepth 20000 in
theorem gX5_bill_X0_addInvoice : GoodIn wsX5_bill (wsV RX5 178 RX0 yX0_addInvoice wsX0_addInvoice) := goodIn_app (goodIn_of _ (by decide +kernel)) ggX5_bill_X0_addInvoice
set_option maxRecDepth 20000 in
theorem ggX5_bill_X0_placeCash : GoodIn wsX5_bill wsX0_placeCash := goodIn_r _ [75, 40, 41, 76, 31, 32, 33, 77, 78, 79, 9, 80, 11, 20, 21, 81, 82, 83, 37, 84, 85, 86, 87, 88, 89, 90, 91, 92, 93, 94, 95, 96, 97, 67, 68, 69, 70, 103, 104, 105, 106, 107, 108, 109, 110, 111, 112] (by decide +kernel) (by decide +kernel)
set_option maxRecDepth 20000 in
theorem gX5_bill_X0_placeCash : GoodIn wsX5_bill (wsV RX5 182 RX0 yX0_placeCash wsX0_placeCash) := goodIn_app (goodIn_of _ (by decide +kernel)) ggX5_bill_X0_placeCash
theorem dX5_bill_0 : decode cX5_bill 0 = .ok (.aload_n 0, 1) := by decide +kernel
theorem dX5_bill_1 : decode cX5_bill 1 = .ok (.getfield 19, 3) := by decide +kernel
theorem dX5_bill_4 : decode cX5_bill 4 = .ok (.getfield 86, 3) := by decide +kernel
theorem dX5_bill_7 : decode cX5_bill 7 = .ok (.iload_n 1, 1) := by decide +kernel
theorem dX5_bill_8 : decode cX5_bill 8 = .ok (.invokevirtual 112, 3) := by decide +kernel
theorem dX5_bill_11 : decode cX5_bill 11 = .ok (.ifCond .eq 20, 3) := by decide +kernel
theorem dX5_bill_14 : decode cX5_bill 14 = .ok (.iload_n 2, 1) := by decide +kernel
theorem dX5_bill_15 : decode cX5_bill 15 = .ok (.invokestatic 169, 3) := by decide +kernel
theorem dX5_bill_18 : decode cX5_bill 18 = .ok (.ifCond .eq 13, 3) := by decide +kernel
theorem dX5_bill_21 : decode cX5_bill 21 = .ok (.iload_n 3, 1) := by decide +kernel
theorem dX5_bill_22 : decode cX5_bill 22 = .ok (.ifCond .lt 9, 3) := by decide +kernel
theorem dX5_bill_25 : decode cX5_bill 25 = .ok (.iload_n 3, 1) := by decide +kernel
theorem dX5_bill_26 : decode cX5_bill 26 = .ok (.bipush 99, 2) := by decide +kernel
theorem dX5_bill_28 : decode cX5_bill 28 = .ok (.if_icmp .le 5, 3) := by decide +kernel
theorem dX5_bill_31 : decode cX5_bill 31 = .ok (.iconst (-1), 1) := by decide +kernel
theorem dX5_bill_32 : decode cX5_bill 32 = .ok (.ireturn, 1) := by decide +kernel
theorem dX5_bill_33 : decode cX5_bill 33 = .ok (.aload_n 0, 1) := by decide +kernel
theorem dX5_bill_34 : decode cX5_bill 34 = .ok (.getfield 19, 3) := by decide +kernel
theorem dX5_bill_37 : decode cX5_bill 37 = .ok (.getfield 89, 3) := by decide +kernel
theorem dX5_bill_40 : decode cX5_bill 40 = .ok (.invokevirtual 172, 3) := by decide +kernel
theorem dX5_bill_43 : decode cX5_bill 43 = .ok (.ifCond .eq 6, 3) := by decide +kernel
theorem dX5_bill_46 : decode cX5_bill 46 = .ok (.bipush (-2), 2) := by decide +kernel
theorem dX5_bill_48 : decode cX5_bill 48 = .ok (.ireturn, 1) := by decide +kernel
theorem dX5_bill_49 : decode cX5_bill 49 = .ok (.aload_n 0, 1) := by decide +kernel
theorem dX5_bill_50 : decode cX5_bill 50 = .ok (.getfield 29, 3) := by decide +kernel
theorem dX5_bill_53 : decode cX5_bill 53 = .ok (.aload_n 0, 1) := by decide +kernel
theorem dX5_bill_54 : decode cX5_bill 54 = .ok (.getfield 19, 3) := by decide +kernel
theorem dX5_bill_57 : decode cX5_bill 57 = .ok (.invokevirtual 175, 3) := by decide +kernel
theorem dX5_bill_60 : decode cX5_bill 60 = .ok (.aload_n 0, 1) := by decide +kernel
theorem dX5_bill_61 : decode cX5_bill 61 = .ok (.getfield 19, 3) := by decide +kernel
theorem dX5_bill_64 : decode cX5_bill 64 = .ok (.iload_n 1, 1) := by decide +kernel
theorem dX5_bill_65 : decode cX5_bill 65 = .ok (.iload_n 2, 1) := by decide +kernel
theorem dX5_bill_66 : decode cX5_bill 66 = .ok (.aload_n 0, 1) := by decide +kernel
theorem dX5_bill_67 : decode cX5_bill 67 = .ok (.getfield 19, 3) := by decide +kernel
theorem dX5_bill_70 : decode cX5_bill 70 = .ok (.getfield 74, 3) := by decide +kernel
theorem dX5_bill_73 : decode cX5_bill 73 = .ok (.iload_n 3, 1) := by decide +kernel
theorem dX5_bill_74 : decode cX5_bill 74 = .ok (.iadd, 1) := by decide +kernel
theorem dX5_bill_75 : decode cX5_bill 75 = .ok (.iconst 0, 1) := by decide +kernel
theorem dX5_bill_76 : decode cX5_bill 76 = .ok (.invokevirtual 178, 3) := by decide +kernel
theorem dX5_bill_79 : decode cX5_bill 79 = .ok (.istore 4, 2) := by decide +kernel
theorem dX5_bill_81 : decode cX5_bill 81 = .ok (.aload_n 0, 1) := by decide +kernel
theorem dX5_bill_82 : decode cX5_bill 82 = .ok (.getfield 19, 3) := by decide +kernel
theorem dX5_bill_85 : decode cX5_bill 85 = .ok (.iload_n 1, 1) := by decide +kernel
theorem dX5_bill_86 : decode cX5_bill 86 = .ok (.invokevirtual 182, 3) := by decide +kernel
theorem dX5_bill_89 : decode cX5_bill 89 = .ok (.iload 4, 2) := by decide +kernel
theorem dX5_bill_91 : decode cX5_bill 91 = .ok (.ireturn, 1) := by decide +kernel
set_option maxRecDepth 20000 in
theorem ggX5_pay_X5_mayPay : GoodIn wsX5_pay wsX5_mayPay := goodIn_r _ [8, 2, 3, 9, 10, 11, 12, 13, 14, 15, 106, 107, 108, 109, 110, 111, 112, 113, 114, 115, 116, 117, 118, 119, 120] (by decide +kernel) (by decide +kernel)
set_option maxRecDepth 20000 in
theorem gX5_pay_X5_mayPay : GoodIn wsX5_pay (wsV RX5 162 RX5 yX5_mayPay wsX5_mayPay) := goodIn_app (goodIn_of _ (by decide +kernel)) ggX5_pay_X5_mayPay
set_option maxRecDepth 20000 in
theorem ggX5_pay_X1_keep : GoodIn wsX5_pay wsX1_keep := goodIn_r _ [20, 21, 22, 23, 24, 25, 26, 27, 28, 29, 30, 31, 32, 33, 34, 35, 36, 37, 38, 39, 40, 41, 42, 13, 43, 15, 44, 45, 46, 47, 48, 49, 50, 51, 52, 53, 121, 122, 123, 111, 112, 113, 114, 115, 116, 117, 118, 119, 120] (by decide +kernel) (by decide +kernel)
set_option maxRecDepth 20000 in
theorem gX5_pay_X1_keep : GoodIn wsX5_pay (wsV RX5 175 RX1 yX1_keep wsX1_keep) := goodIn_app (goodIn_of _ (by decide +kernel)) ggX5_pay_X1_keep
set_option maxRecDepth 20000 in
theorem ggX5_pay_X0_receive : GoodIn wsX5_pay wsX0_receive := goodIn_r _ [57, 39, 34, 58, 59, 60, 13, 61, 62, 63, 64, 65, 15, 44, 45, 66, 67, 68, 69, 70, 71, 72, 31, 73, 35, 74, 25, 26, 27, 75, 76, 77, 78, 79, 80, 81, 82, 83, 84, 85, 86, 87, 88, 89, 90, 91, 36, 92, 93, 94, 95, 37, 96, 97, 98, 99, 100, 101, 102, 103, 104, 111, 112, 113, 114, 115, 116, 117, 118, 119, 120] (by decide +kernel) (by decide +kernel)
set_option maxRecDepth 20000 in
theorem gX5_pay_X0_receive : GoodIn wsX5_pay (wsV RX5 166 RX0 yX0_receive wsX0_receive) := goodIn_app (goodIn_of _ (by decide +kernel)) ggX5_pay_X0_receive
set_option maxRecDepth 20000 in
theorem ggX5_pay_X3_get : GoodIn wsX5_pay wsX3_get := goodIn_r _ [65, 15, 44, 45, 118, 119, 120] (by decide +kernel) (by decide +kernel)
set_option maxRecDepth 20000 in
theorem gX5_pay_X3_get : GoodIn wsX5_pay (wsV RX5 108 RX3 yX3_get wsX3_get) := goodIn_app (goodIn_of _ (by decide +kernel)) ggX5_pay_X3_get
theorem dX5_pay_0 : decode cX5_pay 0 = .ok (.aload_n 0, 1) := by decide +kernel
theorem dX5_pay_1 : decode cX5_pay 1 = .ok (.iload_n 1, 1) := by decide +kernel
theorem dX5_pay_2 : decode cX5_pay 2 = .ok (.iload_n 2, 1) := by decide +kernel
theorem dX5_pay_3 : decode cX5_pay 3 = .ok (.invokevirtual 162, 3) := by decide +kernel
theorem dX5_pay_6 : decode cX5_pay 6 = .ok (.ifCond .ne 5, 3) := by decide +kernel
theorem dX5_pay_9 : decode cX5_pay 9 = .ok (.iconst (-1), 1) := by decide +kernel
theorem dX5_pay_10 : decode cX5_pay 10 = .ok (.ireturn, 1) := by decide +kernel
theorem dX5_pay_11 : decode cX5_pay 11 = .ok (.aload_n 0, 1) := by decide +kernel
theorem dX5_pay_12 : decode cX5_pay 12 = .ok (.getfield 29, 3) := by decide +kernel
theorem dX5_pay_15 : decode cX5_pay 15 = .ok (.aload_n 0, 1) := by decide +kernel
theorem dX5_pay_16 : decode cX5_pay 16 = .ok (.getfield 19, 3) := by decide +kernel
theorem dX5_pay_19 : decode cX5_pay 19 = .ok (.invokevirtual 175, 3) := by decide +kernel
theorem dX5_pay_22 : decode cX5_pay 22 = .ok (.aload_n 0, 1) := by decide +kernel
theorem dX5_pay_23 : decode cX5_pay 23 = .ok (.getfield 19, 3) := by decide +kernel
theorem dX5_pay_26 : decode cX5_pay 26 = .ok (.iload_n 1, 1) := by decide +kernel
theorem dX5_pay_27 : decode cX5_pay 27 = .ok (.iload_n 2, 1) := by decide +kernel
theorem dX5_pay_28 : decode cX5_pay 28 = .ok (.invokevirtual 166, 3) := by decide +kernel
theorem dX5_pay_31 : decode cX5_pay 31 = .ok (.pop, 1) := by decide +kernel
theorem dX5_pay_32 : decode cX5_pay 32 = .ok (.aload_n 0, 1) := by decide +kernel
theorem dX5_pay_33 : decode cX5_pay 33 = .ok (.getfield 19, 3) := by decide +kernel
theorem dX5_pay_36 : decode cX5_pay 36 = .ok (.getfield 86, 3) := by decide +kernel
theorem dX5_pay_39 : decode cX5_pay 39 = .ok (.iload_n 1, 1) := by decide +kernel
theorem dX5_pay_40 : decode cX5_pay 40 = .ok (.iconst 2, 1) := by decide +kernel
theorem dX5_pay_41 : decode cX5_pay 41 = .ok (.invokevirtual 108, 3) := by decide +kernel
theorem dX5_pay_44 : decode cX5_pay 44 = .ok (.ireturn, 1) := by decide +kernel
set_option maxRecDepth 20000 in
theorem ggX5_dispute_X3_has : GoodIn wsX5_dispute wsX3_has := goodIn_r _ [8, 9, 73, 74, 75] (by decide +kernel) (by decide +kernel)
set_option maxRecDepth 20000 in
theorem gX5_dispute_X3_has : GoodIn wsX5_dispute (wsV RX5 112 RX3 yX3_has wsX3_has) := goodIn_app (goodIn_of _ (by decide +kernel)) ggX5_dispute_X3_has
set_option maxRecDepth 20000 in
theorem ggX5_dispute_X3_get : GoodIn wsX5_dispute wsX3_get := goodIn_r _ [13, 9, 14, 15, 73, 74, 75] (by decide +kernel) (by decide +kernel)
set_option maxRecDepth 20000 in
theorem gX5_dispute_X3_get : GoodIn wsX5_dispute (wsV RX5 108 RX3 yX3_get wsX3_get) := goodIn_app (goodIn_of _ (by decide +kernel)) ggX5_dispute_X3_get
set_option maxRecDepth 20000 in
theorem ggX5_dispute_X0_hasPlan : GoodIn wsX5_dispute wsX0_hasPlan := goodIn_r _ [20, 21, 22, 11, 12, 7, 13, 9, 14, 15, 66, 67, 68, 69, 70, 71, 72, 73, 74, 75] (by decide +kernel) (by decide +kernel)
set_option maxRecDepth 20000 in
theorem gX5_dispute_X0_hasPlan : GoodIn wsX5_dispute (wsV RX5 143 RX0 yX0_hasPlan wsX0_hasPlan) := goodIn_app (goodIn_of _ (by decide +kernel)) ggX5_dispute_X0_hasPlan
set_option maxRecDepth 20000 in
theorem ggX5_dispute_X1_keep : GoodIn wsX5_dispute wsX1_keep := goodIn_r _ [27, 28, 29, 30, 31, 32, 33, 34, 35, 36, 37, 19, 38, 39, 21, 40, 41, 42, 43, 44, 45, 46, 47, 7, 48, 9, 14, 15, 49, 50, 51, 52, 53, 54, 55, 56, 76, 77, 78, 66, 67, 68, 69, 70, 71, 72, 73, 74, 75] (by decide +kernel) (by decide +kernel)
set_option maxRecDepth 20000 in
theorem gX5_dispute_X1_keep : GoodIn wsX5_dispute (wsV RX5 175 RX1 yX1_keep wsX1_keep) := goodIn_app (goodIn_of _ (by decide +kernel)) ggX5_dispute_X1_keep
set_option maxRecDepth 20000 in
theorem ggX5_dispute_X3_set : GoodIn wsX5_dispute wsX3_set := goodIn_r _ [60, 9, 14, 15, 73, 74, 75] (by decide +kernel) (by decide +kernel)
set_option maxRecDepth 20000 in
theorem gX5_dispute_X3_set : GoodIn wsX5_dispute (wsV RX5 185 RX3 yX3_set wsX3_set) := goodIn_app (goodIn_of _ (by decide +kernel)) ggX5_dispute_X3_set
theorem dX5_dispute_0 : decode cX5_dispute 0 = .ok (.aload_n 0, 1) := by decide +kernel
theorem dX5_dispute_1 : decode cX5_dispute 1 = .ok (.getfield 19, 3) := by decide +kernel
theorem dX5_dispute_4 : decode cX5_dispute 4 = .ok (.getfield 89, 3) := by decide +kernel
theorem dX5_dispute_7 : decode cX5_dispute 7 = .ok (.iload_n 1, 1) := by decide +kernel
theorem dX5_dispute_8 : decode cX5_dispute 8 = .ok (.invokevirtual 112, 3) := by decide +kernel
theorem dX5_dispute_11 : decode cX5_dispute 11 = .ok (.ifCond .eq 56, 3) := by decide +kernel
theorem dX5_dispute_14 : decode cX5_dispute 14 = .ok (.aload_n 0, 1) := by decide +kernel
theorem dX5_dispute_15 : decode cX5_dispute 15 = .ok (.getfield 19, 3) := by decide +kernel
theorem dX5_dispute_18 : decode cX5_dispute 18 = .ok (.getfield 89, 3) := by decide +kernel
theorem dX5_dispute_21 : decode cX5_dispute 21 = .ok (.iload_n 1, 1) := by decide +kernel
theorem dX5_dispute_22 : decode cX5_dispute 22 = .ok (.iconst 2, 1) := by decide +kernel
theorem dX5_dispute_23 : decode cX5_dispute 23 = .ok (.invokevirtual 108, 3) := by decide +kernel
theorem dX5_dispute_26 : decode cX5_dispute 26 = .ok (.ifCond .eq 41, 3) := by decide +kernel
theorem dX5_dispute_29 : decode cX5_dispute 29 = .ok (.aload_n 0, 1) := by decide +kernel
theorem dX5_dispute_30 : decode cX5_dispute 30 = .ok (.getfield 19, 3) := by decide +kernel
theorem dX5_dispute_33 : decode cX5_dispute 33 = .ok (.getfield 89, 3) := by decide +kernel
theorem dX5_dispute_36 : decode cX5_dispute 36 = .ok (.iload_n 1, 1) := by decide +kernel
theorem dX5_dispute_37 : decode cX5_dispute 37 = .ok (.iconst 5, 1) := by decide +kernel
theorem dX5_dispute_38 : decode cX5_dispute 38 = .ok (.invokevirtual 108, 3) := by decide +kernel
theorem dX5_dispute_41 : decode cX5_dispute 41 = .ok (.iconst 1, 1) := by decide +kernel
theorem dX5_dispute_42 : decode cX5_dispute 42 = .ok (.if_icmp .eq 25, 3) := by decide +kernel
theorem dX5_dispute_45 : decode cX5_dispute 45 = .ok (.aload_n 0, 1) := by decide +kernel
theorem dX5_dispute_46 : decode cX5_dispute 46 = .ok (.getfield 19, 3) := by decide +kernel
theorem dX5_dispute_49 : decode cX5_dispute 49 = .ok (.aload_n 0, 1) := by decide +kernel
theorem dX5_dispute_50 : decode cX5_dispute 50 = .ok (.getfield 19, 3) := by decide +kernel
theorem dX5_dispute_53 : decode cX5_dispute 53 = .ok (.getfield 89, 3) := by decide +kernel
theorem dX5_dispute_56 : decode cX5_dispute 56 = .ok (.iload_n 1, 1) := by decide +kernel
theorem dX5_dispute_57 : decode cX5_dispute 57 = .ok (.iconst 0, 1) := by decide +kernel
theorem dX5_dispute_58 : decode cX5_dispute 58 = .ok (.invokevirtual 108, 3) := by decide +kernel
theorem dX5_dispute_61 : decode cX5_dispute 61 = .ok (.invokevirtual 143, 3) := by decide +kernel
theorem dX5_dispute_64 : decode cX5_dispute 64 = .ok (.ifCond .eq 5, 3) := by decide +kernel
theorem dX5_dispute_67 : decode cX5_dispute 67 = .ok (.iconst 0, 1) := by decide +kernel
theorem dX5_dispute_68 : decode cX5_dispute 68 = .ok (.ireturn, 1) := by decide +kernel
theorem dX5_dispute_69 : decode cX5_dispute 69 = .ok (.aload_n 0, 1) := by decide +kernel
theorem dX5_dispute_70 : decode cX5_dispute 70 = .ok (.getfield 29, 3) := by decide +kernel
theorem dX5_dispute_73 : decode cX5_dispute 73 = .ok (.aload_n 0, 1) := by decide +kernel
theorem dX5_dispute_74 : decode cX5_dispute 74 = .ok (.getfield 19, 3) := by decide +kernel
theorem dX5_dispute_77 : decode cX5_dispute 77 = .ok (.invokevirtual 175, 3) := by decide +kernel
theorem dX5_dispute_80 : decode cX5_dispute 80 = .ok (.aload_n 0, 1) := by decide +kernel
theorem dX5_dispute_81 : decode cX5_dispute 81 = .ok (.getfield 19, 3) := by decide +kernel
theorem dX5_dispute_84 : decode cX5_dispute 84 = .ok (.getfield 89, 3) := by decide +kernel
theorem dX5_dispute_87 : decode cX5_dispute 87 = .ok (.iload_n 1, 1) := by decide +kernel
theorem dX5_dispute_88 : decode cX5_dispute 88 = .ok (.iconst 5, 1) := by decide +kernel
theorem dX5_dispute_89 : decode cX5_dispute 89 = .ok (.iconst 1, 1) := by decide +kernel
theorem dX5_dispute_90 : decode cX5_dispute 90 = .ok (.invokevirtual 185, 3) := by decide +kernel
theorem dX5_dispute_93 : decode cX5_dispute 93 = .ok (.iconst 1, 1) := by decide +kernel
theorem dX5_dispute_94 : decode cX5_dispute 94 = .ok (.ireturn, 1) := by decide +kernel
set_option maxRecDepth 20000 in
theorem ggX5_settle_X3_has : GoodIn wsX5_settle wsX3_has := goodIn_r _ [8, 9, 112, 113, 114] (by decide +kernel) (by decide +kernel)
set_option maxRecDepth 20000 in
theorem gX5_settle_X3_has : GoodIn wsX5_settle (wsV RX5 112 RX3 yX3_has wsX3_has) := goodIn_app (goodIn_of _ (by decide +kernel)) ggX5_settle_X3_has
set_option maxRecDepth 20000 in
theorem ggX5_settle_X3_get : GoodIn wsX5_settle wsX3_get := goodIn_r _ [13, 9, 14, 15, 112, 113, 114] (by decide +kernel) (by decide +kernel)
set_option maxRecDepth 20000 in
theorem gX5_settle_X3_get : GoodIn wsX5_settle (wsV RX5 108 RX3 yX3_get wsX3_get) := goodIn_app (goodIn_of _ (by decide +kernel)) ggX5_settle_X3_get
set_option maxRecDepth 20000 in
theorem ggX5_settle_X1_keep : GoodIn wsX5_settle wsX1_keep := goodIn_r _ [20, 21, 22, 23, 24, 25, 26, 27, 28, 29, 30, 31, 32, 33, 34, 35, 36, 37, 38, 39, 40, 41, 42, 7, 43, 9, 14, 15, 44, 45, 46, 47, 48, 49, 50, 51, 115, 116, 117, 105, 106, 107, 108, 109, 110, 111, 112, 113, 114] (by decide +kernel) (by decide +kernel)
set_option maxRecDepth 20000 in
theorem gX5_settle_X1_keep : GoodIn wsX5_settle (wsV RX5 175 RX1 yX1_keep wsX1_keep) := goodIn_app (goodIn_of _ (by decide +kernel)) ggX5_settle_X1_keep
set_option maxRecDepth 20000 in
theorem ggX5_settle_X0_takeOff : GoodIn wsX5_settle wsX0_takeOff := goodIn_r _ [55, 35, 56, 11, 12, 7, 13, 9, 14, 15, 57, 58, 59, 60, 61, 62, 63, 64, 65, 66, 67, 68, 69, 31, 70, 34, 71, 25, 26, 27, 72, 73, 74, 75, 76, 77, 78, 79, 80, 81, 82, 83, 84, 85, 86, 87, 36, 88, 89, 90, 91, 37, 92, 93, 94, 95, 96, 97, 98, 99, 105, 106, 107, 108, 109, 110, 111, 112, 113, 114] (by decide +kernel) (by decide +kernel)
set_option maxRecDepth 20000 in
theorem gX5_settle_X0_takeOff : GoodIn wsX5_settle (wsV RX5 189 RX0 yX0_takeOff wsX0_takeOff) := goodIn_app (goodIn_of _ (by decide +kernel)) ggX5_settle_X0_takeOff
theorem dX5_settle_0 : decode cX5_settle 0 = .ok (.aload_n 0, 1) := by decide +kernel
theorem dX5_settle_1 : decode cX5_settle 1 = .ok (.getfield 19, 3) := by decide +kernel
theorem dX5_settle_4 : decode cX5_settle 4 = .ok (.getfield 89, 3) := by decide +kernel
theorem dX5_settle_7 : decode cX5_settle 7 = .ok (.iload_n 1, 1) := by decide +kernel
theorem dX5_settle_8 : decode cX5_settle 8 = .ok (.invokevirtual 112, 3) := by decide +kernel
theorem dX5_settle_11 : decode cX5_settle 11 = .ok (.ifCond .eq 38, 3) := by decide +kernel
theorem dX5_settle_14 : decode cX5_settle 14 = .ok (.aload_n 0, 1) := by decide +kernel
theorem dX5_settle_15 : decode cX5_settle 15 = .ok (.getfield 19, 3) := by decide +kernel
theorem dX5_settle_18 : decode cX5_settle 18 = .ok (.getfield 89, 3) := by decide +kernel
theorem dX5_settle_21 : decode cX5_settle 21 = .ok (.iload_n 1, 1) := by decide +kernel
theorem dX5_settle_22 : decode cX5_settle 22 = .ok (.iconst 5, 1) := by decide +kernel
theorem dX5_settle_23 : decode cX5_settle 23 = .ok (.invokevirtual 108, 3) := by decide +kernel
theorem dX5_settle_26 : decode cX5_settle 26 = .ok (.ifCond .eq 23, 3) := by decide +kernel
theorem dX5_settle_29 : decode cX5_settle 29 = .ok (.iload_n 2, 1) := by decide +kernel
theorem dX5_settle_30 : decode cX5_settle 30 = .ok (.ifCond .lt 19, 3) := by decide +kernel
theorem dX5_settle_33 : decode cX5_settle 33 = .ok (.iload_n 2, 1) := by decide +kernel
theorem dX5_settle_34 : decode cX5_settle 34 = .ok (.aload_n 0, 1) := by decide +kernel
theorem dX5_settle_35 : decode cX5_settle 35 = .ok (.getfield 19, 3) := by decide +kernel
theorem dX5_settle_38 : decode cX5_settle 38 = .ok (.getfield 89, 3) := by decide +kernel
theorem dX5_settle_41 : decode cX5_settle 41 = .ok (.iload_n 1, 1) := by decide +kernel
theorem dX5_settle_42 : decode cX5_settle 42 = .ok (.iconst 2, 1) := by decide +kernel
theorem dX5_settle_43 : decode cX5_settle 43 = .ok (.invokevirtual 108, 3) := by decide +kernel
theorem dX5_settle_46 : decode cX5_settle 46 = .ok (.if_icmp .le 5, 3) := by decide +kernel
theorem dX5_settle_49 : decode cX5_settle 49 = .ok (.iconst (-1), 1) := by decide +kernel
theorem dX5_settle_50 : decode cX5_settle 50 = .ok (.ireturn, 1) := by decide +kernel
theorem dX5_settle_51 : decode cX5_settle 51 = .ok (.aload_n 0, 1) := by decide +kernel
theorem dX5_settle_52 : decode cX5_settle 52 = .ok (.getfield 29, 3) := by decide +kernel
theorem dX5_settle_55 : decode cX5_settle 55 = .ok (.aload_n 0, 1) := by decide +kernel
theorem dX5_settle_56 : decode cX5_settle 56 = .ok (.getfield 19, 3) := by decide +kernel
theorem dX5_settle_59 : decode cX5_settle 59 = .ok (.invokevirtual 175, 3) := by decide +kernel
theorem dX5_settle_62 : decode cX5_settle 62 = .ok (.aload_n 0, 1) := by decide +kernel
theorem dX5_settle_63 : decode cX5_settle 63 = .ok (.getfield 19, 3) := by decide +kernel
theorem dX5_settle_66 : decode cX5_settle 66 = .ok (.iload_n 1, 1) := by decide +kernel
theorem dX5_settle_67 : decode cX5_settle 67 = .ok (.iload_n 2, 1) := by decide +kernel
theorem dX5_settle_68 : decode cX5_settle 68 = .ok (.invokevirtual 189, 3) := by decide +kernel
theorem dX5_settle_71 : decode cX5_settle 71 = .ok (.aload_n 0, 1) := by decide +kernel
theorem dX5_settle_72 : decode cX5_settle 72 = .ok (.getfield 19, 3) := by decide +kernel
theorem dX5_settle_75 : decode cX5_settle 75 = .ok (.getfield 89, 3) := by decide +kernel
theorem dX5_settle_78 : decode cX5_settle 78 = .ok (.iload_n 1, 1) := by decide +kernel
theorem dX5_settle_79 : decode cX5_settle 79 = .ok (.iconst 2, 1) := by decide +kernel
theorem dX5_settle_80 : decode cX5_settle 80 = .ok (.invokevirtual 108, 3) := by decide +kernel
theorem dX5_settle_83 : decode cX5_settle 83 = .ok (.ireturn, 1) := by decide +kernel
set_option maxRecDepth 20000 in
theorem ggX5_promise_X3_has : GoodIn wsX5_promise wsX3_has := goodIn_r _ [9, 10, 102, 103, 104] (by decide +kernel) (by decide +kernel)
set_option maxRecDepth 20000 in
theorem gX5_promise_X3_has : GoodIn wsX5_promise (wsV RX5 112 RX3 yX3_has wsX3_has) := goodIn_app (goodIn_of _ (by decide +kernel)) ggX5_promise_X3_has
set_option maxRecDepth 20000 in
theorem ggX5_promise_X0_debt : GoodIn wsX5_promise wsX0_debt := goodIn_r _ [15, 16, 17, 18, 19, 8, 20, 10, 21, 22, 23, 14, 24, 25, 26, 27, 28, 29, 30, 95, 96, 97, 98, 99, 100, 101, 102, 103, 104] (by decide +kernel) (by decide +kernel)
set_option maxRecDepth 20000 in
theorem gX5_promise_X0_debt : GoodIn wsX5_promise (wsV RX5 126 RX0 yX0_debt wsX0_debt) := goodIn_app (goodIn_of _ (by decide +kernel)) ggX5_promise_X0_debt
set_option maxRecDepth 20000 in
theorem ggX5_promise_X0_hasAgreement : GoodIn wsX5_promise wsX0_hasAgreement := goodIn_r _ [34, 35, 36, 37, 14, 38, 39, 25, 26, 27, 8, 28, 10, 29, 30, 40, 41, 42, 43, 95, 96, 97, 98, 99, 100, 101, 102, 103, 104] (by decide +kernel) (by decide +kernel)
set_option maxRecDepth 20000 in
theorem gX5_promise_X0_hasAgreement : GoodIn wsX5_promise (wsV RX5 193 RX0 yX0_hasAgreement wsX0_hasAgreement) := goodIn_app (goodIn_of _ (by decide +kernel)) ggX5_promise_X0_hasAgreement
set_option maxRecDepth 20000 in
theorem ggX5_promise_X3_get : GoodIn wsX5_promise wsX3_get := goodIn_r _ [28, 10, 29, 30, 102, 103, 104] (by decide +kernel) (by decide +kernel)
set_option maxRecDepth 20000 in
theorem gX5_promise_X3_get : GoodIn wsX5_promise (wsV RX5 108 RX3 yX3_get wsX3_get) := goodIn_app (goodIn_of _ (by decide +kernel)) ggX5_promise_X3_get
set_option maxRecDepth 20000 in
theorem ggX5_promise_X0_isAtCourt : GoodIn wsX5_promise wsX0_isAtCourt := goodIn_r _ [48, 49, 39, 17, 18, 19, 8, 20, 10, 25, 26, 27, 28, 29, 30, 95, 96, 97, 98, 99, 100, 101, 102, 103, 104] (by decide +kernel) (by decide +kernel)
set_option maxRecDepth 20000 in
theorem gX5_promise_X0_isAtCourt : GoodIn wsX5_promise (wsV RX5 132 RX0 yX0_isAtCourt wsX0_isAtCourt) := goodIn_app (goodIn_of _ (by decide +kernel)) ggX5_promise_X0_isAtCourt
set_option maxRecDepth 20000 in
theorem ggX5_promise_X1_keep : GoodIn wsX5_promise wsX1_keep := goodIn_r _ [54, 55, 56, 57, 58, 59, 60, 61, 62, 63, 64, 14, 65, 49, 39, 16, 66, 67, 68, 69, 70, 71, 72, 8, 73, 10, 29, 30, 74, 75, 76, 77, 78, 79, 80, 81, 105, 106, 107, 95, 96, 97, 98, 99, 100, 101, 102, 103, 104] (by decide +kernel) (by decide +kernel)
set_option maxRecDepth 20000 in
theorem gX5_promise_X1_keep : GoodIn wsX5_promise (wsV RX5 175 RX1 yX1_keep wsX1_keep) := goodIn_app (goodIn_of _ (by decide +kernel)) ggX5_promise_X1_keep
set_option maxRecDepth 20000 in
theorem ggX5_promise_X0_agreePromise : GoodIn wsX5_promise wsX0_agreePromise := goodIn_r _ [85, 39, 86, 87, 88, 8, 89, 10, 29, 30, 95, 96, 97, 98, 99, 100, 101, 102, 103, 104] (by decide +kernel) (by decide +kernel)
set_option maxRecDepth 20000 in
theorem gX5_promise_X0_agreePromise : GoodIn wsX5_promise (wsV RX5 196 RX0 yX0_agreePromise wsX0_agreePromise) := goodIn_app (goodIn_of _ (by decide +kernel)) ggX5_promise_X0_agreePromise
theorem dX5_promise_0 : decode cX5_promise 0 = .ok (.aload_n 0, 1) := by decide +kernel
theorem dX5_promise_1 : decode cX5_promise 1 = .ok (.getfield 19, 3) := by decide +kernel
theorem dX5_promise_4 : decode cX5_promise 4 = .ok (.getfield 86, 3) := by decide +kernel
theorem dX5_promise_7 : decode cX5_promise 7 = .ok (.iload_n 1, 1) := by decide +kernel
theorem dX5_promise_8 : decode cX5_promise 8 = .ok (.invokevirtual 112, 3) := by decide +kernel
theorem dX5_promise_11 : decode cX5_promise 11 = .ok (.ifCond .eq 45, 3) := by decide +kernel
theorem dX5_promise_14 : decode cX5_promise 14 = .ok (.iload_n 2, 1) := by decide +kernel
theorem dX5_promise_15 : decode cX5_promise 15 = .ok (.iconst 1, 1) := by decide +kernel
theorem dX5_promise_16 : decode cX5_promise 16 = .ok (.if_icmp .lt 40, 3) := by decide +kernel
theorem dX5_promise_19 : decode cX5_promise 19 = .ok (.iload_n 2, 1) := by decide +kernel
theorem dX5_promise_20 : decode cX5_promise 20 = .ok (.aload_n 0, 1) := by decide +kernel
theorem dX5_promise_21 : decode cX5_promise 21 = .ok (.getfield 19, 3) := by decide +kernel
theorem dX5_promise_24 : decode cX5_promise 24 = .ok (.iload_n 1, 1) := by decide +kernel
theorem dX5_promise_25 : decode cX5_promise 25 = .ok (.invokevirtual 126, 3) := by decide +kernel
theorem dX5_promise_28 : decode cX5_promise 28 = .ok (.if_icmp .gt 28, 3) := by decide +kernel
theorem dX5_promise_31 : decode cX5_promise 31 = .ok (.iload_n 3, 1) := by decide +kernel
theorem dX5_promise_32 : decode cX5_promise 32 = .ok (.aload_n 0, 1) := by decide +kernel
theorem dX5_promise_33 : decode cX5_promise 33 = .ok (.getfield 19, 3) := by decide +kernel
theorem dX5_promise_36 : decode cX5_promise 36 = .ok (.getfield 74, 3) := by decide +kernel
theorem dX5_promise_39 : decode cX5_promise 39 = .ok (.if_icmp .lt 17, 3) := by decide +kernel
theorem dX5_promise_42 : decode cX5_promise 42 = .ok (.iload_n 3, 1) := by decide +kernel
theorem dX5_promise_43 : decode cX5_promise 43 = .ok (.aload_n 0, 1) := by decide +kernel
theorem dX5_promise_44 : decode cX5_promise 44 = .ok (.getfield 19, 3) := by decide +kernel
theorem dX5_promise_47 : decode cX5_promise 47 = .ok (.getfield 74, 3) := by decide +kernel
theorem dX5_promise_50 : decode cX5_promise 50 = .ok (.bipush 30, 2) := by decide +kernel
theorem dX5_promise_52 : decode cX5_promise 52 = .ok (.iadd, 1) := by decide +kernel
theorem dX5_promise_53 : decode cX5_promise 53 = .ok (.if_icmp .le 5, 3) := by decide +kernel
theorem dX5_promise_56 : decode cX5_promise 56 = .ok (.iconst (-1), 1) := by decide +kernel
theorem dX5_promise_57 : decode cX5_promise 57 = .ok (.ireturn, 1) := by decide +kernel
theorem dX5_promise_58 : decode cX5_promise 58 = .ok (.aload_n 0, 1) := by decide +kernel
theorem dX5_promise_59 : decode cX5_promise 59 = .ok (.getfield 19, 3) := by decide +kernel
theorem dX5_promise_62 : decode cX5_promise 62 = .ok (.iload_n 1, 1) := by decide +kernel
theorem dX5_promise_63 : decode cX5_promise 63 = .ok (.invokevirtual 193, 3) := by decide +kernel
theorem dX5_promise_66 : decode cX5_promise 66 = .ok (.ifCond .eq 6, 3) := by decide +kernel
theorem dX5_promise_69 : decode cX5_promise 69 = .ok (.bipush (-2), 2) := by decide +kernel
theorem dX5_promise_71 : decode cX5_promise 71 = .ok (.ireturn, 1) := by decide +kernel
theorem dX5_promise_72 : decode cX5_promise 72 = .ok (.aload_n 0, 1) := by decide +kernel
theorem dX5_promise_73 : decode cX5_promise 73 = .ok (.getfield 19, 3) := by decide +kernel
theorem dX5_promise_76 : decode cX5_promise 76 = .ok (.getfield 86, 3) := by decide +kernel
theorem dX5_promise_79 : decode cX5_promise 79 = .ok (.iload_n 1, 1) := by decide +kernel
theorem dX5_promise_80 : decode cX5_promise 80 = .ok (.iconst 5, 1) := by decide +kernel
theorem dX5_promise_81 : decode cX5_promise 81 = .ok (.invokevirtual 108, 3) := by decide +kernel
theorem dX5_promise_84 : decode cX5_promise 84 = .ok (.iconst 2, 1) := by decide +kernel
theorem dX5_promise_85 : decode cX5_promise 85 = .ok (.if_icmp .lt 6, 3) := by decide +kernel
theorem dX5_promise_88 : decode cX5_promise 88 = .ok (.bipush (-3), 2) := by decide +kernel
theorem dX5_promise_90 : decode cX5_promise 90 = .ok (.ireturn, 1) := by decide +kernel
theorem dX5_promise_91 : decode cX5_promise 91 = .ok (.aload_n 0, 1) := by decide +kernel
theorem dX5_promise_92 : decode cX5_promise 92 = .ok (.getfield 19, 3) := by decide +kernel
theorem dX5_promise_95 : decode cX5_promise 95 = .ok (.iload_n 1, 1) := by decide +kernel
theorem dX5_promise_96 : decode cX5_promise 96 = .ok (.invokevirtual 132, 3) := by decide +kernel
theorem dX5_promise_99 : decode cX5_promise 99 = .ok (.ifCond .eq 6, 3) := by decide +kernel
theorem dX5_promise_102 : decode cX5_promise 102 = .ok (.bipush (-4), 2) := by decide +kernel
theorem dX5_promise_104 : decode cX5_promise 104 = .ok (.ireturn, 1) := by decide +kernel
theorem dX5_promise_105 : decode cX5_promise 105 = .ok (.aload_n 0, 1) := by decide +kernel
theorem dX5_promise_106 : decode cX5_promise 106 = .ok (.getfield 29, 3) := by decide +kernel
theorem dX5_promise_109 : decode cX5_promise 109 = .ok (.aload_n 0, 1) := by decide +kernel
theorem dX5_promise_110 : decode cX5_promise 110 = .ok (.getfield 19, 3) := by decide +kernel
theorem dX5_promise_113 : decode cX5_promise 113 = .ok (.invokevirtual 175, 3) := by decide +kernel
theorem dX5_promise_116 : decode cX5_promise 116 = .ok (.aload_n 0, 1) := by decide +kernel
theorem dX5_promise_117 : decode cX5_promise 117 = .ok (.getfield 19, 3) := by decide +kernel
theorem dX5_promise_120 : decode cX5_promise 120 = .ok (.iload_n 1, 1) := by decide +kernel
theorem dX5_promise_121 : decode cX5_promise 121 = .ok (.iload_n 2, 1) := by decide +kernel
theorem dX5_promise_122 : decode cX5_promise 122 = .ok (.iload_n 3, 1) := by decide +kernel
theorem dX5_promise_123 : decode cX5_promise 123 = .ok (.invokevirtual 196, 3) := by decide +kernel
theorem dX5_promise_126 : decode cX5_promise 126 = .ok (.iconst 0, 1) := by decide +kernel
theorem dX5_promise_127 : decode cX5_promise 127 = .ok (.ireturn, 1) := by decide +kernel
set_option maxRecDepth 20000 in
theorem ggX5_plan_X3_has : GoodIn wsX5_plan wsX3_has := goodIn_r _ [8, 9, 93, 94, 95] (by decide +kernel) (by decide +kernel)
set_option maxRecDepth 20000 in
theorem gX5_plan_X3_has : GoodIn wsX5_plan (wsV RX5 112 RX3 yX3_has wsX3_has) := goodIn_app (goodIn_of _ (by decide +kernel)) ggX5_plan_X3_has
set_option maxRecDepth 20000 in
theorem ggX5_plan_X0_hasPlan : GoodIn wsX5_plan wsX0_hasPlan := goodIn_r _ [14, 15, 16, 17, 18, 7, 19, 9, 20, 21, 86, 87, 88, 89, 90, 91, 92, 93, 94, 95] (by decide +kernel) (by decide +kernel)
set_option maxRecDepth 20000 in
theorem gX5_plan_X0_hasPlan : GoodIn wsX5_plan (wsV RX5 143 RX0 yX0_hasPlan wsX0_hasPlan) := goodIn_app (goodIn_of _ (by decide +kernel)) ggX5_plan_X0_hasPlan
set_option maxRecDepth 20000 in
theorem ggX5_plan_X0_debt : GoodIn wsX5_plan wsX0_debt := goodIn_r _ [25, 26, 27, 28, 29, 7, 30, 9, 31, 32, 33, 13, 34, 16, 17, 18, 19, 20, 21, 86, 87, 88, 89, 90, 91, 92, 93, 94, 95] (by decide +kernel) (by decide +kernel)
set_option maxRecDepth 20000 in
theorem gX5_plan_X0_debt : GoodIn wsX5_plan (wsV RX5 126 RX0 yX0_debt wsX0_debt) := goodIn_app (goodIn_of _ (by decide +kernel)) ggX5_plan_X0_debt
set_option maxRecDepth 20000 in
theorem ggX5_plan_X0_isAtCourt : GoodIn wsX5_plan wsX0_isAtCourt := goodIn_r _ [38, 39, 15, 27, 28, 29, 7, 30, 9, 16, 17, 18, 19, 20, 21, 86, 87, 88, 89, 90, 91, 92, 93, 94, 95] (by decide +kernel) (by decide +kernel)
set_option maxRecDepth 20000 in
theorem gX5_plan_X0_isAtCourt : GoodIn wsX5_plan (wsV RX5 132 RX0 yX0_isAtCourt wsX0_isAtCourt) := goodIn_app (goodIn_of _ (by decide +kernel)) ggX5_plan_X0_isAtCourt
set_option maxRecDepth 20000 in
theorem ggX5_plan_X1_keep : GoodIn wsX5_plan wsX1_keep := goodIn_r _ [44, 45, 46, 47, 48, 49, 50, 51, 52, 53, 54, 13, 55, 39, 15, 26, 56, 57, 58, 59, 60, 61, 62, 7, 63, 9, 20, 21, 64, 65, 66, 67, 68, 69, 70, 71, 96, 97, 98, 86, 87, 88, 89, 90, 91, 92, 93, 94, 95] (by decide +kernel) (by decide +kernel)
set_option maxRecDepth 20000 in
theorem gX5_plan_X1_keep : GoodIn wsX5_plan (wsV RX5 175 RX1 yX1_keep wsX1_keep) := goodIn_app (goodIn_of _ (by decide +kernel)) ggX5_plan_X1_keep
set_option maxRecDepth 20000 in
theorem ggX5_plan_X0_agreePlan : GoodIn wsX5_plan wsX0_agreePlan := goodIn_r _ [75, 15, 58, 76, 77, 78, 7, 79, 9, 20, 21, 80, 23, 24, 13, 25, 26, 27, 28, 29, 30, 31, 32, 33, 34, 16, 17, 18, 19, 86, 87, 88, 89, 90, 91, 92, 93, 94, 95] (by decide +kernel) (by decide +kernel)
set_option maxRecDepth 20000 in
theorem gX5_plan_X0_agreePlan : GoodIn wsX5_plan (wsV RX5 199 RX0 yX0_agreePlan wsX0_agreePlan) := goodIn_app (goodIn_of _ (by decide +kernel)) ggX5_plan_X0_agreePlan
theorem dX5_plan_0 : decode cX5_plan 0 = .ok (.aload_n 0, 1) := by decide +kernel
theorem dX5_plan_1 : decode cX5_plan 1 = .ok (.getfield 19, 3) := by decide +kernel
theorem dX5_plan_4 : decode cX5_plan 4 = .ok (.getfield 86, 3) := by decide +kernel
theorem dX5_plan_7 : decode cX5_plan 7 = .ok (.iload_n 1, 1) := by decide +kernel
theorem dX5_plan_8 : decode cX5_plan 8 = .ok (.invokevirtual 112, 3) := by decide +kernel
theorem dX5_plan_11 : decode cX5_plan 11 = .ok (.ifCond .eq 25, 3) := by decide +kernel
theorem dX5_plan_14 : decode cX5_plan 14 = .ok (.iload_n 2, 1) := by decide +kernel
theorem dX5_plan_15 : decode cX5_plan 15 = .ok (.iconst 2, 1) := by decide +kernel
theorem dX5_plan_16 : decode cX5_plan 16 = .ok (.if_icmp .lt 20, 3) := by decide +kernel
theorem dX5_plan_19 : decode cX5_plan 19 = .ok (.iload_n 2, 1) := by decide +kernel
theorem dX5_plan_20 : decode cX5_plan 20 = .ok (.bipush 12, 2) := by decide +kernel
theorem dX5_plan_22 : decode cX5_plan 22 = .ok (.if_icmp .gt 14, 3) := by decide +kernel
theorem dX5_plan_25 : decode cX5_plan 25 = .ok (.iload_n 3, 1) := by decide +kernel
theorem dX5_plan_26 : decode cX5_plan 26 = .ok (.iconst 1, 1) := by decide +kernel
theorem dX5_plan_27 : decode cX5_plan 27 = .ok (.if_icmp .lt 9, 3) := by decide +kernel
theorem dX5_plan_30 : decode cX5_plan 30 = .ok (.iload_n 3, 1) := by decide +kernel
theorem dX5_plan_31 : decode cX5_plan 31 = .ok (.bipush 30, 2) := by decide +kernel
theorem dX5_plan_33 : decode cX5_plan 33 = .ok (.if_icmp .le 5, 3) := by decide +kernel
theorem dX5_plan_36 : decode cX5_plan 36 = .ok (.iconst (-1), 1) := by decide +kernel
theorem dX5_plan_37 : decode cX5_plan 37 = .ok (.ireturn, 1) := by decide +kernel
theorem dX5_plan_38 : decode cX5_plan 38 = .ok (.aload_n 0, 1) := by decide +kernel
theorem dX5_plan_39 : decode cX5_plan 39 = .ok (.getfield 19, 3) := by decide +kernel
theorem dX5_plan_42 : decode cX5_plan 42 = .ok (.iload_n 1, 1) := by decide +kernel
theorem dX5_plan_43 : decode cX5_plan 43 = .ok (.invokevirtual 143, 3) := by decide +kernel
theorem dX5_plan_46 : decode cX5_plan 46 = .ok (.ifCond .eq 6, 3) := by decide +kernel
theorem dX5_plan_49 : decode cX5_plan 49 = .ok (.bipush (-2), 2) := by decide +kernel
theorem dX5_plan_51 : decode cX5_plan 51 = .ok (.ireturn, 1) := by decide +kernel
theorem dX5_plan_52 : decode cX5_plan 52 = .ok (.aload_n 0, 1) := by decide +kernel
theorem dX5_plan_53 : decode cX5_plan 53 = .ok (.getfield 19, 3) := by decide +kernel
theorem dX5_plan_56 : decode cX5_plan 56 = .ok (.iload_n 1, 1) := by decide +kernel
theorem dX5_plan_57 : decode cX5_plan 57 = .ok (.invokevirtual 126, 3) := by decide +kernel
theorem dX5_plan_60 : decode cX5_plan 60 = .ok (.iload_n 2, 1) := by decide +kernel
theorem dX5_plan_61 : decode cX5_plan 61 = .ok (.if_icmp .ge 6, 3) := by decide +kernel
theorem dX5_plan_64 : decode cX5_plan 64 = .ok (.bipush (-3), 2) := by decide +kernel
theorem dX5_plan_66 : decode cX5_plan 66 = .ok (.ireturn, 1) := by decide +kernel
theorem dX5_plan_67 : decode cX5_plan 67 = .ok (.aload_n 0, 1) := by decide +kernel
theorem dX5_plan_68 : decode cX5_plan 68 = .ok (.getfield 19, 3) := by decide +kernel
theorem dX5_plan_71 : decode cX5_plan 71 = .ok (.iload_n 1, 1) := by decide +kernel
theorem dX5_plan_72 : decode cX5_plan 72 = .ok (.invokevirtual 132, 3) := by decide +kernel
theorem dX5_plan_75 : decode cX5_plan 75 = .ok (.ifCond .eq 6, 3) := by decide +kernel
theorem dX5_plan_78 : decode cX5_plan 78 = .ok (.bipush (-4), 2) := by decide +kernel
theorem dX5_plan_80 : decode cX5_plan 80 = .ok (.ireturn, 1) := by decide +kernel
theorem dX5_plan_81 : decode cX5_plan 81 = .ok (.aload_n 0, 1) := by decide +kernel
theorem dX5_plan_82 : decode cX5_plan 82 = .ok (.getfield 29, 3) := by decide +kernel
theorem dX5_plan_85 : decode cX5_plan 85 = .ok (.aload_n 0, 1) := by decide +kernel
theorem dX5_plan_86 : decode cX5_plan 86 = .ok (.getfield 19, 3) := by decide +kernel
theorem dX5_plan_89 : decode cX5_plan 89 = .ok (.invokevirtual 175, 3) := by decide +kernel
theorem dX5_plan_92 : decode cX5_plan 92 = .ok (.aload_n 0, 1) := by decide +kernel
theorem dX5_plan_93 : decode cX5_plan 93 = .ok (.getfield 19, 3) := by decide +kernel
theorem dX5_plan_96 : decode cX5_plan 96 = .ok (.iload_n 1, 1) := by decide +kernel
theorem dX5_plan_97 : decode cX5_plan 97 = .ok (.iload_n 2, 1) := by decide +kernel
theorem dX5_plan_98 : decode cX5_plan 98 = .ok (.iload_n 3, 1) := by decide +kernel
theorem dX5_plan_99 : decode cX5_plan 99 = .ok (.invokevirtual 199, 3) := by decide +kernel
theorem dX5_plan_102 : decode cX5_plan 102 = .ok (.iconst 0, 1) := by decide +kernel
theorem dX5_plan_103 : decode cX5_plan 103 = .ok (.ireturn, 1) := by decide +kernel
set_option maxRecDepth 20000 in
theorem ggX5_asks_X3_has : GoodIn wsX5_asks wsX3_has := goodIn_r _ [9, 10, 107, 108, 109] (by decide +kernel) (by decide +kernel)
set_option maxRecDepth 20000 in
theorem gX5_asks_X3_has : GoodIn wsX5_asks (wsV RX5 112 RX3 yX3_has wsX3_has) := goodIn_app (goodIn_of _ (by decide +kernel)) ggX5_asks_X3_has
set_option maxRecDepth 20000 in
theorem ggX5_asks_X5_isSum : GoodIn wsX5_asks wsX5_isSum := goodIn_r _ [14] (by decide +kernel) (by decide +kernel)
set_option maxRecDepth 20000 in
theorem gX5_asks_X5_isSum : GoodIn wsX5_asks (va_wsS RX5 169 yX5_isSum wsX5_isSum) := goodIn_app (goodIn_of _ (by decide +kernel)) ggX5_asks_X5_isSum
set_option maxRecDepth 20000 in
theorem ggX5_asks_X3_isFull : GoodIn wsX5_asks wsX3_isFull := goodIn_r _ [18, 10, 19, 20, 107, 108, 109] (by decide +kernel) (by decide +kernel)
set_option maxRecDepth 20000 in
theorem gX5_asks_X3_isFull : GoodIn wsX5_asks (wsV RX5 172 RX3 yX3_isFull wsX3_isFull) := goodIn_app (goodIn_of _ (by decide +kernel)) ggX5_asks_X3_isFull
set_option maxRecDepth 20000 in
theorem ggX5_asks_X1_keep : GoodIn wsX5_asks wsX1_keep := goodIn_r _ [25, 26, 27, 28, 29, 30, 31, 32, 33, 34, 35, 36, 37, 38, 39, 40, 41, 42, 43, 44, 45, 46, 47, 8, 48, 10, 19, 20, 49, 50, 51, 52, 53, 54, 55, 56, 110, 111, 112, 100, 101, 102, 103, 104, 105, 106, 107, 108, 109] (by decide +kernel) (by decide +kernel)
set_option maxRecDepth 20000 in
theorem gX5_asks_X1_keep : GoodIn wsX5_asks (wsV RX5 175 RX1 yX1_keep wsX1_keep) := goodIn_app (goodIn_of _ (by decide +kernel)) ggX5_asks_X1_keep
set_option maxRecDepth 20000 in
theorem ggX5_asks_X0_addOrder : GoodIn wsX5_asks wsX0_addOrder := goodIn_r _ [60, 41, 61, 62, 63, 8, 64, 10, 19, 65, 16, 17, 18, 20, 66, 67, 68, 69, 70, 71, 72, 73, 36, 74, 75, 76, 77, 78, 79, 80, 81, 82, 83, 84, 85, 86, 39, 42, 87, 88, 89, 90, 91, 92, 93, 94, 40, 100, 101, 102, 103, 104, 105, 106, 107, 108, 109] (by decide +kernel) (by decide +kernel)
set_option maxRecDepth 20000 in
theorem gX5_asks_X0_addOrder : GoodIn wsX5_asks (wsV RX5 202 RX0 yX0_addOrder wsX0_addOrder) := goodIn_app (goodIn_of _ (by decide +kernel)) ggX5_asks_X0_addOrder
theorem dX5_asks_0 : decode cX5_asks 0 = .ok (.aload_n 0, 1) := by decide +kernel
theorem dX5_asks_1 : decode cX5_asks 1 = .ok (.getfield 19, 3) := by decide +kernel
theorem dX5_asks_4 : decode cX5_asks 4 = .ok (.getfield 86, 3) := by decide +kernel
theorem dX5_asks_7 : decode cX5_asks 7 = .ok (.iload_n 1, 1) := by decide +kernel
theorem dX5_asks_8 : decode cX5_asks 8 = .ok (.invokevirtual 112, 3) := by decide +kernel
theorem dX5_asks_11 : decode cX5_asks 11 = .ok (.ifCond .eq 10, 3) := by decide +kernel
theorem dX5_asks_14 : decode cX5_asks 14 = .ok (.iload_n 2, 1) := by decide +kernel
theorem dX5_asks_15 : decode cX5_asks 15 = .ok (.invokestatic 169, 3) := by decide +kernel
theorem dX5_asks_18 : decode cX5_asks 18 = .ok (.ifCond .ne 5, 3) := by decide +kernel
theorem dX5_asks_21 : decode cX5_asks 21 = .ok (.iconst (-1), 1) := by decide +kernel
theorem dX5_asks_22 : decode cX5_asks 22 = .ok (.ireturn, 1) := by decide +kernel
theorem dX5_asks_23 : decode cX5_asks 23 = .ok (.aload_n 0, 1) := by decide +kernel
theorem dX5_asks_24 : decode cX5_asks 24 = .ok (.getfield 19, 3) := by decide +kernel
theorem dX5_asks_27 : decode cX5_asks 27 = .ok (.getfield 92, 3) := by decide +kernel
theorem dX5_asks_30 : decode cX5_asks 30 = .ok (.invokevirtual 172, 3) := by decide +kernel
theorem dX5_asks_33 : decode cX5_asks 33 = .ok (.ifCond .eq 6, 3) := by decide +kernel
theorem dX5_asks_36 : decode cX5_asks 36 = .ok (.bipush (-2), 2) := by decide +kernel
theorem dX5_asks_38 : decode cX5_asks 38 = .ok (.ireturn, 1) := by decide +kernel
theorem dX5_asks_39 : decode cX5_asks 39 = .ok (.aload_n 0, 1) := by decide +kernel
theorem dX5_asks_40 : decode cX5_asks 40 = .ok (.getfield 29, 3) := by decide +kernel
theorem dX5_asks_43 : decode cX5_asks 43 = .ok (.aload_n 0, 1) := by decide +kernel
theorem dX5_asks_44 : decode cX5_asks 44 = .ok (.getfield 19, 3) := by decide +kernel
theorem dX5_asks_47 : decode cX5_asks 47 = .ok (.invokevirtual 175, 3) := by decide +kernel
theorem dX5_asks_50 : decode cX5_asks 50 = .ok (.aload_n 0, 1) := by decide +kernel
theorem dX5_asks_51 : decode cX5_asks 51 = .ok (.getfield 19, 3) := by decide +kernel
theorem dX5_asks_54 : decode cX5_asks 54 = .ok (.iload_n 1, 1) := by decide +kernel
theorem dX5_asks_55 : decode cX5_asks 55 = .ok (.iload_n 2, 1) := by decide +kernel
theorem dX5_asks_56 : decode cX5_asks 56 = .ok (.invokevirtual 202, 3) := by decide +kernel
theorem dX5_asks_59 : decode cX5_asks 59 = .ok (.ireturn, 1) := by decide +kernel
set_option maxRecDepth 20000 in
theorem ggX5_ships_X3_has : GoodIn wsX5_ships wsX3_has := goodIn_r _ [9, 10, 110, 111, 112] (by decide +kernel) (by decide +kernel)
set_option maxRecDepth 20000 in
theorem gX5_ships_X3_has : GoodIn wsX5_ships (wsV RX5 112 RX3 yX3_has wsX3_has) := goodIn_app (goodIn_of _ (by decide +kernel)) ggX5_ships_X3_has
set_option maxRecDepth 20000 in
theorem ggX5_ships_X3_get : GoodIn wsX5_ships wsX3_get := goodIn_r _ [14, 10, 15, 16, 110, 111, 112] (by decide +kernel) (by decide +kernel)
set_option maxRecDepth 20000 in
theorem gX5_ships_X3_get : GoodIn wsX5_ships (wsV RX5 108 RX3 yX3_get wsX3_get) := goodIn_app (goodIn_of _ (by decide +kernel)) ggX5_ships_X3_get
set_option maxRecDepth 20000 in
theorem ggX5_ships_X3_isFull : GoodIn wsX5_ships wsX3_isFull := goodIn_r _ [20, 10, 15, 16, 110, 111, 112] (by decide +kernel) (by decide +kernel)
set_option maxRecDepth 20000 in
theorem gX5_ships_X3_isFull : GoodIn wsX5_ships (wsV RX5 172 RX3 yX3_isFull wsX3_isFull) := goodIn_app (goodIn_of _ (by decide +kernel)) ggX5_ships_X3_isFull
set_option maxRecDepth 20000 in
theorem ggX5_ships_X1_keep : GoodIn wsX5_ships wsX1_keep := goodIn_r _ [25, 26, 27, 28, 29, 30, 31, 32, 33, 34, 35, 36, 37, 38, 39, 40, 41, 42, 43, 44, 45, 46, 47, 8, 48, 10, 15, 16, 49, 50, 51, 52, 53, 54, 55, 56, 113, 114, 115, 103, 104, 105, 106, 107, 108, 109, 110, 111, 112] (by decide +kernel) (by decide +kernel)
set_option maxRecDepth 20000 in
theorem gX5_ships_X1_keep : GoodIn wsX5_ships (wsV RX5 175 RX1 yX1_keep wsX1_keep) := goodIn_app (goodIn_of _ (by decide +kernel)) ggX5_ships_X1_keep
set_option maxRecDepth 20000 in
theorem ggX5_ships_X0_billOrder : GoodIn wsX5_ships wsX0_billOrder := goodIn_r _ [60, 41, 43, 39, 61, 12, 13, 8, 14, 10, 15, 16, 62, 63, 64, 36, 65, 40, 66, 67, 68, 69, 70, 18, 19, 20, 71, 72, 73, 74, 75, 76, 77, 78, 79, 80, 30, 31, 32, 81, 82, 83, 84, 85, 86, 87, 88, 89, 90, 91, 92, 93, 94, 95, 96, 97, 103, 104, 105, 106, 107, 108, 109, 110, 111, 112] (by decide +kernel) (by decide +kernel)
set_option maxRecDepth 20000 in
theorem gX5_ships_X0_billOrder : GoodIn wsX5_ships (wsV RX5 205 RX0 yX0_billOrder wsX0_billOrder) := goodIn_app (goodIn_of _ (by decide +kernel)) ggX5_ships_X0_billOrder
theorem dX5_ships_0 : decode cX5_ships 0 = .ok (.aload_n 0, 1) := by decide +kernel
theorem dX5_ships_1 : decode cX5_ships 1 = .ok (.getfield 19, 3) := by decide +kernel
theorem dX5_ships_4 : decode cX5_ships 4 = .ok (.getfield 92, 3) := by decide +kernel
theorem dX5_ships_7 : decode cX5_ships 7 = .ok (.iload_n 1, 1) := by decide +kernel
theorem dX5_ships_8 : decode cX5_ships 8 = .ok (.invokevirtual 112, 3) := by decide +kernel
theorem dX5_ships_11 : decode cX5_ships 11 = .ok (.ifCond .eq 19, 3) := by decide +kernel
theorem dX5_ships_14 : decode cX5_ships 14 = .ok (.aload_n 0, 1) := by decide +kernel
theorem dX5_ships_15 : decode cX5_ships 15 = .ok (.getfield 19, 3) := by decide +kernel
theorem dX5_ships_18 : decode cX5_ships 18 = .ok (.getfield 92, 3) := by decide +kernel
theorem dX5_ships_21 : decode cX5_ships 21 = .ok (.iload_n 1, 1) := by decide +kernel
theorem dX5_ships_22 : decode cX5_ships 22 = .ok (.iconst 2, 1) := by decide +kernel
theorem dX5_ships_23 : decode cX5_ships 23 = .ok (.invokevirtual 108, 3) := by decide +kernel
theorem dX5_ships_26 : decode cX5_ships 26 = .ok (.iconst 1, 1) := by decide +kernel
theorem dX5_ships_27 : decode cX5_ships 27 = .ok (.if_icmp .eq 5, 3) := by decide +kernel
theorem dX5_ships_30 : decode cX5_ships 30 = .ok (.iconst (-1), 1) := by decide +kernel
theorem dX5_ships_31 : decode cX5_ships 31 = .ok (.ireturn, 1) := by decide +kernel
theorem dX5_ships_32 : decode cX5_ships 32 = .ok (.aload_n 0, 1) := by decide +kernel
theorem dX5_ships_33 : decode cX5_ships 33 = .ok (.getfield 19, 3) := by decide +kernel
theorem dX5_ships_36 : decode cX5_ships 36 = .ok (.getfield 89, 3) := by decide +kernel
theorem dX5_ships_39 : decode cX5_ships 39 = .ok (.invokevirtual 172, 3) := by decide +kernel
theorem dX5_ships_42 : decode cX5_ships 42 = .ok (.ifCond .eq 6, 3) := by decide +kernel
theorem dX5_ships_45 : decode cX5_ships 45 = .ok (.bipush (-2), 2) := by decide +kernel
theorem dX5_ships_47 : decode cX5_ships 47 = .ok (.ireturn, 1) := by decide +kernel
theorem dX5_ships_48 : decode cX5_ships 48 = .ok (.aload_n 0, 1) := by decide +kernel
theorem dX5_ships_49 : decode cX5_ships 49 = .ok (.getfield 29, 3) := by decide +kernel
theorem dX5_ships_52 : decode cX5_ships 52 = .ok (.aload_n 0, 1) := by decide +kernel
theorem dX5_ships_53 : decode cX5_ships 53 = .ok (.getfield 19, 3) := by decide +kernel
theorem dX5_ships_56 : decode cX5_ships 56 = .ok (.invokevirtual 175, 3) := by decide +kernel
theorem dX5_ships_59 : decode cX5_ships 59 = .ok (.aload_n 0, 1) := by decide +kernel
theorem dX5_ships_60 : decode cX5_ships 60 = .ok (.getfield 19, 3) := by decide +kernel
theorem dX5_ships_63 : decode cX5_ships 63 = .ok (.iload_n 1, 1) := by decide +kernel
theorem dX5_ships_64 : decode cX5_ships 64 = .ok (.invokevirtual 205, 3) := by decide +kernel
theorem dX5_ships_67 : decode cX5_ships 67 = .ok (.ireturn, 1) := by decide +kernel
set_option maxRecDepth 20000 in
theorem ggX5_cancel_X3_has : GoodIn wsX5_cancel wsX3_has := goodIn_r _ [8, 9, 90, 91, 92] (by decide +kernel) (by decide +kernel)
set_option maxRecDepth 20000 in
theorem gX5_cancel_X3_has : GoodIn wsX5_cancel (wsV RX5 112 RX3 yX3_has wsX3_has) := goodIn_app (goodIn_of _ (by decide +kernel)) ggX5_cancel_X3_has
set_option maxRecDepth 20000 in
theorem ggX5_cancel_X3_get : GoodIn wsX5_cancel wsX3_get := goodIn_r _ [13, 9, 14, 15, 90, 91, 92] (by decide +kernel) (by decide +kernel)
set_option maxRecDepth 20000 in
theorem gX5_cancel_X3_get : GoodIn wsX5_cancel (wsV RX5 108 RX3 yX3_get wsX3_get) := goodIn_app (goodIn_of _ (by decide +kernel)) ggX5_cancel_X3_get
set_option maxRecDepth 20000 in
theorem ggX5_cancel_X1_keep : GoodIn wsX5_cancel wsX1_keep := goodIn_r _ [20, 21, 22, 23, 24, 25, 26, 27, 28, 29, 30, 31, 32, 33, 34, 35, 36, 37, 38, 39, 40, 41, 42, 7, 43, 9, 14, 15, 44, 45, 46, 47, 48, 49, 50, 51, 93, 94, 95, 83, 84, 85, 86, 87, 88, 89, 90, 91, 92] (by decide +kernel) (by decide +kernel)
set_option maxRecDepth 20000 in
theorem gX5_cancel_X1_keep : GoodIn wsX5_cancel (wsV RX5 175 RX1 yX1_keep wsX1_keep) := goodIn_app (goodIn_of _ (by decide +kernel)) ggX5_cancel_X1_keep
set_option maxRecDepth 20000 in
theorem ggX5_cancel_X3_set : GoodIn wsX5_cancel wsX3_set := goodIn_r _ [55, 9, 14, 15, 90, 91, 92] (by decide +kernel) (by decide +kernel)
set_option maxRecDepth 20000 in
theorem gX5_cancel_X3_set : GoodIn wsX5_cancel (wsV RX5 185 RX3 yX3_set wsX3_set) := goodIn_app (goodIn_of _ (by decide +kernel)) ggX5_cancel_X3_set
set_option maxRecDepth 20000 in
theorem ggX5_cancel_X0_release : GoodIn wsX5_cancel wsX0_release := goodIn_r _ [59, 36, 60, 61, 62, 7, 63, 9, 64, 11, 12, 13, 14, 15, 65, 66, 67, 31, 68, 34, 37, 69, 70, 71, 72, 73, 74, 75, 76, 35, 77, 53, 54, 55, 83, 84, 85, 86, 87, 88, 89, 90, 91, 92] (by decide +kernel) (by decide +kernel)
set_option maxRecDepth 20000 in
theorem gX5_cancel_X0_release : GoodIn wsX5_cancel (wsV RX5 208 RX0 yX0_release wsX0_release) := goodIn_app (goodIn_of _ (by decide +kernel)) ggX5_cancel_X0_release
theorem dX5_cancel_0 : decode cX5_cancel 0 = .ok (.aload_n 0, 1) := by decide +kernel
theorem dX5_cancel_1 : decode cX5_cancel 1 = .ok (.getfield 19, 3) := by decide +kernel
theorem dX5_cancel_4 : decode cX5_cancel 4 = .ok (.getfield 92, 3) := by decide +kernel
theorem dX5_cancel_7 : decode cX5_cancel 7 = .ok (.iload_n 1, 1) := by decide +kernel
theorem dX5_cancel_8 : decode cX5_cancel 8 = .ok (.invokevirtual 112, 3) := by decide +kernel
theorem dX5_cancel_11 : decode cX5_cancel 11 = .ok (.ifCond .eq 19, 3) := by decide +kernel
theorem dX5_cancel_14 : decode cX5_cancel 14 = .ok (.aload_n 0, 1) := by decide +kernel
theorem dX5_cancel_15 : decode cX5_cancel 15 = .ok (.getfield 19, 3) := by decide +kernel
theorem dX5_cancel_18 : decode cX5_cancel 18 = .ok (.getfield 92, 3) := by decide +kernel
theorem dX5_cancel_21 : decode cX5_cancel 21 = .ok (.iload_n 1, 1) := by decide +kernel
theorem dX5_cancel_22 : decode cX5_cancel 22 = .ok (.iconst 2, 1) := by decide +kernel
theorem dX5_cancel_23 : decode cX5_cancel 23 = .ok (.invokevirtual 108, 3) := by decide +kernel
theorem dX5_cancel_26 : decode cX5_cancel 26 = .ok (.iconst 1, 1) := by decide +kernel
theorem dX5_cancel_27 : decode cX5_cancel 27 = .ok (.if_icmp .le 5, 3) := by decide +kernel
theorem dX5_cancel_30 : decode cX5_cancel 30 = .ok (.iconst 0, 1) := by decide +kernel
theorem dX5_cancel_31 : decode cX5_cancel 31 = .ok (.ireturn, 1) := by decide +kernel
theorem dX5_cancel_32 : decode cX5_cancel 32 = .ok (.aload_n 0, 1) := by decide +kernel
theorem dX5_cancel_33 : decode cX5_cancel 33 = .ok (.getfield 29, 3) := by decide +kernel
theorem dX5_cancel_36 : decode cX5_cancel 36 = .ok (.aload_n 0, 1) := by decide +kernel
theorem dX5_cancel_37 : decode cX5_cancel 37 = .ok (.getfield 19, 3) := by decide +kernel
theorem dX5_cancel_40 : decode cX5_cancel 40 = .ok (.invokevirtual 175, 3) := by decide +kernel
theorem dX5_cancel_43 : decode cX5_cancel 43 = .ok (.aload_n 0, 1) := by decide +kernel
theorem dX5_cancel_44 : decode cX5_cancel 44 = .ok (.getfield 19, 3) := by decide +kernel
theorem dX5_cancel_47 : decode cX5_cancel 47 = .ok (.getfield 92, 3) := by decide +kernel
theorem dX5_cancel_50 : decode cX5_cancel 50 = .ok (.iload_n 1, 1) := by decide +kernel
theorem dX5_cancel_51 : decode cX5_cancel 51 = .ok (.iconst 2, 1) := by decide +kernel
theorem dX5_cancel_52 : decode cX5_cancel 52 = .ok (.iconst 3, 1) := by decide +kernel
theorem dX5_cancel_53 : decode cX5_cancel 53 = .ok (.invokevirtual 185, 3) := by decide +kernel
theorem dX5_cancel_56 : decode cX5_cancel 56 = .ok (.aload_n 0, 1) := by decide +kernel
theorem dX5_cancel_57 : decode cX5_cancel 57 = .ok (.getfield 19, 3) := by decide +kernel
theorem dX5_cancel_60 : decode cX5_cancel 60 = .ok (.aload_n 0, 1) := by decide +kernel
theorem dX5_cancel_61 : decode cX5_cancel 61 = .ok (.getfield 19, 3) := by decide +kernel
theorem dX5_cancel_64 : decode cX5_cancel 64 = .ok (.getfield 92, 3) := by decide +kernel
theorem dX5_cancel_67 : decode cX5_cancel 67 = .ok (.iload_n 1, 1) := by decide +kernel
theorem dX5_cancel_68 : decode cX5_cancel 68 = .ok (.iconst 0, 1) := by decide +kernel
theorem dX5_cancel_69 : decode cX5_cancel 69 = .ok (.invokevirtual 108, 3) := by decide +kernel
theorem dX5_cancel_72 : decode cX5_cancel 72 = .ok (.invokevirtual 208, 3) := by decide +kernel
theorem dX5_cancel_75 : decode cX5_cancel 75 = .ok (.pop, 1) := by decide +kernel
theorem dX5_cancel_76 : decode cX5_cancel 76 = .ok (.iconst 1, 1) := by decide +kernel
theorem dX5_cancel_77 : decode cX5_cancel 77 = .ok (.ireturn, 1) := by decide +kernel
set_option maxRecDepth 20000 in
theorem ggX5_pass_X1_keep : GoodIn wsX5_pass wsX1_keep := goodIn_r _ [8, 9, 10, 11, 12, 13, 14, 15, 16, 17, 18, 19, 20, 21, 22, 23, 24, 25, 26, 27, 28, 29, 30, 31, 32, 33, 34, 35, 36, 37, 38, 39, 40, 41, 42, 43, 177, 178, 179, 170, 171, 172, 173, 174, 175, 176, 180, 181, 182] (by decide +kernel) (by decide +kernel)
set_option maxRecDepth 20000 in
theorem gX5_pass_X1_keep : GoodIn wsX5_pass (wsV RX5 175 RX1 yX1_keep wsX1_keep) := goodIn_app (goodIn_of _ (by decide +kernel)) ggX5_pass_X1_keep
set_option maxRecDepth 20000 in
theorem ggX5_pass_X0_endDay : GoodIn wsX5_pass wsX0_endDay := goodIn_r _ [47, 22, 26, 48, 49, 50, 19, 51, 23, 52, 53, 54, 31, 55, 33, 56, 57, 58, 59, 34, 35, 60, 61, 62, 63, 64, 65, 66, 67, 68, 69, 70, 71, 72, 73, 74, 75, 76, 77, 78, 79, 80, 81, 82, 83, 84, 85, 86, 87, 88, 89, 90, 91, 92, 93, 94, 95, 96, 97, 98, 99, 100, 101, 102, 13, 14, 15, 103, 104, 105, 106, 107, 108, 109, 110, 21, 111, 112, 113, 114, 115, 38, 39, 116, 117, 118, 119, 120, 121, 122, 123, 124, 125, 126, 127, 128, 129, 130, 131, 132, 133, 134, 135, 136, 137, 138, 139, 140, 141, 142, 143, 144, 145, 146, 147, 148, 149, 150, 151, 152, 24, 153, 154, 155, 156, 25, 157, 158, 159, 160, 161, 162, 163, 164, 170, 171, 172, 173, 174, 175, 176, 180, 181, 182] (by decide +kernel) (by decide +kernel)
set_option maxRecDepth 20000 in
theorem gX5_pass_X0_endDay : GoodIn wsX5_pass (wsV RX5 211 RX0 yX0_endDay wsX0_endDay) := goodIn_app (goodIn_of _ (by decide +kernel)) ggX5_pass_X0_endDay
theorem dX5_pass_0 : decode cX5_pass 0 = .ok (.iload_n 1, 1) := by decide +kernel
theorem dX5_pass_1 : decode cX5_pass 1 = .ok (.iconst 1, 1) := by decide +kernel
theorem dX5_pass_2 : decode cX5_pass 2 = .ok (.if_icmp .lt 24, 3) := by decide +kernel
theorem dX5_pass_5 : decode cX5_pass 5 = .ok (.iload_n 1, 1) := by decide +kernel
theorem dX5_pass_6 : decode cX5_pass 6 = .ok (.bipush 99, 2) := by decide +kernel
theorem dX5_pass_8 : decode cX5_pass 8 = .ok (.if_icmp .gt 18, 3) := by decide +kernel
theorem dX5_pass_11 : decode cX5_pass 11 = .ok (.aload_n 0, 1) := by decide +kernel
theorem dX5_pass_12 : decode cX5_pass 12 = .ok (.getfield 19, 3) := by decide +kernel
theorem dX5_pass_15 : decode cX5_pass 15 = .ok (.getfield 74, 3) := by decide +kernel
theorem dX5_pass_18 : decode cX5_pass 18 = .ok (.iload_n 1, 1) := by decide +kernel
theorem dX5_pass_19 : decode cX5_pass 19 = .ok (.iadd, 1) := by decide +kernel
theorem dX5_pass_20 : decode cX5_pass 20 = .ok (.sipush 999, 3) := by decide +kernel
theorem dX5_pass_23 : decode cX5_pass 23 = .ok (.if_icmp .le 5, 3) := by decide +kernel
theorem dX5_pass_26 : decode cX5_pass 26 = .ok (.iconst (-1), 1) := by decide +kernel
theorem dX5_pass_27 : decode cX5_pass 27 = .ok (.ireturn, 1) := by decide +kernel
theorem dX5_pass_28 : decode cX5_pass 28 = .ok (.aload_n 0, 1) := by decide +kernel
theorem dX5_pass_29 : decode cX5_pass 29 = .ok (.getfield 29, 3) := by decide +kernel
theorem dX5_pass_32 : decode cX5_pass 32 = .ok (.aload_n 0, 1) := by decide +kernel
theorem dX5_pass_33 : decode cX5_pass 33 = .ok (.getfield 19, 3) := by decide +kernel
theorem dX5_pass_36 : decode cX5_pass 36 = .ok (.invokevirtual 175, 3) := by decide +kernel
theorem dX5_pass_39 : decode cX5_pass 39 = .ok (.iconst 0, 1) := by decide +kernel
theorem dX5_pass_40 : decode cX5_pass 40 = .ok (.istore_n 2, 1) := by decide +kernel
theorem dX5_pass_41 : decode cX5_pass 41 = .ok (.iload_n 2, 1) := by decide +kernel
theorem dX5_pass_42 : decode cX5_pass 42 = .ok (.iload_n 1, 1) := by decide +kernel
theorem dX5_pass_43 : decode cX5_pass 43 = .ok (.if_icmp .ge 16, 3) := by decide +kernel
theorem dX5_pass_46 : decode cX5_pass 46 = .ok (.aload_n 0, 1) := by decide +kernel
theorem dX5_pass_47 : decode cX5_pass 47 = .ok (.getfield 19, 3) := by decide +kernel
theorem dX5_pass_50 : decode cX5_pass 50 = .ok (.invokevirtual 211, 3) := by decide +kernel
theorem dX5_pass_53 : decode cX5_pass 53 = .ok (.iinc 2 1, 3) := by decide +kernel
theorem dX5_pass_56 : decode cX5_pass 56 = .ok (.goto (-15), 3) := by decide +kernel
theorem dX5_pass_59 : decode cX5_pass 59 = .ok (.aload_n 0, 1) := by decide +kernel
theorem dX5_pass_60 : decode cX5_pass 60 = .ok (.getfield 19, 3) := by decide +kernel
theorem dX5_pass_63 : decode cX5_pass 63 = .ok (.getfield 74, 3) := by decide +kernel
theorem dX5_pass_66 : decode cX5_pass 66 = .ok (.ireturn, 1) := by decide +kernel
set_option maxRecDepth 20000 in
theorem ggX5_undo_X1_size : GoodIn wsX5_undo wsX1_size := goodIn_r _ [7, 8, 51, 52, 53] (by decide +kernel) (by decide +kernel)
set_option maxRecDepth 20000 in
theorem gX5_undo_X1_size : GoodIn wsX5_undo (wsV RX5 107 RX1 yX1_size wsX1_size) := goodIn_app (goodIn_of _ (by decide +kernel)) ggX5_undo_X1_size
set_option maxRecDepth 20000 in
theorem ggX5_undo_X1_restore : GoodIn wsX5_undo wsX1_restore := goodIn_r _ [12, 13, 14, 8, 15, 16, 17, 18, 19, 20, 21, 22, 23, 24, 25, 26, 27, 28, 29, 30, 31, 32, 33, 34, 35, 36, 37, 38, 39, 40, 41, 42, 43, 44, 45, 51, 52, 53, 54, 55, 56, 57, 58, 59, 60, 61, 62, 63] (by decide +kernel) (by decide +kernel)
set_option maxRecDepth 20000 in
theorem gX5_undo_X1_restore : GoodIn wsX5_undo (wsV RX5 214 RX1 yX1_restore wsX1_restore) := goodIn_app (goodIn_of _ (by decide +kernel)) ggX5_undo_X1_restore
theorem dX5_undo_0 : decode cX5_undo 0 = .ok (.aload_n 0, 1) := by decide +kernel
theorem dX5_undo_1 : decode cX5_undo 1 = .ok (.getfield 29, 3) := by decide +kernel
theorem dX5_undo_4 : decode cX5_undo 4 = .ok (.invokevirtual 107, 3) := by decide +kernel
theorem dX5_undo_7 : decode cX5_undo 7 = .ok (.ifCond .ne 5, 3) := by decide +kernel
theorem dX5_undo_10 : decode cX5_undo 10 = .ok (.iconst (-1), 1) := by decide +kernel
theorem dX5_undo_11 : decode cX5_undo 11 = .ok (.ireturn, 1) := by decide +kernel
theorem dX5_undo_12 : decode cX5_undo 12 = .ok (.aload_n 0, 1) := by decide +kernel
theorem dX5_undo_13 : decode cX5_undo 13 = .ok (.getfield 29, 3) := by decide +kernel
theorem dX5_undo_16 : decode cX5_undo 16 = .ok (.aload_n 0, 1) := by decide +kernel
theorem dX5_undo_17 : decode cX5_undo 17 = .ok (.getfield 19, 3) := by decide +kernel
theorem dX5_undo_20 : decode cX5_undo 20 = .ok (.invokevirtual 214, 3) := by decide +kernel
theorem dX5_undo_23 : decode cX5_undo 23 = .ok (.aload_n 0, 1) := by decide +kernel
theorem dX5_undo_24 : decode cX5_undo 24 = .ok (.getfield 29, 3) := by decide +kernel
theorem dX5_undo_27 : decode cX5_undo 27 = .ok (.invokevirtual 107, 3) := by decide +kernel
theorem dX5_undo_30 : decode cX5_undo 30 = .ok (.ireturn, 1) := by decide +kernel
set_option maxRecDepth 20000 in
theorem ggX5_mayPay_X3_has : GoodIn wsX5_mayPay wsX3_has := goodIn_r _ [8, 9, 22, 23, 24] (by decide +kernel) (by decide +kernel)
set_option maxRecDepth 20000 in
theorem gX5_mayPay_X3_has : GoodIn wsX5_mayPay (wsV RX5 112 RX3 yX3_has wsX3_has) := goodIn_app (goodIn_of _ (by decide +kernel)) ggX5_mayPay_X3_has
theorem dX5_mayPay_0 : decode cX5_mayPay 0 = .ok (.aload_n 0, 1) := by decide +kernel
theorem dX5_mayPay_1 : decode cX5_mayPay 1 = .ok (.getfield 19, 3) := by decide +kernel
theorem dX5_mayPay_4 : decode cX5_mayPay 4 = .ok (.getfield 86, 3) := by decide +kernel
theorem dX5_mayPay_7 : decode cX5_mayPay 7 = .ok (.iload_n 1, 1) := by decide +kernel
theorem dX5_mayPay_8 : decode cX5_mayPay 8 = .ok (.invokevirtual 112, 3) := by decide +kernel
theorem dX5_mayPay_11 : decode cX5_mayPay 11 = .ok (.ifCond .eq 18, 3) := by decide +kernel
theorem dX5_mayPay_14 : decode cX5_mayPay 14 = .ok (.iload_n 2, 1) := by decide +kernel
theorem dX5_mayPay_15 : decode cX5_mayPay 15 = .ok (.iconst 1, 1) := by decide +kernel
theorem dX5_mayPay_16 : decode cX5_mayPay 16 = .ok (.if_icmp .lt 13, 3) := by decide +kernel
theorem dX5_mayPay_19 : decode cX5_mayPay 19 = .ok (.iload_n 2, 1) := by decide +kernel
theorem dX5_mayPay_20 : decode cX5_mayPay 20 = .ok (.ldc 217, 2) := by decide +kernel
theorem dX5_mayPay_22 : decode cX5_mayPay 22 = .ok (.if_icmp .gt 7, 3) := by decide +kernel
theorem dX5_mayPay_25 : decode cX5_mayPay 25 = .ok (.iconst 1, 1) := by decide +kernel
theorem dX5_mayPay_26 : decode cX5_mayPay 26 = .ok (.goto 4, 3) := by decide +kernel
theorem dX5_mayPay_29 : decode cX5_mayPay 29 = .ok (.iconst 0, 1) := by decide +kernel
theorem dX5_mayPay_30 : decode cX5_mayPay 30 = .ok (.ireturn, 1) := by decide +kernel
theorem dX5_isSum_0 : decode cX5_isSum 0 = .ok (.iload_n 0, 1) := by decide +kernel
theorem dX5_isSum_1 : decode cX5_isSum 1 = .ok (.iconst 1, 1) := by decide +kernel
theorem dX5_isSum_2 : decode cX5_isSum 2 = .ok (.if_icmp .lt 14, 3) := by decide +kernel
theorem dX5_isSum_5 : decode cX5_isSum 5 = .ok (.iload_n 0, 1) := by decide +kernel
theorem dX5_isSum_6 : decode cX5_isSum 6 = .ok (.sipush 9999, 3) := by decide +kernel
theorem dX5_isSum_9 : decode cX5_isSum 9 = .ok (.if_icmp .gt 7, 3) := by decide +kernel
theorem dX5_isSum_12 : decode cX5_isSum 12 = .ok (.iconst 1, 1) := by decide +kernel
theorem dX5_isSum_13 : decode cX5_isSum 13 = .ok (.goto 4, 3) := by decide +kernel
theorem dX5_isSum_16 : decode cX5_isSum 16 = .ok (.iconst 0, 1) := by decide +kernel
theorem dX5_isSum_17 : decode cX5_isSum 17 = .ok (.ireturn, 1) := by decide +kernel
theorem dX6_thrown_0 : decode cX6_thrown 0 = .ok (.aload_n 0, 1) := by decide +kernel
theorem dX6_thrown_1 : decode cX6_thrown 1 = .ok (.getfield 1, 3) := by decide +kernel
theorem dX6_thrown_4 : decode cX6_thrown 4 = .ok (.ireturn, 1) := by decide +kernel
theorem dX6_refuse_0 : decode cX6_refuse 0 = .ok (.aload_n 0, 1) := by decide +kernel
theorem dX6_refuse_1 : decode cX6_refuse 1 = .ok (.iconst 1, 1) := by decide +kernel
theorem dX6_refuse_2 : decode cX6_refuse 2 = .ok (.putfield 1, 3) := by decide +kernel
theorem dX6_refuse_5 : decode cX6_refuse 5 = .ok (.iconst 0, 1) := by decide +kernel
theorem dX6_refuse_6 : decode cX6_refuse 6 = .ok (.ireturn, 1) := by decide +kernel
theorem dX6_isIn_0 : decode cX6_isIn 0 = .ok (.iload_n 0, 1) := by decide +kernel
theorem dX6_isIn_1 : decode cX6_isIn 1 = .ok (.iload_n 1, 1) := by decide +kernel
theorem dX6_isIn_2 : decode cX6_isIn 2 = .ok (.if_icmp .lt 12, 3) := by decide +kernel
theorem dX6_isIn_5 : decode cX6_isIn 5 = .ok (.iload_n 0, 1) := by decide +kernel
theorem dX6_isIn_6 : decode cX6_isIn 6 = .ok (.iload_n 2, 1) := by decide +kernel
theorem dX6_isIn_7 : decode cX6_isIn 7 = .ok (.if_icmp .gt 7, 3) := by decide +kernel
theorem dX6_isIn_10 : decode cX6_isIn 10 = .ok (.iconst 1, 1) := by decide +kernel
theorem dX6_isIn_11 : decode cX6_isIn 11 = .ok (.goto 4, 3) := by decide +kernel
theorem dX6_isIn_14 : decode cX6_isIn 14 = .ok (.iconst 0, 1) := by decide +kernel
theorem dX6_isIn_15 : decode cX6_isIn 15 = .ok (.ireturn, 1) := by decide +kernel
theorem dX6_lays_0 : decode cX6_lays 0 = .ok (.bipush 24, 2) := by decide +kernel
theorem dX6_lays_2 : decode cX6_lays 2 = .ok (.istore_n 2, 1) := by decide +kernel
theorem dX6_lays_3 : decode cX6_lays 3 = .ok (.iload_n 2, 1) := by decide +kernel
theorem dX6_lays_4 : decode cX6_lays 4 = .ok (.ifCond .lt 35, 3) := by decide +kernel
theorem dX6_lays_7 : decode cX6_lays 7 = .ok (.aload_n 0, 1) := by decide +kernel
theorem dX6_lays_8 : decode cX6_lays 8 = .ok (.getfield 7, 3) := by decide +kernel
theorem dX6_lays_11 : decode cX6_lays 11 = .ok (.aload_n 0, 1) := by decide +kernel
theorem dX6_lays_12 : decode cX6_lays 12 = .ok (.getfield 11, 3) := by decide +kernel
theorem dX6_lays_15 : decode cX6_lays 15 = .ok (.iload_n 1, 1) := by decide +kernel
theorem dX6_lays_16 : decode cX6_lays 16 = .ok (.iload_n 2, 1) := by decide +kernel
theorem dX6_lays_17 : decode cX6_lays 17 = .ok (.iushr, 1) := by decide +kernel
theorem dX6_lays_18 : decode cX6_lays 18 = .ok (.sipush 255, 3) := by decide +kernel
theorem dX6_lays_21 : decode cX6_lays 21 = .ok (.iand, 1) := by decide +kernel
theorem dX6_lays_22 : decode cX6_lays 22 = .ok (.iastore, 1) := by decide +kernel
theorem dX6_lays_23 : decode cX6_lays 23 = .ok (.aload_n 0, 1) := by decide +kernel
theorem dX6_lays_24 : decode cX6_lays 24 = .ok (.dup, 1) := by decide +kernel
theorem dX6_lays_25 : decode cX6_lays 25 = .ok (.getfield 11, 3) := by decide +kernel
theorem dX6_lays_28 : decode cX6_lays 28 = .ok (.iconst 1, 1) := by decide +kernel
theorem dX6_lays_29 : decode cX6_lays 29 = .ok (.iadd, 1) := by decide +kernel
theorem dX6_lays_30 : decode cX6_lays 30 = .ok (.putfield 11, 3) := by decide +kernel
theorem dX6_lays_33 : decode cX6_lays 33 = .ok (.iinc 2 (-8), 3) := by decide +kernel
theorem dX6_lays_36 : decode cX6_lays 36 = .ok (.goto (-33), 3) := by decide +kernel
theorem dX6_lays_39 : decode cX6_lays 39 = .ok (.return_, 1) := by decide +kernel
set_option maxRecDepth 20000 in
theorem ggX6_feed_X6_lays : GoodIn wsX6_feed wsX6_lays := goodIn_r _ [7, 8, 2, 9, 10, 11, 12, 13, 14, 15, 16, 17, 18, 19, 20, 21, 22, 23, 24, 25, 26, 27, 28] (by decide +kernel) (by decide +kernel)
set_option maxRecDepth 20000 in
theorem gX6_feed_X6_lays : GoodIn wsX6_feed (wsV RX6 14 RX6 yX6_lays wsX6_lays) := goodIn_app (goodIn_of _ (by decide +kernel)) ggX6_feed_X6_lays
theorem dX6_feed_0 : decode cX6_feed 0 = .ok (.aload_n 0, 1) := by decide +kernel
theorem dX6_feed_1 : decode cX6_feed 1 = .ok (.iconst 0, 1) := by decide +kernel
theorem dX6_feed_2 : decode cX6_feed 2 = .ok (.putfield 1, 3) := by decide +kernel
theorem dX6_feed_5 : decode cX6_feed 5 = .ok (.aload_n 0, 1) := by decide +kernel
theorem dX6_feed_6 : decode cX6_feed 6 = .ok (.getfield 11, 3) := by decide +kernel
theorem dX6_feed_9 : decode cX6_feed 9 = .ok (.bipush 20, 2) := by decide +kernel
theorem dX6_feed_11 : decode cX6_feed 11 = .ok (.iadd, 1) := by decide +kernel
theorem dX6_feed_12 : decode cX6_feed 12 = .ok (.sipush 640, 3) := by decide +kernel
theorem dX6_feed_15 : decode cX6_feed 15 = .ok (.if_icmp .le 5, 3) := by decide +kernel
theorem dX6_feed_18 : decode cX6_feed 18 = .ok (.iconst (-1), 1) := by decide +kernel
theorem dX6_feed_19 : decode cX6_feed 19 = .ok (.ireturn, 1) := by decide +kernel
theorem dX6_feed_20 : decode cX6_feed 20 = .ok (.aload_n 0, 1) := by decide +kernel
theorem dX6_feed_21 : decode cX6_feed 21 = .ok (.iload_n 1, 1) := by decide +kernel
theorem dX6_feed_22 : decode cX6_feed 22 = .ok (.invokevirtual 14, 3) := by decide +kernel
theorem dX6_feed_25 : decode cX6_feed 25 = .ok (.aload_n 0, 1) := by decide +kernel
theorem dX6_feed_26 : decode cX6_feed 26 = .ok (.iload_n 2, 1) := by decide +kernel
theorem dX6_feed_27 : decode cX6_feed 27 = .ok (.invokevirtual 14, 3) := by decide +kernel
theorem dX6_feed_30 : decode cX6_feed 30 = .ok (.aload_n 0, 1) := by decide +kernel
theorem dX6_feed_31 : decode cX6_feed 31 = .ok (.iload_n 3, 1) := by decide +kernel
theorem dX6_feed_32 : decode cX6_feed 32 = .ok (.invokevirtual 14, 3) := by decide +kernel
theorem dX6_feed_35 : decode cX6_feed 35 = .ok (.aload_n 0, 1) := by decide +kernel
theorem dX6_feed_36 : decode cX6_feed 36 = .ok (.iload 4, 2) := by decide +kernel
theorem dX6_feed_38 : decode cX6_feed 38 = .ok (.invokevirtual 14, 3) := by decide +kernel
theorem dX6_feed_41 : decode cX6_feed 41 = .ok (.aload_n 0, 1) := by decide +kernel
theorem dX6_feed_42 : decode cX6_feed 42 = .ok (.iload 5, 2) := by decide +kernel
theorem dX6_feed_44 : decode cX6_feed 44 = .ok (.invokevirtual 14, 3) := by decide +kernel
theorem dX6_feed_47 : decode cX6_feed 47 = .ok (.aload_n 0, 1) := by decide +kernel
theorem dX6_feed_48 : decode cX6_feed 48 = .ok (.getfield 11, 3) := by decide +kernel
theorem dX6_feed_51 : decode cX6_feed 51 = .ok (.ireturn, 1) := by decide +kernel
theorem dX6_end_0 : decode cX6_end 0 = .ok (.aload_n 0, 1) := by decide +kernel
theorem dX6_end_1 : decode cX6_end 1 = .ok (.iconst 0, 1) := by decide +kernel
theorem dX6_end_2 : decode cX6_end 2 = .ok (.putfield 1, 3) := by decide +kernel
theorem dX6_end_5 : decode cX6_end 5 = .ok (.iload_n 1, 1) := by decide +kernel
theorem dX6_end_6 : decode cX6_end 6 = .ok (.ifCond .lt 11, 3) := by decide +kernel
theorem dX6_end_9 : decode cX6_end 9 = .ok (.iload_n 1, 1) := by decide +kernel
theorem dX6_end_10 : decode cX6_end 10 = .ok (.aload_n 0, 1) := by decide +kernel
theorem dX6_end_11 : decode cX6_end 11 = .ok (.getfield 11, 3) := by decide +kernel
theorem dX6_end_14 : decode cX6_end 14 = .ok (.if_icmp .le 5, 3) := by decide +kernel
theorem dX6_end_17 : decode cX6_end 17 = .ok (.iconst 0, 1) := by decide +kernel
theorem dX6_end_18 : decode cX6_end 18 = .ok (.ireturn, 1) := by decide +kernel
theorem dX6_end_19 : decode cX6_end 19 = .ok (.aload_n 0, 1) := by decide +kernel
theorem dX6_end_20 : decode cX6_end 20 = .ok (.iload_n 1, 1) := by decide +kernel
theorem dX6_end_21 : decode cX6_end 21 = .ok (.putfield 11, 3) := by decide +kernel
theorem dX6_end_24 : decode cX6_end 24 = .ok (.iconst 1, 1) := by decide +kernel
theorem dX6_end_25 : decode cX6_end 25 = .ok (.ireturn, 1) := by decide +kernel
theorem dX6_tapeAt_0 : decode cX6_tapeAt 0 = .ok (.iload_n 1, 1) := by decide +kernel
theorem dX6_tapeAt_1 : decode cX6_tapeAt 1 = .ok (.aload_n 0, 1) := by decide +kernel
theorem dX6_tapeAt_2 : decode cX6_tapeAt 2 = .ok (.getfield 18, 3) := by decide +kernel
theorem dX6_tapeAt_5 : decode cX6_tapeAt 5 = .ok (.if_icmp .ge 12, 3) := by decide +kernel
theorem dX6_tapeAt_8 : decode cX6_tapeAt 8 = .ok (.aload_n 0, 1) := by decide +kernel
theorem dX6_tapeAt_9 : decode cX6_tapeAt 9 = .ok (.getfield 7, 3) := by decide +kernel
theorem dX6_tapeAt_12 : decode cX6_tapeAt 12 = .ok (.iload_n 1, 1) := by decide +kernel
theorem dX6_tapeAt_13 : decode cX6_tapeAt 13 = .ok (.iaload, 1) := by decide +kernel
theorem dX6_tapeAt_14 : decode cX6_tapeAt 14 = .ok (.goto 4, 3) := by decide +kernel
theorem dX6_tapeAt_17 : decode cX6_tapeAt 17 = .ok (.iconst 0, 1) := by decide +kernel
theorem dX6_tapeAt_18 : decode cX6_tapeAt 18 = .ok (.ireturn, 1) := by decide +kernel
theorem dX6_isDigit_0 : decode cX6_isDigit 0 = .ok (.iload_n 0, 1) := by decide +kernel
theorem dX6_isDigit_1 : decode cX6_isDigit 1 = .ok (.bipush 48, 2) := by decide +kernel
theorem dX6_isDigit_3 : decode cX6_isDigit 3 = .ok (.if_icmp .lt 13, 3) := by decide +kernel
theorem dX6_isDigit_6 : decode cX6_isDigit 6 = .ok (.iload_n 0, 1) := by decide +kernel
theorem dX6_isDigit_7 : decode cX6_isDigit 7 = .ok (.bipush 57, 2) := by decide +kernel
theorem dX6_isDigit_9 : decode cX6_isDigit 9 = .ok (.if_icmp .gt 7, 3) := by decide +kernel
theorem dX6_isDigit_12 : decode cX6_isDigit 12 = .ok (.iconst 1, 1) := by decide +kernel
theorem dX6_isDigit_13 : decode cX6_isDigit 13 = .ok (.goto 4, 3) := by decide +kernel
theorem dX6_isDigit_16 : decode cX6_isDigit 16 = .ok (.iconst 0, 1) := by decide +kernel
theorem dX6_isDigit_17 : decode cX6_isDigit 17 = .ok (.ireturn, 1) := by decide +kernel
theorem dX6_isLetter_0 : decode cX6_isLetter 0 = .ok (.iload_n 0, 1) := by decide +kernel
theorem dX6_isLetter_1 : decode cX6_isLetter 1 = .ok (.bipush 97, 2) := by decide +kernel
theorem dX6_isLetter_3 : decode cX6_isLetter 3 = .ok (.if_icmp .lt 13, 3) := by decide +kernel
theorem dX6_isLetter_6 : decode cX6_isLetter 6 = .ok (.iload_n 0, 1) := by decide +kernel
theorem dX6_isLetter_7 : decode cX6_isLetter 7 = .ok (.bipush 122, 2) := by decide +kernel
theorem dX6_isLetter_9 : decode cX6_isLetter 9 = .ok (.if_icmp .gt 7, 3) := by decide +kernel
theorem dX6_isLetter_12 : decode cX6_isLetter 12 = .ok (.iconst 1, 1) := by decide +kernel
theorem dX6_isLetter_13 : decode cX6_isLetter 13 = .ok (.goto 4, 3) := by decide +kernel
theorem dX6_isLetter_16 : decode cX6_isLetter 16 = .ok (.iconst 0, 1) := by decide +kernel
theorem dX6_isLetter_17 : decode cX6_isLetter 17 = .ok (.ireturn, 1) := by decide +kernel
set_option maxRecDepth 20000 in
theorem ggX6_go_X6_isLetter : GoodIn wsX6_go wsX6_isLetter := goodIn_r _ [13] (by decide +kernel) (by decide +kernel)
set_option maxRecDepth 20000 in
theorem gX6_go_X6_isLetter : GoodIn wsX6_go (va_wsS RX6 30 yX6_isLetter wsX6_isLetter) := goodIn_app (goodIn_of _ (by decide +kernel)) ggX6_go_X6_isLetter
set_option maxRecDepth 20000 in
theorem ggX6_go_X6_isDigit : GoodIn wsX6_go wsX6_isDigit := goodIn_r _ [16] (by decide +kernel) (by decide +kernel)
set_option maxRecDepth 20000 in
theorem gX6_go_X6_isDigit : GoodIn wsX6_go (va_wsS RX6 34 yX6_isDigit wsX6_isDigit) := goodIn_app (goodIn_of _ (by decide +kernel)) ggX6_go_X6_isDigit
set_option maxRecDepth 20000 in
theorem ggX6_go_X6_tapeAt : GoodIn wsX6_go wsX6_tapeAt := goodIn_r _ [20, 2, 3, 21, 22, 23, 24, 25, 26, 27, 28, 29, 30, 31, 32, 33, 34, 35, 36, 37, 38, 39, 40] (by decide +kernel) (by decide +kernel)
set_option maxRecDepth 20000 in
theorem gX6_go_X6_tapeAt : GoodIn wsX6_go (wsV RX6 44 RX6 yX6_tapeAt wsX6_tapeAt) := goodIn_app (goodIn_of _ (by decide +kernel)) ggX6_go_X6_tapeAt
theorem dX6_go_0 : decode cX6_go 0 = .ok (.aload_n 0, 1) := by decide +kernel
theorem dX6_go_1 : decode cX6_go 1 = .ok (.getfield 21, 3) := by decide +kernel
theorem dX6_go_4 : decode cX6_go 4 = .ok (.aload_n 0, 1) := by decide +kernel
theorem dX6_go_5 : decode cX6_go 5 = .ok (.getfield 18, 3) := by decide +kernel
theorem dX6_go_8 : decode cX6_go 8 = .ok (.if_icmp .ge 44, 3) := by decide +kernel
theorem dX6_go_11 : decode cX6_go 11 = .ok (.aload_n 0, 1) := by decide +kernel
theorem dX6_go_12 : decode cX6_go 12 = .ok (.getfield 7, 3) := by decide +kernel
theorem dX6_go_15 : decode cX6_go 15 = .ok (.aload_n 0, 1) := by decide +kernel
theorem dX6_go_16 : decode cX6_go 16 = .ok (.getfield 21, 3) := by decide +kernel
theorem dX6_go_19 : decode cX6_go 19 = .ok (.iaload, 1) := by decide +kernel
theorem dX6_go_20 : decode cX6_go 20 = .ok (.bipush 32, 2) := by decide +kernel
theorem dX6_go_22 : decode cX6_go 22 = .ok (.if_icmp .eq 17, 3) := by decide +kernel
theorem dX6_go_25 : decode cX6_go 25 = .ok (.aload_n 0, 1) := by decide +kernel
theorem dX6_go_26 : decode cX6_go 26 = .ok (.getfield 7, 3) := by decide +kernel
theorem dX6_go_29 : decode cX6_go 29 = .ok (.aload_n 0, 1) := by decide +kernel
theorem dX6_go_30 : decode cX6_go 30 = .ok (.getfield 21, 3) := by decide +kernel
theorem dX6_go_33 : decode cX6_go 33 = .ok (.iaload, 1) := by decide +kernel
theorem dX6_go_34 : decode cX6_go 34 = .ok (.bipush 10, 2) := by decide +kernel
theorem dX6_go_36 : decode cX6_go 36 = .ok (.if_icmp .ne 16, 3) := by decide +kernel
theorem dX6_go_39 : decode cX6_go 39 = .ok (.aload_n 0, 1) := by decide +kernel
theorem dX6_go_40 : decode cX6_go 40 = .ok (.dup, 1) := by decide +kernel
theorem dX6_go_41 : decode cX6_go 41 = .ok (.getfield 21, 3) := by decide +kernel
theorem dX6_go_44 : decode cX6_go 44 = .ok (.iconst 1, 1) := by decide +kernel
theorem dX6_go_45 : decode cX6_go 45 = .ok (.iadd, 1) := by decide +kernel
theorem dX6_go_46 : decode cX6_go 46 = .ok (.putfield 21, 3) := by decide +kernel
theorem dX6_go_49 : decode cX6_go 49 = .ok (.goto (-49), 3) := by decide +kernel
theorem dX6_go_52 : decode cX6_go 52 = .ok (.aload_n 0, 1) := by decide +kernel
theorem dX6_go_53 : decode cX6_go 53 = .ok (.aload_n 0, 1) := by decide +kernel
theorem dX6_go_54 : decode cX6_go 54 = .ok (.getfield 21, 3) := by decide +kernel
theorem dX6_go_57 : decode cX6_go 57 = .ok (.putfield 24, 3) := by decide +kernel
theorem dX6_go_60 : decode cX6_go 60 = .ok (.aload_n 0, 1) := by decide +kernel
theorem dX6_go_61 : decode cX6_go 61 = .ok (.getfield 18, 3) := by decide +kernel
theorem dX6_go_64 : decode cX6_go 64 = .ok (.sipush 600, 3) := by decide +kernel
theorem dX6_go_67 : decode cX6_go 67 = .ok (.if_icmp .le 26, 3) := by decide +kernel
theorem dX6_go_70 : decode cX6_go 70 = .ok (.aload_n 0, 1) := by decide +kernel
theorem dX6_go_71 : decode cX6_go 71 = .ok (.getfield 24, 3) := by decide +kernel
theorem dX6_go_74 : decode cX6_go 74 = .ok (.sipush 600, 3) := by decide +kernel
theorem dX6_go_77 : decode cX6_go 77 = .ok (.if_icmp .lt 16, 3) := by decide +kernel
theorem dX6_go_80 : decode cX6_go 80 = .ok (.aload_n 0, 1) := by decide +kernel
theorem dX6_go_81 : decode cX6_go 81 = .ok (.sipush 600, 3) := by decide +kernel
theorem dX6_go_84 : decode cX6_go 84 = .ok (.putfield 24, 3) := by decide +kernel
theorem dX6_go_87 : decode cX6_go 87 = .ok (.aload_n 0, 1) := by decide +kernel
theorem dX6_go_88 : decode cX6_go 88 = .ok (.iconst 1, 1) := by decide +kernel
theorem dX6_go_89 : decode cX6_go 89 = .ok (.putfield 27, 3) := by decide +kernel
theorem dX6_go_92 : decode cX6_go 92 = .ok (.return_, 1) := by decide +kernel
theorem dX6_go_93 : decode cX6_go 93 = .ok (.aload_n 0, 1) := by decide +kernel
theorem dX6_go_94 : decode cX6_go 94 = .ok (.getfield 21, 3) := by decide +kernel
theorem dX6_go_97 : decode cX6_go 97 = .ok (.aload_n 0, 1) := by decide +kernel
theorem dX6_go_98 : decode cX6_go 98 = .ok (.getfield 18, 3) := by decide +kernel
theorem dX6_go_101 : decode cX6_go 101 = .ok (.if_icmp .lt 9, 3) := by decide +kernel
theorem dX6_go_104 : decode cX6_go 104 = .ok (.aload_n 0, 1) := by decide +kernel
theorem dX6_go_105 : decode cX6_go 105 = .ok (.iconst 0, 1) := by decide +kernel
theorem dX6_go_106 : decode cX6_go 106 = .ok (.putfield 27, 3) := by decide +kernel
theorem dX6_go_109 : decode cX6_go 109 = .ok (.return_, 1) := by decide +kernel
theorem dX6_go_110 : decode cX6_go 110 = .ok (.aload_n 0, 1) := by decide +kernel
theorem dX6_go_111 : decode cX6_go 111 = .ok (.getfield 7, 3) := by decide +kernel
theorem dX6_go_114 : decode cX6_go 114 = .ok (.aload_n 0, 1) := by decide +kernel
theorem dX6_go_115 : decode cX6_go 115 = .ok (.getfield 21, 3) := by decide +kernel
theorem dX6_go_118 : decode cX6_go 118 = .ok (.iaload, 1) := by decide +kernel
theorem dX6_go_119 : decode cX6_go 119 = .ok (.istore_n 1, 1) := by decide +kernel
theorem dX6_go_120 : decode cX6_go 120 = .ok (.iload_n 1, 1) := by decide +kernel
theorem dX6_go_121 : decode cX6_go 121 = .ok (.invokestatic 30, 3) := by decide +kernel
theorem dX6_go_124 : decode cX6_go 124 = .ok (.ifCond .ne 36, 3) := by decide +kernel
theorem dX6_go_127 : decode cX6_go 127 = .ok (.iload_n 1, 1) := by decide +kernel
theorem dX6_go_128 : decode cX6_go 128 = .ok (.invokestatic 34, 3) := by decide +kernel
theorem dX6_go_131 : decode cX6_go 131 = .ok (.ifCond .ne 29, 3) := by decide +kernel
theorem dX6_go_134 : decode cX6_go 134 = .ok (.aload_n 0, 1) := by decide +kernel
theorem dX6_go_135 : decode cX6_go 135 = .ok (.iload_n 1, 1) := by decide +kernel
theorem dX6_go_136 : decode cX6_go 136 = .ok (.bipush 59, 2) := by decide +kernel
theorem dX6_go_138 : decode cX6_go 138 = .ok (.if_icmp .ne 7, 3) := by decide +kernel
theorem dX6_go_141 : decode cX6_go 141 = .ok (.iconst 4, 1) := by decide +kernel
theorem dX6_go_142 : decode cX6_go 142 = .ok (.goto 4, 3) := by decide +kernel
theorem dX6_go_145 : decode cX6_go 145 = .ok (.iconst 1, 1) := by decide +kernel
theorem dX6_go_146 : decode cX6_go 146 = .ok (.putfield 27, 3) := by decide +kernel
theorem dX6_go_149 : decode cX6_go 149 = .ok (.aload_n 0, 1) := by decide +kernel
theorem dX6_go_150 : decode cX6_go 150 = .ok (.dup, 1) := by decide +kernel
theorem dX6_go_151 : decode cX6_go 151 = .ok (.getfield 21, 3) := by decide +kernel
theorem dX6_go_154 : decode cX6_go 154 = .ok (.iconst 1, 1) := by decide +kernel
theorem dX6_go_155 : decode cX6_go 155 = .ok (.iadd, 1) := by decide +kernel
theorem dX6_go_156 : decode cX6_go 156 = .ok (.putfield 21, 3) := by decide +kernel
theorem dX6_go_159 : decode cX6_go 159 = .ok (.return_, 1) := by decide +kernel
theorem dX6_go_160 : decode cX6_go 160 = .ok (.iload_n 1, 1) := by decide +kernel
theorem dX6_go_161 : decode cX6_go 161 = .ok (.invokestatic 30, 3) := by decide +kernel
theorem dX6_go_164 : decode cX6_go 164 = .ok (.istore_n 2, 1) := by decide +kernel
theorem dX6_go_165 : decode cX6_go 165 = .ok (.iconst 1, 1) := by decide +kernel
theorem dX6_go_166 : decode cX6_go 166 = .ok (.istore_n 3, 1) := by decide +kernel
theorem dX6_go_167 : decode cX6_go 167 = .ok (.aload_n 0, 1) := by decide +kernel
theorem dX6_go_168 : decode cX6_go 168 = .ok (.lconst 0, 1) := by decide +kernel
theorem dX6_go_169 : decode cX6_go 169 = .ok (.putfield 37, 3) := by decide +kernel
theorem dX6_go_172 : decode cX6_go 172 = .ok (.aload_n 0, 1) := by decide +kernel
theorem dX6_go_173 : decode cX6_go 173 = .ok (.iconst 0, 1) := by decide +kernel
theorem dX6_go_174 : decode cX6_go 174 = .ok (.putfield 41, 3) := by decide +kernel
theorem dX6_go_177 : decode cX6_go 177 = .ok (.aload_n 0, 1) := by decide +kernel
theorem dX6_go_178 : decode cX6_go 178 = .ok (.aload_n 0, 1) := by decide +kernel
theorem dX6_go_179 : decode cX6_go 179 = .ok (.getfield 21, 3) := by decide +kernel
theorem dX6_go_182 : decode cX6_go 182 = .ok (.invokevirtual 44, 3) := by decide +kernel
theorem dX6_go_185 : decode cX6_go 185 = .ok (.invokestatic 30, 3) := by decide +kernel
theorem dX6_go_188 : decode cX6_go 188 = .ok (.ifCond .ne 17, 3) := by decide +kernel
theorem dX6_go_191 : decode cX6_go 191 = .ok (.aload_n 0, 1) := by decide +kernel
theorem dX6_go_192 : decode cX6_go 192 = .ok (.aload_n 0, 1) := by decide +kernel
theorem dX6_go_193 : decode cX6_go 193 = .ok (.getfield 21, 3) := by decide +kernel
theorem dX6_go_196 : decode cX6_go 196 = .ok (.invokevirtual 44, 3) := by decide +kernel
theorem dX6_go_199 : decode cX6_go 199 = .ok (.invokestatic 34, 3) := by decide +kernel
theorem dX6_go_202 : decode cX6_go 202 = .ok (.ifCond .eq 110, 3) := by decide +kernel
theorem dX6_go_205 : decode cX6_go 205 = .ok (.aload_n 0, 1) := by decide +kernel
theorem dX6_go_206 : decode cX6_go 206 = .ok (.getfield 7, 3) := by decide +kernel
theorem dX6_go_209 : decode cX6_go 209 = .ok (.aload_n 0, 1) := by decide +kernel
theorem dX6_go_210 : decode cX6_go 210 = .ok (.getfield 21, 3) := by decide +kernel
theorem dX6_go_213 : decode cX6_go 213 = .ok (.iaload, 1) := by decide +kernel
theorem dX6_go_214 : decode cX6_go 214 = .ok (.istore 4, 2) := by decide +kernel
theorem dX6_go_216 : decode cX6_go 216 = .ok (.iload_n 3, 1) := by decide +kernel
theorem dX6_go_217 : decode cX6_go 217 = .ok (.ifCond .eq 16, 3) := by decide +kernel
theorem dX6_go_220 : decode cX6_go 220 = .ok (.iload 4, 2) := by decide +kernel
theorem dX6_go_222 : decode cX6_go 222 = .ok (.invokestatic 30, 3) := by decide +kernel
theorem dX6_go_225 : decode cX6_go 225 = .ok (.iload_n 2, 1) := by decide +kernel
theorem dX6_go_226 : decode cX6_go 226 = .ok (.if_icmp .ne 7, 3) := by decide +kernel
theorem dX6_go_229 : decode cX6_go 229 = .ok (.iconst 1, 1) := by decide +kernel
theorem dX6_go_230 : decode cX6_go 230 = .ok (.goto 4, 3) := by decide +kernel
theorem dX6_go_233 : decode cX6_go 233 = .ok (.iconst 0, 1) := by decide +kernel
theorem dX6_go_234 : decode cX6_go 234 = .ok (.istore_n 3, 1) := by decide +kernel
theorem dX6_go_235 : decode cX6_go 235 = .ok (.aload_n 0, 1) := by decide +kernel
theorem dX6_go_236 : decode cX6_go 236 = .ok (.getfield 21, 3) := by decide +kernel
theorem dX6_go_239 : decode cX6_go 239 = .ok (.aload_n 0, 1) := by decide +kernel
theorem dX6_go_240 : decode cX6_go 240 = .ok (.getfield 24, 3) := by decide +kernel
theorem dX6_go_243 : decode cX6_go 243 = .ok (.isub, 1) := by decide +kernel
theorem dX6_go_244 : decode cX6_go 244 = .ok (.bipush 8, 2) := by decide +kernel
theorem dX6_go_246 : decode cX6_go 246 = .ok (.if_icmp .ge 23, 3) := by decide +kernel
theorem dX6_go_249 : decode cX6_go 249 = .ok (.aload_n 0, 1) := by decide +kernel
theorem dX6_go_250 : decode cX6_go 250 = .ok (.ldc2_w 48, 3) := by decide +kernel
theorem dX6_go_253 : decode cX6_go 253 = .ok (.aload_n 0, 1) := by decide +kernel
theorem dX6_go_254 : decode cX6_go 254 = .ok (.getfield 37, 3) := by decide +kernel
theorem dX6_go_257 : decode cX6_go 257 = .ok (.lmul, 1) := by decide +kernel
theorem dX6_go_258 : decode cX6_go 258 = .ok (.iload 4, 2) := by decide +kernel
theorem dX6_go_260 : decode cX6_go 260 = .ok (.i2l, 1) := by decide +kernel
theorem dX6_go_261 : decode cX6_go 261 = .ok (.ladd, 1) := by decide +kernel
theorem dX6_go_262 : decode cX6_go 262 = .ok (.ldc2_w 50, 3) := by decide +kernel
theorem dX6_go_265 : decode cX6_go 265 = .ok (.lsub, 1) := by decide +kernel
theorem dX6_go_266 : decode cX6_go 266 = .ok (.putfield 37, 3) := by decide +kernel
theorem dX6_go_269 : decode cX6_go 269 = .ok (.aload_n 0, 1) := by decide +kernel
theorem dX6_go_270 : decode cX6_go 270 = .ok (.getfield 21, 3) := by decide +kernel
theorem dX6_go_273 : decode cX6_go 273 = .ok (.aload_n 0, 1) := by decide +kernel
theorem dX6_go_274 : decode cX6_go 274 = .ok (.getfield 24, 3) := by decide +kernel
theorem dX6_go_277 : decode cX6_go 277 = .ok (.isub, 1) := by decide +kernel
theorem dX6_go_278 : decode cX6_go 278 = .ok (.iconst 4, 1) := by decide +kernel
theorem dX6_go_279 : decode cX6_go 279 = .ok (.if_icmp .ge 20, 3) := by decide +kernel
theorem dX6_go_282 : decode cX6_go 282 = .ok (.aload_n 0, 1) := by decide +kernel
theorem dX6_go_283 : decode cX6_go 283 = .ok (.bipush 10, 2) := by decide +kernel
theorem dX6_go_285 : decode cX6_go 285 = .ok (.aload_n 0, 1) := by decide +kernel
theorem dX6_go_286 : decode cX6_go 286 = .ok (.getfield 41, 3) := by decide +kernel
theorem dX6_go_289 : decode cX6_go 289 = .ok (.imul, 1) := by decide +kernel
theorem dX6_go_290 : decode cX6_go 290 = .ok (.iload 4, 2) := by decide +kernel
theorem dX6_go_292 : decode cX6_go 292 = .ok (.iadd, 1) := by decide +kernel
theorem dX6_go_293 : decode cX6_go 293 = .ok (.bipush 48, 2) := by decide +kernel
theorem dX6_go_295 : decode cX6_go 295 = .ok (.isub, 1) := by decide +kernel
theorem dX6_go_296 : decode cX6_go 296 = .ok (.putfield 41, 3) := by decide +kernel
theorem dX6_go_299 : decode cX6_go 299 = .ok (.aload_n 0, 1) := by decide +kernel
theorem dX6_go_300 : decode cX6_go 300 = .ok (.dup, 1) := by decide +kernel
theorem dX6_go_301 : decode cX6_go 301 = .ok (.getfield 21, 3) := by decide +kernel
theorem dX6_go_304 : decode cX6_go 304 = .ok (.iconst 1, 1) := by decide +kernel
theorem dX6_go_305 : decode cX6_go 305 = .ok (.iadd, 1) := by decide +kernel
theorem dX6_go_306 : decode cX6_go 306 = .ok (.putfield 21, 3) := by decide +kernel
theorem dX6_go_309 : decode cX6_go 309 = .ok (.goto (-132), 3) := by decide +kernel
theorem dX6_go_312 : decode cX6_go 312 = .ok (.aload_n 0, 1) := by decide +kernel
theorem dX6_go_313 : decode cX6_go 313 = .ok (.iload_n 3, 1) := by decide +kernel
theorem dX6_go_314 : decode cX6_go 314 = .ok (.ifCond .eq 20, 3) := by decide +kernel
theorem dX6_go_317 : decode cX6_go 317 = .ok (.iload_n 2, 1) := by decide +kernel
theorem dX6_go_318 : decode cX6_go 318 = .ok (.ifCond .ne 20, 3) := by decide +kernel
theorem dX6_go_321 : decode cX6_go 321 = .ok (.aload_n 0, 1) := by decide +kernel
theorem dX6_go_322 : decode cX6_go 322 = .ok (.getfield 21, 3) := by decide +kernel
theorem dX6_go_325 : decode cX6_go 325 = .ok (.aload_n 0, 1) := by decide +kernel
theorem dX6_go_326 : decode cX6_go 326 = .ok (.getfield 24, 3) := by decide +kernel
theorem dX6_go_329 : decode cX6_go 329 = .ok (.isub, 1) := by decide +kernel
theorem dX6_go_330 : decode cX6_go 330 = .ok (.iconst 4, 1) := by decide +kernel
theorem dX6_go_331 : decode cX6_go 331 = .ok (.if_icmp .le 7, 3) := by decide +kernel
theorem dX6_go_334 : decode cX6_go 334 = .ok (.iconst 1, 1) := by decide +kernel
theorem dX6_go_335 : decode cX6_go 335 = .ok (.goto 12, 3) := by decide +kernel
theorem dX6_go_338 : decode cX6_go 338 = .ok (.iload_n 2, 1) := by decide +kernel
theorem dX6_go_339 : decode cX6_go 339 = .ok (.ifCond .eq 7, 3) := by decide +kernel
theorem dX6_go_342 : decode cX6_go 342 = .ok (.iconst 2, 1) := by decide +kernel
theorem dX6_go_343 : decode cX6_go 343 = .ok (.goto 4, 3) := by decide +kernel
theorem dX6_go_346 : decode cX6_go 346 = .ok (.iconst 3, 1) := by decide +kernel
theorem dX6_go_347 : decode cX6_go 347 = .ok (.putfield 27, 3) := by decide +kernel
theorem dX6_go_350 : decode cX6_go 350 = .ok (.return_, 1) := by decide +kernel
theorem dX6_three_0 : decode cX6_three 0 = .ok (.ldc2_w 48, 3) := by decide +kernel
theorem dX6_three_3 : decode cX6_three 3 = .ok (.ldc2_w 48, 3) := by decide +kernel
theorem dX6_three_6 : decode cX6_three 6 = .ok (.iload_n 0, 1) := by decide +kernel
theorem dX6_three_7 : decode cX6_three 7 = .ok (.i2l, 1) := by decide +kernel
theorem dX6_three_8 : decode cX6_three 8 = .ok (.ldc2_w 50, 3) := by decide +kernel
theorem dX6_three_11 : decode cX6_three 11 = .ok (.lsub, 1) := by decide +kernel
theorem dX6_three_12 : decode cX6_three 12 = .ok (.lmul, 1) := by decide +kernel
theorem dX6_three_13 : decode cX6_three 13 = .ok (.iload_n 1, 1) := by decide +kernel
theorem dX6_three_14 : decode cX6_three 14 = .ok (.i2l, 1) := by decide +kernel
theorem dX6_three_15 : decode cX6_three 15 = .ok (.ladd, 1) := by decide +kernel
theorem dX6_three_16 : decode cX6_three 16 = .ok (.ldc2_w 50, 3) := by decide +kernel
theorem dX6_three_19 : decode cX6_three 19 = .ok (.lsub, 1) := by decide +kernel
theorem dX6_three_20 : decode cX6_three 20 = .ok (.lmul, 1) := by decide +kernel
theorem dX6_three_21 : decode cX6_three 21 = .ok (.iload_n 2, 1) := by decide +kernel
theorem dX6_three_22 : decode cX6_three 22 = .ok (.i2l, 1) := by decide +kernel
theorem dX6_three_23 : decode cX6_three 23 = .ok (.ladd, 1) := by decide +kernel
theorem dX6_three_24 : decode cX6_three 24 = .ok (.ldc2_w 50, 3) := by decide +kernel
theorem dX6_three_27 : decode cX6_three 27 = .ok (.lsub, 1) := by decide +kernel
theorem dX6_three_28 : decode cX6_three 28 = .ok (.lreturn, 1) := by decide +kernel
set_option maxRecDepth 20000 in
theorem ggX6_six_X6_three : GoodIn wsX6_six wsX6_three := goodIn_r _ [5, 6, 7] (by decide +kernel) (by decide +kernel)
set_option maxRecDepth 20000 in
theorem gX6_six_X6_three : GoodIn wsX6_six (va_wsS RX6 54 yX6_three wsX6_three) := goodIn_app (goodIn_of _ (by decide +kernel)) ggX6_six_X6_three
theorem dX6_six_0 : decode cX6_six 0 = .ok (.ldc2_w 52, 3) := by decide +kernel
theorem dX6_six_3 : decode cX6_six 3 = .ok (.iload_n 0, 1) := by decide +kernel
theorem dX6_six_4 : decode cX6_six 4 = .ok (.iload_n 1, 1) := by decide +kernel
theorem dX6_six_5 : decode cX6_six 5 = .ok (.iload_n 2, 1) := by decide +kernel
theorem dX6_six_6 : decode cX6_six 6 = .ok (.invokestatic 54, 3) := by decide +kernel
theorem dX6_six_9 : decode cX6_six 9 = .ok (.lmul, 1) := by decide +kernel
theorem dX6_six_10 : decode cX6_six 10 = .ok (.iload_n 3, 1) := by decide +kernel
theorem dX6_six_11 : decode cX6_six 11 = .ok (.iload 4, 2) := by decide +kernel
theorem dX6_six_13 : decode cX6_six 13 = .ok (.iload 5, 2) := by decide +kernel

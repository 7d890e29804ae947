theorem dX6_steps_146 : decode cX6_steps 146 = .ok (.getfield 70, 3) := by decide +kernel
theorem dX6_steps_149 : decode cX6_steps 149 = .ok (.iload 4, 2) := by decide +kernel
theorem dX6_steps_151 : decode cX6_steps 151 = .ok (.iconst 2, 1) := by decide +kernel
theorem dX6_steps_152 : decode cX6_steps 152 = .ok (.iadd, 1) := by decide +kernel
theorem dX6_steps_153 : decode cX6_steps 153 = .ok (.iaload, 1) := by decide +kernel
theorem dX6_steps_154 : decode cX6_steps 154 = .ok (.aload_n 0, 1) := by decide +kernel
theorem dX6_steps_155 : decode cX6_steps 155 = .ok (.invokevirtual 173, 3) := by decide +kernel
theorem dX6_steps_158 : decode cX6_steps 158 = .ok (.iconst 1, 1) := by decide +kernel
theorem dX6_steps_159 : decode cX6_steps 159 = .ok (.invokevirtual 186, 3) := by decide +kernel
theorem dX6_steps_162 : decode cX6_steps 162 = .ok (.pop, 1) := by decide +kernel
theorem dX6_steps_163 : decode cX6_steps 163 = .ok (.aload_n 0, 1) := by decide +kernel
theorem dX6_steps_164 : decode cX6_steps 164 = .ok (.iload_n 1, 1) := by decide +kernel
theorem dX6_steps_165 : decode cX6_steps 165 = .ok (.putfield 190, 3) := by decide +kernel
theorem dX6_steps_168 : decode cX6_steps 168 = .ok (.return_, 1) := by decide +kernel
set_option maxRecDepth 20000 in
theorem ggX6_ends_X6_billed : GoodIn wsX6_ends wsX6_billed := goodIn_r _ [9, 1, 82, 83, 84, 85, 86, 87, 88, 89, 90, 91, 92, 93, 94, 95, 96, 97, 98, 99, 100, 101] (by decide +kernel) (by decide +kernel)
set_option maxRecDepth 20000 in
theorem gX6_ends_X6_billed : GoodIn wsX6_ends (wsV RX6 140 RX6 yX6_billed wsX6_billed) := goodIn_app (goodIn_of _ (by decide +kernel)) ggX6_ends_X6_billed
set_option maxRecDepth 20000 in
theorem ggX6_ends_X6_counts : GoodIn wsX6_ends wsX6_counts := goodIn_r _ [13, 5, 6, 7, 8, 9, 1, 82, 83, 84, 85, 86, 87, 88, 89, 90, 91, 92, 93, 94, 95, 96, 97, 98, 99, 100, 101] (by decide +kernel) (by decide +kernel)
set_option maxRecDepth 20000 in
theorem gX6_ends_X6_counts : GoodIn wsX6_ends (wsV RX6 144 RX6 yX6_counts wsX6_counts) := goodIn_app (goodIn_of _ (by decide +kernel)) ggX6_ends_X6_counts
set_option maxRecDepth 20000 in
theorem ggX6_ends_X6_today : GoodIn wsX6_ends wsX6_today := goodIn_r _ [17, 1, 82, 83, 84, 85, 86, 87, 88, 89, 90, 91, 92, 93, 94, 95, 96, 97, 98, 99, 100, 101] (by decide +kernel) (by decide +kernel)
set_option maxRecDepth 20000 in
theorem gX6_ends_X6_today : GoodIn wsX6_ends (wsV RX6 173 RX6 yX6_today wsX6_today) := goodIn_app (goodIn_of _ (by decide +kernel)) ggX6_ends_X6_today
set_option maxRecDepth 20000 in
theorem ggX6_ends_X6_isStopped : GoodIn wsX6_ends wsX6_isStopped := goodIn_r _ [21, 22, 23, 24, 8, 25, 1, 82, 83, 84, 85, 86, 87, 88, 89, 90, 91, 92, 93, 94, 95, 96, 97, 98, 99, 100, 101] (by decide +kernel) (by decide +kernel)
set_option maxRecDepth 20000 in
theorem gX6_ends_X6_isStopped : GoodIn wsX6_ends (wsV RX6 183 RX6 yX6_isStopped wsX6_isStopped) := goodIn_app (goodIn_of _ (by decide +kernel)) ggX6_ends_X6_isStopped
set_option maxRecDepth 20000 in
theorem ggX6_ends_X6_endsPromise : GoodIn wsX6_ends wsX6_endsPromise := goodIn_r _ [29, 22, 23, 24, 8, 25, 1, 14, 15, 16, 17, 30, 31, 32, 33, 82, 83, 84, 85, 86, 87, 88, 89, 90, 91, 92, 93, 94, 95, 96, 97, 98, 99, 100, 101] (by decide +kernel) (by decide +kernel)
set_option maxRecDepth 20000 in
theorem gX6_ends_X6_endsPromise : GoodIn wsX6_ends (wsV RX6 193 RX6 yX6_endsPromise wsX6_endsPromise) := goodIn_app (goodIn_of _ (by decide +kernel)) ggX6_ends_X6_endsPromise
set_option maxRecDepth 20000 in
theorem ggX6_ends_X6_its : GoodIn wsX6_ends wsX6_its := goodIn_r _ [25, 1, 82, 83, 84, 85, 86, 87, 88, 89, 90, 91, 92, 93, 94, 95, 96, 97, 98, 99, 100, 101] (by decide +kernel) (by decide +kernel)
set_option maxRecDepth 20000 in
theorem gX6_ends_X6_its : GoodIn wsX6_ends (wsV RX6 148 RX6 yX6_its wsX6_its) := goodIn_app (goodIn_of _ (by decide +kernel)) ggX6_ends_X6_its
set_option maxRecDepth 20000 in
theorem ggX6_ends_X6_endsPlan : GoodIn wsX6_ends wsX6_endsPlan := goodIn_r _ [37, 22, 23, 24, 8, 25, 1, 38, 39, 40, 41, 10, 11, 12, 13, 5, 6, 7, 9, 42, 43, 44, 45, 14, 15, 16, 17, 30, 31, 32, 33, 82, 83, 84, 85, 86, 87, 88, 89, 90, 91, 92, 93, 94, 95, 96, 97, 98, 99, 100, 101] (by decide +kernel) (by decide +kernel)
set_option maxRecDepth 20000 in
theorem gX6_ends_X6_endsPlan : GoodIn wsX6_ends (wsV RX6 196 RX6 yX6_endsPlan wsX6_endsPlan) := goodIn_app (goodIn_of _ (by decide +kernel)) ggX6_ends_X6_endsPlan
set_option maxRecDepth 20000 in
theorem ggX6_ends_X6_steps : GoodIn wsX6_ends wsX6_steps := goodIn_r _ [49, 1, 3, 50, 51, 52, 8, 53, 10, 11, 12, 13, 5, 6, 7, 9, 54, 55, 56, 57, 22, 23, 24, 25, 30, 31, 32, 33, 18, 19, 20, 21, 14, 15, 16, 17, 58, 59, 60, 61, 62, 63, 64, 65, 82, 83, 84, 85, 86, 87, 88, 89, 90, 91, 92, 93, 94, 95, 96, 97, 98, 99, 100, 101] (by decide +kernel) (by decide +kernel)
set_option maxRecDepth 20000 in
theorem gX6_ends_X6_steps : GoodIn wsX6_ends (wsV RX6 203 RX6 yX6_steps wsX6_steps) := goodIn_app (goodIn_of _ (by decide +kernel)) ggX6_ends_X6_steps
set_option maxRecDepth 20000 in
theorem ggX6_ends_X6_releases : GoodIn wsX6_ends wsX6_releases := goodIn_r _ [69, 1, 70, 71, 72, 8, 73, 22, 23, 24, 25, 74, 75, 76, 77, 78, 79, 80, 81, 5, 6, 7, 9, 82, 83, 84, 85, 86, 87, 88, 89, 90, 91, 92, 93, 94, 95, 96, 97, 98, 99, 100, 101] (by decide +kernel) (by decide +kernel)
set_option maxRecDepth 20000 in
theorem gX6_ends_X6_releases : GoodIn wsX6_ends (wsV RX6 209 RX6 yX6_releases wsX6_releases) := goodIn_app (goodIn_of _ (by decide +kernel)) ggX6_ends_X6_releases
theorem dX6_ends_0 : decode cX6_ends 0 = .ok (.iconst 0, 1) := by decide +kernel
theorem dX6_ends_1 : decode cX6_ends 1 = .ok (.istore_n 1, 1) := by decide +kernel
theorem dX6_ends_2 : decode cX6_ends 2 = .ok (.iload_n 1, 1) := by decide +kernel
theorem dX6_ends_3 : decode cX6_ends 3 = .ok (.aload_n 0, 1) := by decide +kernel
theorem dX6_ends_4 : decode cX6_ends 4 = .ok (.getfield 70, 3) := by decide +kernel
theorem dX6_ends_7 : decode cX6_ends 7 = .ok (.iconst 4, 1) := by decide +kernel
theorem dX6_ends_8 : decode cX6_ends 8 = .ok (.iaload, 1) := by decide +kernel
theorem dX6_ends_9 : decode cX6_ends 9 = .ok (.if_icmp .ge 68, 3) := by decide +kernel
theorem dX6_ends_12 : decode cX6_ends 12 = .ok (.aload_n 0, 1) := by decide +kernel
theorem dX6_ends_13 : decode cX6_ends 13 = .ok (.iload_n 1, 1) := by decide +kernel
theorem dX6_ends_14 : decode cX6_ends 14 = .ok (.aload_n 0, 1) := by decide +kernel
theorem dX6_ends_15 : decode cX6_ends 15 = .ok (.iload_n 1, 1) := by decide +kernel
theorem dX6_ends_16 : decode cX6_ends 16 = .ok (.iconst 0, 1) := by decide +kernel
theorem dX6_ends_17 : decode cX6_ends 17 = .ok (.invokevirtual 140, 3) := by decide +kernel
theorem dX6_ends_20 : decode cX6_ends 20 = .ok (.invokevirtual 144, 3) := by decide +kernel
theorem dX6_ends_23 : decode cX6_ends 23 = .ok (.ifCond .eq 48, 3) := by decide +kernel
theorem dX6_ends_26 : decode cX6_ends 26 = .ok (.aload_n 0, 1) := by decide +kernel
theorem dX6_ends_27 : decode cX6_ends 27 = .ok (.invokevirtual 173, 3) := by decide +kernel
theorem dX6_ends_30 : decode cX6_ends 30 = .ok (.aload_n 0, 1) := by decide +kernel
theorem dX6_ends_31 : decode cX6_ends 31 = .ok (.iload_n 1, 1) := by decide +kernel
theorem dX6_ends_32 : decode cX6_ends 32 = .ok (.iconst 3, 1) := by decide +kernel
theorem dX6_ends_33 : decode cX6_ends 33 = .ok (.invokevirtual 140, 3) := by decide +kernel
theorem dX6_ends_36 : decode cX6_ends 36 = .ok (.if_icmp .lt 35, 3) := by decide +kernel
theorem dX6_ends_39 : decode cX6_ends 39 = .ok (.aload_n 0, 1) := by decide +kernel
theorem dX6_ends_40 : decode cX6_ends 40 = .ok (.aload_n 0, 1) := by decide +kernel
theorem dX6_ends_41 : decode cX6_ends 41 = .ok (.iload_n 1, 1) := by decide +kernel
theorem dX6_ends_42 : decode cX6_ends 42 = .ok (.iconst 0, 1) := by decide +kernel
theorem dX6_ends_43 : decode cX6_ends 43 = .ok (.invokevirtual 140, 3) := by decide +kernel
theorem dX6_ends_46 : decode cX6_ends 46 = .ok (.invokevirtual 183, 3) := by decide +kernel
theorem dX6_ends_49 : decode cX6_ends 49 = .ok (.ifCond .ne 22, 3) := by decide +kernel
theorem dX6_ends_52 : decode cX6_ends 52 = .ok (.aload_n 0, 1) := by decide +kernel
theorem dX6_ends_53 : decode cX6_ends 53 = .ok (.getfield 70, 3) := by decide +kernel
theorem dX6_ends_56 : decode cX6_ends 56 = .ok (.sipush 205, 3) := by decide +kernel
theorem dX6_ends_59 : decode cX6_ends 59 = .ok (.bipush 7, 2) := by decide +kernel
theorem dX6_ends_61 : decode cX6_ends 61 = .ok (.iload_n 1, 1) := by decide +kernel
theorem dX6_ends_62 : decode cX6_ends 62 = .ok (.imul, 1) := by decide +kernel
theorem dX6_ends_63 : decode cX6_ends 63 = .ok (.iadd, 1) := by decide +kernel
theorem dX6_ends_64 : decode cX6_ends 64 = .ok (.iconst 4, 1) := by decide +kernel
theorem dX6_ends_65 : decode cX6_ends 65 = .ok (.iadd, 1) := by decide +kernel
theorem dX6_ends_66 : decode cX6_ends 66 = .ok (.dup2, 1) := by decide +kernel
theorem dX6_ends_67 : decode cX6_ends 67 = .ok (.iaload, 1) := by decide +kernel
theorem dX6_ends_68 : decode cX6_ends 68 = .ok (.iconst 1, 1) := by decide +kernel
theorem dX6_ends_69 : decode cX6_ends 69 = .ok (.iadd, 1) := by decide +kernel
theorem dX6_ends_70 : decode cX6_ends 70 = .ok (.iastore, 1) := by decide +kernel
theorem dX6_ends_71 : decode cX6_ends 71 = .ok (.iinc 1 1, 3) := by decide +kernel
theorem dX6_ends_74 : decode cX6_ends 74 = .ok (.goto (-72), 3) := by decide +kernel
theorem dX6_ends_77 : decode cX6_ends 77 = .ok (.iconst 0, 1) := by decide +kernel
theorem dX6_ends_78 : decode cX6_ends 78 = .ok (.istore_n 1, 1) := by decide +kernel
theorem dX6_ends_79 : decode cX6_ends 79 = .ok (.iload_n 1, 1) := by decide +kernel
theorem dX6_ends_80 : decode cX6_ends 80 = .ok (.aload_n 0, 1) := by decide +kernel
theorem dX6_ends_81 : decode cX6_ends 81 = .ok (.getfield 70, 3) := by decide +kernel
theorem dX6_ends_84 : decode cX6_ends 84 = .ok (.iconst 3, 1) := by decide +kernel
theorem dX6_ends_85 : decode cX6_ends 85 = .ok (.iaload, 1) := by decide +kernel
theorem dX6_ends_86 : decode cX6_ends 86 = .ok (.if_icmp .ge 29, 3) := by decide +kernel
theorem dX6_ends_89 : decode cX6_ends 89 = .ok (.aload_n 0, 1) := by decide +kernel
theorem dX6_ends_90 : decode cX6_ends 90 = .ok (.iload_n 1, 1) := by decide +kernel
theorem dX6_ends_91 : decode cX6_ends 91 = .ok (.invokevirtual 193, 3) := by decide +kernel
theorem dX6_ends_94 : decode cX6_ends 94 = .ok (.aload_n 0, 1) := by decide +kernel
theorem dX6_ends_95 : decode cX6_ends 95 = .ok (.iload_n 1, 1) := by decide +kernel
theorem dX6_ends_96 : decode cX6_ends 96 = .ok (.bipush 9, 2) := by decide +kernel
theorem dX6_ends_98 : decode cX6_ends 98 = .ok (.invokevirtual 148, 3) := by decide +kernel
theorem dX6_ends_101 : decode cX6_ends 101 = .ok (.ifCond .le 8, 3) := by decide +kernel
theorem dX6_ends_104 : decode cX6_ends 104 = .ok (.aload_n 0, 1) := by decide +kernel
theorem dX6_ends_105 : decode cX6_ends 105 = .ok (.iload_n 1, 1) := by decide +kernel
theorem dX6_ends_106 : decode cX6_ends 106 = .ok (.invokevirtual 196, 3) := by decide +kernel
theorem dX6_ends_109 : decode cX6_ends 109 = .ok (.iinc 1 1, 3) := by decide +kernel
theorem dX6_ends_112 : decode cX6_ends 112 = .ok (.goto (-33), 3) := by decide +kernel
theorem dX6_ends_115 : decode cX6_ends 115 = .ok (.aload_n 0, 1) := by decide +kernel
theorem dX6_ends_116 : decode cX6_ends 116 = .ok (.getfield 70, 3) := by decide +kernel
theorem dX6_ends_119 : decode cX6_ends 119 = .ok (.iconst 0, 1) := by decide +kernel
theorem dX6_ends_120 : decode cX6_ends 120 = .ok (.dup2, 1) := by decide +kernel
theorem dX6_ends_121 : decode cX6_ends 121 = .ok (.iaload, 1) := by decide +kernel
theorem dX6_ends_122 : decode cX6_ends 122 = .ok (.iconst 1, 1) := by decide +kernel
theorem dX6_ends_123 : decode cX6_ends 123 = .ok (.iadd, 1) := by decide +kernel
theorem dX6_ends_124 : decode cX6_ends 124 = .ok (.iastore, 1) := by decide +kernel
theorem dX6_ends_125 : decode cX6_ends 125 = .ok (.aload_n 0, 1) := by decide +kernel
theorem dX6_ends_126 : decode cX6_ends 126 = .ok (.iconst 0, 1) := by decide +kernel
theorem dX6_ends_127 : decode cX6_ends 127 = .ok (.putfield 199, 3) := by decide +kernel
theorem dX6_ends_130 : decode cX6_ends 130 = .ok (.iconst 0, 1) := by decide +kernel
theorem dX6_ends_131 : decode cX6_ends 131 = .ok (.istore_n 1, 1) := by decide +kernel
theorem dX6_ends_132 : decode cX6_ends 132 = .ok (.iload_n 1, 1) := by decide +kernel
theorem dX6_ends_133 : decode cX6_ends 133 = .ok (.aload_n 0, 1) := by decide +kernel
theorem dX6_ends_134 : decode cX6_ends 134 = .ok (.getfield 70, 3) := by decide +kernel
theorem dX6_ends_137 : decode cX6_ends 137 = .ok (.iconst 3, 1) := by decide +kernel
theorem dX6_ends_138 : decode cX6_ends 138 = .ok (.iaload, 1) := by decide +kernel
theorem dX6_ends_139 : decode cX6_ends 139 = .ok (.if_icmp .ge 46, 3) := by decide +kernel
theorem dX6_ends_142 : decode cX6_ends 142 = .ok (.aload_n 0, 1) := by decide +kernel
theorem dX6_ends_143 : decode cX6_ends 143 = .ok (.iconst (-1), 1) := by decide +kernel
theorem dX6_ends_144 : decode cX6_ends 144 = .ok (.putfield 190, 3) := by decide +kernel
theorem dX6_ends_147 : decode cX6_ends 147 = .ok (.aload_n 0, 1) := by decide +kernel
theorem dX6_ends_148 : decode cX6_ends 148 = .ok (.iload_n 1, 1) := by decide +kernel
theorem dX6_ends_149 : decode cX6_ends 149 = .ok (.invokevirtual 203, 3) := by decide +kernel
theorem dX6_ends_152 : decode cX6_ends 152 = .ok (.aload_n 0, 1) := by decide +kernel
theorem dX6_ends_153 : decode cX6_ends 153 = .ok (.aload_n 0, 1) := by decide +kernel
theorem dX6_ends_154 : decode cX6_ends 154 = .ok (.getfield 199, 3) := by decide +kernel
theorem dX6_ends_157 : decode cX6_ends 157 = .ok (.ifCond .ne 14, 3) := by decide +kernel
theorem dX6_ends_160 : decode cX6_ends 160 = .ok (.aload_n 0, 1) := by decide +kernel
theorem dX6_ends_161 : decode cX6_ends 161 = .ok (.getfield 190, 3) := by decide +kernel
theorem dX6_ends_164 : decode cX6_ends 164 = .ok (.aload_n 0, 1) := by decide +kernel
theorem dX6_ends_165 : decode cX6_ends 165 = .ok (.getfield 206, 3) := by decide +kernel
theorem dX6_ends_168 : decode cX6_ends 168 = .ok (.if_icmp .ne 7, 3) := by decide +kernel
theorem dX6_ends_171 : decode cX6_ends 171 = .ok (.iconst 1, 1) := by decide +kernel
theorem dX6_ends_172 : decode cX6_ends 172 = .ok (.goto 4, 3) := by decide +kernel
theorem dX6_ends_175 : decode cX6_ends 175 = .ok (.iconst 0, 1) := by decide +kernel
theorem dX6_ends_176 : decode cX6_ends 176 = .ok (.putfield 199, 3) := by decide +kernel
theorem dX6_ends_179 : decode cX6_ends 179 = .ok (.iinc 1 1, 3) := by decide +kernel
theorem dX6_ends_182 : decode cX6_ends 182 = .ok (.goto (-50), 3) := by decide +kernel
theorem dX6_ends_185 : decode cX6_ends 185 = .ok (.iconst 0, 1) := by decide +kernel
theorem dX6_ends_186 : decode cX6_ends 186 = .ok (.istore_n 1, 1) := by decide +kernel
theorem dX6_ends_187 : decode cX6_ends 187 = .ok (.iload_n 1, 1) := by decide +kernel
theorem dX6_ends_188 : decode cX6_ends 188 = .ok (.aload_n 0, 1) := by decide +kernel
theorem dX6_ends_189 : decode cX6_ends 189 = .ok (.getfield 70, 3) := by decide +kernel
theorem dX6_ends_192 : decode cX6_ends 192 = .ok (.iconst 3, 1) := by decide +kernel
theorem dX6_ends_193 : decode cX6_ends 193 = .ok (.iaload, 1) := by decide +kernel
theorem dX6_ends_194 : decode cX6_ends 194 = .ok (.if_icmp .ge 15, 3) := by decide +kernel
theorem dX6_ends_197 : decode cX6_ends 197 = .ok (.aload_n 0, 1) := by decide +kernel
theorem dX6_ends_198 : decode cX6_ends 198 = .ok (.iload_n 1, 1) := by decide +kernel
theorem dX6_ends_199 : decode cX6_ends 199 = .ok (.invokevirtual 209, 3) := by decide +kernel
theorem dX6_ends_202 : decode cX6_ends 202 = .ok (.pop, 1) := by decide +kernel
theorem dX6_ends_203 : decode cX6_ends 203 = .ok (.iinc 1 1, 3) := by decide +kernel
theorem dX6_ends_206 : decode cX6_ends 206 = .ok (.goto (-19), 3) := by decide +kernel
theorem dX6_ends_209 : decode cX6_ends 209 = .ok (.return_, 1) := by decide +kernel
set_option maxRecDepth 20000 in
theorem ggX6_allOf_X6_owes : GoodIn wsX6_allOf wsX6_owes := goodIn_r _ [6, 1, 7, 8, 9, 5, 10, 15, 16, 17, 18, 19, 20, 21, 22, 23, 24, 25, 26, 27, 28, 29, 30, 31, 32, 33, 34] (by decide +kernel) (by decide +kernel)
set_option maxRecDepth 20000 in
theorem gX6_allOf_X6_owes : GoodIn wsX6_allOf (wsV RX6 151 RX6 yX6_owes wsX6_owes) := goodIn_app (goodIn_of _ (by decide +kernel)) ggX6_allOf_X6_owes
set_option maxRecDepth 20000 in
theorem ggX6_allOf_X6_its : GoodIn wsX6_allOf wsX6_its := goodIn_r _ [14, 1, 15, 16, 17, 18, 19, 20, 21, 22, 23, 24, 25, 26, 27, 28, 29, 30, 31, 32, 33, 34] (by decide +kernel) (by decide +kernel)
set_option maxRecDepth 20000 in
theorem gX6_allOf_X6_its : GoodIn wsX6_allOf (wsV RX6 148 RX6 yX6_its wsX6_its) := goodIn_app (goodIn_of _ (by decide +kernel)) ggX6_allOf_X6_its
theorem dX6_allOf_0 : decode cX6_allOf 0 = .ok (.iconst 0, 1) := by decide +kernel
theorem dX6_allOf_1 : decode cX6_allOf 1 = .ok (.istore_n 2, 1) := by decide +kernel
theorem dX6_allOf_2 : decode cX6_allOf 2 = .ok (.iconst 0, 1) := by decide +kernel
theorem dX6_allOf_3 : decode cX6_allOf 3 = .ok (.istore_n 3, 1) := by decide +kernel
theorem dX6_allOf_4 : decode cX6_allOf 4 = .ok (.iload_n 3, 1) := by decide +kernel
theorem dX6_allOf_5 : decode cX6_allOf 5 = .ok (.aload_n 0, 1) := by decide +kernel
theorem dX6_allOf_6 : decode cX6_allOf 6 = .ok (.getfield 70, 3) := by decide +kernel
theorem dX6_allOf_9 : decode cX6_allOf 9 = .ok (.iconst 3, 1) := by decide +kernel
theorem dX6_allOf_10 : decode cX6_allOf 10 = .ok (.iaload, 1) := by decide +kernel
theorem dX6_allOf_11 : decode cX6_allOf 11 = .ok (.if_icmp .ge 31, 3) := by decide +kernel
theorem dX6_allOf_14 : decode cX6_allOf 14 = .ok (.iload_n 2, 1) := by decide +kernel
theorem dX6_allOf_15 : decode cX6_allOf 15 = .ok (.iload_n 1, 1) := by decide +kernel
theorem dX6_allOf_16 : decode cX6_allOf 16 = .ok (.iconst 2, 1) := by decide +kernel
theorem dX6_allOf_17 : decode cX6_allOf 17 = .ok (.if_icmp .ne 11, 3) := by decide +kernel
theorem dX6_allOf_20 : decode cX6_allOf 20 = .ok (.aload_n 0, 1) := by decide +kernel
theorem dX6_allOf_21 : decode cX6_allOf 21 = .ok (.iload_n 3, 1) := by decide +kernel
theorem dX6_allOf_22 : decode cX6_allOf 22 = .ok (.invokevirtual 151, 3) := by decide +kernel
theorem dX6_allOf_25 : decode cX6_allOf 25 = .ok (.goto 9, 3) := by decide +kernel
theorem dX6_allOf_28 : decode cX6_allOf 28 = .ok (.aload_n 0, 1) := by decide +kernel
theorem dX6_allOf_29 : decode cX6_allOf 29 = .ok (.iload_n 3, 1) := by decide +kernel
theorem dX6_allOf_30 : decode cX6_allOf 30 = .ok (.iload_n 1, 1) := by decide +kernel
theorem dX6_allOf_31 : decode cX6_allOf 31 = .ok (.invokevirtual 148, 3) := by decide +kernel
theorem dX6_allOf_34 : decode cX6_allOf 34 = .ok (.iadd, 1) := by decide +kernel
theorem dX6_allOf_35 : decode cX6_allOf 35 = .ok (.istore_n 2, 1) := by decide +kernel
theorem dX6_allOf_36 : decode cX6_allOf 36 = .ok (.iinc 3 1, 3) := by decide +kernel
theorem dX6_allOf_39 : decode cX6_allOf 39 = .ok (.goto (-35), 3) := by decide +kernel
theorem dX6_allOf_42 : decode cX6_allOf 42 = .ok (.iload_n 2, 1) := by decide +kernel
theorem dX6_allOf_43 : decode cX6_allOf 43 = .ok (.ireturn, 1) := by decide +kernel
set_option maxRecDepth 20000 in
theorem ggX6_waiting_X6_ordered : GoodIn wsX6_waiting wsX6_ordered := goodIn_r _ [6, 1, 7, 8, 9, 10, 11, 12, 13, 14, 15, 16, 17, 18, 19, 20, 21, 22, 23, 24, 25, 26] (by decide +kernel) (by decide +kernel)
set_option maxRecDepth 20000 in
theorem gX6_waiting_X6_ordered : GoodIn wsX6_waiting (wsV RX6 154 RX6 yX6_ordered wsX6_ordered) := goodIn_app (goodIn_of _ (by decide +kernel)) ggX6_waiting_X6_ordered
theorem dX6_waiting_0 : decode cX6_waiting 0 = .ok (.iconst 0, 1) := by decide +kernel
theorem dX6_waiting_1 : decode cX6_waiting 1 = .ok (.istore_n 1, 1) := by decide +kernel
theorem dX6_waiting_2 : decode cX6_waiting 2 = .ok (.iconst 0, 1) := by decide +kernel
theorem dX6_waiting_3 : decode cX6_waiting 3 = .ok (.istore_n 2, 1) := by decide +kernel
theorem dX6_waiting_4 : decode cX6_waiting 4 = .ok (.iload_n 2, 1) := by decide +kernel
theorem dX6_waiting_5 : decode cX6_waiting 5 = .ok (.aload_n 0, 1) := by decide +kernel
theorem dX6_waiting_6 : decode cX6_waiting 6 = .ok (.getfield 70, 3) := by decide +kernel
theorem dX6_waiting_9 : decode cX6_waiting 9 = .ok (.iconst 5, 1) := by decide +kernel
theorem dX6_waiting_10 : decode cX6_waiting 10 = .ok (.iaload, 1) := by decide +kernel
theorem dX6_waiting_11 : decode cX6_waiting 11 = .ok (.if_icmp .ge 21, 3) := by decide +kernel
theorem dX6_waiting_14 : decode cX6_waiting 14 = .ok (.aload_n 0, 1) := by decide +kernel
theorem dX6_waiting_15 : decode cX6_waiting 15 = .ok (.iload_n 2, 1) := by decide +kernel
theorem dX6_waiting_16 : decode cX6_waiting 16 = .ok (.iconst 2, 1) := by decide +kernel
theorem dX6_waiting_17 : decode cX6_waiting 17 = .ok (.invokevirtual 154, 3) := by decide +kernel
theorem dX6_waiting_20 : decode cX6_waiting 20 = .ok (.ifCond .ne 6, 3) := by decide +kernel
theorem dX6_waiting_23 : decode cX6_waiting 23 = .ok (.iinc 1 1, 3) := by decide +kernel
theorem dX6_waiting_26 : decode cX6_waiting 26 = .ok (.iinc 2 1, 3) := by decide +kernel
theorem dX6_waiting_29 : decode cX6_waiting 29 = .ok (.goto (-25), 3) := by decide +kernel
theorem dX6_waiting_32 : decode cX6_waiting 32 = .ok (.iload_n 1, 1) := by decide +kernel
theorem dX6_waiting_33 : decode cX6_waiting 33 = .ok (.ireturn, 1) := by decide +kernel
set_option maxRecDepth 20000 in
theorem ggX6_cash_X6_its : GoodIn wsX6_cash wsX6_its := goodIn_r _ [6, 1, 7, 8, 9, 10, 11, 12, 13, 14, 15, 16, 17, 18, 19, 20, 21, 22, 23, 24, 25, 26] (by decide +kernel) (by decide +kernel)
set_option maxRecDepth 20000 in
theorem gX6_cash_X6_its : GoodIn wsX6_cash (wsV RX6 148 RX6 yX6_its wsX6_its) := goodIn_app (goodIn_of _ (by decide +kernel)) ggX6_cash_X6_its
theorem dX6_cash_0 : decode cX6_cash 0 = .ok (.iconst 0, 1) := by decide +kernel
theorem dX6_cash_1 : decode cX6_cash 1 = .ok (.istore_n 1, 1) := by decide +kernel
theorem dX6_cash_2 : decode cX6_cash 2 = .ok (.iconst 0, 1) := by decide +kernel
theorem dX6_cash_3 : decode cX6_cash 3 = .ok (.istore_n 2, 1) := by decide +kernel
theorem dX6_cash_4 : decode cX6_cash 4 = .ok (.iload_n 2, 1) := by decide +kernel
theorem dX6_cash_5 : decode cX6_cash 5 = .ok (.aload_n 0, 1) := by decide +kernel
theorem dX6_cash_6 : decode cX6_cash 6 = .ok (.getfield 70, 3) := by decide +kernel
theorem dX6_cash_9 : decode cX6_cash 9 = .ok (.iconst 3, 1) := by decide +kernel
theorem dX6_cash_10 : decode cX6_cash 10 = .ok (.iaload, 1) := by decide +kernel
theorem dX6_cash_11 : decode cX6_cash 11 = .ok (.if_icmp .ge 18, 3) := by decide +kernel
theorem dX6_cash_14 : decode cX6_cash 14 = .ok (.iload_n 1, 1) := by decide +kernel
theorem dX6_cash_15 : decode cX6_cash 15 = .ok (.aload_n 0, 1) := by decide +kernel
theorem dX6_cash_16 : decode cX6_cash 16 = .ok (.iload_n 2, 1) := by decide +kernel
theorem dX6_cash_17 : decode cX6_cash 17 = .ok (.iconst 2, 1) := by decide +kernel
theorem dX6_cash_18 : decode cX6_cash 18 = .ok (.invokevirtual 148, 3) := by decide +kernel
theorem dX6_cash_21 : decode cX6_cash 21 = .ok (.iadd, 1) := by decide +kernel
theorem dX6_cash_22 : decode cX6_cash 22 = .ok (.istore_n 1, 1) := by decide +kernel
theorem dX6_cash_23 : decode cX6_cash 23 = .ok (.iinc 2 1, 3) := by decide +kernel
theorem dX6_cash_26 : decode cX6_cash 26 = .ok (.goto (-22), 3) := by decide +kernel
theorem dX6_cash_29 : decode cX6_cash 29 = .ok (.iload_n 1, 1) := by decide +kernel
theorem dX6_cash_30 : decode cX6_cash 30 = .ok (.ireturn, 1) := by decide +kernel
set_option maxRecDepth 20000 in
theorem ggX6_now_X6_today : GoodIn wsX6_now wsX6_today := goodIn_r _ [9, 2, 38, 39, 40, 41, 42, 43, 44, 45, 46, 47, 48, 49, 50, 51, 52, 53, 54, 55, 56, 57] (by decide +kernel) (by decide +kernel)
set_option maxRecDepth 20000 in
theorem gX6_now_X6_today : GoodIn wsX6_now (wsV RX6 173 RX6 yX6_today wsX6_today) := goodIn_app (goodIn_of _ (by decide +kernel)) ggX6_now_X6_today
set_option maxRecDepth 20000 in
theorem ggX6_now_X6_waiting : GoodIn wsX6_now wsX6_waiting := goodIn_r _ [13, 2, 14, 15, 16, 8, 17, 38, 39, 40, 41, 42, 43, 44, 45, 46, 47, 48, 49, 50, 51, 52, 53, 54, 55, 56, 57] (by decide +kernel) (by decide +kernel)
set_option maxRecDepth 20000 in
theorem gX6_now_X6_waiting : GoodIn wsX6_now (wsV RX6 212 RX6 yX6_waiting wsX6_waiting) := goodIn_app (goodIn_of _ (by decide +kernel)) ggX6_now_X6_waiting
set_option maxRecDepth 20000 in
theorem ggX6_now_X6_allOf : GoodIn wsX6_now wsX6_allOf := goodIn_r _ [21, 2, 22, 23, 24, 8, 25, 26, 27, 28, 29, 30, 31, 32, 33, 38, 39, 40, 41, 42, 43, 44, 45, 46, 47, 48, 49, 50, 51, 52, 53, 54, 55, 56, 57] (by decide +kernel) (by decide +kernel)
set_option maxRecDepth 20000 in
theorem gX6_now_X6_allOf : GoodIn wsX6_now (wsV RX6 215 RX6 yX6_allOf wsX6_allOf) := goodIn_app (goodIn_of _ (by decide +kernel)) ggX6_now_X6_allOf
set_option maxRecDepth 20000 in
theorem ggX6_now_X6_cash : GoodIn wsX6_now wsX6_cash := goodIn_r _ [37, 2, 30, 31, 32, 8, 33, 38, 39, 40, 41, 42, 43, 44, 45, 46, 47, 48, 49, 50, 51, 52, 53, 54, 55, 56, 57] (by decide +kernel) (by decide +kernel)
set_option maxRecDepth 20000 in
theorem gX6_now_X6_cash : GoodIn wsX6_now (wsV RX6 218 RX6 yX6_cash wsX6_cash) := goodIn_app (goodIn_of _ (by decide +kernel)) ggX6_now_X6_cash
theorem dX6_now_0 : decode cX6_now 0 = .ok (.aload_n 0, 1) := by decide +kernel
theorem dX6_now_1 : decode cX6_now 1 = .ok (.iconst 0, 1) := by decide +kernel
theorem dX6_now_2 : decode cX6_now 2 = .ok (.putfield 1, 3) := by decide +kernel
theorem dX6_now_5 : decode cX6_now 5 = .ok (.iload_n 1, 1) := by decide +kernel
theorem dX6_now_6 : decode cX6_now 6 = .ok (.tableswitch 125 0 10 #[58, 63, 70, 77, 84, 91, 96, 102, 107, 115, 120], 58) := by decide +kernel
theorem dX6_now_64 : decode cX6_now 64 = .ok (.aload_n 0, 1) := by decide +kernel
theorem dX6_now_65 : decode cX6_now 65 = .ok (.invokevirtual 173, 3) := by decide +kernel
theorem dX6_now_68 : decode cX6_now 68 = .ok (.ireturn, 1) := by decide +kernel
theorem dX6_now_69 : decode cX6_now 69 = .ok (.aload_n 0, 1) := by decide +kernel
theorem dX6_now_70 : decode cX6_now 70 = .ok (.getfield 70, 3) := by decide +kernel
theorem dX6_now_73 : decode cX6_now 73 = .ok (.iconst 2, 1) := by decide +kernel
theorem dX6_now_74 : decode cX6_now 74 = .ok (.iaload, 1) := by decide +kernel
theorem dX6_now_75 : decode cX6_now 75 = .ok (.ireturn, 1) := by decide +kernel
theorem dX6_now_76 : decode cX6_now 76 = .ok (.aload_n 0, 1) := by decide +kernel
theorem dX6_now_77 : decode cX6_now 77 = .ok (.getfield 70, 3) := by decide +kernel
theorem dX6_now_80 : decode cX6_now 80 = .ok (.iconst 3, 1) := by decide +kernel
theorem dX6_now_81 : decode cX6_now 81 = .ok (.iaload, 1) := by decide +kernel
theorem dX6_now_82 : decode cX6_now 82 = .ok (.ireturn, 1) := by decide +kernel
theorem dX6_now_83 : decode cX6_now 83 = .ok (.aload_n 0, 1) := by decide +kernel
theorem dX6_now_84 : decode cX6_now 84 = .ok (.getfield 70, 3) := by decide +kernel
theorem dX6_now_87 : decode cX6_now 87 = .ok (.iconst 4, 1) := by decide +kernel
theorem dX6_now_88 : decode cX6_now 88 = .ok (.iaload, 1) := by decide +kernel
theorem dX6_now_89 : decode cX6_now 89 = .ok (.ireturn, 1) := by decide +kernel
theorem dX6_now_90 : decode cX6_now 90 = .ok (.aload_n 0, 1) := by decide +kernel
theorem dX6_now_91 : decode cX6_now 91 = .ok (.getfield 70, 3) := by decide +kernel
theorem dX6_now_94 : decode cX6_now 94 = .ok (.iconst 5, 1) := by decide +kernel
theorem dX6_now_95 : decode cX6_now 95 = .ok (.iaload, 1) := by decide +kernel
theorem dX6_now_96 : decode cX6_now 96 = .ok (.ireturn, 1) := by decide +kernel
theorem dX6_now_97 : decode cX6_now 97 = .ok (.aload_n 0, 1) := by decide +kernel
theorem dX6_now_98 : decode cX6_now 98 = .ok (.invokevirtual 212, 3) := by decide +kernel
theorem dX6_now_101 : decode cX6_now 101 = .ok (.ireturn, 1) := by decide +kernel
theorem dX6_now_102 : decode cX6_now 102 = .ok (.aload_n 0, 1) := by decide +kernel
theorem dX6_now_103 : decode cX6_now 103 = .ok (.iconst 2, 1) := by decide +kernel
theorem dX6_now_104 : decode cX6_now 104 = .ok (.invokevirtual 215, 3) := by decide +kernel
theorem dX6_now_107 : decode cX6_now 107 = .ok (.ireturn, 1) := by decide +kernel
theorem dX6_now_108 : decode cX6_now 108 = .ok (.aload_n 0, 1) := by decide +kernel
theorem dX6_now_109 : decode cX6_now 109 = .ok (.invokevirtual 218, 3) := by decide +kernel
theorem dX6_now_112 : decode cX6_now 112 = .ok (.ireturn, 1) := by decide +kernel
theorem dX6_now_113 : decode cX6_now 113 = .ok (.aload_n 0, 1) := by decide +kernel
theorem dX6_now_114 : decode cX6_now 114 = .ok (.getfield 70, 3) := by decide +kernel
theorem dX6_now_117 : decode cX6_now 117 = .ok (.bipush 6, 2) := by decide +kernel
theorem dX6_now_119 : decode cX6_now 119 = .ok (.iaload, 1) := by decide +kernel
theorem dX6_now_120 : decode cX6_now 120 = .ok (.ireturn, 1) := by decide +kernel
theorem dX6_now_121 : decode cX6_now 121 = .ok (.aload_n 0, 1) := by decide +kernel
theorem dX6_now_122 : decode cX6_now 122 = .ok (.getfield 137, 3) := by decide +kernel
theorem dX6_now_125 : decode cX6_now 125 = .ok (.ireturn, 1) := by decide +kernel
theorem dX6_now_126 : decode cX6_now 126 = .ok (.aload_n 0, 1) := by decide +kernel
theorem dX6_now_127 : decode cX6_now 127 = .ok (.getfield 11, 3) := by decide +kernel
theorem dX6_now_130 : decode cX6_now 130 = .ok (.ireturn, 1) := by decide +kernel
theorem dX6_now_131 : decode cX6_now 131 = .ok (.iconst (-1), 1) := by decide +kernel
theorem dX6_now_132 : decode cX6_now 132 = .ok (.ireturn, 1) := by decide +kernel
set_option maxRecDepth 20000 in
theorem ggX6_step_X6_isIn : GoodIn wsX6_step wsX6_isIn := goodIn_r _ [6] (by decide +kernel) (by decide +kernel)
set_option maxRecDepth 20000 in
theorem gX6_step_X6_isIn : GoodIn wsX6_step (va_wsS RX6 85 yX6_isIn wsX6_isIn) := goodIn_app (goodIn_of _ (by decide +kernel)) ggX6_step_X6_isIn
theorem dX6_step_0 : decode cX6_step 0 = .ok (.aload_n 0, 1) := by decide +kernel
theorem dX6_step_1 : decode cX6_step 1 = .ok (.iconst 0, 1) := by decide +kernel
theorem dX6_step_2 : decode cX6_step 2 = .ok (.putfield 1, 3) := by decide +kernel
theorem dX6_step_5 : decode cX6_step 5 = .ok (.iload_n 1, 1) := by decide +kernel
theorem dX6_step_6 : decode cX6_step 6 = .ok (.iconst 0, 1) := by decide +kernel
theorem dX6_step_7 : decode cX6_step 7 = .ok (.aload_n 0, 1) := by decide +kernel
theorem dX6_step_8 : decode cX6_step 8 = .ok (.getfield 70, 3) := by decide +kernel
theorem dX6_step_11 : decode cX6_step 11 = .ok (.iconst 2, 1) := by decide +kernel
theorem dX6_step_12 : decode cX6_step 12 = .ok (.iaload, 1) := by decide +kernel
theorem dX6_step_13 : decode cX6_step 13 = .ok (.iconst 1, 1) := by decide +kernel
theorem dX6_step_14 : decode cX6_step 14 = .ok (.isub, 1) := by decide +kernel
theorem dX6_step_15 : decode cX6_step 15 = .ok (.invokestatic 85, 3) := by decide +kernel
theorem dX6_step_18 : decode cX6_step 18 = .ok (.ifCond .eq 28, 3) := by decide +kernel
theorem dX6_step_21 : decode cX6_step 21 = .ok (.iload_n 2, 1) := by decide +kernel
theorem dX6_step_22 : decode cX6_step 22 = .ok (.iconst 0, 1) := by decide +kernel
theorem dX6_step_23 : decode cX6_step 23 = .ok (.iconst 2, 1) := by decide +kernel
theorem dX6_step_24 : decode cX6_step 24 = .ok (.invokestatic 85, 3) := by decide +kernel
theorem dX6_step_27 : decode cX6_step 27 = .ok (.ifCond .eq 19, 3) := by decide +kernel
theorem dX6_step_30 : decode cX6_step 30 = .ok (.aload_n 0, 1) := by decide +kernel
theorem dX6_step_31 : decode cX6_step 31 = .ok (.getfield 70, 3) := by decide +kernel
theorem dX6_step_34 : decode cX6_step 34 = .ok (.bipush 7, 2) := by decide +kernel
theorem dX6_step_36 : decode cX6_step 36 = .ok (.iconst 3, 1) := by decide +kernel
theorem dX6_step_37 : decode cX6_step 37 = .ok (.iload_n 1, 1) := by decide +kernel
theorem dX6_step_38 : decode cX6_step 38 = .ok (.imul, 1) := by decide +kernel
theorem dX6_step_39 : decode cX6_step 39 = .ok (.iadd, 1) := by decide +kernel
theorem dX6_step_40 : decode cX6_step 40 = .ok (.iload_n 2, 1) := by decide +kernel
theorem dX6_step_41 : decode cX6_step 41 = .ok (.iadd, 1) := by decide +kernel
theorem dX6_step_42 : decode cX6_step 42 = .ok (.iaload, 1) := by decide +kernel
theorem dX6_step_43 : decode cX6_step 43 = .ok (.goto 4, 3) := by decide +kernel
theorem dX6_step_46 : decode cX6_step 46 = .ok (.iconst (-1), 1) := by decide +kernel
theorem dX6_step_47 : decode cX6_step 47 = .ok (.ireturn, 1) := by decide +kernel
set_option maxRecDepth 20000 in
theorem ggX6_debtor_X6_isDebtor : GoodIn wsX6_debtor wsX6_isDebtor := goodIn_r _ [6, 7, 8, 9, 5, 10, 51, 52, 53, 54, 55, 56, 57, 58, 59, 60, 61, 62, 63, 64, 65, 66, 67, 68, 69, 70] (by decide +kernel) (by decide +kernel)
set_option maxRecDepth 20000 in
theorem gX6_debtor_X6_isDebtor : GoodIn wsX6_debtor (wsV RX6 221 RX6 yX6_isDebtor wsX6_isDebtor) := goodIn_app (goodIn_of _ (by decide +kernel)) ggX6_debtor_X6_isDebtor
set_option maxRecDepth 20000 in
theorem ggX6_debtor_X6_refuse : GoodIn wsX6_debtor wsX6_refuse := goodIn_r _ [14, 1, 51, 52, 53, 54, 55, 56, 57, 58, 59, 60, 61, 62, 63, 64, 65, 66, 67, 68, 69, 70] (by decide +kernel) (by decide +kernel)
set_option maxRecDepth 20000 in
theorem gX6_debtor_X6_refuse : GoodIn wsX6_debtor (wsV RX6 224 RX6 yX6_refuse wsX6_refuse) := goodIn_app (goodIn_of _ (by decide +kernel)) ggX6_debtor_X6_refuse
set_option maxRecDepth 20000 in
theorem ggX6_debtor_X6_its : GoodIn wsX6_debtor wsX6_its := goodIn_r _ [18, 7, 51, 52, 53, 54, 55, 56, 57, 58, 59, 60, 61, 62, 63, 64, 65, 66, 67, 68, 69, 70] (by decide +kernel) (by decide +kernel)
set_option maxRecDepth 20000 in
theorem gX6_debtor_X6_its : GoodIn wsX6_debtor (wsV RX6 148 RX6 yX6_its wsX6_its) := goodIn_app (goodIn_of _ (by decide +kernel)) ggX6_debtor_X6_its
set_option maxRecDepth 20000 in
theorem ggX6_debtor_X6_owes : GoodIn wsX6_debtor wsX6_owes := goodIn_r _ [22, 7, 23, 24, 25, 5, 26, 51, 52, 53, 54, 55, 56, 57, 58, 59, 60, 61, 62, 63, 64, 65, 66, 67, 68, 69, 70] (by decide +kernel) (by decide +kernel)
set_option maxRecDepth 20000 in
theorem gX6_debtor_X6_owes : GoodIn wsX6_debtor (wsV RX6 151 RX6 yX6_owes wsX6_owes) := goodIn_app (goodIn_of _ (by decide +kernel)) ggX6_debtor_X6_owes
set_option maxRecDepth 20000 in
theorem ggX6_debtor_X6_debt : GoodIn wsX6_debtor wsX6_debt := goodIn_r _ [30, 7, 31, 32, 33, 5, 34, 23, 24, 25, 26, 51, 52, 53, 54, 55, 56, 57, 58, 59, 60, 61, 62, 63, 64, 65, 66, 67, 68, 69, 70] (by decide +kernel) (by decide +kernel)
set_option maxRecDepth 20000 in
theorem gX6_debtor_X6_debt : GoodIn wsX6_debtor (wsV RX6 167 RX6 yX6_debt wsX6_debt) := goodIn_app (goodIn_of _ (by decide +kernel)) ggX6_debtor_X6_debt
set_option maxRecDepth 20000 in
theorem ggX6_debtor_X6_eldest : GoodIn wsX6_debtor wsX6_eldest := goodIn_r _ [38, 7, 31, 32, 33, 5, 34, 23, 24, 25, 26, 51, 52, 53, 54, 55, 56, 57, 58, 59, 60, 61, 62, 63, 64, 65, 66, 67, 68, 69, 70] (by decide +kernel) (by decide +kernel)
set_option maxRecDepth 20000 in
theorem gX6_debtor_X6_eldest : GoodIn wsX6_debtor (wsV RX6 177 RX6 yX6_eldest wsX6_eldest) := goodIn_app (goodIn_of _ (by decide +kernel)) ggX6_debtor_X6_eldest
set_option maxRecDepth 20000 in
theorem ggX6_debtor_X6_isAtCourt : GoodIn wsX6_debtor wsX6_isAtCourt := goodIn_r _ [42, 7, 15, 16, 17, 5, 18, 51, 52, 53, 54, 55, 56, 57, 58, 59, 60, 61, 62, 63, 64, 65, 66, 67, 68, 69, 70] (by decide +kernel) (by decide +kernel)
set_option maxRecDepth 20000 in
theorem gX6_debtor_X6_isAtCourt : GoodIn wsX6_debtor (wsV RX6 180 RX6 yX6_isAtCourt wsX6_isAtCourt) := goodIn_app (goodIn_of _ (by decide +kernel)) ggX6_debtor_X6_isAtCourt
set_option maxRecDepth 20000 in
theorem ggX6_debtor_X6_risk : GoodIn wsX6_debtor wsX6_risk := goodIn_r _ [46, 7, 19, 20, 21, 5, 22, 23, 24, 25, 26, 15, 16, 17, 18, 47, 48, 49, 50, 51, 52, 53, 54, 55, 56, 57, 58, 59, 60, 61, 62, 63, 64, 65, 66, 67, 68, 69, 70] (by decide +kernel) (by decide +kernel)
set_option maxRecDepth 20000 in
theorem gX6_debtor_X6_risk : GoodIn wsX6_debtor (wsV RX6 161 RX6 yX6_risk wsX6_risk) := goodIn_app (goodIn_of _ (by decide +kernel)) ggX6_debtor_X6_risk
theorem dX6_debtor_0 : decode cX6_debtor 0 = .ok (.aload_n 0, 1) := by decide +kernel
theorem dX6_debtor_1 : decode cX6_debtor 1 = .ok (.iconst 0, 1) := by decide +kernel
theorem dX6_debtor_2 : decode cX6_debtor 2 = .ok (.putfield 1, 3) := by decide +kernel
theorem dX6_debtor_5 : decode cX6_debtor 5 = .ok (.aload_n 0, 1) := by decide +kernel
theorem dX6_debtor_6 : decode cX6_debtor 6 = .ok (.iload_n 1, 1) := by decide +kernel
theorem dX6_debtor_7 : decode cX6_debtor 7 = .ok (.invokevirtual 221, 3) := by decide +kernel
theorem dX6_debtor_10 : decode cX6_debtor 10 = .ok (.ifCond .ne 8, 3) := by decide +kernel
theorem dX6_debtor_13 : decode cX6_debtor 13 = .ok (.aload_n 0, 1) := by decide +kernel
theorem dX6_debtor_14 : decode cX6_debtor 14 = .ok (.invokevirtual 224, 3) := by decide +kernel
theorem dX6_debtor_17 : decode cX6_debtor 17 = .ok (.ireturn, 1) := by decide +kernel
theorem dX6_debtor_18 : decode cX6_debtor 18 = .ok (.iload_n 2, 1) := by decide +kernel
theorem dX6_debtor_19 : decode cX6_debtor 19 = .ok (.tableswitch 138 0 10 #[57, 64, 71, 77, 83, 90, 97, 104, 110, 118, 132], 57) := by decide +kernel
theorem dX6_debtor_76 : decode cX6_debtor 76 = .ok (.aload_n 0, 1) := by decide +kernel
theorem dX6_debtor_77 : decode cX6_debtor 77 = .ok (.iload_n 1, 1) := by decide +kernel
theorem dX6_debtor_78 : decode cX6_debtor 78 = .ok (.iconst 0, 1) := by decide +kernel
theorem dX6_debtor_79 : decode cX6_debtor 79 = .ok (.invokevirtual 148, 3) := by decide +kernel
theorem dX6_debtor_82 : decode cX6_debtor 82 = .ok (.ireturn, 1) := by decide +kernel
theorem dX6_debtor_83 : decode cX6_debtor 83 = .ok (.aload_n 0, 1) := by decide +kernel
theorem dX6_debtor_84 : decode cX6_debtor 84 = .ok (.iload_n 1, 1) := by decide +kernel
theorem dX6_debtor_85 : decode cX6_debtor 85 = .ok (.iconst 1, 1) := by decide +kernel
theorem dX6_debtor_86 : decode cX6_debtor 86 = .ok (.invokevirtual 148, 3) := by decide +kernel
theorem dX6_debtor_89 : decode cX6_debtor 89 = .ok (.ireturn, 1) := by decide +kernel
theorem dX6_debtor_90 : decode cX6_debtor 90 = .ok (.aload_n 0, 1) := by decide +kernel
theorem dX6_debtor_91 : decode cX6_debtor 91 = .ok (.iload_n 1, 1) := by decide +kernel
theorem dX6_debtor_92 : decode cX6_debtor 92 = .ok (.invokevirtual 151, 3) := by decide +kernel
theorem dX6_debtor_95 : decode cX6_debtor 95 = .ok (.ireturn, 1) := by decide +kernel
theorem dX6_debtor_96 : decode cX6_debtor 96 = .ok (.aload_n 0, 1) := by decide +kernel
theorem dX6_debtor_97 : decode cX6_debtor 97 = .ok (.iload_n 1, 1) := by decide +kernel
theorem dX6_debtor_98 : decode cX6_debtor 98 = .ok (.invokevirtual 167, 3) := by decide +kernel
theorem dX6_debtor_101 : decode cX6_debtor 101 = .ok (.ireturn, 1) := by decide +kernel
theorem dX6_debtor_102 : decode cX6_debtor 102 = .ok (.aload_n 0, 1) := by decide +kernel
theorem dX6_debtor_103 : decode cX6_debtor 103 = .ok (.iload_n 1, 1) := by decide +kernel
theorem dX6_debtor_104 : decode cX6_debtor 104 = .ok (.iconst 2, 1) := by decide +kernel
theorem dX6_debtor_105 : decode cX6_debtor 105 = .ok (.invokevirtual 148, 3) := by decide +kernel
theorem dX6_debtor_108 : decode cX6_debtor 108 = .ok (.ireturn, 1) := by decide +kernel
theorem dX6_debtor_109 : decode cX6_debtor 109 = .ok (.aload_n 0, 1) := by decide +kernel
theorem dX6_debtor_110 : decode cX6_debtor 110 = .ok (.iload_n 1, 1) := by decide +kernel
theorem dX6_debtor_111 : decode cX6_debtor 111 = .ok (.iconst 3, 1) := by decide +kernel
theorem dX6_debtor_112 : decode cX6_debtor 112 = .ok (.invokevirtual 148, 3) := by decide +kernel
theorem dX6_debtor_115 : decode cX6_debtor 115 = .ok (.ireturn, 1) := by decide +kernel
theorem dX6_debtor_116 : decode cX6_debtor 116 = .ok (.aload_n 0, 1) := by decide +kernel
theorem dX6_debtor_117 : decode cX6_debtor 117 = .ok (.iload_n 1, 1) := by decide +kernel
theorem dX6_debtor_118 : decode cX6_debtor 118 = .ok (.iconst 4, 1) := by decide +kernel
theorem dX6_debtor_119 : decode cX6_debtor 119 = .ok (.invokevirtual 148, 3) := by decide +kernel
theorem dX6_debtor_122 : decode cX6_debtor 122 = .ok (.ireturn, 1) := by decide +kernel
theorem dX6_debtor_123 : decode cX6_debtor 123 = .ok (.aload_n 0, 1) := by decide +kernel
theorem dX6_debtor_124 : decode cX6_debtor 124 = .ok (.iload_n 1, 1) := by decide +kernel
theorem dX6_debtor_125 : decode cX6_debtor 125 = .ok (.invokevirtual 177, 3) := by decide +kernel
theorem dX6_debtor_128 : decode cX6_debtor 128 = .ok (.ireturn, 1) := by decide +kernel
theorem dX6_debtor_129 : decode cX6_debtor 129 = .ok (.aload_n 0, 1) := by decide +kernel
theorem dX6_debtor_130 : decode cX6_debtor 130 = .ok (.iload_n 1, 1) := by decide +kernel
theorem dX6_debtor_131 : decode cX6_debtor 131 = .ok (.bipush 8, 2) := by decide +kernel
theorem dX6_debtor_133 : decode cX6_debtor 133 = .ok (.invokevirtual 148, 3) := by decide +kernel
theorem dX6_debtor_136 : decode cX6_debtor 136 = .ok (.ireturn, 1) := by decide +kernel
theorem dX6_debtor_137 : decode cX6_debtor 137 = .ok (.aload_n 0, 1) := by decide +kernel
theorem dX6_debtor_138 : decode cX6_debtor 138 = .ok (.iload_n 1, 1) := by decide +kernel
theorem dX6_debtor_139 : decode cX6_debtor 139 = .ok (.invokevirtual 180, 3) := by decide +kernel
theorem dX6_debtor_142 : decode cX6_debtor 142 = .ok (.ifCond .eq 7, 3) := by decide +kernel
theorem dX6_debtor_145 : decode cX6_debtor 145 = .ok (.iconst 1, 1) := by decide +kernel
theorem dX6_debtor_146 : decode cX6_debtor 146 = .ok (.goto 4, 3) := by decide +kernel
theorem dX6_debtor_149 : decode cX6_debtor 149 = .ok (.iconst 0, 1) := by decide +kernel
theorem dX6_debtor_150 : decode cX6_debtor 150 = .ok (.ireturn, 1) := by decide +kernel
theorem dX6_debtor_151 : decode cX6_debtor 151 = .ok (.aload_n 0, 1) := by decide +kernel
theorem dX6_debtor_152 : decode cX6_debtor 152 = .ok (.iload_n 1, 1) := by decide +kernel
theorem dX6_debtor_153 : decode cX6_debtor 153 = .ok (.invokevirtual 161, 3) := by decide +kernel
theorem dX6_debtor_156 : decode cX6_debtor 156 = .ok (.ireturn, 1) := by decide +kernel
theorem dX6_debtor_157 : decode cX6_debtor 157 = .ok (.aload_n 0, 1) := by decide +kernel
theorem dX6_debtor_158 : decode cX6_debtor 158 = .ok (.invokevirtual 224, 3) := by decide +kernel
theorem dX6_debtor_161 : decode cX6_debtor 161 = .ok (.ireturn, 1) := by decide +kernel
set_option maxRecDepth 20000 in
theorem ggX6_invoice_X6_isInvoice : GoodIn wsX6_invoice wsX6_isInvoice := goodIn_r _ [6, 7, 8, 9, 5, 10, 15, 16, 17, 18, 19, 20, 21, 22, 23, 24, 25, 26, 27, 28, 29, 30, 31, 32, 33, 34] (by decide +kernel) (by decide +kernel)
set_option maxRecDepth 20000 in
theorem gX6_invoice_X6_isInvoice : GoodIn wsX6_invoice (wsV RX6 227 RX6 yX6_isInvoice wsX6_isInvoice) := goodIn_app (goodIn_of _ (by decide +kernel)) ggX6_invoice_X6_isInvoice
set_option maxRecDepth 20000 in
theorem ggX6_invoice_X6_isIn : GoodIn wsX6_invoice wsX6_isIn := goodIn_r _ [10] (by decide +kernel) (by decide +kernel)
set_option maxRecDepth 20000 in
theorem gX6_invoice_X6_isIn : GoodIn wsX6_invoice (va_wsS RX6 85 yX6_isIn wsX6_isIn) := goodIn_app (goodIn_of _ (by decide +kernel)) ggX6_invoice_X6_isIn
set_option maxRecDepth 20000 in
theorem ggX6_invoice_X6_billed : GoodIn wsX6_invoice wsX6_billed := goodIn_r _ [14, 7, 15, 16, 17, 18, 19, 20, 21, 22, 23, 24, 25, 26, 27, 28, 29, 30, 31, 32, 33, 34] (by decide +kernel) (by decide +kernel)
set_option maxRecDepth 20000 in
theorem gX6_invoice_X6_billed : GoodIn wsX6_invoice (wsV RX6 140 RX6 yX6_billed wsX6_billed) := goodIn_app (goodIn_of _ (by decide +kernel)) ggX6_invoice_X6_billed
theorem dX6_invoice_0 : decode cX6_invoice 0 = .ok (.aload_n 0, 1) := by decide +kernel
theorem dX6_invoice_1 : decode cX6_invoice 1 = .ok (.iconst 0, 1) := by decide +kernel
theorem dX6_invoice_2 : decode cX6_invoice 2 = .ok (.putfield 1, 3) := by decide +kernel
theorem dX6_invoice_5 : decode cX6_invoice 5 = .ok (.aload_n 0, 1) := by decide +kernel
theorem dX6_invoice_6 : decode cX6_invoice 6 = .ok (.iload_n 1, 1) := by decide +kernel
theorem dX6_invoice_7 : decode cX6_invoice 7 = .ok (.invokevirtual 227, 3) := by decide +kernel
theorem dX6_invoice_10 : decode cX6_invoice 10 = .ok (.ifCond .eq 22, 3) := by decide +kernel
theorem dX6_invoice_13 : decode cX6_invoice 13 = .ok (.iload_n 2, 1) := by decide +kernel
theorem dX6_invoice_14 : decode cX6_invoice 14 = .ok (.iconst 0, 1) := by decide +kernel
theorem dX6_invoice_15 : decode cX6_invoice 15 = .ok (.bipush 6, 2) := by decide +kernel
theorem dX6_invoice_17 : decode cX6_invoice 17 = .ok (.invokestatic 85, 3) := by decide +kernel
theorem dX6_invoice_20 : decode cX6_invoice 20 = .ok (.ifCond .eq 12, 3) := by decide +kernel
theorem dX6_invoice_23 : decode cX6_invoice 23 = .ok (.aload_n 0, 1) := by decide +kernel
theorem dX6_invoice_24 : decode cX6_invoice 24 = .ok (.iload_n 1, 1) := by decide +kernel
theorem dX6_invoice_25 : decode cX6_invoice 25 = .ok (.iload_n 2, 1) := by decide +kernel
theorem dX6_invoice_26 : decode cX6_invoice 26 = .ok (.invokevirtual 140, 3) := by decide +kernel
theorem dX6_invoice_29 : decode cX6_invoice 29 = .ok (.goto 4, 3) := by decide +kernel
theorem dX6_invoice_32 : decode cX6_invoice 32 = .ok (.iconst (-1), 1) := by decide +kernel
theorem dX6_invoice_33 : decode cX6_invoice 33 = .ok (.ireturn, 1) := by decide +kernel
set_option maxRecDepth 20000 in
theorem ggX6_promised_X6_isDebtor : GoodIn wsX6_promised wsX6_isDebtor := goodIn_r _ [6, 7, 8, 9, 5, 10, 15, 16, 17, 18, 19, 20, 21, 22, 23, 24, 25, 26, 27, 28, 29, 30, 31, 32, 33, 34] (by decide +kernel) (by decide +kernel)
set_option maxRecDepth 20000 in
theorem gX6_promised_X6_isDebtor : GoodIn wsX6_promised (wsV RX6 221 RX6 yX6_isDebtor wsX6_isDebtor) := goodIn_app (goodIn_of _ (by decide +kernel)) ggX6_promised_X6_isDebtor
set_option maxRecDepth 20000 in
theorem ggX6_promised_X6_its : GoodIn wsX6_promised wsX6_its := goodIn_r _ [14, 7, 15, 16, 17, 18, 19, 20, 21, 22, 23, 24, 25, 26, 27, 28, 29, 30, 31, 32, 33, 34] (by decide +kernel) (by decide +kernel)
set_option maxRecDepth 20000 in
theorem gX6_promised_X6_its : GoodIn wsX6_promised (wsV RX6 148 RX6 yX6_its wsX6_its) := goodIn_app (goodIn_of _ (by decide +kernel)) ggX6_promised_X6_its
set_option maxRecDepth 20000 in
theorem ggX6_promised_X6_isIn : GoodIn wsX6_promised wsX6_isIn := goodIn_r _ [10] (by decide +kernel) (by decide +kernel)
set_option maxRecDepth 20000 in
theorem gX6_promised_X6_isIn : GoodIn wsX6_promised (va_wsS RX6 85 yX6_isIn wsX6_isIn) := goodIn_app (goodIn_of _ (by decide +kernel)) ggX6_promised_X6_isIn
theorem dX6_promised_0 : decode cX6_promised 0 = .ok (.aload_n 0, 1) := by decide +kernel
theorem dX6_promised_1 : decode cX6_promised 1 = .ok (.iconst 0, 1) := by decide +kernel
theorem dX6_promised_2 : decode cX6_promised 2 = .ok (.putfield 1, 3) := by decide +kernel
theorem dX6_promised_5 : decode cX6_promised 5 = .ok (.aload_n 0, 1) := by decide +kernel
theorem dX6_promised_6 : decode cX6_promised 6 = .ok (.iload_n 1, 1) := by decide +kernel
theorem dX6_promised_7 : decode cX6_promised 7 = .ok (.invokevirtual 221, 3) := by decide +kernel
theorem dX6_promised_10 : decode cX6_promised 10 = .ok (.ifCond .eq 32, 3) := by decide +kernel
theorem dX6_promised_13 : decode cX6_promised 13 = .ok (.aload_n 0, 1) := by decide +kernel
theorem dX6_promised_14 : decode cX6_promised 14 = .ok (.iload_n 1, 1) := by decide +kernel
theorem dX6_promised_15 : decode cX6_promised 15 = .ok (.iconst 5, 1) := by decide +kernel
theorem dX6_promised_16 : decode cX6_promised 16 = .ok (.invokevirtual 148, 3) := by decide +kernel
theorem dX6_promised_19 : decode cX6_promised 19 = .ok (.ifCond .le 23, 3) := by decide +kernel
theorem dX6_promised_22 : decode cX6_promised 22 = .ok (.iload_n 2, 1) := by decide +kernel
theorem dX6_promised_23 : decode cX6_promised 23 = .ok (.iconst 0, 1) := by decide +kernel
theorem dX6_promised_24 : decode cX6_promised 24 = .ok (.iconst 2, 1) := by decide +kernel
theorem dX6_promised_25 : decode cX6_promised 25 = .ok (.invokestatic 85, 3) := by decide +kernel
theorem dX6_promised_28 : decode cX6_promised 28 = .ok (.ifCond .eq 14, 3) := by decide +kernel
theorem dX6_promised_31 : decode cX6_promised 31 = .ok (.aload_n 0, 1) := by decide +kernel
theorem dX6_promised_32 : decode cX6_promised 32 = .ok (.iload_n 1, 1) := by decide +kernel
theorem dX6_promised_33 : decode cX6_promised 33 = .ok (.iconst 5, 1) := by decide +kernel
theorem dX6_promised_34 : decode cX6_promised 34 = .ok (.iload_n 2, 1) := by decide +kernel
theorem dX6_promised_35 : decode cX6_promised 35 = .ok (.iadd, 1) := by decide +kernel
theorem dX6_promised_36 : decode cX6_promised 36 = .ok (.invokevirtual 148, 3) := by decide +kernel
theorem dX6_promised_39 : decode cX6_promised 39 = .ok (.goto 4, 3) := by decide +kernel
theorem dX6_promised_42 : decode cX6_promised 42 = .ok (.iconst (-1), 1) := by decide +kernel
theorem dX6_promised_43 : decode cX6_promised 43 = .ok (.ireturn, 1) := by decide +kernel
set_option maxRecDepth 20000 in
theorem ggX6_nextDay_X6_its : GoodIn wsX6_nextDay wsX6_its := goodIn_r _ [5, 6, 15, 16, 17, 18, 19, 20, 21, 22, 23, 24, 25, 26, 27, 28, 29, 30, 31, 32, 33, 34] (by decide +kernel) (by decide +kernel)
set_option maxRecDepth 20000 in
theorem gX6_nextDay_X6_its : GoodIn wsX6_nextDay (wsV RX6 148 RX6 yX6_its wsX6_its) := goodIn_app (goodIn_of _ (by decide +kernel)) ggX6_nextDay_X6_its
set_option maxRecDepth 20000 in
theorem ggX6_nextDay_X6_dayOf : GoodIn wsX6_nextDay wsX6_dayOf := goodIn_r _ [10, 1, 2, 3, 4, 5, 6, 15, 16, 17, 18, 19, 20, 21, 22, 23, 24, 25, 26, 27, 28, 29, 30, 31, 32, 33, 34] (by decide +kernel) (by decide +kernel)
set_option maxRecDepth 20000 in
theorem gX6_nextDay_X6_dayOf : GoodIn wsX6_nextDay (wsV RX6 170 RX6 yX6_dayOf wsX6_dayOf) := goodIn_app (goodIn_of _ (by decide +kernel)) ggX6_nextDay_X6_dayOf
set_option maxRecDepth 20000 in
theorem ggX6_nextDay_X6_today : GoodIn wsX6_nextDay wsX6_today := goodIn_r _ [14, 6, 15, 16, 17, 18, 19, 20, 21, 22, 23, 24, 25, 26, 27, 28, 29, 30, 31, 32, 33, 34] (by decide +kernel) (by decide +kernel)
set_option maxRecDepth 20000 in
theorem gX6_nextDay_X6_today : GoodIn wsX6_nextDay (wsV RX6 173 RX6 yX6_today wsX6_today) := goodIn_app (goodIn_of _ (by decide +kernel)) ggX6_nextDay_X6_today
theorem dX6_nextDay_0 : decode cX6_nextDay 0 = .ok (.iconst 0, 1) := by decide +kernel
theorem dX6_nextDay_1 : decode cX6_nextDay 1 = .ok (.istore_n 2, 1) := by decide +kernel
theorem dX6_nextDay_2 : decode cX6_nextDay 2 = .ok (.iload_n 2, 1) := by decide +kernel
theorem dX6_nextDay_3 : decode cX6_nextDay 3 = .ok (.aload_n 0, 1) := by decide +kernel
theorem dX6_nextDay_4 : decode cX6_nextDay 4 = .ok (.iload_n 1, 1) := by decide +kernel
theorem dX6_nextDay_5 : decode cX6_nextDay 5 = .ok (.bipush 9, 2) := by decide +kernel
theorem dX6_nextDay_7 : decode cX6_nextDay 7 = .ok (.invokevirtual 148, 3) := by decide +kernel
theorem dX6_nextDay_10 : decode cX6_nextDay 10 = .ok (.if_icmp .ge 29, 3) := by decide +kernel
theorem dX6_nextDay_13 : decode cX6_nextDay 13 = .ok (.aload_n 0, 1) := by decide +kernel
theorem dX6_nextDay_14 : decode cX6_nextDay 14 = .ok (.iload_n 1, 1) := by decide +kernel
theorem dX6_nextDay_15 : decode cX6_nextDay 15 = .ok (.iload_n 2, 1) := by decide +kernel
theorem dX6_nextDay_16 : decode cX6_nextDay 16 = .ok (.invokevirtual 170, 3) := by decide +kernel
theorem dX6_nextDay_19 : decode cX6_nextDay 19 = .ok (.aload_n 0, 1) := by decide +kernel
theorem dX6_nextDay_20 : decode cX6_nextDay 20 = .ok (.invokevirtual 173, 3) := by decide +kernel
theorem dX6_nextDay_23 : decode cX6_nextDay 23 = .ok (.if_icmp .lt 10, 3) := by decide +kernel
theorem dX6_nextDay_26 : decode cX6_nextDay 26 = .ok (.aload_n 0, 1) := by decide +kernel
theorem dX6_nextDay_27 : decode cX6_nextDay 27 = .ok (.iload_n 1, 1) := by decide +kernel
theorem dX6_nextDay_28 : decode cX6_nextDay 28 = .ok (.iload_n 2, 1) := by decide +kernel
theorem dX6_nextDay_29 : decode cX6_nextDay 29 = .ok (.invokevirtual 170, 3) := by decide +kernel
theorem dX6_nextDay_32 : decode cX6_nextDay 32 = .ok (.ireturn, 1) := by decide +kernel
theorem dX6_nextDay_33 : decode cX6_nextDay 33 = .ok (.iinc 2 1, 3) := by decide +kernel
theorem dX6_nextDay_36 : decode cX6_nextDay 36 = .ok (.goto (-34), 3) := by decide +kernel
theorem dX6_nextDay_39 : decode cX6_nextDay 39 = .ok (.iconst (-1), 1) := by decide +kernel
theorem dX6_nextDay_40 : decode cX6_nextDay 40 = .ok (.ireturn, 1) := by decide +kernel
set_option maxRecDepth 20000 in
theorem ggX6_planned_X6_isDebtor : GoodIn wsX6_planned wsX6_isDebtor := goodIn_r _ [6, 7, 8, 9, 5, 10, 27, 28, 29, 30, 31, 32, 33, 34, 35, 36, 37, 38, 39, 40, 41, 42, 43, 44, 45, 46] (by decide +kernel) (by decide +kernel)
set_option maxRecDepth 20000 in
theorem gX6_planned_X6_isDebtor : GoodIn wsX6_planned (wsV RX6 221 RX6 yX6_isDebtor wsX6_isDebtor) := goodIn_app (goodIn_of _ (by decide +kernel)) ggX6_planned_X6_isDebtor
set_option maxRecDepth 20000 in
theorem ggX6_planned_X6_its : GoodIn wsX6_planned wsX6_its := goodIn_r _ [14, 7, 27, 28, 29, 30, 31, 32, 33, 34, 35, 36, 37, 38, 39, 40, 41, 42, 43, 44, 45, 46] (by decide +kernel) (by decide +kernel)
set_option maxRecDepth 20000 in
theorem gX6_planned_X6_its : GoodIn wsX6_planned (wsV RX6 148 RX6 yX6_its wsX6_its) := goodIn_app (goodIn_of _ (by decide +kernel)) ggX6_planned_X6_its
set_option maxRecDepth 20000 in
theorem ggX6_planned_X6_isIn : GoodIn wsX6_planned wsX6_isIn := goodIn_r _ [10] (by decide +kernel) (by decide +kernel)
set_option maxRecDepth 20000 in
theorem gX6_planned_X6_isIn : GoodIn wsX6_planned (va_wsS RX6 85 yX6_isIn wsX6_isIn) := goodIn_app (goodIn_of _ (by decide +kernel)) ggX6_planned_X6_isIn
set_option maxRecDepth 20000 in
theorem ggX6_planned_X6_dayOf : GoodIn wsX6_planned wsX6_dayOf := goodIn_r _ [18, 11, 12, 13, 5, 14, 7, 27, 28, 29, 30, 31, 32, 33, 34, 35, 36, 37, 38, 39, 40, 41, 42, 43, 44, 45, 46] (by decide +kernel) (by decide +kernel)
set_option maxRecDepth 20000 in
theorem gX6_planned_X6_dayOf : GoodIn wsX6_planned (wsV RX6 170 RX6 yX6_dayOf wsX6_dayOf) := goodIn_app (goodIn_of _ (by decide +kernel)) ggX6_planned_X6_dayOf
set_option maxRecDepth 20000 in
theorem ggX6_planned_X6_nextDay : GoodIn wsX6_planned wsX6_nextDay := goodIn_r _ [22, 11, 12, 13, 5, 14, 7, 15, 16, 17, 18, 23, 24, 25, 26, 27, 28, 29, 30, 31, 32, 33, 34, 35, 36, 37, 38, 39, 40, 41, 42, 43, 44, 45, 46] (by decide +kernel) (by decide +kernel)
set_option maxRecDepth 20000 in
theorem gX6_planned_X6_nextDay : GoodIn wsX6_planned (wsV RX6 230 RX6 yX6_nextDay wsX6_nextDay) := goodIn_app (goodIn_of _ (by decide +kernel)) ggX6_planned_X6_nextDay
theorem dX6_planned_0 : decode cX6_planned 0 = .ok (.aload_n 0, 1) := by decide +kernel
theorem dX6_planned_1 : decode cX6_planned 1 = .ok (.iconst 0, 1) := by decide +kernel
theorem dX6_planned_2 : decode cX6_planned 2 = .ok (.putfield 1, 3) := by decide +kernel
theorem dX6_planned_5 : decode cX6_planned 5 = .ok (.aload_n 0, 1) := by decide +kernel
theorem dX6_planned_6 : decode cX6_planned 6 = .ok (.iload_n 1, 1) := by decide +kernel
theorem dX6_planned_7 : decode cX6_planned 7 = .ok (.invokevirtual 221, 3) := by decide +kernel
theorem dX6_planned_10 : decode cX6_planned 10 = .ok (.ifCond .eq 13, 3) := by decide +kernel
theorem dX6_planned_13 : decode cX6_planned 13 = .ok (.aload_n 0, 1) := by decide +kernel
theorem dX6_planned_14 : decode cX6_planned 14 = .ok (.iload_n 1, 1) := by decide +kernel
theorem dX6_planned_15 : decode cX6_planned 15 = .ok (.bipush 9, 2) := by decide +kernel
theorem dX6_planned_17 : decode cX6_planned 17 = .ok (.invokevirtual 148, 3) := by decide +kernel
theorem dX6_planned_20 : decode cX6_planned 20 = .ok (.ifCond .ne 5, 3) := by decide +kernel
theorem dX6_planned_23 : decode cX6_planned 23 = .ok (.iconst (-1), 1) := by decide +kernel
theorem dX6_planned_24 : decode cX6_planned 24 = .ok (.ireturn, 1) := by decide +kernel
theorem dX6_planned_25 : decode cX6_planned 25 = .ok (.aload_n 0, 1) := by decide +kernel
theorem dX6_planned_26 : decode cX6_planned 26 = .ok (.iload_n 1, 1) := by decide +kernel
theorem dX6_planned_27 : decode cX6_planned 27 = .ok (.bipush 9, 2) := by decide +kernel
theorem dX6_planned_29 : decode cX6_planned 29 = .ok (.invokevirtual 148, 3) := by decide +kernel
theorem dX6_planned_32 : decode cX6_planned 32 = .ok (.istore_n 3, 1) := by decide +kernel
theorem dX6_planned_33 : decode cX6_planned 33 = .ok (.iload_n 2, 1) := by decide +kernel
theorem dX6_planned_34 : decode cX6_planned 34 = .ok (.bipush 10, 2) := by decide +kernel
theorem dX6_planned_36 : decode cX6_planned 36 = .ok (.bipush 9, 2) := by decide +kernel
theorem dX6_planned_38 : decode cX6_planned 38 = .ok (.iload_n 3, 1) := by decide +kernel
theorem dX6_planned_39 : decode cX6_planned 39 = .ok (.iadd, 1) := by decide +kernel
theorem dX6_planned_40 : decode cX6_planned 40 = .ok (.invokestatic 85, 3) := by decide +kernel
theorem dX6_planned_43 : decode cX6_planned 43 = .ok (.ifCond .eq 16, 3) := by decide +kernel
theorem dX6_planned_46 : decode cX6_planned 46 = .ok (.aload_n 0, 1) := by decide +kernel
theorem dX6_planned_47 : decode cX6_planned 47 = .ok (.iload_n 1, 1) := by decide +kernel
theorem dX6_planned_48 : decode cX6_planned 48 = .ok (.bipush 13, 2) := by decide +kernel
theorem dX6_planned_50 : decode cX6_planned 50 = .ok (.iload_n 2, 1) := by decide +kernel
theorem dX6_planned_51 : decode cX6_planned 51 = .ok (.iadd, 1) := by decide +kernel
theorem dX6_planned_52 : decode cX6_planned 52 = .ok (.bipush 10, 2) := by decide +kernel
theorem dX6_planned_54 : decode cX6_planned 54 = .ok (.isub, 1) := by decide +kernel
theorem dX6_planned_55 : decode cX6_planned 55 = .ok (.invokevirtual 148, 3) := by decide +kernel
theorem dX6_planned_58 : decode cX6_planned 58 = .ok (.ireturn, 1) := by decide +kernel
theorem dX6_planned_59 : decode cX6_planned 59 = .ok (.iload_n 2, 1) := by decide +kernel
theorem dX6_planned_60 : decode cX6_planned 60 = .ok (.bipush 30, 2) := by decide +kernel
theorem dX6_planned_62 : decode cX6_planned 62 = .ok (.bipush 29, 2) := by decide +kernel
theorem dX6_planned_64 : decode cX6_planned 64 = .ok (.iload_n 3, 1) := by decide +kernel
theorem dX6_planned_65 : decode cX6_planned 65 = .ok (.iadd, 1) := by decide +kernel
theorem dX6_planned_66 : decode cX6_planned 66 = .ok (.invokestatic 85, 3) := by decide +kernel
theorem dX6_planned_69 : decode cX6_planned 69 = .ok (.ifCond .eq 13, 3) := by decide +kernel
theorem dX6_planned_72 : decode cX6_planned 72 = .ok (.aload_n 0, 1) := by decide +kernel
theorem dX6_planned_73 : decode cX6_planned 73 = .ok (.iload_n 1, 1) := by decide +kernel
theorem dX6_planned_74 : decode cX6_planned 74 = .ok (.iload_n 2, 1) := by decide +kernel
theorem dX6_planned_75 : decode cX6_planned 75 = .ok (.bipush 30, 2) := by decide +kernel
theorem dX6_planned_77 : decode cX6_planned 77 = .ok (.isub, 1) := by decide +kernel
theorem dX6_planned_78 : decode cX6_planned 78 = .ok (.invokevirtual 170, 3) := by decide +kernel
theorem dX6_planned_81 : decode cX6_planned 81 = .ok (.ireturn, 1) := by decide +kernel
theorem dX6_planned_82 : decode cX6_planned 82 = .ok (.iload_n 2, 1) := by decide +kernel
theorem dX6_planned_83 : decode cX6_planned 83 = .ok (.ifCond .ne 7, 3) := by decide +kernel
theorem dX6_planned_86 : decode cX6_planned 86 = .ok (.iload_n 3, 1) := by decide +kernel
theorem dX6_planned_87 : decode cX6_planned 87 = .ok (.goto 32, 3) := by decide +kernel
theorem dX6_planned_90 : decode cX6_planned 90 = .ok (.iload_n 2, 1) := by decide +kernel
theorem dX6_planned_91 : decode cX6_planned 91 = .ok (.iconst 1, 1) := by decide +kernel
theorem dX6_planned_92 : decode cX6_planned 92 = .ok (.if_icmp .ne 13, 3) := by decide +kernel
theorem dX6_planned_95 : decode cX6_planned 95 = .ok (.aload_n 0, 1) := by decide +kernel
theorem dX6_planned_96 : decode cX6_planned 96 = .ok (.iload_n 1, 1) := by decide +kernel
theorem dX6_planned_97 : decode cX6_planned 97 = .ok (.bipush 12, 2) := by decide +kernel
theorem dX6_planned_99 : decode cX6_planned 99 = .ok (.invokevirtual 148, 3) := by decide +kernel
theorem dX6_planned_102 : decode cX6_planned 102 = .ok (.goto 17, 3) := by decide +kernel
theorem dX6_planned_105 : decode cX6_planned 105 = .ok (.iload_n 2, 1) := by decide +kernel
theorem dX6_planned_106 : decode cX6_planned 106 = .ok (.iconst 2, 1) := by decide +kernel
theorem dX6_planned_107 : decode cX6_planned 107 = .ok (.if_icmp .ne 11, 3) := by decide +kernel
theorem dX6_planned_110 : decode cX6_planned 110 = .ok (.aload_n 0, 1) := by decide +kernel
theorem dX6_planned_111 : decode cX6_planned 111 = .ok (.iload_n 1, 1) := by decide +kernel
theorem dX6_planned_112 : decode cX6_planned 112 = .ok (.invokevirtual 230, 3) := by decide +kernel
theorem dX6_planned_115 : decode cX6_planned 115 = .ok (.goto 4, 3) := by decide +kernel
theorem dX6_planned_118 : decode cX6_planned 118 = .ok (.iconst (-1), 1) := by decide +kernel
theorem dX6_planned_119 : decode cX6_planned 119 = .ok (.ireturn, 1) := by decide +kernel
set_option maxRecDepth 20000 in
theorem ggX6_order_X6_isOrder : GoodIn wsX6_order wsX6_isOrder := goodIn_r _ [6, 7, 8, 9, 5, 10, 15, 16, 17, 18, 19, 20, 21, 22, 23, 24, 25, 26, 27, 28, 29, 30, 31, 32, 33, 34] (by decide +kernel) (by decide +kernel)
set_option maxRecDepth 20000 in
theorem gX6_order_X6_isOrder : GoodIn wsX6_order (wsV RX6 233 RX6 yX6_isOrder wsX6_isOrder) := goodIn_app (goodIn_of _ (by decide +kernel)) ggX6_order_X6_isOrder
set_option maxRecDepth 20000 in
theorem ggX6_order_X6_isIn : GoodIn wsX6_order wsX6_isIn := goodIn_r _ [10] (by decide +kernel) (by decide +kernel)
set_option maxRecDepth 20000 in
theorem gX6_order_X6_isIn : GoodIn wsX6_order (va_wsS RX6 85 yX6_isIn wsX6_isIn) := goodIn_app (goodIn_of _ (by decide +kernel)) ggX6_order_X6_isIn
set_option maxRecDepth 20000 in
theorem ggX6_order_X6_ordered : GoodIn wsX6_order wsX6_ordered := goodIn_r _ [14, 7, 15, 16, 17, 18, 19, 20, 21, 22, 23, 24, 25, 26, 27, 28, 29, 30, 31, 32, 33, 34] (by decide +kernel) (by decide +kernel)
set_option maxRecDepth 20000 in
theorem gX6_order_X6_ordered : GoodIn wsX6_order (wsV RX6 154 RX6 yX6_ordered wsX6_ordered) := goodIn_app (goodIn_of _ (by decide +kernel)) ggX6_order_X6_ordered
theorem dX6_order_0 : decode cX6_order 0 = .ok (.aload_n 0, 1) := by decide +kernel
theorem dX6_order_1 : decode cX6_order 1 = .ok (.iconst 0, 1) := by decide +kernel
theorem dX6_order_2 : decode cX6_order 2 = .ok (.putfield 1, 3) := by decide +kernel
theorem dX6_order_5 : decode cX6_order 5 = .ok (.aload_n 0, 1) := by decide +kernel
theorem dX6_order_6 : decode cX6_order 6 = .ok (.iload_n 1, 1) := by decide +kernel
theorem dX6_order_7 : decode cX6_order 7 = .ok (.invokevirtual 233, 3) := by decide +kernel
theorem dX6_order_10 : decode cX6_order 10 = .ok (.ifCond .eq 21, 3) := by decide +kernel
theorem dX6_order_13 : decode cX6_order 13 = .ok (.iload_n 2, 1) := by decide +kernel
theorem dX6_order_14 : decode cX6_order 14 = .ok (.iconst 0, 1) := by decide +kernel
theorem dX6_order_15 : decode cX6_order 15 = .ok (.iconst 3, 1) := by decide +kernel
theorem dX6_order_16 : decode cX6_order 16 = .ok (.invokestatic 85, 3) := by decide +kernel
theorem dX6_order_19 : decode cX6_order 19 = .ok (.ifCond .eq 12, 3) := by decide +kernel
theorem dX6_order_22 : decode cX6_order 22 = .ok (.aload_n 0, 1) := by decide +kernel
theorem dX6_order_23 : decode cX6_order 23 = .ok (.iload_n 1, 1) := by decide +kernel
theorem dX6_order_24 : decode cX6_order 24 = .ok (.iload_n 2, 1) := by decide +kernel
theorem dX6_order_25 : decode cX6_order 25 = .ok (.invokevirtual 154, 3) := by decide +kernel
theorem dX6_order_28 : decode cX6_order 28 = .ok (.goto 4, 3) := by decide +kernel
theorem dX6_order_31 : decode cX6_order 31 = .ok (.iconst (-1), 1) := by decide +kernel
theorem dX6_order_32 : decode cX6_order 32 = .ok (.ireturn, 1) := by decide +kernel
set_option maxRecDepth 20000 in
theorem ggX6_isAged_X6_isIn : GoodIn wsX6_isAged wsX6_isIn := goodIn_r _ [4] (by decide +kernel) (by decide +kernel)
set_option maxRecDepth 20000 in
theorem gX6_isAged_X6_isIn : GoodIn wsX6_isAged (va_wsS RX6 85 yX6_isIn wsX6_isIn) := goodIn_app (goodIn_of _ (by decide +kernel)) ggX6_isAged_X6_isIn
theorem dX6_isAged_0 : decode cX6_isAged 0 = .ok (.iload_n 1, 1) := by decide +kernel
theorem dX6_isAged_1 : decode cX6_isAged 1 = .ok (.ifCond .ne 15, 3) := by decide +kernel
theorem dX6_isAged_4 : decode cX6_isAged 4 = .ok (.iload_n 0, 1) := by decide +kernel
theorem dX6_isAged_5 : decode cX6_isAged 5 = .ok (.ifCond .ne 7, 3) := by decide +kernel
theorem dX6_isAged_8 : decode cX6_isAged 8 = .ok (.iconst 1, 1) := by decide +kernel
theorem dX6_isAged_9 : decode cX6_isAged 9 = .ok (.goto 49, 3) := by decide +kernel
theorem dX6_isAged_12 : decode cX6_isAged 12 = .ok (.iconst 0, 1) := by decide +kernel
theorem dX6_isAged_13 : decode cX6_isAged 13 = .ok (.goto 45, 3) := by decide +kernel
theorem dX6_isAged_16 : decode cX6_isAged 16 = .ok (.iload_n 1, 1) := by decide +kernel
theorem dX6_isAged_17 : decode cX6_isAged 17 = .ok (.iconst 1, 1) := by decide +kernel
theorem dX6_isAged_18 : decode cX6_isAged 18 = .ok (.if_icmp .ne 13, 3) := by decide +kernel
theorem dX6_isAged_21 : decode cX6_isAged 21 = .ok (.iload_n 0, 1) := by decide +kernel
theorem dX6_isAged_22 : decode cX6_isAged 22 = .ok (.iconst 1, 1) := by decide +kernel
theorem dX6_isAged_23 : decode cX6_isAged 23 = .ok (.bipush 30, 2) := by decide +kernel
theorem dX6_isAged_25 : decode cX6_isAged 25 = .ok (.invokestatic 85, 3) := by decide +kernel
theorem dX6_isAged_28 : decode cX6_isAged 28 = .ok (.goto 30, 3) := by decide +kernel
theorem dX6_isAged_31 : decode cX6_isAged 31 = .ok (.iload_n 1, 1) := by decide +kernel
theorem dX6_isAged_32 : decode cX6_isAged 32 = .ok (.iconst 2, 1) := by decide +kernel
theorem dX6_isAged_33 : decode cX6_isAged 33 = .ok (.if_icmp .ne 14, 3) := by decide +kernel
theorem dX6_isAged_36 : decode cX6_isAged 36 = .ok (.iload_n 0, 1) := by decide +kernel
theorem dX6_isAged_37 : decode cX6_isAged 37 = .ok (.bipush 31, 2) := by decide +kernel
theorem dX6_isAged_39 : decode cX6_isAged 39 = .ok (.bipush 60, 2) := by decide +kernel
theorem dX6_isAged_41 : decode cX6_isAged 41 = .ok (.invokestatic 85, 3) := by decide +kernel
theorem dX6_isAged_44 : decode cX6_isAged 44 = .ok (.goto 14, 3) := by decide +kernel
theorem dX6_isAged_47 : decode cX6_isAged 47 = .ok (.iload_n 0, 1) := by decide +kernel
theorem dX6_isAged_48 : decode cX6_isAged 48 = .ok (.bipush 60, 2) := by decide +kernel
theorem dX6_isAged_50 : decode cX6_isAged 50 = .ok (.if_icmp .le 7, 3) := by decide +kernel
theorem dX6_isAged_53 : decode cX6_isAged 53 = .ok (.iconst 1, 1) := by decide +kernel
theorem dX6_isAged_54 : decode cX6_isAged 54 = .ok (.goto 4, 3) := by decide +kernel
theorem dX6_isAged_57 : decode cX6_isAged 57 = .ok (.iconst 0, 1) := by decide +kernel
theorem dX6_isAged_58 : decode cX6_isAged 58 = .ok (.ireturn, 1) := by decide +kernel
set_option maxRecDepth 20000 in
theorem ggX6_aged_X6_isDebtor : GoodIn wsX6_aged wsX6_isDebtor := goodIn_r _ [8, 3, 9, 10, 7, 11, 19, 20, 21, 22, 23, 24, 25, 26, 27, 28, 29, 30, 31, 32, 33, 34, 35, 36, 37, 38] (by decide +kernel) (by decide +kernel)
set_option maxRecDepth 20000 in
theorem gX6_aged_X6_isDebtor : GoodIn wsX6_aged (wsV RX6 221 RX6 yX6_isDebtor wsX6_isDebtor) := goodIn_app (goodIn_of _ (by decide +kernel)) ggX6_aged_X6_isDebtor
set_option maxRecDepth 20000 in
theorem ggX6_aged_X6_isIn : GoodIn wsX6_aged wsX6_isIn := goodIn_r _ [11] (by decide +kernel) (by decide +kernel)
set_option maxRecDepth 20000 in
theorem gX6_aged_X6_isIn : GoodIn wsX6_aged (va_wsS RX6 85 yX6_isIn wsX6_isIn) := goodIn_app (goodIn_of _ (by decide +kernel)) ggX6_aged_X6_isIn
set_option maxRecDepth 20000 in
theorem ggX6_aged_X6_billed : GoodIn wsX6_aged wsX6_billed := goodIn_r _ [15, 3, 19, 20, 21, 22, 23, 24, 25, 26, 27, 28, 29, 30, 31, 32, 33, 34, 35, 36, 37, 38] (by decide +kernel) (by decide +kernel)
set_option maxRecDepth 20000 in
theorem gX6_aged_X6_billed : GoodIn wsX6_aged (wsV RX6 140 RX6 yX6_billed wsX6_billed) := goodIn_app (goodIn_of _ (by decide +kernel)) ggX6_aged_X6_billed
set_option maxRecDepth 20000 in
theorem ggX6_aged_X6_isAged : GoodIn wsX6_aged wsX6_isAged := goodIn_r _ [18, 9, 10, 7, 11] (by decide +kernel) (by decide +kernel)
set_option maxRecDepth 20000 in
theorem gX6_aged_X6_isAged : GoodIn wsX6_aged (va_wsS RX6 237 yX6_isAged wsX6_isAged) := goodIn_app (goodIn_of _ (by decide +kernel)) ggX6_aged_X6_isAged
theorem dX6_aged_0 : decode cX6_aged 0 = .ok (.aload_n 0, 1) := by decide +kernel
theorem dX6_aged_1 : decode cX6_aged 1 = .ok (.iconst 0, 1) := by decide +kernel
theorem dX6_aged_2 : decode cX6_aged 2 = .ok (.putfield 1, 3) := by decide +kernel
theorem dX6_aged_5 : decode cX6_aged 5 = .ok (.iload_n 1, 1) := by decide +kernel
theorem dX6_aged_6 : decode cX6_aged 6 = .ok (.iconst (-1), 1) := by decide +kernel
theorem dX6_aged_7 : decode cX6_aged 7 = .ok (.if_icmp .eq 11, 3) := by decide +kernel
theorem dX6_aged_10 : decode cX6_aged 10 = .ok (.aload_n 0, 1) := by decide +kernel
theorem dX6_aged_11 : decode cX6_aged 11 = .ok (.iload_n 1, 1) := by decide +kernel
theorem dX6_aged_12 : decode cX6_aged 12 = .ok (.invokevirtual 221, 3) := by decide +kernel
theorem dX6_aged_15 : decode cX6_aged 15 = .ok (.ifCond .eq 12, 3) := by decide +kernel
theorem dX6_aged_18 : decode cX6_aged 18 = .ok (.iload_n 2, 1) := by decide +kernel
theorem dX6_aged_19 : decode cX6_aged 19 = .ok (.iconst 0, 1) := by decide +kernel
theorem dX6_aged_20 : decode cX6_aged 20 = .ok (.iconst 4, 1) := by decide +kernel
theorem dX6_aged_21 : decode cX6_aged 21 = .ok (.invokestatic 85, 3) := by decide +kernel
theorem dX6_aged_24 : decode cX6_aged 24 = .ok (.ifCond .ne 6, 3) := by decide +kernel
theorem dX6_aged_27 : decode cX6_aged 27 = .ok (.ldc 236, 2) := by decide +kernel
theorem dX6_aged_29 : decode cX6_aged 29 = .ok (.ireturn, 1) := by decide +kernel
theorem dX6_aged_30 : decode cX6_aged 30 = .ok (.iconst 0, 1) := by decide +kernel
theorem dX6_aged_31 : decode cX6_aged 31 = .ok (.istore_n 3, 1) := by decide +kernel
theorem dX6_aged_32 : decode cX6_aged 32 = .ok (.iconst 0, 1) := by decide +kernel
theorem dX6_aged_33 : decode cX6_aged 33 = .ok (.istore 4, 2) := by decide +kernel
theorem dX6_aged_35 : decode cX6_aged 35 = .ok (.iload 4, 2) := by decide +kernel
theorem dX6_aged_37 : decode cX6_aged 37 = .ok (.aload_n 0, 1) := by decide +kernel
theorem dX6_aged_38 : decode cX6_aged 38 = .ok (.getfield 70, 3) := by decide +kernel
theorem dX6_aged_41 : decode cX6_aged 41 = .ok (.iconst 4, 1) := by decide +kernel
theorem dX6_aged_42 : decode cX6_aged 42 = .ok (.iaload, 1) := by decide +kernel
theorem dX6_aged_43 : decode cX6_aged 43 = .ok (.if_icmp .ge 98, 3) := by decide +kernel
theorem dX6_aged_46 : decode cX6_aged 46 = .ok (.iload_n 1, 1) := by decide +kernel
theorem dX6_aged_47 : decode cX6_aged 47 = .ok (.iconst (-1), 1) := by decide +kernel
theorem dX6_aged_48 : decode cX6_aged 48 = .ok (.if_icmp .eq 17, 3) := by decide +kernel
theorem dX6_aged_51 : decode cX6_aged 51 = .ok (.aload_n 0, 1) := by decide +kernel
theorem dX6_aged_52 : decode cX6_aged 52 = .ok (.iload 4, 2) := by decide +kernel
theorem dX6_aged_54 : decode cX6_aged 54 = .ok (.iconst 0, 1) := by decide +kernel
theorem dX6_aged_55 : decode cX6_aged 55 = .ok (.invokevirtual 140, 3) := by decide +kernel
theorem dX6_aged_58 : decode cX6_aged 58 = .ok (.iload_n 1, 1) := by decide +kernel
theorem dX6_aged_59 : decode cX6_aged 59 = .ok (.if_icmp .eq 6, 3) := by decide +kernel
theorem dX6_aged_62 : decode cX6_aged 62 = .ok (.goto 73, 3) := by decide +kernel
theorem dX6_aged_65 : decode cX6_aged 65 = .ok (.iload_n 2, 1) := by decide +kernel
theorem dX6_aged_66 : decode cX6_aged 66 = .ok (.iconst 4, 1) := by decide +kernel
theorem dX6_aged_67 : decode cX6_aged 67 = .ok (.if_icmp .ne 22, 3) := by decide +kernel
theorem dX6_aged_70 : decode cX6_aged 70 = .ok (.aload_n 0, 1) := by decide +kernel
theorem dX6_aged_71 : decode cX6_aged 71 = .ok (.iload 4, 2) := by decide +kernel
theorem dX6_aged_73 : decode cX6_aged 73 = .ok (.iconst 5, 1) := by decide +kernel
theorem dX6_aged_74 : decode cX6_aged 74 = .ok (.invokevirtual 140, 3) := by decide +kernel
theorem dX6_aged_77 : decode cX6_aged 77 = .ok (.iconst 1, 1) := by decide +kernel
theorem dX6_aged_78 : decode cX6_aged 78 = .ok (.if_icmp .ne 7, 3) := by decide +kernel
theorem dX6_aged_81 : decode cX6_aged 81 = .ok (.iconst 1, 1) := by decide +kernel
theorem dX6_aged_82 : decode cX6_aged 82 = .ok (.goto 36, 3) := by decide +kernel
theorem dX6_aged_85 : decode cX6_aged 85 = .ok (.iconst 0, 1) := by decide +kernel
theorem dX6_aged_86 : decode cX6_aged 86 = .ok (.goto 32, 3) := by decide +kernel
theorem dX6_aged_89 : decode cX6_aged 89 = .ok (.aload_n 0, 1) := by decide +kernel
theorem dX6_aged_90 : decode cX6_aged 90 = .ok (.iload 4, 2) := by decide +kernel
theorem dX6_aged_92 : decode cX6_aged 92 = .ok (.iconst 5, 1) := by decide +kernel
theorem dX6_aged_93 : decode cX6_aged 93 = .ok (.invokevirtual 140, 3) := by decide +kernel
theorem dX6_aged_96 : decode cX6_aged 96 = .ok (.ifCond .ne 21, 3) := by decide +kernel
theorem dX6_aged_99 : decode cX6_aged 99 = .ok (.aload_n 0, 1) := by decide +kernel
theorem dX6_aged_100 : decode cX6_aged 100 = .ok (.iload 4, 2) := by decide +kernel
theorem dX6_aged_102 : decode cX6_aged 102 = .ok (.iconst 4, 1) := by decide +kernel
theorem dX6_aged_103 : decode cX6_aged 103 = .ok (.invokevirtual 140, 3) := by decide +kernel
theorem dX6_aged_106 : decode cX6_aged 106 = .ok (.iload_n 2, 1) := by decide +kernel
theorem dX6_aged_107 : decode cX6_aged 107 = .ok (.invokestatic 237, 3) := by decide +kernel
theorem dX6_aged_110 : decode cX6_aged 110 = .ok (.ifCond .eq 7, 3) := by decide +kernel
theorem dX6_aged_113 : decode cX6_aged 113 = .ok (.iconst 1, 1) := by decide +kernel
theorem dX6_aged_114 : decode cX6_aged 114 = .ok (.goto 4, 3) := by decide +kernel
theorem dX6_aged_117 : decode cX6_aged 117 = .ok (.iconst 0, 1) := by decide +kernel
theorem dX6_aged_118 : decode cX6_aged 118 = .ok (.istore 5, 2) := by decide +kernel
theorem dX6_aged_120 : decode cX6_aged 120 = .ok (.iload 5, 2) := by decide +kernel
theorem dX6_aged_122 : decode cX6_aged 122 = .ok (.ifCond .eq 13, 3) := by decide +kernel
theorem dX6_aged_125 : decode cX6_aged 125 = .ok (.iload_n 3, 1) := by decide +kernel
theorem dX6_aged_126 : decode cX6_aged 126 = .ok (.aload_n 0, 1) := by decide +kernel
theorem dX6_aged_127 : decode cX6_aged 127 = .ok (.iload 4, 2) := by decide +kernel
theorem dX6_aged_129 : decode cX6_aged 129 = .ok (.iconst 2, 1) := by decide +kernel
theorem dX6_aged_130 : decode cX6_aged 130 = .ok (.invokevirtual 140, 3) := by decide +kernel
theorem dX6_aged_133 : decode cX6_aged 133 = .ok (.iadd, 1) := by decide +kernel
theorem dX6_aged_134 : decode cX6_aged 134 = .ok (.istore_n 3, 1) := by decide +kernel
theorem dX6_aged_135 : decode cX6_aged 135 = .ok (.iinc 4 1, 3) := by decide +kernel
theorem dX6_aged_138 : decode cX6_aged 138 = .ok (.goto (-103), 3) := by decide +kernel
theorem dX6_aged_141 : decode cX6_aged 141 = .ok (.iload_n 3, 1) := by decide +kernel
theorem dX6_aged_142 : decode cX6_aged 142 = .ok (.ireturn, 1) := by decide +kernel
theorem dX6_keeps_0 : decode cX6_keeps 0 = .ok (.iconst 0, 1) := by decide +kernel
theorem dX6_keeps_1 : decode cX6_keeps 1 = .ok (.istore_n 1, 1) := by decide +kernel
theorem dX6_keeps_2 : decode cX6_keeps 2 = .ok (.iload_n 1, 1) := by decide +kernel
theorem dX6_keeps_3 : decode cX6_keeps 3 = .ok (.sipush 785, 3) := by decide +kernel
theorem dX6_keeps_6 : decode cX6_keeps 6 = .ok (.if_icmp .ge 21, 3) := by decide +kernel
theorem dX6_keeps_9 : decode cX6_keeps 9 = .ok (.aload_n 0, 1) := by decide +kernel
theorem dX6_keeps_10 : decode cX6_keeps 10 = .ok (.getfield 76, 3) := by decide +kernel
theorem dX6_keeps_13 : decode cX6_keeps 13 = .ok (.iload_n 1, 1) := by decide +kernel
theorem dX6_keeps_14 : decode cX6_keeps 14 = .ok (.aload_n 0, 1) := by decide +kernel
theorem dX6_keeps_15 : decode cX6_keeps 15 = .ok (.getfield 70, 3) := by decide +kernel
theorem dX6_keeps_18 : decode cX6_keeps 18 = .ok (.iload_n 1, 1) := by decide +kernel
theorem dX6_keeps_19 : decode cX6_keeps 19 = .ok (.iaload, 1) := by decide +kernel
theorem dX6_keeps_20 : decode cX6_keeps 20 = .ok (.iastore, 1) := by decide +kernel
theorem dX6_keeps_21 : decode cX6_keeps 21 = .ok (.iinc 1 1, 3) := by decide +kernel
theorem dX6_keeps_24 : decode cX6_keeps 24 = .ok (.goto (-22), 3) := by decide +kernel
theorem dX6_keeps_27 : decode cX6_keeps 27 = .ok (.return_, 1) := by decide +kernel
theorem dX6_back_0 : decode cX6_back 0 = .ok (.iconst 0, 1) := by decide +kernel
theorem dX6_back_1 : decode cX6_back 1 = .ok (.istore_n 1, 1) := by decide +kernel
theorem dX6_back_2 : decode cX6_back 2 = .ok (.iload_n 1, 1) := by decide +kernel
theorem dX6_back_3 : decode cX6_back 3 = .ok (.sipush 785, 3) := by decide +kernel
theorem dX6_back_6 : decode cX6_back 6 = .ok (.if_icmp .ge 21, 3) := by decide +kernel
theorem dX6_back_9 : decode cX6_back 9 = .ok (.aload_n 0, 1) := by decide +kernel
theorem dX6_back_10 : decode cX6_back 10 = .ok (.getfield 70, 3) := by decide +kernel
theorem dX6_back_13 : decode cX6_back 13 = .ok (.iload_n 1, 1) := by decide +kernel
theorem dX6_back_14 : decode cX6_back 14 = .ok (.aload_n 0, 1) := by decide +kernel
theorem dX6_back_15 : decode cX6_back 15 = .ok (.getfield 76, 3) := by decide +kernel
theorem dX6_back_18 : decode cX6_back 18 = .ok (.iload_n 1, 1) := by decide +kernel
theorem dX6_back_19 : decode cX6_back 19 = .ok (.iaload, 1) := by decide +kernel
theorem dX6_back_20 : decode cX6_back 20 = .ok (.iastore, 1) := by decide +kernel
theorem dX6_back_21 : decode cX6_back 21 = .ok (.iinc 1 1, 3) := by decide +kernel
theorem dX6_back_24 : decode cX6_back 24 = .ok (.goto (-22), 3) := by decide +kernel
theorem dX6_back_27 : decode cX6_back 27 = .ok (.return_, 1) := by decide +kernel
set_option maxRecDepth 20000 in
theorem ggX6_next_X6_isDebtor : GoodIn wsX6_next wsX6_isDebtor := goodIn_r _ [8, 9, 10, 11, 7, 12, 103, 104, 105, 106, 107, 108, 109, 110, 111, 112, 113, 114, 115, 116, 117, 118, 119, 120, 121, 122] (by decide +kernel) (by decide +kernel)
set_option maxRecDepth 20000 in
theorem gX6_next_X6_isDebtor : GoodIn wsX6_next (wsV RX6 221 RX6 yX6_isDebtor wsX6_isDebtor) := goodIn_app (goodIn_of _ (by decide +kernel)) ggX6_next_X6_isDebtor
set_option maxRecDepth 20000 in
theorem ggX6_next_X6_keeps : GoodIn wsX6_next wsX6_keeps := goodIn_r _ [16, 17, 9, 103, 104, 105, 106, 107, 108, 109, 110, 111, 112, 113, 114, 115, 116, 117, 118, 119, 120, 121, 122] (by decide +kernel) (by decide +kernel)
set_option maxRecDepth 20000 in
theorem gX6_next_X6_keeps : GoodIn wsX6_next (wsV RX6 240 RX6 yX6_keeps wsX6_keeps) := goodIn_app (goodIn_of _ (by decide +kernel)) ggX6_next_X6_keeps
set_option maxRecDepth 20000 in
theorem ggX6_next_X6_ends : GoodIn wsX6_next wsX6_ends := goodIn_r _ [21, 9, 3, 22, 2, 23, 24, 25, 7, 26, 27, 28, 29, 30, 31, 32, 33, 34, 35, 36, 37, 38, 39, 40, 41, 42, 43, 44, 45, 46, 47, 48, 49, 50, 51, 52, 53, 54, 55, 56, 57, 58, 59, 60, 61, 62, 63, 64, 65, 66, 67, 68, 69, 70, 71, 72, 73, 74, 75, 76, 77, 78, 79, 80, 81, 82, 83, 84, 85, 86, 87, 88, 89, 90, 91, 92, 93, 94, 95, 96, 97, 98, 103, 104, 105, 106, 107, 108, 109, 110, 111, 112, 113, 114, 115, 116, 117, 118, 119, 120, 121, 122] (by decide +kernel) (by decide +kernel)
set_option maxRecDepth 20000 in
theorem gX6_next_X6_ends : GoodIn wsX6_next (wsV RX6 243 RX6 yX6_ends wsX6_ends) := goodIn_app (goodIn_of _ (by decide +kernel)) ggX6_next_X6_ends
set_option maxRecDepth 20000 in
theorem ggX6_next_X6_back : GoodIn wsX6_next wsX6_back := goodIn_r _ [102, 9, 17, 103, 104, 105, 106, 107, 108, 109, 110, 111, 112, 113, 114, 115, 116, 117, 118, 119, 120, 121, 122] (by decide +kernel) (by decide +kernel)
set_option maxRecDepth 20000 in
theorem gX6_next_X6_back : GoodIn wsX6_next (wsV RX6 246 RX6 yX6_back wsX6_back) := goodIn_app (goodIn_of _ (by decide +kernel)) ggX6_next_X6_back
theorem dX6_next_0 : decode cX6_next 0 = .ok (.aload_n 0, 1) := by decide +kernel
theorem dX6_next_1 : decode cX6_next 1 = .ok (.iconst 0, 1) := by decide +kernel
theorem dX6_next_2 : decode cX6_next 2 = .ok (.putfield 1, 3) := by decide +kernel
theorem dX6_next_5 : decode cX6_next 5 = .ok (.aload_n 0, 1) := by decide +kernel
theorem dX6_next_6 : decode cX6_next 6 = .ok (.iload_n 1, 1) := by decide +kernel
theorem dX6_next_7 : decode cX6_next 7 = .ok (.invokevirtual 221, 3) := by decide +kernel
theorem dX6_next_10 : decode cX6_next 10 = .ok (.ifCond .ne 5, 3) := by decide +kernel
theorem dX6_next_13 : decode cX6_next 13 = .ok (.iconst (-1), 1) := by decide +kernel
theorem dX6_next_14 : decode cX6_next 14 = .ok (.ireturn, 1) := by decide +kernel
theorem dX6_next_15 : decode cX6_next 15 = .ok (.aload_n 0, 1) := by decide +kernel
theorem dX6_next_16 : decode cX6_next 16 = .ok (.invokevirtual 240, 3) := by decide +kernel
theorem dX6_next_19 : decode cX6_next 19 = .ok (.aload_n 0, 1) := by decide +kernel
theorem dX6_next_20 : decode cX6_next 20 = .ok (.iload_n 1, 1) := by decide +kernel
theorem dX6_next_21 : decode cX6_next 21 = .ok (.putfield 206, 3) := by decide +kernel
theorem dX6_next_24 : decode cX6_next 24 = .ok (.aload_n 0, 1) := by decide +kernel
theorem dX6_next_25 : decode cX6_next 25 = .ok (.iconst 0, 1) := by decide +kernel
theorem dX6_next_26 : decode cX6_next 26 = .ok (.putfield 199, 3) := by decide +kernel
theorem dX6_next_29 : decode cX6_next 29 = .ok (.iconst 0, 1) := by decide +kernel
theorem dX6_next_30 : decode cX6_next 30 = .ok (.istore_n 2, 1) := by decide +kernel
theorem dX6_next_31 : decode cX6_next 31 = .ok (.iload_n 2, 1) := by decide +kernel
theorem dX6_next_32 : decode cX6_next 32 = .ok (.sipush 200, 3) := by decide +kernel
theorem dX6_next_35 : decode cX6_next 35 = .ok (.if_icmp .ge 20, 3) := by decide +kernel
theorem dX6_next_38 : decode cX6_next 38 = .ok (.aload_n 0, 1) := by decide +kernel
theorem dX6_next_39 : decode cX6_next 39 = .ok (.getfield 199, 3) := by decide +kernel
theorem dX6_next_42 : decode cX6_next 42 = .ok (.ifCond .ne 13, 3) := by decide +kernel
theorem dX6_next_45 : decode cX6_next 45 = .ok (.aload_n 0, 1) := by decide +kernel
theorem dX6_next_46 : decode cX6_next 46 = .ok (.invokevirtual 243, 3) := by decide +kernel
theorem dX6_next_49 : decode cX6_next 49 = .ok (.iinc 2 1, 3) := by decide +kernel
theorem dX6_next_52 : decode cX6_next 52 = .ok (.goto (-21), 3) := by decide +kernel
theorem dX6_next_55 : decode cX6_next 55 = .ok (.aload_n 0, 1) := by decide +kernel
theorem dX6_next_56 : decode cX6_next 56 = .ok (.invokevirtual 246, 3) := by decide +kernel
theorem dX6_next_59 : decode cX6_next 59 = .ok (.aload_n 0, 1) := by decide +kernel
theorem dX6_next_60 : decode cX6_next 60 = .ok (.getfield 199, 3) := by decide +kernel
theorem dX6_next_63 : decode cX6_next 63 = .ok (.ifCond .eq 7, 3) := by decide +kernel
theorem dX6_next_66 : decode cX6_next 66 = .ok (.iload_n 2, 1) := by decide +kernel
theorem dX6_next_67 : decode cX6_next 67 = .ok (.goto 5, 3) := by decide +kernel
theorem dX6_next_70 : decode cX6_next 70 = .ok (.bipush (-2), 2) := by decide +kernel
theorem dX6_next_72 : decode cX6_next 72 = .ok (.ireturn, 1) := by decide +kernel
set_option maxRecDepth 20000 in
theorem ggX6_canPay_X6_isDebtor : GoodIn wsX6_canPay wsX6_isDebtor := goodIn_r _ [6, 7, 8, 9, 5, 10, 11, 12, 13, 14, 15, 16, 17, 18, 19, 20, 21, 22, 23, 24, 25, 26, 27, 28, 29, 30] (by decide +kernel) (by decide +kernel)
set_option maxRecDepth 20000 in
theorem gX6_canPay_X6_isDebtor : GoodIn wsX6_canPay (wsV RX6 221 RX6 yX6_isDebtor wsX6_isDebtor) := goodIn_app (goodIn_of _ (by decide +kernel)) ggX6_canPay_X6_isDebtor
set_option maxRecDepth 20000 in
theorem ggX6_canPay_X6_isIn : GoodIn wsX6_canPay wsX6_isIn := goodIn_r _ [10] (by decide +kernel) (by decide +kernel)
set_option maxRecDepth 20000 in
theorem gX6_canPay_X6_isIn : GoodIn wsX6_canPay (va_wsS RX6 85 yX6_isIn wsX6_isIn) := goodIn_app (goodIn_of _ (by decide +kernel)) ggX6_canPay_X6_isIn
theorem dX6_canPay_0 : decode cX6_canPay 0 = .ok (.aload_n 0, 1) := by decide +kernel
theorem dX6_canPay_1 : decode cX6_canPay 1 = .ok (.iload_n 1, 1) := by decide +kernel
theorem dX6_canPay_2 : decode cX6_canPay 2 = .ok (.invokevirtual 221, 3) := by decide +kernel
theorem dX6_canPay_5 : decode cX6_canPay 5 = .ok (.ifCond .eq 17, 3) := by decide +kernel
theorem dX6_canPay_8 : decode cX6_canPay 8 = .ok (.iload_n 2, 1) := by decide +kernel
theorem dX6_canPay_9 : decode cX6_canPay 9 = .ok (.iconst 1, 1) := by decide +kernel
theorem dX6_canPay_10 : decode cX6_canPay 10 = .ok (.ldc 249, 2) := by decide +kernel
theorem dX6_canPay_12 : decode cX6_canPay 12 = .ok (.invokestatic 85, 3) := by decide +kernel
theorem dX6_canPay_15 : decode cX6_canPay 15 = .ok (.ifCond .eq 7, 3) := by decide +kernel
theorem dX6_canPay_18 : decode cX6_canPay 18 = .ok (.iconst 1, 1) := by decide +kernel
theorem dX6_canPay_19 : decode cX6_canPay 19 = .ok (.goto 4, 3) := by decide +kernel
theorem dX6_canPay_22 : decode cX6_canPay 22 = .ok (.iconst 0, 1) := by decide +kernel
theorem dX6_canPay_23 : decode cX6_canPay 23 = .ok (.ireturn, 1) := by decide +kernel
set_option maxRecDepth 20000 in
theorem ggX6_pays_X6_its : GoodIn wsX6_pays wsX6_its := goodIn_r _ [6, 1, 39, 40, 41, 42, 43, 44, 45, 46, 47, 48, 49, 50, 51, 52, 53, 54, 55, 56, 57, 58] (by decide +kernel) (by decide +kernel)
set_option maxRecDepth 20000 in
theorem gX6_pays_X6_its : GoodIn wsX6_pays (wsV RX6 148 RX6 yX6_its wsX6_its) := goodIn_app (goodIn_of _ (by decide +kernel)) ggX6_pays_X6_its
set_option maxRecDepth 20000 in
theorem ggX6_pays_X6_puts : GoodIn wsX6_pays wsX6_puts := goodIn_r _ [10, 1, 39, 40, 41, 42, 43, 44, 45, 46, 47, 48, 49, 50, 51, 52, 53, 54, 55, 56, 57, 58] (by decide +kernel) (by decide +kernel)
set_option maxRecDepth 20000 in
theorem gX6_pays_X6_puts : GoodIn wsX6_pays (wsV RX6 157 RX6 yX6_puts wsX6_puts) := goodIn_app (goodIn_of _ (by decide +kernel)) ggX6_pays_X6_puts
set_option maxRecDepth 20000 in
theorem ggX6_pays_X6_places : GoodIn wsX6_pays wsX6_places := goodIn_r _ [14, 1, 2, 3, 4, 5, 6, 15, 16, 17, 18, 19, 20, 21, 22, 7, 8, 9, 10, 39, 40, 41, 42, 43, 44, 45, 46, 47, 48, 49, 50, 51, 52, 53, 54, 55, 56, 57, 58] (by decide +kernel) (by decide +kernel)
set_option maxRecDepth 20000 in
theorem gX6_pays_X6_places : GoodIn wsX6_pays (wsV RX6 164 RX6 yX6_places wsX6_places) := goodIn_app (goodIn_of _ (by decide +kernel)) ggX6_pays_X6_places
set_option maxRecDepth 20000 in
theorem ggX6_pays_X6_releases : GoodIn wsX6_pays wsX6_releases := goodIn_r _ [26, 1, 27, 28, 29, 5, 30, 2, 3, 4, 6, 31, 32, 33, 34, 35, 36, 37, 38, 19, 20, 21, 22, 39, 40, 41, 42, 43, 44, 45, 46, 47, 48, 49, 50, 51, 52, 53, 54, 55, 56, 57, 58] (by decide +kernel) (by decide +kernel)
set_option maxRecDepth 20000 in
theorem gX6_pays_X6_releases : GoodIn wsX6_pays (wsV RX6 209 RX6 yX6_releases wsX6_releases) := goodIn_app (goodIn_of _ (by decide +kernel)) ggX6_pays_X6_releases
theorem dX6_pays_0 : decode cX6_pays 0 = .ok (.aload_n 0, 1) := by decide +kernel
theorem dX6_pays_1 : decode cX6_pays 1 = .ok (.iload_n 1, 1) := by decide +kernel
theorem dX6_pays_2 : decode cX6_pays 2 = .ok (.iconst 2, 1) := by decide +kernel
theorem dX6_pays_3 : decode cX6_pays 3 = .ok (.aload_n 0, 1) := by decide +kernel
theorem dX6_pays_4 : decode cX6_pays 4 = .ok (.iload_n 1, 1) := by decide +kernel
theorem dX6_pays_5 : decode cX6_pays 5 = .ok (.iconst 2, 1) := by decide +kernel
theorem dX6_pays_6 : decode cX6_pays 6 = .ok (.invokevirtual 148, 3) := by decide +kernel
theorem dX6_pays_9 : decode cX6_pays 9 = .ok (.iload_n 2, 1) := by decide +kernel
theorem dX6_pays_10 : decode cX6_pays 10 = .ok (.iadd, 1) := by decide +kernel
theorem dX6_pays_11 : decode cX6_pays 11 = .ok (.invokevirtual 157, 3) := by decide +kernel
theorem dX6_pays_14 : decode cX6_pays 14 = .ok (.aload_n 0, 1) := by decide +kernel
theorem dX6_pays_15 : decode cX6_pays 15 = .ok (.getfield 70, 3) := by decide +kernel
theorem dX6_pays_18 : decode cX6_pays 18 = .ok (.bipush 6, 2) := by decide +kernel
theorem dX6_pays_20 : decode cX6_pays 20 = .ok (.dup2, 1) := by decide +kernel
theorem dX6_pays_21 : decode cX6_pays 21 = .ok (.iaload, 1) := by decide +kernel
theorem dX6_pays_22 : decode cX6_pays 22 = .ok (.iload_n 2, 1) := by decide +kernel
theorem dX6_pays_23 : decode cX6_pays 23 = .ok (.iadd, 1) := by decide +kernel
theorem dX6_pays_24 : decode cX6_pays 24 = .ok (.iastore, 1) := by decide +kernel
theorem dX6_pays_25 : decode cX6_pays 25 = .ok (.aload_n 0, 1) := by decide +kernel
theorem dX6_pays_26 : decode cX6_pays 26 = .ok (.iload_n 1, 1) := by decide +kernel
theorem dX6_pays_27 : decode cX6_pays 27 = .ok (.iconst 5, 1) := by decide +kernel
theorem dX6_pays_28 : decode cX6_pays 28 = .ok (.invokevirtual 148, 3) := by decide +kernel
theorem dX6_pays_31 : decode cX6_pays 31 = .ok (.ifCond .le 19, 3) := by decide +kernel
theorem dX6_pays_34 : decode cX6_pays 34 = .ok (.aload_n 0, 1) := by decide +kernel
theorem dX6_pays_35 : decode cX6_pays 35 = .ok (.iload_n 1, 1) := by decide +kernel
theorem dX6_pays_36 : decode cX6_pays 36 = .ok (.bipush 7, 2) := by decide +kernel
theorem dX6_pays_38 : decode cX6_pays 38 = .ok (.aload_n 0, 1) := by decide +kernel
theorem dX6_pays_39 : decode cX6_pays 39 = .ok (.iload_n 1, 1) := by decide +kernel
theorem dX6_pays_40 : decode cX6_pays 40 = .ok (.bipush 7, 2) := by decide +kernel
theorem dX6_pays_42 : decode cX6_pays 42 = .ok (.invokevirtual 148, 3) := by decide +kernel
theorem dX6_pays_45 : decode cX6_pays 45 = .ok (.iload_n 2, 1) := by decide +kernel
theorem dX6_pays_46 : decode cX6_pays 46 = .ok (.iadd, 1) := by decide +kernel
theorem dX6_pays_47 : decode cX6_pays 47 = .ok (.invokevirtual 157, 3) := by decide +kernel
theorem dX6_pays_50 : decode cX6_pays 50 = .ok (.aload_n 0, 1) := by decide +kernel
theorem dX6_pays_51 : decode cX6_pays 51 = .ok (.iload_n 1, 1) := by decide +kernel
theorem dX6_pays_52 : decode cX6_pays 52 = .ok (.bipush 9, 2) := by decide +kernel
theorem dX6_pays_54 : decode cX6_pays 54 = .ok (.invokevirtual 148, 3) := by decide +kernel
theorem dX6_pays_57 : decode cX6_pays 57 = .ok (.ifCond .le 19, 3) := by decide +kernel
theorem dX6_pays_60 : decode cX6_pays 60 = .ok (.aload_n 0, 1) := by decide +kernel
theorem dX6_pays_61 : decode cX6_pays 61 = .ok (.iload_n 1, 1) := by decide +kernel
theorem dX6_pays_62 : decode cX6_pays 62 = .ok (.bipush 12, 2) := by decide +kernel
theorem dX6_pays_64 : decode cX6_pays 64 = .ok (.aload_n 0, 1) := by decide +kernel
theorem dX6_pays_65 : decode cX6_pays 65 = .ok (.iload_n 1, 1) := by decide +kernel
theorem dX6_pays_66 : decode cX6_pays 66 = .ok (.bipush 12, 2) := by decide +kernel
theorem dX6_pays_68 : decode cX6_pays 68 = .ok (.invokevirtual 148, 3) := by decide +kernel
theorem dX6_pays_71 : decode cX6_pays 71 = .ok (.iload_n 2, 1) := by decide +kernel
theorem dX6_pays_72 : decode cX6_pays 72 = .ok (.iadd, 1) := by decide +kernel
theorem dX6_pays_73 : decode cX6_pays 73 = .ok (.invokevirtual 157, 3) := by decide +kernel
theorem dX6_pays_76 : decode cX6_pays 76 = .ok (.aload_n 0, 1) := by decide +kernel
theorem dX6_pays_77 : decode cX6_pays 77 = .ok (.iload_n 1, 1) := by decide +kernel
theorem dX6_pays_78 : decode cX6_pays 78 = .ok (.invokevirtual 164, 3) := by decide +kernel
theorem dX6_pays_81 : decode cX6_pays 81 = .ok (.aload_n 0, 1) := by decide +kernel
theorem dX6_pays_82 : decode cX6_pays 82 = .ok (.iload_n 1, 1) := by decide +kernel
theorem dX6_pays_83 : decode cX6_pays 83 = .ok (.invokevirtual 209, 3) := by decide +kernel
theorem dX6_pays_86 : decode cX6_pays 86 = .ok (.ireturn, 1) := by decide +kernel
set_option maxRecDepth 20000 in
theorem ggX6_would_X6_canPay : GoodIn wsX6_would wsX6_canPay := goodIn_r _ [6, 7, 8, 9, 10, 5, 11, 12, 13, 14, 15, 65, 66, 67, 68, 69, 70, 71, 72, 73, 74, 75, 76, 77, 78, 79, 80, 81, 82, 83, 84] (by decide +kernel) (by decide +kernel)
set_option maxRecDepth 20000 in
theorem gX6_would_X6_canPay : GoodIn wsX6_would (wsV RX6 250 RX6 yX6_canPay wsX6_canPay) := goodIn_app (goodIn_of _ (by decide +kernel)) ggX6_would_X6_canPay
set_option maxRecDepth 20000 in
theorem ggX6_would_X6_keeps : GoodIn wsX6_would wsX6_keeps := goodIn_r _ [19, 20, 12, 65, 66, 67, 68, 69, 70, 71, 72, 73, 74, 75, 76, 77, 78, 79, 80, 81, 82, 83, 84] (by decide +kernel) (by decide +kernel)
set_option maxRecDepth 20000 in
theorem gX6_would_X6_keeps : GoodIn wsX6_would (wsV RX6 240 RX6 yX6_keeps wsX6_keeps) := goodIn_app (goodIn_of _ (by decide +kernel)) ggX6_would_X6_keeps
set_option maxRecDepth 20000 in
theorem ggX6_would_X6_pays : GoodIn wsX6_would wsX6_pays := goodIn_r _ [24, 12, 25, 26, 27, 5, 28, 29, 30, 31, 32, 33, 34, 35, 36, 37, 38, 39, 40, 41, 42, 43, 44, 45, 46, 47, 48, 49, 50, 51, 52, 53, 54, 55, 56, 57, 58, 59, 60, 65, 66, 67, 68, 69, 70, 71, 72, 73, 74, 75, 76, 77, 78, 79, 80, 81, 82, 83, 84] (by decide +kernel) (by decide +kernel)
set_option maxRecDepth 20000 in
theorem gX6_would_X6_pays : GoodIn wsX6_would (wsV RX6 253 RX6 yX6_pays wsX6_pays) := goodIn_app (goodIn_of _ (by decide +kernel)) ggX6_would_X6_pays
set_option maxRecDepth 20000 in
theorem ggX6_would_X6_back : GoodIn wsX6_would wsX6_back := goodIn_r _ [64, 12, 20, 65, 66, 67, 68, 69, 70, 71, 72, 73, 74, 75, 76, 77, 78, 79, 80, 81, 82, 83, 84] (by decide +kernel) (by decide +kernel)
set_option maxRecDepth 20000 in
theorem gX6_would_X6_back : GoodIn wsX6_would (wsV RX6 246 RX6 yX6_back wsX6_back) := goodIn_app (goodIn_of _ (by decide +kernel)) ggX6_would_X6_back
theorem dX6_would_0 : decode cX6_would 0 = .ok (.aload_n 0, 1) := by decide +kernel
theorem dX6_would_1 : decode cX6_would 1 = .ok (.iconst 0, 1) := by decide +kernel
theorem dX6_would_2 : decode cX6_would 2 = .ok (.putfield 1, 3) := by decide +kernel
theorem dX6_would_5 : decode cX6_would 5 = .ok (.aload_n 0, 1) := by decide +kernel
theorem dX6_would_6 : decode cX6_would 6 = .ok (.iload_n 1, 1) := by decide +kernel
theorem dX6_would_7 : decode cX6_would 7 = .ok (.iload_n 2, 1) := by decide +kernel
theorem dX6_would_8 : decode cX6_would 8 = .ok (.invokevirtual 250, 3) := by decide +kernel
theorem dX6_would_11 : decode cX6_would 11 = .ok (.ifCond .ne 5, 3) := by decide +kernel
theorem dX6_would_14 : decode cX6_would 14 = .ok (.iconst (-1), 1) := by decide +kernel
theorem dX6_would_15 : decode cX6_would 15 = .ok (.ireturn, 1) := by decide +kernel
theorem dX6_would_16 : decode cX6_would 16 = .ok (.aload_n 0, 1) := by decide +kernel
theorem dX6_would_17 : decode cX6_would 17 = .ok (.invokevirtual 240, 3) := by decide +kernel
theorem dX6_would_20 : decode cX6_would 20 = .ok (.aload_n 0, 1) := by decide +kernel
theorem dX6_would_21 : decode cX6_would 21 = .ok (.iload_n 1, 1) := by decide +kernel
theorem dX6_would_22 : decode cX6_would 22 = .ok (.iload_n 2, 1) := by decide +kernel
theorem dX6_would_23 : decode cX6_would 23 = .ok (.invokevirtual 253, 3) := by decide +kernel
theorem dX6_would_26 : decode cX6_would 26 = .ok (.istore_n 3, 1) := by decide +kernel
theorem dX6_would_27 : decode cX6_would 27 = .ok (.aload_n 0, 1) := by decide +kernel
theorem dX6_would_28 : decode cX6_would 28 = .ok (.invokevirtual 246, 3) := by decide +kernel
theorem dX6_would_31 : decode cX6_would 31 = .ok (.iload_n 3, 1) := by decide +kernel
theorem dX6_would_32 : decode cX6_would 32 = .ok (.ireturn, 1) := by decide +kernel
theorem dX6_snap_0 : decode cX6_snap 0 = .ok (.aload_n 0, 1) := by decide +kernel
theorem dX6_snap_1 : decode cX6_snap 1 = .ok (.getfield 137, 3) := by decide +kernel
theorem dX6_snap_4 : decode cX6_snap 4 = .ok (.bipush 10, 2) := by decide +kernel
theorem dX6_snap_6 : decode cX6_snap 6 = .ok (.if_icmp .ne 44, 3) := by decide +kernel
theorem dX6_snap_9 : decode cX6_snap 9 = .ok (.iconst 0, 1) := by decide +kernel
theorem dX6_snap_10 : decode cX6_snap 10 = .ok (.istore_n 1, 1) := by decide +kernel
theorem dX6_snap_11 : decode cX6_snap 11 = .ok (.iload_n 1, 1) := by decide +kernel
theorem dX6_snap_12 : decode cX6_snap 12 = .ok (.sipush 7065, 3) := by decide +kernel
theorem dX6_snap_15 : decode cX6_snap 15 = .ok (.if_icmp .ge 25, 3) := by decide +kernel
theorem dX6_snap_18 : decode cX6_snap 18 = .ok (.aload_n 0, 1) := by decide +kernel
theorem dX6_snap_19 : decode cX6_snap 19 = .ok (.getfield 79, 3) := by decide +kernel
theorem dX6_snap_22 : decode cX6_snap 22 = .ok (.iload_n 1, 1) := by decide +kernel
theorem dX6_snap_23 : decode cX6_snap 23 = .ok (.aload_n 0, 1) := by decide +kernel
theorem dX6_snap_24 : decode cX6_snap 24 = .ok (.getfield 79, 3) := by decide +kernel
theorem dX6_snap_27 : decode cX6_snap 27 = .ok (.iload_n 1, 1) := by decide +kernel
theorem dX6_snap_28 : decode cX6_snap 28 = .ok (.sipush 785, 3) := by decide +kernel
theorem dX6_snap_31 : decode cX6_snap 31 = .ok (.iadd, 1) := by decide +kernel
theorem dX6_snap_32 : decode cX6_snap 32 = .ok (.iaload, 1) := by decide +kernel
theorem dX6_snap_33 : decode cX6_snap 33 = .ok (.iastore, 1) := by decide +kernel
theorem dX6_snap_34 : decode cX6_snap 34 = .ok (.iinc 1 1, 3) := by decide +kernel
theorem dX6_snap_37 : decode cX6_snap 37 = .ok (.goto (-26), 3) := by decide +kernel
theorem dX6_snap_40 : decode cX6_snap 40 = .ok (.aload_n 0, 1) := by decide +kernel
theorem dX6_snap_41 : decode cX6_snap 41 = .ok (.dup, 1) := by decide +kernel
theorem dX6_snap_42 : decode cX6_snap 42 = .ok (.getfield 137, 3) := by decide +kernel
theorem dX6_snap_45 : decode cX6_snap 45 = .ok (.iconst 1, 1) := by decide +kernel
theorem dX6_snap_46 : decode cX6_snap 46 = .ok (.isub, 1) := by decide +kernel
theorem dX6_snap_47 : decode cX6_snap 47 = .ok (.putfield 137, 3) := by decide +kernel
theorem dX6_snap_50 : decode cX6_snap 50 = .ok (.iconst 0, 1) := by decide +kernel
theorem dX6_snap_51 : decode cX6_snap 51 = .ok (.istore_n 1, 1) := by decide +kernel
theorem dX6_snap_52 : decode cX6_snap 52 = .ok (.iload_n 1, 1) := by decide +kernel
theorem dX6_snap_53 : decode cX6_snap 53 = .ok (.sipush 785, 3) := by decide +kernel
theorem dX6_snap_56 : decode cX6_snap 56 = .ok (.if_icmp .ge 30, 3) := by decide +kernel
theorem dX6_snap_59 : decode cX6_snap 59 = .ok (.aload_n 0, 1) := by decide +kernel
theorem dX6_snap_60 : decode cX6_snap 60 = .ok (.getfield 79, 3) := by decide +kernel
theorem dX6_snap_63 : decode cX6_snap 63 = .ok (.sipush 785, 3) := by decide +kernel
theorem dX6_snap_66 : decode cX6_snap 66 = .ok (.aload_n 0, 1) := by decide +kernel
theorem dX6_snap_67 : decode cX6_snap 67 = .ok (.getfield 137, 3) := by decide +kernel
theorem dX6_snap_70 : decode cX6_snap 70 = .ok (.imul, 1) := by decide +kernel
theorem dX6_snap_71 : decode cX6_snap 71 = .ok (.iload_n 1, 1) := by decide +kernel
theorem dX6_snap_72 : decode cX6_snap 72 = .ok (.iadd, 1) := by decide +kernel
theorem dX6_snap_73 : decode cX6_snap 73 = .ok (.aload_n 0, 1) := by decide +kernel
theorem dX6_snap_74 : decode cX6_snap 74 = .ok (.getfield 70, 3) := by decide +kernel
theorem dX6_snap_77 : decode cX6_snap 77 = .ok (.iload_n 1, 1) := by decide +kernel
theorem dX6_snap_78 : decode cX6_snap 78 = .ok (.iaload, 1) := by decide +kernel
theorem dX6_snap_79 : decode cX6_snap 79 = .ok (.iastore, 1) := by decide +kernel
theorem dX6_snap_80 : decode cX6_snap 80 = .ok (.iinc 1 1, 3) := by decide +kernel
theorem dX6_snap_83 : decode cX6_snap 83 = .ok (.goto (-31), 3) := by decide +kernel
theorem dX6_snap_86 : decode cX6_snap 86 = .ok (.aload_n 0, 1) := by decide +kernel
theorem dX6_snap_87 : decode cX6_snap 87 = .ok (.dup, 1) := by decide +kernel
theorem dX6_snap_88 : decode cX6_snap 88 = .ok (.getfield 137, 3) := by decide +kernel
theorem dX6_snap_91 : decode cX6_snap 91 = .ok (.iconst 1, 1) := by decide +kernel
theorem dX6_snap_92 : decode cX6_snap 92 = .ok (.iadd, 1) := by decide +kernel
theorem dX6_snap_93 : decode cX6_snap 93 = .ok (.putfield 137, 3) := by decide +kernel
theorem dX6_snap_96 : decode cX6_snap 96 = .ok (.return_, 1) := by decide +kernel
set_option maxRecDepth 20000 in
theorem ggX6_bill_X6_isDebtor : GoodIn wsX6_bill wsX6_isDebtor := goodIn_r _ [7, 2, 8, 9, 6, 10, 45, 46, 47, 48, 49, 50, 51, 52, 53, 54, 55, 56, 57, 58, 59, 60, 61, 62, 63, 64] (by decide +kernel) (by decide +kernel)
set_option maxRecDepth 20000 in
theorem gX6_bill_X6_isDebtor : GoodIn wsX6_bill (wsV RX6 221 RX6 yX6_isDebtor wsX6_isDebtor) := goodIn_app (goodIn_of _ (by decide +kernel)) ggX6_bill_X6_isDebtor
set_option maxRecDepth 20000 in
theorem ggX6_bill_X6_isIn : GoodIn wsX6_bill wsX6_isIn := goodIn_r _ [10] (by decide +kernel) (by decide +kernel)
set_option maxRecDepth 20000 in
theorem gX6_bill_X6_isIn : GoodIn wsX6_bill (va_wsS RX6 85 yX6_isIn wsX6_isIn) := goodIn_app (goodIn_of _ (by decide +kernel)) ggX6_bill_X6_isIn
set_option maxRecDepth 20000 in
theorem ggX6_bill_X6_snap : GoodIn wsX6_bill wsX6_snap := goodIn_r _ [14, 15, 16, 2, 45, 46, 47, 48, 49, 50, 51, 52, 53, 54, 55, 56, 57, 58, 59, 60, 61, 62, 63, 64] (by decide +kernel) (by decide +kernel)
set_option maxRecDepth 20000 in
theorem gX6_bill_X6_snap : GoodIn wsX6_bill (wsV RX6 256 RX6 yX6_snap wsX6_snap) := goodIn_app (goodIn_of _ (by decide +kernel)) ggX6_bill_X6_snap
set_option maxRecDepth 20000 in
theorem ggX6_bill_X6_today : GoodIn wsX6_bill wsX6_today := goodIn_r _ [20, 2, 45, 46, 47, 48, 49, 50, 51, 52, 53, 54, 55, 56, 57, 58, 59, 60, 61, 62, 63, 64] (by decide +kernel) (by decide +kernel)
set_option maxRecDepth 20000 in
theorem gX6_bill_X6_today : GoodIn wsX6_bill (wsV RX6 173 RX6 yX6_today wsX6_today) := goodIn_app (goodIn_of _ (by decide +kernel)) ggX6_bill_X6_today
set_option maxRecDepth 20000 in
theorem ggX6_bill_X6_invoices : GoodIn wsX6_bill wsX6_invoices := goodIn_r _ [24, 2, 25, 26, 27, 6, 28, 29, 30, 31, 32, 33, 34, 35, 36, 37, 38, 39, 40, 41, 42, 43, 44, 45, 46, 47, 48, 49, 50, 51, 52, 53, 54, 55, 56, 57, 58, 59, 60, 61, 62, 63, 64] (by decide +kernel) (by decide +kernel)
set_option maxRecDepth 20000 in
theorem gX6_bill_X6_invoices : GoodIn wsX6_bill (wsV RX6 186 RX6 yX6_invoices wsX6_invoices) := goodIn_app (goodIn_of _ (by decide +kernel)) ggX6_bill_X6_invoices
theorem dX6_bill_0 : decode cX6_bill 0 = .ok (.aload_n 0, 1) := by decide +kernel
theorem dX6_bill_1 : decode cX6_bill 1 = .ok (.iconst 0, 1) := by decide +kernel
theorem dX6_bill_2 : decode cX6_bill 2 = .ok (.putfield 1, 3) := by decide +kernel
theorem dX6_bill_5 : decode cX6_bill 5 = .ok (.aload_n 0, 1) := by decide +kernel
theorem dX6_bill_6 : decode cX6_bill 6 = .ok (.iload_n 1, 1) := by decide +kernel
theorem dX6_bill_7 : decode cX6_bill 7 = .ok (.invokevirtual 221, 3) := by decide +kernel
theorem dX6_bill_10 : decode cX6_bill 10 = .ok (.ifCond .eq 24, 3) := by decide +kernel
theorem dX6_bill_13 : decode cX6_bill 13 = .ok (.iload_n 2, 1) := by decide +kernel
theorem dX6_bill_14 : decode cX6_bill 14 = .ok (.iconst 1, 1) := by decide +kernel
theorem dX6_bill_15 : decode cX6_bill 15 = .ok (.sipush 9999, 3) := by decide +kernel
theorem dX6_bill_18 : decode cX6_bill 18 = .ok (.invokestatic 85, 3) := by decide +kernel
theorem dX6_bill_21 : decode cX6_bill 21 = .ok (.ifCond .eq 13, 3) := by decide +kernel
theorem dX6_bill_24 : decode cX6_bill 24 = .ok (.iload_n 3, 1) := by decide +kernel
theorem dX6_bill_25 : decode cX6_bill 25 = .ok (.iconst 0, 1) := by decide +kernel
theorem dX6_bill_26 : decode cX6_bill 26 = .ok (.bipush 99, 2) := by decide +kernel
theorem dX6_bill_28 : decode cX6_bill 28 = .ok (.invokestatic 85, 3) := by decide +kernel
theorem dX6_bill_31 : decode cX6_bill 31 = .ok (.ifCond .ne 5, 3) := by decide +kernel
theorem dX6_bill_34 : decode cX6_bill 34 = .ok (.iconst (-1), 1) := by decide +kernel
theorem dX6_bill_35 : decode cX6_bill 35 = .ok (.ireturn, 1) := by decide +kernel
theorem dX6_bill_36 : decode cX6_bill 36 = .ok (.aload_n 0, 1) := by decide +kernel
theorem dX6_bill_37 : decode cX6_bill 37 = .ok (.getfield 70, 3) := by decide +kernel
theorem dX6_bill_40 : decode cX6_bill 40 = .ok (.iconst 4, 1) := by decide +kernel
theorem dX6_bill_41 : decode cX6_bill 41 = .ok (.iaload, 1) := by decide +kernel
theorem dX6_bill_42 : decode cX6_bill 42 = .ok (.bipush 60, 2) := by decide +kernel
theorem dX6_bill_44 : decode cX6_bill 44 = .ok (.if_icmp .ne 6, 3) := by decide +kernel
theorem dX6_bill_47 : decode cX6_bill 47 = .ok (.bipush (-2), 2) := by decide +kernel
theorem dX6_bill_49 : decode cX6_bill 49 = .ok (.ireturn, 1) := by decide +kernel
theorem dX6_bill_50 : decode cX6_bill 50 = .ok (.aload_n 0, 1) := by decide +kernel
theorem dX6_bill_51 : decode cX6_bill 51 = .ok (.invokevirtual 256, 3) := by decide +kernel
theorem dX6_bill_54 : decode cX6_bill 54 = .ok (.aload_n 0, 1) := by decide +kernel
theorem dX6_bill_55 : decode cX6_bill 55 = .ok (.iload_n 1, 1) := by decide +kernel
theorem dX6_bill_56 : decode cX6_bill 56 = .ok (.iload_n 2, 1) := by decide +kernel
theorem dX6_bill_57 : decode cX6_bill 57 = .ok (.aload_n 0, 1) := by decide +kernel
theorem dX6_bill_58 : decode cX6_bill 58 = .ok (.invokevirtual 173, 3) := by decide +kernel
theorem dX6_bill_61 : decode cX6_bill 61 = .ok (.iload_n 3, 1) := by decide +kernel
theorem dX6_bill_62 : decode cX6_bill 62 = .ok (.iadd, 1) := by decide +kernel
theorem dX6_bill_63 : decode cX6_bill 63 = .ok (.iconst 0, 1) := by decide +kernel
theorem dX6_bill_64 : decode cX6_bill 64 = .ok (.invokevirtual 186, 3) := by decide +kernel
theorem dX6_bill_67 : decode cX6_bill 67 = .ok (.ireturn, 1) := by decide +kernel
set_option maxRecDepth 20000 in
theorem ggX6_pay_X6_canPay : GoodIn wsX6_pay wsX6_canPay := goodIn_r _ [6, 7, 8, 9, 10, 5, 11, 12, 13, 14, 15, 62, 63, 64, 65, 66, 67, 68, 69, 70, 71, 72, 73, 74, 75, 76, 77, 78, 79, 80, 81] (by decide +kernel) (by decide +kernel)
set_option maxRecDepth 20000 in
theorem gX6_pay_X6_canPay : GoodIn wsX6_pay (wsV RX6 250 RX6 yX6_canPay wsX6_canPay) := goodIn_app (goodIn_of _ (by decide +kernel)) ggX6_pay_X6_canPay
set_option maxRecDepth 20000 in
theorem ggX6_pay_X6_snap : GoodIn wsX6_pay wsX6_snap := goodIn_r _ [19, 20, 21, 12, 62, 63, 64, 65, 66, 67, 68, 69, 70, 71, 72, 73, 74, 75, 76, 77, 78, 79, 80, 81] (by decide +kernel) (by decide +kernel)
set_option maxRecDepth 20000 in
theorem gX6_pay_X6_snap : GoodIn wsX6_pay (wsV RX6 256 RX6 yX6_snap wsX6_snap) := goodIn_app (goodIn_of _ (by decide +kernel)) ggX6_pay_X6_snap
set_option maxRecDepth 20000 in
theorem ggX6_pay_X6_pays : GoodIn wsX6_pay wsX6_pays := goodIn_r _ [25, 12, 26, 27, 28, 5, 29, 30, 31, 32, 33, 34, 35, 36, 37, 38, 39, 40, 41, 42, 43, 44, 45, 46, 47, 48, 49, 50, 51, 52, 53, 54, 55, 56, 57, 58, 59, 60, 61, 62, 63, 64, 65, 66, 67, 68, 69, 70, 71, 72, 73, 74, 75, 76, 77, 78, 79, 80, 81] (by decide +kernel) (by decide +kernel)
set_option maxRecDepth 20000 in
theorem gX6_pay_X6_pays : GoodIn wsX6_pay (wsV RX6 253 RX6 yX6_pays wsX6_pays) := goodIn_app (goodIn_of _ (by decide +kernel)) ggX6_pay_X6_pays
set_option maxRecDepth 20000 in
theorem ggX6_pay_X6_its : GoodIn wsX6_pay wsX6_its := goodIn_r _ [29, 12, 62, 63, 64, 65, 66, 67, 68, 69, 70, 71, 72, 73, 74, 75, 76, 77, 78, 79, 80, 81] (by decide +kernel) (by decide +kernel)
set_option maxRecDepth 20000 in
theorem gX6_pay_X6_its : GoodIn wsX6_pay (wsV RX6 148 RX6 yX6_its wsX6_its) := goodIn_app (goodIn_of _ (by decide +kernel)) ggX6_pay_X6_its
theorem dX6_pay_0 : decode cX6_pay 0 = .ok (.aload_n 0, 1) := by decide +kernel
theorem dX6_pay_1 : decode cX6_pay 1 = .ok (.iconst 0, 1) := by decide +kernel
theorem dX6_pay_2 : decode cX6_pay 2 = .ok (.putfield 1, 3) := by decide +kernel
theorem dX6_pay_5 : decode cX6_pay 5 = .ok (.aload_n 0, 1) := by decide +kernel
theorem dX6_pay_6 : decode cX6_pay 6 = .ok (.iload_n 1, 1) := by decide +kernel
theorem dX6_pay_7 : decode cX6_pay 7 = .ok (.iload_n 2, 1) := by decide +kernel
theorem dX6_pay_8 : decode cX6_pay 8 = .ok (.invokevirtual 250, 3) := by decide +kernel
theorem dX6_pay_11 : decode cX6_pay 11 = .ok (.ifCond .ne 5, 3) := by decide +kernel
theorem dX6_pay_14 : decode cX6_pay 14 = .ok (.iconst (-1), 1) := by decide +kernel
theorem dX6_pay_15 : decode cX6_pay 15 = .ok (.ireturn, 1) := by decide +kernel
theorem dX6_pay_16 : decode cX6_pay 16 = .ok (.aload_n 0, 1) := by decide +kernel
theorem dX6_pay_17 : decode cX6_pay 17 = .ok (.invokevirtual 256, 3) := by decide +kernel
theorem dX6_pay_20 : decode cX6_pay 20 = .ok (.aload_n 0, 1) := by decide +kernel
theorem dX6_pay_21 : decode cX6_pay 21 = .ok (.iload_n 1, 1) := by decide +kernel
theorem dX6_pay_22 : decode cX6_pay 22 = .ok (.iload_n 2, 1) := by decide +kernel
theorem dX6_pay_23 : decode cX6_pay 23 = .ok (.invokevirtual 253, 3) := by decide +kernel
theorem dX6_pay_26 : decode cX6_pay 26 = .ok (.pop, 1) := by decide +kernel
theorem dX6_pay_27 : decode cX6_pay 27 = .ok (.aload_n 0, 1) := by decide +kernel
theorem dX6_pay_28 : decode cX6_pay 28 = .ok (.iload_n 1, 1) := by decide +kernel
theorem dX6_pay_29 : decode cX6_pay 29 = .ok (.iconst 2, 1) := by decide +kernel
theorem dX6_pay_30 : decode cX6_pay 30 = .ok (.invokevirtual 148, 3) := by decide +kernel
theorem dX6_pay_33 : decode cX6_pay 33 = .ok (.ireturn, 1) := by decide +kernel
set_option maxRecDepth 20000 in
theorem ggX6_dispute_X6_isInvoice : GoodIn wsX6_dispute wsX6_isInvoice := goodIn_r _ [7, 2, 8, 9, 6, 10, 29, 30, 31, 32, 33, 34, 35, 36, 37, 38, 39, 40, 41, 42, 43, 44, 45, 46, 47, 48] (by decide +kernel) (by decide +kernel)
set_option maxRecDepth 20000 in
theorem gX6_dispute_X6_isInvoice : GoodIn wsX6_dispute (wsV RX6 227 RX6 yX6_isInvoice wsX6_isInvoice) := goodIn_app (goodIn_of _ (by decide +kernel)) ggX6_dispute_X6_isInvoice
set_option maxRecDepth 20000 in
theorem ggX6_dispute_X6_billed : GoodIn wsX6_dispute wsX6_billed := goodIn_r _ [14, 2, 29, 30, 31, 32, 33, 34, 35, 36, 37, 38, 39, 40, 41, 42, 43, 44, 45, 46, 47, 48] (by decide +kernel) (by decide +kernel)
set_option maxRecDepth 20000 in
theorem gX6_dispute_X6_billed : GoodIn wsX6_dispute (wsV RX6 140 RX6 yX6_billed wsX6_billed) := goodIn_app (goodIn_of _ (by decide +kernel)) ggX6_dispute_X6_billed
set_option maxRecDepth 20000 in
theorem ggX6_dispute_X6_counts : GoodIn wsX6_dispute wsX6_counts := goodIn_r _ [18, 11, 12, 13, 6, 14, 2, 29, 30, 31, 32, 33, 34, 35, 36, 37, 38, 39, 40, 41, 42, 43, 44, 45, 46, 47, 48] (by decide +kernel) (by decide +kernel)
set_option maxRecDepth 20000 in
theorem gX6_dispute_X6_counts : GoodIn wsX6_dispute (wsV RX6 144 RX6 yX6_counts wsX6_counts) := goodIn_app (goodIn_of _ (by decide +kernel)) ggX6_dispute_X6_counts
set_option maxRecDepth 20000 in
theorem ggX6_dispute_X6_its : GoodIn wsX6_dispute wsX6_its := goodIn_r _ [22, 2, 29, 30, 31, 32, 33, 34, 35, 36, 37, 38, 39, 40, 41, 42, 43, 44, 45, 46, 47, 48] (by decide +kernel) (by decide +kernel)
set_option maxRecDepth 20000 in
theorem gX6_dispute_X6_its : GoodIn wsX6_dispute (wsV RX6 148 RX6 yX6_its wsX6_its) := goodIn_app (goodIn_of _ (by decide +kernel)) ggX6_dispute_X6_its
set_option maxRecDepth 20000 in
theorem ggX6_dispute_X6_snap : GoodIn wsX6_dispute wsX6_snap := goodIn_r _ [26, 27, 28, 2, 29, 30, 31, 32, 33, 34, 35, 36, 37, 38, 39, 40, 41, 42, 43, 44, 45, 46, 47, 48] (by decide +kernel) (by decide +kernel)
set_option maxRecDepth 20000 in
theorem gX6_dispute_X6_snap : GoodIn wsX6_dispute (wsV RX6 256 RX6 yX6_snap wsX6_snap) := goodIn_app (goodIn_of _ (by decide +kernel)) ggX6_dispute_X6_snap
theorem dX6_dispute_0 : decode cX6_dispute 0 = .ok (.aload_n 0, 1) := by decide +kernel
theorem dX6_dispute_1 : decode cX6_dispute 1 = .ok (.iconst 0, 1) := by decide +kernel
theorem dX6_dispute_2 : decode cX6_dispute 2 = .ok (.putfield 1, 3) := by decide +kernel
theorem dX6_dispute_5 : decode cX6_dispute 5 = .ok (.aload_n 0, 1) := by decide +kernel
theorem dX6_dispute_6 : decode cX6_dispute 6 = .ok (.iload_n 1, 1) := by decide +kernel
theorem dX6_dispute_7 : decode cX6_dispute 7 = .ok (.invokevirtual 227, 3) := by decide +kernel
theorem dX6_dispute_10 : decode cX6_dispute 10 = .ok (.ifCond .eq 32, 3) := by decide +kernel
theorem dX6_dispute_13 : decode cX6_dispute 13 = .ok (.aload_n 0, 1) := by decide +kernel
theorem dX6_dispute_14 : decode cX6_dispute 14 = .ok (.iload_n 1, 1) := by decide +kernel
theorem dX6_dispute_15 : decode cX6_dispute 15 = .ok (.aload_n 0, 1) := by decide +kernel
theorem dX6_dispute_16 : decode cX6_dispute 16 = .ok (.iload_n 1, 1) := by decide +kernel
theorem dX6_dispute_17 : decode cX6_dispute 17 = .ok (.iconst 0, 1) := by decide +kernel
theorem dX6_dispute_18 : decode cX6_dispute 18 = .ok (.invokevirtual 140, 3) := by decide +kernel
theorem dX6_dispute_21 : decode cX6_dispute 21 = .ok (.invokevirtual 144, 3) := by decide +kernel
theorem dX6_dispute_24 : decode cX6_dispute 24 = .ok (.ifCond .eq 18, 3) := by decide +kernel
theorem dX6_dispute_27 : decode cX6_dispute 27 = .ok (.aload_n 0, 1) := by decide +kernel
theorem dX6_dispute_28 : decode cX6_dispute 28 = .ok (.aload_n 0, 1) := by decide +kernel
theorem dX6_dispute_29 : decode cX6_dispute 29 = .ok (.iload_n 1, 1) := by decide +kernel
theorem dX6_dispute_30 : decode cX6_dispute 30 = .ok (.iconst 0, 1) := by decide +kernel
theorem dX6_dispute_31 : decode cX6_dispute 31 = .ok (.invokevirtual 140, 3) := by decide +kernel
theorem dX6_dispute_34 : decode cX6_dispute 34 = .ok (.bipush 9, 2) := by decide +kernel
theorem dX6_dispute_36 : decode cX6_dispute 36 = .ok (.invokevirtual 148, 3) := by decide +kernel
theorem dX6_dispute_39 : decode cX6_dispute 39 = .ok (.ifCond .le 5, 3) := by decide +kernel
theorem dX6_dispute_42 : decode cX6_dispute 42 = .ok (.iconst 0, 1) := by decide +kernel
theorem dX6_dispute_43 : decode cX6_dispute 43 = .ok (.ireturn, 1) := by decide +kernel
theorem dX6_dispute_44 : decode cX6_dispute 44 = .ok (.aload_n 0, 1) := by decide +kernel
theorem dX6_dispute_45 : decode cX6_dispute 45 = .ok (.invokevirtual 256, 3) := by decide +kernel
theorem dX6_dispute_48 : decode cX6_dispute 48 = .ok (.aload_n 0, 1) := by decide +kernel
theorem dX6_dispute_49 : decode cX6_dispute 49 = .ok (.getfield 70, 3) := by decide +kernel
theorem dX6_dispute_52 : decode cX6_dispute 52 = .ok (.sipush 205, 3) := by decide +kernel
theorem dX6_dispute_55 : decode cX6_dispute 55 = .ok (.bipush 7, 2) := by decide +kernel
theorem dX6_dispute_57 : decode cX6_dispute 57 = .ok (.iload_n 1, 1) := by decide +kernel
theorem dX6_dispute_58 : decode cX6_dispute 58 = .ok (.imul, 1) := by decide +kernel
theorem dX6_dispute_59 : decode cX6_dispute 59 = .ok (.iadd, 1) := by decide +kernel
theorem dX6_dispute_60 : decode cX6_dispute 60 = .ok (.iconst 5, 1) := by decide +kernel
theorem dX6_dispute_61 : decode cX6_dispute 61 = .ok (.iadd, 1) := by decide +kernel
theorem dX6_dispute_62 : decode cX6_dispute 62 = .ok (.iconst 1, 1) := by decide +kernel
theorem dX6_dispute_63 : decode cX6_dispute 63 = .ok (.iastore, 1) := by decide +kernel
theorem dX6_dispute_64 : decode cX6_dispute 64 = .ok (.iconst 1, 1) := by decide +kernel
theorem dX6_dispute_65 : decode cX6_dispute 65 = .ok (.ireturn, 1) := by decide +kernel
set_option maxRecDepth 20000 in
theorem ggX6_settle_X6_isInvoice : GoodIn wsX6_settle wsX6_isInvoice := goodIn_r _ [7, 2, 8, 9, 6, 10, 53, 54, 55, 56, 57, 58, 59, 60, 61, 62, 63, 64, 65, 66, 67, 68, 69, 70, 71, 72] (by decide +kernel) (by decide +kernel)
set_option maxRecDepth 20000 in
theorem gX6_settle_X6_isInvoice : GoodIn wsX6_settle (wsV RX6 227 RX6 yX6_isInvoice wsX6_isInvoice) := goodIn_app (goodIn_of _ (by decide +kernel)) ggX6_settle_X6_isInvoice
set_option maxRecDepth 20000 in
theorem ggX6_settle_X6_billed : GoodIn wsX6_settle wsX6_billed := goodIn_r _ [14, 2, 53, 54, 55, 56, 57, 58, 59, 60, 61, 62, 63, 64, 65, 66, 67, 68, 69, 70, 71, 72] (by decide +kernel) (by decide +kernel)
set_option maxRecDepth 20000 in
theorem gX6_settle_X6_billed : GoodIn wsX6_settle (wsV RX6 140 RX6 yX6_billed wsX6_billed) := goodIn_app (goodIn_of _ (by decide +kernel)) ggX6_settle_X6_billed
set_option maxRecDepth 20000 in
theorem ggX6_settle_X6_isIn : GoodIn wsX6_settle wsX6_isIn := goodIn_r _ [10] (by decide +kernel) (by decide +kernel)
set_option maxRecDepth 20000 in
theorem gX6_settle_X6_isIn : GoodIn wsX6_settle (va_wsS RX6 85 yX6_isIn wsX6_isIn) := goodIn_app (goodIn_of _ (by decide +kernel)) ggX6_settle_X6_isIn
set_option maxRecDepth 20000 in
theorem ggX6_settle_X6_snap : GoodIn wsX6_settle wsX6_snap := goodIn_r _ [18, 19, 20, 2, 53, 54, 55, 56, 57, 58, 59, 60, 61, 62, 63, 64, 65, 66, 67, 68, 69, 70, 71, 72] (by decide +kernel) (by decide +kernel)
set_option maxRecDepth 20000 in
theorem gX6_settle_X6_snap : GoodIn wsX6_settle (wsV RX6 256 RX6 yX6_snap wsX6_snap) := goodIn_app (goodIn_of _ (by decide +kernel)) ggX6_settle_X6_snap
set_option maxRecDepth 20000 in
theorem ggX6_settle_X6_places : GoodIn wsX6_settle wsX6_places := goodIn_r _ [24, 2, 25, 26, 27, 6, 28, 29, 30, 31, 32, 11, 12, 13, 14, 33, 34, 35, 36, 53, 54, 55, 56, 57, 58, 59, 60, 61, 62, 63, 64, 65, 66, 67, 68, 69, 70, 71, 72] (by decide +kernel) (by decide +kernel)
set_option maxRecDepth 20000 in
theorem gX6_settle_X6_places : GoodIn wsX6_settle (wsV RX6 164 RX6 yX6_places wsX6_places) := goodIn_app (goodIn_of _ (by decide +kernel)) ggX6_settle_X6_places
set_option maxRecDepth 20000 in
theorem ggX6_settle_X6_releases : GoodIn wsX6_settle wsX6_releases := goodIn_r _ [40, 2, 41, 42, 43, 6, 44, 25, 26, 27, 28, 45, 46, 47, 48, 49, 50, 51, 52, 11, 12, 13, 14, 53, 54, 55, 56, 57, 58, 59, 60, 61, 62, 63, 64, 65, 66, 67, 68, 69, 70, 71, 72] (by decide +kernel) (by decide +kernel)
set_option maxRecDepth 20000 in
theorem gX6_settle_X6_releases : GoodIn wsX6_settle (wsV RX6 209 RX6 yX6_releases wsX6_releases) := goodIn_app (goodIn_of _ (by decide +kernel)) ggX6_settle_X6_releases
theorem dX6_settle_0 : decode cX6_settle 0 = .ok (.aload_n 0, 1) := by decide +kernel
theorem dX6_settle_1 : decode cX6_settle 1 = .ok (.iconst 0, 1) := by decide +kernel
theorem dX6_settle_2 : decode cX6_settle 2 = .ok (.putfield 1, 3) := by decide +kernel
theorem dX6_settle_5 : decode cX6_settle 5 = .ok (.aload_n 0, 1) := by decide +kernel
theorem dX6_settle_6 : decode cX6_settle 6 = .ok (.iload_n 1, 1) := by decide +kernel
theorem dX6_settle_7 : decode cX6_settle 7 = .ok (.invokevirtual 227, 3) := by decide +kernel
theorem dX6_settle_10 : decode cX6_settle 10 = .ok (.ifCond .eq 26, 3) := by decide +kernel
theorem dX6_settle_13 : decode cX6_settle 13 = .ok (.aload_n 0, 1) := by decide +kernel
theorem dX6_settle_14 : decode cX6_settle 14 = .ok (.iload_n 1, 1) := by decide +kernel
theorem dX6_settle_15 : decode cX6_settle 15 = .ok (.iconst 5, 1) := by decide +kernel
theorem dX6_settle_16 : decode cX6_settle 16 = .ok (.invokevirtual 140, 3) := by decide +kernel
theorem dX6_settle_19 : decode cX6_settle 19 = .ok (.ifCond .eq 17, 3) := by decide +kernel
theorem dX6_settle_22 : decode cX6_settle 22 = .ok (.iload_n 2, 1) := by decide +kernel
theorem dX6_settle_23 : decode cX6_settle 23 = .ok (.iconst 0, 1) := by decide +kernel
theorem dX6_settle_24 : decode cX6_settle 24 = .ok (.aload_n 0, 1) := by decide +kernel
theorem dX6_settle_25 : decode cX6_settle 25 = .ok (.iload_n 1, 1) := by decide +kernel
theorem dX6_settle_26 : decode cX6_settle 26 = .ok (.iconst 2, 1) := by decide +kernel
theorem dX6_settle_27 : decode cX6_settle 27 = .ok (.invokevirtual 140, 3) := by decide +kernel
theorem dX6_settle_30 : decode cX6_settle 30 = .ok (.invokestatic 85, 3) := by decide +kernel
theorem dX6_settle_33 : decode cX6_settle 33 = .ok (.ifCond .ne 5, 3) := by decide +kernel
theorem dX6_settle_36 : decode cX6_settle 36 = .ok (.iconst (-1), 1) := by decide +kernel
theorem dX6_settle_37 : decode cX6_settle 37 = .ok (.ireturn, 1) := by decide +kernel
theorem dX6_settle_38 : decode cX6_settle 38 = .ok (.aload_n 0, 1) := by decide +kernel
theorem dX6_settle_39 : decode cX6_settle 39 = .ok (.invokevirtual 256, 3) := by decide +kernel
theorem dX6_settle_42 : decode cX6_settle 42 = .ok (.aload_n 0, 1) := by decide +kernel
theorem dX6_settle_43 : decode cX6_settle 43 = .ok (.getfield 70, 3) := by decide +kernel
theorem dX6_settle_46 : decode cX6_settle 46 = .ok (.sipush 205, 3) := by decide +kernel
theorem dX6_settle_49 : decode cX6_settle 49 = .ok (.bipush 7, 2) := by decide +kernel
theorem dX6_settle_51 : decode cX6_settle 51 = .ok (.iload_n 1, 1) := by decide +kernel
theorem dX6_settle_52 : decode cX6_settle 52 = .ok (.imul, 1) := by decide +kernel
theorem dX6_settle_53 : decode cX6_settle 53 = .ok (.iadd, 1) := by decide +kernel
theorem dX6_settle_54 : decode cX6_settle 54 = .ok (.iconst 2, 1) := by decide +kernel
theorem dX6_settle_55 : decode cX6_settle 55 = .ok (.iadd, 1) := by decide +kernel
theorem dX6_settle_56 : decode cX6_settle 56 = .ok (.dup2, 1) := by decide +kernel
theorem dX6_settle_57 : decode cX6_settle 57 = .ok (.iaload, 1) := by decide +kernel
theorem dX6_settle_58 : decode cX6_settle 58 = .ok (.iload_n 2, 1) := by decide +kernel
theorem dX6_settle_59 : decode cX6_settle 59 = .ok (.isub, 1) := by decide +kernel
theorem dX6_settle_60 : decode cX6_settle 60 = .ok (.iastore, 1) := by decide +kernel
theorem dX6_settle_61 : decode cX6_settle 61 = .ok (.aload_n 0, 1) := by decide +kernel
theorem dX6_settle_62 : decode cX6_settle 62 = .ok (.getfield 70, 3) := by decide +kernel
theorem dX6_settle_65 : decode cX6_settle 65 = .ok (.sipush 205, 3) := by decide +kernel
theorem dX6_settle_68 : decode cX6_settle 68 = .ok (.bipush 7, 2) := by decide +kernel
theorem dX6_settle_70 : decode cX6_settle 70 = .ok (.iload_n 1, 1) := by decide +kernel
theorem dX6_settle_71 : decode cX6_settle 71 = .ok (.imul, 1) := by decide +kernel
theorem dX6_settle_72 : decode cX6_settle 72 = .ok (.iadd, 1) := by decide +kernel
theorem dX6_settle_73 : decode cX6_settle 73 = .ok (.iconst 5, 1) := by decide +kernel
theorem dX6_settle_74 : decode cX6_settle 74 = .ok (.iadd, 1) := by decide +kernel
theorem dX6_settle_75 : decode cX6_settle 75 = .ok (.iconst 0, 1) := by decide +kernel
theorem dX6_settle_76 : decode cX6_settle 76 = .ok (.iastore, 1) := by decide +kernel
theorem dX6_settle_77 : decode cX6_settle 77 = .ok (.aload_n 0, 1) := by decide +kernel
theorem dX6_settle_78 : decode cX6_settle 78 = .ok (.aload_n 0, 1) := by decide +kernel
theorem dX6_settle_79 : decode cX6_settle 79 = .ok (.iload_n 1, 1) := by decide +kernel
theorem dX6_settle_80 : decode cX6_settle 80 = .ok (.iconst 0, 1) := by decide +kernel
theorem dX6_settle_81 : decode cX6_settle 81 = .ok (.invokevirtual 140, 3) := by decide +kernel
theorem dX6_settle_84 : decode cX6_settle 84 = .ok (.invokevirtual 164, 3) := by decide +kernel
theorem dX6_settle_87 : decode cX6_settle 87 = .ok (.aload_n 0, 1) := by decide +kernel
theorem dX6_settle_88 : decode cX6_settle 88 = .ok (.aload_n 0, 1) := by decide +kernel
theorem dX6_settle_89 : decode cX6_settle 89 = .ok (.iload_n 1, 1) := by decide +kernel
theorem dX6_settle_90 : decode cX6_settle 90 = .ok (.iconst 0, 1) := by decide +kernel
theorem dX6_settle_91 : decode cX6_settle 91 = .ok (.invokevirtual 140, 3) := by decide +kernel
theorem dX6_settle_94 : decode cX6_settle 94 = .ok (.invokevirtual 209, 3) := by decide +kernel
theorem dX6_settle_97 : decode cX6_settle 97 = .ok (.pop, 1) := by decide +kernel
theorem dX6_settle_98 : decode cX6_settle 98 = .ok (.aload_n 0, 1) := by decide +kernel
theorem dX6_settle_99 : decode cX6_settle 99 = .ok (.iload_n 1, 1) := by decide +kernel
theorem dX6_settle_100 : decode cX6_settle 100 = .ok (.iconst 2, 1) := by decide +kernel
theorem dX6_settle_101 : decode cX6_settle 101 = .ok (.invokevirtual 140, 3) := by decide +kernel
theorem dX6_settle_104 : decode cX6_settle 104 = .ok (.ireturn, 1) := by decide +kernel
set_option maxRecDepth 20000 in
theorem ggX6_promise_X6_isDebtor : GoodIn wsX6_promise wsX6_isDebtor := goodIn_r _ [6, 7, 8, 9, 5, 10, 49, 50, 51, 52, 53, 54, 55, 56, 57, 58, 59, 60, 61, 62, 63, 64, 65, 66, 67, 68] (by decide +kernel) (by decide +kernel)
set_option maxRecDepth 20000 in
theorem gX6_promise_X6_isDebtor : GoodIn wsX6_promise (wsV RX6 221 RX6 yX6_isDebtor wsX6_isDebtor) := goodIn_app (goodIn_of _ (by decide +kernel)) ggX6_promise_X6_isDebtor
set_option maxRecDepth 20000 in
theorem ggX6_promise_X6_debt : GoodIn wsX6_promise wsX6_debt := goodIn_r _ [14, 7, 15, 16, 17, 5, 18, 19, 20, 21, 22, 49, 50, 51, 52, 53, 54, 55, 56, 57, 58, 59, 60, 61, 62, 63, 64, 65, 66, 67, 68] (by decide +kernel) (by decide +kernel)
set_option maxRecDepth 20000 in
theorem gX6_promise_X6_debt : GoodIn wsX6_promise (wsV RX6 167 RX6 yX6_debt wsX6_debt) := goodIn_app (goodIn_of _ (by decide +kernel)) ggX6_promise_X6_debt
set_option maxRecDepth 20000 in
theorem ggX6_promise_X6_isIn : GoodIn wsX6_promise wsX6_isIn := goodIn_r _ [10] (by decide +kernel) (by decide +kernel)
set_option maxRecDepth 20000 in
theorem gX6_promise_X6_isIn : GoodIn wsX6_promise (va_wsS RX6 85 yX6_isIn wsX6_isIn) := goodIn_app (goodIn_of _ (by decide +kernel)) ggX6_promise_X6_isIn
set_option maxRecDepth 20000 in
theorem ggX6_promise_X6_today : GoodIn wsX6_promise wsX6_today := goodIn_r _ [26, 7, 49, 50, 51, 52, 53, 54, 55, 56, 57, 58, 59, 60, 61, 62, 63, 64, 65, 66, 67, 68] (by decide +kernel) (by decide +kernel)
set_option maxRecDepth 20000 in
theorem gX6_promise_X6_today : GoodIn wsX6_promise (wsV RX6 173 RX6 yX6_today wsX6_today) := goodIn_app (goodIn_of _ (by decide +kernel)) ggX6_promise_X6_today
set_option maxRecDepth 20000 in
theorem ggX6_promise_X6_isStopped : GoodIn wsX6_promise wsX6_isStopped := goodIn_r _ [30, 31, 32, 33, 5, 34, 7, 49, 50, 51, 52, 53, 54, 55, 56, 57, 58, 59, 60, 61, 62, 63, 64, 65, 66, 67, 68] (by decide +kernel) (by decide +kernel)
set_option maxRecDepth 20000 in
theorem gX6_promise_X6_isStopped : GoodIn wsX6_promise (wsV RX6 183 RX6 yX6_isStopped wsX6_isStopped) := goodIn_app (goodIn_of _ (by decide +kernel)) ggX6_promise_X6_isStopped
set_option maxRecDepth 20000 in
theorem ggX6_promise_X6_its : GoodIn wsX6_promise wsX6_its := goodIn_r _ [34, 7, 49, 50, 51, 52, 53, 54, 55, 56, 57, 58, 59, 60, 61, 62, 63, 64, 65, 66, 67, 68] (by decide +kernel) (by decide +kernel)
set_option maxRecDepth 20000 in
theorem gX6_promise_X6_its : GoodIn wsX6_promise (wsV RX6 148 RX6 yX6_its wsX6_its) := goodIn_app (goodIn_of _ (by decide +kernel)) ggX6_promise_X6_its
set_option maxRecDepth 20000 in
theorem ggX6_promise_X6_isAtCourt : GoodIn wsX6_promise wsX6_isAtCourt := goodIn_r _ [38, 7, 31, 32, 33, 5, 34, 49, 50, 51, 52, 53, 54, 55, 56, 57, 58, 59, 60, 61, 62, 63, 64, 65, 66, 67, 68] (by decide +kernel) (by decide +kernel)
set_option maxRecDepth 20000 in
theorem gX6_promise_X6_isAtCourt : GoodIn wsX6_promise (wsV RX6 180 RX6 yX6_isAtCourt wsX6_isAtCourt) := goodIn_app (goodIn_of _ (by decide +kernel)) ggX6_promise_X6_isAtCourt
set_option maxRecDepth 20000 in
theorem ggX6_promise_X6_snap : GoodIn wsX6_promise wsX6_snap := goodIn_r _ [42, 43, 44, 7, 49, 50, 51, 52, 53, 54, 55, 56, 57, 58, 59, 60, 61, 62, 63, 64, 65, 66, 67, 68] (by decide +kernel) (by decide +kernel)
set_option maxRecDepth 20000 in
theorem gX6_promise_X6_snap : GoodIn wsX6_promise (wsV RX6 256 RX6 yX6_snap wsX6_snap) := goodIn_app (goodIn_of _ (by decide +kernel)) ggX6_promise_X6_snap
set_option maxRecDepth 20000 in
theorem ggX6_promise_X6_puts : GoodIn wsX6_promise wsX6_puts := goodIn_r _ [48, 7, 49, 50, 51, 52, 53, 54, 55, 56, 57, 58, 59, 60, 61, 62, 63, 64, 65, 66, 67, 68] (by decide +kernel) (by decide +kernel)
set_option maxRecDepth 20000 in
theorem gX6_promise_X6_puts : GoodIn wsX6_promise (wsV RX6 157 RX6 yX6_puts wsX6_puts) := goodIn_app (goodIn_of _ (by decide +kernel)) ggX6_promise_X6_puts
theorem dX6_promise_0 : decode cX6_promise 0 = .ok (.aload_n 0, 1) := by decide +kernel
theorem dX6_promise_1 : decode cX6_promise 1 = .ok (.iconst 0, 1) := by decide +kernel
theorem dX6_promise_2 : decode cX6_promise 2 = .ok (.putfield 1, 3) := by decide +kernel
theorem dX6_promise_5 : decode cX6_promise 5 = .ok (.aload_n 0, 1) := by decide +kernel
theorem dX6_promise_6 : decode cX6_promise 6 = .ok (.iload_n 1, 1) := by decide +kernel
theorem dX6_promise_7 : decode cX6_promise 7 = .ok (.invokevirtual 221, 3) := by decide +kernel
theorem dX6_promise_10 : decode cX6_promise 10 = .ok (.ifCond .eq 34, 3) := by decide +kernel
theorem dX6_promise_13 : decode cX6_promise 13 = .ok (.iload_n 2, 1) := by decide +kernel
theorem dX6_promise_14 : decode cX6_promise 14 = .ok (.iconst 1, 1) := by decide +kernel
theorem dX6_promise_15 : decode cX6_promise 15 = .ok (.aload_n 0, 1) := by decide +kernel
theorem dX6_promise_16 : decode cX6_promise 16 = .ok (.iload_n 1, 1) := by decide +kernel
theorem dX6_promise_17 : decode cX6_promise 17 = .ok (.invokevirtual 167, 3) := by decide +kernel
theorem dX6_promise_20 : decode cX6_promise 20 = .ok (.invokestatic 85, 3) := by decide +kernel
theorem dX6_promise_23 : decode cX6_promise 23 = .ok (.ifCond .eq 21, 3) := by decide +kernel
theorem dX6_promise_26 : decode cX6_promise 26 = .ok (.iload_n 3, 1) := by decide +kernel
theorem dX6_promise_27 : decode cX6_promise 27 = .ok (.aload_n 0, 1) := by decide +kernel
theorem dX6_promise_28 : decode cX6_promise 28 = .ok (.invokevirtual 173, 3) := by decide +kernel
theorem dX6_promise_31 : decode cX6_promise 31 = .ok (.aload_n 0, 1) := by decide +kernel
theorem dX6_promise_32 : decode cX6_promise 32 = .ok (.invokevirtual 173, 3) := by decide +kernel
theorem dX6_promise_35 : decode cX6_promise 35 = .ok (.bipush 30, 2) := by decide +kernel
theorem dX6_promise_37 : decode cX6_promise 37 = .ok (.iadd, 1) := by decide +kernel
theorem dX6_promise_38 : decode cX6_promise 38 = .ok (.invokestatic 85, 3) := by decide +kernel
theorem dX6_promise_41 : decode cX6_promise 41 = .ok (.ifCond .ne 5, 3) := by decide +kernel
theorem dX6_promise_44 : decode cX6_promise 44 = .ok (.iconst (-1), 1) := by decide +kernel
theorem dX6_promise_45 : decode cX6_promise 45 = .ok (.ireturn, 1) := by decide +kernel
theorem dX6_promise_46 : decode cX6_promise 46 = .ok (.aload_n 0, 1) := by decide +kernel
theorem dX6_promise_47 : decode cX6_promise 47 = .ok (.iload_n 1, 1) := by decide +kernel
theorem dX6_promise_48 : decode cX6_promise 48 = .ok (.invokevirtual 183, 3) := by decide +kernel
theorem dX6_promise_51 : decode cX6_promise 51 = .ok (.ifCond .eq 6, 3) := by decide +kernel
theorem dX6_promise_54 : decode cX6_promise 54 = .ok (.bipush (-2), 2) := by decide +kernel
theorem dX6_promise_56 : decode cX6_promise 56 = .ok (.ireturn, 1) := by decide +kernel
theorem dX6_promise_57 : decode cX6_promise 57 = .ok (.aload_n 0, 1) := by decide +kernel
theorem dX6_promise_58 : decode cX6_promise 58 = .ok (.iload_n 1, 1) := by decide +kernel
theorem dX6_promise_59 : decode cX6_promise 59 = .ok (.bipush 8, 2) := by decide +kernel
theorem dX6_promise_61 : decode cX6_promise 61 = .ok (.invokevirtual 148, 3) := by decide +kernel
theorem dX6_promise_64 : decode cX6_promise 64 = .ok (.iconst 2, 1) := by decide +kernel
theorem dX6_promise_65 : decode cX6_promise 65 = .ok (.if_icmp .lt 6, 3) := by decide +kernel
theorem dX6_promise_68 : decode cX6_promise 68 = .ok (.bipush (-3), 2) := by decide +kernel
theorem dX6_promise_70 : decode cX6_promise 70 = .ok (.ireturn, 1) := by decide +kernel
theorem dX6_promise_71 : decode cX6_promise 71 = .ok (.aload_n 0, 1) := by decide +kernel
theorem dX6_promise_72 : decode cX6_promise 72 = .ok (.iload_n 1, 1) := by decide +kernel
theorem dX6_promise_73 : decode cX6_promise 73 = .ok (.invokevirtual 180, 3) := by decide +kernel
theorem dX6_promise_76 : decode cX6_promise 76 = .ok (.ifCond .eq 6, 3) := by decide +kernel
theorem dX6_promise_79 : decode cX6_promise 79 = .ok (.bipush (-4), 2) := by decide +kernel
theorem dX6_promise_81 : decode cX6_promise 81 = .ok (.ireturn, 1) := by decide +kernel
theorem dX6_promise_82 : decode cX6_promise 82 = .ok (.aload_n 0, 1) := by decide +kernel
theorem dX6_promise_83 : decode cX6_promise 83 = .ok (.invokevirtual 256, 3) := by decide +kernel
theorem dX6_promise_86 : decode cX6_promise 86 = .ok (.aload_n 0, 1) := by decide +kernel
theorem dX6_promise_87 : decode cX6_promise 87 = .ok (.iload_n 1, 1) := by decide +kernel
theorem dX6_promise_88 : decode cX6_promise 88 = .ok (.iconst 5, 1) := by decide +kernel
theorem dX6_promise_89 : decode cX6_promise 89 = .ok (.iload_n 2, 1) := by decide +kernel
theorem dX6_promise_90 : decode cX6_promise 90 = .ok (.invokevirtual 157, 3) := by decide +kernel
theorem dX6_promise_93 : decode cX6_promise 93 = .ok (.aload_n 0, 1) := by decide +kernel
theorem dX6_promise_94 : decode cX6_promise 94 = .ok (.iload_n 1, 1) := by decide +kernel
theorem dX6_promise_95 : decode cX6_promise 95 = .ok (.bipush 6, 2) := by decide +kernel
theorem dX6_promise_97 : decode cX6_promise 97 = .ok (.iload_n 3, 1) := by decide +kernel
theorem dX6_promise_98 : decode cX6_promise 98 = .ok (.invokevirtual 157, 3) := by decide +kernel
theorem dX6_promise_101 : decode cX6_promise 101 = .ok (.aload_n 0, 1) := by decide +kernel
theorem dX6_promise_102 : decode cX6_promise 102 = .ok (.iload_n 1, 1) := by decide +kernel
theorem dX6_promise_103 : decode cX6_promise 103 = .ok (.bipush 7, 2) := by decide +kernel
theorem dX6_promise_105 : decode cX6_promise 105 = .ok (.iconst 0, 1) := by decide +kernel
theorem dX6_promise_106 : decode cX6_promise 106 = .ok (.invokevirtual 157, 3) := by decide +kernel
theorem dX6_promise_109 : decode cX6_promise 109 = .ok (.iconst 0, 1) := by decide +kernel
theorem dX6_promise_110 : decode cX6_promise 110 = .ok (.ireturn, 1) := by decide +kernel
set_option maxRecDepth 20000 in
theorem ggX6_plan_X6_isDebtor : GoodIn wsX6_plan wsX6_isDebtor := goodIn_r _ [6, 7, 8, 9, 5, 10, 45, 46, 47, 48, 49, 50, 51, 52, 53, 54, 55, 56, 57, 58, 59, 60, 61, 62, 63, 64] (by decide +kernel) (by decide +kernel)
set_option maxRecDepth 20000 in
theorem gX6_plan_X6_isDebtor : GoodIn wsX6_plan (wsV RX6 221 RX6 yX6_isDebtor wsX6_isDebtor) := goodIn_app (goodIn_of _ (by decide +kernel)) ggX6_plan_X6_isDebtor
set_option maxRecDepth 20000 in
theorem ggX6_plan_X6_isIn : GoodIn wsX6_plan wsX6_isIn := goodIn_r _ [10] (by decide +kernel) (by decide +kernel)
set_option maxRecDepth 20000 in
theorem gX6_plan_X6_isIn : GoodIn wsX6_plan (va_wsS RX6 85 yX6_isIn wsX6_isIn) := goodIn_app (goodIn_of _ (by decide +kernel)) ggX6_plan_X6_isIn
set_option maxRecDepth 20000 in
theorem ggX6_plan_X6_its : GoodIn wsX6_plan wsX6_its := goodIn_r _ [14, 7, 45, 46, 47, 48, 49, 50, 51, 52, 53, 54, 55, 56, 57, 58, 59, 60, 61, 62, 63, 64] (by decide +kernel) (by decide +kernel)
set_option maxRecDepth 20000 in
theorem gX6_plan_X6_its : GoodIn wsX6_plan (wsV RX6 148 RX6 yX6_its wsX6_its) := goodIn_app (goodIn_of _ (by decide +kernel)) ggX6_plan_X6_its
set_option maxRecDepth 20000 in
theorem ggX6_plan_X6_debt : GoodIn wsX6_plan wsX6_debt := goodIn_r _ [18, 7, 19, 20, 21, 5, 22, 23, 24, 25, 26, 45, 46, 47, 48, 49, 50, 51, 52, 53, 54, 55, 56, 57, 58, 59, 60, 61, 62, 63, 64] (by decide +kernel) (by decide +kernel)
set_option maxRecDepth 20000 in
theorem gX6_plan_X6_debt : GoodIn wsX6_plan (wsV RX6 167 RX6 yX6_debt wsX6_debt) := goodIn_app (goodIn_of _ (by decide +kernel)) ggX6_plan_X6_debt
set_option maxRecDepth 20000 in
theorem ggX6_plan_X6_isAtCourt : GoodIn wsX6_plan wsX6_isAtCourt := goodIn_r _ [30, 7, 11, 12, 13, 5, 14, 45, 46, 47, 48, 49, 50, 51, 52, 53, 54, 55, 56, 57, 58, 59, 60, 61, 62, 63, 64] (by decide +kernel) (by decide +kernel)
set_option maxRecDepth 20000 in
theorem gX6_plan_X6_isAtCourt : GoodIn wsX6_plan (wsV RX6 180 RX6 yX6_isAtCourt wsX6_isAtCourt) := goodIn_app (goodIn_of _ (by decide +kernel)) ggX6_plan_X6_isAtCourt
set_option maxRecDepth 20000 in
theorem ggX6_plan_X6_snap : GoodIn wsX6_plan wsX6_snap := goodIn_r _ [34, 35, 36, 7, 45, 46, 47, 48, 49, 50, 51, 52, 53, 54, 55, 56, 57, 58, 59, 60, 61, 62, 63, 64] (by decide +kernel) (by decide +kernel)
set_option maxRecDepth 20000 in
theorem gX6_plan_X6_snap : GoodIn wsX6_plan (wsV RX6 256 RX6 yX6_snap wsX6_snap) := goodIn_app (goodIn_of _ (by decide +kernel)) ggX6_plan_X6_snap
set_option maxRecDepth 20000 in
theorem ggX6_plan_X6_puts : GoodIn wsX6_plan wsX6_puts := goodIn_r _ [40, 7, 45, 46, 47, 48, 49, 50, 51, 52, 53, 54, 55, 56, 57, 58, 59, 60, 61, 62, 63, 64] (by decide +kernel) (by decide +kernel)
set_option maxRecDepth 20000 in
theorem gX6_plan_X6_puts : GoodIn wsX6_plan (wsV RX6 157 RX6 yX6_puts wsX6_puts) := goodIn_app (goodIn_of _ (by decide +kernel)) ggX6_plan_X6_puts
set_option maxRecDepth 20000 in
theorem ggX6_plan_X6_today : GoodIn wsX6_plan wsX6_today := goodIn_r _ [44, 7, 45, 46, 47, 48, 49, 50, 51, 52, 53, 54, 55, 56, 57, 58, 59, 60, 61, 62, 63, 64] (by decide +kernel) (by decide +kernel)
set_option maxRecDepth 20000 in
theorem gX6_plan_X6_today : GoodIn wsX6_plan (wsV RX6 173 RX6 yX6_today wsX6_today) := goodIn_app (goodIn_of _ (by decide +kernel)) ggX6_plan_X6_today
theorem dX6_plan_0 : decode cX6_plan 0 = .ok (.aload_n 0, 1) := by decide +kernel
theorem dX6_plan_1 : decode cX6_plan 1 = .ok (.iconst 0, 1) := by decide +kernel
theorem dX6_plan_2 : decode cX6_plan 2 = .ok (.putfield 1, 3) := by decide +kernel
theorem dX6_plan_5 : decode cX6_plan 5 = .ok (.aload_n 0, 1) := by decide +kernel
theorem dX6_plan_6 : decode cX6_plan 6 = .ok (.iload_n 1, 1) := by decide +kernel
theorem dX6_plan_7 : decode cX6_plan 7 = .ok (.invokevirtual 221, 3) := by decide +kernel
theorem dX6_plan_10 : decode cX6_plan 10 = .ok (.ifCond .eq 23, 3) := by decide +kernel
theorem dX6_plan_13 : decode cX6_plan 13 = .ok (.iload_n 2, 1) := by decide +kernel

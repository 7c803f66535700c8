theorem dX6_counted_7 : decode cX6_counted 7 = .ok (.aload_n 0, 1) := by decide +kernel
theorem dX6_counted_8 : decode cX6_counted 8 = .ok (.getfield 27, 3) := by decide +kernel
theorem dX6_counted_11 : decode cX6_counted 11 = .ok (.getfield 51, 3) := by decide +kernel
theorem dX6_counted_14 : decode cX6_counted 14 = .ok (.if_icmp .ge 25, 3) := by decide +kernel
theorem dX6_counted_17 : decode cX6_counted 17 = .ok (.aload_n 2, 1) := by decide +kernel
theorem dX6_counted_18 : decode cX6_counted 18 = .ok (.aload_n 0, 1) := by decide +kernel
theorem dX6_counted_19 : decode cX6_counted 19 = .ok (.getfield 27, 3) := by decide +kernel
theorem dX6_counted_22 : decode cX6_counted 22 = .ok (.iload_n 3, 1) := by decide +kernel
theorem dX6_counted_23 : decode cX6_counted 23 = .ok (.bipush 6, 2) := by decide +kernel
theorem dX6_counted_25 : decode cX6_counted 25 = .ok (.invokevirtual 75, 3) := by decide +kernel
theorem dX6_counted_28 : decode cX6_counted 28 = .ok (.dup2, 1) := by decide +kernel
theorem dX6_counted_29 : decode cX6_counted 29 = .ok (.iaload, 1) := by decide +kernel
theorem dX6_counted_30 : decode cX6_counted 30 = .ok (.iconst 1, 1) := by decide +kernel
theorem dX6_counted_31 : decode cX6_counted 31 = .ok (.iadd, 1) := by decide +kernel
theorem dX6_counted_32 : decode cX6_counted 32 = .ok (.iastore, 1) := by decide +kernel
theorem dX6_counted_33 : decode cX6_counted 33 = .ok (.iinc 3 1, 3) := by decide +kernel
theorem dX6_counted_36 : decode cX6_counted 36 = .ok (.goto (-30), 3) := by decide +kernel
theorem dX6_counted_39 : decode cX6_counted 39 = .ok (.iconst 0, 1) := by decide +kernel
theorem dX6_counted_40 : decode cX6_counted 40 = .ok (.istore_n 3, 1) := by decide +kernel
theorem dX6_counted_41 : decode cX6_counted 41 = .ok (.iconst 0, 1) := by decide +kernel
theorem dX6_counted_42 : decode cX6_counted 42 = .ok (.istore 4, 2) := by decide +kernel
theorem dX6_counted_44 : decode cX6_counted 44 = .ok (.iconst 0, 1) := by decide +kernel
theorem dX6_counted_45 : decode cX6_counted 45 = .ok (.istore 5, 2) := by decide +kernel
theorem dX6_counted_47 : decode cX6_counted 47 = .ok (.iload 5, 2) := by decide +kernel
theorem dX6_counted_49 : decode cX6_counted 49 = .ok (.bipush 36, 2) := by decide +kernel
theorem dX6_counted_51 : decode cX6_counted 51 = .ok (.if_icmp .ge 45, 3) := by decide +kernel
theorem dX6_counted_54 : decode cX6_counted 54 = .ok (.iload_n 3, 1) := by decide +kernel
theorem dX6_counted_55 : decode cX6_counted 55 = .ok (.aload_n 0, 1) := by decide +kernel
theorem dX6_counted_56 : decode cX6_counted 56 = .ok (.getfield 27, 3) := by decide +kernel
theorem dX6_counted_59 : decode cX6_counted 59 = .ok (.getfield 78, 3) := by decide +kernel
theorem dX6_counted_62 : decode cX6_counted 62 = .ok (.iload 5, 2) := by decide +kernel
theorem dX6_counted_64 : decode cX6_counted 64 = .ok (.iaload, 1) := by decide +kernel
theorem dX6_counted_65 : decode cX6_counted 65 = .ok (.iadd, 1) := by decide +kernel
theorem dX6_counted_66 : decode cX6_counted 66 = .ok (.istore_n 3, 1) := by decide +kernel
theorem dX6_counted_67 : decode cX6_counted 67 = .ok (.iload 4, 2) := by decide +kernel
theorem dX6_counted_69 : decode cX6_counted 69 = .ok (.aload_n 0, 1) := by decide +kernel
theorem dX6_counted_70 : decode cX6_counted 70 = .ok (.getfield 27, 3) := by decide +kernel
theorem dX6_counted_73 : decode cX6_counted 73 = .ok (.getfield 40, 3) := by decide +kernel
theorem dX6_counted_76 : decode cX6_counted 76 = .ok (.iload 5, 2) := by decide +kernel
theorem dX6_counted_78 : decode cX6_counted 78 = .ok (.iaload, 1) := by decide +kernel
theorem dX6_counted_79 : decode cX6_counted 79 = .ok (.ifCond .ne 7, 3) := by decide +kernel
theorem dX6_counted_82 : decode cX6_counted 82 = .ok (.iconst 1, 1) := by decide +kernel
theorem dX6_counted_83 : decode cX6_counted 83 = .ok (.goto 4, 3) := by decide +kernel
theorem dX6_counted_86 : decode cX6_counted 86 = .ok (.iconst 0, 1) := by decide +kernel
theorem dX6_counted_87 : decode cX6_counted 87 = .ok (.iadd, 1) := by decide +kernel
theorem dX6_counted_88 : decode cX6_counted 88 = .ok (.istore 4, 2) := by decide +kernel
theorem dX6_counted_90 : decode cX6_counted 90 = .ok (.iinc 5 1, 3) := by decide +kernel
theorem dX6_counted_93 : decode cX6_counted 93 = .ok (.goto (-46), 3) := by decide +kernel
theorem dX6_counted_96 : decode cX6_counted 96 = .ok (.bipush 11, 2) := by decide +kernel
theorem dX6_counted_98 : decode cX6_counted 98 = .ok (.newarray .int, 2) := by decide +kernel
theorem dX6_counted_100 : decode cX6_counted 100 = .ok (.dup, 1) := by decide +kernel
theorem dX6_counted_101 : decode cX6_counted 101 = .ok (.iconst 0, 1) := by decide +kernel
theorem dX6_counted_102 : decode cX6_counted 102 = .ok (.aload_n 0, 1) := by decide +kernel
theorem dX6_counted_103 : decode cX6_counted 103 = .ok (.getfield 27, 3) := by decide +kernel
theorem dX6_counted_106 : decode cX6_counted 106 = .ok (.getfield 125, 3) := by decide +kernel
theorem dX6_counted_109 : decode cX6_counted 109 = .ok (.iastore, 1) := by decide +kernel
theorem dX6_counted_110 : decode cX6_counted 110 = .ok (.dup, 1) := by decide +kernel
theorem dX6_counted_111 : decode cX6_counted 111 = .ok (.iconst 1, 1) := by decide +kernel
theorem dX6_counted_112 : decode cX6_counted 112 = .ok (.aload_n 0, 1) := by decide +kernel
theorem dX6_counted_113 : decode cX6_counted 113 = .ok (.getfield 27, 3) := by decide +kernel
theorem dX6_counted_116 : decode cX6_counted 116 = .ok (.getfield 51, 3) := by decide +kernel
theorem dX6_counted_119 : decode cX6_counted 119 = .ok (.iastore, 1) := by decide +kernel
theorem dX6_counted_120 : decode cX6_counted 120 = .ok (.dup, 1) := by decide +kernel
theorem dX6_counted_121 : decode cX6_counted 121 = .ok (.iconst 2, 1) := by decide +kernel
theorem dX6_counted_122 : decode cX6_counted 122 = .ok (.aload_n 2, 1) := by decide +kernel
theorem dX6_counted_123 : decode cX6_counted 123 = .ok (.iconst 1, 1) := by decide +kernel
theorem dX6_counted_124 : decode cX6_counted 124 = .ok (.iaload, 1) := by decide +kernel
theorem dX6_counted_125 : decode cX6_counted 125 = .ok (.iastore, 1) := by decide +kernel
theorem dX6_counted_126 : decode cX6_counted 126 = .ok (.dup, 1) := by decide +kernel
theorem dX6_counted_127 : decode cX6_counted 127 = .ok (.iconst 3, 1) := by decide +kernel
theorem dX6_counted_128 : decode cX6_counted 128 = .ok (.aload_n 2, 1) := by decide +kernel
theorem dX6_counted_129 : decode cX6_counted 129 = .ok (.iconst 2, 1) := by decide +kernel
theorem dX6_counted_130 : decode cX6_counted 130 = .ok (.iaload, 1) := by decide +kernel
theorem dX6_counted_131 : decode cX6_counted 131 = .ok (.iastore, 1) := by decide +kernel
theorem dX6_counted_132 : decode cX6_counted 132 = .ok (.dup, 1) := by decide +kernel
theorem dX6_counted_133 : decode cX6_counted 133 = .ok (.iconst 4, 1) := by decide +kernel
theorem dX6_counted_134 : decode cX6_counted 134 = .ok (.aload_n 2, 1) := by decide +kernel
theorem dX6_counted_135 : decode cX6_counted 135 = .ok (.iconst 3, 1) := by decide +kernel
theorem dX6_counted_136 : decode cX6_counted 136 = .ok (.iaload, 1) := by decide +kernel
theorem dX6_counted_137 : decode cX6_counted 137 = .ok (.iastore, 1) := by decide +kernel
theorem dX6_counted_138 : decode cX6_counted 138 = .ok (.dup, 1) := by decide +kernel
theorem dX6_counted_139 : decode cX6_counted 139 = .ok (.iconst 5, 1) := by decide +kernel
theorem dX6_counted_140 : decode cX6_counted 140 = .ok (.iload_n 3, 1) := by decide +kernel
theorem dX6_counted_141 : decode cX6_counted 141 = .ok (.iastore, 1) := by decide +kernel
theorem dX6_counted_142 : decode cX6_counted 142 = .ok (.dup, 1) := by decide +kernel
theorem dX6_counted_143 : decode cX6_counted 143 = .ok (.bipush 6, 2) := by decide +kernel
theorem dX6_counted_145 : decode cX6_counted 145 = .ok (.iload 4, 2) := by decide +kernel
theorem dX6_counted_147 : decode cX6_counted 147 = .ok (.iastore, 1) := by decide +kernel
theorem dX6_counted_148 : decode cX6_counted 148 = .ok (.dup, 1) := by decide +kernel
theorem dX6_counted_149 : decode cX6_counted 149 = .ok (.bipush 7, 2) := by decide +kernel
theorem dX6_counted_151 : decode cX6_counted 151 = .ok (.aload_n 0, 1) := by decide +kernel
theorem dX6_counted_152 : decode cX6_counted 152 = .ok (.invokevirtual 62, 3) := by decide +kernel
theorem dX6_counted_155 : decode cX6_counted 155 = .ok (.iastore, 1) := by decide +kernel
theorem dX6_counted_156 : decode cX6_counted 156 = .ok (.dup, 1) := by decide +kernel
theorem dX6_counted_157 : decode cX6_counted 157 = .ok (.bipush 8, 2) := by decide +kernel
theorem dX6_counted_159 : decode cX6_counted 159 = .ok (.aload_n 0, 1) := by decide +kernel
theorem dX6_counted_160 : decode cX6_counted 160 = .ok (.getfield 107, 3) := by decide +kernel
theorem dX6_counted_163 : decode cX6_counted 163 = .ok (.iastore, 1) := by decide +kernel
theorem dX6_counted_164 : decode cX6_counted 164 = .ok (.dup, 1) := by decide +kernel
theorem dX6_counted_165 : decode cX6_counted 165 = .ok (.bipush 9, 2) := by decide +kernel
theorem dX6_counted_167 : decode cX6_counted 167 = .ok (.aload_n 0, 1) := by decide +kernel
theorem dX6_counted_168 : decode cX6_counted 168 = .ok (.invokevirtual 113, 3) := by decide +kernel
theorem dX6_counted_171 : decode cX6_counted 171 = .ok (.iastore, 1) := by decide +kernel
theorem dX6_counted_172 : decode cX6_counted 172 = .ok (.dup, 1) := by decide +kernel
theorem dX6_counted_173 : decode cX6_counted 173 = .ok (.bipush 10, 2) := by decide +kernel
theorem dX6_counted_175 : decode cX6_counted 175 = .ok (.aload_n 0, 1) := by decide +kernel
theorem dX6_counted_176 : decode cX6_counted 176 = .ok (.getfield 27, 3) := by decide +kernel
theorem dX6_counted_179 : decode cX6_counted 179 = .ok (.getfield 110, 3) := by decide +kernel
theorem dX6_counted_182 : decode cX6_counted 182 = .ok (.iastore, 1) := by decide +kernel
theorem dX6_counted_183 : decode cX6_counted 183 = .ok (.astore 5, 2) := by decide +kernel
theorem dX6_counted_185 : decode cX6_counted 185 = .ok (.aload 5, 2) := by decide +kernel
theorem dX6_counted_187 : decode cX6_counted 187 = .ok (.iload_n 1, 1) := by decide +kernel
theorem dX6_counted_188 : decode cX6_counted 188 = .ok (.iaload, 1) := by decide +kernel
theorem dX6_counted_189 : decode cX6_counted 189 = .ok (.ireturn, 1) := by decide +kernel
set_option maxRecDepth 20000 in
theorem ggX6_count_X6_isIn : GoodIn wsX6_count wsX6_isIn := goodIn_r _ [5] (by decide +kernel) (by decide +kernel)
set_option maxRecDepth 20000 in
theorem gX6_count_X6_isIn : GoodIn wsX6_count (va_wsS RX6 47 yX6_isIn wsX6_isIn) := goodIn_app (goodIn_of _ (by decide +kernel)) ggX6_count_X6_isIn
set_option maxRecDepth 20000 in
theorem ggX6_count_X6_counted : GoodIn wsX6_count wsX6_counted := goodIn_r _ [9, 10, 11, 12, 13, 14, 15, 16, 17, 18, 19, 20, 21, 4, 22, 23, 24, 25, 26, 27, 28, 33, 34, 35, 36, 37, 38, 39, 40, 41, 42, 43, 44, 45, 46, 47, 48] (by decide +kernel) (by decide +kernel)
set_option maxRecDepth 20000 in
theorem gX6_count_X6_counted : GoodIn wsX6_count (wsV RX6 128 RX6 yX6_counted wsX6_counted) := goodIn_app (goodIn_of _ (by decide +kernel)) ggX6_count_X6_counted
set_option maxRecDepth 20000 in
theorem ggX6_count_X6_no : GoodIn wsX6_count wsX6_no := goodIn_r _ [32, 1, 33, 34, 35, 36, 37, 38, 39, 40] (by decide +kernel) (by decide +kernel)
set_option maxRecDepth 20000 in
theorem gX6_count_X6_no : GoodIn wsX6_count (wsV RX6 54 RX6 yX6_no wsX6_no) := goodIn_app (goodIn_of _ (by decide +kernel)) ggX6_count_X6_no
theorem dX6_count_0 : decode cX6_count 0 = .ok (.aload_n 0, 1) := by decide +kernel
theorem dX6_count_1 : decode cX6_count 1 = .ok (.iconst 0, 1) := by decide +kernel
theorem dX6_count_2 : decode cX6_count 2 = .ok (.putfield 43, 3) := by decide +kernel
theorem dX6_count_5 : decode cX6_count 5 = .ok (.iload_n 1, 1) := by decide +kernel
theorem dX6_count_6 : decode cX6_count 6 = .ok (.iconst 0, 1) := by decide +kernel
theorem dX6_count_7 : decode cX6_count 7 = .ok (.bipush 10, 2) := by decide +kernel
theorem dX6_count_9 : decode cX6_count 9 = .ok (.invokestatic 47, 3) := by decide +kernel
theorem dX6_count_12 : decode cX6_count 12 = .ok (.ifCond .eq 11, 3) := by decide +kernel
theorem dX6_count_15 : decode cX6_count 15 = .ok (.aload_n 0, 1) := by decide +kernel
theorem dX6_count_16 : decode cX6_count 16 = .ok (.iload_n 1, 1) := by decide +kernel
theorem dX6_count_17 : decode cX6_count 17 = .ok (.invokevirtual 128, 3) := by decide +kernel
theorem dX6_count_20 : decode cX6_count 20 = .ok (.goto 8, 3) := by decide +kernel
theorem dX6_count_23 : decode cX6_count 23 = .ok (.aload_n 0, 1) := by decide +kernel
theorem dX6_count_24 : decode cX6_count 24 = .ok (.iconst 1, 1) := by decide +kernel
theorem dX6_count_25 : decode cX6_count 25 = .ok (.invokevirtual 54, 3) := by decide +kernel
theorem dX6_count_28 : decode cX6_count 28 = .ok (.ireturn, 1) := by decide +kernel
set_option maxRecDepth 20000 in
theorem ggX6_bears_X6_isIn : GoodIn wsX6_bears wsX6_isIn := goodIn_r _ [13] (by decide +kernel) (by decide +kernel)
set_option maxRecDepth 20000 in
theorem gX6_bears_X6_isIn : GoodIn wsX6_bears (va_wsS RX6 47 yX6_isIn wsX6_isIn) := goodIn_app (goodIn_of _ (by decide +kernel)) ggX6_bears_X6_isIn
set_option maxRecDepth 20000 in
theorem ggX6_bears_X6_no : GoodIn wsX6_bears wsX6_no := goodIn_r _ [17, 1, 30, 31, 32, 33, 34, 35, 36, 37] (by decide +kernel) (by decide +kernel)
set_option maxRecDepth 20000 in
theorem gX6_bears_X6_no : GoodIn wsX6_bears (wsV RX6 54 RX6 yX6_no wsX6_no) := goodIn_app (goodIn_of _ (by decide +kernel)) ggX6_bears_X6_no
set_option maxRecDepth 20000 in
theorem ggX6_bears_X6_borne : GoodIn wsX6_bears wsX6_borne := goodIn_r _ [21, 22, 3, 4, 5, 6, 23, 24, 25, 26, 27, 28, 29, 30, 31, 32, 33, 34, 35, 36, 37, 38, 39, 40, 41, 42, 43, 44, 45] (by decide +kernel) (by decide +kernel)
set_option maxRecDepth 20000 in
theorem gX6_bears_X6_borne : GoodIn wsX6_bears (wsV RX6 81 RX6 yX6_borne wsX6_borne) := goodIn_app (goodIn_of _ (by decide +kernel)) ggX6_bears_X6_borne
theorem dX6_bears_0 : decode cX6_bears 0 = .ok (.aload_n 0, 1) := by decide +kernel
theorem dX6_bears_1 : decode cX6_bears 1 = .ok (.iconst 0, 1) := by decide +kernel
theorem dX6_bears_2 : decode cX6_bears 2 = .ok (.putfield 43, 3) := by decide +kernel
theorem dX6_bears_5 : decode cX6_bears 5 = .ok (.iload_n 1, 1) := by decide +kernel
theorem dX6_bears_6 : decode cX6_bears 6 = .ok (.iconst 0, 1) := by decide +kernel
theorem dX6_bears_7 : decode cX6_bears 7 = .ok (.bipush 11, 2) := by decide +kernel
theorem dX6_bears_9 : decode cX6_bears 9 = .ok (.invokestatic 47, 3) := by decide +kernel
theorem dX6_bears_12 : decode cX6_bears 12 = .ok (.ifCond .eq 13, 3) := by decide +kernel
theorem dX6_bears_15 : decode cX6_bears 15 = .ok (.iload_n 2, 1) := by decide +kernel
theorem dX6_bears_16 : decode cX6_bears 16 = .ok (.iconst 0, 1) := by decide +kernel
theorem dX6_bears_17 : decode cX6_bears 17 = .ok (.bipush 11, 2) := by decide +kernel
theorem dX6_bears_19 : decode cX6_bears 19 = .ok (.invokestatic 47, 3) := by decide +kernel
theorem dX6_bears_22 : decode cX6_bears 22 = .ok (.ifCond .ne 9, 3) := by decide +kernel
theorem dX6_bears_25 : decode cX6_bears 25 = .ok (.aload_n 0, 1) := by decide +kernel
theorem dX6_bears_26 : decode cX6_bears 26 = .ok (.iconst 1, 1) := by decide +kernel
theorem dX6_bears_27 : decode cX6_bears 27 = .ok (.invokevirtual 54, 3) := by decide +kernel
theorem dX6_bears_30 : decode cX6_bears 30 = .ok (.ireturn, 1) := by decide +kernel
theorem dX6_bears_31 : decode cX6_bears 31 = .ok (.iload_n 1, 1) := by decide +kernel
theorem dX6_bears_32 : decode cX6_bears 32 = .ok (.iload_n 2, 1) := by decide +kernel
theorem dX6_bears_33 : decode cX6_bears 33 = .ok (.if_icmp .ge 7, 3) := by decide +kernel
theorem dX6_bears_36 : decode cX6_bears 36 = .ok (.iconst 1, 1) := by decide +kernel
theorem dX6_bears_37 : decode cX6_bears 37 = .ok (.goto 4, 3) := by decide +kernel
theorem dX6_bears_40 : decode cX6_bears 40 = .ok (.iconst (-1), 1) := by decide +kernel
theorem dX6_bears_41 : decode cX6_bears 41 = .ok (.istore_n 3, 1) := by decide +kernel
theorem dX6_bears_42 : decode cX6_bears 42 = .ok (.iconst 3, 1) := by decide +kernel
theorem dX6_bears_43 : decode cX6_bears 43 = .ok (.newarray .int, 2) := by decide +kernel
theorem dX6_bears_45 : decode cX6_bears 45 = .ok (.dup, 1) := by decide +kernel
theorem dX6_bears_46 : decode cX6_bears 46 = .ok (.iconst 0, 1) := by decide +kernel
theorem dX6_bears_47 : decode cX6_bears 47 = .ok (.aload_n 0, 1) := by decide +kernel
theorem dX6_bears_48 : decode cX6_bears 48 = .ok (.iconst 3, 1) := by decide +kernel
theorem dX6_bears_49 : decode cX6_bears 49 = .ok (.iload_n 1, 1) := by decide +kernel
theorem dX6_bears_50 : decode cX6_bears 50 = .ok (.imul, 1) := by decide +kernel
theorem dX6_bears_51 : decode cX6_bears 51 = .ok (.invokevirtual 81, 3) := by decide +kernel
theorem dX6_bears_54 : decode cX6_bears 54 = .ok (.iastore, 1) := by decide +kernel
theorem dX6_bears_55 : decode cX6_bears 55 = .ok (.dup, 1) := by decide +kernel
theorem dX6_bears_56 : decode cX6_bears 56 = .ok (.iconst 1, 1) := by decide +kernel
theorem dX6_bears_57 : decode cX6_bears 57 = .ok (.aload_n 0, 1) := by decide +kernel
theorem dX6_bears_58 : decode cX6_bears 58 = .ok (.iconst 3, 1) := by decide +kernel
theorem dX6_bears_59 : decode cX6_bears 59 = .ok (.iload_n 1, 1) := by decide +kernel
theorem dX6_bears_60 : decode cX6_bears 60 = .ok (.imul, 1) := by decide +kernel
theorem dX6_bears_61 : decode cX6_bears 61 = .ok (.iconst 1, 1) := by decide +kernel
theorem dX6_bears_62 : decode cX6_bears 62 = .ok (.iadd, 1) := by decide +kernel
theorem dX6_bears_63 : decode cX6_bears 63 = .ok (.invokevirtual 81, 3) := by decide +kernel
theorem dX6_bears_66 : decode cX6_bears 66 = .ok (.iastore, 1) := by decide +kernel
theorem dX6_bears_67 : decode cX6_bears 67 = .ok (.dup, 1) := by decide +kernel
theorem dX6_bears_68 : decode cX6_bears 68 = .ok (.iconst 2, 1) := by decide +kernel
theorem dX6_bears_69 : decode cX6_bears 69 = .ok (.aload_n 0, 1) := by decide +kernel
theorem dX6_bears_70 : decode cX6_bears 70 = .ok (.iconst 3, 1) := by decide +kernel
theorem dX6_bears_71 : decode cX6_bears 71 = .ok (.iload_n 1, 1) := by decide +kernel
theorem dX6_bears_72 : decode cX6_bears 72 = .ok (.imul, 1) := by decide +kernel
theorem dX6_bears_73 : decode cX6_bears 73 = .ok (.iconst 2, 1) := by decide +kernel
theorem dX6_bears_74 : decode cX6_bears 74 = .ok (.iadd, 1) := by decide +kernel
theorem dX6_bears_75 : decode cX6_bears 75 = .ok (.invokevirtual 81, 3) := by decide +kernel
theorem dX6_bears_78 : decode cX6_bears 78 = .ok (.iastore, 1) := by decide +kernel
theorem dX6_bears_79 : decode cX6_bears 79 = .ok (.astore 4, 2) := by decide +kernel
theorem dX6_bears_81 : decode cX6_bears 81 = .ok (.iload_n 1, 1) := by decide +kernel
theorem dX6_bears_82 : decode cX6_bears 82 = .ok (.istore 5, 2) := by decide +kernel
theorem dX6_bears_84 : decode cX6_bears 84 = .ok (.iload 5, 2) := by decide +kernel
theorem dX6_bears_86 : decode cX6_bears 86 = .ok (.iload_n 2, 1) := by decide +kernel
theorem dX6_bears_87 : decode cX6_bears 87 = .ok (.if_icmp .eq 105, 3) := by decide +kernel
theorem dX6_bears_90 : decode cX6_bears 90 = .ok (.aload 4, 2) := by decide +kernel
theorem dX6_bears_92 : decode cX6_bears 92 = .ok (.astore 6, 2) := by decide +kernel
theorem dX6_bears_94 : decode cX6_bears 94 = .ok (.iconst 3, 1) := by decide +kernel
theorem dX6_bears_95 : decode cX6_bears 95 = .ok (.newarray .int, 2) := by decide +kernel
theorem dX6_bears_97 : decode cX6_bears 97 = .ok (.astore 4, 2) := by decide +kernel
theorem dX6_bears_99 : decode cX6_bears 99 = .ok (.iconst 0, 1) := by decide +kernel
theorem dX6_bears_100 : decode cX6_bears 100 = .ok (.istore 7, 2) := by decide +kernel
theorem dX6_bears_102 : decode cX6_bears 102 = .ok (.iload 7, 2) := by decide +kernel
theorem dX6_bears_104 : decode cX6_bears 104 = .ok (.iconst 3, 1) := by decide +kernel
theorem dX6_bears_105 : decode cX6_bears 105 = .ok (.if_icmp .ge 78, 3) := by decide +kernel
theorem dX6_bears_108 : decode cX6_bears 108 = .ok (.aload 6, 2) := by decide +kernel
theorem dX6_bears_110 : decode cX6_bears 110 = .ok (.iload 7, 2) := by decide +kernel
theorem dX6_bears_112 : decode cX6_bears 112 = .ok (.iaload, 1) := by decide +kernel
theorem dX6_bears_113 : decode cX6_bears 113 = .ok (.istore 8, 2) := by decide +kernel
theorem dX6_bears_115 : decode cX6_bears 115 = .ok (.iload 7, 2) := by decide +kernel
theorem dX6_bears_117 : decode cX6_bears 117 = .ok (.ifCond .le 17, 3) := by decide +kernel
theorem dX6_bears_120 : decode cX6_bears 120 = .ok (.iload 8, 2) := by decide +kernel
theorem dX6_bears_122 : decode cX6_bears 122 = .ok (.aload 6, 2) := by decide +kernel
theorem dX6_bears_124 : decode cX6_bears 124 = .ok (.iload 7, 2) := by decide +kernel
theorem dX6_bears_126 : decode cX6_bears 126 = .ok (.iconst 1, 1) := by decide +kernel
theorem dX6_bears_127 : decode cX6_bears 127 = .ok (.isub, 1) := by decide +kernel
theorem dX6_bears_128 : decode cX6_bears 128 = .ok (.iaload, 1) := by decide +kernel
theorem dX6_bears_129 : decode cX6_bears 129 = .ok (.invokestatic 69, 3) := by decide +kernel
theorem dX6_bears_132 : decode cX6_bears 132 = .ok (.istore 8, 2) := by decide +kernel
theorem dX6_bears_134 : decode cX6_bears 134 = .ok (.iload 7, 2) := by decide +kernel
theorem dX6_bears_136 : decode cX6_bears 136 = .ok (.iconst 2, 1) := by decide +kernel
theorem dX6_bears_137 : decode cX6_bears 137 = .ok (.if_icmp .ge 17, 3) := by decide +kernel
theorem dX6_bears_140 : decode cX6_bears 140 = .ok (.iload 8, 2) := by decide +kernel
theorem dX6_bears_142 : decode cX6_bears 142 = .ok (.aload 6, 2) := by decide +kernel
theorem dX6_bears_144 : decode cX6_bears 144 = .ok (.iload 7, 2) := by decide +kernel
theorem dX6_bears_146 : decode cX6_bears 146 = .ok (.iconst 1, 1) := by decide +kernel
theorem dX6_bears_147 : decode cX6_bears 147 = .ok (.iadd, 1) := by decide +kernel
theorem dX6_bears_148 : decode cX6_bears 148 = .ok (.iaload, 1) := by decide +kernel
theorem dX6_bears_149 : decode cX6_bears 149 = .ok (.invokestatic 69, 3) := by decide +kernel
theorem dX6_bears_152 : decode cX6_bears 152 = .ok (.istore 8, 2) := by decide +kernel
theorem dX6_bears_154 : decode cX6_bears 154 = .ok (.aload 4, 2) := by decide +kernel
theorem dX6_bears_156 : decode cX6_bears 156 = .ok (.iload 7, 2) := by decide +kernel
theorem dX6_bears_158 : decode cX6_bears 158 = .ok (.iload 8, 2) := by decide +kernel
theorem dX6_bears_160 : decode cX6_bears 160 = .ok (.aload_n 0, 1) := by decide +kernel
theorem dX6_bears_161 : decode cX6_bears 161 = .ok (.iconst 3, 1) := by decide +kernel
theorem dX6_bears_162 : decode cX6_bears 162 = .ok (.iload 5, 2) := by decide +kernel
theorem dX6_bears_164 : decode cX6_bears 164 = .ok (.iload_n 3, 1) := by decide +kernel
theorem dX6_bears_165 : decode cX6_bears 165 = .ok (.iadd, 1) := by decide +kernel
theorem dX6_bears_166 : decode cX6_bears 166 = .ok (.imul, 1) := by decide +kernel
theorem dX6_bears_167 : decode cX6_bears 167 = .ok (.iload 7, 2) := by decide +kernel
theorem dX6_bears_169 : decode cX6_bears 169 = .ok (.iadd, 1) := by decide +kernel
theorem dX6_bears_170 : decode cX6_bears 170 = .ok (.invokevirtual 81, 3) := by decide +kernel
theorem dX6_bears_173 : decode cX6_bears 173 = .ok (.invokestatic 131, 3) := by decide +kernel
theorem dX6_bears_176 : decode cX6_bears 176 = .ok (.iastore, 1) := by decide +kernel
theorem dX6_bears_177 : decode cX6_bears 177 = .ok (.iinc 7 1, 3) := by decide +kernel
theorem dX6_bears_180 : decode cX6_bears 180 = .ok (.goto (-78), 3) := by decide +kernel
theorem dX6_bears_183 : decode cX6_bears 183 = .ok (.iload 5, 2) := by decide +kernel
theorem dX6_bears_185 : decode cX6_bears 185 = .ok (.iload_n 3, 1) := by decide +kernel
theorem dX6_bears_186 : decode cX6_bears 186 = .ok (.iadd, 1) := by decide +kernel
theorem dX6_bears_187 : decode cX6_bears 187 = .ok (.istore 5, 2) := by decide +kernel
theorem dX6_bears_189 : decode cX6_bears 189 = .ok (.goto (-105), 3) := by decide +kernel
theorem dX6_bears_192 : decode cX6_bears 192 = .ok (.aload 4, 2) := by decide +kernel
theorem dX6_bears_194 : decode cX6_bears 194 = .ok (.iconst 0, 1) := by decide +kernel
theorem dX6_bears_195 : decode cX6_bears 195 = .ok (.iaload, 1) := by decide +kernel
theorem dX6_bears_196 : decode cX6_bears 196 = .ok (.aload 4, 2) := by decide +kernel
theorem dX6_bears_198 : decode cX6_bears 198 = .ok (.iconst 1, 1) := by decide +kernel
theorem dX6_bears_199 : decode cX6_bears 199 = .ok (.iaload, 1) := by decide +kernel
theorem dX6_bears_200 : decode cX6_bears 200 = .ok (.aload 4, 2) := by decide +kernel
theorem dX6_bears_202 : decode cX6_bears 202 = .ok (.iconst 2, 1) := by decide +kernel
theorem dX6_bears_203 : decode cX6_bears 203 = .ok (.iaload, 1) := by decide +kernel
theorem dX6_bears_204 : decode cX6_bears 204 = .ok (.invokestatic 69, 3) := by decide +kernel
theorem dX6_bears_207 : decode cX6_bears 207 = .ok (.invokestatic 69, 3) := by decide +kernel
theorem dX6_bears_210 : decode cX6_bears 210 = .ok (.ireturn, 1) := by decide +kernel
set_option maxRecDepth 20000 in
theorem ggX6_arrivesAhead_X5_get : GoodIn wsX6_arrivesAhead wsX5_get := goodIn_r _ [6, 7, 63, 64, 65, 66, 67, 68, 69, 70] (by decide +kernel) (by decide +kernel)
set_option maxRecDepth 20000 in
theorem gX6_arrivesAhead_X5_get : GoodIn wsX6_arrivesAhead (wsV RX6 75 RX5 yX5_get wsX5_get) := goodIn_app (goodIn_of _ (by decide +kernel)) ggX6_arrivesAhead_X5_get
set_option maxRecDepth 20000 in
theorem ggX6_arrivesAhead_X5_pass : GoodIn wsX6_arrivesAhead wsX5_pass := goodIn_r _ [11, 12, 13, 14, 15, 16, 17, 18, 19, 20, 21, 5, 22, 23, 24, 25, 26, 27, 28, 29, 30, 31, 32, 33, 3, 4, 6, 7, 34, 35, 36, 37, 38, 39, 40, 41, 42, 43, 44, 45, 46, 47, 48, 49, 50, 51, 52, 53, 54, 63, 64, 65, 66, 67, 68, 69, 70, 55, 56, 57, 58, 59, 60, 61, 62] (by decide +kernel) (by decide +kernel)
set_option maxRecDepth 20000 in
theorem gX6_arrivesAhead_X5_pass : GoodIn wsX6_arrivesAhead (wsV RX6 122 RX5 yX5_pass wsX5_pass) := goodIn_app (goodIn_of _ (by decide +kernel)) ggX6_arrivesAhead_X5_pass
theorem dX6_arrivesAhead_0 : decode cX6_arrivesAhead 0 = .ok (.iconst 0, 1) := by decide +kernel
theorem dX6_arrivesAhead_1 : decode cX6_arrivesAhead 1 = .ok (.istore_n 2, 1) := by decide +kernel
theorem dX6_arrivesAhead_2 : decode cX6_arrivesAhead 2 = .ok (.iload_n 2, 1) := by decide +kernel
theorem dX6_arrivesAhead_3 : decode cX6_arrivesAhead 3 = .ok (.sipush 150, 3) := by decide +kernel
theorem dX6_arrivesAhead_6 : decode cX6_arrivesAhead 6 = .ok (.if_icmp .gt 55, 3) := by decide +kernel
theorem dX6_arrivesAhead_9 : decode cX6_arrivesAhead 9 = .ok (.aload_n 0, 1) := by decide +kernel
theorem dX6_arrivesAhead_10 : decode cX6_arrivesAhead 10 = .ok (.getfield 31, 3) := by decide +kernel
theorem dX6_arrivesAhead_13 : decode cX6_arrivesAhead 13 = .ok (.iload_n 1, 1) := by decide +kernel
theorem dX6_arrivesAhead_14 : decode cX6_arrivesAhead 14 = .ok (.bipush 6, 2) := by decide +kernel
theorem dX6_arrivesAhead_16 : decode cX6_arrivesAhead 16 = .ok (.invokevirtual 75, 3) := by decide +kernel
theorem dX6_arrivesAhead_19 : decode cX6_arrivesAhead 19 = .ok (.iconst 3, 1) := by decide +kernel
theorem dX6_arrivesAhead_20 : decode cX6_arrivesAhead 20 = .ok (.if_icmp .ne 5, 3) := by decide +kernel
theorem dX6_arrivesAhead_23 : decode cX6_arrivesAhead 23 = .ok (.iconst (-1), 1) := by decide +kernel
theorem dX6_arrivesAhead_24 : decode cX6_arrivesAhead 24 = .ok (.ireturn, 1) := by decide +kernel
theorem dX6_arrivesAhead_25 : decode cX6_arrivesAhead 25 = .ok (.aload_n 0, 1) := by decide +kernel
theorem dX6_arrivesAhead_26 : decode cX6_arrivesAhead 26 = .ok (.getfield 31, 3) := by decide +kernel
theorem dX6_arrivesAhead_29 : decode cX6_arrivesAhead 29 = .ok (.iload_n 1, 1) := by decide +kernel
theorem dX6_arrivesAhead_30 : decode cX6_arrivesAhead 30 = .ok (.iconst 3, 1) := by decide +kernel
theorem dX6_arrivesAhead_31 : decode cX6_arrivesAhead 31 = .ok (.invokevirtual 75, 3) := by decide +kernel
theorem dX6_arrivesAhead_34 : decode cX6_arrivesAhead 34 = .ok (.aload_n 0, 1) := by decide +kernel
theorem dX6_arrivesAhead_35 : decode cX6_arrivesAhead 35 = .ok (.getfield 31, 3) := by decide +kernel
theorem dX6_arrivesAhead_38 : decode cX6_arrivesAhead 38 = .ok (.iload_n 1, 1) := by decide +kernel
theorem dX6_arrivesAhead_39 : decode cX6_arrivesAhead 39 = .ok (.iconst 5, 1) := by decide +kernel
theorem dX6_arrivesAhead_40 : decode cX6_arrivesAhead 40 = .ok (.invokevirtual 75, 3) := by decide +kernel
theorem dX6_arrivesAhead_43 : decode cX6_arrivesAhead 43 = .ok (.if_icmp .ne 5, 3) := by decide +kernel
theorem dX6_arrivesAhead_46 : decode cX6_arrivesAhead 46 = .ok (.iload_n 2, 1) := by decide +kernel
theorem dX6_arrivesAhead_47 : decode cX6_arrivesAhead 47 = .ok (.ireturn, 1) := by decide +kernel
theorem dX6_arrivesAhead_48 : decode cX6_arrivesAhead 48 = .ok (.aload_n 0, 1) := by decide +kernel
theorem dX6_arrivesAhead_49 : decode cX6_arrivesAhead 49 = .ok (.getfield 31, 3) := by decide +kernel
theorem dX6_arrivesAhead_52 : decode cX6_arrivesAhead 52 = .ok (.invokevirtual 122, 3) := by decide +kernel
theorem dX6_arrivesAhead_55 : decode cX6_arrivesAhead 55 = .ok (.iinc 2 1, 3) := by decide +kernel
theorem dX6_arrivesAhead_58 : decode cX6_arrivesAhead 58 = .ok (.goto (-56), 3) := by decide +kernel
theorem dX6_arrivesAhead_61 : decode cX6_arrivesAhead 61 = .ok (.iconst (-1), 1) := by decide +kernel
theorem dX6_arrivesAhead_62 : decode cX6_arrivesAhead 62 = .ok (.ireturn, 1) := by decide +kernel
set_option maxRecDepth 20000 in
theorem ggX6_arrives_X6_isCourier : GoodIn wsX6_arrives wsX6_isCourier := goodIn_r _ [8, 3, 9, 10, 7, 11, 85, 86, 87, 88, 89, 90, 91, 92, 93, 94, 95, 96, 97, 98, 99, 100] (by decide +kernel) (by decide +kernel)
set_option maxRecDepth 20000 in
theorem gX6_arrives_X6_isCourier : GoodIn wsX6_arrives (wsV RX6 96 RX6 yX6_isCourier wsX6_isCourier) := goodIn_app (goodIn_of _ (by decide +kernel)) ggX6_arrives_X6_isCourier
set_option maxRecDepth 20000 in
theorem ggX6_arrives_X6_no : GoodIn wsX6_arrives wsX6_no := goodIn_r _ [15, 1, 85, 86, 87, 88, 89, 90, 91, 92] (by decide +kernel) (by decide +kernel)
set_option maxRecDepth 20000 in
theorem gX6_arrives_X6_no : GoodIn wsX6_arrives (wsV RX6 54 RX6 yX6_no wsX6_no) := goodIn_app (goodIn_of _ (by decide +kernel)) ggX6_arrives_X6_no
set_option maxRecDepth 20000 in
theorem ggX6_arrives_X5_become : GoodIn wsX6_arrives wsX5_become := goodIn_r _ [20, 21, 22, 23, 24, 25, 26, 27, 28, 29, 30, 19, 31, 32, 33, 34, 35, 93, 94, 95, 96, 97, 98, 99, 100] (by decide +kernel) (by decide +kernel)
set_option maxRecDepth 20000 in
theorem gX6_arrives_X5_become : GoodIn wsX6_arrives (wsV RX6 134 RX5 yX5_become wsX5_become) := goodIn_app (goodIn_of _ (by decide +kernel)) ggX6_arrives_X5_become
set_option maxRecDepth 20000 in
theorem ggX6_arrives_X6_arrivesAhead : GoodIn wsX6_arrives wsX6_arrivesAhead := goodIn_r _ [39, 2, 40, 41, 42, 19, 43, 27, 44, 45, 46, 47, 21, 22, 48, 49, 50, 51, 52, 53, 54, 55, 56, 25, 57, 58, 59, 26, 60, 61, 62, 63, 23, 64, 65, 66, 67, 68, 24, 69, 70, 71, 72, 73, 74, 75, 76, 77, 78, 79, 80, 81, 82, 83, 84, 85, 86, 87, 88, 89, 90, 91, 92, 93, 94, 95, 96, 97, 98, 99, 100] (by decide +kernel) (by decide +kernel)
set_option maxRecDepth 20000 in
theorem gX6_arrives_X6_arrivesAhead : GoodIn wsX6_arrives (wsV RX6 138 RX6 yX6_arrivesAhead wsX6_arrivesAhead) := goodIn_app (goodIn_of _ (by decide +kernel)) ggX6_arrives_X6_arrivesAhead
theorem dX6_arrives_0 : decode cX6_arrives 0 = .ok (.aload_n 0, 1) := by decide +kernel
theorem dX6_arrives_1 : decode cX6_arrives 1 = .ok (.iconst 0, 1) := by decide +kernel
theorem dX6_arrives_2 : decode cX6_arrives 2 = .ok (.putfield 43, 3) := by decide +kernel
theorem dX6_arrives_5 : decode cX6_arrives 5 = .ok (.aload_n 0, 1) := by decide +kernel
theorem dX6_arrives_6 : decode cX6_arrives 6 = .ok (.iload_n 1, 1) := by decide +kernel
theorem dX6_arrives_7 : decode cX6_arrives 7 = .ok (.invokevirtual 96, 3) := by decide +kernel
theorem dX6_arrives_10 : decode cX6_arrives 10 = .ok (.ifCond .ne 9, 3) := by decide +kernel
theorem dX6_arrives_13 : decode cX6_arrives 13 = .ok (.aload_n 0, 1) := by decide +kernel
theorem dX6_arrives_14 : decode cX6_arrives 14 = .ok (.iconst 1, 1) := by decide +kernel
theorem dX6_arrives_15 : decode cX6_arrives 15 = .ok (.invokevirtual 54, 3) := by decide +kernel
theorem dX6_arrives_18 : decode cX6_arrives 18 = .ok (.ireturn, 1) := by decide +kernel
theorem dX6_arrives_19 : decode cX6_arrives 19 = .ok (.aload_n 0, 1) := by decide +kernel
theorem dX6_arrives_20 : decode cX6_arrives 20 = .ok (.getfield 31, 3) := by decide +kernel
theorem dX6_arrives_23 : decode cX6_arrives 23 = .ok (.aload_n 0, 1) := by decide +kernel
theorem dX6_arrives_24 : decode cX6_arrives 24 = .ok (.getfield 27, 3) := by decide +kernel
theorem dX6_arrives_27 : decode cX6_arrives 27 = .ok (.invokevirtual 134, 3) := by decide +kernel
theorem dX6_arrives_30 : decode cX6_arrives 30 = .ok (.aload_n 0, 1) := by decide +kernel
theorem dX6_arrives_31 : decode cX6_arrives 31 = .ok (.iload_n 1, 1) := by decide +kernel
theorem dX6_arrives_32 : decode cX6_arrives 32 = .ok (.invokevirtual 138, 3) := by decide +kernel
theorem dX6_arrives_35 : decode cX6_arrives 35 = .ok (.ireturn, 1) := by decide +kernel
set_option maxRecDepth 20000 in
theorem ggX6_best_X6_isCourier : GoodIn wsX6_best wsX6_isCourier := goodIn_r _ [8, 3, 9, 10, 7, 11, 86, 87, 88, 89, 90, 91, 92, 93, 94, 95, 96, 97, 98, 99, 100, 101] (by decide +kernel) (by decide +kernel)
set_option maxRecDepth 20000 in
theorem gX6_best_X6_isCourier : GoodIn wsX6_best (wsV RX6 96 RX6 yX6_isCourier wsX6_isCourier) := goodIn_app (goodIn_of _ (by decide +kernel)) ggX6_best_X6_isCourier
set_option maxRecDepth 20000 in
theorem ggX6_best_X6_no : GoodIn wsX6_best wsX6_no := goodIn_r _ [15, 1, 86, 87, 88, 89, 90, 91, 92, 93] (by decide +kernel) (by decide +kernel)
set_option maxRecDepth 20000 in
theorem gX6_best_X6_no : GoodIn wsX6_best (wsV RX6 54 RX6 yX6_no wsX6_no) := goodIn_app (goodIn_of _ (by decide +kernel)) ggX6_best_X6_no
set_option maxRecDepth 20000 in
theorem ggX6_best_X5_become : GoodIn wsX6_best wsX5_become := goodIn_r _ [20, 21, 22, 23, 24, 25, 26, 27, 28, 29, 30, 19, 31, 32, 33, 34, 35, 94, 95, 96, 97, 98, 99, 100, 101] (by decide +kernel) (by decide +kernel)
set_option maxRecDepth 20000 in
theorem gX6_best_X5_become : GoodIn wsX6_best (wsV RX6 134 RX5 yX5_become wsX5_become) := goodIn_app (goodIn_of _ (by decide +kernel)) ggX6_best_X5_become
set_option maxRecDepth 20000 in
theorem ggX6_best_X5_set : GoodIn wsX6_best wsX5_set := goodIn_r _ [39, 27, 94, 95, 96, 97, 98, 99, 100, 101] (by decide +kernel) (by decide +kernel)
set_option maxRecDepth 20000 in
theorem gX6_best_X5_set : GoodIn wsX6_best (wsV RX6 100 RX5 yX5_set wsX5_set) := goodIn_app (goodIn_of _ (by decide +kernel)) ggX6_best_X5_set
set_option maxRecDepth 20000 in
theorem ggX6_best_X6_arrivesAhead : GoodIn wsX6_best wsX6_arrivesAhead := goodIn_r _ [43, 2, 44, 45, 46, 19, 47, 27, 48, 49, 50, 51, 21, 22, 52, 53, 54, 55, 56, 57, 58, 59, 60, 25, 61, 62, 63, 26, 64, 65, 66, 67, 23, 68, 69, 70, 71, 72, 24, 73, 74, 75, 76, 77, 78, 79, 80, 81, 82, 83, 84, 85, 37, 38, 39, 86, 87, 88, 89, 90, 91, 92, 93, 94, 95, 96, 97, 98, 99, 100, 101] (by decide +kernel) (by decide +kernel)
set_option maxRecDepth 20000 in
theorem gX6_best_X6_arrivesAhead : GoodIn wsX6_best (wsV RX6 138 RX6 yX6_arrivesAhead wsX6_arrivesAhead) := goodIn_app (goodIn_of _ (by decide +kernel)) ggX6_best_X6_arrivesAhead
theorem dX6_best_0 : decode cX6_best 0 = .ok (.aload_n 0, 1) := by decide +kernel
theorem dX6_best_1 : decode cX6_best 1 = .ok (.iconst 0, 1) := by decide +kernel
theorem dX6_best_2 : decode cX6_best 2 = .ok (.putfield 43, 3) := by decide +kernel
theorem dX6_best_5 : decode cX6_best 5 = .ok (.aload_n 0, 1) := by decide +kernel
theorem dX6_best_6 : decode cX6_best 6 = .ok (.iload_n 1, 1) := by decide +kernel
theorem dX6_best_7 : decode cX6_best 7 = .ok (.invokevirtual 96, 3) := by decide +kernel
theorem dX6_best_10 : decode cX6_best 10 = .ok (.ifCond .ne 9, 3) := by decide +kernel
theorem dX6_best_13 : decode cX6_best 13 = .ok (.aload_n 0, 1) := by decide +kernel
theorem dX6_best_14 : decode cX6_best 14 = .ok (.iconst 1, 1) := by decide +kernel
theorem dX6_best_15 : decode cX6_best 15 = .ok (.invokevirtual 54, 3) := by decide +kernel
theorem dX6_best_18 : decode cX6_best 18 = .ok (.ireturn, 1) := by decide +kernel
theorem dX6_best_19 : decode cX6_best 19 = .ok (.bipush 20, 2) := by decide +kernel
theorem dX6_best_21 : decode cX6_best 21 = .ok (.istore_n 2, 1) := by decide +kernel
theorem dX6_best_22 : decode cX6_best 22 = .ok (.iload_n 2, 1) := by decide +kernel
theorem dX6_best_23 : decode cX6_best 23 = .ok (.ifCond .lt 41, 3) := by decide +kernel
theorem dX6_best_26 : decode cX6_best 26 = .ok (.aload_n 0, 1) := by decide +kernel
theorem dX6_best_27 : decode cX6_best 27 = .ok (.getfield 31, 3) := by decide +kernel
theorem dX6_best_30 : decode cX6_best 30 = .ok (.aload_n 0, 1) := by decide +kernel
theorem dX6_best_31 : decode cX6_best 31 = .ok (.getfield 27, 3) := by decide +kernel
theorem dX6_best_34 : decode cX6_best 34 = .ok (.invokevirtual 134, 3) := by decide +kernel
theorem dX6_best_37 : decode cX6_best 37 = .ok (.aload_n 0, 1) := by decide +kernel
theorem dX6_best_38 : decode cX6_best 38 = .ok (.getfield 31, 3) := by decide +kernel
theorem dX6_best_41 : decode cX6_best 41 = .ok (.iload_n 1, 1) := by decide +kernel
theorem dX6_best_42 : decode cX6_best 42 = .ok (.iconst 1, 1) := by decide +kernel
theorem dX6_best_43 : decode cX6_best 43 = .ok (.iload_n 2, 1) := by decide +kernel
theorem dX6_best_44 : decode cX6_best 44 = .ok (.invokevirtual 100, 3) := by decide +kernel
theorem dX6_best_47 : decode cX6_best 47 = .ok (.aload_n 0, 1) := by decide +kernel
theorem dX6_best_48 : decode cX6_best 48 = .ok (.iload_n 1, 1) := by decide +kernel
theorem dX6_best_49 : decode cX6_best 49 = .ok (.invokevirtual 138, 3) := by decide +kernel
theorem dX6_best_52 : decode cX6_best 52 = .ok (.iconst (-1), 1) := by decide +kernel
theorem dX6_best_53 : decode cX6_best 53 = .ok (.if_icmp .eq 5, 3) := by decide +kernel
theorem dX6_best_56 : decode cX6_best 56 = .ok (.iload_n 2, 1) := by decide +kernel
theorem dX6_best_57 : decode cX6_best 57 = .ok (.ireturn, 1) := by decide +kernel
theorem dX6_best_58 : decode cX6_best 58 = .ok (.iinc 2 (-1), 3) := by decide +kernel
theorem dX6_best_61 : decode cX6_best 61 = .ok (.goto (-39), 3) := by decide +kernel
theorem dX6_best_64 : decode cX6_best 64 = .ok (.iconst (-1), 1) := by decide +kernel
theorem dX6_best_65 : decode cX6_best 65 = .ok (.ireturn, 1) := by decide +kernel
set_option maxRecDepth 20000 in
theorem ggX6_thaw_X5_become : GoodIn wsX6_thaw wsX5_become := goodIn_r _ [8, 9, 10, 11, 12, 13, 14, 15, 16, 17, 18, 7, 19, 20, 21, 22, 23, 76, 77, 78, 79, 80, 81, 82, 83] (by decide +kernel) (by decide +kernel)
set_option maxRecDepth 20000 in
theorem gX6_thaw_X5_become : GoodIn wsX6_thaw (wsV RX6 134 RX5 yX5_become wsX5_become) := goodIn_app (goodIn_of _ (by decide +kernel)) ggX6_thaw_X5_become
set_option maxRecDepth 20000 in
theorem ggX6_thaw_X5_pass : GoodIn wsX6_thaw wsX5_pass := goodIn_r _ [27, 9, 10, 28, 29, 30, 31, 32, 33, 34, 35, 7, 36, 13, 37, 38, 39, 14, 40, 41, 42, 43, 11, 44, 45, 46, 47, 15, 48, 49, 50, 51, 12, 52, 53, 54, 55, 56, 57, 58, 59, 60, 61, 62, 63, 64, 65, 66, 67, 76, 77, 78, 79, 80, 81, 82, 83, 68, 69, 70, 71, 72, 73, 74, 75] (by decide +kernel) (by decide +kernel)
set_option maxRecDepth 20000 in
theorem gX6_thaw_X5_pass : GoodIn wsX6_thaw (wsV RX6 122 RX5 yX5_pass wsX5_pass) := goodIn_app (goodIn_of _ (by decide +kernel)) ggX6_thaw_X5_pass
theorem dX6_thaw_0 : decode cX6_thaw 0 = .ok (.aload_n 0, 1) := by decide +kernel
theorem dX6_thaw_1 : decode cX6_thaw 1 = .ok (.iconst 0, 1) := by decide +kernel
theorem dX6_thaw_2 : decode cX6_thaw 2 = .ok (.putfield 43, 3) := by decide +kernel
theorem dX6_thaw_5 : decode cX6_thaw 5 = .ok (.aload_n 0, 1) := by decide +kernel
theorem dX6_thaw_6 : decode cX6_thaw 6 = .ok (.getfield 31, 3) := by decide +kernel
theorem dX6_thaw_9 : decode cX6_thaw 9 = .ok (.aload_n 0, 1) := by decide +kernel
theorem dX6_thaw_10 : decode cX6_thaw 10 = .ok (.getfield 27, 3) := by decide +kernel
theorem dX6_thaw_13 : decode cX6_thaw 13 = .ok (.invokevirtual 134, 3) := by decide +kernel
theorem dX6_thaw_16 : decode cX6_thaw 16 = .ok (.iconst 0, 1) := by decide +kernel
theorem dX6_thaw_17 : decode cX6_thaw 17 = .ok (.istore_n 1, 1) := by decide +kernel
theorem dX6_thaw_18 : decode cX6_thaw 18 = .ok (.iload_n 1, 1) := by decide +kernel
theorem dX6_thaw_19 : decode cX6_thaw 19 = .ok (.sipush 720, 3) := by decide +kernel
theorem dX6_thaw_22 : decode cX6_thaw 22 = .ok (.if_icmp .ge 27, 3) := by decide +kernel
theorem dX6_thaw_25 : decode cX6_thaw 25 = .ok (.aload_n 0, 1) := by decide +kernel
theorem dX6_thaw_26 : decode cX6_thaw 26 = .ok (.getfield 31, 3) := by decide +kernel
theorem dX6_thaw_29 : decode cX6_thaw 29 = .ok (.getfield 110, 3) := by decide +kernel
theorem dX6_thaw_32 : decode cX6_thaw 32 = .ok (.iconst (-1), 1) := by decide +kernel
theorem dX6_thaw_33 : decode cX6_thaw 33 = .ok (.if_icmp .ne 16, 3) := by decide +kernel
theorem dX6_thaw_36 : decode cX6_thaw 36 = .ok (.aload_n 0, 1) := by decide +kernel
theorem dX6_thaw_37 : decode cX6_thaw 37 = .ok (.getfield 31, 3) := by decide +kernel
theorem dX6_thaw_40 : decode cX6_thaw 40 = .ok (.invokevirtual 122, 3) := by decide +kernel
theorem dX6_thaw_43 : decode cX6_thaw 43 = .ok (.iinc 1 1, 3) := by decide +kernel
theorem dX6_thaw_46 : decode cX6_thaw 46 = .ok (.goto (-28), 3) := by decide +kernel
theorem dX6_thaw_49 : decode cX6_thaw 49 = .ok (.aload_n 0, 1) := by decide +kernel
theorem dX6_thaw_50 : decode cX6_thaw 50 = .ok (.getfield 31, 3) := by decide +kernel
theorem dX6_thaw_53 : decode cX6_thaw 53 = .ok (.getfield 110, 3) := by decide +kernel
theorem dX6_thaw_56 : decode cX6_thaw 56 = .ok (.ireturn, 1) := by decide +kernel
theorem dX6_mean_0 : decode cX6_mean 0 = .ok (.aload_n 0, 1) := by decide +kernel
theorem dX6_mean_1 : decode cX6_mean 1 = .ok (.iconst 0, 1) := by decide +kernel
theorem dX6_mean_2 : decode cX6_mean 2 = .ok (.putfield 43, 3) := by decide +kernel
theorem dX6_mean_5 : decode cX6_mean 5 = .ok (.iconst 0, 1) := by decide +kernel
theorem dX6_mean_6 : decode cX6_mean 6 = .ok (.istore_n 1, 1) := by decide +kernel
theorem dX6_mean_7 : decode cX6_mean 7 = .ok (.iconst 0, 1) := by decide +kernel
theorem dX6_mean_8 : decode cX6_mean 8 = .ok (.istore_n 2, 1) := by decide +kernel
theorem dX6_mean_9 : decode cX6_mean 9 = .ok (.iload_n 2, 1) := by decide +kernel
theorem dX6_mean_10 : decode cX6_mean 10 = .ok (.bipush 36, 2) := by decide +kernel
theorem dX6_mean_12 : decode cX6_mean 12 = .ok (.if_icmp .ge 21, 3) := by decide +kernel
theorem dX6_mean_15 : decode cX6_mean 15 = .ok (.iload_n 1, 1) := by decide +kernel
theorem dX6_mean_16 : decode cX6_mean 16 = .ok (.aload_n 0, 1) := by decide +kernel
theorem dX6_mean_17 : decode cX6_mean 17 = .ok (.getfield 27, 3) := by decide +kernel
theorem dX6_mean_20 : decode cX6_mean 20 = .ok (.getfield 40, 3) := by decide +kernel
theorem dX6_mean_23 : decode cX6_mean 23 = .ok (.iload_n 2, 1) := by decide +kernel
theorem dX6_mean_24 : decode cX6_mean 24 = .ok (.iaload, 1) := by decide +kernel
theorem dX6_mean_25 : decode cX6_mean 25 = .ok (.iadd, 1) := by decide +kernel
theorem dX6_mean_26 : decode cX6_mean 26 = .ok (.istore_n 1, 1) := by decide +kernel
theorem dX6_mean_27 : decode cX6_mean 27 = .ok (.iinc 2 1, 3) := by decide +kernel
theorem dX6_mean_30 : decode cX6_mean 30 = .ok (.goto (-21), 3) := by decide +kernel
theorem dX6_mean_33 : decode cX6_mean 33 = .ok (.iload_n 1, 1) := by decide +kernel
theorem dX6_mean_34 : decode cX6_mean 34 = .ok (.i2d, 1) := by decide +kernel
theorem dX6_mean_35 : decode cX6_mean 35 = .ok (.ldc2_w 141, 3) := by decide +kernel
theorem dX6_mean_38 : decode cX6_mean 38 = .ok (.ddiv, 1) := by decide +kernel
theorem dX6_mean_39 : decode cX6_mean 39 = .ok (.dreturn, 1) := by decide +kernel
set_option maxRecDepth 20000 in
theorem ggX6_digest_X6_counted : GoodIn wsX6_digest wsX6_counted := goodIn_r _ [14, 15, 5, 7, 16, 17, 18, 19, 20, 21, 22, 23, 24, 13, 25, 6, 26, 27, 28, 29, 9, 38, 39, 40, 41, 42, 43, 44, 45, 46, 47, 48, 49, 50, 51, 52, 53] (by decide +kernel) (by decide +kernel)
set_option maxRecDepth 20000 in
theorem gX6_digest_X6_counted : GoodIn wsX6_digest (wsV RX6 128 RX6 yX6_counted wsX6_counted) := goodIn_app (goodIn_of _ (by decide +kernel)) ggX6_digest_X6_counted
set_option maxRecDepth 20000 in
theorem ggX6_digest_X6_won : GoodIn wsX6_digest wsX6_won := goodIn_r _ [33, 5, 8, 34, 35, 36, 37, 7, 26, 27, 28, 13, 29, 9, 38, 39, 40, 41, 42, 43, 44, 45, 46, 47, 48, 49, 50, 51, 52, 53] (by decide +kernel) (by decide +kernel)
set_option maxRecDepth 20000 in
theorem gX6_digest_X6_won : GoodIn wsX6_digest (wsV RX6 116 RX6 yX6_won wsX6_won) := goodIn_app (goodIn_of _ (by decide +kernel)) ggX6_digest_X6_won
theorem dX6_digest_0 : decode cX6_digest 0 = .ok (.aload_n 0, 1) := by decide +kernel
theorem dX6_digest_1 : decode cX6_digest 1 = .ok (.iconst 0, 1) := by decide +kernel
theorem dX6_digest_2 : decode cX6_digest 2 = .ok (.putfield 43, 3) := by decide +kernel
theorem dX6_digest_5 : decode cX6_digest 5 = .ok (.ldc2_w 143, 3) := by decide +kernel
theorem dX6_digest_8 : decode cX6_digest 8 = .ok (.lstore_n 1, 1) := by decide +kernel
theorem dX6_digest_9 : decode cX6_digest 9 = .ok (.iconst 0, 1) := by decide +kernel
theorem dX6_digest_10 : decode cX6_digest 10 = .ok (.istore_n 3, 1) := by decide +kernel
theorem dX6_digest_11 : decode cX6_digest 11 = .ok (.iload_n 3, 1) := by decide +kernel
theorem dX6_digest_12 : decode cX6_digest 12 = .ok (.bipush 10, 2) := by decide +kernel
theorem dX6_digest_14 : decode cX6_digest 14 = .ok (.if_icmp .gt 22, 3) := by decide +kernel
theorem dX6_digest_17 : decode cX6_digest 17 = .ok (.lload_n 1, 1) := by decide +kernel
theorem dX6_digest_18 : decode cX6_digest 18 = .ok (.ldc2_w 145, 3) := by decide +kernel
theorem dX6_digest_21 : decode cX6_digest 21 = .ok (.lmul, 1) := by decide +kernel
theorem dX6_digest_22 : decode cX6_digest 22 = .ok (.aload_n 0, 1) := by decide +kernel
theorem dX6_digest_23 : decode cX6_digest 23 = .ok (.iload_n 3, 1) := by decide +kernel
theorem dX6_digest_24 : decode cX6_digest 24 = .ok (.invokevirtual 128, 3) := by decide +kernel
theorem dX6_digest_27 : decode cX6_digest 27 = .ok (.i2l, 1) := by decide +kernel
theorem dX6_digest_28 : decode cX6_digest 28 = .ok (.ladd, 1) := by decide +kernel
theorem dX6_digest_29 : decode cX6_digest 29 = .ok (.lstore_n 1, 1) := by decide +kernel
theorem dX6_digest_30 : decode cX6_digest 30 = .ok (.iinc 3 1, 3) := by decide +kernel
theorem dX6_digest_33 : decode cX6_digest 33 = .ok (.goto (-22), 3) := by decide +kernel
theorem dX6_digest_36 : decode cX6_digest 36 = .ok (.iconst 0, 1) := by decide +kernel
theorem dX6_digest_37 : decode cX6_digest 37 = .ok (.istore_n 3, 1) := by decide +kernel
theorem dX6_digest_38 : decode cX6_digest 38 = .ok (.iload_n 3, 1) := by decide +kernel
theorem dX6_digest_39 : decode cX6_digest 39 = .ok (.bipush 14, 2) := by decide +kernel
theorem dX6_digest_41 : decode cX6_digest 41 = .ok (.if_icmp .ge 23, 3) := by decide +kernel
theorem dX6_digest_44 : decode cX6_digest 44 = .ok (.lload_n 1, 1) := by decide +kernel
theorem dX6_digest_45 : decode cX6_digest 45 = .ok (.ldc2_w 145, 3) := by decide +kernel
theorem dX6_digest_48 : decode cX6_digest 48 = .ok (.lmul, 1) := by decide +kernel
theorem dX6_digest_49 : decode cX6_digest 49 = .ok (.aload_n 0, 1) := by decide +kernel
theorem dX6_digest_50 : decode cX6_digest 50 = .ok (.getfield 9, 3) := by decide +kernel
theorem dX6_digest_53 : decode cX6_digest 53 = .ok (.iload_n 3, 1) := by decide +kernel
theorem dX6_digest_54 : decode cX6_digest 54 = .ok (.iaload, 1) := by decide +kernel
theorem dX6_digest_55 : decode cX6_digest 55 = .ok (.i2l, 1) := by decide +kernel
theorem dX6_digest_56 : decode cX6_digest 56 = .ok (.ladd, 1) := by decide +kernel
theorem dX6_digest_57 : decode cX6_digest 57 = .ok (.lstore_n 1, 1) := by decide +kernel
theorem dX6_digest_58 : decode cX6_digest 58 = .ok (.iinc 3 1, 3) := by decide +kernel
theorem dX6_digest_61 : decode cX6_digest 61 = .ok (.goto (-23), 3) := by decide +kernel
theorem dX6_digest_64 : decode cX6_digest 64 = .ok (.iconst 0, 1) := by decide +kernel
theorem dX6_digest_65 : decode cX6_digest 65 = .ok (.istore_n 3, 1) := by decide +kernel
theorem dX6_digest_66 : decode cX6_digest 66 = .ok (.iload_n 3, 1) := by decide +kernel
theorem dX6_digest_67 : decode cX6_digest 67 = .ok (.bipush 36, 2) := by decide +kernel
theorem dX6_digest_69 : decode cX6_digest 69 = .ok (.if_icmp .ge 41, 3) := by decide +kernel
theorem dX6_digest_72 : decode cX6_digest 72 = .ok (.lload_n 1, 1) := by decide +kernel
theorem dX6_digest_73 : decode cX6_digest 73 = .ok (.ldc2_w 145, 3) := by decide +kernel
theorem dX6_digest_76 : decode cX6_digest 76 = .ok (.lmul, 1) := by decide +kernel
theorem dX6_digest_77 : decode cX6_digest 77 = .ok (.aload_n 0, 1) := by decide +kernel
theorem dX6_digest_78 : decode cX6_digest 78 = .ok (.getfield 27, 3) := by decide +kernel
theorem dX6_digest_81 : decode cX6_digest 81 = .ok (.getfield 40, 3) := by decide +kernel
theorem dX6_digest_84 : decode cX6_digest 84 = .ok (.iload_n 3, 1) := by decide +kernel
theorem dX6_digest_85 : decode cX6_digest 85 = .ok (.iaload, 1) := by decide +kernel
theorem dX6_digest_86 : decode cX6_digest 86 = .ok (.i2l, 1) := by decide +kernel
theorem dX6_digest_87 : decode cX6_digest 87 = .ok (.ladd, 1) := by decide +kernel
theorem dX6_digest_88 : decode cX6_digest 88 = .ok (.ldc2_w 145, 3) := by decide +kernel
theorem dX6_digest_91 : decode cX6_digest 91 = .ok (.lmul, 1) := by decide +kernel
theorem dX6_digest_92 : decode cX6_digest 92 = .ok (.aload_n 0, 1) := by decide +kernel
theorem dX6_digest_93 : decode cX6_digest 93 = .ok (.getfield 27, 3) := by decide +kernel
theorem dX6_digest_96 : decode cX6_digest 96 = .ok (.getfield 78, 3) := by decide +kernel
theorem dX6_digest_99 : decode cX6_digest 99 = .ok (.iload_n 3, 1) := by decide +kernel
theorem dX6_digest_100 : decode cX6_digest 100 = .ok (.iaload, 1) := by decide +kernel
theorem dX6_digest_101 : decode cX6_digest 101 = .ok (.i2l, 1) := by decide +kernel
theorem dX6_digest_102 : decode cX6_digest 102 = .ok (.ladd, 1) := by decide +kernel
theorem dX6_digest_103 : decode cX6_digest 103 = .ok (.lstore_n 1, 1) := by decide +kernel
theorem dX6_digest_104 : decode cX6_digest 104 = .ok (.iinc 3 1, 3) := by decide +kernel
theorem dX6_digest_107 : decode cX6_digest 107 = .ok (.goto (-41), 3) := by decide +kernel
theorem dX6_digest_110 : decode cX6_digest 110 = .ok (.iconst 0, 1) := by decide +kernel
theorem dX6_digest_111 : decode cX6_digest 111 = .ok (.istore_n 3, 1) := by decide +kernel
theorem dX6_digest_112 : decode cX6_digest 112 = .ok (.iload_n 3, 1) := by decide +kernel
theorem dX6_digest_113 : decode cX6_digest 113 = .ok (.bipush 12, 2) := by decide +kernel
theorem dX6_digest_115 : decode cX6_digest 115 = .ok (.if_icmp .ge 23, 3) := by decide +kernel
theorem dX6_digest_118 : decode cX6_digest 118 = .ok (.lload_n 1, 1) := by decide +kernel
theorem dX6_digest_119 : decode cX6_digest 119 = .ok (.ldc2_w 145, 3) := by decide +kernel
theorem dX6_digest_122 : decode cX6_digest 122 = .ok (.lmul, 1) := by decide +kernel
theorem dX6_digest_123 : decode cX6_digest 123 = .ok (.aload_n 0, 1) := by decide +kernel
theorem dX6_digest_124 : decode cX6_digest 124 = .ok (.getfield 13, 3) := by decide +kernel
theorem dX6_digest_127 : decode cX6_digest 127 = .ok (.iload_n 3, 1) := by decide +kernel
theorem dX6_digest_128 : decode cX6_digest 128 = .ok (.iaload, 1) := by decide +kernel
theorem dX6_digest_129 : decode cX6_digest 129 = .ok (.i2l, 1) := by decide +kernel
theorem dX6_digest_130 : decode cX6_digest 130 = .ok (.ladd, 1) := by decide +kernel
theorem dX6_digest_131 : decode cX6_digest 131 = .ok (.lstore_n 1, 1) := by decide +kernel
theorem dX6_digest_132 : decode cX6_digest 132 = .ok (.iinc 3 1, 3) := by decide +kernel
theorem dX6_digest_135 : decode cX6_digest 135 = .ok (.goto (-23), 3) := by decide +kernel
theorem dX6_digest_138 : decode cX6_digest 138 = .ok (.iconst 0, 1) := by decide +kernel
theorem dX6_digest_139 : decode cX6_digest 139 = .ok (.istore_n 3, 1) := by decide +kernel
theorem dX6_digest_140 : decode cX6_digest 140 = .ok (.iload_n 3, 1) := by decide +kernel
theorem dX6_digest_141 : decode cX6_digest 141 = .ok (.bipush 9, 2) := by decide +kernel
theorem dX6_digest_143 : decode cX6_digest 143 = .ok (.aload_n 0, 1) := by decide +kernel
theorem dX6_digest_144 : decode cX6_digest 144 = .ok (.getfield 27, 3) := by decide +kernel
theorem dX6_digest_147 : decode cX6_digest 147 = .ok (.getfield 51, 3) := by decide +kernel
theorem dX6_digest_150 : decode cX6_digest 150 = .ok (.imul, 1) := by decide +kernel
theorem dX6_digest_151 : decode cX6_digest 151 = .ok (.if_icmp .ge 26, 3) := by decide +kernel
theorem dX6_digest_154 : decode cX6_digest 154 = .ok (.lload_n 1, 1) := by decide +kernel
theorem dX6_digest_155 : decode cX6_digest 155 = .ok (.ldc2_w 145, 3) := by decide +kernel
theorem dX6_digest_158 : decode cX6_digest 158 = .ok (.lmul, 1) := by decide +kernel
theorem dX6_digest_159 : decode cX6_digest 159 = .ok (.aload_n 0, 1) := by decide +kernel
theorem dX6_digest_160 : decode cX6_digest 160 = .ok (.getfield 27, 3) := by decide +kernel
theorem dX6_digest_163 : decode cX6_digest 163 = .ok (.getfield 87, 3) := by decide +kernel
theorem dX6_digest_166 : decode cX6_digest 166 = .ok (.iload_n 3, 1) := by decide +kernel
theorem dX6_digest_167 : decode cX6_digest 167 = .ok (.iaload, 1) := by decide +kernel
theorem dX6_digest_168 : decode cX6_digest 168 = .ok (.i2l, 1) := by decide +kernel
theorem dX6_digest_169 : decode cX6_digest 169 = .ok (.ladd, 1) := by decide +kernel
theorem dX6_digest_170 : decode cX6_digest 170 = .ok (.lstore_n 1, 1) := by decide +kernel
theorem dX6_digest_171 : decode cX6_digest 171 = .ok (.iinc 3 1, 3) := by decide +kernel
theorem dX6_digest_174 : decode cX6_digest 174 = .ok (.goto (-34), 3) := by decide +kernel
theorem dX6_digest_177 : decode cX6_digest 177 = .ok (.iconst 0, 1) := by decide +kernel
theorem dX6_digest_178 : decode cX6_digest 178 = .ok (.istore_n 3, 1) := by decide +kernel
theorem dX6_digest_179 : decode cX6_digest 179 = .ok (.iload_n 3, 1) := by decide +kernel
theorem dX6_digest_180 : decode cX6_digest 180 = .ok (.aload_n 0, 1) := by decide +kernel
theorem dX6_digest_181 : decode cX6_digest 181 = .ok (.getfield 107, 3) := by decide +kernel
theorem dX6_digest_184 : decode cX6_digest 184 = .ok (.if_icmp .ge 46, 3) := by decide +kernel
theorem dX6_digest_187 : decode cX6_digest 187 = .ok (.lload_n 1, 1) := by decide +kernel
theorem dX6_digest_188 : decode cX6_digest 188 = .ok (.ldc2_w 145, 3) := by decide +kernel
theorem dX6_digest_191 : decode cX6_digest 191 = .ok (.lmul, 1) := by decide +kernel
theorem dX6_digest_192 : decode cX6_digest 192 = .ok (.aload_n 0, 1) := by decide +kernel
theorem dX6_digest_193 : decode cX6_digest 193 = .ok (.getfield 16, 3) := by decide +kernel
theorem dX6_digest_196 : decode cX6_digest 196 = .ok (.iload_n 3, 1) := by decide +kernel
theorem dX6_digest_197 : decode cX6_digest 197 = .ok (.iaload, 1) := by decide +kernel
theorem dX6_digest_198 : decode cX6_digest 198 = .ok (.i2l, 1) := by decide +kernel
theorem dX6_digest_199 : decode cX6_digest 199 = .ok (.ladd, 1) := by decide +kernel
theorem dX6_digest_200 : decode cX6_digest 200 = .ok (.ldc2_w 145, 3) := by decide +kernel
theorem dX6_digest_203 : decode cX6_digest 203 = .ok (.lmul, 1) := by decide +kernel
theorem dX6_digest_204 : decode cX6_digest 204 = .ok (.aload_n 0, 1) := by decide +kernel
theorem dX6_digest_205 : decode cX6_digest 205 = .ok (.getfield 19, 3) := by decide +kernel
theorem dX6_digest_208 : decode cX6_digest 208 = .ok (.iload_n 3, 1) := by decide +kernel
theorem dX6_digest_209 : decode cX6_digest 209 = .ok (.iaload, 1) := by decide +kernel
theorem dX6_digest_210 : decode cX6_digest 210 = .ok (.i2l, 1) := by decide +kernel
theorem dX6_digest_211 : decode cX6_digest 211 = .ok (.ladd, 1) := by decide +kernel
theorem dX6_digest_212 : decode cX6_digest 212 = .ok (.ldc2_w 145, 3) := by decide +kernel
theorem dX6_digest_215 : decode cX6_digest 215 = .ok (.lmul, 1) := by decide +kernel
theorem dX6_digest_216 : decode cX6_digest 216 = .ok (.aload_n 0, 1) := by decide +kernel
theorem dX6_digest_217 : decode cX6_digest 217 = .ok (.iload_n 3, 1) := by decide +kernel
theorem dX6_digest_218 : decode cX6_digest 218 = .ok (.invokevirtual 116, 3) := by decide +kernel
theorem dX6_digest_221 : decode cX6_digest 221 = .ok (.i2l, 1) := by decide +kernel
theorem dX6_digest_222 : decode cX6_digest 222 = .ok (.ladd, 1) := by decide +kernel
theorem dX6_digest_223 : decode cX6_digest 223 = .ok (.lstore_n 1, 1) := by decide +kernel
theorem dX6_digest_224 : decode cX6_digest 224 = .ok (.iinc 3 1, 3) := by decide +kernel
theorem dX6_digest_227 : decode cX6_digest 227 = .ok (.goto (-48), 3) := by decide +kernel
theorem dX6_digest_230 : decode cX6_digest 230 = .ok (.lload_n 1, 1) := by decide +kernel
theorem dX6_digest_231 : decode cX6_digest 231 = .ok (.lreturn, 1) := by decide +kernel
theorem dJ9_floorMod_7cf53_0 : decode cJ9_floorMod_7cf53 0 = .ok (.iload_n 0, 1) := by decide +kernel
theorem dJ9_floorMod_7cf53_1 : decode cJ9_floorMod_7cf53 1 = .ok (.iload_n 1, 1) := by decide +kernel
theorem dJ9_floorMod_7cf53_2 : decode cJ9_floorMod_7cf53 2 = .ok (.irem, 1) := by decide +kernel
theorem dJ9_floorMod_7cf53_3 : decode cJ9_floorMod_7cf53 3 = .ok (.istore_n 2, 1) := by decide +kernel
theorem dJ9_floorMod_7cf53_4 : decode cJ9_floorMod_7cf53 4 = .ok (.iload_n 0, 1) := by decide +kernel
theorem dJ9_floorMod_7cf53_5 : decode cJ9_floorMod_7cf53 5 = .ok (.iload_n 1, 1) := by decide +kernel
theorem dJ9_floorMod_7cf53_6 : decode cJ9_floorMod_7cf53 6 = .ok (.ixor, 1) := by decide +kernel
theorem dJ9_floorMod_7cf53_7 : decode cJ9_floorMod_7cf53 7 = .ok (.ifCond .ge 11, 3) := by decide +kernel
theorem dJ9_floorMod_7cf53_10 : decode cJ9_floorMod_7cf53 10 = .ok (.iload_n 2, 1) := by decide +kernel
theorem dJ9_floorMod_7cf53_11 : decode cJ9_floorMod_7cf53 11 = .ok (.ifCond .eq 7, 3) := by decide +kernel
theorem dJ9_floorMod_7cf53_14 : decode cJ9_floorMod_7cf53 14 = .ok (.iload_n 2, 1) := by decide +kernel
theorem dJ9_floorMod_7cf53_15 : decode cJ9_floorMod_7cf53 15 = .ok (.iload_n 1, 1) := by decide +kernel
theorem dJ9_floorMod_7cf53_16 : decode cJ9_floorMod_7cf53 16 = .ok (.iadd, 1) := by decide +kernel
theorem dJ9_floorMod_7cf53_17 : decode cJ9_floorMod_7cf53 17 = .ok (.ireturn, 1) := by decide +kernel
theorem dJ9_floorMod_7cf53_18 : decode cJ9_floorMod_7cf53 18 = .ok (.iload_n 2, 1) := by decide +kernel
theorem dJ9_floorMod_7cf53_19 : decode cJ9_floorMod_7cf53 19 = .ok (.ireturn, 1) := by decide +kernel
theorem dJ9_abs_0f7a4_0 : decode cJ9_abs_0f7a4 0 = .ok (.iload_n 0, 1) := by decide +kernel
theorem dJ9_abs_0f7a4_1 : decode cJ9_abs_0f7a4 1 = .ok (.ifCond .ge 8, 3) := by decide +kernel
theorem dJ9_abs_0f7a4_4 : decode cJ9_abs_0f7a4 4 = .ok (.iload_n 0, 1) := by decide +kernel
theorem dJ9_abs_0f7a4_5 : decode cJ9_abs_0f7a4 5 = .ok (.ineg, 1) := by decide +kernel
theorem dJ9_abs_0f7a4_6 : decode cJ9_abs_0f7a4 6 = .ok (.goto 4, 3) := by decide +kernel
theorem dJ9_abs_0f7a4_9 : decode cJ9_abs_0f7a4 9 = .ok (.iload_n 0, 1) := by decide +kernel
theorem dJ9_abs_0f7a4_10 : decode cJ9_abs_0f7a4 10 = .ok (.ireturn, 1) := by decide +kernel
theorem dJ9_max_7cf53_0 : decode cJ9_max_7cf53 0 = .ok (.iload_n 0, 1) := by decide +kernel
theorem dJ9_max_7cf53_1 : decode cJ9_max_7cf53 1 = .ok (.iload_n 1, 1) := by decide +kernel
theorem dJ9_max_7cf53_2 : decode cJ9_max_7cf53 2 = .ok (.if_icmp .lt 7, 3) := by decide +kernel
theorem dJ9_max_7cf53_5 : decode cJ9_max_7cf53 5 = .ok (.iload_n 0, 1) := by decide +kernel
theorem dJ9_max_7cf53_6 : decode cJ9_max_7cf53 6 = .ok (.goto 4, 3) := by decide +kernel
theorem dJ9_max_7cf53_9 : decode cJ9_max_7cf53 9 = .ok (.iload_n 1, 1) := by decide +kernel
theorem dJ9_max_7cf53_10 : decode cJ9_max_7cf53 10 = .ok (.ireturn, 1) := by decide +kernel
theorem dJ9_min_7cf53_0 : decode cJ9_min_7cf53 0 = .ok (.iload_n 0, 1) := by decide +kernel
theorem dJ9_min_7cf53_1 : decode cJ9_min_7cf53 1 = .ok (.iload_n 1, 1) := by decide +kernel
theorem dJ9_min_7cf53_2 : decode cJ9_min_7cf53 2 = .ok (.if_icmp .gt 7, 3) := by decide +kernel
theorem dJ9_min_7cf53_5 : decode cJ9_min_7cf53 5 = .ok (.iload_n 0, 1) := by decide +kernel
theorem dJ9_min_7cf53_6 : decode cJ9_min_7cf53 6 = .ok (.goto 4, 3) := by decide +kernel
theorem dJ9_min_7cf53_9 : decode cJ9_min_7cf53 9 = .ok (.iload_n 1, 1) := by decide +kernel
theorem dJ9_min_7cf53_10 : decode cJ9_min_7cf53 10 = .ok (.ireturn, 1) := by decide +kernel
theorem dJ7_fill_53178_0 : decode cJ7_fill_53178 0 = .ok (.iconst 0, 1) := by decide +kernel
theorem dJ7_fill_53178_1 : decode cJ7_fill_53178 1 = .ok (.istore_n 2, 1) := by decide +kernel
theorem dJ7_fill_53178_2 : decode cJ7_fill_53178 2 = .ok (.aload_n 0, 1) := by decide +kernel
theorem dJ7_fill_53178_3 : decode cJ7_fill_53178 3 = .ok (.arraylength, 1) := by decide +kernel
theorem dJ7_fill_53178_4 : decode cJ7_fill_53178 4 = .ok (.istore_n 3, 1) := by decide +kernel
theorem dJ7_fill_53178_5 : decode cJ7_fill_53178 5 = .ok (.iload_n 2, 1) := by decide +kernel
theorem dJ7_fill_53178_6 : decode cJ7_fill_53178 6 = .ok (.iload_n 3, 1) := by decide +kernel
theorem dJ7_fill_53178_7 : decode cJ7_fill_53178 7 = .ok (.if_icmp .ge 13, 3) := by decide +kernel
theorem dJ7_fill_53178_10 : decode cJ7_fill_53178 10 = .ok (.aload_n 0, 1) := by decide +kernel
theorem dJ7_fill_53178_11 : decode cJ7_fill_53178 11 = .ok (.iload_n 2, 1) := by decide +kernel
theorem dJ7_fill_53178_12 : decode cJ7_fill_53178 12 = .ok (.iload_n 1, 1) := by decide +kernel
theorem dJ7_fill_53178_13 : decode cJ7_fill_53178 13 = .ok (.iastore, 1) := by decide +kernel
theorem dJ7_fill_53178_14 : decode cJ7_fill_53178 14 = .ok (.iinc 2 1, 3) := by decide +kernel
theorem dJ7_fill_53178_17 : decode cJ7_fill_53178 17 = .ok (.goto (-12), 3) := by decide +kernel
theorem dJ7_fill_53178_20 : decode cJ7_fill_53178 20 = .ok (.return_, 1) := by decide +kernel
set_option maxRecDepth 20000 in
theorem ggL_setWarm_X4_setWarm : GoodIn wsL_setWarm wsX4_setWarm := goodIn_ca (goodIn_ca (goodIn_r _ [7, 8, 9, 10, 11, 12, 13, 14, 6, 15, 16, 17, 18, 19, 20, 21, 22, 23, 24] (by decide +kernel) (by decide +kernel)) (goodIn_sub (fun _ h => List.mem_cons_of_mem _ (List.mem_append_left _ (List.mem_append_right _ h))) (by decide +kernel))) (goodIn_sub (fun _ h => List.mem_cons_of_mem _ (List.mem_append_right _ h)) (by decide +kernel))
set_option maxRecDepth 20000 in
theorem gL_setWarm_X4_setWarm : GoodIn wsL_setWarm (wsV RL 7 RX4 yX4_setWarm wsX4_setWarm) := goodIn_app (goodIn_of _ (by decide +kernel)) ggL_setWarm_X4_setWarm
theorem dL_setWarm_0 : decode cL_setWarm 0 = .ok (.aload_n 3, 1) := by decide +kernel
theorem dL_setWarm_1 : decode cL_setWarm 1 = .ok (.iconst 0, 1) := by decide +kernel
theorem dL_setWarm_2 : decode cL_setWarm 2 = .ok (.aload_n 0, 1) := by decide +kernel
theorem dL_setWarm_3 : decode cL_setWarm 3 = .ok (.iload_n 1, 1) := by decide +kernel
theorem dL_setWarm_4 : decode cL_setWarm 4 = .ok (.iload_n 2, 1) := by decide +kernel
theorem dL_setWarm_5 : decode cL_setWarm 5 = .ok (.invokevirtual 7, 3) := by decide +kernel
theorem dL_setWarm_8 : decode cL_setWarm 8 = .ok (.i2l, 1) := by decide +kernel
theorem dL_setWarm_9 : decode cL_setWarm 9 = .ok (.lastore, 1) := by decide +kernel
theorem dL_setWarm_10 : decode cL_setWarm 10 = .ok (.goto 11, 3) := by decide +kernel
theorem dL_setWarm_13 : decode cL_setWarm 13 = .ok (.astore 4, 2) := by decide +kernel
theorem dL_setWarm_15 : decode cL_setWarm 15 = .ok (.iconst 1, 1) := by decide +kernel
theorem dL_setWarm_16 : decode cL_setWarm 16 = .ok (.ireturn, 1) := by decide +kernel
theorem dL_setWarm_17 : decode cL_setWarm 17 = .ok (.astore 4, 2) := by decide +kernel
theorem dL_setWarm_19 : decode cL_setWarm 19 = .ok (.iconst 2, 1) := by decide +kernel
theorem dL_setWarm_20 : decode cL_setWarm 20 = .ok (.ireturn, 1) := by decide +kernel
theorem dL_setWarm_21 : decode cL_setWarm 21 = .ok (.iconst 0, 1) := by decide +kernel
theorem dL_setWarm_22 : decode cL_setWarm 22 = .ok (.ireturn, 1) := by decide +kernel
set_option maxRecDepth 20000 in
theorem ggL_setIce_X4_setIce : GoodIn wsL_setIce wsX4_setIce := goodIn_ca (goodIn_ca (goodIn_r _ [7, 8, 9, 10, 11, 12, 13, 14, 6, 15, 16, 17, 18, 19, 20, 21, 22, 23, 24, 25, 26, 27, 28, 29, 30, 31, 32, 33, 34, 35] (by decide +kernel) (by decide +kernel)) (goodIn_sub (fun _ h => List.mem_cons_of_mem _ (List.mem_append_left _ (List.mem_append_right _ h))) (by decide +kernel))) (goodIn_sub (fun _ h => List.mem_cons_of_mem _ (List.mem_append_right _ h)) (by decide +kernel))
set_option maxRecDepth 20000 in
theorem gL_setIce_X4_setIce : GoodIn wsL_setIce (wsV RL 17 RX4 yX4_setIce wsX4_setIce) := goodIn_app (goodIn_of _ (by decide +kernel)) ggL_setIce_X4_setIce
theorem dL_setIce_0 : decode cL_setIce 0 = .ok (.aload 4, 2) := by decide +kernel
theorem dL_setIce_2 : decode cL_setIce 2 = .ok (.iconst 0, 1) := by decide +kernel
theorem dL_setIce_3 : decode cL_setIce 3 = .ok (.aload_n 0, 1) := by decide +kernel
theorem dL_setIce_4 : decode cL_setIce 4 = .ok (.iload_n 1, 1) := by decide +kernel
theorem dL_setIce_5 : decode cL_setIce 5 = .ok (.iload_n 2, 1) := by decide +kernel
theorem dL_setIce_6 : decode cL_setIce 6 = .ok (.iload_n 3, 1) := by decide +kernel
theorem dL_setIce_7 : decode cL_setIce 7 = .ok (.invokevirtual 17, 3) := by decide +kernel
theorem dL_setIce_10 : decode cL_setIce 10 = .ok (.i2l, 1) := by decide +kernel
theorem dL_setIce_11 : decode cL_setIce 11 = .ok (.lastore, 1) := by decide +kernel
theorem dL_setIce_12 : decode cL_setIce 12 = .ok (.goto 11, 3) := by decide +kernel
theorem dL_setIce_15 : decode cL_setIce 15 = .ok (.astore 5, 2) := by decide +kernel
theorem dL_setIce_17 : decode cL_setIce 17 = .ok (.iconst 1, 1) := by decide +kernel
theorem dL_setIce_18 : decode cL_setIce 18 = .ok (.ireturn, 1) := by decide +kernel
theorem dL_setIce_19 : decode cL_setIce 19 = .ok (.astore 5, 2) := by decide +kernel
theorem dL_setIce_21 : decode cL_setIce 21 = .ok (.iconst 2, 1) := by decide +kernel
theorem dL_setIce_22 : decode cL_setIce 22 = .ok (.ireturn, 1) := by decide +kernel
theorem dL_setIce_23 : decode cL_setIce 23 = .ok (.iconst 0, 1) := by decide +kernel
theorem dL_setIce_24 : decode cL_setIce 24 = .ok (.ireturn, 1) := by decide +kernel
set_option maxRecDepth 20000 in
theorem ggL_build_X4_build : GoodIn wsL_build wsX4_build := goodIn_ca (goodIn_r _ [6, 7, 8, 9, 10, 11, 5, 12, 13, 14, 15, 16, 17, 18, 19, 20, 21, 22, 23, 24, 25, 26, 27, 28, 29] (by decide +kernel) (by decide +kernel)) (goodIn_sub (fun _ h => List.mem_cons_of_mem _ (List.mem_append_right _ h)) (by decide +kernel))
set_option maxRecDepth 20000 in
theorem gL_build_X4_build : GoodIn wsL_build (wsV RL 21 RX4 yX4_build wsX4_build) := goodIn_app (goodIn_of _ (by decide +kernel)) ggL_build_X4_build
theorem dL_build_0 : decode cL_build 0 = .ok (.aload_n 2, 1) := by decide +kernel
theorem dL_build_1 : decode cL_build 1 = .ok (.iconst 0, 1) := by decide +kernel
theorem dL_build_2 : decode cL_build 2 = .ok (.aload_n 0, 1) := by decide +kernel
theorem dL_build_3 : decode cL_build 3 = .ok (.iload_n 1, 1) := by decide +kernel
theorem dL_build_4 : decode cL_build 4 = .ok (.invokevirtual 21, 3) := by decide +kernel
theorem dL_build_7 : decode cL_build 7 = .ok (.i2l, 1) := by decide +kernel
theorem dL_build_8 : decode cL_build 8 = .ok (.lastore, 1) := by decide +kernel
theorem dL_build_9 : decode cL_build 9 = .ok (.goto 6, 3) := by decide +kernel
theorem dL_build_12 : decode cL_build 12 = .ok (.astore_n 3, 1) := by decide +kernel
theorem dL_build_13 : decode cL_build 13 = .ok (.iconst 1, 1) := by decide +kernel
theorem dL_build_14 : decode cL_build 14 = .ok (.ireturn, 1) := by decide +kernel
theorem dL_build_15 : decode cL_build 15 = .ok (.iconst 0, 1) := by decide +kernel
theorem dL_build_16 : decode cL_build 16 = .ok (.ireturn, 1) := by decide +kernel
set_option maxRecDepth 20000 in
theorem ggL_place_X4_place : GoodIn wsL_place wsX4_place := goodIn_ca (goodIn_r _ [6, 7, 8, 9, 10, 11, 5, 12, 13, 14, 15, 16, 17, 18, 19, 20, 21, 22, 23, 24, 25, 26, 27, 28, 29, 30, 31, 32, 33, 34, 35, 36, 37, 38, 39, 40, 41, 42, 43, 44, 45, 46, 47, 48, 49, 50, 51, 52, 53, 54, 55, 56, 57, 58, 59, 60, 61, 62, 63, 64] (by decide +kernel) (by decide +kernel)) (goodIn_sub (fun _ h => List.mem_cons_of_mem _ (List.mem_append_right _ h)) (by decide +kernel))
set_option maxRecDepth 20000 in
theorem gL_place_X4_place : GoodIn wsL_place (wsV RL 25 RX4 yX4_place wsX4_place) := goodIn_app (goodIn_of _ (by decide +kernel)) ggL_place_X4_place
theorem dL_place_0 : decode cL_place 0 = .ok (.aload 4, 2) := by decide +kernel
theorem dL_place_2 : decode cL_place 2 = .ok (.iconst 0, 1) := by decide +kernel
theorem dL_place_3 : decode cL_place 3 = .ok (.aload_n 0, 1) := by decide +kernel
theorem dL_place_4 : decode cL_place 4 = .ok (.iload_n 1, 1) := by decide +kernel
theorem dL_place_5 : decode cL_place 5 = .ok (.iload_n 2, 1) := by decide +kernel
theorem dL_place_6 : decode cL_place 6 = .ok (.iload_n 3, 1) := by decide +kernel
theorem dL_place_7 : decode cL_place 7 = .ok (.invokevirtual 25, 3) := by decide +kernel
theorem dL_place_10 : decode cL_place 10 = .ok (.i2l, 1) := by decide +kernel
theorem dL_place_11 : decode cL_place 11 = .ok (.lastore, 1) := by decide +kernel
theorem dL_place_12 : decode cL_place 12 = .ok (.goto 7, 3) := by decide +kernel
theorem dL_place_15 : decode cL_place 15 = .ok (.astore 5, 2) := by decide +kernel
theorem dL_place_17 : decode cL_place 17 = .ok (.iconst 1, 1) := by decide +kernel
theorem dL_place_18 : decode cL_place 18 = .ok (.ireturn, 1) := by decide +kernel
theorem dL_place_19 : decode cL_place 19 = .ok (.iconst 0, 1) := by decide +kernel
theorem dL_place_20 : decode cL_place 20 = .ok (.ireturn, 1) := by decide +kernel
set_option maxRecDepth 20000 in
theorem ggL_come_X4_come : GoodIn wsL_come wsX4_come := goodIn_ca (goodIn_ca (goodIn_ca (goodIn_r _ [8, 9, 10, 11, 12, 13, 14, 15, 16, 17, 7, 18, 19, 20, 21, 22, 23, 24, 25, 26, 27, 28, 29, 30, 31, 32, 33, 34, 35, 36, 37, 38, 39, 40, 41, 42, 43, 44, 45, 46, 47, 48, 49, 50, 51, 52, 53, 54, 55, 56, 57, 58, 59, 60, 61, 62, 63, 64, 65, 66, 67, 68, 69, 70, 71] (by decide +kernel) (by decide +kernel)) (goodIn_sub (fun _ h => List.mem_cons_of_mem _ (List.mem_append_left _ (List.mem_append_left _ (List.mem_append_right _ h)))) (by decide +kernel))) (goodIn_sub (fun _ h => List.mem_cons_of_mem _ (List.mem_append_left _ (List.mem_append_right _ h))) (by decide +kernel))) (goodIn_sub (fun _ h => List.mem_cons_of_mem _ (List.mem_append_right _ h)) (by decide +kernel))
set_option maxRecDepth 20000 in
theorem gL_come_X4_come : GoodIn wsL_come (wsV RL 28 RX4 yX4_come wsX4_come) := goodIn_app (goodIn_of _ (by decide +kernel)) ggL_come_X4_come
theorem dL_come_0 : decode cL_come 0 = .ok (.aload 6, 2) := by decide +kernel
theorem dL_come_2 : decode cL_come 2 = .ok (.iconst 0, 1) := by decide +kernel
theorem dL_come_3 : decode cL_come 3 = .ok (.aload_n 0, 1) := by decide +kernel
theorem dL_come_4 : decode cL_come 4 = .ok (.iload_n 1, 1) := by decide +kernel
theorem dL_come_5 : decode cL_come 5 = .ok (.iload_n 2, 1) := by decide +kernel
theorem dL_come_6 : decode cL_come 6 = .ok (.iload_n 3, 1) := by decide +kernel
theorem dL_come_7 : decode cL_come 7 = .ok (.iload 4, 2) := by decide +kernel
theorem dL_come_9 : decode cL_come 9 = .ok (.iload 5, 2) := by decide +kernel
theorem dL_come_11 : decode cL_come 11 = .ok (.invokevirtual 28, 3) := by decide +kernel
theorem dL_come_14 : decode cL_come 14 = .ok (.i2l, 1) := by decide +kernel
theorem dL_come_15 : decode cL_come 15 = .ok (.lastore, 1) := by decide +kernel
theorem dL_come_16 : decode cL_come 16 = .ok (.goto 15, 3) := by decide +kernel
theorem dL_come_19 : decode cL_come 19 = .ok (.astore 7, 2) := by decide +kernel
theorem dL_come_21 : decode cL_come 21 = .ok (.iconst 1, 1) := by decide +kernel
theorem dL_come_22 : decode cL_come 22 = .ok (.ireturn, 1) := by decide +kernel
theorem dL_come_23 : decode cL_come 23 = .ok (.astore 7, 2) := by decide +kernel
theorem dL_come_25 : decode cL_come 25 = .ok (.iconst 2, 1) := by decide +kernel
theorem dL_come_26 : decode cL_come 26 = .ok (.ireturn, 1) := by decide +kernel
theorem dL_come_27 : decode cL_come 27 = .ok (.astore 7, 2) := by decide +kernel
theorem dL_come_29 : decode cL_come 29 = .ok (.iconst 3, 1) := by decide +kernel
theorem dL_come_30 : decode cL_come 30 = .ok (.ireturn, 1) := by decide +kernel
theorem dL_come_31 : decode cL_come 31 = .ok (.iconst 0, 1) := by decide +kernel
theorem dL_come_32 : decode cL_come 32 = .ok (.ireturn, 1) := by decide +kernel
set_option maxRecDepth 20000 in
theorem ggL_send_X4_send : GoodIn wsL_send wsX4_send := goodIn_ca (goodIn_ca (goodIn_r _ [7, 8, 9, 10, 11, 12, 13, 14, 15, 16, 17, 18, 19, 20, 21, 22, 6, 23, 24, 25, 26, 27, 28, 29, 30, 31, 32, 33, 34, 35, 36, 37, 38, 39, 40, 41, 42, 43, 44, 45, 46] (by decide +kernel) (by decide +kernel)) (goodIn_sub (fun _ h => List.mem_cons_of_mem _ (List.mem_append_left _ (List.mem_append_right _ h))) (by decide +kernel))) (goodIn_sub (fun _ h => List.mem_cons_of_mem _ (List.mem_append_right _ h)) (by decide +kernel))
set_option maxRecDepth 20000 in
theorem gL_send_X4_send : GoodIn wsL_send (wsV RL 34 RX4 yX4_send wsX4_send) := goodIn_app (goodIn_of _ (by decide +kernel)) ggL_send_X4_send
theorem dL_send_0 : decode cL_send 0 = .ok (.aload_n 3, 1) := by decide +kernel
theorem dL_send_1 : decode cL_send 1 = .ok (.iconst 0, 1) := by decide +kernel
theorem dL_send_2 : decode cL_send 2 = .ok (.aload_n 0, 1) := by decide +kernel
theorem dL_send_3 : decode cL_send 3 = .ok (.iload_n 1, 1) := by decide +kernel
theorem dL_send_4 : decode cL_send 4 = .ok (.iload_n 2, 1) := by decide +kernel
theorem dL_send_5 : decode cL_send 5 = .ok (.invokevirtual 34, 3) := by decide +kernel
theorem dL_send_8 : decode cL_send 8 = .ok (.i2l, 1) := by decide +kernel
theorem dL_send_9 : decode cL_send 9 = .ok (.lastore, 1) := by decide +kernel
theorem dL_send_10 : decode cL_send 10 = .ok (.goto 11, 3) := by decide +kernel
theorem dL_send_13 : decode cL_send 13 = .ok (.astore 4, 2) := by decide +kernel
theorem dL_send_15 : decode cL_send 15 = .ok (.iconst 1, 1) := by decide +kernel
theorem dL_send_16 : decode cL_send 16 = .ok (.ireturn, 1) := by decide +kernel
theorem dL_send_17 : decode cL_send 17 = .ok (.astore 4, 2) := by decide +kernel
theorem dL_send_19 : decode cL_send 19 = .ok (.iconst 2, 1) := by decide +kernel
theorem dL_send_20 : decode cL_send 20 = .ok (.ireturn, 1) := by decide +kernel
theorem dL_send_21 : decode cL_send 21 = .ok (.iconst 0, 1) := by decide +kernel
theorem dL_send_22 : decode cL_send 22 = .ok (.ireturn, 1) := by decide +kernel
set_option maxRecDepth 20000 in
theorem ggL_load_X4_load : GoodIn wsL_load wsX4_load := goodIn_ca (goodIn_ca (goodIn_ca (goodIn_r _ [8, 9, 10, 11, 12, 13, 14, 15, 16, 17, 18, 19, 20, 21, 7, 22, 23, 24, 25, 26, 27, 28, 29, 30, 31, 32, 33, 34, 35, 36, 37, 38, 39, 40, 41, 42, 43, 44, 45, 46, 47, 48, 49, 50, 51, 52, 53, 54, 55, 56, 57, 58, 59, 60, 61, 62] (by decide +kernel) (by decide +kernel)) (goodIn_sub (fun _ h => List.mem_cons_of_mem _ (List.mem_append_left _ (List.mem_append_left _ (List.mem_append_right _ h)))) (by decide +kernel))) (goodIn_sub (fun _ h => List.mem_cons_of_mem _ (List.mem_append_left _ (List.mem_append_right _ h))) (by decide +kernel))) (goodIn_sub (fun _ h => List.mem_cons_of_mem _ (List.mem_append_right _ h)) (by decide +kernel))
set_option maxRecDepth 20000 in
theorem gL_load_X4_load : GoodIn wsL_load (wsV RL 37 RX4 yX4_load wsX4_load) := goodIn_app (goodIn_of _ (by decide +kernel)) ggL_load_X4_load
theorem dL_load_0 : decode cL_load 0 = .ok (.aload_n 3, 1) := by decide +kernel
theorem dL_load_1 : decode cL_load 1 = .ok (.iconst 0, 1) := by decide +kernel
theorem dL_load_2 : decode cL_load 2 = .ok (.aload_n 0, 1) := by decide +kernel
theorem dL_load_3 : decode cL_load 3 = .ok (.iload_n 1, 1) := by decide +kernel
theorem dL_load_4 : decode cL_load 4 = .ok (.iload_n 2, 1) := by decide +kernel
theorem dL_load_5 : decode cL_load 5 = .ok (.invokevirtual 37, 3) := by decide +kernel
theorem dL_load_8 : decode cL_load 8 = .ok (.i2l, 1) := by decide +kernel
theorem dL_load_9 : decode cL_load 9 = .ok (.lastore, 1) := by decide +kernel
theorem dL_load_10 : decode cL_load 10 = .ok (.goto 15, 3) := by decide +kernel
theorem dL_load_13 : decode cL_load 13 = .ok (.astore 4, 2) := by decide +kernel
theorem dL_load_15 : decode cL_load 15 = .ok (.iconst 1, 1) := by decide +kernel
theorem dL_load_16 : decode cL_load 16 = .ok (.ireturn, 1) := by decide +kernel
theorem dL_load_17 : decode cL_load 17 = .ok (.astore 4, 2) := by decide +kernel
theorem dL_load_19 : decode cL_load 19 = .ok (.iconst 2, 1) := by decide +kernel
theorem dL_load_20 : decode cL_load 20 = .ok (.ireturn, 1) := by decide +kernel
theorem dL_load_21 : decode cL_load 21 = .ok (.astore 4, 2) := by decide +kernel
theorem dL_load_23 : decode cL_load 23 = .ok (.iconst 3, 1) := by decide +kernel
theorem dL_load_24 : decode cL_load 24 = .ok (.ireturn, 1) := by decide +kernel
theorem dL_load_25 : decode cL_load 25 = .ok (.iconst 0, 1) := by decide +kernel
theorem dL_load_26 : decode cL_load 26 = .ok (.ireturn, 1) := by decide +kernel
set_option maxRecDepth 20000 in
theorem ggL_courier_X4_courier : GoodIn wsL_courier wsX4_courier := goodIn_ca (goodIn_r _ [6, 7, 8, 9, 10, 11, 12, 13, 14, 15, 5, 16, 17, 18, 19, 20, 21, 22, 23, 24, 25, 26, 27, 28, 29, 30, 31, 32, 33, 34, 35, 36, 37, 38, 39, 40, 41, 42, 43, 44, 45, 46, 47, 48] (by decide +kernel) (by decide +kernel)) (goodIn_sub (fun _ h => List.mem_cons_of_mem _ (List.mem_append_right _ h)) (by decide +kernel))
set_option maxRecDepth 20000 in
theorem gL_courier_X4_courier : GoodIn wsL_courier (wsV RL 40 RX4 yX4_courier wsX4_courier) := goodIn_app (goodIn_of _ (by decide +kernel)) ggL_courier_X4_courier
theorem dL_courier_0 : decode cL_courier 0 = .ok (.aload_n 3, 1) := by decide +kernel
theorem dL_courier_1 : decode cL_courier 1 = .ok (.iconst 0, 1) := by decide +kernel
theorem dL_courier_2 : decode cL_courier 2 = .ok (.aload_n 0, 1) := by decide +kernel
theorem dL_courier_3 : decode cL_courier 3 = .ok (.iload_n 1, 1) := by decide +kernel
theorem dL_courier_4 : decode cL_courier 4 = .ok (.iload_n 2, 1) := by decide +kernel
theorem dL_courier_5 : decode cL_courier 5 = .ok (.invokevirtual 40, 3) := by decide +kernel
theorem dL_courier_8 : decode cL_courier 8 = .ok (.i2l, 1) := by decide +kernel
theorem dL_courier_9 : decode cL_courier 9 = .ok (.lastore, 1) := by decide +kernel
theorem dL_courier_10 : decode cL_courier 10 = .ok (.goto 7, 3) := by decide +kernel
theorem dL_courier_13 : decode cL_courier 13 = .ok (.astore 4, 2) := by decide +kernel
theorem dL_courier_15 : decode cL_courier 15 = .ok (.iconst 1, 1) := by decide +kernel
theorem dL_courier_16 : decode cL_courier 16 = .ok (.ireturn, 1) := by decide +kernel
theorem dL_courier_17 : decode cL_courier 17 = .ok (.iconst 0, 1) := by decide +kernel
theorem dL_courier_18 : decode cL_courier 18 = .ok (.ireturn, 1) := by decide +kernel
set_option maxRecDepth 20000 in
theorem ggL_wager_X4_wager : GoodIn wsL_wager wsX4_wager := goodIn_ca (goodIn_ca (goodIn_r _ [7, 8, 9, 10, 11, 12, 13, 14, 15, 6, 16, 17, 18, 19, 20, 21, 22, 23, 24, 25, 26, 27, 28, 29, 30, 31, 32, 33, 34, 35, 36, 37, 38, 39, 40] (by decide +kernel) (by decide +kernel)) (goodIn_sub (fun _ h => List.mem_cons_of_mem _ (List.mem_append_left _ (List.mem_append_right _ h))) (by decide +kernel))) (goodIn_sub (fun _ h => List.mem_cons_of_mem _ (List.mem_append_right _ h)) (by decide +kernel))
set_option maxRecDepth 20000 in
theorem gL_wager_X4_wager : GoodIn wsL_wager (wsV RL 43 RX4 yX4_wager wsX4_wager) := goodIn_app (goodIn_of _ (by decide +kernel)) ggL_wager_X4_wager
theorem dL_wager_0 : decode cL_wager 0 = .ok (.aload_n 3, 1) := by decide +kernel
theorem dL_wager_1 : decode cL_wager 1 = .ok (.iconst 0, 1) := by decide +kernel
theorem dL_wager_2 : decode cL_wager 2 = .ok (.aload_n 0, 1) := by decide +kernel
theorem dL_wager_3 : decode cL_wager 3 = .ok (.iload_n 1, 1) := by decide +kernel
theorem dL_wager_4 : decode cL_wager 4 = .ok (.iload_n 2, 1) := by decide +kernel
theorem dL_wager_5 : decode cL_wager 5 = .ok (.invokevirtual 43, 3) := by decide +kernel
theorem dL_wager_8 : decode cL_wager 8 = .ok (.i2l, 1) := by decide +kernel
theorem dL_wager_9 : decode cL_wager 9 = .ok (.lastore, 1) := by decide +kernel
theorem dL_wager_10 : decode cL_wager 10 = .ok (.goto 11, 3) := by decide +kernel
theorem dL_wager_13 : decode cL_wager 13 = .ok (.astore 4, 2) := by decide +kernel
theorem dL_wager_15 : decode cL_wager 15 = .ok (.iconst 1, 1) := by decide +kernel
theorem dL_wager_16 : decode cL_wager 16 = .ok (.ireturn, 1) := by decide +kernel
theorem dL_wager_17 : decode cL_wager 17 = .ok (.astore 4, 2) := by decide +kernel
theorem dL_wager_19 : decode cL_wager 19 = .ok (.iconst 2, 1) := by decide +kernel
theorem dL_wager_20 : decode cL_wager 20 = .ok (.ireturn, 1) := by decide +kernel
theorem dL_wager_21 : decode cL_wager 21 = .ok (.iconst 0, 1) := by decide +kernel
theorem dL_wager_22 : decode cL_wager 22 = .ok (.ireturn, 1) := by decide +kernel
set_option maxRecDepth 20000 in
theorem ggL_wins_X4_wins : GoodIn wsL_wins wsX4_wins := goodIn_ca (goodIn_r _ [6, 7, 8, 9, 10, 11, 12, 13, 14, 15, 5, 16, 17, 18, 19, 20, 21, 22, 23, 24, 25, 26, 27, 28, 29, 30, 31, 32, 33, 34, 35, 36, 37, 38, 39, 40, 41, 42, 43, 44, 45, 46, 47, 48, 49, 50, 51, 52, 53, 54, 55] (by decide +kernel) (by decide +kernel)) (goodIn_sub (fun _ h => List.mem_cons_of_mem _ (List.mem_append_right _ h)) (by decide +kernel))
set_option maxRecDepth 20000 in
theorem gL_wins_X4_wins : GoodIn wsL_wins (wsV RL 46 RX4 yX4_wins wsX4_wins) := goodIn_app (goodIn_of _ (by decide +kernel)) ggL_wins_X4_wins
theorem dL_wins_0 : decode cL_wins 0 = .ok (.aload_n 2, 1) := by decide +kernel
theorem dL_wins_1 : decode cL_wins 1 = .ok (.iconst 0, 1) := by decide +kernel
theorem dL_wins_2 : decode cL_wins 2 = .ok (.aload_n 0, 1) := by decide +kernel
theorem dL_wins_3 : decode cL_wins 3 = .ok (.iload_n 1, 1) := by decide +kernel
theorem dL_wins_4 : decode cL_wins 4 = .ok (.invokevirtual 46, 3) := by decide +kernel
theorem dL_wins_7 : decode cL_wins 7 = .ok (.i2l, 1) := by decide +kernel
theorem dL_wins_8 : decode cL_wins 8 = .ok (.lastore, 1) := by decide +kernel
theorem dL_wins_9 : decode cL_wins 9 = .ok (.goto 6, 3) := by decide +kernel
theorem dL_wins_12 : decode cL_wins 12 = .ok (.astore_n 3, 1) := by decide +kernel
theorem dL_wins_13 : decode cL_wins 13 = .ok (.iconst 1, 1) := by decide +kernel
theorem dL_wins_14 : decode cL_wins 14 = .ok (.ireturn, 1) := by decide +kernel
theorem dL_wins_15 : decode cL_wins 15 = .ok (.iconst 0, 1) := by decide +kernel
theorem dL_wins_16 : decode cL_wins 16 = .ok (.ireturn, 1) := by decide +kernel
set_option maxRecDepth 20000 in
theorem ggL_pass_X4_pass : GoodIn wsL_pass wsX4_pass := goodIn_ca (goodIn_r _ [6, 7, 8, 9, 10, 11, 5, 12, 13, 14, 15, 16, 17, 18, 19, 20, 21, 22, 23, 24, 25, 26, 27, 28, 29, 30, 31, 32, 33, 34, 35, 36, 37, 38, 39, 40, 41, 42, 43, 44, 45, 46, 47, 48, 49, 50, 51, 52, 53, 54, 55, 56, 57, 58, 59, 60, 61, 62, 63, 64, 65, 66, 67, 68, 69, 70, 71, 72, 73, 74, 75, 76, 77, 78, 79, 80, 81, 82, 83, 84, 85, 86, 87, 88, 89, 90, 91, 92, 93, 94, 95, 96, 97, 98, 99, 100, 101, 102, 103, 104, 105, 106, 107] (by decide +kernel) (by decide +kernel)) (goodIn_sub (fun _ h => List.mem_cons_of_mem _ (List.mem_append_right _ h)) (by decide +kernel))
set_option maxRecDepth 20000 in
theorem gL_pass_X4_pass : GoodIn wsL_pass (wsV RL 49 RX4 yX4_pass wsX4_pass) := goodIn_app (goodIn_of _ (by decide +kernel)) ggL_pass_X4_pass
theorem dL_pass_0 : decode cL_pass 0 = .ok (.aload_n 2, 1) := by decide +kernel
theorem dL_pass_1 : decode cL_pass 1 = .ok (.iconst 0, 1) := by decide +kernel
theorem dL_pass_2 : decode cL_pass 2 = .ok (.aload_n 0, 1) := by decide +kernel
theorem dL_pass_3 : decode cL_pass 3 = .ok (.iload_n 1, 1) := by decide +kernel
theorem dL_pass_4 : decode cL_pass 4 = .ok (.invokevirtual 49, 3) := by decide +kernel
theorem dL_pass_7 : decode cL_pass 7 = .ok (.i2l, 1) := by decide +kernel
theorem dL_pass_8 : decode cL_pass 8 = .ok (.lastore, 1) := by decide +kernel
theorem dL_pass_9 : decode cL_pass 9 = .ok (.goto 6, 3) := by decide +kernel
theorem dL_pass_12 : decode cL_pass 12 = .ok (.astore_n 3, 1) := by decide +kernel
theorem dL_pass_13 : decode cL_pass 13 = .ok (.iconst 1, 1) := by decide +kernel
theorem dL_pass_14 : decode cL_pass 14 = .ok (.ireturn, 1) := by decide +kernel
theorem dL_pass_15 : decode cL_pass 15 = .ok (.iconst 0, 1) := by decide +kernel
theorem dL_pass_16 : decode cL_pass 16 = .ok (.ireturn, 1) := by decide +kernel
set_option maxRecDepth 20000 in
theorem ggL_count_X4_count : GoodIn wsL_count wsX4_count := goodIn_ca (goodIn_r _ [6, 7, 8, 9, 10, 5, 11, 12, 13, 14, 15, 16, 17, 18, 19, 20, 21, 22, 23, 24, 25, 26, 27, 28, 29, 30, 31, 32, 33, 34, 35, 36, 37, 38, 39, 40, 41, 42, 43, 44, 45, 46, 47, 48, 49, 50, 51, 52, 53, 54, 55, 56, 57, 58, 59, 60, 61, 62, 63, 64, 65, 66, 67] (by decide +kernel) (by decide +kernel)) (goodIn_sub (fun _ h => List.mem_cons_of_mem _ (List.mem_append_right _ h)) (by decide +kernel))
set_option maxRecDepth 20000 in
theorem gL_count_X4_count : GoodIn wsL_count (wsV RL 52 RX4 yX4_count wsX4_count) := goodIn_app (goodIn_of _ (by decide +kernel)) ggL_count_X4_count
theorem dL_count_0 : decode cL_count 0 = .ok (.aload_n 2, 1) := by decide +kernel
theorem dL_count_1 : decode cL_count 1 = .ok (.iconst 0, 1) := by decide +kernel
theorem dL_count_2 : decode cL_count 2 = .ok (.aload_n 0, 1) := by decide +kernel
theorem dL_count_3 : decode cL_count 3 = .ok (.iload_n 1, 1) := by decide +kernel
theorem dL_count_4 : decode cL_count 4 = .ok (.invokevirtual 52, 3) := by decide +kernel
theorem dL_count_7 : decode cL_count 7 = .ok (.i2l, 1) := by decide +kernel
theorem dL_count_8 : decode cL_count 8 = .ok (.lastore, 1) := by decide +kernel
theorem dL_count_9 : decode cL_count 9 = .ok (.goto 6, 3) := by decide +kernel
theorem dL_count_12 : decode cL_count 12 = .ok (.astore_n 3, 1) := by decide +kernel
theorem dL_count_13 : decode cL_count 13 = .ok (.iconst 1, 1) := by decide +kernel
theorem dL_count_14 : decode cL_count 14 = .ok (.ireturn, 1) := by decide +kernel
theorem dL_count_15 : decode cL_count 15 = .ok (.iconst 0, 1) := by decide +kernel
theorem dL_count_16 : decode cL_count 16 = .ok (.ireturn, 1) := by decide +kernel
set_option maxRecDepth 20000 in
theorem ggL_bears_X4_bears : GoodIn wsL_bears wsX4_bears := goodIn_ca (goodIn_r _ [6, 7, 8, 9, 10, 11, 12, 13, 14, 15, 16, 17, 18, 5, 19, 20, 21, 22, 23, 24, 25, 26, 27, 28, 29, 30, 31, 32, 33, 34, 35, 36, 37, 38, 39, 40, 41, 42, 43, 44, 45, 46, 47, 48, 49, 50, 51] (by decide +kernel) (by decide +kernel)) (goodIn_sub (fun _ h => List.mem_cons_of_mem _ (List.mem_append_right _ h)) (by decide +kernel))
set_option maxRecDepth 20000 in
theorem gL_bears_X4_bears : GoodIn wsL_bears (wsV RL 55 RX4 yX4_bears wsX4_bears) := goodIn_app (goodIn_of _ (by decide +kernel)) ggL_bears_X4_bears
theorem dL_bears_0 : decode cL_bears 0 = .ok (.aload_n 3, 1) := by decide +kernel
theorem dL_bears_1 : decode cL_bears 1 = .ok (.iconst 0, 1) := by decide +kernel
theorem dL_bears_2 : decode cL_bears 2 = .ok (.aload_n 0, 1) := by decide +kernel
theorem dL_bears_3 : decode cL_bears 3 = .ok (.iload_n 1, 1) := by decide +kernel
theorem dL_bears_4 : decode cL_bears 4 = .ok (.iload_n 2, 1) := by decide +kernel
theorem dL_bears_5 : decode cL_bears 5 = .ok (.invokevirtual 55, 3) := by decide +kernel
theorem dL_bears_8 : decode cL_bears 8 = .ok (.i2l, 1) := by decide +kernel
theorem dL_bears_9 : decode cL_bears 9 = .ok (.lastore, 1) := by decide +kernel
theorem dL_bears_10 : decode cL_bears 10 = .ok (.goto 7, 3) := by decide +kernel
theorem dL_bears_13 : decode cL_bears 13 = .ok (.astore 4, 2) := by decide +kernel
theorem dL_bears_15 : decode cL_bears 15 = .ok (.iconst 1, 1) := by decide +kernel
theorem dL_bears_16 : decode cL_bears 16 = .ok (.ireturn, 1) := by decide +kernel
theorem dL_bears_17 : decode cL_bears 17 = .ok (.iconst 0, 1) := by decide +kernel
theorem dL_bears_18 : decode cL_bears 18 = .ok (.ireturn, 1) := by decide +kernel
set_option maxRecDepth 20000 in
theorem ggL_arrives_X4_arrives : GoodIn wsL_arrives wsX4_arrives := goodIn_ca (goodIn_r _ [6, 7, 8, 9, 10, 11, 12, 13, 14, 15, 16, 5, 17, 18, 19, 20, 21, 22, 23, 24, 25, 26, 27, 28, 29, 30, 31, 32, 33, 34, 35, 36, 37, 38, 39, 40, 41, 42, 43, 44, 45, 46, 47, 48, 49, 50, 51, 52, 53, 54, 55, 56, 57, 58, 59, 60, 61, 62, 63, 64, 65, 66, 67, 68, 69, 70, 71, 72, 73, 74, 75, 76, 77, 78, 79, 80, 81, 82, 83, 84, 85, 86, 87, 88, 89, 90, 91, 92, 93, 94, 95, 96, 97, 98, 99, 100, 101, 102, 103, 104, 105, 106, 107, 108, 109, 110, 111, 112, 113, 114, 115, 116, 117, 118, 119, 120, 121, 122, 123, 124, 125, 126, 127, 128, 129, 130, 131, 132, 133, 134, 135] (by decide +kernel) (by decide +kernel)) (goodIn_sub (fun _ h => List.mem_cons_of_mem _ (List.mem_append_right _ h)) (by decide +kernel))
set_option maxRecDepth 20000 in
theorem gL_arrives_X4_arrives : GoodIn wsL_arrives (wsV RL 58 RX4 yX4_arrives wsX4_arrives) := goodIn_app (goodIn_of _ (by decide +kernel)) ggL_arrives_X4_arrives
theorem dL_arrives_0 : decode cL_arrives 0 = .ok (.aload_n 2, 1) := by decide +kernel
theorem dL_arrives_1 : decode cL_arrives 1 = .ok (.iconst 0, 1) := by decide +kernel
theorem dL_arrives_2 : decode cL_arrives 2 = .ok (.aload_n 0, 1) := by decide +kernel
theorem dL_arrives_3 : decode cL_arrives 3 = .ok (.iload_n 1, 1) := by decide +kernel
theorem dL_arrives_4 : decode cL_arrives 4 = .ok (.invokevirtual 58, 3) := by decide +kernel
theorem dL_arrives_7 : decode cL_arrives 7 = .ok (.i2l, 1) := by decide +kernel
theorem dL_arrives_8 : decode cL_arrives 8 = .ok (.lastore, 1) := by decide +kernel
theorem dL_arrives_9 : decode cL_arrives 9 = .ok (.goto 6, 3) := by decide +kernel
theorem dL_arrives_12 : decode cL_arrives 12 = .ok (.astore_n 3, 1) := by decide +kernel
theorem dL_arrives_13 : decode cL_arrives 13 = .ok (.iconst 1, 1) := by decide +kernel
theorem dL_arrives_14 : decode cL_arrives 14 = .ok (.ireturn, 1) := by decide +kernel
theorem dL_arrives_15 : decode cL_arrives 15 = .ok (.iconst 0, 1) := by decide +kernel
theorem dL_arrives_16 : decode cL_arrives 16 = .ok (.ireturn, 1) := by decide +kernel
set_option maxRecDepth 20000 in
theorem ggL_best_X4_best : GoodIn wsL_best wsX4_best := goodIn_ca (goodIn_r _ [6, 7, 8, 9, 10, 11, 12, 13, 14, 15, 16, 5, 17, 18, 19, 20, 21, 22, 23, 24, 25, 26, 27, 28, 29, 30, 31, 32, 33, 34, 35, 36, 37, 38, 39, 40, 41, 42, 43, 44, 45, 46, 47, 48, 49, 50, 51, 52, 53, 54, 55, 56, 57, 58, 59, 60, 61, 62, 63, 64, 65, 66, 67, 68, 69, 70, 71, 72, 73, 74, 75, 76, 77, 78, 79, 80, 81, 82, 83, 84, 85, 86, 87, 88, 89, 90, 91, 92, 93, 94, 95, 96, 97, 98, 99, 100, 101, 102, 103, 104, 105, 106, 107, 108, 109, 110, 111, 112, 113, 114, 115, 116, 117, 118, 119, 120, 121, 122, 123, 124, 125, 126, 127, 128, 129, 130, 131, 132, 133, 134, 135] (by decide +kernel) (by decide +kernel)) (goodIn_sub (fun _ h => List.mem_cons_of_mem _ (List.mem_append_right _ h)) (by decide +kernel))
set_option maxRecDepth 20000 in
theorem gL_best_X4_best : GoodIn wsL_best (wsV RL 61 RX4 yX4_best wsX4_best) := goodIn_app (goodIn_of _ (by decide +kernel)) ggL_best_X4_best
theorem dL_best_0 : decode cL_best 0 = .ok (.aload_n 2, 1) := by decide +kernel
theorem dL_best_1 : decode cL_best 1 = .ok (.iconst 0, 1) := by decide +kernel
theorem dL_best_2 : decode cL_best 2 = .ok (.aload_n 0, 1) := by decide +kernel
theorem dL_best_3 : decode cL_best 3 = .ok (.iload_n 1, 1) := by decide +kernel
theorem dL_best_4 : decode cL_best 4 = .ok (.invokevirtual 61, 3) := by decide +kernel
theorem dL_best_7 : decode cL_best 7 = .ok (.i2l, 1) := by decide +kernel
theorem dL_best_8 : decode cL_best 8 = .ok (.lastore, 1) := by decide +kernel
theorem dL_best_9 : decode cL_best 9 = .ok (.goto 6, 3) := by decide +kernel
theorem dL_best_12 : decode cL_best 12 = .ok (.astore_n 3, 1) := by decide +kernel
theorem dL_best_13 : decode cL_best 13 = .ok (.iconst 1, 1) := by decide +kernel
theorem dL_best_14 : decode cL_best 14 = .ok (.ireturn, 1) := by decide +kernel
theorem dL_best_15 : decode cL_best 15 = .ok (.iconst 0, 1) := by decide +kernel
theorem dL_best_16 : decode cL_best 16 = .ok (.ireturn, 1) := by decide +kernel
set_option maxRecDepth 20000 in
theorem ggL_law_X4_init : GoodIn wsL_law wsX4_init := goodIn_r _ [9, 10, 11, 12, 13, 14, 15, 16, 17, 18, 19, 20, 21, 22, 23, 24, 25, 26, 27, 28, 29, 30, 31, 32, 33, 34, 35, 36, 37, 38, 39, 40, 41, 42, 43, 44, 45, 46, 47, 48, 49, 50, 51, 52, 53, 54, 55, 56, 57, 58, 585, 586, 587, 588, 589, 590, 574, 575, 576, 591, 592, 593, 594, 595, 596, 597, 598, 599, 600, 601, 602, 603, 604, 605] (by decide +kernel) (by decide +kernel)
set_option maxRecDepth 20000 in
theorem gL_law_X4_init : GoodIn wsL_law (wsX4_init) := ggL_law_X4_init
set_option maxRecDepth 20000 in
theorem ggL_law_X6_init : GoodIn wsL_law wsX6_init := goodIn_r _ [61, 62, 11, 12, 26, 63, 64, 65, 66, 67, 68, 69, 70, 71, 72, 73, 74, 75, 76, 77, 78, 79, 80, 81, 82, 83, 577, 578, 579, 580, 581, 582, 583, 584, 606, 607, 608, 609, 610, 611, 612, 613] (by decide +kernel) (by decide +kernel)
set_option maxRecDepth 20000 in
theorem gL_law_X6_init : GoodIn wsL_law (wsX6_init) := ggL_law_X6_init
set_option maxRecDepth 20000 in
theorem ggL_law_L_setWarm : GoodIn wsL_law wsL_setWarm := goodIn_ca (goodIn_ca (goodIn_r _ [87, 88, 89, 90, 91, 92, 2, 93, 94, 95, 96, 97, 16, 98, 99, 100, 574, 575, 576, 585, 586, 587, 588, 589, 590] (by decide +kernel) (by decide +kernel)) (goodIn_sub (fun _ h => List.mem_append_left _ (List.mem_append_left _ (List.mem_append_right _ h))) (by decide +kernel))) (goodIn_sub (fun _ h => List.mem_append_left _ (List.mem_append_right _ h)) (by decide +kernel))
set_option maxRecDepth 20000 in
theorem gL_law_L_setWarm : GoodIn wsL_law (va_wsS RL 68 yL_setWarm wsL_setWarm) := goodIn_app (goodIn_of _ (by decide +kernel)) ggL_law_L_setWarm
set_option maxRecDepth 20000 in
theorem ggL_law_X6_setWarm : GoodIn wsL_law wsX6_setWarm := goodIn_r _ [104, 105, 63, 106, 107, 5, 108, 109, 110, 111, 112, 577, 578, 579, 580, 581, 582, 583, 584] (by decide +kernel) (by decide +kernel)
set_option maxRecDepth 20000 in
theorem gL_law_X6_setWarm : GoodIn wsL_law (wsV RL 73 RX6 yX6_setWarm wsX6_setWarm) := goodIn_app (goodIn_of _ (by decide +kernel)) ggL_law_X6_setWarm
set_option maxRecDepth 20000 in
theorem ggL_law_X6_thrown : GoodIn wsL_law wsX6_thrown := goodIn_r _ [116, 105, 577, 578, 579, 580, 581, 582, 583, 584] (by decide +kernel) (by decide +kernel)
set_option maxRecDepth 20000 in
theorem gL_law_X6_thrown : GoodIn wsL_law (wsV RL 74 RX6 yX6_thrown wsX6_thrown) := goodIn_app (goodIn_of _ (by decide +kernel)) ggL_law_X6_thrown
set_option maxRecDepth 20000 in
theorem ggL_law_L_setIce : GoodIn wsL_law wsL_setIce := goodIn_ca (goodIn_ca (goodIn_r _ [119, 88, 89, 120, 121, 122, 2, 123, 94, 95, 96, 97, 16, 124, 125, 126, 127, 128, 129, 98, 99, 100, 130, 131, 132, 574, 575, 576, 585, 586, 587, 588, 589, 590, 594, 595] (by decide +kernel) (by decide +kernel)) (goodIn_sub (fun _ h => List.mem_append_left _ (List.mem_append_left _ (List.mem_append_right _ h))) (by decide +kernel))) (goodIn_sub (fun _ h => List.mem_append_left _ (List.mem_append_right _ h)) (by decide +kernel))
set_option maxRecDepth 20000 in
theorem gL_law_L_setIce : GoodIn wsL_law (va_wsS RL 78 yL_setIce wsL_setIce) := goodIn_app (goodIn_of _ (by decide +kernel)) ggL_law_L_setIce
set_option maxRecDepth 20000 in
theorem ggL_law_X6_setIce : GoodIn wsL_law wsX6_setIce := goodIn_r _ [136, 105, 70, 137, 138, 5, 139, 106, 107, 108, 109, 110, 111, 112, 577, 578, 579, 580, 581, 582, 583, 584, 606, 607, 608, 609, 610, 611, 612, 613] (by decide +kernel) (by decide +kernel)
set_option maxRecDepth 20000 in
theorem gL_law_X6_setIce : GoodIn wsL_law (wsV RL 81 RX6 yX6_setIce wsX6_setIce) := goodIn_app (goodIn_of _ (by decide +kernel)) ggL_law_X6_setIce
set_option maxRecDepth 20000 in
theorem ggL_law_L_build : GoodIn wsL_law wsL_build := goodIn_ca (goodIn_r _ [142, 88, 143, 144, 145, 2, 146, 94, 95, 16, 127, 128, 129, 98, 99, 100, 147, 15, 148, 149, 28, 574, 575, 576, 585, 586, 587, 588, 589, 590] (by decide +kernel) (by decide +kernel)) (goodIn_sub (fun _ h => List.mem_append_left _ (List.mem_append_left _ (List.mem_append_right _ h))) (by decide +kernel))
set_option maxRecDepth 20000 in
theorem gL_law_L_build : GoodIn wsL_law (va_wsS RL 82 yL_build wsL_build) := goodIn_app (goodIn_of _ (by decide +kernel)) ggL_law_L_build
set_option maxRecDepth 20000 in
theorem ggL_law_X6_build : GoodIn wsL_law wsX6_build := goodIn_r _ [153, 105, 64, 106, 107, 5, 108, 109, 110, 111, 112, 154, 155, 156, 157, 577, 578, 579, 580, 581, 582, 583, 584] (by decide +kernel) (by decide +kernel)
set_option maxRecDepth 20000 in
theorem gL_law_X6_build : GoodIn wsL_law (wsV RL 85 RX6 yX6_build wsX6_build) := goodIn_app (goodIn_of _ (by decide +kernel)) ggL_law_X6_build
set_option maxRecDepth 20000 in
theorem ggL_law_L_place : GoodIn wsL_law wsL_place := goodIn_ca (goodIn_r _ [160, 88, 161, 162, 163, 2, 164, 94, 95, 16, 124, 125, 126, 127, 128, 129, 98, 99, 100, 130, 131, 132, 165, 31, 166, 167, 168, 169, 170, 171, 172, 173, 174, 175, 40, 41, 176, 35, 177, 178, 179, 48, 49, 51, 574, 575, 576, 585, 586, 587, 588, 589, 590, 594, 595, 596, 597, 598, 599, 600, 601, 602, 603, 604, 605] (by decide +kernel) (by decide +kernel)) (goodIn_sub (fun _ h => List.mem_append_left _ (List.mem_append_left _ (List.mem_append_right _ h))) (by decide +kernel))
set_option maxRecDepth 20000 in
theorem gL_law_L_place : GoodIn wsL_law (va_wsS RL 86 yL_place wsL_place) := goodIn_app (goodIn_of _ (by decide +kernel)) ggL_law_L_place
set_option maxRecDepth 20000 in
theorem ggL_law_X6_place : GoodIn wsL_law wsX6_place := goodIn_r _ [183, 105, 137, 138, 5, 139, 106, 107, 108, 184, 185, 186, 187, 70, 26, 188, 189, 190, 69, 191, 79, 192, 193, 194, 195, 196, 169, 170, 171, 197, 198, 199, 200, 77, 78, 109, 110, 111, 112, 577, 578, 579, 580, 581, 582, 583, 584, 606, 607, 608, 609, 610, 611, 612, 613] (by decide +kernel) (by decide +kernel)
set_option maxRecDepth 20000 in
theorem gL_law_X6_place : GoodIn wsL_law (wsV RL 88 RX6 yX6_place wsX6_place) := goodIn_app (goodIn_of _ (by decide +kernel)) ggL_law_X6_place
set_option maxRecDepth 20000 in
theorem ggL_law_L_come : GoodIn wsL_law wsL_come := goodIn_ca (goodIn_ca (goodIn_ca (goodIn_r _ [203, 88, 89, 204, 205, 206, 207, 2, 208, 94, 95, 96, 97, 209, 210, 16, 124, 125, 126, 127, 128, 129, 98, 99, 100, 211, 31, 212, 213, 172, 173, 174, 175, 40, 41, 131, 132, 214, 35, 215, 216, 179, 45, 46, 47, 48, 49, 50, 51, 52, 53, 574, 575, 576, 585, 586, 587, 588, 589, 590, 596, 597, 598, 599, 600, 601, 602, 603, 604, 605, 594, 595] (by decide +kernel) (by decide +kernel)) (goodIn_sub (fun _ h => List.mem_append_left _ (List.mem_append_left _ (List.mem_append_right _ h))) (by decide +kernel))) (goodIn_sub (fun _ h => List.mem_append_left _ (List.mem_append_right _ h)) (by decide +kernel))) (goodIn_sub (fun _ h => List.mem_append_right _ h) (by decide +kernel))
set_option maxRecDepth 20000 in
theorem gL_law_L_come : GoodIn wsL_law (va_wsS RL 89 yL_come wsL_come) := goodIn_app (goodIn_of _ (by decide +kernel)) ggL_law_L_come
set_option maxRecDepth 20000 in
theorem ggL_law_X6_come : GoodIn wsL_law wsX6_come := goodIn_r _ [220, 105, 70, 26, 221, 222, 223, 224, 137, 138, 5, 139, 106, 107, 108, 109, 110, 111, 112, 197, 198, 199, 69, 200, 77, 78, 577, 578, 579, 580, 581, 582, 583, 584, 606, 607, 608, 609, 610, 611, 612, 613] (by decide +kernel) (by decide +kernel)
set_option maxRecDepth 20000 in
theorem gL_law_X6_come : GoodIn wsL_law (wsV RL 92 RX6 yX6_come wsX6_come) := goodIn_app (goodIn_of _ (by decide +kernel)) ggL_law_X6_come
set_option maxRecDepth 20000 in
theorem ggL_law_L_send : GoodIn wsL_law wsL_send := goodIn_ca (goodIn_ca (goodIn_r _ [227, 88, 204, 228, 229, 230, 2, 231, 94, 95, 209, 210, 16, 232, 233, 170, 234, 235, 35, 236, 237, 179, 99, 100, 127, 128, 129, 98, 574, 575, 576, 585, 586, 587, 588, 589, 590, 596, 597, 598, 599, 600, 601, 602, 603, 604, 605] (by decide +kernel) (by decide +kernel)) (goodIn_sub (fun _ h => List.mem_append_left _ (List.mem_append_left _ (List.mem_append_right _ h))) (by decide +kernel))) (goodIn_sub (fun _ h => List.mem_append_right _ h) (by decide +kernel))
set_option maxRecDepth 20000 in
theorem gL_law_L_send : GoodIn wsL_law (va_wsS RL 93 yL_send wsL_send) := goodIn_app (goodIn_of _ (by decide +kernel)) ggL_law_L_send
set_option maxRecDepth 20000 in
theorem ggL_law_X6_send : GoodIn wsL_law wsX6_send := goodIn_r _ [241, 105, 70, 242, 233, 170, 234, 243, 244, 245, 5, 246, 106, 107, 108, 109, 110, 111, 112, 188, 189, 190, 69, 191, 79, 247, 248, 249, 250, 577, 578, 579, 580, 581, 582, 583, 584, 606, 607, 608, 609, 610, 611, 612, 613] (by decide +kernel) (by decide +kernel)
set_option maxRecDepth 20000 in
theorem gL_law_X6_send : GoodIn wsL_law (wsV RL 95 RX6 yX6_send wsX6_send) := goodIn_app (goodIn_of _ (by decide +kernel)) ggL_law_X6_send
set_option maxRecDepth 20000 in
theorem ggL_law_L_load : GoodIn wsL_law wsL_load := goodIn_ca (goodIn_ca (goodIn_ca (goodIn_r _ [253, 88, 89, 204, 254, 255, 256, 2, 257, 94, 95, 96, 97, 209, 210, 16, 235, 35, 236, 237, 179, 99, 100, 98, 258, 15, 259, 260, 36, 32, 211, 31, 212, 213, 172, 173, 174, 175, 40, 41, 131, 132, 574, 575, 576, 585, 586, 587, 588, 589, 590, 596, 597, 598, 599, 600, 601, 602, 603, 604, 605, 594, 595] (by decide +kernel) (by decide +kernel)) (goodIn_sub (fun _ h => List.mem_append_left _ (List.mem_append_left _ (List.mem_append_right _ h))) (by decide +kernel))) (goodIn_sub (fun _ h => List.mem_append_left _ (List.mem_append_right _ h)) (by decide +kernel))) (goodIn_sub (fun _ h => List.mem_append_right _ h) (by decide +kernel))
set_option maxRecDepth 20000 in
theorem gL_law_L_load : GoodIn wsL_law (va_wsS RL 96 yL_load wsL_load) := goodIn_app (goodIn_of _ (by decide +kernel)) ggL_law_L_load
set_option maxRecDepth 20000 in
theorem ggL_law_X6_load : GoodIn wsL_law wsX6_load := goodIn_r _ [264, 105, 70, 243, 244, 245, 5, 246, 106, 107, 108, 109, 110, 111, 112, 188, 189, 190, 69, 191, 79, 197, 198, 199, 200, 77, 78, 247, 248, 249, 250, 577, 578, 579, 580, 581, 582, 583, 584, 606, 607, 608, 609, 610, 611, 612, 613] (by decide +kernel) (by decide +kernel)
set_option maxRecDepth 20000 in
theorem gL_law_X6_load : GoodIn wsL_law (wsV RL 98 RX6 yX6_load wsX6_load) := goodIn_app (goodIn_of _ (by decide +kernel)) ggL_law_X6_load
set_option maxRecDepth 20000 in
theorem ggL_law_L_courier : GoodIn wsL_law wsL_courier := goodIn_ca (goodIn_r _ [267, 88, 268, 269, 270, 2, 271, 94, 95, 16, 235, 35, 236, 237, 179, 99, 100, 98, 272, 273, 274, 45, 46, 47, 48, 49, 50, 51, 52, 53, 574, 575, 576, 585, 586, 587, 588, 589, 590, 596, 597, 598, 599, 600, 601, 602, 603, 604, 605] (by decide +kernel) (by decide +kernel)) (goodIn_sub (fun _ h => List.mem_append_left _ (List.mem_append_left _ (List.mem_append_right _ h))) (by decide +kernel))
set_option maxRecDepth 20000 in
theorem gL_law_L_courier : GoodIn wsL_law (va_wsS RL 99 yL_courier wsL_courier) := goodIn_app (goodIn_of _ (by decide +kernel)) ggL_law_L_courier
set_option maxRecDepth 20000 in
theorem ggL_law_X6_courier : GoodIn wsL_law wsX6_courier := goodIn_r _ [278, 105, 70, 243, 244, 245, 5, 246, 106, 107, 108, 188, 189, 190, 69, 191, 79, 109, 110, 111, 112, 577, 578, 579, 580, 581, 582, 583, 584, 606, 607, 608, 609, 610, 611, 612, 613] (by decide +kernel) (by decide +kernel)
set_option maxRecDepth 20000 in
theorem gL_law_X6_courier : GoodIn wsL_law (wsV RL 101 RX6 yX6_courier wsX6_courier) := goodIn_app (goodIn_of _ (by decide +kernel)) ggL_law_X6_courier
set_option maxRecDepth 20000 in
theorem ggL_law_L_wager : GoodIn wsL_law wsL_wager := goodIn_ca (goodIn_ca (goodIn_r _ [281, 89, 204, 282, 283, 284, 2, 285, 96, 97, 209, 210, 21, 16, 98, 99, 100, 286, 15, 287, 288, 25, 289, 20, 290, 291, 292, 57, 58, 574, 575, 576, 591, 592, 593, 585, 586, 587, 588, 589, 590] (by decide +kernel) (by decide +kernel)) (goodIn_sub (fun _ h => List.mem_append_left _ (List.mem_append_right _ h)) (by decide +kernel))) (goodIn_sub (fun _ h => List.mem_append_right _ h) (by decide +kernel))
set_option maxRecDepth 20000 in
theorem gL_law_L_wager : GoodIn wsL_law (va_wsS RL 102 yL_wager wsL_wager) := goodIn_app (goodIn_of _ (by decide +kernel)) ggL_law_L_wager
set_option maxRecDepth 20000 in
theorem ggL_law_X6_wager : GoodIn wsL_law wsX6_wager := goodIn_r _ [296, 105, 297, 70, 65, 66, 106, 107, 5, 108, 109, 110, 111, 112, 577, 578, 579, 580, 581, 582, 583, 584, 606, 607, 608, 609, 610, 611, 612, 613] (by decide +kernel) (by decide +kernel)
set_option maxRecDepth 20000 in
theorem gL_law_X6_wager : GoodIn wsL_law (wsV RL 104 RX6 yX6_wager wsX6_wager) := goodIn_app (goodIn_of _ (by decide +kernel)) ggL_law_X6_wager
set_option maxRecDepth 20000 in
theorem ggL_law_L_wins : GoodIn wsL_law wsL_wins := goodIn_ca (goodIn_r _ [300, 88, 301, 302, 303, 2, 304, 94, 95, 21, 305, 20, 306, 307, 292, 99, 100, 308, 309, 310, 311, 16, 286, 15, 287, 288, 25, 312, 313, 314, 315, 316, 317, 318, 57, 319, 233, 170, 234, 320, 321, 322, 323, 58, 574, 575, 576, 591, 592, 593, 585, 586, 587, 588, 589, 590] (by decide +kernel) (by decide +kernel)) (goodIn_sub (fun _ h => List.mem_append_left _ (List.mem_append_left _ (List.mem_append_right _ h))) (by decide +kernel))
set_option maxRecDepth 20000 in
theorem gL_law_L_wins : GoodIn wsL_law (va_wsS RL 105 yL_wins wsL_wins) := goodIn_app (goodIn_of _ (by decide +kernel)) ggL_law_L_wins
set_option maxRecDepth 20000 in
theorem ggL_law_X6_wins : GoodIn wsL_law wsX6_wins := goodIn_r _ [327, 105, 297, 106, 107, 5, 108, 328, 329, 330, 331, 70, 65, 242, 233, 170, 234, 332, 333, 334, 335, 66, 109, 110, 111, 112, 577, 578, 579, 580, 581, 582, 583, 584, 606, 607, 608, 609, 610, 611, 612, 613] (by decide +kernel) (by decide +kernel)
set_option maxRecDepth 20000 in
theorem gL_law_X6_wins : GoodIn wsL_law (wsV RL 107 RX6 yX6_wins wsX6_wins) := goodIn_app (goodIn_of _ (by decide +kernel)) ggL_law_X6_wins
set_option maxRecDepth 20000 in
theorem ggL_law_L_pass : GoodIn wsL_law wsL_pass := goodIn_ca (goodIn_r _ [338, 89, 339, 340, 341, 2, 342, 96, 97, 16, 98, 99, 100, 343, 15, 344, 345, 346, 32, 27, 25, 36, 347, 348, 349, 350, 351, 31, 352, 353, 40, 354, 355, 170, 356, 168, 169, 171, 41, 357, 286, 287, 288, 358, 359, 360, 131, 132, 361, 362, 363, 364, 365, 366, 367, 368, 369, 35, 370, 371, 45, 46, 372, 373, 374, 48, 50, 375, 376, 377, 378, 379, 380, 381, 172, 173, 174, 175, 382, 383, 384, 385, 386, 387, 388, 28, 389, 574, 575, 576, 585, 586, 587, 588, 589, 590, 596, 597, 598, 599, 600, 601, 602, 603, 604, 605, 594, 595] (by decide +kernel) (by decide +kernel)) (goodIn_sub (fun _ h => List.mem_append_left _ (List.mem_append_right _ h)) (by decide +kernel))
set_option maxRecDepth 20000 in
theorem gL_law_L_pass : GoodIn wsL_law (va_wsS RL 108 yL_pass wsL_pass) := goodIn_app (goodIn_of _ (by decide +kernel)) ggL_law_L_pass
set_option maxRecDepth 20000 in
theorem ggL_law_X6_pass : GoodIn wsL_law wsX6_pass := goodIn_r _ [393, 105, 70, 106, 107, 5, 108, 109, 110, 111, 112, 394, 395, 396, 69, 397, 398, 399, 74, 400, 355, 170, 356, 401, 402, 403, 404, 77, 405, 169, 171, 78, 406, 407, 408, 409, 76, 410, 189, 190, 191, 79, 411, 412, 413, 414, 415, 416, 417, 418, 419, 420, 198, 199, 200, 421, 422, 423, 424, 425, 248, 249, 250, 577, 578, 579, 580, 581, 582, 583, 584, 606, 607, 608, 609, 610, 611, 612, 613] (by decide +kernel) (by decide +kernel)
set_option maxRecDepth 20000 in
theorem gL_law_X6_pass : GoodIn wsL_law (wsV RL 110 RX6 yX6_pass wsX6_pass) := goodIn_app (goodIn_of _ (by decide +kernel)) ggL_law_X6_pass
set_option maxRecDepth 20000 in
theorem ggL_law_L_count : GoodIn wsL_law wsL_count := goodIn_ca (goodIn_r _ [428, 88, 429, 430, 431, 2, 432, 94, 95, 98, 99, 100, 433, 434, 435, 436, 16, 21, 437, 35, 438, 439, 179, 51, 440, 31, 441, 442, 41, 443, 444, 445, 40, 147, 15, 148, 149, 28, 321, 20, 322, 323, 292, 58, 574, 575, 576, 585, 586, 587, 588, 589, 590, 596, 597, 598, 599, 600, 601, 602, 603, 604, 605, 591, 592, 593, 594, 595] (by decide +kernel) (by decide +kernel)) (goodIn_sub (fun _ h => List.mem_append_left _ (List.mem_append_left _ (List.mem_append_right _ h))) (by decide +kernel))
set_option maxRecDepth 20000 in
theorem gL_law_L_count : GoodIn wsL_law (va_wsS RL 111 yL_count wsL_count) := goodIn_app (goodIn_of _ (by decide +kernel)) ggL_law_L_count
set_option maxRecDepth 20000 in
theorem ggL_law_X6_count : GoodIn wsL_law wsX6_count := goodIn_r _ [449, 105, 106, 107, 5, 108, 450, 451, 452, 453, 26, 70, 297, 188, 189, 190, 69, 191, 79, 154, 155, 156, 157, 64, 332, 333, 334, 335, 66, 109, 110, 111, 112, 577, 578, 579, 580, 581, 582, 583, 584, 606, 607, 608, 609, 610, 611, 612, 613] (by decide +kernel) (by decide +kernel)
set_option maxRecDepth 20000 in
theorem gL_law_X6_count : GoodIn wsL_law (wsV RL 113 RX6 yX6_count wsX6_count) := goodIn_app (goodIn_of _ (by decide +kernel)) ggL_law_X6_count
set_option maxRecDepth 20000 in
theorem ggL_law_L_bears : GoodIn wsL_law wsL_bears := goodIn_ca (goodIn_r _ [456, 88, 457, 458, 459, 2, 460, 94, 95, 16, 461, 355, 170, 356, 462, 169, 171, 127, 128, 129, 98, 99, 100, 463, 31, 464, 465, 168, 354, 466, 165, 166, 167, 172, 173, 174, 175, 40, 41, 131, 132, 574, 575, 576, 585, 586, 587, 588, 589, 590, 594, 595] (by decide +kernel) (by decide +kernel)) (goodIn_sub (fun _ h => List.mem_append_left _ (List.mem_append_left _ (List.mem_append_right _ h))) (by decide +kernel))
set_option maxRecDepth 20000 in
theorem gL_law_L_bears : GoodIn wsL_law (va_wsS RL 114 yL_bears wsL_bears) := goodIn_app (goodIn_of _ (by decide +kernel)) ggL_law_L_bears
set_option maxRecDepth 20000 in
theorem ggL_law_X6_bears : GoodIn wsL_law wsX6_bears := goodIn_r _ [470, 105, 26, 196, 169, 170, 171, 471, 355, 356, 106, 107, 5, 108, 109, 110, 111, 112, 192, 193, 194, 195, 70, 197, 198, 199, 69, 200, 77, 78, 577, 578, 579, 580, 581, 582, 583, 584, 606, 607, 608, 609, 610, 611, 612, 613] (by decide +kernel) (by decide +kernel)
set_option maxRecDepth 20000 in
theorem gL_law_X6_bears : GoodIn wsL_law (wsV RL 116 RX6 yX6_bears wsX6_bears) := goodIn_app (goodIn_of _ (by decide +kernel)) ggL_law_X6_bears
set_option maxRecDepth 20000 in
theorem ggL_law_L_arrives : GoodIn wsL_law wsL_arrives := goodIn_ca (goodIn_r _ [474, 88, 475, 476, 477, 2, 478, 94, 95, 16, 17, 235, 35, 236, 237, 179, 99, 100, 479, 15, 480, 481, 346, 25, 27, 482, 222, 223, 224, 28, 32, 36, 483, 31, 484, 485, 40, 486, 41, 487, 488, 489, 45, 490, 46, 47, 48, 49, 50, 51, 52, 53, 491, 492, 493, 376, 377, 378, 494, 343, 344, 345, 347, 348, 349, 350, 351, 352, 353, 354, 355, 170, 356, 168, 169, 171, 357, 286, 287, 288, 358, 359, 360, 131, 132, 361, 362, 363, 364, 365, 366, 367, 368, 369, 370, 371, 372, 373, 374, 375, 379, 380, 381, 172, 173, 174, 175, 382, 383, 384, 385, 386, 387, 388, 389, 574, 575, 576, 585, 586, 587, 588, 589, 590, 596, 597, 598, 599, 600, 601, 602, 603, 604, 605, 594, 595] (by decide +kernel) (by decide +kernel)) (goodIn_sub (fun _ h => List.mem_append_left _ (List.mem_append_left _ (List.mem_append_right _ h))) (by decide +kernel))
set_option maxRecDepth 20000 in
theorem gL_law_L_arrives : GoodIn wsL_law (va_wsS RL 117 yL_arrives wsL_arrives) := goodIn_app (goodIn_of _ (by decide +kernel)) ggL_law_L_arrives
set_option maxRecDepth 20000 in
theorem ggL_law_X6_arrives : GoodIn wsL_law wsX6_arrives := goodIn_r _ [498, 105, 71, 70, 243, 244, 245, 5, 246, 106, 107, 108, 109, 110, 111, 112, 499, 500, 501, 69, 502, 398, 399, 76, 415, 77, 78, 79, 503, 504, 505, 506, 507, 222, 223, 224, 508, 509, 510, 511, 188, 189, 190, 191, 394, 395, 396, 397, 74, 400, 355, 170, 356, 401, 402, 403, 404, 405, 169, 171, 406, 407, 408, 409, 410, 411, 412, 413, 414, 416, 417, 418, 419, 420, 198, 199, 200, 421, 422, 423, 424, 425, 248, 249, 250, 577, 578, 579, 580, 581, 582, 583, 584, 606, 607, 608, 609, 610, 611, 612, 613] (by decide +kernel) (by decide +kernel)
set_option maxRecDepth 20000 in
theorem gL_law_X6_arrives : GoodIn wsL_law (wsV RL 119 RX6 yX6_arrives wsX6_arrives) := goodIn_app (goodIn_of _ (by decide +kernel)) ggL_law_X6_arrives
set_option maxRecDepth 20000 in
theorem ggL_law_L_best : GoodIn wsL_law wsL_best := goodIn_ca (goodIn_r _ [514, 88, 515, 516, 517, 2, 518, 94, 95, 16, 17, 235, 35, 236, 237, 179, 99, 100, 479, 15, 480, 481, 346, 25, 27, 482, 222, 223, 224, 28, 32, 36, 483, 31, 484, 485, 40, 486, 41, 487, 488, 489, 45, 490, 46, 47, 48, 49, 50, 51, 52, 53, 491, 492, 493, 376, 377, 378, 494, 343, 344, 345, 347, 348, 349, 350, 351, 352, 353, 354, 355, 170, 356, 168, 169, 171, 357, 286, 287, 288, 358, 359, 360, 131, 132, 361, 362, 363, 364, 365, 366, 367, 368, 369, 370, 371, 372, 373, 374, 375, 379, 380, 381, 172, 173, 174, 175, 382, 383, 384, 385, 386, 387, 388, 389, 574, 575, 576, 585, 586, 587, 588, 589, 590, 596, 597, 598, 599, 600, 601, 602, 603, 604, 605, 594, 595] (by decide +kernel) (by decide +kernel)) (goodIn_sub (fun _ h => List.mem_append_left _ (List.mem_append_left _ (List.mem_append_right _ h))) (by decide +kernel))
set_option maxRecDepth 20000 in
theorem gL_law_L_best : GoodIn wsL_law (va_wsS RL 120 yL_best wsL_best) := goodIn_app (goodIn_of _ (by decide +kernel)) ggL_law_L_best
set_option maxRecDepth 20000 in
theorem ggL_law_X6_best : GoodIn wsL_law wsX6_best := goodIn_r _ [522, 105, 71, 70, 243, 244, 245, 5, 246, 106, 107, 108, 109, 110, 111, 112, 499, 500, 501, 69, 502, 398, 399, 76, 415, 77, 78, 79, 503, 504, 505, 506, 507, 222, 223, 224, 247, 248, 249, 250, 508, 509, 510, 511, 188, 189, 190, 191, 394, 395, 396, 397, 74, 400, 355, 170, 356, 401, 402, 403, 404, 405, 169, 171, 406, 407, 408, 409, 410, 411, 412, 413, 414, 416, 417, 418, 419, 420, 198, 199, 200, 421, 422, 423, 424, 425, 577, 578, 579, 580, 581, 582, 583, 584, 606, 607, 608, 609, 610, 611, 612, 613] (by decide +kernel) (by decide +kernel)
set_option maxRecDepth 20000 in
theorem gL_law_X6_best : GoodIn wsL_law (wsV RL 122 RX6 yX6_best wsX6_best) := goodIn_app (goodIn_of _ (by decide +kernel)) ggL_law_X6_best
set_option maxRecDepth 20000 in
theorem ggL_law_X4_thaw : GoodIn wsL_law wsX4_thaw := goodIn_r _ [526, 16, 17, 286, 15, 287, 288, 25, 479, 480, 481, 346, 27, 482, 222, 223, 224, 28, 32, 36, 483, 31, 484, 485, 40, 486, 41, 487, 35, 488, 489, 179, 45, 490, 46, 47, 48, 49, 50, 51, 52, 53, 527, 528, 529, 357, 494, 343, 344, 345, 347, 348, 349, 350, 351, 352, 353, 354, 355, 170, 356, 168, 169, 171, 358, 359, 360, 131, 2, 132, 361, 362, 363, 364, 365, 366, 367, 368, 369, 370, 371, 372, 373, 374, 375, 376, 377, 378, 379, 380, 381, 172, 173, 174, 175, 382, 383, 384, 385, 386, 387, 388, 389, 574, 575, 576, 585, 586, 587, 588, 589, 590, 594, 595, 596, 597, 598, 599, 600, 601, 602, 603, 604, 605] (by decide +kernel) (by decide +kernel)
set_option maxRecDepth 20000 in
theorem gL_law_X4_thaw : GoodIn wsL_law (wsV RL 123 RX4 yX4_thaw wsX4_thaw) := goodIn_app (goodIn_of _ (by decide +kernel)) ggL_law_X4_thaw
set_option maxRecDepth 20000 in
theorem ggL_law_X6_thaw : GoodIn wsL_law wsX6_thaw := goodIn_r _ [533, 105, 71, 70, 499, 500, 501, 69, 502, 398, 399, 76, 415, 77, 78, 79, 503, 504, 505, 506, 507, 222, 223, 224, 394, 395, 396, 397, 74, 400, 355, 170, 356, 401, 402, 403, 404, 405, 169, 171, 406, 407, 408, 409, 410, 189, 190, 191, 411, 412, 413, 414, 416, 417, 418, 419, 420, 198, 199, 200, 421, 422, 423, 424, 425, 248, 249, 250, 577, 578, 579, 580, 581, 582, 583, 584, 606, 607, 608, 609, 610, 611, 612, 613] (by decide +kernel) (by decide +kernel)
set_option maxRecDepth 20000 in
theorem gL_law_X6_thaw : GoodIn wsL_law (wsV RL 126 RX6 yX6_thaw wsX6_thaw) := goodIn_app (goodIn_of _ (by decide +kernel)) ggL_law_X6_thaw
set_option maxRecDepth 20000 in
theorem ggL_law_X4_mean : GoodIn wsL_law wsX4_mean := goodIn_r _ [537, 16, 538, 539, 31, 540, 541, 40, 574, 575, 576, 585, 586, 587, 588, 589, 590, 594, 595] (by decide +kernel) (by decide +kernel)
set_option maxRecDepth 20000 in
theorem gL_law_X4_mean : GoodIn wsL_law (wsV RL 127 RX4 yX4_mean wsX4_mean) := goodIn_app (goodIn_of _ (by decide +kernel)) ggL_law_X4_mean
set_option maxRecDepth 20000 in
theorem ggL_law_X6_mean : GoodIn wsL_law wsX6_mean := goodIn_r _ [545, 105, 70, 546, 577, 578, 579, 580, 581, 582, 583, 584, 606, 607, 608, 609, 610, 611, 612, 613] (by decide +kernel) (by decide +kernel)
set_option maxRecDepth 20000 in
theorem gL_law_X6_mean : GoodIn wsL_law (wsV RL 131 RX6 yX6_mean wsX6_mean) := goodIn_app (goodIn_of _ (by decide +kernel)) ggL_law_X6_mean
set_option maxRecDepth 20000 in
theorem ggL_law_X4_digest : GoodIn wsL_law wsX4_digest := goodIn_r _ [550, 551, 433, 434, 435, 2, 436, 16, 21, 437, 35, 438, 439, 179, 51, 440, 31, 441, 442, 41, 443, 444, 445, 40, 147, 15, 148, 149, 28, 321, 20, 322, 323, 292, 58, 552, 553, 554, 555, 556, 557, 558, 559, 560, 561, 562, 563, 272, 273, 274, 45, 46, 47, 48, 49, 50, 52, 53, 564, 565, 566, 567, 308, 309, 310, 311, 286, 287, 288, 25, 312, 313, 314, 315, 316, 317, 318, 57, 319, 233, 170, 234, 320, 574, 575, 576, 585, 586, 587, 588, 589, 590, 596, 597, 598, 599, 600, 601, 602, 603, 604, 605, 591, 592, 593, 594, 595] (by decide +kernel) (by decide +kernel)
set_option maxRecDepth 20000 in
theorem gL_law_X4_digest : GoodIn wsL_law (wsV RL 132 RX4 yX4_digest wsX4_digest) := goodIn_app (goodIn_of _ (by decide +kernel)) ggL_law_X4_digest
set_option maxRecDepth 20000 in
theorem ggL_law_X6_digest : GoodIn wsL_law wsX6_digest := goodIn_r _ [571, 105, 572, 573, 63, 70, 64, 297, 65, 66, 450, 451, 452, 5, 453, 26, 188, 189, 190, 69, 191, 79, 154, 155, 156, 157, 332, 333, 334, 335, 328, 329, 330, 331, 242, 233, 170, 234, 577, 578, 579, 580, 581, 582, 583, 584, 606, 607, 608, 609, 610, 611, 612, 613] (by decide +kernel) (by decide +kernel)
set_option maxRecDepth 20000 in
theorem gL_law_X6_digest : GoodIn wsL_law (wsV RL 136 RX6 yX6_digest wsX6_digest) := goodIn_app (goodIn_of _ (by decide +kernel)) ggL_law_X6_digest
theorem dL_law_0 : decode cL_law 0 = .ok (.new 8, 3) := by decide +kernel
theorem dL_law_3 : decode cL_law 3 = .ok (.dup, 1) := by decide +kernel
theorem dL_law_4 : decode cL_law 4 = .ok (.invokespecial 64, 3) := by decide +kernel
theorem dL_law_7 : decode cL_law 7 = .ok (.astore_n 1, 1) := by decide +kernel
theorem dL_law_8 : decode cL_law 8 = .ok (.new 65, 3) := by decide +kernel
theorem dL_law_11 : decode cL_law 11 = .ok (.dup, 1) := by decide +kernel
theorem dL_law_12 : decode cL_law 12 = .ok (.invokespecial 67, 3) := by decide +kernel
theorem dL_law_15 : decode cL_law 15 = .ok (.astore_n 2, 1) := by decide +kernel
theorem dL_law_16 : decode cL_law 16 = .ok (.iconst 1, 1) := by decide +kernel
theorem dL_law_17 : decode cL_law 17 = .ok (.newarray .long, 2) := by decide +kernel
theorem dL_law_19 : decode cL_law 19 = .ok (.astore_n 3, 1) := by decide +kernel
theorem dL_law_20 : decode cL_law 20 = .ok (.iconst 0, 1) := by decide +kernel
theorem dL_law_21 : decode cL_law 21 = .ok (.istore 4, 2) := by decide +kernel
theorem dL_law_23 : decode cL_law 23 = .ok (.iload 4, 2) := by decide +kernel
theorem dL_law_25 : decode cL_law 25 = .ok (.aload_n 0, 1) := by decide +kernel
theorem dL_law_26 : decode cL_law 26 = .ok (.arraylength, 1) := by decide +kernel
theorem dL_law_27 : decode cL_law 27 = .ok (.bipush 6, 2) := by decide +kernel
theorem dL_law_29 : decode cL_law 29 = .ok (.isub, 1) := by decide +kernel
theorem dL_law_30 : decode cL_law 30 = .ok (.if_icmp .gt 1196, 3) := by decide +kernel
theorem dL_law_33 : decode cL_law 33 = .ok (.aload_n 0, 1) := by decide +kernel
theorem dL_law_34 : decode cL_law 34 = .ok (.iload 4, 2) := by decide +kernel
theorem dL_law_36 : decode cL_law 36 = .ok (.iaload, 1) := by decide +kernel
theorem dL_law_37 : decode cL_law 37 = .ok (.bipush 31, 2) := by decide +kernel
theorem dL_law_39 : decode cL_law 39 = .ok (.iand, 1) := by decide +kernel
theorem dL_law_40 : decode cL_law 40 = .ok (.tableswitch 1180 0 17 #[88, 156, 236, 292, 372, 492, 560, 628, 696, 764, 820, 876, 932, 1000, 1056, 1112, 1125, 1166], 88) := by decide +kernel
theorem dL_law_128 : decode cL_law 128 = .ok (.aload_n 1, 1) := by decide +kernel
theorem dL_law_129 : decode cL_law 129 = .ok (.aload_n 0, 1) := by decide +kernel
theorem dL_law_130 : decode cL_law 130 = .ok (.iload 4, 2) := by decide +kernel
theorem dL_law_132 : decode cL_law 132 = .ok (.iconst 1, 1) := by decide +kernel
theorem dL_law_133 : decode cL_law 133 = .ok (.iadd, 1) := by decide +kernel
theorem dL_law_134 : decode cL_law 134 = .ok (.iaload, 1) := by decide +kernel
theorem dL_law_135 : decode cL_law 135 = .ok (.aload_n 0, 1) := by decide +kernel
theorem dL_law_136 : decode cL_law 136 = .ok (.iload 4, 2) := by decide +kernel
theorem dL_law_138 : decode cL_law 138 = .ok (.iconst 2, 1) := by decide +kernel
theorem dL_law_139 : decode cL_law 139 = .ok (.iadd, 1) := by decide +kernel
theorem dL_law_140 : decode cL_law 140 = .ok (.iaload, 1) := by decide +kernel
theorem dL_law_141 : decode cL_law 141 = .ok (.aload_n 3, 1) := by decide +kernel
theorem dL_law_142 : decode cL_law 142 = .ok (.invokestatic 68, 3) := by decide +kernel
theorem dL_law_145 : decode cL_law 145 = .ok (.istore 5, 2) := by decide +kernel
theorem dL_law_147 : decode cL_law 147 = .ok (.aload_n 2, 1) := by decide +kernel
theorem dL_law_148 : decode cL_law 148 = .ok (.aload_n 0, 1) := by decide +kernel
theorem dL_law_149 : decode cL_law 149 = .ok (.iload 4, 2) := by decide +kernel
theorem dL_law_151 : decode cL_law 151 = .ok (.iconst 1, 1) := by decide +kernel
theorem dL_law_152 : decode cL_law 152 = .ok (.iadd, 1) := by decide +kernel
theorem dL_law_153 : decode cL_law 153 = .ok (.iaload, 1) := by decide +kernel
theorem dL_law_154 : decode cL_law 154 = .ok (.aload_n 0, 1) := by decide +kernel
theorem dL_law_155 : decode cL_law 155 = .ok (.iload 4, 2) := by decide +kernel
theorem dL_law_157 : decode cL_law 157 = .ok (.iconst 2, 1) := by decide +kernel
theorem dL_law_158 : decode cL_law 158 = .ok (.iadd, 1) := by decide +kernel
theorem dL_law_159 : decode cL_law 159 = .ok (.iaload, 1) := by decide +kernel
theorem dL_law_160 : decode cL_law 160 = .ok (.invokevirtual 73, 3) := by decide +kernel
theorem dL_law_163 : decode cL_law 163 = .ok (.istore 6, 2) := by decide +kernel
theorem dL_law_165 : decode cL_law 165 = .ok (.aload_n 2, 1) := by decide +kernel
theorem dL_law_166 : decode cL_law 166 = .ok (.invokevirtual 74, 3) := by decide +kernel
theorem dL_law_169 : decode cL_law 169 = .ok (.iload 5, 2) := by decide +kernel
theorem dL_law_171 : decode cL_law 171 = .ok (.if_icmp .eq 5, 3) := by decide +kernel
theorem dL_law_174 : decode cL_law 174 = .ok (.iconst 0, 1) := by decide +kernel
theorem dL_law_175 : decode cL_law 175 = .ok (.ireturn, 1) := by decide +kernel
theorem dL_law_176 : decode cL_law 176 = .ok (.iload 5, 2) := by decide +kernel
theorem dL_law_178 : decode cL_law 178 = .ok (.ifCond .ne 15, 3) := by decide +kernel
theorem dL_law_181 : decode cL_law 181 = .ok (.aload_n 3, 1) := by decide +kernel
theorem dL_law_182 : decode cL_law 182 = .ok (.iconst 0, 1) := by decide +kernel
theorem dL_law_183 : decode cL_law 183 = .ok (.laload, 1) := by decide +kernel
theorem dL_law_184 : decode cL_law 184 = .ok (.iload 6, 2) := by decide +kernel
theorem dL_law_186 : decode cL_law 186 = .ok (.i2l, 1) := by decide +kernel
theorem dL_law_187 : decode cL_law 187 = .ok (.lcmp, 1) := by decide +kernel
theorem dL_law_188 : decode cL_law 188 = .ok (.ifCond .eq 5, 3) := by decide +kernel
theorem dL_law_191 : decode cL_law 191 = .ok (.iconst 0, 1) := by decide +kernel
theorem dL_law_192 : decode cL_law 192 = .ok (.ireturn, 1) := by decide +kernel
theorem dL_law_193 : decode cL_law 193 = .ok (.goto 1027, 3) := by decide +kernel
theorem dL_law_196 : decode cL_law 196 = .ok (.aload_n 1, 1) := by decide +kernel
theorem dL_law_197 : decode cL_law 197 = .ok (.aload_n 0, 1) := by decide +kernel
theorem dL_law_198 : decode cL_law 198 = .ok (.iload 4, 2) := by decide +kernel
theorem dL_law_200 : decode cL_law 200 = .ok (.iconst 1, 1) := by decide +kernel
theorem dL_law_201 : decode cL_law 201 = .ok (.iadd, 1) := by decide +kernel
theorem dL_law_202 : decode cL_law 202 = .ok (.iaload, 1) := by decide +kernel
theorem dL_law_203 : decode cL_law 203 = .ok (.aload_n 0, 1) := by decide +kernel
theorem dL_law_204 : decode cL_law 204 = .ok (.iload 4, 2) := by decide +kernel
theorem dL_law_206 : decode cL_law 206 = .ok (.iconst 2, 1) := by decide +kernel
theorem dL_law_207 : decode cL_law 207 = .ok (.iadd, 1) := by decide +kernel
theorem dL_law_208 : decode cL_law 208 = .ok (.iaload, 1) := by decide +kernel
theorem dL_law_209 : decode cL_law 209 = .ok (.aload_n 0, 1) := by decide +kernel
theorem dL_law_210 : decode cL_law 210 = .ok (.iload 4, 2) := by decide +kernel
theorem dL_law_212 : decode cL_law 212 = .ok (.iconst 3, 1) := by decide +kernel
theorem dL_law_213 : decode cL_law 213 = .ok (.iadd, 1) := by decide +kernel
theorem dL_law_214 : decode cL_law 214 = .ok (.iaload, 1) := by decide +kernel
theorem dL_law_215 : decode cL_law 215 = .ok (.aload_n 3, 1) := by decide +kernel
theorem dL_law_216 : decode cL_law 216 = .ok (.invokestatic 78, 3) := by decide +kernel
theorem dL_law_219 : decode cL_law 219 = .ok (.istore 5, 2) := by decide +kernel
theorem dL_law_221 : decode cL_law 221 = .ok (.aload_n 2, 1) := by decide +kernel
theorem dL_law_222 : decode cL_law 222 = .ok (.aload_n 0, 1) := by decide +kernel
theorem dL_law_223 : decode cL_law 223 = .ok (.iload 4, 2) := by decide +kernel
theorem dL_law_225 : decode cL_law 225 = .ok (.iconst 1, 1) := by decide +kernel
theorem dL_law_226 : decode cL_law 226 = .ok (.iadd, 1) := by decide +kernel
theorem dL_law_227 : decode cL_law 227 = .ok (.iaload, 1) := by decide +kernel
theorem dL_law_228 : decode cL_law 228 = .ok (.aload_n 0, 1) := by decide +kernel
theorem dL_law_229 : decode cL_law 229 = .ok (.iload 4, 2) := by decide +kernel
theorem dL_law_231 : decode cL_law 231 = .ok (.iconst 2, 1) := by decide +kernel
theorem dL_law_232 : decode cL_law 232 = .ok (.iadd, 1) := by decide +kernel
theorem dL_law_233 : decode cL_law 233 = .ok (.iaload, 1) := by decide +kernel
theorem dL_law_234 : decode cL_law 234 = .ok (.aload_n 0, 1) := by decide +kernel
theorem dL_law_235 : decode cL_law 235 = .ok (.iload 4, 2) := by decide +kernel
theorem dL_law_237 : decode cL_law 237 = .ok (.iconst 3, 1) := by decide +kernel
theorem dL_law_238 : decode cL_law 238 = .ok (.iadd, 1) := by decide +kernel
theorem dL_law_239 : decode cL_law 239 = .ok (.iaload, 1) := by decide +kernel
theorem dL_law_240 : decode cL_law 240 = .ok (.invokevirtual 81, 3) := by decide +kernel
theorem dL_law_243 : decode cL_law 243 = .ok (.istore 6, 2) := by decide +kernel
theorem dL_law_245 : decode cL_law 245 = .ok (.aload_n 2, 1) := by decide +kernel
theorem dL_law_246 : decode cL_law 246 = .ok (.invokevirtual 74, 3) := by decide +kernel
theorem dL_law_249 : decode cL_law 249 = .ok (.iload 5, 2) := by decide +kernel
theorem dL_law_251 : decode cL_law 251 = .ok (.if_icmp .eq 5, 3) := by decide +kernel
theorem dL_law_254 : decode cL_law 254 = .ok (.iconst 0, 1) := by decide +kernel
theorem dL_law_255 : decode cL_law 255 = .ok (.ireturn, 1) := by decide +kernel
theorem dL_law_256 : decode cL_law 256 = .ok (.iload 5, 2) := by decide +kernel
theorem dL_law_258 : decode cL_law 258 = .ok (.ifCond .ne 15, 3) := by decide +kernel
theorem dL_law_261 : decode cL_law 261 = .ok (.aload_n 3, 1) := by decide +kernel
theorem dL_law_262 : decode cL_law 262 = .ok (.iconst 0, 1) := by decide +kernel
theorem dL_law_263 : decode cL_law 263 = .ok (.laload, 1) := by decide +kernel
theorem dL_law_264 : decode cL_law 264 = .ok (.iload 6, 2) := by decide +kernel
theorem dL_law_266 : decode cL_law 266 = .ok (.i2l, 1) := by decide +kernel
theorem dL_law_267 : decode cL_law 267 = .ok (.lcmp, 1) := by decide +kernel
theorem dL_law_268 : decode cL_law 268 = .ok (.ifCond .eq 5, 3) := by decide +kernel
theorem dL_law_271 : decode cL_law 271 = .ok (.iconst 0, 1) := by decide +kernel
theorem dL_law_272 : decode cL_law 272 = .ok (.ireturn, 1) := by decide +kernel
theorem dL_law_273 : decode cL_law 273 = .ok (.goto 947, 3) := by decide +kernel
theorem dL_law_276 : decode cL_law 276 = .ok (.aload_n 1, 1) := by decide +kernel
theorem dL_law_277 : decode cL_law 277 = .ok (.aload_n 0, 1) := by decide +kernel
theorem dL_law_278 : decode cL_law 278 = .ok (.iload 4, 2) := by decide +kernel
theorem dL_law_280 : decode cL_law 280 = .ok (.iconst 1, 1) := by decide +kernel
theorem dL_law_281 : decode cL_law 281 = .ok (.iadd, 1) := by decide +kernel
theorem dL_law_282 : decode cL_law 282 = .ok (.iaload, 1) := by decide +kernel
theorem dL_law_283 : decode cL_law 283 = .ok (.aload_n 3, 1) := by decide +kernel
theorem dL_law_284 : decode cL_law 284 = .ok (.invokestatic 82, 3) := by decide +kernel
theorem dL_law_287 : decode cL_law 287 = .ok (.istore 5, 2) := by decide +kernel
theorem dL_law_289 : decode cL_law 289 = .ok (.aload_n 2, 1) := by decide +kernel
theorem dL_law_290 : decode cL_law 290 = .ok (.aload_n 0, 1) := by decide +kernel
theorem dL_law_291 : decode cL_law 291 = .ok (.iload 4, 2) := by decide +kernel
theorem dL_law_293 : decode cL_law 293 = .ok (.iconst 1, 1) := by decide +kernel
theorem dL_law_294 : decode cL_law 294 = .ok (.iadd, 1) := by decide +kernel
theorem dL_law_295 : decode cL_law 295 = .ok (.iaload, 1) := by decide +kernel
theorem dL_law_296 : decode cL_law 296 = .ok (.invokevirtual 85, 3) := by decide +kernel
theorem dL_law_299 : decode cL_law 299 = .ok (.istore 6, 2) := by decide +kernel
theorem dL_law_301 : decode cL_law 301 = .ok (.aload_n 2, 1) := by decide +kernel
theorem dL_law_302 : decode cL_law 302 = .ok (.invokevirtual 74, 3) := by decide +kernel
theorem dL_law_305 : decode cL_law 305 = .ok (.iload 5, 2) := by decide +kernel
theorem dL_law_307 : decode cL_law 307 = .ok (.if_icmp .eq 5, 3) := by decide +kernel
theorem dL_law_310 : decode cL_law 310 = .ok (.iconst 0, 1) := by decide +kernel
theorem dL_law_311 : decode cL_law 311 = .ok (.ireturn, 1) := by decide +kernel
theorem dL_law_312 : decode cL_law 312 = .ok (.iload 5, 2) := by decide +kernel
theorem dL_law_314 : decode cL_law 314 = .ok (.ifCond .ne 15, 3) := by decide +kernel
theorem dL_law_317 : decode cL_law 317 = .ok (.aload_n 3, 1) := by decide +kernel
theorem dL_law_318 : decode cL_law 318 = .ok (.iconst 0, 1) := by decide +kernel
theorem dL_law_319 : decode cL_law 319 = .ok (.laload, 1) := by decide +kernel
theorem dL_law_320 : decode cL_law 320 = .ok (.iload 6, 2) := by decide +kernel
theorem dL_law_322 : decode cL_law 322 = .ok (.i2l, 1) := by decide +kernel
theorem dL_law_323 : decode cL_law 323 = .ok (.lcmp, 1) := by decide +kernel
theorem dL_law_324 : decode cL_law 324 = .ok (.ifCond .eq 5, 3) := by decide +kernel
theorem dL_law_327 : decode cL_law 327 = .ok (.iconst 0, 1) := by decide +kernel
theorem dL_law_328 : decode cL_law 328 = .ok (.ireturn, 1) := by decide +kernel
theorem dL_law_329 : decode cL_law 329 = .ok (.goto 891, 3) := by decide +kernel
theorem dL_law_332 : decode cL_law 332 = .ok (.aload_n 1, 1) := by decide +kernel
theorem dL_law_333 : decode cL_law 333 = .ok (.aload_n 0, 1) := by decide +kernel
theorem dL_law_334 : decode cL_law 334 = .ok (.iload 4, 2) := by decide +kernel
theorem dL_law_336 : decode cL_law 336 = .ok (.iconst 1, 1) := by decide +kernel
theorem dL_law_337 : decode cL_law 337 = .ok (.iadd, 1) := by decide +kernel
theorem dL_law_338 : decode cL_law 338 = .ok (.iaload, 1) := by decide +kernel
theorem dL_law_339 : decode cL_law 339 = .ok (.aload_n 0, 1) := by decide +kernel
theorem dL_law_340 : decode cL_law 340 = .ok (.iload 4, 2) := by decide +kernel
theorem dL_law_342 : decode cL_law 342 = .ok (.iconst 2, 1) := by decide +kernel
theorem dL_law_343 : decode cL_law 343 = .ok (.iadd, 1) := by decide +kernel
theorem dL_law_344 : decode cL_law 344 = .ok (.iaload, 1) := by decide +kernel
theorem dL_law_345 : decode cL_law 345 = .ok (.aload_n 0, 1) := by decide +kernel
theorem dL_law_346 : decode cL_law 346 = .ok (.iload 4, 2) := by decide +kernel
theorem dL_law_348 : decode cL_law 348 = .ok (.iconst 3, 1) := by decide +kernel
theorem dL_law_349 : decode cL_law 349 = .ok (.iadd, 1) := by decide +kernel
theorem dL_law_350 : decode cL_law 350 = .ok (.iaload, 1) := by decide +kernel
theorem dL_law_351 : decode cL_law 351 = .ok (.aload_n 3, 1) := by decide +kernel
theorem dL_law_352 : decode cL_law 352 = .ok (.invokestatic 86, 3) := by decide +kernel
theorem dL_law_355 : decode cL_law 355 = .ok (.istore 5, 2) := by decide +kernel
theorem dL_law_357 : decode cL_law 357 = .ok (.aload_n 2, 1) := by decide +kernel
theorem dL_law_358 : decode cL_law 358 = .ok (.aload_n 0, 1) := by decide +kernel
theorem dL_law_359 : decode cL_law 359 = .ok (.iload 4, 2) := by decide +kernel
theorem dL_law_361 : decode cL_law 361 = .ok (.iconst 1, 1) := by decide +kernel
theorem dL_law_362 : decode cL_law 362 = .ok (.iadd, 1) := by decide +kernel
theorem dL_law_363 : decode cL_law 363 = .ok (.iaload, 1) := by decide +kernel
theorem dL_law_364 : decode cL_law 364 = .ok (.aload_n 0, 1) := by decide +kernel
theorem dL_law_365 : decode cL_law 365 = .ok (.iload 4, 2) := by decide +kernel
theorem dL_law_367 : decode cL_law 367 = .ok (.iconst 2, 1) := by decide +kernel
theorem dL_law_368 : decode cL_law 368 = .ok (.iadd, 1) := by decide +kernel
theorem dL_law_369 : decode cL_law 369 = .ok (.iaload, 1) := by decide +kernel
theorem dL_law_370 : decode cL_law 370 = .ok (.aload_n 0, 1) := by decide +kernel
theorem dL_law_371 : decode cL_law 371 = .ok (.iload 4, 2) := by decide +kernel
theorem dL_law_373 : decode cL_law 373 = .ok (.iconst 3, 1) := by decide +kernel
theorem dL_law_374 : decode cL_law 374 = .ok (.iadd, 1) := by decide +kernel
theorem dL_law_375 : decode cL_law 375 = .ok (.iaload, 1) := by decide +kernel
theorem dL_law_376 : decode cL_law 376 = .ok (.invokevirtual 88, 3) := by decide +kernel
theorem dL_law_379 : decode cL_law 379 = .ok (.istore 6, 2) := by decide +kernel
theorem dL_law_381 : decode cL_law 381 = .ok (.aload_n 2, 1) := by decide +kernel
theorem dL_law_382 : decode cL_law 382 = .ok (.invokevirtual 74, 3) := by decide +kernel
theorem dL_law_385 : decode cL_law 385 = .ok (.iload 5, 2) := by decide +kernel
theorem dL_law_387 : decode cL_law 387 = .ok (.if_icmp .eq 5, 3) := by decide +kernel
theorem dL_law_390 : decode cL_law 390 = .ok (.iconst 0, 1) := by decide +kernel
theorem dL_law_391 : decode cL_law 391 = .ok (.ireturn, 1) := by decide +kernel
theorem dL_law_392 : decode cL_law 392 = .ok (.iload 5, 2) := by decide +kernel
theorem dL_law_394 : decode cL_law 394 = .ok (.ifCond .ne 15, 3) := by decide +kernel
theorem dL_law_397 : decode cL_law 397 = .ok (.aload_n 3, 1) := by decide +kernel
theorem dL_law_398 : decode cL_law 398 = .ok (.iconst 0, 1) := by decide +kernel
theorem dL_law_399 : decode cL_law 399 = .ok (.laload, 1) := by decide +kernel
theorem dL_law_400 : decode cL_law 400 = .ok (.iload 6, 2) := by decide +kernel
theorem dL_law_402 : decode cL_law 402 = .ok (.i2l, 1) := by decide +kernel
theorem dL_law_403 : decode cL_law 403 = .ok (.lcmp, 1) := by decide +kernel
theorem dL_law_404 : decode cL_law 404 = .ok (.ifCond .eq 5, 3) := by decide +kernel
theorem dL_law_407 : decode cL_law 407 = .ok (.iconst 0, 1) := by decide +kernel
theorem dL_law_408 : decode cL_law 408 = .ok (.ireturn, 1) := by decide +kernel
theorem dL_law_409 : decode cL_law 409 = .ok (.goto 811, 3) := by decide +kernel
theorem dL_law_412 : decode cL_law 412 = .ok (.aload_n 1, 1) := by decide +kernel
theorem dL_law_413 : decode cL_law 413 = .ok (.aload_n 0, 1) := by decide +kernel
theorem dL_law_414 : decode cL_law 414 = .ok (.iload 4, 2) := by decide +kernel
theorem dL_law_416 : decode cL_law 416 = .ok (.iconst 1, 1) := by decide +kernel
theorem dL_law_417 : decode cL_law 417 = .ok (.iadd, 1) := by decide +kernel
theorem dL_law_418 : decode cL_law 418 = .ok (.iaload, 1) := by decide +kernel
theorem dL_law_419 : decode cL_law 419 = .ok (.aload_n 0, 1) := by decide +kernel
theorem dL_law_420 : decode cL_law 420 = .ok (.iload 4, 2) := by decide +kernel
theorem dL_law_422 : decode cL_law 422 = .ok (.iconst 2, 1) := by decide +kernel
theorem dL_law_423 : decode cL_law 423 = .ok (.iadd, 1) := by decide +kernel
theorem dL_law_424 : decode cL_law 424 = .ok (.iaload, 1) := by decide +kernel
theorem dL_law_425 : decode cL_law 425 = .ok (.aload_n 0, 1) := by decide +kernel
theorem dL_law_426 : decode cL_law 426 = .ok (.iload 4, 2) := by decide +kernel
theorem dL_law_428 : decode cL_law 428 = .ok (.iconst 3, 1) := by decide +kernel
theorem dL_law_429 : decode cL_law 429 = .ok (.iadd, 1) := by decide +kernel
theorem dL_law_430 : decode cL_law 430 = .ok (.iaload, 1) := by decide +kernel
theorem dL_law_431 : decode cL_law 431 = .ok (.aload_n 0, 1) := by decide +kernel
theorem dL_law_432 : decode cL_law 432 = .ok (.iload 4, 2) := by decide +kernel
theorem dL_law_434 : decode cL_law 434 = .ok (.iconst 4, 1) := by decide +kernel
theorem dL_law_435 : decode cL_law 435 = .ok (.iadd, 1) := by decide +kernel
theorem dL_law_436 : decode cL_law 436 = .ok (.iaload, 1) := by decide +kernel
theorem dL_law_437 : decode cL_law 437 = .ok (.aload_n 0, 1) := by decide +kernel
theorem dL_law_438 : decode cL_law 438 = .ok (.iload 4, 2) := by decide +kernel
theorem dL_law_440 : decode cL_law 440 = .ok (.iconst 5, 1) := by decide +kernel
theorem dL_law_441 : decode cL_law 441 = .ok (.iadd, 1) := by decide +kernel
theorem dL_law_442 : decode cL_law 442 = .ok (.iaload, 1) := by decide +kernel
theorem dL_law_443 : decode cL_law 443 = .ok (.ifCond .eq 7, 3) := by decide +kernel
theorem dL_law_446 : decode cL_law 446 = .ok (.iconst 1, 1) := by decide +kernel
theorem dL_law_447 : decode cL_law 447 = .ok (.goto 4, 3) := by decide +kernel
theorem dL_law_450 : decode cL_law 450 = .ok (.iconst 0, 1) := by decide +kernel
theorem dL_law_451 : decode cL_law 451 = .ok (.aload_n 3, 1) := by decide +kernel
theorem dL_law_452 : decode cL_law 452 = .ok (.invokestatic 89, 3) := by decide +kernel
theorem dL_law_455 : decode cL_law 455 = .ok (.istore 5, 2) := by decide +kernel
theorem dL_law_457 : decode cL_law 457 = .ok (.aload_n 2, 1) := by decide +kernel
theorem dL_law_458 : decode cL_law 458 = .ok (.aload_n 0, 1) := by decide +kernel
theorem dL_law_459 : decode cL_law 459 = .ok (.iload 4, 2) := by decide +kernel
theorem dL_law_461 : decode cL_law 461 = .ok (.iconst 1, 1) := by decide +kernel
theorem dL_law_462 : decode cL_law 462 = .ok (.iadd, 1) := by decide +kernel
theorem dL_law_463 : decode cL_law 463 = .ok (.iaload, 1) := by decide +kernel
theorem dL_law_464 : decode cL_law 464 = .ok (.aload_n 0, 1) := by decide +kernel
theorem dL_law_465 : decode cL_law 465 = .ok (.iload 4, 2) := by decide +kernel
theorem dL_law_467 : decode cL_law 467 = .ok (.iconst 2, 1) := by decide +kernel
theorem dL_law_468 : decode cL_law 468 = .ok (.iadd, 1) := by decide +kernel
theorem dL_law_469 : decode cL_law 469 = .ok (.iaload, 1) := by decide +kernel
theorem dL_law_470 : decode cL_law 470 = .ok (.aload_n 0, 1) := by decide +kernel
theorem dL_law_471 : decode cL_law 471 = .ok (.iload 4, 2) := by decide +kernel
theorem dL_law_473 : decode cL_law 473 = .ok (.iconst 3, 1) := by decide +kernel
theorem dL_law_474 : decode cL_law 474 = .ok (.iadd, 1) := by decide +kernel
theorem dL_law_475 : decode cL_law 475 = .ok (.iaload, 1) := by decide +kernel
theorem dL_law_476 : decode cL_law 476 = .ok (.aload_n 0, 1) := by decide +kernel
theorem dL_law_477 : decode cL_law 477 = .ok (.iload 4, 2) := by decide +kernel
theorem dL_law_479 : decode cL_law 479 = .ok (.iconst 4, 1) := by decide +kernel
theorem dL_law_480 : decode cL_law 480 = .ok (.iadd, 1) := by decide +kernel
theorem dL_law_481 : decode cL_law 481 = .ok (.iaload, 1) := by decide +kernel
theorem dL_law_482 : decode cL_law 482 = .ok (.aload_n 0, 1) := by decide +kernel
theorem dL_law_483 : decode cL_law 483 = .ok (.iload 4, 2) := by decide +kernel
theorem dL_law_485 : decode cL_law 485 = .ok (.iconst 5, 1) := by decide +kernel
theorem dL_law_486 : decode cL_law 486 = .ok (.iadd, 1) := by decide +kernel
theorem dL_law_487 : decode cL_law 487 = .ok (.iaload, 1) := by decide +kernel
theorem dL_law_488 : decode cL_law 488 = .ok (.ifCond .eq 7, 3) := by decide +kernel
theorem dL_law_491 : decode cL_law 491 = .ok (.iconst 1, 1) := by decide +kernel
theorem dL_law_492 : decode cL_law 492 = .ok (.goto 4, 3) := by decide +kernel
theorem dL_law_495 : decode cL_law 495 = .ok (.iconst 0, 1) := by decide +kernel
theorem dL_law_496 : decode cL_law 496 = .ok (.invokevirtual 92, 3) := by decide +kernel
theorem dL_law_499 : decode cL_law 499 = .ok (.istore 6, 2) := by decide +kernel
theorem dL_law_501 : decode cL_law 501 = .ok (.aload_n 2, 1) := by decide +kernel
theorem dL_law_502 : decode cL_law 502 = .ok (.invokevirtual 74, 3) := by decide +kernel
theorem dL_law_505 : decode cL_law 505 = .ok (.iload 5, 2) := by decide +kernel
theorem dL_law_507 : decode cL_law 507 = .ok (.if_icmp .eq 5, 3) := by decide +kernel
theorem dL_law_510 : decode cL_law 510 = .ok (.iconst 0, 1) := by decide +kernel
theorem dL_law_511 : decode cL_law 511 = .ok (.ireturn, 1) := by decide +kernel
theorem dL_law_512 : decode cL_law 512 = .ok (.iload 5, 2) := by decide +kernel
theorem dL_law_514 : decode cL_law 514 = .ok (.ifCond .ne 15, 3) := by decide +kernel
theorem dL_law_517 : decode cL_law 517 = .ok (.aload_n 3, 1) := by decide +kernel
theorem dL_law_518 : decode cL_law 518 = .ok (.iconst 0, 1) := by decide +kernel
theorem dL_law_519 : decode cL_law 519 = .ok (.laload, 1) := by decide +kernel
theorem dL_law_520 : decode cL_law 520 = .ok (.iload 6, 2) := by decide +kernel
theorem dL_law_522 : decode cL_law 522 = .ok (.i2l, 1) := by decide +kernel
theorem dL_law_523 : decode cL_law 523 = .ok (.lcmp, 1) := by decide +kernel
theorem dL_law_524 : decode cL_law 524 = .ok (.ifCond .eq 5, 3) := by decide +kernel
theorem dL_law_527 : decode cL_law 527 = .ok (.iconst 0, 1) := by decide +kernel
theorem dL_law_528 : decode cL_law 528 = .ok (.ireturn, 1) := by decide +kernel
theorem dL_law_529 : decode cL_law 529 = .ok (.goto 691, 3) := by decide +kernel
theorem dL_law_532 : decode cL_law 532 = .ok (.aload_n 1, 1) := by decide +kernel
theorem dL_law_533 : decode cL_law 533 = .ok (.aload_n 0, 1) := by decide +kernel
theorem dL_law_534 : decode cL_law 534 = .ok (.iload 4, 2) := by decide +kernel
theorem dL_law_536 : decode cL_law 536 = .ok (.iconst 1, 1) := by decide +kernel
theorem dL_law_537 : decode cL_law 537 = .ok (.iadd, 1) := by decide +kernel
theorem dL_law_538 : decode cL_law 538 = .ok (.iaload, 1) := by decide +kernel
theorem dL_law_539 : decode cL_law 539 = .ok (.aload_n 0, 1) := by decide +kernel
theorem dL_law_540 : decode cL_law 540 = .ok (.iload 4, 2) := by decide +kernel
theorem dL_law_542 : decode cL_law 542 = .ok (.iconst 2, 1) := by decide +kernel
theorem dL_law_543 : decode cL_law 543 = .ok (.iadd, 1) := by decide +kernel
theorem dL_law_544 : decode cL_law 544 = .ok (.iaload, 1) := by decide +kernel
theorem dL_law_545 : decode cL_law 545 = .ok (.aload_n 3, 1) := by decide +kernel
theorem dL_law_546 : decode cL_law 546 = .ok (.invokestatic 93, 3) := by decide +kernel
theorem dL_law_549 : decode cL_law 549 = .ok (.istore 5, 2) := by decide +kernel
theorem dL_law_551 : decode cL_law 551 = .ok (.aload_n 2, 1) := by decide +kernel
theorem dL_law_552 : decode cL_law 552 = .ok (.aload_n 0, 1) := by decide +kernel
theorem dL_law_553 : decode cL_law 553 = .ok (.iload 4, 2) := by decide +kernel
theorem dL_law_555 : decode cL_law 555 = .ok (.iconst 1, 1) := by decide +kernel
theorem dL_law_556 : decode cL_law 556 = .ok (.iadd, 1) := by decide +kernel
theorem dL_law_557 : decode cL_law 557 = .ok (.iaload, 1) := by decide +kernel
theorem dL_law_558 : decode cL_law 558 = .ok (.aload_n 0, 1) := by decide +kernel
theorem dL_law_559 : decode cL_law 559 = .ok (.iload 4, 2) := by decide +kernel
theorem dL_law_561 : decode cL_law 561 = .ok (.iconst 2, 1) := by decide +kernel
theorem dL_law_562 : decode cL_law 562 = .ok (.iadd, 1) := by decide +kernel
theorem dL_law_563 : decode cL_law 563 = .ok (.iaload, 1) := by decide +kernel
theorem dL_law_564 : decode cL_law 564 = .ok (.invokevirtual 95, 3) := by decide +kernel
theorem dL_law_567 : decode cL_law 567 = .ok (.istore 6, 2) := by decide +kernel
theorem dL_law_569 : decode cL_law 569 = .ok (.aload_n 2, 1) := by decide +kernel
theorem dL_law_570 : decode cL_law 570 = .ok (.invokevirtual 74, 3) := by decide +kernel
theorem dL_law_573 : decode cL_law 573 = .ok (.iload 5, 2) := by decide +kernel
theorem dL_law_575 : decode cL_law 575 = .ok (.if_icmp .eq 5, 3) := by decide +kernel
theorem dL_law_578 : decode cL_law 578 = .ok (.iconst 0, 1) := by decide +kernel
theorem dL_law_579 : decode cL_law 579 = .ok (.ireturn, 1) := by decide +kernel
theorem dL_law_580 : decode cL_law 580 = .ok (.iload 5, 2) := by decide +kernel
theorem dL_law_582 : decode cL_law 582 = .ok (.ifCond .ne 15, 3) := by decide +kernel
theorem dL_law_585 : decode cL_law 585 = .ok (.aload_n 3, 1) := by decide +kernel
theorem dL_law_586 : decode cL_law 586 = .ok (.iconst 0, 1) := by decide +kernel
theorem dL_law_587 : decode cL_law 587 = .ok (.laload, 1) := by decide +kernel
theorem dL_law_588 : decode cL_law 588 = .ok (.iload 6, 2) := by decide +kernel
theorem dL_law_590 : decode cL_law 590 = .ok (.i2l, 1) := by decide +kernel
theorem dL_law_591 : decode cL_law 591 = .ok (.lcmp, 1) := by decide +kernel
theorem dL_law_592 : decode cL_law 592 = .ok (.ifCond .eq 5, 3) := by decide +kernel
theorem dL_law_595 : decode cL_law 595 = .ok (.iconst 0, 1) := by decide +kernel
theorem dL_law_596 : decode cL_law 596 = .ok (.ireturn, 1) := by decide +kernel
theorem dL_law_597 : decode cL_law 597 = .ok (.goto 623, 3) := by decide +kernel
theorem dL_law_600 : decode cL_law 600 = .ok (.aload_n 1, 1) := by decide +kernel
theorem dL_law_601 : decode cL_law 601 = .ok (.aload_n 0, 1) := by decide +kernel
theorem dL_law_602 : decode cL_law 602 = .ok (.iload 4, 2) := by decide +kernel
theorem dL_law_604 : decode cL_law 604 = .ok (.iconst 1, 1) := by decide +kernel
theorem dL_law_605 : decode cL_law 605 = .ok (.iadd, 1) := by decide +kernel
theorem dL_law_606 : decode cL_law 606 = .ok (.iaload, 1) := by decide +kernel
theorem dL_law_607 : decode cL_law 607 = .ok (.aload_n 0, 1) := by decide +kernel
theorem dL_law_608 : decode cL_law 608 = .ok (.iload 4, 2) := by decide +kernel
theorem dL_law_610 : decode cL_law 610 = .ok (.iconst 2, 1) := by decide +kernel
theorem dL_law_611 : decode cL_law 611 = .ok (.iadd, 1) := by decide +kernel
theorem dL_law_612 : decode cL_law 612 = .ok (.iaload, 1) := by decide +kernel
theorem dL_law_613 : decode cL_law 613 = .ok (.aload_n 3, 1) := by decide +kernel
theorem dL_law_614 : decode cL_law 614 = .ok (.invokestatic 96, 3) := by decide +kernel
theorem dL_law_617 : decode cL_law 617 = .ok (.istore 5, 2) := by decide +kernel
theorem dL_law_619 : decode cL_law 619 = .ok (.aload_n 2, 1) := by decide +kernel
theorem dL_law_620 : decode cL_law 620 = .ok (.aload_n 0, 1) := by decide +kernel
theorem dL_law_621 : decode cL_law 621 = .ok (.iload 4, 2) := by decide +kernel
theorem dL_law_623 : decode cL_law 623 = .ok (.iconst 1, 1) := by decide +kernel
theorem dL_law_624 : decode cL_law 624 = .ok (.iadd, 1) := by decide +kernel
theorem dL_law_625 : decode cL_law 625 = .ok (.iaload, 1) := by decide +kernel
theorem dL_law_626 : decode cL_law 626 = .ok (.aload_n 0, 1) := by decide +kernel
theorem dL_law_627 : decode cL_law 627 = .ok (.iload 4, 2) := by decide +kernel
theorem dL_law_629 : decode cL_law 629 = .ok (.iconst 2, 1) := by decide +kernel
theorem dL_law_630 : decode cL_law 630 = .ok (.iadd, 1) := by decide +kernel
theorem dL_law_631 : decode cL_law 631 = .ok (.iaload, 1) := by decide +kernel
theorem dL_law_632 : decode cL_law 632 = .ok (.invokevirtual 98, 3) := by decide +kernel
theorem dL_law_635 : decode cL_law 635 = .ok (.istore 6, 2) := by decide +kernel
theorem dL_law_637 : decode cL_law 637 = .ok (.aload_n 2, 1) := by decide +kernel
theorem dL_law_638 : decode cL_law 638 = .ok (.invokevirtual 74, 3) := by decide +kernel
theorem dL_law_641 : decode cL_law 641 = .ok (.iload 5, 2) := by decide +kernel
theorem dL_law_643 : decode cL_law 643 = .ok (.if_icmp .eq 5, 3) := by decide +kernel
theorem dL_law_646 : decode cL_law 646 = .ok (.iconst 0, 1) := by decide +kernel
theorem dL_law_647 : decode cL_law 647 = .ok (.ireturn, 1) := by decide +kernel
theorem dL_law_648 : decode cL_law 648 = .ok (.iload 5, 2) := by decide +kernel
theorem dL_law_650 : decode cL_law 650 = .ok (.ifCond .ne 15, 3) := by decide +kernel
theorem dL_law_653 : decode cL_law 653 = .ok (.aload_n 3, 1) := by decide +kernel
theorem dL_law_654 : decode cL_law 654 = .ok (.iconst 0, 1) := by decide +kernel
theorem dL_law_655 : decode cL_law 655 = .ok (.laload, 1) := by decide +kernel
theorem dL_law_656 : decode cL_law 656 = .ok (.iload 6, 2) := by decide +kernel
theorem dL_law_658 : decode cL_law 658 = .ok (.i2l, 1) := by decide +kernel
theorem dL_law_659 : decode cL_law 659 = .ok (.lcmp, 1) := by decide +kernel
theorem dL_law_660 : decode cL_law 660 = .ok (.ifCond .eq 5, 3) := by decide +kernel
theorem dL_law_663 : decode cL_law 663 = .ok (.iconst 0, 1) := by decide +kernel
theorem dL_law_664 : decode cL_law 664 = .ok (.ireturn, 1) := by decide +kernel
theorem dL_law_665 : decode cL_law 665 = .ok (.goto 555, 3) := by decide +kernel
theorem dL_law_668 : decode cL_law 668 = .ok (.aload_n 1, 1) := by decide +kernel
theorem dL_law_669 : decode cL_law 669 = .ok (.aload_n 0, 1) := by decide +kernel
theorem dL_law_670 : decode cL_law 670 = .ok (.iload 4, 2) := by decide +kernel
theorem dL_law_672 : decode cL_law 672 = .ok (.iconst 1, 1) := by decide +kernel
theorem dL_law_673 : decode cL_law 673 = .ok (.iadd, 1) := by decide +kernel
theorem dL_law_674 : decode cL_law 674 = .ok (.iaload, 1) := by decide +kernel
theorem dL_law_675 : decode cL_law 675 = .ok (.aload_n 0, 1) := by decide +kernel
theorem dL_law_676 : decode cL_law 676 = .ok (.iload 4, 2) := by decide +kernel
theorem dL_law_678 : decode cL_law 678 = .ok (.iconst 2, 1) := by decide +kernel
theorem dL_law_679 : decode cL_law 679 = .ok (.iadd, 1) := by decide +kernel
theorem dL_law_680 : decode cL_law 680 = .ok (.iaload, 1) := by decide +kernel
theorem dL_law_681 : decode cL_law 681 = .ok (.aload_n 3, 1) := by decide +kernel
theorem dL_law_682 : decode cL_law 682 = .ok (.invokestatic 99, 3) := by decide +kernel
theorem dL_law_685 : decode cL_law 685 = .ok (.istore 5, 2) := by decide +kernel
theorem dL_law_687 : decode cL_law 687 = .ok (.aload_n 2, 1) := by decide +kernel
theorem dL_law_688 : decode cL_law 688 = .ok (.aload_n 0, 1) := by decide +kernel
theorem dL_law_689 : decode cL_law 689 = .ok (.iload 4, 2) := by decide +kernel
theorem dL_law_691 : decode cL_law 691 = .ok (.iconst 1, 1) := by decide +kernel
theorem dL_law_692 : decode cL_law 692 = .ok (.iadd, 1) := by decide +kernel
theorem dL_law_693 : decode cL_law 693 = .ok (.iaload, 1) := by decide +kernel
theorem dL_law_694 : decode cL_law 694 = .ok (.aload_n 0, 1) := by decide +kernel
theorem dL_law_695 : decode cL_law 695 = .ok (.iload 4, 2) := by decide +kernel
theorem dL_law_697 : decode cL_law 697 = .ok (.iconst 2, 1) := by decide +kernel
theorem dL_law_698 : decode cL_law 698 = .ok (.iadd, 1) := by decide +kernel
theorem dL_law_699 : decode cL_law 699 = .ok (.iaload, 1) := by decide +kernel
theorem dL_law_700 : decode cL_law 700 = .ok (.invokevirtual 101, 3) := by decide +kernel
theorem dL_law_703 : decode cL_law 703 = .ok (.istore 6, 2) := by decide +kernel
theorem dL_law_705 : decode cL_law 705 = .ok (.aload_n 2, 1) := by decide +kernel
theorem dL_law_706 : decode cL_law 706 = .ok (.invokevirtual 74, 3) := by decide +kernel
theorem dL_law_709 : decode cL_law 709 = .ok (.iload 5, 2) := by decide +kernel
theorem dL_law_711 : decode cL_law 711 = .ok (.if_icmp .eq 5, 3) := by decide +kernel
theorem dL_law_714 : decode cL_law 714 = .ok (.iconst 0, 1) := by decide +kernel
theorem dL_law_715 : decode cL_law 715 = .ok (.ireturn, 1) := by decide +kernel
theorem dL_law_716 : decode cL_law 716 = .ok (.iload 5, 2) := by decide +kernel
theorem dL_law_718 : decode cL_law 718 = .ok (.ifCond .ne 15, 3) := by decide +kernel
theorem dL_law_721 : decode cL_law 721 = .ok (.aload_n 3, 1) := by decide +kernel
theorem dL_law_722 : decode cL_law 722 = .ok (.iconst 0, 1) := by decide +kernel
theorem dL_law_723 : decode cL_law 723 = .ok (.laload, 1) := by decide +kernel
theorem dL_law_724 : decode cL_law 724 = .ok (.iload 6, 2) := by decide +kernel
theorem dL_law_726 : decode cL_law 726 = .ok (.i2l, 1) := by decide +kernel
theorem dL_law_727 : decode cL_law 727 = .ok (.lcmp, 1) := by decide +kernel
theorem dL_law_728 : decode cL_law 728 = .ok (.ifCond .eq 5, 3) := by decide +kernel
theorem dL_law_731 : decode cL_law 731 = .ok (.iconst 0, 1) := by decide +kernel
theorem dL_law_732 : decode cL_law 732 = .ok (.ireturn, 1) := by decide +kernel
theorem dL_law_733 : decode cL_law 733 = .ok (.goto 487, 3) := by decide +kernel
theorem dL_law_736 : decode cL_law 736 = .ok (.aload_n 1, 1) := by decide +kernel
theorem dL_law_737 : decode cL_law 737 = .ok (.aload_n 0, 1) := by decide +kernel
theorem dL_law_738 : decode cL_law 738 = .ok (.iload 4, 2) := by decide +kernel
theorem dL_law_740 : decode cL_law 740 = .ok (.iconst 1, 1) := by decide +kernel
theorem dL_law_741 : decode cL_law 741 = .ok (.iadd, 1) := by decide +kernel
theorem dL_law_742 : decode cL_law 742 = .ok (.iaload, 1) := by decide +kernel
theorem dL_law_743 : decode cL_law 743 = .ok (.aload_n 0, 1) := by decide +kernel
theorem dL_law_744 : decode cL_law 744 = .ok (.iload 4, 2) := by decide +kernel
theorem dL_law_746 : decode cL_law 746 = .ok (.iconst 2, 1) := by decide +kernel
theorem dL_law_747 : decode cL_law 747 = .ok (.iadd, 1) := by decide +kernel
theorem dL_law_748 : decode cL_law 748 = .ok (.iaload, 1) := by decide +kernel
theorem dL_law_749 : decode cL_law 749 = .ok (.aload_n 3, 1) := by decide +kernel
theorem dL_law_750 : decode cL_law 750 = .ok (.invokestatic 102, 3) := by decide +kernel
theorem dL_law_753 : decode cL_law 753 = .ok (.istore 5, 2) := by decide +kernel
theorem dL_law_755 : decode cL_law 755 = .ok (.aload_n 2, 1) := by decide +kernel
theorem dL_law_756 : decode cL_law 756 = .ok (.aload_n 0, 1) := by decide +kernel
theorem dL_law_757 : decode cL_law 757 = .ok (.iload 4, 2) := by decide +kernel
theorem dL_law_759 : decode cL_law 759 = .ok (.iconst 1, 1) := by decide +kernel
theorem dL_law_760 : decode cL_law 760 = .ok (.iadd, 1) := by decide +kernel
theorem dL_law_761 : decode cL_law 761 = .ok (.iaload, 1) := by decide +kernel
theorem dL_law_762 : decode cL_law 762 = .ok (.aload_n 0, 1) := by decide +kernel
theorem dL_law_763 : decode cL_law 763 = .ok (.iload 4, 2) := by decide +kernel
theorem dL_law_765 : decode cL_law 765 = .ok (.iconst 2, 1) := by decide +kernel
theorem dL_law_766 : decode cL_law 766 = .ok (.iadd, 1) := by decide +kernel
theorem dL_law_767 : decode cL_law 767 = .ok (.iaload, 1) := by decide +kernel
theorem dL_law_768 : decode cL_law 768 = .ok (.invokevirtual 104, 3) := by decide +kernel
theorem dL_law_771 : decode cL_law 771 = .ok (.istore 6, 2) := by decide +kernel
theorem dL_law_773 : decode cL_law 773 = .ok (.aload_n 2, 1) := by decide +kernel
theorem dL_law_774 : decode cL_law 774 = .ok (.invokevirtual 74, 3) := by decide +kernel
theorem dL_law_777 : decode cL_law 777 = .ok (.iload 5, 2) := by decide +kernel
theorem dL_law_779 : decode cL_law 779 = .ok (.if_icmp .eq 5, 3) := by decide +kernel
theorem dL_law_782 : decode cL_law 782 = .ok (.iconst 0, 1) := by decide +kernel
theorem dL_law_783 : decode cL_law 783 = .ok (.ireturn, 1) := by decide +kernel
theorem dL_law_784 : decode cL_law 784 = .ok (.iload 5, 2) := by decide +kernel
theorem dL_law_786 : decode cL_law 786 = .ok (.ifCond .ne 15, 3) := by decide +kernel
theorem dL_law_789 : decode cL_law 789 = .ok (.aload_n 3, 1) := by decide +kernel
theorem dL_law_790 : decode cL_law 790 = .ok (.iconst 0, 1) := by decide +kernel
theorem dL_law_791 : decode cL_law 791 = .ok (.laload, 1) := by decide +kernel
theorem dL_law_792 : decode cL_law 792 = .ok (.iload 6, 2) := by decide +kernel
theorem dL_law_794 : decode cL_law 794 = .ok (.i2l, 1) := by decide +kernel
theorem dL_law_795 : decode cL_law 795 = .ok (.lcmp, 1) := by decide +kernel
theorem dL_law_796 : decode cL_law 796 = .ok (.ifCond .eq 5, 3) := by decide +kernel
theorem dL_law_799 : decode cL_law 799 = .ok (.iconst 0, 1) := by decide +kernel
theorem dL_law_800 : decode cL_law 800 = .ok (.ireturn, 1) := by decide +kernel
theorem dL_law_801 : decode cL_law 801 = .ok (.goto 419, 3) := by decide +kernel
theorem dL_law_804 : decode cL_law 804 = .ok (.aload_n 1, 1) := by decide +kernel
theorem dL_law_805 : decode cL_law 805 = .ok (.aload_n 0, 1) := by decide +kernel
theorem dL_law_806 : decode cL_law 806 = .ok (.iload 4, 2) := by decide +kernel
theorem dL_law_808 : decode cL_law 808 = .ok (.iconst 1, 1) := by decide +kernel
theorem dL_law_809 : decode cL_law 809 = .ok (.iadd, 1) := by decide +kernel
theorem dL_law_810 : decode cL_law 810 = .ok (.iaload, 1) := by decide +kernel
theorem dL_law_811 : decode cL_law 811 = .ok (.aload_n 3, 1) := by decide +kernel
theorem dL_law_812 : decode cL_law 812 = .ok (.invokestatic 105, 3) := by decide +kernel
theorem dL_law_815 : decode cL_law 815 = .ok (.istore 5, 2) := by decide +kernel
theorem dL_law_817 : decode cL_law 817 = .ok (.aload_n 2, 1) := by decide +kernel
theorem dL_law_818 : decode cL_law 818 = .ok (.aload_n 0, 1) := by decide +kernel
theorem dL_law_819 : decode cL_law 819 = .ok (.iload 4, 2) := by decide +kernel
theorem dL_law_821 : decode cL_law 821 = .ok (.iconst 1, 1) := by decide +kernel
theorem dL_law_822 : decode cL_law 822 = .ok (.iadd, 1) := by decide +kernel
theorem dL_law_823 : decode cL_law 823 = .ok (.iaload, 1) := by decide +kernel
theorem dL_law_824 : decode cL_law 824 = .ok (.invokevirtual 107, 3) := by decide +kernel
theorem dL_law_827 : decode cL_law 827 = .ok (.istore 6, 2) := by decide +kernel
theorem dL_law_829 : decode cL_law 829 = .ok (.aload_n 2, 1) := by decide +kernel
theorem dL_law_830 : decode cL_law 830 = .ok (.invokevirtual 74, 3) := by decide +kernel
theorem dL_law_833 : decode cL_law 833 = .ok (.iload 5, 2) := by decide +kernel
theorem dL_law_835 : decode cL_law 835 = .ok (.if_icmp .eq 5, 3) := by decide +kernel
theorem dL_law_838 : decode cL_law 838 = .ok (.iconst 0, 1) := by decide +kernel
theorem dL_law_839 : decode cL_law 839 = .ok (.ireturn, 1) := by decide +kernel
theorem dL_law_840 : decode cL_law 840 = .ok (.iload 5, 2) := by decide +kernel
theorem dL_law_842 : decode cL_law 842 = .ok (.ifCond .ne 15, 3) := by decide +kernel
theorem dL_law_845 : decode cL_law 845 = .ok (.aload_n 3, 1) := by decide +kernel
theorem dL_law_846 : decode cL_law 846 = .ok (.iconst 0, 1) := by decide +kernel
theorem dL_law_847 : decode cL_law 847 = .ok (.laload, 1) := by decide +kernel
theorem dL_law_848 : decode cL_law 848 = .ok (.iload 6, 2) := by decide +kernel
theorem dL_law_850 : decode cL_law 850 = .ok (.i2l, 1) := by decide +kernel
theorem dL_law_851 : decode cL_law 851 = .ok (.lcmp, 1) := by decide +kernel
theorem dL_law_852 : decode cL_law 852 = .ok (.ifCond .eq 5, 3) := by decide +kernel
theorem dL_law_855 : decode cL_law 855 = .ok (.iconst 0, 1) := by decide +kernel
theorem dL_law_856 : decode cL_law 856 = .ok (.ireturn, 1) := by decide +kernel
theorem dL_law_857 : decode cL_law 857 = .ok (.goto 363, 3) := by decide +kernel
theorem dL_law_860 : decode cL_law 860 = .ok (.aload_n 1, 1) := by decide +kernel
theorem dL_law_861 : decode cL_law 861 = .ok (.aload_n 0, 1) := by decide +kernel
theorem dL_law_862 : decode cL_law 862 = .ok (.iload 4, 2) := by decide +kernel
theorem dL_law_864 : decode cL_law 864 = .ok (.iconst 1, 1) := by decide +kernel
theorem dL_law_865 : decode cL_law 865 = .ok (.iadd, 1) := by decide +kernel
theorem dL_law_866 : decode cL_law 866 = .ok (.iaload, 1) := by decide +kernel
theorem dL_law_867 : decode cL_law 867 = .ok (.aload_n 3, 1) := by decide +kernel
theorem dL_law_868 : decode cL_law 868 = .ok (.invokestatic 108, 3) := by decide +kernel
theorem dL_law_871 : decode cL_law 871 = .ok (.istore 5, 2) := by decide +kernel
theorem dL_law_873 : decode cL_law 873 = .ok (.aload_n 2, 1) := by decide +kernel
theorem dL_law_874 : decode cL_law 874 = .ok (.aload_n 0, 1) := by decide +kernel
theorem dL_law_875 : decode cL_law 875 = .ok (.iload 4, 2) := by decide +kernel
theorem dL_law_877 : decode cL_law 877 = .ok (.iconst 1, 1) := by decide +kernel
theorem dL_law_878 : decode cL_law 878 = .ok (.iadd, 1) := by decide +kernel
theorem dL_law_879 : decode cL_law 879 = .ok (.iaload, 1) := by decide +kernel
theorem dL_law_880 : decode cL_law 880 = .ok (.invokevirtual 110, 3) := by decide +kernel
theorem dL_law_883 : decode cL_law 883 = .ok (.istore 6, 2) := by decide +kernel
theorem dL_law_885 : decode cL_law 885 = .ok (.aload_n 2, 1) := by decide +kernel
theorem dL_law_886 : decode cL_law 886 = .ok (.invokevirtual 74, 3) := by decide +kernel
theorem dL_law_889 : decode cL_law 889 = .ok (.iload 5, 2) := by decide +kernel
theorem dL_law_891 : decode cL_law 891 = .ok (.if_icmp .eq 5, 3) := by decide +kernel
theorem dL_law_894 : decode cL_law 894 = .ok (.iconst 0, 1) := by decide +kernel
theorem dL_law_895 : decode cL_law 895 = .ok (.ireturn, 1) := by decide +kernel
theorem dL_law_896 : decode cL_law 896 = .ok (.iload 5, 2) := by decide +kernel
theorem dL_law_898 : decode cL_law 898 = .ok (.ifCond .ne 15, 3) := by decide +kernel
theorem dL_law_901 : decode cL_law 901 = .ok (.aload_n 3, 1) := by decide +kernel
theorem dL_law_902 : decode cL_law 902 = .ok (.iconst 0, 1) := by decide +kernel
theorem dL_law_903 : decode cL_law 903 = .ok (.laload, 1) := by decide +kernel
theorem dL_law_904 : decode cL_law 904 = .ok (.iload 6, 2) := by decide +kernel
theorem dL_law_906 : decode cL_law 906 = .ok (.i2l, 1) := by decide +kernel
theorem dL_law_907 : decode cL_law 907 = .ok (.lcmp, 1) := by decide +kernel
theorem dL_law_908 : decode cL_law 908 = .ok (.ifCond .eq 5, 3) := by decide +kernel
theorem dL_law_911 : decode cL_law 911 = .ok (.iconst 0, 1) := by decide +kernel
theorem dL_law_912 : decode cL_law 912 = .ok (.ireturn, 1) := by decide +kernel
theorem dL_law_913 : decode cL_law 913 = .ok (.goto 307, 3) := by decide +kernel
theorem dL_law_916 : decode cL_law 916 = .ok (.aload_n 1, 1) := by decide +kernel
theorem dL_law_917 : decode cL_law 917 = .ok (.aload_n 0, 1) := by decide +kernel
theorem dL_law_918 : decode cL_law 918 = .ok (.iload 4, 2) := by decide +kernel
theorem dL_law_920 : decode cL_law 920 = .ok (.iconst 1, 1) := by decide +kernel
theorem dL_law_921 : decode cL_law 921 = .ok (.iadd, 1) := by decide +kernel
theorem dL_law_922 : decode cL_law 922 = .ok (.iaload, 1) := by decide +kernel
theorem dL_law_923 : decode cL_law 923 = .ok (.aload_n 3, 1) := by decide +kernel
theorem dL_law_924 : decode cL_law 924 = .ok (.invokestatic 111, 3) := by decide +kernel
theorem dL_law_927 : decode cL_law 927 = .ok (.istore 5, 2) := by decide +kernel
theorem dL_law_929 : decode cL_law 929 = .ok (.aload_n 2, 1) := by decide +kernel
theorem dL_law_930 : decode cL_law 930 = .ok (.aload_n 0, 1) := by decide +kernel
theorem dL_law_931 : decode cL_law 931 = .ok (.iload 4, 2) := by decide +kernel
theorem dL_law_933 : decode cL_law 933 = .ok (.iconst 1, 1) := by decide +kernel
theorem dL_law_934 : decode cL_law 934 = .ok (.iadd, 1) := by decide +kernel
theorem dL_law_935 : decode cL_law 935 = .ok (.iaload, 1) := by decide +kernel
theorem dL_law_936 : decode cL_law 936 = .ok (.invokevirtual 113, 3) := by decide +kernel
theorem dL_law_939 : decode cL_law 939 = .ok (.istore 6, 2) := by decide +kernel
theorem dL_law_941 : decode cL_law 941 = .ok (.aload_n 2, 1) := by decide +kernel
theorem dL_law_942 : decode cL_law 942 = .ok (.invokevirtual 74, 3) := by decide +kernel
theorem dL_law_945 : decode cL_law 945 = .ok (.iload 5, 2) := by decide +kernel
theorem dL_law_947 : decode cL_law 947 = .ok (.if_icmp .eq 5, 3) := by decide +kernel
theorem dL_law_950 : decode cL_law 950 = .ok (.iconst 0, 1) := by decide +kernel
theorem dL_law_951 : decode cL_law 951 = .ok (.ireturn, 1) := by decide +kernel
theorem dL_law_952 : decode cL_law 952 = .ok (.iload 5, 2) := by decide +kernel
theorem dL_law_954 : decode cL_law 954 = .ok (.ifCond .ne 15, 3) := by decide +kernel
theorem dL_law_957 : decode cL_law 957 = .ok (.aload_n 3, 1) := by decide +kernel
theorem dL_law_958 : decode cL_law 958 = .ok (.iconst 0, 1) := by decide +kernel
theorem dL_law_959 : decode cL_law 959 = .ok (.laload, 1) := by decide +kernel
theorem dL_law_960 : decode cL_law 960 = .ok (.iload 6, 2) := by decide +kernel
theorem dL_law_962 : decode cL_law 962 = .ok (.i2l, 1) := by decide +kernel
theorem dL_law_963 : decode cL_law 963 = .ok (.lcmp, 1) := by decide +kernel
theorem dL_law_964 : decode cL_law 964 = .ok (.ifCond .eq 5, 3) := by decide +kernel
theorem dL_law_967 : decode cL_law 967 = .ok (.iconst 0, 1) := by decide +kernel
theorem dL_law_968 : decode cL_law 968 = .ok (.ireturn, 1) := by decide +kernel
theorem dL_law_969 : decode cL_law 969 = .ok (.goto 251, 3) := by decide +kernel
theorem dL_law_972 : decode cL_law 972 = .ok (.aload_n 1, 1) := by decide +kernel
theorem dL_law_973 : decode cL_law 973 = .ok (.aload_n 0, 1) := by decide +kernel
theorem dL_law_974 : decode cL_law 974 = .ok (.iload 4, 2) := by decide +kernel
theorem dL_law_976 : decode cL_law 976 = .ok (.iconst 1, 1) := by decide +kernel
theorem dL_law_977 : decode cL_law 977 = .ok (.iadd, 1) := by decide +kernel
theorem dL_law_978 : decode cL_law 978 = .ok (.iaload, 1) := by decide +kernel
theorem dL_law_979 : decode cL_law 979 = .ok (.aload_n 0, 1) := by decide +kernel
theorem dL_law_980 : decode cL_law 980 = .ok (.iload 4, 2) := by decide +kernel
theorem dL_law_982 : decode cL_law 982 = .ok (.iconst 2, 1) := by decide +kernel
theorem dL_law_983 : decode cL_law 983 = .ok (.iadd, 1) := by decide +kernel
theorem dL_law_984 : decode cL_law 984 = .ok (.iaload, 1) := by decide +kernel
theorem dL_law_985 : decode cL_law 985 = .ok (.aload_n 3, 1) := by decide +kernel
theorem dL_law_986 : decode cL_law 986 = .ok (.invokestatic 114, 3) := by decide +kernel
theorem dL_law_989 : decode cL_law 989 = .ok (.istore 5, 2) := by decide +kernel
theorem dL_law_991 : decode cL_law 991 = .ok (.aload_n 2, 1) := by decide +kernel
theorem dL_law_992 : decode cL_law 992 = .ok (.aload_n 0, 1) := by decide +kernel
theorem dL_law_993 : decode cL_law 993 = .ok (.iload 4, 2) := by decide +kernel
theorem dL_law_995 : decode cL_law 995 = .ok (.iconst 1, 1) := by decide +kernel
theorem dL_law_996 : decode cL_law 996 = .ok (.iadd, 1) := by decide +kernel
theorem dL_law_997 : decode cL_law 997 = .ok (.iaload, 1) := by decide +kernel
theorem dL_law_998 : decode cL_law 998 = .ok (.aload_n 0, 1) := by decide +kernel
theorem dL_law_999 : decode cL_law 999 = .ok (.iload 4, 2) := by decide +kernel
theorem dL_law_1001 : decode cL_law 1001 = .ok (.iconst 2, 1) := by decide +kernel
theorem dL_law_1002 : decode cL_law 1002 = .ok (.iadd, 1) := by decide +kernel
theorem dL_law_1003 : decode cL_law 1003 = .ok (.iaload, 1) := by decide +kernel
theorem dL_law_1004 : decode cL_law 1004 = .ok (.invokevirtual 116, 3) := by decide +kernel
theorem dL_law_1007 : decode cL_law 1007 = .ok (.istore 6, 2) := by decide +kernel
theorem dL_law_1009 : decode cL_law 1009 = .ok (.aload_n 2, 1) := by decide +kernel
theorem dL_law_1010 : decode cL_law 1010 = .ok (.invokevirtual 74, 3) := by decide +kernel
theorem dL_law_1013 : decode cL_law 1013 = .ok (.iload 5, 2) := by decide +kernel
theorem dL_law_1015 : decode cL_law 1015 = .ok (.if_icmp .eq 5, 3) := by decide +kernel
theorem dL_law_1018 : decode cL_law 1018 = .ok (.iconst 0, 1) := by decide +kernel
theorem dL_law_1019 : decode cL_law 1019 = .ok (.ireturn, 1) := by decide +kernel
theorem dL_law_1020 : decode cL_law 1020 = .ok (.iload 5, 2) := by decide +kernel
theorem dL_law_1022 : decode cL_law 1022 = .ok (.ifCond .ne 15, 3) := by decide +kernel
theorem dL_law_1025 : decode cL_law 1025 = .ok (.aload_n 3, 1) := by decide +kernel
theorem dL_law_1026 : decode cL_law 1026 = .ok (.iconst 0, 1) := by decide +kernel
theorem dL_law_1027 : decode cL_law 1027 = .ok (.laload, 1) := by decide +kernel
theorem dL_law_1028 : decode cL_law 1028 = .ok (.iload 6, 2) := by decide +kernel
theorem dL_law_1030 : decode cL_law 1030 = .ok (.i2l, 1) := by decide +kernel
theorem dL_law_1031 : decode cL_law 1031 = .ok (.lcmp, 1) := by decide +kernel
theorem dL_law_1032 : decode cL_law 1032 = .ok (.ifCond .eq 5, 3) := by decide +kernel
theorem dL_law_1035 : decode cL_law 1035 = .ok (.iconst 0, 1) := by decide +kernel
theorem dL_law_1036 : decode cL_law 1036 = .ok (.ireturn, 1) := by decide +kernel
theorem dL_law_1037 : decode cL_law 1037 = .ok (.goto 183, 3) := by decide +kernel
theorem dL_law_1040 : decode cL_law 1040 = .ok (.aload_n 1, 1) := by decide +kernel
theorem dL_law_1041 : decode cL_law 1041 = .ok (.aload_n 0, 1) := by decide +kernel
theorem dL_law_1042 : decode cL_law 1042 = .ok (.iload 4, 2) := by decide +kernel
theorem dL_law_1044 : decode cL_law 1044 = .ok (.iconst 1, 1) := by decide +kernel
theorem dL_law_1045 : decode cL_law 1045 = .ok (.iadd, 1) := by decide +kernel
theorem dL_law_1046 : decode cL_law 1046 = .ok (.iaload, 1) := by decide +kernel
theorem dL_law_1047 : decode cL_law 1047 = .ok (.aload_n 3, 1) := by decide +kernel
theorem dL_law_1048 : decode cL_law 1048 = .ok (.invokestatic 117, 3) := by decide +kernel
theorem dL_law_1051 : decode cL_law 1051 = .ok (.istore 5, 2) := by decide +kernel
theorem dL_law_1053 : decode cL_law 1053 = .ok (.aload_n 2, 1) := by decide +kernel
theorem dL_law_1054 : decode cL_law 1054 = .ok (.aload_n 0, 1) := by decide +kernel
theorem dL_law_1055 : decode cL_law 1055 = .ok (.iload 4, 2) := by decide +kernel
theorem dL_law_1057 : decode cL_law 1057 = .ok (.iconst 1, 1) := by decide +kernel
theorem dL_law_1058 : decode cL_law 1058 = .ok (.iadd, 1) := by decide +kernel
theorem dL_law_1059 : decode cL_law 1059 = .ok (.iaload, 1) := by decide +kernel
theorem dL_law_1060 : decode cL_law 1060 = .ok (.invokevirtual 119, 3) := by decide +kernel
theorem dL_law_1063 : decode cL_law 1063 = .ok (.istore 6, 2) := by decide +kernel
theorem dL_law_1065 : decode cL_law 1065 = .ok (.aload_n 2, 1) := by decide +kernel
theorem dL_law_1066 : decode cL_law 1066 = .ok (.invokevirtual 74, 3) := by decide +kernel
theorem dL_law_1069 : decode cL_law 1069 = .ok (.iload 5, 2) := by decide +kernel
theorem dL_law_1071 : decode cL_law 1071 = .ok (.if_icmp .eq 5, 3) := by decide +kernel
theorem dL_law_1074 : decode cL_law 1074 = .ok (.iconst 0, 1) := by decide +kernel
theorem dL_law_1075 : decode cL_law 1075 = .ok (.ireturn, 1) := by decide +kernel
theorem dL_law_1076 : decode cL_law 1076 = .ok (.iload 5, 2) := by decide +kernel
theorem dL_law_1078 : decode cL_law 1078 = .ok (.ifCond .ne 15, 3) := by decide +kernel
theorem dL_law_1081 : decode cL_law 1081 = .ok (.aload_n 3, 1) := by decide +kernel
theorem dL_law_1082 : decode cL_law 1082 = .ok (.iconst 0, 1) := by decide +kernel
theorem dL_law_1083 : decode cL_law 1083 = .ok (.laload, 1) := by decide +kernel
theorem dL_law_1084 : decode cL_law 1084 = .ok (.iload 6, 2) := by decide +kernel
theorem dL_law_1086 : decode cL_law 1086 = .ok (.i2l, 1) := by decide +kernel
theorem dL_law_1087 : decode cL_law 1087 = .ok (.lcmp, 1) := by decide +kernel
theorem dL_law_1088 : decode cL_law 1088 = .ok (.ifCond .eq 5, 3) := by decide +kernel
theorem dL_law_1091 : decode cL_law 1091 = .ok (.iconst 0, 1) := by decide +kernel
theorem dL_law_1092 : decode cL_law 1092 = .ok (.ireturn, 1) := by decide +kernel
theorem dL_law_1093 : decode cL_law 1093 = .ok (.goto 127, 3) := by decide +kernel
theorem dL_law_1096 : decode cL_law 1096 = .ok (.aload_n 1, 1) := by decide +kernel
theorem dL_law_1097 : decode cL_law 1097 = .ok (.aload_n 0, 1) := by decide +kernel
theorem dL_law_1098 : decode cL_law 1098 = .ok (.iload 4, 2) := by decide +kernel
theorem dL_law_1100 : decode cL_law 1100 = .ok (.iconst 1, 1) := by decide +kernel
theorem dL_law_1101 : decode cL_law 1101 = .ok (.iadd, 1) := by decide +kernel
theorem dL_law_1102 : decode cL_law 1102 = .ok (.iaload, 1) := by decide +kernel
theorem dL_law_1103 : decode cL_law 1103 = .ok (.aload_n 3, 1) := by decide +kernel
theorem dL_law_1104 : decode cL_law 1104 = .ok (.invokestatic 120, 3) := by decide +kernel
theorem dL_law_1107 : decode cL_law 1107 = .ok (.istore 5, 2) := by decide +kernel
theorem dL_law_1109 : decode cL_law 1109 = .ok (.aload_n 2, 1) := by decide +kernel
theorem dL_law_1110 : decode cL_law 1110 = .ok (.aload_n 0, 1) := by decide +kernel
theorem dL_law_1111 : decode cL_law 1111 = .ok (.iload 4, 2) := by decide +kernel
theorem dL_law_1113 : decode cL_law 1113 = .ok (.iconst 1, 1) := by decide +kernel
theorem dL_law_1114 : decode cL_law 1114 = .ok (.iadd, 1) := by decide +kernel
theorem dL_law_1115 : decode cL_law 1115 = .ok (.iaload, 1) := by decide +kernel
theorem dL_law_1116 : decode cL_law 1116 = .ok (.invokevirtual 122, 3) := by decide +kernel
theorem dL_law_1119 : decode cL_law 1119 = .ok (.istore 6, 2) := by decide +kernel
theorem dL_law_1121 : decode cL_law 1121 = .ok (.aload_n 2, 1) := by decide +kernel
theorem dL_law_1122 : decode cL_law 1122 = .ok (.invokevirtual 74, 3) := by decide +kernel
theorem dL_law_1125 : decode cL_law 1125 = .ok (.iload 5, 2) := by decide +kernel
theorem dL_law_1127 : decode cL_law 1127 = .ok (.if_icmp .eq 5, 3) := by decide +kernel
theorem dL_law_1130 : decode cL_law 1130 = .ok (.iconst 0, 1) := by decide +kernel
theorem dL_law_1131 : decode cL_law 1131 = .ok (.ireturn, 1) := by decide +kernel
theorem dL_law_1132 : decode cL_law 1132 = .ok (.iload 5, 2) := by decide +kernel
theorem dL_law_1134 : decode cL_law 1134 = .ok (.ifCond .ne 15, 3) := by decide +kernel
theorem dL_law_1137 : decode cL_law 1137 = .ok (.aload_n 3, 1) := by decide +kernel
theorem dL_law_1138 : decode cL_law 1138 = .ok (.iconst 0, 1) := by decide +kernel
theorem dL_law_1139 : decode cL_law 1139 = .ok (.laload, 1) := by decide +kernel
theorem dL_law_1140 : decode cL_law 1140 = .ok (.iload 6, 2) := by decide +kernel
theorem dL_law_1142 : decode cL_law 1142 = .ok (.i2l, 1) := by decide +kernel
theorem dL_law_1143 : decode cL_law 1143 = .ok (.lcmp, 1) := by decide +kernel
theorem dL_law_1144 : decode cL_law 1144 = .ok (.ifCond .eq 5, 3) := by decide +kernel
theorem dL_law_1147 : decode cL_law 1147 = .ok (.iconst 0, 1) := by decide +kernel
theorem dL_law_1148 : decode cL_law 1148 = .ok (.ireturn, 1) := by decide +kernel
theorem dL_law_1149 : decode cL_law 1149 = .ok (.goto 71, 3) := by decide +kernel
theorem dL_law_1152 : decode cL_law 1152 = .ok (.aload_n 1, 1) := by decide +kernel
theorem dL_law_1153 : decode cL_law 1153 = .ok (.invokevirtual 123, 3) := by decide +kernel
theorem dL_law_1156 : decode cL_law 1156 = .ok (.aload_n 2, 1) := by decide +kernel
theorem dL_law_1157 : decode cL_law 1157 = .ok (.invokevirtual 126, 3) := by decide +kernel
theorem dL_law_1160 : decode cL_law 1160 = .ok (.if_icmp .eq 60, 3) := by decide +kernel
theorem dL_law_1163 : decode cL_law 1163 = .ok (.iconst 0, 1) := by decide +kernel
theorem dL_law_1164 : decode cL_law 1164 = .ok (.ireturn, 1) := by decide +kernel
theorem dL_law_1165 : decode cL_law 1165 = .ok (.aload_n 1, 1) := by decide +kernel
theorem dL_law_1166 : decode cL_law 1166 = .ok (.invokevirtual 127, 3) := by decide +kernel
theorem dL_law_1169 : decode cL_law 1169 = .ok (.dstore 5, 2) := by decide +kernel
theorem dL_law_1171 : decode cL_law 1171 = .ok (.aload_n 2, 1) := by decide +kernel
theorem dL_law_1172 : decode cL_law 1172 = .ok (.invokevirtual 131, 3) := by decide +kernel
theorem dL_law_1175 : decode cL_law 1175 = .ok (.dstore 7, 2) := by decide +kernel
theorem dL_law_1177 : decode cL_law 1177 = .ok (.dload 5, 2) := by decide +kernel
theorem dL_law_1179 : decode cL_law 1179 = .ok (.dload 7, 2) := by decide +kernel
theorem dL_law_1181 : decode cL_law 1181 = .ok (.dcmp .l, 1) := by decide +kernel
theorem dL_law_1182 : decode cL_law 1182 = .ok (.ifCond .eq 21, 3) := by decide +kernel
theorem dL_law_1185 : decode cL_law 1185 = .ok (.dload 5, 2) := by decide +kernel
theorem dL_law_1187 : decode cL_law 1187 = .ok (.dload 5, 2) := by decide +kernel
theorem dL_law_1189 : decode cL_law 1189 = .ok (.dcmp .l, 1) := by decide +kernel
theorem dL_law_1190 : decode cL_law 1190 = .ok (.ifCond .eq 11, 3) := by decide +kernel
theorem dL_law_1193 : decode cL_law 1193 = .ok (.dload 7, 2) := by decide +kernel
theorem dL_law_1195 : decode cL_law 1195 = .ok (.dload 7, 2) := by decide +kernel
theorem dL_law_1197 : decode cL_law 1197 = .ok (.dcmp .l, 1) := by decide +kernel
theorem dL_law_1198 : decode cL_law 1198 = .ok (.ifCond .ne 5, 3) := by decide +kernel
theorem dL_law_1201 : decode cL_law 1201 = .ok (.iconst 0, 1) := by decide +kernel
theorem dL_law_1202 : decode cL_law 1202 = .ok (.ireturn, 1) := by decide +kernel
theorem dL_law_1203 : decode cL_law 1203 = .ok (.goto 17, 3) := by decide +kernel
theorem dL_law_1206 : decode cL_law 1206 = .ok (.aload_n 1, 1) := by decide +kernel
theorem dL_law_1207 : decode cL_law 1207 = .ok (.invokevirtual 132, 3) := by decide +kernel
theorem dL_law_1210 : decode cL_law 1210 = .ok (.aload_n 2, 1) := by decide +kernel
theorem dL_law_1211 : decode cL_law 1211 = .ok (.invokevirtual 136, 3) := by decide +kernel
theorem dL_law_1214 : decode cL_law 1214 = .ok (.lcmp, 1) := by decide +kernel
theorem dL_law_1215 : decode cL_law 1215 = .ok (.ifCond .eq 5, 3) := by decide +kernel
theorem dL_law_1218 : decode cL_law 1218 = .ok (.iconst 0, 1) := by decide +kernel
theorem dL_law_1219 : decode cL_law 1219 = .ok (.ireturn, 1) := by decide +kernel
theorem dL_law_1220 : decode cL_law 1220 = .ok (.iinc 4 6, 3) := by decide +kernel
theorem dL_law_1223 : decode cL_law 1223 = .ok (.goto (-1200), 3) := by decide +kernel
theorem dL_law_1226 : decode cL_law 1226 = .ok (.iconst 1, 1) := by decide +kernel
theorem dL_law_1227 : decode cL_law 1227 = .ok (.ireturn, 1) := by decide +kernel
abbrev vwCl : List vw_C := [(RX0, TX0, 10), (RX1, TX1, 2), (RX2, TX2, 6), (RX3, TX3, 3), (RX4, TX4, 3), (RX5, TX5, 8), (RX6, TX6, 8)]

theorem inX4 : ∀ w ∈ wsX40, w ∈ lw_tbl := fun w h => wsL_law_in w (inlX4 w h)
theorem inlX5 : ∀ w ∈ wsX50, w ∈ wsL_law := fun _ h => List.mem_append_left _ (List.mem_append_left _ (List.mem_append_left _ (List.mem_append_left _ (List.mem_append_right _ h))))
theorem inX5 : ∀ w ∈ wsX50, w ∈ lw_tbl := fun w h => wsL_law_in w (inlX5 w h)
theorem inlX6 : ∀ w ∈ wsX60, w ∈ wsL_law := fun _ h => List.mem_append_left _ (List.mem_append_left _ (List.mem_append_left _ (List.mem_append_left _ (List.mem_append_left _ (List.mem_append_left _ (List.mem_append_left _ (List.mem_append_left _ (List.mem_append_left _ (List.mem_append_right _ h)))))))))
theorem inX6 : ∀ w ∈ wsX60, w ∈ lw_tbl := fun w h => wsL_law_in w (inlX6 w h)
theorem inJx145de : ∀ w ∈ wsJx145de0, w ∈ lw_tbl := by decide +kernel
theorem inJ9 : ∀ w ∈ wsJ90, w ∈ lw_tbl := by decide +kernel
theorem inJ0 : ∀ w ∈ wsJ00, w ∈ lw_tbl := by decide +kernel
theorem inJ10 : ∀ w ∈ wsJ100, w ∈ lw_tbl := by decide +kernel
theorem inJ7 : ∀ w ∈ wsJ70, w ∈ lw_tbl := by decide +kernel
theorem dX0_init_0 : decode cX0_init 0 = .ok (.aload_n 0, 1) := by decide +kernel
theorem dX0_init_1 : decode cX0_init 1 = .ok (.invokespecial 3, 3) := by decide +kernel
theorem dX0_init_4 : decode cX0_init 4 = .ok (.aload_n 0, 1) := by decide +kernel
theorem dX0_init_5 : decode cX0_init 5 = .ok (.bipush 8, 2) := by decide +kernel
theorem dX0_init_7 : decode cX0_init 7 = .ok (.newarray .int, 2) := by decide +kernel
theorem dX0_init_9 : decode cX0_init 9 = .ok (.putfield 9, 3) := by decide +kernel
theorem dX0_init_12 : decode cX0_init 12 = .ok (.aload_n 0, 1) := by decide +kernel
theorem dX0_init_13 : decode cX0_init 13 = .ok (.bipush 8, 2) := by decide +kernel
theorem dX0_init_15 : decode cX0_init 15 = .ok (.newarray .int, 2) := by decide +kernel
theorem dX0_init_17 : decode cX0_init 17 = .ok (.putfield 15, 3) := by decide +kernel
theorem dX0_init_20 : decode cX0_init 20 = .ok (.aload_n 0, 1) := by decide +kernel
theorem dX0_init_21 : decode cX0_init 21 = .ok (.bipush 8, 2) := by decide +kernel
theorem dX0_init_23 : decode cX0_init 23 = .ok (.newarray .int, 2) := by decide +kernel
theorem dX0_init_25 : decode cX0_init 25 = .ok (.putfield 18, 3) := by decide +kernel
theorem dX0_init_28 : decode cX0_init 28 = .ok (.aload_n 0, 1) := by decide +kernel
theorem dX0_init_29 : decode cX0_init 29 = .ok (.bipush 8, 2) := by decide +kernel
theorem dX0_init_31 : decode cX0_init 31 = .ok (.newarray .int, 2) := by decide +kernel
theorem dX0_init_33 : decode cX0_init 33 = .ok (.putfield 21, 3) := by decide +kernel
theorem dX0_init_36 : decode cX0_init 36 = .ok (.aload_n 0, 1) := by decide +kernel
theorem dX0_init_37 : decode cX0_init 37 = .ok (.bipush 8, 2) := by decide +kernel
theorem dX0_init_39 : decode cX0_init 39 = .ok (.newarray .int, 2) := by decide +kernel
theorem dX0_init_41 : decode cX0_init 41 = .ok (.putfield 24, 3) := by decide +kernel
theorem dX0_init_44 : decode cX0_init 44 = .ok (.aload_n 0, 1) := by decide +kernel
theorem dX0_init_45 : decode cX0_init 45 = .ok (.bipush 8, 2) := by decide +kernel
theorem dX0_init_47 : decode cX0_init 47 = .ok (.newarray .int, 2) := by decide +kernel
theorem dX0_init_49 : decode cX0_init 49 = .ok (.putfield 27, 3) := by decide +kernel
theorem dX0_init_52 : decode cX0_init 52 = .ok (.aload_n 0, 1) := by decide +kernel
theorem dX0_init_53 : decode cX0_init 53 = .ok (.bipush 8, 2) := by decide +kernel
theorem dX0_init_55 : decode cX0_init 55 = .ok (.newarray .int, 2) := by decide +kernel
theorem dX0_init_57 : decode cX0_init 57 = .ok (.putfield 30, 3) := by decide +kernel
theorem dX0_init_60 : decode cX0_init 60 = .ok (.aload_n 0, 1) := by decide +kernel
theorem dX0_init_61 : decode cX0_init 61 = .ok (.bipush 8, 2) := by decide +kernel
theorem dX0_init_63 : decode cX0_init 63 = .ok (.newarray .int, 2) := by decide +kernel
theorem dX0_init_65 : decode cX0_init 65 = .ok (.putfield 33, 3) := by decide +kernel
theorem dX0_init_68 : decode cX0_init 68 = .ok (.aload_n 0, 1) := by decide +kernel
theorem dX0_init_69 : decode cX0_init 69 = .ok (.bipush 8, 2) := by decide +kernel
theorem dX0_init_71 : decode cX0_init 71 = .ok (.newarray .int, 2) := by decide +kernel
theorem dX0_init_73 : decode cX0_init 73 = .ok (.putfield 36, 3) := by decide +kernel
theorem dX0_init_76 : decode cX0_init 76 = .ok (.return_, 1) := by decide +kernel
theorem dX0_become_0 : decode cX0_become 0 = .ok (.aload_n 0, 1) := by decide +kernel
theorem dX0_become_1 : decode cX0_become 1 = .ok (.aload_n 1, 1) := by decide +kernel
theorem dX0_become_2 : decode cX0_become 2 = .ok (.getfield 39, 3) := by decide +kernel
theorem dX0_become_5 : decode cX0_become 5 = .ok (.putfield 39, 3) := by decide +kernel
theorem dX0_become_8 : decode cX0_become 8 = .ok (.aload_n 1, 1) := by decide +kernel
theorem dX0_become_9 : decode cX0_become 9 = .ok (.getfield 9, 3) := by decide +kernel
theorem dX0_become_12 : decode cX0_become 12 = .ok (.iconst 0, 1) := by decide +kernel
theorem dX0_become_13 : decode cX0_become 13 = .ok (.aload_n 0, 1) := by decide +kernel
theorem dX0_become_14 : decode cX0_become 14 = .ok (.getfield 9, 3) := by decide +kernel
theorem dX0_become_17 : decode cX0_become 17 = .ok (.iconst 0, 1) := by decide +kernel
theorem dX0_become_18 : decode cX0_become 18 = .ok (.bipush 8, 2) := by decide +kernel
theorem dX0_become_20 : decode cX0_become 20 = .ok (.invokestatic 43, 3) := by decide +kernel
theorem dX0_become_23 : decode cX0_become 23 = .ok (.aload_n 1, 1) := by decide +kernel
theorem dX0_become_24 : decode cX0_become 24 = .ok (.getfield 15, 3) := by decide +kernel
theorem dX0_become_27 : decode cX0_become 27 = .ok (.iconst 0, 1) := by decide +kernel
theorem dX0_become_28 : decode cX0_become 28 = .ok (.aload_n 0, 1) := by decide +kernel
theorem dX0_become_29 : decode cX0_become 29 = .ok (.getfield 15, 3) := by decide +kernel
theorem dX0_become_32 : decode cX0_become 32 = .ok (.iconst 0, 1) := by decide +kernel
theorem dX0_become_33 : decode cX0_become 33 = .ok (.bipush 8, 2) := by decide +kernel
theorem dX0_become_35 : decode cX0_become 35 = .ok (.invokestatic 43, 3) := by decide +kernel
theorem dX0_become_38 : decode cX0_become 38 = .ok (.aload_n 1, 1) := by decide +kernel
theorem dX0_become_39 : decode cX0_become 39 = .ok (.getfield 18, 3) := by decide +kernel
theorem dX0_become_42 : decode cX0_become 42 = .ok (.iconst 0, 1) := by decide +kernel
theorem dX0_become_43 : decode cX0_become 43 = .ok (.aload_n 0, 1) := by decide +kernel
theorem dX0_become_44 : decode cX0_become 44 = .ok (.getfield 18, 3) := by decide +kernel
theorem dX0_become_47 : decode cX0_become 47 = .ok (.iconst 0, 1) := by decide +kernel
theorem dX0_become_48 : decode cX0_become 48 = .ok (.bipush 8, 2) := by decide +kernel
theorem dX0_become_50 : decode cX0_become 50 = .ok (.invokestatic 43, 3) := by decide +kernel
theorem dX0_become_53 : decode cX0_become 53 = .ok (.aload_n 1, 1) := by decide +kernel
theorem dX0_become_54 : decode cX0_become 54 = .ok (.getfield 21, 3) := by decide +kernel
theorem dX0_become_57 : decode cX0_become 57 = .ok (.iconst 0, 1) := by decide +kernel
theorem dX0_become_58 : decode cX0_become 58 = .ok (.aload_n 0, 1) := by decide +kernel
theorem dX0_become_59 : decode cX0_become 59 = .ok (.getfield 21, 3) := by decide +kernel
theorem dX0_become_62 : decode cX0_become 62 = .ok (.iconst 0, 1) := by decide +kernel
theorem dX0_become_63 : decode cX0_become 63 = .ok (.bipush 8, 2) := by decide +kernel
theorem dX0_become_65 : decode cX0_become 65 = .ok (.invokestatic 43, 3) := by decide +kernel
theorem dX0_become_68 : decode cX0_become 68 = .ok (.aload_n 1, 1) := by decide +kernel
theorem dX0_become_69 : decode cX0_become 69 = .ok (.getfield 24, 3) := by decide +kernel
theorem dX0_become_72 : decode cX0_become 72 = .ok (.iconst 0, 1) := by decide +kernel
theorem dX0_become_73 : decode cX0_become 73 = .ok (.aload_n 0, 1) := by decide +kernel
theorem dX0_become_74 : decode cX0_become 74 = .ok (.getfield 24, 3) := by decide +kernel
theorem dX0_become_77 : decode cX0_become 77 = .ok (.iconst 0, 1) := by decide +kernel
theorem dX0_become_78 : decode cX0_become 78 = .ok (.bipush 8, 2) := by decide +kernel
theorem dX0_become_80 : decode cX0_become 80 = .ok (.invokestatic 43, 3) := by decide +kernel
theorem dX0_become_83 : decode cX0_become 83 = .ok (.aload_n 1, 1) := by decide +kernel
theorem dX0_become_84 : decode cX0_become 84 = .ok (.getfield 27, 3) := by decide +kernel
theorem dX0_become_87 : decode cX0_become 87 = .ok (.iconst 0, 1) := by decide +kernel
theorem dX0_become_88 : decode cX0_become 88 = .ok (.aload_n 0, 1) := by decide +kernel
theorem dX0_become_89 : decode cX0_become 89 = .ok (.getfield 27, 3) := by decide +kernel
theorem dX0_become_92 : decode cX0_become 92 = .ok (.iconst 0, 1) := by decide +kernel
theorem dX0_become_93 : decode cX0_become 93 = .ok (.bipush 8, 2) := by decide +kernel
theorem dX0_become_95 : decode cX0_become 95 = .ok (.invokestatic 43, 3) := by decide +kernel
theorem dX0_become_98 : decode cX0_become 98 = .ok (.aload_n 1, 1) := by decide +kernel
theorem dX0_become_99 : decode cX0_become 99 = .ok (.getfield 30, 3) := by decide +kernel
theorem dX0_become_102 : decode cX0_become 102 = .ok (.iconst 0, 1) := by decide +kernel
theorem dX0_become_103 : decode cX0_become 103 = .ok (.aload_n 0, 1) := by decide +kernel
theorem dX0_become_104 : decode cX0_become 104 = .ok (.getfield 30, 3) := by decide +kernel
theorem dX0_become_107 : decode cX0_become 107 = .ok (.iconst 0, 1) := by decide +kernel
theorem dX0_become_108 : decode cX0_become 108 = .ok (.bipush 8, 2) := by decide +kernel
theorem dX0_become_110 : decode cX0_become 110 = .ok (.invokestatic 43, 3) := by decide +kernel
theorem dX0_become_113 : decode cX0_become 113 = .ok (.aload_n 1, 1) := by decide +kernel
theorem dX0_become_114 : decode cX0_become 114 = .ok (.getfield 33, 3) := by decide +kernel
theorem dX0_become_117 : decode cX0_become 117 = .ok (.iconst 0, 1) := by decide +kernel
theorem dX0_become_118 : decode cX0_become 118 = .ok (.aload_n 0, 1) := by decide +kernel
theorem dX0_become_119 : decode cX0_become 119 = .ok (.getfield 33, 3) := by decide +kernel
theorem dX0_become_122 : decode cX0_become 122 = .ok (.iconst 0, 1) := by decide +kernel
theorem dX0_become_123 : decode cX0_become 123 = .ok (.bipush 8, 2) := by decide +kernel
theorem dX0_become_125 : decode cX0_become 125 = .ok (.invokestatic 43, 3) := by decide +kernel
theorem dX0_become_128 : decode cX0_become 128 = .ok (.aload_n 1, 1) := by decide +kernel
theorem dX0_become_129 : decode cX0_become 129 = .ok (.getfield 36, 3) := by decide +kernel
theorem dX0_become_132 : decode cX0_become 132 = .ok (.iconst 0, 1) := by decide +kernel
theorem dX0_become_133 : decode cX0_become 133 = .ok (.aload_n 0, 1) := by decide +kernel
theorem dX0_become_134 : decode cX0_become 134 = .ok (.getfield 36, 3) := by decide +kernel
theorem dX0_become_137 : decode cX0_become 137 = .ok (.iconst 0, 1) := by decide +kernel
theorem dX0_become_138 : decode cX0_become 138 = .ok (.bipush 8, 2) := by decide +kernel
theorem dX0_become_140 : decode cX0_become 140 = .ok (.invokestatic 43, 3) := by decide +kernel
theorem dX0_become_143 : decode cX0_become 143 = .ok (.return_, 1) := by decide +kernel
set_option maxRecDepth 20000 in
theorem ggX0_has_X4_isWithin : GoodIn wsX0_has wsX4_isWithin := goodIn_r _ [4] (by decide +kernel) (by decide +kernel)
set_option maxRecDepth 20000 in
theorem gX0_has_X4_isWithin_n49 : GoodIn wsX0_has (wsX4_isWithin) := ggX0_has_X4_isWithin
theorem dX0_has_0 : decode cX0_has 0 = .ok (.iload_n 1, 1) := by decide +kernel
theorem dX0_has_1 : decode cX0_has 1 = .ok (.iconst 0, 1) := by decide +kernel
theorem dX0_has_2 : decode cX0_has 2 = .ok (.aload_n 0, 1) := by decide +kernel
theorem dX0_has_3 : decode cX0_has 3 = .ok (.getfield 39, 3) := by decide +kernel
theorem dX0_has_6 : decode cX0_has 6 = .ok (.iconst 1, 1) := by decide +kernel
theorem dX0_has_7 : decode cX0_has 7 = .ok (.isub, 1) := by decide +kernel
theorem dX0_has_8 : decode cX0_has 8 = .ok (.invokestatic 49, 3) := by decide +kernel
theorem dX0_has_11 : decode cX0_has 11 = .ok (.ireturn, 1) := by decide +kernel
theorem dX0_add_0 : decode cX0_add 0 = .ok (.aload_n 0, 1) := by decide +kernel
theorem dX0_add_1 : decode cX0_add 1 = .ok (.getfield 39, 3) := by decide +kernel
theorem dX0_add_4 : decode cX0_add 4 = .ok (.bipush 8, 2) := by decide +kernel
theorem dX0_add_6 : decode cX0_add 6 = .ok (.if_icmp .lt 5, 3) := by decide +kernel
theorem dX0_add_9 : decode cX0_add 9 = .ok (.iconst (-1), 1) := by decide +kernel
theorem dX0_add_10 : decode cX0_add 10 = .ok (.ireturn, 1) := by decide +kernel
theorem dX0_add_11 : decode cX0_add 11 = .ok (.aload_n 0, 1) := by decide +kernel
theorem dX0_add_12 : decode cX0_add 12 = .ok (.getfield 39, 3) := by decide +kernel
theorem dX0_add_15 : decode cX0_add 15 = .ok (.istore 6, 2) := by decide +kernel
theorem dX0_add_17 : decode cX0_add 17 = .ok (.aload_n 0, 1) := by decide +kernel
theorem dX0_add_18 : decode cX0_add 18 = .ok (.getfield 9, 3) := by decide +kernel
theorem dX0_add_21 : decode cX0_add 21 = .ok (.iload 6, 2) := by decide +kernel
theorem dX0_add_23 : decode cX0_add 23 = .ok (.iload_n 3, 1) := by decide +kernel
theorem dX0_add_24 : decode cX0_add 24 = .ok (.iastore, 1) := by decide +kernel
theorem dX0_add_25 : decode cX0_add 25 = .ok (.aload_n 0, 1) := by decide +kernel
theorem dX0_add_26 : decode cX0_add 26 = .ok (.getfield 15, 3) := by decide +kernel
theorem dX0_add_29 : decode cX0_add 29 = .ok (.iload 6, 2) := by decide +kernel
theorem dX0_add_31 : decode cX0_add 31 = .ok (.iload 4, 2) := by decide +kernel
theorem dX0_add_33 : decode cX0_add 33 = .ok (.iastore, 1) := by decide +kernel
theorem dX0_add_34 : decode cX0_add 34 = .ok (.aload_n 0, 1) := by decide +kernel
theorem dX0_add_35 : decode cX0_add 35 = .ok (.getfield 18, 3) := by decide +kernel
theorem dX0_add_38 : decode cX0_add 38 = .ok (.iload 6, 2) := by decide +kernel
theorem dX0_add_40 : decode cX0_add 40 = .ok (.bipush 20, 2) := by decide +kernel
theorem dX0_add_42 : decode cX0_add 42 = .ok (.iastore, 1) := by decide +kernel
theorem dX0_add_43 : decode cX0_add 43 = .ok (.aload_n 0, 1) := by decide +kernel
theorem dX0_add_44 : decode cX0_add 44 = .ok (.getfield 21, 3) := by decide +kernel
theorem dX0_add_47 : decode cX0_add 47 = .ok (.iload 6, 2) := by decide +kernel
theorem dX0_add_49 : decode cX0_add 49 = .ok (.iload_n 1, 1) := by decide +kernel
theorem dX0_add_50 : decode cX0_add 50 = .ok (.iastore, 1) := by decide +kernel
theorem dX0_add_51 : decode cX0_add 51 = .ok (.aload_n 0, 1) := by decide +kernel
theorem dX0_add_52 : decode cX0_add 52 = .ok (.getfield 24, 3) := by decide +kernel
theorem dX0_add_55 : decode cX0_add 55 = .ok (.iload 6, 2) := by decide +kernel
theorem dX0_add_57 : decode cX0_add 57 = .ok (.iload_n 2, 1) := by decide +kernel
theorem dX0_add_58 : decode cX0_add 58 = .ok (.iastore, 1) := by decide +kernel
theorem dX0_add_59 : decode cX0_add 59 = .ok (.aload_n 0, 1) := by decide +kernel
theorem dX0_add_60 : decode cX0_add 60 = .ok (.getfield 27, 3) := by decide +kernel
theorem dX0_add_63 : decode cX0_add 63 = .ok (.iload 6, 2) := by decide +kernel
theorem dX0_add_65 : decode cX0_add 65 = .ok (.iload_n 1, 1) := by decide +kernel
theorem dX0_add_66 : decode cX0_add 66 = .ok (.iastore, 1) := by decide +kernel
theorem dX0_add_67 : decode cX0_add 67 = .ok (.aload_n 0, 1) := by decide +kernel
theorem dX0_add_68 : decode cX0_add 68 = .ok (.getfield 30, 3) := by decide +kernel
theorem dX0_add_71 : decode cX0_add 71 = .ok (.iload 6, 2) := by decide +kernel
theorem dX0_add_73 : decode cX0_add 73 = .ok (.iconst 0, 1) := by decide +kernel
theorem dX0_add_74 : decode cX0_add 74 = .ok (.iastore, 1) := by decide +kernel
theorem dX0_add_75 : decode cX0_add 75 = .ok (.aload_n 0, 1) := by decide +kernel
theorem dX0_add_76 : decode cX0_add 76 = .ok (.getfield 33, 3) := by decide +kernel
theorem dX0_add_79 : decode cX0_add 79 = .ok (.iload 6, 2) := by decide +kernel
theorem dX0_add_81 : decode cX0_add 81 = .ok (.iconst 0, 1) := by decide +kernel
theorem dX0_add_82 : decode cX0_add 82 = .ok (.iastore, 1) := by decide +kernel
theorem dX0_add_83 : decode cX0_add 83 = .ok (.aload_n 0, 1) := by decide +kernel
theorem dX0_add_84 : decode cX0_add 84 = .ok (.getfield 36, 3) := by decide +kernel
theorem dX0_add_87 : decode cX0_add 87 = .ok (.iload 6, 2) := by decide +kernel
theorem dX0_add_89 : decode cX0_add 89 = .ok (.iload 5, 2) := by decide +kernel
theorem dX0_add_91 : decode cX0_add 91 = .ok (.iastore, 1) := by decide +kernel
theorem dX0_add_92 : decode cX0_add 92 = .ok (.aload_n 0, 1) := by decide +kernel
theorem dX0_add_93 : decode cX0_add 93 = .ok (.dup, 1) := by decide +kernel
theorem dX0_add_94 : decode cX0_add 94 = .ok (.getfield 39, 3) := by decide +kernel
theorem dX0_add_97 : decode cX0_add 97 = .ok (.iconst 1, 1) := by decide +kernel
theorem dX0_add_98 : decode cX0_add 98 = .ok (.iadd, 1) := by decide +kernel
theorem dX0_add_99 : decode cX0_add 99 = .ok (.putfield 39, 3) := by decide +kernel
theorem dX0_add_102 : decode cX0_add 102 = .ok (.iload 6, 2) := by decide +kernel
theorem dX0_add_104 : decode cX0_add 104 = .ok (.ireturn, 1) := by decide +kernel
theorem dX0_tell_0 : decode cX0_tell 0 = .ok (.iload_n 2, 1) := by decide +kernel
theorem dX0_tell_1 : decode cX0_tell 1 = .ok (.tableswitch 103 0 7 #[47, 54, 61, 68, 75, 82, 89, 96], 47) := by decide +kernel
theorem dX0_tell_48 : decode cX0_tell 48 = .ok (.aload_n 0, 1) := by decide +kernel
theorem dX0_tell_49 : decode cX0_tell 49 = .ok (.getfield 9, 3) := by decide +kernel
theorem dX0_tell_52 : decode cX0_tell 52 = .ok (.iload_n 1, 1) := by decide +kernel
theorem dX0_tell_53 : decode cX0_tell 53 = .ok (.iaload, 1) := by decide +kernel
theorem dX0_tell_54 : decode cX0_tell 54 = .ok (.ireturn, 1) := by decide +kernel
theorem dX0_tell_55 : decode cX0_tell 55 = .ok (.aload_n 0, 1) := by decide +kernel
theorem dX0_tell_56 : decode cX0_tell 56 = .ok (.getfield 15, 3) := by decide +kernel
theorem dX0_tell_59 : decode cX0_tell 59 = .ok (.iload_n 1, 1) := by decide +kernel
theorem dX0_tell_60 : decode cX0_tell 60 = .ok (.iaload, 1) := by decide +kernel
theorem dX0_tell_61 : decode cX0_tell 61 = .ok (.ireturn, 1) := by decide +kernel
theorem dX0_tell_62 : decode cX0_tell 62 = .ok (.aload_n 0, 1) := by decide +kernel
theorem dX0_tell_63 : decode cX0_tell 63 = .ok (.getfield 18, 3) := by decide +kernel
theorem dX0_tell_66 : decode cX0_tell 66 = .ok (.iload_n 1, 1) := by decide +kernel
theorem dX0_tell_67 : decode cX0_tell 67 = .ok (.iaload, 1) := by decide +kernel
theorem dX0_tell_68 : decode cX0_tell 68 = .ok (.ireturn, 1) := by decide +kernel
theorem dX0_tell_69 : decode cX0_tell 69 = .ok (.aload_n 0, 1) := by decide +kernel
theorem dX0_tell_70 : decode cX0_tell 70 = .ok (.getfield 21, 3) := by decide +kernel
theorem dX0_tell_73 : decode cX0_tell 73 = .ok (.iload_n 1, 1) := by decide +kernel
theorem dX0_tell_74 : decode cX0_tell 74 = .ok (.iaload, 1) := by decide +kernel
theorem dX0_tell_75 : decode cX0_tell 75 = .ok (.ireturn, 1) := by decide +kernel
theorem dX0_tell_76 : decode cX0_tell 76 = .ok (.aload_n 0, 1) := by decide +kernel
theorem dX0_tell_77 : decode cX0_tell 77 = .ok (.getfield 24, 3) := by decide +kernel
theorem dX0_tell_80 : decode cX0_tell 80 = .ok (.iload_n 1, 1) := by decide +kernel
theorem dX0_tell_81 : decode cX0_tell 81 = .ok (.iaload, 1) := by decide +kernel
theorem dX0_tell_82 : decode cX0_tell 82 = .ok (.ireturn, 1) := by decide +kernel
theorem dX0_tell_83 : decode cX0_tell 83 = .ok (.aload_n 0, 1) := by decide +kernel
theorem dX0_tell_84 : decode cX0_tell 84 = .ok (.getfield 27, 3) := by decide +kernel
theorem dX0_tell_87 : decode cX0_tell 87 = .ok (.iload_n 1, 1) := by decide +kernel
theorem dX0_tell_88 : decode cX0_tell 88 = .ok (.iaload, 1) := by decide +kernel
theorem dX0_tell_89 : decode cX0_tell 89 = .ok (.ireturn, 1) := by decide +kernel
theorem dX0_tell_90 : decode cX0_tell 90 = .ok (.aload_n 0, 1) := by decide +kernel
theorem dX0_tell_91 : decode cX0_tell 91 = .ok (.getfield 30, 3) := by decide +kernel
theorem dX0_tell_94 : decode cX0_tell 94 = .ok (.iload_n 1, 1) := by decide +kernel
theorem dX0_tell_95 : decode cX0_tell 95 = .ok (.iaload, 1) := by decide +kernel
theorem dX0_tell_96 : decode cX0_tell 96 = .ok (.ireturn, 1) := by decide +kernel
theorem dX0_tell_97 : decode cX0_tell 97 = .ok (.aload_n 0, 1) := by decide +kernel
theorem dX0_tell_98 : decode cX0_tell 98 = .ok (.getfield 33, 3) := by decide +kernel
theorem dX0_tell_101 : decode cX0_tell 101 = .ok (.iload_n 1, 1) := by decide +kernel
theorem dX0_tell_102 : decode cX0_tell 102 = .ok (.iaload, 1) := by decide +kernel
theorem dX0_tell_103 : decode cX0_tell 103 = .ok (.ireturn, 1) := by decide +kernel
theorem dX0_tell_104 : decode cX0_tell 104 = .ok (.aload_n 0, 1) := by decide +kernel
theorem dX0_tell_105 : decode cX0_tell 105 = .ok (.getfield 36, 3) := by decide +kernel
theorem dX0_tell_108 : decode cX0_tell 108 = .ok (.iload_n 1, 1) := by decide +kernel
theorem dX0_tell_109 : decode cX0_tell 109 = .ok (.iaload, 1) := by decide +kernel
theorem dX0_tell_110 : decode cX0_tell 110 = .ok (.iconst 2, 1) := by decide +kernel
theorem dX0_tell_111 : decode cX0_tell 111 = .ok (.if_icmp .ne 7, 3) := by decide +kernel
theorem dX0_tell_114 : decode cX0_tell 114 = .ok (.iconst 1, 1) := by decide +kernel
theorem dX0_tell_115 : decode cX0_tell 115 = .ok (.goto 4, 3) := by decide +kernel
theorem dX0_tell_118 : decode cX0_tell 118 = .ok (.iconst 0, 1) := by decide +kernel
theorem dX0_tell_119 : decode cX0_tell 119 = .ok (.ireturn, 1) := by decide +kernel
theorem dX0_loadOf_0 : decode cX0_loadOf 0 = .ok (.aload_n 0, 1) := by decide +kernel
theorem dX0_loadOf_1 : decode cX0_loadOf 1 = .ok (.getfield 9, 3) := by decide +kernel
theorem dX0_loadOf_4 : decode cX0_loadOf 4 = .ok (.iload_n 1, 1) := by decide +kernel
theorem dX0_loadOf_5 : decode cX0_loadOf 5 = .ok (.iaload, 1) := by decide +kernel
theorem dX0_loadOf_6 : decode cX0_loadOf 6 = .ok (.aload_n 0, 1) := by decide +kernel
theorem dX0_loadOf_7 : decode cX0_loadOf 7 = .ok (.getfield 15, 3) := by decide +kernel
theorem dX0_loadOf_10 : decode cX0_loadOf 10 = .ok (.iload_n 1, 1) := by decide +kernel
theorem dX0_loadOf_11 : decode cX0_loadOf 11 = .ok (.iaload, 1) := by decide +kernel
theorem dX0_loadOf_12 : decode cX0_loadOf 12 = .ok (.iadd, 1) := by decide +kernel
theorem dX0_loadOf_13 : decode cX0_loadOf 13 = .ok (.ireturn, 1) := by decide +kernel
theorem dX0_isAtGoal_0 : decode cX0_isAtGoal 0 = .ok (.aload_n 0, 1) := by decide +kernel
theorem dX0_isAtGoal_1 : decode cX0_isAtGoal 1 = .ok (.getfield 21, 3) := by decide +kernel
theorem dX0_isAtGoal_4 : decode cX0_isAtGoal 4 = .ok (.iload_n 1, 1) := by decide +kernel
theorem dX0_isAtGoal_5 : decode cX0_isAtGoal 5 = .ok (.iaload, 1) := by decide +kernel
theorem dX0_isAtGoal_6 : decode cX0_isAtGoal 6 = .ok (.aload_n 0, 1) := by decide +kernel
theorem dX0_isAtGoal_7 : decode cX0_isAtGoal 7 = .ok (.getfield 27, 3) := by decide +kernel
theorem dX0_isAtGoal_10 : decode cX0_isAtGoal 10 = .ok (.iload_n 1, 1) := by decide +kernel
theorem dX0_isAtGoal_11 : decode cX0_isAtGoal 11 = .ok (.iaload, 1) := by decide +kernel
theorem dX0_isAtGoal_12 : decode cX0_isAtGoal 12 = .ok (.if_icmp .ne 7, 3) := by decide +kernel
theorem dX0_isAtGoal_15 : decode cX0_isAtGoal 15 = .ok (.iconst 1, 1) := by decide +kernel
theorem dX0_isAtGoal_16 : decode cX0_isAtGoal 16 = .ok (.goto 4, 3) := by decide +kernel
theorem dX0_isAtGoal_19 : decode cX0_isAtGoal 19 = .ok (.iconst 0, 1) := by decide +kernel
theorem dX0_isAtGoal_20 : decode cX0_isAtGoal 20 = .ok (.ireturn, 1) := by decide +kernel
set_option maxRecDepth 20000 in
theorem ggX0_nextSection_X0_isAtGoal : GoodIn wsX0_nextSection wsX0_isAtGoal := goodIn_r _ [7, 1, 2, 8, 9, 10, 11, 12, 13, 14, 15, 16, 17] (by decide +kernel) (by decide +kernel)
set_option maxRecDepth 20000 in
theorem gX0_nextSection_X0_isAtGoal : GoodIn wsX0_nextSection (wsV RX0 53 RX0 yX0_isAtGoal wsX0_isAtGoal) := goodIn_app (goodIn_of _ (by decide +kernel)) ggX0_nextSection_X0_isAtGoal
theorem dX0_nextSection_0 : decode cX0_nextSection 0 = .ok (.aload_n 0, 1) := by decide +kernel
theorem dX0_nextSection_1 : decode cX0_nextSection 1 = .ok (.getfield 21, 3) := by decide +kernel
theorem dX0_nextSection_4 : decode cX0_nextSection 4 = .ok (.iload_n 1, 1) := by decide +kernel
theorem dX0_nextSection_5 : decode cX0_nextSection 5 = .ok (.iaload, 1) := by decide +kernel
theorem dX0_nextSection_6 : decode cX0_nextSection 6 = .ok (.aload_n 0, 1) := by decide +kernel
theorem dX0_nextSection_7 : decode cX0_nextSection 7 = .ok (.getfield 27, 3) := by decide +kernel
theorem dX0_nextSection_10 : decode cX0_nextSection 10 = .ok (.iload_n 1, 1) := by decide +kernel
theorem dX0_nextSection_11 : decode cX0_nextSection 11 = .ok (.iaload, 1) := by decide +kernel
theorem dX0_nextSection_12 : decode cX0_nextSection 12 = .ok (.if_icmp .ge 12, 3) := by decide +kernel
theorem dX0_nextSection_15 : decode cX0_nextSection 15 = .ok (.aload_n 0, 1) := by decide +kernel
theorem dX0_nextSection_16 : decode cX0_nextSection 16 = .ok (.getfield 21, 3) := by decide +kernel
theorem dX0_nextSection_19 : decode cX0_nextSection 19 = .ok (.iload_n 1, 1) := by decide +kernel
theorem dX0_nextSection_20 : decode cX0_nextSection 20 = .ok (.iaload, 1) := by decide +kernel
theorem dX0_nextSection_21 : decode cX0_nextSection 21 = .ok (.iconst 1, 1) := by decide +kernel
theorem dX0_nextSection_22 : decode cX0_nextSection 22 = .ok (.iadd, 1) := by decide +kernel
theorem dX0_nextSection_23 : decode cX0_nextSection 23 = .ok (.ireturn, 1) := by decide +kernel
theorem dX0_nextSection_24 : decode cX0_nextSection 24 = .ok (.aload_n 0, 1) := by decide +kernel
theorem dX0_nextSection_25 : decode cX0_nextSection 25 = .ok (.iload_n 1, 1) := by decide +kernel
theorem dX0_nextSection_26 : decode cX0_nextSection 26 = .ok (.invokevirtual 53, 3) := by decide +kernel
theorem dX0_nextSection_29 : decode cX0_nextSection 29 = .ok (.ifCond .eq 12, 3) := by decide +kernel
theorem dX0_nextSection_32 : decode cX0_nextSection 32 = .ok (.aload_n 0, 1) := by decide +kernel
theorem dX0_nextSection_33 : decode cX0_nextSection 33 = .ok (.getfield 27, 3) := by decide +kernel
theorem dX0_nextSection_36 : decode cX0_nextSection 36 = .ok (.iload_n 1, 1) := by decide +kernel
theorem dX0_nextSection_37 : decode cX0_nextSection 37 = .ok (.iaload, 1) := by decide +kernel
theorem dX0_nextSection_38 : decode cX0_nextSection 38 = .ok (.goto 11, 3) := by decide +kernel
theorem dX0_nextSection_41 : decode cX0_nextSection 41 = .ok (.aload_n 0, 1) := by decide +kernel
theorem dX0_nextSection_42 : decode cX0_nextSection 42 = .ok (.getfield 21, 3) := by decide +kernel
theorem dX0_nextSection_45 : decode cX0_nextSection 45 = .ok (.iload_n 1, 1) := by decide +kernel
theorem dX0_nextSection_46 : decode cX0_nextSection 46 = .ok (.iaload, 1) := by decide +kernel
theorem dX0_nextSection_47 : decode cX0_nextSection 47 = .ok (.iconst 1, 1) := by decide +kernel
theorem dX0_nextSection_48 : decode cX0_nextSection 48 = .ok (.isub, 1) := by decide +kernel
theorem dX0_nextSection_49 : decode cX0_nextSection 49 = .ok (.ireturn, 1) := by decide +kernel
theorem dX0_numberWhose_0 : decode cX0_numberWhose 0 = .ok (.iconst 0, 1) := by decide +kernel
theorem dX0_numberWhose_1 : decode cX0_numberWhose 1 = .ok (.istore_n 2, 1) := by decide +kernel
theorem dX0_numberWhose_2 : decode cX0_numberWhose 2 = .ok (.iconst 0, 1) := by decide +kernel
theorem dX0_numberWhose_3 : decode cX0_numberWhose 3 = .ok (.istore_n 3, 1) := by decide +kernel
theorem dX0_numberWhose_4 : decode cX0_numberWhose 4 = .ok (.iload_n 3, 1) := by decide +kernel
theorem dX0_numberWhose_5 : decode cX0_numberWhose 5 = .ok (.aload_n 0, 1) := by decide +kernel
theorem dX0_numberWhose_6 : decode cX0_numberWhose 6 = .ok (.getfield 39, 3) := by decide +kernel
theorem dX0_numberWhose_9 : decode cX0_numberWhose 9 = .ok (.if_icmp .ge 22, 3) := by decide +kernel
theorem dX0_numberWhose_12 : decode cX0_numberWhose 12 = .ok (.aload_n 0, 1) := by decide +kernel
theorem dX0_numberWhose_13 : decode cX0_numberWhose 13 = .ok (.getfield 30, 3) := by decide +kernel
theorem dX0_numberWhose_16 : decode cX0_numberWhose 16 = .ok (.iload_n 3, 1) := by decide +kernel
theorem dX0_numberWhose_17 : decode cX0_numberWhose 17 = .ok (.iaload, 1) := by decide +kernel
theorem dX0_numberWhose_18 : decode cX0_numberWhose 18 = .ok (.iload_n 1, 1) := by decide +kernel
theorem dX0_numberWhose_19 : decode cX0_numberWhose 19 = .ok (.if_icmp .ne 6, 3) := by decide +kernel
theorem dX0_numberWhose_22 : decode cX0_numberWhose 22 = .ok (.iinc 2 1, 3) := by decide +kernel
theorem dX0_numberWhose_25 : decode cX0_numberWhose 25 = .ok (.iinc 3 1, 3) := by decide +kernel
theorem dX0_numberWhose_28 : decode cX0_numberWhose 28 = .ok (.goto (-24), 3) := by decide +kernel
theorem dX0_numberWhose_31 : decode cX0_numberWhose 31 = .ok (.iload_n 2, 1) := by decide +kernel
theorem dX0_numberWhose_32 : decode cX0_numberWhose 32 = .ok (.ireturn, 1) := by decide +kernel
theorem dX0_notOutAt_0 : decode cX0_notOutAt 0 = .ok (.iconst 0, 1) := by decide +kernel
theorem dX0_notOutAt_1 : decode cX0_notOutAt 1 = .ok (.istore_n 3, 1) := by decide +kernel
theorem dX0_notOutAt_2 : decode cX0_notOutAt 2 = .ok (.iconst 0, 1) := by decide +kernel
theorem dX0_notOutAt_3 : decode cX0_notOutAt 3 = .ok (.istore 4, 2) := by decide +kernel
theorem dX0_notOutAt_5 : decode cX0_notOutAt 5 = .ok (.iload 4, 2) := by decide +kernel
theorem dX0_notOutAt_7 : decode cX0_notOutAt 7 = .ok (.aload_n 0, 1) := by decide +kernel
theorem dX0_notOutAt_8 : decode cX0_notOutAt 8 = .ok (.getfield 39, 3) := by decide +kernel
theorem dX0_notOutAt_11 : decode cX0_notOutAt 11 = .ok (.if_icmp .ge 57, 3) := by decide +kernel
theorem dX0_notOutAt_14 : decode cX0_notOutAt 14 = .ok (.aload_n 0, 1) := by decide +kernel
theorem dX0_notOutAt_15 : decode cX0_notOutAt 15 = .ok (.getfield 21, 3) := by decide +kernel
theorem dX0_notOutAt_18 : decode cX0_notOutAt 18 = .ok (.iload 4, 2) := by decide +kernel
theorem dX0_notOutAt_20 : decode cX0_notOutAt 20 = .ok (.iaload, 1) := by decide +kernel
theorem dX0_notOutAt_21 : decode cX0_notOutAt 21 = .ok (.iload_n 1, 1) := by decide +kernel
theorem dX0_notOutAt_22 : decode cX0_notOutAt 22 = .ok (.if_icmp .ne 18, 3) := by decide +kernel
theorem dX0_notOutAt_25 : decode cX0_notOutAt 25 = .ok (.aload_n 0, 1) := by decide +kernel
theorem dX0_notOutAt_26 : decode cX0_notOutAt 26 = .ok (.getfield 24, 3) := by decide +kernel
theorem dX0_notOutAt_29 : decode cX0_notOutAt 29 = .ok (.iload 4, 2) := by decide +kernel
theorem dX0_notOutAt_31 : decode cX0_notOutAt 31 = .ok (.iaload, 1) := by decide +kernel
theorem dX0_notOutAt_32 : decode cX0_notOutAt 32 = .ok (.iload_n 2, 1) := by decide +kernel
theorem dX0_notOutAt_33 : decode cX0_notOutAt 33 = .ok (.if_icmp .ne 7, 3) := by decide +kernel
theorem dX0_notOutAt_36 : decode cX0_notOutAt 36 = .ok (.iconst 1, 1) := by decide +kernel
theorem dX0_notOutAt_37 : decode cX0_notOutAt 37 = .ok (.goto 4, 3) := by decide +kernel
theorem dX0_notOutAt_40 : decode cX0_notOutAt 40 = .ok (.iconst 0, 1) := by decide +kernel
theorem dX0_notOutAt_41 : decode cX0_notOutAt 41 = .ok (.istore 5, 2) := by decide +kernel
theorem dX0_notOutAt_43 : decode cX0_notOutAt 43 = .ok (.iload 5, 2) := by decide +kernel
theorem dX0_notOutAt_45 : decode cX0_notOutAt 45 = .ok (.ifCond .eq 17, 3) := by decide +kernel
theorem dX0_notOutAt_48 : decode cX0_notOutAt 48 = .ok (.aload_n 0, 1) := by decide +kernel
theorem dX0_notOutAt_49 : decode cX0_notOutAt 49 = .ok (.getfield 30, 3) := by decide +kernel
theorem dX0_notOutAt_52 : decode cX0_notOutAt 52 = .ok (.iload 4, 2) := by decide +kernel
theorem dX0_notOutAt_54 : decode cX0_notOutAt 54 = .ok (.iaload, 1) := by decide +kernel
theorem dX0_notOutAt_55 : decode cX0_notOutAt 55 = .ok (.iconst 3, 1) := by decide +kernel
theorem dX0_notOutAt_56 : decode cX0_notOutAt 56 = .ok (.if_icmp .eq 6, 3) := by decide +kernel
theorem dX0_notOutAt_59 : decode cX0_notOutAt 59 = .ok (.iinc 3 1, 3) := by decide +kernel
theorem dX0_notOutAt_62 : decode cX0_notOutAt 62 = .ok (.iinc 4 1, 3) := by decide +kernel
theorem dX0_notOutAt_65 : decode cX0_notOutAt 65 = .ok (.goto (-60), 3) := by decide +kernel
theorem dX0_notOutAt_68 : decode cX0_notOutAt 68 = .ok (.iload_n 3, 1) := by decide +kernel
theorem dX0_notOutAt_69 : decode cX0_notOutAt 69 = .ok (.ireturn, 1) := by decide +kernel
theorem dX1_init_0 : decode cX1_init 0 = .ok (.aload_n 0, 1) := by decide +kernel
theorem dX1_init_1 : decode cX1_init 1 = .ok (.invokespecial 3, 3) := by decide +kernel
theorem dX1_init_4 : decode cX1_init 4 = .ok (.aload_n 0, 1) := by decide +kernel
theorem dX1_init_5 : decode cX1_init 5 = .ok (.bipush 36, 2) := by decide +kernel
theorem dX1_init_7 : decode cX1_init 7 = .ok (.newarray .int, 2) := by decide +kernel
theorem dX1_init_9 : decode cX1_init 9 = .ok (.putfield 9, 3) := by decide +kernel
theorem dX1_init_12 : decode cX1_init 12 = .ok (.aload_n 0, 1) := by decide +kernel
theorem dX1_init_13 : decode cX1_init 13 = .ok (.bipush 36, 2) := by decide +kernel
theorem dX1_init_15 : decode cX1_init 15 = .ok (.newarray .int, 2) := by decide +kernel
theorem dX1_init_17 : decode cX1_init 17 = .ok (.putfield 15, 3) := by decide +kernel
theorem dX1_init_20 : decode cX1_init 20 = .ok (.iconst 0, 1) := by decide +kernel
theorem dX1_init_21 : decode cX1_init 21 = .ok (.istore_n 1, 1) := by decide +kernel
theorem dX1_init_22 : decode cX1_init 22 = .ok (.iload_n 1, 1) := by decide +kernel
theorem dX1_init_23 : decode cX1_init 23 = .ok (.bipush 36, 2) := by decide +kernel
theorem dX1_init_25 : decode cX1_init 25 = .ok (.if_icmp .ge 17, 3) := by decide +kernel
theorem dX1_init_28 : decode cX1_init 28 = .ok (.aload_n 0, 1) := by decide +kernel
theorem dX1_init_29 : decode cX1_init 29 = .ok (.getfield 9, 3) := by decide +kernel
theorem dX1_init_32 : decode cX1_init 32 = .ok (.iload_n 1, 1) := by decide +kernel
theorem dX1_init_33 : decode cX1_init 33 = .ok (.bipush 30, 2) := by decide +kernel
theorem dX1_init_35 : decode cX1_init 35 = .ok (.iastore, 1) := by decide +kernel
theorem dX1_init_36 : decode cX1_init 36 = .ok (.iinc 1 1, 3) := by decide +kernel
theorem dX1_init_39 : decode cX1_init 39 = .ok (.goto (-17), 3) := by decide +kernel
theorem dX1_init_42 : decode cX1_init 42 = .ok (.return_, 1) := by decide +kernel
theorem dX1_become_0 : decode cX1_become 0 = .ok (.aload_n 1, 1) := by decide +kernel
theorem dX1_become_1 : decode cX1_become 1 = .ok (.getfield 9, 3) := by decide +kernel
theorem dX1_become_4 : decode cX1_become 4 = .ok (.iconst 0, 1) := by decide +kernel
theorem dX1_become_5 : decode cX1_become 5 = .ok (.aload_n 0, 1) := by decide +kernel
theorem dX1_become_6 : decode cX1_become 6 = .ok (.getfield 9, 3) := by decide +kernel
theorem dX1_become_9 : decode cX1_become 9 = .ok (.iconst 0, 1) := by decide +kernel
theorem dX1_become_10 : decode cX1_become 10 = .ok (.bipush 36, 2) := by decide +kernel
theorem dX1_become_12 : decode cX1_become 12 = .ok (.invokestatic 18, 3) := by decide +kernel
theorem dX1_become_15 : decode cX1_become 15 = .ok (.aload_n 1, 1) := by decide +kernel
theorem dX1_become_16 : decode cX1_become 16 = .ok (.getfield 15, 3) := by decide +kernel
theorem dX1_become_19 : decode cX1_become 19 = .ok (.iconst 0, 1) := by decide +kernel
theorem dX1_become_20 : decode cX1_become 20 = .ok (.aload_n 0, 1) := by decide +kernel
theorem dX1_become_21 : decode cX1_become 21 = .ok (.getfield 15, 3) := by decide +kernel
theorem dX1_become_24 : decode cX1_become 24 = .ok (.iconst 0, 1) := by decide +kernel
theorem dX1_become_25 : decode cX1_become 25 = .ok (.bipush 36, 2) := by decide +kernel
theorem dX1_become_27 : decode cX1_become 27 = .ok (.invokestatic 18, 3) := by decide +kernel
theorem dX1_become_30 : decode cX1_become 30 = .ok (.return_, 1) := by decide +kernel
set_option maxRecDepth 20000 in
theorem ggX1_soundness_X4_placeOf : GoodIn wsX1_soundness wsX4_placeOf := goodIn_r _ [5] (by decide +kernel) (by decide +kernel)
set_option maxRecDepth 20000 in
theorem gX1_soundness_X4_placeOf_n24 : GoodIn wsX1_soundness (wsX4_placeOf) := ggX1_soundness_X4_placeOf
theorem dX1_soundness_0 : decode cX1_soundness 0 = .ok (.iload_n 1, 1) := by decide +kernel
theorem dX1_soundness_1 : decode cX1_soundness 1 = .ok (.iload_n 2, 1) := by decide +kernel
theorem dX1_soundness_2 : decode cX1_soundness 2 = .ok (.invokestatic 24, 3) := by decide +kernel
theorem dX1_soundness_5 : decode cX1_soundness 5 = .ok (.istore_n 3, 1) := by decide +kernel
theorem dX1_soundness_6 : decode cX1_soundness 6 = .ok (.aload_n 0, 1) := by decide +kernel
theorem dX1_soundness_7 : decode cX1_soundness 7 = .ok (.getfield 9, 3) := by decide +kernel
theorem dX1_soundness_10 : decode cX1_soundness 10 = .ok (.iload_n 3, 1) := by decide +kernel
theorem dX1_soundness_11 : decode cX1_soundness 11 = .ok (.iaload, 1) := by decide +kernel
theorem dX1_soundness_12 : decode cX1_soundness 12 = .ok (.iconst 3, 1) := by decide +kernel
theorem dX1_soundness_13 : decode cX1_soundness 13 = .ok (.aload_n 0, 1) := by decide +kernel
theorem dX1_soundness_14 : decode cX1_soundness 14 = .ok (.getfield 15, 3) := by decide +kernel
theorem dX1_soundness_17 : decode cX1_soundness 17 = .ok (.iload_n 3, 1) := by decide +kernel
theorem dX1_soundness_18 : decode cX1_soundness 18 = .ok (.iaload, 1) := by decide +kernel
theorem dX1_soundness_19 : decode cX1_soundness 19 = .ok (.imul, 1) := by decide +kernel
theorem dX1_soundness_20 : decode cX1_soundness 20 = .ok (.isub, 1) := by decide +kernel
theorem dX1_soundness_21 : decode cX1_soundness 21 = .ok (.ireturn, 1) := by decide +kernel
set_option maxRecDepth 20000 in
theorem ggX1_holds_X1_soundness : GoodIn wsX1_holds wsX1_soundness := goodIn_r _ [5, 6, 7, 8, 9, 10, 11, 12] (by decide +kernel) (by decide +kernel)
set_option maxRecDepth 20000 in
theorem gX1_holds_X1_soundness : GoodIn wsX1_holds (wsV RX1 28 RX1 yX1_soundness wsX1_soundness) := goodIn_app (goodIn_of _ (by decide +kernel)) ggX1_holds_X1_soundness
theorem dX1_holds_0 : decode cX1_holds 0 = .ok (.aload_n 0, 1) := by decide +kernel
theorem dX1_holds_1 : decode cX1_holds 1 = .ok (.iload_n 1, 1) := by decide +kernel
theorem dX1_holds_2 : decode cX1_holds 2 = .ok (.iload_n 2, 1) := by decide +kernel
theorem dX1_holds_3 : decode cX1_holds 3 = .ok (.invokevirtual 28, 3) := by decide +kernel
theorem dX1_holds_6 : decode cX1_holds 6 = .ok (.iload_n 3, 1) := by decide +kernel
theorem dX1_holds_7 : decode cX1_holds 7 = .ok (.if_icmp .lt 7, 3) := by decide +kernel
theorem dX1_holds_10 : decode cX1_holds 10 = .ok (.iconst 1, 1) := by decide +kernel
theorem dX1_holds_11 : decode cX1_holds 11 = .ok (.goto 4, 3) := by decide +kernel
theorem dX1_holds_14 : decode cX1_holds 14 = .ok (.iconst 0, 1) := by decide +kernel
theorem dX1_holds_15 : decode cX1_holds 15 = .ok (.ireturn, 1) := by decide +kernel
set_option maxRecDepth 20000 in
theorem ggX1_mostBorneAt_X1_soundness : GoodIn wsX1_mostBorneAt wsX1_soundness := goodIn_r _ [9, 10, 11, 12, 13, 14, 15, 16] (by decide +kernel) (by decide +kernel)
set_option maxRecDepth 20000 in
theorem gX1_mostBorneAt_X1_soundness : GoodIn wsX1_mostBorneAt (wsV RX1 28 RX1 yX1_soundness wsX1_soundness) := goodIn_app (goodIn_of _ (by decide +kernel)) ggX1_mostBorneAt_X1_soundness
theorem dX1_mostBorneAt_0 : decode cX1_mostBorneAt 0 = .ok (.iconst 0, 1) := by decide +kernel
theorem dX1_mostBorneAt_1 : decode cX1_mostBorneAt 1 = .ok (.aload_n 0, 1) := by decide +kernel
theorem dX1_mostBorneAt_2 : decode cX1_mostBorneAt 2 = .ok (.iload_n 1, 1) := by decide +kernel
theorem dX1_mostBorneAt_3 : decode cX1_mostBorneAt 3 = .ok (.iload_n 2, 1) := by decide +kernel
theorem dX1_mostBorneAt_4 : decode cX1_mostBorneAt 4 = .ok (.invokevirtual 28, 3) := by decide +kernel
theorem dX1_mostBorneAt_7 : decode cX1_mostBorneAt 7 = .ok (.invokestatic 31, 3) := by decide +kernel
theorem dX1_mostBorneAt_10 : decode cX1_mostBorneAt 10 = .ok (.ireturn, 1) := by decide +kernel
set_option maxRecDepth 20000 in
theorem ggX1_mostBorneBetween_X1_mostBorneAt : GoodIn wsX1_mostBorneBetween wsX1_mostBorneAt := goodIn_r _ [12, 1, 2, 3, 4, 13, 14, 15, 11, 16, 17, 18, 19, 20, 21, 22, 23] (by decide +kernel) (by decide +kernel)
set_option maxRecDepth 20000 in
theorem gX1_mostBorneBetween_X1_mostBorneAt : GoodIn wsX1_mostBorneBetween (wsV RX1 36 RX1 yX1_mostBorneAt wsX1_mostBorneAt) := goodIn_app (goodIn_of _ (by decide +kernel)) ggX1_mostBorneBetween_X1_mostBorneAt
theorem dX1_mostBorneBetween_0 : decode cX1_mostBorneBetween 0 = .ok (.aload_n 0, 1) := by decide +kernel
theorem dX1_mostBorneBetween_1 : decode cX1_mostBorneBetween 1 = .ok (.iload_n 1, 1) := by decide +kernel
theorem dX1_mostBorneBetween_2 : decode cX1_mostBorneBetween 2 = .ok (.iconst 0, 1) := by decide +kernel
theorem dX1_mostBorneBetween_3 : decode cX1_mostBorneBetween 3 = .ok (.invokevirtual 36, 3) := by decide +kernel
theorem dX1_mostBorneBetween_6 : decode cX1_mostBorneBetween 6 = .ok (.istore_n 3, 1) := by decide +kernel
theorem dX1_mostBorneBetween_7 : decode cX1_mostBorneBetween 7 = .ok (.aload_n 0, 1) := by decide +kernel
theorem dX1_mostBorneBetween_8 : decode cX1_mostBorneBetween 8 = .ok (.iload_n 1, 1) := by decide +kernel
theorem dX1_mostBorneBetween_9 : decode cX1_mostBorneBetween 9 = .ok (.iconst 1, 1) := by decide +kernel
theorem dX1_mostBorneBetween_10 : decode cX1_mostBorneBetween 10 = .ok (.invokevirtual 36, 3) := by decide +kernel
theorem dX1_mostBorneBetween_13 : decode cX1_mostBorneBetween 13 = .ok (.istore 4, 2) := by decide +kernel
theorem dX1_mostBorneBetween_15 : decode cX1_mostBorneBetween 15 = .ok (.aload_n 0, 1) := by decide +kernel
theorem dX1_mostBorneBetween_16 : decode cX1_mostBorneBetween 16 = .ok (.iload_n 1, 1) := by decide +kernel
theorem dX1_mostBorneBetween_17 : decode cX1_mostBorneBetween 17 = .ok (.iconst 2, 1) := by decide +kernel
theorem dX1_mostBorneBetween_18 : decode cX1_mostBorneBetween 18 = .ok (.invokevirtual 36, 3) := by decide +kernel
theorem dX1_mostBorneBetween_21 : decode cX1_mostBorneBetween 21 = .ok (.istore 5, 2) := by decide +kernel
theorem dX1_mostBorneBetween_23 : decode cX1_mostBorneBetween 23 = .ok (.iload_n 1, 1) := by decide +kernel
theorem dX1_mostBorneBetween_24 : decode cX1_mostBorneBetween 24 = .ok (.iconst 1, 1) := by decide +kernel
theorem dX1_mostBorneBetween_25 : decode cX1_mostBorneBetween 25 = .ok (.iadd, 1) := by decide +kernel
theorem dX1_mostBorneBetween_26 : decode cX1_mostBorneBetween 26 = .ok (.istore 6, 2) := by decide +kernel
theorem dX1_mostBorneBetween_28 : decode cX1_mostBorneBetween 28 = .ok (.iload 6, 2) := by decide +kernel
theorem dX1_mostBorneBetween_30 : decode cX1_mostBorneBetween 30 = .ok (.iload_n 2, 1) := by decide +kernel
theorem dX1_mostBorneBetween_31 : decode cX1_mostBorneBetween 31 = .ok (.if_icmp .gt 72, 3) := by decide +kernel
theorem dX1_mostBorneBetween_34 : decode cX1_mostBorneBetween 34 = .ok (.iload_n 3, 1) := by decide +kernel
theorem dX1_mostBorneBetween_35 : decode cX1_mostBorneBetween 35 = .ok (.iload 4, 2) := by decide +kernel
theorem dX1_mostBorneBetween_37 : decode cX1_mostBorneBetween 37 = .ok (.invokestatic 31, 3) := by decide +kernel
theorem dX1_mostBorneBetween_40 : decode cX1_mostBorneBetween 40 = .ok (.istore 7, 2) := by decide +kernel
theorem dX1_mostBorneBetween_42 : decode cX1_mostBorneBetween 42 = .ok (.iload 4, 2) := by decide +kernel
theorem dX1_mostBorneBetween_44 : decode cX1_mostBorneBetween 44 = .ok (.iload 5, 2) := by decide +kernel
theorem dX1_mostBorneBetween_46 : decode cX1_mostBorneBetween 46 = .ok (.invokestatic 31, 3) := by decide +kernel
theorem dX1_mostBorneBetween_49 : decode cX1_mostBorneBetween 49 = .ok (.istore 8, 2) := by decide +kernel
theorem dX1_mostBorneBetween_51 : decode cX1_mostBorneBetween 51 = .ok (.iload 7, 2) := by decide +kernel
theorem dX1_mostBorneBetween_53 : decode cX1_mostBorneBetween 53 = .ok (.aload_n 0, 1) := by decide +kernel
theorem dX1_mostBorneBetween_54 : decode cX1_mostBorneBetween 54 = .ok (.iload 6, 2) := by decide +kernel
theorem dX1_mostBorneBetween_56 : decode cX1_mostBorneBetween 56 = .ok (.iconst 0, 1) := by decide +kernel
theorem dX1_mostBorneBetween_57 : decode cX1_mostBorneBetween 57 = .ok (.invokevirtual 36, 3) := by decide +kernel
theorem dX1_mostBorneBetween_60 : decode cX1_mostBorneBetween 60 = .ok (.invokestatic 39, 3) := by decide +kernel
theorem dX1_mostBorneBetween_63 : decode cX1_mostBorneBetween 63 = .ok (.istore_n 3, 1) := by decide +kernel
theorem dX1_mostBorneBetween_64 : decode cX1_mostBorneBetween 64 = .ok (.iload 7, 2) := by decide +kernel
theorem dX1_mostBorneBetween_66 : decode cX1_mostBorneBetween 66 = .ok (.iload 8, 2) := by decide +kernel
theorem dX1_mostBorneBetween_68 : decode cX1_mostBorneBetween 68 = .ok (.invokestatic 31, 3) := by decide +kernel
theorem dX1_mostBorneBetween_71 : decode cX1_mostBorneBetween 71 = .ok (.aload_n 0, 1) := by decide +kernel
theorem dX1_mostBorneBetween_72 : decode cX1_mostBorneBetween 72 = .ok (.iload 6, 2) := by decide +kernel
theorem dX1_mostBorneBetween_74 : decode cX1_mostBorneBetween 74 = .ok (.iconst 1, 1) := by decide +kernel
theorem dX1_mostBorneBetween_75 : decode cX1_mostBorneBetween 75 = .ok (.invokevirtual 36, 3) := by decide +kernel
theorem dX1_mostBorneBetween_78 : decode cX1_mostBorneBetween 78 = .ok (.invokestatic 39, 3) := by decide +kernel
theorem dX1_mostBorneBetween_81 : decode cX1_mostBorneBetween 81 = .ok (.istore 4, 2) := by decide +kernel
theorem dX1_mostBorneBetween_83 : decode cX1_mostBorneBetween 83 = .ok (.iload 8, 2) := by decide +kernel
theorem dX1_mostBorneBetween_85 : decode cX1_mostBorneBetween 85 = .ok (.aload_n 0, 1) := by decide +kernel
theorem dX1_mostBorneBetween_86 : decode cX1_mostBorneBetween 86 = .ok (.iload 6, 2) := by decide +kernel
theorem dX1_mostBorneBetween_88 : decode cX1_mostBorneBetween 88 = .ok (.iconst 2, 1) := by decide +kernel
theorem dX1_mostBorneBetween_89 : decode cX1_mostBorneBetween 89 = .ok (.invokevirtual 36, 3) := by decide +kernel
theorem dX1_mostBorneBetween_92 : decode cX1_mostBorneBetween 92 = .ok (.invokestatic 39, 3) := by decide +kernel
theorem dX1_mostBorneBetween_95 : decode cX1_mostBorneBetween 95 = .ok (.istore 5, 2) := by decide +kernel
theorem dX1_mostBorneBetween_97 : decode cX1_mostBorneBetween 97 = .ok (.iinc 6 1, 3) := by decide +kernel
theorem dX1_mostBorneBetween_100 : decode cX1_mostBorneBetween 100 = .ok (.goto (-72), 3) := by decide +kernel
theorem dX1_mostBorneBetween_103 : decode cX1_mostBorneBetween 103 = .ok (.iload_n 3, 1) := by decide +kernel
theorem dX1_mostBorneBetween_104 : decode cX1_mostBorneBetween 104 = .ok (.iload 4, 2) := by decide +kernel
theorem dX1_mostBorneBetween_106 : decode cX1_mostBorneBetween 106 = .ok (.invokestatic 31, 3) := by decide +kernel
theorem dX1_mostBorneBetween_109 : decode cX1_mostBorneBetween 109 = .ok (.iload 5, 2) := by decide +kernel
theorem dX1_mostBorneBetween_111 : decode cX1_mostBorneBetween 111 = .ok (.invokestatic 31, 3) := by decide +kernel
theorem dX1_mostBorneBetween_114 : decode cX1_mostBorneBetween 114 = .ok (.ireturn, 1) := by decide +kernel
theorem dX1_meetDay_0 : decode cX1_meetDay 0 = .ok (.iload_n 1, 1) := by decide +kernel
theorem dX1_meetDay_1 : decode cX1_meetDay 1 = .ok (.ifCond .ge 8, 3) := by decide +kernel
theorem dX1_meetDay_4 : decode cX1_meetDay 4 = .ok (.iload_n 1, 1) := by decide +kernel
theorem dX1_meetDay_5 : decode cX1_meetDay 5 = .ok (.ineg, 1) := by decide +kernel
theorem dX1_meetDay_6 : decode cX1_meetDay 6 = .ok (.goto 7, 3) := by decide +kernel
theorem dX1_meetDay_9 : decode cX1_meetDay 9 = .ok (.bipush (-2), 2) := by decide +kernel
theorem dX1_meetDay_11 : decode cX1_meetDay 11 = .ok (.iload_n 1, 1) := by decide +kernel
theorem dX1_meetDay_12 : decode cX1_meetDay 12 = .ok (.imul, 1) := by decide +kernel
theorem dX1_meetDay_13 : decode cX1_meetDay 13 = .ok (.istore_n 2, 1) := by decide +kernel
theorem dX1_meetDay_14 : decode cX1_meetDay 14 = .ok (.iconst 0, 1) := by decide +kernel
theorem dX1_meetDay_15 : decode cX1_meetDay 15 = .ok (.istore_n 3, 1) := by decide +kernel
theorem dX1_meetDay_16 : decode cX1_meetDay 16 = .ok (.iload_n 3, 1) := by decide +kernel
theorem dX1_meetDay_17 : decode cX1_meetDay 17 = .ok (.bipush 36, 2) := by decide +kernel
theorem dX1_meetDay_19 : decode cX1_meetDay 19 = .ok (.if_icmp .ge 56, 3) := by decide +kernel
theorem dX1_meetDay_22 : decode cX1_meetDay 22 = .ok (.aload_n 0, 1) := by decide +kernel
theorem dX1_meetDay_23 : decode cX1_meetDay 23 = .ok (.getfield 9, 3) := by decide +kernel
theorem dX1_meetDay_26 : decode cX1_meetDay 26 = .ok (.iload_n 3, 1) := by decide +kernel
theorem dX1_meetDay_27 : decode cX1_meetDay 27 = .ok (.iconst 0, 1) := by decide +kernel
theorem dX1_meetDay_28 : decode cX1_meetDay 28 = .ok (.bipush 60, 2) := by decide +kernel
theorem dX1_meetDay_30 : decode cX1_meetDay 30 = .ok (.aload_n 0, 1) := by decide +kernel
theorem dX1_meetDay_31 : decode cX1_meetDay 31 = .ok (.getfield 9, 3) := by decide +kernel
theorem dX1_meetDay_34 : decode cX1_meetDay 34 = .ok (.iload_n 3, 1) := by decide +kernel
theorem dX1_meetDay_35 : decode cX1_meetDay 35 = .ok (.iaload, 1) := by decide +kernel
theorem dX1_meetDay_36 : decode cX1_meetDay 36 = .ok (.iload_n 2, 1) := by decide +kernel
theorem dX1_meetDay_37 : decode cX1_meetDay 37 = .ok (.iadd, 1) := by decide +kernel
theorem dX1_meetDay_38 : decode cX1_meetDay 38 = .ok (.invokestatic 39, 3) := by decide +kernel
theorem dX1_meetDay_41 : decode cX1_meetDay 41 = .ok (.invokestatic 31, 3) := by decide +kernel
theorem dX1_meetDay_44 : decode cX1_meetDay 44 = .ok (.iastore, 1) := by decide +kernel
theorem dX1_meetDay_45 : decode cX1_meetDay 45 = .ok (.iload_n 1, 1) := by decide +kernel
theorem dX1_meetDay_46 : decode cX1_meetDay 46 = .ok (.bipush (-3), 2) := by decide +kernel
theorem dX1_meetDay_48 : decode cX1_meetDay 48 = .ok (.if_icmp .gt 21, 3) := by decide +kernel
theorem dX1_meetDay_51 : decode cX1_meetDay 51 = .ok (.aload_n 0, 1) := by decide +kernel
theorem dX1_meetDay_52 : decode cX1_meetDay 52 = .ok (.getfield 15, 3) := by decide +kernel
theorem dX1_meetDay_55 : decode cX1_meetDay 55 = .ok (.iload_n 3, 1) := by decide +kernel
theorem dX1_meetDay_56 : decode cX1_meetDay 56 = .ok (.iconst 0, 1) := by decide +kernel
theorem dX1_meetDay_57 : decode cX1_meetDay 57 = .ok (.aload_n 0, 1) := by decide +kernel
theorem dX1_meetDay_58 : decode cX1_meetDay 58 = .ok (.getfield 15, 3) := by decide +kernel
theorem dX1_meetDay_61 : decode cX1_meetDay 61 = .ok (.iload_n 3, 1) := by decide +kernel
theorem dX1_meetDay_62 : decode cX1_meetDay 62 = .ok (.iaload, 1) := by decide +kernel
theorem dX1_meetDay_63 : decode cX1_meetDay 63 = .ok (.iconst 1, 1) := by decide +kernel
theorem dX1_meetDay_64 : decode cX1_meetDay 64 = .ok (.isub, 1) := by decide +kernel
theorem dX1_meetDay_65 : decode cX1_meetDay 65 = .ok (.invokestatic 31, 3) := by decide +kernel
theorem dX1_meetDay_68 : decode cX1_meetDay 68 = .ok (.iastore, 1) := by decide +kernel
theorem dX1_meetDay_69 : decode cX1_meetDay 69 = .ok (.iinc 3 1, 3) := by decide +kernel
theorem dX1_meetDay_72 : decode cX1_meetDay 72 = .ok (.goto (-56), 3) := by decide +kernel
theorem dX1_meetDay_75 : decode cX1_meetDay 75 = .ok (.return_, 1) := by decide +kernel
set_option maxRecDepth 20000 in
theorem ggX1_withstands_X4_placeOf : GoodIn wsX1_withstands wsX4_placeOf := goodIn_r _ [9] (by decide +kernel) (by decide +kernel)
set_option maxRecDepth 20000 in
theorem gX1_withstands_X4_placeOf_n24 : GoodIn wsX1_withstands (wsX4_placeOf) := ggX1_withstands_X4_placeOf
set_option maxRecDepth 20000 in
theorem ggX1_withstands_X1_soundness : GoodIn wsX1_withstands wsX1_soundness := goodIn_r _ [14, 6, 1, 7, 8, 9, 15, 16] (by decide +kernel) (by decide +kernel)
set_option maxRecDepth 20000 in
theorem gX1_withstands_X1_soundness : GoodIn wsX1_withstands (wsV RX1 28 RX1 yX1_soundness wsX1_soundness) := goodIn_app (goodIn_of _ (by decide +kernel)) ggX1_withstands_X1_soundness
theorem dX1_withstands_0 : decode cX1_withstands 0 = .ok (.iload_n 1, 1) := by decide +kernel
theorem dX1_withstands_1 : decode cX1_withstands 1 = .ok (.iload_n 2, 1) := by decide +kernel
theorem dX1_withstands_2 : decode cX1_withstands 2 = .ok (.invokestatic 24, 3) := by decide +kernel
theorem dX1_withstands_5 : decode cX1_withstands 5 = .ok (.istore 4, 2) := by decide +kernel
theorem dX1_withstands_7 : decode cX1_withstands 7 = .ok (.aload_n 0, 1) := by decide +kernel
theorem dX1_withstands_8 : decode cX1_withstands 8 = .ok (.iload_n 1, 1) := by decide +kernel
theorem dX1_withstands_9 : decode cX1_withstands 9 = .ok (.iload_n 2, 1) := by decide +kernel
theorem dX1_withstands_10 : decode cX1_withstands 10 = .ok (.invokevirtual 28, 3) := by decide +kernel
theorem dX1_withstands_13 : decode cX1_withstands 13 = .ok (.iconst 2, 1) := by decide +kernel
theorem dX1_withstands_14 : decode cX1_withstands 14 = .ok (.iload_n 3, 1) := by decide +kernel
theorem dX1_withstands_15 : decode cX1_withstands 15 = .ok (.imul, 1) := by decide +kernel
theorem dX1_withstands_16 : decode cX1_withstands 16 = .ok (.if_icmp .ge 24, 3) := by decide +kernel
theorem dX1_withstands_19 : decode cX1_withstands 19 = .ok (.aload_n 0, 1) := by decide +kernel
theorem dX1_withstands_20 : decode cX1_withstands 20 = .ok (.getfield 15, 3) := by decide +kernel
theorem dX1_withstands_23 : decode cX1_withstands 23 = .ok (.iload 4, 2) := by decide +kernel
theorem dX1_withstands_25 : decode cX1_withstands 25 = .ok (.bipush 9, 2) := by decide +kernel
theorem dX1_withstands_27 : decode cX1_withstands 27 = .ok (.aload_n 0, 1) := by decide +kernel
theorem dX1_withstands_28 : decode cX1_withstands 28 = .ok (.getfield 15, 3) := by decide +kernel
theorem dX1_withstands_31 : decode cX1_withstands 31 = .ok (.iload 4, 2) := by decide +kernel
theorem dX1_withstands_33 : decode cX1_withstands 33 = .ok (.iaload, 1) := by decide +kernel
theorem dX1_withstands_34 : decode cX1_withstands 34 = .ok (.iconst 1, 1) := by decide +kernel
theorem dX1_withstands_35 : decode cX1_withstands 35 = .ok (.iadd, 1) := by decide +kernel
theorem dX1_withstands_36 : decode cX1_withstands 36 = .ok (.invokestatic 39, 3) := by decide +kernel
theorem dX1_withstands_39 : decode cX1_withstands 39 = .ok (.iastore, 1) := by decide +kernel
theorem dX1_withstands_40 : decode cX1_withstands 40 = .ok (.aload_n 0, 1) := by decide +kernel
theorem dX1_withstands_41 : decode cX1_withstands 41 = .ok (.iload_n 1, 1) := by decide +kernel
theorem dX1_withstands_42 : decode cX1_withstands 42 = .ok (.iload_n 2, 1) := by decide +kernel
theorem dX1_withstands_43 : decode cX1_withstands 43 = .ok (.invokevirtual 28, 3) := by decide +kernel
theorem dX1_withstands_46 : decode cX1_withstands 46 = .ok (.iload_n 3, 1) := by decide +kernel
theorem dX1_withstands_47 : decode cX1_withstands 47 = .ok (.if_icmp .lt 5, 3) := by decide +kernel
theorem dX1_withstands_50 : decode cX1_withstands 50 = .ok (.iconst 1, 1) := by decide +kernel
theorem dX1_withstands_51 : decode cX1_withstands 51 = .ok (.ireturn, 1) := by decide +kernel
theorem dX1_withstands_52 : decode cX1_withstands 52 = .ok (.aload_n 0, 1) := by decide +kernel
theorem dX1_withstands_53 : decode cX1_withstands 53 = .ok (.getfield 9, 3) := by decide +kernel
theorem dX1_withstands_56 : decode cX1_withstands 56 = .ok (.iload 4, 2) := by decide +kernel
theorem dX1_withstands_58 : decode cX1_withstands 58 = .ok (.iconst 0, 1) := by decide +kernel
theorem dX1_withstands_59 : decode cX1_withstands 59 = .ok (.iastore, 1) := by decide +kernel
theorem dX1_withstands_60 : decode cX1_withstands 60 = .ok (.iconst 0, 1) := by decide +kernel
theorem dX1_withstands_61 : decode cX1_withstands 61 = .ok (.ireturn, 1) := by decide +kernel
set_option maxRecDepth 20000 in
theorem ggX1_laneFor_X1_soundness : GoodIn wsX1_laneFor wsX1_soundness := goodIn_r _ [12, 13, 14, 15, 16, 17, 18, 19] (by decide +kernel) (by decide +kernel)
set_option maxRecDepth 20000 in
theorem gX1_laneFor_X1_soundness : GoodIn wsX1_laneFor (wsV RX1 28 RX1 yX1_soundness wsX1_soundness) := goodIn_app (goodIn_of _ (by decide +kernel)) ggX1_laneFor_X1_soundness
theorem dX1_laneFor_0 : decode cX1_laneFor 0 = .ok (.iconst (-1), 1) := by decide +kernel
theorem dX1_laneFor_1 : decode cX1_laneFor 1 = .ok (.istore 4, 2) := by decide +kernel
theorem dX1_laneFor_3 : decode cX1_laneFor 3 = .ok (.iconst 0, 1) := by decide +kernel
theorem dX1_laneFor_4 : decode cX1_laneFor 4 = .ok (.istore 5, 2) := by decide +kernel
theorem dX1_laneFor_6 : decode cX1_laneFor 6 = .ok (.iconst 2, 1) := by decide +kernel
theorem dX1_laneFor_7 : decode cX1_laneFor 7 = .ok (.iload_n 2, 1) := by decide +kernel
theorem dX1_laneFor_8 : decode cX1_laneFor 8 = .ok (.iconst 1, 1) := by decide +kernel
theorem dX1_laneFor_9 : decode cX1_laneFor 9 = .ok (.iadd, 1) := by decide +kernel
theorem dX1_laneFor_10 : decode cX1_laneFor 10 = .ok (.invokestatic 39, 3) := by decide +kernel
theorem dX1_laneFor_13 : decode cX1_laneFor 13 = .ok (.istore 6, 2) := by decide +kernel
theorem dX1_laneFor_15 : decode cX1_laneFor 15 = .ok (.iconst 0, 1) := by decide +kernel
theorem dX1_laneFor_16 : decode cX1_laneFor 16 = .ok (.iload_n 2, 1) := by decide +kernel
theorem dX1_laneFor_17 : decode cX1_laneFor 17 = .ok (.iconst 1, 1) := by decide +kernel
theorem dX1_laneFor_18 : decode cX1_laneFor 18 = .ok (.isub, 1) := by decide +kernel
theorem dX1_laneFor_19 : decode cX1_laneFor 19 = .ok (.invokestatic 31, 3) := by decide +kernel
theorem dX1_laneFor_22 : decode cX1_laneFor 22 = .ok (.istore 7, 2) := by decide +kernel
theorem dX1_laneFor_24 : decode cX1_laneFor 24 = .ok (.iload 7, 2) := by decide +kernel
theorem dX1_laneFor_26 : decode cX1_laneFor 26 = .ok (.iload 6, 2) := by decide +kernel
theorem dX1_laneFor_28 : decode cX1_laneFor 28 = .ok (.if_icmp .gt 45, 3) := by decide +kernel
theorem dX1_laneFor_31 : decode cX1_laneFor 31 = .ok (.aload_n 0, 1) := by decide +kernel
theorem dX1_laneFor_32 : decode cX1_laneFor 32 = .ok (.iload_n 1, 1) := by decide +kernel
theorem dX1_laneFor_33 : decode cX1_laneFor 33 = .ok (.iload 7, 2) := by decide +kernel
theorem dX1_laneFor_35 : decode cX1_laneFor 35 = .ok (.invokevirtual 28, 3) := by decide +kernel
theorem dX1_laneFor_38 : decode cX1_laneFor 38 = .ok (.istore 8, 2) := by decide +kernel
theorem dX1_laneFor_40 : decode cX1_laneFor 40 = .ok (.iload 8, 2) := by decide +kernel
theorem dX1_laneFor_42 : decode cX1_laneFor 42 = .ok (.iload_n 3, 1) := by decide +kernel
theorem dX1_laneFor_43 : decode cX1_laneFor 43 = .ok (.if_icmp .lt 24, 3) := by decide +kernel
theorem dX1_laneFor_46 : decode cX1_laneFor 46 = .ok (.iload 4, 2) := by decide +kernel
theorem dX1_laneFor_48 : decode cX1_laneFor 48 = .ok (.iconst (-1), 1) := by decide +kernel
theorem dX1_laneFor_49 : decode cX1_laneFor 49 = .ok (.if_icmp .eq 10, 3) := by decide +kernel
theorem dX1_laneFor_52 : decode cX1_laneFor 52 = .ok (.iload 8, 2) := by decide +kernel
theorem dX1_laneFor_54 : decode cX1_laneFor 54 = .ok (.iload 5, 2) := by decide +kernel
theorem dX1_laneFor_56 : decode cX1_laneFor 56 = .ok (.if_icmp .le 11, 3) := by decide +kernel
theorem dX1_laneFor_59 : decode cX1_laneFor 59 = .ok (.iload 7, 2) := by decide +kernel
theorem dX1_laneFor_61 : decode cX1_laneFor 61 = .ok (.istore 4, 2) := by decide +kernel
theorem dX1_laneFor_63 : decode cX1_laneFor 63 = .ok (.iload 8, 2) := by decide +kernel
theorem dX1_laneFor_65 : decode cX1_laneFor 65 = .ok (.istore 5, 2) := by decide +kernel
theorem dX1_laneFor_67 : decode cX1_laneFor 67 = .ok (.iinc 7 1, 3) := by decide +kernel
theorem dX1_laneFor_70 : decode cX1_laneFor 70 = .ok (.goto (-46), 3) := by decide +kernel
theorem dX1_laneFor_73 : decode cX1_laneFor 73 = .ok (.iload 4, 2) := by decide +kernel
theorem dX1_laneFor_75 : decode cX1_laneFor 75 = .ok (.ireturn, 1) := by decide +kernel
set_option maxRecDepth 20000 in
theorem ggX1_isOpenAcross_X4_placeOf : GoodIn wsX1_isOpenAcross wsX4_placeOf := goodIn_r _ [4] (by decide +kernel) (by decide +kernel)
set_option maxRecDepth 20000 in
theorem gX1_isOpenAcross_X4_placeOf_n24 : GoodIn wsX1_isOpenAcross (wsX4_placeOf) := ggX1_isOpenAcross_X4_placeOf
theorem dX1_isOpenAcross_0 : decode cX1_isOpenAcross 0 = .ok (.iconst 0, 1) := by decide +kernel
theorem dX1_isOpenAcross_1 : decode cX1_isOpenAcross 1 = .ok (.istore_n 1, 1) := by decide +kernel
theorem dX1_isOpenAcross_2 : decode cX1_isOpenAcross 2 = .ok (.iload_n 1, 1) := by decide +kernel
theorem dX1_isOpenAcross_3 : decode cX1_isOpenAcross 3 = .ok (.bipush 12, 2) := by decide +kernel
theorem dX1_isOpenAcross_5 : decode cX1_isOpenAcross 5 = .ok (.if_icmp .ge 43, 3) := by decide +kernel
theorem dX1_isOpenAcross_8 : decode cX1_isOpenAcross 8 = .ok (.iconst 0, 1) := by decide +kernel
theorem dX1_isOpenAcross_9 : decode cX1_isOpenAcross 9 = .ok (.istore_n 2, 1) := by decide +kernel
theorem dX1_isOpenAcross_10 : decode cX1_isOpenAcross 10 = .ok (.iconst 0, 1) := by decide +kernel
theorem dX1_isOpenAcross_11 : decode cX1_isOpenAcross 11 = .ok (.istore_n 3, 1) := by decide +kernel
theorem dX1_isOpenAcross_12 : decode cX1_isOpenAcross 12 = .ok (.iload_n 3, 1) := by decide +kernel
theorem dX1_isOpenAcross_13 : decode cX1_isOpenAcross 13 = .ok (.iconst 3, 1) := by decide +kernel
theorem dX1_isOpenAcross_14 : decode cX1_isOpenAcross 14 = .ok (.if_icmp .ge 22, 3) := by decide +kernel
theorem dX1_isOpenAcross_17 : decode cX1_isOpenAcross 17 = .ok (.iload_n 2, 1) := by decide +kernel
theorem dX1_isOpenAcross_18 : decode cX1_isOpenAcross 18 = .ok (.aload_n 0, 1) := by decide +kernel
theorem dX1_isOpenAcross_19 : decode cX1_isOpenAcross 19 = .ok (.getfield 9, 3) := by decide +kernel
theorem dX1_isOpenAcross_22 : decode cX1_isOpenAcross 22 = .ok (.iload_n 1, 1) := by decide +kernel
theorem dX1_isOpenAcross_23 : decode cX1_isOpenAcross 23 = .ok (.iload_n 3, 1) := by decide +kernel
theorem dX1_isOpenAcross_24 : decode cX1_isOpenAcross 24 = .ok (.invokestatic 24, 3) := by decide +kernel
theorem dX1_isOpenAcross_27 : decode cX1_isOpenAcross 27 = .ok (.iaload, 1) := by decide +kernel
theorem dX1_isOpenAcross_28 : decode cX1_isOpenAcross 28 = .ok (.iadd, 1) := by decide +kernel
theorem dX1_isOpenAcross_29 : decode cX1_isOpenAcross 29 = .ok (.istore_n 2, 1) := by decide +kernel
theorem dX1_isOpenAcross_30 : decode cX1_isOpenAcross 30 = .ok (.iinc 3 1, 3) := by decide +kernel
theorem dX1_isOpenAcross_33 : decode cX1_isOpenAcross 33 = .ok (.goto (-21), 3) := by decide +kernel
theorem dX1_isOpenAcross_36 : decode cX1_isOpenAcross 36 = .ok (.iload_n 2, 1) := by decide +kernel
theorem dX1_isOpenAcross_37 : decode cX1_isOpenAcross 37 = .ok (.ifCond .ne 5, 3) := by decide +kernel
theorem dX1_isOpenAcross_40 : decode cX1_isOpenAcross 40 = .ok (.iconst 1, 1) := by decide +kernel
theorem dX1_isOpenAcross_41 : decode cX1_isOpenAcross 41 = .ok (.ireturn, 1) := by decide +kernel
theorem dX1_isOpenAcross_42 : decode cX1_isOpenAcross 42 = .ok (.iinc 1 1, 3) := by decide +kernel
theorem dX1_isOpenAcross_45 : decode cX1_isOpenAcross 45 = .ok (.goto (-43), 3) := by decide +kernel
theorem dX1_isOpenAcross_48 : decode cX1_isOpenAcross 48 = .ok (.iconst 0, 1) := by decide +kernel
theorem dX1_isOpenAcross_49 : decode cX1_isOpenAcross 49 = .ok (.ireturn, 1) := by decide +kernel
theorem dX1_placesOfOpenWater_0 : decode cX1_placesOfOpenWater 0 = .ok (.iconst 0, 1) := by decide +kernel
theorem dX1_placesOfOpenWater_1 : decode cX1_placesOfOpenWater 1 = .ok (.istore_n 1, 1) := by decide +kernel
theorem dX1_placesOfOpenWater_2 : decode cX1_placesOfOpenWater 2 = .ok (.iconst 0, 1) := by decide +kernel
theorem dX1_placesOfOpenWater_3 : decode cX1_placesOfOpenWater 3 = .ok (.istore_n 2, 1) := by decide +kernel
theorem dX1_placesOfOpenWater_4 : decode cX1_placesOfOpenWater 4 = .ok (.iload_n 2, 1) := by decide +kernel
theorem dX1_placesOfOpenWater_5 : decode cX1_placesOfOpenWater 5 = .ok (.bipush 36, 2) := by decide +kernel
theorem dX1_placesOfOpenWater_7 : decode cX1_placesOfOpenWater 7 = .ok (.if_icmp .ge 21, 3) := by decide +kernel
theorem dX1_placesOfOpenWater_10 : decode cX1_placesOfOpenWater 10 = .ok (.aload_n 0, 1) := by decide +kernel
theorem dX1_placesOfOpenWater_11 : decode cX1_placesOfOpenWater 11 = .ok (.getfield 9, 3) := by decide +kernel
theorem dX1_placesOfOpenWater_14 : decode cX1_placesOfOpenWater 14 = .ok (.iload_n 2, 1) := by decide +kernel
theorem dX1_placesOfOpenWater_15 : decode cX1_placesOfOpenWater 15 = .ok (.iaload, 1) := by decide +kernel
theorem dX1_placesOfOpenWater_16 : decode cX1_placesOfOpenWater 16 = .ok (.ifCond .ne 6, 3) := by decide +kernel
theorem dX1_placesOfOpenWater_19 : decode cX1_placesOfOpenWater 19 = .ok (.iinc 1 1, 3) := by decide +kernel
theorem dX1_placesOfOpenWater_22 : decode cX1_placesOfOpenWater 22 = .ok (.iinc 2 1, 3) := by decide +kernel
theorem dX1_placesOfOpenWater_25 : decode cX1_placesOfOpenWater 25 = .ok (.goto (-21), 3) := by decide +kernel
theorem dX1_placesOfOpenWater_28 : decode cX1_placesOfOpenWater 28 = .ok (.iload_n 1, 1) := by decide +kernel
theorem dX1_placesOfOpenWater_29 : decode cX1_placesOfOpenWater 29 = .ok (.ireturn, 1) := by decide +kernel
theorem dX1_inAll_0 : decode cX1_inAll 0 = .ok (.iconst 0, 1) := by decide +kernel
theorem dX1_inAll_1 : decode cX1_inAll 1 = .ok (.istore_n 1, 1) := by decide +kernel
theorem dX1_inAll_2 : decode cX1_inAll 2 = .ok (.iconst 0, 1) := by decide +kernel
theorem dX1_inAll_3 : decode cX1_inAll 3 = .ok (.istore_n 2, 1) := by decide +kernel
theorem dX1_inAll_4 : decode cX1_inAll 4 = .ok (.iload_n 2, 1) := by decide +kernel
theorem dX1_inAll_5 : decode cX1_inAll 5 = .ok (.bipush 36, 2) := by decide +kernel
theorem dX1_inAll_7 : decode cX1_inAll 7 = .ok (.if_icmp .ge 18, 3) := by decide +kernel
theorem dX1_inAll_10 : decode cX1_inAll 10 = .ok (.iload_n 1, 1) := by decide +kernel
theorem dX1_inAll_11 : decode cX1_inAll 11 = .ok (.aload_n 0, 1) := by decide +kernel
theorem dX1_inAll_12 : decode cX1_inAll 12 = .ok (.getfield 9, 3) := by decide +kernel
theorem dX1_inAll_15 : decode cX1_inAll 15 = .ok (.iload_n 2, 1) := by decide +kernel
theorem dX1_inAll_16 : decode cX1_inAll 16 = .ok (.iaload, 1) := by decide +kernel
theorem dX1_inAll_17 : decode cX1_inAll 17 = .ok (.iadd, 1) := by decide +kernel
theorem dX1_inAll_18 : decode cX1_inAll 18 = .ok (.istore_n 1, 1) := by decide +kernel
theorem dX1_inAll_19 : decode cX1_inAll 19 = .ok (.iinc 2 1, 3) := by decide +kernel
theorem dX1_inAll_22 : decode cX1_inAll 22 = .ok (.goto (-18), 3) := by decide +kernel
theorem dX1_inAll_25 : decode cX1_inAll 25 = .ok (.iload_n 1, 1) := by decide +kernel
theorem dX1_inAll_26 : decode cX1_inAll 26 = .ok (.ireturn, 1) := by decide +kernel
theorem dX1_cracksInAll_0 : decode cX1_cracksInAll 0 = .ok (.iconst 0, 1) := by decide +kernel
theorem dX1_cracksInAll_1 : decode cX1_cracksInAll 1 = .ok (.istore_n 1, 1) := by decide +kernel
theorem dX1_cracksInAll_2 : decode cX1_cracksInAll 2 = .ok (.iconst 0, 1) := by decide +kernel
theorem dX1_cracksInAll_3 : decode cX1_cracksInAll 3 = .ok (.istore_n 2, 1) := by decide +kernel
theorem dX1_cracksInAll_4 : decode cX1_cracksInAll 4 = .ok (.iload_n 2, 1) := by decide +kernel
theorem dX1_cracksInAll_5 : decode cX1_cracksInAll 5 = .ok (.bipush 36, 2) := by decide +kernel
theorem dX1_cracksInAll_7 : decode cX1_cracksInAll 7 = .ok (.if_icmp .ge 18, 3) := by decide +kernel
theorem dX1_cracksInAll_10 : decode cX1_cracksInAll 10 = .ok (.iload_n 1, 1) := by decide +kernel
theorem dX1_cracksInAll_11 : decode cX1_cracksInAll 11 = .ok (.aload_n 0, 1) := by decide +kernel
theorem dX1_cracksInAll_12 : decode cX1_cracksInAll 12 = .ok (.getfield 15, 3) := by decide +kernel
theorem dX1_cracksInAll_15 : decode cX1_cracksInAll 15 = .ok (.iload_n 2, 1) := by decide +kernel
theorem dX1_cracksInAll_16 : decode cX1_cracksInAll 16 = .ok (.iaload, 1) := by decide +kernel
theorem dX1_cracksInAll_17 : decode cX1_cracksInAll 17 = .ok (.iadd, 1) := by decide +kernel
theorem dX1_cracksInAll_18 : decode cX1_cracksInAll 18 = .ok (.istore_n 1, 1) := by decide +kernel
theorem dX1_cracksInAll_19 : decode cX1_cracksInAll 19 = .ok (.iinc 2 1, 3) := by decide +kernel
theorem dX1_cracksInAll_22 : decode cX1_cracksInAll 22 = .ok (.goto (-18), 3) := by decide +kernel
theorem dX1_cracksInAll_25 : decode cX1_cracksInAll 25 = .ok (.iload_n 1, 1) := by decide +kernel
theorem dX1_cracksInAll_26 : decode cX1_cracksInAll 26 = .ok (.ireturn, 1) := by decide +kernel
set_option maxRecDepth 20000 in
theorem ggX2_init_X1_init : GoodIn wsX2_init wsX1_init := goodIn_r _ [17, 18, 2, 3, 5, 19, 20, 39, 40] (by decide +kernel) (by decide +kernel)
set_option maxRecDepth 20000 in
theorem gX2_init_X1_init_n24 : GoodIn wsX2_init (wsX1_init) := ggX2_init_X1_init
set_option maxRecDepth 20000 in
theorem ggX2_init_X0_init : GoodIn wsX2_init wsX0_init := goodIn_r _ [22, 23, 2, 3, 5, 24, 25, 26, 27, 28, 29, 30, 31, 32, 41, 42, 43, 44, 45, 46, 47, 48, 49, 50] (by decide +kernel) (by decide +kernel)
set_option maxRecDepth 20000 in
theorem gX2_init_X0_init_n31 : GoodIn wsX2_init (wsX0_init) := ggX2_init_X0_init
theorem dX2_init_0 : decode cX2_init 0 = .ok (.aload_n 0, 1) := by decide +kernel
theorem dX2_init_1 : decode cX2_init 1 = .ok (.invokespecial 3, 3) := by decide +kernel
theorem dX2_init_4 : decode cX2_init 4 = .ok (.aload_n 0, 1) := by decide +kernel
theorem dX2_init_5 : decode cX2_init 5 = .ok (.iconst (-1), 1) := by decide +kernel
theorem dX2_init_6 : decode cX2_init 6 = .ok (.putfield 9, 3) := by decide +kernel
theorem dX2_init_9 : decode cX2_init 9 = .ok (.aload_n 0, 1) := by decide +kernel
theorem dX2_init_10 : decode cX2_init 10 = .ok (.bipush 14, 2) := by decide +kernel
theorem dX2_init_12 : decode cX2_init 12 = .ok (.newarray .int, 2) := by decide +kernel
theorem dX2_init_14 : decode cX2_init 14 = .ok (.putfield 15, 3) := by decide +kernel
theorem dX2_init_17 : decode cX2_init 17 = .ok (.aload_n 0, 1) := by decide +kernel
theorem dX2_init_18 : decode cX2_init 18 = .ok (.bipush 12, 2) := by decide +kernel
theorem dX2_init_20 : decode cX2_init 20 = .ok (.newarray .int, 2) := by decide +kernel
theorem dX2_init_22 : decode cX2_init 22 = .ok (.putfield 19, 3) := by decide +kernel
theorem dX2_init_25 : decode cX2_init 25 = .ok (.aload_n 0, 1) := by decide +kernel
theorem dX2_init_26 : decode cX2_init 26 = .ok (.new 22, 3) := by decide +kernel
theorem dX2_init_29 : decode cX2_init 29 = .ok (.dup, 1) := by decide +kernel
theorem dX2_init_30 : decode cX2_init 30 = .ok (.invokespecial 24, 3) := by decide +kernel
theorem dX2_init_33 : decode cX2_init 33 = .ok (.putfield 25, 3) := by decide +kernel
theorem dX2_init_36 : decode cX2_init 36 = .ok (.aload_n 0, 1) := by decide +kernel
theorem dX2_init_37 : decode cX2_init 37 = .ok (.new 29, 3) := by decide +kernel
theorem dX2_init_40 : decode cX2_init 40 = .ok (.dup, 1) := by decide +kernel
theorem dX2_init_41 : decode cX2_init 41 = .ok (.invokespecial 31, 3) := by decide +kernel
theorem dX2_init_44 : decode cX2_init 44 = .ok (.putfield 32, 3) := by decide +kernel
theorem dX2_init_47 : decode cX2_init 47 = .ok (.iconst 0, 1) := by decide +kernel
theorem dX2_init_48 : decode cX2_init 48 = .ok (.istore_n 1, 1) := by decide +kernel
theorem dX2_init_49 : decode cX2_init 49 = .ok (.iload_n 1, 1) := by decide +kernel
theorem dX2_init_50 : decode cX2_init 50 = .ok (.bipush 14, 2) := by decide +kernel
theorem dX2_init_52 : decode cX2_init 52 = .ok (.if_icmp .ge 17, 3) := by decide +kernel
theorem dX2_init_55 : decode cX2_init 55 = .ok (.aload_n 0, 1) := by decide +kernel
theorem dX2_init_56 : decode cX2_init 56 = .ok (.getfield 15, 3) := by decide +kernel
theorem dX2_init_59 : decode cX2_init 59 = .ok (.iload_n 1, 1) := by decide +kernel
theorem dX2_init_60 : decode cX2_init 60 = .ok (.bipush (-2), 2) := by decide +kernel
theorem dX2_init_62 : decode cX2_init 62 = .ok (.iastore, 1) := by decide +kernel
theorem dX2_init_63 : decode cX2_init 63 = .ok (.iinc 1 1, 3) := by decide +kernel
theorem dX2_init_66 : decode cX2_init 66 = .ok (.goto (-17), 3) := by decide +kernel
theorem dX2_init_69 : decode cX2_init 69 = .ok (.return_, 1) := by decide +kernel
set_option maxRecDepth 20000 in
theorem ggX2_become_X1_become : GoodIn wsX2_become wsX1_become := goodIn_r _ [14, 15, 16, 5, 6, 7, 17, 39, 40] (by decide +kernel) (by decide +kernel)
set_option maxRecDepth 20000 in
theorem gX2_become_X1_become_n45 : GoodIn wsX2_become (wsX1_become) := ggX2_become_X1_become
set_option maxRecDepth 20000 in
theorem ggX2_become_X0_become : GoodIn wsX2_become wsX0_become := goodIn_r _ [21, 22, 23, 24, 5, 6, 7, 25, 26, 27, 28, 29, 30, 31, 32, 41, 42, 43, 44, 45, 46, 47, 48, 49, 50] (by decide +kernel) (by decide +kernel)
set_option maxRecDepth 20000 in
theorem gX2_become_X0_become_n49 : GoodIn wsX2_become (wsX0_become) := ggX2_become_X0_become
theorem dX2_become_0 : decode cX2_become 0 = .ok (.aload_n 0, 1) := by decide +kernel
theorem dX2_become_1 : decode cX2_become 1 = .ok (.aload_n 1, 1) := by decide +kernel
theorem dX2_become_2 : decode cX2_become 2 = .ok (.getfield 36, 3) := by decide +kernel
theorem dX2_become_5 : decode cX2_become 5 = .ok (.putfield 36, 3) := by decide +kernel
theorem dX2_become_8 : decode cX2_become 8 = .ok (.aload_n 0, 1) := by decide +kernel
theorem dX2_become_9 : decode cX2_become 9 = .ok (.aload_n 1, 1) := by decide +kernel
theorem dX2_become_10 : decode cX2_become 10 = .ok (.getfield 9, 3) := by decide +kernel
theorem dX2_become_13 : decode cX2_become 13 = .ok (.putfield 9, 3) := by decide +kernel
theorem dX2_become_16 : decode cX2_become 16 = .ok (.aload_n 1, 1) := by decide +kernel
theorem dX2_become_17 : decode cX2_become 17 = .ok (.getfield 15, 3) := by decide +kernel
theorem dX2_become_20 : decode cX2_become 20 = .ok (.iconst 0, 1) := by decide +kernel
theorem dX2_become_21 : decode cX2_become 21 = .ok (.aload_n 0, 1) := by decide +kernel
theorem dX2_become_22 : decode cX2_become 22 = .ok (.getfield 15, 3) := by decide +kernel
theorem dX2_become_25 : decode cX2_become 25 = .ok (.iconst 0, 1) := by decide +kernel
theorem dX2_become_26 : decode cX2_become 26 = .ok (.bipush 14, 2) := by decide +kernel
theorem dX2_become_28 : decode cX2_become 28 = .ok (.invokestatic 39, 3) := by decide +kernel
theorem dX2_become_31 : decode cX2_become 31 = .ok (.aload_n 1, 1) := by decide +kernel
theorem dX2_become_32 : decode cX2_become 32 = .ok (.getfield 19, 3) := by decide +kernel
theorem dX2_become_35 : decode cX2_become 35 = .ok (.iconst 0, 1) := by decide +kernel
theorem dX2_become_36 : decode cX2_become 36 = .ok (.aload_n 0, 1) := by decide +kernel
theorem dX2_become_37 : decode cX2_become 37 = .ok (.getfield 19, 3) := by decide +kernel
theorem dX2_become_40 : decode cX2_become 40 = .ok (.iconst 0, 1) := by decide +kernel
theorem dX2_become_41 : decode cX2_become 41 = .ok (.bipush 12, 2) := by decide +kernel
theorem dX2_become_43 : decode cX2_become 43 = .ok (.invokestatic 39, 3) := by decide +kernel
theorem dX2_become_46 : decode cX2_become 46 = .ok (.aload_n 0, 1) := by decide +kernel
theorem dX2_become_47 : decode cX2_become 47 = .ok (.getfield 25, 3) := by decide +kernel
theorem dX2_become_50 : decode cX2_become 50 = .ok (.aload_n 1, 1) := by decide +kernel
theorem dX2_become_51 : decode cX2_become 51 = .ok (.getfield 25, 3) := by decide +kernel
theorem dX2_become_54 : decode cX2_become 54 = .ok (.invokevirtual 45, 3) := by decide +kernel
theorem dX2_become_57 : decode cX2_become 57 = .ok (.aload_n 0, 1) := by decide +kernel
theorem dX2_become_58 : decode cX2_become 58 = .ok (.getfield 32, 3) := by decide +kernel
theorem dX2_become_61 : decode cX2_become 61 = .ok (.aload_n 1, 1) := by decide +kernel
theorem dX2_become_62 : decode cX2_become 62 = .ok (.getfield 32, 3) := by decide +kernel
theorem dX2_become_65 : decode cX2_become 65 = .ok (.invokevirtual 49, 3) := by decide +kernel
theorem dX2_become_68 : decode cX2_become 68 = .ok (.return_, 1) := by decide +kernel
theorem dX2_huts_0 : decode cX2_huts 0 = .ok (.iconst 0, 1) := by decide +kernel
theorem dX2_huts_1 : decode cX2_huts 1 = .ok (.istore_n 1, 1) := by decide +kernel
theorem dX2_huts_2 : decode cX2_huts 2 = .ok (.iconst 0, 1) := by decide +kernel
theorem dX2_huts_3 : decode cX2_huts 3 = .ok (.istore_n 2, 1) := by decide +kernel
theorem dX2_huts_4 : decode cX2_huts 4 = .ok (.iload_n 2, 1) := by decide +kernel
theorem dX2_huts_5 : decode cX2_huts 5 = .ok (.bipush 12, 2) := by decide +kernel
theorem dX2_huts_7 : decode cX2_huts 7 = .ok (.if_icmp .ge 18, 3) := by decide +kernel
theorem dX2_huts_10 : decode cX2_huts 10 = .ok (.iload_n 1, 1) := by decide +kernel
theorem dX2_huts_11 : decode cX2_huts 11 = .ok (.aload_n 0, 1) := by decide +kernel
theorem dX2_huts_12 : decode cX2_huts 12 = .ok (.getfield 19, 3) := by decide +kernel
theorem dX2_huts_15 : decode cX2_huts 15 = .ok (.iload_n 2, 1) := by decide +kernel
theorem dX2_huts_16 : decode cX2_huts 16 = .ok (.iaload, 1) := by decide +kernel
theorem dX2_huts_17 : decode cX2_huts 17 = .ok (.iadd, 1) := by decide +kernel
theorem dX2_huts_18 : decode cX2_huts 18 = .ok (.istore_n 1, 1) := by decide +kernel
theorem dX2_huts_19 : decode cX2_huts 19 = .ok (.iinc 2 1, 3) := by decide +kernel
theorem dX2_huts_22 : decode cX2_huts 22 = .ok (.goto (-18), 3) := by decide +kernel
theorem dX2_huts_25 : decode cX2_huts 25 = .ok (.iload_n 1, 1) := by decide +kernel
theorem dX2_huts_26 : decode cX2_huts 26 = .ok (.ireturn, 1) := by decide +kernel
theorem dX2_hasThawed_0 : decode cX2_hasThawed 0 = .ok (.aload_n 0, 1) := by decide +kernel
theorem dX2_hasThawed_1 : decode cX2_hasThawed 1 = .ok (.getfield 9, 3) := by decide +kernel
theorem dX2_hasThawed_4 : decode cX2_hasThawed 4 = .ok (.iconst (-1), 1) := by decide +kernel
theorem dX2_hasThawed_5 : decode cX2_hasThawed 5 = .ok (.if_icmp .eq 7, 3) := by decide +kernel
theorem dX2_hasThawed_8 : decode cX2_hasThawed 8 = .ok (.iconst 1, 1) := by decide +kernel
theorem dX2_hasThawed_9 : decode cX2_hasThawed 9 = .ok (.goto 4, 3) := by decide +kernel
theorem dX2_hasThawed_12 : decode cX2_hasThawed 12 = .ok (.iconst 0, 1) := by decide +kernel
theorem dX2_hasThawed_13 : decode cX2_hasThawed 13 = .ok (.ireturn, 1) := by decide +kernel
set_option maxRecDepth 20000 in
theorem ggX2_holdsCourierWith_X1_holds : GoodIn wsX2_holdsCourierWith wsX1_holds := goodIn_r _ [6, 7, 8, 9, 4, 10, 11, 12, 13, 14, 15, 32, 33] (by decide +kernel) (by decide +kernel)
set_option maxRecDepth 20000 in
theorem gX2_holdsCourierWith_X1_holds_n61 : GoodIn wsX2_holdsCourierWith (wsX1_holds) := ggX2_holdsCourierWith_X1_holds
theorem dX2_holdsCourierWith_0 : decode cX2_holdsCourierWith 0 = .ok (.aload_n 0, 1) := by decide +kernel
theorem dX2_holdsCourierWith_1 : decode cX2_holdsCourierWith 1 = .ok (.getfield 32, 3) := by decide +kernel
theorem dX2_holdsCourierWith_4 : decode cX2_holdsCourierWith 4 = .ok (.getfield 52, 3) := by decide +kernel
theorem dX2_holdsCourierWith_7 : decode cX2_holdsCourierWith 7 = .ok (.iload_n 1, 1) := by decide +kernel
theorem dX2_holdsCourierWith_8 : decode cX2_holdsCourierWith 8 = .ok (.iaload, 1) := by decide +kernel
theorem dX2_holdsCourierWith_9 : decode cX2_holdsCourierWith 9 = .ok (.iload_n 2, 1) := by decide +kernel
theorem dX2_holdsCourierWith_10 : decode cX2_holdsCourierWith 10 = .ok (.iadd, 1) := by decide +kernel
theorem dX2_holdsCourierWith_11 : decode cX2_holdsCourierWith 11 = .ok (.istore_n 3, 1) := by decide +kernel
theorem dX2_holdsCourierWith_12 : decode cX2_holdsCourierWith 12 = .ok (.aload_n 0, 1) := by decide +kernel
theorem dX2_holdsCourierWith_13 : decode cX2_holdsCourierWith 13 = .ok (.getfield 25, 3) := by decide +kernel
theorem dX2_holdsCourierWith_16 : decode cX2_holdsCourierWith 16 = .ok (.aload_n 0, 1) := by decide +kernel
theorem dX2_holdsCourierWith_17 : decode cX2_holdsCourierWith 17 = .ok (.getfield 32, 3) := by decide +kernel
theorem dX2_holdsCourierWith_20 : decode cX2_holdsCourierWith 20 = .ok (.getfield 55, 3) := by decide +kernel
theorem dX2_holdsCourierWith_23 : decode cX2_holdsCourierWith 23 = .ok (.iload_n 1, 1) := by decide +kernel
theorem dX2_holdsCourierWith_24 : decode cX2_holdsCourierWith 24 = .ok (.iaload, 1) := by decide +kernel
theorem dX2_holdsCourierWith_25 : decode cX2_holdsCourierWith 25 = .ok (.aload_n 0, 1) := by decide +kernel
theorem dX2_holdsCourierWith_26 : decode cX2_holdsCourierWith 26 = .ok (.getfield 32, 3) := by decide +kernel
theorem dX2_holdsCourierWith_29 : decode cX2_holdsCourierWith 29 = .ok (.getfield 58, 3) := by decide +kernel
theorem dX2_holdsCourierWith_32 : decode cX2_holdsCourierWith 32 = .ok (.iload_n 1, 1) := by decide +kernel
theorem dX2_holdsCourierWith_33 : decode cX2_holdsCourierWith 33 = .ok (.iaload, 1) := by decide +kernel
theorem dX2_holdsCourierWith_34 : decode cX2_holdsCourierWith 34 = .ok (.iload_n 3, 1) := by decide +kernel
theorem dX2_holdsCourierWith_35 : decode cX2_holdsCourierWith 35 = .ok (.invokevirtual 61, 3) := by decide +kernel
theorem dX2_holdsCourierWith_38 : decode cX2_holdsCourierWith 38 = .ok (.ireturn, 1) := by decide +kernel
set_option maxRecDepth 20000 in
theorem ggX2_spendHour_J9_floorMod_7cf53 : GoodIn wsX2_spendHour wsJ9_floorMod_7cf53 := goodIn_r _ [9] (by decide +kernel) (by decide +kernel)
set_option maxRecDepth 20000 in
theorem gX2_spendHour_J9_floorMod_7cf53 : GoodIn wsX2_spendHour (va_wsS RX2 65 yJ9_floorMod_7cf53 wsJ9_floorMod_7cf53) := goodIn_app (goodIn_of _ (by decide +kernel)) ggX2_spendHour_J9_floorMod_7cf53
set_option maxRecDepth 20000 in
theorem ggX2_spendHour_X1_meetDay : GoodIn wsX2_spendHour wsX1_meetDay := goodIn_r _ [13, 14, 15, 16, 17, 18, 19, 20, 21, 22, 89, 90] (by decide +kernel) (by decide +kernel)
set_option maxRecDepth 20000 in
theorem gX2_spendHour_X1_meetDay_n71 : GoodIn wsX2_spendHour (wsX1_meetDay) := ggX2_spendHour_X1_meetDay
set_option maxRecDepth 20000 in
theorem ggX2_spendHour_X2_hasThawed : GoodIn wsX2_spendHour wsX2_hasThawed := goodIn_r _ [27, 4, 73, 74, 75, 76, 77, 78] (by decide +kernel) (by decide +kernel)
set_option maxRecDepth 20000 in
theorem gX2_spendHour_X2_hasThawed : GoodIn wsX2_spendHour (wsV RX2 75 RX2 yX2_hasThawed wsX2_hasThawed) := goodIn_app (goodIn_of _ (by decide +kernel)) ggX2_spendHour_X2_hasThawed
set_option maxRecDepth 20000 in
theorem ggX2_spendHour_X1_isOpenAcross : GoodIn wsX2_spendHour wsX1_isOpenAcross := goodIn_r _ [30, 14, 31, 32, 33, 89, 90] (by decide +kernel) (by decide +kernel)
set_option maxRecDepth 20000 in
theorem gX2_spendHour_X1_isOpenAcross_n79 : GoodIn wsX2_spendHour (wsX1_isOpenAcross) := ggX2_spendHour_X1_isOpenAcross
set_option maxRecDepth 20000 in
theorem ggX2_spendHour_X2_travels : GoodIn wsX2_spendHour wsX2_travels := goodIn_r _ [37, 5, 38, 39, 40, 26, 41, 2, 42, 43, 44, 45, 46, 47, 48, 49, 50, 51, 52, 53, 54, 55, 56, 57, 11, 58, 59, 15, 16, 17, 18, 19, 20, 21, 60, 61, 62, 63, 14, 22, 31, 32, 33, 64, 65, 66, 73, 74, 75, 76, 77, 78, 79, 80, 81, 82, 83, 84, 85, 86, 87, 88, 89, 90] (by decide +kernel) (by decide +kernel)
set_option maxRecDepth 20000 in
theorem gX2_spendHour_X2_travels : GoodIn wsX2_spendHour (wsV RX2 85 RX2 yX2_travels wsX2_travels) := goodIn_app (goodIn_of _ (by decide +kernel)) ggX2_spendHour_X2_travels
set_option maxRecDepth 20000 in
theorem ggX2_spendHour_X2_rest : GoodIn wsX2_spendHour wsX2_rest := goodIn_r _ [70, 5, 71, 72, 16, 17, 18, 54, 43, 55, 56, 51, 52, 73, 74, 75, 76, 77, 78, 79, 80, 81, 82, 83, 84, 85, 86, 87, 88] (by decide +kernel) (by decide +kernel)
set_option maxRecDepth 20000 in
theorem gX2_spendHour_X2_rest : GoodIn wsX2_spendHour (wsV RX2 89 RX2 yX2_rest wsX2_rest) := goodIn_app (goodIn_of _ (by decide +kernel)) ggX2_spendHour_X2_rest
theorem dX2_spendHour_0 : decode cX2_spendHour 0 = .ok (.aload_n 0, 1) := by decide +kernel
theorem dX2_spendHour_1 : decode cX2_spendHour 1 = .ok (.getfield 36, 3) := by decide +kernel
theorem dX2_spendHour_4 : decode cX2_spendHour 4 = .ok (.bipush 12, 2) := by decide +kernel
theorem dX2_spendHour_6 : decode cX2_spendHour 6 = .ok (.idiv, 1) := by decide +kernel
theorem dX2_spendHour_7 : decode cX2_spendHour 7 = .ok (.istore_n 1, 1) := by decide +kernel
theorem dX2_spendHour_8 : decode cX2_spendHour 8 = .ok (.aload_n 0, 1) := by decide +kernel
theorem dX2_spendHour_9 : decode cX2_spendHour 9 = .ok (.getfield 36, 3) := by decide +kernel
theorem dX2_spendHour_12 : decode cX2_spendHour 12 = .ok (.bipush 12, 2) := by decide +kernel
theorem dX2_spendHour_14 : decode cX2_spendHour 14 = .ok (.irem, 1) := by decide +kernel
theorem dX2_spendHour_15 : decode cX2_spendHour 15 = .ok (.ifCond .ne 21, 3) := by decide +kernel
theorem dX2_spendHour_18 : decode cX2_spendHour 18 = .ok (.aload_n 0, 1) := by decide +kernel
theorem dX2_spendHour_19 : decode cX2_spendHour 19 = .ok (.getfield 25, 3) := by decide +kernel
theorem dX2_spendHour_22 : decode cX2_spendHour 22 = .ok (.aload_n 0, 1) := by decide +kernel
theorem dX2_spendHour_23 : decode cX2_spendHour 23 = .ok (.getfield 15, 3) := by decide +kernel
theorem dX2_spendHour_26 : decode cX2_spendHour 26 = .ok (.iload_n 1, 1) := by decide +kernel
theorem dX2_spendHour_27 : decode cX2_spendHour 27 = .ok (.bipush 14, 2) := by decide +kernel
theorem dX2_spendHour_29 : decode cX2_spendHour 29 = .ok (.invokestatic 65, 3) := by decide +kernel
theorem dX2_spendHour_32 : decode cX2_spendHour 32 = .ok (.iaload, 1) := by decide +kernel
theorem dX2_spendHour_33 : decode cX2_spendHour 33 = .ok (.invokevirtual 71, 3) := by decide +kernel
theorem dX2_spendHour_36 : decode cX2_spendHour 36 = .ok (.aload_n 0, 1) := by decide +kernel
theorem dX2_spendHour_37 : decode cX2_spendHour 37 = .ok (.invokevirtual 75, 3) := by decide +kernel
theorem dX2_spendHour_40 : decode cX2_spendHour 40 = .ok (.ifCond .ne 18, 3) := by decide +kernel
theorem dX2_spendHour_43 : decode cX2_spendHour 43 = .ok (.aload_n 0, 1) := by decide +kernel
theorem dX2_spendHour_44 : decode cX2_spendHour 44 = .ok (.getfield 25, 3) := by decide +kernel
theorem dX2_spendHour_47 : decode cX2_spendHour 47 = .ok (.invokevirtual 79, 3) := by decide +kernel
theorem dX2_spendHour_50 : decode cX2_spendHour 50 = .ok (.ifCond .eq 8, 3) := by decide +kernel
theorem dX2_spendHour_53 : decode cX2_spendHour 53 = .ok (.aload_n 0, 1) := by decide +kernel
theorem dX2_spendHour_54 : decode cX2_spendHour 54 = .ok (.iload_n 1, 1) := by decide +kernel
theorem dX2_spendHour_55 : decode cX2_spendHour 55 = .ok (.putfield 9, 3) := by decide +kernel
theorem dX2_spendHour_58 : decode cX2_spendHour 58 = .ok (.iconst 0, 1) := by decide +kernel
theorem dX2_spendHour_59 : decode cX2_spendHour 59 = .ok (.istore_n 2, 1) := by decide +kernel
theorem dX2_spendHour_60 : decode cX2_spendHour 60 = .ok (.iconst 0, 1) := by decide +kernel
theorem dX2_spendHour_61 : decode cX2_spendHour 61 = .ok (.istore_n 3, 1) := by decide +kernel
theorem dX2_spendHour_62 : decode cX2_spendHour 62 = .ok (.iload_n 3, 1) := by decide +kernel
theorem dX2_spendHour_63 : decode cX2_spendHour 63 = .ok (.aload_n 0, 1) := by decide +kernel
theorem dX2_spendHour_64 : decode cX2_spendHour 64 = .ok (.getfield 32, 3) := by decide +kernel
theorem dX2_spendHour_67 : decode cX2_spendHour 67 = .ok (.getfield 82, 3) := by decide +kernel
theorem dX2_spendHour_70 : decode cX2_spendHour 70 = .ok (.if_icmp .ge 20, 3) := by decide +kernel
theorem dX2_spendHour_73 : decode cX2_spendHour 73 = .ok (.aload_n 0, 1) := by decide +kernel
theorem dX2_spendHour_74 : decode cX2_spendHour 74 = .ok (.iload_n 3, 1) := by decide +kernel
theorem dX2_spendHour_75 : decode cX2_spendHour 75 = .ok (.invokevirtual 85, 3) := by decide +kernel
theorem dX2_spendHour_78 : decode cX2_spendHour 78 = .ok (.ifCond .eq 6, 3) := by decide +kernel
theorem dX2_spendHour_81 : decode cX2_spendHour 81 = .ok (.iinc 2 1, 3) := by decide +kernel
theorem dX2_spendHour_84 : decode cX2_spendHour 84 = .ok (.iinc 3 1, 3) := by decide +kernel
theorem dX2_spendHour_87 : decode cX2_spendHour 87 = .ok (.goto (-25), 3) := by decide +kernel
theorem dX2_spendHour_90 : decode cX2_spendHour 90 = .ok (.iconst 0, 1) := by decide +kernel
theorem dX2_spendHour_91 : decode cX2_spendHour 91 = .ok (.istore_n 3, 1) := by decide +kernel
theorem dX2_spendHour_92 : decode cX2_spendHour 92 = .ok (.iload_n 3, 1) := by decide +kernel
theorem dX2_spendHour_93 : decode cX2_spendHour 93 = .ok (.aload_n 0, 1) := by decide +kernel
theorem dX2_spendHour_94 : decode cX2_spendHour 94 = .ok (.getfield 32, 3) := by decide +kernel
theorem dX2_spendHour_97 : decode cX2_spendHour 97 = .ok (.getfield 82, 3) := by decide +kernel
theorem dX2_spendHour_100 : decode cX2_spendHour 100 = .ok (.if_icmp .ge 14, 3) := by decide +kernel
theorem dX2_spendHour_103 : decode cX2_spendHour 103 = .ok (.aload_n 0, 1) := by decide +kernel
theorem dX2_spendHour_104 : decode cX2_spendHour 104 = .ok (.iload_n 3, 1) := by decide +kernel
theorem dX2_spendHour_105 : decode cX2_spendHour 105 = .ok (.invokevirtual 89, 3) := by decide +kernel
theorem dX2_spendHour_108 : decode cX2_spendHour 108 = .ok (.iinc 3 1, 3) := by decide +kernel
theorem dX2_spendHour_111 : decode cX2_spendHour 111 = .ok (.goto (-19), 3) := by decide +kernel
theorem dX2_spendHour_114 : decode cX2_spendHour 114 = .ok (.aload_n 0, 1) := by decide +kernel
theorem dX2_spendHour_115 : decode cX2_spendHour 115 = .ok (.dup, 1) := by decide +kernel
theorem dX2_spendHour_116 : decode cX2_spendHour 116 = .ok (.getfield 36, 3) := by decide +kernel
theorem dX2_spendHour_119 : decode cX2_spendHour 119 = .ok (.iconst 1, 1) := by decide +kernel
theorem dX2_spendHour_120 : decode cX2_spendHour 120 = .ok (.iadd, 1) := by decide +kernel
theorem dX2_spendHour_121 : decode cX2_spendHour 121 = .ok (.putfield 36, 3) := by decide +kernel
theorem dX2_spendHour_124 : decode cX2_spendHour 124 = .ok (.iload_n 2, 1) := by decide +kernel
theorem dX2_spendHour_125 : decode cX2_spendHour 125 = .ok (.ireturn, 1) := by decide +kernel
set_option maxRecDepth 20000 in
theorem ggX2_travels_X2_step : GoodIn wsX2_travels wsX2_step := goodIn_r _ [6, 1, 7, 8, 9, 10, 11, 12, 13, 14, 15, 16, 17, 18, 19, 20, 21, 22, 23, 24, 25, 26, 27, 28, 29, 30, 31, 32, 33, 34, 35, 36, 37, 38, 39, 40, 41, 42, 43, 44, 45, 46, 47, 48, 49, 50, 51, 52, 53, 54, 55, 56, 57, 58, 59, 60, 61, 62, 63] (by decide +kernel) (by decide +kernel)
set_option maxRecDepth 20000 in
theorem gX2_travels_X2_step : GoodIn wsX2_travels (wsV RX2 98 RX2 yX2_step wsX2_step) := goodIn_app (goodIn_of _ (by decide +kernel)) ggX2_travels_X2_step
theorem dX2_travels_0 : decode cX2_travels 0 = .ok (.aload_n 0, 1) := by decide +kernel
theorem dX2_travels_1 : decode cX2_travels 1 = .ok (.getfield 32, 3) := by decide +kernel
theorem dX2_travels_4 : decode cX2_travels 4 = .ok (.getfield 92, 3) := by decide +kernel
theorem dX2_travels_7 : decode cX2_travels 7 = .ok (.iload_n 1, 1) := by decide +kernel
theorem dX2_travels_8 : decode cX2_travels 8 = .ok (.iaload, 1) := by decide +kernel
theorem dX2_travels_9 : decode cX2_travels 9 = .ok (.iconst 1, 1) := by decide +kernel
theorem dX2_travels_10 : decode cX2_travels 10 = .ok (.if_icmp .eq 5, 3) := by decide +kernel
theorem dX2_travels_13 : decode cX2_travels 13 = .ok (.iconst 0, 1) := by decide +kernel
theorem dX2_travels_14 : decode cX2_travels 14 = .ok (.ireturn, 1) := by decide +kernel
theorem dX2_travels_15 : decode cX2_travels 15 = .ok (.iconst 0, 1) := by decide +kernel
theorem dX2_travels_16 : decode cX2_travels 16 = .ok (.istore_n 2, 1) := by decide +kernel
theorem dX2_travels_17 : decode cX2_travels 17 = .ok (.iload_n 2, 1) := by decide +kernel
theorem dX2_travels_18 : decode cX2_travels 18 = .ok (.aload_n 0, 1) := by decide +kernel
theorem dX2_travels_19 : decode cX2_travels 19 = .ok (.getfield 32, 3) := by decide +kernel
theorem dX2_travels_22 : decode cX2_travels 22 = .ok (.getfield 95, 3) := by decide +kernel
theorem dX2_travels_25 : decode cX2_travels 25 = .ok (.iload_n 1, 1) := by decide +kernel
theorem dX2_travels_26 : decode cX2_travels 26 = .ok (.iaload, 1) := by decide +kernel
theorem dX2_travels_27 : decode cX2_travels 27 = .ok (.if_icmp .ge 27, 3) := by decide +kernel
theorem dX2_travels_30 : decode cX2_travels 30 = .ok (.aload_n 0, 1) := by decide +kernel
theorem dX2_travels_31 : decode cX2_travels 31 = .ok (.getfield 32, 3) := by decide +kernel
theorem dX2_travels_34 : decode cX2_travels 34 = .ok (.getfield 92, 3) := by decide +kernel
theorem dX2_travels_37 : decode cX2_travels 37 = .ok (.iload_n 1, 1) := by decide +kernel
theorem dX2_travels_38 : decode cX2_travels 38 = .ok (.iaload, 1) := by decide +kernel
theorem dX2_travels_39 : decode cX2_travels 39 = .ok (.iconst 1, 1) := by decide +kernel
theorem dX2_travels_40 : decode cX2_travels 40 = .ok (.if_icmp .ne 14, 3) := by decide +kernel
theorem dX2_travels_43 : decode cX2_travels 43 = .ok (.aload_n 0, 1) := by decide +kernel
theorem dX2_travels_44 : decode cX2_travels 44 = .ok (.iload_n 1, 1) := by decide +kernel
theorem dX2_travels_45 : decode cX2_travels 45 = .ok (.invokevirtual 98, 3) := by decide +kernel
theorem dX2_travels_48 : decode cX2_travels 48 = .ok (.iinc 2 1, 3) := by decide +kernel
theorem dX2_travels_51 : decode cX2_travels 51 = .ok (.goto (-34), 3) := by decide +kernel
theorem dX2_travels_54 : decode cX2_travels 54 = .ok (.aload_n 0, 1) := by decide +kernel
theorem dX2_travels_55 : decode cX2_travels 55 = .ok (.getfield 32, 3) := by decide +kernel
theorem dX2_travels_58 : decode cX2_travels 58 = .ok (.getfield 92, 3) := by decide +kernel
theorem dX2_travels_61 : decode cX2_travels 61 = .ok (.iload_n 1, 1) := by decide +kernel
theorem dX2_travels_62 : decode cX2_travels 62 = .ok (.iaload, 1) := by decide +kernel
theorem dX2_travels_63 : decode cX2_travels 63 = .ok (.iconst 2, 1) := by decide +kernel
theorem dX2_travels_64 : decode cX2_travels 64 = .ok (.if_icmp .ne 7, 3) := by decide +kernel
theorem dX2_travels_67 : decode cX2_travels 67 = .ok (.iconst 1, 1) := by decide +kernel
theorem dX2_travels_68 : decode cX2_travels 68 = .ok (.goto 4, 3) := by decide +kernel
theorem dX2_travels_71 : decode cX2_travels 71 = .ok (.iconst 0, 1) := by decide +kernel
theorem dX2_travels_72 : decode cX2_travels 72 = .ok (.ireturn, 1) := by decide +kernel
set_option maxRecDepth 20000 in
theorem ggX2_step_X0_loadOf : GoodIn wsX2_step wsX0_loadOf := goodIn_r _ [6, 7, 8, 47, 48, 49, 50, 51, 52, 53, 54, 55, 56] (by decide +kernel) (by decide +kernel)
set_option maxRecDepth 20000 in
theorem gX2_step_X0_loadOf_n101 : GoodIn wsX2_step (wsX0_loadOf) := ggX2_step_X0_loadOf
set_option maxRecDepth 20000 in
theorem ggX2_step_X0_nextSection : GoodIn wsX2_step wsX0_nextSection := goodIn_r _ [11, 12, 13, 14, 15, 16, 4, 17, 47, 48, 49, 50, 51, 52, 53, 54, 55, 56] (by decide +kernel) (by decide +kernel)
set_option maxRecDepth 20000 in
theorem gX2_step_X0_nextSection_n105 : GoodIn wsX2_step (wsX0_nextSection) := ggX2_step_X0_nextSection
set_option maxRecDepth 20000 in
theorem ggX2_step_X1_laneFor : GoodIn wsX2_step wsX1_laneFor := goodIn_r _ [21, 22, 23, 24, 25, 26, 27, 28, 29, 30, 31, 19, 32, 33, 34, 35, 36, 37, 57, 58] (by decide +kernel) (by decide +kernel)
set_option maxRecDepth 20000 in
theorem gX2_step_X1_laneFor_n108 : GoodIn wsX2_step (wsX1_laneFor) := ggX2_step_X1_laneFor
set_option maxRecDepth 20000 in
theorem ggX2_step_X1_withstands : GoodIn wsX2_step wsX1_withstands := goodIn_r _ [40, 34, 22, 23, 24, 25, 33, 35, 36, 37, 29, 30, 31, 19, 32, 57, 58] (by decide +kernel) (by decide +kernel)
set_option maxRecDepth 20000 in
theorem gX2_step_X1_withstands_n118 : GoodIn wsX2_step (wsX1_withstands) := ggX2_step_X1_withstands
set_option maxRecDepth 20000 in
theorem ggX2_step_X0_isAtGoal : GoodIn wsX2_step wsX0_isAtGoal := goodIn_r _ [17, 12, 13, 47, 48, 49, 50, 51, 52, 53, 54, 55, 56] (by decide +kernel) (by decide +kernel)
set_option maxRecDepth 20000 in
theorem gX2_step_X0_isAtGoal_n124 : GoodIn wsX2_step (wsX0_isAtGoal) := ggX2_step_X0_isAtGoal
theorem dX2_step_0 : decode cX2_step 0 = .ok (.aload_n 0, 1) := by decide +kernel
theorem dX2_step_1 : decode cX2_step 1 = .ok (.getfield 32, 3) := by decide +kernel
theorem dX2_step_4 : decode cX2_step 4 = .ok (.iload_n 1, 1) := by decide +kernel
theorem dX2_step_5 : decode cX2_step 5 = .ok (.invokevirtual 101, 3) := by decide +kernel
theorem dX2_step_8 : decode cX2_step 8 = .ok (.istore_n 2, 1) := by decide +kernel
theorem dX2_step_9 : decode cX2_step 9 = .ok (.aload_n 0, 1) := by decide +kernel
theorem dX2_step_10 : decode cX2_step 10 = .ok (.getfield 32, 3) := by decide +kernel
theorem dX2_step_13 : decode cX2_step 13 = .ok (.iload_n 1, 1) := by decide +kernel
theorem dX2_step_14 : decode cX2_step 14 = .ok (.invokevirtual 105, 3) := by decide +kernel
theorem dX2_step_17 : decode cX2_step 17 = .ok (.istore_n 3, 1) := by decide +kernel
theorem dX2_step_18 : decode cX2_step 18 = .ok (.aload_n 0, 1) := by decide +kernel
theorem dX2_step_19 : decode cX2_step 19 = .ok (.getfield 25, 3) := by decide +kernel
theorem dX2_step_22 : decode cX2_step 22 = .ok (.iload_n 3, 1) := by decide +kernel
theorem dX2_step_23 : decode cX2_step 23 = .ok (.aload_n 0, 1) := by decide +kernel
theorem dX2_step_24 : decode cX2_step 24 = .ok (.getfield 32, 3) := by decide +kernel
theorem dX2_step_27 : decode cX2_step 27 = .ok (.getfield 58, 3) := by decide +kernel
theorem dX2_step_30 : decode cX2_step 30 = .ok (.iload_n 1, 1) := by decide +kernel
theorem dX2_step_31 : decode cX2_step 31 = .ok (.iaload, 1) := by decide +kernel
theorem dX2_step_32 : decode cX2_step 32 = .ok (.iload_n 2, 1) := by decide +kernel
theorem dX2_step_33 : decode cX2_step 33 = .ok (.invokevirtual 108, 3) := by decide +kernel
theorem dX2_step_36 : decode cX2_step 36 = .ok (.istore 4, 2) := by decide +kernel
theorem dX2_step_38 : decode cX2_step 38 = .ok (.aload_n 0, 1) := by decide +kernel
theorem dX2_step_39 : decode cX2_step 39 = .ok (.getfield 32, 3) := by decide +kernel
theorem dX2_step_42 : decode cX2_step 42 = .ok (.getfield 112, 3) := by decide +kernel
theorem dX2_step_45 : decode cX2_step 45 = .ok (.iload_n 1, 1) := by decide +kernel
theorem dX2_step_46 : decode cX2_step 46 = .ok (.iaload, 1) := by decide +kernel
theorem dX2_step_47 : decode cX2_step 47 = .ok (.ifCond .eq 9, 3) := by decide +kernel
theorem dX2_step_50 : decode cX2_step 50 = .ok (.iload 4, 2) := by decide +kernel
theorem dX2_step_52 : decode cX2_step 52 = .ok (.iconst (-1), 1) := by decide +kernel
theorem dX2_step_53 : decode cX2_step 53 = .ok (.if_icmp .ne 14, 3) := by decide +kernel
theorem dX2_step_56 : decode cX2_step 56 = .ok (.aload_n 0, 1) := by decide +kernel
theorem dX2_step_57 : decode cX2_step 57 = .ok (.getfield 32, 3) := by decide +kernel
theorem dX2_step_60 : decode cX2_step 60 = .ok (.getfield 92, 3) := by decide +kernel
theorem dX2_step_63 : decode cX2_step 63 = .ok (.iload_n 1, 1) := by decide +kernel
theorem dX2_step_64 : decode cX2_step 64 = .ok (.iconst 0, 1) := by decide +kernel
theorem dX2_step_65 : decode cX2_step 65 = .ok (.iastore, 1) := by decide +kernel
theorem dX2_step_66 : decode cX2_step 66 = .ok (.return_, 1) := by decide +kernel
theorem dX2_step_67 : decode cX2_step 67 = .ok (.aload_n 0, 1) := by decide +kernel
theorem dX2_step_68 : decode cX2_step 68 = .ok (.getfield 32, 3) := by decide +kernel
theorem dX2_step_71 : decode cX2_step 71 = .ok (.getfield 55, 3) := by decide +kernel
theorem dX2_step_74 : decode cX2_step 74 = .ok (.iload_n 1, 1) := by decide +kernel
theorem dX2_step_75 : decode cX2_step 75 = .ok (.iload_n 3, 1) := by decide +kernel
theorem dX2_step_76 : decode cX2_step 76 = .ok (.iastore, 1) := by decide +kernel
theorem dX2_step_77 : decode cX2_step 77 = .ok (.aload_n 0, 1) := by decide +kernel
theorem dX2_step_78 : decode cX2_step 78 = .ok (.getfield 32, 3) := by decide +kernel
theorem dX2_step_81 : decode cX2_step 81 = .ok (.getfield 58, 3) := by decide +kernel
theorem dX2_step_84 : decode cX2_step 84 = .ok (.iload_n 1, 1) := by decide +kernel
theorem dX2_step_85 : decode cX2_step 85 = .ok (.iload 4, 2) := by decide +kernel
theorem dX2_step_87 : decode cX2_step 87 = .ok (.iastore, 1) := by decide +kernel
theorem dX2_step_88 : decode cX2_step 88 = .ok (.aload_n 0, 1) := by decide +kernel
theorem dX2_step_89 : decode cX2_step 89 = .ok (.getfield 32, 3) := by decide +kernel
theorem dX2_step_92 : decode cX2_step 92 = .ok (.getfield 112, 3) := by decide +kernel
theorem dX2_step_95 : decode cX2_step 95 = .ok (.iload_n 1, 1) := by decide +kernel
theorem dX2_step_96 : decode cX2_step 96 = .ok (.dup2, 1) := by decide +kernel
theorem dX2_step_97 : decode cX2_step 97 = .ok (.iaload, 1) := by decide +kernel
theorem dX2_step_98 : decode cX2_step 98 = .ok (.iconst 1, 1) := by decide +kernel
theorem dX2_step_99 : decode cX2_step 99 = .ok (.isub, 1) := by decide +kernel
theorem dX2_step_100 : decode cX2_step 100 = .ok (.iastore, 1) := by decide +kernel
theorem dX2_step_101 : decode cX2_step 101 = .ok (.aload_n 0, 1) := by decide +kernel
theorem dX2_step_102 : decode cX2_step 102 = .ok (.getfield 32, 3) := by decide +kernel
theorem dX2_step_105 : decode cX2_step 105 = .ok (.getfield 115, 3) := by decide +kernel
theorem dX2_step_108 : decode cX2_step 108 = .ok (.iload_n 1, 1) := by decide +kernel
theorem dX2_step_109 : decode cX2_step 109 = .ok (.dup2, 1) := by decide +kernel
theorem dX2_step_110 : decode cX2_step 110 = .ok (.iaload, 1) := by decide +kernel
theorem dX2_step_111 : decode cX2_step 111 = .ok (.iconst 1, 1) := by decide +kernel
theorem dX2_step_112 : decode cX2_step 112 = .ok (.iadd, 1) := by decide +kernel
theorem dX2_step_113 : decode cX2_step 113 = .ok (.iastore, 1) := by decide +kernel
theorem dX2_step_114 : decode cX2_step 114 = .ok (.aload_n 0, 1) := by decide +kernel
theorem dX2_step_115 : decode cX2_step 115 = .ok (.getfield 25, 3) := by decide +kernel
theorem dX2_step_118 : decode cX2_step 118 = .ok (.iload_n 3, 1) := by decide +kernel
theorem dX2_step_119 : decode cX2_step 119 = .ok (.iload 4, 2) := by decide +kernel
theorem dX2_step_121 : decode cX2_step 121 = .ok (.iload_n 2, 1) := by decide +kernel
theorem dX2_step_122 : decode cX2_step 122 = .ok (.invokevirtual 118, 3) := by decide +kernel
theorem dX2_step_125 : decode cX2_step 125 = .ok (.ifCond .ne 26, 3) := by decide +kernel
theorem dX2_step_128 : decode cX2_step 128 = .ok (.aload_n 0, 1) := by decide +kernel
theorem dX2_step_129 : decode cX2_step 129 = .ok (.getfield 32, 3) := by decide +kernel
theorem dX2_step_132 : decode cX2_step 132 = .ok (.getfield 92, 3) := by decide +kernel
theorem dX2_step_135 : decode cX2_step 135 = .ok (.iload_n 1, 1) := by decide +kernel
theorem dX2_step_136 : decode cX2_step 136 = .ok (.iconst 3, 1) := by decide +kernel
theorem dX2_step_137 : decode cX2_step 137 = .ok (.iastore, 1) := by decide +kernel
theorem dX2_step_138 : decode cX2_step 138 = .ok (.aload_n 0, 1) := by decide +kernel
theorem dX2_step_139 : decode cX2_step 139 = .ok (.getfield 32, 3) := by decide +kernel
theorem dX2_step_142 : decode cX2_step 142 = .ok (.getfield 121, 3) := by decide +kernel
theorem dX2_step_145 : decode cX2_step 145 = .ok (.iload_n 1, 1) := by decide +kernel
theorem dX2_step_146 : decode cX2_step 146 = .ok (.iconst 0, 1) := by decide +kernel
theorem dX2_step_147 : decode cX2_step 147 = .ok (.iastore, 1) := by decide +kernel
theorem dX2_step_148 : decode cX2_step 148 = .ok (.goto 24, 3) := by decide +kernel
theorem dX2_step_151 : decode cX2_step 151 = .ok (.aload_n 0, 1) := by decide +kernel
theorem dX2_step_152 : decode cX2_step 152 = .ok (.getfield 32, 3) := by decide +kernel
theorem dX2_step_155 : decode cX2_step 155 = .ok (.iload_n 1, 1) := by decide +kernel
theorem dX2_step_156 : decode cX2_step 156 = .ok (.invokevirtual 124, 3) := by decide +kernel
theorem dX2_step_159 : decode cX2_step 159 = .ok (.ifCond .eq 13, 3) := by decide +kernel
theorem dX2_step_162 : decode cX2_step 162 = .ok (.aload_n 0, 1) := by decide +kernel
theorem dX2_step_163 : decode cX2_step 163 = .ok (.getfield 32, 3) := by decide +kernel
theorem dX2_step_166 : decode cX2_step 166 = .ok (.getfield 92, 3) := by decide +kernel
theorem dX2_step_169 : decode cX2_step 169 = .ok (.iload_n 1, 1) := by decide +kernel
theorem dX2_step_170 : decode cX2_step 170 = .ok (.iconst 2, 1) := by decide +kernel
theorem dX2_step_171 : decode cX2_step 171 = .ok (.iastore, 1) := by decide +kernel
theorem dX2_step_172 : decode cX2_step 172 = .ok (.return_, 1) := by decide +kernel
set_option maxRecDepth 20000 in
theorem ggX2_rest_X0_isAtGoal : GoodIn wsX2_rest wsX0_isAtGoal := goodIn_r _ [10, 11, 12, 19, 20, 21, 22, 23, 24, 25, 26, 27, 28] (by decide +kernel) (by decide +kernel)
set_option maxRecDepth 20000 in
theorem gX2_rest_X0_isAtGoal_n124 : GoodIn wsX2_rest (wsX0_isAtGoal) := ggX2_rest_X0_isAtGoal
theorem dX2_rest_0 : decode cX2_rest 0 = .ok (.aload_n 0, 1) := by decide +kernel
theorem dX2_rest_1 : decode cX2_rest 1 = .ok (.getfield 32, 3) := by decide +kernel
theorem dX2_rest_4 : decode cX2_rest 4 = .ok (.getfield 92, 3) := by decide +kernel
theorem dX2_rest_7 : decode cX2_rest 7 = .ok (.iload_n 1, 1) := by decide +kernel
theorem dX2_rest_8 : decode cX2_rest 8 = .ok (.iaload, 1) := by decide +kernel
theorem dX2_rest_9 : decode cX2_rest 9 = .ok (.ifCond .eq 4, 3) := by decide +kernel
theorem dX2_rest_12 : decode cX2_rest 12 = .ok (.return_, 1) := by decide +kernel
theorem dX2_rest_13 : decode cX2_rest 13 = .ok (.aload_n 0, 1) := by decide +kernel
theorem dX2_rest_14 : decode cX2_rest 14 = .ok (.getfield 19, 3) := by decide +kernel
theorem dX2_rest_17 : decode cX2_rest 17 = .ok (.aload_n 0, 1) := by decide +kernel
theorem dX2_rest_18 : decode cX2_rest 18 = .ok (.getfield 32, 3) := by decide +kernel
theorem dX2_rest_21 : decode cX2_rest 21 = .ok (.getfield 55, 3) := by decide +kernel
theorem dX2_rest_24 : decode cX2_rest 24 = .ok (.iload_n 1, 1) := by decide +kernel
theorem dX2_rest_25 : decode cX2_rest 25 = .ok (.iaload, 1) := by decide +kernel
theorem dX2_rest_26 : decode cX2_rest 26 = .ok (.iaload, 1) := by decide +kernel
theorem dX2_rest_27 : decode cX2_rest 27 = .ok (.iconst 1, 1) := by decide +kernel
theorem dX2_rest_28 : decode cX2_rest 28 = .ok (.if_icmp .ne 7, 3) := by decide +kernel
theorem dX2_rest_31 : decode cX2_rest 31 = .ok (.iconst 1, 1) := by decide +kernel
theorem dX2_rest_32 : decode cX2_rest 32 = .ok (.goto 4, 3) := by decide +kernel
theorem dX2_rest_35 : decode cX2_rest 35 = .ok (.iconst 0, 1) := by decide +kernel
theorem dX2_rest_36 : decode cX2_rest 36 = .ok (.istore_n 2, 1) := by decide +kernel
theorem dX2_rest_37 : decode cX2_rest 37 = .ok (.iconst 1, 1) := by decide +kernel
theorem dX2_rest_38 : decode cX2_rest 38 = .ok (.iload_n 2, 1) := by decide +kernel
theorem dX2_rest_39 : decode cX2_rest 39 = .ok (.ifCond .eq 7, 3) := by decide +kernel
theorem dX2_rest_42 : decode cX2_rest 42 = .ok (.iconst 4, 1) := by decide +kernel
theorem dX2_rest_43 : decode cX2_rest 43 = .ok (.goto 4, 3) := by decide +kernel
theorem dX2_rest_46 : decode cX2_rest 46 = .ok (.iconst 0, 1) := by decide +kernel
theorem dX2_rest_47 : decode cX2_rest 47 = .ok (.iadd, 1) := by decide +kernel
theorem dX2_rest_48 : decode cX2_rest 48 = .ok (.istore_n 3, 1) := by decide +kernel
theorem dX2_rest_49 : decode cX2_rest 49 = .ok (.aload_n 0, 1) := by decide +kernel
theorem dX2_rest_50 : decode cX2_rest 50 = .ok (.getfield 32, 3) := by decide +kernel
theorem dX2_rest_53 : decode cX2_rest 53 = .ok (.getfield 112, 3) := by decide +kernel
theorem dX2_rest_56 : decode cX2_rest 56 = .ok (.iload_n 1, 1) := by decide +kernel
theorem dX2_rest_57 : decode cX2_rest 57 = .ok (.bipush 20, 2) := by decide +kernel
theorem dX2_rest_59 : decode cX2_rest 59 = .ok (.aload_n 0, 1) := by decide +kernel
theorem dX2_rest_60 : decode cX2_rest 60 = .ok (.getfield 32, 3) := by decide +kernel
theorem dX2_rest_63 : decode cX2_rest 63 = .ok (.getfield 112, 3) := by decide +kernel
theorem dX2_rest_66 : decode cX2_rest 66 = .ok (.iload_n 1, 1) := by decide +kernel
theorem dX2_rest_67 : decode cX2_rest 67 = .ok (.iaload, 1) := by decide +kernel
theorem dX2_rest_68 : decode cX2_rest 68 = .ok (.iload_n 3, 1) := by decide +kernel
theorem dX2_rest_69 : decode cX2_rest 69 = .ok (.iadd, 1) := by decide +kernel
theorem dX2_rest_70 : decode cX2_rest 70 = .ok (.invokestatic 127, 3) := by decide +kernel
theorem dX2_rest_73 : decode cX2_rest 73 = .ok (.iastore, 1) := by decide +kernel
theorem dX2_rest_74 : decode cX2_rest 74 = .ok (.aload_n 0, 1) := by decide +kernel
theorem dX2_rest_75 : decode cX2_rest 75 = .ok (.getfield 32, 3) := by decide +kernel
theorem dX2_rest_78 : decode cX2_rest 78 = .ok (.iload_n 1, 1) := by decide +kernel
theorem dX2_rest_79 : decode cX2_rest 79 = .ok (.invokevirtual 124, 3) := by decide +kernel
theorem dX2_rest_82 : decode cX2_rest 82 = .ok (.ifCond .ne 27, 3) := by decide +kernel
theorem dX2_rest_85 : decode cX2_rest 85 = .ok (.aload_n 0, 1) := by decide +kernel
theorem dX2_rest_86 : decode cX2_rest 86 = .ok (.getfield 32, 3) := by decide +kernel
theorem dX2_rest_89 : decode cX2_rest 89 = .ok (.getfield 112, 3) := by decide +kernel
theorem dX2_rest_92 : decode cX2_rest 92 = .ok (.iload_n 1, 1) := by decide +kernel
theorem dX2_rest_93 : decode cX2_rest 93 = .ok (.iaload, 1) := by decide +kernel
theorem dX2_rest_94 : decode cX2_rest 94 = .ok (.bipush 10, 2) := by decide +kernel
theorem dX2_rest_96 : decode cX2_rest 96 = .ok (.if_icmp .lt 13, 3) := by decide +kernel
theorem dX2_rest_99 : decode cX2_rest 99 = .ok (.aload_n 0, 1) := by decide +kernel
theorem dX2_rest_100 : decode cX2_rest 100 = .ok (.getfield 32, 3) := by decide +kernel
theorem dX2_rest_103 : decode cX2_rest 103 = .ok (.getfield 92, 3) := by decide +kernel
theorem dX2_rest_106 : decode cX2_rest 106 = .ok (.iload_n 1, 1) := by decide +kernel
theorem dX2_rest_107 : decode cX2_rest 107 = .ok (.iconst 1, 1) := by decide +kernel
theorem dX2_rest_108 : decode cX2_rest 108 = .ok (.iastore, 1) := by decide +kernel
theorem dX2_rest_109 : decode cX2_rest 109 = .ok (.return_, 1) := by decide +kernel
set_option maxRecDepth 20000 in
theorem ggX2_hoursTillArrival_X0_isAtGoal : GoodIn wsX2_hoursTillArrival wsX0_isAtGoal := goodIn_r _ [5, 6, 7, 83, 84, 85, 86, 87, 88, 89, 90, 91, 92] (by decide +kernel) (by decide +kernel)
set_option maxRecDepth 20000 in
theorem gX2_hoursTillArrival_X0_isAtGoal_n124 : GoodIn wsX2_hoursTillArrival (wsX0_isAtGoal) := ggX2_hoursTillArrival_X0_isAtGoal
set_option maxRecDepth 20000 in
theorem ggX2_hoursTillArrival_X2_spendHour : GoodIn wsX2_hoursTillArrival wsX2_spendHour := goodIn_r _ [12, 13, 14, 15, 16, 1, 17, 18, 19, 20, 21, 22, 23, 24, 25, 26, 27, 28, 29, 30, 31, 32, 33, 34, 35, 36, 11, 37, 38, 39, 40, 41, 42, 43, 44, 45, 46, 47, 48, 49, 50, 51, 52, 3, 53, 54, 55, 56, 57, 58, 59, 6, 7, 60, 2, 4, 5, 61, 62, 63, 64, 65, 66, 67, 68, 69, 70, 71, 72, 73, 74, 75, 76, 77, 78, 79, 80, 81, 82, 83, 84, 85, 86, 87, 88, 89, 90, 91, 92, 93, 94] (by decide +kernel) (by decide +kernel)
set_option maxRecDepth 20000 in
theorem gX2_hoursTillArrival_X2_spendHour : GoodIn wsX2_hoursTillArrival (wsV RX2 130 RX2 yX2_spendHour wsX2_spendHour) := goodIn_app (goodIn_of _ (by decide +kernel)) ggX2_hoursTillArrival_X2_spendHour
theorem dX2_hoursTillArrival_0 : decode cX2_hoursTillArrival 0 = .ok (.aload_n 0, 1) := by decide +kernel
theorem dX2_hoursTillArrival_1 : decode cX2_hoursTillArrival 1 = .ok (.getfield 32, 3) := by decide +kernel
theorem dX2_hoursTillArrival_4 : decode cX2_hoursTillArrival 4 = .ok (.getfield 92, 3) := by decide +kernel
theorem dX2_hoursTillArrival_7 : decode cX2_hoursTillArrival 7 = .ok (.iload_n 1, 1) := by decide +kernel
theorem dX2_hoursTillArrival_8 : decode cX2_hoursTillArrival 8 = .ok (.iaload, 1) := by decide +kernel
theorem dX2_hoursTillArrival_9 : decode cX2_hoursTillArrival 9 = .ok (.iconst 3, 1) := by decide +kernel
theorem dX2_hoursTillArrival_10 : decode cX2_hoursTillArrival 10 = .ok (.if_icmp .ne 5, 3) := by decide +kernel
theorem dX2_hoursTillArrival_13 : decode cX2_hoursTillArrival 13 = .ok (.iconst (-1), 1) := by decide +kernel
theorem dX2_hoursTillArrival_14 : decode cX2_hoursTillArrival 14 = .ok (.ireturn, 1) := by decide +kernel
theorem dX2_hoursTillArrival_15 : decode cX2_hoursTillArrival 15 = .ok (.aload_n 0, 1) := by decide +kernel
theorem dX2_hoursTillArrival_16 : decode cX2_hoursTillArrival 16 = .ok (.getfield 32, 3) := by decide +kernel
theorem dX2_hoursTillArrival_19 : decode cX2_hoursTillArrival 19 = .ok (.iload_n 1, 1) := by decide +kernel
theorem dX2_hoursTillArrival_20 : decode cX2_hoursTillArrival 20 = .ok (.invokevirtual 124, 3) := by decide +kernel
theorem dX2_hoursTillArrival_23 : decode cX2_hoursTillArrival 23 = .ok (.ifCond .eq 5, 3) := by decide +kernel
theorem dX2_hoursTillArrival_26 : decode cX2_hoursTillArrival 26 = .ok (.iconst 0, 1) := by decide +kernel
theorem dX2_hoursTillArrival_27 : decode cX2_hoursTillArrival 27 = .ok (.ireturn, 1) := by decide +kernel
theorem dX2_hoursTillArrival_28 : decode cX2_hoursTillArrival 28 = .ok (.iconst 1, 1) := by decide +kernel
theorem dX2_hoursTillArrival_29 : decode cX2_hoursTillArrival 29 = .ok (.istore_n 2, 1) := by decide +kernel
theorem dX2_hoursTillArrival_30 : decode cX2_hoursTillArrival 30 = .ok (.iload_n 2, 1) := by decide +kernel
theorem dX2_hoursTillArrival_31 : decode cX2_hoursTillArrival 31 = .ok (.sipush 150, 3) := by decide +kernel
theorem dX2_hoursTillArrival_34 : decode cX2_hoursTillArrival 34 = .ok (.if_icmp .gt 44, 3) := by decide +kernel
theorem dX2_hoursTillArrival_37 : decode cX2_hoursTillArrival 37 = .ok (.aload_n 0, 1) := by decide +kernel
theorem dX2_hoursTillArrival_38 : decode cX2_hoursTillArrival 38 = .ok (.invokevirtual 130, 3) := by decide +kernel
theorem dX2_hoursTillArrival_41 : decode cX2_hoursTillArrival 41 = .ok (.pop, 1) := by decide +kernel
theorem dX2_hoursTillArrival_42 : decode cX2_hoursTillArrival 42 = .ok (.aload_n 0, 1) := by decide +kernel
theorem dX2_hoursTillArrival_43 : decode cX2_hoursTillArrival 43 = .ok (.getfield 32, 3) := by decide +kernel
theorem dX2_hoursTillArrival_46 : decode cX2_hoursTillArrival 46 = .ok (.getfield 92, 3) := by decide +kernel
theorem dX2_hoursTillArrival_49 : decode cX2_hoursTillArrival 49 = .ok (.iload_n 1, 1) := by decide +kernel
theorem dX2_hoursTillArrival_50 : decode cX2_hoursTillArrival 50 = .ok (.iaload, 1) := by decide +kernel
theorem dX2_hoursTillArrival_51 : decode cX2_hoursTillArrival 51 = .ok (.iconst 2, 1) := by decide +kernel
theorem dX2_hoursTillArrival_52 : decode cX2_hoursTillArrival 52 = .ok (.if_icmp .ne 5, 3) := by decide +kernel
theorem dX2_hoursTillArrival_55 : decode cX2_hoursTillArrival 55 = .ok (.iload_n 2, 1) := by decide +kernel
theorem dX2_hoursTillArrival_56 : decode cX2_hoursTillArrival 56 = .ok (.ireturn, 1) := by decide +kernel
theorem dX2_hoursTillArrival_57 : decode cX2_hoursTillArrival 57 = .ok (.aload_n 0, 1) := by decide +kernel
theorem dX2_hoursTillArrival_58 : decode cX2_hoursTillArrival 58 = .ok (.getfield 32, 3) := by decide +kernel
theorem dX2_hoursTillArrival_61 : decode cX2_hoursTillArrival 61 = .ok (.getfield 92, 3) := by decide +kernel
theorem dX2_hoursTillArrival_64 : decode cX2_hoursTillArrival 64 = .ok (.iload_n 1, 1) := by decide +kernel
theorem dX2_hoursTillArrival_65 : decode cX2_hoursTillArrival 65 = .ok (.iaload, 1) := by decide +kernel
theorem dX2_hoursTillArrival_66 : decode cX2_hoursTillArrival 66 = .ok (.iconst 3, 1) := by decide +kernel
theorem dX2_hoursTillArrival_67 : decode cX2_hoursTillArrival 67 = .ok (.if_icmp .ne 5, 3) := by decide +kernel
theorem dX2_hoursTillArrival_70 : decode cX2_hoursTillArrival 70 = .ok (.iconst (-1), 1) := by decide +kernel
theorem dX2_hoursTillArrival_71 : decode cX2_hoursTillArrival 71 = .ok (.ireturn, 1) := by decide +kernel
theorem dX2_hoursTillArrival_72 : decode cX2_hoursTillArrival 72 = .ok (.iinc 2 1, 3) := by decide +kernel
theorem dX2_hoursTillArrival_75 : decode cX2_hoursTillArrival 75 = .ok (.goto (-45), 3) := by decide +kernel
theorem dX2_hoursTillArrival_78 : decode cX2_hoursTillArrival 78 = .ok (.iconst (-1), 1) := by decide +kernel
theorem dX2_hoursTillArrival_79 : decode cX2_hoursTillArrival 79 = .ok (.ireturn, 1) := by decide +kernel
set_option maxRecDepth 20000 in
theorem ggX2_dayOfThaw_X2_hasThawed : GoodIn wsX2_dayOfThaw wsX2_hasThawed := goodIn_r _ [6, 1, 77, 78, 79, 80, 81, 82] (by decide +kernel) (by decide +kernel)
set_option maxRecDepth 20000 in
theorem gX2_dayOfThaw_X2_hasThawed : GoodIn wsX2_dayOfThaw (wsV RX2 75 RX2 yX2_hasThawed wsX2_hasThawed) := goodIn_app (goodIn_of _ (by decide +kernel)) ggX2_dayOfThaw_X2_hasThawed
set_option maxRecDepth 20000 in
theorem ggX2_dayOfThaw_X2_spendHour : GoodIn wsX2_dayOfThaw wsX2_spendHour := goodIn_r _ [10, 11, 12, 13, 1, 14, 15, 16, 17, 18, 19, 20, 21, 22, 23, 24, 25, 26, 27, 28, 29, 30, 31, 2, 3, 4, 5, 6, 32, 33, 34, 35, 36, 37, 38, 39, 40, 41, 42, 43, 44, 45, 46, 47, 48, 49, 50, 51, 52, 53, 54, 55, 56, 57, 58, 59, 60, 61, 62, 63, 64, 65, 66, 67, 68, 69, 70, 71, 72, 73, 74, 75, 76, 77, 78, 79, 80, 81, 82, 83, 84, 85, 86, 87, 88, 89, 90, 91, 92, 93, 94] (by decide +kernel) (by decide +kernel)
set_option maxRecDepth 20000 in
theorem gX2_dayOfThaw_X2_spendHour : GoodIn wsX2_dayOfThaw (wsV RX2 130 RX2 yX2_spendHour wsX2_spendHour) := goodIn_app (goodIn_of _ (by decide +kernel)) ggX2_dayOfThaw_X2_spendHour
theorem dX2_dayOfThaw_0 : decode cX2_dayOfThaw 0 = .ok (.iconst 0, 1) := by decide +kernel
theorem dX2_dayOfThaw_1 : decode cX2_dayOfThaw 1 = .ok (.istore_n 1, 1) := by decide +kernel
theorem dX2_dayOfThaw_2 : decode cX2_dayOfThaw 2 = .ok (.iload_n 1, 1) := by decide +kernel
theorem dX2_dayOfThaw_3 : decode cX2_dayOfThaw 3 = .ok (.sipush 720, 3) := by decide +kernel
theorem dX2_dayOfThaw_6 : decode cX2_dayOfThaw 6 = .ok (.if_icmp .ge 21, 3) := by decide +kernel
theorem dX2_dayOfThaw_9 : decode cX2_dayOfThaw 9 = .ok (.aload_n 0, 1) := by decide +kernel
theorem dX2_dayOfThaw_10 : decode cX2_dayOfThaw 10 = .ok (.invokevirtual 75, 3) := by decide +kernel
theorem dX2_dayOfThaw_13 : decode cX2_dayOfThaw 13 = .ok (.ifCond .ne 14, 3) := by decide +kernel
theorem dX2_dayOfThaw_16 : decode cX2_dayOfThaw 16 = .ok (.aload_n 0, 1) := by decide +kernel
theorem dX2_dayOfThaw_17 : decode cX2_dayOfThaw 17 = .ok (.invokevirtual 130, 3) := by decide +kernel
theorem dX2_dayOfThaw_20 : decode cX2_dayOfThaw 20 = .ok (.pop, 1) := by decide +kernel
theorem dX2_dayOfThaw_21 : decode cX2_dayOfThaw 21 = .ok (.iinc 1 1, 3) := by decide +kernel
theorem dX2_dayOfThaw_24 : decode cX2_dayOfThaw 24 = .ok (.goto (-22), 3) := by decide +kernel
theorem dX2_dayOfThaw_27 : decode cX2_dayOfThaw 27 = .ok (.aload_n 0, 1) := by decide +kernel
theorem dX2_dayOfThaw_28 : decode cX2_dayOfThaw 28 = .ok (.getfield 9, 3) := by decide +kernel
theorem dX2_dayOfThaw_31 : decode cX2_dayOfThaw 31 = .ok (.ireturn, 1) := by decide +kernel
theorem dX3_init_0 : decode cX3_init 0 = .ok (.aload_n 0, 1) := by decide +kernel
theorem dX3_init_1 : decode cX3_init 1 = .ok (.invokespecial 3, 3) := by decide +kernel
theorem dX3_init_4 : decode cX3_init 4 = .ok (.aload_n 0, 1) := by decide +kernel
theorem dX3_init_5 : decode cX3_init 5 = .ok (.bipush 12, 2) := by decide +kernel
theorem dX3_init_7 : decode cX3_init 7 = .ok (.newarray .int, 2) := by decide +kernel
theorem dX3_init_9 : decode cX3_init 9 = .ok (.putfield 9, 3) := by decide +kernel
theorem dX3_init_12 : decode cX3_init 12 = .ok (.aload_n 0, 1) := by decide +kernel
theorem dX3_init_13 : decode cX3_init 13 = .ok (.bipush 12, 2) := by decide +kernel
theorem dX3_init_15 : decode cX3_init 15 = .ok (.newarray .int, 2) := by decide +kernel
theorem dX3_init_17 : decode cX3_init 17 = .ok (.putfield 15, 3) := by decide +kernel
theorem dX3_init_20 : decode cX3_init 20 = .ok (.return_, 1) := by decide +kernel
set_option maxRecDepth 20000 in
theorem ggX3_has_X4_isWithin : GoodIn wsX3_has wsX4_isWithin := goodIn_r _ [4] (by decide +kernel) (by decide +kernel)
set_option maxRecDepth 20000 in
theorem gX3_has_X4_isWithin_n22 : GoodIn wsX3_has (wsX4_isWithin) := ggX3_has_X4_isWithin
theorem dX3_has_0 : decode cX3_has 0 = .ok (.iload_n 1, 1) := by decide +kernel
theorem dX3_has_1 : decode cX3_has 1 = .ok (.iconst 0, 1) := by decide +kernel
theorem dX3_has_2 : decode cX3_has 2 = .ok (.aload_n 0, 1) := by decide +kernel
theorem dX3_has_3 : decode cX3_has 3 = .ok (.getfield 18, 3) := by decide +kernel
theorem dX3_has_6 : decode cX3_has 6 = .ok (.iconst 1, 1) := by decide +kernel
theorem dX3_has_7 : decode cX3_has 7 = .ok (.isub, 1) := by decide +kernel
theorem dX3_has_8 : decode cX3_has 8 = .ok (.invokestatic 22, 3) := by decide +kernel
theorem dX3_has_11 : decode cX3_has 11 = .ok (.ireturn, 1) := by decide +kernel
theorem dX3_add_0 : decode cX3_add 0 = .ok (.aload_n 0, 1) := by decide +kernel
theorem dX3_add_1 : decode cX3_add 1 = .ok (.getfield 18, 3) := by decide +kernel
theorem dX3_add_4 : decode cX3_add 4 = .ok (.bipush 12, 2) := by decide +kernel
theorem dX3_add_6 : decode cX3_add 6 = .ok (.if_icmp .lt 5, 3) := by decide +kernel
theorem dX3_add_9 : decode cX3_add 9 = .ok (.iconst (-1), 1) := by decide +kernel
theorem dX3_add_10 : decode cX3_add 10 = .ok (.ireturn, 1) := by decide +kernel
theorem dX3_add_11 : decode cX3_add 11 = .ok (.aload_n 0, 1) := by decide +kernel
theorem dX3_add_12 : decode cX3_add 12 = .ok (.getfield 18, 3) := by decide +kernel
theorem dX3_add_15 : decode cX3_add 15 = .ok (.istore_n 3, 1) := by decide +kernel
theorem dX3_add_16 : decode cX3_add 16 = .ok (.aload_n 0, 1) := by decide +kernel
theorem dX3_add_17 : decode cX3_add 17 = .ok (.getfield 9, 3) := by decide +kernel
theorem dX3_add_20 : decode cX3_add 20 = .ok (.iload_n 3, 1) := by decide +kernel
theorem dX3_add_21 : decode cX3_add 21 = .ok (.iload_n 1, 1) := by decide +kernel
theorem dX3_add_22 : decode cX3_add 22 = .ok (.iastore, 1) := by decide +kernel
theorem dX3_add_23 : decode cX3_add 23 = .ok (.aload_n 0, 1) := by decide +kernel
theorem dX3_add_24 : decode cX3_add 24 = .ok (.getfield 15, 3) := by decide +kernel
theorem dX3_add_27 : decode cX3_add 27 = .ok (.iload_n 3, 1) := by decide +kernel
theorem dX3_add_28 : decode cX3_add 28 = .ok (.iload_n 2, 1) := by decide +kernel
theorem dX3_add_29 : decode cX3_add 29 = .ok (.iastore, 1) := by decide +kernel
theorem dX3_add_30 : decode cX3_add 30 = .ok (.aload_n 0, 1) := by decide +kernel
theorem dX3_add_31 : decode cX3_add 31 = .ok (.dup, 1) := by decide +kernel
theorem dX3_add_32 : decode cX3_add 32 = .ok (.getfield 18, 3) := by decide +kernel
theorem dX3_add_35 : decode cX3_add 35 = .ok (.iconst 1, 1) := by decide +kernel
theorem dX3_add_36 : decode cX3_add 36 = .ok (.iadd, 1) := by decide +kernel
theorem dX3_add_37 : decode cX3_add 37 = .ok (.putfield 18, 3) := by decide +kernel
theorem dX3_add_40 : decode cX3_add 40 = .ok (.iload_n 3, 1) := by decide +kernel
theorem dX3_add_41 : decode cX3_add 41 = .ok (.ireturn, 1) := by decide +kernel
theorem dX3_allStakes_0 : decode cX3_allStakes 0 = .ok (.iconst 0, 1) := by decide +kernel
theorem dX3_allStakes_1 : decode cX3_allStakes 1 = .ok (.istore_n 1, 1) := by decide +kernel
theorem dX3_allStakes_2 : decode cX3_allStakes 2 = .ok (.iconst 0, 1) := by decide +kernel
theorem dX3_allStakes_3 : decode cX3_allStakes 3 = .ok (.istore_n 2, 1) := by decide +kernel
theorem dX3_allStakes_4 : decode cX3_allStakes 4 = .ok (.iload_n 2, 1) := by decide +kernel
theorem dX3_allStakes_5 : decode cX3_allStakes 5 = .ok (.aload_n 0, 1) := by decide +kernel
theorem dX3_allStakes_6 : decode cX3_allStakes 6 = .ok (.getfield 18, 3) := by decide +kernel
theorem dX3_allStakes_9 : decode cX3_allStakes 9 = .ok (.if_icmp .ge 18, 3) := by decide +kernel
theorem dX3_allStakes_12 : decode cX3_allStakes 12 = .ok (.iload_n 1, 1) := by decide +kernel
theorem dX3_allStakes_13 : decode cX3_allStakes 13 = .ok (.aload_n 0, 1) := by decide +kernel
theorem dX3_allStakes_14 : decode cX3_allStakes 14 = .ok (.getfield 15, 3) := by decide +kernel
theorem dX3_allStakes_17 : decode cX3_allStakes 17 = .ok (.iload_n 2, 1) := by decide +kernel
theorem dX3_allStakes_18 : decode cX3_allStakes 18 = .ok (.iaload, 1) := by decide +kernel
theorem dX3_allStakes_19 : decode cX3_allStakes 19 = .ok (.iadd, 1) := by decide +kernel
theorem dX3_allStakes_20 : decode cX3_allStakes 20 = .ok (.istore_n 1, 1) := by decide +kernel
theorem dX3_allStakes_21 : decode cX3_allStakes 21 = .ok (.iinc 2 1, 3) := by decide +kernel
theorem dX3_allStakes_24 : decode cX3_allStakes 24 = .ok (.goto (-20), 3) := by decide +kernel
theorem dX3_allStakes_27 : decode cX3_allStakes 27 = .ok (.iload_n 1, 1) := by decide +kernel
theorem dX3_allStakes_28 : decode cX3_allStakes 28 = .ok (.ireturn, 1) := by decide +kernel
theorem dX3_daysBeside_0 : decode cX3_daysBeside 0 = .ok (.aload_n 0, 1) := by decide +kernel
theorem dX3_daysBeside_1 : decode cX3_daysBeside 1 = .ok (.getfield 9, 3) := by decide +kernel
theorem dX3_daysBeside_4 : decode cX3_daysBeside 4 = .ok (.iload_n 2, 1) := by decide +kernel
theorem dX3_daysBeside_5 : decode cX3_daysBeside 5 = .ok (.iaload, 1) := by decide +kernel
theorem dX3_daysBeside_6 : decode cX3_daysBeside 6 = .ok (.iload_n 1, 1) := by decide +kernel
theorem dX3_daysBeside_7 : decode cX3_daysBeside 7 = .ok (.isub, 1) := by decide +kernel
theorem dX3_daysBeside_8 : decode cX3_daysBeside 8 = .ok (.invokestatic 26, 3) := by decide +kernel
theorem dX3_daysBeside_11 : decode cX3_daysBeside 11 = .ok (.ireturn, 1) := by decide +kernel
set_option maxRecDepth 20000 in
theorem ggX3_winOn_X3_daysBeside : GoodIn wsX3_winOn wsX3_daysBeside := goodIn_r _ [6, 7, 8, 9, 10, 11, 17, 18, 19] (by decide +kernel) (by decide +kernel)
set_option maxRecDepth 20000 in
theorem gX3_winOn_X3_daysBeside : GoodIn wsX3_winOn (wsV RX3 32 RX3 yX3_daysBeside wsX3_daysBeside) := goodIn_app (goodIn_of _ (by decide +kernel)) ggX3_winOn_X3_daysBeside
set_option maxRecDepth 20000 in
theorem ggX3_winOn_X3_allStakes : GoodIn wsX3_winOn wsX3_allStakes := goodIn_r _ [15, 1, 16, 17, 18, 19] (by decide +kernel) (by decide +kernel)
set_option maxRecDepth 20000 in
theorem gX3_winOn_X3_allStakes : GoodIn wsX3_winOn (wsV RX3 36 RX3 yX3_allStakes wsX3_allStakes) := goodIn_app (goodIn_of _ (by decide +kernel)) ggX3_winOn_X3_allStakes
theorem dX3_winOn_0 : decode cX3_winOn 0 = .ok (.aload_n 0, 1) := by decide +kernel
theorem dX3_winOn_1 : decode cX3_winOn 1 = .ok (.iload_n 1, 1) := by decide +kernel
theorem dX3_winOn_2 : decode cX3_winOn 2 = .ok (.iload_n 2, 1) := by decide +kernel
theorem dX3_winOn_3 : decode cX3_winOn 3 = .ok (.invokevirtual 32, 3) := by decide +kernel
theorem dX3_winOn_6 : decode cX3_winOn 6 = .ok (.istore_n 3, 1) := by decide +kernel
theorem dX3_winOn_7 : decode cX3_winOn 7 = .ok (.iconst 0, 1) := by decide +kernel
theorem dX3_winOn_8 : decode cX3_winOn 8 = .ok (.istore 4, 2) := by decide +kernel
theorem dX3_winOn_10 : decode cX3_winOn 10 = .ok (.iconst 0, 1) := by decide +kernel
theorem dX3_winOn_11 : decode cX3_winOn 11 = .ok (.istore 5, 2) := by decide +kernel
theorem dX3_winOn_13 : decode cX3_winOn 13 = .ok (.iload 5, 2) := by decide +kernel
theorem dX3_winOn_15 : decode cX3_winOn 15 = .ok (.aload_n 0, 1) := by decide +kernel
theorem dX3_winOn_16 : decode cX3_winOn 16 = .ok (.getfield 18, 3) := by decide +kernel
theorem dX3_winOn_19 : decode cX3_winOn 19 = .ok (.if_icmp .ge 35, 3) := by decide +kernel
theorem dX3_winOn_22 : decode cX3_winOn 22 = .ok (.aload_n 0, 1) := by decide +kernel
theorem dX3_winOn_23 : decode cX3_winOn 23 = .ok (.iload_n 1, 1) := by decide +kernel
theorem dX3_winOn_24 : decode cX3_winOn 24 = .ok (.iload 5, 2) := by decide +kernel
theorem dX3_winOn_26 : decode cX3_winOn 26 = .ok (.invokevirtual 32, 3) := by decide +kernel
theorem dX3_winOn_29 : decode cX3_winOn 29 = .ok (.istore 6, 2) := by decide +kernel
theorem dX3_winOn_31 : decode cX3_winOn 31 = .ok (.iload 6, 2) := by decide +kernel
theorem dX3_winOn_33 : decode cX3_winOn 33 = .ok (.iload_n 3, 1) := by decide +kernel
theorem dX3_winOn_34 : decode cX3_winOn 34 = .ok (.if_icmp .ge 5, 3) := by decide +kernel
theorem dX3_winOn_37 : decode cX3_winOn 37 = .ok (.iconst 0, 1) := by decide +kernel
theorem dX3_winOn_38 : decode cX3_winOn 38 = .ok (.ireturn, 1) := by decide +kernel
theorem dX3_winOn_39 : decode cX3_winOn 39 = .ok (.iload 6, 2) := by decide +kernel
theorem dX3_winOn_41 : decode cX3_winOn 41 = .ok (.iload_n 3, 1) := by decide +kernel
theorem dX3_winOn_42 : decode cX3_winOn 42 = .ok (.if_icmp .ne 6, 3) := by decide +kernel
theorem dX3_winOn_45 : decode cX3_winOn 45 = .ok (.iinc 4 1, 3) := by decide +kernel
theorem dX3_winOn_48 : decode cX3_winOn 48 = .ok (.iinc 5 1, 3) := by decide +kernel
theorem dX3_winOn_51 : decode cX3_winOn 51 = .ok (.goto (-38), 3) := by decide +kernel
theorem dX3_winOn_54 : decode cX3_winOn 54 = .ok (.iload 4, 2) := by decide +kernel
theorem dX3_winOn_56 : decode cX3_winOn 56 = .ok (.ifCond .le 13, 3) := by decide +kernel
theorem dX3_winOn_59 : decode cX3_winOn 59 = .ok (.aload_n 0, 1) := by decide +kernel
theorem dX3_winOn_60 : decode cX3_winOn 60 = .ok (.invokevirtual 36, 3) := by decide +kernel
theorem dX3_winOn_63 : decode cX3_winOn 63 = .ok (.iload 4, 2) := by decide +kernel
theorem dX3_winOn_65 : decode cX3_winOn 65 = .ok (.idiv, 1) := by decide +kernel
theorem dX3_winOn_66 : decode cX3_winOn 66 = .ok (.goto 4, 3) := by decide +kernel
theorem dX3_winOn_69 : decode cX3_winOn 69 = .ok (.iconst 0, 1) := by decide +kernel
theorem dX3_winOn_70 : decode cX3_winOn 70 = .ok (.ireturn, 1) := by decide +kernel
set_option maxRecDepth 20000 in
theorem ggX4_init_X2_init : GoodIn wsX4_init wsX2_init := goodIn_r _ [14, 15, 2, 3, 16, 17, 18, 19, 20, 21, 22, 23, 24, 25, 26, 27, 28, 29, 30, 31, 32, 33, 34, 35, 36, 37, 38, 39, 40, 41, 42, 43, 44, 50, 51, 52, 53, 54, 55, 62, 63, 64, 65, 66, 67, 68, 69, 70, 71, 72, 73] (by decide +kernel) (by decide +kernel)
set_option maxRecDepth 20000 in
theorem gX4_init_X2_init_n11 : GoodIn wsX4_init (wsX2_init) := ggX4_init_X2_init
set_option maxRecDepth 20000 in
theorem ggX4_init_X3_init : GoodIn wsX4_init wsX3_init := goodIn_r _ [46, 47, 2, 3, 17, 48, 49, 59, 60, 61] (by decide +kernel) (by decide +kernel)
set_option maxRecDepth 20000 in
theorem gX4_init_X3_init_n21 : GoodIn wsX4_init (wsX3_init) := ggX4_init_X3_init
theorem dX4_init_0 : decode cX4_init 0 = .ok (.aload_n 0, 1) := by decide +kernel
theorem dX4_init_1 : decode cX4_init 1 = .ok (.invokespecial 3, 3) := by decide +kernel
theorem dX4_init_4 : decode cX4_init 4 = .ok (.aload_n 0, 1) := by decide +kernel
theorem dX4_init_5 : decode cX4_init 5 = .ok (.new 9, 3) := by decide +kernel
theorem dX4_init_8 : decode cX4_init 8 = .ok (.dup, 1) := by decide +kernel
theorem dX4_init_9 : decode cX4_init 9 = .ok (.invokespecial 11, 3) := by decide +kernel
theorem dX4_init_12 : decode cX4_init 12 = .ok (.putfield 12, 3) := by decide +kernel
theorem dX4_init_15 : decode cX4_init 15 = .ok (.aload_n 0, 1) := by decide +kernel
theorem dX4_init_16 : decode cX4_init 16 = .ok (.new 9, 3) := by decide +kernel
theorem dX4_init_19 : decode cX4_init 19 = .ok (.dup, 1) := by decide +kernel
theorem dX4_init_20 : decode cX4_init 20 = .ok (.invokespecial 11, 3) := by decide +kernel
theorem dX4_init_23 : decode cX4_init 23 = .ok (.putfield 16, 3) := by decide +kernel
theorem dX4_init_26 : decode cX4_init 26 = .ok (.aload_n 0, 1) := by decide +kernel
theorem dX4_init_27 : decode cX4_init 27 = .ok (.new 19, 3) := by decide +kernel
theorem dX4_init_30 : decode cX4_init 30 = .ok (.dup, 1) := by decide +kernel
theorem dX4_init_31 : decode cX4_init 31 = .ok (.invokespecial 21, 3) := by decide +kernel
theorem dX4_init_34 : decode cX4_init 34 = .ok (.putfield 22, 3) := by decide +kernel
theorem dX4_init_37 : decode cX4_init 37 = .ok (.return_, 1) := by decide +kernel
set_option maxRecDepth 20000 in
theorem ggX4_setWarm_X4_isWithin : GoodIn wsX4_setWarm wsX4_isWithin := goodIn_r _ [9] (by decide +kernel) (by decide +kernel)
set_option maxRecDepth 20000 in
theorem gX4_setWarm_X4_isWithin : GoodIn wsX4_setWarm (va_wsS RX4 26 yX4_isWithin wsX4_isWithin) := goodIn_app (goodIn_of _ (by decide +kernel)) ggX4_setWarm_X4_isWithin
theorem dX4_setWarm_0 : decode cX4_setWarm 0 = .ok (.iload_n 1, 1) := by decide +kernel
theorem dX4_setWarm_1 : decode cX4_setWarm 1 = .ok (.iconst 0, 1) := by decide +kernel
theorem dX4_setWarm_2 : decode cX4_setWarm 2 = .ok (.bipush 13, 2) := by decide +kernel
theorem dX4_setWarm_4 : decode cX4_setWarm 4 = .ok (.invokestatic 26, 3) := by decide +kernel
theorem dX4_setWarm_7 : decode cX4_setWarm 7 = .ok (.ifCond .ne 13, 3) := by decide +kernel
theorem dX4_setWarm_10 : decode cX4_setWarm 10 = .ok (.new 30, 3) := by decide +kernel
theorem dX4_setWarm_13 : decode cX4_setWarm 13 = .ok (.dup, 1) := by decide +kernel
theorem dX4_setWarm_14 : decode cX4_setWarm 14 = .ok (.ldc 32, 2) := by decide +kernel
theorem dX4_setWarm_16 : decode cX4_setWarm 16 = .ok (.invokespecial 34, 3) := by decide +kernel
theorem dX4_setWarm_19 : decode cX4_setWarm 19 = .ok (.athrow, 1) := by decide +kernel
theorem dX4_setWarm_20 : decode cX4_setWarm 20 = .ok (.iload_n 2, 1) := by decide +kernel
theorem dX4_setWarm_21 : decode cX4_setWarm 21 = .ok (.bipush (-9), 2) := by decide +kernel
theorem dX4_setWarm_23 : decode cX4_setWarm 23 = .ok (.bipush 9, 2) := by decide +kernel
theorem dX4_setWarm_25 : decode cX4_setWarm 25 = .ok (.invokestatic 26, 3) := by decide +kernel
theorem dX4_setWarm_28 : decode cX4_setWarm 28 = .ok (.ifCond .ne 13, 3) := by decide +kernel
theorem dX4_setWarm_31 : decode cX4_setWarm 31 = .ok (.new 37, 3) := by decide +kernel
theorem dX4_setWarm_34 : decode cX4_setWarm 34 = .ok (.dup, 1) := by decide +kernel
theorem dX4_setWarm_35 : decode cX4_setWarm 35 = .ok (.ldc 39, 2) := by decide +kernel
theorem dX4_setWarm_37 : decode cX4_setWarm 37 = .ok (.invokespecial 41, 3) := by decide +kernel
theorem dX4_setWarm_40 : decode cX4_setWarm 40 = .ok (.athrow, 1) := by decide +kernel
theorem dX4_setWarm_41 : decode cX4_setWarm 41 = .ok (.aload_n 0, 1) := by decide +kernel
theorem dX4_setWarm_42 : decode cX4_setWarm 42 = .ok (.getfield 12, 3) := by decide +kernel
theorem dX4_setWarm_45 : decode cX4_setWarm 45 = .ok (.getfield 42, 3) := by decide +kernel
theorem dX4_setWarm_48 : decode cX4_setWarm 48 = .ok (.iload_n 1, 1) := by decide +kernel
theorem dX4_setWarm_49 : decode cX4_setWarm 49 = .ok (.iaload, 1) := by decide +kernel
theorem dX4_setWarm_50 : decode cX4_setWarm 50 = .ok (.istore_n 3, 1) := by decide +kernel
theorem dX4_setWarm_51 : decode cX4_setWarm 51 = .ok (.aload_n 0, 1) := by decide +kernel
theorem dX4_setWarm_52 : decode cX4_setWarm 52 = .ok (.getfield 12, 3) := by decide +kernel
theorem dX4_setWarm_55 : decode cX4_setWarm 55 = .ok (.getfield 42, 3) := by decide +kernel
theorem dX4_setWarm_58 : decode cX4_setWarm 58 = .ok (.iload_n 1, 1) := by decide +kernel
theorem dX4_setWarm_59 : decode cX4_setWarm 59 = .ok (.iload_n 2, 1) := by decide +kernel
theorem dX4_setWarm_60 : decode cX4_setWarm 60 = .ok (.iastore, 1) := by decide +kernel
theorem dX4_setWarm_61 : decode cX4_setWarm 61 = .ok (.iload_n 3, 1) := by decide +kernel
theorem dX4_setWarm_62 : decode cX4_setWarm 62 = .ok (.ireturn, 1) := by decide +kernel
set_option maxRecDepth 20000 in
theorem ggX4_setIce_X4_isPlace : GoodIn wsX4_setIce wsX4_isPlace := goodIn_r _ [9, 10, 11, 8, 12, 13, 14, 15] (by decide +kernel) (by decide +kernel)
set_option maxRecDepth 20000 in
theorem gX4_setIce_X4_isPlace : GoodIn wsX4_setIce (va_wsS RX4 46 yX4_isPlace wsX4_isPlace) := goodIn_app (goodIn_of _ (by decide +kernel)) ggX4_setIce_X4_isPlace
set_option maxRecDepth 20000 in
theorem ggX4_setIce_X4_isWithin : GoodIn wsX4_setIce wsX4_isWithin := goodIn_r _ [15] (by decide +kernel) (by decide +kernel)
set_option maxRecDepth 20000 in
theorem gX4_setIce_X4_isWithin : GoodIn wsX4_setIce (va_wsS RX4 26 yX4_isWithin wsX4_isWithin) := goodIn_app (goodIn_of _ (by decide +kernel)) ggX4_setIce_X4_isWithin
set_option maxRecDepth 20000 in
theorem ggX4_setIce_X4_placeOf : GoodIn wsX4_setIce wsX4_placeOf := goodIn_r _ [18] (by decide +kernel) (by decide +kernel)
set_option maxRecDepth 20000 in
theorem gX4_setIce_X4_placeOf : GoodIn wsX4_setIce (va_wsS RX4 54 yX4_placeOf wsX4_placeOf) := goodIn_app (goodIn_of _ (by decide +kernel)) ggX4_setIce_X4_placeOf
theorem dX4_setIce_0 : decode cX4_setIce 0 = .ok (.iload_n 1, 1) := by decide +kernel
theorem dX4_setIce_1 : decode cX4_setIce 1 = .ok (.iload_n 2, 1) := by decide +kernel
theorem dX4_setIce_2 : decode cX4_setIce 2 = .ok (.invokestatic 46, 3) := by decide +kernel
theorem dX4_setIce_5 : decode cX4_setIce 5 = .ok (.ifCond .ne 13, 3) := by decide +kernel
theorem dX4_setIce_8 : decode cX4_setIce 8 = .ok (.new 30, 3) := by decide +kernel
theorem dX4_setIce_11 : decode cX4_setIce 11 = .ok (.dup, 1) := by decide +kernel
theorem dX4_setIce_12 : decode cX4_setIce 12 = .ok (.ldc 50, 2) := by decide +kernel
theorem dX4_setIce_14 : decode cX4_setIce 14 = .ok (.invokespecial 34, 3) := by decide +kernel
theorem dX4_setIce_17 : decode cX4_setIce 17 = .ok (.athrow, 1) := by decide +kernel
theorem dX4_setIce_18 : decode cX4_setIce 18 = .ok (.iload_n 3, 1) := by decide +kernel
theorem dX4_setIce_19 : decode cX4_setIce 19 = .ok (.iconst 0, 1) := by decide +kernel
theorem dX4_setIce_20 : decode cX4_setIce 20 = .ok (.bipush 60, 2) := by decide +kernel
theorem dX4_setIce_22 : decode cX4_setIce 22 = .ok (.invokestatic 26, 3) := by decide +kernel
theorem dX4_setIce_25 : decode cX4_setIce 25 = .ok (.ifCond .ne 13, 3) := by decide +kernel
theorem dX4_setIce_28 : decode cX4_setIce 28 = .ok (.new 37, 3) := by decide +kernel
theorem dX4_setIce_31 : decode cX4_setIce 31 = .ok (.dup, 1) := by decide +kernel
theorem dX4_setIce_32 : decode cX4_setIce 32 = .ok (.ldc 52, 2) := by decide +kernel
theorem dX4_setIce_34 : decode cX4_setIce 34 = .ok (.invokespecial 41, 3) := by decide +kernel
theorem dX4_setIce_37 : decode cX4_setIce 37 = .ok (.athrow, 1) := by decide +kernel
theorem dX4_setIce_38 : decode cX4_setIce 38 = .ok (.iload_n 1, 1) := by decide +kernel
theorem dX4_setIce_39 : decode cX4_setIce 39 = .ok (.iload_n 2, 1) := by decide +kernel
theorem dX4_setIce_40 : decode cX4_setIce 40 = .ok (.invokestatic 54, 3) := by decide +kernel
theorem dX4_setIce_43 : decode cX4_setIce 43 = .ok (.istore 4, 2) := by decide +kernel
theorem dX4_setIce_45 : decode cX4_setIce 45 = .ok (.aload_n 0, 1) := by decide +kernel
theorem dX4_setIce_46 : decode cX4_setIce 46 = .ok (.getfield 12, 3) := by decide +kernel
theorem dX4_setIce_49 : decode cX4_setIce 49 = .ok (.getfield 58, 3) := by decide +kernel
theorem dX4_setIce_52 : decode cX4_setIce 52 = .ok (.getfield 62, 3) := by decide +kernel
theorem dX4_setIce_55 : decode cX4_setIce 55 = .ok (.iload 4, 2) := by decide +kernel
theorem dX4_setIce_57 : decode cX4_setIce 57 = .ok (.iaload, 1) := by decide +kernel
theorem dX4_setIce_58 : decode cX4_setIce 58 = .ok (.istore 5, 2) := by decide +kernel
theorem dX4_setIce_60 : decode cX4_setIce 60 = .ok (.aload_n 0, 1) := by decide +kernel
theorem dX4_setIce_61 : decode cX4_setIce 61 = .ok (.getfield 12, 3) := by decide +kernel
theorem dX4_setIce_64 : decode cX4_setIce 64 = .ok (.getfield 58, 3) := by decide +kernel
theorem dX4_setIce_67 : decode cX4_setIce 67 = .ok (.getfield 62, 3) := by decide +kernel
theorem dX4_setIce_70 : decode cX4_setIce 70 = .ok (.iload 4, 2) := by decide +kernel
theorem dX4_setIce_72 : decode cX4_setIce 72 = .ok (.iload_n 3, 1) := by decide +kernel
theorem dX4_setIce_73 : decode cX4_setIce 73 = .ok (.iastore, 1) := by decide +kernel
theorem dX4_setIce_74 : decode cX4_setIce 74 = .ok (.iload 5, 2) := by decide +kernel
theorem dX4_setIce_76 : decode cX4_setIce 76 = .ok (.ireturn, 1) := by decide +kernel
set_option maxRecDepth 20000 in
theorem ggX4_build_X4_isSection : GoodIn wsX4_build wsX4_isSection := goodIn_r _ [7, 8, 9, 6, 10] (by decide +kernel) (by decide +kernel)
set_option maxRecDepth 20000 in
theorem gX4_build_X4_isSection : GoodIn wsX4_build (va_wsS RX4 67 yX4_isSection wsX4_isSection) := goodIn_app (goodIn_of _ (by decide +kernel)) ggX4_build_X4_isSection
set_option maxRecDepth 20000 in
theorem ggX4_build_X2_huts : GoodIn wsX4_build wsX2_huts := goodIn_r _ [14, 15, 19, 20, 21, 22, 23, 24] (by decide +kernel) (by decide +kernel)
set_option maxRecDepth 20000 in
theorem gX4_build_X2_huts_n76 : GoodIn wsX4_build (wsX2_huts) := ggX4_build_X2_huts
theorem dX4_build_0 : decode cX4_build 0 = .ok (.iload_n 1, 1) := by decide +kernel
theorem dX4_build_1 : decode cX4_build 1 = .ok (.invokestatic 67, 3) := by decide +kernel
theorem dX4_build_4 : decode cX4_build 4 = .ok (.ifCond .ne 13, 3) := by decide +kernel
theorem dX4_build_7 : decode cX4_build 7 = .ok (.new 30, 3) := by decide +kernel
theorem dX4_build_10 : decode cX4_build 10 = .ok (.dup, 1) := by decide +kernel
theorem dX4_build_11 : decode cX4_build 11 = .ok (.ldc 71, 2) := by decide +kernel
theorem dX4_build_13 : decode cX4_build 13 = .ok (.invokespecial 34, 3) := by decide +kernel
theorem dX4_build_16 : decode cX4_build 16 = .ok (.athrow, 1) := by decide +kernel
theorem dX4_build_17 : decode cX4_build 17 = .ok (.aload_n 0, 1) := by decide +kernel
theorem dX4_build_18 : decode cX4_build 18 = .ok (.getfield 12, 3) := by decide +kernel
theorem dX4_build_21 : decode cX4_build 21 = .ok (.getfield 73, 3) := by decide +kernel
theorem dX4_build_24 : decode cX4_build 24 = .ok (.iload_n 1, 1) := by decide +kernel
theorem dX4_build_25 : decode cX4_build 25 = .ok (.iconst 1, 1) := by decide +kernel
theorem dX4_build_26 : decode cX4_build 26 = .ok (.iastore, 1) := by decide +kernel
theorem dX4_build_27 : decode cX4_build 27 = .ok (.aload_n 0, 1) := by decide +kernel
theorem dX4_build_28 : decode cX4_build 28 = .ok (.getfield 12, 3) := by decide +kernel
theorem dX4_build_31 : decode cX4_build 31 = .ok (.invokevirtual 76, 3) := by decide +kernel
theorem dX4_build_34 : decode cX4_build 34 = .ok (.ireturn, 1) := by decide +kernel
set_option maxRecDepth 20000 in
theorem ggX4_place_X4_isPlace : GoodIn wsX4_place wsX4_isPlace := goodIn_r _ [7, 8, 9, 6, 10, 11, 12, 13] (by decide +kernel) (by decide +kernel)
set_option maxRecDepth 20000 in
theorem gX4_place_X4_isPlace : GoodIn wsX4_place (va_wsS RX4 46 yX4_isPlace wsX4_isPlace) := goodIn_app (goodIn_of _ (by decide +kernel)) ggX4_place_X4_isPlace
set_option maxRecDepth 20000 in
theorem ggX4_place_X4_isWithin : GoodIn wsX4_place wsX4_isWithin := goodIn_r _ [13] (by decide +kernel) (by decide +kernel)
set_option maxRecDepth 20000 in
theorem gX4_place_X4_isWithin : GoodIn wsX4_place (va_wsS RX4 26 yX4_isWithin wsX4_isWithin) := goodIn_app (goodIn_of _ (by decide +kernel)) ggX4_place_X4_isWithin
set_option maxRecDepth 20000 in
theorem ggX4_place_X4_placeOf : GoodIn wsX4_place wsX4_placeOf := goodIn_r _ [16] (by decide +kernel) (by decide +kernel)
set_option maxRecDepth 20000 in
theorem gX4_place_X4_placeOf : GoodIn wsX4_place (va_wsS RX4 54 yX4_placeOf wsX4_placeOf) := goodIn_app (goodIn_of _ (by decide +kernel)) ggX4_place_X4_placeOf
set_option maxRecDepth 20000 in
theorem ggX4_place_X1_mostBorneAt : GoodIn wsX4_place wsX1_mostBorneAt := goodIn_r _ [20, 21, 22, 23, 24, 25, 26, 27, 18, 28, 29, 30, 15, 6, 16, 48, 49] (by decide +kernel) (by decide +kernel)
set_option maxRecDepth 20000 in
theorem gX4_place_X1_mostBorneAt_n85 : GoodIn wsX4_place (wsX1_mostBorneAt) := ggX4_place_X1_mostBorneAt
set_option maxRecDepth 20000 in
theorem ggX4_place_X0_notOutAt : GoodIn wsX4_place wsX0_notOutAt := goodIn_r _ [34, 35, 36, 37, 38, 50, 51, 52, 53, 54, 55, 56, 57, 58, 59] (by decide +kernel) (by decide +kernel)
set_option maxRecDepth 20000 in
theorem gX4_place_X0_notOutAt_n92 : GoodIn wsX4_place (wsX0_notOutAt) := ggX4_place_X0_notOutAt
theorem dX4_place_0 : decode cX4_place 0 = .ok (.iload_n 1, 1) := by decide +kernel
theorem dX4_place_1 : decode cX4_place 1 = .ok (.iload_n 2, 1) := by decide +kernel
theorem dX4_place_2 : decode cX4_place 2 = .ok (.invokestatic 46, 3) := by decide +kernel
theorem dX4_place_5 : decode cX4_place 5 = .ok (.ifCond .ne 13, 3) := by decide +kernel
theorem dX4_place_8 : decode cX4_place 8 = .ok (.new 30, 3) := by decide +kernel
theorem dX4_place_11 : decode cX4_place 11 = .ok (.dup, 1) := by decide +kernel
theorem dX4_place_12 : decode cX4_place 12 = .ok (.ldc 50, 2) := by decide +kernel
theorem dX4_place_14 : decode cX4_place 14 = .ok (.invokespecial 34, 3) := by decide +kernel
theorem dX4_place_17 : decode cX4_place 17 = .ok (.athrow, 1) := by decide +kernel
theorem dX4_place_18 : decode cX4_place 18 = .ok (.iload_n 3, 1) := by decide +kernel
theorem dX4_place_19 : decode cX4_place 19 = .ok (.iconst 0, 1) := by decide +kernel
theorem dX4_place_20 : decode cX4_place 20 = .ok (.iconst 3, 1) := by decide +kernel
theorem dX4_place_21 : decode cX4_place 21 = .ok (.invokestatic 26, 3) := by decide +kernel
theorem dX4_place_24 : decode cX4_place 24 = .ok (.ifCond .ne 13, 3) := by decide +kernel
theorem dX4_place_27 : decode cX4_place 27 = .ok (.new 30, 3) := by decide +kernel
theorem dX4_place_30 : decode cX4_place 30 = .ok (.dup, 1) := by decide +kernel
theorem dX4_place_31 : decode cX4_place 31 = .ok (.ldc 80, 2) := by decide +kernel
theorem dX4_place_33 : decode cX4_place 33 = .ok (.invokespecial 34, 3) := by decide +kernel
theorem dX4_place_36 : decode cX4_place 36 = .ok (.athrow, 1) := by decide +kernel
theorem dX4_place_37 : decode cX4_place 37 = .ok (.iload_n 3, 1) := by decide +kernel
theorem dX4_place_38 : decode cX4_place 38 = .ok (.tableswitch 73 0 2 #[26, 43, 60], 26) := by decide +kernel
theorem dX4_place_64 : decode cX4_place 64 = .ok (.aload_n 0, 1) := by decide +kernel
theorem dX4_place_65 : decode cX4_place 65 = .ok (.getfield 12, 3) := by decide +kernel
theorem dX4_place_68 : decode cX4_place 68 = .ok (.getfield 58, 3) := by decide +kernel
theorem dX4_place_71 : decode cX4_place 71 = .ok (.getfield 62, 3) := by decide +kernel
theorem dX4_place_74 : decode cX4_place 74 = .ok (.iload_n 1, 1) := by decide +kernel
theorem dX4_place_75 : decode cX4_place 75 = .ok (.iload_n 2, 1) := by decide +kernel
theorem dX4_place_76 : decode cX4_place 76 = .ok (.invokestatic 54, 3) := by decide +kernel
theorem dX4_place_79 : decode cX4_place 79 = .ok (.iaload, 1) := by decide +kernel
theorem dX4_place_80 : decode cX4_place 80 = .ok (.ireturn, 1) := by decide +kernel
theorem dX4_place_81 : decode cX4_place 81 = .ok (.aload_n 0, 1) := by decide +kernel
theorem dX4_place_82 : decode cX4_place 82 = .ok (.getfield 12, 3) := by decide +kernel
theorem dX4_place_85 : decode cX4_place 85 = .ok (.getfield 58, 3) := by decide +kernel
theorem dX4_place_88 : decode cX4_place 88 = .ok (.getfield 82, 3) := by decide +kernel
theorem dX4_place_91 : decode cX4_place 91 = .ok (.iload_n 1, 1) := by decide +kernel
theorem dX4_place_92 : decode cX4_place 92 = .ok (.iload_n 2, 1) := by decide +kernel
theorem dX4_place_93 : decode cX4_place 93 = .ok (.invokestatic 54, 3) := by decide +kernel
theorem dX4_place_96 : decode cX4_place 96 = .ok (.iaload, 1) := by decide +kernel
theorem dX4_place_97 : decode cX4_place 97 = .ok (.ireturn, 1) := by decide +kernel
theorem dX4_place_98 : decode cX4_place 98 = .ok (.aload_n 0, 1) := by decide +kernel
theorem dX4_place_99 : decode cX4_place 99 = .ok (.getfield 12, 3) := by decide +kernel
theorem dX4_place_102 : decode cX4_place 102 = .ok (.getfield 58, 3) := by decide +kernel
theorem dX4_place_105 : decode cX4_place 105 = .ok (.iload_n 1, 1) := by decide +kernel
theorem dX4_place_106 : decode cX4_place 106 = .ok (.iload_n 2, 1) := by decide +kernel
theorem dX4_place_107 : decode cX4_place 107 = .ok (.invokevirtual 85, 3) := by decide +kernel
theorem dX4_place_110 : decode cX4_place 110 = .ok (.ireturn, 1) := by decide +kernel
theorem dX4_place_111 : decode cX4_place 111 = .ok (.aload_n 0, 1) := by decide +kernel
theorem dX4_place_112 : decode cX4_place 112 = .ok (.getfield 12, 3) := by decide +kernel
theorem dX4_place_115 : decode cX4_place 115 = .ok (.getfield 88, 3) := by decide +kernel
theorem dX4_place_118 : decode cX4_place 118 = .ok (.iload_n 1, 1) := by decide +kernel
theorem dX4_place_119 : decode cX4_place 119 = .ok (.iload_n 2, 1) := by decide +kernel
theorem dX4_place_120 : decode cX4_place 120 = .ok (.invokevirtual 92, 3) := by decide +kernel
theorem dX4_place_123 : decode cX4_place 123 = .ok (.ireturn, 1) := by decide +kernel
set_option maxRecDepth 20000 in
theorem ggX4_come_X4_isPlace : GoodIn wsX4_come wsX4_isPlace := goodIn_r _ [11, 12, 13, 10, 14, 15, 16, 17] (by decide +kernel) (by decide +kernel)
set_option maxRecDepth 20000 in
theorem gX4_come_X4_isPlace : GoodIn wsX4_come (va_wsS RX4 46 yX4_isPlace wsX4_isPlace) := goodIn_app (goodIn_of _ (by decide +kernel)) ggX4_come_X4_isPlace
set_option maxRecDepth 20000 in
theorem ggX4_come_X4_isWithin : GoodIn wsX4_come wsX4_isWithin := goodIn_r _ [17] (by decide +kernel) (by decide +kernel)
set_option maxRecDepth 20000 in
theorem gX4_come_X4_isWithin : GoodIn wsX4_come (va_wsS RX4 26 yX4_isWithin wsX4_isWithin) := goodIn_app (goodIn_of _ (by decide +kernel)) ggX4_come_X4_isWithin
set_option maxRecDepth 20000 in
theorem ggX4_come_X1_holds : GoodIn wsX4_come wsX1_holds := goodIn_r _ [21, 22, 23, 24, 19, 25, 26, 27, 28, 10, 29, 63, 64] (by decide +kernel) (by decide +kernel)
set_option maxRecDepth 20000 in
theorem gX4_come_X1_holds_n108 : GoodIn wsX4_come (wsX1_holds) := ggX4_come_X1_holds
set_option maxRecDepth 20000 in
theorem ggX4_come_X0_add : GoodIn wsX4_come wsX0_add := goodIn_r _ [33, 34, 35, 36, 37, 38, 39, 40, 41, 42, 43, 53, 54, 55, 56, 57, 58, 59, 60, 61, 62] (by decide +kernel) (by decide +kernel)
set_option maxRecDepth 20000 in
theorem gX4_come_X0_add_n113 : GoodIn wsX4_come (wsX0_add) := ggX4_come_X0_add
theorem dX4_come_0 : decode cX4_come 0 = .ok (.iload_n 1, 1) := by decide +kernel
theorem dX4_come_1 : decode cX4_come 1 = .ok (.iload_n 2, 1) := by decide +kernel
theorem dX4_come_2 : decode cX4_come 2 = .ok (.invokestatic 46, 3) := by decide +kernel
theorem dX4_come_5 : decode cX4_come 5 = .ok (.ifCond .ne 13, 3) := by decide +kernel
theorem dX4_come_8 : decode cX4_come 8 = .ok (.new 30, 3) := by decide +kernel
theorem dX4_come_11 : decode cX4_come 11 = .ok (.dup, 1) := by decide +kernel
theorem dX4_come_12 : decode cX4_come 12 = .ok (.ldc 50, 2) := by decide +kernel
theorem dX4_come_14 : decode cX4_come 14 = .ok (.invokespecial 34, 3) := by decide +kernel
theorem dX4_come_17 : decode cX4_come 17 = .ok (.athrow, 1) := by decide +kernel
theorem dX4_come_18 : decode cX4_come 18 = .ok (.iload_n 3, 1) := by decide +kernel
theorem dX4_come_19 : decode cX4_come 19 = .ok (.iconst 1, 1) := by decide +kernel
theorem dX4_come_20 : decode cX4_come 20 = .ok (.bipush 40, 2) := by decide +kernel
theorem dX4_come_22 : decode cX4_come 22 = .ok (.invokestatic 26, 3) := by decide +kernel
theorem dX4_come_25 : decode cX4_come 25 = .ok (.ifCond .eq 14, 3) := by decide +kernel
theorem dX4_come_28 : decode cX4_come 28 = .ok (.iload 4, 2) := by decide +kernel
theorem dX4_come_30 : decode cX4_come 30 = .ok (.iconst 0, 1) := by decide +kernel
theorem dX4_come_31 : decode cX4_come 31 = .ok (.bipush 20, 2) := by decide +kernel
theorem dX4_come_33 : decode cX4_come 33 = .ok (.invokestatic 26, 3) := by decide +kernel
theorem dX4_come_36 : decode cX4_come 36 = .ok (.ifCond .ne 13, 3) := by decide +kernel
theorem dX4_come_39 : decode cX4_come 39 = .ok (.new 37, 3) := by decide +kernel
theorem dX4_come_42 : decode cX4_come 42 = .ok (.dup, 1) := by decide +kernel
theorem dX4_come_43 : decode cX4_come 43 = .ok (.ldc 97, 2) := by decide +kernel
theorem dX4_come_45 : decode cX4_come 45 = .ok (.invokespecial 41, 3) := by decide +kernel
theorem dX4_come_48 : decode cX4_come 48 = .ok (.athrow, 1) := by decide +kernel
theorem dX4_come_49 : decode cX4_come 49 = .ok (.aload_n 0, 1) := by decide +kernel
theorem dX4_come_50 : decode cX4_come 50 = .ok (.getfield 12, 3) := by decide +kernel
theorem dX4_come_53 : decode cX4_come 53 = .ok (.getfield 88, 3) := by decide +kernel
theorem dX4_come_56 : decode cX4_come 56 = .ok (.getfield 99, 3) := by decide +kernel
theorem dX4_come_59 : decode cX4_come 59 = .ok (.bipush 8, 2) := by decide +kernel
theorem dX4_come_61 : decode cX4_come 61 = .ok (.if_icmp .lt 13, 3) := by decide +kernel
theorem dX4_come_64 : decode cX4_come 64 = .ok (.new 103, 3) := by decide +kernel
theorem dX4_come_67 : decode cX4_come 67 = .ok (.dup, 1) := by decide +kernel
theorem dX4_come_68 : decode cX4_come 68 = .ok (.ldc 105, 2) := by decide +kernel
theorem dX4_come_70 : decode cX4_come 70 = .ok (.invokespecial 107, 3) := by decide +kernel
theorem dX4_come_73 : decode cX4_come 73 = .ok (.athrow, 1) := by decide +kernel
theorem dX4_come_74 : decode cX4_come 74 = .ok (.aload_n 0, 1) := by decide +kernel
theorem dX4_come_75 : decode cX4_come 75 = .ok (.getfield 12, 3) := by decide +kernel
theorem dX4_come_78 : decode cX4_come 78 = .ok (.getfield 58, 3) := by decide +kernel
theorem dX4_come_81 : decode cX4_come 81 = .ok (.iload_n 1, 1) := by decide +kernel
theorem dX4_come_82 : decode cX4_come 82 = .ok (.iload_n 2, 1) := by decide +kernel
theorem dX4_come_83 : decode cX4_come 83 = .ok (.iload_n 3, 1) := by decide +kernel
theorem dX4_come_84 : decode cX4_come 84 = .ok (.iload 4, 2) := by decide +kernel
theorem dX4_come_86 : decode cX4_come 86 = .ok (.iadd, 1) := by decide +kernel
theorem dX4_come_87 : decode cX4_come 87 = .ok (.invokevirtual 108, 3) := by decide +kernel
theorem dX4_come_90 : decode cX4_come 90 = .ok (.ifCond .ne 13, 3) := by decide +kernel
theorem dX4_come_93 : decode cX4_come 93 = .ok (.new 103, 3) := by decide +kernel
theorem dX4_come_96 : decode cX4_come 96 = .ok (.dup, 1) := by decide +kernel
theorem dX4_come_97 : decode cX4_come 97 = .ok (.ldc 111, 2) := by decide +kernel
theorem dX4_come_99 : decode cX4_come 99 = .ok (.invokespecial 107, 3) := by decide +kernel
theorem dX4_come_102 : decode cX4_come 102 = .ok (.athrow, 1) := by decide +kernel
theorem dX4_come_103 : decode cX4_come 103 = .ok (.aload_n 0, 1) := by decide +kernel
theorem dX4_come_104 : decode cX4_come 104 = .ok (.getfield 12, 3) := by decide +kernel
theorem dX4_come_107 : decode cX4_come 107 = .ok (.getfield 88, 3) := by decide +kernel
theorem dX4_come_110 : decode cX4_come 110 = .ok (.iload_n 1, 1) := by decide +kernel
theorem dX4_come_111 : decode cX4_come 111 = .ok (.iload_n 2, 1) := by decide +kernel
theorem dX4_come_112 : decode cX4_come 112 = .ok (.iload_n 3, 1) := by decide +kernel
theorem dX4_come_113 : decode cX4_come 113 = .ok (.iload 4, 2) := by decide +kernel
theorem dX4_come_115 : decode cX4_come 115 = .ok (.iload 5, 2) := by decide +kernel
theorem dX4_come_117 : decode cX4_come 117 = .ok (.ifCond .eq 7, 3) := by decide +kernel
theorem dX4_come_120 : decode cX4_come 120 = .ok (.iconst 2, 1) := by decide +kernel
theorem dX4_come_121 : decode cX4_come 121 = .ok (.goto 4, 3) := by decide +kernel
theorem dX4_come_124 : decode cX4_come 124 = .ok (.iconst 1, 1) := by decide +kernel
theorem dX4_come_125 : decode cX4_come 125 = .ok (.invokevirtual 113, 3) := by decide +kernel
theorem dX4_come_128 : decode cX4_come 128 = .ok (.ireturn, 1) := by decide +kernel
set_option maxRecDepth 20000 in
theorem ggX4_send_X0_has : GoodIn wsX4_send wsX0_has := goodIn_r _ [13, 14, 15, 16, 17, 31, 32, 33, 34, 35, 36, 37, 38, 39, 40] (by decide +kernel) (by decide +kernel)
set_option maxRecDepth 20000 in
theorem gX4_send_X0_has_n117 : GoodIn wsX4_send (wsX0_has) := ggX4_send_X0_has
set_option maxRecDepth 20000 in
theorem ggX4_send_X4_isSection : GoodIn wsX4_send wsX4_isSection := goodIn_r _ [20, 21, 15, 16, 17] (by decide +kernel) (by decide +kernel)
set_option maxRecDepth 20000 in
theorem gX4_send_X4_isSection : GoodIn wsX4_send (va_wsS RX4 67 yX4_isSection wsX4_isSection) := goodIn_app (goodIn_of _ (by decide +kernel)) ggX4_send_X4_isSection
theorem dX4_send_0 : decode cX4_send 0 = .ok (.aload_n 0, 1) := by decide +kernel
theorem dX4_send_1 : decode cX4_send 1 = .ok (.getfield 12, 3) := by decide +kernel
theorem dX4_send_4 : decode cX4_send 4 = .ok (.getfield 88, 3) := by decide +kernel
theorem dX4_send_7 : decode cX4_send 7 = .ok (.iload_n 1, 1) := by decide +kernel
theorem dX4_send_8 : decode cX4_send 8 = .ok (.invokevirtual 117, 3) := by decide +kernel
theorem dX4_send_11 : decode cX4_send 11 = .ok (.ifCond .eq 10, 3) := by decide +kernel
theorem dX4_send_14 : decode cX4_send 14 = .ok (.iload_n 2, 1) := by decide +kernel
theorem dX4_send_15 : decode cX4_send 15 = .ok (.invokestatic 67, 3) := by decide +kernel
theorem dX4_send_18 : decode cX4_send 18 = .ok (.ifCond .ne 13, 3) := by decide +kernel
theorem dX4_send_21 : decode cX4_send 21 = .ok (.new 30, 3) := by decide +kernel
theorem dX4_send_24 : decode cX4_send 24 = .ok (.dup, 1) := by decide +kernel
theorem dX4_send_25 : decode cX4_send 25 = .ok (.ldc 120, 2) := by decide +kernel
theorem dX4_send_27 : decode cX4_send 27 = .ok (.invokespecial 34, 3) := by decide +kernel
theorem dX4_send_30 : decode cX4_send 30 = .ok (.athrow, 1) := by decide +kernel
theorem dX4_send_31 : decode cX4_send 31 = .ok (.aload_n 0, 1) := by decide +kernel
theorem dX4_send_32 : decode cX4_send 32 = .ok (.getfield 12, 3) := by decide +kernel
theorem dX4_send_35 : decode cX4_send 35 = .ok (.getfield 88, 3) := by decide +kernel
theorem dX4_send_38 : decode cX4_send 38 = .ok (.getfield 122, 3) := by decide +kernel
theorem dX4_send_41 : decode cX4_send 41 = .ok (.iload_n 1, 1) := by decide +kernel
theorem dX4_send_42 : decode cX4_send 42 = .ok (.iaload, 1) := by decide +kernel
theorem dX4_send_43 : decode cX4_send 43 = .ok (.iconst 3, 1) := by decide +kernel
theorem dX4_send_44 : decode cX4_send 44 = .ok (.if_icmp .ne 13, 3) := by decide +kernel
theorem dX4_send_47 : decode cX4_send 47 = .ok (.new 103, 3) := by decide +kernel
theorem dX4_send_50 : decode cX4_send 50 = .ok (.dup, 1) := by decide +kernel
theorem dX4_send_51 : decode cX4_send 51 = .ok (.ldc 125, 2) := by decide +kernel
theorem dX4_send_53 : decode cX4_send 53 = .ok (.invokespecial 107, 3) := by decide +kernel
theorem dX4_send_56 : decode cX4_send 56 = .ok (.athrow, 1) := by decide +kernel
theorem dX4_send_57 : decode cX4_send 57 = .ok (.aload_n 0, 1) := by decide +kernel
theorem dX4_send_58 : decode cX4_send 58 = .ok (.getfield 12, 3) := by decide +kernel
theorem dX4_send_61 : decode cX4_send 61 = .ok (.getfield 88, 3) := by decide +kernel
theorem dX4_send_64 : decode cX4_send 64 = .ok (.getfield 127, 3) := by decide +kernel
theorem dX4_send_67 : decode cX4_send 67 = .ok (.iload_n 1, 1) := by decide +kernel
theorem dX4_send_68 : decode cX4_send 68 = .ok (.iload_n 2, 1) := by decide +kernel
theorem dX4_send_69 : decode cX4_send 69 = .ok (.iastore, 1) := by decide +kernel
theorem dX4_send_70 : decode cX4_send 70 = .ok (.aload_n 0, 1) := by decide +kernel
theorem dX4_send_71 : decode cX4_send 71 = .ok (.getfield 12, 3) := by decide +kernel
theorem dX4_send_74 : decode cX4_send 74 = .ok (.getfield 88, 3) := by decide +kernel
theorem dX4_send_77 : decode cX4_send 77 = .ok (.getfield 122, 3) := by decide +kernel
theorem dX4_send_80 : decode cX4_send 80 = .ok (.iload_n 1, 1) := by decide +kernel
theorem dX4_send_81 : decode cX4_send 81 = .ok (.iconst 0, 1) := by decide +kernel
theorem dX4_send_82 : decode cX4_send 82 = .ok (.iastore, 1) := by decide +kernel
theorem dX4_send_83 : decode cX4_send 83 = .ok (.aload_n 0, 1) := by decide +kernel
theorem dX4_send_84 : decode cX4_send 84 = .ok (.getfield 12, 3) := by decide +kernel
theorem dX4_send_87 : decode cX4_send 87 = .ok (.getfield 88, 3) := by decide +kernel
theorem dX4_send_90 : decode cX4_send 90 = .ok (.getfield 130, 3) := by decide +kernel
theorem dX4_send_93 : decode cX4_send 93 = .ok (.iload_n 1, 1) := by decide +kernel
theorem dX4_send_94 : decode cX4_send 94 = .ok (.iaload, 1) := by decide +kernel
theorem dX4_send_95 : decode cX4_send 95 = .ok (.iload_n 2, 1) := by decide +kernel
theorem dX4_send_96 : decode cX4_send 96 = .ok (.isub, 1) := by decide +kernel
theorem dX4_send_97 : decode cX4_send 97 = .ok (.invokestatic 133, 3) := by decide +kernel
theorem dX4_send_100 : decode cX4_send 100 = .ok (.ireturn, 1) := by decide +kernel
set_option maxRecDepth 20000 in
theorem ggX4_load_X0_has : GoodIn wsX4_load wsX0_has := goodIn_r _ [11, 12, 13, 14, 15, 44, 45, 46, 47, 48, 49, 50, 51, 52, 53] (by decide +kernel) (by decide +kernel)
set_option maxRecDepth 20000 in
theorem gX4_load_X0_has_n117 : GoodIn wsX4_load (wsX0_has) := ggX4_load_X0_has
set_option maxRecDepth 20000 in
theorem ggX4_load_X4_isWithin : GoodIn wsX4_load wsX4_isWithin := goodIn_r _ [15] (by decide +kernel) (by decide +kernel)
set_option maxRecDepth 20000 in
theorem gX4_load_X4_isWithin : GoodIn wsX4_load (va_wsS RX4 26 yX4_isWithin wsX4_isWithin) := goodIn_app (goodIn_of _ (by decide +kernel)) ggX4_load_X4_isWithin
set_option maxRecDepth 20000 in
theorem ggX4_load_X2_holdsCourierWith : GoodIn wsX4_load wsX2_holdsCourierWith := goodIn_r _ [20, 21, 22, 23, 24, 25, 26, 27, 28, 29, 30, 31, 32, 33, 14, 34, 38, 39, 40, 41, 42, 43, 44, 45, 46, 47, 48, 49, 50, 51, 52, 53, 54, 55] (by decide +kernel) (by decide +kernel)
set_option maxRecDepth 20000 in
theorem gX4_load_X2_holdsCourierWith_n148 : GoodIn wsX4_load (wsX2_holdsCourierWith) := ggX4_load_X2_holdsCourierWith
theorem dX4_load_0 : decode cX4_load 0 = .ok (.aload_n 0, 1) := by decide +kernel
theorem dX4_load_1 : decode cX4_load 1 = .ok (.getfield 12, 3) := by decide +kernel
theorem dX4_load_4 : decode cX4_load 4 = .ok (.getfield 88, 3) := by decide +kernel
theorem dX4_load_7 : decode cX4_load 7 = .ok (.iload_n 1, 1) := by decide +kernel
theorem dX4_load_8 : decode cX4_load 8 = .ok (.invokevirtual 117, 3) := by decide +kernel
theorem dX4_load_11 : decode cX4_load 11 = .ok (.ifCond .ne 13, 3) := by decide +kernel
theorem dX4_load_14 : decode cX4_load 14 = .ok (.new 30, 3) := by decide +kernel
theorem dX4_load_17 : decode cX4_load 17 = .ok (.dup, 1) := by decide +kernel
theorem dX4_load_18 : decode cX4_load 18 = .ok (.ldc 139, 2) := by decide +kernel
theorem dX4_load_20 : decode cX4_load 20 = .ok (.invokespecial 34, 3) := by decide +kernel
theorem dX4_load_23 : decode cX4_load 23 = .ok (.athrow, 1) := by decide +kernel
theorem dX4_load_24 : decode cX4_load 24 = .ok (.iload_n 2, 1) := by decide +kernel
theorem dX4_load_25 : decode cX4_load 25 = .ok (.ifCond .eq 14, 3) := by decide +kernel
theorem dX4_load_28 : decode cX4_load 28 = .ok (.iload_n 2, 1) := by decide +kernel
theorem dX4_load_29 : decode cX4_load 29 = .ok (.bipush (-20), 2) := by decide +kernel
theorem dX4_load_31 : decode cX4_load 31 = .ok (.bipush 20, 2) := by decide +kernel
theorem dX4_load_33 : decode cX4_load 33 = .ok (.invokestatic 26, 3) := by decide +kernel
theorem dX4_load_36 : decode cX4_load 36 = .ok (.ifCond .ne 13, 3) := by decide +kernel
theorem dX4_load_39 : decode cX4_load 39 = .ok (.new 37, 3) := by decide +kernel
theorem dX4_load_42 : decode cX4_load 42 = .ok (.dup, 1) := by decide +kernel
theorem dX4_load_43 : decode cX4_load 43 = .ok (.ldc 141, 2) := by decide +kernel
theorem dX4_load_45 : decode cX4_load 45 = .ok (.invokespecial 41, 3) := by decide +kernel
theorem dX4_load_48 : decode cX4_load 48 = .ok (.athrow, 1) := by decide +kernel
theorem dX4_load_49 : decode cX4_load 49 = .ok (.aload_n 0, 1) := by decide +kernel
theorem dX4_load_50 : decode cX4_load 50 = .ok (.getfield 12, 3) := by decide +kernel
theorem dX4_load_53 : decode cX4_load 53 = .ok (.getfield 88, 3) := by decide +kernel
theorem dX4_load_56 : decode cX4_load 56 = .ok (.getfield 122, 3) := by decide +kernel
theorem dX4_load_59 : decode cX4_load 59 = .ok (.iload_n 1, 1) := by decide +kernel
theorem dX4_load_60 : decode cX4_load 60 = .ok (.iaload, 1) := by decide +kernel
theorem dX4_load_61 : decode cX4_load 61 = .ok (.iconst 3, 1) := by decide +kernel
theorem dX4_load_62 : decode cX4_load 62 = .ok (.if_icmp .ne 13, 3) := by decide +kernel
theorem dX4_load_65 : decode cX4_load 65 = .ok (.new 103, 3) := by decide +kernel
theorem dX4_load_68 : decode cX4_load 68 = .ok (.dup, 1) := by decide +kernel
theorem dX4_load_69 : decode cX4_load 69 = .ok (.ldc 125, 2) := by decide +kernel
theorem dX4_load_71 : decode cX4_load 71 = .ok (.invokespecial 107, 3) := by decide +kernel
theorem dX4_load_74 : decode cX4_load 74 = .ok (.athrow, 1) := by decide +kernel
theorem dX4_load_75 : decode cX4_load 75 = .ok (.aload_n 0, 1) := by decide +kernel
theorem dX4_load_76 : decode cX4_load 76 = .ok (.getfield 12, 3) := by decide +kernel
theorem dX4_load_79 : decode cX4_load 79 = .ok (.getfield 88, 3) := by decide +kernel
theorem dX4_load_82 : decode cX4_load 82 = .ok (.getfield 143, 3) := by decide +kernel
theorem dX4_load_85 : decode cX4_load 85 = .ok (.iload_n 1, 1) := by decide +kernel
theorem dX4_load_86 : decode cX4_load 86 = .ok (.iaload, 1) := by decide +kernel
theorem dX4_load_87 : decode cX4_load 87 = .ok (.iload_n 2, 1) := by decide +kernel
theorem dX4_load_88 : decode cX4_load 88 = .ok (.iadd, 1) := by decide +kernel
theorem dX4_load_89 : decode cX4_load 89 = .ok (.istore_n 3, 1) := by decide +kernel
theorem dX4_load_90 : decode cX4_load 90 = .ok (.iload_n 3, 1) := by decide +kernel
theorem dX4_load_91 : decode cX4_load 91 = .ok (.iconst 0, 1) := by decide +kernel
theorem dX4_load_92 : decode cX4_load 92 = .ok (.bipush 20, 2) := by decide +kernel
theorem dX4_load_94 : decode cX4_load 94 = .ok (.invokestatic 26, 3) := by decide +kernel
theorem dX4_load_97 : decode cX4_load 97 = .ok (.ifCond .ne 13, 3) := by decide +kernel
theorem dX4_load_100 : decode cX4_load 100 = .ok (.new 103, 3) := by decide +kernel
theorem dX4_load_103 : decode cX4_load 103 = .ok (.dup, 1) := by decide +kernel
theorem dX4_load_104 : decode cX4_load 104 = .ok (.ldc 146, 2) := by decide +kernel
theorem dX4_load_106 : decode cX4_load 106 = .ok (.invokespecial 107, 3) := by decide +kernel
theorem dX4_load_109 : decode cX4_load 109 = .ok (.athrow, 1) := by decide +kernel
theorem dX4_load_110 : decode cX4_load 110 = .ok (.aload_n 0, 1) := by decide +kernel
theorem dX4_load_111 : decode cX4_load 111 = .ok (.getfield 12, 3) := by decide +kernel
theorem dX4_load_114 : decode cX4_load 114 = .ok (.iload_n 1, 1) := by decide +kernel
theorem dX4_load_115 : decode cX4_load 115 = .ok (.iload_n 3, 1) := by decide +kernel
theorem dX4_load_116 : decode cX4_load 116 = .ok (.invokevirtual 148, 3) := by decide +kernel
theorem dX4_load_119 : decode cX4_load 119 = .ok (.ifCond .ne 13, 3) := by decide +kernel
theorem dX4_load_122 : decode cX4_load 122 = .ok (.new 103, 3) := by decide +kernel
theorem dX4_load_125 : decode cX4_load 125 = .ok (.dup, 1) := by decide +kernel
theorem dX4_load_126 : decode cX4_load 126 = .ok (.ldc 151, 2) := by decide +kernel
theorem dX4_load_128 : decode cX4_load 128 = .ok (.invokespecial 107, 3) := by decide +kernel
theorem dX4_load_131 : decode cX4_load 131 = .ok (.athrow, 1) := by decide +kernel
theorem dX4_load_132 : decode cX4_load 132 = .ok (.aload_n 0, 1) := by decide +kernel
theorem dX4_load_133 : decode cX4_load 133 = .ok (.getfield 12, 3) := by decide +kernel
theorem dX4_load_136 : decode cX4_load 136 = .ok (.getfield 88, 3) := by decide +kernel
theorem dX4_load_139 : decode cX4_load 139 = .ok (.getfield 143, 3) := by decide +kernel
theorem dX4_load_142 : decode cX4_load 142 = .ok (.iload_n 1, 1) := by decide +kernel
theorem dX4_load_143 : decode cX4_load 143 = .ok (.iload_n 3, 1) := by decide +kernel
theorem dX4_load_144 : decode cX4_load 144 = .ok (.iastore, 1) := by decide +kernel
theorem dX4_load_145 : decode cX4_load 145 = .ok (.iload_n 3, 1) := by decide +kernel
theorem dX4_load_146 : decode cX4_load 146 = .ok (.ireturn, 1) := by decide +kernel
set_option maxRecDepth 20000 in
theorem ggX4_courier_X0_has : GoodIn wsX4_courier wsX0_has := goodIn_r _ [7, 8, 9, 10, 11, 34, 35, 36, 37, 38, 39, 40, 41, 42, 43] (by decide +kernel) (by decide +kernel)
set_option maxRecDepth 20000 in
theorem gX4_courier_X0_has_n117 : GoodIn wsX4_courier (wsX0_has) := ggX4_courier_X0_has
set_option maxRecDepth 20000 in
theorem ggX4_courier_X4_isWithin : GoodIn wsX4_courier wsX4_isWithin := goodIn_r _ [11] (by decide +kernel) (by decide +kernel)
set_option maxRecDepth 20000 in
theorem gX4_courier_X4_isWithin : GoodIn wsX4_courier (va_wsS RX4 26 yX4_isWithin wsX4_isWithin) := goodIn_app (goodIn_of _ (by decide +kernel)) ggX4_courier_X4_isWithin
set_option maxRecDepth 20000 in
theorem ggX4_courier_X0_tell : GoodIn wsX4_courier wsX0_tell := goodIn_r _ [15, 16, 17, 18, 19, 20, 21, 22, 23, 24, 34, 35, 36, 37, 38, 39, 40, 41, 42, 43] (by decide +kernel) (by decide +kernel)
set_option maxRecDepth 20000 in
theorem gX4_courier_X0_tell_n155 : GoodIn wsX4_courier (wsX0_tell) := ggX4_courier_X0_tell
theorem dX4_courier_0 : decode cX4_courier 0 = .ok (.aload_n 0, 1) := by decide +kernel
theorem dX4_courier_1 : decode cX4_courier 1 = .ok (.getfield 12, 3) := by decide +kernel
theorem dX4_courier_4 : decode cX4_courier 4 = .ok (.getfield 88, 3) := by decide +kernel
theorem dX4_courier_7 : decode cX4_courier 7 = .ok (.iload_n 1, 1) := by decide +kernel
theorem dX4_courier_8 : decode cX4_courier 8 = .ok (.invokevirtual 117, 3) := by decide +kernel
theorem dX4_courier_11 : decode cX4_courier 11 = .ok (.ifCond .eq 13, 3) := by decide +kernel
theorem dX4_courier_14 : decode cX4_courier 14 = .ok (.iload_n 2, 1) := by decide +kernel
theorem dX4_courier_15 : decode cX4_courier 15 = .ok (.iconst 0, 1) := by decide +kernel
theorem dX4_courier_16 : decode cX4_courier 16 = .ok (.bipush 8, 2) := by decide +kernel
theorem dX4_courier_18 : decode cX4_courier 18 = .ok (.invokestatic 26, 3) := by decide +kernel
theorem dX4_courier_21 : decode cX4_courier 21 = .ok (.ifCond .ne 13, 3) := by decide +kernel
theorem dX4_courier_24 : decode cX4_courier 24 = .ok (.new 30, 3) := by decide +kernel
theorem dX4_courier_27 : decode cX4_courier 27 = .ok (.dup, 1) := by decide +kernel
theorem dX4_courier_28 : decode cX4_courier 28 = .ok (.ldc 153, 2) := by decide +kernel
theorem dX4_courier_30 : decode cX4_courier 30 = .ok (.invokespecial 34, 3) := by decide +kernel
theorem dX4_courier_33 : decode cX4_courier 33 = .ok (.athrow, 1) := by decide +kernel
theorem dX4_courier_34 : decode cX4_courier 34 = .ok (.aload_n 0, 1) := by decide +kernel
theorem dX4_courier_35 : decode cX4_courier 35 = .ok (.getfield 12, 3) := by decide +kernel
theorem dX4_courier_38 : decode cX4_courier 38 = .ok (.getfield 88, 3) := by decide +kernel
theorem dX4_courier_41 : decode cX4_courier 41 = .ok (.iload_n 1, 1) := by decide +kernel
theorem dX4_courier_42 : decode cX4_courier 42 = .ok (.iload_n 2, 1) := by decide +kernel
theorem dX4_courier_43 : decode cX4_courier 43 = .ok (.invokevirtual 155, 3) := by decide +kernel
theorem dX4_courier_46 : decode cX4_courier 46 = .ok (.ireturn, 1) := by decide +kernel
set_option maxRecDepth 20000 in
theorem ggX4_wager_X4_isWithin : GoodIn wsX4_wager wsX4_isWithin := goodIn_r _ [10] (by decide +kernel) (by decide +kernel)
set_option maxRecDepth 20000 in
theorem gX4_wager_X4_isWithin : GoodIn wsX4_wager (va_wsS RX4 26 yX4_isWithin wsX4_isWithin) := goodIn_app (goodIn_of _ (by decide +kernel)) ggX4_wager_X4_isWithin
set_option maxRecDepth 20000 in
theorem ggX4_wager_X2_hasThawed : GoodIn wsX4_wager wsX2_hasThawed := goodIn_r _ [14, 15, 29, 30, 31, 32, 33, 34] (by decide +kernel) (by decide +kernel)
set_option maxRecDepth 20000 in
theorem gX4_wager_X2_hasThawed_n163 : GoodIn wsX4_wager (wsX2_hasThawed) := ggX4_wager_X2_hasThawed
set_option maxRecDepth 20000 in
theorem ggX4_wager_X3_add : GoodIn wsX4_wager wsX3_add := goodIn_r _ [19, 20, 21, 22, 26, 27, 28] (by decide +kernel) (by decide +kernel)
set_option maxRecDepth 20000 in
theorem gX4_wager_X3_add_n169 : GoodIn wsX4_wager (wsX3_add) := ggX4_wager_X3_add
theorem dX4_wager_0 : decode cX4_wager 0 = .ok (.iload_n 1, 1) := by decide +kernel
theorem dX4_wager_1 : decode cX4_wager 1 = .ok (.iconst 0, 1) := by decide +kernel
theorem dX4_wager_2 : decode cX4_wager 2 = .ok (.sipush 500, 3) := by decide +kernel
theorem dX4_wager_5 : decode cX4_wager 5 = .ok (.invokestatic 26, 3) := by decide +kernel
theorem dX4_wager_8 : decode cX4_wager 8 = .ok (.ifCond .eq 13, 3) := by decide +kernel
theorem dX4_wager_11 : decode cX4_wager 11 = .ok (.iload_n 2, 1) := by decide +kernel
theorem dX4_wager_12 : decode cX4_wager 12 = .ok (.iconst 1, 1) := by decide +kernel
theorem dX4_wager_13 : decode cX4_wager 13 = .ok (.bipush 100, 2) := by decide +kernel
theorem dX4_wager_15 : decode cX4_wager 15 = .ok (.invokestatic 26, 3) := by decide +kernel
theorem dX4_wager_18 : decode cX4_wager 18 = .ok (.ifCond .ne 13, 3) := by decide +kernel
theorem dX4_wager_21 : decode cX4_wager 21 = .ok (.new 37, 3) := by decide +kernel
theorem dX4_wager_24 : decode cX4_wager 24 = .ok (.dup, 1) := by decide +kernel
theorem dX4_wager_25 : decode cX4_wager 25 = .ok (.ldc 158, 2) := by decide +kernel
theorem dX4_wager_27 : decode cX4_wager 27 = .ok (.invokespecial 41, 3) := by decide +kernel
theorem dX4_wager_30 : decode cX4_wager 30 = .ok (.athrow, 1) := by decide +kernel
theorem dX4_wager_31 : decode cX4_wager 31 = .ok (.aload_n 0, 1) := by decide +kernel
theorem dX4_wager_32 : decode cX4_wager 32 = .ok (.getfield 22, 3) := by decide +kernel
theorem dX4_wager_35 : decode cX4_wager 35 = .ok (.getfield 160, 3) := by decide +kernel
theorem dX4_wager_38 : decode cX4_wager 38 = .ok (.bipush 12, 2) := by decide +kernel
theorem dX4_wager_40 : decode cX4_wager 40 = .ok (.if_icmp .lt 13, 3) := by decide +kernel
theorem dX4_wager_43 : decode cX4_wager 43 = .ok (.new 103, 3) := by decide +kernel
theorem dX4_wager_46 : decode cX4_wager 46 = .ok (.dup, 1) := by decide +kernel
theorem dX4_wager_47 : decode cX4_wager 47 = .ok (.ldc 161, 2) := by decide +kernel
theorem dX4_wager_49 : decode cX4_wager 49 = .ok (.invokespecial 107, 3) := by decide +kernel
theorem dX4_wager_52 : decode cX4_wager 52 = .ok (.athrow, 1) := by decide +kernel
theorem dX4_wager_53 : decode cX4_wager 53 = .ok (.aload_n 0, 1) := by decide +kernel
theorem dX4_wager_54 : decode cX4_wager 54 = .ok (.getfield 12, 3) := by decide +kernel
theorem dX4_wager_57 : decode cX4_wager 57 = .ok (.invokevirtual 163, 3) := by decide +kernel
theorem dX4_wager_60 : decode cX4_wager 60 = .ok (.ifCond .eq 13, 3) := by decide +kernel
theorem dX4_wager_63 : decode cX4_wager 63 = .ok (.new 103, 3) := by decide +kernel
theorem dX4_wager_66 : decode cX4_wager 66 = .ok (.dup, 1) := by decide +kernel
theorem dX4_wager_67 : decode cX4_wager 67 = .ok (.ldc 167, 2) := by decide +kernel
theorem dX4_wager_69 : decode cX4_wager 69 = .ok (.invokespecial 107, 3) := by decide +kernel
theorem dX4_wager_72 : decode cX4_wager 72 = .ok (.athrow, 1) := by decide +kernel
theorem dX4_wager_73 : decode cX4_wager 73 = .ok (.aload_n 0, 1) := by decide +kernel
theorem dX4_wager_74 : decode cX4_wager 74 = .ok (.getfield 22, 3) := by decide +kernel
theorem dX4_wager_77 : decode cX4_wager 77 = .ok (.iload_n 1, 1) := by decide +kernel
theorem dX4_wager_78 : decode cX4_wager 78 = .ok (.iload_n 2, 1) := by decide +kernel
theorem dX4_wager_79 : decode cX4_wager 79 = .ok (.invokevirtual 169, 3) := by decide +kernel
theorem dX4_wager_82 : decode cX4_wager 82 = .ok (.ireturn, 1) := by decide +kernel
set_option maxRecDepth 20000 in
theorem ggX4_wins_X3_has : GoodIn wsX4_wins wsX3_has := goodIn_r _ [7, 8, 9, 10, 11, 42, 43, 44] (by decide +kernel) (by decide +kernel)
set_option maxRecDepth 20000 in
theorem gX4_wins_X3_has_n171 : GoodIn wsX4_wins (wsX3_has) := ggX4_wins_X3_has
set_option maxRecDepth 20000 in
theorem ggX4_wins_X4_winOf : GoodIn wsX4_wins wsX4_winOf := goodIn_r _ [15, 16, 3, 17, 18, 19, 20, 21, 22, 5, 23, 24, 8, 25, 26, 27, 28, 29, 30, 31, 32, 33, 34, 35, 36, 37, 38, 39, 40, 41, 45, 46, 47, 48, 49, 50, 42, 43, 44] (by decide +kernel) (by decide +kernel)
set_option maxRecDepth 20000 in
theorem gX4_wins_X4_winOf : GoodIn wsX4_wins (wsV RX4 174 RX4 yX4_winOf wsX4_winOf) := goodIn_app (goodIn_of _ (by decide +kernel)) ggX4_wins_X4_winOf
theorem dX4_wins_0 : decode cX4_wins 0 = .ok (.aload_n 0, 1) := by decide +kernel
theorem dX4_wins_1 : decode cX4_wins 1 = .ok (.getfield 22, 3) := by decide +kernel
theorem dX4_wins_4 : decode cX4_wins 4 = .ok (.iload_n 1, 1) := by decide +kernel
theorem dX4_wins_5 : decode cX4_wins 5 = .ok (.invokevirtual 171, 3) := by decide +kernel
theorem dX4_wins_8 : decode cX4_wins 8 = .ok (.ifCond .ne 13, 3) := by decide +kernel
theorem dX4_wins_11 : decode cX4_wins 11 = .ok (.new 30, 3) := by decide +kernel
theorem dX4_wins_14 : decode cX4_wins 14 = .ok (.dup, 1) := by decide +kernel
theorem dX4_wins_15 : decode cX4_wins 15 = .ok (.ldc 172, 2) := by decide +kernel
theorem dX4_wins_17 : decode cX4_wins 17 = .ok (.invokespecial 34, 3) := by decide +kernel
theorem dX4_wins_20 : decode cX4_wins 20 = .ok (.athrow, 1) := by decide +kernel
theorem dX4_wins_21 : decode cX4_wins 21 = .ok (.aload_n 0, 1) := by decide +kernel
theorem dX4_wins_22 : decode cX4_wins 22 = .ok (.iload_n 1, 1) := by decide +kernel
theorem dX4_wins_23 : decode cX4_wins 23 = .ok (.invokevirtual 174, 3) := by decide +kernel
theorem dX4_wins_26 : decode cX4_wins 26 = .ok (.ireturn, 1) := by decide +kernel
set_option maxRecDepth 20000 in
theorem ggX4_pass_X4_isWithin : GoodIn wsX4_pass wsX4_isWithin := goodIn_r _ [7] (by decide +kernel) (by decide +kernel)
set_option maxRecDepth 20000 in
theorem gX4_pass_X4_isWithin : GoodIn wsX4_pass (va_wsS RX4 26 yX4_isWithin wsX4_isWithin) := goodIn_app (goodIn_of _ (by decide +kernel)) ggX4_pass_X4_isWithin
set_option maxRecDepth 20000 in
theorem ggX4_pass_X2_spendHour : GoodIn wsX4_pass wsX2_spendHour := goodIn_r _ [11, 12, 13, 14, 15, 16, 17, 18, 19, 20, 21, 22, 23, 24, 25, 26, 27, 28, 29, 30, 31, 32, 33, 34, 35, 36, 9, 37, 38, 39, 40, 41, 6, 42, 43, 44, 45, 46, 47, 48, 49, 50, 51, 52, 53, 54, 55, 56, 57, 58, 59, 60, 61, 62, 63, 64, 65, 66, 67, 68, 69, 70, 71, 72, 73, 74, 75, 76, 77, 78, 79, 80, 81, 85, 86, 87, 88, 89, 90, 91, 92, 93, 94, 95, 96, 97, 98, 99, 100, 101, 102] (by decide +kernel) (by decide +kernel)
set_option maxRecDepth 20000 in
theorem gX4_pass_X2_spendHour_n179 : GoodIn wsX4_pass (wsX2_spendHour) := ggX4_pass_X2_spendHour
theorem dX4_pass_0 : decode cX4_pass 0 = .ok (.iload_n 1, 1) := by decide +kernel
theorem dX4_pass_1 : decode cX4_pass 1 = .ok (.iconst 1, 1) := by decide +kernel
theorem dX4_pass_2 : decode cX4_pass 2 = .ok (.sipush 200, 3) := by decide +kernel
theorem dX4_pass_5 : decode cX4_pass 5 = .ok (.invokestatic 26, 3) := by decide +kernel
theorem dX4_pass_8 : decode cX4_pass 8 = .ok (.ifCond .ne 13, 3) := by decide +kernel
theorem dX4_pass_11 : decode cX4_pass 11 = .ok (.new 37, 3) := by decide +kernel
theorem dX4_pass_14 : decode cX4_pass 14 = .ok (.dup, 1) := by decide +kernel
theorem dX4_pass_15 : decode cX4_pass 15 = .ok (.ldc 177, 2) := by decide +kernel
theorem dX4_pass_17 : decode cX4_pass 17 = .ok (.invokespecial 41, 3) := by decide +kernel
theorem dX4_pass_20 : decode cX4_pass 20 = .ok (.athrow, 1) := by decide +kernel
theorem dX4_pass_21 : decode cX4_pass 21 = .ok (.iconst 0, 1) := by decide +kernel
theorem dX4_pass_22 : decode cX4_pass 22 = .ok (.istore_n 2, 1) := by decide +kernel
theorem dX4_pass_23 : decode cX4_pass 23 = .ok (.iconst 0, 1) := by decide +kernel
theorem dX4_pass_24 : decode cX4_pass 24 = .ok (.istore_n 3, 1) := by decide +kernel
theorem dX4_pass_25 : decode cX4_pass 25 = .ok (.iload_n 3, 1) := by decide +kernel
theorem dX4_pass_26 : decode cX4_pass 26 = .ok (.iload_n 1, 1) := by decide +kernel
theorem dX4_pass_27 : decode cX4_pass 27 = .ok (.if_icmp .ge 19, 3) := by decide +kernel
theorem dX4_pass_30 : decode cX4_pass 30 = .ok (.iload_n 2, 1) := by decide +kernel
theorem dX4_pass_31 : decode cX4_pass 31 = .ok (.aload_n 0, 1) := by decide +kernel
theorem dX4_pass_32 : decode cX4_pass 32 = .ok (.getfield 12, 3) := by decide +kernel
theorem dX4_pass_35 : decode cX4_pass 35 = .ok (.invokevirtual 179, 3) := by decide +kernel
theorem dX4_pass_38 : decode cX4_pass 38 = .ok (.iadd, 1) := by decide +kernel
theorem dX4_pass_39 : decode cX4_pass 39 = .ok (.istore_n 2, 1) := by decide +kernel
theorem dX4_pass_40 : decode cX4_pass 40 = .ok (.iinc 3 1, 3) := by decide +kernel
theorem dX4_pass_43 : decode cX4_pass 43 = .ok (.goto (-18), 3) := by decide +kernel
theorem dX4_pass_46 : decode cX4_pass 46 = .ok (.iload_n 2, 1) := by decide +kernel
theorem dX4_pass_47 : decode cX4_pass 47 = .ok (.ireturn, 1) := by decide +kernel
set_option maxRecDepth 20000 in
theorem ggX4_count_X4_isWithin : GoodIn wsX4_count wsX4_isWithin := goodIn_r _ [6] (by decide +kernel) (by decide +kernel)
set_option maxRecDepth 20000 in
theorem gX4_count_X4_isWithin : GoodIn wsX4_count (va_wsS RX4 26 yX4_isWithin wsX4_isWithin) := goodIn_app (goodIn_of _ (by decide +kernel)) ggX4_count_X4_isWithin
set_option maxRecDepth 20000 in
theorem ggX4_count_X4_counted : GoodIn wsX4_count wsX4_counted := goodIn_r _ [10, 11, 12, 13, 14, 15, 16, 17, 18, 19, 20, 21, 22, 23, 24, 25, 26, 27, 28, 29, 30, 31, 32, 33, 34, 35, 36, 37, 38, 39, 40, 41, 42, 43, 44, 45, 46, 47, 48, 49, 50, 51, 52, 53, 54, 55, 56, 57, 58, 59, 60, 61, 62] (by decide +kernel) (by decide +kernel)
set_option maxRecDepth 20000 in
theorem gX4_count_X4_counted : GoodIn wsX4_count (wsV RX4 184 RX4 yX4_counted wsX4_counted) := goodIn_app (goodIn_of _ (by decide +kernel)) ggX4_count_X4_counted
theorem dX4_count_0 : decode cX4_count 0 = .ok (.iload_n 1, 1) := by decide +kernel
theorem dX4_count_1 : decode cX4_count 1 = .ok (.iconst 0, 1) := by decide +kernel
theorem dX4_count_2 : decode cX4_count 2 = .ok (.bipush 10, 2) := by decide +kernel
theorem dX4_count_4 : decode cX4_count 4 = .ok (.invokestatic 26, 3) := by decide +kernel
theorem dX4_count_7 : decode cX4_count 7 = .ok (.ifCond .ne 13, 3) := by decide +kernel

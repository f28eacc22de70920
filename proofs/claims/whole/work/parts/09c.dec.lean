theorem dX9_init_0 : decode cX9_init 0 = .ok (.aload_n 0, 1) := by decide +kernel
theorem dX9_init_1 : decode cX9_init 1 = .ok (.invokespecial 1, 3) := by decide +kernel
theorem dX9_init_4 : decode cX9_init 4 = .ok (.aload_n 0, 1) := by decide +kernel
theorem dX9_init_5 : decode cX9_init 5 = .ok (.bipush 12, 2) := by decide +kernel
theorem dX9_init_7 : decode cX9_init 7 = .ok (.newarray .int, 2) := by decide +kernel
theorem dX9_init_9 : decode cX9_init 9 = .ok (.putfield 7, 3) := by decide +kernel
theorem dX9_init_12 : decode cX9_init 12 = .ok (.aload_n 0, 1) := by decide +kernel
theorem dX9_init_13 : decode cX9_init 13 = .ok (.bipush 12, 2) := by decide +kernel
theorem dX9_init_15 : decode cX9_init 15 = .ok (.newarray .long, 2) := by decide +kernel
theorem dX9_init_17 : decode cX9_init 17 = .ok (.putfield 13, 3) := by decide +kernel
theorem dX9_init_20 : decode cX9_init 20 = .ok (.aload_n 0, 1) := by decide +kernel
theorem dX9_init_21 : decode cX9_init 21 = .ok (.sipush 144, 3) := by decide +kernel
theorem dX9_init_24 : decode cX9_init 24 = .ok (.newarray .int, 2) := by decide +kernel
theorem dX9_init_26 : decode cX9_init 26 = .ok (.putfield 17, 3) := by decide +kernel
theorem dX9_init_29 : decode cX9_init 29 = .ok (.aload_n 0, 1) := by decide +kernel
theorem dX9_init_30 : decode cX9_init 30 = .ok (.bipush 10, 2) := by decide +kernel
theorem dX9_init_32 : decode cX9_init 32 = .ok (.newarray .int, 2) := by decide +kernel
theorem dX9_init_34 : decode cX9_init 34 = .ok (.putfield 20, 3) := by decide +kernel
theorem dX9_init_37 : decode cX9_init 37 = .ok (.aload_n 0, 1) := by decide +kernel
theorem dX9_init_38 : decode cX9_init 38 = .ok (.bipush 10, 2) := by decide +kernel
theorem dX9_init_40 : decode cX9_init 40 = .ok (.newarray .int, 2) := by decide +kernel
theorem dX9_init_42 : decode cX9_init 42 = .ok (.putfield 23, 3) := by decide +kernel
theorem dX9_init_45 : decode cX9_init 45 = .ok (.aload_n 0, 1) := by decide +kernel
theorem dX9_init_46 : decode cX9_init 46 = .ok (.bipush 10, 2) := by decide +kernel
theorem dX9_init_48 : decode cX9_init 48 = .ok (.newarray .int, 2) := by decide +kernel
theorem dX9_init_50 : decode cX9_init 50 = .ok (.putfield 26, 3) := by decide +kernel
theorem dX9_init_53 : decode cX9_init 53 = .ok (.aload_n 0, 1) := by decide +kernel
theorem dX9_init_54 : decode cX9_init 54 = .ok (.bipush 10, 2) := by decide +kernel
theorem dX9_init_56 : decode cX9_init 56 = .ok (.newarray .int, 2) := by decide +kernel
theorem dX9_init_58 : decode cX9_init 58 = .ok (.putfield 29, 3) := by decide +kernel
theorem dX9_init_61 : decode cX9_init 61 = .ok (.aload_n 0, 1) := by decide +kernel
theorem dX9_init_62 : decode cX9_init 62 = .ok (.iconst 3, 1) := by decide +kernel
theorem dX9_init_63 : decode cX9_init 63 = .ok (.putfield 32, 3) := by decide +kernel
theorem dX9_init_66 : decode cX9_init 66 = .ok (.aload_n 0, 1) := by decide +kernel
theorem dX9_init_67 : decode cX9_init 67 = .ok (.iconst 4, 1) := by decide +kernel
theorem dX9_init_68 : decode cX9_init 68 = .ok (.newarray .int, 2) := by decide +kernel
theorem dX9_init_70 : decode cX9_init 70 = .ok (.dup, 1) := by decide +kernel
theorem dX9_init_71 : decode cX9_init 71 = .ok (.iconst 0, 1) := by decide +kernel
theorem dX9_init_72 : decode cX9_init 72 = .ok (.bipush (-4), 2) := by decide +kernel
theorem dX9_init_74 : decode cX9_init 74 = .ok (.iastore, 1) := by decide +kernel
theorem dX9_init_75 : decode cX9_init 75 = .ok (.dup, 1) := by decide +kernel
theorem dX9_init_76 : decode cX9_init 76 = .ok (.iconst 1, 1) := by decide +kernel
theorem dX9_init_77 : decode cX9_init 77 = .ok (.bipush (-4), 2) := by decide +kernel
theorem dX9_init_79 : decode cX9_init 79 = .ok (.iastore, 1) := by decide +kernel
theorem dX9_init_80 : decode cX9_init 80 = .ok (.dup, 1) := by decide +kernel
theorem dX9_init_81 : decode cX9_init 81 = .ok (.iconst 2, 1) := by decide +kernel
theorem dX9_init_82 : decode cX9_init 82 = .ok (.bipush (-4), 2) := by decide +kernel
theorem dX9_init_84 : decode cX9_init 84 = .ok (.iastore, 1) := by decide +kernel
theorem dX9_init_85 : decode cX9_init 85 = .ok (.dup, 1) := by decide +kernel
theorem dX9_init_86 : decode cX9_init 86 = .ok (.iconst 3, 1) := by decide +kernel
theorem dX9_init_87 : decode cX9_init 87 = .ok (.bipush (-4), 2) := by decide +kernel
theorem dX9_init_89 : decode cX9_init 89 = .ok (.iastore, 1) := by decide +kernel
theorem dX9_init_90 : decode cX9_init 90 = .ok (.putfield 36, 3) := by decide +kernel
theorem dX9_init_93 : decode cX9_init 93 = .ok (.aload_n 0, 1) := by decide +kernel
theorem dX9_init_94 : decode cX9_init 94 = .ok (.iconst 4, 1) := by decide +kernel
theorem dX9_init_95 : decode cX9_init 95 = .ok (.newarray .int, 2) := by decide +kernel
theorem dX9_init_97 : decode cX9_init 97 = .ok (.putfield 39, 3) := by decide +kernel
theorem dX9_init_100 : decode cX9_init 100 = .ok (.aload_n 0, 1) := by decide +kernel
theorem dX9_init_101 : decode cX9_init 101 = .ok (.sipush 240, 3) := by decide +kernel
theorem dX9_init_104 : decode cX9_init 104 = .ok (.newarray .long, 2) := by decide +kernel
theorem dX9_init_106 : decode cX9_init 106 = .ok (.putfield 42, 3) := by decide +kernel
theorem dX9_init_109 : decode cX9_init 109 = .ok (.aload_n 0, 1) := by decide +kernel
theorem dX9_init_110 : decode cX9_init 110 = .ok (.bipush 10, 2) := by decide +kernel
theorem dX9_init_112 : decode cX9_init 112 = .ok (.newarray .int, 2) := by decide +kernel
theorem dX9_init_114 : decode cX9_init 114 = .ok (.putfield 45, 3) := by decide +kernel
theorem dX9_init_117 : decode cX9_init 117 = .ok (.aload_n 0, 1) := by decide +kernel
theorem dX9_init_118 : decode cX9_init 118 = .ok (.bipush 120, 2) := by decide +kernel
theorem dX9_init_120 : decode cX9_init 120 = .ok (.newarray .int, 2) := by decide +kernel
theorem dX9_init_122 : decode cX9_init 122 = .ok (.putfield 48, 3) := by decide +kernel
theorem dX9_init_125 : decode cX9_init 125 = .ok (.aload_n 0, 1) := by decide +kernel
theorem dX9_init_126 : decode cX9_init 126 = .ok (.sipush 1440, 3) := by decide +kernel
theorem dX9_init_129 : decode cX9_init 129 = .ok (.newarray .int, 2) := by decide +kernel
theorem dX9_init_131 : decode cX9_init 131 = .ok (.putfield 51, 3) := by decide +kernel
theorem dX9_init_134 : decode cX9_init 134 = .ok (.aload_n 0, 1) := by decide +kernel
theorem dX9_init_135 : decode cX9_init 135 = .ok (.bipush 10, 2) := by decide +kernel
theorem dX9_init_137 : decode cX9_init 137 = .ok (.newarray .int, 2) := by decide +kernel
theorem dX9_init_139 : decode cX9_init 139 = .ok (.putfield 54, 3) := by decide +kernel
theorem dX9_init_142 : decode cX9_init 142 = .ok (.aload_n 0, 1) := by decide +kernel
theorem dX9_init_143 : decode cX9_init 143 = .ok (.bipush 100, 2) := by decide +kernel
theorem dX9_init_145 : decode cX9_init 145 = .ok (.newarray .int, 2) := by decide +kernel
theorem dX9_init_147 : decode cX9_init 147 = .ok (.putfield 57, 3) := by decide +kernel
theorem dX9_init_150 : decode cX9_init 150 = .ok (.aload_n 0, 1) := by decide +kernel
theorem dX9_init_151 : decode cX9_init 151 = .ok (.bipush 10, 2) := by decide +kernel
theorem dX9_init_153 : decode cX9_init 153 = .ok (.newarray .int, 2) := by decide +kernel
theorem dX9_init_155 : decode cX9_init 155 = .ok (.putfield 60, 3) := by decide +kernel
theorem dX9_init_158 : decode cX9_init 158 = .ok (.aload_n 0, 1) := by decide +kernel
theorem dX9_init_159 : decode cX9_init 159 = .ok (.sipush 144, 3) := by decide +kernel
theorem dX9_init_162 : decode cX9_init 162 = .ok (.newarray .int, 2) := by decide +kernel
theorem dX9_init_164 : decode cX9_init 164 = .ok (.putfield 63, 3) := by decide +kernel
theorem dX9_init_167 : decode cX9_init 167 = .ok (.aload_n 0, 1) := by decide +kernel
theorem dX9_init_168 : decode cX9_init 168 = .ok (.sipush 144, 3) := by decide +kernel
theorem dX9_init_171 : decode cX9_init 171 = .ok (.newarray .int, 2) := by decide +kernel
theorem dX9_init_173 : decode cX9_init 173 = .ok (.putfield 66, 3) := by decide +kernel
theorem dX9_init_176 : decode cX9_init 176 = .ok (.aload_n 0, 1) := by decide +kernel
theorem dX9_init_177 : decode cX9_init 177 = .ok (.bipush 10, 2) := by decide +kernel
theorem dX9_init_179 : decode cX9_init 179 = .ok (.newarray .long, 2) := by decide +kernel
theorem dX9_init_181 : decode cX9_init 181 = .ok (.putfield 69, 3) := by decide +kernel
theorem dX9_init_184 : decode cX9_init 184 = .ok (.return_, 1) := by decide +kernel
theorem dX9_in_0 : decode cX9_in 0 = .ok (.lload_n 0, 1) := by decide +kernel
theorem dX9_in_1 : decode cX9_in 1 = .ok (.lload_n 2, 1) := by decide +kernel
theorem dX9_in_2 : decode cX9_in 2 = .ok (.lcmp, 1) := by decide +kernel
theorem dX9_in_3 : decode cX9_in 3 = .ok (.ifCond .lt 14, 3) := by decide +kernel
theorem dX9_in_6 : decode cX9_in 6 = .ok (.lload_n 0, 1) := by decide +kernel
theorem dX9_in_7 : decode cX9_in 7 = .ok (.lload 4, 2) := by decide +kernel
theorem dX9_in_9 : decode cX9_in 9 = .ok (.lcmp, 1) := by decide +kernel
theorem dX9_in_10 : decode cX9_in 10 = .ok (.ifCond .gt 7, 3) := by decide +kernel
theorem dX9_in_13 : decode cX9_in 13 = .ok (.iconst 1, 1) := by decide +kernel
theorem dX9_in_14 : decode cX9_in 14 = .ok (.goto 4, 3) := by decide +kernel
theorem dX9_in_17 : decode cX9_in 17 = .ok (.iconst 0, 1) := by decide +kernel
theorem dX9_in_18 : decode cX9_in 18 = .ok (.ireturn, 1) := by decide +kernel
theorem dX9_keep_0 : decode cX9_keep 0 = .ok (.aload_n 0, 1) := by decide +kernel
theorem dX9_keep_1 : decode cX9_keep 1 = .ok (.getfield 72, 3) := by decide +kernel
theorem dX9_keep_4 : decode cX9_keep 4 = .ok (.bipush 10, 2) := by decide +kernel
theorem dX9_keep_6 : decode cX9_keep 6 = .ok (.if_icmp .ne 158, 3) := by decide +kernel
theorem dX9_keep_9 : decode cX9_keep 9 = .ok (.iconst 0, 1) := by decide +kernel
theorem dX9_keep_10 : decode cX9_keep 10 = .ok (.istore_n 1, 1) := by decide +kernel
theorem dX9_keep_11 : decode cX9_keep 11 = .ok (.iload_n 1, 1) := by decide +kernel
theorem dX9_keep_12 : decode cX9_keep 12 = .ok (.sipush 1296, 3) := by decide +kernel
theorem dX9_keep_15 : decode cX9_keep 15 = .ok (.if_icmp .ge 25, 3) := by decide +kernel
theorem dX9_keep_18 : decode cX9_keep 18 = .ok (.aload_n 0, 1) := by decide +kernel
theorem dX9_keep_19 : decode cX9_keep 19 = .ok (.getfield 51, 3) := by decide +kernel
theorem dX9_keep_22 : decode cX9_keep 22 = .ok (.iload_n 1, 1) := by decide +kernel
theorem dX9_keep_23 : decode cX9_keep 23 = .ok (.aload_n 0, 1) := by decide +kernel
theorem dX9_keep_24 : decode cX9_keep 24 = .ok (.getfield 51, 3) := by decide +kernel
theorem dX9_keep_27 : decode cX9_keep 27 = .ok (.iload_n 1, 1) := by decide +kernel
theorem dX9_keep_28 : decode cX9_keep 28 = .ok (.sipush 144, 3) := by decide +kernel
theorem dX9_keep_31 : decode cX9_keep 31 = .ok (.iadd, 1) := by decide +kernel
theorem dX9_keep_32 : decode cX9_keep 32 = .ok (.iaload, 1) := by decide +kernel
theorem dX9_keep_33 : decode cX9_keep 33 = .ok (.iastore, 1) := by decide +kernel
theorem dX9_keep_34 : decode cX9_keep 34 = .ok (.iinc 1 1, 3) := by decide +kernel
theorem dX9_keep_37 : decode cX9_keep 37 = .ok (.goto (-26), 3) := by decide +kernel
theorem dX9_keep_40 : decode cX9_keep 40 = .ok (.iconst 0, 1) := by decide +kernel
theorem dX9_keep_41 : decode cX9_keep 41 = .ok (.istore_n 1, 1) := by decide +kernel
theorem dX9_keep_42 : decode cX9_keep 42 = .ok (.iload_n 1, 1) := by decide +kernel
theorem dX9_keep_43 : decode cX9_keep 43 = .ok (.bipush 108, 2) := by decide +kernel
theorem dX9_keep_45 : decode cX9_keep 45 = .ok (.if_icmp .ge 24, 3) := by decide +kernel
theorem dX9_keep_48 : decode cX9_keep 48 = .ok (.aload_n 0, 1) := by decide +kernel
theorem dX9_keep_49 : decode cX9_keep 49 = .ok (.getfield 48, 3) := by decide +kernel
theorem dX9_keep_52 : decode cX9_keep 52 = .ok (.iload_n 1, 1) := by decide +kernel
theorem dX9_keep_53 : decode cX9_keep 53 = .ok (.aload_n 0, 1) := by decide +kernel
theorem dX9_keep_54 : decode cX9_keep 54 = .ok (.getfield 48, 3) := by decide +kernel
theorem dX9_keep_57 : decode cX9_keep 57 = .ok (.iload_n 1, 1) := by decide +kernel
theorem dX9_keep_58 : decode cX9_keep 58 = .ok (.bipush 12, 2) := by decide +kernel
theorem dX9_keep_60 : decode cX9_keep 60 = .ok (.iadd, 1) := by decide +kernel
theorem dX9_keep_61 : decode cX9_keep 61 = .ok (.iaload, 1) := by decide +kernel
theorem dX9_keep_62 : decode cX9_keep 62 = .ok (.iastore, 1) := by decide +kernel
theorem dX9_keep_63 : decode cX9_keep 63 = .ok (.iinc 1 1, 3) := by decide +kernel
theorem dX9_keep_66 : decode cX9_keep 66 = .ok (.goto (-24), 3) := by decide +kernel
theorem dX9_keep_69 : decode cX9_keep 69 = .ok (.iconst 0, 1) := by decide +kernel
theorem dX9_keep_70 : decode cX9_keep 70 = .ok (.istore_n 1, 1) := by decide +kernel
theorem dX9_keep_71 : decode cX9_keep 71 = .ok (.iload_n 1, 1) := by decide +kernel
theorem dX9_keep_72 : decode cX9_keep 72 = .ok (.bipush 90, 2) := by decide +kernel
theorem dX9_keep_74 : decode cX9_keep 74 = .ok (.if_icmp .ge 24, 3) := by decide +kernel
theorem dX9_keep_77 : decode cX9_keep 77 = .ok (.aload_n 0, 1) := by decide +kernel
theorem dX9_keep_78 : decode cX9_keep 78 = .ok (.getfield 57, 3) := by decide +kernel
theorem dX9_keep_81 : decode cX9_keep 81 = .ok (.iload_n 1, 1) := by decide +kernel
theorem dX9_keep_82 : decode cX9_keep 82 = .ok (.aload_n 0, 1) := by decide +kernel
theorem dX9_keep_83 : decode cX9_keep 83 = .ok (.getfield 57, 3) := by decide +kernel
theorem dX9_keep_86 : decode cX9_keep 86 = .ok (.iload_n 1, 1) := by decide +kernel
theorem dX9_keep_87 : decode cX9_keep 87 = .ok (.bipush 10, 2) := by decide +kernel
theorem dX9_keep_89 : decode cX9_keep 89 = .ok (.iadd, 1) := by decide +kernel
theorem dX9_keep_90 : decode cX9_keep 90 = .ok (.iaload, 1) := by decide +kernel
theorem dX9_keep_91 : decode cX9_keep 91 = .ok (.iastore, 1) := by decide +kernel
theorem dX9_keep_92 : decode cX9_keep 92 = .ok (.iinc 1 1, 3) := by decide +kernel
theorem dX9_keep_95 : decode cX9_keep 95 = .ok (.goto (-24), 3) := by decide +kernel
theorem dX9_keep_98 : decode cX9_keep 98 = .ok (.iconst 0, 1) := by decide +kernel
theorem dX9_keep_99 : decode cX9_keep 99 = .ok (.istore_n 1, 1) := by decide +kernel
theorem dX9_keep_100 : decode cX9_keep 100 = .ok (.iload_n 1, 1) := by decide +kernel
theorem dX9_keep_101 : decode cX9_keep 101 = .ok (.bipush 9, 2) := by decide +kernel
theorem dX9_keep_103 : decode cX9_keep 103 = .ok (.if_icmp .ge 51, 3) := by decide +kernel
theorem dX9_keep_106 : decode cX9_keep 106 = .ok (.aload_n 0, 1) := by decide +kernel
theorem dX9_keep_107 : decode cX9_keep 107 = .ok (.getfield 45, 3) := by decide +kernel
theorem dX9_keep_110 : decode cX9_keep 110 = .ok (.iload_n 1, 1) := by decide +kernel
theorem dX9_keep_111 : decode cX9_keep 111 = .ok (.aload_n 0, 1) := by decide +kernel
theorem dX9_keep_112 : decode cX9_keep 112 = .ok (.getfield 45, 3) := by decide +kernel
theorem dX9_keep_115 : decode cX9_keep 115 = .ok (.iload_n 1, 1) := by decide +kernel
theorem dX9_keep_116 : decode cX9_keep 116 = .ok (.iconst 1, 1) := by decide +kernel
theorem dX9_keep_117 : decode cX9_keep 117 = .ok (.iadd, 1) := by decide +kernel
theorem dX9_keep_118 : decode cX9_keep 118 = .ok (.iaload, 1) := by decide +kernel
theorem dX9_keep_119 : decode cX9_keep 119 = .ok (.iastore, 1) := by decide +kernel
theorem dX9_keep_120 : decode cX9_keep 120 = .ok (.aload_n 0, 1) := by decide +kernel
theorem dX9_keep_121 : decode cX9_keep 121 = .ok (.getfield 54, 3) := by decide +kernel
theorem dX9_keep_124 : decode cX9_keep 124 = .ok (.iload_n 1, 1) := by decide +kernel
theorem dX9_keep_125 : decode cX9_keep 125 = .ok (.aload_n 0, 1) := by decide +kernel
theorem dX9_keep_126 : decode cX9_keep 126 = .ok (.getfield 54, 3) := by decide +kernel
theorem dX9_keep_129 : decode cX9_keep 129 = .ok (.iload_n 1, 1) := by decide +kernel
theorem dX9_keep_130 : decode cX9_keep 130 = .ok (.iconst 1, 1) := by decide +kernel
theorem dX9_keep_131 : decode cX9_keep 131 = .ok (.iadd, 1) := by decide +kernel
theorem dX9_keep_132 : decode cX9_keep 132 = .ok (.iaload, 1) := by decide +kernel
theorem dX9_keep_133 : decode cX9_keep 133 = .ok (.iastore, 1) := by decide +kernel
theorem dX9_keep_134 : decode cX9_keep 134 = .ok (.aload_n 0, 1) := by decide +kernel
theorem dX9_keep_135 : decode cX9_keep 135 = .ok (.getfield 60, 3) := by decide +kernel
theorem dX9_keep_138 : decode cX9_keep 138 = .ok (.iload_n 1, 1) := by decide +kernel
theorem dX9_keep_139 : decode cX9_keep 139 = .ok (.aload_n 0, 1) := by decide +kernel
theorem dX9_keep_140 : decode cX9_keep 140 = .ok (.getfield 60, 3) := by decide +kernel
theorem dX9_keep_143 : decode cX9_keep 143 = .ok (.iload_n 1, 1) := by decide +kernel
theorem dX9_keep_144 : decode cX9_keep 144 = .ok (.iconst 1, 1) := by decide +kernel
theorem dX9_keep_145 : decode cX9_keep 145 = .ok (.iadd, 1) := by decide +kernel
theorem dX9_keep_146 : decode cX9_keep 146 = .ok (.iaload, 1) := by decide +kernel
theorem dX9_keep_147 : decode cX9_keep 147 = .ok (.iastore, 1) := by decide +kernel
theorem dX9_keep_148 : decode cX9_keep 148 = .ok (.iinc 1 1, 3) := by decide +kernel
theorem dX9_keep_151 : decode cX9_keep 151 = .ok (.goto (-51), 3) := by decide +kernel
theorem dX9_keep_154 : decode cX9_keep 154 = .ok (.aload_n 0, 1) := by decide +kernel
theorem dX9_keep_155 : decode cX9_keep 155 = .ok (.dup, 1) := by decide +kernel
theorem dX9_keep_156 : decode cX9_keep 156 = .ok (.getfield 72, 3) := by decide +kernel
theorem dX9_keep_159 : decode cX9_keep 159 = .ok (.iconst 1, 1) := by decide +kernel
theorem dX9_keep_160 : decode cX9_keep 160 = .ok (.isub, 1) := by decide +kernel
theorem dX9_keep_161 : decode cX9_keep 161 = .ok (.putfield 72, 3) := by decide +kernel
theorem dX9_keep_164 : decode cX9_keep 164 = .ok (.iconst 0, 1) := by decide +kernel
theorem dX9_keep_165 : decode cX9_keep 165 = .ok (.istore_n 1, 1) := by decide +kernel
theorem dX9_keep_166 : decode cX9_keep 166 = .ok (.iload_n 1, 1) := by decide +kernel
theorem dX9_keep_167 : decode cX9_keep 167 = .ok (.sipush 144, 3) := by decide +kernel
theorem dX9_keep_170 : decode cX9_keep 170 = .ok (.if_icmp .ge 30, 3) := by decide +kernel
theorem dX9_keep_173 : decode cX9_keep 173 = .ok (.aload_n 0, 1) := by decide +kernel
theorem dX9_keep_174 : decode cX9_keep 174 = .ok (.getfield 51, 3) := by decide +kernel
theorem dX9_keep_177 : decode cX9_keep 177 = .ok (.sipush 144, 3) := by decide +kernel
theorem dX9_keep_180 : decode cX9_keep 180 = .ok (.aload_n 0, 1) := by decide +kernel
theorem dX9_keep_181 : decode cX9_keep 181 = .ok (.getfield 72, 3) := by decide +kernel
theorem dX9_keep_184 : decode cX9_keep 184 = .ok (.imul, 1) := by decide +kernel
theorem dX9_keep_185 : decode cX9_keep 185 = .ok (.iload_n 1, 1) := by decide +kernel
theorem dX9_keep_186 : decode cX9_keep 186 = .ok (.iadd, 1) := by decide +kernel
theorem dX9_keep_187 : decode cX9_keep 187 = .ok (.aload_n 0, 1) := by decide +kernel
theorem dX9_keep_188 : decode cX9_keep 188 = .ok (.getfield 17, 3) := by decide +kernel
theorem dX9_keep_191 : decode cX9_keep 191 = .ok (.iload_n 1, 1) := by decide +kernel
theorem dX9_keep_192 : decode cX9_keep 192 = .ok (.iaload, 1) := by decide +kernel
theorem dX9_keep_193 : decode cX9_keep 193 = .ok (.iastore, 1) := by decide +kernel
theorem dX9_keep_194 : decode cX9_keep 194 = .ok (.iinc 1 1, 3) := by decide +kernel
theorem dX9_keep_197 : decode cX9_keep 197 = .ok (.goto (-31), 3) := by decide +kernel
theorem dX9_keep_200 : decode cX9_keep 200 = .ok (.iconst 0, 1) := by decide +kernel
theorem dX9_keep_201 : decode cX9_keep 201 = .ok (.istore_n 1, 1) := by decide +kernel
theorem dX9_keep_202 : decode cX9_keep 202 = .ok (.iload_n 1, 1) := by decide +kernel
theorem dX9_keep_203 : decode cX9_keep 203 = .ok (.bipush 12, 2) := by decide +kernel
theorem dX9_keep_205 : decode cX9_keep 205 = .ok (.if_icmp .ge 29, 3) := by decide +kernel
theorem dX9_keep_208 : decode cX9_keep 208 = .ok (.aload_n 0, 1) := by decide +kernel
theorem dX9_keep_209 : decode cX9_keep 209 = .ok (.getfield 48, 3) := by decide +kernel
theorem dX9_keep_212 : decode cX9_keep 212 = .ok (.bipush 12, 2) := by decide +kernel
theorem dX9_keep_214 : decode cX9_keep 214 = .ok (.aload_n 0, 1) := by decide +kernel
theorem dX9_keep_215 : decode cX9_keep 215 = .ok (.getfield 72, 3) := by decide +kernel
theorem dX9_keep_218 : decode cX9_keep 218 = .ok (.imul, 1) := by decide +kernel
theorem dX9_keep_219 : decode cX9_keep 219 = .ok (.iload_n 1, 1) := by decide +kernel
theorem dX9_keep_220 : decode cX9_keep 220 = .ok (.iadd, 1) := by decide +kernel
theorem dX9_keep_221 : decode cX9_keep 221 = .ok (.aload_n 0, 1) := by decide +kernel
theorem dX9_keep_222 : decode cX9_keep 222 = .ok (.getfield 7, 3) := by decide +kernel
theorem dX9_keep_225 : decode cX9_keep 225 = .ok (.iload_n 1, 1) := by decide +kernel
theorem dX9_keep_226 : decode cX9_keep 226 = .ok (.iaload, 1) := by decide +kernel
theorem dX9_keep_227 : decode cX9_keep 227 = .ok (.iastore, 1) := by decide +kernel
theorem dX9_keep_228 : decode cX9_keep 228 = .ok (.iinc 1 1, 3) := by decide +kernel
theorem dX9_keep_231 : decode cX9_keep 231 = .ok (.goto (-29), 3) := by decide +kernel
theorem dX9_keep_234 : decode cX9_keep 234 = .ok (.iconst 0, 1) := by decide +kernel
theorem dX9_keep_235 : decode cX9_keep 235 = .ok (.istore_n 1, 1) := by decide +kernel
theorem dX9_keep_236 : decode cX9_keep 236 = .ok (.iload_n 1, 1) := by decide +kernel
theorem dX9_keep_237 : decode cX9_keep 237 = .ok (.bipush 10, 2) := by decide +kernel
theorem dX9_keep_239 : decode cX9_keep 239 = .ok (.if_icmp .ge 29, 3) := by decide +kernel
theorem dX9_keep_242 : decode cX9_keep 242 = .ok (.aload_n 0, 1) := by decide +kernel
theorem dX9_keep_243 : decode cX9_keep 243 = .ok (.getfield 57, 3) := by decide +kernel
theorem dX9_keep_246 : decode cX9_keep 246 = .ok (.bipush 10, 2) := by decide +kernel
theorem dX9_keep_248 : decode cX9_keep 248 = .ok (.aload_n 0, 1) := by decide +kernel
theorem dX9_keep_249 : decode cX9_keep 249 = .ok (.getfield 72, 3) := by decide +kernel
theorem dX9_keep_252 : decode cX9_keep 252 = .ok (.imul, 1) := by decide +kernel
theorem dX9_keep_253 : decode cX9_keep 253 = .ok (.iload_n 1, 1) := by decide +kernel
theorem dX9_keep_254 : decode cX9_keep 254 = .ok (.iadd, 1) := by decide +kernel
theorem dX9_keep_255 : decode cX9_keep 255 = .ok (.aload_n 0, 1) := by decide +kernel
theorem dX9_keep_256 : decode cX9_keep 256 = .ok (.getfield 29, 3) := by decide +kernel
theorem dX9_keep_259 : decode cX9_keep 259 = .ok (.iload_n 1, 1) := by decide +kernel
theorem dX9_keep_260 : decode cX9_keep 260 = .ok (.iaload, 1) := by decide +kernel
theorem dX9_keep_261 : decode cX9_keep 261 = .ok (.iastore, 1) := by decide +kernel
theorem dX9_keep_262 : decode cX9_keep 262 = .ok (.iinc 1 1, 3) := by decide +kernel
theorem dX9_keep_265 : decode cX9_keep 265 = .ok (.goto (-29), 3) := by decide +kernel
theorem dX9_keep_268 : decode cX9_keep 268 = .ok (.aload_n 0, 1) := by decide +kernel
theorem dX9_keep_269 : decode cX9_keep 269 = .ok (.getfield 45, 3) := by decide +kernel
theorem dX9_keep_272 : decode cX9_keep 272 = .ok (.aload_n 0, 1) := by decide +kernel
theorem dX9_keep_273 : decode cX9_keep 273 = .ok (.getfield 72, 3) := by decide +kernel
theorem dX9_keep_276 : decode cX9_keep 276 = .ok (.aload_n 0, 1) := by decide +kernel
theorem dX9_keep_277 : decode cX9_keep 277 = .ok (.getfield 75, 3) := by decide +kernel
theorem dX9_keep_280 : decode cX9_keep 280 = .ok (.iastore, 1) := by decide +kernel
theorem dX9_keep_281 : decode cX9_keep 281 = .ok (.aload_n 0, 1) := by decide +kernel
theorem dX9_keep_282 : decode cX9_keep 282 = .ok (.getfield 54, 3) := by decide +kernel
theorem dX9_keep_285 : decode cX9_keep 285 = .ok (.aload_n 0, 1) := by decide +kernel
theorem dX9_keep_286 : decode cX9_keep 286 = .ok (.getfield 72, 3) := by decide +kernel
theorem dX9_keep_289 : decode cX9_keep 289 = .ok (.aload_n 0, 1) := by decide +kernel
theorem dX9_keep_290 : decode cX9_keep 290 = .ok (.getfield 78, 3) := by decide +kernel
theorem dX9_keep_293 : decode cX9_keep 293 = .ok (.iastore, 1) := by decide +kernel
theorem dX9_keep_294 : decode cX9_keep 294 = .ok (.aload_n 0, 1) := by decide +kernel
theorem dX9_keep_295 : decode cX9_keep 295 = .ok (.getfield 60, 3) := by decide +kernel
theorem dX9_keep_298 : decode cX9_keep 298 = .ok (.aload_n 0, 1) := by decide +kernel
theorem dX9_keep_299 : decode cX9_keep 299 = .ok (.getfield 72, 3) := by decide +kernel
theorem dX9_keep_302 : decode cX9_keep 302 = .ok (.aload_n 0, 1) := by decide +kernel
theorem dX9_keep_303 : decode cX9_keep 303 = .ok (.getfield 32, 3) := by decide +kernel
theorem dX9_keep_306 : decode cX9_keep 306 = .ok (.iastore, 1) := by decide +kernel
theorem dX9_keep_307 : decode cX9_keep 307 = .ok (.aload_n 0, 1) := by decide +kernel
theorem dX9_keep_308 : decode cX9_keep 308 = .ok (.dup, 1) := by decide +kernel
theorem dX9_keep_309 : decode cX9_keep 309 = .ok (.getfield 72, 3) := by decide +kernel
theorem dX9_keep_312 : decode cX9_keep 312 = .ok (.iconst 1, 1) := by decide +kernel
theorem dX9_keep_313 : decode cX9_keep 313 = .ok (.iadd, 1) := by decide +kernel
theorem dX9_keep_314 : decode cX9_keep 314 = .ok (.putfield 72, 3) := by decide +kernel
theorem dX9_keep_317 : decode cX9_keep 317 = .ok (.return_, 1) := by decide +kernel
theorem dX9_undo_0 : decode cX9_undo 0 = .ok (.aload_n 0, 1) := by decide +kernel
theorem dX9_undo_1 : decode cX9_undo 1 = .ok (.getfield 72, 3) := by decide +kernel
theorem dX9_undo_4 : decode cX9_undo 4 = .ok (.ifCond .ne 6, 3) := by decide +kernel
theorem dX9_undo_7 : decode cX9_undo 7 = .ok (.bipush (-4), 2) := by decide +kernel
theorem dX9_undo_9 : decode cX9_undo 9 = .ok (.ireturn, 1) := by decide +kernel
theorem dX9_undo_10 : decode cX9_undo 10 = .ok (.aload_n 0, 1) := by decide +kernel
theorem dX9_undo_11 : decode cX9_undo 11 = .ok (.dup, 1) := by decide +kernel
theorem dX9_undo_12 : decode cX9_undo 12 = .ok (.getfield 72, 3) := by decide +kernel
theorem dX9_undo_15 : decode cX9_undo 15 = .ok (.iconst 1, 1) := by decide +kernel
theorem dX9_undo_16 : decode cX9_undo 16 = .ok (.isub, 1) := by decide +kernel
theorem dX9_undo_17 : decode cX9_undo 17 = .ok (.putfield 72, 3) := by decide +kernel
theorem dX9_undo_20 : decode cX9_undo 20 = .ok (.iconst 0, 1) := by decide +kernel
theorem dX9_undo_21 : decode cX9_undo 21 = .ok (.istore_n 1, 1) := by decide +kernel
theorem dX9_undo_22 : decode cX9_undo 22 = .ok (.iload_n 1, 1) := by decide +kernel
theorem dX9_undo_23 : decode cX9_undo 23 = .ok (.sipush 144, 3) := by decide +kernel
theorem dX9_undo_26 : decode cX9_undo 26 = .ok (.if_icmp .ge 30, 3) := by decide +kernel
theorem dX9_undo_29 : decode cX9_undo 29 = .ok (.aload_n 0, 1) := by decide +kernel
theorem dX9_undo_30 : decode cX9_undo 30 = .ok (.getfield 17, 3) := by decide +kernel
theorem dX9_undo_33 : decode cX9_undo 33 = .ok (.iload_n 1, 1) := by decide +kernel
theorem dX9_undo_34 : decode cX9_undo 34 = .ok (.aload_n 0, 1) := by decide +kernel
theorem dX9_undo_35 : decode cX9_undo 35 = .ok (.getfield 51, 3) := by decide +kernel
theorem dX9_undo_38 : decode cX9_undo 38 = .ok (.sipush 144, 3) := by decide +kernel
theorem dX9_undo_41 : decode cX9_undo 41 = .ok (.aload_n 0, 1) := by decide +kernel
theorem dX9_undo_42 : decode cX9_undo 42 = .ok (.getfield 72, 3) := by decide +kernel
theorem dX9_undo_45 : decode cX9_undo 45 = .ok (.imul, 1) := by decide +kernel
theorem dX9_undo_46 : decode cX9_undo 46 = .ok (.iload_n 1, 1) := by decide +kernel
theorem dX9_undo_47 : decode cX9_undo 47 = .ok (.iadd, 1) := by decide +kernel
theorem dX9_undo_48 : decode cX9_undo 48 = .ok (.iaload, 1) := by decide +kernel
theorem dX9_undo_49 : decode cX9_undo 49 = .ok (.iastore, 1) := by decide +kernel
theorem dX9_undo_50 : decode cX9_undo 50 = .ok (.iinc 1 1, 3) := by decide +kernel
theorem dX9_undo_53 : decode cX9_undo 53 = .ok (.goto (-31), 3) := by decide +kernel
theorem dX9_undo_56 : decode cX9_undo 56 = .ok (.iconst 0, 1) := by decide +kernel
theorem dX9_undo_57 : decode cX9_undo 57 = .ok (.istore_n 1, 1) := by decide +kernel
theorem dX9_undo_58 : decode cX9_undo 58 = .ok (.iload_n 1, 1) := by decide +kernel
theorem dX9_undo_59 : decode cX9_undo 59 = .ok (.bipush 12, 2) := by decide +kernel
theorem dX9_undo_61 : decode cX9_undo 61 = .ok (.if_icmp .ge 29, 3) := by decide +kernel
theorem dX9_undo_64 : decode cX9_undo 64 = .ok (.aload_n 0, 1) := by decide +kernel
theorem dX9_undo_65 : decode cX9_undo 65 = .ok (.getfield 7, 3) := by decide +kernel
theorem dX9_undo_68 : decode cX9_undo 68 = .ok (.iload_n 1, 1) := by decide +kernel
theorem dX9_undo_69 : decode cX9_undo 69 = .ok (.aload_n 0, 1) := by decide +kernel
theorem dX9_undo_70 : decode cX9_undo 70 = .ok (.getfield 48, 3) := by decide +kernel
theorem dX9_undo_73 : decode cX9_undo 73 = .ok (.bipush 12, 2) := by decide +kernel
theorem dX9_undo_75 : decode cX9_undo 75 = .ok (.aload_n 0, 1) := by decide +kernel
theorem dX9_undo_76 : decode cX9_undo 76 = .ok (.getfield 72, 3) := by decide +kernel
theorem dX9_undo_79 : decode cX9_undo 79 = .ok (.imul, 1) := by decide +kernel
theorem dX9_undo_80 : decode cX9_undo 80 = .ok (.iload_n 1, 1) := by decide +kernel
theorem dX9_undo_81 : decode cX9_undo 81 = .ok (.iadd, 1) := by decide +kernel
theorem dX9_undo_82 : decode cX9_undo 82 = .ok (.iaload, 1) := by decide +kernel
theorem dX9_undo_83 : decode cX9_undo 83 = .ok (.iastore, 1) := by decide +kernel
theorem dX9_undo_84 : decode cX9_undo 84 = .ok (.iinc 1 1, 3) := by decide +kernel
theorem dX9_undo_87 : decode cX9_undo 87 = .ok (.goto (-29), 3) := by decide +kernel
theorem dX9_undo_90 : decode cX9_undo 90 = .ok (.iconst 0, 1) := by decide +kernel
theorem dX9_undo_91 : decode cX9_undo 91 = .ok (.istore_n 1, 1) := by decide +kernel
theorem dX9_undo_92 : decode cX9_undo 92 = .ok (.iload_n 1, 1) := by decide +kernel
theorem dX9_undo_93 : decode cX9_undo 93 = .ok (.bipush 10, 2) := by decide +kernel
theorem dX9_undo_95 : decode cX9_undo 95 = .ok (.if_icmp .ge 29, 3) := by decide +kernel
theorem dX9_undo_98 : decode cX9_undo 98 = .ok (.aload_n 0, 1) := by decide +kernel
theorem dX9_undo_99 : decode cX9_undo 99 = .ok (.getfield 29, 3) := by decide +kernel
theorem dX9_undo_102 : decode cX9_undo 102 = .ok (.iload_n 1, 1) := by decide +kernel
theorem dX9_undo_103 : decode cX9_undo 103 = .ok (.aload_n 0, 1) := by decide +kernel
theorem dX9_undo_104 : decode cX9_undo 104 = .ok (.getfield 57, 3) := by decide +kernel
theorem dX9_undo_107 : decode cX9_undo 107 = .ok (.bipush 10, 2) := by decide +kernel
theorem dX9_undo_109 : decode cX9_undo 109 = .ok (.aload_n 0, 1) := by decide +kernel
theorem dX9_undo_110 : decode cX9_undo 110 = .ok (.getfield 72, 3) := by decide +kernel
theorem dX9_undo_113 : decode cX9_undo 113 = .ok (.imul, 1) := by decide +kernel
theorem dX9_undo_114 : decode cX9_undo 114 = .ok (.iload_n 1, 1) := by decide +kernel
theorem dX9_undo_115 : decode cX9_undo 115 = .ok (.iadd, 1) := by decide +kernel
theorem dX9_undo_116 : decode cX9_undo 116 = .ok (.iaload, 1) := by decide +kernel
theorem dX9_undo_117 : decode cX9_undo 117 = .ok (.iastore, 1) := by decide +kernel
theorem dX9_undo_118 : decode cX9_undo 118 = .ok (.iinc 1 1, 3) := by decide +kernel
theorem dX9_undo_121 : decode cX9_undo 121 = .ok (.goto (-29), 3) := by decide +kernel
theorem dX9_undo_124 : decode cX9_undo 124 = .ok (.aload_n 0, 1) := by decide +kernel
theorem dX9_undo_125 : decode cX9_undo 125 = .ok (.aload_n 0, 1) := by decide +kernel
theorem dX9_undo_126 : decode cX9_undo 126 = .ok (.getfield 45, 3) := by decide +kernel
theorem dX9_undo_129 : decode cX9_undo 129 = .ok (.aload_n 0, 1) := by decide +kernel
theorem dX9_undo_130 : decode cX9_undo 130 = .ok (.getfield 72, 3) := by decide +kernel
theorem dX9_undo_133 : decode cX9_undo 133 = .ok (.iaload, 1) := by decide +kernel
theorem dX9_undo_134 : decode cX9_undo 134 = .ok (.putfield 75, 3) := by decide +kernel
theorem dX9_undo_137 : decode cX9_undo 137 = .ok (.aload_n 0, 1) := by decide +kernel
theorem dX9_undo_138 : decode cX9_undo 138 = .ok (.aload_n 0, 1) := by decide +kernel
theorem dX9_undo_139 : decode cX9_undo 139 = .ok (.getfield 54, 3) := by decide +kernel
theorem dX9_undo_142 : decode cX9_undo 142 = .ok (.aload_n 0, 1) := by decide +kernel
theorem dX9_undo_143 : decode cX9_undo 143 = .ok (.getfield 72, 3) := by decide +kernel
theorem dX9_undo_146 : decode cX9_undo 146 = .ok (.iaload, 1) := by decide +kernel
theorem dX9_undo_147 : decode cX9_undo 147 = .ok (.putfield 78, 3) := by decide +kernel
theorem dX9_undo_150 : decode cX9_undo 150 = .ok (.aload_n 0, 1) := by decide +kernel
theorem dX9_undo_151 : decode cX9_undo 151 = .ok (.aload_n 0, 1) := by decide +kernel
theorem dX9_undo_152 : decode cX9_undo 152 = .ok (.getfield 60, 3) := by decide +kernel
theorem dX9_undo_155 : decode cX9_undo 155 = .ok (.aload_n 0, 1) := by decide +kernel
theorem dX9_undo_156 : decode cX9_undo 156 = .ok (.getfield 72, 3) := by decide +kernel
theorem dX9_undo_159 : decode cX9_undo 159 = .ok (.iaload, 1) := by decide +kernel
theorem dX9_undo_160 : decode cX9_undo 160 = .ok (.putfield 32, 3) := by decide +kernel
theorem dX9_undo_163 : decode cX9_undo 163 = .ok (.aload_n 0, 1) := by decide +kernel
theorem dX9_undo_164 : decode cX9_undo 164 = .ok (.getfield 72, 3) := by decide +kernel
theorem dX9_undo_167 : decode cX9_undo 167 = .ok (.ireturn, 1) := by decide +kernel
theorem dX9_isVillage_0 : decode cX9_isVillage 0 = .ok (.iload_n 1, 1) := by decide +kernel
theorem dX9_isVillage_1 : decode cX9_isVillage 1 = .ok (.i2l, 1) := by decide +kernel
theorem dX9_isVillage_2 : decode cX9_isVillage 2 = .ok (.lconst 0, 1) := by decide +kernel
theorem dX9_isVillage_3 : decode cX9_isVillage 3 = .ok (.aload_n 0, 1) := by decide +kernel
theorem dX9_isVillage_4 : decode cX9_isVillage 4 = .ok (.getfield 75, 3) := by decide +kernel
theorem dX9_isVillage_7 : decode cX9_isVillage 7 = .ok (.iconst 1, 1) := by decide +kernel
theorem dX9_isVillage_8 : decode cX9_isVillage 8 = .ok (.isub, 1) := by decide +kernel
theorem dX9_isVillage_9 : decode cX9_isVillage 9 = .ok (.i2l, 1) := by decide +kernel
theorem dX9_isVillage_10 : decode cX9_isVillage 10 = .ok (.invokestatic 81, 3) := by decide +kernel
theorem dX9_isVillage_13 : decode cX9_isVillage 13 = .ok (.ireturn, 1) := by decide +kernel
theorem dX9_isPlace_0 : decode cX9_isPlace 0 = .ok (.iload_n 1, 1) := by decide +kernel
theorem dX9_isPlace_1 : decode cX9_isPlace 1 = .ok (.i2l, 1) := by decide +kernel
theorem dX9_isPlace_2 : decode cX9_isPlace 2 = .ok (.lconst 0, 1) := by decide +kernel
theorem dX9_isPlace_3 : decode cX9_isPlace 3 = .ok (.aload_n 0, 1) := by decide +kernel
theorem dX9_isPlace_4 : decode cX9_isPlace 4 = .ok (.getfield 78, 3) := by decide +kernel
theorem dX9_isPlace_7 : decode cX9_isPlace 7 = .ok (.iconst 1, 1) := by decide +kernel
theorem dX9_isPlace_8 : decode cX9_isPlace 8 = .ok (.isub, 1) := by decide +kernel
theorem dX9_isPlace_9 : decode cX9_isPlace 9 = .ok (.i2l, 1) := by decide +kernel
theorem dX9_isPlace_10 : decode cX9_isPlace 10 = .ok (.invokestatic 81, 3) := by decide +kernel
theorem dX9_isPlace_13 : decode cX9_isPlace 13 = .ok (.ireturn, 1) := by decide +kernel
theorem dX9_village_0 : decode cX9_village 0 = .ok (.iload_n 1, 1) := by decide +kernel
theorem dX9_village_1 : decode cX9_village 1 = .ok (.i2l, 1) := by decide +kernel
theorem dX9_village_2 : decode cX9_village 2 = .ok (.lconst 0, 1) := by decide +kernel
theorem dX9_village_3 : decode cX9_village 3 = .ok (.ldc2_w 85, 3) := by decide +kernel
theorem dX9_village_6 : decode cX9_village 6 = .ok (.invokestatic 81, 3) := by decide +kernel
theorem dX9_village_9 : decode cX9_village 9 = .ok (.ifCond .ne 5, 3) := by decide +kernel
theorem dX9_village_12 : decode cX9_village 12 = .ok (.iconst (-1), 1) := by decide +kernel
theorem dX9_village_13 : decode cX9_village 13 = .ok (.ireturn, 1) := by decide +kernel
theorem dX9_village_14 : decode cX9_village 14 = .ok (.aload_n 0, 1) := by decide +kernel
theorem dX9_village_15 : decode cX9_village 15 = .ok (.getfield 75, 3) := by decide +kernel
theorem dX9_village_18 : decode cX9_village 18 = .ok (.bipush 12, 2) := by decide +kernel
theorem dX9_village_20 : decode cX9_village 20 = .ok (.if_icmp .ne 6, 3) := by decide +kernel
theorem dX9_village_23 : decode cX9_village 23 = .ok (.bipush (-3), 2) := by decide +kernel
theorem dX9_village_25 : decode cX9_village 25 = .ok (.ireturn, 1) := by decide +kernel
theorem dX9_village_26 : decode cX9_village 26 = .ok (.aload_n 0, 1) := by decide +kernel
theorem dX9_village_27 : decode cX9_village 27 = .ok (.invokevirtual 87, 3) := by decide +kernel
theorem dX9_village_30 : decode cX9_village 30 = .ok (.aload_n 0, 1) := by decide +kernel
theorem dX9_village_31 : decode cX9_village 31 = .ok (.getfield 75, 3) := by decide +kernel
theorem dX9_village_34 : decode cX9_village 34 = .ok (.istore_n 2, 1) := by decide +kernel
theorem dX9_village_35 : decode cX9_village 35 = .ok (.aload_n 0, 1) := by decide +kernel
theorem dX9_village_36 : decode cX9_village 36 = .ok (.dup, 1) := by decide +kernel
theorem dX9_village_37 : decode cX9_village 37 = .ok (.getfield 75, 3) := by decide +kernel
theorem dX9_village_40 : decode cX9_village 40 = .ok (.iconst 1, 1) := by decide +kernel
theorem dX9_village_41 : decode cX9_village 41 = .ok (.iadd, 1) := by decide +kernel
theorem dX9_village_42 : decode cX9_village 42 = .ok (.putfield 75, 3) := by decide +kernel
theorem dX9_village_45 : decode cX9_village 45 = .ok (.aload_n 0, 1) := by decide +kernel
theorem dX9_village_46 : decode cX9_village 46 = .ok (.getfield 7, 3) := by decide +kernel
theorem dX9_village_49 : decode cX9_village 49 = .ok (.iload_n 2, 1) := by decide +kernel
theorem dX9_village_50 : decode cX9_village 50 = .ok (.iload_n 1, 1) := by decide +kernel
theorem dX9_village_51 : decode cX9_village 51 = .ok (.iastore, 1) := by decide +kernel
theorem dX9_village_52 : decode cX9_village 52 = .ok (.aload_n 0, 1) := by decide +kernel
theorem dX9_village_53 : decode cX9_village 53 = .ok (.getfield 13, 3) := by decide +kernel
theorem dX9_village_56 : decode cX9_village 56 = .ok (.iload_n 2, 1) := by decide +kernel
theorem dX9_village_57 : decode cX9_village 57 = .ok (.lconst 0, 1) := by decide +kernel
theorem dX9_village_58 : decode cX9_village 58 = .ok (.lastore, 1) := by decide +kernel
theorem dX9_village_59 : decode cX9_village 59 = .ok (.iconst 0, 1) := by decide +kernel
theorem dX9_village_60 : decode cX9_village 60 = .ok (.istore_n 3, 1) := by decide +kernel
theorem dX9_village_61 : decode cX9_village 61 = .ok (.iload_n 3, 1) := by decide +kernel
theorem dX9_village_62 : decode cX9_village 62 = .ok (.bipush 12, 2) := by decide +kernel
theorem dX9_village_64 : decode cX9_village 64 = .ok (.if_icmp .ge 33, 3) := by decide +kernel
theorem dX9_village_67 : decode cX9_village 67 = .ok (.aload_n 0, 1) := by decide +kernel
theorem dX9_village_68 : decode cX9_village 68 = .ok (.getfield 17, 3) := by decide +kernel
theorem dX9_village_71 : decode cX9_village 71 = .ok (.bipush 12, 2) := by decide +kernel
theorem dX9_village_73 : decode cX9_village 73 = .ok (.iload_n 2, 1) := by decide +kernel
theorem dX9_village_74 : decode cX9_village 74 = .ok (.imul, 1) := by decide +kernel
theorem dX9_village_75 : decode cX9_village 75 = .ok (.iload_n 3, 1) := by decide +kernel
theorem dX9_village_76 : decode cX9_village 76 = .ok (.iadd, 1) := by decide +kernel
theorem dX9_village_77 : decode cX9_village 77 = .ok (.iconst 0, 1) := by decide +kernel
theorem dX9_village_78 : decode cX9_village 78 = .ok (.iastore, 1) := by decide +kernel
theorem dX9_village_79 : decode cX9_village 79 = .ok (.aload_n 0, 1) := by decide +kernel
theorem dX9_village_80 : decode cX9_village 80 = .ok (.getfield 17, 3) := by decide +kernel
theorem dX9_village_83 : decode cX9_village 83 = .ok (.bipush 12, 2) := by decide +kernel
theorem dX9_village_85 : decode cX9_village 85 = .ok (.iload_n 3, 1) := by decide +kernel
theorem dX9_village_86 : decode cX9_village 86 = .ok (.imul, 1) := by decide +kernel
theorem dX9_village_87 : decode cX9_village 87 = .ok (.iload_n 2, 1) := by decide +kernel
theorem dX9_village_88 : decode cX9_village 88 = .ok (.iadd, 1) := by decide +kernel
theorem dX9_village_89 : decode cX9_village 89 = .ok (.iconst 0, 1) := by decide +kernel
theorem dX9_village_90 : decode cX9_village 90 = .ok (.iastore, 1) := by decide +kernel
theorem dX9_village_91 : decode cX9_village 91 = .ok (.iinc 3 1, 3) := by decide +kernel
theorem dX9_village_94 : decode cX9_village 94 = .ok (.goto (-33), 3) := by decide +kernel
theorem dX9_village_97 : decode cX9_village 97 = .ok (.iload_n 2, 1) := by decide +kernel
theorem dX9_village_98 : decode cX9_village 98 = .ok (.ireturn, 1) := by decide +kernel
theorem dX9_loaves_0 : decode cX9_loaves 0 = .ok (.aload_n 0, 1) := by decide +kernel
theorem dX9_loaves_1 : decode cX9_loaves 1 = .ok (.iload_n 1, 1) := by decide +kernel
theorem dX9_loaves_2 : decode cX9_loaves 2 = .ok (.invokevirtual 90, 3) := by decide +kernel
theorem dX9_loaves_5 : decode cX9_loaves 5 = .ok (.ifCond .eq 15, 3) := by decide +kernel
theorem dX9_loaves_8 : decode cX9_loaves 8 = .ok (.iload_n 2, 1) := by decide +kernel
theorem dX9_loaves_9 : decode cX9_loaves 9 = .ok (.i2l, 1) := by decide +kernel
theorem dX9_loaves_10 : decode cX9_loaves 10 = .ok (.lconst 0, 1) := by decide +kernel
theorem dX9_loaves_11 : decode cX9_loaves 11 = .ok (.ldc2_w 85, 3) := by decide +kernel
theorem dX9_loaves_14 : decode cX9_loaves 14 = .ok (.invokestatic 81, 3) := by decide +kernel
theorem dX9_loaves_17 : decode cX9_loaves 17 = .ok (.ifCond .ne 5, 3) := by decide +kernel
theorem dX9_loaves_20 : decode cX9_loaves 20 = .ok (.iconst (-1), 1) := by decide +kernel
theorem dX9_loaves_21 : decode cX9_loaves 21 = .ok (.ireturn, 1) := by decide +kernel
theorem dX9_loaves_22 : decode cX9_loaves 22 = .ok (.aload_n 0, 1) := by decide +kernel
theorem dX9_loaves_23 : decode cX9_loaves 23 = .ok (.getfield 7, 3) := by decide +kernel
theorem dX9_loaves_26 : decode cX9_loaves 26 = .ok (.iload_n 1, 1) := by decide +kernel
theorem dX9_loaves_27 : decode cX9_loaves 27 = .ok (.iaload, 1) := by decide +kernel
theorem dX9_loaves_28 : decode cX9_loaves 28 = .ok (.istore_n 3, 1) := by decide +kernel
theorem dX9_loaves_29 : decode cX9_loaves 29 = .ok (.iload_n 3, 1) := by decide +kernel
theorem dX9_loaves_30 : decode cX9_loaves 30 = .ok (.iload_n 2, 1) := by decide +kernel
theorem dX9_loaves_31 : decode cX9_loaves 31 = .ok (.if_icmp .eq 14, 3) := by decide +kernel
theorem dX9_loaves_34 : decode cX9_loaves 34 = .ok (.aload_n 0, 1) := by decide +kernel
theorem dX9_loaves_35 : decode cX9_loaves 35 = .ok (.invokevirtual 87, 3) := by decide +kernel
theorem dX9_loaves_38 : decode cX9_loaves 38 = .ok (.aload_n 0, 1) := by decide +kernel
theorem dX9_loaves_39 : decode cX9_loaves 39 = .ok (.getfield 7, 3) := by decide +kernel
theorem dX9_loaves_42 : decode cX9_loaves 42 = .ok (.iload_n 1, 1) := by decide +kernel
theorem dX9_loaves_43 : decode cX9_loaves 43 = .ok (.iload_n 2, 1) := by decide +kernel
theorem dX9_loaves_44 : decode cX9_loaves 44 = .ok (.iastore, 1) := by decide +kernel
theorem dX9_loaves_45 : decode cX9_loaves 45 = .ok (.iload_n 3, 1) := by decide +kernel
theorem dX9_loaves_46 : decode cX9_loaves 46 = .ok (.ireturn, 1) := by decide +kernel
theorem dX9_isRoad_0 : decode cX9_isRoad 0 = .ok (.lload_n 1, 1) := by decide +kernel
theorem dX9_isRoad_1 : decode cX9_isRoad 1 = .ok (.lconst 0, 1) := by decide +kernel
theorem dX9_isRoad_2 : decode cX9_isRoad 2 = .ok (.aload_n 0, 1) := by decide +kernel
theorem dX9_isRoad_3 : decode cX9_isRoad 3 = .ok (.getfield 75, 3) := by decide +kernel
theorem dX9_isRoad_6 : decode cX9_isRoad 6 = .ok (.iconst 1, 1) := by decide +kernel
theorem dX9_isRoad_7 : decode cX9_isRoad 7 = .ok (.isub, 1) := by decide +kernel
theorem dX9_isRoad_8 : decode cX9_isRoad 8 = .ok (.i2l, 1) := by decide +kernel
theorem dX9_isRoad_9 : decode cX9_isRoad 9 = .ok (.invokestatic 81, 3) := by decide +kernel
theorem dX9_isRoad_12 : decode cX9_isRoad 12 = .ok (.ifCond .eq 40, 3) := by decide +kernel
theorem dX9_isRoad_15 : decode cX9_isRoad 15 = .ok (.lload_n 3, 1) := by decide +kernel
theorem dX9_isRoad_16 : decode cX9_isRoad 16 = .ok (.lconst 0, 1) := by decide +kernel
theorem dX9_isRoad_17 : decode cX9_isRoad 17 = .ok (.aload_n 0, 1) := by decide +kernel
theorem dX9_isRoad_18 : decode cX9_isRoad 18 = .ok (.getfield 75, 3) := by decide +kernel
theorem dX9_isRoad_21 : decode cX9_isRoad 21 = .ok (.iconst 1, 1) := by decide +kernel
theorem dX9_isRoad_22 : decode cX9_isRoad 22 = .ok (.isub, 1) := by decide +kernel
theorem dX9_isRoad_23 : decode cX9_isRoad 23 = .ok (.i2l, 1) := by decide +kernel
theorem dX9_isRoad_24 : decode cX9_isRoad 24 = .ok (.invokestatic 81, 3) := by decide +kernel
theorem dX9_isRoad_27 : decode cX9_isRoad 27 = .ok (.ifCond .eq 25, 3) := by decide +kernel
theorem dX9_isRoad_30 : decode cX9_isRoad 30 = .ok (.lload_n 1, 1) := by decide +kernel
theorem dX9_isRoad_31 : decode cX9_isRoad 31 = .ok (.lload_n 3, 1) := by decide +kernel
theorem dX9_isRoad_32 : decode cX9_isRoad 32 = .ok (.lcmp, 1) := by decide +kernel
theorem dX9_isRoad_33 : decode cX9_isRoad 33 = .ok (.ifCond .eq 19, 3) := by decide +kernel
theorem dX9_isRoad_36 : decode cX9_isRoad 36 = .ok (.lload 5, 2) := by decide +kernel
theorem dX9_isRoad_38 : decode cX9_isRoad 38 = .ok (.lconst 0, 1) := by decide +kernel
theorem dX9_isRoad_39 : decode cX9_isRoad 39 = .ok (.ldc2_w 85, 3) := by decide +kernel
theorem dX9_isRoad_42 : decode cX9_isRoad 42 = .ok (.invokestatic 81, 3) := by decide +kernel
theorem dX9_isRoad_45 : decode cX9_isRoad 45 = .ok (.ifCond .eq 7, 3) := by decide +kernel
theorem dX9_isRoad_48 : decode cX9_isRoad 48 = .ok (.iconst 1, 1) := by decide +kernel
theorem dX9_isRoad_49 : decode cX9_isRoad 49 = .ok (.goto 4, 3) := by decide +kernel
theorem dX9_isRoad_52 : decode cX9_isRoad 52 = .ok (.iconst 0, 1) := by decide +kernel
theorem dX9_isRoad_53 : decode cX9_isRoad 53 = .ok (.ireturn, 1) := by decide +kernel
theorem dX9_road_0 : decode cX9_road 0 = .ok (.aload_n 0, 1) := by decide +kernel
theorem dX9_road_1 : decode cX9_road 1 = .ok (.iload_n 1, 1) := by decide +kernel
theorem dX9_road_2 : decode cX9_road 2 = .ok (.i2l, 1) := by decide +kernel
theorem dX9_road_3 : decode cX9_road 3 = .ok (.iload_n 2, 1) := by decide +kernel
theorem dX9_road_4 : decode cX9_road 4 = .ok (.i2l, 1) := by decide +kernel
theorem dX9_road_5 : decode cX9_road 5 = .ok (.iload_n 3, 1) := by decide +kernel
theorem dX9_road_6 : decode cX9_road 6 = .ok (.i2l, 1) := by decide +kernel
theorem dX9_road_7 : decode cX9_road 7 = .ok (.invokevirtual 94, 3) := by decide +kernel
theorem dX9_road_10 : decode cX9_road 10 = .ok (.ifCond .ne 5, 3) := by decide +kernel
theorem dX9_road_13 : decode cX9_road 13 = .ok (.iconst (-1), 1) := by decide +kernel
theorem dX9_road_14 : decode cX9_road 14 = .ok (.ireturn, 1) := by decide +kernel
theorem dX9_road_15 : decode cX9_road 15 = .ok (.aload_n 0, 1) := by decide +kernel
theorem dX9_road_16 : decode cX9_road 16 = .ok (.getfield 17, 3) := by decide +kernel
theorem dX9_road_19 : decode cX9_road 19 = .ok (.bipush 12, 2) := by decide +kernel
theorem dX9_road_21 : decode cX9_road 21 = .ok (.iload_n 1, 1) := by decide +kernel
theorem dX9_road_22 : decode cX9_road 22 = .ok (.imul, 1) := by decide +kernel
theorem dX9_road_23 : decode cX9_road 23 = .ok (.iload_n 2, 1) := by decide +kernel
theorem dX9_road_24 : decode cX9_road 24 = .ok (.iadd, 1) := by decide +kernel
theorem dX9_road_25 : decode cX9_road 25 = .ok (.iaload, 1) := by decide +kernel
theorem dX9_road_26 : decode cX9_road 26 = .ok (.istore 4, 2) := by decide +kernel
theorem dX9_road_28 : decode cX9_road 28 = .ok (.iload 4, 2) := by decide +kernel
theorem dX9_road_30 : decode cX9_road 30 = .ok (.iload_n 3, 1) := by decide +kernel
theorem dX9_road_31 : decode cX9_road 31 = .ok (.if_icmp .eq 31, 3) := by decide +kernel
theorem dX9_road_34 : decode cX9_road 34 = .ok (.aload_n 0, 1) := by decide +kernel
theorem dX9_road_35 : decode cX9_road 35 = .ok (.invokevirtual 87, 3) := by decide +kernel
theorem dX9_road_38 : decode cX9_road 38 = .ok (.aload_n 0, 1) := by decide +kernel
theorem dX9_road_39 : decode cX9_road 39 = .ok (.getfield 17, 3) := by decide +kernel
theorem dX9_road_42 : decode cX9_road 42 = .ok (.bipush 12, 2) := by decide +kernel
theorem dX9_road_44 : decode cX9_road 44 = .ok (.iload_n 1, 1) := by decide +kernel
theorem dX9_road_45 : decode cX9_road 45 = .ok (.imul, 1) := by decide +kernel
theorem dX9_road_46 : decode cX9_road 46 = .ok (.iload_n 2, 1) := by decide +kernel
theorem dX9_road_47 : decode cX9_road 47 = .ok (.iadd, 1) := by decide +kernel
theorem dX9_road_48 : decode cX9_road 48 = .ok (.iload_n 3, 1) := by decide +kernel
theorem dX9_road_49 : decode cX9_road 49 = .ok (.iastore, 1) := by decide +kernel
theorem dX9_road_50 : decode cX9_road 50 = .ok (.aload_n 0, 1) := by decide +kernel
theorem dX9_road_51 : decode cX9_road 51 = .ok (.getfield 17, 3) := by decide +kernel
theorem dX9_road_54 : decode cX9_road 54 = .ok (.bipush 12, 2) := by decide +kernel
theorem dX9_road_56 : decode cX9_road 56 = .ok (.iload_n 2, 1) := by decide +kernel
theorem dX9_road_57 : decode cX9_road 57 = .ok (.imul, 1) := by decide +kernel
theorem dX9_road_58 : decode cX9_road 58 = .ok (.iload_n 1, 1) := by decide +kernel
theorem dX9_road_59 : decode cX9_road 59 = .ok (.iadd, 1) := by decide +kernel
theorem dX9_road_60 : decode cX9_road 60 = .ok (.iload_n 3, 1) := by decide +kernel
theorem dX9_road_61 : decode cX9_road 61 = .ok (.iastore, 1) := by decide +kernel
theorem dX9_road_62 : decode cX9_road 62 = .ok (.iload 4, 2) := by decide +kernel
theorem dX9_road_64 : decode cX9_road 64 = .ok (.ireturn, 1) := by decide +kernel
theorem dX9_place_0 : decode cX9_place 0 = .ok (.aload_n 0, 1) := by decide +kernel
theorem dX9_place_1 : decode cX9_place 1 = .ok (.iload_n 1, 1) := by decide +kernel
theorem dX9_place_2 : decode cX9_place 2 = .ok (.invokevirtual 90, 3) := by decide +kernel
theorem dX9_place_5 : decode cX9_place 5 = .ok (.ifCond .eq 27, 3) := by decide +kernel
theorem dX9_place_8 : decode cX9_place 8 = .ok (.iload_n 2, 1) := by decide +kernel
theorem dX9_place_9 : decode cX9_place 9 = .ok (.i2l, 1) := by decide +kernel
theorem dX9_place_10 : decode cX9_place 10 = .ok (.lconst 0, 1) := by decide +kernel
theorem dX9_place_11 : decode cX9_place 11 = .ok (.ldc2_w 97, 3) := by decide +kernel
theorem dX9_place_14 : decode cX9_place 14 = .ok (.invokestatic 81, 3) := by decide +kernel
theorem dX9_place_17 : decode cX9_place 17 = .ok (.ifCond .eq 15, 3) := by decide +kernel
theorem dX9_place_20 : decode cX9_place 20 = .ok (.iload_n 3, 1) := by decide +kernel
theorem dX9_place_21 : decode cX9_place 21 = .ok (.i2l, 1) := by decide +kernel
theorem dX9_place_22 : decode cX9_place 22 = .ok (.lconst 0, 1) := by decide +kernel
theorem dX9_place_23 : decode cX9_place 23 = .ok (.ldc2_w 99, 3) := by decide +kernel
theorem dX9_place_26 : decode cX9_place 26 = .ok (.invokestatic 81, 3) := by decide +kernel
theorem dX9_place_29 : decode cX9_place 29 = .ok (.ifCond .ne 5, 3) := by decide +kernel
theorem dX9_place_32 : decode cX9_place 32 = .ok (.iconst (-1), 1) := by decide +kernel
theorem dX9_place_33 : decode cX9_place 33 = .ok (.ireturn, 1) := by decide +kernel
theorem dX9_place_34 : decode cX9_place 34 = .ok (.aload_n 0, 1) := by decide +kernel
theorem dX9_place_35 : decode cX9_place 35 = .ok (.getfield 78, 3) := by decide +kernel
theorem dX9_place_38 : decode cX9_place 38 = .ok (.bipush 10, 2) := by decide +kernel
theorem dX9_place_40 : decode cX9_place 40 = .ok (.if_icmp .ne 6, 3) := by decide +kernel
theorem dX9_place_43 : decode cX9_place 43 = .ok (.bipush (-3), 2) := by decide +kernel
theorem dX9_place_45 : decode cX9_place 45 = .ok (.ireturn, 1) := by decide +kernel
theorem dX9_place_46 : decode cX9_place 46 = .ok (.aload_n 0, 1) := by decide +kernel
theorem dX9_place_47 : decode cX9_place 47 = .ok (.invokevirtual 87, 3) := by decide +kernel
theorem dX9_place_50 : decode cX9_place 50 = .ok (.aload_n 0, 1) := by decide +kernel
theorem dX9_place_51 : decode cX9_place 51 = .ok (.getfield 20, 3) := by decide +kernel
theorem dX9_place_54 : decode cX9_place 54 = .ok (.aload_n 0, 1) := by decide +kernel
theorem dX9_place_55 : decode cX9_place 55 = .ok (.getfield 78, 3) := by decide +kernel
theorem dX9_place_58 : decode cX9_place 58 = .ok (.iload_n 1, 1) := by decide +kernel
theorem dX9_place_59 : decode cX9_place 59 = .ok (.iastore, 1) := by decide +kernel
theorem dX9_place_60 : decode cX9_place 60 = .ok (.aload_n 0, 1) := by decide +kernel
theorem dX9_place_61 : decode cX9_place 61 = .ok (.getfield 23, 3) := by decide +kernel
theorem dX9_place_64 : decode cX9_place 64 = .ok (.aload_n 0, 1) := by decide +kernel
theorem dX9_place_65 : decode cX9_place 65 = .ok (.getfield 78, 3) := by decide +kernel
theorem dX9_place_68 : decode cX9_place 68 = .ok (.iload_n 2, 1) := by decide +kernel
theorem dX9_place_69 : decode cX9_place 69 = .ok (.iastore, 1) := by decide +kernel
theorem dX9_place_70 : decode cX9_place 70 = .ok (.aload_n 0, 1) := by decide +kernel
theorem dX9_place_71 : decode cX9_place 71 = .ok (.getfield 26, 3) := by decide +kernel
theorem dX9_place_74 : decode cX9_place 74 = .ok (.aload_n 0, 1) := by decide +kernel
theorem dX9_place_75 : decode cX9_place 75 = .ok (.getfield 78, 3) := by decide +kernel
theorem dX9_place_78 : decode cX9_place 78 = .ok (.iload_n 3, 1) := by decide +kernel
theorem dX9_place_79 : decode cX9_place 79 = .ok (.iastore, 1) := by decide +kernel
theorem dX9_place_80 : decode cX9_place 80 = .ok (.aload_n 0, 1) := by decide +kernel
theorem dX9_place_81 : decode cX9_place 81 = .ok (.getfield 29, 3) := by decide +kernel
theorem dX9_place_84 : decode cX9_place 84 = .ok (.aload_n 0, 1) := by decide +kernel
theorem dX9_place_85 : decode cX9_place 85 = .ok (.getfield 78, 3) := by decide +kernel
theorem dX9_place_88 : decode cX9_place 88 = .ok (.bipush 20, 2) := by decide +kernel
theorem dX9_place_90 : decode cX9_place 90 = .ok (.iastore, 1) := by decide +kernel
theorem dX9_place_91 : decode cX9_place 91 = .ok (.aload_n 0, 1) := by decide +kernel
theorem dX9_place_92 : decode cX9_place 92 = .ok (.dup, 1) := by decide +kernel
theorem dX9_place_93 : decode cX9_place 93 = .ok (.getfield 78, 3) := by decide +kernel
theorem dX9_place_96 : decode cX9_place 96 = .ok (.iconst 1, 1) := by decide +kernel
theorem dX9_place_97 : decode cX9_place 97 = .ok (.iadd, 1) := by decide +kernel
theorem dX9_place_98 : decode cX9_place 98 = .ok (.putfield 78, 3) := by decide +kernel
theorem dX9_place_101 : decode cX9_place 101 = .ok (.aload_n 0, 1) := by decide +kernel
theorem dX9_place_102 : decode cX9_place 102 = .ok (.getfield 78, 3) := by decide +kernel
theorem dX9_place_105 : decode cX9_place 105 = .ok (.iconst 1, 1) := by decide +kernel
theorem dX9_place_106 : decode cX9_place 106 = .ok (.isub, 1) := by decide +kernel
theorem dX9_place_107 : decode cX9_place 107 = .ok (.ireturn, 1) := by decide +kernel
theorem dX9_reach_0 : decode cX9_reach 0 = .ok (.aload_n 0, 1) := by decide +kernel
theorem dX9_reach_1 : decode cX9_reach 1 = .ok (.iload_n 1, 1) := by decide +kernel
theorem dX9_reach_2 : decode cX9_reach 2 = .ok (.invokevirtual 101, 3) := by decide +kernel
theorem dX9_reach_5 : decode cX9_reach 5 = .ok (.ifCond .eq 15, 3) := by decide +kernel
theorem dX9_reach_8 : decode cX9_reach 8 = .ok (.iload_n 2, 1) := by decide +kernel
theorem dX9_reach_9 : decode cX9_reach 9 = .ok (.i2l, 1) := by decide +kernel
theorem dX9_reach_10 : decode cX9_reach 10 = .ok (.lconst 0, 1) := by decide +kernel
theorem dX9_reach_11 : decode cX9_reach 11 = .ok (.ldc2_w 104, 3) := by decide +kernel
theorem dX9_reach_14 : decode cX9_reach 14 = .ok (.invokestatic 81, 3) := by decide +kernel
theorem dX9_reach_17 : decode cX9_reach 17 = .ok (.ifCond .ne 5, 3) := by decide +kernel
theorem dX9_reach_20 : decode cX9_reach 20 = .ok (.iconst (-1), 1) := by decide +kernel
theorem dX9_reach_21 : decode cX9_reach 21 = .ok (.ireturn, 1) := by decide +kernel
theorem dX9_reach_22 : decode cX9_reach 22 = .ok (.aload_n 0, 1) := by decide +kernel
theorem dX9_reach_23 : decode cX9_reach 23 = .ok (.getfield 23, 3) := by decide +kernel
theorem dX9_reach_26 : decode cX9_reach 26 = .ok (.iload_n 1, 1) := by decide +kernel
theorem dX9_reach_27 : decode cX9_reach 27 = .ok (.iaload, 1) := by decide +kernel
theorem dX9_reach_28 : decode cX9_reach 28 = .ok (.iconst 4, 1) := by decide +kernel
theorem dX9_reach_29 : decode cX9_reach 29 = .ok (.if_icmp .eq 6, 3) := by decide +kernel
theorem dX9_reach_32 : decode cX9_reach 32 = .ok (.bipush (-2), 2) := by decide +kernel
theorem dX9_reach_34 : decode cX9_reach 34 = .ok (.ireturn, 1) := by decide +kernel
theorem dX9_reach_35 : decode cX9_reach 35 = .ok (.aload_n 0, 1) := by decide +kernel
theorem dX9_reach_36 : decode cX9_reach 36 = .ok (.getfield 29, 3) := by decide +kernel
theorem dX9_reach_39 : decode cX9_reach 39 = .ok (.iload_n 1, 1) := by decide +kernel
theorem dX9_reach_40 : decode cX9_reach 40 = .ok (.iaload, 1) := by decide +kernel
theorem dX9_reach_41 : decode cX9_reach 41 = .ok (.istore_n 3, 1) := by decide +kernel
theorem dX9_reach_42 : decode cX9_reach 42 = .ok (.iload_n 3, 1) := by decide +kernel
theorem dX9_reach_43 : decode cX9_reach 43 = .ok (.iload_n 2, 1) := by decide +kernel
theorem dX9_reach_44 : decode cX9_reach 44 = .ok (.if_icmp .eq 14, 3) := by decide +kernel
theorem dX9_reach_47 : decode cX9_reach 47 = .ok (.aload_n 0, 1) := by decide +kernel
theorem dX9_reach_48 : decode cX9_reach 48 = .ok (.invokevirtual 87, 3) := by decide +kernel
theorem dX9_reach_51 : decode cX9_reach 51 = .ok (.aload_n 0, 1) := by decide +kernel
theorem dX9_reach_52 : decode cX9_reach 52 = .ok (.getfield 29, 3) := by decide +kernel
theorem dX9_reach_55 : decode cX9_reach 55 = .ok (.iload_n 1, 1) := by decide +kernel
theorem dX9_reach_56 : decode cX9_reach 56 = .ok (.iload_n 2, 1) := by decide +kernel
theorem dX9_reach_57 : decode cX9_reach 57 = .ok (.iastore, 1) := by decide +kernel
theorem dX9_reach_58 : decode cX9_reach 58 = .ok (.iload_n 3, 1) := by decide +kernel
theorem dX9_reach_59 : decode cX9_reach 59 = .ok (.ireturn, 1) := by decide +kernel
theorem dX9_number_0 : decode cX9_number 0 = .ok (.iload_n 1, 1) := by decide +kernel
theorem dX9_number_1 : decode cX9_number 1 = .ok (.i2l, 1) := by decide +kernel
theorem dX9_number_2 : decode cX9_number 2 = .ok (.lconst 0, 1) := by decide +kernel
theorem dX9_number_3 : decode cX9_number 3 = .ok (.ldc2_w 106, 3) := by decide +kernel
theorem dX9_number_6 : decode cX9_number 6 = .ok (.invokestatic 81, 3) := by decide +kernel
theorem dX9_number_9 : decode cX9_number 9 = .ok (.ifCond .ne 5, 3) := by decide +kernel
theorem dX9_number_12 : decode cX9_number 12 = .ok (.iconst (-1), 1) := by decide +kernel
theorem dX9_number_13 : decode cX9_number 13 = .ok (.ireturn, 1) := by decide +kernel
theorem dX9_number_14 : decode cX9_number 14 = .ok (.aload_n 0, 1) := by decide +kernel
theorem dX9_number_15 : decode cX9_number 15 = .ok (.getfield 32, 3) := by decide +kernel
theorem dX9_number_18 : decode cX9_number 18 = .ok (.istore_n 2, 1) := by decide +kernel
theorem dX9_number_19 : decode cX9_number 19 = .ok (.iload_n 2, 1) := by decide +kernel
theorem dX9_number_20 : decode cX9_number 20 = .ok (.iload_n 1, 1) := by decide +kernel
theorem dX9_number_21 : decode cX9_number 21 = .ok (.if_icmp .eq 12, 3) := by decide +kernel
theorem dX9_number_24 : decode cX9_number 24 = .ok (.aload_n 0, 1) := by decide +kernel
theorem dX9_number_25 : decode cX9_number 25 = .ok (.invokevirtual 87, 3) := by decide +kernel
theorem dX9_number_28 : decode cX9_number 28 = .ok (.aload_n 0, 1) := by decide +kernel
theorem dX9_number_29 : decode cX9_number 29 = .ok (.iload_n 1, 1) := by decide +kernel
theorem dX9_number_30 : decode cX9_number 30 = .ok (.putfield 32, 3) := by decide +kernel
theorem dX9_number_33 : decode cX9_number 33 = .ok (.iload_n 2, 1) := by decide +kernel
theorem dX9_number_34 : decode cX9_number 34 = .ok (.ireturn, 1) := by decide +kernel
theorem dX9_map_0 : decode cX9_map 0 = .ok (.iload_n 1, 1) := by decide +kernel
theorem dX9_map_1 : decode cX9_map 1 = .ok (.i2l, 1) := by decide +kernel
theorem dX9_map_2 : decode cX9_map 2 = .ok (.lconst 0, 1) := by decide +kernel
theorem dX9_map_3 : decode cX9_map 3 = .ok (.ldc2_w 108, 3) := by decide +kernel
theorem dX9_map_6 : decode cX9_map 6 = .ok (.invokestatic 81, 3) := by decide +kernel
theorem dX9_map_9 : decode cX9_map 9 = .ok (.ifCond .eq 21, 3) := by decide +kernel
theorem dX9_map_12 : decode cX9_map 12 = .ok (.iload_n 2, 1) := by decide +kernel
theorem dX9_map_13 : decode cX9_map 13 = .ok (.i2l, 1) := by decide +kernel
theorem dX9_map_14 : decode cX9_map 14 = .ok (.lconst 0, 1) := by decide +kernel
theorem dX9_map_15 : decode cX9_map 15 = .ok (.ldc2_w 110, 3) := by decide +kernel
theorem dX9_map_18 : decode cX9_map 18 = .ok (.invokestatic 81, 3) := by decide +kernel
theorem dX9_map_21 : decode cX9_map 21 = .ok (.ifCond .eq 9, 3) := by decide +kernel
theorem dX9_map_24 : decode cX9_map 24 = .ok (.iload_n 3, 1) := by decide +kernel
theorem dX9_map_25 : decode cX9_map 25 = .ok (.bipush 60, 2) := by decide +kernel
theorem dX9_map_27 : decode cX9_map 27 = .ok (.if_icmp .le 5, 3) := by decide +kernel
theorem dX9_map_30 : decode cX9_map 30 = .ok (.iconst (-1), 1) := by decide +kernel
theorem dX9_map_31 : decode cX9_map 31 = .ok (.ireturn, 1) := by decide +kernel
theorem dX9_map_32 : decode cX9_map 32 = .ok (.iload_n 3, 1) := by decide +kernel
theorem dX9_map_33 : decode cX9_map 33 = .ok (.ifCond .ge 6, 3) := by decide +kernel
theorem dX9_map_36 : decode cX9_map 36 = .ok (.bipush (-14), 2) := by decide +kernel
theorem dX9_map_38 : decode cX9_map 38 = .ok (.ireturn, 1) := by decide +kernel
theorem dX9_map_39 : decode cX9_map 39 = .ok (.aload_n 0, 1) := by decide +kernel
theorem dX9_map_40 : decode cX9_map 40 = .ok (.getfield 36, 3) := by decide +kernel
theorem dX9_map_43 : decode cX9_map 43 = .ok (.iload_n 1, 1) := by decide +kernel
theorem dX9_map_44 : decode cX9_map 44 = .ok (.iload_n 2, 1) := by decide +kernel
theorem dX9_map_45 : decode cX9_map 45 = .ok (.iastore, 1) := by decide +kernel
theorem dX9_map_46 : decode cX9_map 46 = .ok (.aload_n 0, 1) := by decide +kernel
theorem dX9_map_47 : decode cX9_map 47 = .ok (.getfield 39, 3) := by decide +kernel
theorem dX9_map_50 : decode cX9_map 50 = .ok (.iload_n 1, 1) := by decide +kernel
theorem dX9_map_51 : decode cX9_map 51 = .ok (.iload_n 3, 1) := by decide +kernel
theorem dX9_map_52 : decode cX9_map 52 = .ok (.iastore, 1) := by decide +kernel
theorem dX9_map_53 : decode cX9_map 53 = .ok (.iconst 0, 1) := by decide +kernel
theorem dX9_map_54 : decode cX9_map 54 = .ok (.istore 4, 2) := by decide +kernel
theorem dX9_map_56 : decode cX9_map 56 = .ok (.iload 4, 2) := by decide +kernel
theorem dX9_map_58 : decode cX9_map 58 = .ok (.bipush 60, 2) := by decide +kernel
theorem dX9_map_60 : decode cX9_map 60 = .ok (.if_icmp .ge 22, 3) := by decide +kernel
theorem dX9_map_63 : decode cX9_map 63 = .ok (.aload_n 0, 1) := by decide +kernel
theorem dX9_map_64 : decode cX9_map 64 = .ok (.getfield 42, 3) := by decide +kernel
theorem dX9_map_67 : decode cX9_map 67 = .ok (.bipush 60, 2) := by decide +kernel
theorem dX9_map_69 : decode cX9_map 69 = .ok (.iload_n 1, 1) := by decide +kernel
theorem dX9_map_70 : decode cX9_map 70 = .ok (.imul, 1) := by decide +kernel
theorem dX9_map_71 : decode cX9_map 71 = .ok (.iload 4, 2) := by decide +kernel
theorem dX9_map_73 : decode cX9_map 73 = .ok (.iadd, 1) := by decide +kernel
theorem dX9_map_74 : decode cX9_map 74 = .ok (.lconst 0, 1) := by decide +kernel
theorem dX9_map_75 : decode cX9_map 75 = .ok (.lastore, 1) := by decide +kernel
theorem dX9_map_76 : decode cX9_map 76 = .ok (.iinc 4 1, 3) := by decide +kernel
theorem dX9_map_79 : decode cX9_map 79 = .ok (.goto (-23), 3) := by decide +kernel
theorem dX9_map_82 : decode cX9_map 82 = .ok (.iconst 1, 1) := by decide +kernel
theorem dX9_map_83 : decode cX9_map 83 = .ok (.ireturn, 1) := by decide +kernel
theorem dX9_lay_0 : decode cX9_lay 0 = .ok (.iload_n 1, 1) := by decide +kernel
theorem dX9_lay_1 : decode cX9_lay 1 = .ok (.i2l, 1) := by decide +kernel
theorem dX9_lay_2 : decode cX9_lay 2 = .ok (.lconst 0, 1) := by decide +kernel
theorem dX9_lay_3 : decode cX9_lay 3 = .ok (.ldc2_w 108, 3) := by decide +kernel
theorem dX9_lay_6 : decode cX9_lay 6 = .ok (.invokestatic 81, 3) := by decide +kernel
theorem dX9_lay_9 : decode cX9_lay 9 = .ok (.ifCond .ne 5, 3) := by decide +kernel
theorem dX9_lay_12 : decode cX9_lay 12 = .ok (.iconst (-1), 1) := by decide +kernel
theorem dX9_lay_13 : decode cX9_lay 13 = .ok (.ireturn, 1) := by decide +kernel
theorem dX9_lay_14 : decode cX9_lay 14 = .ok (.aload_n 0, 1) := by decide +kernel
theorem dX9_lay_15 : decode cX9_lay 15 = .ok (.getfield 36, 3) := by decide +kernel
theorem dX9_lay_18 : decode cX9_lay 18 = .ok (.iload_n 1, 1) := by decide +kernel
theorem dX9_lay_19 : decode cX9_lay 19 = .ok (.iaload, 1) := by decide +kernel
theorem dX9_lay_20 : decode cX9_lay 20 = .ok (.bipush (-4), 2) := by decide +kernel
theorem dX9_lay_22 : decode cX9_lay 22 = .ok (.if_icmp .ne 6, 3) := by decide +kernel
theorem dX9_lay_25 : decode cX9_lay 25 = .ok (.bipush (-11), 2) := by decide +kernel
theorem dX9_lay_27 : decode cX9_lay 27 = .ok (.ireturn, 1) := by decide +kernel
theorem dX9_lay_28 : decode cX9_lay 28 = .ok (.iload_n 2, 1) := by decide +kernel
theorem dX9_lay_29 : decode cX9_lay 29 = .ok (.i2l, 1) := by decide +kernel
theorem dX9_lay_30 : decode cX9_lay 30 = .ok (.lconst 0, 1) := by decide +kernel
theorem dX9_lay_31 : decode cX9_lay 31 = .ok (.aload_n 0, 1) := by decide +kernel
theorem dX9_lay_32 : decode cX9_lay 32 = .ok (.getfield 39, 3) := by decide +kernel
theorem dX9_lay_35 : decode cX9_lay 35 = .ok (.iload_n 1, 1) := by decide +kernel
theorem dX9_lay_36 : decode cX9_lay 36 = .ok (.iaload, 1) := by decide +kernel
theorem dX9_lay_37 : decode cX9_lay 37 = .ok (.iconst 1, 1) := by decide +kernel
theorem dX9_lay_38 : decode cX9_lay 38 = .ok (.isub, 1) := by decide +kernel
theorem dX9_lay_39 : decode cX9_lay 39 = .ok (.i2l, 1) := by decide +kernel
theorem dX9_lay_40 : decode cX9_lay 40 = .ok (.invokestatic 81, 3) := by decide +kernel
theorem dX9_lay_43 : decode cX9_lay 43 = .ok (.ifCond .ne 6, 3) := by decide +kernel
theorem dX9_lay_46 : decode cX9_lay 46 = .ok (.bipush (-12), 2) := by decide +kernel
theorem dX9_lay_48 : decode cX9_lay 48 = .ok (.ireturn, 1) := by decide +kernel
theorem dX9_lay_49 : decode cX9_lay 49 = .ok (.aload_n 0, 1) := by decide +kernel
theorem dX9_lay_50 : decode cX9_lay 50 = .ok (.getfield 42, 3) := by decide +kernel
theorem dX9_lay_53 : decode cX9_lay 53 = .ok (.bipush 60, 2) := by decide +kernel
theorem dX9_lay_55 : decode cX9_lay 55 = .ok (.iload_n 1, 1) := by decide +kernel
theorem dX9_lay_56 : decode cX9_lay 56 = .ok (.imul, 1) := by decide +kernel
theorem dX9_lay_57 : decode cX9_lay 57 = .ok (.iload_n 2, 1) := by decide +kernel
theorem dX9_lay_58 : decode cX9_lay 58 = .ok (.iadd, 1) := by decide +kernel
theorem dX9_lay_59 : decode cX9_lay 59 = .ok (.aload_n 0, 1) := by decide +kernel
theorem dX9_lay_60 : decode cX9_lay 60 = .ok (.getfield 36, 3) := by decide +kernel
theorem dX9_lay_63 : decode cX9_lay 63 = .ok (.iload_n 1, 1) := by decide +kernel
theorem dX9_lay_64 : decode cX9_lay 64 = .ok (.iaload, 1) := by decide +kernel
theorem dX9_lay_65 : decode cX9_lay 65 = .ok (.ifCond .ne 10, 3) := by decide +kernel
theorem dX9_lay_68 : decode cX9_lay 68 = .ok (.lload_n 3, 1) := by decide +kernel
theorem dX9_lay_69 : decode cX9_lay 69 = .ok (.l2i, 1) := by decide +kernel
theorem dX9_lay_70 : decode cX9_lay 70 = .ok (.i2b, 1) := by decide +kernel
theorem dX9_lay_71 : decode cX9_lay 71 = .ok (.i2l, 1) := by decide +kernel
theorem dX9_lay_72 : decode cX9_lay 72 = .ok (.goto 20, 3) := by decide +kernel
theorem dX9_lay_75 : decode cX9_lay 75 = .ok (.aload_n 0, 1) := by decide +kernel
theorem dX9_lay_76 : decode cX9_lay 76 = .ok (.getfield 36, 3) := by decide +kernel
theorem dX9_lay_79 : decode cX9_lay 79 = .ok (.iload_n 1, 1) := by decide +kernel
theorem dX9_lay_80 : decode cX9_lay 80 = .ok (.iaload, 1) := by decide +kernel
theorem dX9_lay_81 : decode cX9_lay 81 = .ok (.iconst 1, 1) := by decide +kernel
theorem dX9_lay_82 : decode cX9_lay 82 = .ok (.if_icmp .ne 9, 3) := by decide +kernel
theorem dX9_lay_85 : decode cX9_lay 85 = .ok (.lload_n 3, 1) := by decide +kernel
theorem dX9_lay_86 : decode cX9_lay 86 = .ok (.l2i, 1) := by decide +kernel
theorem dX9_lay_87 : decode cX9_lay 87 = .ok (.i2l, 1) := by decide +kernel
theorem dX9_lay_88 : decode cX9_lay 88 = .ok (.goto 4, 3) := by decide +kernel
theorem dX9_lay_91 : decode cX9_lay 91 = .ok (.lload_n 3, 1) := by decide +kernel
theorem dX9_lay_92 : decode cX9_lay 92 = .ok (.lastore, 1) := by decide +kernel
theorem dX9_lay_93 : decode cX9_lay 93 = .ok (.iconst 1, 1) := by decide +kernel
theorem dX9_lay_94 : decode cX9_lay 94 = .ok (.ireturn, 1) := by decide +kernel
theorem dX9_draw_0 : decode cX9_draw 0 = .ok (.iload_n 1, 1) := by decide +kernel
theorem dX9_draw_1 : decode cX9_draw 1 = .ok (.i2l, 1) := by decide +kernel
theorem dX9_draw_2 : decode cX9_draw 2 = .ok (.lconst 0, 1) := by decide +kernel
theorem dX9_draw_3 : decode cX9_draw 3 = .ok (.ldc2_w 108, 3) := by decide +kernel
theorem dX9_draw_6 : decode cX9_draw 6 = .ok (.invokestatic 81, 3) := by decide +kernel
theorem dX9_draw_9 : decode cX9_draw 9 = .ok (.ifCond .eq 19, 3) := by decide +kernel
theorem dX9_draw_12 : decode cX9_draw 12 = .ok (.iload_n 2, 1) := by decide +kernel
theorem dX9_draw_13 : decode cX9_draw 13 = .ok (.i2l, 1) := by decide +kernel
theorem dX9_draw_14 : decode cX9_draw 14 = .ok (.lconst 0, 1) := by decide +kernel
theorem dX9_draw_15 : decode cX9_draw 15 = .ok (.ldc2_w 110, 3) := by decide +kernel
theorem dX9_draw_18 : decode cX9_draw 18 = .ok (.invokestatic 81, 3) := by decide +kernel
theorem dX9_draw_21 : decode cX9_draw 21 = .ok (.ifCond .eq 7, 3) := by decide +kernel
theorem dX9_draw_24 : decode cX9_draw 24 = .ok (.iload_n 3, 1) := by decide +kernel
theorem dX9_draw_25 : decode cX9_draw 25 = .ok (.ifCond .ge 5, 3) := by decide +kernel
theorem dX9_draw_28 : decode cX9_draw 28 = .ok (.iconst (-1), 1) := by decide +kernel
theorem dX9_draw_29 : decode cX9_draw 29 = .ok (.ireturn, 1) := by decide +kernel
theorem dX9_draw_30 : decode cX9_draw 30 = .ok (.aload_n 0, 1) := by decide +kernel
theorem dX9_draw_31 : decode cX9_draw 31 = .ok (.getfield 36, 3) := by decide +kernel
theorem dX9_draw_34 : decode cX9_draw 34 = .ok (.iload_n 1, 1) := by decide +kernel
theorem dX9_draw_35 : decode cX9_draw 35 = .ok (.iaload, 1) := by decide +kernel
theorem dX9_draw_36 : decode cX9_draw 36 = .ok (.iload_n 2, 1) := by decide +kernel
theorem dX9_draw_37 : decode cX9_draw 37 = .ok (.if_icmp .eq 22, 3) := by decide +kernel
theorem dX9_draw_40 : decode cX9_draw 40 = .ok (.aload_n 0, 1) := by decide +kernel
theorem dX9_draw_41 : decode cX9_draw 41 = .ok (.getfield 36, 3) := by decide +kernel
theorem dX9_draw_44 : decode cX9_draw 44 = .ok (.iload_n 1, 1) := by decide +kernel
theorem dX9_draw_45 : decode cX9_draw 45 = .ok (.iaload, 1) := by decide +kernel
theorem dX9_draw_46 : decode cX9_draw 46 = .ok (.bipush (-4), 2) := by decide +kernel
theorem dX9_draw_48 : decode cX9_draw 48 = .ok (.if_icmp .ne 8, 3) := by decide +kernel
theorem dX9_draw_51 : decode cX9_draw 51 = .ok (.bipush (-11), 2) := by decide +kernel
theorem dX9_draw_53 : decode cX9_draw 53 = .ok (.goto 5, 3) := by decide +kernel
theorem dX9_draw_56 : decode cX9_draw 56 = .ok (.bipush (-13), 2) := by decide +kernel
theorem dX9_draw_58 : decode cX9_draw 58 = .ok (.ireturn, 1) := by decide +kernel
theorem dX9_draw_59 : decode cX9_draw 59 = .ok (.iconst 0, 1) := by decide +kernel
theorem dX9_draw_60 : decode cX9_draw 60 = .ok (.istore 4, 2) := by decide +kernel
theorem dX9_draw_62 : decode cX9_draw 62 = .ok (.iload 4, 2) := by decide +kernel
theorem dX9_draw_64 : decode cX9_draw 64 = .ok (.iload_n 3, 1) := by decide +kernel
theorem dX9_draw_65 : decode cX9_draw 65 = .ok (.if_icmp .ge 80, 3) := by decide +kernel
theorem dX9_draw_68 : decode cX9_draw 68 = .ok (.ldc2_w 108, 3) := by decide +kernel
theorem dX9_draw_71 : decode cX9_draw 71 = .ok (.iload 4, 2) := by decide +kernel
theorem dX9_draw_73 : decode cX9_draw 73 = .ok (.i2l, 1) := by decide +kernel
theorem dX9_draw_74 : decode cX9_draw 74 = .ok (.lmul, 1) := by decide +kernel
theorem dX9_draw_75 : decode cX9_draw 75 = .ok (.ldc2_w 110, 3) := by decide +kernel
theorem dX9_draw_78 : decode cX9_draw 78 = .ok (.ladd, 1) := by decide +kernel
theorem dX9_draw_79 : decode cX9_draw 79 = .ok (.aload_n 0, 1) := by decide +kernel
theorem dX9_draw_80 : decode cX9_draw 80 = .ok (.getfield 39, 3) := by decide +kernel
theorem dX9_draw_83 : decode cX9_draw 83 = .ok (.iload_n 1, 1) := by decide +kernel
theorem dX9_draw_84 : decode cX9_draw 84 = .ok (.iaload, 1) := by decide +kernel
theorem dX9_draw_85 : decode cX9_draw 85 = .ok (.i2l, 1) := by decide +kernel
theorem dX9_draw_86 : decode cX9_draw 86 = .ok (.lcmp, 1) := by decide +kernel
theorem dX9_draw_87 : decode cX9_draw 87 = .ok (.ifCond .lt 6, 3) := by decide +kernel
theorem dX9_draw_90 : decode cX9_draw 90 = .ok (.bipush (-12), 2) := by decide +kernel
theorem dX9_draw_92 : decode cX9_draw 92 = .ok (.ireturn, 1) := by decide +kernel
theorem dX9_draw_93 : decode cX9_draw 93 = .ok (.bipush 60, 2) := by decide +kernel
theorem dX9_draw_95 : decode cX9_draw 95 = .ok (.iload_n 1, 1) := by decide +kernel
theorem dX9_draw_96 : decode cX9_draw 96 = .ok (.imul, 1) := by decide +kernel
theorem dX9_draw_97 : decode cX9_draw 97 = .ok (.iconst 3, 1) := by decide +kernel
theorem dX9_draw_98 : decode cX9_draw 98 = .ok (.iload 4, 2) := by decide +kernel
theorem dX9_draw_100 : decode cX9_draw 100 = .ok (.imul, 1) := by decide +kernel
theorem dX9_draw_101 : decode cX9_draw 101 = .ok (.iadd, 1) := by decide +kernel
theorem dX9_draw_102 : decode cX9_draw 102 = .ok (.istore 5, 2) := by decide +kernel
theorem dX9_draw_104 : decode cX9_draw 104 = .ok (.aload_n 0, 1) := by decide +kernel
theorem dX9_draw_105 : decode cX9_draw 105 = .ok (.aload_n 0, 1) := by decide +kernel
theorem dX9_draw_106 : decode cX9_draw 106 = .ok (.getfield 42, 3) := by decide +kernel
theorem dX9_draw_109 : decode cX9_draw 109 = .ok (.iload 5, 2) := by decide +kernel
theorem dX9_draw_111 : decode cX9_draw 111 = .ok (.laload, 1) := by decide +kernel
theorem dX9_draw_112 : decode cX9_draw 112 = .ok (.aload_n 0, 1) := by decide +kernel
theorem dX9_draw_113 : decode cX9_draw 113 = .ok (.getfield 42, 3) := by decide +kernel
theorem dX9_draw_116 : decode cX9_draw 116 = .ok (.iload 5, 2) := by decide +kernel
theorem dX9_draw_118 : decode cX9_draw 118 = .ok (.iconst 1, 1) := by decide +kernel
theorem dX9_draw_119 : decode cX9_draw 119 = .ok (.iadd, 1) := by decide +kernel
theorem dX9_draw_120 : decode cX9_draw 120 = .ok (.laload, 1) := by decide +kernel
theorem dX9_draw_121 : decode cX9_draw 121 = .ok (.aload_n 0, 1) := by decide +kernel
theorem dX9_draw_122 : decode cX9_draw 122 = .ok (.getfield 42, 3) := by decide +kernel
theorem dX9_draw_125 : decode cX9_draw 125 = .ok (.iload 5, 2) := by decide +kernel
theorem dX9_draw_127 : decode cX9_draw 127 = .ok (.iconst 2, 1) := by decide +kernel
theorem dX9_draw_128 : decode cX9_draw 128 = .ok (.iadd, 1) := by decide +kernel
theorem dX9_draw_129 : decode cX9_draw 129 = .ok (.laload, 1) := by decide +kernel
theorem dX9_draw_130 : decode cX9_draw 130 = .ok (.invokevirtual 94, 3) := by decide +kernel
theorem dX9_draw_133 : decode cX9_draw 133 = .ok (.ifCond .ne 6, 3) := by decide +kernel
theorem dX9_draw_136 : decode cX9_draw 136 = .ok (.bipush (-21), 2) := by decide +kernel
theorem dX9_draw_138 : decode cX9_draw 138 = .ok (.ireturn, 1) := by decide +kernel
theorem dX9_draw_139 : decode cX9_draw 139 = .ok (.iinc 4 1, 3) := by decide +kernel
theorem dX9_draw_142 : decode cX9_draw 142 = .ok (.goto (-80), 3) := by decide +kernel
theorem dX9_draw_145 : decode cX9_draw 145 = .ok (.iconst 0, 1) := by decide +kernel
theorem dX9_draw_146 : decode cX9_draw 146 = .ok (.istore 4, 2) := by decide +kernel
theorem dX9_draw_148 : decode cX9_draw 148 = .ok (.iload 4, 2) := by decide +kernel
theorem dX9_draw_150 : decode cX9_draw 150 = .ok (.sipush 144, 3) := by decide +kernel
theorem dX9_draw_153 : decode cX9_draw 153 = .ok (.if_icmp .ge 23, 3) := by decide +kernel
theorem dX9_draw_156 : decode cX9_draw 156 = .ok (.aload_n 0, 1) := by decide +kernel
theorem dX9_draw_157 : decode cX9_draw 157 = .ok (.getfield 63, 3) := by decide +kernel
theorem dX9_draw_160 : decode cX9_draw 160 = .ok (.iload 4, 2) := by decide +kernel
theorem dX9_draw_162 : decode cX9_draw 162 = .ok (.aload_n 0, 1) := by decide +kernel
theorem dX9_draw_163 : decode cX9_draw 163 = .ok (.getfield 17, 3) := by decide +kernel
theorem dX9_draw_166 : decode cX9_draw 166 = .ok (.iload 4, 2) := by decide +kernel
theorem dX9_draw_168 : decode cX9_draw 168 = .ok (.iaload, 1) := by decide +kernel
theorem dX9_draw_169 : decode cX9_draw 169 = .ok (.iastore, 1) := by decide +kernel
theorem dX9_draw_170 : decode cX9_draw 170 = .ok (.iinc 4 1, 3) := by decide +kernel
theorem dX9_draw_173 : decode cX9_draw 173 = .ok (.goto (-25), 3) := by decide +kernel
theorem dX9_draw_176 : decode cX9_draw 176 = .ok (.iconst 0, 1) := by decide +kernel
theorem dX9_draw_177 : decode cX9_draw 177 = .ok (.istore 4, 2) := by decide +kernel
theorem dX9_draw_179 : decode cX9_draw 179 = .ok (.iload 4, 2) := by decide +kernel
theorem dX9_draw_181 : decode cX9_draw 181 = .ok (.iload_n 3, 1) := by decide +kernel
theorem dX9_draw_182 : decode cX9_draw 182 = .ok (.if_icmp .ge 84, 3) := by decide +kernel
theorem dX9_draw_185 : decode cX9_draw 185 = .ok (.bipush 60, 2) := by decide +kernel
theorem dX9_draw_187 : decode cX9_draw 187 = .ok (.iload_n 1, 1) := by decide +kernel
theorem dX9_draw_188 : decode cX9_draw 188 = .ok (.imul, 1) := by decide +kernel
theorem dX9_draw_189 : decode cX9_draw 189 = .ok (.iconst 3, 1) := by decide +kernel
theorem dX9_draw_190 : decode cX9_draw 190 = .ok (.iload 4, 2) := by decide +kernel
theorem dX9_draw_192 : decode cX9_draw 192 = .ok (.imul, 1) := by decide +kernel
theorem dX9_draw_193 : decode cX9_draw 193 = .ok (.iadd, 1) := by decide +kernel
theorem dX9_draw_194 : decode cX9_draw 194 = .ok (.istore 5, 2) := by decide +kernel
theorem dX9_draw_196 : decode cX9_draw 196 = .ok (.aload_n 0, 1) := by decide +kernel
theorem dX9_draw_197 : decode cX9_draw 197 = .ok (.getfield 42, 3) := by decide +kernel
theorem dX9_draw_200 : decode cX9_draw 200 = .ok (.iload 5, 2) := by decide +kernel
theorem dX9_draw_202 : decode cX9_draw 202 = .ok (.laload, 1) := by decide +kernel
theorem dX9_draw_203 : decode cX9_draw 203 = .ok (.l2i, 1) := by decide +kernel
theorem dX9_draw_204 : decode cX9_draw 204 = .ok (.istore 6, 2) := by decide +kernel
theorem dX9_draw_206 : decode cX9_draw 206 = .ok (.aload_n 0, 1) := by decide +kernel
theorem dX9_draw_207 : decode cX9_draw 207 = .ok (.getfield 42, 3) := by decide +kernel
theorem dX9_draw_210 : decode cX9_draw 210 = .ok (.iload 5, 2) := by decide +kernel
theorem dX9_draw_212 : decode cX9_draw 212 = .ok (.iconst 1, 1) := by decide +kernel
theorem dX9_draw_213 : decode cX9_draw 213 = .ok (.iadd, 1) := by decide +kernel
theorem dX9_draw_214 : decode cX9_draw 214 = .ok (.laload, 1) := by decide +kernel
theorem dX9_draw_215 : decode cX9_draw 215 = .ok (.l2i, 1) := by decide +kernel
theorem dX9_draw_216 : decode cX9_draw 216 = .ok (.istore 7, 2) := by decide +kernel
theorem dX9_draw_218 : decode cX9_draw 218 = .ok (.aload_n 0, 1) := by decide +kernel
theorem dX9_draw_219 : decode cX9_draw 219 = .ok (.getfield 42, 3) := by decide +kernel
theorem dX9_draw_222 : decode cX9_draw 222 = .ok (.iload 5, 2) := by decide +kernel
theorem dX9_draw_224 : decode cX9_draw 224 = .ok (.iconst 2, 1) := by decide +kernel
theorem dX9_draw_225 : decode cX9_draw 225 = .ok (.iadd, 1) := by decide +kernel
theorem dX9_draw_226 : decode cX9_draw 226 = .ok (.laload, 1) := by decide +kernel
theorem dX9_draw_227 : decode cX9_draw 227 = .ok (.l2i, 1) := by decide +kernel
theorem dX9_draw_228 : decode cX9_draw 228 = .ok (.istore 8, 2) := by decide +kernel
theorem dX9_draw_230 : decode cX9_draw 230 = .ok (.aload_n 0, 1) := by decide +kernel
theorem dX9_draw_231 : decode cX9_draw 231 = .ok (.getfield 63, 3) := by decide +kernel
theorem dX9_draw_234 : decode cX9_draw 234 = .ok (.bipush 12, 2) := by decide +kernel
theorem dX9_draw_236 : decode cX9_draw 236 = .ok (.iload 6, 2) := by decide +kernel
theorem dX9_draw_238 : decode cX9_draw 238 = .ok (.imul, 1) := by decide +kernel
theorem dX9_draw_239 : decode cX9_draw 239 = .ok (.iload 7, 2) := by decide +kernel
theorem dX9_draw_241 : decode cX9_draw 241 = .ok (.iadd, 1) := by decide +kernel
theorem dX9_draw_242 : decode cX9_draw 242 = .ok (.iload 8, 2) := by decide +kernel
theorem dX9_draw_244 : decode cX9_draw 244 = .ok (.iastore, 1) := by decide +kernel
theorem dX9_draw_245 : decode cX9_draw 245 = .ok (.aload_n 0, 1) := by decide +kernel
theorem dX9_draw_246 : decode cX9_draw 246 = .ok (.getfield 63, 3) := by decide +kernel
theorem dX9_draw_249 : decode cX9_draw 249 = .ok (.bipush 12, 2) := by decide +kernel
theorem dX9_draw_251 : decode cX9_draw 251 = .ok (.iload 7, 2) := by decide +kernel
theorem dX9_draw_253 : decode cX9_draw 253 = .ok (.imul, 1) := by decide +kernel
theorem dX9_draw_254 : decode cX9_draw 254 = .ok (.iload 6, 2) := by decide +kernel
theorem dX9_draw_256 : decode cX9_draw 256 = .ok (.iadd, 1) := by decide +kernel
theorem dX9_draw_257 : decode cX9_draw 257 = .ok (.iload 8, 2) := by decide +kernel
theorem dX9_draw_259 : decode cX9_draw 259 = .ok (.iastore, 1) := by decide +kernel
theorem dX9_draw_260 : decode cX9_draw 260 = .ok (.iinc 4 1, 3) := by decide +kernel
theorem dX9_draw_263 : decode cX9_draw 263 = .ok (.goto (-84), 3) := by decide +kernel
theorem dX9_draw_266 : decode cX9_draw 266 = .ok (.iconst 0, 1) := by decide +kernel
theorem dX9_draw_267 : decode cX9_draw 267 = .ok (.istore 4, 2) := by decide +kernel
theorem dX9_draw_269 : decode cX9_draw 269 = .ok (.iconst 0, 1) := by decide +kernel
theorem dX9_draw_270 : decode cX9_draw 270 = .ok (.istore 5, 2) := by decide +kernel
theorem dX9_draw_272 : decode cX9_draw 272 = .ok (.iload 5, 2) := by decide +kernel
theorem dX9_draw_274 : decode cX9_draw 274 = .ok (.sipush 144, 3) := by decide +kernel
theorem dX9_draw_277 : decode cX9_draw 277 = .ok (.if_icmp .ge 38, 3) := by decide +kernel
theorem dX9_draw_280 : decode cX9_draw 280 = .ok (.iload 4, 2) := by decide +kernel
theorem dX9_draw_282 : decode cX9_draw 282 = .ok (.ifCond .ne 20, 3) := by decide +kernel
theorem dX9_draw_285 : decode cX9_draw 285 = .ok (.aload_n 0, 1) := by decide +kernel
theorem dX9_draw_286 : decode cX9_draw 286 = .ok (.getfield 17, 3) := by decide +kernel
theorem dX9_draw_289 : decode cX9_draw 289 = .ok (.iload 5, 2) := by decide +kernel
theorem dX9_draw_291 : decode cX9_draw 291 = .ok (.iaload, 1) := by decide +kernel
theorem dX9_draw_292 : decode cX9_draw 292 = .ok (.aload_n 0, 1) := by decide +kernel
theorem dX9_draw_293 : decode cX9_draw 293 = .ok (.getfield 63, 3) := by decide +kernel
theorem dX9_draw_296 : decode cX9_draw 296 = .ok (.iload 5, 2) := by decide +kernel
theorem dX9_draw_298 : decode cX9_draw 298 = .ok (.iaload, 1) := by decide +kernel
theorem dX9_draw_299 : decode cX9_draw 299 = .ok (.if_icmp .eq 7, 3) := by decide +kernel
theorem dX9_draw_302 : decode cX9_draw 302 = .ok (.iconst 1, 1) := by decide +kernel
theorem dX9_draw_303 : decode cX9_draw 303 = .ok (.goto 4, 3) := by decide +kernel
theorem dX9_draw_306 : decode cX9_draw 306 = .ok (.iconst 0, 1) := by decide +kernel
theorem dX9_draw_307 : decode cX9_draw 307 = .ok (.istore 4, 2) := by decide +kernel
theorem dX9_draw_309 : decode cX9_draw 309 = .ok (.iinc 5 1, 3) := by decide +kernel
theorem dX9_draw_312 : decode cX9_draw 312 = .ok (.goto (-40), 3) := by decide +kernel
theorem dX9_draw_315 : decode cX9_draw 315 = .ok (.iload 4, 2) := by decide +kernel
theorem dX9_draw_317 : decode cX9_draw 317 = .ok (.ifCond .eq 7, 3) := by decide +kernel
theorem dX9_draw_320 : decode cX9_draw 320 = .ok (.aload_n 0, 1) := by decide +kernel
theorem dX9_draw_321 : decode cX9_draw 321 = .ok (.invokevirtual 87, 3) := by decide +kernel
theorem dX9_draw_324 : decode cX9_draw 324 = .ok (.iconst 0, 1) := by decide +kernel
theorem dX9_draw_325 : decode cX9_draw 325 = .ok (.istore 5, 2) := by decide +kernel
theorem dX9_draw_327 : decode cX9_draw 327 = .ok (.iload 5, 2) := by decide +kernel
theorem dX9_draw_329 : decode cX9_draw 329 = .ok (.sipush 144, 3) := by decide +kernel
theorem dX9_draw_332 : decode cX9_draw 332 = .ok (.if_icmp .ge 23, 3) := by decide +kernel
theorem dX9_draw_335 : decode cX9_draw 335 = .ok (.aload_n 0, 1) := by decide +kernel
theorem dX9_draw_336 : decode cX9_draw 336 = .ok (.getfield 17, 3) := by decide +kernel
theorem dX9_draw_339 : decode cX9_draw 339 = .ok (.iload 5, 2) := by decide +kernel
theorem dX9_draw_341 : decode cX9_draw 341 = .ok (.aload_n 0, 1) := by decide +kernel
theorem dX9_draw_342 : decode cX9_draw 342 = .ok (.getfield 63, 3) := by decide +kernel
theorem dX9_draw_345 : decode cX9_draw 345 = .ok (.iload 5, 2) := by decide +kernel
theorem dX9_draw_347 : decode cX9_draw 347 = .ok (.iaload, 1) := by decide +kernel
theorem dX9_draw_348 : decode cX9_draw 348 = .ok (.iastore, 1) := by decide +kernel
theorem dX9_draw_349 : decode cX9_draw 349 = .ok (.iinc 5 1, 3) := by decide +kernel
theorem dX9_draw_352 : decode cX9_draw 352 = .ok (.goto (-25), 3) := by decide +kernel
theorem dX9_draw_355 : decode cX9_draw 355 = .ok (.iload_n 3, 1) := by decide +kernel
theorem dX9_draw_356 : decode cX9_draw 356 = .ok (.ireturn, 1) := by decide +kernel
theorem dX9_findWays_0 : decode cX9_findWays 0 = .ok (.iconst 0, 1) := by decide +kernel
theorem dX9_findWays_1 : decode cX9_findWays 1 = .ok (.istore_n 1, 1) := by decide +kernel
theorem dX9_findWays_2 : decode cX9_findWays 2 = .ok (.iload_n 1, 1) := by decide +kernel
theorem dX9_findWays_3 : decode cX9_findWays 3 = .ok (.sipush 144, 3) := by decide +kernel
theorem dX9_findWays_6 : decode cX9_findWays 6 = .ok (.if_icmp .ge 50, 3) := by decide +kernel
theorem dX9_findWays_9 : decode cX9_findWays 9 = .ok (.aload_n 0, 1) := by decide +kernel
theorem dX9_findWays_10 : decode cX9_findWays 10 = .ok (.getfield 66, 3) := by decide +kernel
theorem dX9_findWays_13 : decode cX9_findWays 13 = .ok (.iload_n 1, 1) := by decide +kernel
theorem dX9_findWays_14 : decode cX9_findWays 14 = .ok (.iload_n 1, 1) := by decide +kernel
theorem dX9_findWays_15 : decode cX9_findWays 15 = .ok (.bipush 12, 2) := by decide +kernel
theorem dX9_findWays_17 : decode cX9_findWays 17 = .ok (.idiv, 1) := by decide +kernel
theorem dX9_findWays_18 : decode cX9_findWays 18 = .ok (.iload_n 1, 1) := by decide +kernel
theorem dX9_findWays_19 : decode cX9_findWays 19 = .ok (.bipush 12, 2) := by decide +kernel
theorem dX9_findWays_21 : decode cX9_findWays 21 = .ok (.irem, 1) := by decide +kernel
theorem dX9_findWays_22 : decode cX9_findWays 22 = .ok (.if_icmp .ne 7, 3) := by decide +kernel
theorem dX9_findWays_25 : decode cX9_findWays 25 = .ok (.iconst 0, 1) := by decide +kernel
theorem dX9_findWays_26 : decode cX9_findWays 26 = .ok (.goto 23, 3) := by decide +kernel
theorem dX9_findWays_29 : decode cX9_findWays 29 = .ok (.aload_n 0, 1) := by decide +kernel
theorem dX9_findWays_30 : decode cX9_findWays 30 = .ok (.getfield 17, 3) := by decide +kernel
theorem dX9_findWays_33 : decode cX9_findWays 33 = .ok (.iload_n 1, 1) := by decide +kernel
theorem dX9_findWays_34 : decode cX9_findWays 34 = .ok (.iaload, 1) := by decide +kernel
theorem dX9_findWays_35 : decode cX9_findWays 35 = .ok (.ifCond .le 12, 3) := by decide +kernel
theorem dX9_findWays_38 : decode cX9_findWays 38 = .ok (.aload_n 0, 1) := by decide +kernel
theorem dX9_findWays_39 : decode cX9_findWays 39 = .ok (.getfield 17, 3) := by decide +kernel
theorem dX9_findWays_42 : decode cX9_findWays 42 = .ok (.iload_n 1, 1) := by decide +kernel
theorem dX9_findWays_43 : decode cX9_findWays 43 = .ok (.iaload, 1) := by decide +kernel
theorem dX9_findWays_44 : decode cX9_findWays 44 = .ok (.goto 5, 3) := by decide +kernel
theorem dX9_findWays_47 : decode cX9_findWays 47 = .ok (.bipush (-4), 2) := by decide +kernel
theorem dX9_findWays_49 : decode cX9_findWays 49 = .ok (.iastore, 1) := by decide +kernel
theorem dX9_findWays_50 : decode cX9_findWays 50 = .ok (.iinc 1 1, 3) := by decide +kernel
theorem dX9_findWays_53 : decode cX9_findWays 53 = .ok (.goto (-51), 3) := by decide +kernel
theorem dX9_findWays_56 : decode cX9_findWays 56 = .ok (.iconst 0, 1) := by decide +kernel
theorem dX9_findWays_57 : decode cX9_findWays 57 = .ok (.istore_n 1, 1) := by decide +kernel
theorem dX9_findWays_58 : decode cX9_findWays 58 = .ok (.iload_n 1, 1) := by decide +kernel
theorem dX9_findWays_59 : decode cX9_findWays 59 = .ok (.aload_n 0, 1) := by decide +kernel
theorem dX9_findWays_60 : decode cX9_findWays 60 = .ok (.getfield 75, 3) := by decide +kernel
theorem dX9_findWays_63 : decode cX9_findWays 63 = .ok (.if_icmp .ge 155, 3) := by decide +kernel
theorem dX9_findWays_66 : decode cX9_findWays 66 = .ok (.iconst 0, 1) := by decide +kernel
theorem dX9_findWays_67 : decode cX9_findWays 67 = .ok (.istore_n 2, 1) := by decide +kernel
theorem dX9_findWays_68 : decode cX9_findWays 68 = .ok (.iload_n 2, 1) := by decide +kernel
theorem dX9_findWays_69 : decode cX9_findWays 69 = .ok (.aload_n 0, 1) := by decide +kernel
theorem dX9_findWays_70 : decode cX9_findWays 70 = .ok (.getfield 75, 3) := by decide +kernel
theorem dX9_findWays_73 : decode cX9_findWays 73 = .ok (.if_icmp .ge 139, 3) := by decide +kernel
theorem dX9_findWays_76 : decode cX9_findWays 76 = .ok (.iconst 0, 1) := by decide +kernel
theorem dX9_findWays_77 : decode cX9_findWays 77 = .ok (.istore_n 3, 1) := by decide +kernel
theorem dX9_findWays_78 : decode cX9_findWays 78 = .ok (.iload_n 3, 1) := by decide +kernel
theorem dX9_findWays_79 : decode cX9_findWays 79 = .ok (.aload_n 0, 1) := by decide +kernel
theorem dX9_findWays_80 : decode cX9_findWays 80 = .ok (.getfield 75, 3) := by decide +kernel
theorem dX9_findWays_83 : decode cX9_findWays 83 = .ok (.if_icmp .ge 123, 3) := by decide +kernel
theorem dX9_findWays_86 : decode cX9_findWays 86 = .ok (.aload_n 0, 1) := by decide +kernel
theorem dX9_findWays_87 : decode cX9_findWays 87 = .ok (.getfield 66, 3) := by decide +kernel
theorem dX9_findWays_90 : decode cX9_findWays 90 = .ok (.bipush 12, 2) := by decide +kernel
theorem dX9_findWays_92 : decode cX9_findWays 92 = .ok (.iload_n 2, 1) := by decide +kernel
theorem dX9_findWays_93 : decode cX9_findWays 93 = .ok (.imul, 1) := by decide +kernel
theorem dX9_findWays_94 : decode cX9_findWays 94 = .ok (.iload_n 1, 1) := by decide +kernel
theorem dX9_findWays_95 : decode cX9_findWays 95 = .ok (.iadd, 1) := by decide +kernel
theorem dX9_findWays_96 : decode cX9_findWays 96 = .ok (.iaload, 1) := by decide +kernel
theorem dX9_findWays_97 : decode cX9_findWays 97 = .ok (.bipush (-4), 2) := by decide +kernel
theorem dX9_findWays_99 : decode cX9_findWays 99 = .ok (.if_icmp .eq 19, 3) := by decide +kernel
theorem dX9_findWays_102 : decode cX9_findWays 102 = .ok (.aload_n 0, 1) := by decide +kernel
theorem dX9_findWays_103 : decode cX9_findWays 103 = .ok (.getfield 66, 3) := by decide +kernel
theorem dX9_findWays_106 : decode cX9_findWays 106 = .ok (.bipush 12, 2) := by decide +kernel
theorem dX9_findWays_108 : decode cX9_findWays 108 = .ok (.iload_n 1, 1) := by decide +kernel
theorem dX9_findWays_109 : decode cX9_findWays 109 = .ok (.imul, 1) := by decide +kernel
theorem dX9_findWays_110 : decode cX9_findWays 110 = .ok (.iload_n 3, 1) := by decide +kernel
theorem dX9_findWays_111 : decode cX9_findWays 111 = .ok (.iadd, 1) := by decide +kernel
theorem dX9_findWays_112 : decode cX9_findWays 112 = .ok (.iaload, 1) := by decide +kernel
theorem dX9_findWays_113 : decode cX9_findWays 113 = .ok (.bipush (-4), 2) := by decide +kernel
theorem dX9_findWays_115 : decode cX9_findWays 115 = .ok (.if_icmp .ne 8, 3) := by decide +kernel
theorem dX9_findWays_118 : decode cX9_findWays 118 = .ok (.bipush (-4), 2) := by decide +kernel
theorem dX9_findWays_120 : decode cX9_findWays 120 = .ok (.goto 26, 3) := by decide +kernel
theorem dX9_findWays_123 : decode cX9_findWays 123 = .ok (.aload_n 0, 1) := by decide +kernel
theorem dX9_findWays_124 : decode cX9_findWays 124 = .ok (.getfield 66, 3) := by decide +kernel
theorem dX9_findWays_127 : decode cX9_findWays 127 = .ok (.bipush 12, 2) := by decide +kernel
theorem dX9_findWays_129 : decode cX9_findWays 129 = .ok (.iload_n 2, 1) := by decide +kernel
theorem dX9_findWays_130 : decode cX9_findWays 130 = .ok (.imul, 1) := by decide +kernel
theorem dX9_findWays_131 : decode cX9_findWays 131 = .ok (.iload_n 1, 1) := by decide +kernel
theorem dX9_findWays_132 : decode cX9_findWays 132 = .ok (.iadd, 1) := by decide +kernel
theorem dX9_findWays_133 : decode cX9_findWays 133 = .ok (.iaload, 1) := by decide +kernel
theorem dX9_findWays_134 : decode cX9_findWays 134 = .ok (.aload_n 0, 1) := by decide +kernel
theorem dX9_findWays_135 : decode cX9_findWays 135 = .ok (.getfield 66, 3) := by decide +kernel
theorem dX9_findWays_138 : decode cX9_findWays 138 = .ok (.bipush 12, 2) := by decide +kernel
theorem dX9_findWays_140 : decode cX9_findWays 140 = .ok (.iload_n 1, 1) := by decide +kernel
theorem dX9_findWays_141 : decode cX9_findWays 141 = .ok (.imul, 1) := by decide +kernel
theorem dX9_findWays_142 : decode cX9_findWays 142 = .ok (.iload_n 3, 1) := by decide +kernel
theorem dX9_findWays_143 : decode cX9_findWays 143 = .ok (.iadd, 1) := by decide +kernel
theorem dX9_findWays_144 : decode cX9_findWays 144 = .ok (.iaload, 1) := by decide +kernel
theorem dX9_findWays_145 : decode cX9_findWays 145 = .ok (.iadd, 1) := by decide +kernel
theorem dX9_findWays_146 : decode cX9_findWays 146 = .ok (.istore 4, 2) := by decide +kernel
theorem dX9_findWays_148 : decode cX9_findWays 148 = .ok (.iload 4, 2) := by decide +kernel
theorem dX9_findWays_150 : decode cX9_findWays 150 = .ok (.bipush (-4), 2) := by decide +kernel
theorem dX9_findWays_152 : decode cX9_findWays 152 = .ok (.if_icmp .eq 48, 3) := by decide +kernel
theorem dX9_findWays_155 : decode cX9_findWays 155 = .ok (.aload_n 0, 1) := by decide +kernel
theorem dX9_findWays_156 : decode cX9_findWays 156 = .ok (.getfield 66, 3) := by decide +kernel
theorem dX9_findWays_159 : decode cX9_findWays 159 = .ok (.bipush 12, 2) := by decide +kernel
theorem dX9_findWays_161 : decode cX9_findWays 161 = .ok (.iload_n 2, 1) := by decide +kernel
theorem dX9_findWays_162 : decode cX9_findWays 162 = .ok (.imul, 1) := by decide +kernel
theorem dX9_findWays_163 : decode cX9_findWays 163 = .ok (.iload_n 3, 1) := by decide +kernel
theorem dX9_findWays_164 : decode cX9_findWays 164 = .ok (.iadd, 1) := by decide +kernel
theorem dX9_findWays_165 : decode cX9_findWays 165 = .ok (.iaload, 1) := by decide +kernel
theorem dX9_findWays_166 : decode cX9_findWays 166 = .ok (.bipush (-4), 2) := by decide +kernel
theorem dX9_findWays_168 : decode cX9_findWays 168 = .ok (.if_icmp .eq 19, 3) := by decide +kernel
theorem dX9_findWays_171 : decode cX9_findWays 171 = .ok (.iload 4, 2) := by decide +kernel
theorem dX9_findWays_173 : decode cX9_findWays 173 = .ok (.aload_n 0, 1) := by decide +kernel
theorem dX9_findWays_174 : decode cX9_findWays 174 = .ok (.getfield 66, 3) := by decide +kernel
theorem dX9_findWays_177 : decode cX9_findWays 177 = .ok (.bipush 12, 2) := by decide +kernel
theorem dX9_findWays_179 : decode cX9_findWays 179 = .ok (.iload_n 2, 1) := by decide +kernel
theorem dX9_findWays_180 : decode cX9_findWays 180 = .ok (.imul, 1) := by decide +kernel
theorem dX9_findWays_181 : decode cX9_findWays 181 = .ok (.iload_n 3, 1) := by decide +kernel
theorem dX9_findWays_182 : decode cX9_findWays 182 = .ok (.iadd, 1) := by decide +kernel
theorem dX9_findWays_183 : decode cX9_findWays 183 = .ok (.iaload, 1) := by decide +kernel
theorem dX9_findWays_184 : decode cX9_findWays 184 = .ok (.if_icmp .ge 16, 3) := by decide +kernel
theorem dX9_findWays_187 : decode cX9_findWays 187 = .ok (.aload_n 0, 1) := by decide +kernel
theorem dX9_findWays_188 : decode cX9_findWays 188 = .ok (.getfield 66, 3) := by decide +kernel
theorem dX9_findWays_191 : decode cX9_findWays 191 = .ok (.bipush 12, 2) := by decide +kernel
theorem dX9_findWays_193 : decode cX9_findWays 193 = .ok (.iload_n 2, 1) := by decide +kernel
theorem dX9_findWays_194 : decode cX9_findWays 194 = .ok (.imul, 1) := by decide +kernel
theorem dX9_findWays_195 : decode cX9_findWays 195 = .ok (.iload_n 3, 1) := by decide +kernel
theorem dX9_findWays_196 : decode cX9_findWays 196 = .ok (.iadd, 1) := by decide +kernel
theorem dX9_findWays_197 : decode cX9_findWays 197 = .ok (.iload 4, 2) := by decide +kernel
theorem dX9_findWays_199 : decode cX9_findWays 199 = .ok (.iastore, 1) := by decide +kernel
theorem dX9_findWays_200 : decode cX9_findWays 200 = .ok (.iinc 3 1, 3) := by decide +kernel
theorem dX9_findWays_203 : decode cX9_findWays 203 = .ok (.goto (-125), 3) := by decide +kernel
theorem dX9_findWays_206 : decode cX9_findWays 206 = .ok (.iinc 2 1, 3) := by decide +kernel
theorem dX9_findWays_209 : decode cX9_findWays 209 = .ok (.goto (-141), 3) := by decide +kernel
theorem dX9_findWays_212 : decode cX9_findWays 212 = .ok (.iinc 1 1, 3) := by decide +kernel
theorem dX9_findWays_215 : decode cX9_findWays 215 = .ok (.goto (-157), 3) := by decide +kernel
theorem dX9_findWays_218 : decode cX9_findWays 218 = .ok (.return_, 1) := by decide +kernel
theorem dX9_apart_0 : decode cX9_apart 0 = .ok (.aload_n 0, 1) := by decide +kernel
theorem dX9_apart_1 : decode cX9_apart 1 = .ok (.iload_n 1, 1) := by decide +kernel
theorem dX9_apart_2 : decode cX9_apart 2 = .ok (.invokevirtual 90, 3) := by decide +kernel
theorem dX9_apart_5 : decode cX9_apart 5 = .ok (.ifCond .eq 11, 3) := by decide +kernel
theorem dX9_apart_8 : decode cX9_apart 8 = .ok (.aload_n 0, 1) := by decide +kernel
theorem dX9_apart_9 : decode cX9_apart 9 = .ok (.iload_n 2, 1) := by decide +kernel
theorem dX9_apart_10 : decode cX9_apart 10 = .ok (.invokevirtual 90, 3) := by decide +kernel
theorem dX9_apart_13 : decode cX9_apart 13 = .ok (.ifCond .ne 5, 3) := by decide +kernel
theorem dX9_apart_16 : decode cX9_apart 16 = .ok (.iconst (-1), 1) := by decide +kernel
theorem dX9_apart_17 : decode cX9_apart 17 = .ok (.ireturn, 1) := by decide +kernel
theorem dX9_apart_18 : decode cX9_apart 18 = .ok (.aload_n 0, 1) := by decide +kernel
theorem dX9_apart_19 : decode cX9_apart 19 = .ok (.invokevirtual 112, 3) := by decide +kernel
theorem dX9_apart_22 : decode cX9_apart 22 = .ok (.aload_n 0, 1) := by decide +kernel
theorem dX9_apart_23 : decode cX9_apart 23 = .ok (.getfield 66, 3) := by decide +kernel
theorem dX9_apart_26 : decode cX9_apart 26 = .ok (.bipush 12, 2) := by decide +kernel
theorem dX9_apart_28 : decode cX9_apart 28 = .ok (.iload_n 1, 1) := by decide +kernel
theorem dX9_apart_29 : decode cX9_apart 29 = .ok (.imul, 1) := by decide +kernel
theorem dX9_apart_30 : decode cX9_apart 30 = .ok (.iload_n 2, 1) := by decide +kernel
theorem dX9_apart_31 : decode cX9_apart 31 = .ok (.iadd, 1) := by decide +kernel
theorem dX9_apart_32 : decode cX9_apart 32 = .ok (.iaload, 1) := by decide +kernel
theorem dX9_apart_33 : decode cX9_apart 33 = .ok (.ireturn, 1) := by decide +kernel
theorem dX9_way_0 : decode cX9_way 0 = .ok (.aload_n 0, 1) := by decide +kernel
theorem dX9_way_1 : decode cX9_way 1 = .ok (.iload_n 1, 1) := by decide +kernel
theorem dX9_way_2 : decode cX9_way 2 = .ok (.invokevirtual 90, 3) := by decide +kernel
theorem dX9_way_5 : decode cX9_way 5 = .ok (.ifCond .eq 15, 3) := by decide +kernel
theorem dX9_way_8 : decode cX9_way 8 = .ok (.aload_n 0, 1) := by decide +kernel
theorem dX9_way_9 : decode cX9_way 9 = .ok (.iload_n 2, 1) := by decide +kernel
theorem dX9_way_10 : decode cX9_way 10 = .ok (.invokevirtual 90, 3) := by decide +kernel
theorem dX9_way_13 : decode cX9_way 13 = .ok (.ifCond .eq 7, 3) := by decide +kernel
theorem dX9_way_16 : decode cX9_way 16 = .ok (.iload_n 3, 1) := by decide +kernel
theorem dX9_way_17 : decode cX9_way 17 = .ok (.ifCond .ge 5, 3) := by decide +kernel
theorem dX9_way_20 : decode cX9_way 20 = .ok (.iconst (-1), 1) := by decide +kernel
theorem dX9_way_21 : decode cX9_way 21 = .ok (.ireturn, 1) := by decide +kernel
theorem dX9_way_22 : decode cX9_way 22 = .ok (.aload_n 0, 1) := by decide +kernel
theorem dX9_way_23 : decode cX9_way 23 = .ok (.invokevirtual 112, 3) := by decide +kernel
theorem dX9_way_26 : decode cX9_way 26 = .ok (.aload_n 0, 1) := by decide +kernel
theorem dX9_way_27 : decode cX9_way 27 = .ok (.getfield 66, 3) := by decide +kernel
theorem dX9_way_30 : decode cX9_way 30 = .ok (.bipush 12, 2) := by decide +kernel
theorem dX9_way_32 : decode cX9_way 32 = .ok (.iload_n 1, 1) := by decide +kernel
theorem dX9_way_33 : decode cX9_way 33 = .ok (.imul, 1) := by decide +kernel
theorem dX9_way_34 : decode cX9_way 34 = .ok (.iload_n 2, 1) := by decide +kernel
theorem dX9_way_35 : decode cX9_way 35 = .ok (.iadd, 1) := by decide +kernel
theorem dX9_way_36 : decode cX9_way 36 = .ok (.iaload, 1) := by decide +kernel
theorem dX9_way_37 : decode cX9_way 37 = .ok (.bipush (-4), 2) := by decide +kernel
theorem dX9_way_39 : decode cX9_way 39 = .ok (.if_icmp .ne 6, 3) := by decide +kernel
theorem dX9_way_42 : decode cX9_way 42 = .ok (.bipush (-4), 2) := by decide +kernel
theorem dX9_way_44 : decode cX9_way 44 = .ok (.ireturn, 1) := by decide +kernel
theorem dX9_way_45 : decode cX9_way 45 = .ok (.iload_n 1, 1) := by decide +kernel
theorem dX9_way_46 : decode cX9_way 46 = .ok (.istore 4, 2) := by decide +kernel
theorem dX9_way_48 : decode cX9_way 48 = .ok (.iconst 0, 1) := by decide +kernel
theorem dX9_way_49 : decode cX9_way 49 = .ok (.istore 5, 2) := by decide +kernel
theorem dX9_way_51 : decode cX9_way 51 = .ok (.iload 5, 2) := by decide +kernel
theorem dX9_way_53 : decode cX9_way 53 = .ok (.iload_n 3, 1) := by decide +kernel
theorem dX9_way_54 : decode cX9_way 54 = .ok (.if_icmp .ge 105, 3) := by decide +kernel
theorem dX9_way_57 : decode cX9_way 57 = .ok (.iload 4, 2) := by decide +kernel
theorem dX9_way_59 : decode cX9_way 59 = .ok (.iload_n 2, 1) := by decide +kernel
theorem dX9_way_60 : decode cX9_way 60 = .ok (.if_icmp .ne 6, 3) := by decide +kernel
theorem dX9_way_63 : decode cX9_way 63 = .ok (.bipush (-4), 2) := by decide +kernel
theorem dX9_way_65 : decode cX9_way 65 = .ok (.ireturn, 1) := by decide +kernel
theorem dX9_way_66 : decode cX9_way 66 = .ok (.iconst 0, 1) := by decide +kernel
theorem dX9_way_67 : decode cX9_way 67 = .ok (.istore 6, 2) := by decide +kernel
theorem dX9_way_69 : decode cX9_way 69 = .ok (.aload_n 0, 1) := by decide +kernel
theorem dX9_way_70 : decode cX9_way 70 = .ok (.getfield 17, 3) := by decide +kernel
theorem dX9_way_73 : decode cX9_way 73 = .ok (.bipush 12, 2) := by decide +kernel
theorem dX9_way_75 : decode cX9_way 75 = .ok (.iload 4, 2) := by decide +kernel
theorem dX9_way_77 : decode cX9_way 77 = .ok (.imul, 1) := by decide +kernel
theorem dX9_way_78 : decode cX9_way 78 = .ok (.iload 6, 2) := by decide +kernel
theorem dX9_way_80 : decode cX9_way 80 = .ok (.iadd, 1) := by decide +kernel
theorem dX9_way_81 : decode cX9_way 81 = .ok (.iaload, 1) := by decide +kernel
theorem dX9_way_82 : decode cX9_way 82 = .ok (.ifCond .eq 61, 3) := by decide +kernel
theorem dX9_way_85 : decode cX9_way 85 = .ok (.aload_n 0, 1) := by decide +kernel
theorem dX9_way_86 : decode cX9_way 86 = .ok (.getfield 66, 3) := by decide +kernel
theorem dX9_way_89 : decode cX9_way 89 = .ok (.bipush 12, 2) := by decide +kernel
theorem dX9_way_91 : decode cX9_way 91 = .ok (.iload 6, 2) := by decide +kernel
theorem dX9_way_93 : decode cX9_way 93 = .ok (.imul, 1) := by decide +kernel
theorem dX9_way_94 : decode cX9_way 94 = .ok (.iload_n 2, 1) := by decide +kernel
theorem dX9_way_95 : decode cX9_way 95 = .ok (.iadd, 1) := by decide +kernel
theorem dX9_way_96 : decode cX9_way 96 = .ok (.iaload, 1) := by decide +kernel
theorem dX9_way_97 : decode cX9_way 97 = .ok (.bipush (-4), 2) := by decide +kernel
theorem dX9_way_99 : decode cX9_way 99 = .ok (.if_icmp .eq 44, 3) := by decide +kernel
theorem dX9_way_102 : decode cX9_way 102 = .ok (.aload_n 0, 1) := by decide +kernel
theorem dX9_way_103 : decode cX9_way 103 = .ok (.getfield 17, 3) := by decide +kernel
theorem dX9_way_106 : decode cX9_way 106 = .ok (.bipush 12, 2) := by decide +kernel
theorem dX9_way_108 : decode cX9_way 108 = .ok (.iload 4, 2) := by decide +kernel
theorem dX9_way_110 : decode cX9_way 110 = .ok (.imul, 1) := by decide +kernel
theorem dX9_way_111 : decode cX9_way 111 = .ok (.iload 6, 2) := by decide +kernel
theorem dX9_way_113 : decode cX9_way 113 = .ok (.iadd, 1) := by decide +kernel
theorem dX9_way_114 : decode cX9_way 114 = .ok (.iaload, 1) := by decide +kernel
theorem dX9_way_115 : decode cX9_way 115 = .ok (.aload_n 0, 1) := by decide +kernel
theorem dX9_way_116 : decode cX9_way 116 = .ok (.getfield 66, 3) := by decide +kernel
theorem dX9_way_119 : decode cX9_way 119 = .ok (.bipush 12, 2) := by decide +kernel
theorem dX9_way_121 : decode cX9_way 121 = .ok (.iload 6, 2) := by decide +kernel
theorem dX9_way_123 : decode cX9_way 123 = .ok (.imul, 1) := by decide +kernel
theorem dX9_way_124 : decode cX9_way 124 = .ok (.iload_n 2, 1) := by decide +kernel
theorem dX9_way_125 : decode cX9_way 125 = .ok (.iadd, 1) := by decide +kernel
theorem dX9_way_126 : decode cX9_way 126 = .ok (.iaload, 1) := by decide +kernel
theorem dX9_way_127 : decode cX9_way 127 = .ok (.iadd, 1) := by decide +kernel
theorem dX9_way_128 : decode cX9_way 128 = .ok (.aload_n 0, 1) := by decide +kernel
theorem dX9_way_129 : decode cX9_way 129 = .ok (.getfield 66, 3) := by decide +kernel
theorem dX9_way_132 : decode cX9_way 132 = .ok (.bipush 12, 2) := by decide +kernel
theorem dX9_way_134 : decode cX9_way 134 = .ok (.iload 4, 2) := by decide +kernel
theorem dX9_way_136 : decode cX9_way 136 = .ok (.imul, 1) := by decide +kernel
theorem dX9_way_137 : decode cX9_way 137 = .ok (.iload_n 2, 1) := by decide +kernel
theorem dX9_way_138 : decode cX9_way 138 = .ok (.iadd, 1) := by decide +kernel
theorem dX9_way_139 : decode cX9_way 139 = .ok (.iaload, 1) := by decide +kernel
theorem dX9_way_140 : decode cX9_way 140 = .ok (.if_icmp .eq 9, 3) := by decide +kernel
theorem dX9_way_143 : decode cX9_way 143 = .ok (.iinc 6 1, 3) := by decide +kernel
theorem dX9_way_146 : decode cX9_way 146 = .ok (.goto (-77), 3) := by decide +kernel
theorem dX9_way_149 : decode cX9_way 149 = .ok (.iload 6, 2) := by decide +kernel
theorem dX9_way_151 : decode cX9_way 151 = .ok (.istore 4, 2) := by decide +kernel
theorem dX9_way_153 : decode cX9_way 153 = .ok (.iinc 5 1, 3) := by decide +kernel
theorem dX9_way_156 : decode cX9_way 156 = .ok (.goto (-105), 3) := by decide +kernel
theorem dX9_way_159 : decode cX9_way 159 = .ok (.iload 4, 2) := by decide +kernel
theorem dX9_way_161 : decode cX9_way 161 = .ok (.ireturn, 1) := by decide +kernel
theorem dX9_carried_0 : decode cX9_carried 0 = .ok (.aload_n 0, 1) := by decide +kernel
theorem dX9_carried_1 : decode cX9_carried 1 = .ok (.getfield 66, 3) := by decide +kernel
theorem dX9_carried_4 : decode cX9_carried 4 = .ok (.bipush 12, 2) := by decide +kernel
theorem dX9_carried_6 : decode cX9_carried 6 = .ok (.aload_n 0, 1) := by decide +kernel
theorem dX9_carried_7 : decode cX9_carried 7 = .ok (.getfield 20, 3) := by decide +kernel
theorem dX9_carried_10 : decode cX9_carried 10 = .ok (.iload_n 1, 1) := by decide +kernel
theorem dX9_carried_11 : decode cX9_carried 11 = .ok (.iaload, 1) := by decide +kernel
theorem dX9_carried_12 : decode cX9_carried 12 = .ok (.imul, 1) := by decide +kernel
theorem dX9_carried_13 : decode cX9_carried 13 = .ok (.iload_n 2, 1) := by decide +kernel
theorem dX9_carried_14 : decode cX9_carried 14 = .ok (.iadd, 1) := by decide +kernel
theorem dX9_carried_15 : decode cX9_carried 15 = .ok (.iaload, 1) := by decide +kernel
theorem dX9_carried_16 : decode cX9_carried 16 = .ok (.istore_n 3, 1) := by decide +kernel
theorem dX9_carried_17 : decode cX9_carried 17 = .ok (.iload_n 3, 1) := by decide +kernel
theorem dX9_carried_18 : decode cX9_carried 18 = .ok (.bipush (-4), 2) := by decide +kernel
theorem dX9_carried_20 : decode cX9_carried 20 = .ok (.if_icmp .eq 23, 3) := by decide +kernel
theorem dX9_carried_23 : decode cX9_carried 23 = .ok (.aload_n 0, 1) := by decide +kernel
theorem dX9_carried_24 : decode cX9_carried 24 = .ok (.getfield 23, 3) := by decide +kernel
theorem dX9_carried_27 : decode cX9_carried 27 = .ok (.iload_n 1, 1) := by decide +kernel
theorem dX9_carried_28 : decode cX9_carried 28 = .ok (.iaload, 1) := by decide +kernel
theorem dX9_carried_29 : decode cX9_carried 29 = .ok (.iconst 4, 1) := by decide +kernel
theorem dX9_carried_30 : decode cX9_carried 30 = .ok (.if_icmp .ne 18, 3) := by decide +kernel
theorem dX9_carried_33 : decode cX9_carried 33 = .ok (.iload_n 3, 1) := by decide +kernel
theorem dX9_carried_34 : decode cX9_carried 34 = .ok (.aload_n 0, 1) := by decide +kernel
theorem dX9_carried_35 : decode cX9_carried 35 = .ok (.getfield 29, 3) := by decide +kernel
theorem dX9_carried_38 : decode cX9_carried 38 = .ok (.iload_n 1, 1) := by decide +kernel
theorem dX9_carried_39 : decode cX9_carried 39 = .ok (.iaload, 1) := by decide +kernel
theorem dX9_carried_40 : decode cX9_carried 40 = .ok (.if_icmp .le 8, 3) := by decide +kernel
theorem dX9_carried_43 : decode cX9_carried 43 = .ok (.bipush (-4), 2) := by decide +kernel
theorem dX9_carried_45 : decode cX9_carried 45 = .ok (.goto 22, 3) := by decide +kernel
theorem dX9_carried_48 : decode cX9_carried 48 = .ok (.aload_n 0, 1) := by decide +kernel
theorem dX9_carried_49 : decode cX9_carried 49 = .ok (.getfield 23, 3) := by decide +kernel
theorem dX9_carried_52 : decode cX9_carried 52 = .ok (.iload_n 1, 1) := by decide +kernel
theorem dX9_carried_53 : decode cX9_carried 53 = .ok (.iaload, 1) := by decide +kernel
theorem dX9_carried_54 : decode cX9_carried 54 = .ok (.iconst 1, 1) := by decide +kernel
theorem dX9_carried_55 : decode cX9_carried 55 = .ok (.if_icmp .ne 11, 3) := by decide +kernel
theorem dX9_carried_58 : decode cX9_carried 58 = .ok (.iload_n 3, 1) := by decide +kernel
theorem dX9_carried_59 : decode cX9_carried 59 = .ok (.iconst 1, 1) := by decide +kernel
theorem dX9_carried_60 : decode cX9_carried 60 = .ok (.iadd, 1) := by decide +kernel
theorem dX9_carried_61 : decode cX9_carried 61 = .ok (.iconst 2, 1) := by decide +kernel
theorem dX9_carried_62 : decode cX9_carried 62 = .ok (.idiv, 1) := by decide +kernel
theorem dX9_carried_63 : decode cX9_carried 63 = .ok (.goto 4, 3) := by decide +kernel
theorem dX9_carried_66 : decode cX9_carried 66 = .ok (.iload_n 3, 1) := by decide +kernel
theorem dX9_carried_67 : decode cX9_carried 67 = .ok (.ireturn, 1) := by decide +kernel
theorem dX9_ovenCost_0 : decode cX9_ovenCost 0 = .ok (.aload_n 0, 1) := by decide +kernel
theorem dX9_ovenCost_1 : decode cX9_ovenCost 1 = .ok (.getfield 23, 3) := by decide +kernel
theorem dX9_ovenCost_4 : decode cX9_ovenCost 4 = .ok (.iload_n 1, 1) := by decide +kernel
theorem dX9_ovenCost_5 : decode cX9_ovenCost 5 = .ok (.iaload, 1) := by decide +kernel
theorem dX9_ovenCost_6 : decode cX9_ovenCost 6 = .ok (.iconst 2, 1) := by decide +kernel
theorem dX9_ovenCost_7 : decode cX9_ovenCost 7 = .ok (.if_icmp .eq 13, 3) := by decide +kernel
theorem dX9_ovenCost_10 : decode cX9_ovenCost 10 = .ok (.aload_n 0, 1) := by decide +kernel
theorem dX9_ovenCost_11 : decode cX9_ovenCost 11 = .ok (.getfield 23, 3) := by decide +kernel
theorem dX9_ovenCost_14 : decode cX9_ovenCost 14 = .ok (.iload_n 1, 1) := by decide +kernel
theorem dX9_ovenCost_15 : decode cX9_ovenCost 15 = .ok (.iaload, 1) := by decide +kernel
theorem dX9_ovenCost_16 : decode cX9_ovenCost 16 = .ok (.iconst 3, 1) := by decide +kernel
theorem dX9_ovenCost_17 : decode cX9_ovenCost 17 = .ok (.if_icmp .ne 7, 3) := by decide +kernel
theorem dX9_ovenCost_20 : decode cX9_ovenCost 20 = .ok (.iconst 0, 1) := by decide +kernel
theorem dX9_ovenCost_21 : decode cX9_ovenCost 21 = .ok (.goto 9, 3) := by decide +kernel
theorem dX9_ovenCost_24 : decode cX9_ovenCost 24 = .ok (.aload_n 0, 1) := by decide +kernel
theorem dX9_ovenCost_25 : decode cX9_ovenCost 25 = .ok (.getfield 26, 3) := by decide +kernel
theorem dX9_ovenCost_28 : decode cX9_ovenCost 28 = .ok (.iload_n 1, 1) := by decide +kernel
theorem dX9_ovenCost_29 : decode cX9_ovenCost 29 = .ok (.iaload, 1) := by decide +kernel
theorem dX9_ovenCost_30 : decode cX9_ovenCost 30 = .ok (.ireturn, 1) := by decide +kernel
theorem dX9_isChoice_0 : decode cX9_isChoice 0 = .ok (.iload_n 1, 1) := by decide +kernel
theorem dX9_isChoice_1 : decode cX9_isChoice 1 = .ok (.i2l, 1) := by decide +kernel
theorem dX9_isChoice_2 : decode cX9_isChoice 2 = .ok (.lconst 0, 1) := by decide +kernel
theorem dX9_isChoice_3 : decode cX9_isChoice 3 = .ok (.iconst 1, 1) := by decide +kernel
theorem dX9_isChoice_4 : decode cX9_isChoice 4 = .ok (.aload_n 0, 1) := by decide +kernel
theorem dX9_isChoice_5 : decode cX9_isChoice 5 = .ok (.getfield 78, 3) := by decide +kernel
theorem dX9_isChoice_8 : decode cX9_isChoice 8 = .ok (.ishl, 1) := by decide +kernel
theorem dX9_isChoice_9 : decode cX9_isChoice 9 = .ok (.iconst 1, 1) := by decide +kernel
theorem dX9_isChoice_10 : decode cX9_isChoice 10 = .ok (.isub, 1) := by decide +kernel
theorem dX9_isChoice_11 : decode cX9_isChoice 11 = .ok (.i2l, 1) := by decide +kernel
theorem dX9_isChoice_12 : decode cX9_isChoice 12 = .ok (.invokestatic 81, 3) := by decide +kernel
theorem dX9_isChoice_15 : decode cX9_isChoice 15 = .ok (.ireturn, 1) := by decide +kernel
theorem dX9_isAllowed_0 : decode cX9_isAllowed 0 = .ok (.iconst 0, 1) := by decide +kernel
theorem dX9_isAllowed_1 : decode cX9_isAllowed 1 = .ok (.istore_n 2, 1) := by decide +kernel
theorem dX9_isAllowed_2 : decode cX9_isAllowed 2 = .ok (.iconst 1, 1) := by decide +kernel
theorem dX9_isAllowed_3 : decode cX9_isAllowed 3 = .ok (.istore_n 3, 1) := by decide +kernel
theorem dX9_isAllowed_4 : decode cX9_isAllowed 4 = .ok (.iconst 0, 1) := by decide +kernel
theorem dX9_isAllowed_5 : decode cX9_isAllowed 5 = .ok (.istore 4, 2) := by decide +kernel
theorem dX9_isAllowed_7 : decode cX9_isAllowed 7 = .ok (.iload 4, 2) := by decide +kernel
theorem dX9_isAllowed_9 : decode cX9_isAllowed 9 = .ok (.aload_n 0, 1) := by decide +kernel
theorem dX9_isAllowed_10 : decode cX9_isAllowed 10 = .ok (.getfield 78, 3) := by decide +kernel
theorem dX9_isAllowed_13 : decode cX9_isAllowed 13 = .ok (.if_icmp .ge 80, 3) := by decide +kernel
theorem dX9_isAllowed_16 : decode cX9_isAllowed 16 = .ok (.iload_n 1, 1) := by decide +kernel
theorem dX9_isAllowed_17 : decode cX9_isAllowed 17 = .ok (.iload 4, 2) := by decide +kernel
theorem dX9_isAllowed_19 : decode cX9_isAllowed 19 = .ok (.ishr, 1) := by decide +kernel
theorem dX9_isAllowed_20 : decode cX9_isAllowed 20 = .ok (.iconst 1, 1) := by decide +kernel
theorem dX9_isAllowed_21 : decode cX9_isAllowed 21 = .ok (.iand, 1) := by decide +kernel
theorem dX9_isAllowed_22 : decode cX9_isAllowed 22 = .ok (.iconst 1, 1) := by decide +kernel
theorem dX9_isAllowed_23 : decode cX9_isAllowed 23 = .ok (.if_icmp .ne 7, 3) := by decide +kernel
theorem dX9_isAllowed_26 : decode cX9_isAllowed 26 = .ok (.iconst 1, 1) := by decide +kernel
theorem dX9_isAllowed_27 : decode cX9_isAllowed 27 = .ok (.goto 4, 3) := by decide +kernel
theorem dX9_isAllowed_30 : decode cX9_isAllowed 30 = .ok (.iconst 0, 1) := by decide +kernel
theorem dX9_isAllowed_31 : decode cX9_isAllowed 31 = .ok (.istore 5, 2) := by decide +kernel
theorem dX9_isAllowed_33 : decode cX9_isAllowed 33 = .ok (.iload_n 2, 1) := by decide +kernel
theorem dX9_isAllowed_34 : decode cX9_isAllowed 34 = .ok (.iload 5, 2) := by decide +kernel
theorem dX9_isAllowed_36 : decode cX9_isAllowed 36 = .ok (.ifCond .eq 22, 3) := by decide +kernel
theorem dX9_isAllowed_39 : decode cX9_isAllowed 39 = .ok (.aload_n 0, 1) := by decide +kernel
theorem dX9_isAllowed_40 : decode cX9_isAllowed 40 = .ok (.getfield 23, 3) := by decide +kernel
theorem dX9_isAllowed_43 : decode cX9_isAllowed 43 = .ok (.iload 4, 2) := by decide +kernel
theorem dX9_isAllowed_45 : decode cX9_isAllowed 45 = .ok (.iaload, 1) := by decide +kernel
theorem dX9_isAllowed_46 : decode cX9_isAllowed 46 = .ok (.iconst 1, 1) := by decide +kernel
theorem dX9_isAllowed_47 : decode cX9_isAllowed 47 = .ok (.if_icmp .ne 7, 3) := by decide +kernel
theorem dX9_isAllowed_50 : decode cX9_isAllowed 50 = .ok (.iconst 2, 1) := by decide +kernel
theorem dX9_isAllowed_51 : decode cX9_isAllowed 51 = .ok (.goto 8, 3) := by decide +kernel
theorem dX9_isAllowed_54 : decode cX9_isAllowed 54 = .ok (.iconst 1, 1) := by decide +kernel
theorem dX9_isAllowed_55 : decode cX9_isAllowed 55 = .ok (.goto 4, 3) := by decide +kernel
theorem dX9_isAllowed_58 : decode cX9_isAllowed 58 = .ok (.iconst 0, 1) := by decide +kernel
theorem dX9_isAllowed_59 : decode cX9_isAllowed 59 = .ok (.iadd, 1) := by decide +kernel
theorem dX9_isAllowed_60 : decode cX9_isAllowed 60 = .ok (.istore_n 2, 1) := by decide +kernel
theorem dX9_isAllowed_61 : decode cX9_isAllowed 61 = .ok (.iload_n 3, 1) := by decide +kernel
theorem dX9_isAllowed_62 : decode cX9_isAllowed 62 = .ok (.ifCond .eq 23, 3) := by decide +kernel
theorem dX9_isAllowed_65 : decode cX9_isAllowed 65 = .ok (.iload 5, 2) := by decide +kernel
theorem dX9_isAllowed_67 : decode cX9_isAllowed 67 = .ok (.ifCond .ne 14, 3) := by decide +kernel
theorem dX9_isAllowed_70 : decode cX9_isAllowed 70 = .ok (.aload_n 0, 1) := by decide +kernel
theorem dX9_isAllowed_71 : decode cX9_isAllowed 71 = .ok (.getfield 23, 3) := by decide +kernel
theorem dX9_isAllowed_74 : decode cX9_isAllowed 74 = .ok (.iload 4, 2) := by decide +kernel
theorem dX9_isAllowed_76 : decode cX9_isAllowed 76 = .ok (.iaload, 1) := by decide +kernel
theorem dX9_isAllowed_77 : decode cX9_isAllowed 77 = .ok (.iconst 3, 1) := by decide +kernel
theorem dX9_isAllowed_78 : decode cX9_isAllowed 78 = .ok (.if_icmp .eq 7, 3) := by decide +kernel
theorem dX9_isAllowed_81 : decode cX9_isAllowed 81 = .ok (.iconst 1, 1) := by decide +kernel
theorem dX9_isAllowed_82 : decode cX9_isAllowed 82 = .ok (.goto 4, 3) := by decide +kernel
theorem dX9_isAllowed_85 : decode cX9_isAllowed 85 = .ok (.iconst 0, 1) := by decide +kernel
theorem dX9_isAllowed_86 : decode cX9_isAllowed 86 = .ok (.istore_n 3, 1) := by decide +kernel
theorem dX9_isAllowed_87 : decode cX9_isAllowed 87 = .ok (.iinc 4 1, 3) := by decide +kernel
theorem dX9_isAllowed_90 : decode cX9_isAllowed 90 = .ok (.goto (-83), 3) := by decide +kernel
theorem dX9_isAllowed_93 : decode cX9_isAllowed 93 = .ok (.iload_n 3, 1) := by decide +kernel
theorem dX9_isAllowed_94 : decode cX9_isAllowed 94 = .ok (.ifCond .eq 15, 3) := by decide +kernel
theorem dX9_isAllowed_97 : decode cX9_isAllowed 97 = .ok (.iload_n 2, 1) := by decide +kernel
theorem dX9_isAllowed_98 : decode cX9_isAllowed 98 = .ok (.aload_n 0, 1) := by decide +kernel
theorem dX9_isAllowed_99 : decode cX9_isAllowed 99 = .ok (.getfield 32, 3) := by decide +kernel
theorem dX9_isAllowed_102 : decode cX9_isAllowed 102 = .ok (.if_icmp .gt 7, 3) := by decide +kernel
theorem dX9_isAllowed_105 : decode cX9_isAllowed 105 = .ok (.iconst 1, 1) := by decide +kernel
theorem dX9_isAllowed_106 : decode cX9_isAllowed 106 = .ok (.goto 4, 3) := by decide +kernel
theorem dX9_isAllowed_109 : decode cX9_isAllowed 109 = .ok (.iconst 0, 1) := by decide +kernel
theorem dX9_isAllowed_110 : decode cX9_isAllowed 110 = .ok (.ireturn, 1) := by decide +kernel
theorem dX9_servedBy_0 : decode cX9_servedBy 0 = .ok (.bipush (-4), 2) := by decide +kernel
theorem dX9_servedBy_2 : decode cX9_servedBy 2 = .ok (.istore_n 3, 1) := by decide +kernel
theorem dX9_servedBy_3 : decode cX9_servedBy 3 = .ok (.iconst 0, 1) := by decide +kernel
theorem dX9_servedBy_4 : decode cX9_servedBy 4 = .ok (.istore 4, 2) := by decide +kernel
theorem dX9_servedBy_6 : decode cX9_servedBy 6 = .ok (.iload 4, 2) := by decide +kernel
theorem dX9_servedBy_8 : decode cX9_servedBy 8 = .ok (.aload_n 0, 1) := by decide +kernel
theorem dX9_servedBy_9 : decode cX9_servedBy 9 = .ok (.getfield 78, 3) := by decide +kernel
theorem dX9_servedBy_12 : decode cX9_servedBy 12 = .ok (.if_icmp .ge 56, 3) := by decide +kernel
theorem dX9_servedBy_15 : decode cX9_servedBy 15 = .ok (.iload_n 1, 1) := by decide +kernel
theorem dX9_servedBy_16 : decode cX9_servedBy 16 = .ok (.iload 4, 2) := by decide +kernel
theorem dX9_servedBy_18 : decode cX9_servedBy 18 = .ok (.ishr, 1) := by decide +kernel
theorem dX9_servedBy_19 : decode cX9_servedBy 19 = .ok (.iconst 1, 1) := by decide +kernel
theorem dX9_servedBy_20 : decode cX9_servedBy 20 = .ok (.iand, 1) := by decide +kernel
theorem dX9_servedBy_21 : decode cX9_servedBy 21 = .ok (.iconst 1, 1) := by decide +kernel
theorem dX9_servedBy_22 : decode cX9_servedBy 22 = .ok (.if_icmp .ne 40, 3) := by decide +kernel
theorem dX9_servedBy_25 : decode cX9_servedBy 25 = .ok (.aload_n 0, 1) := by decide +kernel
theorem dX9_servedBy_26 : decode cX9_servedBy 26 = .ok (.iload 4, 2) := by decide +kernel
theorem dX9_servedBy_28 : decode cX9_servedBy 28 = .ok (.iload_n 2, 1) := by decide +kernel
theorem dX9_servedBy_29 : decode cX9_servedBy 29 = .ok (.invokevirtual 115, 3) := by decide +kernel
theorem dX9_servedBy_32 : decode cX9_servedBy 32 = .ok (.bipush (-4), 2) := by decide +kernel
theorem dX9_servedBy_34 : decode cX9_servedBy 34 = .ok (.if_icmp .eq 28, 3) := by decide +kernel
theorem dX9_servedBy_37 : decode cX9_servedBy 37 = .ok (.iload_n 3, 1) := by decide +kernel
theorem dX9_servedBy_38 : decode cX9_servedBy 38 = .ok (.bipush (-4), 2) := by decide +kernel
theorem dX9_servedBy_40 : decode cX9_servedBy 40 = .ok (.if_icmp .eq 19, 3) := by decide +kernel
theorem dX9_servedBy_43 : decode cX9_servedBy 43 = .ok (.aload_n 0, 1) := by decide +kernel
theorem dX9_servedBy_44 : decode cX9_servedBy 44 = .ok (.iload 4, 2) := by decide +kernel
theorem dX9_servedBy_46 : decode cX9_servedBy 46 = .ok (.iload_n 2, 1) := by decide +kernel
theorem dX9_servedBy_47 : decode cX9_servedBy 47 = .ok (.invokevirtual 115, 3) := by decide +kernel
theorem dX9_servedBy_50 : decode cX9_servedBy 50 = .ok (.aload_n 0, 1) := by decide +kernel
theorem dX9_servedBy_51 : decode cX9_servedBy 51 = .ok (.iload_n 3, 1) := by decide +kernel
theorem dX9_servedBy_52 : decode cX9_servedBy 52 = .ok (.iload_n 2, 1) := by decide +kernel
theorem dX9_servedBy_53 : decode cX9_servedBy 53 = .ok (.invokevirtual 115, 3) := by decide +kernel
theorem dX9_servedBy_56 : decode cX9_servedBy 56 = .ok (.if_icmp .ge 6, 3) := by decide +kernel
theorem dX9_servedBy_59 : decode cX9_servedBy 59 = .ok (.iload 4, 2) := by decide +kernel
theorem dX9_servedBy_61 : decode cX9_servedBy 61 = .ok (.istore_n 3, 1) := by decide +kernel
theorem dX9_servedBy_62 : decode cX9_servedBy 62 = .ok (.iinc 4 1, 3) := by decide +kernel
theorem dX9_servedBy_65 : decode cX9_servedBy 65 = .ok (.goto (-59), 3) := by decide +kernel
theorem dX9_servedBy_68 : decode cX9_servedBy 68 = .ok (.iload_n 3, 1) := by decide +kernel
theorem dX9_servedBy_69 : decode cX9_servedBy 69 = .ok (.ireturn, 1) := by decide +kernel
theorem dX9_weigh_0 : decode cX9_weigh 0 = .ok (.aload_n 0, 1) := by decide +kernel
theorem dX9_weigh_1 : decode cX9_weigh 1 = .ok (.iconst 0, 1) := by decide +kernel
theorem dX9_weigh_2 : decode cX9_weigh 2 = .ok (.putfield 119, 3) := by decide +kernel
theorem dX9_weigh_5 : decode cX9_weigh 5 = .ok (.aload_n 0, 1) := by decide +kernel
theorem dX9_weigh_6 : decode cX9_weigh 6 = .ok (.lconst 0, 1) := by decide +kernel
theorem dX9_weigh_7 : decode cX9_weigh 7 = .ok (.putfield 122, 3) := by decide +kernel
theorem dX9_weigh_10 : decode cX9_weigh 10 = .ok (.aload_n 0, 1) := by decide +kernel
theorem dX9_weigh_11 : decode cX9_weigh 11 = .ok (.iconst 0, 1) := by decide +kernel
theorem dX9_weigh_12 : decode cX9_weigh 12 = .ok (.putfield 126, 3) := by decide +kernel
theorem dX9_weigh_15 : decode cX9_weigh 15 = .ok (.iconst 0, 1) := by decide +kernel
theorem dX9_weigh_16 : decode cX9_weigh 16 = .ok (.istore_n 2, 1) := by decide +kernel
theorem dX9_weigh_17 : decode cX9_weigh 17 = .ok (.iload_n 2, 1) := by decide +kernel
theorem dX9_weigh_18 : decode cX9_weigh 18 = .ok (.aload_n 0, 1) := by decide +kernel
theorem dX9_weigh_19 : decode cX9_weigh 19 = .ok (.getfield 78, 3) := by decide +kernel
theorem dX9_weigh_22 : decode cX9_weigh 22 = .ok (.if_icmp .ge 37, 3) := by decide +kernel
theorem dX9_weigh_25 : decode cX9_weigh 25 = .ok (.aload_n 0, 1) := by decide +kernel
theorem dX9_weigh_26 : decode cX9_weigh 26 = .ok (.dup, 1) := by decide +kernel
theorem dX9_weigh_27 : decode cX9_weigh 27 = .ok (.getfield 122, 3) := by decide +kernel
theorem dX9_weigh_30 : decode cX9_weigh 30 = .ok (.iload_n 1, 1) := by decide +kernel
theorem dX9_weigh_31 : decode cX9_weigh 31 = .ok (.iload_n 2, 1) := by decide +kernel
theorem dX9_weigh_32 : decode cX9_weigh 32 = .ok (.ishr, 1) := by decide +kernel
theorem dX9_weigh_33 : decode cX9_weigh 33 = .ok (.iconst 1, 1) := by decide +kernel
theorem dX9_weigh_34 : decode cX9_weigh 34 = .ok (.iand, 1) := by decide +kernel
theorem dX9_weigh_35 : decode cX9_weigh 35 = .ok (.iconst 1, 1) := by decide +kernel
theorem dX9_weigh_36 : decode cX9_weigh 36 = .ok (.if_icmp .ne 12, 3) := by decide +kernel
theorem dX9_weigh_39 : decode cX9_weigh 39 = .ok (.aload_n 0, 1) := by decide +kernel
theorem dX9_weigh_40 : decode cX9_weigh 40 = .ok (.iload_n 2, 1) := by decide +kernel
theorem dX9_weigh_41 : decode cX9_weigh 41 = .ok (.invokevirtual 129, 3) := by decide +kernel
theorem dX9_weigh_44 : decode cX9_weigh 44 = .ok (.i2l, 1) := by decide +kernel
theorem dX9_weigh_45 : decode cX9_weigh 45 = .ok (.goto 4, 3) := by decide +kernel
theorem dX9_weigh_48 : decode cX9_weigh 48 = .ok (.lconst 0, 1) := by decide +kernel
theorem dX9_weigh_49 : decode cX9_weigh 49 = .ok (.ladd, 1) := by decide +kernel
theorem dX9_weigh_50 : decode cX9_weigh 50 = .ok (.putfield 122, 3) := by decide +kernel
theorem dX9_weigh_53 : decode cX9_weigh 53 = .ok (.iinc 2 1, 3) := by decide +kernel
theorem dX9_weigh_56 : decode cX9_weigh 56 = .ok (.goto (-39), 3) := by decide +kernel
theorem dX9_weigh_59 : decode cX9_weigh 59 = .ok (.iconst 0, 1) := by decide +kernel
theorem dX9_weigh_60 : decode cX9_weigh 60 = .ok (.istore_n 2, 1) := by decide +kernel
theorem dX9_weigh_61 : decode cX9_weigh 61 = .ok (.iload_n 2, 1) := by decide +kernel
theorem dX9_weigh_62 : decode cX9_weigh 62 = .ok (.aload_n 0, 1) := by decide +kernel
theorem dX9_weigh_63 : decode cX9_weigh 63 = .ok (.getfield 75, 3) := by decide +kernel
theorem dX9_weigh_66 : decode cX9_weigh 66 = .ok (.if_icmp .ge 98, 3) := by decide +kernel
theorem dX9_weigh_69 : decode cX9_weigh 69 = .ok (.aload_n 0, 1) := by decide +kernel
theorem dX9_weigh_70 : decode cX9_weigh 70 = .ok (.getfield 7, 3) := by decide +kernel
theorem dX9_weigh_73 : decode cX9_weigh 73 = .ok (.iload_n 2, 1) := by decide +kernel
theorem dX9_weigh_74 : decode cX9_weigh 74 = .ok (.iaload, 1) := by decide +kernel
theorem dX9_weigh_75 : decode cX9_weigh 75 = .ok (.ifCond .le 83, 3) := by decide +kernel
theorem dX9_weigh_78 : decode cX9_weigh 78 = .ok (.aload_n 0, 1) := by decide +kernel
theorem dX9_weigh_79 : decode cX9_weigh 79 = .ok (.iload_n 1, 1) := by decide +kernel
theorem dX9_weigh_80 : decode cX9_weigh 80 = .ok (.iload_n 2, 1) := by decide +kernel
theorem dX9_weigh_81 : decode cX9_weigh 81 = .ok (.invokevirtual 133, 3) := by decide +kernel
theorem dX9_weigh_84 : decode cX9_weigh 84 = .ok (.istore_n 3, 1) := by decide +kernel
theorem dX9_weigh_85 : decode cX9_weigh 85 = .ok (.iload_n 3, 1) := by decide +kernel
theorem dX9_weigh_86 : decode cX9_weigh 86 = .ok (.bipush (-4), 2) := by decide +kernel
theorem dX9_weigh_88 : decode cX9_weigh 88 = .ok (.if_icmp .ne 16, 3) := by decide +kernel
theorem dX9_weigh_91 : decode cX9_weigh 91 = .ok (.aload_n 0, 1) := by decide +kernel
theorem dX9_weigh_92 : decode cX9_weigh 92 = .ok (.dup, 1) := by decide +kernel
theorem dX9_weigh_93 : decode cX9_weigh 93 = .ok (.getfield 119, 3) := by decide +kernel
theorem dX9_weigh_96 : decode cX9_weigh 96 = .ok (.iconst 1, 1) := by decide +kernel
theorem dX9_weigh_97 : decode cX9_weigh 97 = .ok (.iadd, 1) := by decide +kernel
theorem dX9_weigh_98 : decode cX9_weigh 98 = .ok (.putfield 119, 3) := by decide +kernel
theorem dX9_weigh_101 : decode cX9_weigh 101 = .ok (.goto 57, 3) := by decide +kernel
theorem dX9_weigh_104 : decode cX9_weigh 104 = .ok (.aload_n 0, 1) := by decide +kernel
theorem dX9_weigh_105 : decode cX9_weigh 105 = .ok (.dup, 1) := by decide +kernel
theorem dX9_weigh_106 : decode cX9_weigh 106 = .ok (.getfield 122, 3) := by decide +kernel
theorem dX9_weigh_109 : decode cX9_weigh 109 = .ok (.aload_n 0, 1) := by decide +kernel
theorem dX9_weigh_110 : decode cX9_weigh 110 = .ok (.getfield 7, 3) := by decide +kernel
theorem dX9_weigh_113 : decode cX9_weigh 113 = .ok (.iload_n 2, 1) := by decide +kernel
theorem dX9_weigh_114 : decode cX9_weigh 114 = .ok (.iaload, 1) := by decide +kernel
theorem dX9_weigh_115 : decode cX9_weigh 115 = .ok (.i2l, 1) := by decide +kernel
theorem dX9_weigh_116 : decode cX9_weigh 116 = .ok (.aload_n 0, 1) := by decide +kernel
theorem dX9_weigh_117 : decode cX9_weigh 117 = .ok (.iload_n 3, 1) := by decide +kernel
theorem dX9_weigh_118 : decode cX9_weigh 118 = .ok (.iload_n 2, 1) := by decide +kernel
theorem dX9_weigh_119 : decode cX9_weigh 119 = .ok (.invokevirtual 115, 3) := by decide +kernel
theorem dX9_weigh_122 : decode cX9_weigh 122 = .ok (.i2l, 1) := by decide +kernel
theorem dX9_weigh_123 : decode cX9_weigh 123 = .ok (.lmul, 1) := by decide +kernel
theorem dX9_weigh_124 : decode cX9_weigh 124 = .ok (.ladd, 1) := by decide +kernel
theorem dX9_weigh_125 : decode cX9_weigh 125 = .ok (.putfield 122, 3) := by decide +kernel
theorem dX9_weigh_128 : decode cX9_weigh 128 = .ok (.aload_n 0, 1) := by decide +kernel
theorem dX9_weigh_129 : decode cX9_weigh 129 = .ok (.aload_n 0, 1) := by decide +kernel
theorem dX9_weigh_130 : decode cX9_weigh 130 = .ok (.iload_n 3, 1) := by decide +kernel
theorem dX9_weigh_131 : decode cX9_weigh 131 = .ok (.iload_n 2, 1) := by decide +kernel
theorem dX9_weigh_132 : decode cX9_weigh 132 = .ok (.invokevirtual 115, 3) := by decide +kernel
theorem dX9_weigh_135 : decode cX9_weigh 135 = .ok (.aload_n 0, 1) := by decide +kernel
theorem dX9_weigh_136 : decode cX9_weigh 136 = .ok (.getfield 126, 3) := by decide +kernel
theorem dX9_weigh_139 : decode cX9_weigh 139 = .ok (.if_icmp .le 12, 3) := by decide +kernel
theorem dX9_weigh_142 : decode cX9_weigh 142 = .ok (.aload_n 0, 1) := by decide +kernel
theorem dX9_weigh_143 : decode cX9_weigh 143 = .ok (.iload_n 3, 1) := by decide +kernel
theorem dX9_weigh_144 : decode cX9_weigh 144 = .ok (.iload_n 2, 1) := by decide +kernel
theorem dX9_weigh_145 : decode cX9_weigh 145 = .ok (.invokevirtual 115, 3) := by decide +kernel
theorem dX9_weigh_148 : decode cX9_weigh 148 = .ok (.goto 7, 3) := by decide +kernel
theorem dX9_weigh_151 : decode cX9_weigh 151 = .ok (.aload_n 0, 1) := by decide +kernel
theorem dX9_weigh_152 : decode cX9_weigh 152 = .ok (.getfield 126, 3) := by decide +kernel
theorem dX9_weigh_155 : decode cX9_weigh 155 = .ok (.putfield 126, 3) := by decide +kernel
theorem dX9_weigh_158 : decode cX9_weigh 158 = .ok (.iinc 2 1, 3) := by decide +kernel
theorem dX9_weigh_161 : decode cX9_weigh 161 = .ok (.goto (-100), 3) := by decide +kernel
theorem dX9_weigh_164 : decode cX9_weigh 164 = .ok (.return_, 1) := by decide +kernel
theorem dX9_allowed_0 : decode cX9_allowed 0 = .ok (.aload_n 0, 1) := by decide +kernel
theorem dX9_allowed_1 : decode cX9_allowed 1 = .ok (.iload_n 1, 1) := by decide +kernel
theorem dX9_allowed_2 : decode cX9_allowed 2 = .ok (.invokevirtual 136, 3) := by decide +kernel
theorem dX9_allowed_5 : decode cX9_allowed 5 = .ok (.ifCond .ne 5, 3) := by decide +kernel
theorem dX9_allowed_8 : decode cX9_allowed 8 = .ok (.iconst (-1), 1) := by decide +kernel
theorem dX9_allowed_9 : decode cX9_allowed 9 = .ok (.ireturn, 1) := by decide +kernel
theorem dX9_allowed_10 : decode cX9_allowed 10 = .ok (.aload_n 0, 1) := by decide +kernel
theorem dX9_allowed_11 : decode cX9_allowed 11 = .ok (.iload_n 1, 1) := by decide +kernel
theorem dX9_allowed_12 : decode cX9_allowed 12 = .ok (.invokevirtual 139, 3) := by decide +kernel
theorem dX9_allowed_15 : decode cX9_allowed 15 = .ok (.ifCond .eq 7, 3) := by decide +kernel
theorem dX9_allowed_18 : decode cX9_allowed 18 = .ok (.iconst 1, 1) := by decide +kernel
theorem dX9_allowed_19 : decode cX9_allowed 19 = .ok (.goto 4, 3) := by decide +kernel
theorem dX9_allowed_22 : decode cX9_allowed 22 = .ok (.iconst 0, 1) := by decide +kernel
theorem dX9_allowed_23 : decode cX9_allowed 23 = .ok (.ireturn, 1) := by decide +kernel
theorem dX9_cost_0 : decode cX9_cost 0 = .ok (.aload_n 0, 1) := by decide +kernel
theorem dX9_cost_1 : decode cX9_cost 1 = .ok (.iload_n 1, 1) := by decide +kernel
theorem dX9_cost_2 : decode cX9_cost 2 = .ok (.invokevirtual 136, 3) := by decide +kernel
theorem dX9_cost_5 : decode cX9_cost 5 = .ok (.ifCond .ne 7, 3) := by decide +kernel
theorem dX9_cost_8 : decode cX9_cost 8 = .ok (.ldc2_w 142, 3) := by decide +kernel
theorem dX9_cost_11 : decode cX9_cost 11 = .ok (.lreturn, 1) := by decide +kernel
theorem dX9_cost_12 : decode cX9_cost 12 = .ok (.aload_n 0, 1) := by decide +kernel
theorem dX9_cost_13 : decode cX9_cost 13 = .ok (.invokevirtual 112, 3) := by decide +kernel
theorem dX9_cost_16 : decode cX9_cost 16 = .ok (.aload_n 0, 1) := by decide +kernel
theorem dX9_cost_17 : decode cX9_cost 17 = .ok (.iload_n 1, 1) := by decide +kernel
theorem dX9_cost_18 : decode cX9_cost 18 = .ok (.invokevirtual 144, 3) := by decide +kernel
theorem dX9_cost_21 : decode cX9_cost 21 = .ok (.aload_n 0, 1) := by decide +kernel
theorem dX9_cost_22 : decode cX9_cost 22 = .ok (.getfield 119, 3) := by decide +kernel
theorem dX9_cost_25 : decode cX9_cost 25 = .ok (.ifCond .le 9, 3) := by decide +kernel
theorem dX9_cost_28 : decode cX9_cost 28 = .ok (.ldc2_w 148, 3) := by decide +kernel
theorem dX9_cost_31 : decode cX9_cost 31 = .ok (.goto 7, 3) := by decide +kernel
theorem dX9_cost_34 : decode cX9_cost 34 = .ok (.aload_n 0, 1) := by decide +kernel
theorem dX9_cost_35 : decode cX9_cost 35 = .ok (.getfield 122, 3) := by decide +kernel
theorem dX9_cost_38 : decode cX9_cost 38 = .ok (.lreturn, 1) := by decide +kernel
theorem dX9_served_0 : decode cX9_served 0 = .ok (.aload_n 0, 1) := by decide +kernel
theorem dX9_served_1 : decode cX9_served 1 = .ok (.iload_n 1, 1) := by decide +kernel
theorem dX9_served_2 : decode cX9_served 2 = .ok (.invokevirtual 136, 3) := by decide +kernel
theorem dX9_served_5 : decode cX9_served 5 = .ok (.ifCond .eq 11, 3) := by decide +kernel
theorem dX9_served_8 : decode cX9_served 8 = .ok (.aload_n 0, 1) := by decide +kernel
theorem dX9_served_9 : decode cX9_served 9 = .ok (.iload_n 2, 1) := by decide +kernel
theorem dX9_served_10 : decode cX9_served 10 = .ok (.invokevirtual 90, 3) := by decide +kernel
theorem dX9_served_13 : decode cX9_served 13 = .ok (.ifCond .ne 5, 3) := by decide +kernel
theorem dX9_served_16 : decode cX9_served 16 = .ok (.iconst (-1), 1) := by decide +kernel
theorem dX9_served_17 : decode cX9_served 17 = .ok (.ireturn, 1) := by decide +kernel
theorem dX9_served_18 : decode cX9_served 18 = .ok (.aload_n 0, 1) := by decide +kernel
theorem dX9_served_19 : decode cX9_served 19 = .ok (.invokevirtual 112, 3) := by decide +kernel
theorem dX9_served_22 : decode cX9_served 22 = .ok (.aload_n 0, 1) := by decide +kernel
theorem dX9_served_23 : decode cX9_served 23 = .ok (.iload_n 1, 1) := by decide +kernel
theorem dX9_served_24 : decode cX9_served 24 = .ok (.iload_n 2, 1) := by decide +kernel
theorem dX9_served_25 : decode cX9_served 25 = .ok (.invokevirtual 133, 3) := by decide +kernel
theorem dX9_served_28 : decode cX9_served 28 = .ok (.ireturn, 1) := by decide +kernel
theorem dX9_share_0 : decode cX9_share 0 = .ok (.aload_n 0, 1) := by decide +kernel
theorem dX9_share_1 : decode cX9_share 1 = .ok (.iload_n 1, 1) := by decide +kernel
theorem dX9_share_2 : decode cX9_share 2 = .ok (.invokevirtual 136, 3) := by decide +kernel
theorem dX9_share_5 : decode cX9_share 5 = .ok (.ifCond .eq 23, 3) := by decide +kernel
theorem dX9_share_8 : decode cX9_share 8 = .ok (.aload_n 0, 1) := by decide +kernel
theorem dX9_share_9 : decode cX9_share 9 = .ok (.iload_n 2, 1) := by decide +kernel
theorem dX9_share_10 : decode cX9_share 10 = .ok (.invokevirtual 101, 3) := by decide +kernel
theorem dX9_share_13 : decode cX9_share 13 = .ok (.ifCond .eq 15, 3) := by decide +kernel
theorem dX9_share_16 : decode cX9_share 16 = .ok (.iload_n 3, 1) := by decide +kernel
theorem dX9_share_17 : decode cX9_share 17 = .ok (.i2l, 1) := by decide +kernel
theorem dX9_share_18 : decode cX9_share 18 = .ok (.lconst 0, 1) := by decide +kernel
theorem dX9_share_19 : decode cX9_share 19 = .ok (.ldc2_w 110, 3) := by decide +kernel
theorem dX9_share_22 : decode cX9_share 22 = .ok (.invokestatic 81, 3) := by decide +kernel
theorem dX9_share_25 : decode cX9_share 25 = .ok (.ifCond .ne 5, 3) := by decide +kernel
theorem dX9_share_28 : decode cX9_share 28 = .ok (.iconst (-1), 1) := by decide +kernel
theorem dX9_share_29 : decode cX9_share 29 = .ok (.ireturn, 1) := by decide +kernel
theorem dX9_share_30 : decode cX9_share 30 = .ok (.iload_n 1, 1) := by decide +kernel
theorem dX9_share_31 : decode cX9_share 31 = .ok (.iload_n 2, 1) := by decide +kernel
theorem dX9_share_32 : decode cX9_share 32 = .ok (.ishr, 1) := by decide +kernel
theorem dX9_share_33 : decode cX9_share 33 = .ok (.iconst 1, 1) := by decide +kernel
theorem dX9_share_34 : decode cX9_share 34 = .ok (.iand, 1) := by decide +kernel
theorem dX9_share_35 : decode cX9_share 35 = .ok (.ifCond .ne 6, 3) := by decide +kernel
theorem dX9_share_38 : decode cX9_share 38 = .ok (.bipush (-2), 2) := by decide +kernel
theorem dX9_share_40 : decode cX9_share 40 = .ok (.ireturn, 1) := by decide +kernel
theorem dX9_share_41 : decode cX9_share 41 = .ok (.aload_n 0, 1) := by decide +kernel
theorem dX9_share_42 : decode cX9_share 42 = .ok (.invokevirtual 112, 3) := by decide +kernel
theorem dX9_share_45 : decode cX9_share 45 = .ok (.iconst 0, 1) := by decide +kernel
theorem dX9_share_46 : decode cX9_share 46 = .ok (.istore 4, 2) := by decide +kernel
theorem dX9_share_48 : decode cX9_share 48 = .ok (.iconst 0, 1) := by decide +kernel
theorem dX9_share_49 : decode cX9_share 49 = .ok (.istore 5, 2) := by decide +kernel
theorem dX9_share_51 : decode cX9_share 51 = .ok (.iconst 0, 1) := by decide +kernel
theorem dX9_share_52 : decode cX9_share 52 = .ok (.istore 6, 2) := by decide +kernel
theorem dX9_share_54 : decode cX9_share 54 = .ok (.iconst 0, 1) := by decide +kernel
theorem dX9_share_55 : decode cX9_share 55 = .ok (.istore 7, 2) := by decide +kernel
theorem dX9_share_57 : decode cX9_share 57 = .ok (.iload 7, 2) := by decide +kernel
theorem dX9_share_59 : decode cX9_share 59 = .ok (.aload_n 0, 1) := by decide +kernel
theorem dX9_share_60 : decode cX9_share 60 = .ok (.getfield 75, 3) := by decide +kernel
theorem dX9_share_63 : decode cX9_share 63 = .ok (.if_icmp .ge 71, 3) := by decide +kernel
theorem dX9_share_66 : decode cX9_share 66 = .ok (.aload_n 0, 1) := by decide +kernel
theorem dX9_share_67 : decode cX9_share 67 = .ok (.getfield 7, 3) := by decide +kernel
theorem dX9_share_70 : decode cX9_share 70 = .ok (.iload 7, 2) := by decide +kernel
theorem dX9_share_72 : decode cX9_share 72 = .ok (.iaload, 1) := by decide +kernel
theorem dX9_share_73 : decode cX9_share 73 = .ok (.ifCond .le 55, 3) := by decide +kernel
theorem dX9_share_76 : decode cX9_share 76 = .ok (.aload_n 0, 1) := by decide +kernel
theorem dX9_share_77 : decode cX9_share 77 = .ok (.iload_n 1, 1) := by decide +kernel
theorem dX9_share_78 : decode cX9_share 78 = .ok (.iload 7, 2) := by decide +kernel
theorem dX9_share_80 : decode cX9_share 80 = .ok (.invokevirtual 133, 3) := by decide +kernel
theorem dX9_share_83 : decode cX9_share 83 = .ok (.iload_n 2, 1) := by decide +kernel
theorem dX9_share_84 : decode cX9_share 84 = .ok (.if_icmp .ne 44, 3) := by decide +kernel
theorem dX9_share_87 : decode cX9_share 87 = .ok (.iinc 4 1, 3) := by decide +kernel
theorem dX9_share_90 : decode cX9_share 90 = .ok (.iload 5, 2) := by decide +kernel
theorem dX9_share_92 : decode cX9_share 92 = .ok (.aload_n 0, 1) := by decide +kernel
theorem dX9_share_93 : decode cX9_share 93 = .ok (.getfield 7, 3) := by decide +kernel
theorem dX9_share_96 : decode cX9_share 96 = .ok (.iload 7, 2) := by decide +kernel
theorem dX9_share_98 : decode cX9_share 98 = .ok (.iaload, 1) := by decide +kernel
theorem dX9_share_99 : decode cX9_share 99 = .ok (.iadd, 1) := by decide +kernel
theorem dX9_share_100 : decode cX9_share 100 = .ok (.istore 5, 2) := by decide +kernel
theorem dX9_share_102 : decode cX9_share 102 = .ok (.aload_n 0, 1) := by decide +kernel
theorem dX9_share_103 : decode cX9_share 103 = .ok (.iload_n 2, 1) := by decide +kernel
theorem dX9_share_104 : decode cX9_share 104 = .ok (.iload 7, 2) := by decide +kernel
theorem dX9_share_106 : decode cX9_share 106 = .ok (.invokevirtual 115, 3) := by decide +kernel
theorem dX9_share_109 : decode cX9_share 109 = .ok (.iload 6, 2) := by decide +kernel
theorem dX9_share_111 : decode cX9_share 111 = .ok (.if_icmp .le 13, 3) := by decide +kernel
theorem dX9_share_114 : decode cX9_share 114 = .ok (.aload_n 0, 1) := by decide +kernel
theorem dX9_share_115 : decode cX9_share 115 = .ok (.iload_n 2, 1) := by decide +kernel
theorem dX9_share_116 : decode cX9_share 116 = .ok (.iload 7, 2) := by decide +kernel
theorem dX9_share_118 : decode cX9_share 118 = .ok (.invokevirtual 115, 3) := by decide +kernel
theorem dX9_share_121 : decode cX9_share 121 = .ok (.goto 5, 3) := by decide +kernel
theorem dX9_share_124 : decode cX9_share 124 = .ok (.iload 6, 2) := by decide +kernel
theorem dX9_share_126 : decode cX9_share 126 = .ok (.istore 6, 2) := by decide +kernel
theorem dX9_share_128 : decode cX9_share 128 = .ok (.iinc 7 1, 3) := by decide +kernel
theorem dX9_share_131 : decode cX9_share 131 = .ok (.goto (-74), 3) := by decide +kernel
theorem dX9_share_134 : decode cX9_share 134 = .ok (.iload_n 3, 1) := by decide +kernel
theorem dX9_share_135 : decode cX9_share 135 = .ok (.ifCond .ne 8, 3) := by decide +kernel
theorem dX9_share_138 : decode cX9_share 138 = .ok (.iload 4, 2) := by decide +kernel
theorem dX9_share_140 : decode cX9_share 140 = .ok (.goto 15, 3) := by decide +kernel
theorem dX9_share_143 : decode cX9_share 143 = .ok (.iload_n 3, 1) := by decide +kernel
theorem dX9_share_144 : decode cX9_share 144 = .ok (.iconst 1, 1) := by decide +kernel
theorem dX9_share_145 : decode cX9_share 145 = .ok (.if_icmp .ne 8, 3) := by decide +kernel
theorem dX9_share_148 : decode cX9_share 148 = .ok (.iload 5, 2) := by decide +kernel
theorem dX9_share_150 : decode cX9_share 150 = .ok (.goto 5, 3) := by decide +kernel
theorem dX9_share_153 : decode cX9_share 153 = .ok (.iload 6, 2) := by decide +kernel
theorem dX9_share_155 : decode cX9_share 155 = .ok (.ireturn, 1) := by decide +kernel
theorem dX9_find_0 : decode cX9_find 0 = .ok (.aload_n 0, 1) := by decide +kernel
theorem dX9_find_1 : decode cX9_find 1 = .ok (.invokevirtual 112, 3) := by decide +kernel
theorem dX9_find_4 : decode cX9_find 4 = .ok (.aload_n 0, 1) := by decide +kernel
theorem dX9_find_5 : decode cX9_find 5 = .ok (.bipush (-4), 2) := by decide +kernel
theorem dX9_find_7 : decode cX9_find 7 = .ok (.putfield 150, 3) := by decide +kernel
theorem dX9_find_10 : decode cX9_find 10 = .ok (.aload_n 0, 1) := by decide +kernel
theorem dX9_find_11 : decode cX9_find 11 = .ok (.ldc2_w 148, 3) := by decide +kernel
theorem dX9_find_14 : decode cX9_find 14 = .ok (.putfield 153, 3) := by decide +kernel
theorem dX9_find_17 : decode cX9_find 17 = .ok (.aload_n 0, 1) := by decide +kernel
theorem dX9_find_18 : decode cX9_find 18 = .ok (.iconst 0, 1) := by decide +kernel
theorem dX9_find_19 : decode cX9_find 19 = .ok (.putfield 156, 3) := by decide +kernel
theorem dX9_find_22 : decode cX9_find 22 = .ok (.aload_n 0, 1) := by decide +kernel
theorem dX9_find_23 : decode cX9_find 23 = .ok (.iconst (-1), 1) := by decide +kernel
theorem dX9_find_24 : decode cX9_find 24 = .ok (.putfield 159, 3) := by decide +kernel
theorem dX9_find_27 : decode cX9_find 27 = .ok (.aload_n 0, 1) := by decide +kernel
theorem dX9_find_28 : decode cX9_find 28 = .ok (.iconst 0, 1) := by decide +kernel
theorem dX9_find_29 : decode cX9_find 29 = .ok (.putfield 162, 3) := by decide +kernel
theorem dX9_find_32 : decode cX9_find 32 = .ok (.iconst 0, 1) := by decide +kernel
theorem dX9_find_33 : decode cX9_find 33 = .ok (.istore_n 3, 1) := by decide +kernel
theorem dX9_find_34 : decode cX9_find 34 = .ok (.iload_n 3, 1) := by decide +kernel
theorem dX9_find_35 : decode cX9_find 35 = .ok (.iconst 1, 1) := by decide +kernel
theorem dX9_find_36 : decode cX9_find 36 = .ok (.aload_n 0, 1) := by decide +kernel
theorem dX9_find_37 : decode cX9_find 37 = .ok (.getfield 78, 3) := by decide +kernel
theorem dX9_find_40 : decode cX9_find 40 = .ok (.ishl, 1) := by decide +kernel
theorem dX9_find_41 : decode cX9_find 41 = .ok (.if_icmp .ge 131, 3) := by decide +kernel
theorem dX9_find_44 : decode cX9_find 44 = .ok (.iload_n 3, 1) := by decide +kernel
theorem dX9_find_45 : decode cX9_find 45 = .ok (.iload_n 1, 1) := by decide +kernel
theorem dX9_find_46 : decode cX9_find 46 = .ok (.if_icmp .eq 120, 3) := by decide +kernel
theorem dX9_find_49 : decode cX9_find 49 = .ok (.iload_n 3, 1) := by decide +kernel
theorem dX9_find_50 : decode cX9_find 50 = .ok (.iload_n 2, 1) := by decide +kernel
theorem dX9_find_51 : decode cX9_find 51 = .ok (.iand, 1) := by decide +kernel
theorem dX9_find_52 : decode cX9_find 52 = .ok (.ifCond .ne 114, 3) := by decide +kernel
theorem dX9_find_55 : decode cX9_find 55 = .ok (.aload_n 0, 1) := by decide +kernel
theorem dX9_find_56 : decode cX9_find 56 = .ok (.iload_n 3, 1) := by decide +kernel
theorem dX9_find_57 : decode cX9_find 57 = .ok (.invokevirtual 139, 3) := by decide +kernel
theorem dX9_find_60 : decode cX9_find 60 = .ok (.ifCond .eq 106, 3) := by decide +kernel
theorem dX9_find_63 : decode cX9_find 63 = .ok (.aload_n 0, 1) := by decide +kernel
theorem dX9_find_64 : decode cX9_find 64 = .ok (.iload_n 3, 1) := by decide +kernel
theorem dX9_find_65 : decode cX9_find 65 = .ok (.invokevirtual 144, 3) := by decide +kernel
theorem dX9_find_68 : decode cX9_find 68 = .ok (.aload_n 0, 1) := by decide +kernel
theorem dX9_find_69 : decode cX9_find 69 = .ok (.getfield 119, 3) := by decide +kernel
theorem dX9_find_72 : decode cX9_find 72 = .ok (.ifCond .ne 94, 3) := by decide +kernel
theorem dX9_find_75 : decode cX9_find 75 = .ok (.aload_n 0, 1) := by decide +kernel
theorem dX9_find_76 : decode cX9_find 76 = .ok (.getfield 150, 3) := by decide +kernel
theorem dX9_find_79 : decode cX9_find 79 = .ok (.bipush (-4), 2) := by decide +kernel
theorem dX9_find_81 : decode cX9_find 81 = .ok (.if_icmp .eq 15, 3) := by decide +kernel
theorem dX9_find_84 : decode cX9_find 84 = .ok (.aload_n 0, 1) := by decide +kernel
theorem dX9_find_85 : decode cX9_find 85 = .ok (.getfield 122, 3) := by decide +kernel
theorem dX9_find_88 : decode cX9_find 88 = .ok (.aload_n 0, 1) := by decide +kernel
theorem dX9_find_89 : decode cX9_find 89 = .ok (.getfield 153, 3) := by decide +kernel
theorem dX9_find_92 : decode cX9_find 92 = .ok (.lcmp, 1) := by decide +kernel
theorem dX9_find_93 : decode cX9_find 93 = .ok (.ifCond .ge 31, 3) := by decide +kernel
theorem dX9_find_96 : decode cX9_find 96 = .ok (.aload_n 0, 1) := by decide +kernel
theorem dX9_find_97 : decode cX9_find 97 = .ok (.iload_n 3, 1) := by decide +kernel
theorem dX9_find_98 : decode cX9_find 98 = .ok (.putfield 150, 3) := by decide +kernel
theorem dX9_find_101 : decode cX9_find 101 = .ok (.aload_n 0, 1) := by decide +kernel
theorem dX9_find_102 : decode cX9_find 102 = .ok (.aload_n 0, 1) := by decide +kernel
theorem dX9_find_103 : decode cX9_find 103 = .ok (.getfield 122, 3) := by decide +kernel
theorem dX9_find_106 : decode cX9_find 106 = .ok (.putfield 153, 3) := by decide +kernel
theorem dX9_find_109 : decode cX9_find 109 = .ok (.aload_n 0, 1) := by decide +kernel
theorem dX9_find_110 : decode cX9_find 110 = .ok (.iconst 0, 1) := by decide +kernel
theorem dX9_find_111 : decode cX9_find 111 = .ok (.putfield 156, 3) := by decide +kernel
theorem dX9_find_114 : decode cX9_find 114 = .ok (.aload_n 0, 1) := by decide +kernel
theorem dX9_find_115 : decode cX9_find 115 = .ok (.iconst (-1), 1) := by decide +kernel
theorem dX9_find_116 : decode cX9_find 116 = .ok (.putfield 159, 3) := by decide +kernel
theorem dX9_find_119 : decode cX9_find 119 = .ok (.aload_n 0, 1) := by decide +kernel
theorem dX9_find_120 : decode cX9_find 120 = .ok (.iconst 0, 1) := by decide +kernel
theorem dX9_find_121 : decode cX9_find 121 = .ok (.putfield 162, 3) := by decide +kernel
theorem dX9_find_124 : decode cX9_find 124 = .ok (.aload_n 0, 1) := by decide +kernel
theorem dX9_find_125 : decode cX9_find 125 = .ok (.getfield 122, 3) := by decide +kernel
theorem dX9_find_128 : decode cX9_find 128 = .ok (.aload_n 0, 1) := by decide +kernel
theorem dX9_find_129 : decode cX9_find 129 = .ok (.getfield 153, 3) := by decide +kernel
theorem dX9_find_132 : decode cX9_find 132 = .ok (.lcmp, 1) := by decide +kernel
theorem dX9_find_133 : decode cX9_find 133 = .ok (.ifCond .ne 33, 3) := by decide +kernel
theorem dX9_find_136 : decode cX9_find 136 = .ok (.aload_n 0, 1) := by decide +kernel
theorem dX9_find_137 : decode cX9_find 137 = .ok (.dup, 1) := by decide +kernel
theorem dX9_find_138 : decode cX9_find 138 = .ok (.getfield 156, 3) := by decide +kernel
theorem dX9_find_141 : decode cX9_find 141 = .ok (.iconst 1, 1) := by decide +kernel
theorem dX9_find_142 : decode cX9_find 142 = .ok (.iadd, 1) := by decide +kernel
theorem dX9_find_143 : decode cX9_find 143 = .ok (.putfield 156, 3) := by decide +kernel
theorem dX9_find_146 : decode cX9_find 146 = .ok (.aload_n 0, 1) := by decide +kernel
theorem dX9_find_147 : decode cX9_find 147 = .ok (.aload_n 0, 1) := by decide +kernel
theorem dX9_find_148 : decode cX9_find 148 = .ok (.getfield 159, 3) := by decide +kernel
theorem dX9_find_151 : decode cX9_find 151 = .ok (.iload_n 3, 1) := by decide +kernel
theorem dX9_find_152 : decode cX9_find 152 = .ok (.iand, 1) := by decide +kernel
theorem dX9_find_153 : decode cX9_find 153 = .ok (.putfield 159, 3) := by decide +kernel
theorem dX9_find_156 : decode cX9_find 156 = .ok (.aload_n 0, 1) := by decide +kernel
theorem dX9_find_157 : decode cX9_find 157 = .ok (.aload_n 0, 1) := by decide +kernel
theorem dX9_find_158 : decode cX9_find 158 = .ok (.getfield 162, 3) := by decide +kernel
theorem dX9_find_161 : decode cX9_find 161 = .ok (.iload_n 3, 1) := by decide +kernel
theorem dX9_find_162 : decode cX9_find 162 = .ok (.ior, 1) := by decide +kernel
theorem dX9_find_163 : decode cX9_find 163 = .ok (.putfield 162, 3) := by decide +kernel
theorem dX9_find_166 : decode cX9_find 166 = .ok (.iinc 3 1, 3) := by decide +kernel
theorem dX9_find_169 : decode cX9_find 169 = .ok (.goto (-135), 3) := by decide +kernel
theorem dX9_find_172 : decode cX9_find 172 = .ok (.return_, 1) := by decide +kernel
theorem dX9_least_0 : decode cX9_least 0 = .ok (.aload_n 0, 1) := by decide +kernel
theorem dX9_least_1 : decode cX9_least 1 = .ok (.bipush (-4), 2) := by decide +kernel
theorem dX9_least_3 : decode cX9_least 3 = .ok (.iconst 0, 1) := by decide +kernel
theorem dX9_least_4 : decode cX9_least 4 = .ok (.invokevirtual 165, 3) := by decide +kernel
theorem dX9_least_7 : decode cX9_least 7 = .ok (.aload_n 0, 1) := by decide +kernel
theorem dX9_least_8 : decode cX9_least 8 = .ok (.getfield 153, 3) := by decide +kernel
theorem dX9_least_11 : decode cX9_least 11 = .ok (.lreturn, 1) := by decide +kernel
theorem dX9_best_0 : decode cX9_best 0 = .ok (.aload_n 0, 1) := by decide +kernel
theorem dX9_best_1 : decode cX9_best 1 = .ok (.bipush (-4), 2) := by decide +kernel
theorem dX9_best_3 : decode cX9_best 3 = .ok (.iconst 0, 1) := by decide +kernel
theorem dX9_best_4 : decode cX9_best 4 = .ok (.invokevirtual 165, 3) := by decide +kernel
theorem dX9_best_7 : decode cX9_best 7 = .ok (.aload_n 0, 1) := by decide +kernel
theorem dX9_best_8 : decode cX9_best 8 = .ok (.getfield 150, 3) := by decide +kernel
theorem dX9_best_11 : decode cX9_best 11 = .ok (.ireturn, 1) := by decide +kernel
theorem dX9_many_0 : decode cX9_many 0 = .ok (.aload_n 0, 1) := by decide +kernel
theorem dX9_many_1 : decode cX9_many 1 = .ok (.bipush (-4), 2) := by decide +kernel
theorem dX9_many_3 : decode cX9_many 3 = .ok (.iconst 0, 1) := by decide +kernel
theorem dX9_many_4 : decode cX9_many 4 = .ok (.invokevirtual 165, 3) := by decide +kernel
theorem dX9_many_7 : decode cX9_many 7 = .ok (.aload_n 0, 1) := by decide +kernel
theorem dX9_many_8 : decode cX9_many 8 = .ok (.getfield 156, 3) := by decide +kernel
theorem dX9_many_11 : decode cX9_many 11 = .ok (.ireturn, 1) := by decide +kernel
theorem dX9_every_0 : decode cX9_every 0 = .ok (.aload_n 0, 1) := by decide +kernel
theorem dX9_every_1 : decode cX9_every 1 = .ok (.iload_n 1, 1) := by decide +kernel
theorem dX9_every_2 : decode cX9_every 2 = .ok (.invokevirtual 101, 3) := by decide +kernel
theorem dX9_every_5 : decode cX9_every 5 = .ok (.ifCond .ne 5, 3) := by decide +kernel
theorem dX9_every_8 : decode cX9_every 8 = .ok (.iconst (-1), 1) := by decide +kernel
theorem dX9_every_9 : decode cX9_every 9 = .ok (.ireturn, 1) := by decide +kernel
theorem dX9_every_10 : decode cX9_every 10 = .ok (.aload_n 0, 1) := by decide +kernel
theorem dX9_every_11 : decode cX9_every 11 = .ok (.bipush (-4), 2) := by decide +kernel
theorem dX9_every_13 : decode cX9_every 13 = .ok (.iconst 0, 1) := by decide +kernel
theorem dX9_every_14 : decode cX9_every 14 = .ok (.invokevirtual 165, 3) := by decide +kernel
theorem dX9_every_17 : decode cX9_every 17 = .ok (.aload_n 0, 1) := by decide +kernel
theorem dX9_every_18 : decode cX9_every 18 = .ok (.getfield 156, 3) := by decide +kernel
theorem dX9_every_21 : decode cX9_every 21 = .ok (.ifCond .ne 6, 3) := by decide +kernel
theorem dX9_every_24 : decode cX9_every 24 = .ok (.bipush (-4), 2) := by decide +kernel
theorem dX9_every_26 : decode cX9_every 26 = .ok (.ireturn, 1) := by decide +kernel
theorem dX9_every_27 : decode cX9_every 27 = .ok (.aload_n 0, 1) := by decide +kernel
theorem dX9_every_28 : decode cX9_every 28 = .ok (.getfield 159, 3) := by decide +kernel
theorem dX9_every_31 : decode cX9_every 31 = .ok (.iload_n 1, 1) := by decide +kernel
theorem dX9_every_32 : decode cX9_every 32 = .ok (.ishr, 1) := by decide +kernel
theorem dX9_every_33 : decode cX9_every 33 = .ok (.iconst 1, 1) := by decide +kernel
theorem dX9_every_34 : decode cX9_every 34 = .ok (.iand, 1) := by decide +kernel
theorem dX9_every_35 : decode cX9_every 35 = .ok (.iconst 1, 1) := by decide +kernel
theorem dX9_every_36 : decode cX9_every 36 = .ok (.if_icmp .ne 7, 3) := by decide +kernel
theorem dX9_every_39 : decode cX9_every 39 = .ok (.iconst 1, 1) := by decide +kernel
theorem dX9_every_40 : decode cX9_every 40 = .ok (.goto 21, 3) := by decide +kernel
theorem dX9_every_43 : decode cX9_every 43 = .ok (.aload_n 0, 1) := by decide +kernel
theorem dX9_every_44 : decode cX9_every 44 = .ok (.getfield 162, 3) := by decide +kernel
theorem dX9_every_47 : decode cX9_every 47 = .ok (.iload_n 1, 1) := by decide +kernel
theorem dX9_every_48 : decode cX9_every 48 = .ok (.ishr, 1) := by decide +kernel
theorem dX9_every_49 : decode cX9_every 49 = .ok (.iconst 1, 1) := by decide +kernel
theorem dX9_every_50 : decode cX9_every 50 = .ok (.iand, 1) := by decide +kernel
theorem dX9_every_51 : decode cX9_every 51 = .ok (.iconst 1, 1) := by decide +kernel
theorem dX9_every_52 : decode cX9_every 52 = .ok (.if_icmp .ne 7, 3) := by decide +kernel
theorem dX9_every_55 : decode cX9_every 55 = .ok (.iconst 0, 1) := by decide +kernel
theorem dX9_every_56 : decode cX9_every 56 = .ok (.goto 5, 3) := by decide +kernel
theorem dX9_every_59 : decode cX9_every 59 = .ok (.bipush (-5), 2) := by decide +kernel
theorem dX9_every_61 : decode cX9_every 61 = .ok (.ireturn, 1) := by decide +kernel
theorem dX9_second_0 : decode cX9_second 0 = .ok (.aload_n 0, 1) := by decide +kernel
theorem dX9_second_1 : decode cX9_second 1 = .ok (.iload_n 1, 1) := by decide +kernel
theorem dX9_second_2 : decode cX9_second 2 = .ok (.invokevirtual 136, 3) := by decide +kernel
theorem dX9_second_5 : decode cX9_second 5 = .ok (.ifCond .ne 5, 3) := by decide +kernel
theorem dX9_second_8 : decode cX9_second 8 = .ok (.iconst (-1), 1) := by decide +kernel
theorem dX9_second_9 : decode cX9_second 9 = .ok (.ireturn, 1) := by decide +kernel
theorem dX9_second_10 : decode cX9_second 10 = .ok (.aload_n 0, 1) := by decide +kernel
theorem dX9_second_11 : decode cX9_second 11 = .ok (.iload_n 1, 1) := by decide +kernel
theorem dX9_second_12 : decode cX9_second 12 = .ok (.iconst 0, 1) := by decide +kernel
theorem dX9_second_13 : decode cX9_second 13 = .ok (.invokevirtual 165, 3) := by decide +kernel
theorem dX9_second_16 : decode cX9_second 16 = .ok (.aload_n 0, 1) := by decide +kernel
theorem dX9_second_17 : decode cX9_second 17 = .ok (.getfield 150, 3) := by decide +kernel
theorem dX9_second_20 : decode cX9_second 20 = .ok (.ireturn, 1) := by decide +kernel
theorem dX9_lose_0 : decode cX9_lose 0 = .ok (.aload_n 0, 1) := by decide +kernel
theorem dX9_lose_1 : decode cX9_lose 1 = .ok (.iload_n 1, 1) := by decide +kernel
theorem dX9_lose_2 : decode cX9_lose 2 = .ok (.invokevirtual 101, 3) := by decide +kernel
theorem dX9_lose_5 : decode cX9_lose 5 = .ok (.ifCond .ne 7, 3) := by decide +kernel
theorem dX9_lose_8 : decode cX9_lose 8 = .ok (.ldc2_w 142, 3) := by decide +kernel
theorem dX9_lose_11 : decode cX9_lose 11 = .ok (.lreturn, 1) := by decide +kernel
theorem dX9_lose_12 : decode cX9_lose 12 = .ok (.aload_n 0, 1) := by decide +kernel
theorem dX9_lose_13 : decode cX9_lose 13 = .ok (.getfield 23, 3) := by decide +kernel
theorem dX9_lose_16 : decode cX9_lose 16 = .ok (.iload_n 1, 1) := by decide +kernel
theorem dX9_lose_17 : decode cX9_lose 17 = .ok (.iaload, 1) := by decide +kernel
theorem dX9_lose_18 : decode cX9_lose 18 = .ok (.iconst 3, 1) := by decide +kernel
theorem dX9_lose_19 : decode cX9_lose 19 = .ok (.if_icmp .ne 7, 3) := by decide +kernel
theorem dX9_lose_22 : decode cX9_lose 22 = .ok (.ldc2_w 169, 3) := by decide +kernel
theorem dX9_lose_25 : decode cX9_lose 25 = .ok (.lreturn, 1) := by decide +kernel
theorem dX9_lose_26 : decode cX9_lose 26 = .ok (.aload_n 0, 1) := by decide +kernel
theorem dX9_lose_27 : decode cX9_lose 27 = .ok (.bipush (-4), 2) := by decide +kernel
theorem dX9_lose_29 : decode cX9_lose 29 = .ok (.iconst 1, 1) := by decide +kernel
theorem dX9_lose_30 : decode cX9_lose 30 = .ok (.iload_n 1, 1) := by decide +kernel
theorem dX9_lose_31 : decode cX9_lose 31 = .ok (.ishl, 1) := by decide +kernel
theorem dX9_lose_32 : decode cX9_lose 32 = .ok (.invokevirtual 165, 3) := by decide +kernel
theorem dX9_lose_35 : decode cX9_lose 35 = .ok (.aload_n 0, 1) := by decide +kernel
theorem dX9_lose_36 : decode cX9_lose 36 = .ok (.getfield 153, 3) := by decide +kernel
theorem dX9_lose_39 : decode cX9_lose 39 = .ok (.lreturn, 1) := by decide +kernel
theorem dX9_worst_0 : decode cX9_worst 0 = .ok (.aload_n 0, 1) := by decide +kernel
theorem dX9_worst_1 : decode cX9_worst 1 = .ok (.bipush (-4), 2) := by decide +kernel
theorem dX9_worst_3 : decode cX9_worst 3 = .ok (.iconst 0, 1) := by decide +kernel
theorem dX9_worst_4 : decode cX9_worst 4 = .ok (.invokevirtual 165, 3) := by decide +kernel
theorem dX9_worst_7 : decode cX9_worst 7 = .ok (.aload_n 0, 1) := by decide +kernel
theorem dX9_worst_8 : decode cX9_worst 8 = .ok (.getfield 150, 3) := by decide +kernel
theorem dX9_worst_11 : decode cX9_worst 11 = .ok (.bipush (-4), 2) := by decide +kernel
theorem dX9_worst_13 : decode cX9_worst 13 = .ok (.if_icmp .ne 6, 3) := by decide +kernel
theorem dX9_worst_16 : decode cX9_worst 16 = .ok (.bipush (-4), 2) := by decide +kernel
theorem dX9_worst_18 : decode cX9_worst 18 = .ok (.ireturn, 1) := by decide +kernel
theorem dX9_worst_19 : decode cX9_worst 19 = .ok (.bipush (-4), 2) := by decide +kernel
theorem dX9_worst_21 : decode cX9_worst 21 = .ok (.istore_n 1, 1) := by decide +kernel
theorem dX9_worst_22 : decode cX9_worst 22 = .ok (.lconst 0, 1) := by decide +kernel
theorem dX9_worst_23 : decode cX9_worst 23 = .ok (.lstore_n 2, 1) := by decide +kernel
theorem dX9_worst_24 : decode cX9_worst 24 = .ok (.iconst 0, 1) := by decide +kernel
theorem dX9_worst_25 : decode cX9_worst 25 = .ok (.istore 4, 2) := by decide +kernel
theorem dX9_worst_27 : decode cX9_worst 27 = .ok (.iload 4, 2) := by decide +kernel
theorem dX9_worst_29 : decode cX9_worst 29 = .ok (.aload_n 0, 1) := by decide +kernel
theorem dX9_worst_30 : decode cX9_worst 30 = .ok (.getfield 78, 3) := by decide +kernel
theorem dX9_worst_33 : decode cX9_worst 33 = .ok (.if_icmp .ge 70, 3) := by decide +kernel
theorem dX9_worst_36 : decode cX9_worst 36 = .ok (.aload_n 0, 1) := by decide +kernel
theorem dX9_worst_37 : decode cX9_worst 37 = .ok (.getfield 23, 3) := by decide +kernel
theorem dX9_worst_40 : decode cX9_worst 40 = .ok (.iload 4, 2) := by decide +kernel
theorem dX9_worst_42 : decode cX9_worst 42 = .ok (.iaload, 1) := by decide +kernel
theorem dX9_worst_43 : decode cX9_worst 43 = .ok (.iconst 3, 1) := by decide +kernel
theorem dX9_worst_44 : decode cX9_worst 44 = .ok (.if_icmp .eq 53, 3) := by decide +kernel
theorem dX9_worst_47 : decode cX9_worst 47 = .ok (.aload_n 0, 1) := by decide +kernel
theorem dX9_worst_48 : decode cX9_worst 48 = .ok (.bipush (-4), 2) := by decide +kernel
theorem dX9_worst_50 : decode cX9_worst 50 = .ok (.iconst 1, 1) := by decide +kernel
theorem dX9_worst_51 : decode cX9_worst 51 = .ok (.iload 4, 2) := by decide +kernel
theorem dX9_worst_53 : decode cX9_worst 53 = .ok (.ishl, 1) := by decide +kernel
theorem dX9_worst_54 : decode cX9_worst 54 = .ok (.invokevirtual 165, 3) := by decide +kernel
theorem dX9_worst_57 : decode cX9_worst 57 = .ok (.aload_n 0, 1) := by decide +kernel
theorem dX9_worst_58 : decode cX9_worst 58 = .ok (.getfield 150, 3) := by decide +kernel
theorem dX9_worst_61 : decode cX9_worst 61 = .ok (.bipush (-4), 2) := by decide +kernel
theorem dX9_worst_63 : decode cX9_worst 63 = .ok (.if_icmp .ne 9, 3) := by decide +kernel
theorem dX9_worst_66 : decode cX9_worst 66 = .ok (.ldc2_w 171, 3) := by decide +kernel
theorem dX9_worst_69 : decode cX9_worst 69 = .ok (.goto 7, 3) := by decide +kernel
theorem dX9_worst_72 : decode cX9_worst 72 = .ok (.aload_n 0, 1) := by decide +kernel
theorem dX9_worst_73 : decode cX9_worst 73 = .ok (.getfield 153, 3) := by decide +kernel
theorem dX9_worst_76 : decode cX9_worst 76 = .ok (.lstore 5, 2) := by decide +kernel
theorem dX9_worst_78 : decode cX9_worst 78 = .ok (.iload_n 1, 1) := by decide +kernel
theorem dX9_worst_79 : decode cX9_worst 79 = .ok (.bipush (-4), 2) := by decide +kernel
theorem dX9_worst_81 : decode cX9_worst 81 = .ok (.if_icmp .eq 10, 3) := by decide +kernel
theorem dX9_worst_84 : decode cX9_worst 84 = .ok (.lload 5, 2) := by decide +kernel
theorem dX9_worst_86 : decode cX9_worst 86 = .ok (.lload_n 2, 1) := by decide +kernel
theorem dX9_worst_87 : decode cX9_worst 87 = .ok (.lcmp, 1) := by decide +kernel
theorem dX9_worst_88 : decode cX9_worst 88 = .ok (.ifCond .le 9, 3) := by decide +kernel
theorem dX9_worst_91 : decode cX9_worst 91 = .ok (.iload 4, 2) := by decide +kernel
theorem dX9_worst_93 : decode cX9_worst 93 = .ok (.istore_n 1, 1) := by decide +kernel
theorem dX9_worst_94 : decode cX9_worst 94 = .ok (.lload 5, 2) := by decide +kernel
theorem dX9_worst_96 : decode cX9_worst 96 = .ok (.lstore_n 2, 1) := by decide +kernel
theorem dX9_worst_97 : decode cX9_worst 97 = .ok (.iinc 4 1, 3) := by decide +kernel
theorem dX9_worst_100 : decode cX9_worst 100 = .ok (.goto (-73), 3) := by decide +kernel
theorem dX9_worst_103 : decode cX9_worst 103 = .ok (.iload_n 1, 1) := by decide +kernel
theorem dX9_worst_104 : decode cX9_worst 104 = .ok (.ireturn, 1) := by decide +kernel
theorem dX9_findNearest_0 : decode cX9_findNearest 0 = .ok (.aload_n 0, 1) := by decide +kernel
theorem dX9_findNearest_1 : decode cX9_findNearest 1 = .ok (.invokevirtual 112, 3) := by decide +kernel
theorem dX9_findNearest_4 : decode cX9_findNearest 4 = .ok (.aload_n 0, 1) := by decide +kernel
theorem dX9_findNearest_5 : decode cX9_findNearest 5 = .ok (.bipush (-4), 2) := by decide +kernel
theorem dX9_findNearest_7 : decode cX9_findNearest 7 = .ok (.putfield 173, 3) := by decide +kernel
theorem dX9_findNearest_10 : decode cX9_findNearest 10 = .ok (.aload_n 0, 1) := by decide +kernel
theorem dX9_findNearest_11 : decode cX9_findNearest 11 = .ok (.bipush (-4), 2) := by decide +kernel
theorem dX9_findNearest_13 : decode cX9_findNearest 13 = .ok (.putfield 176, 3) := by decide +kernel
theorem dX9_findNearest_16 : decode cX9_findNearest 16 = .ok (.iconst 0, 1) := by decide +kernel
theorem dX9_findNearest_17 : decode cX9_findNearest 17 = .ok (.istore_n 1, 1) := by decide +kernel
theorem dX9_findNearest_18 : decode cX9_findNearest 18 = .ok (.iload_n 1, 1) := by decide +kernel
theorem dX9_findNearest_19 : decode cX9_findNearest 19 = .ok (.iconst 1, 1) := by decide +kernel
theorem dX9_findNearest_20 : decode cX9_findNearest 20 = .ok (.aload_n 0, 1) := by decide +kernel
theorem dX9_findNearest_21 : decode cX9_findNearest 21 = .ok (.getfield 78, 3) := by decide +kernel
theorem dX9_findNearest_24 : decode cX9_findNearest 24 = .ok (.ishl, 1) := by decide +kernel
theorem dX9_findNearest_25 : decode cX9_findNearest 25 = .ok (.if_icmp .ge 62, 3) := by decide +kernel
theorem dX9_findNearest_28 : decode cX9_findNearest 28 = .ok (.aload_n 0, 1) := by decide +kernel
theorem dX9_findNearest_29 : decode cX9_findNearest 29 = .ok (.iload_n 1, 1) := by decide +kernel
theorem dX9_findNearest_30 : decode cX9_findNearest 30 = .ok (.invokevirtual 139, 3) := by decide +kernel
theorem dX9_findNearest_33 : decode cX9_findNearest 33 = .ok (.ifCond .eq 48, 3) := by decide +kernel
theorem dX9_findNearest_36 : decode cX9_findNearest 36 = .ok (.aload_n 0, 1) := by decide +kernel
theorem dX9_findNearest_37 : decode cX9_findNearest 37 = .ok (.iload_n 1, 1) := by decide +kernel
theorem dX9_findNearest_38 : decode cX9_findNearest 38 = .ok (.invokevirtual 144, 3) := by decide +kernel
theorem dX9_findNearest_41 : decode cX9_findNearest 41 = .ok (.aload_n 0, 1) := by decide +kernel
theorem dX9_findNearest_42 : decode cX9_findNearest 42 = .ok (.getfield 119, 3) := by decide +kernel
theorem dX9_findNearest_45 : decode cX9_findNearest 45 = .ok (.ifCond .ne 36, 3) := by decide +kernel
theorem dX9_findNearest_48 : decode cX9_findNearest 48 = .ok (.aload_n 0, 1) := by decide +kernel
theorem dX9_findNearest_49 : decode cX9_findNearest 49 = .ok (.getfield 173, 3) := by decide +kernel
theorem dX9_findNearest_52 : decode cX9_findNearest 52 = .ok (.bipush (-4), 2) := by decide +kernel
theorem dX9_findNearest_54 : decode cX9_findNearest 54 = .ok (.if_icmp .eq 14, 3) := by decide +kernel
theorem dX9_findNearest_57 : decode cX9_findNearest 57 = .ok (.aload_n 0, 1) := by decide +kernel
theorem dX9_findNearest_58 : decode cX9_findNearest 58 = .ok (.getfield 126, 3) := by decide +kernel
theorem dX9_findNearest_61 : decode cX9_findNearest 61 = .ok (.aload_n 0, 1) := by decide +kernel
theorem dX9_findNearest_62 : decode cX9_findNearest 62 = .ok (.getfield 176, 3) := by decide +kernel
theorem dX9_findNearest_65 : decode cX9_findNearest 65 = .ok (.if_icmp .ge 16, 3) := by decide +kernel
theorem dX9_findNearest_68 : decode cX9_findNearest 68 = .ok (.aload_n 0, 1) := by decide +kernel
theorem dX9_findNearest_69 : decode cX9_findNearest 69 = .ok (.iload_n 1, 1) := by decide +kernel
theorem dX9_findNearest_70 : decode cX9_findNearest 70 = .ok (.putfield 173, 3) := by decide +kernel
theorem dX9_findNearest_73 : decode cX9_findNearest 73 = .ok (.aload_n 0, 1) := by decide +kernel
theorem dX9_findNearest_74 : decode cX9_findNearest 74 = .ok (.aload_n 0, 1) := by decide +kernel
theorem dX9_findNearest_75 : decode cX9_findNearest 75 = .ok (.getfield 126, 3) := by decide +kernel
theorem dX9_findNearest_78 : decode cX9_findNearest 78 = .ok (.putfield 176, 3) := by decide +kernel
theorem dX9_findNearest_81 : decode cX9_findNearest 81 = .ok (.iinc 1 1, 3) := by decide +kernel
theorem dX9_findNearest_84 : decode cX9_findNearest 84 = .ok (.goto (-66), 3) := by decide +kernel
theorem dX9_findNearest_87 : decode cX9_findNearest 87 = .ok (.return_, 1) := by decide +kernel
theorem dX9_farthest_0 : decode cX9_farthest 0 = .ok (.aload_n 0, 1) := by decide +kernel
theorem dX9_farthest_1 : decode cX9_farthest 1 = .ok (.invokevirtual 179, 3) := by decide +kernel
theorem dX9_farthest_4 : decode cX9_farthest 4 = .ok (.aload_n 0, 1) := by decide +kernel
theorem dX9_farthest_5 : decode cX9_farthest 5 = .ok (.getfield 176, 3) := by decide +kernel
theorem dX9_farthest_8 : decode cX9_farthest 8 = .ok (.ireturn, 1) := by decide +kernel
theorem dX9_nearest_0 : decode cX9_nearest 0 = .ok (.aload_n 0, 1) := by decide +kernel
theorem dX9_nearest_1 : decode cX9_nearest 1 = .ok (.invokevirtual 179, 3) := by decide +kernel
theorem dX9_nearest_4 : decode cX9_nearest 4 = .ok (.aload_n 0, 1) := by decide +kernel
theorem dX9_nearest_5 : decode cX9_nearest 5 = .ok (.getfield 173, 3) := by decide +kernel
theorem dX9_nearest_8 : decode cX9_nearest 8 = .ok (.ireturn, 1) := by decide +kernel
theorem dX9_shrines_0 : decode cX9_shrines 0 = .ok (.iconst 0, 1) := by decide +kernel
theorem dX9_shrines_1 : decode cX9_shrines 1 = .ok (.istore_n 1, 1) := by decide +kernel
theorem dX9_shrines_2 : decode cX9_shrines 2 = .ok (.iconst 0, 1) := by decide +kernel
theorem dX9_shrines_3 : decode cX9_shrines 3 = .ok (.istore_n 2, 1) := by decide +kernel
theorem dX9_shrines_4 : decode cX9_shrines 4 = .ok (.iload_n 2, 1) := by decide +kernel
theorem dX9_shrines_5 : decode cX9_shrines 5 = .ok (.aload_n 0, 1) := by decide +kernel
theorem dX9_shrines_6 : decode cX9_shrines 6 = .ok (.getfield 78, 3) := by decide +kernel
theorem dX9_shrines_9 : decode cX9_shrines 9 = .ok (.if_icmp .ge 29, 3) := by decide +kernel
theorem dX9_shrines_12 : decode cX9_shrines 12 = .ok (.iload_n 1, 1) := by decide +kernel
theorem dX9_shrines_13 : decode cX9_shrines 13 = .ok (.aload_n 0, 1) := by decide +kernel
theorem dX9_shrines_14 : decode cX9_shrines 14 = .ok (.getfield 23, 3) := by decide +kernel
theorem dX9_shrines_17 : decode cX9_shrines 17 = .ok (.iload_n 2, 1) := by decide +kernel
theorem dX9_shrines_18 : decode cX9_shrines 18 = .ok (.iaload, 1) := by decide +kernel
theorem dX9_shrines_19 : decode cX9_shrines 19 = .ok (.iconst 3, 1) := by decide +kernel
theorem dX9_shrines_20 : decode cX9_shrines 20 = .ok (.if_icmp .ne 9, 3) := by decide +kernel
theorem dX9_shrines_23 : decode cX9_shrines 23 = .ok (.iconst 1, 1) := by decide +kernel
theorem dX9_shrines_24 : decode cX9_shrines 24 = .ok (.iload_n 2, 1) := by decide +kernel
theorem dX9_shrines_25 : decode cX9_shrines 25 = .ok (.ishl, 1) := by decide +kernel
theorem dX9_shrines_26 : decode cX9_shrines 26 = .ok (.goto 4, 3) := by decide +kernel
theorem dX9_shrines_29 : decode cX9_shrines 29 = .ok (.iconst 0, 1) := by decide +kernel
theorem dX9_shrines_30 : decode cX9_shrines 30 = .ok (.iadd, 1) := by decide +kernel
theorem dX9_shrines_31 : decode cX9_shrines 31 = .ok (.istore_n 1, 1) := by decide +kernel
theorem dX9_shrines_32 : decode cX9_shrines 32 = .ok (.iinc 2 1, 3) := by decide +kernel
theorem dX9_shrines_35 : decode cX9_shrines 35 = .ok (.goto (-31), 3) := by decide +kernel
theorem dX9_shrines_38 : decode cX9_shrines 38 = .ok (.iload_n 1, 1) := by decide +kernel
theorem dX9_shrines_39 : decode cX9_shrines 39 = .ok (.ireturn, 1) := by decide +kernel
theorem dX9_isLess_0 : decode cX9_isLess 0 = .ok (.aload_n 0, 1) := by decide +kernel
theorem dX9_isLess_1 : decode cX9_isLess 1 = .ok (.iload_n 1, 1) := by decide +kernel
theorem dX9_isLess_2 : decode cX9_isLess 2 = .ok (.invokevirtual 144, 3) := by decide +kernel
theorem dX9_isLess_5 : decode cX9_isLess 5 = .ok (.aload_n 0, 1) := by decide +kernel
theorem dX9_isLess_6 : decode cX9_isLess 6 = .ok (.getfield 119, 3) := by decide +kernel
theorem dX9_isLess_9 : decode cX9_isLess 9 = .ok (.aload_n 0, 1) := by decide +kernel
theorem dX9_isLess_10 : decode cX9_isLess 10 = .ok (.getfield 182, 3) := by decide +kernel
theorem dX9_isLess_13 : decode cX9_isLess 13 = .ok (.if_icmp .lt 26, 3) := by decide +kernel
theorem dX9_isLess_16 : decode cX9_isLess 16 = .ok (.aload_n 0, 1) := by decide +kernel
theorem dX9_isLess_17 : decode cX9_isLess 17 = .ok (.getfield 119, 3) := by decide +kernel
theorem dX9_isLess_20 : decode cX9_isLess 20 = .ok (.aload_n 0, 1) := by decide +kernel
theorem dX9_isLess_21 : decode cX9_isLess 21 = .ok (.getfield 182, 3) := by decide +kernel
theorem dX9_isLess_24 : decode cX9_isLess 24 = .ok (.if_icmp .ne 19, 3) := by decide +kernel
theorem dX9_isLess_27 : decode cX9_isLess 27 = .ok (.aload_n 0, 1) := by decide +kernel
theorem dX9_isLess_28 : decode cX9_isLess 28 = .ok (.getfield 122, 3) := by decide +kernel
theorem dX9_isLess_31 : decode cX9_isLess 31 = .ok (.aload_n 0, 1) := by decide +kernel
theorem dX9_isLess_32 : decode cX9_isLess 32 = .ok (.getfield 185, 3) := by decide +kernel
theorem dX9_isLess_35 : decode cX9_isLess 35 = .ok (.lcmp, 1) := by decide +kernel
theorem dX9_isLess_36 : decode cX9_isLess 36 = .ok (.ifCond .ge 7, 3) := by decide +kernel
theorem dX9_isLess_39 : decode cX9_isLess 39 = .ok (.iconst 1, 1) := by decide +kernel
theorem dX9_isLess_40 : decode cX9_isLess 40 = .ok (.goto 4, 3) := by decide +kernel
theorem dX9_isLess_43 : decode cX9_isLess 43 = .ok (.iconst 0, 1) := by decide +kernel
theorem dX9_isLess_44 : decode cX9_isLess 44 = .ok (.istore_n 2, 1) := by decide +kernel
theorem dX9_isLess_45 : decode cX9_isLess 45 = .ok (.iload_n 2, 1) := by decide +kernel
theorem dX9_isLess_46 : decode cX9_isLess 46 = .ok (.ifCond .eq 19, 3) := by decide +kernel
theorem dX9_isLess_49 : decode cX9_isLess 49 = .ok (.aload_n 0, 1) := by decide +kernel
theorem dX9_isLess_50 : decode cX9_isLess 50 = .ok (.aload_n 0, 1) := by decide +kernel
theorem dX9_isLess_51 : decode cX9_isLess 51 = .ok (.getfield 119, 3) := by decide +kernel
theorem dX9_isLess_54 : decode cX9_isLess 54 = .ok (.putfield 182, 3) := by decide +kernel
theorem dX9_isLess_57 : decode cX9_isLess 57 = .ok (.aload_n 0, 1) := by decide +kernel
theorem dX9_isLess_58 : decode cX9_isLess 58 = .ok (.aload_n 0, 1) := by decide +kernel
theorem dX9_isLess_59 : decode cX9_isLess 59 = .ok (.getfield 122, 3) := by decide +kernel
theorem dX9_isLess_62 : decode cX9_isLess 62 = .ok (.putfield 185, 3) := by decide +kernel
theorem dX9_isLess_65 : decode cX9_isLess 65 = .ok (.iload_n 2, 1) := by decide +kernel
theorem dX9_isLess_66 : decode cX9_isLess 66 = .ok (.ireturn, 1) := by decide +kernel
theorem dX9_begins_0 : decode cX9_begins 0 = .ok (.aload_n 0, 1) := by decide +kernel
theorem dX9_begins_1 : decode cX9_begins 1 = .ok (.iload_n 1, 1) := by decide +kernel
theorem dX9_begins_2 : decode cX9_begins 2 = .ok (.invokevirtual 144, 3) := by decide +kernel
theorem dX9_begins_5 : decode cX9_begins 5 = .ok (.aload_n 0, 1) := by decide +kernel
theorem dX9_begins_6 : decode cX9_begins 6 = .ok (.aload_n 0, 1) := by decide +kernel
theorem dX9_begins_7 : decode cX9_begins 7 = .ok (.getfield 119, 3) := by decide +kernel
theorem dX9_begins_10 : decode cX9_begins 10 = .ok (.putfield 182, 3) := by decide +kernel
theorem dX9_begins_13 : decode cX9_begins 13 = .ok (.aload_n 0, 1) := by decide +kernel
theorem dX9_begins_14 : decode cX9_begins 14 = .ok (.aload_n 0, 1) := by decide +kernel
theorem dX9_begins_15 : decode cX9_begins 15 = .ok (.getfield 122, 3) := by decide +kernel
theorem dX9_begins_18 : decode cX9_begins 18 = .ok (.putfield 185, 3) := by decide +kernel
theorem dX9_begins_21 : decode cX9_begins 21 = .ok (.return_, 1) := by decide +kernel
theorem dX9_added_0 : decode cX9_added 0 = .ok (.aload_n 0, 1) := by decide +kernel
theorem dX9_added_1 : decode cX9_added 1 = .ok (.invokevirtual 188, 3) := by decide +kernel
theorem dX9_added_4 : decode cX9_added 4 = .ok (.istore_n 1, 1) := by decide +kernel
theorem dX9_added_5 : decode cX9_added 5 = .ok (.aload_n 0, 1) := by decide +kernel
theorem dX9_added_6 : decode cX9_added 6 = .ok (.iload_n 1, 1) := by decide +kernel
theorem dX9_added_7 : decode cX9_added 7 = .ok (.invokevirtual 139, 3) := by decide +kernel
theorem dX9_added_10 : decode cX9_added 10 = .ok (.ifCond .ne 6, 3) := by decide +kernel
theorem dX9_added_13 : decode cX9_added 13 = .ok (.bipush (-2), 2) := by decide +kernel
theorem dX9_added_15 : decode cX9_added 15 = .ok (.ireturn, 1) := by decide +kernel
theorem dX9_added_16 : decode cX9_added 16 = .ok (.aload_n 0, 1) := by decide +kernel
theorem dX9_added_17 : decode cX9_added 17 = .ok (.invokevirtual 112, 3) := by decide +kernel
theorem dX9_added_20 : decode cX9_added 20 = .ok (.aload_n 0, 1) := by decide +kernel
theorem dX9_added_21 : decode cX9_added 21 = .ok (.iconst 0, 1) := by decide +kernel
theorem dX9_added_22 : decode cX9_added 22 = .ok (.putfield 192, 3) := by decide +kernel
theorem dX9_added_25 : decode cX9_added 25 = .ok (.aload_n 0, 1) := by decide +kernel
theorem dX9_added_26 : decode cX9_added 26 = .ok (.iload_n 1, 1) := by decide +kernel
theorem dX9_added_27 : decode cX9_added 27 = .ok (.invokevirtual 195, 3) := by decide +kernel
theorem dX9_added_30 : decode cX9_added 30 = .ok (.iconst 1, 1) := by decide +kernel
theorem dX9_added_31 : decode cX9_added 31 = .ok (.istore_n 2, 1) := by decide +kernel
theorem dX9_added_32 : decode cX9_added 32 = .ok (.iload_n 2, 1) := by decide +kernel
theorem dX9_added_33 : decode cX9_added 33 = .ok (.ifCond .eq 102, 3) := by decide +kernel
theorem dX9_added_36 : decode cX9_added 36 = .ok (.bipush (-4), 2) := by decide +kernel
theorem dX9_added_38 : decode cX9_added 38 = .ok (.istore_n 3, 1) := by decide +kernel
theorem dX9_added_39 : decode cX9_added 39 = .ok (.iconst 0, 1) := by decide +kernel
theorem dX9_added_40 : decode cX9_added 40 = .ok (.istore 4, 2) := by decide +kernel
theorem dX9_added_42 : decode cX9_added 42 = .ok (.iload 4, 2) := by decide +kernel
theorem dX9_added_44 : decode cX9_added 44 = .ok (.aload_n 0, 1) := by decide +kernel
theorem dX9_added_45 : decode cX9_added 45 = .ok (.getfield 78, 3) := by decide +kernel
theorem dX9_added_48 : decode cX9_added 48 = .ok (.if_icmp .ge 44, 3) := by decide +kernel
theorem dX9_added_51 : decode cX9_added 51 = .ok (.iload_n 1, 1) := by decide +kernel
theorem dX9_added_52 : decode cX9_added 52 = .ok (.iconst 1, 1) := by decide +kernel
theorem dX9_added_53 : decode cX9_added 53 = .ok (.iload 4, 2) := by decide +kernel
theorem dX9_added_55 : decode cX9_added 55 = .ok (.ishl, 1) := by decide +kernel
theorem dX9_added_56 : decode cX9_added 56 = .ok (.ior, 1) := by decide +kernel
theorem dX9_added_57 : decode cX9_added 57 = .ok (.istore 5, 2) := by decide +kernel
theorem dX9_added_59 : decode cX9_added 59 = .ok (.iload 5, 2) := by decide +kernel
theorem dX9_added_61 : decode cX9_added 61 = .ok (.iload_n 1, 1) := by decide +kernel
theorem dX9_added_62 : decode cX9_added 62 = .ok (.if_icmp .eq 24, 3) := by decide +kernel
theorem dX9_added_65 : decode cX9_added 65 = .ok (.aload_n 0, 1) := by decide +kernel
theorem dX9_added_66 : decode cX9_added 66 = .ok (.iload 5, 2) := by decide +kernel
theorem dX9_added_68 : decode cX9_added 68 = .ok (.invokevirtual 139, 3) := by decide +kernel
theorem dX9_added_71 : decode cX9_added 71 = .ok (.ifCond .eq 15, 3) := by decide +kernel
theorem dX9_added_74 : decode cX9_added 74 = .ok (.aload_n 0, 1) := by decide +kernel
theorem dX9_added_75 : decode cX9_added 75 = .ok (.iload 5, 2) := by decide +kernel
theorem dX9_added_77 : decode cX9_added 77 = .ok (.invokevirtual 198, 3) := by decide +kernel
theorem dX9_added_80 : decode cX9_added 80 = .ok (.ifCond .eq 6, 3) := by decide +kernel
theorem dX9_added_83 : decode cX9_added 83 = .ok (.iload 5, 2) := by decide +kernel
theorem dX9_added_85 : decode cX9_added 85 = .ok (.istore_n 3, 1) := by decide +kernel
theorem dX9_added_86 : decode cX9_added 86 = .ok (.iinc 4 1, 3) := by decide +kernel
theorem dX9_added_89 : decode cX9_added 89 = .ok (.goto (-47), 3) := by decide +kernel
theorem dX9_added_92 : decode cX9_added 92 = .ok (.iload_n 3, 1) := by decide +kernel
theorem dX9_added_93 : decode cX9_added 93 = .ok (.bipush (-4), 2) := by decide +kernel
theorem dX9_added_95 : decode cX9_added 95 = .ok (.if_icmp .eq 7, 3) := by decide +kernel
theorem dX9_added_98 : decode cX9_added 98 = .ok (.iconst 1, 1) := by decide +kernel
theorem dX9_added_99 : decode cX9_added 99 = .ok (.goto 4, 3) := by decide +kernel
theorem dX9_added_102 : decode cX9_added 102 = .ok (.iconst 0, 1) := by decide +kernel
theorem dX9_added_103 : decode cX9_added 103 = .ok (.istore_n 2, 1) := by decide +kernel
theorem dX9_added_104 : decode cX9_added 104 = .ok (.iload_n 2, 1) := by decide +kernel
theorem dX9_added_105 : decode cX9_added 105 = .ok (.ifCond .eq 7, 3) := by decide +kernel
theorem dX9_added_108 : decode cX9_added 108 = .ok (.iload_n 3, 1) := by decide +kernel
theorem dX9_added_109 : decode cX9_added 109 = .ok (.goto 4, 3) := by decide +kernel
theorem dX9_added_112 : decode cX9_added 112 = .ok (.iload_n 1, 1) := by decide +kernel
theorem dX9_added_113 : decode cX9_added 113 = .ok (.istore_n 1, 1) := by decide +kernel
theorem dX9_added_114 : decode cX9_added 114 = .ok (.aload_n 0, 1) := by decide +kernel
theorem dX9_added_115 : decode cX9_added 115 = .ok (.dup, 1) := by decide +kernel
theorem dX9_added_116 : decode cX9_added 116 = .ok (.getfield 192, 3) := by decide +kernel
theorem dX9_added_119 : decode cX9_added 119 = .ok (.iload_n 2, 1) := by decide +kernel
theorem dX9_added_120 : decode cX9_added 120 = .ok (.ifCond .eq 7, 3) := by decide +kernel
theorem dX9_added_123 : decode cX9_added 123 = .ok (.iconst 1, 1) := by decide +kernel
theorem dX9_added_124 : decode cX9_added 124 = .ok (.goto 4, 3) := by decide +kernel
theorem dX9_added_127 : decode cX9_added 127 = .ok (.iconst 0, 1) := by decide +kernel
theorem dX9_added_128 : decode cX9_added 128 = .ok (.iadd, 1) := by decide +kernel
theorem dX9_added_129 : decode cX9_added 129 = .ok (.putfield 192, 3) := by decide +kernel
theorem dX9_added_132 : decode cX9_added 132 = .ok (.goto (-100), 3) := by decide +kernel
theorem dX9_added_135 : decode cX9_added 135 = .ok (.iload_n 1, 1) := by decide +kernel
theorem dX9_added_136 : decode cX9_added 136 = .ok (.ireturn, 1) := by decide +kernel
theorem dX9_changed_0 : decode cX9_changed 0 = .ok (.aload_n 0, 1) := by decide +kernel
theorem dX9_changed_1 : decode cX9_changed 1 = .ok (.iload_n 1, 1) := by decide +kernel
theorem dX9_changed_2 : decode cX9_changed 2 = .ok (.invokevirtual 136, 3) := by decide +kernel
theorem dX9_changed_5 : decode cX9_changed 5 = .ok (.ifCond .ne 5, 3) := by decide +kernel
theorem dX9_changed_8 : decode cX9_changed 8 = .ok (.iconst (-1), 1) := by decide +kernel
theorem dX9_changed_9 : decode cX9_changed 9 = .ok (.ireturn, 1) := by decide +kernel
theorem dX9_changed_10 : decode cX9_changed 10 = .ok (.aload_n 0, 1) := by decide +kernel
theorem dX9_changed_11 : decode cX9_changed 11 = .ok (.iload_n 1, 1) := by decide +kernel
theorem dX9_changed_12 : decode cX9_changed 12 = .ok (.invokevirtual 139, 3) := by decide +kernel
theorem dX9_changed_15 : decode cX9_changed 15 = .ok (.ifCond .ne 6, 3) := by decide +kernel
theorem dX9_changed_18 : decode cX9_changed 18 = .ok (.bipush (-2), 2) := by decide +kernel
theorem dX9_changed_20 : decode cX9_changed 20 = .ok (.ireturn, 1) := by decide +kernel
theorem dX9_changed_21 : decode cX9_changed 21 = .ok (.aload_n 0, 1) := by decide +kernel
theorem dX9_changed_22 : decode cX9_changed 22 = .ok (.invokevirtual 112, 3) := by decide +kernel
theorem dX9_changed_25 : decode cX9_changed 25 = .ok (.aload_n 0, 1) := by decide +kernel
theorem dX9_changed_26 : decode cX9_changed 26 = .ok (.iconst 0, 1) := by decide +kernel
theorem dX9_changed_27 : decode cX9_changed 27 = .ok (.putfield 192, 3) := by decide +kernel
theorem dX9_changed_30 : decode cX9_changed 30 = .ok (.iload_n 1, 1) := by decide +kernel
theorem dX9_changed_31 : decode cX9_changed 31 = .ok (.istore_n 2, 1) := by decide +kernel
theorem dX9_changed_32 : decode cX9_changed 32 = .ok (.aload_n 0, 1) := by decide +kernel
theorem dX9_changed_33 : decode cX9_changed 33 = .ok (.iload_n 2, 1) := by decide +kernel
theorem dX9_changed_34 : decode cX9_changed 34 = .ok (.invokevirtual 195, 3) := by decide +kernel
theorem dX9_changed_37 : decode cX9_changed 37 = .ok (.iconst 1, 1) := by decide +kernel
theorem dX9_changed_38 : decode cX9_changed 38 = .ok (.istore_n 3, 1) := by decide +kernel
theorem dX9_changed_39 : decode cX9_changed 39 = .ok (.iload_n 3, 1) := by decide +kernel
theorem dX9_changed_40 : decode cX9_changed 40 = .ok (.ifCond .eq 142, 3) := by decide +kernel
theorem dX9_changed_43 : decode cX9_changed 43 = .ok (.bipush (-4), 2) := by decide +kernel
theorem dX9_changed_45 : decode cX9_changed 45 = .ok (.istore 4, 2) := by decide +kernel
theorem dX9_changed_47 : decode cX9_changed 47 = .ok (.iconst 0, 1) := by decide +kernel
theorem dX9_changed_48 : decode cX9_changed 48 = .ok (.istore 5, 2) := by decide +kernel
theorem dX9_changed_50 : decode cX9_changed 50 = .ok (.iload 5, 2) := by decide +kernel
theorem dX9_changed_52 : decode cX9_changed 52 = .ok (.aload_n 0, 1) := by decide +kernel
theorem dX9_changed_53 : decode cX9_changed 53 = .ok (.getfield 78, 3) := by decide +kernel
theorem dX9_changed_56 : decode cX9_changed 56 = .ok (.if_icmp .ge 81, 3) := by decide +kernel
theorem dX9_changed_59 : decode cX9_changed 59 = .ok (.iconst 0, 1) := by decide +kernel
theorem dX9_changed_60 : decode cX9_changed 60 = .ok (.istore 6, 2) := by decide +kernel
theorem dX9_changed_62 : decode cX9_changed 62 = .ok (.iload 6, 2) := by decide +kernel
theorem dX9_changed_64 : decode cX9_changed 64 = .ok (.aload_n 0, 1) := by decide +kernel
theorem dX9_changed_65 : decode cX9_changed 65 = .ok (.getfield 78, 3) := by decide +kernel
theorem dX9_changed_68 : decode cX9_changed 68 = .ok (.if_icmp .ge 63, 3) := by decide +kernel
theorem dX9_changed_71 : decode cX9_changed 71 = .ok (.iload_n 2, 1) := by decide +kernel
theorem dX9_changed_72 : decode cX9_changed 72 = .ok (.iload 5, 2) := by decide +kernel
theorem dX9_changed_74 : decode cX9_changed 74 = .ok (.ishr, 1) := by decide +kernel
theorem dX9_changed_75 : decode cX9_changed 75 = .ok (.iconst 1, 1) := by decide +kernel
theorem dX9_changed_76 : decode cX9_changed 76 = .ok (.iand, 1) := by decide +kernel
theorem dX9_changed_77 : decode cX9_changed 77 = .ok (.iconst 1, 1) := by decide +kernel
theorem dX9_changed_78 : decode cX9_changed 78 = .ok (.if_icmp .ne 47, 3) := by decide +kernel
theorem dX9_changed_81 : decode cX9_changed 81 = .ok (.iload_n 2, 1) := by decide +kernel
theorem dX9_changed_82 : decode cX9_changed 82 = .ok (.iload 6, 2) := by decide +kernel
theorem dX9_changed_84 : decode cX9_changed 84 = .ok (.ishr, 1) := by decide +kernel
theorem dX9_changed_85 : decode cX9_changed 85 = .ok (.iconst 1, 1) := by decide +kernel
theorem dX9_changed_86 : decode cX9_changed 86 = .ok (.iand, 1) := by decide +kernel
theorem dX9_changed_87 : decode cX9_changed 87 = .ok (.ifCond .ne 38, 3) := by decide +kernel
theorem dX9_changed_90 : decode cX9_changed 90 = .ok (.iload_n 2, 1) := by decide +kernel
theorem dX9_changed_91 : decode cX9_changed 91 = .ok (.iconst 1, 1) := by decide +kernel
theorem dX9_changed_92 : decode cX9_changed 92 = .ok (.iload 5, 2) := by decide +kernel
theorem dX9_changed_94 : decode cX9_changed 94 = .ok (.ishl, 1) := by decide +kernel
theorem dX9_changed_95 : decode cX9_changed 95 = .ok (.isub, 1) := by decide +kernel
theorem dX9_changed_96 : decode cX9_changed 96 = .ok (.iconst 1, 1) := by decide +kernel
theorem dX9_changed_97 : decode cX9_changed 97 = .ok (.iload 6, 2) := by decide +kernel
theorem dX9_changed_99 : decode cX9_changed 99 = .ok (.ishl, 1) := by decide +kernel
theorem dX9_changed_100 : decode cX9_changed 100 = .ok (.iadd, 1) := by decide +kernel
theorem dX9_changed_101 : decode cX9_changed 101 = .ok (.istore 7, 2) := by decide +kernel
theorem dX9_changed_103 : decode cX9_changed 103 = .ok (.aload_n 0, 1) := by decide +kernel
theorem dX9_changed_104 : decode cX9_changed 104 = .ok (.iload 7, 2) := by decide +kernel
theorem dX9_changed_106 : decode cX9_changed 106 = .ok (.invokevirtual 139, 3) := by decide +kernel
theorem dX9_changed_109 : decode cX9_changed 109 = .ok (.ifCond .eq 16, 3) := by decide +kernel
theorem dX9_changed_112 : decode cX9_changed 112 = .ok (.aload_n 0, 1) := by decide +kernel
theorem dX9_changed_113 : decode cX9_changed 113 = .ok (.iload 7, 2) := by decide +kernel
theorem dX9_changed_115 : decode cX9_changed 115 = .ok (.invokevirtual 198, 3) := by decide +kernel
theorem dX9_changed_118 : decode cX9_changed 118 = .ok (.ifCond .eq 7, 3) := by decide +kernel
theorem dX9_changed_121 : decode cX9_changed 121 = .ok (.iload 7, 2) := by decide +kernel
theorem dX9_changed_123 : decode cX9_changed 123 = .ok (.istore 4, 2) := by decide +kernel
theorem dX9_changed_125 : decode cX9_changed 125 = .ok (.iinc 6 1, 3) := by decide +kernel
theorem dX9_changed_128 : decode cX9_changed 128 = .ok (.goto (-66), 3) := by decide +kernel
theorem dX9_changed_131 : decode cX9_changed 131 = .ok (.iinc 5 1, 3) := by decide +kernel
theorem dX9_changed_134 : decode cX9_changed 134 = .ok (.goto (-84), 3) := by decide +kernel
theorem dX9_changed_137 : decode cX9_changed 137 = .ok (.iload 4, 2) := by decide +kernel
theorem dX9_changed_139 : decode cX9_changed 139 = .ok (.bipush (-4), 2) := by decide +kernel
theorem dX9_changed_141 : decode cX9_changed 141 = .ok (.if_icmp .eq 7, 3) := by decide +kernel
theorem dX9_changed_144 : decode cX9_changed 144 = .ok (.iconst 1, 1) := by decide +kernel
theorem dX9_changed_145 : decode cX9_changed 145 = .ok (.goto 4, 3) := by decide +kernel
theorem dX9_changed_148 : decode cX9_changed 148 = .ok (.iconst 0, 1) := by decide +kernel
theorem dX9_changed_149 : decode cX9_changed 149 = .ok (.istore_n 3, 1) := by decide +kernel
theorem dX9_changed_150 : decode cX9_changed 150 = .ok (.iload_n 3, 1) := by decide +kernel
theorem dX9_changed_151 : decode cX9_changed 151 = .ok (.ifCond .eq 8, 3) := by decide +kernel
theorem dX9_changed_154 : decode cX9_changed 154 = .ok (.iload 4, 2) := by decide +kernel
theorem dX9_changed_156 : decode cX9_changed 156 = .ok (.goto 4, 3) := by decide +kernel
theorem dX9_changed_159 : decode cX9_changed 159 = .ok (.iload_n 2, 1) := by decide +kernel
theorem dX9_changed_160 : decode cX9_changed 160 = .ok (.istore_n 2, 1) := by decide +kernel
theorem dX9_changed_161 : decode cX9_changed 161 = .ok (.aload_n 0, 1) := by decide +kernel
theorem dX9_changed_162 : decode cX9_changed 162 = .ok (.dup, 1) := by decide +kernel
theorem dX9_changed_163 : decode cX9_changed 163 = .ok (.getfield 192, 3) := by decide +kernel
theorem dX9_changed_166 : decode cX9_changed 166 = .ok (.iload_n 3, 1) := by decide +kernel
theorem dX9_changed_167 : decode cX9_changed 167 = .ok (.ifCond .eq 7, 3) := by decide +kernel
theorem dX9_changed_170 : decode cX9_changed 170 = .ok (.iconst 1, 1) := by decide +kernel
theorem dX9_changed_171 : decode cX9_changed 171 = .ok (.goto 4, 3) := by decide +kernel
theorem dX9_changed_174 : decode cX9_changed 174 = .ok (.iconst 0, 1) := by decide +kernel
theorem dX9_changed_175 : decode cX9_changed 175 = .ok (.iadd, 1) := by decide +kernel
theorem dX9_changed_176 : decode cX9_changed 176 = .ok (.putfield 192, 3) := by decide +kernel
theorem dX9_changed_179 : decode cX9_changed 179 = .ok (.goto (-140), 3) := by decide +kernel
theorem dX9_changed_182 : decode cX9_changed 182 = .ok (.iload_n 2, 1) := by decide +kernel
theorem dX9_changed_183 : decode cX9_changed 183 = .ok (.ireturn, 1) := by decide +kernel
theorem dX9_moves_0 : decode cX9_moves 0 = .ok (.aload_n 0, 1) := by decide +kernel
theorem dX9_moves_1 : decode cX9_moves 1 = .ok (.getfield 192, 3) := by decide +kernel
theorem dX9_moves_4 : decode cX9_moves 4 = .ok (.ireturn, 1) := by decide +kernel
theorem dX9_price_0 : decode cX9_price 0 = .ok (.aload_n 0, 1) := by decide +kernel
theorem dX9_price_1 : decode cX9_price 1 = .ok (.iload_n 1, 1) := by decide +kernel
theorem dX9_price_2 : decode cX9_price 2 = .ok (.invokevirtual 90, 3) := by decide +kernel
theorem dX9_price_5 : decode cX9_price 5 = .ok (.ifCond .eq 15, 3) := by decide +kernel
theorem dX9_price_8 : decode cX9_price 8 = .ok (.iload_n 2, 1) := by decide +kernel
theorem dX9_price_9 : decode cX9_price 9 = .ok (.i2l, 1) := by decide +kernel
theorem dX9_price_10 : decode cX9_price 10 = .ok (.lconst 0, 1) := by decide +kernel
theorem dX9_price_11 : decode cX9_price 11 = .ok (.ldc2_w 201, 3) := by decide +kernel
theorem dX9_price_14 : decode cX9_price 14 = .ok (.invokestatic 81, 3) := by decide +kernel
theorem dX9_price_17 : decode cX9_price 17 = .ok (.ifCond .ne 5, 3) := by decide +kernel
theorem dX9_price_20 : decode cX9_price 20 = .ok (.iconst (-1), 1) := by decide +kernel
theorem dX9_price_21 : decode cX9_price 21 = .ok (.ireturn, 1) := by decide +kernel
theorem dX9_price_22 : decode cX9_price 22 = .ok (.aload_n 0, 1) := by decide +kernel
theorem dX9_price_23 : decode cX9_price 23 = .ok (.getfield 13, 3) := by decide +kernel
theorem dX9_price_26 : decode cX9_price 26 = .ok (.iload_n 1, 1) := by decide +kernel
theorem dX9_price_27 : decode cX9_price 27 = .ok (.iload_n 2, 1) := by decide +kernel
theorem dX9_price_28 : decode cX9_price 28 = .ok (.i2l, 1) := by decide +kernel
theorem dX9_price_29 : decode cX9_price 29 = .ok (.lastore, 1) := by decide +kernel
theorem dX9_price_30 : decode cX9_price 30 = .ok (.iconst 1, 1) := by decide +kernel
theorem dX9_price_31 : decode cX9_price 31 = .ok (.ireturn, 1) := by decide +kernel
theorem dX9_priced_0 : decode cX9_priced 0 = .ok (.aload_n 0, 1) := by decide +kernel
theorem dX9_priced_1 : decode cX9_priced 1 = .ok (.iload_n 1, 1) := by decide +kernel
theorem dX9_priced_2 : decode cX9_priced 2 = .ok (.invokevirtual 90, 3) := by decide +kernel
theorem dX9_priced_5 : decode cX9_priced 5 = .ok (.ifCond .eq 12, 3) := by decide +kernel
theorem dX9_priced_8 : decode cX9_priced 8 = .ok (.aload_n 0, 1) := by decide +kernel
theorem dX9_priced_9 : decode cX9_priced 9 = .ok (.getfield 13, 3) := by decide +kernel
theorem dX9_priced_12 : decode cX9_priced 12 = .ok (.iload_n 1, 1) := by decide +kernel
theorem dX9_priced_13 : decode cX9_priced 13 = .ok (.laload, 1) := by decide +kernel
theorem dX9_priced_14 : decode cX9_priced 14 = .ok (.goto 4, 3) := by decide +kernel
theorem dX9_priced_17 : decode cX9_priced 17 = .ok (.lconst 0, 1) := by decide +kernel
theorem dX9_priced_18 : decode cX9_priced 18 = .ok (.lreturn, 1) := by decide +kernel
theorem dX9_given_0 : decode cX9_given 0 = .ok (.aload_n 0, 1) := by decide +kernel
theorem dX9_given_1 : decode cX9_given 1 = .ok (.getfield 7, 3) := by decide +kernel
theorem dX9_given_4 : decode cX9_given 4 = .ok (.iload_n 2, 1) := by decide +kernel
theorem dX9_given_5 : decode cX9_given 5 = .ok (.iaload, 1) := by decide +kernel
theorem dX9_given_6 : decode cX9_given 6 = .ok (.ifCond .eq 14, 3) := by decide +kernel
theorem dX9_given_9 : decode cX9_given 9 = .ok (.aload_n 0, 1) := by decide +kernel
theorem dX9_given_10 : decode cX9_given 10 = .ok (.iload_n 1, 1) := by decide +kernel
theorem dX9_given_11 : decode cX9_given 11 = .ok (.iload_n 2, 1) := by decide +kernel
theorem dX9_given_12 : decode cX9_given 12 = .ok (.invokevirtual 115, 3) := by decide +kernel
theorem dX9_given_15 : decode cX9_given 15 = .ok (.bipush (-4), 2) := by decide +kernel
theorem dX9_given_17 : decode cX9_given 17 = .ok (.if_icmp .ne 5, 3) := by decide +kernel
theorem dX9_given_20 : decode cX9_given 20 = .ok (.lconst 0, 1) := by decide +kernel
theorem dX9_given_21 : decode cX9_given 21 = .ok (.lreturn, 1) := by decide +kernel
theorem dX9_given_22 : decode cX9_given 22 = .ok (.aload_n 0, 1) := by decide +kernel
theorem dX9_given_23 : decode cX9_given 23 = .ok (.getfield 13, 3) := by decide +kernel
theorem dX9_given_26 : decode cX9_given 26 = .ok (.iload_n 2, 1) := by decide +kernel
theorem dX9_given_27 : decode cX9_given 27 = .ok (.laload, 1) := by decide +kernel
theorem dX9_given_28 : decode cX9_given 28 = .ok (.aload_n 0, 1) := by decide +kernel
theorem dX9_given_29 : decode cX9_given 29 = .ok (.getfield 7, 3) := by decide +kernel
theorem dX9_given_32 : decode cX9_given 32 = .ok (.iload_n 2, 1) := by decide +kernel
theorem dX9_given_33 : decode cX9_given 33 = .ok (.iaload, 1) := by decide +kernel
theorem dX9_given_34 : decode cX9_given 34 = .ok (.i2l, 1) := by decide +kernel
theorem dX9_given_35 : decode cX9_given 35 = .ok (.aload_n 0, 1) := by decide +kernel
theorem dX9_given_36 : decode cX9_given 36 = .ok (.iload_n 1, 1) := by decide +kernel
theorem dX9_given_37 : decode cX9_given 37 = .ok (.iload_n 2, 1) := by decide +kernel
theorem dX9_given_38 : decode cX9_given 38 = .ok (.invokevirtual 115, 3) := by decide +kernel
theorem dX9_given_41 : decode cX9_given 41 = .ok (.i2l, 1) := by decide +kernel
theorem dX9_given_42 : decode cX9_given 42 = .ok (.lmul, 1) := by decide +kernel
theorem dX9_given_43 : decode cX9_given 43 = .ok (.lsub, 1) := by decide +kernel
theorem dX9_given_44 : decode cX9_given 44 = .ok (.lstore_n 3, 1) := by decide +kernel
theorem dX9_given_45 : decode cX9_given 45 = .ok (.lload_n 3, 1) := by decide +kernel
theorem dX9_given_46 : decode cX9_given 46 = .ok (.lconst 0, 1) := by decide +kernel
theorem dX9_given_47 : decode cX9_given 47 = .ok (.lcmp, 1) := by decide +kernel
theorem dX9_given_48 : decode cX9_given 48 = .ok (.ifCond .le 7, 3) := by decide +kernel
theorem dX9_given_51 : decode cX9_given 51 = .ok (.lload_n 3, 1) := by decide +kernel
theorem dX9_given_52 : decode cX9_given 52 = .ok (.goto 4, 3) := by decide +kernel
theorem dX9_given_55 : decode cX9_given 55 = .ok (.lconst 0, 1) := by decide +kernel
theorem dX9_given_56 : decode cX9_given 56 = .ok (.lreturn, 1) := by decide +kernel
theorem dX9_gives_0 : decode cX9_gives 0 = .ok (.aload_n 0, 1) := by decide +kernel
theorem dX9_gives_1 : decode cX9_gives 1 = .ok (.iload_n 1, 1) := by decide +kernel
theorem dX9_gives_2 : decode cX9_gives 2 = .ok (.invokevirtual 101, 3) := by decide +kernel
theorem dX9_gives_5 : decode cX9_gives 5 = .ok (.ifCond .eq 11, 3) := by decide +kernel
theorem dX9_gives_8 : decode cX9_gives 8 = .ok (.aload_n 0, 1) := by decide +kernel
theorem dX9_gives_9 : decode cX9_gives 9 = .ok (.iload_n 2, 1) := by decide +kernel
theorem dX9_gives_10 : decode cX9_gives 10 = .ok (.invokevirtual 90, 3) := by decide +kernel
theorem dX9_gives_13 : decode cX9_gives 13 = .ok (.ifCond .ne 7, 3) := by decide +kernel
theorem dX9_gives_16 : decode cX9_gives 16 = .ok (.ldc2_w 142, 3) := by decide +kernel
theorem dX9_gives_19 : decode cX9_gives 19 = .ok (.lreturn, 1) := by decide +kernel
theorem dX9_gives_20 : decode cX9_gives 20 = .ok (.aload_n 0, 1) := by decide +kernel
theorem dX9_gives_21 : decode cX9_gives 21 = .ok (.invokevirtual 112, 3) := by decide +kernel
theorem dX9_gives_24 : decode cX9_gives 24 = .ok (.aload_n 0, 1) := by decide +kernel
theorem dX9_gives_25 : decode cX9_gives 25 = .ok (.iload_n 1, 1) := by decide +kernel
theorem dX9_gives_26 : decode cX9_gives 26 = .ok (.iload_n 2, 1) := by decide +kernel
theorem dX9_gives_27 : decode cX9_gives 27 = .ok (.invokevirtual 203, 3) := by decide +kernel
theorem dX9_gives_30 : decode cX9_gives 30 = .ok (.lreturn, 1) := by decide +kernel
theorem dX9_worthOf_0 : decode cX9_worthOf 0 = .ok (.aload_n 0, 1) := by decide +kernel
theorem dX9_worthOf_1 : decode cX9_worthOf 1 = .ok (.iload_n 1, 1) := by decide +kernel
theorem dX9_worthOf_2 : decode cX9_worthOf 2 = .ok (.invokevirtual 129, 3) := by decide +kernel
theorem dX9_worthOf_5 : decode cX9_worthOf 5 = .ok (.ineg, 1) := by decide +kernel
theorem dX9_worthOf_6 : decode cX9_worthOf 6 = .ok (.i2l, 1) := by decide +kernel
theorem dX9_worthOf_7 : decode cX9_worthOf 7 = .ok (.lstore_n 2, 1) := by decide +kernel
theorem dX9_worthOf_8 : decode cX9_worthOf 8 = .ok (.iconst 0, 1) := by decide +kernel
theorem dX9_worthOf_9 : decode cX9_worthOf 9 = .ok (.istore 4, 2) := by decide +kernel
theorem dX9_worthOf_11 : decode cX9_worthOf 11 = .ok (.iload 4, 2) := by decide +kernel
theorem dX9_worthOf_13 : decode cX9_worthOf 13 = .ok (.aload_n 0, 1) := by decide +kernel
theorem dX9_worthOf_14 : decode cX9_worthOf 14 = .ok (.getfield 75, 3) := by decide +kernel
theorem dX9_worthOf_17 : decode cX9_worthOf 17 = .ok (.if_icmp .ge 19, 3) := by decide +kernel
theorem dX9_worthOf_20 : decode cX9_worthOf 20 = .ok (.lload_n 2, 1) := by decide +kernel
theorem dX9_worthOf_21 : decode cX9_worthOf 21 = .ok (.aload_n 0, 1) := by decide +kernel
theorem dX9_worthOf_22 : decode cX9_worthOf 22 = .ok (.iload_n 1, 1) := by decide +kernel
theorem dX9_worthOf_23 : decode cX9_worthOf 23 = .ok (.iload 4, 2) := by decide +kernel
theorem dX9_worthOf_25 : decode cX9_worthOf 25 = .ok (.invokevirtual 203, 3) := by decide +kernel
theorem dX9_worthOf_28 : decode cX9_worthOf 28 = .ok (.ladd, 1) := by decide +kernel
theorem dX9_worthOf_29 : decode cX9_worthOf 29 = .ok (.lstore_n 2, 1) := by decide +kernel
theorem dX9_worthOf_30 : decode cX9_worthOf 30 = .ok (.iinc 4 1, 3) := by decide +kernel
theorem dX9_worthOf_33 : decode cX9_worthOf 33 = .ok (.goto (-22), 3) := by decide +kernel
theorem dX9_worthOf_36 : decode cX9_worthOf 36 = .ok (.lload_n 2, 1) := by decide +kernel
theorem dX9_worthOf_37 : decode cX9_worthOf 37 = .ok (.lconst 0, 1) := by decide +kernel
theorem dX9_worthOf_38 : decode cX9_worthOf 38 = .ok (.lcmp, 1) := by decide +kernel
theorem dX9_worthOf_39 : decode cX9_worthOf 39 = .ok (.ifCond .ge 17, 3) := by decide +kernel
theorem dX9_worthOf_42 : decode cX9_worthOf 42 = .ok (.aload_n 0, 1) := by decide +kernel
theorem dX9_worthOf_43 : decode cX9_worthOf 43 = .ok (.getfield 23, 3) := by decide +kernel
theorem dX9_worthOf_46 : decode cX9_worthOf 46 = .ok (.iload_n 1, 1) := by decide +kernel
theorem dX9_worthOf_47 : decode cX9_worthOf 47 = .ok (.iaload, 1) := by decide +kernel
theorem dX9_worthOf_48 : decode cX9_worthOf 48 = .ok (.iconst 3, 1) := by decide +kernel
theorem dX9_worthOf_49 : decode cX9_worthOf 49 = .ok (.if_icmp .eq 7, 3) := by decide +kernel
theorem dX9_worthOf_52 : decode cX9_worthOf 52 = .ok (.lconst 0, 1) := by decide +kernel
theorem dX9_worthOf_53 : decode cX9_worthOf 53 = .ok (.goto 4, 3) := by decide +kernel
theorem dX9_worthOf_56 : decode cX9_worthOf 56 = .ok (.lload_n 2, 1) := by decide +kernel
theorem dX9_worthOf_57 : decode cX9_worthOf 57 = .ok (.lreturn, 1) := by decide +kernel
theorem dX9_worth_0 : decode cX9_worth 0 = .ok (.aload_n 0, 1) := by decide +kernel
theorem dX9_worth_1 : decode cX9_worth 1 = .ok (.iload_n 1, 1) := by decide +kernel
theorem dX9_worth_2 : decode cX9_worth 2 = .ok (.invokevirtual 101, 3) := by decide +kernel
theorem dX9_worth_5 : decode cX9_worth 5 = .ok (.ifCond .ne 5, 3) := by decide +kernel
theorem dX9_worth_8 : decode cX9_worth 8 = .ok (.lconst 0, 1) := by decide +kernel
theorem dX9_worth_9 : decode cX9_worth 9 = .ok (.lreturn, 1) := by decide +kernel
theorem dX9_worth_10 : decode cX9_worth 10 = .ok (.aload_n 0, 1) := by decide +kernel
theorem dX9_worth_11 : decode cX9_worth 11 = .ok (.invokevirtual 112, 3) := by decide +kernel
theorem dX9_worth_14 : decode cX9_worth 14 = .ok (.aload_n 0, 1) := by decide +kernel
theorem dX9_worth_15 : decode cX9_worth 15 = .ok (.iload_n 1, 1) := by decide +kernel
theorem dX9_worth_16 : decode cX9_worth 16 = .ok (.invokevirtual 207, 3) := by decide +kernel
theorem dX9_worth_19 : decode cX9_worth 19 = .ok (.lreturn, 1) := by decide +kernel
theorem dX9_findRichest_0 : decode cX9_findRichest 0 = .ok (.iconst 0, 1) := by decide +kernel
theorem dX9_findRichest_1 : decode cX9_findRichest 1 = .ok (.istore_n 1, 1) := by decide +kernel
theorem dX9_findRichest_2 : decode cX9_findRichest 2 = .ok (.iload_n 1, 1) := by decide +kernel
theorem dX9_findRichest_3 : decode cX9_findRichest 3 = .ok (.aload_n 0, 1) := by decide +kernel
theorem dX9_findRichest_4 : decode cX9_findRichest 4 = .ok (.getfield 78, 3) := by decide +kernel
theorem dX9_findRichest_7 : decode cX9_findRichest 7 = .ok (.if_icmp .ge 20, 3) := by decide +kernel
theorem dX9_findRichest_10 : decode cX9_findRichest 10 = .ok (.aload_n 0, 1) := by decide +kernel
theorem dX9_findRichest_11 : decode cX9_findRichest 11 = .ok (.getfield 69, 3) := by decide +kernel
theorem dX9_findRichest_14 : decode cX9_findRichest 14 = .ok (.iload_n 1, 1) := by decide +kernel
theorem dX9_findRichest_15 : decode cX9_findRichest 15 = .ok (.aload_n 0, 1) := by decide +kernel
theorem dX9_findRichest_16 : decode cX9_findRichest 16 = .ok (.iload_n 1, 1) := by decide +kernel
theorem dX9_findRichest_17 : decode cX9_findRichest 17 = .ok (.invokevirtual 207, 3) := by decide +kernel
theorem dX9_findRichest_20 : decode cX9_findRichest 20 = .ok (.lastore, 1) := by decide +kernel
theorem dX9_findRichest_21 : decode cX9_findRichest 21 = .ok (.iinc 1 1, 3) := by decide +kernel
theorem dX9_findRichest_24 : decode cX9_findRichest 24 = .ok (.goto (-22), 3) := by decide +kernel
theorem dX9_findRichest_27 : decode cX9_findRichest 27 = .ok (.aload_n 0, 1) := by decide +kernel
theorem dX9_findRichest_28 : decode cX9_findRichest 28 = .ok (.bipush (-4), 2) := by decide +kernel
theorem dX9_findRichest_30 : decode cX9_findRichest 30 = .ok (.putfield 211, 3) := by decide +kernel
theorem dX9_findRichest_33 : decode cX9_findRichest 33 = .ok (.aload_n 0, 1) := by decide +kernel
theorem dX9_findRichest_34 : decode cX9_findRichest 34 = .ok (.lconst 0, 1) := by decide +kernel
theorem dX9_findRichest_35 : decode cX9_findRichest 35 = .ok (.putfield 214, 3) := by decide +kernel
theorem dX9_findRichest_38 : decode cX9_findRichest 38 = .ok (.iconst 0, 1) := by decide +kernel
theorem dX9_findRichest_39 : decode cX9_findRichest 39 = .ok (.istore_n 1, 1) := by decide +kernel
theorem dX9_findRichest_40 : decode cX9_findRichest 40 = .ok (.iload_n 1, 1) := by decide +kernel
theorem dX9_findRichest_41 : decode cX9_findRichest 41 = .ok (.iconst 1, 1) := by decide +kernel
theorem dX9_findRichest_42 : decode cX9_findRichest 42 = .ok (.aload_n 0, 1) := by decide +kernel
theorem dX9_findRichest_43 : decode cX9_findRichest 43 = .ok (.getfield 78, 3) := by decide +kernel
theorem dX9_findRichest_46 : decode cX9_findRichest 46 = .ok (.ishl, 1) := by decide +kernel
theorem dX9_findRichest_47 : decode cX9_findRichest 47 = .ok (.if_icmp .ge 89, 3) := by decide +kernel
theorem dX9_findRichest_50 : decode cX9_findRichest 50 = .ok (.aload_n 0, 1) := by decide +kernel
theorem dX9_findRichest_51 : decode cX9_findRichest 51 = .ok (.iload_n 1, 1) := by decide +kernel
theorem dX9_findRichest_52 : decode cX9_findRichest 52 = .ok (.invokevirtual 139, 3) := by decide +kernel
theorem dX9_findRichest_55 : decode cX9_findRichest 55 = .ok (.ifCond .eq 75, 3) := by decide +kernel
theorem dX9_findRichest_58 : decode cX9_findRichest 58 = .ok (.lconst 0, 1) := by decide +kernel
theorem dX9_findRichest_59 : decode cX9_findRichest 59 = .ok (.lstore_n 2, 1) := by decide +kernel
theorem dX9_findRichest_60 : decode cX9_findRichest 60 = .ok (.iconst 0, 1) := by decide +kernel
theorem dX9_findRichest_61 : decode cX9_findRichest 61 = .ok (.istore 4, 2) := by decide +kernel
theorem dX9_findRichest_63 : decode cX9_findRichest 63 = .ok (.iload 4, 2) := by decide +kernel
theorem dX9_findRichest_65 : decode cX9_findRichest 65 = .ok (.aload_n 0, 1) := by decide +kernel
theorem dX9_findRichest_66 : decode cX9_findRichest 66 = .ok (.getfield 78, 3) := by decide +kernel
theorem dX9_findRichest_69 : decode cX9_findRichest 69 = .ok (.if_icmp .ge 33, 3) := by decide +kernel
theorem dX9_findRichest_72 : decode cX9_findRichest 72 = .ok (.lload_n 2, 1) := by decide +kernel
theorem dX9_findRichest_73 : decode cX9_findRichest 73 = .ok (.iload_n 1, 1) := by decide +kernel
theorem dX9_findRichest_74 : decode cX9_findRichest 74 = .ok (.iload 4, 2) := by decide +kernel
theorem dX9_findRichest_76 : decode cX9_findRichest 76 = .ok (.ishr, 1) := by decide +kernel
theorem dX9_findRichest_77 : decode cX9_findRichest 77 = .ok (.iconst 1, 1) := by decide +kernel
theorem dX9_findRichest_78 : decode cX9_findRichest 78 = .ok (.iand, 1) := by decide +kernel
theorem dX9_findRichest_79 : decode cX9_findRichest 79 = .ok (.iconst 1, 1) := by decide +kernel
theorem dX9_findRichest_80 : decode cX9_findRichest 80 = .ok (.if_icmp .ne 13, 3) := by decide +kernel
theorem dX9_findRichest_83 : decode cX9_findRichest 83 = .ok (.aload_n 0, 1) := by decide +kernel
theorem dX9_findRichest_84 : decode cX9_findRichest 84 = .ok (.getfield 69, 3) := by decide +kernel
theorem dX9_findRichest_87 : decode cX9_findRichest 87 = .ok (.iload 4, 2) := by decide +kernel
theorem dX9_findRichest_89 : decode cX9_findRichest 89 = .ok (.laload, 1) := by decide +kernel
theorem dX9_findRichest_90 : decode cX9_findRichest 90 = .ok (.goto 4, 3) := by decide +kernel
theorem dX9_findRichest_93 : decode cX9_findRichest 93 = .ok (.lconst 0, 1) := by decide +kernel
theorem dX9_findRichest_94 : decode cX9_findRichest 94 = .ok (.ladd, 1) := by decide +kernel
theorem dX9_findRichest_95 : decode cX9_findRichest 95 = .ok (.lstore_n 2, 1) := by decide +kernel
theorem dX9_findRichest_96 : decode cX9_findRichest 96 = .ok (.iinc 4 1, 3) := by decide +kernel
theorem dX9_findRichest_99 : decode cX9_findRichest 99 = .ok (.goto (-36), 3) := by decide +kernel
theorem dX9_findRichest_102 : decode cX9_findRichest 102 = .ok (.aload_n 0, 1) := by decide +kernel
theorem dX9_findRichest_103 : decode cX9_findRichest 103 = .ok (.getfield 211, 3) := by decide +kernel
theorem dX9_findRichest_106 : decode cX9_findRichest 106 = .ok (.bipush (-4), 2) := by decide +kernel
theorem dX9_findRichest_108 : decode cX9_findRichest 108 = .ok (.if_icmp .eq 12, 3) := by decide +kernel
theorem dX9_findRichest_111 : decode cX9_findRichest 111 = .ok (.lload_n 2, 1) := by decide +kernel
theorem dX9_findRichest_112 : decode cX9_findRichest 112 = .ok (.aload_n 0, 1) := by decide +kernel
theorem dX9_findRichest_113 : decode cX9_findRichest 113 = .ok (.getfield 214, 3) := by decide +kernel
theorem dX9_findRichest_116 : decode cX9_findRichest 116 = .ok (.lcmp, 1) := by decide +kernel
theorem dX9_findRichest_117 : decode cX9_findRichest 117 = .ok (.ifCond .le 13, 3) := by decide +kernel
theorem dX9_findRichest_120 : decode cX9_findRichest 120 = .ok (.aload_n 0, 1) := by decide +kernel
theorem dX9_findRichest_121 : decode cX9_findRichest 121 = .ok (.iload_n 1, 1) := by decide +kernel
theorem dX9_findRichest_122 : decode cX9_findRichest 122 = .ok (.putfield 211, 3) := by decide +kernel
theorem dX9_findRichest_125 : decode cX9_findRichest 125 = .ok (.aload_n 0, 1) := by decide +kernel
theorem dX9_findRichest_126 : decode cX9_findRichest 126 = .ok (.lload_n 2, 1) := by decide +kernel
theorem dX9_findRichest_127 : decode cX9_findRichest 127 = .ok (.putfield 214, 3) := by decide +kernel
theorem dX9_findRichest_130 : decode cX9_findRichest 130 = .ok (.iinc 1 1, 3) := by decide +kernel
theorem dX9_findRichest_133 : decode cX9_findRichest 133 = .ok (.goto (-93), 3) := by decide +kernel
theorem dX9_findRichest_136 : decode cX9_findRichest 136 = .ok (.return_, 1) := by decide +kernel
theorem dX9_boundNow_0 : decode cX9_boundNow 0 = .ok (.aload_n 0, 1) := by decide +kernel
theorem dX9_boundNow_1 : decode cX9_boundNow 1 = .ok (.invokevirtual 217, 3) := by decide +kernel
theorem dX9_boundNow_4 : decode cX9_boundNow 4 = .ok (.aload_n 0, 1) := by decide +kernel
theorem dX9_boundNow_5 : decode cX9_boundNow 5 = .ok (.getfield 211, 3) := by decide +kernel
theorem dX9_boundNow_8 : decode cX9_boundNow 8 = .ok (.bipush (-4), 2) := by decide +kernel
theorem dX9_boundNow_10 : decode cX9_boundNow 10 = .ok (.if_icmp .ne 7, 3) := by decide +kernel
theorem dX9_boundNow_13 : decode cX9_boundNow 13 = .ok (.ldc2_w 148, 3) := by decide +kernel
theorem dX9_boundNow_16 : decode cX9_boundNow 16 = .ok (.lreturn, 1) := by decide +kernel
theorem dX9_boundNow_17 : decode cX9_boundNow 17 = .ok (.aload_n 0, 1) := by decide +kernel
theorem dX9_boundNow_18 : decode cX9_boundNow 18 = .ok (.getfield 214, 3) := by decide +kernel
theorem dX9_boundNow_21 : decode cX9_boundNow 21 = .ok (.lneg, 1) := by decide +kernel
theorem dX9_boundNow_22 : decode cX9_boundNow 22 = .ok (.lstore_n 1, 1) := by decide +kernel
theorem dX9_boundNow_23 : decode cX9_boundNow 23 = .ok (.iconst 0, 1) := by decide +kernel
theorem dX9_boundNow_24 : decode cX9_boundNow 24 = .ok (.istore_n 3, 1) := by decide +kernel
theorem dX9_boundNow_25 : decode cX9_boundNow 25 = .ok (.iload_n 3, 1) := by decide +kernel
theorem dX9_boundNow_26 : decode cX9_boundNow 26 = .ok (.aload_n 0, 1) := by decide +kernel
theorem dX9_boundNow_27 : decode cX9_boundNow 27 = .ok (.getfield 75, 3) := by decide +kernel
theorem dX9_boundNow_30 : decode cX9_boundNow 30 = .ok (.if_icmp .ge 31, 3) := by decide +kernel
theorem dX9_boundNow_33 : decode cX9_boundNow 33 = .ok (.lload_n 1, 1) := by decide +kernel
theorem dX9_boundNow_34 : decode cX9_boundNow 34 = .ok (.aload_n 0, 1) := by decide +kernel
theorem dX9_boundNow_35 : decode cX9_boundNow 35 = .ok (.getfield 7, 3) := by decide +kernel
theorem dX9_boundNow_38 : decode cX9_boundNow 38 = .ok (.iload_n 3, 1) := by decide +kernel
theorem dX9_boundNow_39 : decode cX9_boundNow 39 = .ok (.iaload, 1) := by decide +kernel
theorem dX9_boundNow_40 : decode cX9_boundNow 40 = .ok (.ifCond .le 12, 3) := by decide +kernel
theorem dX9_boundNow_43 : decode cX9_boundNow 43 = .ok (.aload_n 0, 1) := by decide +kernel
theorem dX9_boundNow_44 : decode cX9_boundNow 44 = .ok (.getfield 13, 3) := by decide +kernel
theorem dX9_boundNow_47 : decode cX9_boundNow 47 = .ok (.iload_n 3, 1) := by decide +kernel
theorem dX9_boundNow_48 : decode cX9_boundNow 48 = .ok (.laload, 1) := by decide +kernel
theorem dX9_boundNow_49 : decode cX9_boundNow 49 = .ok (.goto 4, 3) := by decide +kernel
theorem dX9_boundNow_52 : decode cX9_boundNow 52 = .ok (.lconst 0, 1) := by decide +kernel
theorem dX9_boundNow_53 : decode cX9_boundNow 53 = .ok (.ladd, 1) := by decide +kernel
theorem dX9_boundNow_54 : decode cX9_boundNow 54 = .ok (.lstore_n 1, 1) := by decide +kernel
theorem dX9_boundNow_55 : decode cX9_boundNow 55 = .ok (.iinc 3 1, 3) := by decide +kernel
theorem dX9_boundNow_58 : decode cX9_boundNow 58 = .ok (.goto (-33), 3) := by decide +kernel
theorem dX9_boundNow_61 : decode cX9_boundNow 61 = .ok (.lload_n 1, 1) := by decide +kernel
theorem dX9_boundNow_62 : decode cX9_boundNow 62 = .ok (.lreturn, 1) := by decide +kernel
theorem dX9_bound_0 : decode cX9_bound 0 = .ok (.aload_n 0, 1) := by decide +kernel
theorem dX9_bound_1 : decode cX9_bound 1 = .ok (.invokevirtual 112, 3) := by decide +kernel
theorem dX9_bound_4 : decode cX9_bound 4 = .ok (.aload_n 0, 1) := by decide +kernel
theorem dX9_bound_5 : decode cX9_bound 5 = .ok (.invokevirtual 220, 3) := by decide +kernel
theorem dX9_bound_8 : decode cX9_bound 8 = .ok (.lreturn, 1) := by decide +kernel
theorem dX9_climb_0 : decode cX9_climb 0 = .ok (.iload_n 1, 1) := by decide +kernel
theorem dX9_climb_1 : decode cX9_climb 1 = .ok (.i2l, 1) := by decide +kernel
theorem dX9_climb_2 : decode cX9_climb 2 = .ok (.lconst 0, 1) := by decide +kernel
theorem dX9_climb_3 : decode cX9_climb 3 = .ok (.ldc2_w 224, 3) := by decide +kernel
theorem dX9_climb_6 : decode cX9_climb 6 = .ok (.invokestatic 81, 3) := by decide +kernel
theorem dX9_climb_9 : decode cX9_climb 9 = .ok (.ifCond .eq 15, 3) := by decide +kernel
theorem dX9_climb_12 : decode cX9_climb 12 = .ok (.iload_n 2, 1) := by decide +kernel
theorem dX9_climb_13 : decode cX9_climb 13 = .ok (.i2l, 1) := by decide +kernel
theorem dX9_climb_14 : decode cX9_climb 14 = .ok (.lconst 1, 1) := by decide +kernel
theorem dX9_climb_15 : decode cX9_climb 15 = .ok (.ldc2_w 99, 3) := by decide +kernel
theorem dX9_climb_18 : decode cX9_climb 18 = .ok (.invokestatic 81, 3) := by decide +kernel
theorem dX9_climb_21 : decode cX9_climb 21 = .ok (.ifCond .ne 5, 3) := by decide +kernel
theorem dX9_climb_24 : decode cX9_climb 24 = .ok (.iconst (-1), 1) := by decide +kernel
theorem dX9_climb_25 : decode cX9_climb 25 = .ok (.ireturn, 1) := by decide +kernel
theorem dX9_climb_26 : decode cX9_climb 26 = .ok (.aload_n 0, 1) := by decide +kernel
theorem dX9_climb_27 : decode cX9_climb 27 = .ok (.invokevirtual 112, 3) := by decide +kernel
theorem dX9_climb_30 : decode cX9_climb 30 = .ok (.aload_n 0, 1) := by decide +kernel
theorem dX9_climb_31 : decode cX9_climb 31 = .ok (.invokevirtual 217, 3) := by decide +kernel
theorem dX9_climb_34 : decode cX9_climb 34 = .ok (.aload_n 0, 1) := by decide +kernel
theorem dX9_climb_35 : decode cX9_climb 35 = .ok (.getfield 211, 3) := by decide +kernel
theorem dX9_climb_38 : decode cX9_climb 38 = .ok (.bipush (-4), 2) := by decide +kernel
theorem dX9_climb_40 : decode cX9_climb 40 = .ok (.if_icmp .ne 6, 3) := by decide +kernel
theorem dX9_climb_43 : decode cX9_climb 43 = .ok (.bipush (-2), 2) := by decide +kernel
theorem dX9_climb_45 : decode cX9_climb 45 = .ok (.ireturn, 1) := by decide +kernel
theorem dX9_climb_46 : decode cX9_climb 46 = .ok (.aload_n 0, 1) := by decide +kernel
theorem dX9_climb_47 : decode cX9_climb 47 = .ok (.aload_n 0, 1) := by decide +kernel
theorem dX9_climb_48 : decode cX9_climb 48 = .ok (.invokevirtual 220, 3) := by decide +kernel
theorem dX9_climb_51 : decode cX9_climb 51 = .ok (.putfield 226, 3) := by decide +kernel
theorem dX9_climb_54 : decode cX9_climb 54 = .ok (.iconst 0, 1) := by decide +kernel
theorem dX9_climb_55 : decode cX9_climb 55 = .ok (.istore_n 3, 1) := by decide +kernel
theorem dX9_climb_56 : decode cX9_climb 56 = .ok (.iconst 0, 1) := by decide +kernel
theorem dX9_climb_57 : decode cX9_climb 57 = .ok (.istore 4, 2) := by decide +kernel
theorem dX9_climb_59 : decode cX9_climb 59 = .ok (.iload 4, 2) := by decide +kernel
theorem dX9_climb_61 : decode cX9_climb 61 = .ok (.iload_n 1, 1) := by decide +kernel
theorem dX9_climb_62 : decode cX9_climb 62 = .ok (.if_icmp .ge 227, 3) := by decide +kernel
theorem dX9_climb_65 : decode cX9_climb 65 = .ok (.aload_n 0, 1) := by decide +kernel
theorem dX9_climb_66 : decode cX9_climb 66 = .ok (.invokevirtual 217, 3) := by decide +kernel
theorem dX9_climb_69 : decode cX9_climb 69 = .ok (.iconst 0, 1) := by decide +kernel
theorem dX9_climb_70 : decode cX9_climb 70 = .ok (.istore 5, 2) := by decide +kernel
theorem dX9_climb_72 : decode cX9_climb 72 = .ok (.iload 5, 2) := by decide +kernel
theorem dX9_climb_74 : decode cX9_climb 74 = .ok (.aload_n 0, 1) := by decide +kernel
theorem dX9_climb_75 : decode cX9_climb 75 = .ok (.getfield 75, 3) := by decide +kernel
theorem dX9_climb_78 : decode cX9_climb 78 = .ok (.if_icmp .ge 176, 3) := by decide +kernel
theorem dX9_climb_81 : decode cX9_climb 81 = .ok (.iconst 0, 1) := by decide +kernel
theorem dX9_climb_82 : decode cX9_climb 82 = .ok (.istore 6, 2) := by decide +kernel
theorem dX9_climb_84 : decode cX9_climb 84 = .ok (.iconst 0, 1) := by decide +kernel
theorem dX9_climb_85 : decode cX9_climb 85 = .ok (.istore 7, 2) := by decide +kernel
theorem dX9_climb_87 : decode cX9_climb 87 = .ok (.iload 7, 2) := by decide +kernel
theorem dX9_climb_89 : decode cX9_climb 89 = .ok (.aload_n 0, 1) := by decide +kernel
theorem dX9_climb_90 : decode cX9_climb 90 = .ok (.getfield 78, 3) := by decide +kernel
theorem dX9_climb_93 : decode cX9_climb 93 = .ok (.if_icmp .ge 45, 3) := by decide +kernel
theorem dX9_climb_96 : decode cX9_climb 96 = .ok (.iload 6, 2) := by decide +kernel
theorem dX9_climb_98 : decode cX9_climb 98 = .ok (.aload_n 0, 1) := by decide +kernel
theorem dX9_climb_99 : decode cX9_climb 99 = .ok (.getfield 211, 3) := by decide +kernel
theorem dX9_climb_102 : decode cX9_climb 102 = .ok (.iload 7, 2) := by decide +kernel
theorem dX9_climb_104 : decode cX9_climb 104 = .ok (.ishr, 1) := by decide +kernel
theorem dX9_climb_105 : decode cX9_climb 105 = .ok (.iconst 1, 1) := by decide +kernel
theorem dX9_climb_106 : decode cX9_climb 106 = .ok (.iand, 1) := by decide +kernel
theorem dX9_climb_107 : decode cX9_climb 107 = .ok (.iconst 1, 1) := by decide +kernel
theorem dX9_climb_108 : decode cX9_climb 108 = .ok (.if_icmp .ne 20, 3) := by decide +kernel
theorem dX9_climb_111 : decode cX9_climb 111 = .ok (.aload_n 0, 1) := by decide +kernel
theorem dX9_climb_112 : decode cX9_climb 112 = .ok (.iload 7, 2) := by decide +kernel
theorem dX9_climb_114 : decode cX9_climb 114 = .ok (.iload 5, 2) := by decide +kernel
theorem dX9_climb_116 : decode cX9_climb 116 = .ok (.invokevirtual 203, 3) := by decide +kernel
theorem dX9_climb_119 : decode cX9_climb 119 = .ok (.lconst 0, 1) := by decide +kernel
theorem dX9_climb_120 : decode cX9_climb 120 = .ok (.lcmp, 1) := by decide +kernel
theorem dX9_climb_121 : decode cX9_climb 121 = .ok (.ifCond .le 7, 3) := by decide +kernel
theorem dX9_climb_124 : decode cX9_climb 124 = .ok (.iconst 1, 1) := by decide +kernel
theorem dX9_climb_125 : decode cX9_climb 125 = .ok (.goto 4, 3) := by decide +kernel
theorem dX9_climb_128 : decode cX9_climb 128 = .ok (.iconst 0, 1) := by decide +kernel
theorem dX9_climb_129 : decode cX9_climb 129 = .ok (.iadd, 1) := by decide +kernel
theorem dX9_climb_130 : decode cX9_climb 130 = .ok (.istore 6, 2) := by decide +kernel
theorem dX9_climb_132 : decode cX9_climb 132 = .ok (.iinc 7 1, 3) := by decide +kernel
theorem dX9_climb_135 : decode cX9_climb 135 = .ok (.goto (-48), 3) := by decide +kernel
theorem dX9_climb_138 : decode cX9_climb 138 = .ok (.aload_n 0, 1) := by decide +kernel
theorem dX9_climb_139 : decode cX9_climb 139 = .ok (.getfield 13, 3) := by decide +kernel
theorem dX9_climb_142 : decode cX9_climb 142 = .ok (.iload 5, 2) := by decide +kernel
theorem dX9_climb_144 : decode cX9_climb 144 = .ok (.laload, 1) := by decide +kernel
theorem dX9_climb_145 : decode cX9_climb 145 = .ok (.lstore 7, 2) := by decide +kernel
theorem dX9_climb_147 : decode cX9_climb 147 = .ok (.aload_n 0, 1) := by decide +kernel
theorem dX9_climb_148 : decode cX9_climb 148 = .ok (.getfield 7, 3) := by decide +kernel
theorem dX9_climb_151 : decode cX9_climb 151 = .ok (.iload 5, 2) := by decide +kernel
theorem dX9_climb_153 : decode cX9_climb 153 = .ok (.iaload, 1) := by decide +kernel
theorem dX9_climb_154 : decode cX9_climb 154 = .ok (.ifCond .le 64, 3) := by decide +kernel
theorem dX9_climb_157 : decode cX9_climb 157 = .ok (.iload 6, 2) := by decide +kernel
theorem dX9_climb_159 : decode cX9_climb 159 = .ok (.ifCond .ne 11, 3) := by decide +kernel
theorem dX9_climb_162 : decode cX9_climb 162 = .ok (.lload 7, 2) := by decide +kernel
theorem dX9_climb_164 : decode cX9_climb 164 = .ok (.iload_n 2, 1) := by decide +kernel
theorem dX9_climb_165 : decode cX9_climb 165 = .ok (.i2l, 1) := by decide +kernel
theorem dX9_climb_166 : decode cX9_climb 166 = .ok (.ladd, 1) := by decide +kernel
theorem dX9_climb_167 : decode cX9_climb 167 = .ok (.goto 19, 3) := by decide +kernel
theorem dX9_climb_170 : decode cX9_climb 170 = .ok (.iload 6, 2) := by decide +kernel
theorem dX9_climb_172 : decode cX9_climb 172 = .ok (.iconst 1, 1) := by decide +kernel
theorem dX9_climb_173 : decode cX9_climb 173 = .ok (.if_icmp .le 11, 3) := by decide +kernel
theorem dX9_climb_176 : decode cX9_climb 176 = .ok (.lload 7, 2) := by decide +kernel
theorem dX9_climb_178 : decode cX9_climb 178 = .ok (.iload_n 2, 1) := by decide +kernel
theorem dX9_climb_179 : decode cX9_climb 179 = .ok (.i2l, 1) := by decide +kernel
theorem dX9_climb_180 : decode cX9_climb 180 = .ok (.lsub, 1) := by decide +kernel
theorem dX9_climb_181 : decode cX9_climb 181 = .ok (.goto 5, 3) := by decide +kernel
theorem dX9_climb_184 : decode cX9_climb 184 = .ok (.lload 7, 2) := by decide +kernel
theorem dX9_climb_186 : decode cX9_climb 186 = .ok (.lstore 7, 2) := by decide +kernel
theorem dX9_climb_188 : decode cX9_climb 188 = .ok (.lload 7, 2) := by decide +kernel
theorem dX9_climb_190 : decode cX9_climb 190 = .ok (.lconst 0, 1) := by decide +kernel
theorem dX9_climb_191 : decode cX9_climb 191 = .ok (.lcmp, 1) := by decide +kernel
theorem dX9_climb_192 : decode cX9_climb 192 = .ok (.ifCond .ge 7, 3) := by decide +kernel
theorem dX9_climb_195 : decode cX9_climb 195 = .ok (.lconst 0, 1) := by decide +kernel
theorem dX9_climb_196 : decode cX9_climb 196 = .ok (.goto 20, 3) := by decide +kernel
theorem dX9_climb_199 : decode cX9_climb 199 = .ok (.lload 7, 2) := by decide +kernel
theorem dX9_climb_201 : decode cX9_climb 201 = .ok (.ldc2_w 201, 3) := by decide +kernel
theorem dX9_climb_204 : decode cX9_climb 204 = .ok (.lcmp, 1) := by decide +kernel
theorem dX9_climb_205 : decode cX9_climb 205 = .ok (.ifCond .le 9, 3) := by decide +kernel
theorem dX9_climb_208 : decode cX9_climb 208 = .ok (.ldc2_w 201, 3) := by decide +kernel
theorem dX9_climb_211 : decode cX9_climb 211 = .ok (.goto 5, 3) := by decide +kernel
theorem dX9_climb_214 : decode cX9_climb 214 = .ok (.lload 7, 2) := by decide +kernel
theorem dX9_climb_216 : decode cX9_climb 216 = .ok (.lstore 7, 2) := by decide +kernel
theorem dX9_climb_218 : decode cX9_climb 218 = .ok (.iload_n 3, 1) := by decide +kernel
theorem dX9_climb_219 : decode cX9_climb 219 = .ok (.lload 7, 2) := by decide +kernel
theorem dX9_climb_221 : decode cX9_climb 221 = .ok (.aload_n 0, 1) := by decide +kernel
theorem dX9_climb_222 : decode cX9_climb 222 = .ok (.getfield 13, 3) := by decide +kernel
theorem dX9_climb_225 : decode cX9_climb 225 = .ok (.iload 5, 2) := by decide +kernel
theorem dX9_climb_227 : decode cX9_climb 227 = .ok (.laload, 1) := by decide +kernel
theorem dX9_climb_228 : decode cX9_climb 228 = .ok (.lcmp, 1) := by decide +kernel
theorem dX9_climb_229 : decode cX9_climb 229 = .ok (.ifCond .eq 7, 3) := by decide +kernel
theorem dX9_climb_232 : decode cX9_climb 232 = .ok (.iconst 1, 1) := by decide +kernel
theorem dX9_climb_233 : decode cX9_climb 233 = .ok (.goto 4, 3) := by decide +kernel
theorem dX9_climb_236 : decode cX9_climb 236 = .ok (.iconst 0, 1) := by decide +kernel
theorem dX9_climb_237 : decode cX9_climb 237 = .ok (.iadd, 1) := by decide +kernel
theorem dX9_climb_238 : decode cX9_climb 238 = .ok (.istore_n 3, 1) := by decide +kernel
theorem dX9_climb_239 : decode cX9_climb 239 = .ok (.aload_n 0, 1) := by decide +kernel
theorem dX9_climb_240 : decode cX9_climb 240 = .ok (.getfield 13, 3) := by decide +kernel
theorem dX9_climb_243 : decode cX9_climb 243 = .ok (.iload 5, 2) := by decide +kernel
theorem dX9_climb_245 : decode cX9_climb 245 = .ok (.lload 7, 2) := by decide +kernel
theorem dX9_climb_247 : decode cX9_climb 247 = .ok (.lastore, 1) := by decide +kernel
theorem dX9_climb_248 : decode cX9_climb 248 = .ok (.iinc 5 1, 3) := by decide +kernel
theorem dX9_climb_251 : decode cX9_climb 251 = .ok (.goto (-179), 3) := by decide +kernel
theorem dX9_climb_254 : decode cX9_climb 254 = .ok (.aload_n 0, 1) := by decide +kernel
theorem dX9_climb_255 : decode cX9_climb 255 = .ok (.invokevirtual 220, 3) := by decide +kernel
theorem dX9_climb_258 : decode cX9_climb 258 = .ok (.lstore 5, 2) := by decide +kernel
theorem dX9_climb_260 : decode cX9_climb 260 = .ok (.aload_n 0, 1) := by decide +kernel
theorem dX9_climb_261 : decode cX9_climb 261 = .ok (.lload 5, 2) := by decide +kernel
theorem dX9_climb_263 : decode cX9_climb 263 = .ok (.aload_n 0, 1) := by decide +kernel
theorem dX9_climb_264 : decode cX9_climb 264 = .ok (.getfield 226, 3) := by decide +kernel
theorem dX9_climb_267 : decode cX9_climb 267 = .ok (.lcmp, 1) := by decide +kernel
theorem dX9_climb_268 : decode cX9_climb 268 = .ok (.ifCond .le 8, 3) := by decide +kernel
theorem dX9_climb_271 : decode cX9_climb 271 = .ok (.lload 5, 2) := by decide +kernel
theorem dX9_climb_273 : decode cX9_climb 273 = .ok (.goto 7, 3) := by decide +kernel
theorem dX9_climb_276 : decode cX9_climb 276 = .ok (.aload_n 0, 1) := by decide +kernel
theorem dX9_climb_277 : decode cX9_climb 277 = .ok (.getfield 226, 3) := by decide +kernel
theorem dX9_climb_280 : decode cX9_climb 280 = .ok (.putfield 226, 3) := by decide +kernel
theorem dX9_climb_283 : decode cX9_climb 283 = .ok (.iinc 4 1, 3) := by decide +kernel
theorem dX9_climb_286 : decode cX9_climb 286 = .ok (.goto (-227), 3) := by decide +kernel
theorem dX9_climb_289 : decode cX9_climb 289 = .ok (.iload_n 3, 1) := by decide +kernel
theorem dX9_climb_290 : decode cX9_climb 290 = .ok (.ireturn, 1) := by decide +kernel
theorem dX9_highest_0 : decode cX9_highest 0 = .ok (.aload_n 0, 1) := by decide +kernel
theorem dX9_highest_1 : decode cX9_highest 1 = .ok (.getfield 226, 3) := by decide +kernel
theorem dX9_highest_4 : decode cX9_highest 4 = .ok (.lreturn, 1) := by decide +kernel
theorem dX9_count_0 : decode cX9_count 0 = .ok (.iconst 0, 1) := by decide +kernel
theorem dX9_count_1 : decode cX9_count 1 = .ok (.istore_n 2, 1) := by decide +kernel
theorem dX9_count_2 : decode cX9_count 2 = .ok (.iload_n 1, 1) := by decide +kernel
theorem dX9_count_3 : decode cX9_count 3 = .ok (.tableswitch 182 0 5 #[37, 42, 47, 114, 119, 146], 37) := by decide +kernel
theorem dX9_count_40 : decode cX9_count 40 = .ok (.aload_n 0, 1) := by decide +kernel
theorem dX9_count_41 : decode cX9_count 41 = .ok (.getfield 75, 3) := by decide +kernel
theorem dX9_count_44 : decode cX9_count 44 = .ok (.ireturn, 1) := by decide +kernel
theorem dX9_count_45 : decode cX9_count 45 = .ok (.aload_n 0, 1) := by decide +kernel
theorem dX9_count_46 : decode cX9_count 46 = .ok (.getfield 78, 3) := by decide +kernel
theorem dX9_count_49 : decode cX9_count 49 = .ok (.ireturn, 1) := by decide +kernel
theorem dX9_count_50 : decode cX9_count 50 = .ok (.iconst 0, 1) := by decide +kernel
theorem dX9_count_51 : decode cX9_count 51 = .ok (.istore_n 3, 1) := by decide +kernel
theorem dX9_count_52 : decode cX9_count 52 = .ok (.iload_n 3, 1) := by decide +kernel
theorem dX9_count_53 : decode cX9_count 53 = .ok (.sipush 144, 3) := by decide +kernel
theorem dX9_count_56 : decode cX9_count 56 = .ok (.if_icmp .ge 59, 3) := by decide +kernel
theorem dX9_count_59 : decode cX9_count 59 = .ok (.iload_n 2, 1) := by decide +kernel
theorem dX9_count_60 : decode cX9_count 60 = .ok (.iload_n 3, 1) := by decide +kernel
theorem dX9_count_61 : decode cX9_count 61 = .ok (.bipush 12, 2) := by decide +kernel
theorem dX9_count_63 : decode cX9_count 63 = .ok (.idiv, 1) := by decide +kernel
theorem dX9_count_64 : decode cX9_count 64 = .ok (.iload_n 3, 1) := by decide +kernel
theorem dX9_count_65 : decode cX9_count 65 = .ok (.bipush 12, 2) := by decide +kernel
theorem dX9_count_67 : decode cX9_count 67 = .ok (.irem, 1) := by decide +kernel
theorem dX9_count_68 : decode cX9_count 68 = .ok (.if_icmp .ge 38, 3) := by decide +kernel
theorem dX9_count_71 : decode cX9_count 71 = .ok (.iload_n 3, 1) := by decide +kernel
theorem dX9_count_72 : decode cX9_count 72 = .ok (.bipush 12, 2) := by decide +kernel
theorem dX9_count_74 : decode cX9_count 74 = .ok (.idiv, 1) := by decide +kernel
theorem dX9_count_75 : decode cX9_count 75 = .ok (.aload_n 0, 1) := by decide +kernel
theorem dX9_count_76 : decode cX9_count 76 = .ok (.getfield 75, 3) := by decide +kernel
theorem dX9_count_79 : decode cX9_count 79 = .ok (.if_icmp .ge 27, 3) := by decide +kernel
theorem dX9_count_82 : decode cX9_count 82 = .ok (.iload_n 3, 1) := by decide +kernel
theorem dX9_count_83 : decode cX9_count 83 = .ok (.bipush 12, 2) := by decide +kernel
theorem dX9_count_85 : decode cX9_count 85 = .ok (.irem, 1) := by decide +kernel
theorem dX9_count_86 : decode cX9_count 86 = .ok (.aload_n 0, 1) := by decide +kernel
theorem dX9_count_87 : decode cX9_count 87 = .ok (.getfield 75, 3) := by decide +kernel
theorem dX9_count_90 : decode cX9_count 90 = .ok (.if_icmp .ge 16, 3) := by decide +kernel
theorem dX9_count_93 : decode cX9_count 93 = .ok (.aload_n 0, 1) := by decide +kernel
theorem dX9_count_94 : decode cX9_count 94 = .ok (.getfield 17, 3) := by decide +kernel
theorem dX9_count_97 : decode cX9_count 97 = .ok (.iload_n 3, 1) := by decide +kernel
theorem dX9_count_98 : decode cX9_count 98 = .ok (.iaload, 1) := by decide +kernel
theorem dX9_count_99 : decode cX9_count 99 = .ok (.ifCond .le 7, 3) := by decide +kernel
theorem dX9_count_102 : decode cX9_count 102 = .ok (.iconst 1, 1) := by decide +kernel
theorem dX9_count_103 : decode cX9_count 103 = .ok (.goto 4, 3) := by decide +kernel
theorem dX9_count_106 : decode cX9_count 106 = .ok (.iconst 0, 1) := by decide +kernel
theorem dX9_count_107 : decode cX9_count 107 = .ok (.iadd, 1) := by decide +kernel
theorem dX9_count_108 : decode cX9_count 108 = .ok (.istore_n 2, 1) := by decide +kernel
theorem dX9_count_109 : decode cX9_count 109 = .ok (.iinc 3 1, 3) := by decide +kernel
theorem dX9_count_112 : decode cX9_count 112 = .ok (.goto (-60), 3) := by decide +kernel
theorem dX9_count_115 : decode cX9_count 115 = .ok (.iload_n 2, 1) := by decide +kernel
theorem dX9_count_116 : decode cX9_count 116 = .ok (.ireturn, 1) := by decide +kernel
theorem dX9_count_117 : decode cX9_count 117 = .ok (.aload_n 0, 1) := by decide +kernel
theorem dX9_count_118 : decode cX9_count 118 = .ok (.getfield 32, 3) := by decide +kernel
theorem dX9_count_121 : decode cX9_count 121 = .ok (.ireturn, 1) := by decide +kernel
theorem dX9_count_122 : decode cX9_count 122 = .ok (.iconst 0, 1) := by decide +kernel
theorem dX9_count_123 : decode cX9_count 123 = .ok (.istore_n 3, 1) := by decide +kernel
theorem dX9_count_124 : decode cX9_count 124 = .ok (.iload_n 3, 1) := by decide +kernel
theorem dX9_count_125 : decode cX9_count 125 = .ok (.aload_n 0, 1) := by decide +kernel
theorem dX9_count_126 : decode cX9_count 126 = .ok (.getfield 75, 3) := by decide +kernel
theorem dX9_count_129 : decode cX9_count 129 = .ok (.if_icmp .ge 18, 3) := by decide +kernel
theorem dX9_count_132 : decode cX9_count 132 = .ok (.iload_n 2, 1) := by decide +kernel
theorem dX9_count_133 : decode cX9_count 133 = .ok (.aload_n 0, 1) := by decide +kernel
theorem dX9_count_134 : decode cX9_count 134 = .ok (.getfield 7, 3) := by decide +kernel
theorem dX9_count_137 : decode cX9_count 137 = .ok (.iload_n 3, 1) := by decide +kernel
theorem dX9_count_138 : decode cX9_count 138 = .ok (.iaload, 1) := by decide +kernel
theorem dX9_count_139 : decode cX9_count 139 = .ok (.iadd, 1) := by decide +kernel
theorem dX9_count_140 : decode cX9_count 140 = .ok (.istore_n 2, 1) := by decide +kernel
theorem dX9_count_141 : decode cX9_count 141 = .ok (.iinc 3 1, 3) := by decide +kernel
theorem dX9_count_144 : decode cX9_count 144 = .ok (.goto (-20), 3) := by decide +kernel
theorem dX9_count_147 : decode cX9_count 147 = .ok (.iload_n 2, 1) := by decide +kernel
theorem dX9_count_148 : decode cX9_count 148 = .ok (.ireturn, 1) := by decide +kernel
theorem dX9_count_149 : decode cX9_count 149 = .ok (.iconst 0, 1) := by decide +kernel
theorem dX9_count_150 : decode cX9_count 150 = .ok (.istore_n 3, 1) := by decide +kernel
theorem dX9_count_151 : decode cX9_count 151 = .ok (.iload_n 3, 1) := by decide +kernel
theorem dX9_count_152 : decode cX9_count 152 = .ok (.aload_n 0, 1) := by decide +kernel
theorem dX9_count_153 : decode cX9_count 153 = .ok (.getfield 78, 3) := by decide +kernel
theorem dX9_count_156 : decode cX9_count 156 = .ok (.if_icmp .ge 27, 3) := by decide +kernel
theorem dX9_count_159 : decode cX9_count 159 = .ok (.iload_n 2, 1) := by decide +kernel
theorem dX9_count_160 : decode cX9_count 160 = .ok (.aload_n 0, 1) := by decide +kernel
theorem dX9_count_161 : decode cX9_count 161 = .ok (.getfield 23, 3) := by decide +kernel
theorem dX9_count_164 : decode cX9_count 164 = .ok (.iload_n 3, 1) := by decide +kernel
theorem dX9_count_165 : decode cX9_count 165 = .ok (.iaload, 1) := by decide +kernel
theorem dX9_count_166 : decode cX9_count 166 = .ok (.iconst 3, 1) := by decide +kernel
theorem dX9_count_167 : decode cX9_count 167 = .ok (.if_icmp .ne 7, 3) := by decide +kernel
theorem dX9_count_170 : decode cX9_count 170 = .ok (.iconst 1, 1) := by decide +kernel
theorem dX9_count_171 : decode cX9_count 171 = .ok (.goto 4, 3) := by decide +kernel
theorem dX9_count_174 : decode cX9_count 174 = .ok (.iconst 0, 1) := by decide +kernel
theorem dX9_count_175 : decode cX9_count 175 = .ok (.iadd, 1) := by decide +kernel
theorem dX9_count_176 : decode cX9_count 176 = .ok (.istore_n 2, 1) := by decide +kernel
theorem dX9_count_177 : decode cX9_count 177 = .ok (.iinc 3 1, 3) := by decide +kernel
theorem dX9_count_180 : decode cX9_count 180 = .ok (.goto (-29), 3) := by decide +kernel
theorem dX9_count_183 : decode cX9_count 183 = .ok (.iload_n 2, 1) := by decide +kernel
theorem dX9_count_184 : decode cX9_count 184 = .ok (.ireturn, 1) := by decide +kernel
theorem dX9_count_185 : decode cX9_count 185 = .ok (.iconst (-1), 1) := by decide +kernel
theorem dX9_count_186 : decode cX9_count 186 = .ok (.ireturn, 1) := by decide +kernel

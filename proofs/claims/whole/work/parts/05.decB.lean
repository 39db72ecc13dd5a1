theorem dMd_init_0 : decode cMd_init 0 = .ok (.aload_n 0, 1) := by decide +kernel
theorem dMd_init_1 : decode cMd_init 1 = .ok (.invokespecial 1, 3) := by decide +kernel
theorem dMd_init_4 : decode cMd_init 4 = .ok (.aload_n 0, 1) := by decide +kernel
theorem dMd_init_5 : decode cMd_init 5 = .ok (.iconst 4, 1) := by decide +kernel
theorem dMd_init_6 : decode cMd_init 6 = .ok (.newarray .int, 2) := by decide +kernel
theorem dMd_init_8 : decode cMd_init 8 = .ok (.putfield 7, 3) := by decide +kernel
theorem dMd_init_11 : decode cMd_init 11 = .ok (.aload_n 0, 1) := by decide +kernel
theorem dMd_init_12 : decode cMd_init 12 = .ok (.iconst 4, 1) := by decide +kernel
theorem dMd_init_13 : decode cMd_init 13 = .ok (.newarray .int, 2) := by decide +kernel
theorem dMd_init_15 : decode cMd_init 15 = .ok (.putfield 13, 3) := by decide +kernel
theorem dMd_init_18 : decode cMd_init 18 = .ok (.aload_n 0, 1) := by decide +kernel
theorem dMd_init_19 : decode cMd_init 19 = .ok (.iconst 4, 1) := by decide +kernel
theorem dMd_init_20 : decode cMd_init 20 = .ok (.newarray .int, 2) := by decide +kernel
theorem dMd_init_22 : decode cMd_init 22 = .ok (.putfield 16, 3) := by decide +kernel
theorem dMd_init_25 : decode cMd_init 25 = .ok (.aload_n 0, 1) := by decide +kernel
theorem dMd_init_26 : decode cMd_init 26 = .ok (.iconst 1, 1) := by decide +kernel
theorem dMd_init_27 : decode cMd_init 27 = .ok (.putfield 19, 3) := by decide +kernel
theorem dMd_init_30 : decode cMd_init 30 = .ok (.aload_n 0, 1) := by decide +kernel
theorem dMd_init_31 : decode cMd_init 31 = .ok (.iconst 3, 1) := by decide +kernel
theorem dMd_init_32 : decode cMd_init 32 = .ok (.putfield 23, 3) := by decide +kernel
theorem dMd_init_35 : decode cMd_init 35 = .ok (.aload_n 0, 1) := by decide +kernel
theorem dMd_init_36 : decode cMd_init 36 = .ok (.sipush 3600, 3) := by decide +kernel
theorem dMd_init_39 : decode cMd_init 39 = .ok (.newarray .boolean, 2) := by decide +kernel
theorem dMd_init_41 : decode cMd_init 41 = .ok (.putfield 26, 3) := by decide +kernel
theorem dMd_init_44 : decode cMd_init 44 = .ok (.aload_n 0, 1) := by decide +kernel
theorem dMd_init_45 : decode cMd_init 45 = .ok (.sipush 3600, 3) := by decide +kernel
theorem dMd_init_48 : decode cMd_init 48 = .ok (.newarray .int, 2) := by decide +kernel
theorem dMd_init_50 : decode cMd_init 50 = .ok (.putfield 30, 3) := by decide +kernel
theorem dMd_init_53 : decode cMd_init 53 = .ok (.aload_n 0, 1) := by decide +kernel
theorem dMd_init_54 : decode cMd_init 54 = .ok (.sipush 3600, 3) := by decide +kernel
theorem dMd_init_57 : decode cMd_init 57 = .ok (.newarray .int, 2) := by decide +kernel
theorem dMd_init_59 : decode cMd_init 59 = .ok (.putfield 33, 3) := by decide +kernel
theorem dMd_init_62 : decode cMd_init 62 = .ok (.aload_n 0, 1) := by decide +kernel
theorem dMd_init_63 : decode cMd_init 63 = .ok (.sipush 3600, 3) := by decide +kernel
theorem dMd_init_66 : decode cMd_init 66 = .ok (.newarray .int, 2) := by decide +kernel
theorem dMd_init_68 : decode cMd_init 68 = .ok (.putfield 36, 3) := by decide +kernel
theorem dMd_init_71 : decode cMd_init 71 = .ok (.aload_n 0, 1) := by decide +kernel
theorem dMd_init_72 : decode cMd_init 72 = .ok (.sipush 3600, 3) := by decide +kernel
theorem dMd_init_75 : decode cMd_init 75 = .ok (.newarray .int, 2) := by decide +kernel
theorem dMd_init_77 : decode cMd_init 77 = .ok (.putfield 39, 3) := by decide +kernel
theorem dMd_init_80 : decode cMd_init 80 = .ok (.aload_n 0, 1) := by decide +kernel
theorem dMd_init_81 : decode cMd_init 81 = .ok (.sipush 3600, 3) := by decide +kernel
theorem dMd_init_84 : decode cMd_init 84 = .ok (.newarray .int, 2) := by decide +kernel
theorem dMd_init_86 : decode cMd_init 86 = .ok (.putfield 42, 3) := by decide +kernel
theorem dMd_init_89 : decode cMd_init 89 = .ok (.aload_n 0, 1) := by decide +kernel
theorem dMd_init_90 : decode cMd_init 90 = .ok (.sipush 3600, 3) := by decide +kernel
theorem dMd_init_93 : decode cMd_init 93 = .ok (.newarray .int, 2) := by decide +kernel
theorem dMd_init_95 : decode cMd_init 95 = .ok (.putfield 45, 3) := by decide +kernel
theorem dMd_init_98 : decode cMd_init 98 = .ok (.aload_n 0, 1) := by decide +kernel
theorem dMd_init_99 : decode cMd_init 99 = .ok (.sipush 24000, 3) := by decide +kernel
theorem dMd_init_102 : decode cMd_init 102 = .ok (.newarray .int, 2) := by decide +kernel
theorem dMd_init_104 : decode cMd_init 104 = .ok (.putfield 48, 3) := by decide +kernel
theorem dMd_init_107 : decode cMd_init 107 = .ok (.aload_n 0, 1) := by decide +kernel
theorem dMd_init_108 : decode cMd_init 108 = .ok (.sipush 24000, 3) := by decide +kernel
theorem dMd_init_111 : decode cMd_init 111 = .ok (.newarray .int, 2) := by decide +kernel
theorem dMd_init_113 : decode cMd_init 113 = .ok (.putfield 51, 3) := by decide +kernel
theorem dMd_init_116 : decode cMd_init 116 = .ok (.aload_n 0, 1) := by decide +kernel
theorem dMd_init_117 : decode cMd_init 117 = .ok (.sipush 3600, 3) := by decide +kernel
theorem dMd_init_120 : decode cMd_init 120 = .ok (.newarray .int, 2) := by decide +kernel
theorem dMd_init_122 : decode cMd_init 122 = .ok (.putfield 54, 3) := by decide +kernel
theorem dMd_init_125 : decode cMd_init 125 = .ok (.aload_n 0, 1) := by decide +kernel
theorem dMd_init_126 : decode cMd_init 126 = .ok (.sipush 3600, 3) := by decide +kernel
theorem dMd_init_129 : decode cMd_init 129 = .ok (.newarray .int, 2) := by decide +kernel
theorem dMd_init_131 : decode cMd_init 131 = .ok (.putfield 57, 3) := by decide +kernel
theorem dMd_init_134 : decode cMd_init 134 = .ok (.aload_n 0, 1) := by decide +kernel
theorem dMd_init_135 : decode cMd_init 135 = .ok (.sipush 3600, 3) := by decide +kernel
theorem dMd_init_138 : decode cMd_init 138 = .ok (.newarray .boolean, 2) := by decide +kernel
theorem dMd_init_140 : decode cMd_init 140 = .ok (.putfield 60, 3) := by decide +kernel
theorem dMd_init_143 : decode cMd_init 143 = .ok (.aload_n 0, 1) := by decide +kernel
theorem dMd_init_144 : decode cMd_init 144 = .ok (.bipush 16, 2) := by decide +kernel
theorem dMd_init_146 : decode cMd_init 146 = .ok (.newarray .int, 2) := by decide +kernel
theorem dMd_init_148 : decode cMd_init 148 = .ok (.putfield 63, 3) := by decide +kernel
theorem dMd_init_151 : decode cMd_init 151 = .ok (.aload_n 0, 1) := by decide +kernel
theorem dMd_init_152 : decode cMd_init 152 = .ok (.sipush 256, 3) := by decide +kernel
theorem dMd_init_155 : decode cMd_init 155 = .ok (.bipush 64, 2) := by decide +kernel
theorem dMd_init_157 : decode cMd_init 157 = .ok (.sipush 2048, 3) := by decide +kernel
theorem dMd_init_160 : decode cMd_init 160 = .ok (.invokevirtual 66, 3) := by decide +kernel
theorem dMd_init_163 : decode cMd_init 163 = .ok (.return_, 1) := by decide +kernel
theorem dMd_lay_0 : decode cMd_lay 0 = .ok (.aload_n 0, 1) := by decide +kernel
theorem dMd_lay_1 : decode cMd_lay 1 = .ok (.getfield 13, 3) := by decide +kernel
theorem dMd_lay_4 : decode cMd_lay 4 = .ok (.iconst 0, 1) := by decide +kernel
theorem dMd_lay_5 : decode cMd_lay 5 = .ok (.iload_n 1, 1) := by decide +kernel
theorem dMd_lay_6 : decode cMd_lay 6 = .ok (.iastore, 1) := by decide +kernel
theorem dMd_lay_7 : decode cMd_lay 7 = .ok (.aload_n 0, 1) := by decide +kernel
theorem dMd_lay_8 : decode cMd_lay 8 = .ok (.getfield 13, 3) := by decide +kernel
theorem dMd_lay_11 : decode cMd_lay 11 = .ok (.iconst 1, 1) := by decide +kernel
theorem dMd_lay_12 : decode cMd_lay 12 = .ok (.iload_n 2, 1) := by decide +kernel
theorem dMd_lay_13 : decode cMd_lay 13 = .ok (.iastore, 1) := by decide +kernel
theorem dMd_lay_14 : decode cMd_lay 14 = .ok (.aload_n 0, 1) := by decide +kernel
theorem dMd_lay_15 : decode cMd_lay 15 = .ok (.getfield 13, 3) := by decide +kernel
theorem dMd_lay_18 : decode cMd_lay 18 = .ok (.iconst 2, 1) := by decide +kernel
theorem dMd_lay_19 : decode cMd_lay 19 = .ok (.iload_n 2, 1) := by decide +kernel
theorem dMd_lay_20 : decode cMd_lay 20 = .ok (.iastore, 1) := by decide +kernel
theorem dMd_lay_21 : decode cMd_lay 21 = .ok (.aload_n 0, 1) := by decide +kernel
theorem dMd_lay_22 : decode cMd_lay 22 = .ok (.getfield 13, 3) := by decide +kernel
theorem dMd_lay_25 : decode cMd_lay 25 = .ok (.iconst 3, 1) := by decide +kernel
theorem dMd_lay_26 : decode cMd_lay 26 = .ok (.iload_n 3, 1) := by decide +kernel
theorem dMd_lay_27 : decode cMd_lay 27 = .ok (.iastore, 1) := by decide +kernel
theorem dMd_lay_28 : decode cMd_lay 28 = .ok (.aload_n 0, 1) := by decide +kernel
theorem dMd_lay_29 : decode cMd_lay 29 = .ok (.getfield 7, 3) := by decide +kernel
theorem dMd_lay_32 : decode cMd_lay 32 = .ok (.iconst 0, 1) := by decide +kernel
theorem dMd_lay_33 : decode cMd_lay 33 = .ok (.iconst 1, 1) := by decide +kernel
theorem dMd_lay_34 : decode cMd_lay 34 = .ok (.iastore, 1) := by decide +kernel
theorem dMd_lay_35 : decode cMd_lay 35 = .ok (.iconst 1, 1) := by decide +kernel
theorem dMd_lay_36 : decode cMd_lay 36 = .ok (.istore 4, 2) := by decide +kernel
theorem dMd_lay_38 : decode cMd_lay 38 = .ok (.iload 4, 2) := by decide +kernel
theorem dMd_lay_40 : decode cMd_lay 40 = .ok (.iconst 4, 1) := by decide +kernel
theorem dMd_lay_41 : decode cMd_lay 41 = .ok (.if_icmp .ge 35, 3) := by decide +kernel
theorem dMd_lay_44 : decode cMd_lay 44 = .ok (.aload_n 0, 1) := by decide +kernel
theorem dMd_lay_45 : decode cMd_lay 45 = .ok (.getfield 7, 3) := by decide +kernel
theorem dMd_lay_48 : decode cMd_lay 48 = .ok (.iload 4, 2) := by decide +kernel
theorem dMd_lay_50 : decode cMd_lay 50 = .ok (.aload_n 0, 1) := by decide +kernel
theorem dMd_lay_51 : decode cMd_lay 51 = .ok (.getfield 7, 3) := by decide +kernel
theorem dMd_lay_54 : decode cMd_lay 54 = .ok (.iload 4, 2) := by decide +kernel
theorem dMd_lay_56 : decode cMd_lay 56 = .ok (.iconst 1, 1) := by decide +kernel
theorem dMd_lay_57 : decode cMd_lay 57 = .ok (.isub, 1) := by decide +kernel
theorem dMd_lay_58 : decode cMd_lay 58 = .ok (.iaload, 1) := by decide +kernel
theorem dMd_lay_59 : decode cMd_lay 59 = .ok (.aload_n 0, 1) := by decide +kernel
theorem dMd_lay_60 : decode cMd_lay 60 = .ok (.getfield 13, 3) := by decide +kernel
theorem dMd_lay_63 : decode cMd_lay 63 = .ok (.iload 4, 2) := by decide +kernel
theorem dMd_lay_65 : decode cMd_lay 65 = .ok (.iconst 1, 1) := by decide +kernel
theorem dMd_lay_66 : decode cMd_lay 66 = .ok (.isub, 1) := by decide +kernel
theorem dMd_lay_67 : decode cMd_lay 67 = .ok (.iaload, 1) := by decide +kernel
theorem dMd_lay_68 : decode cMd_lay 68 = .ok (.iadd, 1) := by decide +kernel
theorem dMd_lay_69 : decode cMd_lay 69 = .ok (.iastore, 1) := by decide +kernel
theorem dMd_lay_70 : decode cMd_lay 70 = .ok (.iinc 4 1, 3) := by decide +kernel
theorem dMd_lay_73 : decode cMd_lay 73 = .ok (.goto (-35), 3) := by decide +kernel
theorem dMd_lay_76 : decode cMd_lay 76 = .ok (.iconst 0, 1) := by decide +kernel
theorem dMd_lay_77 : decode cMd_lay 77 = .ok (.istore 4, 2) := by decide +kernel
theorem dMd_lay_79 : decode cMd_lay 79 = .ok (.iload 4, 2) := by decide +kernel
theorem dMd_lay_81 : decode cMd_lay 81 = .ok (.iconst 4, 1) := by decide +kernel
theorem dMd_lay_82 : decode cMd_lay 82 = .ok (.if_icmp .ge 23, 3) := by decide +kernel
theorem dMd_lay_85 : decode cMd_lay 85 = .ok (.aload_n 0, 1) := by decide +kernel
theorem dMd_lay_86 : decode cMd_lay 86 = .ok (.getfield 16, 3) := by decide +kernel
theorem dMd_lay_89 : decode cMd_lay 89 = .ok (.iload 4, 2) := by decide +kernel
theorem dMd_lay_91 : decode cMd_lay 91 = .ok (.aload_n 0, 1) := by decide +kernel
theorem dMd_lay_92 : decode cMd_lay 92 = .ok (.getfield 7, 3) := by decide +kernel
theorem dMd_lay_95 : decode cMd_lay 95 = .ok (.iload 4, 2) := by decide +kernel
theorem dMd_lay_97 : decode cMd_lay 97 = .ok (.iaload, 1) := by decide +kernel
theorem dMd_lay_98 : decode cMd_lay 98 = .ok (.iastore, 1) := by decide +kernel
theorem dMd_lay_99 : decode cMd_lay 99 = .ok (.iinc 4 1, 3) := by decide +kernel
theorem dMd_lay_102 : decode cMd_lay 102 = .ok (.goto (-23), 3) := by decide +kernel
theorem dMd_lay_105 : decode cMd_lay 105 = .ok (.iconst 0, 1) := by decide +kernel
theorem dMd_lay_106 : decode cMd_lay 106 = .ok (.istore 4, 2) := by decide +kernel
theorem dMd_lay_108 : decode cMd_lay 108 = .ok (.iload 4, 2) := by decide +kernel
theorem dMd_lay_110 : decode cMd_lay 110 = .ok (.sipush 3600, 3) := by decide +kernel
theorem dMd_lay_113 : decode cMd_lay 113 = .ok (.if_icmp .ge 17, 3) := by decide +kernel
theorem dMd_lay_116 : decode cMd_lay 116 = .ok (.aload_n 0, 1) := by decide +kernel
theorem dMd_lay_117 : decode cMd_lay 117 = .ok (.getfield 26, 3) := by decide +kernel
theorem dMd_lay_120 : decode cMd_lay 120 = .ok (.iload 4, 2) := by decide +kernel
theorem dMd_lay_122 : decode cMd_lay 122 = .ok (.iconst 0, 1) := by decide +kernel
theorem dMd_lay_123 : decode cMd_lay 123 = .ok (.bastore, 1) := by decide +kernel
theorem dMd_lay_124 : decode cMd_lay 124 = .ok (.iinc 4 1, 3) := by decide +kernel
theorem dMd_lay_127 : decode cMd_lay 127 = .ok (.goto (-19), 3) := by decide +kernel
theorem dMd_lay_130 : decode cMd_lay 130 = .ok (.iconst 0, 1) := by decide +kernel
theorem dMd_lay_131 : decode cMd_lay 131 = .ok (.istore 4, 2) := by decide +kernel
theorem dMd_lay_133 : decode cMd_lay 133 = .ok (.iload 4, 2) := by decide +kernel
theorem dMd_lay_135 : decode cMd_lay 135 = .ok (.bipush 16, 2) := by decide +kernel
theorem dMd_lay_137 : decode cMd_lay 137 = .ok (.if_icmp .ge 17, 3) := by decide +kernel
theorem dMd_lay_140 : decode cMd_lay 140 = .ok (.aload_n 0, 1) := by decide +kernel
theorem dMd_lay_141 : decode cMd_lay 141 = .ok (.getfield 63, 3) := by decide +kernel
theorem dMd_lay_144 : decode cMd_lay 144 = .ok (.iload 4, 2) := by decide +kernel
theorem dMd_lay_146 : decode cMd_lay 146 = .ok (.iconst 0, 1) := by decide +kernel
theorem dMd_lay_147 : decode cMd_lay 147 = .ok (.iastore, 1) := by decide +kernel
theorem dMd_lay_148 : decode cMd_lay 148 = .ok (.iinc 4 1, 3) := by decide +kernel
theorem dMd_lay_151 : decode cMd_lay 151 = .ok (.goto (-18), 3) := by decide +kernel
theorem dMd_lay_154 : decode cMd_lay 154 = .ok (.aload_n 0, 1) := by decide +kernel
theorem dMd_lay_155 : decode cMd_lay 155 = .ok (.iconst 1, 1) := by decide +kernel
theorem dMd_lay_156 : decode cMd_lay 156 = .ok (.putfield 19, 3) := by decide +kernel
theorem dMd_lay_159 : decode cMd_lay 159 = .ok (.aload_n 0, 1) := by decide +kernel
theorem dMd_lay_160 : decode cMd_lay 160 = .ok (.iconst 0, 1) := by decide +kernel
theorem dMd_lay_161 : decode cMd_lay 161 = .ok (.putfield 73, 3) := by decide +kernel
theorem dMd_lay_164 : decode cMd_lay 164 = .ok (.aload_n 0, 1) := by decide +kernel
theorem dMd_lay_165 : decode cMd_lay 165 = .ok (.iconst 0, 1) := by decide +kernel
theorem dMd_lay_166 : decode cMd_lay 166 = .ok (.putfield 76, 3) := by decide +kernel
theorem dMd_lay_169 : decode cMd_lay 169 = .ok (.aload_n 0, 1) := by decide +kernel
theorem dMd_lay_170 : decode cMd_lay 170 = .ok (.iconst 0, 1) := by decide +kernel
theorem dMd_lay_171 : decode cMd_lay 171 = .ok (.putfield 79, 3) := by decide +kernel
theorem dMd_lay_174 : decode cMd_lay 174 = .ok (.aload_n 0, 1) := by decide +kernel
theorem dMd_lay_175 : decode cMd_lay 175 = .ok (.iconst 0, 1) := by decide +kernel
theorem dMd_lay_176 : decode cMd_lay 176 = .ok (.putfield 82, 3) := by decide +kernel
theorem dMd_lay_179 : decode cMd_lay 179 = .ok (.aload_n 0, 1) := by decide +kernel
theorem dMd_lay_180 : decode cMd_lay 180 = .ok (.iconst 0, 1) := by decide +kernel
theorem dMd_lay_181 : decode cMd_lay 181 = .ok (.putfield 85, 3) := by decide +kernel
theorem dMd_lay_184 : decode cMd_lay 184 = .ok (.return_, 1) := by decide +kernel
theorem dMd_thrown_0 : decode cMd_thrown 0 = .ok (.aload_n 0, 1) := by decide +kernel
theorem dMd_thrown_1 : decode cMd_thrown 1 = .ok (.getfield 70, 3) := by decide +kernel
theorem dMd_thrown_4 : decode cMd_thrown 4 = .ok (.ireturn, 1) := by decide +kernel
theorem dMd_space_0 : decode cMd_space 0 = .ok (.aload_n 0, 1) := by decide +kernel
theorem dMd_space_1 : decode cMd_space 1 = .ok (.iload_n 1, 1) := by decide +kernel
theorem dMd_space_2 : decode cMd_space 2 = .ok (.bipush 16, 2) := by decide +kernel
theorem dMd_space_4 : decode cMd_space 4 = .ok (.if_icmp .lt 38, 3) := by decide +kernel
theorem dMd_space_7 : decode cMd_space 7 = .ok (.iload_n 1, 1) := by decide +kernel
theorem dMd_space_8 : decode cMd_space 8 = .ok (.sipush 1024, 3) := by decide +kernel
theorem dMd_space_11 : decode cMd_space 11 = .ok (.if_icmp .gt 31, 3) := by decide +kernel
theorem dMd_space_14 : decode cMd_space 14 = .ok (.iload_n 2, 1) := by decide +kernel
theorem dMd_space_15 : decode cMd_space 15 = .ok (.ifCond .lt 27, 3) := by decide +kernel
theorem dMd_space_18 : decode cMd_space 18 = .ok (.iload_n 2, 1) := by decide +kernel
theorem dMd_space_19 : decode cMd_space 19 = .ok (.sipush 512, 3) := by decide +kernel
theorem dMd_space_22 : decode cMd_space 22 = .ok (.if_icmp .gt 20, 3) := by decide +kernel
theorem dMd_space_25 : decode cMd_space 25 = .ok (.iload_n 3, 1) := by decide +kernel
theorem dMd_space_26 : decode cMd_space 26 = .ok (.bipush 64, 2) := by decide +kernel
theorem dMd_space_28 : decode cMd_space 28 = .ok (.if_icmp .lt 14, 3) := by decide +kernel
theorem dMd_space_31 : decode cMd_space 31 = .ok (.iload_n 3, 1) := by decide +kernel
theorem dMd_space_32 : decode cMd_space 32 = .ok (.sipush 8192, 3) := by decide +kernel
theorem dMd_space_35 : decode cMd_space 35 = .ok (.if_icmp .gt 7, 3) := by decide +kernel
theorem dMd_space_38 : decode cMd_space 38 = .ok (.iconst 1, 1) := by decide +kernel
theorem dMd_space_39 : decode cMd_space 39 = .ok (.goto 4, 3) := by decide +kernel
theorem dMd_space_42 : decode cMd_space 42 = .ok (.iconst 0, 1) := by decide +kernel
theorem dMd_space_43 : decode cMd_space 43 = .ok (.iconst 1, 1) := by decide +kernel
theorem dMd_space_44 : decode cMd_space 44 = .ok (.invokevirtual 88, 3) := by decide +kernel
theorem dMd_space_47 : decode cMd_space 47 = .ok (.ifCond .ne 5, 3) := by decide +kernel
theorem dMd_space_50 : decode cMd_space 50 = .ok (.iconst 0, 1) := by decide +kernel
theorem dMd_space_51 : decode cMd_space 51 = .ok (.ireturn, 1) := by decide +kernel
theorem dMd_space_52 : decode cMd_space 52 = .ok (.aload_n 0, 1) := by decide +kernel
theorem dMd_space_53 : decode cMd_space 53 = .ok (.getfield 13, 3) := by decide +kernel
theorem dMd_space_56 : decode cMd_space 56 = .ok (.iconst 0, 1) := by decide +kernel
theorem dMd_space_57 : decode cMd_space 57 = .ok (.iaload, 1) := by decide +kernel
theorem dMd_space_58 : decode cMd_space 58 = .ok (.aload_n 0, 1) := by decide +kernel
theorem dMd_space_59 : decode cMd_space 59 = .ok (.getfield 13, 3) := by decide +kernel
theorem dMd_space_62 : decode cMd_space 62 = .ok (.iconst 1, 1) := by decide +kernel
theorem dMd_space_63 : decode cMd_space 63 = .ok (.iaload, 1) := by decide +kernel
theorem dMd_space_64 : decode cMd_space 64 = .ok (.iadd, 1) := by decide +kernel
theorem dMd_space_65 : decode cMd_space 65 = .ok (.aload_n 0, 1) := by decide +kernel
theorem dMd_space_66 : decode cMd_space 66 = .ok (.getfield 13, 3) := by decide +kernel
theorem dMd_space_69 : decode cMd_space 69 = .ok (.iconst 2, 1) := by decide +kernel
theorem dMd_space_70 : decode cMd_space 70 = .ok (.iaload, 1) := by decide +kernel
theorem dMd_space_71 : decode cMd_space 71 = .ok (.iadd, 1) := by decide +kernel
theorem dMd_space_72 : decode cMd_space 72 = .ok (.aload_n 0, 1) := by decide +kernel
theorem dMd_space_73 : decode cMd_space 73 = .ok (.getfield 13, 3) := by decide +kernel
theorem dMd_space_76 : decode cMd_space 76 = .ok (.iconst 3, 1) := by decide +kernel
theorem dMd_space_77 : decode cMd_space 77 = .ok (.iaload, 1) := by decide +kernel
theorem dMd_space_78 : decode cMd_space 78 = .ok (.iadd, 1) := by decide +kernel
theorem dMd_space_79 : decode cMd_space 79 = .ok (.istore 4, 2) := by decide +kernel
theorem dMd_space_81 : decode cMd_space 81 = .ok (.aload_n 0, 1) := by decide +kernel
theorem dMd_space_82 : decode cMd_space 82 = .ok (.iload_n 1, 1) := by decide +kernel
theorem dMd_space_83 : decode cMd_space 83 = .ok (.iload_n 2, 1) := by decide +kernel
theorem dMd_space_84 : decode cMd_space 84 = .ok (.iload_n 3, 1) := by decide +kernel
theorem dMd_space_85 : decode cMd_space 85 = .ok (.invokevirtual 66, 3) := by decide +kernel
theorem dMd_space_88 : decode cMd_space 88 = .ok (.iload 4, 2) := by decide +kernel
theorem dMd_space_90 : decode cMd_space 90 = .ok (.ireturn, 1) := by decide +kernel
theorem dMd_goes_0 : decode cMd_goes 0 = .ok (.aload_n 0, 1) := by decide +kernel
theorem dMd_goes_1 : decode cMd_goes 1 = .ok (.iload_n 1, 1) := by decide +kernel
theorem dMd_goes_2 : decode cMd_goes 2 = .ok (.ifCond .ne 7, 3) := by decide +kernel
theorem dMd_goes_5 : decode cMd_goes 5 = .ok (.iconst 1, 1) := by decide +kernel
theorem dMd_goes_6 : decode cMd_goes 6 = .ok (.goto 12, 3) := by decide +kernel
theorem dMd_goes_9 : decode cMd_goes 9 = .ok (.iload_n 2, 1) := by decide +kernel
theorem dMd_goes_10 : decode cMd_goes 10 = .ok (.ifCond .ne 7, 3) := by decide +kernel
theorem dMd_goes_13 : decode cMd_goes 13 = .ok (.iconst 2, 1) := by decide +kernel
theorem dMd_goes_14 : decode cMd_goes 14 = .ok (.goto 4, 3) := by decide +kernel
theorem dMd_goes_17 : decode cMd_goes 17 = .ok (.iconst 0, 1) := by decide +kernel
theorem dMd_goes_18 : decode cMd_goes 18 = .ok (.putfield 70, 3) := by decide +kernel
theorem dMd_goes_21 : decode cMd_goes 21 = .ok (.aload_n 0, 1) := by decide +kernel
theorem dMd_goes_22 : decode cMd_goes 22 = .ok (.getfield 70, 3) := by decide +kernel
theorem dMd_goes_25 : decode cMd_goes 25 = .ok (.ifCond .ne 7, 3) := by decide +kernel
theorem dMd_goes_28 : decode cMd_goes 28 = .ok (.iconst 1, 1) := by decide +kernel
theorem dMd_goes_29 : decode cMd_goes 29 = .ok (.goto 4, 3) := by decide +kernel
theorem dMd_goes_32 : decode cMd_goes 32 = .ok (.iconst 0, 1) := by decide +kernel
theorem dMd_goes_33 : decode cMd_goes 33 = .ok (.ireturn, 1) := by decide +kernel
theorem dMd_limit_0 : decode cMd_limit 0 = .ok (.aload_n 0, 1) := by decide +kernel
theorem dMd_limit_1 : decode cMd_limit 1 = .ok (.iload_n 1, 1) := by decide +kernel
theorem dMd_limit_2 : decode cMd_limit 2 = .ok (.ifCond .lt 13, 3) := by decide +kernel
theorem dMd_limit_5 : decode cMd_limit 5 = .ok (.iload_n 1, 1) := by decide +kernel
theorem dMd_limit_6 : decode cMd_limit 6 = .ok (.bipush 15, 2) := by decide +kernel
theorem dMd_limit_8 : decode cMd_limit 8 = .ok (.if_icmp .gt 7, 3) := by decide +kernel
theorem dMd_limit_11 : decode cMd_limit 11 = .ok (.iconst 1, 1) := by decide +kernel
theorem dMd_limit_12 : decode cMd_limit 12 = .ok (.goto 4, 3) := by decide +kernel
theorem dMd_limit_15 : decode cMd_limit 15 = .ok (.iconst 0, 1) := by decide +kernel
theorem dMd_limit_16 : decode cMd_limit 16 = .ok (.iconst 1, 1) := by decide +kernel
theorem dMd_limit_17 : decode cMd_limit 17 = .ok (.invokevirtual 88, 3) := by decide +kernel
theorem dMd_limit_20 : decode cMd_limit 20 = .ok (.ifCond .ne 5, 3) := by decide +kernel
theorem dMd_limit_23 : decode cMd_limit 23 = .ok (.iconst 0, 1) := by decide +kernel
theorem dMd_limit_24 : decode cMd_limit 24 = .ok (.ireturn, 1) := by decide +kernel
theorem dMd_limit_25 : decode cMd_limit 25 = .ok (.aload_n 0, 1) := by decide +kernel
theorem dMd_limit_26 : decode cMd_limit 26 = .ok (.getfield 23, 3) := by decide +kernel
theorem dMd_limit_29 : decode cMd_limit 29 = .ok (.istore_n 2, 1) := by decide +kernel
theorem dMd_limit_30 : decode cMd_limit 30 = .ok (.aload_n 0, 1) := by decide +kernel
theorem dMd_limit_31 : decode cMd_limit 31 = .ok (.iload_n 1, 1) := by decide +kernel
theorem dMd_limit_32 : decode cMd_limit 32 = .ok (.putfield 23, 3) := by decide +kernel
theorem dMd_limit_35 : decode cMd_limit 35 = .ok (.iload_n 2, 1) := by decide +kernel
theorem dMd_limit_36 : decode cMd_limit 36 = .ok (.ireturn, 1) := by decide +kernel
theorem dMd_make_0 : decode cMd_make 0 = .ok (.aload_n 0, 1) := by decide +kernel
theorem dMd_make_1 : decode cMd_make 1 = .ok (.iload_n 1, 1) := by decide +kernel
theorem dMd_make_2 : decode cMd_make 2 = .ok (.ifCond .lt 25, 3) := by decide +kernel
theorem dMd_make_5 : decode cMd_make 5 = .ok (.iload_n 1, 1) := by decide +kernel
theorem dMd_make_6 : decode cMd_make 6 = .ok (.sipush 200, 3) := by decide +kernel
theorem dMd_make_9 : decode cMd_make 9 = .ok (.if_icmp .gt 18, 3) := by decide +kernel
theorem dMd_make_12 : decode cMd_make 12 = .ok (.iload_n 2, 1) := by decide +kernel
theorem dMd_make_13 : decode cMd_make 13 = .ok (.ifCond .lt 14, 3) := by decide +kernel
theorem dMd_make_16 : decode cMd_make 16 = .ok (.iload_n 2, 1) := by decide +kernel
theorem dMd_make_17 : decode cMd_make 17 = .ok (.sipush 200, 3) := by decide +kernel
theorem dMd_make_20 : decode cMd_make 20 = .ok (.if_icmp .gt 7, 3) := by decide +kernel
theorem dMd_make_23 : decode cMd_make 23 = .ok (.iconst 1, 1) := by decide +kernel
theorem dMd_make_24 : decode cMd_make 24 = .ok (.goto 4, 3) := by decide +kernel
theorem dMd_make_27 : decode cMd_make 27 = .ok (.iconst 0, 1) := by decide +kernel
theorem dMd_make_28 : decode cMd_make 28 = .ok (.iconst 1, 1) := by decide +kernel
theorem dMd_make_29 : decode cMd_make 29 = .ok (.invokevirtual 88, 3) := by decide +kernel
theorem dMd_make_32 : decode cMd_make 32 = .ok (.ifCond .ne 5, 3) := by decide +kernel
theorem dMd_make_35 : decode cMd_make 35 = .ok (.iconst 0, 1) := by decide +kernel
theorem dMd_make_36 : decode cMd_make 36 = .ok (.ireturn, 1) := by decide +kernel
theorem dMd_make_37 : decode cMd_make 37 = .ok (.iconst 3, 1) := by decide +kernel
theorem dMd_make_38 : decode cMd_make 38 = .ok (.iload_n 1, 1) := by decide +kernel
theorem dMd_make_39 : decode cMd_make 39 = .ok (.iadd, 1) := by decide +kernel
theorem dMd_make_40 : decode cMd_make 40 = .ok (.iload_n 2, 1) := by decide +kernel
theorem dMd_make_41 : decode cMd_make 41 = .ok (.iadd, 1) := by decide +kernel
theorem dMd_make_42 : decode cMd_make 42 = .ok (.istore_n 3, 1) := by decide +kernel
theorem dMd_make_43 : decode cMd_make 43 = .ok (.aload_n 0, 1) := by decide +kernel
theorem dMd_make_44 : decode cMd_make 44 = .ok (.getfield 16, 3) := by decide +kernel
theorem dMd_make_47 : decode cMd_make 47 = .ok (.iconst 0, 1) := by decide +kernel
theorem dMd_make_48 : decode cMd_make 48 = .ok (.iaload, 1) := by decide +kernel
theorem dMd_make_49 : decode cMd_make 49 = .ok (.iload_n 3, 1) := by decide +kernel
theorem dMd_make_50 : decode cMd_make 50 = .ok (.iadd, 1) := by decide +kernel
theorem dMd_make_51 : decode cMd_make 51 = .ok (.aload_n 0, 1) := by decide +kernel
theorem dMd_make_52 : decode cMd_make 52 = .ok (.getfield 7, 3) := by decide +kernel
theorem dMd_make_55 : decode cMd_make 55 = .ok (.iconst 0, 1) := by decide +kernel
theorem dMd_make_56 : decode cMd_make 56 = .ok (.iaload, 1) := by decide +kernel
theorem dMd_make_57 : decode cMd_make 57 = .ok (.aload_n 0, 1) := by decide +kernel
theorem dMd_make_58 : decode cMd_make 58 = .ok (.getfield 13, 3) := by decide +kernel
theorem dMd_make_61 : decode cMd_make 61 = .ok (.iconst 0, 1) := by decide +kernel
theorem dMd_make_62 : decode cMd_make 62 = .ok (.iaload, 1) := by decide +kernel
theorem dMd_make_63 : decode cMd_make 63 = .ok (.iadd, 1) := by decide +kernel
theorem dMd_make_64 : decode cMd_make 64 = .ok (.if_icmp .le 5, 3) := by decide +kernel
theorem dMd_make_67 : decode cMd_make 67 = .ok (.iconst 0, 1) := by decide +kernel
theorem dMd_make_68 : decode cMd_make 68 = .ok (.ireturn, 1) := by decide +kernel
theorem dMd_make_69 : decode cMd_make 69 = .ok (.aload_n 0, 1) := by decide +kernel
theorem dMd_make_70 : decode cMd_make 70 = .ok (.invokevirtual 92, 3) := by decide +kernel
theorem dMd_make_73 : decode cMd_make 73 = .ok (.istore 4, 2) := by decide +kernel
theorem dMd_make_75 : decode cMd_make 75 = .ok (.aload_n 0, 1) := by decide +kernel
theorem dMd_make_76 : decode cMd_make 76 = .ok (.getfield 26, 3) := by decide +kernel
theorem dMd_make_79 : decode cMd_make 79 = .ok (.iload 4, 2) := by decide +kernel
theorem dMd_make_81 : decode cMd_make 81 = .ok (.iconst 1, 1) := by decide +kernel
theorem dMd_make_82 : decode cMd_make 82 = .ok (.bastore, 1) := by decide +kernel
theorem dMd_make_83 : decode cMd_make 83 = .ok (.aload_n 0, 1) := by decide +kernel
theorem dMd_make_84 : decode cMd_make 84 = .ok (.getfield 30, 3) := by decide +kernel
theorem dMd_make_87 : decode cMd_make 87 = .ok (.iload 4, 2) := by decide +kernel
theorem dMd_make_89 : decode cMd_make 89 = .ok (.iconst 0, 1) := by decide +kernel
theorem dMd_make_90 : decode cMd_make 90 = .ok (.iastore, 1) := by decide +kernel
theorem dMd_make_91 : decode cMd_make 91 = .ok (.aload_n 0, 1) := by decide +kernel
theorem dMd_make_92 : decode cMd_make 92 = .ok (.getfield 33, 3) := by decide +kernel
theorem dMd_make_95 : decode cMd_make 95 = .ok (.iload 4, 2) := by decide +kernel
theorem dMd_make_97 : decode cMd_make 97 = .ok (.aload_n 0, 1) := by decide +kernel
theorem dMd_make_98 : decode cMd_make 98 = .ok (.getfield 16, 3) := by decide +kernel
theorem dMd_make_101 : decode cMd_make 101 = .ok (.iconst 0, 1) := by decide +kernel
theorem dMd_make_102 : decode cMd_make 102 = .ok (.iaload, 1) := by decide +kernel
theorem dMd_make_103 : decode cMd_make 103 = .ok (.iastore, 1) := by decide +kernel
theorem dMd_make_104 : decode cMd_make 104 = .ok (.aload_n 0, 1) := by decide +kernel
theorem dMd_make_105 : decode cMd_make 105 = .ok (.getfield 36, 3) := by decide +kernel
theorem dMd_make_108 : decode cMd_make 108 = .ok (.iload 4, 2) := by decide +kernel
theorem dMd_make_110 : decode cMd_make 110 = .ok (.iconst 0, 1) := by decide +kernel
theorem dMd_make_111 : decode cMd_make 111 = .ok (.iastore, 1) := by decide +kernel
theorem dMd_make_112 : decode cMd_make 112 = .ok (.aload_n 0, 1) := by decide +kernel
theorem dMd_make_113 : decode cMd_make 113 = .ok (.getfield 39, 3) := by decide +kernel
theorem dMd_make_116 : decode cMd_make 116 = .ok (.iload 4, 2) := by decide +kernel
theorem dMd_make_118 : decode cMd_make 118 = .ok (.iload_n 1, 1) := by decide +kernel
theorem dMd_make_119 : decode cMd_make 119 = .ok (.iastore, 1) := by decide +kernel
theorem dMd_make_120 : decode cMd_make 120 = .ok (.aload_n 0, 1) := by decide +kernel
theorem dMd_make_121 : decode cMd_make 121 = .ok (.getfield 42, 3) := by decide +kernel
theorem dMd_make_124 : decode cMd_make 124 = .ok (.iload 4, 2) := by decide +kernel
theorem dMd_make_126 : decode cMd_make 126 = .ok (.iload_n 2, 1) := by decide +kernel
theorem dMd_make_127 : decode cMd_make 127 = .ok (.iastore, 1) := by decide +kernel
theorem dMd_make_128 : decode cMd_make 128 = .ok (.aload_n 0, 1) := by decide +kernel
theorem dMd_make_129 : decode cMd_make 129 = .ok (.getfield 45, 3) := by decide +kernel
theorem dMd_make_132 : decode cMd_make 132 = .ok (.iload 4, 2) := by decide +kernel
theorem dMd_make_134 : decode cMd_make 134 = .ok (.aload_n 0, 1) := by decide +kernel
theorem dMd_make_135 : decode cMd_make 135 = .ok (.getfield 73, 3) := by decide +kernel
theorem dMd_make_138 : decode cMd_make 138 = .ok (.iastore, 1) := by decide +kernel
theorem dMd_make_139 : decode cMd_make 139 = .ok (.iconst 0, 1) := by decide +kernel
theorem dMd_make_140 : decode cMd_make 140 = .ok (.istore 5, 2) := by decide +kernel
theorem dMd_make_142 : decode cMd_make 142 = .ok (.iload 5, 2) := by decide +kernel
theorem dMd_make_144 : decode cMd_make 144 = .ok (.iload_n 1, 1) := by decide +kernel
theorem dMd_make_145 : decode cMd_make 145 = .ok (.iload_n 2, 1) := by decide +kernel
theorem dMd_make_146 : decode cMd_make 146 = .ok (.iadd, 1) := by decide +kernel
theorem dMd_make_147 : decode cMd_make 147 = .ok (.if_icmp .ge 29, 3) := by decide +kernel
theorem dMd_make_150 : decode cMd_make 150 = .ok (.aload_n 0, 1) := by decide +kernel
theorem dMd_make_151 : decode cMd_make 151 = .ok (.getfield 48, 3) := by decide +kernel
theorem dMd_make_154 : decode cMd_make 154 = .ok (.aload_n 0, 1) := by decide +kernel
theorem dMd_make_155 : decode cMd_make 155 = .ok (.getfield 73, 3) := by decide +kernel
theorem dMd_make_158 : decode cMd_make 158 = .ok (.iconst 0, 1) := by decide +kernel
theorem dMd_make_159 : decode cMd_make 159 = .ok (.iastore, 1) := by decide +kernel
theorem dMd_make_160 : decode cMd_make 160 = .ok (.aload_n 0, 1) := by decide +kernel
theorem dMd_make_161 : decode cMd_make 161 = .ok (.dup, 1) := by decide +kernel
theorem dMd_make_162 : decode cMd_make 162 = .ok (.getfield 73, 3) := by decide +kernel
theorem dMd_make_165 : decode cMd_make 165 = .ok (.iconst 1, 1) := by decide +kernel
theorem dMd_make_166 : decode cMd_make 166 = .ok (.iadd, 1) := by decide +kernel
theorem dMd_make_167 : decode cMd_make 167 = .ok (.putfield 73, 3) := by decide +kernel
theorem dMd_make_170 : decode cMd_make 170 = .ok (.iinc 5 1, 3) := by decide +kernel
theorem dMd_make_173 : decode cMd_make 173 = .ok (.goto (-31), 3) := by decide +kernel
theorem dMd_make_176 : decode cMd_make 176 = .ok (.aload_n 0, 1) := by decide +kernel
theorem dMd_make_177 : decode cMd_make 177 = .ok (.getfield 16, 3) := by decide +kernel
theorem dMd_make_180 : decode cMd_make 180 = .ok (.iconst 0, 1) := by decide +kernel
theorem dMd_make_181 : decode cMd_make 181 = .ok (.aload_n 0, 1) := by decide +kernel
theorem dMd_make_182 : decode cMd_make 182 = .ok (.getfield 16, 3) := by decide +kernel
theorem dMd_make_185 : decode cMd_make 185 = .ok (.iconst 0, 1) := by decide +kernel
theorem dMd_make_186 : decode cMd_make 186 = .ok (.iaload, 1) := by decide +kernel
theorem dMd_make_187 : decode cMd_make 187 = .ok (.iload_n 3, 1) := by decide +kernel
theorem dMd_make_188 : decode cMd_make 188 = .ok (.iadd, 1) := by decide +kernel
theorem dMd_make_189 : decode cMd_make 189 = .ok (.iastore, 1) := by decide +kernel
theorem dMd_make_190 : decode cMd_make 190 = .ok (.aload_n 0, 1) := by decide +kernel
theorem dMd_make_191 : decode cMd_make 191 = .ok (.getfield 33, 3) := by decide +kernel
theorem dMd_make_194 : decode cMd_make 194 = .ok (.iload 4, 2) := by decide +kernel
theorem dMd_make_196 : decode cMd_make 196 = .ok (.iaload, 1) := by decide +kernel
theorem dMd_make_197 : decode cMd_make 197 = .ok (.ireturn, 1) := by decide +kernel
theorem dMd_freeNumber_0 : decode cMd_freeNumber 0 = .ok (.iconst 0, 1) := by decide +kernel
theorem dMd_freeNumber_1 : decode cMd_freeNumber 1 = .ok (.istore_n 1, 1) := by decide +kernel
theorem dMd_freeNumber_2 : decode cMd_freeNumber 2 = .ok (.aload_n 0, 1) := by decide +kernel
theorem dMd_freeNumber_3 : decode cMd_freeNumber 3 = .ok (.getfield 26, 3) := by decide +kernel
theorem dMd_freeNumber_6 : decode cMd_freeNumber 6 = .ok (.iload_n 1, 1) := by decide +kernel
theorem dMd_freeNumber_7 : decode cMd_freeNumber 7 = .ok (.baload, 1) := by decide +kernel
theorem dMd_freeNumber_8 : decode cMd_freeNumber 8 = .ok (.ifCond .eq 9, 3) := by decide +kernel
theorem dMd_freeNumber_11 : decode cMd_freeNumber 11 = .ok (.iinc 1 1, 3) := by decide +kernel
theorem dMd_freeNumber_14 : decode cMd_freeNumber 14 = .ok (.goto (-12), 3) := by decide +kernel
theorem dMd_freeNumber_17 : decode cMd_freeNumber 17 = .ok (.iload_n 1, 1) := by decide +kernel
theorem dMd_freeNumber_18 : decode cMd_freeNumber 18 = .ok (.ireturn, 1) := by decide +kernel
theorem dMd_set_0 : decode cMd_set 0 = .ok (.aload_n 0, 1) := by decide +kernel
theorem dMd_set_1 : decode cMd_set 1 = .ok (.iload_n 1, 1) := by decide +kernel
theorem dMd_set_2 : decode cMd_set 2 = .ok (.iload_n 2, 1) := by decide +kernel
theorem dMd_set_3 : decode cMd_set 3 = .ok (.invokevirtual 100, 3) := by decide +kernel
theorem dMd_set_6 : decode cMd_set 6 = .ok (.istore 4, 2) := by decide +kernel
theorem dMd_set_8 : decode cMd_set 8 = .ok (.iload_n 3, 1) := by decide +kernel
theorem dMd_set_9 : decode cMd_set 9 = .ok (.ifCond .ne 7, 3) := by decide +kernel
theorem dMd_set_12 : decode cMd_set 12 = .ok (.iconst (-1), 1) := by decide +kernel
theorem dMd_set_13 : decode cMd_set 13 = .ok (.goto 8, 3) := by decide +kernel
theorem dMd_set_16 : decode cMd_set 16 = .ok (.aload_n 0, 1) := by decide +kernel
theorem dMd_set_17 : decode cMd_set 17 = .ok (.iload_n 3, 1) := by decide +kernel
theorem dMd_set_18 : decode cMd_set 18 = .ok (.invokevirtual 96, 3) := by decide +kernel
theorem dMd_set_21 : decode cMd_set 21 = .ok (.istore 5, 2) := by decide +kernel
theorem dMd_set_23 : decode cMd_set 23 = .ok (.aload_n 0, 1) := by decide +kernel
theorem dMd_set_24 : decode cMd_set 24 = .ok (.iload 4, 2) := by decide +kernel
theorem dMd_set_26 : decode cMd_set 26 = .ok (.ifCond .lt 16, 3) := by decide +kernel
theorem dMd_set_29 : decode cMd_set 29 = .ok (.iload_n 3, 1) := by decide +kernel
theorem dMd_set_30 : decode cMd_set 30 = .ok (.ifCond .eq 8, 3) := by decide +kernel
theorem dMd_set_33 : decode cMd_set 33 = .ok (.iload 5, 2) := by decide +kernel
theorem dMd_set_35 : decode cMd_set 35 = .ok (.ifCond .lt 7, 3) := by decide +kernel
theorem dMd_set_38 : decode cMd_set 38 = .ok (.iconst 1, 1) := by decide +kernel
theorem dMd_set_39 : decode cMd_set 39 = .ok (.goto 4, 3) := by decide +kernel
theorem dMd_set_42 : decode cMd_set 42 = .ok (.iconst 0, 1) := by decide +kernel
theorem dMd_set_43 : decode cMd_set 43 = .ok (.iconst 1, 1) := by decide +kernel
theorem dMd_set_44 : decode cMd_set 44 = .ok (.invokevirtual 88, 3) := by decide +kernel
theorem dMd_set_47 : decode cMd_set 47 = .ok (.ifCond .ne 5, 3) := by decide +kernel
theorem dMd_set_50 : decode cMd_set 50 = .ok (.iconst 0, 1) := by decide +kernel
theorem dMd_set_51 : decode cMd_set 51 = .ok (.ireturn, 1) := by decide +kernel
theorem dMd_set_52 : decode cMd_set 52 = .ok (.aload_n 0, 1) := by decide +kernel
theorem dMd_set_53 : decode cMd_set 53 = .ok (.getfield 48, 3) := by decide +kernel
theorem dMd_set_56 : decode cMd_set 56 = .ok (.iload 4, 2) := by decide +kernel
theorem dMd_set_58 : decode cMd_set 58 = .ok (.iaload, 1) := by decide +kernel
theorem dMd_set_59 : decode cMd_set 59 = .ok (.istore 6, 2) := by decide +kernel
theorem dMd_set_61 : decode cMd_set 61 = .ok (.aload_n 0, 1) := by decide +kernel
theorem dMd_set_62 : decode cMd_set 62 = .ok (.getfield 48, 3) := by decide +kernel
theorem dMd_set_65 : decode cMd_set 65 = .ok (.iload 4, 2) := by decide +kernel
theorem dMd_set_67 : decode cMd_set 67 = .ok (.iload 5, 2) := by decide +kernel
theorem dMd_set_69 : decode cMd_set 69 = .ok (.iconst 1, 1) := by decide +kernel
theorem dMd_set_70 : decode cMd_set 70 = .ok (.iadd, 1) := by decide +kernel
theorem dMd_set_71 : decode cMd_set 71 = .ok (.iastore, 1) := by decide +kernel
theorem dMd_set_72 : decode cMd_set 72 = .ok (.aload_n 0, 1) := by decide +kernel
theorem dMd_set_73 : decode cMd_set 73 = .ok (.iload 6, 2) := by decide +kernel
theorem dMd_set_75 : decode cMd_set 75 = .ok (.invokevirtual 104, 3) := by decide +kernel
theorem dMd_set_78 : decode cMd_set 78 = .ok (.ireturn, 1) := by decide +kernel
theorem dMd_field_0 : decode cMd_field 0 = .ok (.aload_n 0, 1) := by decide +kernel
theorem dMd_field_1 : decode cMd_field 1 = .ok (.iload_n 1, 1) := by decide +kernel
theorem dMd_field_2 : decode cMd_field 2 = .ok (.invokevirtual 96, 3) := by decide +kernel
theorem dMd_field_5 : decode cMd_field 5 = .ok (.istore_n 3, 1) := by decide +kernel
theorem dMd_field_6 : decode cMd_field 6 = .ok (.iload_n 3, 1) := by decide +kernel
theorem dMd_field_7 : decode cMd_field 7 = .ok (.ifCond .lt 28, 3) := by decide +kernel
theorem dMd_field_10 : decode cMd_field 10 = .ok (.iload_n 2, 1) := by decide +kernel
theorem dMd_field_11 : decode cMd_field 11 = .ok (.ifCond .lt 24, 3) := by decide +kernel
theorem dMd_field_14 : decode cMd_field 14 = .ok (.iload_n 2, 1) := by decide +kernel
theorem dMd_field_15 : decode cMd_field 15 = .ok (.aload_n 0, 1) := by decide +kernel
theorem dMd_field_16 : decode cMd_field 16 = .ok (.getfield 39, 3) := by decide +kernel
theorem dMd_field_19 : decode cMd_field 19 = .ok (.iload_n 3, 1) := by decide +kernel
theorem dMd_field_20 : decode cMd_field 20 = .ok (.iaload, 1) := by decide +kernel
theorem dMd_field_21 : decode cMd_field 21 = .ok (.if_icmp .ge 14, 3) := by decide +kernel
theorem dMd_field_24 : decode cMd_field 24 = .ok (.aload_n 0, 1) := by decide +kernel
theorem dMd_field_25 : decode cMd_field 25 = .ok (.getfield 45, 3) := by decide +kernel
theorem dMd_field_28 : decode cMd_field 28 = .ok (.iload_n 3, 1) := by decide +kernel
theorem dMd_field_29 : decode cMd_field 29 = .ok (.iaload, 1) := by decide +kernel
theorem dMd_field_30 : decode cMd_field 30 = .ok (.iload_n 2, 1) := by decide +kernel
theorem dMd_field_31 : decode cMd_field 31 = .ok (.iadd, 1) := by decide +kernel
theorem dMd_field_32 : decode cMd_field 32 = .ok (.goto 4, 3) := by decide +kernel
theorem dMd_field_35 : decode cMd_field 35 = .ok (.iconst (-1), 1) := by decide +kernel
theorem dMd_field_36 : decode cMd_field 36 = .ok (.ireturn, 1) := by decide +kernel
theorem dMd_object_0 : decode cMd_object 0 = .ok (.iconst 0, 1) := by decide +kernel
theorem dMd_object_1 : decode cMd_object 1 = .ok (.istore_n 2, 1) := by decide +kernel
theorem dMd_object_2 : decode cMd_object 2 = .ok (.iload_n 2, 1) := by decide +kernel
theorem dMd_object_3 : decode cMd_object 3 = .ok (.sipush 3600, 3) := by decide +kernel
theorem dMd_object_6 : decode cMd_object 6 = .ok (.if_icmp .ge 30, 3) := by decide +kernel
theorem dMd_object_9 : decode cMd_object 9 = .ok (.aload_n 0, 1) := by decide +kernel
theorem dMd_object_10 : decode cMd_object 10 = .ok (.getfield 26, 3) := by decide +kernel
theorem dMd_object_13 : decode cMd_object 13 = .ok (.iload_n 2, 1) := by decide +kernel
theorem dMd_object_14 : decode cMd_object 14 = .ok (.baload, 1) := by decide +kernel
theorem dMd_object_15 : decode cMd_object 15 = .ok (.ifCond .eq 15, 3) := by decide +kernel
theorem dMd_object_18 : decode cMd_object 18 = .ok (.aload_n 0, 1) := by decide +kernel
theorem dMd_object_19 : decode cMd_object 19 = .ok (.getfield 33, 3) := by decide +kernel
theorem dMd_object_22 : decode cMd_object 22 = .ok (.iload_n 2, 1) := by decide +kernel
theorem dMd_object_23 : decode cMd_object 23 = .ok (.iaload, 1) := by decide +kernel
theorem dMd_object_24 : decode cMd_object 24 = .ok (.iload_n 1, 1) := by decide +kernel
theorem dMd_object_25 : decode cMd_object 25 = .ok (.if_icmp .ne 5, 3) := by decide +kernel
theorem dMd_object_28 : decode cMd_object 28 = .ok (.iload_n 2, 1) := by decide +kernel
theorem dMd_object_29 : decode cMd_object 29 = .ok (.ireturn, 1) := by decide +kernel
theorem dMd_object_30 : decode cMd_object 30 = .ok (.iinc 2 1, 3) := by decide +kernel
theorem dMd_object_33 : decode cMd_object 33 = .ok (.goto (-31), 3) := by decide +kernel
theorem dMd_object_36 : decode cMd_object 36 = .ok (.iconst (-1), 1) := by decide +kernel
theorem dMd_object_37 : decode cMd_object 37 = .ok (.ireturn, 1) := by decide +kernel
theorem dMd_told_0 : decode cMd_told 0 = .ok (.iload_n 1, 1) := by decide +kernel
theorem dMd_told_1 : decode cMd_told 1 = .ok (.ifCond .ne 7, 3) := by decide +kernel
theorem dMd_told_4 : decode cMd_told 4 = .ok (.iconst 0, 1) := by decide +kernel
theorem dMd_told_5 : decode cMd_told 5 = .ok (.goto 11, 3) := by decide +kernel
theorem dMd_told_8 : decode cMd_told 8 = .ok (.aload_n 0, 1) := by decide +kernel
theorem dMd_told_9 : decode cMd_told 9 = .ok (.getfield 33, 3) := by decide +kernel
theorem dMd_told_12 : decode cMd_told 12 = .ok (.iload_n 1, 1) := by decide +kernel
theorem dMd_told_13 : decode cMd_told 13 = .ok (.iconst 1, 1) := by decide +kernel
theorem dMd_told_14 : decode cMd_told 14 = .ok (.isub, 1) := by decide +kernel
theorem dMd_told_15 : decode cMd_told 15 = .ok (.iaload, 1) := by decide +kernel
theorem dMd_told_16 : decode cMd_told 16 = .ok (.ireturn, 1) := by decide +kernel
theorem dMd_get_0 : decode cMd_get 0 = .ok (.aload_n 0, 1) := by decide +kernel
theorem dMd_get_1 : decode cMd_get 1 = .ok (.iload_n 1, 1) := by decide +kernel
theorem dMd_get_2 : decode cMd_get 2 = .ok (.iload_n 2, 1) := by decide +kernel
theorem dMd_get_3 : decode cMd_get 3 = .ok (.invokevirtual 100, 3) := by decide +kernel
theorem dMd_get_6 : decode cMd_get 6 = .ok (.istore_n 3, 1) := by decide +kernel
theorem dMd_get_7 : decode cMd_get 7 = .ok (.aload_n 0, 1) := by decide +kernel
theorem dMd_get_8 : decode cMd_get 8 = .ok (.iload_n 3, 1) := by decide +kernel
theorem dMd_get_9 : decode cMd_get 9 = .ok (.ifCond .lt 7, 3) := by decide +kernel
theorem dMd_get_12 : decode cMd_get 12 = .ok (.iconst 1, 1) := by decide +kernel
theorem dMd_get_13 : decode cMd_get 13 = .ok (.goto 4, 3) := by decide +kernel
theorem dMd_get_16 : decode cMd_get 16 = .ok (.iconst 0, 1) := by decide +kernel
theorem dMd_get_17 : decode cMd_get 17 = .ok (.iconst 1, 1) := by decide +kernel
theorem dMd_get_18 : decode cMd_get 18 = .ok (.invokevirtual 88, 3) := by decide +kernel
theorem dMd_get_21 : decode cMd_get 21 = .ok (.ifCond .eq 16, 3) := by decide +kernel
theorem dMd_get_24 : decode cMd_get 24 = .ok (.aload_n 0, 1) := by decide +kernel
theorem dMd_get_25 : decode cMd_get 25 = .ok (.aload_n 0, 1) := by decide +kernel
theorem dMd_get_26 : decode cMd_get 26 = .ok (.getfield 48, 3) := by decide +kernel
theorem dMd_get_29 : decode cMd_get 29 = .ok (.iload_n 3, 1) := by decide +kernel
theorem dMd_get_30 : decode cMd_get 30 = .ok (.iaload, 1) := by decide +kernel
theorem dMd_get_31 : decode cMd_get 31 = .ok (.invokevirtual 104, 3) := by decide +kernel
theorem dMd_get_34 : decode cMd_get 34 = .ok (.goto 4, 3) := by decide +kernel
theorem dMd_get_37 : decode cMd_get 37 = .ok (.iconst 0, 1) := by decide +kernel
theorem dMd_get_38 : decode cMd_get 38 = .ok (.ireturn, 1) := by decide +kernel
theorem dMd_put_0 : decode cMd_put 0 = .ok (.aload_n 0, 1) := by decide +kernel
theorem dMd_put_1 : decode cMd_put 1 = .ok (.iload_n 1, 1) := by decide +kernel
theorem dMd_put_2 : decode cMd_put 2 = .ok (.iload_n 2, 1) := by decide +kernel
theorem dMd_put_3 : decode cMd_put 3 = .ok (.invokevirtual 107, 3) := by decide +kernel
theorem dMd_put_6 : decode cMd_put 6 = .ok (.istore 4, 2) := by decide +kernel
theorem dMd_put_8 : decode cMd_put 8 = .ok (.aload_n 0, 1) := by decide +kernel
theorem dMd_put_9 : decode cMd_put 9 = .ok (.iload 4, 2) := by decide +kernel
theorem dMd_put_11 : decode cMd_put 11 = .ok (.ifCond .lt 7, 3) := by decide +kernel
theorem dMd_put_14 : decode cMd_put 14 = .ok (.iconst 1, 1) := by decide +kernel
theorem dMd_put_15 : decode cMd_put 15 = .ok (.goto 4, 3) := by decide +kernel
theorem dMd_put_18 : decode cMd_put 18 = .ok (.iconst 0, 1) := by decide +kernel
theorem dMd_put_19 : decode cMd_put 19 = .ok (.iconst 1, 1) := by decide +kernel
theorem dMd_put_20 : decode cMd_put 20 = .ok (.invokevirtual 88, 3) := by decide +kernel
theorem dMd_put_23 : decode cMd_put 23 = .ok (.ifCond .ne 5, 3) := by decide +kernel
theorem dMd_put_26 : decode cMd_put 26 = .ok (.iconst 0, 1) := by decide +kernel
theorem dMd_put_27 : decode cMd_put 27 = .ok (.ireturn, 1) := by decide +kernel
theorem dMd_put_28 : decode cMd_put 28 = .ok (.aload_n 0, 1) := by decide +kernel
theorem dMd_put_29 : decode cMd_put 29 = .ok (.getfield 48, 3) := by decide +kernel
theorem dMd_put_32 : decode cMd_put 32 = .ok (.iload 4, 2) := by decide +kernel
theorem dMd_put_34 : decode cMd_put 34 = .ok (.iaload, 1) := by decide +kernel
theorem dMd_put_35 : decode cMd_put 35 = .ok (.istore 5, 2) := by decide +kernel
theorem dMd_put_37 : decode cMd_put 37 = .ok (.aload_n 0, 1) := by decide +kernel
theorem dMd_put_38 : decode cMd_put 38 = .ok (.getfield 48, 3) := by decide +kernel
theorem dMd_put_41 : decode cMd_put 41 = .ok (.iload 4, 2) := by decide +kernel
theorem dMd_put_43 : decode cMd_put 43 = .ok (.iload_n 3, 1) := by decide +kernel
theorem dMd_put_44 : decode cMd_put 44 = .ok (.iastore, 1) := by decide +kernel
theorem dMd_put_45 : decode cMd_put 45 = .ok (.iload 5, 2) := by decide +kernel
theorem dMd_put_47 : decode cMd_put 47 = .ok (.ireturn, 1) := by decide +kernel
theorem dMd_place_0 : decode cMd_place 0 = .ok (.aload_n 0, 1) := by decide +kernel
theorem dMd_place_1 : decode cMd_place 1 = .ok (.iload_n 1, 1) := by decide +kernel
theorem dMd_place_2 : decode cMd_place 2 = .ok (.invokevirtual 96, 3) := by decide +kernel
theorem dMd_place_5 : decode cMd_place 5 = .ok (.istore_n 3, 1) := by decide +kernel
theorem dMd_place_6 : decode cMd_place 6 = .ok (.iload_n 3, 1) := by decide +kernel
theorem dMd_place_7 : decode cMd_place 7 = .ok (.ifCond .lt 35, 3) := by decide +kernel
theorem dMd_place_10 : decode cMd_place 10 = .ok (.iload_n 2, 1) := by decide +kernel
theorem dMd_place_11 : decode cMd_place 11 = .ok (.ifCond .lt 31, 3) := by decide +kernel
theorem dMd_place_14 : decode cMd_place 14 = .ok (.iload_n 2, 1) := by decide +kernel
theorem dMd_place_15 : decode cMd_place 15 = .ok (.aload_n 0, 1) := by decide +kernel
theorem dMd_place_16 : decode cMd_place 16 = .ok (.getfield 42, 3) := by decide +kernel
theorem dMd_place_19 : decode cMd_place 19 = .ok (.iload_n 3, 1) := by decide +kernel
theorem dMd_place_20 : decode cMd_place 20 = .ok (.iaload, 1) := by decide +kernel
theorem dMd_place_21 : decode cMd_place 21 = .ok (.if_icmp .ge 21, 3) := by decide +kernel
theorem dMd_place_24 : decode cMd_place 24 = .ok (.aload_n 0, 1) := by decide +kernel
theorem dMd_place_25 : decode cMd_place 25 = .ok (.getfield 45, 3) := by decide +kernel
theorem dMd_place_28 : decode cMd_place 28 = .ok (.iload_n 3, 1) := by decide +kernel
theorem dMd_place_29 : decode cMd_place 29 = .ok (.iaload, 1) := by decide +kernel
theorem dMd_place_30 : decode cMd_place 30 = .ok (.aload_n 0, 1) := by decide +kernel
theorem dMd_place_31 : decode cMd_place 31 = .ok (.getfield 39, 3) := by decide +kernel
theorem dMd_place_34 : decode cMd_place 34 = .ok (.iload_n 3, 1) := by decide +kernel
theorem dMd_place_35 : decode cMd_place 35 = .ok (.iaload, 1) := by decide +kernel
theorem dMd_place_36 : decode cMd_place 36 = .ok (.iadd, 1) := by decide +kernel
theorem dMd_place_37 : decode cMd_place 37 = .ok (.iload_n 2, 1) := by decide +kernel
theorem dMd_place_38 : decode cMd_place 38 = .ok (.iadd, 1) := by decide +kernel
theorem dMd_place_39 : decode cMd_place 39 = .ok (.goto 4, 3) := by decide +kernel
theorem dMd_place_42 : decode cMd_place 42 = .ok (.iconst (-1), 1) := by decide +kernel
theorem dMd_place_43 : decode cMd_place 43 = .ok (.ireturn, 1) := by decide +kernel
theorem dMd_word_0 : decode cMd_word 0 = .ok (.aload_n 0, 1) := by decide +kernel
theorem dMd_word_1 : decode cMd_word 1 = .ok (.iload_n 1, 1) := by decide +kernel
theorem dMd_word_2 : decode cMd_word 2 = .ok (.iload_n 2, 1) := by decide +kernel
theorem dMd_word_3 : decode cMd_word 3 = .ok (.invokevirtual 107, 3) := by decide +kernel
theorem dMd_word_6 : decode cMd_word 6 = .ok (.istore_n 3, 1) := by decide +kernel
theorem dMd_word_7 : decode cMd_word 7 = .ok (.aload_n 0, 1) := by decide +kernel
theorem dMd_word_8 : decode cMd_word 8 = .ok (.iload_n 3, 1) := by decide +kernel
theorem dMd_word_9 : decode cMd_word 9 = .ok (.ifCond .lt 7, 3) := by decide +kernel
theorem dMd_word_12 : decode cMd_word 12 = .ok (.iconst 1, 1) := by decide +kernel
theorem dMd_word_13 : decode cMd_word 13 = .ok (.goto 4, 3) := by decide +kernel
theorem dMd_word_16 : decode cMd_word 16 = .ok (.iconst 0, 1) := by decide +kernel
theorem dMd_word_17 : decode cMd_word 17 = .ok (.iconst 1, 1) := by decide +kernel
theorem dMd_word_18 : decode cMd_word 18 = .ok (.invokevirtual 88, 3) := by decide +kernel
theorem dMd_word_21 : decode cMd_word 21 = .ok (.ifCond .eq 12, 3) := by decide +kernel
theorem dMd_word_24 : decode cMd_word 24 = .ok (.aload_n 0, 1) := by decide +kernel
theorem dMd_word_25 : decode cMd_word 25 = .ok (.getfield 48, 3) := by decide +kernel
theorem dMd_word_28 : decode cMd_word 28 = .ok (.iload_n 3, 1) := by decide +kernel
theorem dMd_word_29 : decode cMd_word 29 = .ok (.iaload, 1) := by decide +kernel
theorem dMd_word_30 : decode cMd_word 30 = .ok (.goto 4, 3) := by decide +kernel
theorem dMd_word_33 : decode cMd_word 33 = .ok (.iconst 0, 1) := by decide +kernel
theorem dMd_word_34 : decode cMd_word 34 = .ok (.ireturn, 1) := by decide +kernel
theorem dMd_root_0 : decode cMd_root 0 = .ok (.iload_n 2, 1) := by decide +kernel
theorem dMd_root_1 : decode cMd_root 1 = .ok (.ifCond .ne 7, 3) := by decide +kernel
theorem dMd_root_4 : decode cMd_root 4 = .ok (.iconst (-1), 1) := by decide +kernel
theorem dMd_root_5 : decode cMd_root 5 = .ok (.goto 8, 3) := by decide +kernel
theorem dMd_root_8 : decode cMd_root 8 = .ok (.aload_n 0, 1) := by decide +kernel
theorem dMd_root_9 : decode cMd_root 9 = .ok (.iload_n 2, 1) := by decide +kernel
theorem dMd_root_10 : decode cMd_root 10 = .ok (.invokevirtual 96, 3) := by decide +kernel
theorem dMd_root_13 : decode cMd_root 13 = .ok (.istore_n 3, 1) := by decide +kernel
theorem dMd_root_14 : decode cMd_root 14 = .ok (.aload_n 0, 1) := by decide +kernel
theorem dMd_root_15 : decode cMd_root 15 = .ok (.iload_n 1, 1) := by decide +kernel
theorem dMd_root_16 : decode cMd_root 16 = .ok (.ifCond .lt 21, 3) := by decide +kernel
theorem dMd_root_19 : decode cMd_root 19 = .ok (.iload_n 1, 1) := by decide +kernel
theorem dMd_root_20 : decode cMd_root 20 = .ok (.bipush 16, 2) := by decide +kernel
theorem dMd_root_22 : decode cMd_root 22 = .ok (.if_icmp .ge 15, 3) := by decide +kernel
theorem dMd_root_25 : decode cMd_root 25 = .ok (.iload_n 2, 1) := by decide +kernel
theorem dMd_root_26 : decode cMd_root 26 = .ok (.ifCond .eq 7, 3) := by decide +kernel
theorem dMd_root_29 : decode cMd_root 29 = .ok (.iload_n 3, 1) := by decide +kernel
theorem dMd_root_30 : decode cMd_root 30 = .ok (.ifCond .lt 7, 3) := by decide +kernel
theorem dMd_root_33 : decode cMd_root 33 = .ok (.iconst 1, 1) := by decide +kernel
theorem dMd_root_34 : decode cMd_root 34 = .ok (.goto 4, 3) := by decide +kernel
theorem dMd_root_37 : decode cMd_root 37 = .ok (.iconst 0, 1) := by decide +kernel
theorem dMd_root_38 : decode cMd_root 38 = .ok (.iconst 1, 1) := by decide +kernel
theorem dMd_root_39 : decode cMd_root 39 = .ok (.invokevirtual 88, 3) := by decide +kernel
theorem dMd_root_42 : decode cMd_root 42 = .ok (.ifCond .ne 5, 3) := by decide +kernel
theorem dMd_root_45 : decode cMd_root 45 = .ok (.iconst 0, 1) := by decide +kernel
theorem dMd_root_46 : decode cMd_root 46 = .ok (.ireturn, 1) := by decide +kernel
theorem dMd_root_47 : decode cMd_root 47 = .ok (.aload_n 0, 1) := by decide +kernel
theorem dMd_root_48 : decode cMd_root 48 = .ok (.getfield 63, 3) := by decide +kernel
theorem dMd_root_51 : decode cMd_root 51 = .ok (.iload_n 1, 1) := by decide +kernel
theorem dMd_root_52 : decode cMd_root 52 = .ok (.iaload, 1) := by decide +kernel
theorem dMd_root_53 : decode cMd_root 53 = .ok (.istore 4, 2) := by decide +kernel
theorem dMd_root_55 : decode cMd_root 55 = .ok (.aload_n 0, 1) := by decide +kernel
theorem dMd_root_56 : decode cMd_root 56 = .ok (.getfield 63, 3) := by decide +kernel
theorem dMd_root_59 : decode cMd_root 59 = .ok (.iload_n 1, 1) := by decide +kernel
theorem dMd_root_60 : decode cMd_root 60 = .ok (.iload_n 3, 1) := by decide +kernel
theorem dMd_root_61 : decode cMd_root 61 = .ok (.iconst 1, 1) := by decide +kernel
theorem dMd_root_62 : decode cMd_root 62 = .ok (.iadd, 1) := by decide +kernel
theorem dMd_root_63 : decode cMd_root 63 = .ok (.iastore, 1) := by decide +kernel
theorem dMd_root_64 : decode cMd_root 64 = .ok (.aload_n 0, 1) := by decide +kernel
theorem dMd_root_65 : decode cMd_root 65 = .ok (.iload 4, 2) := by decide +kernel
theorem dMd_root_67 : decode cMd_root 67 = .ok (.invokevirtual 104, 3) := by decide +kernel
theorem dMd_root_70 : decode cMd_root 70 = .ok (.ireturn, 1) := by decide +kernel
theorem dMd_rooted_0 : decode cMd_rooted 0 = .ok (.aload_n 0, 1) := by decide +kernel
theorem dMd_rooted_1 : decode cMd_rooted 1 = .ok (.iload_n 1, 1) := by decide +kernel
theorem dMd_rooted_2 : decode cMd_rooted 2 = .ok (.ifCond .lt 13, 3) := by decide +kernel
theorem dMd_rooted_5 : decode cMd_rooted 5 = .ok (.iload_n 1, 1) := by decide +kernel
theorem dMd_rooted_6 : decode cMd_rooted 6 = .ok (.bipush 16, 2) := by decide +kernel
theorem dMd_rooted_8 : decode cMd_rooted 8 = .ok (.if_icmp .ge 7, 3) := by decide +kernel
theorem dMd_rooted_11 : decode cMd_rooted 11 = .ok (.iconst 1, 1) := by decide +kernel
theorem dMd_rooted_12 : decode cMd_rooted 12 = .ok (.goto 4, 3) := by decide +kernel
theorem dMd_rooted_15 : decode cMd_rooted 15 = .ok (.iconst 0, 1) := by decide +kernel
theorem dMd_rooted_16 : decode cMd_rooted 16 = .ok (.iconst 1, 1) := by decide +kernel
theorem dMd_rooted_17 : decode cMd_rooted 17 = .ok (.invokevirtual 88, 3) := by decide +kernel
theorem dMd_rooted_20 : decode cMd_rooted 20 = .ok (.ifCond .eq 16, 3) := by decide +kernel
theorem dMd_rooted_23 : decode cMd_rooted 23 = .ok (.aload_n 0, 1) := by decide +kernel
theorem dMd_rooted_24 : decode cMd_rooted 24 = .ok (.aload_n 0, 1) := by decide +kernel
theorem dMd_rooted_25 : decode cMd_rooted 25 = .ok (.getfield 63, 3) := by decide +kernel
theorem dMd_rooted_28 : decode cMd_rooted 28 = .ok (.iload_n 1, 1) := by decide +kernel
theorem dMd_rooted_29 : decode cMd_rooted 29 = .ok (.iaload, 1) := by decide +kernel
theorem dMd_rooted_30 : decode cMd_rooted 30 = .ok (.invokevirtual 104, 3) := by decide +kernel
theorem dMd_rooted_33 : decode cMd_rooted 33 = .ok (.goto 4, 3) := by decide +kernel
theorem dMd_rooted_36 : decode cMd_rooted 36 = .ok (.iconst 0, 1) := by decide +kernel
theorem dMd_rooted_37 : decode cMd_rooted 37 = .ok (.ireturn, 1) := by decide +kernel
theorem dMd_collect_0 : decode cMd_collect 0 = .ok (.aload_n 0, 1) := by decide +kernel
theorem dMd_collect_1 : decode cMd_collect 1 = .ok (.getfield 16, 3) := by decide +kernel
theorem dMd_collect_4 : decode cMd_collect 4 = .ok (.iconst 0, 1) := by decide +kernel
theorem dMd_collect_5 : decode cMd_collect 5 = .ok (.iaload, 1) := by decide +kernel
theorem dMd_collect_6 : decode cMd_collect 6 = .ok (.aload_n 0, 1) := by decide +kernel
theorem dMd_collect_7 : decode cMd_collect 7 = .ok (.getfield 7, 3) := by decide +kernel
theorem dMd_collect_10 : decode cMd_collect 10 = .ok (.iconst 0, 1) := by decide +kernel
theorem dMd_collect_11 : decode cMd_collect 11 = .ok (.iaload, 1) := by decide +kernel
theorem dMd_collect_12 : decode cMd_collect 12 = .ok (.isub, 1) := by decide +kernel
theorem dMd_collect_13 : decode cMd_collect 13 = .ok (.aload_n 0, 1) := by decide +kernel
theorem dMd_collect_14 : decode cMd_collect 14 = .ok (.getfield 16, 3) := by decide +kernel
theorem dMd_collect_17 : decode cMd_collect 17 = .ok (.aload_n 0, 1) := by decide +kernel
theorem dMd_collect_18 : decode cMd_collect 18 = .ok (.getfield 19, 3) := by decide +kernel
theorem dMd_collect_21 : decode cMd_collect 21 = .ok (.iaload, 1) := by decide +kernel
theorem dMd_collect_22 : decode cMd_collect 22 = .ok (.iadd, 1) := by decide +kernel
theorem dMd_collect_23 : decode cMd_collect 23 = .ok (.aload_n 0, 1) := by decide +kernel
theorem dMd_collect_24 : decode cMd_collect 24 = .ok (.getfield 7, 3) := by decide +kernel
theorem dMd_collect_27 : decode cMd_collect 27 = .ok (.aload_n 0, 1) := by decide +kernel
theorem dMd_collect_28 : decode cMd_collect 28 = .ok (.getfield 19, 3) := by decide +kernel
theorem dMd_collect_31 : decode cMd_collect 31 = .ok (.iaload, 1) := by decide +kernel
theorem dMd_collect_32 : decode cMd_collect 32 = .ok (.isub, 1) := by decide +kernel
theorem dMd_collect_33 : decode cMd_collect 33 = .ok (.istore_n 1, 1) := by decide +kernel
theorem dMd_collect_34 : decode cMd_collect 34 = .ok (.aload_n 0, 1) := by decide +kernel
theorem dMd_collect_35 : decode cMd_collect 35 = .ok (.iload_n 1, 1) := by decide +kernel
theorem dMd_collect_36 : decode cMd_collect 36 = .ok (.aload_n 0, 1) := by decide +kernel
theorem dMd_collect_37 : decode cMd_collect 37 = .ok (.getfield 7, 3) := by decide +kernel
theorem dMd_collect_40 : decode cMd_collect 40 = .ok (.iconst 3, 1) := by decide +kernel
theorem dMd_collect_41 : decode cMd_collect 41 = .ok (.iaload, 1) := by decide +kernel
theorem dMd_collect_42 : decode cMd_collect 42 = .ok (.aload_n 0, 1) := by decide +kernel
theorem dMd_collect_43 : decode cMd_collect 43 = .ok (.getfield 13, 3) := by decide +kernel
theorem dMd_collect_46 : decode cMd_collect 46 = .ok (.iconst 3, 1) := by decide +kernel
theorem dMd_collect_47 : decode cMd_collect 47 = .ok (.iaload, 1) := by decide +kernel
theorem dMd_collect_48 : decode cMd_collect 48 = .ok (.iadd, 1) := by decide +kernel
theorem dMd_collect_49 : decode cMd_collect 49 = .ok (.aload_n 0, 1) := by decide +kernel
theorem dMd_collect_50 : decode cMd_collect 50 = .ok (.getfield 16, 3) := by decide +kernel
theorem dMd_collect_53 : decode cMd_collect 53 = .ok (.iconst 3, 1) := by decide +kernel
theorem dMd_collect_54 : decode cMd_collect 54 = .ok (.iaload, 1) := by decide +kernel
theorem dMd_collect_55 : decode cMd_collect 55 = .ok (.isub, 1) := by decide +kernel
theorem dMd_collect_56 : decode cMd_collect 56 = .ok (.if_icmp .gt 7, 3) := by decide +kernel
theorem dMd_collect_59 : decode cMd_collect 59 = .ok (.iconst 1, 1) := by decide +kernel
theorem dMd_collect_60 : decode cMd_collect 60 = .ok (.goto 4, 3) := by decide +kernel
theorem dMd_collect_63 : decode cMd_collect 63 = .ok (.iconst 0, 1) := by decide +kernel
theorem dMd_collect_64 : decode cMd_collect 64 = .ok (.iconst 1, 1) := by decide +kernel
theorem dMd_collect_65 : decode cMd_collect 65 = .ok (.invokevirtual 88, 3) := by decide +kernel
theorem dMd_collect_68 : decode cMd_collect 68 = .ok (.ifCond .ne 5, 3) := by decide +kernel
theorem dMd_collect_71 : decode cMd_collect 71 = .ok (.iconst 0, 1) := by decide +kernel
theorem dMd_collect_72 : decode cMd_collect 72 = .ok (.ireturn, 1) := by decide +kernel
theorem dMd_collect_73 : decode cMd_collect 73 = .ok (.aload_n 0, 1) := by decide +kernel
theorem dMd_collect_74 : decode cMd_collect 74 = .ok (.iconst 0, 1) := by decide +kernel
theorem dMd_collect_75 : decode cMd_collect 75 = .ok (.putfield 113, 3) := by decide +kernel
theorem dMd_collect_78 : decode cMd_collect 78 = .ok (.aload_n 0, 1) := by decide +kernel
theorem dMd_collect_79 : decode cMd_collect 79 = .ok (.getfield 16, 3) := by decide +kernel
theorem dMd_collect_82 : decode cMd_collect 82 = .ok (.iconst 3, 1) := by decide +kernel
theorem dMd_collect_83 : decode cMd_collect 83 = .ok (.aload_n 0, 1) := by decide +kernel
theorem dMd_collect_84 : decode cMd_collect 84 = .ok (.getfield 19, 3) := by decide +kernel
theorem dMd_collect_87 : decode cMd_collect 87 = .ok (.isub, 1) := by decide +kernel
theorem dMd_collect_88 : decode cMd_collect 88 = .ok (.aload_n 0, 1) := by decide +kernel
theorem dMd_collect_89 : decode cMd_collect 89 = .ok (.getfield 7, 3) := by decide +kernel
theorem dMd_collect_92 : decode cMd_collect 92 = .ok (.iconst 3, 1) := by decide +kernel
theorem dMd_collect_93 : decode cMd_collect 93 = .ok (.aload_n 0, 1) := by decide +kernel
theorem dMd_collect_94 : decode cMd_collect 94 = .ok (.getfield 19, 3) := by decide +kernel
theorem dMd_collect_97 : decode cMd_collect 97 = .ok (.isub, 1) := by decide +kernel
theorem dMd_collect_98 : decode cMd_collect 98 = .ok (.iaload, 1) := by decide +kernel
theorem dMd_collect_99 : decode cMd_collect 99 = .ok (.iastore, 1) := by decide +kernel
theorem dMd_collect_100 : decode cMd_collect 100 = .ok (.iconst 0, 1) := by decide +kernel
theorem dMd_collect_101 : decode cMd_collect 101 = .ok (.istore_n 2, 1) := by decide +kernel
theorem dMd_collect_102 : decode cMd_collect 102 = .ok (.iload_n 2, 1) := by decide +kernel
theorem dMd_collect_103 : decode cMd_collect 103 = .ok (.sipush 3600, 3) := by decide +kernel
theorem dMd_collect_106 : decode cMd_collect 106 = .ok (.if_icmp .ge 16, 3) := by decide +kernel
theorem dMd_collect_109 : decode cMd_collect 109 = .ok (.aload_n 0, 1) := by decide +kernel
theorem dMd_collect_110 : decode cMd_collect 110 = .ok (.getfield 60, 3) := by decide +kernel
theorem dMd_collect_113 : decode cMd_collect 113 = .ok (.iload_n 2, 1) := by decide +kernel
theorem dMd_collect_114 : decode cMd_collect 114 = .ok (.iconst 0, 1) := by decide +kernel
theorem dMd_collect_115 : decode cMd_collect 115 = .ok (.bastore, 1) := by decide +kernel
theorem dMd_collect_116 : decode cMd_collect 116 = .ok (.iinc 2 1, 3) := by decide +kernel
theorem dMd_collect_119 : decode cMd_collect 119 = .ok (.goto (-17), 3) := by decide +kernel
theorem dMd_collect_122 : decode cMd_collect 122 = .ok (.iconst 0, 1) := by decide +kernel
theorem dMd_collect_123 : decode cMd_collect 123 = .ok (.istore_n 2, 1) := by decide +kernel
theorem dMd_collect_124 : decode cMd_collect 124 = .ok (.iload_n 2, 1) := by decide +kernel
theorem dMd_collect_125 : decode cMd_collect 125 = .ok (.bipush 16, 2) := by decide +kernel
theorem dMd_collect_127 : decode cMd_collect 127 = .ok (.if_icmp .ge 19, 3) := by decide +kernel
theorem dMd_collect_130 : decode cMd_collect 130 = .ok (.aload_n 0, 1) := by decide +kernel
theorem dMd_collect_131 : decode cMd_collect 131 = .ok (.aload_n 0, 1) := by decide +kernel
theorem dMd_collect_132 : decode cMd_collect 132 = .ok (.getfield 63, 3) := by decide +kernel
theorem dMd_collect_135 : decode cMd_collect 135 = .ok (.iload_n 2, 1) := by decide +kernel
theorem dMd_collect_136 : decode cMd_collect 136 = .ok (.iaload, 1) := by decide +kernel
theorem dMd_collect_137 : decode cMd_collect 137 = .ok (.invokevirtual 116, 3) := by decide +kernel
theorem dMd_collect_140 : decode cMd_collect 140 = .ok (.iinc 2 1, 3) := by decide +kernel
theorem dMd_collect_143 : decode cMd_collect 143 = .ok (.goto (-19), 3) := by decide +kernel
theorem dMd_collect_146 : decode cMd_collect 146 = .ok (.iconst 0, 1) := by decide +kernel
theorem dMd_collect_147 : decode cMd_collect 147 = .ok (.istore_n 2, 1) := by decide +kernel
theorem dMd_collect_148 : decode cMd_collect 148 = .ok (.iload_n 2, 1) := by decide +kernel
theorem dMd_collect_149 : decode cMd_collect 149 = .ok (.aload_n 0, 1) := by decide +kernel
theorem dMd_collect_150 : decode cMd_collect 150 = .ok (.getfield 76, 3) := by decide +kernel
theorem dMd_collect_153 : decode cMd_collect 153 = .ok (.if_icmp .ge 19, 3) := by decide +kernel
theorem dMd_collect_156 : decode cMd_collect 156 = .ok (.aload_n 0, 1) := by decide +kernel
theorem dMd_collect_157 : decode cMd_collect 157 = .ok (.aload_n 0, 1) := by decide +kernel
theorem dMd_collect_158 : decode cMd_collect 158 = .ok (.getfield 54, 3) := by decide +kernel
theorem dMd_collect_161 : decode cMd_collect 161 = .ok (.iload_n 2, 1) := by decide +kernel
theorem dMd_collect_162 : decode cMd_collect 162 = .ok (.iaload, 1) := by decide +kernel
theorem dMd_collect_163 : decode cMd_collect 163 = .ok (.invokevirtual 120, 3) := by decide +kernel
theorem dMd_collect_166 : decode cMd_collect 166 = .ok (.iinc 2 1, 3) := by decide +kernel
theorem dMd_collect_169 : decode cMd_collect 169 = .ok (.goto (-21), 3) := by decide +kernel
theorem dMd_collect_172 : decode cMd_collect 172 = .ok (.iconst 0, 1) := by decide +kernel
theorem dMd_collect_173 : decode cMd_collect 173 = .ok (.istore_n 2, 1) := by decide +kernel
theorem dMd_collect_174 : decode cMd_collect 174 = .ok (.iload_n 2, 1) := by decide +kernel
theorem dMd_collect_175 : decode cMd_collect 175 = .ok (.aload_n 0, 1) := by decide +kernel
theorem dMd_collect_176 : decode cMd_collect 176 = .ok (.getfield 113, 3) := by decide +kernel
theorem dMd_collect_179 : decode cMd_collect 179 = .ok (.if_icmp .ge 19, 3) := by decide +kernel
theorem dMd_collect_182 : decode cMd_collect 182 = .ok (.aload_n 0, 1) := by decide +kernel
theorem dMd_collect_183 : decode cMd_collect 183 = .ok (.aload_n 0, 1) := by decide +kernel
theorem dMd_collect_184 : decode cMd_collect 184 = .ok (.getfield 57, 3) := by decide +kernel
theorem dMd_collect_187 : decode cMd_collect 187 = .ok (.iload_n 2, 1) := by decide +kernel
theorem dMd_collect_188 : decode cMd_collect 188 = .ok (.iaload, 1) := by decide +kernel
theorem dMd_collect_189 : decode cMd_collect 189 = .ok (.invokevirtual 120, 3) := by decide +kernel
theorem dMd_collect_192 : decode cMd_collect 192 = .ok (.iinc 2 1, 3) := by decide +kernel
theorem dMd_collect_195 : decode cMd_collect 195 = .ok (.goto (-21), 3) := by decide +kernel
theorem dMd_collect_198 : decode cMd_collect 198 = .ok (.iconst 0, 1) := by decide +kernel
theorem dMd_collect_199 : decode cMd_collect 199 = .ok (.istore_n 2, 1) := by decide +kernel
theorem dMd_collect_200 : decode cMd_collect 200 = .ok (.iload_n 2, 1) := by decide +kernel
theorem dMd_collect_201 : decode cMd_collect 201 = .ok (.sipush 3600, 3) := by decide +kernel
theorem dMd_collect_204 : decode cMd_collect 204 = .ok (.if_icmp .ge 48, 3) := by decide +kernel
theorem dMd_collect_207 : decode cMd_collect 207 = .ok (.aload_n 0, 1) := by decide +kernel
theorem dMd_collect_208 : decode cMd_collect 208 = .ok (.getfield 26, 3) := by decide +kernel
theorem dMd_collect_211 : decode cMd_collect 211 = .ok (.iload_n 2, 1) := by decide +kernel
theorem dMd_collect_212 : decode cMd_collect 212 = .ok (.aload_n 0, 1) := by decide +kernel
theorem dMd_collect_213 : decode cMd_collect 213 = .ok (.getfield 26, 3) := by decide +kernel
theorem dMd_collect_216 : decode cMd_collect 216 = .ok (.iload_n 2, 1) := by decide +kernel
theorem dMd_collect_217 : decode cMd_collect 217 = .ok (.baload, 1) := by decide +kernel
theorem dMd_collect_218 : decode cMd_collect 218 = .ok (.ifCond .eq 26, 3) := by decide +kernel
theorem dMd_collect_221 : decode cMd_collect 221 = .ok (.aload_n 0, 1) := by decide +kernel
theorem dMd_collect_222 : decode cMd_collect 222 = .ok (.getfield 30, 3) := by decide +kernel
theorem dMd_collect_225 : decode cMd_collect 225 = .ok (.iload_n 2, 1) := by decide +kernel
theorem dMd_collect_226 : decode cMd_collect 226 = .ok (.iaload, 1) := by decide +kernel
theorem dMd_collect_227 : decode cMd_collect 227 = .ok (.iconst 3, 1) := by decide +kernel
theorem dMd_collect_228 : decode cMd_collect 228 = .ok (.if_icmp .eq 12, 3) := by decide +kernel
theorem dMd_collect_231 : decode cMd_collect 231 = .ok (.aload_n 0, 1) := by decide +kernel
theorem dMd_collect_232 : decode cMd_collect 232 = .ok (.getfield 60, 3) := by decide +kernel
theorem dMd_collect_235 : decode cMd_collect 235 = .ok (.iload_n 2, 1) := by decide +kernel
theorem dMd_collect_236 : decode cMd_collect 236 = .ok (.baload, 1) := by decide +kernel
theorem dMd_collect_237 : decode cMd_collect 237 = .ok (.ifCond .eq 7, 3) := by decide +kernel
theorem dMd_collect_240 : decode cMd_collect 240 = .ok (.iconst 1, 1) := by decide +kernel
theorem dMd_collect_241 : decode cMd_collect 241 = .ok (.goto 4, 3) := by decide +kernel
theorem dMd_collect_244 : decode cMd_collect 244 = .ok (.iconst 0, 1) := by decide +kernel
theorem dMd_collect_245 : decode cMd_collect 245 = .ok (.bastore, 1) := by decide +kernel
theorem dMd_collect_246 : decode cMd_collect 246 = .ok (.iinc 2 1, 3) := by decide +kernel
theorem dMd_collect_249 : decode cMd_collect 249 = .ok (.goto (-49), 3) := by decide +kernel
theorem dMd_collect_252 : decode cMd_collect 252 = .ok (.iconst 0, 1) := by decide +kernel
theorem dMd_collect_253 : decode cMd_collect 253 = .ok (.istore_n 2, 1) := by decide +kernel
theorem dMd_collect_254 : decode cMd_collect 254 = .ok (.iload_n 2, 1) := by decide +kernel
theorem dMd_collect_255 : decode cMd_collect 255 = .ok (.aload_n 0, 1) := by decide +kernel
theorem dMd_collect_256 : decode cMd_collect 256 = .ok (.getfield 113, 3) := by decide +kernel
theorem dMd_collect_259 : decode cMd_collect 259 = .ok (.if_icmp .ge 49, 3) := by decide +kernel
theorem dMd_collect_262 : decode cMd_collect 262 = .ok (.aload_n 0, 1) := by decide +kernel
theorem dMd_collect_263 : decode cMd_collect 263 = .ok (.getfield 30, 3) := by decide +kernel
theorem dMd_collect_266 : decode cMd_collect 266 = .ok (.aload_n 0, 1) := by decide +kernel
theorem dMd_collect_267 : decode cMd_collect 267 = .ok (.getfield 57, 3) := by decide +kernel
theorem dMd_collect_270 : decode cMd_collect 270 = .ok (.iload_n 2, 1) := by decide +kernel
theorem dMd_collect_271 : decode cMd_collect 271 = .ok (.iaload, 1) := by decide +kernel
theorem dMd_collect_272 : decode cMd_collect 272 = .ok (.iaload, 1) := by decide +kernel
theorem dMd_collect_273 : decode cMd_collect 273 = .ok (.iconst 3, 1) := by decide +kernel
theorem dMd_collect_274 : decode cMd_collect 274 = .ok (.if_icmp .ne 28, 3) := by decide +kernel
theorem dMd_collect_277 : decode cMd_collect 277 = .ok (.aload_n 0, 1) := by decide +kernel
theorem dMd_collect_278 : decode cMd_collect 278 = .ok (.getfield 54, 3) := by decide +kernel
theorem dMd_collect_281 : decode cMd_collect 281 = .ok (.aload_n 0, 1) := by decide +kernel
theorem dMd_collect_282 : decode cMd_collect 282 = .ok (.getfield 76, 3) := by decide +kernel
theorem dMd_collect_285 : decode cMd_collect 285 = .ok (.aload_n 0, 1) := by decide +kernel
theorem dMd_collect_286 : decode cMd_collect 286 = .ok (.getfield 57, 3) := by decide +kernel
theorem dMd_collect_289 : decode cMd_collect 289 = .ok (.iload_n 2, 1) := by decide +kernel
theorem dMd_collect_290 : decode cMd_collect 290 = .ok (.iaload, 1) := by decide +kernel
theorem dMd_collect_291 : decode cMd_collect 291 = .ok (.iastore, 1) := by decide +kernel
theorem dMd_collect_292 : decode cMd_collect 292 = .ok (.aload_n 0, 1) := by decide +kernel
theorem dMd_collect_293 : decode cMd_collect 293 = .ok (.dup, 1) := by decide +kernel
theorem dMd_collect_294 : decode cMd_collect 294 = .ok (.getfield 76, 3) := by decide +kernel
theorem dMd_collect_297 : decode cMd_collect 297 = .ok (.iconst 1, 1) := by decide +kernel
theorem dMd_collect_298 : decode cMd_collect 298 = .ok (.iadd, 1) := by decide +kernel
theorem dMd_collect_299 : decode cMd_collect 299 = .ok (.putfield 76, 3) := by decide +kernel
theorem dMd_collect_302 : decode cMd_collect 302 = .ok (.iinc 2 1, 3) := by decide +kernel
theorem dMd_collect_305 : decode cMd_collect 305 = .ok (.goto (-51), 3) := by decide +kernel
theorem dMd_collect_308 : decode cMd_collect 308 = .ok (.aload_n 0, 1) := by decide +kernel
theorem dMd_collect_309 : decode cMd_collect 309 = .ok (.getfield 16, 3) := by decide +kernel
theorem dMd_collect_312 : decode cMd_collect 312 = .ok (.iconst 0, 1) := by decide +kernel
theorem dMd_collect_313 : decode cMd_collect 313 = .ok (.aload_n 0, 1) := by decide +kernel
theorem dMd_collect_314 : decode cMd_collect 314 = .ok (.getfield 7, 3) := by decide +kernel
theorem dMd_collect_317 : decode cMd_collect 317 = .ok (.iconst 0, 1) := by decide +kernel
theorem dMd_collect_318 : decode cMd_collect 318 = .ok (.iaload, 1) := by decide +kernel
theorem dMd_collect_319 : decode cMd_collect 319 = .ok (.iastore, 1) := by decide +kernel
theorem dMd_collect_320 : decode cMd_collect 320 = .ok (.aload_n 0, 1) := by decide +kernel
theorem dMd_collect_321 : decode cMd_collect 321 = .ok (.getfield 16, 3) := by decide +kernel
theorem dMd_collect_324 : decode cMd_collect 324 = .ok (.aload_n 0, 1) := by decide +kernel
theorem dMd_collect_325 : decode cMd_collect 325 = .ok (.getfield 19, 3) := by decide +kernel
theorem dMd_collect_328 : decode cMd_collect 328 = .ok (.aload_n 0, 1) := by decide +kernel
theorem dMd_collect_329 : decode cMd_collect 329 = .ok (.getfield 7, 3) := by decide +kernel
theorem dMd_collect_332 : decode cMd_collect 332 = .ok (.aload_n 0, 1) := by decide +kernel
theorem dMd_collect_333 : decode cMd_collect 333 = .ok (.getfield 19, 3) := by decide +kernel
theorem dMd_collect_336 : decode cMd_collect 336 = .ok (.iaload, 1) := by decide +kernel
theorem dMd_collect_337 : decode cMd_collect 337 = .ok (.iastore, 1) := by decide +kernel
theorem dMd_collect_338 : decode cMd_collect 338 = .ok (.aload_n 0, 1) := by decide +kernel
theorem dMd_collect_339 : decode cMd_collect 339 = .ok (.iconst 3, 1) := by decide +kernel
theorem dMd_collect_340 : decode cMd_collect 340 = .ok (.aload_n 0, 1) := by decide +kernel
theorem dMd_collect_341 : decode cMd_collect 341 = .ok (.getfield 19, 3) := by decide +kernel
theorem dMd_collect_344 : decode cMd_collect 344 = .ok (.isub, 1) := by decide +kernel
theorem dMd_collect_345 : decode cMd_collect 345 = .ok (.putfield 19, 3) := by decide +kernel
theorem dMd_collect_348 : decode cMd_collect 348 = .ok (.aload_n 0, 1) := by decide +kernel
theorem dMd_collect_349 : decode cMd_collect 349 = .ok (.dup, 1) := by decide +kernel
theorem dMd_collect_350 : decode cMd_collect 350 = .ok (.getfield 79, 3) := by decide +kernel
theorem dMd_collect_353 : decode cMd_collect 353 = .ok (.iconst 1, 1) := by decide +kernel
theorem dMd_collect_354 : decode cMd_collect 354 = .ok (.iadd, 1) := by decide +kernel
theorem dMd_collect_355 : decode cMd_collect 355 = .ok (.putfield 79, 3) := by decide +kernel
theorem dMd_collect_358 : decode cMd_collect 358 = .ok (.aload_n 0, 1) := by decide +kernel
theorem dMd_collect_359 : decode cMd_collect 359 = .ok (.invokevirtual 123, 3) := by decide +kernel
theorem dMd_collect_362 : decode cMd_collect 362 = .ok (.aload_n 0, 1) := by decide +kernel
theorem dMd_collect_363 : decode cMd_collect 363 = .ok (.getfield 113, 3) := by decide +kernel
theorem dMd_collect_366 : decode cMd_collect 366 = .ok (.ireturn, 1) := by decide +kernel
theorem dMd_find_0 : decode cMd_find 0 = .ok (.iload_n 1, 1) := by decide +kernel
theorem dMd_find_1 : decode cMd_find 1 = .ok (.iconst 1, 1) := by decide +kernel
theorem dMd_find_2 : decode cMd_find 2 = .ok (.isub, 1) := by decide +kernel
theorem dMd_find_3 : decode cMd_find 3 = .ok (.istore_n 2, 1) := by decide +kernel
theorem dMd_find_4 : decode cMd_find 4 = .ok (.iload_n 2, 1) := by decide +kernel
theorem dMd_find_5 : decode cMd_find 5 = .ok (.ifCond .lt 22, 3) := by decide +kernel
theorem dMd_find_8 : decode cMd_find 8 = .ok (.aload_n 0, 1) := by decide +kernel
theorem dMd_find_9 : decode cMd_find 9 = .ok (.getfield 30, 3) := by decide +kernel
theorem dMd_find_12 : decode cMd_find 12 = .ok (.iload_n 2, 1) := by decide +kernel
theorem dMd_find_13 : decode cMd_find 13 = .ok (.iaload, 1) := by decide +kernel
theorem dMd_find_14 : decode cMd_find 14 = .ok (.iconst 3, 1) := by decide +kernel
theorem dMd_find_15 : decode cMd_find 15 = .ok (.if_icmp .eq 12, 3) := by decide +kernel
theorem dMd_find_18 : decode cMd_find 18 = .ok (.aload_n 0, 1) := by decide +kernel
theorem dMd_find_19 : decode cMd_find 19 = .ok (.getfield 60, 3) := by decide +kernel
theorem dMd_find_22 : decode cMd_find 22 = .ok (.iload_n 2, 1) := by decide +kernel
theorem dMd_find_23 : decode cMd_find 23 = .ok (.baload, 1) := by decide +kernel
theorem dMd_find_24 : decode cMd_find 24 = .ok (.ifCond .eq 4, 3) := by decide +kernel
theorem dMd_find_27 : decode cMd_find 27 = .ok (.return_, 1) := by decide +kernel
theorem dMd_find_28 : decode cMd_find 28 = .ok (.iconst 3, 1) := by decide +kernel
theorem dMd_find_29 : decode cMd_find 29 = .ok (.aload_n 0, 1) := by decide +kernel
theorem dMd_find_30 : decode cMd_find 30 = .ok (.getfield 19, 3) := by decide +kernel
theorem dMd_find_33 : decode cMd_find 33 = .ok (.isub, 1) := by decide +kernel
theorem dMd_find_34 : decode cMd_find 34 = .ok (.istore_n 3, 1) := by decide +kernel
theorem dMd_find_35 : decode cMd_find 35 = .ok (.aload_n 0, 1) := by decide +kernel
theorem dMd_find_36 : decode cMd_find 36 = .ok (.getfield 36, 3) := by decide +kernel
theorem dMd_find_39 : decode cMd_find 39 = .ok (.iload_n 2, 1) := by decide +kernel
theorem dMd_find_40 : decode cMd_find 40 = .ok (.iaload, 1) := by decide +kernel
theorem dMd_find_41 : decode cMd_find 41 = .ok (.aload_n 0, 1) := by decide +kernel
theorem dMd_find_42 : decode cMd_find 42 = .ok (.getfield 23, 3) := by decide +kernel
theorem dMd_find_45 : decode cMd_find 45 = .ok (.if_icmp .ge 35, 3) := by decide +kernel
theorem dMd_find_48 : decode cMd_find 48 = .ok (.aload_n 0, 1) := by decide +kernel
theorem dMd_find_49 : decode cMd_find 49 = .ok (.getfield 16, 3) := by decide +kernel
theorem dMd_find_52 : decode cMd_find 52 = .ok (.iload_n 3, 1) := by decide +kernel
theorem dMd_find_53 : decode cMd_find 53 = .ok (.iaload, 1) := by decide +kernel
theorem dMd_find_54 : decode cMd_find 54 = .ok (.aload_n 0, 1) := by decide +kernel
theorem dMd_find_55 : decode cMd_find 55 = .ok (.iload_n 2, 1) := by decide +kernel
theorem dMd_find_56 : decode cMd_find 56 = .ok (.invokevirtual 110, 3) := by decide +kernel
theorem dMd_find_59 : decode cMd_find 59 = .ok (.iadd, 1) := by decide +kernel
theorem dMd_find_60 : decode cMd_find 60 = .ok (.aload_n 0, 1) := by decide +kernel
theorem dMd_find_61 : decode cMd_find 61 = .ok (.getfield 7, 3) := by decide +kernel
theorem dMd_find_64 : decode cMd_find 64 = .ok (.iload_n 3, 1) := by decide +kernel
theorem dMd_find_65 : decode cMd_find 65 = .ok (.iaload, 1) := by decide +kernel
theorem dMd_find_66 : decode cMd_find 66 = .ok (.aload_n 0, 1) := by decide +kernel
theorem dMd_find_67 : decode cMd_find 67 = .ok (.getfield 13, 3) := by decide +kernel
theorem dMd_find_70 : decode cMd_find 70 = .ok (.iload_n 3, 1) := by decide +kernel
theorem dMd_find_71 : decode cMd_find 71 = .ok (.iaload, 1) := by decide +kernel
theorem dMd_find_72 : decode cMd_find 72 = .ok (.iadd, 1) := by decide +kernel
theorem dMd_find_73 : decode cMd_find 73 = .ok (.if_icmp .gt 7, 3) := by decide +kernel
theorem dMd_find_76 : decode cMd_find 76 = .ok (.iconst 1, 1) := by decide +kernel
theorem dMd_find_77 : decode cMd_find 77 = .ok (.goto 4, 3) := by decide +kernel
theorem dMd_find_80 : decode cMd_find 80 = .ok (.iconst 0, 1) := by decide +kernel
theorem dMd_find_81 : decode cMd_find 81 = .ok (.istore 4, 2) := by decide +kernel
theorem dMd_find_83 : decode cMd_find 83 = .ok (.iload 4, 2) := by decide +kernel
theorem dMd_find_85 : decode cMd_find 85 = .ok (.ifCond .eq 7, 3) := by decide +kernel
theorem dMd_find_88 : decode cMd_find 88 = .ok (.iload_n 3, 1) := by decide +kernel
theorem dMd_find_89 : decode cMd_find 89 = .ok (.goto 4, 3) := by decide +kernel
theorem dMd_find_92 : decode cMd_find 92 = .ok (.iconst 3, 1) := by decide +kernel
theorem dMd_find_93 : decode cMd_find 93 = .ok (.istore 5, 2) := by decide +kernel
theorem dMd_find_95 : decode cMd_find 95 = .ok (.aload_n 0, 1) := by decide +kernel
theorem dMd_find_96 : decode cMd_find 96 = .ok (.getfield 30, 3) := by decide +kernel
theorem dMd_find_99 : decode cMd_find 99 = .ok (.iload_n 2, 1) := by decide +kernel
theorem dMd_find_100 : decode cMd_find 100 = .ok (.iload 5, 2) := by decide +kernel
theorem dMd_find_102 : decode cMd_find 102 = .ok (.iastore, 1) := by decide +kernel
theorem dMd_find_103 : decode cMd_find 103 = .ok (.aload_n 0, 1) := by decide +kernel
theorem dMd_find_104 : decode cMd_find 104 = .ok (.getfield 33, 3) := by decide +kernel
theorem dMd_find_107 : decode cMd_find 107 = .ok (.iload_n 2, 1) := by decide +kernel
theorem dMd_find_108 : decode cMd_find 108 = .ok (.aload_n 0, 1) := by decide +kernel
theorem dMd_find_109 : decode cMd_find 109 = .ok (.getfield 16, 3) := by decide +kernel
theorem dMd_find_112 : decode cMd_find 112 = .ok (.iload 5, 2) := by decide +kernel
theorem dMd_find_114 : decode cMd_find 114 = .ok (.iaload, 1) := by decide +kernel
theorem dMd_find_115 : decode cMd_find 115 = .ok (.iastore, 1) := by decide +kernel
theorem dMd_find_116 : decode cMd_find 116 = .ok (.aload_n 0, 1) := by decide +kernel
theorem dMd_find_117 : decode cMd_find 117 = .ok (.getfield 16, 3) := by decide +kernel
theorem dMd_find_120 : decode cMd_find 120 = .ok (.iload 5, 2) := by decide +kernel
theorem dMd_find_122 : decode cMd_find 122 = .ok (.aload_n 0, 1) := by decide +kernel
theorem dMd_find_123 : decode cMd_find 123 = .ok (.getfield 16, 3) := by decide +kernel
theorem dMd_find_126 : decode cMd_find 126 = .ok (.iload 5, 2) := by decide +kernel
theorem dMd_find_128 : decode cMd_find 128 = .ok (.iaload, 1) := by decide +kernel
theorem dMd_find_129 : decode cMd_find 129 = .ok (.aload_n 0, 1) := by decide +kernel
theorem dMd_find_130 : decode cMd_find 130 = .ok (.iload_n 2, 1) := by decide +kernel
theorem dMd_find_131 : decode cMd_find 131 = .ok (.invokevirtual 110, 3) := by decide +kernel
theorem dMd_find_134 : decode cMd_find 134 = .ok (.iadd, 1) := by decide +kernel
theorem dMd_find_135 : decode cMd_find 135 = .ok (.iastore, 1) := by decide +kernel
theorem dMd_find_136 : decode cMd_find 136 = .ok (.aload_n 0, 1) := by decide +kernel
theorem dMd_find_137 : decode cMd_find 137 = .ok (.getfield 36, 3) := by decide +kernel
theorem dMd_find_140 : decode cMd_find 140 = .ok (.iload_n 2, 1) := by decide +kernel
theorem dMd_find_141 : decode cMd_find 141 = .ok (.iload 4, 2) := by decide +kernel
theorem dMd_find_143 : decode cMd_find 143 = .ok (.ifCond .eq 14, 3) := by decide +kernel
theorem dMd_find_146 : decode cMd_find 146 = .ok (.aload_n 0, 1) := by decide +kernel
theorem dMd_find_147 : decode cMd_find 147 = .ok (.getfield 36, 3) := by decide +kernel
theorem dMd_find_150 : decode cMd_find 150 = .ok (.iload_n 2, 1) := by decide +kernel
theorem dMd_find_151 : decode cMd_find 151 = .ok (.iaload, 1) := by decide +kernel
theorem dMd_find_152 : decode cMd_find 152 = .ok (.iconst 1, 1) := by decide +kernel
theorem dMd_find_153 : decode cMd_find 153 = .ok (.iadd, 1) := by decide +kernel
theorem dMd_find_154 : decode cMd_find 154 = .ok (.goto 9, 3) := by decide +kernel
theorem dMd_find_157 : decode cMd_find 157 = .ok (.aload_n 0, 1) := by decide +kernel
theorem dMd_find_158 : decode cMd_find 158 = .ok (.getfield 36, 3) := by decide +kernel
theorem dMd_find_161 : decode cMd_find 161 = .ok (.iload_n 2, 1) := by decide +kernel
theorem dMd_find_162 : decode cMd_find 162 = .ok (.iaload, 1) := by decide +kernel
theorem dMd_find_163 : decode cMd_find 163 = .ok (.iastore, 1) := by decide +kernel
theorem dMd_find_164 : decode cMd_find 164 = .ok (.aload_n 0, 1) := by decide +kernel
theorem dMd_find_165 : decode cMd_find 165 = .ok (.iload 4, 2) := by decide +kernel
theorem dMd_find_167 : decode cMd_find 167 = .ok (.ifCond .eq 12, 3) := by decide +kernel
theorem dMd_find_170 : decode cMd_find 170 = .ok (.aload_n 0, 1) := by decide +kernel
theorem dMd_find_171 : decode cMd_find 171 = .ok (.getfield 82, 3) := by decide +kernel
theorem dMd_find_174 : decode cMd_find 174 = .ok (.iconst 1, 1) := by decide +kernel
theorem dMd_find_175 : decode cMd_find 175 = .ok (.iadd, 1) := by decide +kernel
theorem dMd_find_176 : decode cMd_find 176 = .ok (.goto 7, 3) := by decide +kernel
theorem dMd_find_179 : decode cMd_find 179 = .ok (.aload_n 0, 1) := by decide +kernel
theorem dMd_find_180 : decode cMd_find 180 = .ok (.getfield 82, 3) := by decide +kernel
theorem dMd_find_183 : decode cMd_find 183 = .ok (.putfield 82, 3) := by decide +kernel
theorem dMd_find_186 : decode cMd_find 186 = .ok (.aload_n 0, 1) := by decide +kernel
theorem dMd_find_187 : decode cMd_find 187 = .ok (.iload 4, 2) := by decide +kernel
theorem dMd_find_189 : decode cMd_find 189 = .ok (.ifCond .eq 10, 3) := by decide +kernel
theorem dMd_find_192 : decode cMd_find 192 = .ok (.aload_n 0, 1) := by decide +kernel
theorem dMd_find_193 : decode cMd_find 193 = .ok (.getfield 85, 3) := by decide +kernel
theorem dMd_find_196 : decode cMd_find 196 = .ok (.goto 9, 3) := by decide +kernel
theorem dMd_find_199 : decode cMd_find 199 = .ok (.aload_n 0, 1) := by decide +kernel
theorem dMd_find_200 : decode cMd_find 200 = .ok (.getfield 85, 3) := by decide +kernel
theorem dMd_find_203 : decode cMd_find 203 = .ok (.iconst 1, 1) := by decide +kernel
theorem dMd_find_204 : decode cMd_find 204 = .ok (.iadd, 1) := by decide +kernel
theorem dMd_find_205 : decode cMd_find 205 = .ok (.putfield 85, 3) := by decide +kernel
theorem dMd_find_208 : decode cMd_find 208 = .ok (.aload_n 0, 1) := by decide +kernel
theorem dMd_find_209 : decode cMd_find 209 = .ok (.getfield 60, 3) := by decide +kernel
theorem dMd_find_212 : decode cMd_find 212 = .ok (.iload_n 2, 1) := by decide +kernel
theorem dMd_find_213 : decode cMd_find 213 = .ok (.iconst 1, 1) := by decide +kernel
theorem dMd_find_214 : decode cMd_find 214 = .ok (.bastore, 1) := by decide +kernel
theorem dMd_find_215 : decode cMd_find 215 = .ok (.aload_n 0, 1) := by decide +kernel
theorem dMd_find_216 : decode cMd_find 216 = .ok (.getfield 57, 3) := by decide +kernel
theorem dMd_find_219 : decode cMd_find 219 = .ok (.aload_n 0, 1) := by decide +kernel
theorem dMd_find_220 : decode cMd_find 220 = .ok (.getfield 113, 3) := by decide +kernel
theorem dMd_find_223 : decode cMd_find 223 = .ok (.iload_n 2, 1) := by decide +kernel
theorem dMd_find_224 : decode cMd_find 224 = .ok (.iastore, 1) := by decide +kernel
theorem dMd_find_225 : decode cMd_find 225 = .ok (.aload_n 0, 1) := by decide +kernel
theorem dMd_find_226 : decode cMd_find 226 = .ok (.dup, 1) := by decide +kernel
theorem dMd_find_227 : decode cMd_find 227 = .ok (.getfield 113, 3) := by decide +kernel
theorem dMd_find_230 : decode cMd_find 230 = .ok (.iconst 1, 1) := by decide +kernel
theorem dMd_find_231 : decode cMd_find 231 = .ok (.iadd, 1) := by decide +kernel
theorem dMd_find_232 : decode cMd_find 232 = .ok (.putfield 113, 3) := by decide +kernel
theorem dMd_find_235 : decode cMd_find 235 = .ok (.return_, 1) := by decide +kernel
theorem dMd_size_0 : decode cMd_size 0 = .ok (.iconst 3, 1) := by decide +kernel
theorem dMd_size_1 : decode cMd_size 1 = .ok (.aload_n 0, 1) := by decide +kernel
theorem dMd_size_2 : decode cMd_size 2 = .ok (.getfield 39, 3) := by decide +kernel
theorem dMd_size_5 : decode cMd_size 5 = .ok (.iload_n 1, 1) := by decide +kernel
theorem dMd_size_6 : decode cMd_size 6 = .ok (.iaload, 1) := by decide +kernel
theorem dMd_size_7 : decode cMd_size 7 = .ok (.iadd, 1) := by decide +kernel
theorem dMd_size_8 : decode cMd_size 8 = .ok (.aload_n 0, 1) := by decide +kernel
theorem dMd_size_9 : decode cMd_size 9 = .ok (.getfield 42, 3) := by decide +kernel
theorem dMd_size_12 : decode cMd_size 12 = .ok (.iload_n 1, 1) := by decide +kernel
theorem dMd_size_13 : decode cMd_size 13 = .ok (.iaload, 1) := by decide +kernel
theorem dMd_size_14 : decode cMd_size 14 = .ok (.iadd, 1) := by decide +kernel
theorem dMd_size_15 : decode cMd_size 15 = .ok (.ireturn, 1) := by decide +kernel
theorem dMd_findFields_0 : decode cMd_findFields 0 = .ok (.iconst 0, 1) := by decide +kernel
theorem dMd_findFields_1 : decode cMd_findFields 1 = .ok (.istore_n 2, 1) := by decide +kernel
theorem dMd_findFields_2 : decode cMd_findFields 2 = .ok (.iload_n 2, 1) := by decide +kernel
theorem dMd_findFields_3 : decode cMd_findFields 3 = .ok (.aload_n 0, 1) := by decide +kernel
theorem dMd_findFields_4 : decode cMd_findFields 4 = .ok (.getfield 39, 3) := by decide +kernel
theorem dMd_findFields_7 : decode cMd_findFields 7 = .ok (.iload_n 1, 1) := by decide +kernel
theorem dMd_findFields_8 : decode cMd_findFields 8 = .ok (.iaload, 1) := by decide +kernel
theorem dMd_findFields_9 : decode cMd_findFields 9 = .ok (.if_icmp .ge 26, 3) := by decide +kernel
theorem dMd_findFields_12 : decode cMd_findFields 12 = .ok (.aload_n 0, 1) := by decide +kernel
theorem dMd_findFields_13 : decode cMd_findFields 13 = .ok (.aload_n 0, 1) := by decide +kernel
theorem dMd_findFields_14 : decode cMd_findFields 14 = .ok (.getfield 48, 3) := by decide +kernel
theorem dMd_findFields_17 : decode cMd_findFields 17 = .ok (.aload_n 0, 1) := by decide +kernel
theorem dMd_findFields_18 : decode cMd_findFields 18 = .ok (.getfield 45, 3) := by decide +kernel
theorem dMd_findFields_21 : decode cMd_findFields 21 = .ok (.iload_n 1, 1) := by decide +kernel
theorem dMd_findFields_22 : decode cMd_findFields 22 = .ok (.iaload, 1) := by decide +kernel
theorem dMd_findFields_23 : decode cMd_findFields 23 = .ok (.iload_n 2, 1) := by decide +kernel
theorem dMd_findFields_24 : decode cMd_findFields 24 = .ok (.iadd, 1) := by decide +kernel
theorem dMd_findFields_25 : decode cMd_findFields 25 = .ok (.iaload, 1) := by decide +kernel
theorem dMd_findFields_26 : decode cMd_findFields 26 = .ok (.invokevirtual 116, 3) := by decide +kernel
theorem dMd_findFields_29 : decode cMd_findFields 29 = .ok (.iinc 2 1, 3) := by decide +kernel
theorem dMd_findFields_32 : decode cMd_findFields 32 = .ok (.goto (-30), 3) := by decide +kernel
theorem dMd_findFields_35 : decode cMd_findFields 35 = .ok (.return_, 1) := by decide +kernel
theorem dMd_tidy_0 : decode cMd_tidy 0 = .ok (.iconst 0, 1) := by decide +kernel
theorem dMd_tidy_1 : decode cMd_tidy 1 = .ok (.istore_n 1, 1) := by decide +kernel
theorem dMd_tidy_2 : decode cMd_tidy 2 = .ok (.iconst 0, 1) := by decide +kernel
theorem dMd_tidy_3 : decode cMd_tidy 3 = .ok (.istore_n 2, 1) := by decide +kernel
theorem dMd_tidy_4 : decode cMd_tidy 4 = .ok (.iload_n 2, 1) := by decide +kernel
theorem dMd_tidy_5 : decode cMd_tidy 5 = .ok (.sipush 3600, 3) := by decide +kernel
theorem dMd_tidy_8 : decode cMd_tidy 8 = .ok (.if_icmp .ge 77, 3) := by decide +kernel
theorem dMd_tidy_11 : decode cMd_tidy 11 = .ok (.aload_n 0, 1) := by decide +kernel
theorem dMd_tidy_12 : decode cMd_tidy 12 = .ok (.getfield 26, 3) := by decide +kernel
theorem dMd_tidy_15 : decode cMd_tidy 15 = .ok (.iload_n 2, 1) := by decide +kernel
theorem dMd_tidy_16 : decode cMd_tidy 16 = .ok (.baload, 1) := by decide +kernel
theorem dMd_tidy_17 : decode cMd_tidy 17 = .ok (.ifCond .eq 62, 3) := by decide +kernel
theorem dMd_tidy_20 : decode cMd_tidy 20 = .ok (.aload_n 0, 1) := by decide +kernel
theorem dMd_tidy_21 : decode cMd_tidy 21 = .ok (.getfield 45, 3) := by decide +kernel
theorem dMd_tidy_24 : decode cMd_tidy 24 = .ok (.iload_n 2, 1) := by decide +kernel
theorem dMd_tidy_25 : decode cMd_tidy 25 = .ok (.iaload, 1) := by decide +kernel
theorem dMd_tidy_26 : decode cMd_tidy 26 = .ok (.istore_n 3, 1) := by decide +kernel
theorem dMd_tidy_27 : decode cMd_tidy 27 = .ok (.aload_n 0, 1) := by decide +kernel
theorem dMd_tidy_28 : decode cMd_tidy 28 = .ok (.getfield 45, 3) := by decide +kernel
theorem dMd_tidy_31 : decode cMd_tidy 31 = .ok (.iload_n 2, 1) := by decide +kernel
theorem dMd_tidy_32 : decode cMd_tidy 32 = .ok (.iload_n 1, 1) := by decide +kernel
theorem dMd_tidy_33 : decode cMd_tidy 33 = .ok (.iastore, 1) := by decide +kernel
theorem dMd_tidy_34 : decode cMd_tidy 34 = .ok (.iconst 0, 1) := by decide +kernel
theorem dMd_tidy_35 : decode cMd_tidy 35 = .ok (.istore 4, 2) := by decide +kernel
theorem dMd_tidy_37 : decode cMd_tidy 37 = .ok (.iload 4, 2) := by decide +kernel
theorem dMd_tidy_39 : decode cMd_tidy 39 = .ok (.aload_n 0, 1) := by decide +kernel
theorem dMd_tidy_40 : decode cMd_tidy 40 = .ok (.getfield 39, 3) := by decide +kernel
theorem dMd_tidy_43 : decode cMd_tidy 43 = .ok (.iload_n 2, 1) := by decide +kernel
theorem dMd_tidy_44 : decode cMd_tidy 44 = .ok (.iaload, 1) := by decide +kernel
theorem dMd_tidy_45 : decode cMd_tidy 45 = .ok (.aload_n 0, 1) := by decide +kernel
theorem dMd_tidy_46 : decode cMd_tidy 46 = .ok (.getfield 42, 3) := by decide +kernel
theorem dMd_tidy_49 : decode cMd_tidy 49 = .ok (.iload_n 2, 1) := by decide +kernel
theorem dMd_tidy_50 : decode cMd_tidy 50 = .ok (.iaload, 1) := by decide +kernel
theorem dMd_tidy_51 : decode cMd_tidy 51 = .ok (.iadd, 1) := by decide +kernel
theorem dMd_tidy_52 : decode cMd_tidy 52 = .ok (.if_icmp .ge 27, 3) := by decide +kernel
theorem dMd_tidy_55 : decode cMd_tidy 55 = .ok (.aload_n 0, 1) := by decide +kernel
theorem dMd_tidy_56 : decode cMd_tidy 56 = .ok (.getfield 51, 3) := by decide +kernel
theorem dMd_tidy_59 : decode cMd_tidy 59 = .ok (.iload_n 1, 1) := by decide +kernel
theorem dMd_tidy_60 : decode cMd_tidy 60 = .ok (.aload_n 0, 1) := by decide +kernel
theorem dMd_tidy_61 : decode cMd_tidy 61 = .ok (.getfield 48, 3) := by decide +kernel
theorem dMd_tidy_64 : decode cMd_tidy 64 = .ok (.iload_n 3, 1) := by decide +kernel
theorem dMd_tidy_65 : decode cMd_tidy 65 = .ok (.iload 4, 2) := by decide +kernel
theorem dMd_tidy_67 : decode cMd_tidy 67 = .ok (.iadd, 1) := by decide +kernel
theorem dMd_tidy_68 : decode cMd_tidy 68 = .ok (.iaload, 1) := by decide +kernel
theorem dMd_tidy_69 : decode cMd_tidy 69 = .ok (.iastore, 1) := by decide +kernel
theorem dMd_tidy_70 : decode cMd_tidy 70 = .ok (.iinc 1 1, 3) := by decide +kernel
theorem dMd_tidy_73 : decode cMd_tidy 73 = .ok (.iinc 4 1, 3) := by decide +kernel
theorem dMd_tidy_76 : decode cMd_tidy 76 = .ok (.goto (-39), 3) := by decide +kernel
theorem dMd_tidy_79 : decode cMd_tidy 79 = .ok (.iinc 2 1, 3) := by decide +kernel
theorem dMd_tidy_82 : decode cMd_tidy 82 = .ok (.goto (-78), 3) := by decide +kernel
theorem dMd_tidy_85 : decode cMd_tidy 85 = .ok (.iconst 0, 1) := by decide +kernel
theorem dMd_tidy_86 : decode cMd_tidy 86 = .ok (.istore_n 2, 1) := by decide +kernel
theorem dMd_tidy_87 : decode cMd_tidy 87 = .ok (.iload_n 2, 1) := by decide +kernel
theorem dMd_tidy_88 : decode cMd_tidy 88 = .ok (.iload_n 1, 1) := by decide +kernel
theorem dMd_tidy_89 : decode cMd_tidy 89 = .ok (.if_icmp .ge 21, 3) := by decide +kernel
theorem dMd_tidy_92 : decode cMd_tidy 92 = .ok (.aload_n 0, 1) := by decide +kernel
theorem dMd_tidy_93 : decode cMd_tidy 93 = .ok (.getfield 48, 3) := by decide +kernel
theorem dMd_tidy_96 : decode cMd_tidy 96 = .ok (.iload_n 2, 1) := by decide +kernel
theorem dMd_tidy_97 : decode cMd_tidy 97 = .ok (.aload_n 0, 1) := by decide +kernel
theorem dMd_tidy_98 : decode cMd_tidy 98 = .ok (.getfield 51, 3) := by decide +kernel
theorem dMd_tidy_101 : decode cMd_tidy 101 = .ok (.iload_n 2, 1) := by decide +kernel
theorem dMd_tidy_102 : decode cMd_tidy 102 = .ok (.iaload, 1) := by decide +kernel
theorem dMd_tidy_103 : decode cMd_tidy 103 = .ok (.iastore, 1) := by decide +kernel
theorem dMd_tidy_104 : decode cMd_tidy 104 = .ok (.iinc 2 1, 3) := by decide +kernel
theorem dMd_tidy_107 : decode cMd_tidy 107 = .ok (.goto (-20), 3) := by decide +kernel
theorem dMd_tidy_110 : decode cMd_tidy 110 = .ok (.aload_n 0, 1) := by decide +kernel
theorem dMd_tidy_111 : decode cMd_tidy 111 = .ok (.iload_n 1, 1) := by decide +kernel
theorem dMd_tidy_112 : decode cMd_tidy 112 = .ok (.putfield 73, 3) := by decide +kernel
theorem dMd_tidy_115 : decode cMd_tidy 115 = .ok (.return_, 1) := by decide +kernel
theorem dMd_about_0 : decode cMd_about 0 = .ok (.aload_n 0, 1) := by decide +kernel
theorem dMd_about_1 : decode cMd_about 1 = .ok (.iload_n 1, 1) := by decide +kernel
theorem dMd_about_2 : decode cMd_about 2 = .ok (.invokevirtual 96, 3) := by decide +kernel
theorem dMd_about_5 : decode cMd_about 5 = .ok (.istore_n 3, 1) := by decide +kernel
theorem dMd_about_6 : decode cMd_about 6 = .ok (.aload_n 0, 1) := by decide +kernel
theorem dMd_about_7 : decode cMd_about 7 = .ok (.iload_n 3, 1) := by decide +kernel
theorem dMd_about_8 : decode cMd_about 8 = .ok (.ifCond .lt 7, 3) := by decide +kernel
theorem dMd_about_11 : decode cMd_about 11 = .ok (.iconst 1, 1) := by decide +kernel
theorem dMd_about_12 : decode cMd_about 12 = .ok (.goto 4, 3) := by decide +kernel
theorem dMd_about_15 : decode cMd_about 15 = .ok (.iconst 0, 1) := by decide +kernel
theorem dMd_about_16 : decode cMd_about 16 = .ok (.iload_n 2, 1) := by decide +kernel
theorem dMd_about_17 : decode cMd_about 17 = .ok (.ifCond .lt 12, 3) := by decide +kernel
theorem dMd_about_20 : decode cMd_about 20 = .ok (.iload_n 2, 1) := by decide +kernel
theorem dMd_about_21 : decode cMd_about 21 = .ok (.iconst 3, 1) := by decide +kernel
theorem dMd_about_22 : decode cMd_about 22 = .ok (.if_icmp .gt 7, 3) := by decide +kernel
theorem dMd_about_25 : decode cMd_about 25 = .ok (.iconst 1, 1) := by decide +kernel
theorem dMd_about_26 : decode cMd_about 26 = .ok (.goto 4, 3) := by decide +kernel
theorem dMd_about_29 : decode cMd_about 29 = .ok (.iconst 0, 1) := by decide +kernel
theorem dMd_about_30 : decode cMd_about 30 = .ok (.invokevirtual 88, 3) := by decide +kernel
theorem dMd_about_33 : decode cMd_about 33 = .ok (.ifCond .ne 5, 3) := by decide +kernel
theorem dMd_about_36 : decode cMd_about 36 = .ok (.iconst 0, 1) := by decide +kernel
theorem dMd_about_37 : decode cMd_about 37 = .ok (.ireturn, 1) := by decide +kernel
theorem dMd_about_38 : decode cMd_about 38 = .ok (.iload_n 2, 1) := by decide +kernel
theorem dMd_about_39 : decode cMd_about 39 = .ok (.ifCond .ne 12, 3) := by decide +kernel
theorem dMd_about_42 : decode cMd_about 42 = .ok (.aload_n 0, 1) := by decide +kernel
theorem dMd_about_43 : decode cMd_about 43 = .ok (.getfield 36, 3) := by decide +kernel
theorem dMd_about_46 : decode cMd_about 46 = .ok (.iload_n 3, 1) := by decide +kernel
theorem dMd_about_47 : decode cMd_about 47 = .ok (.iaload, 1) := by decide +kernel
theorem dMd_about_48 : decode cMd_about 48 = .ok (.goto 37, 3) := by decide +kernel
theorem dMd_about_51 : decode cMd_about 51 = .ok (.iload_n 2, 1) := by decide +kernel
theorem dMd_about_52 : decode cMd_about 52 = .ok (.iconst 1, 1) := by decide +kernel
theorem dMd_about_53 : decode cMd_about 53 = .ok (.if_icmp .ne 12, 3) := by decide +kernel
theorem dMd_about_56 : decode cMd_about 56 = .ok (.aload_n 0, 1) := by decide +kernel
theorem dMd_about_57 : decode cMd_about 57 = .ok (.getfield 39, 3) := by decide +kernel
theorem dMd_about_60 : decode cMd_about 60 = .ok (.iload_n 3, 1) := by decide +kernel
theorem dMd_about_61 : decode cMd_about 61 = .ok (.iaload, 1) := by decide +kernel
theorem dMd_about_62 : decode cMd_about 62 = .ok (.goto 23, 3) := by decide +kernel
theorem dMd_about_65 : decode cMd_about 65 = .ok (.iload_n 2, 1) := by decide +kernel
theorem dMd_about_66 : decode cMd_about 66 = .ok (.iconst 2, 1) := by decide +kernel
theorem dMd_about_67 : decode cMd_about 67 = .ok (.if_icmp .ne 12, 3) := by decide +kernel
theorem dMd_about_70 : decode cMd_about 70 = .ok (.aload_n 0, 1) := by decide +kernel
theorem dMd_about_71 : decode cMd_about 71 = .ok (.getfield 42, 3) := by decide +kernel
theorem dMd_about_74 : decode cMd_about 74 = .ok (.iload_n 3, 1) := by decide +kernel
theorem dMd_about_75 : decode cMd_about 75 = .ok (.iaload, 1) := by decide +kernel
theorem dMd_about_76 : decode cMd_about 76 = .ok (.goto 9, 3) := by decide +kernel
theorem dMd_about_79 : decode cMd_about 79 = .ok (.aload_n 0, 1) := by decide +kernel
theorem dMd_about_80 : decode cMd_about 80 = .ok (.getfield 30, 3) := by decide +kernel
theorem dMd_about_83 : decode cMd_about 83 = .ok (.iload_n 3, 1) := by decide +kernel
theorem dMd_about_84 : decode cMd_about 84 = .ok (.iaload, 1) := by decide +kernel
theorem dMd_about_85 : decode cMd_about 85 = .ok (.ireturn, 1) := by decide +kernel
theorem dMd_next_0 : decode cMd_next 0 = .ok (.aload_n 0, 1) := by decide +kernel
theorem dMd_next_1 : decode cMd_next 1 = .ok (.iload_n 1, 1) := by decide +kernel
theorem dMd_next_2 : decode cMd_next 2 = .ok (.ifCond .eq 11, 3) := by decide +kernel
theorem dMd_next_5 : decode cMd_next 5 = .ok (.aload_n 0, 1) := by decide +kernel
theorem dMd_next_6 : decode cMd_next 6 = .ok (.iload_n 1, 1) := by decide +kernel
theorem dMd_next_7 : decode cMd_next 7 = .ok (.invokevirtual 96, 3) := by decide +kernel
theorem dMd_next_10 : decode cMd_next 10 = .ok (.ifCond .lt 7, 3) := by decide +kernel
theorem dMd_next_13 : decode cMd_next 13 = .ok (.iconst 1, 1) := by decide +kernel
theorem dMd_next_14 : decode cMd_next 14 = .ok (.goto 4, 3) := by decide +kernel
theorem dMd_next_17 : decode cMd_next 17 = .ok (.iconst 0, 1) := by decide +kernel
theorem dMd_next_18 : decode cMd_next 18 = .ok (.iconst 1, 1) := by decide +kernel
theorem dMd_next_19 : decode cMd_next 19 = .ok (.invokevirtual 88, 3) := by decide +kernel
theorem dMd_next_22 : decode cMd_next 22 = .ok (.ifCond .ne 5, 3) := by decide +kernel
theorem dMd_next_25 : decode cMd_next 25 = .ok (.iconst 0, 1) := by decide +kernel
theorem dMd_next_26 : decode cMd_next 26 = .ok (.ireturn, 1) := by decide +kernel
theorem dMd_next_27 : decode cMd_next 27 = .ok (.iconst 0, 1) := by decide +kernel
theorem dMd_next_28 : decode cMd_next 28 = .ok (.istore_n 2, 1) := by decide +kernel
theorem dMd_next_29 : decode cMd_next 29 = .ok (.iconst 0, 1) := by decide +kernel
theorem dMd_next_30 : decode cMd_next 30 = .ok (.istore_n 3, 1) := by decide +kernel
theorem dMd_next_31 : decode cMd_next 31 = .ok (.iload_n 3, 1) := by decide +kernel
theorem dMd_next_32 : decode cMd_next 32 = .ok (.sipush 3600, 3) := by decide +kernel
theorem dMd_next_35 : decode cMd_next 35 = .ok (.if_icmp .ge 65, 3) := by decide +kernel
theorem dMd_next_38 : decode cMd_next 38 = .ok (.aload_n 0, 1) := by decide +kernel
theorem dMd_next_39 : decode cMd_next 39 = .ok (.getfield 26, 3) := by decide +kernel
theorem dMd_next_42 : decode cMd_next 42 = .ok (.iload_n 3, 1) := by decide +kernel
theorem dMd_next_43 : decode cMd_next 43 = .ok (.baload, 1) := by decide +kernel
theorem dMd_next_44 : decode cMd_next 44 = .ok (.ifCond .eq 17, 3) := by decide +kernel
theorem dMd_next_47 : decode cMd_next 47 = .ok (.aload_n 0, 1) := by decide +kernel
theorem dMd_next_48 : decode cMd_next 48 = .ok (.getfield 33, 3) := by decide +kernel
theorem dMd_next_51 : decode cMd_next 51 = .ok (.iload_n 3, 1) := by decide +kernel
theorem dMd_next_52 : decode cMd_next 52 = .ok (.iaload, 1) := by decide +kernel
theorem dMd_next_53 : decode cMd_next 53 = .ok (.iload_n 1, 1) := by decide +kernel
theorem dMd_next_54 : decode cMd_next 54 = .ok (.if_icmp .le 7, 3) := by decide +kernel
theorem dMd_next_57 : decode cMd_next 57 = .ok (.iconst 1, 1) := by decide +kernel
theorem dMd_next_58 : decode cMd_next 58 = .ok (.goto 4, 3) := by decide +kernel
theorem dMd_next_61 : decode cMd_next 61 = .ok (.iconst 0, 1) := by decide +kernel
theorem dMd_next_62 : decode cMd_next 62 = .ok (.istore 4, 2) := by decide +kernel
theorem dMd_next_64 : decode cMd_next 64 = .ok (.iload 4, 2) := by decide +kernel
theorem dMd_next_66 : decode cMd_next 66 = .ok (.ifCond .eq 26, 3) := by decide +kernel
theorem dMd_next_69 : decode cMd_next 69 = .ok (.iload_n 2, 1) := by decide +kernel
theorem dMd_next_70 : decode cMd_next 70 = .ok (.ifCond .eq 13, 3) := by decide +kernel
theorem dMd_next_73 : decode cMd_next 73 = .ok (.aload_n 0, 1) := by decide +kernel
theorem dMd_next_74 : decode cMd_next 74 = .ok (.getfield 33, 3) := by decide +kernel
theorem dMd_next_77 : decode cMd_next 77 = .ok (.iload_n 3, 1) := by decide +kernel
theorem dMd_next_78 : decode cMd_next 78 = .ok (.iaload, 1) := by decide +kernel
theorem dMd_next_79 : decode cMd_next 79 = .ok (.iload_n 2, 1) := by decide +kernel
theorem dMd_next_80 : decode cMd_next 80 = .ok (.if_icmp .ge 12, 3) := by decide +kernel
theorem dMd_next_83 : decode cMd_next 83 = .ok (.aload_n 0, 1) := by decide +kernel
theorem dMd_next_84 : decode cMd_next 84 = .ok (.getfield 33, 3) := by decide +kernel
theorem dMd_next_87 : decode cMd_next 87 = .ok (.iload_n 3, 1) := by decide +kernel
theorem dMd_next_88 : decode cMd_next 88 = .ok (.iaload, 1) := by decide +kernel
theorem dMd_next_89 : decode cMd_next 89 = .ok (.goto 4, 3) := by decide +kernel
theorem dMd_next_92 : decode cMd_next 92 = .ok (.iload_n 2, 1) := by decide +kernel
theorem dMd_next_93 : decode cMd_next 93 = .ok (.istore_n 2, 1) := by decide +kernel
theorem dMd_next_94 : decode cMd_next 94 = .ok (.iinc 3 1, 3) := by decide +kernel
theorem dMd_next_97 : decode cMd_next 97 = .ok (.goto (-66), 3) := by decide +kernel
theorem dMd_next_100 : decode cMd_next 100 = .ok (.iload_n 2, 1) := by decide +kernel
theorem dMd_next_101 : decode cMd_next 101 = .ok (.ireturn, 1) := by decide +kernel
theorem dMd_count_0 : decode cMd_count 0 = .ok (.aload_n 0, 1) := by decide +kernel
theorem dMd_count_1 : decode cMd_count 1 = .ok (.iload_n 1, 1) := by decide +kernel
theorem dMd_count_2 : decode cMd_count 2 = .ok (.ifCond .lt 13, 3) := by decide +kernel
theorem dMd_count_5 : decode cMd_count 5 = .ok (.iload_n 1, 1) := by decide +kernel
theorem dMd_count_6 : decode cMd_count 6 = .ok (.bipush 9, 2) := by decide +kernel
theorem dMd_count_8 : decode cMd_count 8 = .ok (.if_icmp .gt 7, 3) := by decide +kernel
theorem dMd_count_11 : decode cMd_count 11 = .ok (.iconst 1, 1) := by decide +kernel
theorem dMd_count_12 : decode cMd_count 12 = .ok (.goto 4, 3) := by decide +kernel
theorem dMd_count_15 : decode cMd_count 15 = .ok (.iconst 0, 1) := by decide +kernel
theorem dMd_count_16 : decode cMd_count 16 = .ok (.iconst 1, 1) := by decide +kernel
theorem dMd_count_17 : decode cMd_count 17 = .ok (.invokevirtual 88, 3) := by decide +kernel
theorem dMd_count_20 : decode cMd_count 20 = .ok (.ifCond .ne 5, 3) := by decide +kernel
theorem dMd_count_23 : decode cMd_count 23 = .ok (.iconst 0, 1) := by decide +kernel
theorem dMd_count_24 : decode cMd_count 24 = .ok (.ireturn, 1) := by decide +kernel
theorem dMd_count_25 : decode cMd_count 25 = .ok (.iload_n 1, 1) := by decide +kernel
theorem dMd_count_26 : decode cMd_count 26 = .ok (.tableswitch 134 0 8 #[50, 56, 65, 71, 85, 105, 119, 124, 129], 50) := by decide +kernel
theorem dMd_count_76 : decode cMd_count 76 = .ok (.aload_n 0, 1) := by decide +kernel
theorem dMd_count_77 : decode cMd_count 77 = .ok (.iconst 0, 1) := by decide +kernel
theorem dMd_count_78 : decode cMd_count 78 = .ok (.invokevirtual 126, 3) := by decide +kernel
theorem dMd_count_81 : decode cMd_count 81 = .ok (.ireturn, 1) := by decide +kernel
theorem dMd_count_82 : decode cMd_count 82 = .ok (.aload_n 0, 1) := by decide +kernel
theorem dMd_count_83 : decode cMd_count 83 = .ok (.aload_n 0, 1) := by decide +kernel
theorem dMd_count_84 : decode cMd_count 84 = .ok (.getfield 19, 3) := by decide +kernel
theorem dMd_count_87 : decode cMd_count 87 = .ok (.invokevirtual 126, 3) := by decide +kernel
theorem dMd_count_90 : decode cMd_count 90 = .ok (.ireturn, 1) := by decide +kernel
theorem dMd_count_91 : decode cMd_count 91 = .ok (.aload_n 0, 1) := by decide +kernel
theorem dMd_count_92 : decode cMd_count 92 = .ok (.iconst 3, 1) := by decide +kernel
theorem dMd_count_93 : decode cMd_count 93 = .ok (.invokevirtual 126, 3) := by decide +kernel
theorem dMd_count_96 : decode cMd_count 96 = .ok (.ireturn, 1) := by decide +kernel
theorem dMd_count_97 : decode cMd_count 97 = .ok (.aload_n 0, 1) := by decide +kernel
theorem dMd_count_98 : decode cMd_count 98 = .ok (.getfield 16, 3) := by decide +kernel
theorem dMd_count_101 : decode cMd_count 101 = .ok (.iconst 0, 1) := by decide +kernel
theorem dMd_count_102 : decode cMd_count 102 = .ok (.iaload, 1) := by decide +kernel
theorem dMd_count_103 : decode cMd_count 103 = .ok (.aload_n 0, 1) := by decide +kernel
theorem dMd_count_104 : decode cMd_count 104 = .ok (.getfield 7, 3) := by decide +kernel
theorem dMd_count_107 : decode cMd_count 107 = .ok (.iconst 0, 1) := by decide +kernel
theorem dMd_count_108 : decode cMd_count 108 = .ok (.iaload, 1) := by decide +kernel
theorem dMd_count_109 : decode cMd_count 109 = .ok (.isub, 1) := by decide +kernel
theorem dMd_count_110 : decode cMd_count 110 = .ok (.ireturn, 1) := by decide +kernel
theorem dMd_count_111 : decode cMd_count 111 = .ok (.aload_n 0, 1) := by decide +kernel
theorem dMd_count_112 : decode cMd_count 112 = .ok (.getfield 16, 3) := by decide +kernel
theorem dMd_count_115 : decode cMd_count 115 = .ok (.aload_n 0, 1) := by decide +kernel
theorem dMd_count_116 : decode cMd_count 116 = .ok (.getfield 19, 3) := by decide +kernel
theorem dMd_count_119 : decode cMd_count 119 = .ok (.iaload, 1) := by decide +kernel
theorem dMd_count_120 : decode cMd_count 120 = .ok (.aload_n 0, 1) := by decide +kernel
theorem dMd_count_121 : decode cMd_count 121 = .ok (.getfield 7, 3) := by decide +kernel
theorem dMd_count_124 : decode cMd_count 124 = .ok (.aload_n 0, 1) := by decide +kernel
theorem dMd_count_125 : decode cMd_count 125 = .ok (.getfield 19, 3) := by decide +kernel
theorem dMd_count_128 : decode cMd_count 128 = .ok (.iaload, 1) := by decide +kernel
theorem dMd_count_129 : decode cMd_count 129 = .ok (.isub, 1) := by decide +kernel
theorem dMd_count_130 : decode cMd_count 130 = .ok (.ireturn, 1) := by decide +kernel
theorem dMd_count_131 : decode cMd_count 131 = .ok (.aload_n 0, 1) := by decide +kernel
theorem dMd_count_132 : decode cMd_count 132 = .ok (.getfield 16, 3) := by decide +kernel
theorem dMd_count_135 : decode cMd_count 135 = .ok (.iconst 3, 1) := by decide +kernel
theorem dMd_count_136 : decode cMd_count 136 = .ok (.iaload, 1) := by decide +kernel
theorem dMd_count_137 : decode cMd_count 137 = .ok (.aload_n 0, 1) := by decide +kernel
theorem dMd_count_138 : decode cMd_count 138 = .ok (.getfield 7, 3) := by decide +kernel
theorem dMd_count_141 : decode cMd_count 141 = .ok (.iconst 3, 1) := by decide +kernel
theorem dMd_count_142 : decode cMd_count 142 = .ok (.iaload, 1) := by decide +kernel
theorem dMd_count_143 : decode cMd_count 143 = .ok (.isub, 1) := by decide +kernel
theorem dMd_count_144 : decode cMd_count 144 = .ok (.ireturn, 1) := by decide +kernel
theorem dMd_count_145 : decode cMd_count 145 = .ok (.aload_n 0, 1) := by decide +kernel
theorem dMd_count_146 : decode cMd_count 146 = .ok (.getfield 79, 3) := by decide +kernel
theorem dMd_count_149 : decode cMd_count 149 = .ok (.ireturn, 1) := by decide +kernel
theorem dMd_count_150 : decode cMd_count 150 = .ok (.aload_n 0, 1) := by decide +kernel
theorem dMd_count_151 : decode cMd_count 151 = .ok (.getfield 82, 3) := by decide +kernel
theorem dMd_count_154 : decode cMd_count 154 = .ok (.ireturn, 1) := by decide +kernel
theorem dMd_count_155 : decode cMd_count 155 = .ok (.aload_n 0, 1) := by decide +kernel
theorem dMd_count_156 : decode cMd_count 156 = .ok (.getfield 85, 3) := by decide +kernel
theorem dMd_count_159 : decode cMd_count 159 = .ok (.ireturn, 1) := by decide +kernel
theorem dMd_count_160 : decode cMd_count 160 = .ok (.aload_n 0, 1) := by decide +kernel
theorem dMd_count_161 : decode cMd_count 161 = .ok (.getfield 19, 3) := by decide +kernel
theorem dMd_count_164 : decode cMd_count 164 = .ok (.iconst 1, 1) := by decide +kernel
theorem dMd_count_165 : decode cMd_count 165 = .ok (.isub, 1) := by decide +kernel
theorem dMd_count_166 : decode cMd_count 166 = .ok (.ireturn, 1) := by decide +kernel
theorem dMd_many_0 : decode cMd_many 0 = .ok (.iconst 0, 1) := by decide +kernel
theorem dMd_many_1 : decode cMd_many 1 = .ok (.istore_n 2, 1) := by decide +kernel
theorem dMd_many_2 : decode cMd_many 2 = .ok (.iconst 0, 1) := by decide +kernel
theorem dMd_many_3 : decode cMd_many 3 = .ok (.istore_n 3, 1) := by decide +kernel
theorem dMd_many_4 : decode cMd_many 4 = .ok (.iload_n 3, 1) := by decide +kernel
theorem dMd_many_5 : decode cMd_many 5 = .ok (.sipush 3600, 3) := by decide +kernel
theorem dMd_many_8 : decode cMd_many 8 = .ok (.if_icmp .ge 36, 3) := by decide +kernel
theorem dMd_many_11 : decode cMd_many 11 = .ok (.aload_n 0, 1) := by decide +kernel
theorem dMd_many_12 : decode cMd_many 12 = .ok (.getfield 26, 3) := by decide +kernel
theorem dMd_many_15 : decode cMd_many 15 = .ok (.iload_n 3, 1) := by decide +kernel
theorem dMd_many_16 : decode cMd_many 16 = .ok (.baload, 1) := by decide +kernel
theorem dMd_many_17 : decode cMd_many 17 = .ok (.ifCond .eq 19, 3) := by decide +kernel
theorem dMd_many_20 : decode cMd_many 20 = .ok (.aload_n 0, 1) := by decide +kernel
theorem dMd_many_21 : decode cMd_many 21 = .ok (.getfield 30, 3) := by decide +kernel
theorem dMd_many_24 : decode cMd_many 24 = .ok (.iload_n 3, 1) := by decide +kernel
theorem dMd_many_25 : decode cMd_many 25 = .ok (.iaload, 1) := by decide +kernel
theorem dMd_many_26 : decode cMd_many 26 = .ok (.iload_n 1, 1) := by decide +kernel
theorem dMd_many_27 : decode cMd_many 27 = .ok (.if_icmp .ne 9, 3) := by decide +kernel
theorem dMd_many_30 : decode cMd_many 30 = .ok (.iload_n 2, 1) := by decide +kernel
theorem dMd_many_31 : decode cMd_many 31 = .ok (.iconst 1, 1) := by decide +kernel
theorem dMd_many_32 : decode cMd_many 32 = .ok (.iadd, 1) := by decide +kernel
theorem dMd_many_33 : decode cMd_many 33 = .ok (.goto 4, 3) := by decide +kernel
theorem dMd_many_36 : decode cMd_many 36 = .ok (.iload_n 2, 1) := by decide +kernel
theorem dMd_many_37 : decode cMd_many 37 = .ok (.istore_n 2, 1) := by decide +kernel
theorem dMd_many_38 : decode cMd_many 38 = .ok (.iinc 3 1, 3) := by decide +kernel
theorem dMd_many_41 : decode cMd_many 41 = .ok (.goto (-37), 3) := by decide +kernel
theorem dMd_many_44 : decode cMd_many 44 = .ok (.iload_n 2, 1) := by decide +kernel
theorem dMd_many_45 : decode cMd_many 45 = .ok (.ireturn, 1) := by decide +kernel

theorem dX8_tryPay_105 : decode cX8_tryPay 105 = .ok (.lload 11, 2) := by decide +kernel
theorem dX8_tryPay_107 : decode cX8_tryPay 107 = .ok (.goto 5, 3) := by decide +kernel
theorem dX8_tryPay_110 : decode cX8_tryPay 110 = .ok (.lload 9, 2) := by decide +kernel
theorem dX8_tryPay_112 : decode cX8_tryPay 112 = .ok (.invokevirtual 90, 3) := by decide +kernel
theorem dX8_tryPay_115 : decode cX8_tryPay 115 = .ok (.lload 6, 2) := by decide +kernel
theorem dX8_tryPay_117 : decode cX8_tryPay 117 = .ok (.lload 9, 2) := by decide +kernel
theorem dX8_tryPay_119 : decode cX8_tryPay 119 = .ok (.ladd, 1) := by decide +kernel
theorem dX8_tryPay_120 : decode cX8_tryPay 120 = .ok (.lstore 6, 2) := by decide +kernel
theorem dX8_tryPay_122 : decode cX8_tryPay 122 = .ok (.iinc 8 1, 3) := by decide +kernel
theorem dX8_tryPay_125 : decode cX8_tryPay 125 = .ok (.goto (-78), 3) := by decide +kernel
theorem dX8_tryPay_128 : decode cX8_tryPay 128 = .ok (.iconst 0, 1) := by decide +kernel
theorem dX8_tryPay_129 : decode cX8_tryPay 129 = .ok (.istore 8, 2) := by decide +kernel
theorem dX8_tryPay_131 : decode cX8_tryPay 131 = .ok (.iload 8, 2) := by decide +kernel
theorem dX8_tryPay_133 : decode cX8_tryPay 133 = .ok (.bipush 6, 2) := by decide +kernel
theorem dX8_tryPay_135 : decode cX8_tryPay 135 = .ok (.if_icmp .ge 37, 3) := by decide +kernel
theorem dX8_tryPay_138 : decode cX8_tryPay 138 = .ok (.aload_n 0, 1) := by decide +kernel
theorem dX8_tryPay_139 : decode cX8_tryPay 139 = .ok (.iload 8, 2) := by decide +kernel
theorem dX8_tryPay_141 : decode cX8_tryPay 141 = .ok (.iconst 1, 1) := by decide +kernel
theorem dX8_tryPay_142 : decode cX8_tryPay 142 = .ok (.invokevirtual 57, 3) := by decide +kernel
theorem dX8_tryPay_145 : decode cX8_tryPay 145 = .ok (.lstore 9, 2) := by decide +kernel
theorem dX8_tryPay_147 : decode cX8_tryPay 147 = .ok (.aload_n 0, 1) := by decide +kernel
theorem dX8_tryPay_148 : decode cX8_tryPay 148 = .ok (.iload 8, 2) := by decide +kernel
theorem dX8_tryPay_150 : decode cX8_tryPay 150 = .ok (.iconst 0, 1) := by decide +kernel
theorem dX8_tryPay_151 : decode cX8_tryPay 151 = .ok (.lload 9, 2) := by decide +kernel
theorem dX8_tryPay_153 : decode cX8_tryPay 153 = .ok (.invokevirtual 90, 3) := by decide +kernel
theorem dX8_tryPay_156 : decode cX8_tryPay 156 = .ok (.aload_n 0, 1) := by decide +kernel
theorem dX8_tryPay_157 : decode cX8_tryPay 157 = .ok (.iload 8, 2) := by decide +kernel
theorem dX8_tryPay_159 : decode cX8_tryPay 159 = .ok (.iconst 1, 1) := by decide +kernel
theorem dX8_tryPay_160 : decode cX8_tryPay 160 = .ok (.lload 9, 2) := by decide +kernel
theorem dX8_tryPay_162 : decode cX8_tryPay 162 = .ok (.lneg, 1) := by decide +kernel
theorem dX8_tryPay_163 : decode cX8_tryPay 163 = .ok (.invokevirtual 90, 3) := by decide +kernel
theorem dX8_tryPay_166 : decode cX8_tryPay 166 = .ok (.iinc 8 1, 3) := by decide +kernel
theorem dX8_tryPay_169 : decode cX8_tryPay 169 = .ok (.goto (-38), 3) := by decide +kernel
theorem dX8_tryPay_172 : decode cX8_tryPay 172 = .ok (.aload_n 0, 1) := by decide +kernel
theorem dX8_tryPay_173 : decode cX8_tryPay 173 = .ok (.getfield 7, 3) := by decide +kernel
theorem dX8_tryPay_176 : decode cX8_tryPay 176 = .ok (.iconst 5, 1) := by decide +kernel
theorem dX8_tryPay_177 : decode cX8_tryPay 177 = .ok (.dup2, 1) := by decide +kernel
theorem dX8_tryPay_178 : decode cX8_tryPay 178 = .ok (.laload, 1) := by decide +kernel
theorem dX8_tryPay_179 : decode cX8_tryPay 179 = .ok (.lload 6, 2) := by decide +kernel
theorem dX8_tryPay_181 : decode cX8_tryPay 181 = .ok (.lsub, 1) := by decide +kernel
theorem dX8_tryPay_182 : decode cX8_tryPay 182 = .ok (.lastore, 1) := by decide +kernel
theorem dX8_tryPay_183 : decode cX8_tryPay 183 = .ok (.aload_n 0, 1) := by decide +kernel
theorem dX8_tryPay_184 : decode cX8_tryPay 184 = .ok (.getfield 7, 3) := by decide +kernel
theorem dX8_tryPay_187 : decode cX8_tryPay 187 = .ok (.bipush 8, 2) := by decide +kernel
theorem dX8_tryPay_189 : decode cX8_tryPay 189 = .ok (.dup2, 1) := by decide +kernel
theorem dX8_tryPay_190 : decode cX8_tryPay 190 = .ok (.laload, 1) := by decide +kernel
theorem dX8_tryPay_191 : decode cX8_tryPay 191 = .ok (.lload 6, 2) := by decide +kernel
theorem dX8_tryPay_193 : decode cX8_tryPay 193 = .ok (.lsub, 1) := by decide +kernel
theorem dX8_tryPay_194 : decode cX8_tryPay 194 = .ok (.lastore, 1) := by decide +kernel
theorem dX8_tryPay_195 : decode cX8_tryPay 195 = .ok (.aload_n 0, 1) := by decide +kernel
theorem dX8_tryPay_196 : decode cX8_tryPay 196 = .ok (.getfield 7, 3) := by decide +kernel
theorem dX8_tryPay_199 : decode cX8_tryPay 199 = .ok (.bipush 9, 2) := by decide +kernel
theorem dX8_tryPay_201 : decode cX8_tryPay 201 = .ok (.lconst 0, 1) := by decide +kernel
theorem dX8_tryPay_202 : decode cX8_tryPay 202 = .ok (.lastore, 1) := by decide +kernel
theorem dX8_tryPay_203 : decode cX8_tryPay 203 = .ok (.lload 6, 2) := by decide +kernel
theorem dX8_tryPay_205 : decode cX8_tryPay 205 = .ok (.l2i, 1) := by decide +kernel
theorem dX8_tryPay_206 : decode cX8_tryPay 206 = .ok (.ireturn, 1) := by decide +kernel
theorem dX8_pay_0 : decode cX8_pay 0 = .ok (.aload_n 0, 1) := by decide +kernel
theorem dX8_pay_1 : decode cX8_pay 1 = .ok (.iconst 1, 1) := by decide +kernel
theorem dX8_pay_2 : decode cX8_pay 2 = .ok (.invokevirtual 205, 3) := by decide +kernel
theorem dX8_pay_5 : decode cX8_pay 5 = .ok (.ireturn, 1) := by decide +kernel
theorem dX8_ofHolder_0 : decode cX8_ofHolder 0 = .ok (.iload_n 1, 1) := by decide +kernel
theorem dX8_ofHolder_1 : decode cX8_ofHolder 1 = .ok (.invokestatic 104, 3) := by decide +kernel
theorem dX8_ofHolder_4 : decode cX8_ofHolder 4 = .ok (.ifCond .ne 5, 3) := by decide +kernel
theorem dX8_ofHolder_7 : decode cX8_ofHolder 7 = .ok (.iconst (-1), 1) := by decide +kernel
theorem dX8_ofHolder_8 : decode cX8_ofHolder 8 = .ok (.ireturn, 1) := by decide +kernel
theorem dX8_ofHolder_9 : decode cX8_ofHolder 9 = .ok (.iload_n 2, 1) := by decide +kernel
theorem dX8_ofHolder_10 : decode cX8_ofHolder 10 = .ok (.tableswitch 84 0 8 #[50, 57, 57, 67, 74, 74, 74, 74, 74], 50) := by decide +kernel
theorem dX8_ofHolder_60 : decode cX8_ofHolder 60 = .ok (.aload_n 0, 1) := by decide +kernel
theorem dX8_ofHolder_61 : decode cX8_ofHolder 61 = .ok (.iload_n 1, 1) := by decide +kernel
theorem dX8_ofHolder_62 : decode cX8_ofHolder 62 = .ok (.invokevirtual 71, 3) := by decide +kernel
theorem dX8_ofHolder_65 : decode cX8_ofHolder 65 = .ok (.l2i, 1) := by decide +kernel
theorem dX8_ofHolder_66 : decode cX8_ofHolder 66 = .ok (.ireturn, 1) := by decide +kernel
theorem dX8_ofHolder_67 : decode cX8_ofHolder 67 = .ok (.aload_n 0, 1) := by decide +kernel
theorem dX8_ofHolder_68 : decode cX8_ofHolder 68 = .ok (.iload_n 1, 1) := by decide +kernel
theorem dX8_ofHolder_69 : decode cX8_ofHolder 69 = .ok (.iload_n 2, 1) := by decide +kernel
theorem dX8_ofHolder_70 : decode cX8_ofHolder 70 = .ok (.iconst 1, 1) := by decide +kernel
theorem dX8_ofHolder_71 : decode cX8_ofHolder 71 = .ok (.isub, 1) := by decide +kernel
theorem dX8_ofHolder_72 : decode cX8_ofHolder 72 = .ok (.invokevirtual 57, 3) := by decide +kernel
theorem dX8_ofHolder_75 : decode cX8_ofHolder 75 = .ok (.l2i, 1) := by decide +kernel
theorem dX8_ofHolder_76 : decode cX8_ofHolder 76 = .ok (.ireturn, 1) := by decide +kernel
theorem dX8_ofHolder_77 : decode cX8_ofHolder 77 = .ok (.aload_n 0, 1) := by decide +kernel
theorem dX8_ofHolder_78 : decode cX8_ofHolder 78 = .ok (.iload_n 1, 1) := by decide +kernel
theorem dX8_ofHolder_79 : decode cX8_ofHolder 79 = .ok (.invokevirtual 126, 3) := by decide +kernel
theorem dX8_ofHolder_82 : decode cX8_ofHolder 82 = .ok (.l2i, 1) := by decide +kernel
theorem dX8_ofHolder_83 : decode cX8_ofHolder 83 = .ok (.ireturn, 1) := by decide +kernel
theorem dX8_ofHolder_84 : decode cX8_ofHolder 84 = .ok (.aload_n 0, 1) := by decide +kernel
theorem dX8_ofHolder_85 : decode cX8_ofHolder 85 = .ok (.iload_n 1, 1) := by decide +kernel
theorem dX8_ofHolder_86 : decode cX8_ofHolder 86 = .ok (.iload_n 2, 1) := by decide +kernel
theorem dX8_ofHolder_87 : decode cX8_ofHolder 87 = .ok (.iconst 2, 1) := by decide +kernel
theorem dX8_ofHolder_88 : decode cX8_ofHolder 88 = .ok (.isub, 1) := by decide +kernel
theorem dX8_ofHolder_89 : decode cX8_ofHolder 89 = .ok (.invokevirtual 57, 3) := by decide +kernel
theorem dX8_ofHolder_92 : decode cX8_ofHolder 92 = .ok (.l2i, 1) := by decide +kernel
theorem dX8_ofHolder_93 : decode cX8_ofHolder 93 = .ok (.ireturn, 1) := by decide +kernel
theorem dX8_ofHolder_94 : decode cX8_ofHolder 94 = .ok (.bipush (-2), 2) := by decide +kernel
theorem dX8_ofHolder_96 : decode cX8_ofHolder 96 = .ok (.ireturn, 1) := by decide +kernel
theorem dX8_count_0 : decode cX8_count 0 = .ok (.iload_n 1, 1) := by decide +kernel
theorem dX8_count_1 : decode cX8_count 1 = .ok (.tableswitch 189 0 18 #[91, 91, 91, 101, 107, 113, 119, 119, 119, 133, 142, 151, 168, 168, 168, 168, 168, 179, 184], 91) := by decide +kernel
theorem dX8_count_92 : decode cX8_count 92 = .ok (.aload_n 0, 1) := by decide +kernel
theorem dX8_count_93 : decode cX8_count 93 = .ok (.getfield 7, 3) := by decide +kernel
theorem dX8_count_96 : decode cX8_count 96 = .ok (.iconst 5, 1) := by decide +kernel
theorem dX8_count_97 : decode cX8_count 97 = .ok (.iload_n 1, 1) := by decide +kernel
theorem dX8_count_98 : decode cX8_count 98 = .ok (.iadd, 1) := by decide +kernel
theorem dX8_count_99 : decode cX8_count 99 = .ok (.laload, 1) := by decide +kernel
theorem dX8_count_100 : decode cX8_count 100 = .ok (.l2i, 1) := by decide +kernel
theorem dX8_count_101 : decode cX8_count 101 = .ok (.ireturn, 1) := by decide +kernel
theorem dX8_count_102 : decode cX8_count 102 = .ok (.aload_n 0, 1) := by decide +kernel
theorem dX8_count_103 : decode cX8_count 103 = .ok (.invokevirtual 81, 3) := by decide +kernel
theorem dX8_count_106 : decode cX8_count 106 = .ok (.l2i, 1) := by decide +kernel
theorem dX8_count_107 : decode cX8_count 107 = .ok (.ireturn, 1) := by decide +kernel
theorem dX8_count_108 : decode cX8_count 108 = .ok (.aload_n 0, 1) := by decide +kernel
theorem dX8_count_109 : decode cX8_count 109 = .ok (.invokevirtual 75, 3) := by decide +kernel
theorem dX8_count_112 : decode cX8_count 112 = .ok (.l2i, 1) := by decide +kernel
theorem dX8_count_113 : decode cX8_count 113 = .ok (.ireturn, 1) := by decide +kernel
theorem dX8_count_114 : decode cX8_count 114 = .ok (.aload_n 0, 1) := by decide +kernel
theorem dX8_count_115 : decode cX8_count 115 = .ok (.invokevirtual 97, 3) := by decide +kernel
theorem dX8_count_118 : decode cX8_count 118 = .ok (.l2i, 1) := by decide +kernel
theorem dX8_count_119 : decode cX8_count 119 = .ok (.ireturn, 1) := by decide +kernel
theorem dX8_count_120 : decode cX8_count 120 = .ok (.aload_n 0, 1) := by decide +kernel
theorem dX8_count_121 : decode cX8_count 121 = .ok (.getfield 7, 3) := by decide +kernel
theorem dX8_count_124 : decode cX8_count 124 = .ok (.bipush 8, 2) := by decide +kernel
theorem dX8_count_126 : decode cX8_count 126 = .ok (.iload_n 1, 1) := by decide +kernel
theorem dX8_count_127 : decode cX8_count 127 = .ok (.iadd, 1) := by decide +kernel
theorem dX8_count_128 : decode cX8_count 128 = .ok (.bipush 6, 2) := by decide +kernel
theorem dX8_count_130 : decode cX8_count 130 = .ok (.isub, 1) := by decide +kernel
theorem dX8_count_131 : decode cX8_count 131 = .ok (.laload, 1) := by decide +kernel
theorem dX8_count_132 : decode cX8_count 132 = .ok (.l2i, 1) := by decide +kernel
theorem dX8_count_133 : decode cX8_count 133 = .ok (.ireturn, 1) := by decide +kernel
theorem dX8_count_134 : decode cX8_count 134 = .ok (.aload_n 0, 1) := by decide +kernel
theorem dX8_count_135 : decode cX8_count 135 = .ok (.getfield 7, 3) := by decide +kernel
theorem dX8_count_138 : decode cX8_count 138 = .ok (.bipush 61, 2) := by decide +kernel
theorem dX8_count_140 : decode cX8_count 140 = .ok (.laload, 1) := by decide +kernel
theorem dX8_count_141 : decode cX8_count 141 = .ok (.l2i, 1) := by decide +kernel
theorem dX8_count_142 : decode cX8_count 142 = .ok (.ireturn, 1) := by decide +kernel
theorem dX8_count_143 : decode cX8_count 143 = .ok (.aload_n 0, 1) := by decide +kernel
theorem dX8_count_144 : decode cX8_count 144 = .ok (.getfield 7, 3) := by decide +kernel
theorem dX8_count_147 : decode cX8_count 147 = .ok (.bipush 122, 2) := by decide +kernel
theorem dX8_count_149 : decode cX8_count 149 = .ok (.laload, 1) := by decide +kernel
theorem dX8_count_150 : decode cX8_count 150 = .ok (.l2i, 1) := by decide +kernel
theorem dX8_count_151 : decode cX8_count 151 = .ok (.ireturn, 1) := by decide +kernel
theorem dX8_count_152 : decode cX8_count 152 = .ok (.aload_n 0, 1) := by decide +kernel
theorem dX8_count_153 : decode cX8_count 153 = .ok (.bipush 122, 2) := by decide +kernel
theorem dX8_count_155 : decode cX8_count 155 = .ok (.aload_n 0, 1) := by decide +kernel
theorem dX8_count_156 : decode cX8_count 156 = .ok (.getfield 7, 3) := by decide +kernel
theorem dX8_count_159 : decode cX8_count 159 = .ok (.bipush 10, 2) := by decide +kernel
theorem dX8_count_161 : decode cX8_count 161 = .ok (.laload, 1) := by decide +kernel
theorem dX8_count_162 : decode cX8_count 162 = .ok (.lconst 1, 1) := by decide +kernel
theorem dX8_count_163 : decode cX8_count 163 = .ok (.ladd, 1) := by decide +kernel
theorem dX8_count_164 : decode cX8_count 164 = .ok (.invokevirtual 139, 3) := by decide +kernel
theorem dX8_count_167 : decode cX8_count 167 = .ok (.l2i, 1) := by decide +kernel
theorem dX8_count_168 : decode cX8_count 168 = .ok (.ireturn, 1) := by decide +kernel
theorem dX8_count_169 : decode cX8_count 169 = .ok (.aload_n 0, 1) := by decide +kernel
theorem dX8_count_170 : decode cX8_count 170 = .ok (.getfield 7, 3) := by decide +kernel
theorem dX8_count_173 : decode cX8_count 173 = .ok (.iload_n 1, 1) := by decide +kernel
theorem dX8_count_174 : decode cX8_count 174 = .ok (.bipush 12, 2) := by decide +kernel
theorem dX8_count_176 : decode cX8_count 176 = .ok (.isub, 1) := by decide +kernel
theorem dX8_count_177 : decode cX8_count 177 = .ok (.laload, 1) := by decide +kernel
theorem dX8_count_178 : decode cX8_count 178 = .ok (.l2i, 1) := by decide +kernel
theorem dX8_count_179 : decode cX8_count 179 = .ok (.ireturn, 1) := by decide +kernel
theorem dX8_count_180 : decode cX8_count 180 = .ok (.aload_n 0, 1) := by decide +kernel
theorem dX8_count_181 : decode cX8_count 181 = .ok (.getfield 208, 3) := by decide +kernel
theorem dX8_count_184 : decode cX8_count 184 = .ok (.ireturn, 1) := by decide +kernel
theorem dX8_count_185 : decode cX8_count 185 = .ok (.aload_n 0, 1) := by decide +kernel
theorem dX8_count_186 : decode cX8_count 186 = .ok (.getfield 61, 3) := by decide +kernel
theorem dX8_count_189 : decode cX8_count 189 = .ok (.ireturn, 1) := by decide +kernel
theorem dX8_count_190 : decode cX8_count 190 = .ok (.bipush (-2), 2) := by decide +kernel
theorem dX8_count_192 : decode cX8_count 192 = .ok (.ireturn, 1) := by decide +kernel
theorem dX8_order_0 : decode cX8_order 0 = .ok (.iload_n 1, 1) := by decide +kernel
theorem dX8_order_1 : decode cX8_order 1 = .ok (.i2l, 1) := by decide +kernel
theorem dX8_order_2 : decode cX8_order 2 = .ok (.lconst 0, 1) := by decide +kernel
theorem dX8_order_3 : decode cX8_order 3 = .ok (.lconst 1, 1) := by decide +kernel
theorem dX8_order_4 : decode cX8_order 4 = .ok (.invokestatic 53, 3) := by decide +kernel
theorem dX8_order_7 : decode cX8_order 7 = .ok (.ifCond .eq 15, 3) := by decide +kernel
theorem dX8_order_10 : decode cX8_order 10 = .ok (.iload_n 3, 1) := by decide +kernel
theorem dX8_order_11 : decode cX8_order 11 = .ok (.i2l, 1) := by decide +kernel
theorem dX8_order_12 : decode cX8_order 12 = .ok (.lconst 0, 1) := by decide +kernel
theorem dX8_order_13 : decode cX8_order 13 = .ok (.ldc2_w 211, 3) := by decide +kernel
theorem dX8_order_16 : decode cX8_order 16 = .ok (.invokestatic 53, 3) := by decide +kernel
theorem dX8_order_19 : decode cX8_order 19 = .ok (.ifCond .ne 6, 3) := by decide +kernel
theorem dX8_order_22 : decode cX8_order 22 = .ok (.bipush (-2), 2) := by decide +kernel
theorem dX8_order_24 : decode cX8_order 24 = .ok (.ireturn, 1) := by decide +kernel
theorem dX8_order_25 : decode cX8_order 25 = .ok (.iload_n 1, 1) := by decide +kernel
theorem dX8_order_26 : decode cX8_order 26 = .ok (.ifCond .ne 8, 3) := by decide +kernel
theorem dX8_order_29 : decode cX8_order 29 = .ok (.bipush 61, 2) := by decide +kernel
theorem dX8_order_31 : decode cX8_order 31 = .ok (.goto 5, 3) := by decide +kernel
theorem dX8_order_34 : decode cX8_order 34 = .ok (.bipush 122, 2) := by decide +kernel
theorem dX8_order_36 : decode cX8_order 36 = .ok (.istore 4, 2) := by decide +kernel
theorem dX8_order_38 : decode cX8_order 38 = .ok (.iload_n 2, 1) := by decide +kernel
theorem dX8_order_39 : decode cX8_order 39 = .ok (.i2l, 1) := by decide +kernel
theorem dX8_order_40 : decode cX8_order 40 = .ok (.lconst 0, 1) := by decide +kernel
theorem dX8_order_41 : decode cX8_order 41 = .ok (.aload_n 0, 1) := by decide +kernel
theorem dX8_order_42 : decode cX8_order 42 = .ok (.getfield 7, 3) := by decide +kernel
theorem dX8_order_45 : decode cX8_order 45 = .ok (.iload 4, 2) := by decide +kernel
theorem dX8_order_47 : decode cX8_order 47 = .ok (.laload, 1) := by decide +kernel
theorem dX8_order_48 : decode cX8_order 48 = .ok (.lconst 1, 1) := by decide +kernel
theorem dX8_order_49 : decode cX8_order 49 = .ok (.lsub, 1) := by decide +kernel
theorem dX8_order_50 : decode cX8_order 50 = .ok (.invokestatic 53, 3) := by decide +kernel
theorem dX8_order_53 : decode cX8_order 53 = .ok (.ifCond .eq 15, 3) := by decide +kernel
theorem dX8_order_56 : decode cX8_order 56 = .ok (.aload_n 0, 1) := by decide +kernel
theorem dX8_order_57 : decode cX8_order 57 = .ok (.iload 4, 2) := by decide +kernel
theorem dX8_order_59 : decode cX8_order 59 = .ok (.iload_n 2, 1) := by decide +kernel
theorem dX8_order_60 : decode cX8_order 60 = .ok (.iload_n 3, 1) := by decide +kernel
theorem dX8_order_61 : decode cX8_order 61 = .ok (.invokevirtual 86, 3) := by decide +kernel
theorem dX8_order_64 : decode cX8_order 64 = .ok (.l2i, 1) := by decide +kernel
theorem dX8_order_65 : decode cX8_order 65 = .ok (.goto 4, 3) := by decide +kernel
theorem dX8_order_68 : decode cX8_order 68 = .ok (.iconst (-1), 1) := by decide +kernel
theorem dX8_order_69 : decode cX8_order 69 = .ok (.ireturn, 1) := by decide +kernel
theorem dX8_lastDay_0 : decode cX8_lastDay 0 = .ok (.iload_n 1, 1) := by decide +kernel
theorem dX8_lastDay_1 : decode cX8_lastDay 1 = .ok (.i2l, 1) := by decide +kernel
theorem dX8_lastDay_2 : decode cX8_lastDay 2 = .ok (.lconst 0, 1) := by decide +kernel
theorem dX8_lastDay_3 : decode cX8_lastDay 3 = .ok (.ldc2_w 47, 3) := by decide +kernel
theorem dX8_lastDay_6 : decode cX8_lastDay 6 = .ok (.invokestatic 53, 3) := by decide +kernel
theorem dX8_lastDay_9 : decode cX8_lastDay 9 = .ok (.ifCond .ne 6, 3) := by decide +kernel
theorem dX8_lastDay_12 : decode cX8_lastDay 12 = .ok (.bipush (-2), 2) := by decide +kernel
theorem dX8_lastDay_14 : decode cX8_lastDay 14 = .ok (.ireturn, 1) := by decide +kernel
theorem dX8_lastDay_15 : decode cX8_lastDay 15 = .ok (.aload_n 0, 1) := by decide +kernel
theorem dX8_lastDay_16 : decode cX8_lastDay 16 = .ok (.getfield 7, 3) := by decide +kernel
theorem dX8_lastDay_19 : decode cX8_lastDay 19 = .ok (.bipush 18, 2) := by decide +kernel
theorem dX8_lastDay_21 : decode cX8_lastDay 21 = .ok (.laload, 1) := by decide +kernel
theorem dX8_lastDay_22 : decode cX8_lastDay 22 = .ok (.lconst 0, 1) := by decide +kernel
theorem dX8_lastDay_23 : decode cX8_lastDay 23 = .ok (.lcmp, 1) := by decide +kernel
theorem dX8_lastDay_24 : decode cX8_lastDay 24 = .ok (.ifCond .ne 8, 3) := by decide +kernel
theorem dX8_lastDay_27 : decode cX8_lastDay 27 = .ok (.bipush (-6), 2) := by decide +kernel
theorem dX8_lastDay_29 : decode cX8_lastDay 29 = .ok (.goto 13, 3) := by decide +kernel
theorem dX8_lastDay_32 : decode cX8_lastDay 32 = .ok (.aload_n 0, 1) := by decide +kernel
theorem dX8_lastDay_33 : decode cX8_lastDay 33 = .ok (.getfield 7, 3) := by decide +kernel
theorem dX8_lastDay_36 : decode cX8_lastDay 36 = .ok (.bipush 12, 2) := by decide +kernel
theorem dX8_lastDay_38 : decode cX8_lastDay 38 = .ok (.iload_n 1, 1) := by decide +kernel
theorem dX8_lastDay_39 : decode cX8_lastDay 39 = .ok (.iadd, 1) := by decide +kernel
theorem dX8_lastDay_40 : decode cX8_lastDay 40 = .ok (.laload, 1) := by decide +kernel
theorem dX8_lastDay_41 : decode cX8_lastDay 41 = .ok (.l2i, 1) := by decide +kernel
theorem dX8_lastDay_42 : decode cX8_lastDay 42 = .ok (.ireturn, 1) := by decide +kernel
theorem dX8_price_0 : decode cX8_price 0 = .ok (.iload_n 1, 1) := by decide +kernel
theorem dX8_price_1 : decode cX8_price 1 = .ok (.tableswitch 54 0 3 #[31, 36, 41, 49], 31) := by decide +kernel
theorem dX8_price_32 : decode cX8_price 32 = .ok (.aload_n 0, 1) := by decide +kernel
theorem dX8_price_33 : decode cX8_price 33 = .ok (.invokevirtual 146, 3) := by decide +kernel
theorem dX8_price_36 : decode cX8_price 36 = .ok (.lreturn, 1) := by decide +kernel
theorem dX8_price_37 : decode cX8_price 37 = .ok (.aload_n 0, 1) := by decide +kernel
theorem dX8_price_38 : decode cX8_price 38 = .ok (.invokevirtual 173, 3) := by decide +kernel
theorem dX8_price_41 : decode cX8_price 41 = .ok (.lreturn, 1) := by decide +kernel
theorem dX8_price_42 : decode cX8_price 42 = .ok (.aload_n 0, 1) := by decide +kernel
theorem dX8_price_43 : decode cX8_price 43 = .ok (.getfield 7, 3) := by decide +kernel
theorem dX8_price_46 : decode cX8_price 46 = .ok (.bipush 11, 2) := by decide +kernel
theorem dX8_price_48 : decode cX8_price 48 = .ok (.laload, 1) := by decide +kernel
theorem dX8_price_49 : decode cX8_price 49 = .ok (.lreturn, 1) := by decide +kernel
theorem dX8_price_50 : decode cX8_price 50 = .ok (.aload_n 0, 1) := by decide +kernel
theorem dX8_price_51 : decode cX8_price 51 = .ok (.invokevirtual 132, 3) := by decide +kernel
theorem dX8_price_54 : decode cX8_price 54 = .ok (.lreturn, 1) := by decide +kernel
theorem dX8_price_55 : decode cX8_price 55 = .ok (.ldc2_w 213, 3) := by decide +kernel
theorem dX8_price_58 : decode cX8_price 58 = .ok (.lreturn, 1) := by decide +kernel
theorem dX8_exitIn_0 : decode cX8_exitIn 0 = .ok (.iload_n 1, 1) := by decide +kernel
theorem dX8_exitIn_1 : decode cX8_exitIn 1 = .ok (.invokestatic 104, 3) := by decide +kernel
theorem dX8_exitIn_4 : decode cX8_exitIn 4 = .ok (.ifCond .ne 5, 3) := by decide +kernel
theorem dX8_exitIn_7 : decode cX8_exitIn 7 = .ok (.iconst (-1), 1) := by decide +kernel
theorem dX8_exitIn_8 : decode cX8_exitIn 8 = .ok (.ireturn, 1) := by decide +kernel
theorem dX8_exitIn_9 : decode cX8_exitIn 9 = .ok (.aload_n 0, 1) := by decide +kernel
theorem dX8_exitIn_10 : decode cX8_exitIn 10 = .ok (.invokevirtual 215, 3) := by decide +kernel
theorem dX8_exitIn_13 : decode cX8_exitIn 13 = .ok (.iconst 0, 1) := by decide +kernel
theorem dX8_exitIn_14 : decode cX8_exitIn 14 = .ok (.istore_n 2, 1) := by decide +kernel
theorem dX8_exitIn_15 : decode cX8_exitIn 15 = .ok (.iload_n 2, 1) := by decide +kernel
theorem dX8_exitIn_16 : decode cX8_exitIn 16 = .ok (.bipush 60, 2) := by decide +kernel
theorem dX8_exitIn_18 : decode cX8_exitIn 18 = .ok (.if_icmp .ge 23, 3) := by decide +kernel
theorem dX8_exitIn_21 : decode cX8_exitIn 21 = .ok (.aload_n 0, 1) := by decide +kernel
theorem dX8_exitIn_22 : decode cX8_exitIn 22 = .ok (.iload_n 1, 1) := by decide +kernel
theorem dX8_exitIn_23 : decode cX8_exitIn 23 = .ok (.invokevirtual 126, 3) := by decide +kernel
theorem dX8_exitIn_26 : decode cX8_exitIn 26 = .ok (.lconst 0, 1) := by decide +kernel
theorem dX8_exitIn_27 : decode cX8_exitIn 27 = .ok (.lcmp, 1) := by decide +kernel
theorem dX8_exitIn_28 : decode cX8_exitIn 28 = .ok (.ifCond .le 13, 3) := by decide +kernel
theorem dX8_exitIn_31 : decode cX8_exitIn 31 = .ok (.aload_n 0, 1) := by decide +kernel
theorem dX8_exitIn_32 : decode cX8_exitIn 32 = .ok (.invokevirtual 187, 3) := by decide +kernel
theorem dX8_exitIn_35 : decode cX8_exitIn 35 = .ok (.iinc 2 1, 3) := by decide +kernel
theorem dX8_exitIn_38 : decode cX8_exitIn 38 = .ok (.goto (-23), 3) := by decide +kernel
theorem dX8_exitIn_41 : decode cX8_exitIn 41 = .ok (.aload_n 0, 1) := by decide +kernel
theorem dX8_exitIn_42 : decode cX8_exitIn 42 = .ok (.iload_n 1, 1) := by decide +kernel
theorem dX8_exitIn_43 : decode cX8_exitIn 43 = .ok (.invokevirtual 126, 3) := by decide +kernel
theorem dX8_exitIn_46 : decode cX8_exitIn 46 = .ok (.lconst 0, 1) := by decide +kernel
theorem dX8_exitIn_47 : decode cX8_exitIn 47 = .ok (.lcmp, 1) := by decide +kernel
theorem dX8_exitIn_48 : decode cX8_exitIn 48 = .ok (.ifCond .ne 7, 3) := by decide +kernel
theorem dX8_exitIn_51 : decode cX8_exitIn 51 = .ok (.iconst 1, 1) := by decide +kernel
theorem dX8_exitIn_52 : decode cX8_exitIn 52 = .ok (.goto 4, 3) := by decide +kernel
theorem dX8_exitIn_55 : decode cX8_exitIn 55 = .ok (.iconst 0, 1) := by decide +kernel
theorem dX8_exitIn_56 : decode cX8_exitIn 56 = .ok (.istore_n 3, 1) := by decide +kernel
theorem dX8_exitIn_57 : decode cX8_exitIn 57 = .ok (.aload_n 0, 1) := by decide +kernel
theorem dX8_exitIn_58 : decode cX8_exitIn 58 = .ok (.invokevirtual 218, 3) := by decide +kernel
theorem dX8_exitIn_61 : decode cX8_exitIn 61 = .ok (.iload_n 3, 1) := by decide +kernel
theorem dX8_exitIn_62 : decode cX8_exitIn 62 = .ok (.ifCond .eq 7, 3) := by decide +kernel
theorem dX8_exitIn_65 : decode cX8_exitIn 65 = .ok (.iload_n 2, 1) := by decide +kernel
theorem dX8_exitIn_66 : decode cX8_exitIn 66 = .ok (.goto 5, 3) := by decide +kernel
theorem dX8_exitIn_69 : decode cX8_exitIn 69 = .ok (.bipush (-6), 2) := by decide +kernel
theorem dX8_exitIn_71 : decode cX8_exitIn 71 = .ok (.ireturn, 1) := by decide +kernel
theorem dX8_fairSwing_0 : decode cX8_fairSwing 0 = .ok (.aload_n 0, 1) := by decide +kernel
theorem dX8_fairSwing_1 : decode cX8_fairSwing 1 = .ok (.invokevirtual 146, 3) := by decide +kernel
theorem dX8_fairSwing_4 : decode cX8_fairSwing 4 = .ok (.lstore_n 1, 1) := by decide +kernel
theorem dX8_fairSwing_5 : decode cX8_fairSwing 5 = .ok (.bipush (-6), 2) := by decide +kernel
theorem dX8_fairSwing_7 : decode cX8_fairSwing 7 = .ok (.istore_n 3, 1) := by decide +kernel
theorem dX8_fairSwing_8 : decode cX8_fairSwing 8 = .ok (.aload_n 0, 1) := by decide +kernel
theorem dX8_fairSwing_9 : decode cX8_fairSwing 9 = .ok (.invokevirtual 215, 3) := by decide +kernel
theorem dX8_fairSwing_12 : decode cX8_fairSwing 12 = .ok (.iconst 0, 1) := by decide +kernel
theorem dX8_fairSwing_13 : decode cX8_fairSwing 13 = .ok (.istore 4, 2) := by decide +kernel
theorem dX8_fairSwing_15 : decode cX8_fairSwing 15 = .ok (.iload 4, 2) := by decide +kernel
theorem dX8_fairSwing_17 : decode cX8_fairSwing 17 = .ok (.bipush 100, 2) := by decide +kernel
theorem dX8_fairSwing_19 : decode cX8_fairSwing 19 = .ok (.if_icmp .gt 47, 3) := by decide +kernel
theorem dX8_fairSwing_22 : decode cX8_fairSwing 22 = .ok (.iload_n 3, 1) := by decide +kernel
theorem dX8_fairSwing_23 : decode cX8_fairSwing 23 = .ok (.ifCond .ge 43, 3) := by decide +kernel
theorem dX8_fairSwing_26 : decode cX8_fairSwing 26 = .ok (.aload_n 0, 1) := by decide +kernel
theorem dX8_fairSwing_27 : decode cX8_fairSwing 27 = .ok (.getfield 7, 3) := by decide +kernel
theorem dX8_fairSwing_30 : decode cX8_fairSwing 30 = .ok (.iconst 2, 1) := by decide +kernel
theorem dX8_fairSwing_31 : decode cX8_fairSwing 31 = .ok (.iload 4, 2) := by decide +kernel
theorem dX8_fairSwing_33 : decode cX8_fairSwing 33 = .ok (.i2l, 1) := by decide +kernel
theorem dX8_fairSwing_34 : decode cX8_fairSwing 34 = .ok (.lastore, 1) := by decide +kernel
theorem dX8_fairSwing_35 : decode cX8_fairSwing 35 = .ok (.aload_n 0, 1) := by decide +kernel
theorem dX8_fairSwing_36 : decode cX8_fairSwing 36 = .ok (.invokevirtual 187, 3) := by decide +kernel
theorem dX8_fairSwing_39 : decode cX8_fairSwing 39 = .ok (.aload_n 0, 1) := by decide +kernel
theorem dX8_fairSwing_40 : decode cX8_fairSwing 40 = .ok (.invokevirtual 146, 3) := by decide +kernel
theorem dX8_fairSwing_43 : decode cX8_fairSwing 43 = .ok (.lload_n 1, 1) := by decide +kernel
theorem dX8_fairSwing_44 : decode cX8_fairSwing 44 = .ok (.lcmp, 1) := by decide +kernel
theorem dX8_fairSwing_45 : decode cX8_fairSwing 45 = .ok (.ifCond .lt 8, 3) := by decide +kernel
theorem dX8_fairSwing_48 : decode cX8_fairSwing 48 = .ok (.iload 4, 2) := by decide +kernel
theorem dX8_fairSwing_50 : decode cX8_fairSwing 50 = .ok (.goto 5, 3) := by decide +kernel
theorem dX8_fairSwing_53 : decode cX8_fairSwing 53 = .ok (.bipush (-6), 2) := by decide +kernel
theorem dX8_fairSwing_55 : decode cX8_fairSwing 55 = .ok (.istore_n 3, 1) := by decide +kernel
theorem dX8_fairSwing_56 : decode cX8_fairSwing 56 = .ok (.aload_n 0, 1) := by decide +kernel
theorem dX8_fairSwing_57 : decode cX8_fairSwing 57 = .ok (.invokevirtual 218, 3) := by decide +kernel
theorem dX8_fairSwing_60 : decode cX8_fairSwing 60 = .ok (.iinc 4 1, 3) := by decide +kernel
theorem dX8_fairSwing_63 : decode cX8_fairSwing 63 = .ok (.goto (-48), 3) := by decide +kernel
theorem dX8_fairSwing_66 : decode cX8_fairSwing 66 = .ok (.iload_n 3, 1) := by decide +kernel
theorem dX8_fairSwing_67 : decode cX8_fairSwing 67 = .ok (.ireturn, 1) := by decide +kernel
theorem dX8_put_0 : decode cX8_put 0 = .ok (.iconst 0, 1) := by decide +kernel
theorem dX8_put_1 : decode cX8_put 1 = .ok (.istore_n 3, 1) := by decide +kernel
theorem dX8_put_2 : decode cX8_put 2 = .ok (.lload_n 1, 1) := by decide +kernel
theorem dX8_put_3 : decode cX8_put 3 = .ok (.lstore 4, 2) := by decide +kernel
theorem dX8_put_5 : decode cX8_put 5 = .ok (.iload_n 3, 1) := by decide +kernel
theorem dX8_put_6 : decode cX8_put 6 = .ok (.bipush 8, 2) := by decide +kernel
theorem dX8_put_8 : decode cX8_put 8 = .ok (.if_icmp .ge 48, 3) := by decide +kernel
theorem dX8_put_11 : decode cX8_put 11 = .ok (.lload 4, 2) := by decide +kernel
theorem dX8_put_13 : decode cX8_put 13 = .ok (.ldc2_w 221, 3) := by decide +kernel
theorem dX8_put_16 : decode cX8_put 16 = .ok (.land, 1) := by decide +kernel
theorem dX8_put_17 : decode cX8_put 17 = .ok (.lconst 0, 1) := by decide +kernel
theorem dX8_put_18 : decode cX8_put 18 = .ok (.lcmp, 1) := by decide +kernel
theorem dX8_put_19 : decode cX8_put 19 = .ok (.ifCond .eq 37, 3) := by decide +kernel
theorem dX8_put_22 : decode cX8_put 22 = .ok (.lload 4, 2) := by decide +kernel
theorem dX8_put_24 : decode cX8_put 24 = .ok (.ldc2_w 221, 3) := by decide +kernel
theorem dX8_put_27 : decode cX8_put 27 = .ok (.land, 1) := by decide +kernel
theorem dX8_put_28 : decode cX8_put 28 = .ok (.ldc2_w 223, 3) := by decide +kernel
theorem dX8_put_31 : decode cX8_put 31 = .ok (.ldc2_w 225, 3) := by decide +kernel
theorem dX8_put_34 : decode cX8_put 34 = .ok (.invokestatic 53, 3) := by decide +kernel
theorem dX8_put_37 : decode cX8_put 37 = .ok (.ifCond .ne 6, 3) := by decide +kernel
theorem dX8_put_40 : decode cX8_put 40 = .ok (.bipush (-2), 2) := by decide +kernel
theorem dX8_put_42 : decode cX8_put 42 = .ok (.ireturn, 1) := by decide +kernel
theorem dX8_put_43 : decode cX8_put 43 = .ok (.iinc 3 1, 3) := by decide +kernel
theorem dX8_put_46 : decode cX8_put 46 = .ok (.lload 4, 2) := by decide +kernel
theorem dX8_put_48 : decode cX8_put 48 = .ok (.bipush 8, 2) := by decide +kernel
theorem dX8_put_50 : decode cX8_put 50 = .ok (.lushr, 1) := by decide +kernel
theorem dX8_put_51 : decode cX8_put 51 = .ok (.lstore 4, 2) := by decide +kernel
theorem dX8_put_53 : decode cX8_put 53 = .ok (.goto (-48), 3) := by decide +kernel
theorem dX8_put_56 : decode cX8_put 56 = .ok (.iload_n 3, 1) := by decide +kernel
theorem dX8_put_57 : decode cX8_put 57 = .ok (.ifCond .eq 10, 3) := by decide +kernel
theorem dX8_put_60 : decode cX8_put 60 = .ok (.lload 4, 2) := by decide +kernel
theorem dX8_put_62 : decode cX8_put 62 = .ok (.lconst 0, 1) := by decide +kernel
theorem dX8_put_63 : decode cX8_put 63 = .ok (.lcmp, 1) := by decide +kernel
theorem dX8_put_64 : decode cX8_put 64 = .ok (.ifCond .eq 6, 3) := by decide +kernel
theorem dX8_put_67 : decode cX8_put 67 = .ok (.bipush (-2), 2) := by decide +kernel
theorem dX8_put_69 : decode cX8_put 69 = .ok (.ireturn, 1) := by decide +kernel
theorem dX8_put_70 : decode cX8_put 70 = .ok (.aload_n 0, 1) := by decide +kernel
theorem dX8_put_71 : decode cX8_put 71 = .ok (.getfield 208, 3) := by decide +kernel
theorem dX8_put_74 : decode cX8_put 74 = .ok (.iload_n 3, 1) := by decide +kernel
theorem dX8_put_75 : decode cX8_put 75 = .ok (.iadd, 1) := by decide +kernel
theorem dX8_put_76 : decode cX8_put 76 = .ok (.bipush 80, 2) := by decide +kernel
theorem dX8_put_78 : decode cX8_put 78 = .ok (.if_icmp .le 6, 3) := by decide +kernel
theorem dX8_put_81 : decode cX8_put 81 = .ok (.bipush (-4), 2) := by decide +kernel
theorem dX8_put_83 : decode cX8_put 83 = .ok (.ireturn, 1) := by decide +kernel
theorem dX8_put_84 : decode cX8_put 84 = .ok (.iconst 0, 1) := by decide +kernel
theorem dX8_put_85 : decode cX8_put 85 = .ok (.istore 6, 2) := by decide +kernel
theorem dX8_put_87 : decode cX8_put 87 = .ok (.iload 6, 2) := by decide +kernel
theorem dX8_put_89 : decode cX8_put 89 = .ok (.iload_n 3, 1) := by decide +kernel
theorem dX8_put_90 : decode cX8_put 90 = .ok (.if_icmp .ge 37, 3) := by decide +kernel
theorem dX8_put_93 : decode cX8_put 93 = .ok (.aload_n 0, 1) := by decide +kernel
theorem dX8_put_94 : decode cX8_put 94 = .ok (.getfield 29, 3) := by decide +kernel
theorem dX8_put_97 : decode cX8_put 97 = .ok (.aload_n 0, 1) := by decide +kernel
theorem dX8_put_98 : decode cX8_put 98 = .ok (.getfield 208, 3) := by decide +kernel
theorem dX8_put_101 : decode cX8_put 101 = .ok (.iload 6, 2) := by decide +kernel
theorem dX8_put_103 : decode cX8_put 103 = .ok (.iadd, 1) := by decide +kernel
theorem dX8_put_104 : decode cX8_put 104 = .ok (.lload_n 1, 1) := by decide +kernel
theorem dX8_put_105 : decode cX8_put 105 = .ok (.bipush 8, 2) := by decide +kernel
theorem dX8_put_107 : decode cX8_put 107 = .ok (.iload_n 3, 1) := by decide +kernel
theorem dX8_put_108 : decode cX8_put 108 = .ok (.iconst 1, 1) := by decide +kernel
theorem dX8_put_109 : decode cX8_put 109 = .ok (.isub, 1) := by decide +kernel
theorem dX8_put_110 : decode cX8_put 110 = .ok (.iload 6, 2) := by decide +kernel
theorem dX8_put_112 : decode cX8_put 112 = .ok (.isub, 1) := by decide +kernel
theorem dX8_put_113 : decode cX8_put 113 = .ok (.imul, 1) := by decide +kernel
theorem dX8_put_114 : decode cX8_put 114 = .ok (.lshr, 1) := by decide +kernel
theorem dX8_put_115 : decode cX8_put 115 = .ok (.ldc2_w 221, 3) := by decide +kernel
theorem dX8_put_118 : decode cX8_put 118 = .ok (.land, 1) := by decide +kernel
theorem dX8_put_119 : decode cX8_put 119 = .ok (.l2i, 1) := by decide +kernel
theorem dX8_put_120 : decode cX8_put 120 = .ok (.iastore, 1) := by decide +kernel
theorem dX8_put_121 : decode cX8_put 121 = .ok (.iinc 6 1, 3) := by decide +kernel
theorem dX8_put_124 : decode cX8_put 124 = .ok (.goto (-37), 3) := by decide +kernel
theorem dX8_put_127 : decode cX8_put 127 = .ok (.aload_n 0, 1) := by decide +kernel
theorem dX8_put_128 : decode cX8_put 128 = .ok (.dup, 1) := by decide +kernel
theorem dX8_put_129 : decode cX8_put 129 = .ok (.getfield 208, 3) := by decide +kernel
theorem dX8_put_132 : decode cX8_put 132 = .ok (.iload_n 3, 1) := by decide +kernel
theorem dX8_put_133 : decode cX8_put 133 = .ok (.iadd, 1) := by decide +kernel
theorem dX8_put_134 : decode cX8_put 134 = .ok (.putfield 208, 3) := by decide +kernel
theorem dX8_put_137 : decode cX8_put 137 = .ok (.aload_n 0, 1) := by decide +kernel
theorem dX8_put_138 : decode cX8_put 138 = .ok (.getfield 208, 3) := by decide +kernel
theorem dX8_put_141 : decode cX8_put 141 = .ok (.ireturn, 1) := by decide +kernel
theorem dX8_wipe_0 : decode cX8_wipe 0 = .ok (.aload_n 0, 1) := by decide +kernel
theorem dX8_wipe_1 : decode cX8_wipe 1 = .ok (.getfield 208, 3) := by decide +kernel
theorem dX8_wipe_4 : decode cX8_wipe 4 = .ok (.istore_n 1, 1) := by decide +kernel
theorem dX8_wipe_5 : decode cX8_wipe 5 = .ok (.aload_n 0, 1) := by decide +kernel
theorem dX8_wipe_6 : decode cX8_wipe 6 = .ok (.iconst 0, 1) := by decide +kernel
theorem dX8_wipe_7 : decode cX8_wipe 7 = .ok (.putfield 208, 3) := by decide +kernel
theorem dX8_wipe_10 : decode cX8_wipe 10 = .ok (.iload_n 1, 1) := by decide +kernel
theorem dX8_wipe_11 : decode cX8_wipe 11 = .ok (.ireturn, 1) := by decide +kernel
theorem dX8_next_0 : decode cX8_next 0 = .ok (.aload_n 0, 1) := by decide +kernel
theorem dX8_next_1 : decode cX8_next 1 = .ok (.getfield 227, 3) := by decide +kernel
theorem dX8_next_4 : decode cX8_next 4 = .ok (.aload_n 0, 1) := by decide +kernel
theorem dX8_next_5 : decode cX8_next 5 = .ok (.getfield 208, 3) := by decide +kernel
theorem dX8_next_8 : decode cX8_next 8 = .ok (.if_icmp .ge 15, 3) := by decide +kernel
theorem dX8_next_11 : decode cX8_next 11 = .ok (.aload_n 0, 1) := by decide +kernel
theorem dX8_next_12 : decode cX8_next 12 = .ok (.getfield 29, 3) := by decide +kernel
theorem dX8_next_15 : decode cX8_next 15 = .ok (.aload_n 0, 1) := by decide +kernel
theorem dX8_next_16 : decode cX8_next 16 = .ok (.getfield 227, 3) := by decide +kernel
theorem dX8_next_19 : decode cX8_next 19 = .ok (.iaload, 1) := by decide +kernel
theorem dX8_next_20 : decode cX8_next 20 = .ok (.goto 4, 3) := by decide +kernel
theorem dX8_next_23 : decode cX8_next 23 = .ok (.iconst 0, 1) := by decide +kernel
theorem dX8_next_24 : decode cX8_next 24 = .ok (.ireturn, 1) := by decide +kernel
theorem dX8_takeSign_0 : decode cX8_takeSign 0 = .ok (.aload_n 0, 1) := by decide +kernel
theorem dX8_takeSign_1 : decode cX8_takeSign 1 = .ok (.aload_n 0, 1) := by decide +kernel
theorem dX8_takeSign_2 : decode cX8_takeSign 2 = .ok (.getfield 230, 3) := by decide +kernel
theorem dX8_takeSign_5 : decode cX8_takeSign 5 = .ok (.ifCond .ne 11, 3) := by decide +kernel
theorem dX8_takeSign_8 : decode cX8_takeSign 8 = .ok (.aload_n 0, 1) := by decide +kernel
theorem dX8_takeSign_9 : decode cX8_takeSign 9 = .ok (.invokevirtual 234, 3) := by decide +kernel
theorem dX8_takeSign_12 : decode cX8_takeSign 12 = .ok (.iload_n 1, 1) := by decide +kernel
theorem dX8_takeSign_13 : decode cX8_takeSign 13 = .ok (.if_icmp .eq 7, 3) := by decide +kernel
theorem dX8_takeSign_16 : decode cX8_takeSign 16 = .ok (.iconst 1, 1) := by decide +kernel
theorem dX8_takeSign_17 : decode cX8_takeSign 17 = .ok (.goto 4, 3) := by decide +kernel
theorem dX8_takeSign_20 : decode cX8_takeSign 20 = .ok (.iconst 0, 1) := by decide +kernel
theorem dX8_takeSign_21 : decode cX8_takeSign 21 = .ok (.putfield 230, 3) := by decide +kernel
theorem dX8_takeSign_24 : decode cX8_takeSign 24 = .ok (.aload_n 0, 1) := by decide +kernel
theorem dX8_takeSign_25 : decode cX8_takeSign 25 = .ok (.dup, 1) := by decide +kernel
theorem dX8_takeSign_26 : decode cX8_takeSign 26 = .ok (.getfield 227, 3) := by decide +kernel
theorem dX8_takeSign_29 : decode cX8_takeSign 29 = .ok (.aload_n 0, 1) := by decide +kernel
theorem dX8_takeSign_30 : decode cX8_takeSign 30 = .ok (.getfield 230, 3) := by decide +kernel
theorem dX8_takeSign_33 : decode cX8_takeSign 33 = .ok (.ifCond .eq 7, 3) := by decide +kernel
theorem dX8_takeSign_36 : decode cX8_takeSign 36 = .ok (.iconst 0, 1) := by decide +kernel
theorem dX8_takeSign_37 : decode cX8_takeSign 37 = .ok (.goto 4, 3) := by decide +kernel
theorem dX8_takeSign_40 : decode cX8_takeSign 40 = .ok (.iconst 1, 1) := by decide +kernel
theorem dX8_takeSign_41 : decode cX8_takeSign 41 = .ok (.iadd, 1) := by decide +kernel
theorem dX8_takeSign_42 : decode cX8_takeSign 42 = .ok (.putfield 227, 3) := by decide +kernel
theorem dX8_takeSign_45 : decode cX8_takeSign 45 = .ok (.return_, 1) := by decide +kernel
theorem dX8_takeNumber_0 : decode cX8_takeNumber 0 = .ok (.aload_n 0, 1) := by decide +kernel
theorem dX8_takeNumber_1 : decode cX8_takeNumber 1 = .ok (.aload_n 0, 1) := by decide +kernel
theorem dX8_takeNumber_2 : decode cX8_takeNumber 2 = .ok (.getfield 230, 3) := by decide +kernel
theorem dX8_takeNumber_5 : decode cX8_takeNumber 5 = .ok (.ifCond .ne 20, 3) := by decide +kernel
theorem dX8_takeNumber_8 : decode cX8_takeNumber 8 = .ok (.aload_n 0, 1) := by decide +kernel
theorem dX8_takeNumber_9 : decode cX8_takeNumber 9 = .ok (.invokevirtual 234, 3) := by decide +kernel
theorem dX8_takeNumber_12 : decode cX8_takeNumber 12 = .ok (.i2l, 1) := by decide +kernel
theorem dX8_takeNumber_13 : decode cX8_takeNumber 13 = .ok (.ldc2_w 237, 3) := by decide +kernel
theorem dX8_takeNumber_16 : decode cX8_takeNumber 16 = .ok (.ldc2_w 239, 3) := by decide +kernel
theorem dX8_takeNumber_19 : decode cX8_takeNumber 19 = .ok (.invokestatic 53, 3) := by decide +kernel
theorem dX8_takeNumber_22 : decode cX8_takeNumber 22 = .ok (.ifCond .ne 7, 3) := by decide +kernel
theorem dX8_takeNumber_25 : decode cX8_takeNumber 25 = .ok (.iconst 1, 1) := by decide +kernel
theorem dX8_takeNumber_26 : decode cX8_takeNumber 26 = .ok (.goto 4, 3) := by decide +kernel
theorem dX8_takeNumber_29 : decode cX8_takeNumber 29 = .ok (.iconst 0, 1) := by decide +kernel
theorem dX8_takeNumber_30 : decode cX8_takeNumber 30 = .ok (.putfield 230, 3) := by decide +kernel
theorem dX8_takeNumber_33 : decode cX8_takeNumber 33 = .ok (.aload_n 0, 1) := by decide +kernel
theorem dX8_takeNumber_34 : decode cX8_takeNumber 34 = .ok (.getfield 230, 3) := by decide +kernel
theorem dX8_takeNumber_37 : decode cX8_takeNumber 37 = .ok (.ifCond .eq 4, 3) := by decide +kernel
theorem dX8_takeNumber_40 : decode cX8_takeNumber 40 = .ok (.return_, 1) := by decide +kernel
theorem dX8_takeNumber_41 : decode cX8_takeNumber 41 = .ok (.aload_n 0, 1) := by decide +kernel
theorem dX8_takeNumber_42 : decode cX8_takeNumber 42 = .ok (.invokevirtual 234, 3) := by decide +kernel
theorem dX8_takeNumber_45 : decode cX8_takeNumber 45 = .ok (.bipush 48, 2) := by decide +kernel
theorem dX8_takeNumber_47 : decode cX8_takeNumber 47 = .ok (.isub, 1) := by decide +kernel
theorem dX8_takeNumber_48 : decode cX8_takeNumber 48 = .ok (.istore_n 3, 1) := by decide +kernel
theorem dX8_takeNumber_49 : decode cX8_takeNumber 49 = .ok (.aload_n 0, 1) := by decide +kernel
theorem dX8_takeNumber_50 : decode cX8_takeNumber 50 = .ok (.dup, 1) := by decide +kernel
theorem dX8_takeNumber_51 : decode cX8_takeNumber 51 = .ok (.getfield 227, 3) := by decide +kernel
theorem dX8_takeNumber_54 : decode cX8_takeNumber 54 = .ok (.iconst 1, 1) := by decide +kernel
theorem dX8_takeNumber_55 : decode cX8_takeNumber 55 = .ok (.iadd, 1) := by decide +kernel
theorem dX8_takeNumber_56 : decode cX8_takeNumber 56 = .ok (.putfield 227, 3) := by decide +kernel
theorem dX8_takeNumber_59 : decode cX8_takeNumber 59 = .ok (.aload_n 0, 1) := by decide +kernel
theorem dX8_takeNumber_60 : decode cX8_takeNumber 60 = .ok (.getfield 230, 3) := by decide +kernel
theorem dX8_takeNumber_63 : decode cX8_takeNumber 63 = .ok (.ifCond .ne 97, 3) := by decide +kernel
theorem dX8_takeNumber_66 : decode cX8_takeNumber 66 = .ok (.iload_n 3, 1) := by decide +kernel
theorem dX8_takeNumber_67 : decode cX8_takeNumber 67 = .ok (.ifCond .le 93, 3) := by decide +kernel
theorem dX8_takeNumber_70 : decode cX8_takeNumber 70 = .ok (.aload_n 0, 1) := by decide +kernel
theorem dX8_takeNumber_71 : decode cX8_takeNumber 71 = .ok (.invokevirtual 234, 3) := by decide +kernel
theorem dX8_takeNumber_74 : decode cX8_takeNumber 74 = .ok (.i2l, 1) := by decide +kernel
theorem dX8_takeNumber_75 : decode cX8_takeNumber 75 = .ok (.ldc2_w 237, 3) := by decide +kernel
theorem dX8_takeNumber_78 : decode cX8_takeNumber 78 = .ok (.ldc2_w 239, 3) := by decide +kernel
theorem dX8_takeNumber_81 : decode cX8_takeNumber 81 = .ok (.invokestatic 53, 3) := by decide +kernel
theorem dX8_takeNumber_84 : decode cX8_takeNumber 84 = .ok (.ifCond .eq 76, 3) := by decide +kernel
theorem dX8_takeNumber_87 : decode cX8_takeNumber 87 = .ok (.aload_n 0, 1) := by decide +kernel
theorem dX8_takeNumber_88 : decode cX8_takeNumber 88 = .ok (.bipush 10, 2) := by decide +kernel
theorem dX8_takeNumber_90 : decode cX8_takeNumber 90 = .ok (.iload_n 3, 1) := by decide +kernel
theorem dX8_takeNumber_91 : decode cX8_takeNumber 91 = .ok (.imul, 1) := by decide +kernel
theorem dX8_takeNumber_92 : decode cX8_takeNumber 92 = .ok (.aload_n 0, 1) := by decide +kernel
theorem dX8_takeNumber_93 : decode cX8_takeNumber 93 = .ok (.invokevirtual 234, 3) := by decide +kernel
theorem dX8_takeNumber_96 : decode cX8_takeNumber 96 = .ok (.iadd, 1) := by decide +kernel
theorem dX8_takeNumber_97 : decode cX8_takeNumber 97 = .ok (.bipush 48, 2) := by decide +kernel
theorem dX8_takeNumber_99 : decode cX8_takeNumber 99 = .ok (.isub, 1) := by decide +kernel
theorem dX8_takeNumber_100 : decode cX8_takeNumber 100 = .ok (.iload_n 2, 1) := by decide +kernel
theorem dX8_takeNumber_101 : decode cX8_takeNumber 101 = .ok (.if_icmp .le 7, 3) := by decide +kernel
theorem dX8_takeNumber_104 : decode cX8_takeNumber 104 = .ok (.iconst 1, 1) := by decide +kernel
theorem dX8_takeNumber_105 : decode cX8_takeNumber 105 = .ok (.goto 4, 3) := by decide +kernel
theorem dX8_takeNumber_108 : decode cX8_takeNumber 108 = .ok (.iconst 0, 1) := by decide +kernel
theorem dX8_takeNumber_109 : decode cX8_takeNumber 109 = .ok (.putfield 230, 3) := by decide +kernel
theorem dX8_takeNumber_112 : decode cX8_takeNumber 112 = .ok (.aload_n 0, 1) := by decide +kernel
theorem dX8_takeNumber_113 : decode cX8_takeNumber 113 = .ok (.getfield 230, 3) := by decide +kernel
theorem dX8_takeNumber_116 : decode cX8_takeNumber 116 = .ok (.ifCond .eq 7, 3) := by decide +kernel
theorem dX8_takeNumber_119 : decode cX8_takeNumber 119 = .ok (.iload_n 3, 1) := by decide +kernel
theorem dX8_takeNumber_120 : decode cX8_takeNumber 120 = .ok (.goto 15, 3) := by decide +kernel
theorem dX8_takeNumber_123 : decode cX8_takeNumber 123 = .ok (.bipush 10, 2) := by decide +kernel
theorem dX8_takeNumber_125 : decode cX8_takeNumber 125 = .ok (.iload_n 3, 1) := by decide +kernel
theorem dX8_takeNumber_126 : decode cX8_takeNumber 126 = .ok (.imul, 1) := by decide +kernel
theorem dX8_takeNumber_127 : decode cX8_takeNumber 127 = .ok (.aload_n 0, 1) := by decide +kernel
theorem dX8_takeNumber_128 : decode cX8_takeNumber 128 = .ok (.invokevirtual 234, 3) := by decide +kernel
theorem dX8_takeNumber_131 : decode cX8_takeNumber 131 = .ok (.iadd, 1) := by decide +kernel
theorem dX8_takeNumber_132 : decode cX8_takeNumber 132 = .ok (.bipush 48, 2) := by decide +kernel
theorem dX8_takeNumber_134 : decode cX8_takeNumber 134 = .ok (.isub, 1) := by decide +kernel
theorem dX8_takeNumber_135 : decode cX8_takeNumber 135 = .ok (.istore_n 3, 1) := by decide +kernel
theorem dX8_takeNumber_136 : decode cX8_takeNumber 136 = .ok (.aload_n 0, 1) := by decide +kernel
theorem dX8_takeNumber_137 : decode cX8_takeNumber 137 = .ok (.dup, 1) := by decide +kernel
theorem dX8_takeNumber_138 : decode cX8_takeNumber 138 = .ok (.getfield 227, 3) := by decide +kernel
theorem dX8_takeNumber_141 : decode cX8_takeNumber 141 = .ok (.aload_n 0, 1) := by decide +kernel
theorem dX8_takeNumber_142 : decode cX8_takeNumber 142 = .ok (.getfield 230, 3) := by decide +kernel
theorem dX8_takeNumber_145 : decode cX8_takeNumber 145 = .ok (.ifCond .eq 7, 3) := by decide +kernel
theorem dX8_takeNumber_148 : decode cX8_takeNumber 148 = .ok (.iconst 0, 1) := by decide +kernel
theorem dX8_takeNumber_149 : decode cX8_takeNumber 149 = .ok (.goto 4, 3) := by decide +kernel
theorem dX8_takeNumber_152 : decode cX8_takeNumber 152 = .ok (.iconst 1, 1) := by decide +kernel
theorem dX8_takeNumber_153 : decode cX8_takeNumber 153 = .ok (.iadd, 1) := by decide +kernel
theorem dX8_takeNumber_154 : decode cX8_takeNumber 154 = .ok (.putfield 227, 3) := by decide +kernel
theorem dX8_takeNumber_157 : decode cX8_takeNumber 157 = .ok (.goto (-98), 3) := by decide +kernel
theorem dX8_takeNumber_160 : decode cX8_takeNumber 160 = .ok (.aload_n 0, 1) := by decide +kernel
theorem dX8_takeNumber_161 : decode cX8_takeNumber 161 = .ok (.getfield 36, 3) := by decide +kernel
theorem dX8_takeNumber_164 : decode cX8_takeNumber 164 = .ok (.iconst 3, 1) := by decide +kernel
theorem dX8_takeNumber_165 : decode cX8_takeNumber 165 = .ok (.aload_n 0, 1) := by decide +kernel
theorem dX8_takeNumber_166 : decode cX8_takeNumber 166 = .ok (.getfield 241, 3) := by decide +kernel
theorem dX8_takeNumber_169 : decode cX8_takeNumber 169 = .ok (.imul, 1) := by decide +kernel
theorem dX8_takeNumber_170 : decode cX8_takeNumber 170 = .ok (.iload_n 1, 1) := by decide +kernel
theorem dX8_takeNumber_171 : decode cX8_takeNumber 171 = .ok (.iadd, 1) := by decide +kernel
theorem dX8_takeNumber_172 : decode cX8_takeNumber 172 = .ok (.iload_n 3, 1) := by decide +kernel
theorem dX8_takeNumber_173 : decode cX8_takeNumber 173 = .ok (.iastore, 1) := by decide +kernel
theorem dX8_takeNumber_174 : decode cX8_takeNumber 174 = .ok (.return_, 1) := by decide +kernel
theorem dX8_takeHolder_0 : decode cX8_takeHolder 0 = .ok (.aload_n 0, 1) := by decide +kernel
theorem dX8_takeHolder_1 : decode cX8_takeHolder 1 = .ok (.aload_n 0, 1) := by decide +kernel
theorem dX8_takeHolder_2 : decode cX8_takeHolder 2 = .ok (.getfield 230, 3) := by decide +kernel
theorem dX8_takeHolder_5 : decode cX8_takeHolder 5 = .ok (.ifCond .ne 20, 3) := by decide +kernel
theorem dX8_takeHolder_8 : decode cX8_takeHolder 8 = .ok (.aload_n 0, 1) := by decide +kernel
theorem dX8_takeHolder_9 : decode cX8_takeHolder 9 = .ok (.invokevirtual 234, 3) := by decide +kernel
theorem dX8_takeHolder_12 : decode cX8_takeHolder 12 = .ok (.i2l, 1) := by decide +kernel
theorem dX8_takeHolder_13 : decode cX8_takeHolder 13 = .ok (.ldc2_w 237, 3) := by decide +kernel
theorem dX8_takeHolder_16 : decode cX8_takeHolder 16 = .ok (.ldc2_w 244, 3) := by decide +kernel
theorem dX8_takeHolder_19 : decode cX8_takeHolder 19 = .ok (.invokestatic 53, 3) := by decide +kernel
theorem dX8_takeHolder_22 : decode cX8_takeHolder 22 = .ok (.ifCond .ne 7, 3) := by decide +kernel
theorem dX8_takeHolder_25 : decode cX8_takeHolder 25 = .ok (.iconst 1, 1) := by decide +kernel
theorem dX8_takeHolder_26 : decode cX8_takeHolder 26 = .ok (.goto 4, 3) := by decide +kernel
theorem dX8_takeHolder_29 : decode cX8_takeHolder 29 = .ok (.iconst 0, 1) := by decide +kernel
theorem dX8_takeHolder_30 : decode cX8_takeHolder 30 = .ok (.putfield 230, 3) := by decide +kernel
theorem dX8_takeHolder_33 : decode cX8_takeHolder 33 = .ok (.aload_n 0, 1) := by decide +kernel
theorem dX8_takeHolder_34 : decode cX8_takeHolder 34 = .ok (.getfield 230, 3) := by decide +kernel
theorem dX8_takeHolder_37 : decode cX8_takeHolder 37 = .ok (.ifCond .ne 31, 3) := by decide +kernel
theorem dX8_takeHolder_40 : decode cX8_takeHolder 40 = .ok (.aload_n 0, 1) := by decide +kernel
theorem dX8_takeHolder_41 : decode cX8_takeHolder 41 = .ok (.getfield 36, 3) := by decide +kernel
theorem dX8_takeHolder_44 : decode cX8_takeHolder 44 = .ok (.iconst 3, 1) := by decide +kernel
theorem dX8_takeHolder_45 : decode cX8_takeHolder 45 = .ok (.aload_n 0, 1) := by decide +kernel
theorem dX8_takeHolder_46 : decode cX8_takeHolder 46 = .ok (.getfield 241, 3) := by decide +kernel
theorem dX8_takeHolder_49 : decode cX8_takeHolder 49 = .ok (.imul, 1) := by decide +kernel
theorem dX8_takeHolder_50 : decode cX8_takeHolder 50 = .ok (.aload_n 0, 1) := by decide +kernel
theorem dX8_takeHolder_51 : decode cX8_takeHolder 51 = .ok (.invokevirtual 234, 3) := by decide +kernel
theorem dX8_takeHolder_54 : decode cX8_takeHolder 54 = .ok (.bipush 48, 2) := by decide +kernel
theorem dX8_takeHolder_56 : decode cX8_takeHolder 56 = .ok (.isub, 1) := by decide +kernel
theorem dX8_takeHolder_57 : decode cX8_takeHolder 57 = .ok (.iastore, 1) := by decide +kernel
theorem dX8_takeHolder_58 : decode cX8_takeHolder 58 = .ok (.aload_n 0, 1) := by decide +kernel
theorem dX8_takeHolder_59 : decode cX8_takeHolder 59 = .ok (.dup, 1) := by decide +kernel
theorem dX8_takeHolder_60 : decode cX8_takeHolder 60 = .ok (.getfield 227, 3) := by decide +kernel
theorem dX8_takeHolder_63 : decode cX8_takeHolder 63 = .ok (.iconst 1, 1) := by decide +kernel
theorem dX8_takeHolder_64 : decode cX8_takeHolder 64 = .ok (.iadd, 1) := by decide +kernel
theorem dX8_takeHolder_65 : decode cX8_takeHolder 65 = .ok (.putfield 227, 3) := by decide +kernel
theorem dX8_takeHolder_68 : decode cX8_takeHolder 68 = .ok (.return_, 1) := by decide +kernel
theorem dX8_takeOrdering_0 : decode cX8_takeOrdering 0 = .ok (.aload_n 0, 1) := by decide +kernel
theorem dX8_takeOrdering_1 : decode cX8_takeOrdering 1 = .ok (.invokevirtual 246, 3) := by decide +kernel
theorem dX8_takeOrdering_4 : decode cX8_takeOrdering 4 = .ok (.aload_n 0, 1) := by decide +kernel
theorem dX8_takeOrdering_5 : decode cX8_takeOrdering 5 = .ok (.bipush 58, 2) := by decide +kernel
theorem dX8_takeOrdering_7 : decode cX8_takeOrdering 7 = .ok (.invokevirtual 249, 3) := by decide +kernel
theorem dX8_takeOrdering_10 : decode cX8_takeOrdering 10 = .ok (.aload_n 0, 1) := by decide +kernel
theorem dX8_takeOrdering_11 : decode cX8_takeOrdering 11 = .ok (.iconst 1, 1) := by decide +kernel
theorem dX8_takeOrdering_12 : decode cX8_takeOrdering 12 = .ok (.ldc 253, 2) := by decide +kernel
theorem dX8_takeOrdering_14 : decode cX8_takeOrdering 14 = .ok (.invokevirtual 254, 3) := by decide +kernel
theorem dX8_takeOrdering_17 : decode cX8_takeOrdering 17 = .ok (.aload_n 0, 1) := by decide +kernel
theorem dX8_takeOrdering_18 : decode cX8_takeOrdering 18 = .ok (.getfield 36, 3) := by decide +kernel
theorem dX8_takeOrdering_21 : decode cX8_takeOrdering 21 = .ok (.iconst 3, 1) := by decide +kernel
theorem dX8_takeOrdering_22 : decode cX8_takeOrdering 22 = .ok (.aload_n 0, 1) := by decide +kernel
theorem dX8_takeOrdering_23 : decode cX8_takeOrdering 23 = .ok (.getfield 241, 3) := by decide +kernel
theorem dX8_takeOrdering_26 : decode cX8_takeOrdering 26 = .ok (.imul, 1) := by decide +kernel
theorem dX8_takeOrdering_27 : decode cX8_takeOrdering 27 = .ok (.iconst 2, 1) := by decide +kernel
theorem dX8_takeOrdering_28 : decode cX8_takeOrdering 28 = .ok (.iadd, 1) := by decide +kernel
theorem dX8_takeOrdering_29 : decode cX8_takeOrdering 29 = .ok (.iconst 0, 1) := by decide +kernel
theorem dX8_takeOrdering_30 : decode cX8_takeOrdering 30 = .ok (.iastore, 1) := by decide +kernel
theorem dX8_takeOrdering_31 : decode cX8_takeOrdering 31 = .ok (.aload_n 0, 1) := by decide +kernel
theorem dX8_takeOrdering_32 : decode cX8_takeOrdering 32 = .ok (.getfield 230, 3) := by decide +kernel
theorem dX8_takeOrdering_35 : decode cX8_takeOrdering 35 = .ok (.ifCond .ne 29, 3) := by decide +kernel
theorem dX8_takeOrdering_38 : decode cX8_takeOrdering 38 = .ok (.aload_n 0, 1) := by decide +kernel
theorem dX8_takeOrdering_39 : decode cX8_takeOrdering 39 = .ok (.invokevirtual 234, 3) := by decide +kernel
theorem dX8_takeOrdering_42 : decode cX8_takeOrdering 42 = .ok (.bipush 64, 2) := by decide +kernel
theorem dX8_takeOrdering_44 : decode cX8_takeOrdering 44 = .ok (.if_icmp .ne 20, 3) := by decide +kernel
theorem dX8_takeOrdering_47 : decode cX8_takeOrdering 47 = .ok (.aload_n 0, 1) := by decide +kernel
theorem dX8_takeOrdering_48 : decode cX8_takeOrdering 48 = .ok (.dup, 1) := by decide +kernel
theorem dX8_takeOrdering_49 : decode cX8_takeOrdering 49 = .ok (.getfield 227, 3) := by decide +kernel
theorem dX8_takeOrdering_52 : decode cX8_takeOrdering 52 = .ok (.iconst 1, 1) := by decide +kernel
theorem dX8_takeOrdering_53 : decode cX8_takeOrdering 53 = .ok (.iadd, 1) := by decide +kernel
theorem dX8_takeOrdering_54 : decode cX8_takeOrdering 54 = .ok (.putfield 227, 3) := by decide +kernel
theorem dX8_takeOrdering_57 : decode cX8_takeOrdering 57 = .ok (.aload_n 0, 1) := by decide +kernel
theorem dX8_takeOrdering_58 : decode cX8_takeOrdering 58 = .ok (.iconst 2, 1) := by decide +kernel
theorem dX8_takeOrdering_59 : decode cX8_takeOrdering 59 = .ok (.bipush 23, 2) := by decide +kernel
theorem dX8_takeOrdering_61 : decode cX8_takeOrdering 61 = .ok (.invokevirtual 254, 3) := by decide +kernel
theorem dX8_takeOrdering_64 : decode cX8_takeOrdering 64 = .ok (.return_, 1) := by decide +kernel
theorem dX8_takeOrder_0 : decode cX8_takeOrder 0 = .ok (.aload_n 0, 1) := by decide +kernel
theorem dX8_takeOrder_1 : decode cX8_takeOrder 1 = .ok (.invokevirtual 234, 3) := by decide +kernel
theorem dX8_takeOrder_4 : decode cX8_takeOrder 4 = .ok (.istore_n 1, 1) := by decide +kernel
theorem dX8_takeOrder_5 : decode cX8_takeOrder 5 = .ok (.aload_n 0, 1) := by decide +kernel
theorem dX8_takeOrder_6 : decode cX8_takeOrder 6 = .ok (.iload_n 1, 1) := by decide +kernel
theorem dX8_takeOrder_7 : decode cX8_takeOrder 7 = .ok (.bipush 98, 2) := by decide +kernel
theorem dX8_takeOrder_9 : decode cX8_takeOrder 9 = .ok (.if_icmp .eq 37, 3) := by decide +kernel
theorem dX8_takeOrder_12 : decode cX8_takeOrder 12 = .ok (.iload_n 1, 1) := by decide +kernel
theorem dX8_takeOrder_13 : decode cX8_takeOrder 13 = .ok (.bipush 108, 2) := by decide +kernel
theorem dX8_takeOrder_15 : decode cX8_takeOrder 15 = .ok (.if_icmp .eq 31, 3) := by decide +kernel
theorem dX8_takeOrder_18 : decode cX8_takeOrder 18 = .ok (.iload_n 1, 1) := by decide +kernel
theorem dX8_takeOrder_19 : decode cX8_takeOrder 19 = .ok (.bipush 113, 2) := by decide +kernel
theorem dX8_takeOrder_21 : decode cX8_takeOrder 21 = .ok (.if_icmp .eq 25, 3) := by decide +kernel
theorem dX8_takeOrder_24 : decode cX8_takeOrder 24 = .ok (.iload_n 1, 1) := by decide +kernel
theorem dX8_takeOrder_25 : decode cX8_takeOrder 25 = .ok (.bipush 105, 2) := by decide +kernel
theorem dX8_takeOrder_27 : decode cX8_takeOrder 27 = .ok (.if_icmp .eq 19, 3) := by decide +kernel
theorem dX8_takeOrder_30 : decode cX8_takeOrder 30 = .ok (.iload_n 1, 1) := by decide +kernel
theorem dX8_takeOrder_31 : decode cX8_takeOrder 31 = .ok (.bipush 100, 2) := by decide +kernel
theorem dX8_takeOrder_33 : decode cX8_takeOrder 33 = .ok (.if_icmp .eq 13, 3) := by decide +kernel
theorem dX8_takeOrder_36 : decode cX8_takeOrder 36 = .ok (.iload_n 1, 1) := by decide +kernel
theorem dX8_takeOrder_37 : decode cX8_takeOrder 37 = .ok (.bipush 112, 2) := by decide +kernel
theorem dX8_takeOrder_39 : decode cX8_takeOrder 39 = .ok (.if_icmp .eq 7, 3) := by decide +kernel
theorem dX8_takeOrder_42 : decode cX8_takeOrder 42 = .ok (.iconst 1, 1) := by decide +kernel
theorem dX8_takeOrder_43 : decode cX8_takeOrder 43 = .ok (.goto 4, 3) := by decide +kernel
theorem dX8_takeOrder_46 : decode cX8_takeOrder 46 = .ok (.iconst 0, 1) := by decide +kernel
theorem dX8_takeOrder_47 : decode cX8_takeOrder 47 = .ok (.putfield 230, 3) := by decide +kernel
theorem dX8_takeOrder_50 : decode cX8_takeOrder 50 = .ok (.aload_n 0, 1) := by decide +kernel
theorem dX8_takeOrder_51 : decode cX8_takeOrder 51 = .ok (.getfield 230, 3) := by decide +kernel
theorem dX8_takeOrder_54 : decode cX8_takeOrder 54 = .ok (.ifCond .eq 4, 3) := by decide +kernel
theorem dX8_takeOrder_57 : decode cX8_takeOrder 57 = .ok (.return_, 1) := by decide +kernel
theorem dX8_takeOrder_58 : decode cX8_takeOrder 58 = .ok (.aload_n 0, 1) := by decide +kernel
theorem dX8_takeOrder_59 : decode cX8_takeOrder 59 = .ok (.dup, 1) := by decide +kernel
theorem dX8_takeOrder_60 : decode cX8_takeOrder 60 = .ok (.getfield 227, 3) := by decide +kernel
theorem dX8_takeOrder_63 : decode cX8_takeOrder 63 = .ok (.iconst 1, 1) := by decide +kernel
theorem dX8_takeOrder_64 : decode cX8_takeOrder 64 = .ok (.iadd, 1) := by decide +kernel
theorem dX8_takeOrder_65 : decode cX8_takeOrder 65 = .ok (.putfield 227, 3) := by decide +kernel
theorem dX8_takeOrder_68 : decode cX8_takeOrder 68 = .ok (.iload_n 1, 1) := by decide +kernel
theorem dX8_takeOrder_69 : decode cX8_takeOrder 69 = .ok (.bipush 98, 2) := by decide +kernel
theorem dX8_takeOrder_71 : decode cX8_takeOrder 71 = .ok (.if_icmp .eq 9, 3) := by decide +kernel
theorem dX8_takeOrder_74 : decode cX8_takeOrder 74 = .ok (.iload_n 1, 1) := by decide +kernel
theorem dX8_takeOrder_75 : decode cX8_takeOrder 75 = .ok (.bipush 108, 2) := by decide +kernel
theorem dX8_takeOrder_77 : decode cX8_takeOrder 77 = .ok (.if_icmp .ne 10, 3) := by decide +kernel
theorem dX8_takeOrder_80 : decode cX8_takeOrder 80 = .ok (.aload_n 0, 1) := by decide +kernel
theorem dX8_takeOrder_81 : decode cX8_takeOrder 81 = .ok (.invokevirtual 257, 3) := by decide +kernel
theorem dX8_takeOrder_84 : decode cX8_takeOrder 84 = .ok (.goto 22, 3) := by decide +kernel
theorem dX8_takeOrder_87 : decode cX8_takeOrder 87 = .ok (.iload_n 1, 1) := by decide +kernel
theorem dX8_takeOrder_88 : decode cX8_takeOrder 88 = .ok (.bipush 113, 2) := by decide +kernel
theorem dX8_takeOrder_90 : decode cX8_takeOrder 90 = .ok (.if_icmp .eq 9, 3) := by decide +kernel
theorem dX8_takeOrder_93 : decode cX8_takeOrder 93 = .ok (.iload_n 1, 1) := by decide +kernel
theorem dX8_takeOrder_94 : decode cX8_takeOrder 94 = .ok (.bipush 105, 2) := by decide +kernel
theorem dX8_takeOrder_96 : decode cX8_takeOrder 96 = .ok (.if_icmp .ne 10, 3) := by decide +kernel
theorem dX8_takeOrder_99 : decode cX8_takeOrder 99 = .ok (.aload_n 0, 1) := by decide +kernel
theorem dX8_takeOrder_100 : decode cX8_takeOrder 100 = .ok (.iconst 0, 1) := by decide +kernel
theorem dX8_takeOrder_101 : decode cX8_takeOrder 101 = .ok (.ldc 253, 2) := by decide +kernel
theorem dX8_takeOrder_103 : decode cX8_takeOrder 103 = .ok (.invokevirtual 254, 3) := by decide +kernel
theorem dX8_takeOrder_106 : decode cX8_takeOrder 106 = .ok (.aload_n 0, 1) := by decide +kernel
theorem dX8_takeOrder_107 : decode cX8_takeOrder 107 = .ok (.getfield 230, 3) := by decide +kernel
theorem dX8_takeOrder_110 : decode cX8_takeOrder 110 = .ok (.ifCond .ne 23, 3) := by decide +kernel
theorem dX8_takeOrder_113 : decode cX8_takeOrder 113 = .ok (.aload_n 0, 1) := by decide +kernel
theorem dX8_takeOrder_114 : decode cX8_takeOrder 114 = .ok (.getfield 33, 3) := by decide +kernel
theorem dX8_takeOrder_117 : decode cX8_takeOrder 117 = .ok (.aload_n 0, 1) := by decide +kernel
theorem dX8_takeOrder_118 : decode cX8_takeOrder 118 = .ok (.getfield 241, 3) := by decide +kernel
theorem dX8_takeOrder_121 : decode cX8_takeOrder 121 = .ok (.iload_n 1, 1) := by decide +kernel
theorem dX8_takeOrder_122 : decode cX8_takeOrder 122 = .ok (.iastore, 1) := by decide +kernel
theorem dX8_takeOrder_123 : decode cX8_takeOrder 123 = .ok (.aload_n 0, 1) := by decide +kernel
theorem dX8_takeOrder_124 : decode cX8_takeOrder 124 = .ok (.dup, 1) := by decide +kernel
theorem dX8_takeOrder_125 : decode cX8_takeOrder 125 = .ok (.getfield 241, 3) := by decide +kernel
theorem dX8_takeOrder_128 : decode cX8_takeOrder 128 = .ok (.iconst 1, 1) := by decide +kernel
theorem dX8_takeOrder_129 : decode cX8_takeOrder 129 = .ok (.iadd, 1) := by decide +kernel
theorem dX8_takeOrder_130 : decode cX8_takeOrder 130 = .ok (.putfield 241, 3) := by decide +kernel
theorem dX8_takeOrder_133 : decode cX8_takeOrder 133 = .ok (.return_, 1) := by decide +kernel
theorem dX8_fault_0 : decode cX8_fault 0 = .ok (.aload_n 0, 1) := by decide +kernel
theorem dX8_fault_1 : decode cX8_fault 1 = .ok (.iconst 0, 1) := by decide +kernel
theorem dX8_fault_2 : decode cX8_fault 2 = .ok (.putfield 227, 3) := by decide +kernel
theorem dX8_fault_5 : decode cX8_fault 5 = .ok (.aload_n 0, 1) := by decide +kernel
theorem dX8_fault_6 : decode cX8_fault 6 = .ok (.iconst 0, 1) := by decide +kernel
theorem dX8_fault_7 : decode cX8_fault 7 = .ok (.putfield 230, 3) := by decide +kernel
theorem dX8_fault_10 : decode cX8_fault 10 = .ok (.aload_n 0, 1) := by decide +kernel
theorem dX8_fault_11 : decode cX8_fault 11 = .ok (.iconst 0, 1) := by decide +kernel
theorem dX8_fault_12 : decode cX8_fault 12 = .ok (.putfield 241, 3) := by decide +kernel
theorem dX8_fault_15 : decode cX8_fault 15 = .ok (.aload_n 0, 1) := by decide +kernel
theorem dX8_fault_16 : decode cX8_fault 16 = .ok (.invokevirtual 260, 3) := by decide +kernel
theorem dX8_fault_19 : decode cX8_fault 19 = .ok (.aload_n 0, 1) := by decide +kernel
theorem dX8_fault_20 : decode cX8_fault 20 = .ok (.getfield 230, 3) := by decide +kernel
theorem dX8_fault_23 : decode cX8_fault 23 = .ok (.ifCond .ne 34, 3) := by decide +kernel
theorem dX8_fault_26 : decode cX8_fault 26 = .ok (.aload_n 0, 1) := by decide +kernel
theorem dX8_fault_27 : decode cX8_fault 27 = .ok (.getfield 227, 3) := by decide +kernel
theorem dX8_fault_30 : decode cX8_fault 30 = .ok (.aload_n 0, 1) := by decide +kernel
theorem dX8_fault_31 : decode cX8_fault 31 = .ok (.getfield 208, 3) := by decide +kernel
theorem dX8_fault_34 : decode cX8_fault 34 = .ok (.if_icmp .ge 23, 3) := by decide +kernel
theorem dX8_fault_37 : decode cX8_fault 37 = .ok (.aload_n 0, 1) := by decide +kernel
theorem dX8_fault_38 : decode cX8_fault 38 = .ok (.bipush 59, 2) := by decide +kernel
theorem dX8_fault_40 : decode cX8_fault 40 = .ok (.invokevirtual 249, 3) := by decide +kernel
theorem dX8_fault_43 : decode cX8_fault 43 = .ok (.aload_n 0, 1) := by decide +kernel
theorem dX8_fault_44 : decode cX8_fault 44 = .ok (.getfield 230, 3) := by decide +kernel
theorem dX8_fault_47 : decode cX8_fault 47 = .ok (.ifCond .ne (-28), 3) := by decide +kernel
theorem dX8_fault_50 : decode cX8_fault 50 = .ok (.aload_n 0, 1) := by decide +kernel
theorem dX8_fault_51 : decode cX8_fault 51 = .ok (.invokevirtual 260, 3) := by decide +kernel
theorem dX8_fault_54 : decode cX8_fault 54 = .ok (.goto (-35), 3) := by decide +kernel
theorem dX8_fault_57 : decode cX8_fault 57 = .ok (.aload_n 0, 1) := by decide +kernel
theorem dX8_fault_58 : decode cX8_fault 58 = .ok (.getfield 230, 3) := by decide +kernel
theorem dX8_fault_61 : decode cX8_fault 61 = .ok (.ifCond .eq 10, 3) := by decide +kernel
theorem dX8_fault_64 : decode cX8_fault 64 = .ok (.aload_n 0, 1) := by decide +kernel
theorem dX8_fault_65 : decode cX8_fault 65 = .ok (.getfield 227, 3) := by decide +kernel
theorem dX8_fault_68 : decode cX8_fault 68 = .ok (.goto 5, 3) := by decide +kernel
theorem dX8_fault_71 : decode cX8_fault 71 = .ok (.bipush (-6), 2) := by decide +kernel
theorem dX8_fault_73 : decode cX8_fault 73 = .ok (.ireturn, 1) := by decide +kernel
theorem dX8_carry_0 : decode cX8_carry 0 = .ok (.iconst 3, 1) := by decide +kernel
theorem dX8_carry_1 : decode cX8_carry 1 = .ok (.iload_n 1, 1) := by decide +kernel
theorem dX8_carry_2 : decode cX8_carry 2 = .ok (.imul, 1) := by decide +kernel
theorem dX8_carry_3 : decode cX8_carry 3 = .ok (.istore_n 2, 1) := by decide +kernel
theorem dX8_carry_4 : decode cX8_carry 4 = .ok (.aload_n 0, 1) := by decide +kernel
theorem dX8_carry_5 : decode cX8_carry 5 = .ok (.getfield 33, 3) := by decide +kernel
theorem dX8_carry_8 : decode cX8_carry 8 = .ok (.iload_n 1, 1) := by decide +kernel
theorem dX8_carry_9 : decode cX8_carry 9 = .ok (.iaload, 1) := by decide +kernel
theorem dX8_carry_10 : decode cX8_carry 10 = .ok (.lookupswitch 136 #[(98, 50), (100, 130), (105, 118), (108, 78), (113, 106)], 50) := by decide +kernel
theorem dX8_carry_60 : decode cX8_carry 60 = .ok (.aload_n 0, 1) := by decide +kernel
theorem dX8_carry_61 : decode cX8_carry 61 = .ok (.aload_n 0, 1) := by decide +kernel
theorem dX8_carry_62 : decode cX8_carry 62 = .ok (.getfield 36, 3) := by decide +kernel
theorem dX8_carry_65 : decode cX8_carry 65 = .ok (.iload_n 2, 1) := by decide +kernel
theorem dX8_carry_66 : decode cX8_carry 66 = .ok (.iaload, 1) := by decide +kernel
theorem dX8_carry_67 : decode cX8_carry 67 = .ok (.aload_n 0, 1) := by decide +kernel
theorem dX8_carry_68 : decode cX8_carry 68 = .ok (.getfield 36, 3) := by decide +kernel
theorem dX8_carry_71 : decode cX8_carry 71 = .ok (.iload_n 2, 1) := by decide +kernel
theorem dX8_carry_72 : decode cX8_carry 72 = .ok (.iconst 1, 1) := by decide +kernel
theorem dX8_carry_73 : decode cX8_carry 73 = .ok (.iadd, 1) := by decide +kernel
theorem dX8_carry_74 : decode cX8_carry 74 = .ok (.iaload, 1) := by decide +kernel
theorem dX8_carry_75 : decode cX8_carry 75 = .ok (.aload_n 0, 1) := by decide +kernel
theorem dX8_carry_76 : decode cX8_carry 76 = .ok (.getfield 36, 3) := by decide +kernel
theorem dX8_carry_79 : decode cX8_carry 79 = .ok (.iload_n 2, 1) := by decide +kernel
theorem dX8_carry_80 : decode cX8_carry 80 = .ok (.iconst 2, 1) := by decide +kernel
theorem dX8_carry_81 : decode cX8_carry 81 = .ok (.iadd, 1) := by decide +kernel
theorem dX8_carry_82 : decode cX8_carry 82 = .ok (.iaload, 1) := by decide +kernel
theorem dX8_carry_83 : decode cX8_carry 83 = .ok (.iconst 0, 1) := by decide +kernel
theorem dX8_carry_84 : decode cX8_carry 84 = .ok (.invokevirtual 122, 3) := by decide +kernel
theorem dX8_carry_87 : decode cX8_carry 87 = .ok (.ireturn, 1) := by decide +kernel
theorem dX8_carry_88 : decode cX8_carry 88 = .ok (.aload_n 0, 1) := by decide +kernel
theorem dX8_carry_89 : decode cX8_carry 89 = .ok (.aload_n 0, 1) := by decide +kernel
theorem dX8_carry_90 : decode cX8_carry 90 = .ok (.getfield 36, 3) := by decide +kernel
theorem dX8_carry_93 : decode cX8_carry 93 = .ok (.iload_n 2, 1) := by decide +kernel
theorem dX8_carry_94 : decode cX8_carry 94 = .ok (.iaload, 1) := by decide +kernel
theorem dX8_carry_95 : decode cX8_carry 95 = .ok (.aload_n 0, 1) := by decide +kernel
theorem dX8_carry_96 : decode cX8_carry 96 = .ok (.getfield 36, 3) := by decide +kernel
theorem dX8_carry_99 : decode cX8_carry 99 = .ok (.iload_n 2, 1) := by decide +kernel
theorem dX8_carry_100 : decode cX8_carry 100 = .ok (.iconst 1, 1) := by decide +kernel
theorem dX8_carry_101 : decode cX8_carry 101 = .ok (.iadd, 1) := by decide +kernel
theorem dX8_carry_102 : decode cX8_carry 102 = .ok (.iaload, 1) := by decide +kernel
theorem dX8_carry_103 : decode cX8_carry 103 = .ok (.aload_n 0, 1) := by decide +kernel
theorem dX8_carry_104 : decode cX8_carry 104 = .ok (.getfield 36, 3) := by decide +kernel
theorem dX8_carry_107 : decode cX8_carry 107 = .ok (.iload_n 2, 1) := by decide +kernel
theorem dX8_carry_108 : decode cX8_carry 108 = .ok (.iconst 2, 1) := by decide +kernel
theorem dX8_carry_109 : decode cX8_carry 109 = .ok (.iadd, 1) := by decide +kernel
theorem dX8_carry_110 : decode cX8_carry 110 = .ok (.iaload, 1) := by decide +kernel
theorem dX8_carry_111 : decode cX8_carry 111 = .ok (.iconst 0, 1) := by decide +kernel
theorem dX8_carry_112 : decode cX8_carry 112 = .ok (.invokevirtual 129, 3) := by decide +kernel
theorem dX8_carry_115 : decode cX8_carry 115 = .ok (.ireturn, 1) := by decide +kernel
theorem dX8_carry_116 : decode cX8_carry 116 = .ok (.aload_n 0, 1) := by decide +kernel
theorem dX8_carry_117 : decode cX8_carry 117 = .ok (.aload_n 0, 1) := by decide +kernel
theorem dX8_carry_118 : decode cX8_carry 118 = .ok (.getfield 36, 3) := by decide +kernel
theorem dX8_carry_121 : decode cX8_carry 121 = .ok (.iload_n 2, 1) := by decide +kernel
theorem dX8_carry_122 : decode cX8_carry 122 = .ok (.iaload, 1) := by decide +kernel
theorem dX8_carry_123 : decode cX8_carry 123 = .ok (.iconst 0, 1) := by decide +kernel
theorem dX8_carry_124 : decode cX8_carry 124 = .ok (.invokevirtual 196, 3) := by decide +kernel
theorem dX8_carry_127 : decode cX8_carry 127 = .ok (.ireturn, 1) := by decide +kernel
theorem dX8_carry_128 : decode cX8_carry 128 = .ok (.aload_n 0, 1) := by decide +kernel
theorem dX8_carry_129 : decode cX8_carry 129 = .ok (.aload_n 0, 1) := by decide +kernel
theorem dX8_carry_130 : decode cX8_carry 130 = .ok (.getfield 36, 3) := by decide +kernel
theorem dX8_carry_133 : decode cX8_carry 133 = .ok (.iload_n 2, 1) := by decide +kernel
theorem dX8_carry_134 : decode cX8_carry 134 = .ok (.iaload, 1) := by decide +kernel
theorem dX8_carry_135 : decode cX8_carry 135 = .ok (.iconst 0, 1) := by decide +kernel
theorem dX8_carry_136 : decode cX8_carry 136 = .ok (.invokevirtual 202, 3) := by decide +kernel
theorem dX8_carry_139 : decode cX8_carry 139 = .ok (.ireturn, 1) := by decide +kernel
theorem dX8_carry_140 : decode cX8_carry 140 = .ok (.aload_n 0, 1) := by decide +kernel
theorem dX8_carry_141 : decode cX8_carry 141 = .ok (.iconst 0, 1) := by decide +kernel
theorem dX8_carry_142 : decode cX8_carry 142 = .ok (.invokevirtual 190, 3) := by decide +kernel
theorem dX8_carry_145 : decode cX8_carry 145 = .ok (.ireturn, 1) := by decide +kernel
theorem dX8_carry_146 : decode cX8_carry 146 = .ok (.aload_n 0, 1) := by decide +kernel
theorem dX8_carry_147 : decode cX8_carry 147 = .ok (.iconst 0, 1) := by decide +kernel
theorem dX8_carry_148 : decode cX8_carry 148 = .ok (.invokevirtual 205, 3) := by decide +kernel
theorem dX8_carry_151 : decode cX8_carry 151 = .ok (.ireturn, 1) := by decide +kernel
theorem dX8_carryOut_0 : decode cX8_carryOut 0 = .ok (.aload_n 0, 1) := by decide +kernel
theorem dX8_carryOut_1 : decode cX8_carryOut 1 = .ok (.invokevirtual 263, 3) := by decide +kernel
theorem dX8_carryOut_4 : decode cX8_carryOut 4 = .ok (.ifCond .lt 6, 3) := by decide +kernel
theorem dX8_carryOut_7 : decode cX8_carryOut 7 = .ok (.bipush (-3), 2) := by decide +kernel
theorem dX8_carryOut_9 : decode cX8_carryOut 9 = .ok (.ireturn, 1) := by decide +kernel
theorem dX8_carryOut_10 : decode cX8_carryOut 10 = .ok (.aload_n 0, 1) := by decide +kernel
theorem dX8_carryOut_11 : decode cX8_carryOut 11 = .ok (.invokevirtual 68, 3) := by decide +kernel
theorem dX8_carryOut_14 : decode cX8_carryOut 14 = .ok (.iconst 0, 1) := by decide +kernel
theorem dX8_carryOut_15 : decode cX8_carryOut 15 = .ok (.istore_n 1, 1) := by decide +kernel
theorem dX8_carryOut_16 : decode cX8_carryOut 16 = .ok (.iload_n 1, 1) := by decide +kernel
theorem dX8_carryOut_17 : decode cX8_carryOut 17 = .ok (.aload_n 0, 1) := by decide +kernel
theorem dX8_carryOut_18 : decode cX8_carryOut 18 = .ok (.getfield 241, 3) := by decide +kernel
theorem dX8_carryOut_21 : decode cX8_carryOut 21 = .ok (.if_icmp .ge 17, 3) := by decide +kernel
theorem dX8_carryOut_24 : decode cX8_carryOut 24 = .ok (.aload_n 0, 1) := by decide +kernel
theorem dX8_carryOut_25 : decode cX8_carryOut 25 = .ok (.iload_n 1, 1) := by decide +kernel
theorem dX8_carryOut_26 : decode cX8_carryOut 26 = .ok (.invokevirtual 266, 3) := by decide +kernel
theorem dX8_carryOut_29 : decode cX8_carryOut 29 = .ok (.ifCond .lt 9, 3) := by decide +kernel
theorem dX8_carryOut_32 : decode cX8_carryOut 32 = .ok (.iinc 1 1, 3) := by decide +kernel
theorem dX8_carryOut_35 : decode cX8_carryOut 35 = .ok (.goto (-19), 3) := by decide +kernel
theorem dX8_carryOut_38 : decode cX8_carryOut 38 = .ok (.aload_n 0, 1) := by decide +kernel
theorem dX8_carryOut_39 : decode cX8_carryOut 39 = .ok (.iconst 0, 1) := by decide +kernel
theorem dX8_carryOut_40 : decode cX8_carryOut 40 = .ok (.putfield 208, 3) := by decide +kernel
theorem dX8_carryOut_43 : decode cX8_carryOut 43 = .ok (.iload_n 1, 1) := by decide +kernel
theorem dX8_carryOut_44 : decode cX8_carryOut 44 = .ok (.ireturn, 1) := by decide +kernel
theorem dX8_undo_0 : decode cX8_undo 0 = .ok (.aload_n 0, 1) := by decide +kernel
theorem dX8_undo_1 : decode cX8_undo 1 = .ok (.getfield 61, 3) := by decide +kernel
theorem dX8_undo_4 : decode cX8_undo 4 = .ok (.ifCond .ne 6, 3) := by decide +kernel
theorem dX8_undo_7 : decode cX8_undo 7 = .ok (.bipush (-5), 2) := by decide +kernel
theorem dX8_undo_9 : decode cX8_undo 9 = .ok (.ireturn, 1) := by decide +kernel
theorem dX8_undo_10 : decode cX8_undo 10 = .ok (.aload_n 0, 1) := by decide +kernel
theorem dX8_undo_11 : decode cX8_undo 11 = .ok (.dup, 1) := by decide +kernel
theorem dX8_undo_12 : decode cX8_undo 12 = .ok (.getfield 61, 3) := by decide +kernel
theorem dX8_undo_15 : decode cX8_undo 15 = .ok (.iconst 1, 1) := by decide +kernel
theorem dX8_undo_16 : decode cX8_undo 16 = .ok (.isub, 1) := by decide +kernel
theorem dX8_undo_17 : decode cX8_undo 17 = .ok (.putfield 61, 3) := by decide +kernel
theorem dX8_undo_20 : decode cX8_undo 20 = .ok (.aload_n 0, 1) := by decide +kernel
theorem dX8_undo_21 : decode cX8_undo 21 = .ok (.getfield 65, 3) := by decide +kernel
theorem dX8_undo_24 : decode cX8_undo 24 = .ok (.aload_n 0, 1) := by decide +kernel
theorem dX8_undo_25 : decode cX8_undo 25 = .ok (.getfield 61, 3) := by decide +kernel
theorem dX8_undo_28 : decode cX8_undo 28 = .ok (.iadd, 1) := by decide +kernel
theorem dX8_undo_29 : decode cX8_undo 29 = .ok (.bipush 6, 2) := by decide +kernel
theorem dX8_undo_31 : decode cX8_undo 31 = .ok (.irem, 1) := by decide +kernel
theorem dX8_undo_32 : decode cX8_undo 32 = .ok (.istore_n 1, 1) := by decide +kernel
theorem dX8_undo_33 : decode cX8_undo 33 = .ok (.iconst 0, 1) := by decide +kernel
theorem dX8_undo_34 : decode cX8_undo 34 = .ok (.istore_n 2, 1) := by decide +kernel
theorem dX8_undo_35 : decode cX8_undo 35 = .ok (.iload_n 2, 1) := by decide +kernel
theorem dX8_undo_36 : decode cX8_undo 36 = .ok (.sipush 183, 3) := by decide +kernel
theorem dX8_undo_39 : decode cX8_undo 39 = .ok (.if_icmp .ge 27, 3) := by decide +kernel
theorem dX8_undo_42 : decode cX8_undo 42 = .ok (.aload_n 0, 1) := by decide +kernel
theorem dX8_undo_43 : decode cX8_undo 43 = .ok (.getfield 7, 3) := by decide +kernel
theorem dX8_undo_46 : decode cX8_undo 46 = .ok (.iload_n 2, 1) := by decide +kernel
theorem dX8_undo_47 : decode cX8_undo 47 = .ok (.aload_n 0, 1) := by decide +kernel
theorem dX8_undo_48 : decode cX8_undo 48 = .ok (.getfield 13, 3) := by decide +kernel
theorem dX8_undo_51 : decode cX8_undo 51 = .ok (.sipush 183, 3) := by decide +kernel
theorem dX8_undo_54 : decode cX8_undo 54 = .ok (.iload_n 1, 1) := by decide +kernel
theorem dX8_undo_55 : decode cX8_undo 55 = .ok (.imul, 1) := by decide +kernel
theorem dX8_undo_56 : decode cX8_undo 56 = .ok (.iload_n 2, 1) := by decide +kernel
theorem dX8_undo_57 : decode cX8_undo 57 = .ok (.iadd, 1) := by decide +kernel
theorem dX8_undo_58 : decode cX8_undo 58 = .ok (.laload, 1) := by decide +kernel
theorem dX8_undo_59 : decode cX8_undo 59 = .ok (.lastore, 1) := by decide +kernel
theorem dX8_undo_60 : decode cX8_undo 60 = .ok (.iinc 2 1, 3) := by decide +kernel
theorem dX8_undo_63 : decode cX8_undo 63 = .ok (.goto (-28), 3) := by decide +kernel
theorem dX8_undo_66 : decode cX8_undo 66 = .ok (.aload_n 0, 1) := by decide +kernel
theorem dX8_undo_67 : decode cX8_undo 67 = .ok (.getfield 61, 3) := by decide +kernel
theorem dX8_undo_70 : decode cX8_undo 70 = .ok (.ireturn, 1) := by decide +kernel
theorem dX8_save_0 : decode cX8_save 0 = .ok (.iload_n 1, 1) := by decide +kernel
theorem dX8_save_1 : decode cX8_save 1 = .ok (.i2l, 1) := by decide +kernel
theorem dX8_save_2 : decode cX8_save 2 = .ok (.lconst 0, 1) := by decide +kernel
theorem dX8_save_3 : decode cX8_save 3 = .ok (.lconst 1, 1) := by decide +kernel
theorem dX8_save_4 : decode cX8_save 4 = .ok (.invokestatic 53, 3) := by decide +kernel
theorem dX8_save_7 : decode cX8_save 7 = .ok (.ifCond .ne 6, 3) := by decide +kernel
theorem dX8_save_10 : decode cX8_save 10 = .ok (.bipush (-2), 2) := by decide +kernel
theorem dX8_save_12 : decode cX8_save 12 = .ok (.ireturn, 1) := by decide +kernel
theorem dX8_save_13 : decode cX8_save 13 = .ok (.iconst 0, 1) := by decide +kernel
theorem dX8_save_14 : decode cX8_save 14 = .ok (.istore_n 2, 1) := by decide +kernel
theorem dX8_save_15 : decode cX8_save 15 = .ok (.iload_n 2, 1) := by decide +kernel
theorem dX8_save_16 : decode cX8_save 16 = .ok (.sipush 183, 3) := by decide +kernel
theorem dX8_save_19 : decode cX8_save 19 = .ok (.if_icmp .ge 27, 3) := by decide +kernel
theorem dX8_save_22 : decode cX8_save 22 = .ok (.aload_n 0, 1) := by decide +kernel
theorem dX8_save_23 : decode cX8_save 23 = .ok (.getfield 16, 3) := by decide +kernel
theorem dX8_save_26 : decode cX8_save 26 = .ok (.sipush 183, 3) := by decide +kernel
theorem dX8_save_29 : decode cX8_save 29 = .ok (.iload_n 1, 1) := by decide +kernel
theorem dX8_save_30 : decode cX8_save 30 = .ok (.imul, 1) := by decide +kernel
theorem dX8_save_31 : decode cX8_save 31 = .ok (.iload_n 2, 1) := by decide +kernel
theorem dX8_save_32 : decode cX8_save 32 = .ok (.iadd, 1) := by decide +kernel
theorem dX8_save_33 : decode cX8_save 33 = .ok (.aload_n 0, 1) := by decide +kernel
theorem dX8_save_34 : decode cX8_save 34 = .ok (.getfield 7, 3) := by decide +kernel
theorem dX8_save_37 : decode cX8_save 37 = .ok (.iload_n 2, 1) := by decide +kernel
theorem dX8_save_38 : decode cX8_save 38 = .ok (.laload, 1) := by decide +kernel
theorem dX8_save_39 : decode cX8_save 39 = .ok (.lastore, 1) := by decide +kernel
theorem dX8_save_40 : decode cX8_save 40 = .ok (.iinc 2 1, 3) := by decide +kernel
theorem dX8_save_43 : decode cX8_save 43 = .ok (.goto (-28), 3) := by decide +kernel
theorem dX8_save_46 : decode cX8_save 46 = .ok (.aload_n 0, 1) := by decide +kernel
theorem dX8_save_47 : decode cX8_save 47 = .ok (.getfield 19, 3) := by decide +kernel
theorem dX8_save_50 : decode cX8_save 50 = .ok (.iload_n 1, 1) := by decide +kernel
theorem dX8_save_51 : decode cX8_save 51 = .ok (.iconst 1, 1) := by decide +kernel
theorem dX8_save_52 : decode cX8_save 52 = .ok (.bastore, 1) := by decide +kernel
theorem dX8_save_53 : decode cX8_save 53 = .ok (.aload_n 0, 1) := by decide +kernel
theorem dX8_save_54 : decode cX8_save 54 = .ok (.getfield 7, 3) := by decide +kernel
theorem dX8_save_57 : decode cX8_save 57 = .ok (.bipush 10, 2) := by decide +kernel
theorem dX8_save_59 : decode cX8_save 59 = .ok (.laload, 1) := by decide +kernel
theorem dX8_save_60 : decode cX8_save 60 = .ok (.l2i, 1) := by decide +kernel
theorem dX8_save_61 : decode cX8_save 61 = .ok (.ireturn, 1) := by decide +kernel
theorem dX8_restore_0 : decode cX8_restore 0 = .ok (.iload_n 1, 1) := by decide +kernel
theorem dX8_restore_1 : decode cX8_restore 1 = .ok (.i2l, 1) := by decide +kernel
theorem dX8_restore_2 : decode cX8_restore 2 = .ok (.lconst 0, 1) := by decide +kernel
theorem dX8_restore_3 : decode cX8_restore 3 = .ok (.lconst 1, 1) := by decide +kernel
theorem dX8_restore_4 : decode cX8_restore 4 = .ok (.invokestatic 53, 3) := by decide +kernel
theorem dX8_restore_7 : decode cX8_restore 7 = .ok (.ifCond .ne 6, 3) := by decide +kernel
theorem dX8_restore_10 : decode cX8_restore 10 = .ok (.bipush (-2), 2) := by decide +kernel
theorem dX8_restore_12 : decode cX8_restore 12 = .ok (.ireturn, 1) := by decide +kernel
theorem dX8_restore_13 : decode cX8_restore 13 = .ok (.aload_n 0, 1) := by decide +kernel
theorem dX8_restore_14 : decode cX8_restore 14 = .ok (.getfield 19, 3) := by decide +kernel
theorem dX8_restore_17 : decode cX8_restore 17 = .ok (.iload_n 1, 1) := by decide +kernel
theorem dX8_restore_18 : decode cX8_restore 18 = .ok (.baload, 1) := by decide +kernel
theorem dX8_restore_19 : decode cX8_restore 19 = .ok (.ifCond .ne 6, 3) := by decide +kernel
theorem dX8_restore_22 : decode cX8_restore 22 = .ok (.bipush (-5), 2) := by decide +kernel
theorem dX8_restore_24 : decode cX8_restore 24 = .ok (.ireturn, 1) := by decide +kernel
theorem dX8_restore_25 : decode cX8_restore 25 = .ok (.aload_n 0, 1) := by decide +kernel
theorem dX8_restore_26 : decode cX8_restore 26 = .ok (.invokevirtual 68, 3) := by decide +kernel
theorem dX8_restore_29 : decode cX8_restore 29 = .ok (.iconst 0, 1) := by decide +kernel
theorem dX8_restore_30 : decode cX8_restore 30 = .ok (.istore_n 2, 1) := by decide +kernel
theorem dX8_restore_31 : decode cX8_restore 31 = .ok (.iload_n 2, 1) := by decide +kernel
theorem dX8_restore_32 : decode cX8_restore 32 = .ok (.sipush 183, 3) := by decide +kernel
theorem dX8_restore_35 : decode cX8_restore 35 = .ok (.if_icmp .ge 27, 3) := by decide +kernel
theorem dX8_restore_38 : decode cX8_restore 38 = .ok (.aload_n 0, 1) := by decide +kernel
theorem dX8_restore_39 : decode cX8_restore 39 = .ok (.getfield 7, 3) := by decide +kernel
theorem dX8_restore_42 : decode cX8_restore 42 = .ok (.iload_n 2, 1) := by decide +kernel
theorem dX8_restore_43 : decode cX8_restore 43 = .ok (.aload_n 0, 1) := by decide +kernel
theorem dX8_restore_44 : decode cX8_restore 44 = .ok (.getfield 16, 3) := by decide +kernel
theorem dX8_restore_47 : decode cX8_restore 47 = .ok (.sipush 183, 3) := by decide +kernel
theorem dX8_restore_50 : decode cX8_restore 50 = .ok (.iload_n 1, 1) := by decide +kernel
theorem dX8_restore_51 : decode cX8_restore 51 = .ok (.imul, 1) := by decide +kernel
theorem dX8_restore_52 : decode cX8_restore 52 = .ok (.iload_n 2, 1) := by decide +kernel
theorem dX8_restore_53 : decode cX8_restore 53 = .ok (.iadd, 1) := by decide +kernel
theorem dX8_restore_54 : decode cX8_restore 54 = .ok (.laload, 1) := by decide +kernel
theorem dX8_restore_55 : decode cX8_restore 55 = .ok (.lastore, 1) := by decide +kernel
theorem dX8_restore_56 : decode cX8_restore 56 = .ok (.iinc 2 1, 3) := by decide +kernel
theorem dX8_restore_59 : decode cX8_restore 59 = .ok (.goto (-28), 3) := by decide +kernel
theorem dX8_restore_62 : decode cX8_restore 62 = .ok (.aload_n 0, 1) := by decide +kernel
theorem dX8_restore_63 : decode cX8_restore 63 = .ok (.getfield 7, 3) := by decide +kernel
theorem dX8_restore_66 : decode cX8_restore 66 = .ok (.bipush 10, 2) := by decide +kernel
theorem dX8_restore_68 : decode cX8_restore 68 = .ok (.laload, 1) := by decide +kernel
theorem dX8_restore_69 : decode cX8_restore 69 = .ok (.l2i, 1) := by decide +kernel
theorem dX8_restore_70 : decode cX8_restore 70 = .ok (.ireturn, 1) := by decide +kernel
theorem dL_law_0 : decode cL_law 0 = .ok (.new 7, 3) := by decide +kernel
theorem dL_law_3 : decode cL_law 3 = .ok (.dup, 1) := by decide +kernel
theorem dL_law_4 : decode cL_law 4 = .ok (.invokespecial 9, 3) := by decide +kernel
theorem dL_law_7 : decode cL_law 7 = .ok (.astore_n 1, 1) := by decide +kernel
theorem dL_law_8 : decode cL_law 8 = .ok (.new 10, 3) := by decide +kernel
theorem dL_law_11 : decode cL_law 11 = .ok (.dup, 1) := by decide +kernel
theorem dL_law_12 : decode cL_law 12 = .ok (.invokespecial 12, 3) := by decide +kernel
theorem dL_law_15 : decode cL_law 15 = .ok (.astore_n 2, 1) := by decide +kernel
theorem dL_law_16 : decode cL_law 16 = .ok (.iconst 0, 1) := by decide +kernel
theorem dL_law_17 : decode cL_law 17 = .ok (.istore_n 3, 1) := by decide +kernel
theorem dL_law_18 : decode cL_law 18 = .ok (.iload_n 3, 1) := by decide +kernel
theorem dL_law_19 : decode cL_law 19 = .ok (.aload_n 0, 1) := by decide +kernel
theorem dL_law_20 : decode cL_law 20 = .ok (.arraylength, 1) := by decide +kernel
theorem dL_law_21 : decode cL_law 21 = .ok (.iconst 4, 1) := by decide +kernel
theorem dL_law_22 : decode cL_law 22 = .ok (.isub, 1) := by decide +kernel
theorem dL_law_23 : decode cL_law 23 = .ok (.if_icmp .gt 703, 3) := by decide +kernel
theorem dL_law_26 : decode cL_law 26 = .ok (.aload_n 0, 1) := by decide +kernel
theorem dL_law_27 : decode cL_law 27 = .ok (.iload_n 3, 1) := by decide +kernel
theorem dL_law_28 : decode cL_law 28 = .ok (.iaload, 1) := by decide +kernel
theorem dL_law_29 : decode cL_law 29 = .ok (.bipush 31, 2) := by decide +kernel
theorem dL_law_31 : decode cL_law 31 = .ok (.iand, 1) := by decide +kernel
theorem dL_law_32 : decode cL_law 32 = .ok (.tableswitch 688 0 22 #[108, 141, 184, 227, 260, 273, 296, 319, 342, 355, 388, 411, 454, 477, 501, 524, 537, 590, 603, 616, 629, 642, 665], 108) := by decide +kernel
theorem dL_law_140 : decode cL_law 140 = .ok (.aload_n 1, 1) := by decide +kernel
theorem dL_law_141 : decode cL_law 141 = .ok (.aload_n 0, 1) := by decide +kernel
theorem dL_law_142 : decode cL_law 142 = .ok (.iload_n 3, 1) := by decide +kernel
theorem dL_law_143 : decode cL_law 143 = .ok (.iconst 1, 1) := by decide +kernel
theorem dL_law_144 : decode cL_law 144 = .ok (.iadd, 1) := by decide +kernel
theorem dL_law_145 : decode cL_law 145 = .ok (.iaload, 1) := by decide +kernel
theorem dL_law_146 : decode cL_law 146 = .ok (.aload_n 0, 1) := by decide +kernel
theorem dL_law_147 : decode cL_law 147 = .ok (.iload_n 3, 1) := by decide +kernel
theorem dL_law_148 : decode cL_law 148 = .ok (.iconst 2, 1) := by decide +kernel
theorem dL_law_149 : decode cL_law 149 = .ok (.iadd, 1) := by decide +kernel
theorem dL_law_150 : decode cL_law 150 = .ok (.iaload, 1) := by decide +kernel
theorem dL_law_151 : decode cL_law 151 = .ok (.invokevirtual 13, 3) := by decide +kernel
theorem dL_law_154 : decode cL_law 154 = .ok (.aload_n 2, 1) := by decide +kernel
theorem dL_law_155 : decode cL_law 155 = .ok (.aload_n 0, 1) := by decide +kernel
theorem dL_law_156 : decode cL_law 156 = .ok (.iload_n 3, 1) := by decide +kernel
theorem dL_law_157 : decode cL_law 157 = .ok (.iconst 1, 1) := by decide +kernel
theorem dL_law_158 : decode cL_law 158 = .ok (.iadd, 1) := by decide +kernel
theorem dL_law_159 : decode cL_law 159 = .ok (.iaload, 1) := by decide +kernel
theorem dL_law_160 : decode cL_law 160 = .ok (.aload_n 0, 1) := by decide +kernel
theorem dL_law_161 : decode cL_law 161 = .ok (.iload_n 3, 1) := by decide +kernel
theorem dL_law_162 : decode cL_law 162 = .ok (.iconst 2, 1) := by decide +kernel
theorem dL_law_163 : decode cL_law 163 = .ok (.iadd, 1) := by decide +kernel
theorem dL_law_164 : decode cL_law 164 = .ok (.iaload, 1) := by decide +kernel
theorem dL_law_165 : decode cL_law 165 = .ok (.invokevirtual 17, 3) := by decide +kernel
theorem dL_law_168 : decode cL_law 168 = .ok (.if_icmp .eq 552, 3) := by decide +kernel
theorem dL_law_171 : decode cL_law 171 = .ok (.iconst 0, 1) := by decide +kernel
theorem dL_law_172 : decode cL_law 172 = .ok (.ireturn, 1) := by decide +kernel
theorem dL_law_173 : decode cL_law 173 = .ok (.aload_n 1, 1) := by decide +kernel
theorem dL_law_174 : decode cL_law 174 = .ok (.aload_n 0, 1) := by decide +kernel
theorem dL_law_175 : decode cL_law 175 = .ok (.iload_n 3, 1) := by decide +kernel
theorem dL_law_176 : decode cL_law 176 = .ok (.iconst 1, 1) := by decide +kernel
theorem dL_law_177 : decode cL_law 177 = .ok (.iadd, 1) := by decide +kernel
theorem dL_law_178 : decode cL_law 178 = .ok (.iaload, 1) := by decide +kernel
theorem dL_law_179 : decode cL_law 179 = .ok (.aload_n 0, 1) := by decide +kernel
theorem dL_law_180 : decode cL_law 180 = .ok (.iload_n 3, 1) := by decide +kernel
theorem dL_law_181 : decode cL_law 181 = .ok (.iconst 2, 1) := by decide +kernel
theorem dL_law_182 : decode cL_law 182 = .ok (.iadd, 1) := by decide +kernel
theorem dL_law_183 : decode cL_law 183 = .ok (.iaload, 1) := by decide +kernel
theorem dL_law_184 : decode cL_law 184 = .ok (.aload_n 0, 1) := by decide +kernel
theorem dL_law_185 : decode cL_law 185 = .ok (.iload_n 3, 1) := by decide +kernel
theorem dL_law_186 : decode cL_law 186 = .ok (.iconst 3, 1) := by decide +kernel
theorem dL_law_187 : decode cL_law 187 = .ok (.iadd, 1) := by decide +kernel
theorem dL_law_188 : decode cL_law 188 = .ok (.iaload, 1) := by decide +kernel
theorem dL_law_189 : decode cL_law 189 = .ok (.invokevirtual 18, 3) := by decide +kernel
theorem dL_law_192 : decode cL_law 192 = .ok (.aload_n 2, 1) := by decide +kernel
theorem dL_law_193 : decode cL_law 193 = .ok (.aload_n 0, 1) := by decide +kernel
theorem dL_law_194 : decode cL_law 194 = .ok (.iload_n 3, 1) := by decide +kernel
theorem dL_law_195 : decode cL_law 195 = .ok (.iconst 1, 1) := by decide +kernel
theorem dL_law_196 : decode cL_law 196 = .ok (.iadd, 1) := by decide +kernel
theorem dL_law_197 : decode cL_law 197 = .ok (.iaload, 1) := by decide +kernel
theorem dL_law_198 : decode cL_law 198 = .ok (.aload_n 0, 1) := by decide +kernel
theorem dL_law_199 : decode cL_law 199 = .ok (.iload_n 3, 1) := by decide +kernel
theorem dL_law_200 : decode cL_law 200 = .ok (.iconst 2, 1) := by decide +kernel
theorem dL_law_201 : decode cL_law 201 = .ok (.iadd, 1) := by decide +kernel
theorem dL_law_202 : decode cL_law 202 = .ok (.iaload, 1) := by decide +kernel
theorem dL_law_203 : decode cL_law 203 = .ok (.aload_n 0, 1) := by decide +kernel
theorem dL_law_204 : decode cL_law 204 = .ok (.iload_n 3, 1) := by decide +kernel
theorem dL_law_205 : decode cL_law 205 = .ok (.iconst 3, 1) := by decide +kernel
theorem dL_law_206 : decode cL_law 206 = .ok (.iadd, 1) := by decide +kernel
theorem dL_law_207 : decode cL_law 207 = .ok (.iaload, 1) := by decide +kernel
theorem dL_law_208 : decode cL_law 208 = .ok (.invokevirtual 22, 3) := by decide +kernel
theorem dL_law_211 : decode cL_law 211 = .ok (.if_icmp .eq 509, 3) := by decide +kernel
theorem dL_law_214 : decode cL_law 214 = .ok (.iconst 0, 1) := by decide +kernel
theorem dL_law_215 : decode cL_law 215 = .ok (.ireturn, 1) := by decide +kernel
theorem dL_law_216 : decode cL_law 216 = .ok (.aload_n 1, 1) := by decide +kernel
theorem dL_law_217 : decode cL_law 217 = .ok (.aload_n 0, 1) := by decide +kernel
theorem dL_law_218 : decode cL_law 218 = .ok (.iload_n 3, 1) := by decide +kernel
theorem dL_law_219 : decode cL_law 219 = .ok (.iconst 1, 1) := by decide +kernel
theorem dL_law_220 : decode cL_law 220 = .ok (.iadd, 1) := by decide +kernel
theorem dL_law_221 : decode cL_law 221 = .ok (.iaload, 1) := by decide +kernel
theorem dL_law_222 : decode cL_law 222 = .ok (.aload_n 0, 1) := by decide +kernel
theorem dL_law_223 : decode cL_law 223 = .ok (.iload_n 3, 1) := by decide +kernel
theorem dL_law_224 : decode cL_law 224 = .ok (.iconst 2, 1) := by decide +kernel
theorem dL_law_225 : decode cL_law 225 = .ok (.iadd, 1) := by decide +kernel
theorem dL_law_226 : decode cL_law 226 = .ok (.iaload, 1) := by decide +kernel
theorem dL_law_227 : decode cL_law 227 = .ok (.aload_n 0, 1) := by decide +kernel
theorem dL_law_228 : decode cL_law 228 = .ok (.iload_n 3, 1) := by decide +kernel
theorem dL_law_229 : decode cL_law 229 = .ok (.iconst 3, 1) := by decide +kernel
theorem dL_law_230 : decode cL_law 230 = .ok (.iadd, 1) := by decide +kernel
theorem dL_law_231 : decode cL_law 231 = .ok (.iaload, 1) := by decide +kernel
theorem dL_law_232 : decode cL_law 232 = .ok (.invokevirtual 23, 3) := by decide +kernel
theorem dL_law_235 : decode cL_law 235 = .ok (.aload_n 2, 1) := by decide +kernel
theorem dL_law_236 : decode cL_law 236 = .ok (.aload_n 0, 1) := by decide +kernel
theorem dL_law_237 : decode cL_law 237 = .ok (.iload_n 3, 1) := by decide +kernel
theorem dL_law_238 : decode cL_law 238 = .ok (.iconst 1, 1) := by decide +kernel
theorem dL_law_239 : decode cL_law 239 = .ok (.iadd, 1) := by decide +kernel
theorem dL_law_240 : decode cL_law 240 = .ok (.iaload, 1) := by decide +kernel
theorem dL_law_241 : decode cL_law 241 = .ok (.aload_n 0, 1) := by decide +kernel
theorem dL_law_242 : decode cL_law 242 = .ok (.iload_n 3, 1) := by decide +kernel
theorem dL_law_243 : decode cL_law 243 = .ok (.iconst 2, 1) := by decide +kernel
theorem dL_law_244 : decode cL_law 244 = .ok (.iadd, 1) := by decide +kernel
theorem dL_law_245 : decode cL_law 245 = .ok (.iaload, 1) := by decide +kernel
theorem dL_law_246 : decode cL_law 246 = .ok (.aload_n 0, 1) := by decide +kernel
theorem dL_law_247 : decode cL_law 247 = .ok (.iload_n 3, 1) := by decide +kernel
theorem dL_law_248 : decode cL_law 248 = .ok (.iconst 3, 1) := by decide +kernel
theorem dL_law_249 : decode cL_law 249 = .ok (.iadd, 1) := by decide +kernel
theorem dL_law_250 : decode cL_law 250 = .ok (.iaload, 1) := by decide +kernel
theorem dL_law_251 : decode cL_law 251 = .ok (.invokevirtual 26, 3) := by decide +kernel
theorem dL_law_254 : decode cL_law 254 = .ok (.if_icmp .eq 466, 3) := by decide +kernel
theorem dL_law_257 : decode cL_law 257 = .ok (.iconst 0, 1) := by decide +kernel
theorem dL_law_258 : decode cL_law 258 = .ok (.ireturn, 1) := by decide +kernel
theorem dL_law_259 : decode cL_law 259 = .ok (.aload_n 1, 1) := by decide +kernel
theorem dL_law_260 : decode cL_law 260 = .ok (.aload_n 0, 1) := by decide +kernel
theorem dL_law_261 : decode cL_law 261 = .ok (.iload_n 3, 1) := by decide +kernel
theorem dL_law_262 : decode cL_law 262 = .ok (.iconst 1, 1) := by decide +kernel
theorem dL_law_263 : decode cL_law 263 = .ok (.iadd, 1) := by decide +kernel
theorem dL_law_264 : decode cL_law 264 = .ok (.iaload, 1) := by decide +kernel
theorem dL_law_265 : decode cL_law 265 = .ok (.aload_n 0, 1) := by decide +kernel
theorem dL_law_266 : decode cL_law 266 = .ok (.iload_n 3, 1) := by decide +kernel
theorem dL_law_267 : decode cL_law 267 = .ok (.iconst 2, 1) := by decide +kernel
theorem dL_law_268 : decode cL_law 268 = .ok (.iadd, 1) := by decide +kernel
theorem dL_law_269 : decode cL_law 269 = .ok (.iaload, 1) := by decide +kernel
theorem dL_law_270 : decode cL_law 270 = .ok (.invokevirtual 27, 3) := by decide +kernel
theorem dL_law_273 : decode cL_law 273 = .ok (.aload_n 2, 1) := by decide +kernel
theorem dL_law_274 : decode cL_law 274 = .ok (.aload_n 0, 1) := by decide +kernel
theorem dL_law_275 : decode cL_law 275 = .ok (.iload_n 3, 1) := by decide +kernel
theorem dL_law_276 : decode cL_law 276 = .ok (.iconst 1, 1) := by decide +kernel
theorem dL_law_277 : decode cL_law 277 = .ok (.iadd, 1) := by decide +kernel
theorem dL_law_278 : decode cL_law 278 = .ok (.iaload, 1) := by decide +kernel
theorem dL_law_279 : decode cL_law 279 = .ok (.aload_n 0, 1) := by decide +kernel
theorem dL_law_280 : decode cL_law 280 = .ok (.iload_n 3, 1) := by decide +kernel
theorem dL_law_281 : decode cL_law 281 = .ok (.iconst 2, 1) := by decide +kernel
theorem dL_law_282 : decode cL_law 282 = .ok (.iadd, 1) := by decide +kernel
theorem dL_law_283 : decode cL_law 283 = .ok (.iaload, 1) := by decide +kernel
theorem dL_law_284 : decode cL_law 284 = .ok (.invokevirtual 30, 3) := by decide +kernel
theorem dL_law_287 : decode cL_law 287 = .ok (.if_icmp .eq 433, 3) := by decide +kernel
theorem dL_law_290 : decode cL_law 290 = .ok (.iconst 0, 1) := by decide +kernel
theorem dL_law_291 : decode cL_law 291 = .ok (.ireturn, 1) := by decide +kernel
theorem dL_law_292 : decode cL_law 292 = .ok (.aload_n 1, 1) := by decide +kernel
theorem dL_law_293 : decode cL_law 293 = .ok (.invokevirtual 31, 3) := by decide +kernel
theorem dL_law_296 : decode cL_law 296 = .ok (.aload_n 2, 1) := by decide +kernel
theorem dL_law_297 : decode cL_law 297 = .ok (.invokevirtual 35, 3) := by decide +kernel
theorem dL_law_300 : decode cL_law 300 = .ok (.if_icmp .eq 420, 3) := by decide +kernel
theorem dL_law_303 : decode cL_law 303 = .ok (.iconst 0, 1) := by decide +kernel
theorem dL_law_304 : decode cL_law 304 = .ok (.ireturn, 1) := by decide +kernel
theorem dL_law_305 : decode cL_law 305 = .ok (.aload_n 1, 1) := by decide +kernel
theorem dL_law_306 : decode cL_law 306 = .ok (.aload_n 0, 1) := by decide +kernel
theorem dL_law_307 : decode cL_law 307 = .ok (.iload_n 3, 1) := by decide +kernel
theorem dL_law_308 : decode cL_law 308 = .ok (.iconst 1, 1) := by decide +kernel
theorem dL_law_309 : decode cL_law 309 = .ok (.iadd, 1) := by decide +kernel
theorem dL_law_310 : decode cL_law 310 = .ok (.iaload, 1) := by decide +kernel
theorem dL_law_311 : decode cL_law 311 = .ok (.invokevirtual 36, 3) := by decide +kernel
theorem dL_law_314 : decode cL_law 314 = .ok (.aload_n 2, 1) := by decide +kernel
theorem dL_law_315 : decode cL_law 315 = .ok (.aload_n 0, 1) := by decide +kernel
theorem dL_law_316 : decode cL_law 316 = .ok (.iload_n 3, 1) := by decide +kernel
theorem dL_law_317 : decode cL_law 317 = .ok (.iconst 1, 1) := by decide +kernel
theorem dL_law_318 : decode cL_law 318 = .ok (.iadd, 1) := by decide +kernel
theorem dL_law_319 : decode cL_law 319 = .ok (.iaload, 1) := by decide +kernel
theorem dL_law_320 : decode cL_law 320 = .ok (.invokevirtual 40, 3) := by decide +kernel
theorem dL_law_323 : decode cL_law 323 = .ok (.if_icmp .eq 397, 3) := by decide +kernel
theorem dL_law_326 : decode cL_law 326 = .ok (.iconst 0, 1) := by decide +kernel
theorem dL_law_327 : decode cL_law 327 = .ok (.ireturn, 1) := by decide +kernel
theorem dL_law_328 : decode cL_law 328 = .ok (.aload_n 1, 1) := by decide +kernel
theorem dL_law_329 : decode cL_law 329 = .ok (.aload_n 0, 1) := by decide +kernel
theorem dL_law_330 : decode cL_law 330 = .ok (.iload_n 3, 1) := by decide +kernel
theorem dL_law_331 : decode cL_law 331 = .ok (.iconst 1, 1) := by decide +kernel
theorem dL_law_332 : decode cL_law 332 = .ok (.iadd, 1) := by decide +kernel
theorem dL_law_333 : decode cL_law 333 = .ok (.iaload, 1) := by decide +kernel
theorem dL_law_334 : decode cL_law 334 = .ok (.invokevirtual 41, 3) := by decide +kernel
theorem dL_law_337 : decode cL_law 337 = .ok (.aload_n 2, 1) := by decide +kernel
theorem dL_law_338 : decode cL_law 338 = .ok (.aload_n 0, 1) := by decide +kernel
theorem dL_law_339 : decode cL_law 339 = .ok (.iload_n 3, 1) := by decide +kernel
theorem dL_law_340 : decode cL_law 340 = .ok (.iconst 1, 1) := by decide +kernel
theorem dL_law_341 : decode cL_law 341 = .ok (.iadd, 1) := by decide +kernel
theorem dL_law_342 : decode cL_law 342 = .ok (.iaload, 1) := by decide +kernel
theorem dL_law_343 : decode cL_law 343 = .ok (.invokevirtual 44, 3) := by decide +kernel
theorem dL_law_346 : decode cL_law 346 = .ok (.if_icmp .eq 374, 3) := by decide +kernel
theorem dL_law_349 : decode cL_law 349 = .ok (.iconst 0, 1) := by decide +kernel
theorem dL_law_350 : decode cL_law 350 = .ok (.ireturn, 1) := by decide +kernel
theorem dL_law_351 : decode cL_law 351 = .ok (.aload_n 1, 1) := by decide +kernel
theorem dL_law_352 : decode cL_law 352 = .ok (.aload_n 0, 1) := by decide +kernel
theorem dL_law_353 : decode cL_law 353 = .ok (.iload_n 3, 1) := by decide +kernel
theorem dL_law_354 : decode cL_law 354 = .ok (.iconst 1, 1) := by decide +kernel
theorem dL_law_355 : decode cL_law 355 = .ok (.iadd, 1) := by decide +kernel
theorem dL_law_356 : decode cL_law 356 = .ok (.iaload, 1) := by decide +kernel
theorem dL_law_357 : decode cL_law 357 = .ok (.invokevirtual 45, 3) := by decide +kernel
theorem dL_law_360 : decode cL_law 360 = .ok (.aload_n 2, 1) := by decide +kernel
theorem dL_law_361 : decode cL_law 361 = .ok (.aload_n 0, 1) := by decide +kernel
theorem dL_law_362 : decode cL_law 362 = .ok (.iload_n 3, 1) := by decide +kernel
theorem dL_law_363 : decode cL_law 363 = .ok (.iconst 1, 1) := by decide +kernel
theorem dL_law_364 : decode cL_law 364 = .ok (.iadd, 1) := by decide +kernel
theorem dL_law_365 : decode cL_law 365 = .ok (.iaload, 1) := by decide +kernel
theorem dL_law_366 : decode cL_law 366 = .ok (.invokevirtual 48, 3) := by decide +kernel
theorem dL_law_369 : decode cL_law 369 = .ok (.if_icmp .eq 351, 3) := by decide +kernel
theorem dL_law_372 : decode cL_law 372 = .ok (.iconst 0, 1) := by decide +kernel
theorem dL_law_373 : decode cL_law 373 = .ok (.ireturn, 1) := by decide +kernel
theorem dL_law_374 : decode cL_law 374 = .ok (.aload_n 1, 1) := by decide +kernel
theorem dL_law_375 : decode cL_law 375 = .ok (.invokevirtual 49, 3) := by decide +kernel
theorem dL_law_378 : decode cL_law 378 = .ok (.aload_n 2, 1) := by decide +kernel
theorem dL_law_379 : decode cL_law 379 = .ok (.invokevirtual 52, 3) := by decide +kernel
theorem dL_law_382 : decode cL_law 382 = .ok (.if_icmp .eq 338, 3) := by decide +kernel
theorem dL_law_385 : decode cL_law 385 = .ok (.iconst 0, 1) := by decide +kernel
theorem dL_law_386 : decode cL_law 386 = .ok (.ireturn, 1) := by decide +kernel
theorem dL_law_387 : decode cL_law 387 = .ok (.aload_n 1, 1) := by decide +kernel
theorem dL_law_388 : decode cL_law 388 = .ok (.aload_n 0, 1) := by decide +kernel
theorem dL_law_389 : decode cL_law 389 = .ok (.iload_n 3, 1) := by decide +kernel
theorem dL_law_390 : decode cL_law 390 = .ok (.iconst 1, 1) := by decide +kernel
theorem dL_law_391 : decode cL_law 391 = .ok (.iadd, 1) := by decide +kernel
theorem dL_law_392 : decode cL_law 392 = .ok (.iaload, 1) := by decide +kernel
theorem dL_law_393 : decode cL_law 393 = .ok (.aload_n 0, 1) := by decide +kernel
theorem dL_law_394 : decode cL_law 394 = .ok (.iload_n 3, 1) := by decide +kernel
theorem dL_law_395 : decode cL_law 395 = .ok (.iconst 2, 1) := by decide +kernel
theorem dL_law_396 : decode cL_law 396 = .ok (.iadd, 1) := by decide +kernel
theorem dL_law_397 : decode cL_law 397 = .ok (.iaload, 1) := by decide +kernel
theorem dL_law_398 : decode cL_law 398 = .ok (.invokevirtual 53, 3) := by decide +kernel
theorem dL_law_401 : decode cL_law 401 = .ok (.aload_n 2, 1) := by decide +kernel
theorem dL_law_402 : decode cL_law 402 = .ok (.aload_n 0, 1) := by decide +kernel
theorem dL_law_403 : decode cL_law 403 = .ok (.iload_n 3, 1) := by decide +kernel
theorem dL_law_404 : decode cL_law 404 = .ok (.iconst 1, 1) := by decide +kernel
theorem dL_law_405 : decode cL_law 405 = .ok (.iadd, 1) := by decide +kernel
theorem dL_law_406 : decode cL_law 406 = .ok (.iaload, 1) := by decide +kernel
theorem dL_law_407 : decode cL_law 407 = .ok (.aload_n 0, 1) := by decide +kernel
theorem dL_law_408 : decode cL_law 408 = .ok (.iload_n 3, 1) := by decide +kernel
theorem dL_law_409 : decode cL_law 409 = .ok (.iconst 2, 1) := by decide +kernel
theorem dL_law_410 : decode cL_law 410 = .ok (.iadd, 1) := by decide +kernel
theorem dL_law_411 : decode cL_law 411 = .ok (.iaload, 1) := by decide +kernel
theorem dL_law_412 : decode cL_law 412 = .ok (.invokevirtual 56, 3) := by decide +kernel
theorem dL_law_415 : decode cL_law 415 = .ok (.if_icmp .eq 305, 3) := by decide +kernel
theorem dL_law_418 : decode cL_law 418 = .ok (.iconst 0, 1) := by decide +kernel
theorem dL_law_419 : decode cL_law 419 = .ok (.ireturn, 1) := by decide +kernel
theorem dL_law_420 : decode cL_law 420 = .ok (.aload_n 1, 1) := by decide +kernel
theorem dL_law_421 : decode cL_law 421 = .ok (.aload_n 0, 1) := by decide +kernel
theorem dL_law_422 : decode cL_law 422 = .ok (.iload_n 3, 1) := by decide +kernel
theorem dL_law_423 : decode cL_law 423 = .ok (.iconst 1, 1) := by decide +kernel
theorem dL_law_424 : decode cL_law 424 = .ok (.iadd, 1) := by decide +kernel
theorem dL_law_425 : decode cL_law 425 = .ok (.iaload, 1) := by decide +kernel
theorem dL_law_426 : decode cL_law 426 = .ok (.invokevirtual 57, 3) := by decide +kernel
theorem dL_law_429 : decode cL_law 429 = .ok (.aload_n 2, 1) := by decide +kernel
theorem dL_law_430 : decode cL_law 430 = .ok (.aload_n 0, 1) := by decide +kernel
theorem dL_law_431 : decode cL_law 431 = .ok (.iload_n 3, 1) := by decide +kernel
theorem dL_law_432 : decode cL_law 432 = .ok (.iconst 1, 1) := by decide +kernel
theorem dL_law_433 : decode cL_law 433 = .ok (.iadd, 1) := by decide +kernel
theorem dL_law_434 : decode cL_law 434 = .ok (.iaload, 1) := by decide +kernel
theorem dL_law_435 : decode cL_law 435 = .ok (.invokevirtual 60, 3) := by decide +kernel
theorem dL_law_438 : decode cL_law 438 = .ok (.if_icmp .eq 282, 3) := by decide +kernel
theorem dL_law_441 : decode cL_law 441 = .ok (.iconst 0, 1) := by decide +kernel
theorem dL_law_442 : decode cL_law 442 = .ok (.ireturn, 1) := by decide +kernel
theorem dL_law_443 : decode cL_law 443 = .ok (.aload_n 1, 1) := by decide +kernel
theorem dL_law_444 : decode cL_law 444 = .ok (.aload_n 0, 1) := by decide +kernel
theorem dL_law_445 : decode cL_law 445 = .ok (.iload_n 3, 1) := by decide +kernel
theorem dL_law_446 : decode cL_law 446 = .ok (.iconst 1, 1) := by decide +kernel
theorem dL_law_447 : decode cL_law 447 = .ok (.iadd, 1) := by decide +kernel
theorem dL_law_448 : decode cL_law 448 = .ok (.iaload, 1) := by decide +kernel
theorem dL_law_449 : decode cL_law 449 = .ok (.aload_n 0, 1) := by decide +kernel
theorem dL_law_450 : decode cL_law 450 = .ok (.iload_n 3, 1) := by decide +kernel
theorem dL_law_451 : decode cL_law 451 = .ok (.iconst 2, 1) := by decide +kernel
theorem dL_law_452 : decode cL_law 452 = .ok (.iadd, 1) := by decide +kernel
theorem dL_law_453 : decode cL_law 453 = .ok (.iaload, 1) := by decide +kernel
theorem dL_law_454 : decode cL_law 454 = .ok (.aload_n 0, 1) := by decide +kernel
theorem dL_law_455 : decode cL_law 455 = .ok (.iload_n 3, 1) := by decide +kernel
theorem dL_law_456 : decode cL_law 456 = .ok (.iconst 3, 1) := by decide +kernel
theorem dL_law_457 : decode cL_law 457 = .ok (.iadd, 1) := by decide +kernel
theorem dL_law_458 : decode cL_law 458 = .ok (.iaload, 1) := by decide +kernel
theorem dL_law_459 : decode cL_law 459 = .ok (.invokevirtual 61, 3) := by decide +kernel
theorem dL_law_462 : decode cL_law 462 = .ok (.aload_n 2, 1) := by decide +kernel
theorem dL_law_463 : decode cL_law 463 = .ok (.aload_n 0, 1) := by decide +kernel
theorem dL_law_464 : decode cL_law 464 = .ok (.iload_n 3, 1) := by decide +kernel
theorem dL_law_465 : decode cL_law 465 = .ok (.iconst 1, 1) := by decide +kernel
theorem dL_law_466 : decode cL_law 466 = .ok (.iadd, 1) := by decide +kernel
theorem dL_law_467 : decode cL_law 467 = .ok (.iaload, 1) := by decide +kernel
theorem dL_law_468 : decode cL_law 468 = .ok (.aload_n 0, 1) := by decide +kernel
theorem dL_law_469 : decode cL_law 469 = .ok (.iload_n 3, 1) := by decide +kernel
theorem dL_law_470 : decode cL_law 470 = .ok (.iconst 2, 1) := by decide +kernel
theorem dL_law_471 : decode cL_law 471 = .ok (.iadd, 1) := by decide +kernel
theorem dL_law_472 : decode cL_law 472 = .ok (.iaload, 1) := by decide +kernel
theorem dL_law_473 : decode cL_law 473 = .ok (.aload_n 0, 1) := by decide +kernel
theorem dL_law_474 : decode cL_law 474 = .ok (.iload_n 3, 1) := by decide +kernel
theorem dL_law_475 : decode cL_law 475 = .ok (.iconst 3, 1) := by decide +kernel
theorem dL_law_476 : decode cL_law 476 = .ok (.iadd, 1) := by decide +kernel
theorem dL_law_477 : decode cL_law 477 = .ok (.iaload, 1) := by decide +kernel
theorem dL_law_478 : decode cL_law 478 = .ok (.invokevirtual 64, 3) := by decide +kernel
theorem dL_law_481 : decode cL_law 481 = .ok (.if_icmp .eq 239, 3) := by decide +kernel
theorem dL_law_484 : decode cL_law 484 = .ok (.iconst 0, 1) := by decide +kernel
theorem dL_law_485 : decode cL_law 485 = .ok (.ireturn, 1) := by decide +kernel
theorem dL_law_486 : decode cL_law 486 = .ok (.aload_n 1, 1) := by decide +kernel
theorem dL_law_487 : decode cL_law 487 = .ok (.aload_n 0, 1) := by decide +kernel
theorem dL_law_488 : decode cL_law 488 = .ok (.iload_n 3, 1) := by decide +kernel
theorem dL_law_489 : decode cL_law 489 = .ok (.iconst 1, 1) := by decide +kernel
theorem dL_law_490 : decode cL_law 490 = .ok (.iadd, 1) := by decide +kernel
theorem dL_law_491 : decode cL_law 491 = .ok (.iaload, 1) := by decide +kernel
theorem dL_law_492 : decode cL_law 492 = .ok (.invokevirtual 65, 3) := by decide +kernel
theorem dL_law_495 : decode cL_law 495 = .ok (.aload_n 2, 1) := by decide +kernel
theorem dL_law_496 : decode cL_law 496 = .ok (.aload_n 0, 1) := by decide +kernel
theorem dL_law_497 : decode cL_law 497 = .ok (.iload_n 3, 1) := by decide +kernel
theorem dL_law_498 : decode cL_law 498 = .ok (.iconst 1, 1) := by decide +kernel
theorem dL_law_499 : decode cL_law 499 = .ok (.iadd, 1) := by decide +kernel
theorem dL_law_500 : decode cL_law 500 = .ok (.iaload, 1) := by decide +kernel
theorem dL_law_501 : decode cL_law 501 = .ok (.invokevirtual 68, 3) := by decide +kernel
theorem dL_law_504 : decode cL_law 504 = .ok (.if_icmp .eq 216, 3) := by decide +kernel
theorem dL_law_507 : decode cL_law 507 = .ok (.iconst 0, 1) := by decide +kernel
theorem dL_law_508 : decode cL_law 508 = .ok (.ireturn, 1) := by decide +kernel
theorem dL_law_509 : decode cL_law 509 = .ok (.aload_n 1, 1) := by decide +kernel
theorem dL_law_510 : decode cL_law 510 = .ok (.aload_n 0, 1) := by decide +kernel
theorem dL_law_511 : decode cL_law 511 = .ok (.iload_n 3, 1) := by decide +kernel
theorem dL_law_512 : decode cL_law 512 = .ok (.iconst 1, 1) := by decide +kernel
theorem dL_law_513 : decode cL_law 513 = .ok (.iadd, 1) := by decide +kernel
theorem dL_law_514 : decode cL_law 514 = .ok (.iaload, 1) := by decide +kernel
theorem dL_law_515 : decode cL_law 515 = .ok (.invokevirtual 69, 3) := by decide +kernel
theorem dL_law_518 : decode cL_law 518 = .ok (.aload_n 2, 1) := by decide +kernel
theorem dL_law_519 : decode cL_law 519 = .ok (.aload_n 0, 1) := by decide +kernel
theorem dL_law_520 : decode cL_law 520 = .ok (.iload_n 3, 1) := by decide +kernel
theorem dL_law_521 : decode cL_law 521 = .ok (.iconst 1, 1) := by decide +kernel
theorem dL_law_522 : decode cL_law 522 = .ok (.iadd, 1) := by decide +kernel
theorem dL_law_523 : decode cL_law 523 = .ok (.iaload, 1) := by decide +kernel
theorem dL_law_524 : decode cL_law 524 = .ok (.invokevirtual 73, 3) := by decide +kernel
theorem dL_law_527 : decode cL_law 527 = .ok (.lcmp, 1) := by decide +kernel
theorem dL_law_528 : decode cL_law 528 = .ok (.ifCond .eq 192, 3) := by decide +kernel
theorem dL_law_531 : decode cL_law 531 = .ok (.iconst 0, 1) := by decide +kernel
theorem dL_law_532 : decode cL_law 532 = .ok (.ireturn, 1) := by decide +kernel
theorem dL_law_533 : decode cL_law 533 = .ok (.aload_n 1, 1) := by decide +kernel
theorem dL_law_534 : decode cL_law 534 = .ok (.aload_n 0, 1) := by decide +kernel
theorem dL_law_535 : decode cL_law 535 = .ok (.iload_n 3, 1) := by decide +kernel
theorem dL_law_536 : decode cL_law 536 = .ok (.iconst 1, 1) := by decide +kernel
theorem dL_law_537 : decode cL_law 537 = .ok (.iadd, 1) := by decide +kernel
theorem dL_law_538 : decode cL_law 538 = .ok (.iaload, 1) := by decide +kernel
theorem dL_law_539 : decode cL_law 539 = .ok (.invokevirtual 74, 3) := by decide +kernel
theorem dL_law_542 : decode cL_law 542 = .ok (.aload_n 2, 1) := by decide +kernel
theorem dL_law_543 : decode cL_law 543 = .ok (.aload_n 0, 1) := by decide +kernel
theorem dL_law_544 : decode cL_law 544 = .ok (.iload_n 3, 1) := by decide +kernel
theorem dL_law_545 : decode cL_law 545 = .ok (.iconst 1, 1) := by decide +kernel
theorem dL_law_546 : decode cL_law 546 = .ok (.iadd, 1) := by decide +kernel
theorem dL_law_547 : decode cL_law 547 = .ok (.iaload, 1) := by decide +kernel
theorem dL_law_548 : decode cL_law 548 = .ok (.invokevirtual 77, 3) := by decide +kernel
theorem dL_law_551 : decode cL_law 551 = .ok (.if_icmp .eq 169, 3) := by decide +kernel
theorem dL_law_554 : decode cL_law 554 = .ok (.iconst 0, 1) := by decide +kernel
theorem dL_law_555 : decode cL_law 555 = .ok (.ireturn, 1) := by decide +kernel
theorem dL_law_556 : decode cL_law 556 = .ok (.aload_n 1, 1) := by decide +kernel
theorem dL_law_557 : decode cL_law 557 = .ok (.invokevirtual 78, 3) := by decide +kernel
theorem dL_law_560 : decode cL_law 560 = .ok (.aload_n 2, 1) := by decide +kernel
theorem dL_law_561 : decode cL_law 561 = .ok (.invokevirtual 81, 3) := by decide +kernel
theorem dL_law_564 : decode cL_law 564 = .ok (.if_icmp .eq 156, 3) := by decide +kernel
theorem dL_law_567 : decode cL_law 567 = .ok (.iconst 0, 1) := by decide +kernel
theorem dL_law_568 : decode cL_law 568 = .ok (.ireturn, 1) := by decide +kernel
theorem dL_law_569 : decode cL_law 569 = .ok (.aload_n 1, 1) := by decide +kernel
theorem dL_law_570 : decode cL_law 570 = .ok (.aload_n 0, 1) := by decide +kernel
theorem dL_law_571 : decode cL_law 571 = .ok (.iload_n 3, 1) := by decide +kernel
theorem dL_law_572 : decode cL_law 572 = .ok (.iconst 1, 1) := by decide +kernel
theorem dL_law_573 : decode cL_law 573 = .ok (.iadd, 1) := by decide +kernel
theorem dL_law_574 : decode cL_law 574 = .ok (.iaload, 1) := by decide +kernel
theorem dL_law_575 : decode cL_law 575 = .ok (.i2l, 1) := by decide +kernel
theorem dL_law_576 : decode cL_law 576 = .ok (.bipush 32, 2) := by decide +kernel
theorem dL_law_578 : decode cL_law 578 = .ok (.lshl, 1) := by decide +kernel
theorem dL_law_579 : decode cL_law 579 = .ok (.aload_n 0, 1) := by decide +kernel
theorem dL_law_580 : decode cL_law 580 = .ok (.iload_n 3, 1) := by decide +kernel
theorem dL_law_581 : decode cL_law 581 = .ok (.iconst 2, 1) := by decide +kernel
theorem dL_law_582 : decode cL_law 582 = .ok (.iadd, 1) := by decide +kernel
theorem dL_law_583 : decode cL_law 583 = .ok (.iaload, 1) := by decide +kernel
theorem dL_law_584 : decode cL_law 584 = .ok (.i2l, 1) := by decide +kernel
theorem dL_law_585 : decode cL_law 585 = .ok (.ldc2_w 82, 3) := by decide +kernel
theorem dL_law_588 : decode cL_law 588 = .ok (.land, 1) := by decide +kernel
theorem dL_law_589 : decode cL_law 589 = .ok (.lor, 1) := by decide +kernel
theorem dL_law_590 : decode cL_law 590 = .ok (.invokevirtual 84, 3) := by decide +kernel
theorem dL_law_593 : decode cL_law 593 = .ok (.aload_n 2, 1) := by decide +kernel
theorem dL_law_594 : decode cL_law 594 = .ok (.aload_n 0, 1) := by decide +kernel
theorem dL_law_595 : decode cL_law 595 = .ok (.iload_n 3, 1) := by decide +kernel
theorem dL_law_596 : decode cL_law 596 = .ok (.iconst 1, 1) := by decide +kernel
theorem dL_law_597 : decode cL_law 597 = .ok (.iadd, 1) := by decide +kernel
theorem dL_law_598 : decode cL_law 598 = .ok (.iaload, 1) := by decide +kernel
theorem dL_law_599 : decode cL_law 599 = .ok (.i2l, 1) := by decide +kernel
theorem dL_law_600 : decode cL_law 600 = .ok (.bipush 32, 2) := by decide +kernel
theorem dL_law_602 : decode cL_law 602 = .ok (.lshl, 1) := by decide +kernel
theorem dL_law_603 : decode cL_law 603 = .ok (.aload_n 0, 1) := by decide +kernel
theorem dL_law_604 : decode cL_law 604 = .ok (.iload_n 3, 1) := by decide +kernel
theorem dL_law_605 : decode cL_law 605 = .ok (.iconst 2, 1) := by decide +kernel
theorem dL_law_606 : decode cL_law 606 = .ok (.iadd, 1) := by decide +kernel
theorem dL_law_607 : decode cL_law 607 = .ok (.iaload, 1) := by decide +kernel
theorem dL_law_608 : decode cL_law 608 = .ok (.i2l, 1) := by decide +kernel
theorem dL_law_609 : decode cL_law 609 = .ok (.ldc2_w 82, 3) := by decide +kernel
theorem dL_law_612 : decode cL_law 612 = .ok (.land, 1) := by decide +kernel
theorem dL_law_613 : decode cL_law 613 = .ok (.lor, 1) := by decide +kernel
theorem dL_law_614 : decode cL_law 614 = .ok (.invokevirtual 88, 3) := by decide +kernel
theorem dL_law_617 : decode cL_law 617 = .ok (.if_icmp .eq 103, 3) := by decide +kernel
theorem dL_law_620 : decode cL_law 620 = .ok (.iconst 0, 1) := by decide +kernel
theorem dL_law_621 : decode cL_law 621 = .ok (.ireturn, 1) := by decide +kernel
theorem dL_law_622 : decode cL_law 622 = .ok (.aload_n 1, 1) := by decide +kernel
theorem dL_law_623 : decode cL_law 623 = .ok (.invokevirtual 89, 3) := by decide +kernel
theorem dL_law_626 : decode cL_law 626 = .ok (.aload_n 2, 1) := by decide +kernel
theorem dL_law_627 : decode cL_law 627 = .ok (.invokevirtual 92, 3) := by decide +kernel
theorem dL_law_630 : decode cL_law 630 = .ok (.if_icmp .eq 90, 3) := by decide +kernel
theorem dL_law_633 : decode cL_law 633 = .ok (.iconst 0, 1) := by decide +kernel
theorem dL_law_634 : decode cL_law 634 = .ok (.ireturn, 1) := by decide +kernel
theorem dL_law_635 : decode cL_law 635 = .ok (.aload_n 1, 1) := by decide +kernel
theorem dL_law_636 : decode cL_law 636 = .ok (.invokevirtual 93, 3) := by decide +kernel
theorem dL_law_639 : decode cL_law 639 = .ok (.aload_n 2, 1) := by decide +kernel
theorem dL_law_640 : decode cL_law 640 = .ok (.invokevirtual 96, 3) := by decide +kernel
theorem dL_law_643 : decode cL_law 643 = .ok (.if_icmp .eq 77, 3) := by decide +kernel
theorem dL_law_646 : decode cL_law 646 = .ok (.iconst 0, 1) := by decide +kernel
theorem dL_law_647 : decode cL_law 647 = .ok (.ireturn, 1) := by decide +kernel
theorem dL_law_648 : decode cL_law 648 = .ok (.aload_n 1, 1) := by decide +kernel
theorem dL_law_649 : decode cL_law 649 = .ok (.invokevirtual 97, 3) := by decide +kernel
theorem dL_law_652 : decode cL_law 652 = .ok (.aload_n 2, 1) := by decide +kernel
theorem dL_law_653 : decode cL_law 653 = .ok (.invokevirtual 100, 3) := by decide +kernel
theorem dL_law_656 : decode cL_law 656 = .ok (.if_icmp .eq 64, 3) := by decide +kernel
theorem dL_law_659 : decode cL_law 659 = .ok (.iconst 0, 1) := by decide +kernel
theorem dL_law_660 : decode cL_law 660 = .ok (.ireturn, 1) := by decide +kernel
theorem dL_law_661 : decode cL_law 661 = .ok (.aload_n 1, 1) := by decide +kernel
theorem dL_law_662 : decode cL_law 662 = .ok (.invokevirtual 101, 3) := by decide +kernel
theorem dL_law_665 : decode cL_law 665 = .ok (.aload_n 2, 1) := by decide +kernel
theorem dL_law_666 : decode cL_law 666 = .ok (.invokevirtual 104, 3) := by decide +kernel
theorem dL_law_669 : decode cL_law 669 = .ok (.if_icmp .eq 51, 3) := by decide +kernel
theorem dL_law_672 : decode cL_law 672 = .ok (.iconst 0, 1) := by decide +kernel
theorem dL_law_673 : decode cL_law 673 = .ok (.ireturn, 1) := by decide +kernel
theorem dL_law_674 : decode cL_law 674 = .ok (.aload_n 1, 1) := by decide +kernel
theorem dL_law_675 : decode cL_law 675 = .ok (.aload_n 0, 1) := by decide +kernel
theorem dL_law_676 : decode cL_law 676 = .ok (.iload_n 3, 1) := by decide +kernel
theorem dL_law_677 : decode cL_law 677 = .ok (.iconst 1, 1) := by decide +kernel
theorem dL_law_678 : decode cL_law 678 = .ok (.iadd, 1) := by decide +kernel
theorem dL_law_679 : decode cL_law 679 = .ok (.iaload, 1) := by decide +kernel
theorem dL_law_680 : decode cL_law 680 = .ok (.invokevirtual 105, 3) := by decide +kernel
theorem dL_law_683 : decode cL_law 683 = .ok (.aload_n 2, 1) := by decide +kernel
theorem dL_law_684 : decode cL_law 684 = .ok (.aload_n 0, 1) := by decide +kernel
theorem dL_law_685 : decode cL_law 685 = .ok (.iload_n 3, 1) := by decide +kernel
theorem dL_law_686 : decode cL_law 686 = .ok (.iconst 1, 1) := by decide +kernel
theorem dL_law_687 : decode cL_law 687 = .ok (.iadd, 1) := by decide +kernel
theorem dL_law_688 : decode cL_law 688 = .ok (.iaload, 1) := by decide +kernel
theorem dL_law_689 : decode cL_law 689 = .ok (.invokevirtual 108, 3) := by decide +kernel
theorem dL_law_692 : decode cL_law 692 = .ok (.if_icmp .eq 28, 3) := by decide +kernel
theorem dL_law_695 : decode cL_law 695 = .ok (.iconst 0, 1) := by decide +kernel
theorem dL_law_696 : decode cL_law 696 = .ok (.ireturn, 1) := by decide +kernel
theorem dL_law_697 : decode cL_law 697 = .ok (.aload_n 1, 1) := by decide +kernel
theorem dL_law_698 : decode cL_law 698 = .ok (.aload_n 0, 1) := by decide +kernel
theorem dL_law_699 : decode cL_law 699 = .ok (.iload_n 3, 1) := by decide +kernel
theorem dL_law_700 : decode cL_law 700 = .ok (.iconst 1, 1) := by decide +kernel
theorem dL_law_701 : decode cL_law 701 = .ok (.iadd, 1) := by decide +kernel
theorem dL_law_702 : decode cL_law 702 = .ok (.iaload, 1) := by decide +kernel
theorem dL_law_703 : decode cL_law 703 = .ok (.invokevirtual 109, 3) := by decide +kernel
theorem dL_law_706 : decode cL_law 706 = .ok (.aload_n 2, 1) := by decide +kernel
theorem dL_law_707 : decode cL_law 707 = .ok (.aload_n 0, 1) := by decide +kernel
theorem dL_law_708 : decode cL_law 708 = .ok (.iload_n 3, 1) := by decide +kernel
theorem dL_law_709 : decode cL_law 709 = .ok (.iconst 1, 1) := by decide +kernel
theorem dL_law_710 : decode cL_law 710 = .ok (.iadd, 1) := by decide +kernel
theorem dL_law_711 : decode cL_law 711 = .ok (.iaload, 1) := by decide +kernel
theorem dL_law_712 : decode cL_law 712 = .ok (.invokevirtual 112, 3) := by decide +kernel
theorem dL_law_715 : decode cL_law 715 = .ok (.if_icmp .eq 5, 3) := by decide +kernel
theorem dL_law_718 : decode cL_law 718 = .ok (.iconst 0, 1) := by decide +kernel
theorem dL_law_719 : decode cL_law 719 = .ok (.ireturn, 1) := by decide +kernel
theorem dL_law_720 : decode cL_law 720 = .ok (.iinc 3 4, 3) := by decide +kernel
theorem dL_law_723 : decode cL_law 723 = .ok (.goto (-705), 3) := by decide +kernel
theorem dL_law_726 : decode cL_law 726 = .ok (.iconst 1, 1) := by decide +kernel
theorem dL_law_727 : decode cL_law 727 = .ok (.ireturn, 1) := by decide +kernel

theorem d_Law_0 : decode code 0 = .ok (.new 7, 3) := by decide +kernel
theorem d_Law_3 : decode code 3 = .ok (.dup, 1) := by decide +kernel
theorem d_Law_4 : decode code 4 = .ok (.invokespecial 9, 3) := by decide +kernel
theorem d_Law_7 : decode code 7 = .ok (.astore_n 1, 1) := by decide +kernel
theorem d_Law_8 : decode code 8 = .ok (.new 10, 3) := by decide +kernel
theorem d_Law_11 : decode code 11 = .ok (.dup, 1) := by decide +kernel
theorem d_Law_12 : decode code 12 = .ok (.invokespecial 12, 3) := by decide +kernel
theorem d_Law_15 : decode code 15 = .ok (.astore_n 2, 1) := by decide +kernel
theorem d_Law_16 : decode code 16 = .ok (.iconst 0, 1) := by decide +kernel
theorem d_Law_17 : decode code 17 = .ok (.istore_n 3, 1) := by decide +kernel
theorem d_Law_18 : decode code 18 = .ok (.iload_n 3, 1) := by decide +kernel
theorem d_Law_19 : decode code 19 = .ok (.aload_n 0, 1) := by decide +kernel
theorem d_Law_20 : decode code 20 = .ok (.arraylength, 1) := by decide +kernel
theorem d_Law_21 : decode code 21 = .ok (.iconst 4, 1) := by decide +kernel
theorem d_Law_22 : decode code 22 = .ok (.isub, 1) := by decide +kernel
theorem d_Law_23 : decode code 23 = .ok (.if_icmp .gt 521, 3) := by decide +kernel
theorem d_Law_26 : decode code 26 = .ok (.aload_n 0, 1) := by decide +kernel
theorem d_Law_27 : decode code 27 = .ok (.iload_n 3, 1) := by decide +kernel
theorem d_Law_28 : decode code 28 = .ok (.iaload, 1) := by decide +kernel
theorem d_Law_29 : decode code 29 = .ok (.bipush 31, 2) := by decide +kernel
theorem d_Law_31 : decode code 31 = .ok (.iand, 1) := by decide +kernel
theorem d_Law_32 : decode code 32 = .ok (.tableswitch 506 0 19 #[96, 139, 162, 185, 208, 221, 244, 257, 270, 283, 296, 319, 352, 365, 388, 421, 444, 457, 480, 493], 96) := by decide +kernel
theorem d_Law_128 : decode code 128 = .ok (.aload_n 1, 1) := by decide +kernel
theorem d_Law_129 : decode code 129 = .ok (.aload_n 0, 1) := by decide +kernel
theorem d_Law_130 : decode code 130 = .ok (.iload_n 3, 1) := by decide +kernel
theorem d_Law_131 : decode code 131 = .ok (.iconst 1, 1) := by decide +kernel
theorem d_Law_132 : decode code 132 = .ok (.iadd, 1) := by decide +kernel
theorem d_Law_133 : decode code 133 = .ok (.iaload, 1) := by decide +kernel
theorem d_Law_134 : decode code 134 = .ok (.aload_n 0, 1) := by decide +kernel
theorem d_Law_135 : decode code 135 = .ok (.iload_n 3, 1) := by decide +kernel
theorem d_Law_136 : decode code 136 = .ok (.iconst 2, 1) := by decide +kernel
theorem d_Law_137 : decode code 137 = .ok (.iadd, 1) := by decide +kernel
theorem d_Law_138 : decode code 138 = .ok (.iaload, 1) := by decide +kernel
theorem d_Law_139 : decode code 139 = .ok (.aload_n 0, 1) := by decide +kernel
theorem d_Law_140 : decode code 140 = .ok (.iload_n 3, 1) := by decide +kernel
theorem d_Law_141 : decode code 141 = .ok (.iconst 3, 1) := by decide +kernel
theorem d_Law_142 : decode code 142 = .ok (.iadd, 1) := by decide +kernel
theorem d_Law_143 : decode code 143 = .ok (.iaload, 1) := by decide +kernel
theorem d_Law_144 : decode code 144 = .ok (.invokevirtual 13, 3) := by decide +kernel
theorem d_Law_147 : decode code 147 = .ok (.aload_n 2, 1) := by decide +kernel
theorem d_Law_148 : decode code 148 = .ok (.aload_n 0, 1) := by decide +kernel
theorem d_Law_149 : decode code 149 = .ok (.iload_n 3, 1) := by decide +kernel
theorem d_Law_150 : decode code 150 = .ok (.iconst 1, 1) := by decide +kernel
theorem d_Law_151 : decode code 151 = .ok (.iadd, 1) := by decide +kernel
theorem d_Law_152 : decode code 152 = .ok (.iaload, 1) := by decide +kernel
theorem d_Law_153 : decode code 153 = .ok (.aload_n 0, 1) := by decide +kernel
theorem d_Law_154 : decode code 154 = .ok (.iload_n 3, 1) := by decide +kernel
theorem d_Law_155 : decode code 155 = .ok (.iconst 2, 1) := by decide +kernel
theorem d_Law_156 : decode code 156 = .ok (.iadd, 1) := by decide +kernel
theorem d_Law_157 : decode code 157 = .ok (.iaload, 1) := by decide +kernel
theorem d_Law_158 : decode code 158 = .ok (.aload_n 0, 1) := by decide +kernel
theorem d_Law_159 : decode code 159 = .ok (.iload_n 3, 1) := by decide +kernel
theorem d_Law_160 : decode code 160 = .ok (.iconst 3, 1) := by decide +kernel
theorem d_Law_161 : decode code 161 = .ok (.iadd, 1) := by decide +kernel
theorem d_Law_162 : decode code 162 = .ok (.iaload, 1) := by decide +kernel
theorem d_Law_163 : decode code 163 = .ok (.invokevirtual 17, 3) := by decide +kernel
theorem d_Law_166 : decode code 166 = .ok (.if_icmp .eq 372, 3) := by decide +kernel
theorem d_Law_169 : decode code 169 = .ok (.iconst 0, 1) := by decide +kernel
theorem d_Law_170 : decode code 170 = .ok (.ireturn, 1) := by decide +kernel
theorem d_Law_171 : decode code 171 = .ok (.aload_n 1, 1) := by decide +kernel

theorem d_Law_172 : decode code 172 = .ok (.aload_n 0, 1) := by decide +kernel
theorem d_Law_173 : decode code 173 = .ok (.iload_n 3, 1) := by decide +kernel
theorem d_Law_174 : decode code 174 = .ok (.iconst 1, 1) := by decide +kernel
theorem d_Law_175 : decode code 175 = .ok (.iadd, 1) := by decide +kernel
theorem d_Law_176 : decode code 176 = .ok (.iaload, 1) := by decide +kernel
theorem d_Law_177 : decode code 177 = .ok (.invokevirtual 18, 3) := by decide +kernel
theorem d_Law_180 : decode code 180 = .ok (.aload_n 2, 1) := by decide +kernel
theorem d_Law_181 : decode code 181 = .ok (.aload_n 0, 1) := by decide +kernel
theorem d_Law_182 : decode code 182 = .ok (.iload_n 3, 1) := by decide +kernel
theorem d_Law_183 : decode code 183 = .ok (.iconst 1, 1) := by decide +kernel
theorem d_Law_184 : decode code 184 = .ok (.iadd, 1) := by decide +kernel
theorem d_Law_185 : decode code 185 = .ok (.iaload, 1) := by decide +kernel
theorem d_Law_186 : decode code 186 = .ok (.invokevirtual 22, 3) := by decide +kernel
theorem d_Law_189 : decode code 189 = .ok (.if_icmp .eq 349, 3) := by decide +kernel
theorem d_Law_192 : decode code 192 = .ok (.iconst 0, 1) := by decide +kernel
theorem d_Law_193 : decode code 193 = .ok (.ireturn, 1) := by decide +kernel
theorem d_Law_194 : decode code 194 = .ok (.aload_n 1, 1) := by decide +kernel
theorem d_Law_195 : decode code 195 = .ok (.aload_n 0, 1) := by decide +kernel
theorem d_Law_196 : decode code 196 = .ok (.iload_n 3, 1) := by decide +kernel
theorem d_Law_197 : decode code 197 = .ok (.iconst 1, 1) := by decide +kernel
theorem d_Law_198 : decode code 198 = .ok (.iadd, 1) := by decide +kernel
theorem d_Law_199 : decode code 199 = .ok (.iaload, 1) := by decide +kernel
theorem d_Law_200 : decode code 200 = .ok (.invokevirtual 23, 3) := by decide +kernel
theorem d_Law_203 : decode code 203 = .ok (.aload_n 2, 1) := by decide +kernel
theorem d_Law_204 : decode code 204 = .ok (.aload_n 0, 1) := by decide +kernel
theorem d_Law_205 : decode code 205 = .ok (.iload_n 3, 1) := by decide +kernel
theorem d_Law_206 : decode code 206 = .ok (.iconst 1, 1) := by decide +kernel
theorem d_Law_207 : decode code 207 = .ok (.iadd, 1) := by decide +kernel
theorem d_Law_208 : decode code 208 = .ok (.iaload, 1) := by decide +kernel
theorem d_Law_209 : decode code 209 = .ok (.invokevirtual 26, 3) := by decide +kernel
theorem d_Law_212 : decode code 212 = .ok (.if_icmp .eq 326, 3) := by decide +kernel
theorem d_Law_215 : decode code 215 = .ok (.iconst 0, 1) := by decide +kernel
theorem d_Law_216 : decode code 216 = .ok (.ireturn, 1) := by decide +kernel
theorem d_Law_217 : decode code 217 = .ok (.aload_n 1, 1) := by decide +kernel
theorem d_Law_218 : decode code 218 = .ok (.aload_n 0, 1) := by decide +kernel
theorem d_Law_219 : decode code 219 = .ok (.iload_n 3, 1) := by decide +kernel
theorem d_Law_220 : decode code 220 = .ok (.iconst 1, 1) := by decide +kernel
theorem d_Law_221 : decode code 221 = .ok (.iadd, 1) := by decide +kernel
theorem d_Law_222 : decode code 222 = .ok (.iaload, 1) := by decide +kernel
theorem d_Law_223 : decode code 223 = .ok (.invokevirtual 27, 3) := by decide +kernel
theorem d_Law_226 : decode code 226 = .ok (.aload_n 2, 1) := by decide +kernel
theorem d_Law_227 : decode code 227 = .ok (.aload_n 0, 1) := by decide +kernel
theorem d_Law_228 : decode code 228 = .ok (.iload_n 3, 1) := by decide +kernel
theorem d_Law_229 : decode code 229 = .ok (.iconst 1, 1) := by decide +kernel
theorem d_Law_230 : decode code 230 = .ok (.iadd, 1) := by decide +kernel
theorem d_Law_231 : decode code 231 = .ok (.iaload, 1) := by decide +kernel
theorem d_Law_232 : decode code 232 = .ok (.invokevirtual 30, 3) := by decide +kernel
theorem d_Law_235 : decode code 235 = .ok (.if_icmp .eq 303, 3) := by decide +kernel
theorem d_Law_238 : decode code 238 = .ok (.iconst 0, 1) := by decide +kernel
theorem d_Law_239 : decode code 239 = .ok (.ireturn, 1) := by decide +kernel
theorem d_Law_240 : decode code 240 = .ok (.aload_n 1, 1) := by decide +kernel
theorem d_Law_241 : decode code 241 = .ok (.invokevirtual 31, 3) := by decide +kernel
theorem d_Law_244 : decode code 244 = .ok (.aload_n 2, 1) := by decide +kernel
theorem d_Law_245 : decode code 245 = .ok (.invokevirtual 35, 3) := by decide +kernel
theorem d_Law_248 : decode code 248 = .ok (.if_icmp .eq 290, 3) := by decide +kernel
theorem d_Law_251 : decode code 251 = .ok (.iconst 0, 1) := by decide +kernel
theorem d_Law_252 : decode code 252 = .ok (.ireturn, 1) := by decide +kernel
theorem d_Law_253 : decode code 253 = .ok (.aload_n 1, 1) := by decide +kernel
theorem d_Law_254 : decode code 254 = .ok (.aload_n 0, 1) := by decide +kernel
theorem d_Law_255 : decode code 255 = .ok (.iload_n 3, 1) := by decide +kernel

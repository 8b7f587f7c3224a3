set_option maxRecDepth 20000 in
theorem AdL_law_31lawdec00_0 : decode cL_law 0 = .ok (.new 7, 3) ∧ decode cL_law 3 = .ok (.dup, 1) ∧ decode cL_law 4 = .ok (.invokespecial 9, 3) ∧ decode cL_law 7 = .ok (.astore_n 1, 1) ∧ decode cL_law 8 = .ok (.new 10, 3) ∧ decode cL_law 11 = .ok (.dup, 1) ∧ decode cL_law 12 = .ok (.invokespecial 12, 3) ∧ decode cL_law 15 = .ok (.astore_n 2, 1) ∧ decode cL_law 16 = .ok (.iconst 0, 1) ∧ decode cL_law 17 = .ok (.istore_n 3, 1) ∧ decode cL_law 18 = .ok (.iload_n 3, 1) ∧ decode cL_law 19 = .ok (.aload_n 0, 1) ∧ decode cL_law 20 = .ok (.arraylength, 1) ∧ decode cL_law 21 = .ok (.iconst 3, 1) ∧ decode cL_law 22 = .ok (.isub, 1) ∧ decode cL_law 23 = .ok (.if_icmp .gt 824, 3) := by decide +kernel
theorem dL_law_0 : decode cL_law 0 = .ok (.new 7, 3) := AdL_law_31lawdec00_0.1
theorem dL_law_3 : decode cL_law 3 = .ok (.dup, 1) := AdL_law_31lawdec00_0.2.1
theorem dL_law_4 : decode cL_law 4 = .ok (.invokespecial 9, 3) := AdL_law_31lawdec00_0.2.2.1
theorem dL_law_7 : decode cL_law 7 = .ok (.astore_n 1, 1) := AdL_law_31lawdec00_0.2.2.2.1
theorem dL_law_8 : decode cL_law 8 = .ok (.new 10, 3) := AdL_law_31lawdec00_0.2.2.2.2.1
theorem dL_law_11 : decode cL_law 11 = .ok (.dup, 1) := AdL_law_31lawdec00_0.2.2.2.2.2.1
theorem dL_law_12 : decode cL_law 12 = .ok (.invokespecial 12, 3) := AdL_law_31lawdec00_0.2.2.2.2.2.2.1
theorem dL_law_15 : decode cL_law 15 = .ok (.astore_n 2, 1) := AdL_law_31lawdec00_0.2.2.2.2.2.2.2.1
theorem dL_law_16 : decode cL_law 16 = .ok (.iconst 0, 1) := AdL_law_31lawdec00_0.2.2.2.2.2.2.2.2.1
theorem dL_law_17 : decode cL_law 17 = .ok (.istore_n 3, 1) := AdL_law_31lawdec00_0.2.2.2.2.2.2.2.2.2.1
theorem dL_law_18 : decode cL_law 18 = .ok (.iload_n 3, 1) := AdL_law_31lawdec00_0.2.2.2.2.2.2.2.2.2.2.1
theorem dL_law_19 : decode cL_law 19 = .ok (.aload_n 0, 1) := AdL_law_31lawdec00_0.2.2.2.2.2.2.2.2.2.2.2.1
theorem dL_law_20 : decode cL_law 20 = .ok (.arraylength, 1) := AdL_law_31lawdec00_0.2.2.2.2.2.2.2.2.2.2.2.2.1
theorem dL_law_21 : decode cL_law 21 = .ok (.iconst 3, 1) := AdL_law_31lawdec00_0.2.2.2.2.2.2.2.2.2.2.2.2.2.1
theorem dL_law_22 : decode cL_law 22 = .ok (.isub, 1) := AdL_law_31lawdec00_0.2.2.2.2.2.2.2.2.2.2.2.2.2.2.1
theorem dL_law_23 : decode cL_law 23 = .ok (.if_icmp .gt 824, 3) := AdL_law_31lawdec00_0.2.2.2.2.2.2.2.2.2.2.2.2.2.2.2
set_option maxRecDepth 20000 in
theorem AdL_law_31lawdec00_1 : decode cL_law 26 = .ok (.aload_n 0, 1) ∧ decode cL_law 27 = .ok (.iload_n 3, 1) ∧ decode cL_law 28 = .ok (.iaload, 1) ∧ decode cL_law 29 = .ok (.bipush 31, 2) ∧ decode cL_law 31 = .ok (.iand, 1) ∧ decode cL_law 32 = .ok (.tableswitch 809 0 30 #[140, 163, 176, 189, 212, 245, 278, 291, 314, 363, 376, 399, 412, 435, 458, 491, 514, 537, 550, 563, 596, 629, 642, 655, 678, 691, 714, 727, 740, 763, 786], 140) ∧ decode cL_law 172 = .ok (.aload_n 1, 1) ∧ decode cL_law 173 = .ok (.aload_n 0, 1) ∧ decode cL_law 174 = .ok (.iload_n 3, 1) ∧ decode cL_law 175 = .ok (.iconst 1, 1) ∧ decode cL_law 176 = .ok (.iadd, 1) ∧ decode cL_law 177 = .ok (.iaload, 1) ∧ decode cL_law 178 = .ok (.invokevirtual 13, 3) ∧ decode cL_law 181 = .ok (.pop, 1) ∧ decode cL_law 182 = .ok (.aload_n 2, 1) ∧ decode cL_law 183 = .ok (.aload_n 0, 1) := by decide +kernel
theorem dL_law_26 : decode cL_law 26 = .ok (.aload_n 0, 1) := AdL_law_31lawdec00_1.1
theorem dL_law_27 : decode cL_law 27 = .ok (.iload_n 3, 1) := AdL_law_31lawdec00_1.2.1
theorem dL_law_28 : decode cL_law 28 = .ok (.iaload, 1) := AdL_law_31lawdec00_1.2.2.1
theorem dL_law_29 : decode cL_law 29 = .ok (.bipush 31, 2) := AdL_law_31lawdec00_1.2.2.2.1
theorem dL_law_31 : decode cL_law 31 = .ok (.iand, 1) := AdL_law_31lawdec00_1.2.2.2.2.1
theorem dL_law_32 : decode cL_law 32 = .ok (.tableswitch 809 0 30 #[140, 163, 176, 189, 212, 245, 278, 291, 314, 363, 376, 399, 412, 435, 458, 491, 514, 537, 550, 563, 596, 629, 642, 655, 678, 691, 714, 727, 740, 763, 786], 140) := AdL_law_31lawdec00_1.2.2.2.2.2.1
theorem dL_law_172 : decode cL_law 172 = .ok (.aload_n 1, 1) := AdL_law_31lawdec00_1.2.2.2.2.2.2.1
theorem dL_law_173 : decode cL_law 173 = .ok (.aload_n 0, 1) := AdL_law_31lawdec00_1.2.2.2.2.2.2.2.1
theorem dL_law_174 : decode cL_law 174 = .ok (.iload_n 3, 1) := AdL_law_31lawdec00_1.2.2.2.2.2.2.2.2.1
theorem dL_law_175 : decode cL_law 175 = .ok (.iconst 1, 1) := AdL_law_31lawdec00_1.2.2.2.2.2.2.2.2.2.1
theorem dL_law_176 : decode cL_law 176 = .ok (.iadd, 1) := AdL_law_31lawdec00_1.2.2.2.2.2.2.2.2.2.2.1
theorem dL_law_177 : decode cL_law 177 = .ok (.iaload, 1) := AdL_law_31lawdec00_1.2.2.2.2.2.2.2.2.2.2.2.1
theorem dL_law_178 : decode cL_law 178 = .ok (.invokevirtual 13, 3) := AdL_law_31lawdec00_1.2.2.2.2.2.2.2.2.2.2.2.2.1
theorem dL_law_181 : decode cL_law 181 = .ok (.pop, 1) := AdL_law_31lawdec00_1.2.2.2.2.2.2.2.2.2.2.2.2.2.1
theorem dL_law_182 : decode cL_law 182 = .ok (.aload_n 2, 1) := AdL_law_31lawdec00_1.2.2.2.2.2.2.2.2.2.2.2.2.2.2.1
theorem dL_law_183 : decode cL_law 183 = .ok (.aload_n 0, 1) := AdL_law_31lawdec00_1.2.2.2.2.2.2.2.2.2.2.2.2.2.2.2
set_option maxRecDepth 20000 in
theorem AdL_law_31lawdec00_2 : decode cL_law 184 = .ok (.iload_n 3, 1) ∧ decode cL_law 185 = .ok (.iconst 1, 1) ∧ decode cL_law 186 = .ok (.iadd, 1) ∧ decode cL_law 187 = .ok (.iaload, 1) ∧ decode cL_law 188 = .ok (.invokevirtual 17, 3) ∧ decode cL_law 191 = .ok (.pop, 1) ∧ decode cL_law 192 = .ok (.goto 649, 3) ∧ decode cL_law 195 = .ok (.aload_n 1, 1) ∧ decode cL_law 196 = .ok (.invokevirtual 18, 3) ∧ decode cL_law 199 = .ok (.pop, 1) ∧ decode cL_law 200 = .ok (.aload_n 2, 1) ∧ decode cL_law 201 = .ok (.invokevirtual 22, 3) ∧ decode cL_law 204 = .ok (.pop, 1) ∧ decode cL_law 205 = .ok (.goto 636, 3) ∧ decode cL_law 208 = .ok (.aload_n 1, 1) ∧ decode cL_law 209 = .ok (.invokevirtual 23, 3) := by decide +kernel
theorem dL_law_184 : decode cL_law 184 = .ok (.iload_n 3, 1) := AdL_law_31lawdec00_2.1
theorem dL_law_185 : decode cL_law 185 = .ok (.iconst 1, 1) := AdL_law_31lawdec00_2.2.1
theorem dL_law_186 : decode cL_law 186 = .ok (.iadd, 1) := AdL_law_31lawdec00_2.2.2.1
theorem dL_law_187 : decode cL_law 187 = .ok (.iaload, 1) := AdL_law_31lawdec00_2.2.2.2.1
theorem dL_law_188 : decode cL_law 188 = .ok (.invokevirtual 17, 3) := AdL_law_31lawdec00_2.2.2.2.2.1
theorem dL_law_191 : decode cL_law 191 = .ok (.pop, 1) := AdL_law_31lawdec00_2.2.2.2.2.2.1
theorem dL_law_192 : decode cL_law 192 = .ok (.goto 649, 3) := AdL_law_31lawdec00_2.2.2.2.2.2.2.1
theorem dL_law_195 : decode cL_law 195 = .ok (.aload_n 1, 1) := AdL_law_31lawdec00_2.2.2.2.2.2.2.2.1
theorem dL_law_196 : decode cL_law 196 = .ok (.invokevirtual 18, 3) := AdL_law_31lawdec00_2.2.2.2.2.2.2.2.2.1
theorem dL_law_199 : decode cL_law 199 = .ok (.pop, 1) := AdL_law_31lawdec00_2.2.2.2.2.2.2.2.2.2.1
theorem dL_law_200 : decode cL_law 200 = .ok (.aload_n 2, 1) := AdL_law_31lawdec00_2.2.2.2.2.2.2.2.2.2.2.1
theorem dL_law_201 : decode cL_law 201 = .ok (.invokevirtual 22, 3) := AdL_law_31lawdec00_2.2.2.2.2.2.2.2.2.2.2.2.1
theorem dL_law_204 : decode cL_law 204 = .ok (.pop, 1) := AdL_law_31lawdec00_2.2.2.2.2.2.2.2.2.2.2.2.2.1
theorem dL_law_205 : decode cL_law 205 = .ok (.goto 636, 3) := AdL_law_31lawdec00_2.2.2.2.2.2.2.2.2.2.2.2.2.2.1
theorem dL_law_208 : decode cL_law 208 = .ok (.aload_n 1, 1) := AdL_law_31lawdec00_2.2.2.2.2.2.2.2.2.2.2.2.2.2.2.1
theorem dL_law_209 : decode cL_law 209 = .ok (.invokevirtual 23, 3) := AdL_law_31lawdec00_2.2.2.2.2.2.2.2.2.2.2.2.2.2.2.2
set_option maxRecDepth 20000 in
theorem AdL_law_31lawdec00_3 : decode cL_law 212 = .ok (.pop, 1) ∧ decode cL_law 213 = .ok (.aload_n 2, 1) ∧ decode cL_law 214 = .ok (.invokevirtual 26, 3) ∧ decode cL_law 217 = .ok (.pop, 1) ∧ decode cL_law 218 = .ok (.goto 623, 3) ∧ decode cL_law 221 = .ok (.aload_n 1, 1) ∧ decode cL_law 222 = .ok (.aload_n 0, 1) ∧ decode cL_law 223 = .ok (.iload_n 3, 1) ∧ decode cL_law 224 = .ok (.iconst 1, 1) ∧ decode cL_law 225 = .ok (.iadd, 1) ∧ decode cL_law 226 = .ok (.iaload, 1) ∧ decode cL_law 227 = .ok (.invokevirtual 27, 3) ∧ decode cL_law 230 = .ok (.pop, 1) ∧ decode cL_law 231 = .ok (.aload_n 2, 1) ∧ decode cL_law 232 = .ok (.aload_n 0, 1) ∧ decode cL_law 233 = .ok (.iload_n 3, 1) := by decide +kernel
theorem dL_law_212 : decode cL_law 212 = .ok (.pop, 1) := AdL_law_31lawdec00_3.1
theorem dL_law_213 : decode cL_law 213 = .ok (.aload_n 2, 1) := AdL_law_31lawdec00_3.2.1
theorem dL_law_214 : decode cL_law 214 = .ok (.invokevirtual 26, 3) := AdL_law_31lawdec00_3.2.2.1
theorem dL_law_217 : decode cL_law 217 = .ok (.pop, 1) := AdL_law_31lawdec00_3.2.2.2.1
theorem dL_law_218 : decode cL_law 218 = .ok (.goto 623, 3) := AdL_law_31lawdec00_3.2.2.2.2.1
theorem dL_law_221 : decode cL_law 221 = .ok (.aload_n 1, 1) := AdL_law_31lawdec00_3.2.2.2.2.2.1
theorem dL_law_222 : decode cL_law 222 = .ok (.aload_n 0, 1) := AdL_law_31lawdec00_3.2.2.2.2.2.2.1
theorem dL_law_223 : decode cL_law 223 = .ok (.iload_n 3, 1) := AdL_law_31lawdec00_3.2.2.2.2.2.2.2.1
theorem dL_law_224 : decode cL_law 224 = .ok (.iconst 1, 1) := AdL_law_31lawdec00_3.2.2.2.2.2.2.2.2.1
theorem dL_law_225 : decode cL_law 225 = .ok (.iadd, 1) := AdL_law_31lawdec00_3.2.2.2.2.2.2.2.2.2.1
theorem dL_law_226 : decode cL_law 226 = .ok (.iaload, 1) := AdL_law_31lawdec00_3.2.2.2.2.2.2.2.2.2.2.1
theorem dL_law_227 : decode cL_law 227 = .ok (.invokevirtual 27, 3) := AdL_law_31lawdec00_3.2.2.2.2.2.2.2.2.2.2.2.1
theorem dL_law_230 : decode cL_law 230 = .ok (.pop, 1) := AdL_law_31lawdec00_3.2.2.2.2.2.2.2.2.2.2.2.2.1
theorem dL_law_231 : decode cL_law 231 = .ok (.aload_n 2, 1) := AdL_law_31lawdec00_3.2.2.2.2.2.2.2.2.2.2.2.2.2.1
theorem dL_law_232 : decode cL_law 232 = .ok (.aload_n 0, 1) := AdL_law_31lawdec00_3.2.2.2.2.2.2.2.2.2.2.2.2.2.2.1
theorem dL_law_233 : decode cL_law 233 = .ok (.iload_n 3, 1) := AdL_law_31lawdec00_3.2.2.2.2.2.2.2.2.2.2.2.2.2.2.2
set_option maxRecDepth 20000 in
theorem AdL_law_31lawdec00_4 : decode cL_law 234 = .ok (.iconst 1, 1) ∧ decode cL_law 235 = .ok (.iadd, 1) ∧ decode cL_law 236 = .ok (.iaload, 1) ∧ decode cL_law 237 = .ok (.invokevirtual 30, 3) ∧ decode cL_law 240 = .ok (.pop, 1) ∧ decode cL_law 241 = .ok (.goto 600, 3) := by decide +kernel
theorem dL_law_234 : decode cL_law 234 = .ok (.iconst 1, 1) := AdL_law_31lawdec00_4.1
theorem dL_law_235 : decode cL_law 235 = .ok (.iadd, 1) := AdL_law_31lawdec00_4.2.1
theorem dL_law_236 : decode cL_law 236 = .ok (.iaload, 1) := AdL_law_31lawdec00_4.2.2.1
theorem dL_law_237 : decode cL_law 237 = .ok (.invokevirtual 30, 3) := AdL_law_31lawdec00_4.2.2.2.1
theorem dL_law_240 : decode cL_law 240 = .ok (.pop, 1) := AdL_law_31lawdec00_4.2.2.2.2.1
theorem dL_law_241 : decode cL_law 241 = .ok (.goto 600, 3) := AdL_law_31lawdec00_4.2.2.2.2.2

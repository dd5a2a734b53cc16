/-! the reference: the next token -/
theorem nt_fin {by' : Nat → Int32} {sz t o : Nat} {h : AHp} (hx : MTx by' sz t o h) {τ : Nat → Nat → Int32} {J : Nat → Nat → Int64} (hf : ∀ a k, ¬ (a = 38 ∧ (k = 23 ∨ k = 24 ∨ k = 25)) → τ a k = hpI h a k) (hj : ∀ a, a ≠ 38 → J a = hpJ h a) : FrE h τ J ∧ MTx by' sz t o (mkH h τ J) := ⟨⟨fun a k ha => hf a k (by omega), hj⟩, hx.e (h' := mkH h τ J) (funext fun k => hf 39 k (by omega)) (hf 38 21 (by omega)) (hf 38 22 (by omega)) ((hf 38 27 (by omega)).trans hx.2.2.2.2.2.1) (hf 38 28 (by omega))⟩
theorem mT_0 {by' : Nat → Int32} {sz q : Nat} (h : sz ≤ q) : mT by' sz q = 0 := if_pos h
theorem mT_1 {by' : Nat → Int32} {sz q : Nat} (h : q < sz) (h1 : ltB (btA by' sz q) = true) : mT by' sz q = 1 := by
  unfold mT; rw [if_neg (by omega), if_pos h1]
theorem mT_d {by' : Nat → Int32} {sz q : Nat} (h : q < sz) (h1 : ¬ ltB (btA by' sz q) = true) (h2 : dgB (btA by' sz q) = true) : mT by' sz q = if nnd by' sz q ≤ q + 4 then 2 else 4 := by
  unfold mT; rw [if_neg (by omega), if_neg h1, if_pos h2]
theorem mT_s {by' : Nat → Int32} {sz q : Nat} (h : q < sz) (h1 : ¬ ltB (btA by' sz q) = true) (h2 : ¬ dgB (btA by' sz q) = true) : mT by' sz q = if isSg (btA by' sz q) then 3 else 4 := by
  unfold mT; rw [if_neg (by omega), if_neg h1, if_neg h2]
theorem qX12_nextToken_0 : Dq cX12_nextToken 0 (.aload_n 0) 1 1 := ⟨by decide +kernel, rfl⟩
theorem qX12_nextToken_1 : Dq cX12_nextToken 1 (.aload_n 0) 1 2 := ⟨by decide +kernel, rfl⟩
theorem qX12_nextToken_2 : Dq cX12_nextToken 2 (.getfield 129) 3 5 := ⟨by decide +kernel, rfl⟩
theorem qX12_nextToken_5 : Dq cX12_nextToken 5 (.invokevirtual 132) 3 8 := ⟨by decide +kernel, rfl⟩
theorem qX12_nextToken_8 : Dq cX12_nextToken 8 (.bipush 32) 2 10 := ⟨by decide +kernel, rfl⟩
theorem qX12_nextToken_10 : Dq cX12_nextToken 10 (.if_icmp .eq 16) 3 13 := ⟨by decide +kernel, rfl⟩
theorem qX12_nextToken_13 : Dq cX12_nextToken 13 (.aload_n 0) 1 14 := ⟨by decide +kernel, rfl⟩
theorem qX12_nextToken_14 : Dq cX12_nextToken 14 (.aload_n 0) 1 15 := ⟨by decide +kernel, rfl⟩
theorem qX12_nextToken_15 : Dq cX12_nextToken 15 (.getfield 129) 3 18 := ⟨by decide +kernel, rfl⟩
theorem qX12_nextToken_18 : Dq cX12_nextToken 18 (.invokevirtual 132) 3 21 := ⟨by decide +kernel, rfl⟩
theorem qX12_nextToken_21 : Dq cX12_nextToken 21 (.bipush 10) 2 23 := ⟨by decide +kernel, rfl⟩
theorem qX12_nextToken_23 : Dq cX12_nextToken 23 (.if_icmp .ne 16) 3 26 := ⟨by decide +kernel, rfl⟩
theorem qX12_nextToken_26 : Dq cX12_nextToken 26 (.aload_n 0) 1 27 := ⟨by decide +kernel, rfl⟩
theorem qX12_nextToken_27 : Dq cX12_nextToken 27 (.dup) 1 28 := ⟨by decide +kernel, rfl⟩
theorem qX12_nextToken_28 : Dq cX12_nextToken 28 (.getfield 129) 3 31 := ⟨by decide +kernel, rfl⟩
theorem qX12_nextToken_31 : Dq cX12_nextToken 31 (.iconst 1) 1 32 := ⟨by decide +kernel, rfl⟩
theorem qX12_nextToken_32 : Dq cX12_nextToken 32 (.iadd) 1 33 := ⟨by decide +kernel, rfl⟩
theorem qX12_nextToken_33 : Dq cX12_nextToken 33 (.putfield 129) 3 36 := ⟨by decide +kernel, rfl⟩
theorem qX12_nextToken_36 : Dq cX12_nextToken 36 (.goto (-36)) 3 39 := ⟨by decide +kernel, rfl⟩
theorem qX12_nextToken_39 : Dq cX12_nextToken 39 (.aload_n 0) 1 40 := ⟨by decide +kernel, rfl⟩
theorem qX12_nextToken_40 : Dq cX12_nextToken 40 (.aload_n 0) 1 41 := ⟨by decide +kernel, rfl⟩
theorem qX12_nextToken_41 : Dq cX12_nextToken 41 (.getfield 129) 3 44 := ⟨by decide +kernel, rfl⟩
theorem qX12_nextToken_44 : Dq cX12_nextToken 44 (.putfield 136) 3 47 := ⟨by decide +kernel, rfl⟩
theorem qX12_nextToken_47 : Dq cX12_nextToken 47 (.aload_n 0) 1 48 := ⟨by decide +kernel, rfl⟩
theorem qX12_nextToken_48 : Dq cX12_nextToken 48 (.aload_n 0) 1 49 := ⟨by decide +kernel, rfl⟩
theorem qX12_nextToken_49 : Dq cX12_nextToken 49 (.getfield 129) 3 52 := ⟨by decide +kernel, rfl⟩
theorem qX12_nextToken_52 : Dq cX12_nextToken 52 (.invokevirtual 132) 3 55 := ⟨by decide +kernel, rfl⟩
theorem qX12_nextToken_55 : Dq cX12_nextToken 55 (.istore_n 1) 1 56 := ⟨by decide +kernel, rfl⟩
theorem qX12_nextToken_56 : Dq cX12_nextToken 56 (.aload_n 0) 1 57 := ⟨by decide +kernel, rfl⟩
theorem qX12_nextToken_57 : Dq cX12_nextToken 57 (.iconst 4) 1 58 := ⟨by decide +kernel, rfl⟩
theorem qX12_nextToken_58 : Dq cX12_nextToken 58 (.putfield 139) 3 61 := ⟨by decide +kernel, rfl⟩
theorem qX12_nextToken_61 : Dq cX12_nextToken 61 (.iload_n 1) 1 62 := ⟨by decide +kernel, rfl⟩
theorem qX12_nextToken_62 : Dq cX12_nextToken 62 (.ifCond .ge 19) 3 65 := ⟨by decide +kernel, rfl⟩
theorem qX12_nextToken_65 : Dq cX12_nextToken 65 (.aload_n 0) 1 66 := ⟨by decide +kernel, rfl⟩
theorem qX12_nextToken_66 : Dq cX12_nextToken 66 (.iconst 0) 1 67 := ⟨by decide +kernel, rfl⟩
theorem qX12_nextToken_67 : Dq cX12_nextToken 67 (.putfield 139) 3 70 := ⟨by decide +kernel, rfl⟩
theorem qX12_nextToken_70 : Dq cX12_nextToken 70 (.aload_n 0) 1 71 := ⟨by decide +kernel, rfl⟩
theorem qX12_nextToken_71 : Dq cX12_nextToken 71 (.aload_n 0) 1 72 := ⟨by decide +kernel, rfl⟩
theorem qX12_nextToken_72 : Dq cX12_nextToken 72 (.getfield 123) 3 75 := ⟨by decide +kernel, rfl⟩
theorem qX12_nextToken_75 : Dq cX12_nextToken 75 (.putfield 136) 3 78 := ⟨by decide +kernel, rfl⟩
theorem qX12_nextToken_78 : Dq cX12_nextToken 78 (.goto 243) 3 81 := ⟨by decide +kernel, rfl⟩
theorem qX12_nextToken_81 : Dq cX12_nextToken 81 (.iload_n 1) 1 82 := ⟨by decide +kernel, rfl⟩
theorem qX12_nextToken_82 : Dq cX12_nextToken 82 (.i2l) 1 83 := ⟨by decide +kernel, rfl⟩
theorem qX12_nextToken_83 : Dq cX12_nextToken 83 (.ldc2_w 142) 3 86 := ⟨by decide +kernel, rfl⟩
theorem qX12_nextToken_86 : Dq cX12_nextToken 86 (.ldc2_w 144) 3 89 := ⟨by decide +kernel, rfl⟩
theorem qX12_nextToken_89 : Dq cX12_nextToken 89 (.invokestatic 87) 3 92 := ⟨by decide +kernel, rfl⟩
theorem qX12_nextToken_92 : Dq cX12_nextToken 92 (.ifCond .eq 42) 3 95 := ⟨by decide +kernel, rfl⟩
theorem qX12_nextToken_95 : Dq cX12_nextToken 95 (.aload_n 0) 1 96 := ⟨by decide +kernel, rfl⟩
theorem qX12_nextToken_96 : Dq cX12_nextToken 96 (.iconst 1) 1 97 := ⟨by decide +kernel, rfl⟩
theorem qX12_nextToken_97 : Dq cX12_nextToken 97 (.putfield 139) 3 100 := ⟨by decide +kernel, rfl⟩
theorem qX12_nextToken_100 : Dq cX12_nextToken 100 (.aload_n 0) 1 101 := ⟨by decide +kernel, rfl⟩
theorem qX12_nextToken_101 : Dq cX12_nextToken 101 (.aload_n 0) 1 102 := ⟨by decide +kernel, rfl⟩
theorem qX12_nextToken_102 : Dq cX12_nextToken 102 (.getfield 129) 3 105 := ⟨by decide +kernel, rfl⟩
theorem qX12_nextToken_105 : Dq cX12_nextToken 105 (.invokevirtual 132) 3 108 := ⟨by decide +kernel, rfl⟩
theorem qX12_nextToken_108 : Dq cX12_nextToken 108 (.i2l) 1 109 := ⟨by decide +kernel, rfl⟩
theorem qX12_nextToken_109 : Dq cX12_nextToken 109 (.ldc2_w 142) 3 112 := ⟨by decide +kernel, rfl⟩
theorem qX12_nextToken_112 : Dq cX12_nextToken 112 (.ldc2_w 144) 3 115 := ⟨by decide +kernel, rfl⟩
theorem qX12_nextToken_115 : Dq cX12_nextToken 115 (.invokestatic 87) 3 118 := ⟨by decide +kernel, rfl⟩
theorem qX12_nextToken_118 : Dq cX12_nextToken 118 (.ifCond .eq 203) 3 121 := ⟨by decide +kernel, rfl⟩
theorem qX12_nextToken_121 : Dq cX12_nextToken 121 (.aload_n 0) 1 122 := ⟨by decide +kernel, rfl⟩
theorem qX12_nextToken_122 : Dq cX12_nextToken 122 (.dup) 1 123 := ⟨by decide +kernel, rfl⟩
theorem qX12_nextToken_123 : Dq cX12_nextToken 123 (.getfield 129) 3 126 := ⟨by decide +kernel, rfl⟩
theorem qX12_nextToken_126 : Dq cX12_nextToken 126 (.iconst 1) 1 127 := ⟨by decide +kernel, rfl⟩
theorem qX12_nextToken_127 : Dq cX12_nextToken 127 (.iadd) 1 128 := ⟨by decide +kernel, rfl⟩
theorem qX12_nextToken_128 : Dq cX12_nextToken 128 (.putfield 129) 3 131 := ⟨by decide +kernel, rfl⟩
theorem qX12_nextToken_131 : Dq cX12_nextToken 131 (.goto (-31)) 3 134 := ⟨by decide +kernel, rfl⟩
theorem qX12_nextToken_134 : Dq cX12_nextToken 134 (.iload_n 1) 1 135 := ⟨by decide +kernel, rfl⟩
theorem qX12_nextToken_135 : Dq cX12_nextToken 135 (.i2l) 1 136 := ⟨by decide +kernel, rfl⟩
theorem qX12_nextToken_136 : Dq cX12_nextToken 136 (.ldc2_w 146) 3 139 := ⟨by decide +kernel, rfl⟩
theorem qX12_nextToken_139 : Dq cX12_nextToken 139 (.ldc2_w 148) 3 142 := ⟨by decide +kernel, rfl⟩
theorem qX12_nextToken_142 : Dq cX12_nextToken 142 (.invokestatic 87) 3 145 := ⟨by decide +kernel, rfl⟩
theorem qX12_nextToken_145 : Dq cX12_nextToken 145 (.ifCond .eq 107) 3 148 := ⟨by decide +kernel, rfl⟩
theorem qX12_nextToken_148 : Dq cX12_nextToken 148 (.aload_n 0) 1 149 := ⟨by decide +kernel, rfl⟩
theorem qX12_nextToken_149 : Dq cX12_nextToken 149 (.iconst 2) 1 150 := ⟨by decide +kernel, rfl⟩
theorem qX12_nextToken_150 : Dq cX12_nextToken 150 (.putfield 139) 3 153 := ⟨by decide +kernel, rfl⟩
theorem qX12_nextToken_153 : Dq cX12_nextToken 153 (.aload_n 0) 1 154 := ⟨by decide +kernel, rfl⟩
theorem qX12_nextToken_154 : Dq cX12_nextToken 154 (.lconst 0) 1 155 := ⟨by decide +kernel, rfl⟩
theorem qX12_nextToken_155 : Dq cX12_nextToken 155 (.putfield 150) 3 158 := ⟨by decide +kernel, rfl⟩
theorem qX12_nextToken_158 : Dq cX12_nextToken 158 (.iconst 0) 1 159 := ⟨by decide +kernel, rfl⟩
theorem qX12_nextToken_159 : Dq cX12_nextToken 159 (.istore_n 2) 1 160 := ⟨by decide +kernel, rfl⟩
theorem qX12_nextToken_160 : Dq cX12_nextToken 160 (.aload_n 0) 1 161 := ⟨by decide +kernel, rfl⟩
theorem qX12_nextToken_161 : Dq cX12_nextToken 161 (.aload_n 0) 1 162 := ⟨by decide +kernel, rfl⟩
theorem qX12_nextToken_162 : Dq cX12_nextToken 162 (.getfield 129) 3 165 := ⟨by decide +kernel, rfl⟩
theorem qX12_nextToken_165 : Dq cX12_nextToken 165 (.invokevirtual 132) 3 168 := ⟨by decide +kernel, rfl⟩
theorem qX12_nextToken_168 : Dq cX12_nextToken 168 (.i2l) 1 169 := ⟨by decide +kernel, rfl⟩
theorem qX12_nextToken_169 : Dq cX12_nextToken 169 (.ldc2_w 146) 3 172 := ⟨by decide +kernel, rfl⟩
theorem qX12_nextToken_172 : Dq cX12_nextToken 172 (.ldc2_w 148) 3 175 := ⟨by decide +kernel, rfl⟩
theorem qX12_nextToken_175 : Dq cX12_nextToken 175 (.invokestatic 87) 3 178 := ⟨by decide +kernel, rfl⟩
theorem qX12_nextToken_178 : Dq cX12_nextToken 178 (.ifCond .eq 57) 3 181 := ⟨by decide +kernel, rfl⟩
theorem qX12_nextToken_181 : Dq cX12_nextToken 181 (.aload_n 0) 1 182 := ⟨by decide +kernel, rfl⟩
theorem qX12_nextToken_182 : Dq cX12_nextToken 182 (.iload_n 2) 1 183 := ⟨by decide +kernel, rfl⟩
theorem qX12_nextToken_183 : Dq cX12_nextToken 183 (.iconst 4) 1 184 := ⟨by decide +kernel, rfl⟩
theorem qX12_nextToken_184 : Dq cX12_nextToken 184 (.if_icmp .ge 28) 3 187 := ⟨by decide +kernel, rfl⟩
theorem qX12_nextToken_187 : Dq cX12_nextToken 187 (.ldc2_w 154) 3 190 := ⟨by decide +kernel, rfl⟩
theorem qX12_nextToken_190 : Dq cX12_nextToken 190 (.aload_n 0) 1 191 := ⟨by decide +kernel, rfl⟩
theorem qX12_nextToken_191 : Dq cX12_nextToken 191 (.getfield 150) 3 194 := ⟨by decide +kernel, rfl⟩
theorem qX12_nextToken_194 : Dq cX12_nextToken 194 (.lmul) 1 195 := ⟨by decide +kernel, rfl⟩
theorem qX12_nextToken_195 : Dq cX12_nextToken 195 (.aload_n 0) 1 196 := ⟨by decide +kernel, rfl⟩
theorem qX12_nextToken_196 : Dq cX12_nextToken 196 (.aload_n 0) 1 197 := ⟨by decide +kernel, rfl⟩
theorem qX12_nextToken_197 : Dq cX12_nextToken 197 (.getfield 129) 3 200 := ⟨by decide +kernel, rfl⟩
theorem qX12_nextToken_200 : Dq cX12_nextToken 200 (.invokevirtual 132) 3 203 := ⟨by decide +kernel, rfl⟩
theorem qX12_nextToken_203 : Dq cX12_nextToken 203 (.i2l) 1 204 := ⟨by decide +kernel, rfl⟩
theorem qX12_nextToken_204 : Dq cX12_nextToken 204 (.ladd) 1 205 := ⟨by decide +kernel, rfl⟩
theorem qX12_nextToken_205 : Dq cX12_nextToken 205 (.ldc2_w 146) 3 208 := ⟨by decide +kernel, rfl⟩
theorem qX12_nextToken_208 : Dq cX12_nextToken 208 (.lsub) 1 209 := ⟨by decide +kernel, rfl⟩
theorem qX12_nextToken_209 : Dq cX12_nextToken 209 (.goto 7) 3 212 := ⟨by decide +kernel, rfl⟩
theorem qX12_nextToken_212 : Dq cX12_nextToken 212 (.aload_n 0) 1 213 := ⟨by decide +kernel, rfl⟩
theorem qX12_nextToken_213 : Dq cX12_nextToken 213 (.getfield 150) 3 216 := ⟨by decide +kernel, rfl⟩
theorem qX12_nextToken_216 : Dq cX12_nextToken 216 (.putfield 150) 3 219 := ⟨by decide +kernel, rfl⟩
theorem qX12_nextToken_219 : Dq cX12_nextToken 219 (.iinc 2 1) 3 222 := ⟨by decide +kernel, rfl⟩
theorem qX12_nextToken_222 : Dq cX12_nextToken 222 (.aload_n 0) 1 223 := ⟨by decide +kernel, rfl⟩
theorem qX12_nextToken_223 : Dq cX12_nextToken 223 (.dup) 1 224 := ⟨by decide +kernel, rfl⟩
theorem qX12_nextToken_224 : Dq cX12_nextToken 224 (.getfield 129) 3 227 := ⟨by decide +kernel, rfl⟩
theorem qX12_nextToken_227 : Dq cX12_nextToken 227 (.iconst 1) 1 228 := ⟨by decide +kernel, rfl⟩
theorem qX12_nextToken_228 : Dq cX12_nextToken 228 (.iadd) 1 229 := ⟨by decide +kernel, rfl⟩
theorem qX12_nextToken_229 : Dq cX12_nextToken 229 (.putfield 129) 3 232 := ⟨by decide +kernel, rfl⟩
theorem qX12_nextToken_232 : Dq cX12_nextToken 232 (.goto (-72)) 3 235 := ⟨by decide +kernel, rfl⟩
theorem qX12_nextToken_235 : Dq cX12_nextToken 235 (.aload_n 0) 1 236 := ⟨by decide +kernel, rfl⟩
theorem qX12_nextToken_236 : Dq cX12_nextToken 236 (.iload_n 2) 1 237 := ⟨by decide +kernel, rfl⟩
theorem qX12_nextToken_237 : Dq cX12_nextToken 237 (.iconst 4) 1 238 := ⟨by decide +kernel, rfl⟩
theorem qX12_nextToken_238 : Dq cX12_nextToken 238 (.if_icmp .le 7) 3 241 := ⟨by decide +kernel, rfl⟩
theorem qX12_nextToken_241 : Dq cX12_nextToken 241 (.iconst 4) 1 242 := ⟨by decide +kernel, rfl⟩
theorem qX12_nextToken_242 : Dq cX12_nextToken 242 (.goto 4) 3 245 := ⟨by decide +kernel, rfl⟩
theorem qX12_nextToken_245 : Dq cX12_nextToken 245 (.iconst 2) 1 246 := ⟨by decide +kernel, rfl⟩
theorem qX12_nextToken_246 : Dq cX12_nextToken 246 (.putfield 139) 3 249 := ⟨by decide +kernel, rfl⟩
theorem qX12_nextToken_249 : Dq cX12_nextToken 249 (.goto 72) 3 252 := ⟨by decide +kernel, rfl⟩
theorem qX12_nextToken_252 : Dq cX12_nextToken 252 (.iload_n 1) 1 253 := ⟨by decide +kernel, rfl⟩
theorem qX12_nextToken_253 : Dq cX12_nextToken 253 (.bipush 40) 2 255 := ⟨by decide +kernel, rfl⟩
theorem qX12_nextToken_255 : Dq cX12_nextToken 255 (.if_icmp .eq 45) 3 258 := ⟨by decide +kernel, rfl⟩
theorem qX12_nextToken_258 : Dq cX12_nextToken 258 (.iload_n 1) 1 259 := ⟨by decide +kernel, rfl⟩
theorem qX12_nextToken_259 : Dq cX12_nextToken 259 (.bipush 41) 2 261 := ⟨by decide +kernel, rfl⟩
theorem qX12_nextToken_261 : Dq cX12_nextToken 261 (.if_icmp .eq 39) 3 264 := ⟨by decide +kernel, rfl⟩
theorem qX12_nextToken_264 : Dq cX12_nextToken 264 (.iload_n 1) 1 265 := ⟨by decide +kernel, rfl⟩
theorem qX12_nextToken_265 : Dq cX12_nextToken 265 (.bipush 59) 2 267 := ⟨by decide +kernel, rfl⟩
theorem qX12_nextToken_267 : Dq cX12_nextToken 267 (.if_icmp .eq 33) 3 270 := ⟨by decide +kernel, rfl⟩
theorem qX12_nextToken_270 : Dq cX12_nextToken 270 (.iload_n 1) 1 271 := ⟨by decide +kernel, rfl⟩
theorem qX12_nextToken_271 : Dq cX12_nextToken 271 (.bipush 43) 2 273 := ⟨by decide +kernel, rfl⟩
theorem qX12_nextToken_273 : Dq cX12_nextToken 273 (.if_icmp .eq 27) 3 276 := ⟨by decide +kernel, rfl⟩
theorem qX12_nextToken_276 : Dq cX12_nextToken 276 (.iload_n 1) 1 277 := ⟨by decide +kernel, rfl⟩
theorem qX12_nextToken_277 : Dq cX12_nextToken 277 (.bipush 45) 2 279 := ⟨by decide +kernel, rfl⟩
theorem qX12_nextToken_279 : Dq cX12_nextToken 279 (.if_icmp .eq 21) 3 282 := ⟨by decide +kernel, rfl⟩
theorem qX12_nextToken_282 : Dq cX12_nextToken 282 (.iload_n 1) 1 283 := ⟨by decide +kernel, rfl⟩
theorem qX12_nextToken_283 : Dq cX12_nextToken 283 (.bipush 42) 2 285 := ⟨by decide +kernel, rfl⟩
theorem qX12_nextToken_285 : Dq cX12_nextToken 285 (.if_icmp .eq 15) 3 288 := ⟨by decide +kernel, rfl⟩
theorem qX12_nextToken_288 : Dq cX12_nextToken 288 (.iload_n 1) 1 289 := ⟨by decide +kernel, rfl⟩
theorem qX12_nextToken_289 : Dq cX12_nextToken 289 (.bipush 60) 2 291 := ⟨by decide +kernel, rfl⟩
theorem qX12_nextToken_291 : Dq cX12_nextToken 291 (.if_icmp .eq 9) 3 294 := ⟨by decide +kernel, rfl⟩
theorem qX12_nextToken_294 : Dq cX12_nextToken 294 (.iload_n 1) 1 295 := ⟨by decide +kernel, rfl⟩
theorem qX12_nextToken_295 : Dq cX12_nextToken 295 (.bipush 61) 2 297 := ⟨by decide +kernel, rfl⟩
theorem qX12_nextToken_297 : Dq cX12_nextToken 297 (.if_icmp .ne 24) 3 300 := ⟨by decide +kernel, rfl⟩
theorem qX12_nextToken_300 : Dq cX12_nextToken 300 (.aload_n 0) 1 301 := ⟨by decide +kernel, rfl⟩
theorem qX12_nextToken_301 : Dq cX12_nextToken 301 (.iconst 3) 1 302 := ⟨by decide +kernel, rfl⟩
theorem qX12_nextToken_302 : Dq cX12_nextToken 302 (.putfield 139) 3 305 := ⟨by decide +kernel, rfl⟩
theorem qX12_nextToken_305 : Dq cX12_nextToken 305 (.aload_n 0) 1 306 := ⟨by decide +kernel, rfl⟩
theorem qX12_nextToken_306 : Dq cX12_nextToken 306 (.iload_n 1) 1 307 := ⟨by decide +kernel, rfl⟩
theorem qX12_nextToken_307 : Dq cX12_nextToken 307 (.i2l) 1 308 := ⟨by decide +kernel, rfl⟩
theorem qX12_nextToken_308 : Dq cX12_nextToken 308 (.putfield 150) 3 311 := ⟨by decide +kernel, rfl⟩
theorem qX12_nextToken_311 : Dq cX12_nextToken 311 (.aload_n 0) 1 312 := ⟨by decide +kernel, rfl⟩
theorem qX12_nextToken_312 : Dq cX12_nextToken 312 (.dup) 1 313 := ⟨by decide +kernel, rfl⟩
theorem qX12_nextToken_313 : Dq cX12_nextToken 313 (.getfield 129) 3 316 := ⟨by decide +kernel, rfl⟩
theorem qX12_nextToken_316 : Dq cX12_nextToken 316 (.iconst 1) 1 317 := ⟨by decide +kernel, rfl⟩
theorem qX12_nextToken_317 : Dq cX12_nextToken 317 (.iadd) 1 318 := ⟨by decide +kernel, rfl⟩
theorem qX12_nextToken_318 : Dq cX12_nextToken 318 (.putfield 129) 3 321 := ⟨by decide +kernel, rfl⟩
theorem qX12_nextToken_321 : Dq cX12_nextToken 321 (.return_) 1 322 := ⟨by decide +kernel, rfl⟩
set_option maxRecDepth 100000 in
set_option maxHeartbeats 4000000 in
theorem m_nextToken {G : Glb} {h : AHp} (hm : ShM h) {by' : Nat → Int32} {sz t o : Nat} (hx : MTx by' sz t o h) {e : Nat} (hes : e ≤ sz) (h23 : hpI h 38 23 = nI e) : CP G m_X12_nextToken 2 0 0 [.ref 38] h (fun r h' => r = none ∧ ∃ σ J, h' = mkH h σ J ∧ FrE h σ J ∧ MTx by' sz t o (mkH h σ J) ∧ MTo by' sz (skp by' sz e) (mkH h σ J)) := by
  suffices key : ∀ P : Option Value → AHp → Prop, (∀ r h', (r = none ∧ ∃ σ J, h' = mkH h σ J ∧ FrE h σ J ∧ MTx by' sz t o (mkH h σ J) ∧ MTo by' sz (skp by' sz e) (mkH h σ J)) → P r h') → CP G m_X12_nextToken 2 0 0 [.ref 38] h P from key _ (fun _ _ z => z)
  intro P hP
  refine CP.of (by decide +kernel) (Nat.le_of_ble_eq_true rfl) fun X hX hR hnm => ?_
  show V X G 3 0 0 _ 0 [some (.ref 38), none, none] [] h
  have hs160 := hx.2.1.1
  have L0 : ∀ (mz : Nat) (q : Nat) (σ : Nat → Nat → Int32), sz - q = mz → (e ≤ q) → (q ≤ sz) → (∀ k, e ≤ k → k < q → isBl (btA by' sz k) = true) → (∀ a k, ¬ (a = 38 ∧ k = 23) → σ a k = hpI h a k) → (σ 38 23 = nI q) → V X G 3 0 0 (QM X G P 0 0) 0 [some (.ref 38), none, none] [] (mkH h σ h.2.2.1) := by
    intro mz
    induction mz using Nat.strongRecOn with
    | _ mz ih =>
    intro q σ hmz hq1 hq2 hbl hf g23
    have hxq : MTx by' sz t o (mkH h σ h.2.2.1) := hx.e (h' := mkH h σ h.2.2.1) (funext fun k => hf 39 k (by omega)) (hf 38 21 (by omega)) (hf 38 22 (by omega)) ((hf 38 27 (by omega)).trans hx.2.2.2.2.2.1) (hf 38 28 (by omega))
    refine v_aload_n hX rfl qX12_nextToken_0 ?_
    refine v_aload_n hX rfl qX12_nextToken_1 ?_
    refine v_getIv hX g_X12_129 (Or.inl rfl) (hm.kd 38 rfl) (show _ = nI q from g23) qX12_nextToken_2 ?_
    refine v_callVq hX hR k_X12_132 (hm.kd 38 rfl) (m_byteAt (by exact hm) (by exact hxq) (i := q) (by omega)) rfl (Nat.le_of_ble_eq_true rfl) rfl (Nat.le_of_ble_eq_true rfl) ⟨Nat.le_of_ble_eq_true rfl, Nat.le_of_ble_eq_true rfl⟩ qX12_nextToken_5 ?_
    rintro _ _ ⟨rfl, rfl⟩
    refine v_bipush hX lb_32 qX12_nextToken_8 ?_
    refine v_icmp_eq hX 26 qX12_nextToken_10 rfl (fun q10 => ?_) (fun q10 => ?_)
    · skip
      refine v_aload_n hX rfl qX12_nextToken_26 ?_
      refine v_dup hX rfl qX12_nextToken_27 ?_
      refine v_getIv hX g_X12_129 (Or.inl rfl) (hm.kd 38 rfl) (show _ = nI q from g23) qX12_nextToken_28 ?_
      refine v_iconst hX li_1 qX12_nextToken_31 ?_
      refine v_iadd hX qX12_nextToken_32 ?_
      refine v_eqI (nI_1 q) ?_
      refine v_putI hX p_X12_129 (hm.kd 38 rfl) (Or.inl rfl) qX12_nextToken_33 ?_
      refine v_goto hX 0 qX12_nextToken_36 rfl ?_
      have hql : q < sz := Nat.lt_of_not_le fun z => by
        have y := btA_no (by' := by') z
        first | (rw [q10] at y; exact absurd y (by decide)) | (rw [q23] at y; exact absurd y (by decide))
      exact ih _ (by omega) (q + 1) (stI (mkH h σ h.2.2.1) 38 23 (nI (q + 1))).1 rfl (by omega) (by omega) (fun k h1 h2 => by
        by_cases ek : k = q
        · subst ek; exact decide_eq_true (by first | exact Or.inl q10 | exact Or.inr q23)
        · exact hbl k h1 (by omega)) (fun a k ha => by show hpI (stI _ _ _ _) _ _ = _; rw [hpI_st, if_neg ha]; exact hf a k ha) rfl
    · skip
      refine v_aload_n hX rfl qX12_nextToken_13 ?_
      refine v_aload_n hX rfl qX12_nextToken_14 ?_
      refine v_getIv hX g_X12_129 (Or.inl rfl) (hm.kd 38 rfl) (show _ = nI q from g23) qX12_nextToken_15 ?_
      refine v_callVq hX hR k_X12_132 (hm.kd 38 rfl) (m_byteAt (by exact hm) (by exact hxq) (i := q) (by omega)) rfl (Nat.le_of_ble_eq_true rfl) rfl (Nat.le_of_ble_eq_true rfl) ⟨Nat.le_of_ble_eq_true rfl, Nat.le_of_ble_eq_true rfl⟩ qX12_nextToken_18 ?_
      rintro _ _ ⟨rfl, rfl⟩
      refine v_bipush hX lb_10 qX12_nextToken_21 ?_
      refine v_icmp_ne hX 39 qX12_nextToken_23 rfl (fun q23 => ?_) (fun q23 => ?_)
      · have hnb : isBl (btA by' sz q) = false := decide_eq_false (fun z => z.elim q10 q23)
        have hsk : skp by' sz e = q := (skp_is e).uniq ⟨hq1, hbl, hnb⟩
        have hf0 := hf
        refine v_aload_n hX rfl qX12_nextToken_39 ?_
        refine v_aload_n hX rfl qX12_nextToken_40 ?_
        refine v_getIv hX g_X12_129 (Or.inl rfl) (hm.kd 38 rfl) (show _ = nI q from g23) qX12_nextToken_41 ?_
        refine v_putI hX p_X12_136 (hm.kd 38 rfl) (Or.inl rfl) qX12_nextToken_44 ?_
        refine v_aload_n hX rfl qX12_nextToken_47 ?_
        refine v_aload_n hX rfl qX12_nextToken_48 ?_
        refine v_getIv hX g_X12_129 (Or.inl rfl) (hm.kd 38 rfl) (show _ = nI q from g23) qX12_nextToken_49 ?_
        refine v_callVq hX hR k_X12_132 (hm.kd 38 rfl) (m_byteAt (by exact hm) (by exact (show MTx by' sz t o (stI (mkH h σ h.2.2.1) 38 25 (nI q)) from hxq.e rfl rfl rfl hxq.2.2.2.2.2.1 rfl)) (i := q) (by omega)) rfl (Nat.le_of_ble_eq_true rfl) rfl (Nat.le_of_ble_eq_true rfl) ⟨Nat.le_of_ble_eq_true rfl, Nat.le_of_ble_eq_true rfl⟩ qX12_nextToken_52 ?_
        rintro _ _ ⟨rfl, rfl⟩
        refine v_istore_n hX (Nat.le_of_ble_eq_true rfl) rfl (ls' := [some _, some _, none]) rfl qX12_nextToken_55 ?_
        refine v_aload_n hX rfl qX12_nextToken_56 ?_
        refine v_iconst hX li_4 qX12_nextToken_57 ?_
        refine v_putI hX p_X12_139 (hm.kd 38 rfl) (Or.inl rfl) qX12_nextToken_58 ?_
        refine v_iload_n hX rfl qX12_nextToken_61 ?_
        refine v_if_geS hX 81 qX12_nextToken_62 rfl (fun q62 => ?_) (fun q62 => ?_)
        · have hqs : q < sz := Nat.lt_of_not_le fun z => by
            rw [btA_no z] at q62
            exact absurd q62 (by decide)
          refine v_iload_n hX rfl qX12_nextToken_81 ?_
          refine v_i2l hX qX12_nextToken_82 ?_
          refine v_ldc2 hX c_X12_142 qX12_nextToken_83 ?_
          refine v_ldc2 hX c_X12_144 qX12_nextToken_86 ?_
          refine v_callSq hX hR k_X12_87 (m_in _ (by exact (97)) (by exact (122))) rfl (Nat.le_of_ble_eq_true rfl) rfl (Nat.le_of_ble_eq_true rfl) ⟨Nat.le_of_ble_eq_true rfl, Nat.le_of_ble_eq_true rfl⟩ qX12_nextToken_89 ?_
          rintro _ _ ⟨rfl, rfl⟩
          first | refine v_if_eqB hX 134 qX12_nextToken_92 rfl (fun q92 => ?_) (fun q92 => ?_) | refine v_if_eq hX 134 qX12_nextToken_92 rfl (fun q92 => ?_) (fun q92 => ?_)
          · have hnl : ¬ ltB (btA by' sz q) = true := fun z => q92 (of_decide_eq_true z)
            refine v_iload_n hX rfl qX12_nextToken_134 ?_
            refine v_i2l hX qX12_nextToken_135 ?_
            refine v_ldc2 hX c_X12_146 qX12_nextToken_136 ?_
            refine v_ldc2 hX c_X12_148 qX12_nextToken_139 ?_
            refine v_callSq hX hR k_X12_87 (m_in _ (by exact (48)) (by exact (57))) rfl (Nat.le_of_ble_eq_true rfl) rfl (Nat.le_of_ble_eq_true rfl) ⟨Nat.le_of_ble_eq_true rfl, Nat.le_of_ble_eq_true rfl⟩ qX12_nextToken_142 ?_
            rintro _ _ ⟨rfl, rfl⟩
            first | refine v_if_eqB hX 252 qX12_nextToken_145 rfl (fun q145 => ?_) (fun q145 => ?_) | refine v_if_eq hX 252 qX12_nextToken_145 rfl (fun q145 => ?_) (fun q145 => ?_)
            · have hnd : ¬ dgB (btA by' sz q) = true := fun z => q145 (of_decide_eq_true z)
              refine v_iload_n hX rfl qX12_nextToken_252 ?_
              refine v_bipush hX lb_40 qX12_nextToken_253 ?_
              refine v_icmp_eq hX 300 qX12_nextToken_255 rfl (fun q255 => ?_) (fun q255 => ?_)
              · skip
                refine v_aload_n hX rfl qX12_nextToken_300 ?_
                refine v_iconst hX li_3 qX12_nextToken_301 ?_
                refine v_putI hX p_X12_139 (hm.kd 38 rfl) (Or.inl rfl) qX12_nextToken_302 ?_
                refine v_aload_n hX rfl qX12_nextToken_305 ?_
                refine v_iload_n hX rfl qX12_nextToken_306 ?_
                refine v_i2l hX qX12_nextToken_307 ?_
                refine v_putJ hX p_X12_150 (hm.kd 38 rfl) (Or.inl rfl) qX12_nextToken_308 ?_
                refine v_aload_n hX rfl qX12_nextToken_311 ?_
                refine v_dup hX rfl qX12_nextToken_312 ?_
                refine v_getIv hX g_X12_129 (Or.inl rfl) (hm.kd 38 rfl) (show _ = nI q from g23) qX12_nextToken_313 ?_
                refine v_iconst hX li_1 qX12_nextToken_316 ?_
                refine v_iadd hX qX12_nextToken_317 ?_
                refine v_eqI (nI_1 q) ?_
                refine v_putI hX p_X12_129 (hm.kd 38 rfl) (Or.inl rfl) qX12_nextToken_318 ?_
                refine v_return hX qX12_nextToken_321 (hP _ _ ?_)
                have hsg : isSg (btA by' sz q) = true := by first | (rw [q255]; decide) | (rw [q261]; decide) | (rw [q267]; decide) | (rw [q273]; decide) | (rw [q279]; decide) | (rw [q285]; decide) | (rw [q291]; decide) | (rw [q297]; decide)
                have hm3 : mT by' sz q = 3 := by rw [mT_s hqs hnl hnd, if_pos hsg]
                have z := nt_fin hx (τ := (stI (stJ (stI (stI (stI (mkH h σ h.2.2.1) 38 25 (nI q)) 38 24 4) 38 24 3) 38 26 (btA by' sz q).toInt64) 38 23 (nI (q + 1))).1) (J := (stI (stJ (stI (stI (stI (mkH h σ h.2.2.1) 38 25 (nI q)) 38 24 4) 38 24 3) 38 26 (btA by' sz q).toInt64) 38 23 (nI (q + 1))).2.2.1) (fun a k ha => by show hpI (stI _ _ _ _) _ _ = _; rw [hpI_st, if_neg (by omega), hpI_stJ, hpI_st, if_neg (by omega), hpI_st, if_neg (by omega), hpI_st, if_neg (by omega)]; exact hf0 a k (by omega)) (fun a ha => funext fun k => by show hpJ (stJ _ _ _ _) _ _ = _; rw [hpJ_stJ, if_neg (fun y => ha y.1)]; rfl)
                refine ⟨rfl, (stI (stJ (stI (stI (stI (mkH h σ h.2.2.1) 38 25 (nI q)) 38 24 4) 38 24 3) 38 26 (btA by' sz q).toInt64) 38 23 (nI (q + 1))).1, (stI (stJ (stI (stI (stI (mkH h σ h.2.2.1) 38 25 (nI q)) 38 24 4) 38 24 3) 38 26 (btA by' sz q).toInt64) 38 23 (nI (q + 1))).2.2.1, rfl, z.1, z.2, ?_⟩
                rw [hsk]
                exact ⟨hq2, hm3.symm, rfl, fun y => by rw [hm3] at y; exact absurd y (by decide), fun y => by rw [hm3] at y; exact absurd y (by decide), fun _ => ⟨rfl, rfl⟩⟩
              · skip
                refine v_iload_n hX rfl qX12_nextToken_258 ?_
                refine v_bipush hX lb_41 qX12_nextToken_259 ?_
                refine v_icmp_eq hX 300 qX12_nextToken_261 rfl (fun q261 => ?_) (fun q261 => ?_)
                · skip
                  refine v_aload_n hX rfl qX12_nextToken_300 ?_
                  refine v_iconst hX li_3 qX12_nextToken_301 ?_
                  refine v_putI hX p_X12_139 (hm.kd 38 rfl) (Or.inl rfl) qX12_nextToken_302 ?_
                  refine v_aload_n hX rfl qX12_nextToken_305 ?_
                  refine v_iload_n hX rfl qX12_nextToken_306 ?_
                  refine v_i2l hX qX12_nextToken_307 ?_
                  refine v_putJ hX p_X12_150 (hm.kd 38 rfl) (Or.inl rfl) qX12_nextToken_308 ?_
                  refine v_aload_n hX rfl qX12_nextToken_311 ?_
                  refine v_dup hX rfl qX12_nextToken_312 ?_
                  refine v_getIv hX g_X12_129 (Or.inl rfl) (hm.kd 38 rfl) (show _ = nI q from g23) qX12_nextToken_313 ?_
                  refine v_iconst hX li_1 qX12_nextToken_316 ?_
                  refine v_iadd hX qX12_nextToken_317 ?_
                  refine v_eqI (nI_1 q) ?_
                  refine v_putI hX p_X12_129 (hm.kd 38 rfl) (Or.inl rfl) qX12_nextToken_318 ?_
                  refine v_return hX qX12_nextToken_321 (hP _ _ ?_)
                  have hsg : isSg (btA by' sz q) = true := by first | (rw [q255]; decide) | (rw [q261]; decide) | (rw [q267]; decide) | (rw [q273]; decide) | (rw [q279]; decide) | (rw [q285]; decide) | (rw [q291]; decide) | (rw [q297]; decide)
                  have hm3 : mT by' sz q = 3 := by rw [mT_s hqs hnl hnd, if_pos hsg]
                  have z := nt_fin hx (τ := (stI (stJ (stI (stI (stI (mkH h σ h.2.2.1) 38 25 (nI q)) 38 24 4) 38 24 3) 38 26 (btA by' sz q).toInt64) 38 23 (nI (q + 1))).1) (J := (stI (stJ (stI (stI (stI (mkH h σ h.2.2.1) 38 25 (nI q)) 38 24 4) 38 24 3) 38 26 (btA by' sz q).toInt64) 38 23 (nI (q + 1))).2.2.1) (fun a k ha => by show hpI (stI _ _ _ _) _ _ = _; rw [hpI_st, if_neg (by omega), hpI_stJ, hpI_st, if_neg (by omega), hpI_st, if_neg (by omega), hpI_st, if_neg (by omega)]; exact hf0 a k (by omega)) (fun a ha => funext fun k => by show hpJ (stJ _ _ _ _) _ _ = _; rw [hpJ_stJ, if_neg (fun y => ha y.1)]; rfl)
                  refine ⟨rfl, (stI (stJ (stI (stI (stI (mkH h σ h.2.2.1) 38 25 (nI q)) 38 24 4) 38 24 3) 38 26 (btA by' sz q).toInt64) 38 23 (nI (q + 1))).1, (stI (stJ (stI (stI (stI (mkH h σ h.2.2.1) 38 25 (nI q)) 38 24 4) 38 24 3) 38 26 (btA by' sz q).toInt64) 38 23 (nI (q + 1))).2.2.1, rfl, z.1, z.2, ?_⟩
                  rw [hsk]
                  exact ⟨hq2, hm3.symm, rfl, fun y => by rw [hm3] at y; exact absurd y (by decide), fun y => by rw [hm3] at y; exact absurd y (by decide), fun _ => ⟨rfl, rfl⟩⟩
                · skip
                  refine v_iload_n hX rfl qX12_nextToken_264 ?_
                  refine v_bipush hX lb_59 qX12_nextToken_265 ?_
                  refine v_icmp_eq hX 300 qX12_nextToken_267 rfl (fun q267 => ?_) (fun q267 => ?_)
                  · skip
                    refine v_aload_n hX rfl qX12_nextToken_300 ?_
                    refine v_iconst hX li_3 qX12_nextToken_301 ?_
                    refine v_putI hX p_X12_139 (hm.kd 38 rfl) (Or.inl rfl) qX12_nextToken_302 ?_
                    refine v_aload_n hX rfl qX12_nextToken_305 ?_
                    refine v_iload_n hX rfl qX12_nextToken_306 ?_
                    refine v_i2l hX qX12_nextToken_307 ?_
                    refine v_putJ hX p_X12_150 (hm.kd 38 rfl) (Or.inl rfl) qX12_nextToken_308 ?_
                    refine v_aload_n hX rfl qX12_nextToken_311 ?_
                    refine v_dup hX rfl qX12_nextToken_312 ?_
                    refine v_getIv hX g_X12_129 (Or.inl rfl) (hm.kd 38 rfl) (show _ = nI q from g23) qX12_nextToken_313 ?_
                    refine v_iconst hX li_1 qX12_nextToken_316 ?_
                    refine v_iadd hX qX12_nextToken_317 ?_
                    refine v_eqI (nI_1 q) ?_
                    refine v_putI hX p_X12_129 (hm.kd 38 rfl) (Or.inl rfl) qX12_nextToken_318 ?_
                    refine v_return hX qX12_nextToken_321 (hP _ _ ?_)
                    have hsg : isSg (btA by' sz q) = true := by first | (rw [q255]; decide) | (rw [q261]; decide) | (rw [q267]; decide) | (rw [q273]; decide) | (rw [q279]; decide) | (rw [q285]; decide) | (rw [q291]; decide) | (rw [q297]; decide)
                    have hm3 : mT by' sz q = 3 := by rw [mT_s hqs hnl hnd, if_pos hsg]
                    have z := nt_fin hx (τ := (stI (stJ (stI (stI (stI (mkH h σ h.2.2.1) 38 25 (nI q)) 38 24 4) 38 24 3) 38 26 (btA by' sz q).toInt64) 38 23 (nI (q + 1))).1) (J := (stI (stJ (stI (stI (stI (mkH h σ h.2.2.1) 38 25 (nI q)) 38 24 4) 38 24 3) 38 26 (btA by' sz q).toInt64) 38 23 (nI (q + 1))).2.2.1) (fun a k ha => by show hpI (stI _ _ _ _) _ _ = _; rw [hpI_st, if_neg (by omega), hpI_stJ, hpI_st, if_neg (by omega), hpI_st, if_neg (by omega), hpI_st, if_neg (by omega)]; exact hf0 a k (by omega)) (fun a ha => funext fun k => by show hpJ (stJ _ _ _ _) _ _ = _; rw [hpJ_stJ, if_neg (fun y => ha y.1)]; rfl)
                    refine ⟨rfl, (stI (stJ (stI (stI (stI (mkH h σ h.2.2.1) 38 25 (nI q)) 38 24 4) 38 24 3) 38 26 (btA by' sz q).toInt64) 38 23 (nI (q + 1))).1, (stI (stJ (stI (stI (stI (mkH h σ h.2.2.1) 38 25 (nI q)) 38 24 4) 38 24 3) 38 26 (btA by' sz q).toInt64) 38 23 (nI (q + 1))).2.2.1, rfl, z.1, z.2, ?_⟩
                    rw [hsk]
                    exact ⟨hq2, hm3.symm, rfl, fun y => by rw [hm3] at y; exact absurd y (by decide), fun y => by rw [hm3] at y; exact absurd y (by decide), fun _ => ⟨rfl, rfl⟩⟩
                  · skip
                    refine v_iload_n hX rfl qX12_nextToken_270 ?_
                    refine v_bipush hX lb_43 qX12_nextToken_271 ?_
                    refine v_icmp_eq hX 300 qX12_nextToken_273 rfl (fun q273 => ?_) (fun q273 => ?_)
                    · skip
                      refine v_aload_n hX rfl qX12_nextToken_300 ?_
                      refine v_iconst hX li_3 qX12_nextToken_301 ?_
                      refine v_putI hX p_X12_139 (hm.kd 38 rfl) (Or.inl rfl) qX12_nextToken_302 ?_
                      refine v_aload_n hX rfl qX12_nextToken_305 ?_
                      refine v_iload_n hX rfl qX12_nextToken_306 ?_
                      refine v_i2l hX qX12_nextToken_307 ?_
                      refine v_putJ hX p_X12_150 (hm.kd 38 rfl) (Or.inl rfl) qX12_nextToken_308 ?_
                      refine v_aload_n hX rfl qX12_nextToken_311 ?_
                      refine v_dup hX rfl qX12_nextToken_312 ?_
                      refine v_getIv hX g_X12_129 (Or.inl rfl) (hm.kd 38 rfl) (show _ = nI q from g23) qX12_nextToken_313 ?_
                      refine v_iconst hX li_1 qX12_nextToken_316 ?_
                      refine v_iadd hX qX12_nextToken_317 ?_
                      refine v_eqI (nI_1 q) ?_
                      refine v_putI hX p_X12_129 (hm.kd 38 rfl) (Or.inl rfl) qX12_nextToken_318 ?_
                      refine v_return hX qX12_nextToken_321 (hP _ _ ?_)
                      have hsg : isSg (btA by' sz q) = true := by first | (rw [q255]; decide) | (rw [q261]; decide) | (rw [q267]; decide) | (rw [q273]; decide) | (rw [q279]; decide) | (rw [q285]; decide) | (rw [q291]; decide) | (rw [q297]; decide)
                      have hm3 : mT by' sz q = 3 := by rw [mT_s hqs hnl hnd, if_pos hsg]
                      have z := nt_fin hx (τ := (stI (stJ (stI (stI (stI (mkH h σ h.2.2.1) 38 25 (nI q)) 38 24 4) 38 24 3) 38 26 (btA by' sz q).toInt64) 38 23 (nI (q + 1))).1) (J := (stI (stJ (stI (stI (stI (mkH h σ h.2.2.1) 38 25 (nI q)) 38 24 4) 38 24 3) 38 26 (btA by' sz q).toInt64) 38 23 (nI (q + 1))).2.2.1) (fun a k ha => by show hpI (stI _ _ _ _) _ _ = _; rw [hpI_st, if_neg (by omega), hpI_stJ, hpI_st, if_neg (by omega), hpI_st, if_neg (by omega), hpI_st, if_neg (by omega)]; exact hf0 a k (by omega)) (fun a ha => funext fun k => by show hpJ (stJ _ _ _ _) _ _ = _; rw [hpJ_stJ, if_neg (fun y => ha y.1)]; rfl)
                      refine ⟨rfl, (stI (stJ (stI (stI (stI (mkH h σ h.2.2.1) 38 25 (nI q)) 38 24 4) 38 24 3) 38 26 (btA by' sz q).toInt64) 38 23 (nI (q + 1))).1, (stI (stJ (stI (stI (stI (mkH h σ h.2.2.1) 38 25 (nI q)) 38 24 4) 38 24 3) 38 26 (btA by' sz q).toInt64) 38 23 (nI (q + 1))).2.2.1, rfl, z.1, z.2, ?_⟩
                      rw [hsk]
                      exact ⟨hq2, hm3.symm, rfl, fun y => by rw [hm3] at y; exact absurd y (by decide), fun y => by rw [hm3] at y; exact absurd y (by decide), fun _ => ⟨rfl, rfl⟩⟩
                    · skip
                      refine v_iload_n hX rfl qX12_nextToken_276 ?_
                      refine v_bipush hX lb_45 qX12_nextToken_277 ?_
                      refine v_icmp_eq hX 300 qX12_nextToken_279 rfl (fun q279 => ?_) (fun q279 => ?_)
                      · skip
                        refine v_aload_n hX rfl qX12_nextToken_300 ?_
                        refine v_iconst hX li_3 qX12_nextToken_301 ?_
                        refine v_putI hX p_X12_139 (hm.kd 38 rfl) (Or.inl rfl) qX12_nextToken_302 ?_
                        refine v_aload_n hX rfl qX12_nextToken_305 ?_
                        refine v_iload_n hX rfl qX12_nextToken_306 ?_
                        refine v_i2l hX qX12_nextToken_307 ?_
                        refine v_putJ hX p_X12_150 (hm.kd 38 rfl) (Or.inl rfl) qX12_nextToken_308 ?_
                        refine v_aload_n hX rfl qX12_nextToken_311 ?_
                        refine v_dup hX rfl qX12_nextToken_312 ?_
                        refine v_getIv hX g_X12_129 (Or.inl rfl) (hm.kd 38 rfl) (show _ = nI q from g23) qX12_nextToken_313 ?_
                        refine v_iconst hX li_1 qX12_nextToken_316 ?_
                        refine v_iadd hX qX12_nextToken_317 ?_
                        refine v_eqI (nI_1 q) ?_
                        refine v_putI hX p_X12_129 (hm.kd 38 rfl) (Or.inl rfl) qX12_nextToken_318 ?_
                        refine v_return hX qX12_nextToken_321 (hP _ _ ?_)
                        have hsg : isSg (btA by' sz q) = true := by first | (rw [q255]; decide) | (rw [q261]; decide) | (rw [q267]; decide) | (rw [q273]; decide) | (rw [q279]; decide) | (rw [q285]; decide) | (rw [q291]; decide) | (rw [q297]; decide)
                        have hm3 : mT by' sz q = 3 := by rw [mT_s hqs hnl hnd, if_pos hsg]
                        have z := nt_fin hx (τ := (stI (stJ (stI (stI (stI (mkH h σ h.2.2.1) 38 25 (nI q)) 38 24 4) 38 24 3) 38 26 (btA by' sz q).toInt64) 38 23 (nI (q + 1))).1) (J := (stI (stJ (stI (stI (stI (mkH h σ h.2.2.1) 38 25 (nI q)) 38 24 4) 38 24 3) 38 26 (btA by' sz q).toInt64) 38 23 (nI (q + 1))).2.2.1) (fun a k ha => by show hpI (stI _ _ _ _) _ _ = _; rw [hpI_st, if_neg (by omega), hpI_stJ, hpI_st, if_neg (by omega), hpI_st, if_neg (by omega), hpI_st, if_neg (by omega)]; exact hf0 a k (by omega)) (fun a ha => funext fun k => by show hpJ (stJ _ _ _ _) _ _ = _; rw [hpJ_stJ, if_neg (fun y => ha y.1)]; rfl)
                        refine ⟨rfl, (stI (stJ (stI (stI (stI (mkH h σ h.2.2.1) 38 25 (nI q)) 38 24 4) 38 24 3) 38 26 (btA by' sz q).toInt64) 38 23 (nI (q + 1))).1, (stI (stJ (stI (stI (stI (mkH h σ h.2.2.1) 38 25 (nI q)) 38 24 4) 38 24 3) 38 26 (btA by' sz q).toInt64) 38 23 (nI (q + 1))).2.2.1, rfl, z.1, z.2, ?_⟩
                        rw [hsk]
                        exact ⟨hq2, hm3.symm, rfl, fun y => by rw [hm3] at y; exact absurd y (by decide), fun y => by rw [hm3] at y; exact absurd y (by decide), fun _ => ⟨rfl, rfl⟩⟩
                      · skip
                        refine v_iload_n hX rfl qX12_nextToken_282 ?_
                        refine v_bipush hX lb_42 qX12_nextToken_283 ?_
                        refine v_icmp_eq hX 300 qX12_nextToken_285 rfl (fun q285 => ?_) (fun q285 => ?_)
                        · skip
                          refine v_aload_n hX rfl qX12_nextToken_300 ?_
                          refine v_iconst hX li_3 qX12_nextToken_301 ?_
                          refine v_putI hX p_X12_139 (hm.kd 38 rfl) (Or.inl rfl) qX12_nextToken_302 ?_
                          refine v_aload_n hX rfl qX12_nextToken_305 ?_
                          refine v_iload_n hX rfl qX12_nextToken_306 ?_
                          refine v_i2l hX qX12_nextToken_307 ?_
                          refine v_putJ hX p_X12_150 (hm.kd 38 rfl) (Or.inl rfl) qX12_nextToken_308 ?_
                          refine v_aload_n hX rfl qX12_nextToken_311 ?_
                          refine v_dup hX rfl qX12_nextToken_312 ?_
                          refine v_getIv hX g_X12_129 (Or.inl rfl) (hm.kd 38 rfl) (show _ = nI q from g23) qX12_nextToken_313 ?_
                          refine v_iconst hX li_1 qX12_nextToken_316 ?_
                          refine v_iadd hX qX12_nextToken_317 ?_
                          refine v_eqI (nI_1 q) ?_
                          refine v_putI hX p_X12_129 (hm.kd 38 rfl) (Or.inl rfl) qX12_nextToken_318 ?_
                          refine v_return hX qX12_nextToken_321 (hP _ _ ?_)
                          have hsg : isSg (btA by' sz q) = true := by first | (rw [q255]; decide) | (rw [q261]; decide) | (rw [q267]; decide) | (rw [q273]; decide) | (rw [q279]; decide) | (rw [q285]; decide) | (rw [q291]; decide) | (rw [q297]; decide)
                          have hm3 : mT by' sz q = 3 := by rw [mT_s hqs hnl hnd, if_pos hsg]
                          have z := nt_fin hx (τ := (stI (stJ (stI (stI (stI (mkH h σ h.2.2.1) 38 25 (nI q)) 38 24 4) 38 24 3) 38 26 (btA by' sz q).toInt64) 38 23 (nI (q + 1))).1) (J := (stI (stJ (stI (stI (stI (mkH h σ h.2.2.1) 38 25 (nI q)) 38 24 4) 38 24 3) 38 26 (btA by' sz q).toInt64) 38 23 (nI (q + 1))).2.2.1) (fun a k ha => by show hpI (stI _ _ _ _) _ _ = _; rw [hpI_st, if_neg (by omega), hpI_stJ, hpI_st, if_neg (by omega), hpI_st, if_neg (by omega), hpI_st, if_neg (by omega)]; exact hf0 a k (by omega)) (fun a ha => funext fun k => by show hpJ (stJ _ _ _ _) _ _ = _; rw [hpJ_stJ, if_neg (fun y => ha y.1)]; rfl)
                          refine ⟨rfl, (stI (stJ (stI (stI (stI (mkH h σ h.2.2.1) 38 25 (nI q)) 38 24 4) 38 24 3) 38 26 (btA by' sz q).toInt64) 38 23 (nI (q + 1))).1, (stI (stJ (stI (stI (stI (mkH h σ h.2.2.1) 38 25 (nI q)) 38 24 4) 38 24 3) 38 26 (btA by' sz q).toInt64) 38 23 (nI (q + 1))).2.2.1, rfl, z.1, z.2, ?_⟩
                          rw [hsk]
                          exact ⟨hq2, hm3.symm, rfl, fun y => by rw [hm3] at y; exact absurd y (by decide), fun y => by rw [hm3] at y; exact absurd y (by decide), fun _ => ⟨rfl, rfl⟩⟩
                        · skip
                          refine v_iload_n hX rfl qX12_nextToken_288 ?_
                          refine v_bipush hX lb_60 qX12_nextToken_289 ?_
                          refine v_icmp_eq hX 300 qX12_nextToken_291 rfl (fun q291 => ?_) (fun q291 => ?_)
                          · skip
                            refine v_aload_n hX rfl qX12_nextToken_300 ?_
                            refine v_iconst hX li_3 qX12_nextToken_301 ?_
                            refine v_putI hX p_X12_139 (hm.kd 38 rfl) (Or.inl rfl) qX12_nextToken_302 ?_
                            refine v_aload_n hX rfl qX12_nextToken_305 ?_
                            refine v_iload_n hX rfl qX12_nextToken_306 ?_
                            refine v_i2l hX qX12_nextToken_307 ?_
                            refine v_putJ hX p_X12_150 (hm.kd 38 rfl) (Or.inl rfl) qX12_nextToken_308 ?_
                            refine v_aload_n hX rfl qX12_nextToken_311 ?_
                            refine v_dup hX rfl qX12_nextToken_312 ?_
                            refine v_getIv hX g_X12_129 (Or.inl rfl) (hm.kd 38 rfl) (show _ = nI q from g23) qX12_nextToken_313 ?_
                            refine v_iconst hX li_1 qX12_nextToken_316 ?_
                            refine v_iadd hX qX12_nextToken_317 ?_
                            refine v_eqI (nI_1 q) ?_
                            refine v_putI hX p_X12_129 (hm.kd 38 rfl) (Or.inl rfl) qX12_nextToken_318 ?_
                            refine v_return hX qX12_nextToken_321 (hP _ _ ?_)
                            have hsg : isSg (btA by' sz q) = true := by first | (rw [q255]; decide) | (rw [q261]; decide) | (rw [q267]; decide) | (rw [q273]; decide) | (rw [q279]; decide) | (rw [q285]; decide) | (rw [q291]; decide) | (rw [q297]; decide)
                            have hm3 : mT by' sz q = 3 := by rw [mT_s hqs hnl hnd, if_pos hsg]
                            have z := nt_fin hx (τ := (stI (stJ (stI (stI (stI (mkH h σ h.2.2.1) 38 25 (nI q)) 38 24 4) 38 24 3) 38 26 (btA by' sz q).toInt64) 38 23 (nI (q + 1))).1) (J := (stI (stJ (stI (stI (stI (mkH h σ h.2.2.1) 38 25 (nI q)) 38 24 4) 38 24 3) 38 26 (btA by' sz q).toInt64) 38 23 (nI (q + 1))).2.2.1) (fun a k ha => by show hpI (stI _ _ _ _) _ _ = _; rw [hpI_st, if_neg (by omega), hpI_stJ, hpI_st, if_neg (by omega), hpI_st, if_neg (by omega), hpI_st, if_neg (by omega)]; exact hf0 a k (by omega)) (fun a ha => funext fun k => by show hpJ (stJ _ _ _ _) _ _ = _; rw [hpJ_stJ, if_neg (fun y => ha y.1)]; rfl)
                            refine ⟨rfl, (stI (stJ (stI (stI (stI (mkH h σ h.2.2.1) 38 25 (nI q)) 38 24 4) 38 24 3) 38 26 (btA by' sz q).toInt64) 38 23 (nI (q + 1))).1, (stI (stJ (stI (stI (stI (mkH h σ h.2.2.1) 38 25 (nI q)) 38 24 4) 38 24 3) 38 26 (btA by' sz q).toInt64) 38 23 (nI (q + 1))).2.2.1, rfl, z.1, z.2, ?_⟩
                            rw [hsk]
                            exact ⟨hq2, hm3.symm, rfl, fun y => by rw [hm3] at y; exact absurd y (by decide), fun y => by rw [hm3] at y; exact absurd y (by decide), fun _ => ⟨rfl, rfl⟩⟩
                          · skip
                            refine v_iload_n hX rfl qX12_nextToken_294 ?_
                            refine v_bipush hX lb_61 qX12_nextToken_295 ?_
                            refine v_icmp_ne hX 321 qX12_nextToken_297 rfl (fun q297 => ?_) (fun q297 => ?_)
                            · skip
                              refine v_return hX qX12_nextToken_321 (hP _ _ ?_)
                              have hsg : ¬ isSg (btA by' sz q) = true := by unfold isSg; simp [q255, q261, q267, q273, q279, q285, q291, q297]
                              have hm4 : mT by' sz q = 4 := by rw [mT_s hqs hnl hnd, if_neg hsg]
                              have z := nt_fin hx (τ := (stI (stI (mkH h σ h.2.2.1) 38 25 (nI q)) 38 24 4).1) (J := h.2.2.1) (fun a k ha => by show hpI (stI _ _ _ _) _ _ = _; rw [hpI_st, if_neg (by omega), hpI_st, if_neg (by omega)]; exact hf0 a k (by omega)) (fun _ _ => rfl)
                              refine ⟨rfl, (stI (stI (mkH h σ h.2.2.1) 38 25 (nI q)) 38 24 4).1, h.2.2.1, rfl, z.1, z.2, ?_⟩
                              rw [hsk]
                              exact ⟨hq2, hm4.symm, rfl, fun y => by rw [hm4] at y; exact absurd y (by decide), fun y => by rw [hm4] at y; exact absurd y (by decide), fun y => by rw [hm4] at y; exact absurd y (by decide)⟩
                            · skip
                              refine v_aload_n hX rfl qX12_nextToken_300 ?_
                              refine v_iconst hX li_3 qX12_nextToken_301 ?_
                              refine v_putI hX p_X12_139 (hm.kd 38 rfl) (Or.inl rfl) qX12_nextToken_302 ?_
                              refine v_aload_n hX rfl qX12_nextToken_305 ?_
                              refine v_iload_n hX rfl qX12_nextToken_306 ?_
                              refine v_i2l hX qX12_nextToken_307 ?_
                              refine v_putJ hX p_X12_150 (hm.kd 38 rfl) (Or.inl rfl) qX12_nextToken_308 ?_
                              refine v_aload_n hX rfl qX12_nextToken_311 ?_
                              refine v_dup hX rfl qX12_nextToken_312 ?_
                              refine v_getIv hX g_X12_129 (Or.inl rfl) (hm.kd 38 rfl) (show _ = nI q from g23) qX12_nextToken_313 ?_
                              refine v_iconst hX li_1 qX12_nextToken_316 ?_
                              refine v_iadd hX qX12_nextToken_317 ?_
                              refine v_eqI (nI_1 q) ?_
                              refine v_putI hX p_X12_129 (hm.kd 38 rfl) (Or.inl rfl) qX12_nextToken_318 ?_
                              refine v_return hX qX12_nextToken_321 (hP _ _ ?_)
                              have hsg : isSg (btA by' sz q) = true := by first | (rw [q255]; decide) | (rw [q261]; decide) | (rw [q267]; decide) | (rw [q273]; decide) | (rw [q279]; decide) | (rw [q285]; decide) | (rw [q291]; decide) | (rw [q297]; decide)
                              have hm3 : mT by' sz q = 3 := by rw [mT_s hqs hnl hnd, if_pos hsg]
                              have z := nt_fin hx (τ := (stI (stJ (stI (stI (stI (mkH h σ h.2.2.1) 38 25 (nI q)) 38 24 4) 38 24 3) 38 26 (btA by' sz q).toInt64) 38 23 (nI (q + 1))).1) (J := (stI (stJ (stI (stI (stI (mkH h σ h.2.2.1) 38 25 (nI q)) 38 24 4) 38 24 3) 38 26 (btA by' sz q).toInt64) 38 23 (nI (q + 1))).2.2.1) (fun a k ha => by show hpI (stI _ _ _ _) _ _ = _; rw [hpI_st, if_neg (by omega), hpI_stJ, hpI_st, if_neg (by omega), hpI_st, if_neg (by omega), hpI_st, if_neg (by omega)]; exact hf0 a k (by omega)) (fun a ha => funext fun k => by show hpJ (stJ _ _ _ _) _ _ = _; rw [hpJ_stJ, if_neg (fun y => ha y.1)]; rfl)
                              refine ⟨rfl, (stI (stJ (stI (stI (stI (mkH h σ h.2.2.1) 38 25 (nI q)) 38 24 4) 38 24 3) 38 26 (btA by' sz q).toInt64) 38 23 (nI (q + 1))).1, (stI (stJ (stI (stI (stI (mkH h σ h.2.2.1) 38 25 (nI q)) 38 24 4) 38 24 3) 38 26 (btA by' sz q).toInt64) 38 23 (nI (q + 1))).2.2.1, rfl, z.1, z.2, ?_⟩
                              rw [hsk]
                              exact ⟨hq2, hm3.symm, rfl, fun y => by rw [hm3] at y; exact absurd y (by decide), fun y => by rw [hm3] at y; exact absurd y (by decide), fun _ => ⟨rfl, rfl⟩⟩
            · have hdb : dgB (btA by' sz q) = true := decide_eq_true q145
              refine v_aload_n hX rfl qX12_nextToken_148 ?_
              refine v_iconst hX li_2 qX12_nextToken_149 ?_
              refine v_putI hX p_X12_139 (hm.kd 38 rfl) (Or.inl rfl) qX12_nextToken_150 ?_
              refine v_aload_n hX rfl qX12_nextToken_153 ?_
              refine v_lconst hX ll_0 qX12_nextToken_154 ?_
              refine v_putJ hX p_X12_150 (hm.kd 38 rfl) (Or.inl rfl) qX12_nextToken_155 ?_
              refine v_iconst hX li_0 qX12_nextToken_158 ?_
              refine v_istore_n hX (Nat.le_of_ble_eq_true rfl) rfl (ls' := [some _, some _, some _]) rfl qX12_nextToken_159 ?_
              have L160 : ∀ (mz : Nat) (m : Nat) (τ : Nat → Nat → Int32) (J : Nat → Nat → Int64), sz - (q + m) = mz → (q + m ≤ sz) → (∀ k, q ≤ k → k < q + m → dgB (btA by' sz k) = true) → (∀ a k, ¬ (a = 38 ∧ (k = 23 ∨ k = 24 ∨ k = 25)) → τ a k = hpI h a k) → (τ 38 23 = nI (q + m)) → (τ 38 25 = nI q) → (J 38 26 = lN (nvN by' sz q (min m 4))) → (∀ a, a ≠ 38 → J a = hpJ h a) → V X G 3 0 0 (QM X G P 0 0) 160 [some (.ref 38), some (.int (btA by' sz q)), some (.int (nI m))] [] (mkH h τ J) := by
                intro mz
                induction mz using Nat.strongRecOn with
                | _ mz ih =>
                intro m τ J hmz hqm hdg hf t23 t25 tJ hJ
                have hxt : MTx by' sz t o (mkH h τ J) := hx.e (h' := mkH h τ J) (funext fun k => hf 39 k (by omega)) (hf 38 21 (by omega)) (hf 38 22 (by omega)) ((hf 38 27 (by omega)).trans hx.2.2.2.2.2.1) (hf 38 28 (by omega))
                refine v_aload_n hX rfl qX12_nextToken_160 ?_
                refine v_aload_n hX rfl qX12_nextToken_161 ?_
                refine v_getIv hX g_X12_129 (Or.inl rfl) (hm.kd 38 rfl) (show _ = nI (q + m) from t23) qX12_nextToken_162 ?_
                refine v_callVq hX hR k_X12_132 (hm.kd 38 rfl) (m_byteAt (by exact hm) (by exact hxt) (i := q + m) (by omega)) rfl (Nat.le_of_ble_eq_true rfl) rfl (Nat.le_of_ble_eq_true rfl) ⟨Nat.le_of_ble_eq_true rfl, Nat.le_of_ble_eq_true rfl⟩ qX12_nextToken_165 ?_
                rintro _ _ ⟨rfl, rfl⟩
                refine v_i2l hX qX12_nextToken_168 ?_
                refine v_ldc2 hX c_X12_146 qX12_nextToken_169 ?_
                refine v_ldc2 hX c_X12_148 qX12_nextToken_172 ?_
                refine v_callSq hX hR k_X12_87 (m_in _ (by exact (48)) (by exact (57))) rfl (Nat.le_of_ble_eq_true rfl) rfl (Nat.le_of_ble_eq_true rfl) ⟨Nat.le_of_ble_eq_true rfl, Nat.le_of_ble_eq_true rfl⟩ qX12_nextToken_175 ?_
                rintro _ _ ⟨rfl, rfl⟩
                first | refine v_if_eqB hX 235 qX12_nextToken_178 rfl (fun q178 => ?_) (fun q178 => ?_) | refine v_if_eq hX 235 qX12_nextToken_178 rfl (fun q178 => ?_) (fun q178 => ?_)
                · have hnn : nnd by' sz q = q + m := (nnd_is q).uniq ⟨by omega, hdg, Bool.eq_false_iff.mpr (fun z => q178 (of_decide_eq_true z))⟩
                  refine v_aload_n hX rfl qX12_nextToken_235 ?_
                  refine v_iload_n hX rfl qX12_nextToken_236 ?_
                  refine v_iconst hX li_4 qX12_nextToken_237 ?_
                  refine v_icmp_leS hX 245 qX12_nextToken_238 rfl (fun q238 => ?_) (fun q238 => ?_)
                  · skip
                    refine v_iconst hX li_2 qX12_nextToken_245 ?_
                    refine v_eqI (show _ = mT by' sz q by
                      rw [mT_d hqs hnl hdb, hnn]
                      first
                      | (have hm4 := nI_le' (i := m) (s := 4) (by omega) (by omega) q238; rw [if_pos (by omega)])
                      | (have hm4 := nI_lt' (i := 4) (s := m) (by omega) (by omega) q238; rw [if_neg (by omega)])) ?_
                    refine v_putI hX p_X12_139 (hm.kd 38 rfl) (Or.inl rfl) qX12_nextToken_246 ?_
                    refine v_goto hX 321 qX12_nextToken_249 rfl ?_
                    refine v_return hX qX12_nextToken_321 (hP _ _ ?_)
                    have z := nt_fin hx (τ := (stI (mkH h τ J) 38 24 (mT by' sz q)).1) (J := J) (fun a k ha => by show hpI (stI _ _ _ _) _ _ = _; rw [hpI_st, if_neg (by omega)]; exact hf a k ha) hJ
                    refine ⟨rfl, (stI (mkH h τ J) 38 24 (mT by' sz q)).1, J, rfl, z.1, z.2, ?_⟩
                    rw [hsk]
                    refine ⟨hq2, rfl, t25, fun y => ?_, fun y => ?_, fun y => ?_⟩
                    · rw [mT_d hqs hnl hdb] at y; split at y <;> exact absurd y (by decide)
                    · rw [mT_d hqs hnl hdb] at y
                      have hm4 : nnd by' sz q ≤ q + 4 := Classical.byContradiction fun w => by rw [if_neg w] at y; exact absurd y (by decide)
                      rw [hnn] at hm4 ⊢
                      exact ⟨t23, by rw [show q + m - q = min m 4 by omega]; exact tJ⟩
                    · rw [mT_d hqs hnl hdb] at y; split at y <;> exact absurd y (by decide)
                  · skip
                    refine v_iconst hX li_4 qX12_nextToken_241 ?_
                    refine v_goto hX 246 qX12_nextToken_242 rfl ?_
                    refine v_eqI (show _ = mT by' sz q by
                      rw [mT_d hqs hnl hdb, hnn]
                      first
                      | (have hm4 := nI_le' (i := m) (s := 4) (by omega) (by omega) q238; rw [if_pos (by omega)])
                      | (have hm4 := nI_lt' (i := 4) (s := m) (by omega) (by omega) q238; rw [if_neg (by omega)])) ?_
                    refine v_putI hX p_X12_139 (hm.kd 38 rfl) (Or.inl rfl) qX12_nextToken_246 ?_
                    refine v_goto hX 321 qX12_nextToken_249 rfl ?_
                    refine v_return hX qX12_nextToken_321 (hP _ _ ?_)
                    have z := nt_fin hx (τ := (stI (mkH h τ J) 38 24 (mT by' sz q)).1) (J := J) (fun a k ha => by show hpI (stI _ _ _ _) _ _ = _; rw [hpI_st, if_neg (by omega)]; exact hf a k ha) hJ
                    refine ⟨rfl, (stI (mkH h τ J) 38 24 (mT by' sz q)).1, J, rfl, z.1, z.2, ?_⟩
                    rw [hsk]
                    refine ⟨hq2, rfl, t25, fun y => ?_, fun y => ?_, fun y => ?_⟩
                    · rw [mT_d hqs hnl hdb] at y; split at y <;> exact absurd y (by decide)
                    · rw [mT_d hqs hnl hdb] at y
                      have hm4 : nnd by' sz q ≤ q + 4 := Classical.byContradiction fun w => by rw [if_neg w] at y; exact absurd y (by decide)
                      rw [hnn] at hm4 ⊢
                      exact ⟨t23, by rw [show q + m - q = min m 4 by omega]; exact tJ⟩
                    · rw [mT_d hqs hnl hdb] at y; split at y <;> exact absurd y (by decide)
                · have hql : q + m < sz := Nat.lt_of_not_le fun z => by
                    have y := btA_no (by' := by') z
                    rw [y] at q178
                    exact absurd q178 (by decide)
                  have hdx := dg_in (p := q + m) (decide_eq_true q178)
                  refine v_aload_n hX rfl qX12_nextToken_181 ?_
                  refine v_iload_n hX rfl qX12_nextToken_182 ?_
                  refine v_iconst hX li_4 qX12_nextToken_183 ?_
                  refine v_icmp_geS hX 212 qX12_nextToken_184 rfl (fun q184 => ?_) (fun q184 => ?_)
                  · skip
                    refine v_aload_n hX rfl qX12_nextToken_212 ?_
                    refine v_getJ hX g_X12_150 (hm.kd 38 rfl) qX12_nextToken_213 ?_
                    refine v_eqL (show _ = lN (nvN by' sz q (min (m + 1) 4)) by
                      first
                      | (have hm4 := nI_le' (i := 4) (s := m) (by omega) (by omega) q184
                         rw [show hpJ (mkH h τ J) 38 26 = _ from tJ, show min (m + 1) 4 = min m 4 by omega])
                      | (have hm4 := nI_lt' (i := m) (s := 4) (by omega) (by omega) q184
                         rw [show hpJ (mkH h τ J) 38 26 = _ from tJ, hdx.2, show (10 : Int64) = lN 10 from rfl, lN_mul, nI_l (by omega), lN_add, show (48 : Int64) = lN 48 from rfl, lN_sub (by omega), show min (m + 1) 4 = m + 1 by omega, show min m 4 = m by omega]
                         refine congrArg lN ?_
                         show _ = nvN by' sz q m * 10 + dgN by' sz (q + m)
                         omega)) ?_
                    refine v_putJ hX p_X12_150 (hm.kd 38 rfl) (Or.inl rfl) qX12_nextToken_216 ?_
                    refine v_iinc hX rfl (by first | exact ii_nI _ | exact ii_1 _) (Nat.le_of_ble_eq_true rfl) rfl (ls' := [some _, some _, some _]) rfl qX12_nextToken_219 ?_
                    refine v_aload_n hX rfl qX12_nextToken_222 ?_
                    refine v_dup hX rfl qX12_nextToken_223 ?_
                    refine v_getIv hX g_X12_129 (Or.inl rfl) (hm.kd 38 rfl) (show _ = nI (q + m) from t23) qX12_nextToken_224 ?_
                    refine v_iconst hX li_1 qX12_nextToken_227 ?_
                    refine v_iadd hX qX12_nextToken_228 ?_
                    refine v_eqI (nI_1 (q + m)) ?_
                    refine v_putI hX p_X12_129 (hm.kd 38 rfl) (Or.inl rfl) qX12_nextToken_229 ?_
                    refine v_goto hX 160 qX12_nextToken_232 rfl ?_
                    exact ih _ (by omega) (m + 1) (stI (mkH h τ J) 38 23 (nI (q + m + 1))).1 (up2 J 38 26 (lN (nvN by' sz q (min (m + 1) 4)))) rfl (by omega) (fun k h1 h2 => by
                      by_cases ek : k = q + m
                      · subst ek; exact decide_eq_true q178
                      · exact hdg k h1 (by omega)) (fun a k ha => by show hpI (stI _ _ _ _) _ _ = _; rw [hpI_st, if_neg (by omega)]; exact hf a k ha) rfl t25 rfl (fun a ha => funext fun k => by rw [up2_ne (fun y => ha y.1)]; exact congrFun (hJ a ha) k)
                  · skip
                    refine v_ldc2 hX c_X12_154 qX12_nextToken_187 ?_
                    refine v_aload_n hX rfl qX12_nextToken_190 ?_
                    refine v_getJ hX g_X12_150 (hm.kd 38 rfl) qX12_nextToken_191 ?_
                    refine v_lmul hX qX12_nextToken_194 ?_
                    refine v_aload_n hX rfl qX12_nextToken_195 ?_
                    refine v_aload_n hX rfl qX12_nextToken_196 ?_
                    refine v_getIv hX g_X12_129 (Or.inl rfl) (hm.kd 38 rfl) (show _ = nI (q + m) from t23) qX12_nextToken_197 ?_
                    refine v_callVq hX hR k_X12_132 (hm.kd 38 rfl) (m_byteAt (by exact hm) (by exact hxt) (i := q + m) (by omega)) rfl (Nat.le_of_ble_eq_true rfl) rfl (Nat.le_of_ble_eq_true rfl) ⟨Nat.le_of_ble_eq_true rfl, Nat.le_of_ble_eq_true rfl⟩ qX12_nextToken_200 ?_
                    rintro _ _ ⟨rfl, rfl⟩
                    refine v_i2l hX qX12_nextToken_203 ?_
                    refine v_ladd hX qX12_nextToken_204 ?_
                    refine v_ldc2 hX c_X12_146 qX12_nextToken_205 ?_
                    refine v_lsub hX qX12_nextToken_208 ?_
                    refine v_goto hX 216 qX12_nextToken_209 rfl ?_
                    refine v_eqL (show _ = lN (nvN by' sz q (min (m + 1) 4)) by
                      first
                      | (have hm4 := nI_le' (i := 4) (s := m) (by omega) (by omega) q184
                         rw [show hpJ (mkH h τ J) 38 26 = _ from tJ, show min (m + 1) 4 = min m 4 by omega])
                      | (have hm4 := nI_lt' (i := m) (s := 4) (by omega) (by omega) q184
                         rw [show hpJ (mkH h τ J) 38 26 = _ from tJ, hdx.2, show (10 : Int64) = lN 10 from rfl, lN_mul, nI_l (by omega), lN_add, show (48 : Int64) = lN 48 from rfl, lN_sub (by omega), show min (m + 1) 4 = m + 1 by omega, show min m 4 = m by omega]
                         refine congrArg lN ?_
                         show _ = nvN by' sz q m * 10 + dgN by' sz (q + m)
                         omega)) ?_
                    refine v_putJ hX p_X12_150 (hm.kd 38 rfl) (Or.inl rfl) qX12_nextToken_216 ?_
                    refine v_iinc hX rfl (by first | exact ii_nI _ | exact ii_1 _) (Nat.le_of_ble_eq_true rfl) rfl (ls' := [some _, some _, some _]) rfl qX12_nextToken_219 ?_
                    refine v_aload_n hX rfl qX12_nextToken_222 ?_
                    refine v_dup hX rfl qX12_nextToken_223 ?_
                    refine v_getIv hX g_X12_129 (Or.inl rfl) (hm.kd 38 rfl) (show _ = nI (q + m) from t23) qX12_nextToken_224 ?_
                    refine v_iconst hX li_1 qX12_nextToken_227 ?_
                    refine v_iadd hX qX12_nextToken_228 ?_
                    refine v_eqI (nI_1 (q + m)) ?_
                    refine v_putI hX p_X12_129 (hm.kd 38 rfl) (Or.inl rfl) qX12_nextToken_229 ?_
                    refine v_goto hX 160 qX12_nextToken_232 rfl ?_
                    exact ih _ (by omega) (m + 1) (stI (mkH h τ J) 38 23 (nI (q + m + 1))).1 (up2 J 38 26 (lN (nvN by' sz q (min (m + 1) 4)))) rfl (by omega) (fun k h1 h2 => by
                      by_cases ek : k = q + m
                      · subst ek; exact decide_eq_true q178
                      · exact hdg k h1 (by omega)) (fun a k ha => by show hpI (stI _ _ _ _) _ _ = _; rw [hpI_st, if_neg (by omega)]; exact hf a k ha) rfl t25 rfl (fun a ha => funext fun k => by rw [up2_ne (fun y => ha y.1)]; exact congrFun (hJ a ha) k)
              exact L160 _ 0 (stI (stI (stI (mkH h σ h.2.2.1) 38 25 (nI q)) 38 24 4) 38 24 2).1 (stJ (stI (stI (stI (mkH h σ h.2.2.1) 38 25 (nI q)) 38 24 4) 38 24 2) 38 26 0).2.2.1 rfl (by omega) (fun k h1 h2 => absurd h2 (by omega)) (fun a k ha => by show hpI (stI _ _ _ _) _ _ = _; rw [hpI_st, if_neg (by omega), hpI_st, if_neg (by omega), hpI_st, if_neg (by omega)]; exact hf a k (by omega)) g23 rfl rfl (fun a ha => funext fun k => by show hpJ (stJ _ _ _ _) _ _ = _; rw [hpJ_stJ, if_neg (fun y => ha y.1)]; rfl)
          · have hlb : ltB (btA by' sz q) = true := decide_eq_true q92
            refine v_aload_n hX rfl qX12_nextToken_95 ?_
            refine v_iconst hX li_1 qX12_nextToken_96 ?_
            refine v_putI hX p_X12_139 (hm.kd 38 rfl) (Or.inl rfl) qX12_nextToken_97 ?_
            have L100 : ∀ (mz : Nat) (m : Nat) (τ : Nat → Nat → Int32), sz - (q + m) = mz → (q + m ≤ sz) → (∀ k, q ≤ k → k < q + m → ltB (btA by' sz k) = true) → (∀ a k, ¬ (a = 38 ∧ (k = 23 ∨ k = 24 ∨ k = 25)) → τ a k = hpI h a k) → (τ 38 23 = nI (q + m)) → (τ 38 24 = 1) → (τ 38 25 = nI q) → V X G 3 0 0 (QM X G P 0 0) 100 [some (.ref 38), some (.int (btA by' sz q)), none] [] (mkH h τ h.2.2.1) := by
              intro mz
              induction mz using Nat.strongRecOn with
              | _ mz ih =>
              intro m τ hmz hqm hlt hf t23 t24 t25
              have hxt : MTx by' sz t o (mkH h τ h.2.2.1) := hx.e (h' := mkH h τ h.2.2.1) (funext fun k => hf 39 k (by omega)) (hf 38 21 (by omega)) (hf 38 22 (by omega)) ((hf 38 27 (by omega)).trans hx.2.2.2.2.2.1) (hf 38 28 (by omega))
              refine v_aload_n hX rfl qX12_nextToken_100 ?_
              refine v_aload_n hX rfl qX12_nextToken_101 ?_
              refine v_getIv hX g_X12_129 (Or.inl rfl) (hm.kd 38 rfl) (show _ = nI (q + m) from t23) qX12_nextToken_102 ?_
              refine v_callVq hX hR k_X12_132 (hm.kd 38 rfl) (m_byteAt (by exact hm) (by exact hxt) (i := q + m) (by omega)) rfl (Nat.le_of_ble_eq_true rfl) rfl (Nat.le_of_ble_eq_true rfl) ⟨Nat.le_of_ble_eq_true rfl, Nat.le_of_ble_eq_true rfl⟩ qX12_nextToken_105 ?_
              rintro _ _ ⟨rfl, rfl⟩
              refine v_i2l hX qX12_nextToken_108 ?_
              refine v_ldc2 hX c_X12_142 qX12_nextToken_109 ?_
              refine v_ldc2 hX c_X12_144 qX12_nextToken_112 ?_
              refine v_callSq hX hR k_X12_87 (m_in _ (by exact (97)) (by exact (122))) rfl (Nat.le_of_ble_eq_true rfl) rfl (Nat.le_of_ble_eq_true rfl) ⟨Nat.le_of_ble_eq_true rfl, Nat.le_of_ble_eq_true rfl⟩ qX12_nextToken_115 ?_
              rintro _ _ ⟨rfl, rfl⟩
              first | refine v_if_eqB hX 321 qX12_nextToken_118 rfl (fun q118 => ?_) (fun q118 => ?_) | refine v_if_eq hX 321 qX12_nextToken_118 rfl (fun q118 => ?_) (fun q118 => ?_)
              · skip
                refine v_return hX qX12_nextToken_321 (hP _ _ ?_)
                have hwn : wnd by' sz q = q + m := (wnd_is q).uniq ⟨by omega, hlt, Bool.eq_false_iff.mpr (fun z => q118 (of_decide_eq_true z))⟩
                have hm1 := mT_1 hqs hlb
                have z := nt_fin hx (τ := τ) (J := h.2.2.1) hf (fun _ _ => rfl)
                refine ⟨rfl, τ, h.2.2.1, rfl, z.1, z.2, ?_⟩
                rw [hsk]
                exact ⟨hq2, t24.trans hm1.symm, t25, fun _ => by rw [hwn]; exact t23, fun y => by rw [hm1] at y; exact absurd y (by decide), fun y => by rw [hm1] at y; exact absurd y (by decide)⟩
              · skip
                refine v_aload_n hX rfl qX12_nextToken_121 ?_
                refine v_dup hX rfl qX12_nextToken_122 ?_
                refine v_getIv hX g_X12_129 (Or.inl rfl) (hm.kd 38 rfl) (show _ = nI (q + m) from t23) qX12_nextToken_123 ?_
                refine v_iconst hX li_1 qX12_nextToken_126 ?_
                refine v_iadd hX qX12_nextToken_127 ?_
                refine v_eqI (nI_1 (q + m)) ?_
                refine v_putI hX p_X12_129 (hm.kd 38 rfl) (Or.inl rfl) qX12_nextToken_128 ?_
                refine v_goto hX 100 qX12_nextToken_131 rfl ?_
                have hql : q + m < sz := Nat.lt_of_not_le fun z => by
                  have y := btA_no (by' := by') z
                  rw [y] at q118
                  exact absurd q118 (by decide)
                exact ih _ (by omega) (m + 1) (stI (mkH h τ h.2.2.1) 38 23 (nI (q + m + 1))).1 rfl (by omega) (fun k h1 h2 => by
                  by_cases ek : k = q + m
                  · subst ek; exact decide_eq_true q118
                  · exact hlt k h1 (by omega)) (fun a k ha => by show hpI (stI _ _ _ _) _ _ = _; rw [hpI_st, if_neg (by omega)]; exact hf a k ha) rfl t24 t25
            exact L100 _ 0 (stI (stI (stI (mkH h σ h.2.2.1) 38 25 (nI q)) 38 24 4) 38 24 1).1 rfl (by omega) (fun k h1 h2 => absurd h2 (by omega)) (fun a k ha => by show hpI (stI _ _ _ _) _ _ = _; rw [hpI_st, if_neg (by omega), hpI_st, if_neg (by omega), hpI_st, if_neg (by omega)]; exact hf a k (by omega)) g23 rfl rfl
        · have hend : sz ≤ q := Nat.le_of_not_lt fun z => by
            rw [btA_in z] at q62
            exact absurd q62 (Int32.not_lt.mpr (hx.2.1.2 q z))
          refine v_aload_n hX rfl qX12_nextToken_65 ?_
          refine v_iconst hX li_0 qX12_nextToken_66 ?_
          refine v_putI hX p_X12_139 (hm.kd 38 rfl) (Or.inl rfl) qX12_nextToken_67 ?_
          refine v_aload_n hX rfl qX12_nextToken_70 ?_
          refine v_aload_n hX rfl qX12_nextToken_71 ?_
          refine v_getIv hX g_X12_123 (Or.inl rfl) (hm.kd 38 rfl) (show _ = nI sz from hxq.2.2.2.2.1) qX12_nextToken_72 ?_
          refine v_putI hX p_X12_136 (hm.kd 38 rfl) (Or.inl rfl) qX12_nextToken_75 ?_
          refine v_goto hX 321 qX12_nextToken_78 rfl ?_
          refine v_return hX qX12_nextToken_321 (hP _ _ ?_)
          have hqe : q = sz := by omega
          have z := nt_fin hx (τ := (stI (stI (stI (stI (mkH h σ h.2.2.1) 38 25 (nI q)) 38 24 4) 38 24 0) 38 25 (nI sz)).1) (J := h.2.2.1) (fun a k ha => by show hpI (stI _ _ _ _) _ _ = _; rw [hpI_st, if_neg (by omega), hpI_st, if_neg (by omega), hpI_st, if_neg (by omega), hpI_st, if_neg (by omega)]; exact hf0 a k (by omega)) (fun _ _ => rfl)
          refine ⟨rfl, (stI (stI (stI (stI (mkH h σ h.2.2.1) 38 25 (nI q)) 38 24 4) 38 24 0) 38 25 (nI sz)).1, h.2.2.1, rfl, z.1, z.2, ?_⟩
          rw [hsk]
          exact ⟨hq2, (mT_0 hend).symm, (show nI sz = nI q by rw [hqe]), fun y => by rw [mT_0 hend] at y; exact absurd y (by decide), fun y => by rw [mT_0 hend] at y; exact absurd y (by decide), fun y => by rw [mT_0 hend] at y; exact absurd y (by decide)⟩
      · skip
        refine v_aload_n hX rfl qX12_nextToken_26 ?_
        refine v_dup hX rfl qX12_nextToken_27 ?_
        refine v_getIv hX g_X12_129 (Or.inl rfl) (hm.kd 38 rfl) (show _ = nI q from g23) qX12_nextToken_28 ?_
        refine v_iconst hX li_1 qX12_nextToken_31 ?_
        refine v_iadd hX qX12_nextToken_32 ?_
        refine v_eqI (nI_1 q) ?_
        refine v_putI hX p_X12_129 (hm.kd 38 rfl) (Or.inl rfl) qX12_nextToken_33 ?_
        refine v_goto hX 0 qX12_nextToken_36 rfl ?_
        have hql : q < sz := Nat.lt_of_not_le fun z => by
          have y := btA_no (by' := by') z
          first | (rw [q10] at y; exact absurd y (by decide)) | (rw [q23] at y; exact absurd y (by decide))
        exact ih _ (by omega) (q + 1) (stI (mkH h σ h.2.2.1) 38 23 (nI (q + 1))).1 rfl (by omega) (by omega) (fun k h1 h2 => by
          by_cases ek : k = q
          · subst ek; exact decide_eq_true (by first | exact Or.inl q10 | exact Or.inr q23)
          · exact hbl k h1 (by omega)) (fun a k ha => by show hpI (stI _ _ _ _) _ _ = _; rw [hpI_st, if_neg ha]; exact hf a k ha) rfl
  exact L0 _ e h.1 rfl (Nat.le_refl _) hes (fun k h1 h2 => absurd h2 (by omega)) (fun a k _ => rfl) h23

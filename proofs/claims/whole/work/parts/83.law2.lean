/-! the law: a call of the class, then of the reference -/
theorem lcmp_rf (x : Int64) : lg_cmp x x = 0 := (lg_cmp_eq _ _).mpr rfl
/-- what holds at the loop's head after c calls -/
def LwI (h : AHp) (E : Sst) (c : Nat) : Prop := CV h E ∧ MW h E ∧ hpN h ≤ 58 + 6 * c
theorem LwI.nx {h : AHp} {E : Sst} {c : Nat} (hc : CV h E) (hm : MW h E) (hN : hpN h ≤ 58 + 6 * c + 6) : LwI h E (c + 1) := ⟨hc, hm, by omega⟩
theorem qL_law_176 : Dq cL_law 176 (.aload_n 1) 1 177 := ⟨by decide +kernel, rfl⟩
theorem qL_law_177 : Dq cL_law 177 (.aload_n 0) 1 178 := ⟨by decide +kernel, rfl⟩
theorem qL_law_178 : Dq cL_law 178 (.iload_n 3) 1 179 := ⟨by decide +kernel, rfl⟩
theorem qL_law_179 : Dq cL_law 179 (.iconst 1) 1 180 := ⟨by decide +kernel, rfl⟩
theorem qL_law_180 : Dq cL_law 180 (.iadd) 1 181 := ⟨by decide +kernel, rfl⟩
theorem qL_law_181 : Dq cL_law 181 (.iaload) 1 182 := ⟨by decide +kernel, rfl⟩
theorem qL_law_182 : Dq cL_law 182 (.aload_n 0) 1 183 := ⟨by decide +kernel, rfl⟩
theorem qL_law_183 : Dq cL_law 183 (.iload_n 3) 1 184 := ⟨by decide +kernel, rfl⟩
theorem qL_law_184 : Dq cL_law 184 (.iconst 2) 1 185 := ⟨by decide +kernel, rfl⟩
theorem qL_law_185 : Dq cL_law 185 (.iadd) 1 186 := ⟨by decide +kernel, rfl⟩
theorem qL_law_186 : Dq cL_law 186 (.iaload) 1 187 := ⟨by decide +kernel, rfl⟩
theorem qL_law_187 : Dq cL_law 187 (.aload_n 0) 1 188 := ⟨by decide +kernel, rfl⟩
theorem qL_law_188 : Dq cL_law 188 (.iload_n 3) 1 189 := ⟨by decide +kernel, rfl⟩
theorem qL_law_189 : Dq cL_law 189 (.iconst 3) 1 190 := ⟨by decide +kernel, rfl⟩
theorem qL_law_190 : Dq cL_law 190 (.iadd) 1 191 := ⟨by decide +kernel, rfl⟩
theorem qL_law_191 : Dq cL_law 191 (.iaload) 1 192 := ⟨by decide +kernel, rfl⟩
theorem qL_law_192 : Dq cL_law 192 (.invokevirtual 13) 3 195 := ⟨by decide +kernel, rfl⟩
theorem qL_law_195 : Dq cL_law 195 (.aload_n 2) 1 196 := ⟨by decide +kernel, rfl⟩
theorem qL_law_196 : Dq cL_law 196 (.aload_n 0) 1 197 := ⟨by decide +kernel, rfl⟩
theorem qL_law_197 : Dq cL_law 197 (.iload_n 3) 1 198 := ⟨by decide +kernel, rfl⟩
theorem qL_law_198 : Dq cL_law 198 (.iconst 1) 1 199 := ⟨by decide +kernel, rfl⟩
theorem qL_law_199 : Dq cL_law 199 (.iadd) 1 200 := ⟨by decide +kernel, rfl⟩
theorem qL_law_200 : Dq cL_law 200 (.iaload) 1 201 := ⟨by decide +kernel, rfl⟩
theorem qL_law_201 : Dq cL_law 201 (.aload_n 0) 1 202 := ⟨by decide +kernel, rfl⟩
theorem qL_law_202 : Dq cL_law 202 (.iload_n 3) 1 203 := ⟨by decide +kernel, rfl⟩
theorem qL_law_203 : Dq cL_law 203 (.iconst 2) 1 204 := ⟨by decide +kernel, rfl⟩
theorem qL_law_204 : Dq cL_law 204 (.iadd) 1 205 := ⟨by decide +kernel, rfl⟩
theorem qL_law_205 : Dq cL_law 205 (.iaload) 1 206 := ⟨by decide +kernel, rfl⟩
theorem qL_law_206 : Dq cL_law 206 (.aload_n 0) 1 207 := ⟨by decide +kernel, rfl⟩
theorem qL_law_207 : Dq cL_law 207 (.iload_n 3) 1 208 := ⟨by decide +kernel, rfl⟩
theorem qL_law_208 : Dq cL_law 208 (.iconst 3) 1 209 := ⟨by decide +kernel, rfl⟩
theorem qL_law_209 : Dq cL_law 209 (.iadd) 1 210 := ⟨by decide +kernel, rfl⟩
theorem qL_law_210 : Dq cL_law 210 (.iaload) 1 211 := ⟨by decide +kernel, rfl⟩
theorem qL_law_211 : Dq cL_law 211 (.invokevirtual 17) 3 214 := ⟨by decide +kernel, rfl⟩
theorem qL_law_214 : Dq cL_law 214 (.if_icmp .eq 921) 3 217 := ⟨by decide +kernel, rfl⟩
set_option maxRecDepth 100000 in
set_option maxHeartbeats 4000000 in
theorem law_00 {X : Cx} {G : Glb} {L : Nat} {xsc : Nat → Int32} {Q : State → Prop} (hl : LwX X G L xsc) {h : AHp} {E : Sst} {i c : Nat} (hi : i + 6 ≤ L) (hc64 : c < 64) (hI : LwI h E c) (kk : ∀ h' E', LwI h' E' (c + 1) → V X G 4 (58 + 6 * (c + 1)) (4289 + 6 * (c + 1)) Q 1135 [some (.ref 1000000), some (.ref 0), some (.ref 38), some (.int (nI i))] [] h') : V X G 4 (58 + 6 * c) (4289 + 6 * c) Q 176 [some (.ref 1000000), some (.ref 0), some (.ref 38), some (.int (nI i))] [] h := by
  obtain ⟨hc, hm, hN⟩ := hI
  obtain ⟨hX, hR, -⟩ := id hl
  refine v_aload_n hX rfl qL_law_176 ?_
  refine v_aload_n hX rfl qL_law_177 ?_
  refine v_iload_n hX rfl qL_law_178 ?_
  refine v_iconst hX li_1 qL_law_179 ?_
  refine v_iadd hX qL_law_180 ?_
  refine hl.sld (j := i + 1) (nI_add i 1) (by omega) qL_law_181 ?_
  refine v_aload_n hX rfl qL_law_182 ?_
  refine v_iload_n hX rfl qL_law_183 ?_
  refine v_iconst hX li_2 qL_law_184 ?_
  refine v_iadd hX qL_law_185 ?_
  refine hl.sld (j := i + 2) (nI_add i 2) (by omega) qL_law_186 ?_
  refine v_aload_n hX rfl qL_law_187 ?_
  refine v_iload_n hX rfl qL_law_188 ?_
  refine v_iconst hX li_3 qL_law_189 ?_
  refine v_iadd hX qL_law_190 ?_
  refine hl.sld (j := i + 3) (nI_add i 3) (by omega) qL_law_191 ?_
  refine v_callVL hX hR k_L_13 (hc.1.kd 0 rfl) (c_set (by exact hc) _ _ _) rfl (Nat.le_of_ble_eq_true rfl) rfl (Nat.le_of_ble_eq_true rfl) ⟨by omega, by omega⟩ qL_law_192 ?_
  rintro _ _ ⟨rfl, σ, rfl, hc1, k1⟩
  have hm1 := hm.k38 k1
  have hN1 : hpN (σ, h.2) ≤ 58 + 6 * c := hN
  refine v_aload_n hX rfl qL_law_195 ?_
  refine v_aload_n hX rfl qL_law_196 ?_
  refine v_iload_n hX rfl qL_law_197 ?_
  refine v_iconst hX li_1 qL_law_198 ?_
  refine v_iadd hX qL_law_199 ?_
  refine hl.sld (j := i + 1) (nI_add i 1) (by omega) qL_law_200 ?_
  refine v_aload_n hX rfl qL_law_201 ?_
  refine v_iload_n hX rfl qL_law_202 ?_
  refine v_iconst hX li_2 qL_law_203 ?_
  refine v_iadd hX qL_law_204 ?_
  refine hl.sld (j := i + 2) (nI_add i 2) (by omega) qL_law_205 ?_
  refine v_aload_n hX rfl qL_law_206 ?_
  refine v_iload_n hX rfl qL_law_207 ?_
  refine v_iconst hX li_3 qL_law_208 ?_
  refine v_iadd hX qL_law_209 ?_
  refine hl.sld (j := i + 3) (nI_add i 3) (by omega) qL_law_210 ?_
  refine v_callVL hX hR k_L_17 (hm1.1.kd 38 rfl) (m_set (by exact hm1) _ _ _) rfl (Nat.le_of_ble_eq_true rfl) rfl (Nat.le_of_ble_eq_true rfl) ⟨by omega, by omega⟩ qL_law_211 ?_
  rintro _ _ ⟨rfl, σ2, J2, rfl, hm2, k2⟩
  have hc2 := hc1.k58 hm1.1 k2
  have hN2 := hN1
  refine v_icmp_eq hX 1135 qL_law_214 rfl (fun q214 => ?_) (fun q214 => ?_)
  · skip
    refine v_widen (k' := 58 + 6 * (c + 1)) (n' := 4289 + 6 * (c + 1)) (by omega) (by omega) ?_
    exact kk _ _ (LwI.nx hc2 hm2 (Nat.le_trans hN2 (by omega)))
  · exact absurd rfl q214
theorem qL_law_219 : Dq cL_law 219 (.aload_n 1) 1 220 := ⟨by decide +kernel, rfl⟩
theorem qL_law_220 : Dq cL_law 220 (.aload_n 0) 1 221 := ⟨by decide +kernel, rfl⟩
theorem qL_law_221 : Dq cL_law 221 (.iload_n 3) 1 222 := ⟨by decide +kernel, rfl⟩
theorem qL_law_222 : Dq cL_law 222 (.iconst 1) 1 223 := ⟨by decide +kernel, rfl⟩
theorem qL_law_223 : Dq cL_law 223 (.iadd) 1 224 := ⟨by decide +kernel, rfl⟩
theorem qL_law_224 : Dq cL_law 224 (.iaload) 1 225 := ⟨by decide +kernel, rfl⟩
theorem qL_law_225 : Dq cL_law 225 (.aload_n 0) 1 226 := ⟨by decide +kernel, rfl⟩
theorem qL_law_226 : Dq cL_law 226 (.iload_n 3) 1 227 := ⟨by decide +kernel, rfl⟩
theorem qL_law_227 : Dq cL_law 227 (.iconst 2) 1 228 := ⟨by decide +kernel, rfl⟩
theorem qL_law_228 : Dq cL_law 228 (.iadd) 1 229 := ⟨by decide +kernel, rfl⟩
theorem qL_law_229 : Dq cL_law 229 (.iaload) 1 230 := ⟨by decide +kernel, rfl⟩
theorem qL_law_230 : Dq cL_law 230 (.invokevirtual 18) 3 233 := ⟨by decide +kernel, rfl⟩
theorem qL_law_233 : Dq cL_law 233 (.aload_n 2) 1 234 := ⟨by decide +kernel, rfl⟩
theorem qL_law_234 : Dq cL_law 234 (.aload_n 0) 1 235 := ⟨by decide +kernel, rfl⟩
theorem qL_law_235 : Dq cL_law 235 (.iload_n 3) 1 236 := ⟨by decide +kernel, rfl⟩
theorem qL_law_236 : Dq cL_law 236 (.iconst 1) 1 237 := ⟨by decide +kernel, rfl⟩
theorem qL_law_237 : Dq cL_law 237 (.iadd) 1 238 := ⟨by decide +kernel, rfl⟩
theorem qL_law_238 : Dq cL_law 238 (.iaload) 1 239 := ⟨by decide +kernel, rfl⟩
theorem qL_law_239 : Dq cL_law 239 (.aload_n 0) 1 240 := ⟨by decide +kernel, rfl⟩
theorem qL_law_240 : Dq cL_law 240 (.iload_n 3) 1 241 := ⟨by decide +kernel, rfl⟩
theorem qL_law_241 : Dq cL_law 241 (.iconst 2) 1 242 := ⟨by decide +kernel, rfl⟩
theorem qL_law_242 : Dq cL_law 242 (.iadd) 1 243 := ⟨by decide +kernel, rfl⟩
theorem qL_law_243 : Dq cL_law 243 (.iaload) 1 244 := ⟨by decide +kernel, rfl⟩
theorem qL_law_244 : Dq cL_law 244 (.invokevirtual 22) 3 247 := ⟨by decide +kernel, rfl⟩
theorem qL_law_247 : Dq cL_law 247 (.if_icmp .eq 888) 3 250 := ⟨by decide +kernel, rfl⟩
set_option maxRecDepth 100000 in
set_option maxHeartbeats 4000000 in
theorem law_01 {X : Cx} {G : Glb} {L : Nat} {xsc : Nat → Int32} {Q : State → Prop} (hl : LwX X G L xsc) {h : AHp} {E : Sst} {i c : Nat} (hi : i + 6 ≤ L) (hc64 : c < 64) (hI : LwI h E c) (kk : ∀ h' E', LwI h' E' (c + 1) → V X G 4 (58 + 6 * (c + 1)) (4289 + 6 * (c + 1)) Q 1135 [some (.ref 1000000), some (.ref 0), some (.ref 38), some (.int (nI i))] [] h') : V X G 4 (58 + 6 * c) (4289 + 6 * c) Q 219 [some (.ref 1000000), some (.ref 0), some (.ref 38), some (.int (nI i))] [] h := by
  obtain ⟨hc, hm, hN⟩ := hI
  obtain ⟨hX, hR, -⟩ := id hl
  refine v_aload_n hX rfl qL_law_219 ?_
  refine v_aload_n hX rfl qL_law_220 ?_
  refine v_iload_n hX rfl qL_law_221 ?_
  refine v_iconst hX li_1 qL_law_222 ?_
  refine v_iadd hX qL_law_223 ?_
  refine hl.sld (j := i + 1) (nI_add i 1) (by omega) qL_law_224 ?_
  refine v_aload_n hX rfl qL_law_225 ?_
  refine v_iload_n hX rfl qL_law_226 ?_
  refine v_iconst hX li_2 qL_law_227 ?_
  refine v_iadd hX qL_law_228 ?_
  refine hl.sld (j := i + 2) (nI_add i 2) (by omega) qL_law_229 ?_
  refine v_callVL hX hR k_L_18 (hc.1.kd 0 rfl) (c_told (by exact hc) _ _) rfl (Nat.le_of_ble_eq_true rfl) rfl (Nat.le_of_ble_eq_true rfl) ⟨by omega, by omega⟩ qL_law_230 ?_
  rintro _ _ ⟨rfl, σ, rfl, hc1, k1⟩
  have hm1 := hm.k38 k1
  have hN1 : hpN (σ, h.2) ≤ 58 + 6 * c := hN
  refine v_aload_n hX rfl qL_law_233 ?_
  refine v_aload_n hX rfl qL_law_234 ?_
  refine v_iload_n hX rfl qL_law_235 ?_
  refine v_iconst hX li_1 qL_law_236 ?_
  refine v_iadd hX qL_law_237 ?_
  refine hl.sld (j := i + 1) (nI_add i 1) (by omega) qL_law_238 ?_
  refine v_aload_n hX rfl qL_law_239 ?_
  refine v_iload_n hX rfl qL_law_240 ?_
  refine v_iconst hX li_2 qL_law_241 ?_
  refine v_iadd hX qL_law_242 ?_
  refine hl.sld (j := i + 2) (nI_add i 2) (by omega) qL_law_243 ?_
  refine v_callVL hX hR k_L_22 (hm1.1.kd 38 rfl) (m_told (by exact hm1) _ _) rfl (Nat.le_of_ble_eq_true rfl) rfl (Nat.le_of_ble_eq_true rfl) ⟨by omega, by omega⟩ qL_law_244 ?_
  rintro _ _ ⟨rfl, σ2, J2, rfl, hm2, k2⟩
  have hc2 := hc1.k58 hm1.1 k2
  have hN2 := hN1
  refine v_icmp_eq hX 1135 qL_law_247 rfl (fun q247 => ?_) (fun q247 => ?_)
  · skip
    refine v_widen (k' := 58 + 6 * (c + 1)) (n' := 4289 + 6 * (c + 1)) (by omega) (by omega) ?_
    exact kk _ _ (LwI.nx hc2 hm2 (Nat.le_trans hN2 (by omega)))
  · exact absurd rfl q247
theorem qL_law_252 : Dq cL_law 252 (.aload_n 1) 1 253 := ⟨by decide +kernel, rfl⟩
theorem qL_law_253 : Dq cL_law 253 (.aload_n 0) 1 254 := ⟨by decide +kernel, rfl⟩
theorem qL_law_254 : Dq cL_law 254 (.iload_n 3) 1 255 := ⟨by decide +kernel, rfl⟩
theorem qL_law_255 : Dq cL_law 255 (.iconst 1) 1 256 := ⟨by decide +kernel, rfl⟩
theorem qL_law_256 : Dq cL_law 256 (.iadd) 1 257 := ⟨by decide +kernel, rfl⟩
theorem qL_law_257 : Dq cL_law 257 (.iaload) 1 258 := ⟨by decide +kernel, rfl⟩
theorem qL_law_258 : Dq cL_law 258 (.aload_n 0) 1 259 := ⟨by decide +kernel, rfl⟩
theorem qL_law_259 : Dq cL_law 259 (.iload_n 3) 1 260 := ⟨by decide +kernel, rfl⟩
theorem qL_law_260 : Dq cL_law 260 (.iconst 2) 1 261 := ⟨by decide +kernel, rfl⟩
theorem qL_law_261 : Dq cL_law 261 (.iadd) 1 262 := ⟨by decide +kernel, rfl⟩
theorem qL_law_262 : Dq cL_law 262 (.iaload) 1 263 := ⟨by decide +kernel, rfl⟩
theorem qL_law_263 : Dq cL_law 263 (.invokevirtual 23) 3 266 := ⟨by decide +kernel, rfl⟩
theorem qL_law_266 : Dq cL_law 266 (.aload_n 2) 1 267 := ⟨by decide +kernel, rfl⟩
theorem qL_law_267 : Dq cL_law 267 (.aload_n 0) 1 268 := ⟨by decide +kernel, rfl⟩
theorem qL_law_268 : Dq cL_law 268 (.iload_n 3) 1 269 := ⟨by decide +kernel, rfl⟩
theorem qL_law_269 : Dq cL_law 269 (.iconst 1) 1 270 := ⟨by decide +kernel, rfl⟩
theorem qL_law_270 : Dq cL_law 270 (.iadd) 1 271 := ⟨by decide +kernel, rfl⟩
theorem qL_law_271 : Dq cL_law 271 (.iaload) 1 272 := ⟨by decide +kernel, rfl⟩
theorem qL_law_272 : Dq cL_law 272 (.aload_n 0) 1 273 := ⟨by decide +kernel, rfl⟩
theorem qL_law_273 : Dq cL_law 273 (.iload_n 3) 1 274 := ⟨by decide +kernel, rfl⟩
theorem qL_law_274 : Dq cL_law 274 (.iconst 2) 1 275 := ⟨by decide +kernel, rfl⟩
theorem qL_law_275 : Dq cL_law 275 (.iadd) 1 276 := ⟨by decide +kernel, rfl⟩
theorem qL_law_276 : Dq cL_law 276 (.iaload) 1 277 := ⟨by decide +kernel, rfl⟩
theorem qL_law_277 : Dq cL_law 277 (.invokevirtual 26) 3 280 := ⟨by decide +kernel, rfl⟩
theorem qL_law_280 : Dq cL_law 280 (.if_icmp .eq 855) 3 283 := ⟨by decide +kernel, rfl⟩
set_option maxRecDepth 100000 in
set_option maxHeartbeats 4000000 in
theorem law_02 {X : Cx} {G : Glb} {L : Nat} {xsc : Nat → Int32} {Q : State → Prop} (hl : LwX X G L xsc) {h : AHp} {E : Sst} {i c : Nat} (hi : i + 6 ≤ L) (hc64 : c < 64) (hI : LwI h E c) (kk : ∀ h' E', LwI h' E' (c + 1) → V X G 4 (58 + 6 * (c + 1)) (4289 + 6 * (c + 1)) Q 1135 [some (.ref 1000000), some (.ref 0), some (.ref 38), some (.int (nI i))] [] h') : V X G 4 (58 + 6 * c) (4289 + 6 * c) Q 252 [some (.ref 1000000), some (.ref 0), some (.ref 38), some (.int (nI i))] [] h := by
  obtain ⟨hc, hm, hN⟩ := hI
  obtain ⟨hX, hR, -⟩ := id hl
  refine v_aload_n hX rfl qL_law_252 ?_
  refine v_aload_n hX rfl qL_law_253 ?_
  refine v_iload_n hX rfl qL_law_254 ?_
  refine v_iconst hX li_1 qL_law_255 ?_
  refine v_iadd hX qL_law_256 ?_
  refine hl.sld (j := i + 1) (nI_add i 1) (by omega) qL_law_257 ?_
  refine v_aload_n hX rfl qL_law_258 ?_
  refine v_iload_n hX rfl qL_law_259 ?_
  refine v_iconst hX li_2 qL_law_260 ?_
  refine v_iadd hX qL_law_261 ?_
  refine hl.sld (j := i + 2) (nI_add i 2) (by omega) qL_law_262 ?_
  refine v_callVL' hX hR k_L_23 (hc.1.kd 0 rfl) (c_looker (by exact hc) (by omega) _ _) rfl (Nat.le_of_ble_eq_true rfl) rfl (Nat.le_of_ble_eq_true rfl) ⟨by omega, by omega⟩ qL_law_263 ?_
  rintro _ _ ⟨rfl, hc1, k1, n1⟩
  have hm1 := hm.kp k1
  have hN1 : hpN _ ≤ 58 + 6 * c + 1 := Nat.le_trans n1 (by omega)
  refine v_aload_n hX rfl qL_law_266 ?_
  refine v_aload_n hX rfl qL_law_267 ?_
  refine v_iload_n hX rfl qL_law_268 ?_
  refine v_iconst hX li_1 qL_law_269 ?_
  refine v_iadd hX qL_law_270 ?_
  refine hl.sld (j := i + 1) (nI_add i 1) (by omega) qL_law_271 ?_
  refine v_aload_n hX rfl qL_law_272 ?_
  refine v_iload_n hX rfl qL_law_273 ?_
  refine v_iconst hX li_2 qL_law_274 ?_
  refine v_iadd hX qL_law_275 ?_
  refine hl.sld (j := i + 2) (nI_add i 2) (by omega) qL_law_276 ?_
  refine v_callVL hX hR k_L_26 (hm1.1.kd 38 rfl) (m_looker (by exact hm1) _ _) rfl (Nat.le_of_ble_eq_true rfl) rfl (Nat.le_of_ble_eq_true rfl) ⟨by omega, by omega⟩ qL_law_277 ?_
  rintro _ _ ⟨rfl, σ2, J2, rfl, hm2, k2⟩
  have hc2 := hc1.k58 hm1.1 k2
  have hN2 := hN1
  refine v_icmp_eq hX 1135 qL_law_280 rfl (fun q280 => ?_) (fun q280 => ?_)
  · skip
    refine v_widen (k' := 58 + 6 * (c + 1)) (n' := 4289 + 6 * (c + 1)) (by omega) (by omega) ?_
    exact kk _ _ (LwI.nx hc2 hm2 (Nat.le_trans hN2 (by omega)))
  · exact absurd rfl q280
theorem qL_law_285 : Dq cL_law 285 (.aload_n 1) 1 286 := ⟨by decide +kernel, rfl⟩
theorem qL_law_286 : Dq cL_law 286 (.aload_n 0) 1 287 := ⟨by decide +kernel, rfl⟩
theorem qL_law_287 : Dq cL_law 287 (.iload_n 3) 1 288 := ⟨by decide +kernel, rfl⟩
theorem qL_law_288 : Dq cL_law 288 (.iconst 1) 1 289 := ⟨by decide +kernel, rfl⟩
theorem qL_law_289 : Dq cL_law 289 (.iadd) 1 290 := ⟨by decide +kernel, rfl⟩
theorem qL_law_290 : Dq cL_law 290 (.iaload) 1 291 := ⟨by decide +kernel, rfl⟩
theorem qL_law_291 : Dq cL_law 291 (.aload_n 0) 1 292 := ⟨by decide +kernel, rfl⟩
theorem qL_law_292 : Dq cL_law 292 (.iload_n 3) 1 293 := ⟨by decide +kernel, rfl⟩
theorem qL_law_293 : Dq cL_law 293 (.iconst 2) 1 294 := ⟨by decide +kernel, rfl⟩
theorem qL_law_294 : Dq cL_law 294 (.iadd) 1 295 := ⟨by decide +kernel, rfl⟩
theorem qL_law_295 : Dq cL_law 295 (.iaload) 1 296 := ⟨by decide +kernel, rfl⟩
theorem qL_law_296 : Dq cL_law 296 (.aload_n 0) 1 297 := ⟨by decide +kernel, rfl⟩
theorem qL_law_297 : Dq cL_law 297 (.iload_n 3) 1 298 := ⟨by decide +kernel, rfl⟩
theorem qL_law_298 : Dq cL_law 298 (.iconst 3) 1 299 := ⟨by decide +kernel, rfl⟩
theorem qL_law_299 : Dq cL_law 299 (.iadd) 1 300 := ⟨by decide +kernel, rfl⟩
theorem qL_law_300 : Dq cL_law 300 (.iaload) 1 301 := ⟨by decide +kernel, rfl⟩
theorem qL_law_301 : Dq cL_law 301 (.invokevirtual 27) 3 304 := ⟨by decide +kernel, rfl⟩
theorem qL_law_304 : Dq cL_law 304 (.aload_n 2) 1 305 := ⟨by decide +kernel, rfl⟩
theorem qL_law_305 : Dq cL_law 305 (.aload_n 0) 1 306 := ⟨by decide +kernel, rfl⟩
theorem qL_law_306 : Dq cL_law 306 (.iload_n 3) 1 307 := ⟨by decide +kernel, rfl⟩
theorem qL_law_307 : Dq cL_law 307 (.iconst 1) 1 308 := ⟨by decide +kernel, rfl⟩
theorem qL_law_308 : Dq cL_law 308 (.iadd) 1 309 := ⟨by decide +kernel, rfl⟩
theorem qL_law_309 : Dq cL_law 309 (.iaload) 1 310 := ⟨by decide +kernel, rfl⟩
theorem qL_law_310 : Dq cL_law 310 (.aload_n 0) 1 311 := ⟨by decide +kernel, rfl⟩
theorem qL_law_311 : Dq cL_law 311 (.iload_n 3) 1 312 := ⟨by decide +kernel, rfl⟩
theorem qL_law_312 : Dq cL_law 312 (.iconst 2) 1 313 := ⟨by decide +kernel, rfl⟩
theorem qL_law_313 : Dq cL_law 313 (.iadd) 1 314 := ⟨by decide +kernel, rfl⟩
theorem qL_law_314 : Dq cL_law 314 (.iaload) 1 315 := ⟨by decide +kernel, rfl⟩
theorem qL_law_315 : Dq cL_law 315 (.aload_n 0) 1 316 := ⟨by decide +kernel, rfl⟩
theorem qL_law_316 : Dq cL_law 316 (.iload_n 3) 1 317 := ⟨by decide +kernel, rfl⟩
theorem qL_law_317 : Dq cL_law 317 (.iconst 3) 1 318 := ⟨by decide +kernel, rfl⟩
theorem qL_law_318 : Dq cL_law 318 (.iadd) 1 319 := ⟨by decide +kernel, rfl⟩
theorem qL_law_319 : Dq cL_law 319 (.iaload) 1 320 := ⟨by decide +kernel, rfl⟩
theorem qL_law_320 : Dq cL_law 320 (.invokevirtual 30) 3 323 := ⟨by decide +kernel, rfl⟩
theorem qL_law_323 : Dq cL_law 323 (.if_icmp .eq 812) 3 326 := ⟨by decide +kernel, rfl⟩
set_option maxRecDepth 100000 in
set_option maxHeartbeats 4000000 in
theorem law_03 {X : Cx} {G : Glb} {L : Nat} {xsc : Nat → Int32} {Q : State → Prop} (hl : LwX X G L xsc) {h : AHp} {E : Sst} {i c : Nat} (hi : i + 6 ≤ L) (hc64 : c < 64) (hI : LwI h E c) (kk : ∀ h' E', LwI h' E' (c + 1) → V X G 4 (58 + 6 * (c + 1)) (4289 + 6 * (c + 1)) Q 1135 [some (.ref 1000000), some (.ref 0), some (.ref 38), some (.int (nI i))] [] h') : V X G 4 (58 + 6 * c) (4289 + 6 * c) Q 285 [some (.ref 1000000), some (.ref 0), some (.ref 38), some (.int (nI i))] [] h := by
  obtain ⟨hc, hm, hN⟩ := hI
  obtain ⟨hX, hR, -⟩ := id hl
  refine v_aload_n hX rfl qL_law_285 ?_
  refine v_aload_n hX rfl qL_law_286 ?_
  refine v_iload_n hX rfl qL_law_287 ?_
  refine v_iconst hX li_1 qL_law_288 ?_
  refine v_iadd hX qL_law_289 ?_
  refine hl.sld (j := i + 1) (nI_add i 1) (by omega) qL_law_290 ?_
  refine v_aload_n hX rfl qL_law_291 ?_
  refine v_iload_n hX rfl qL_law_292 ?_
  refine v_iconst hX li_2 qL_law_293 ?_
  refine v_iadd hX qL_law_294 ?_
  refine hl.sld (j := i + 2) (nI_add i 2) (by omega) qL_law_295 ?_
  refine v_aload_n hX rfl qL_law_296 ?_
  refine v_iload_n hX rfl qL_law_297 ?_
  refine v_iconst hX li_3 qL_law_298 ?_
  refine v_iadd hX qL_law_299 ?_
  refine hl.sld (j := i + 3) (nI_add i 3) (by omega) qL_law_300 ?_
  refine v_callVL hX hR k_L_27 (hc.1.kd 0 rfl) (c_asks (by exact hc) _ _ _) rfl (Nat.le_of_ble_eq_true rfl) rfl (Nat.le_of_ble_eq_true rfl) ⟨by omega, by omega⟩ qL_law_301 ?_
  rintro _ _ ⟨rfl, σ, rfl, hc1, k1⟩
  have hm1 := hm.k38 k1
  have hN1 : hpN (σ, h.2) ≤ 58 + 6 * c := hN
  refine v_aload_n hX rfl qL_law_304 ?_
  refine v_aload_n hX rfl qL_law_305 ?_
  refine v_iload_n hX rfl qL_law_306 ?_
  refine v_iconst hX li_1 qL_law_307 ?_
  refine v_iadd hX qL_law_308 ?_
  refine hl.sld (j := i + 1) (nI_add i 1) (by omega) qL_law_309 ?_
  refine v_aload_n hX rfl qL_law_310 ?_
  refine v_iload_n hX rfl qL_law_311 ?_
  refine v_iconst hX li_2 qL_law_312 ?_
  refine v_iadd hX qL_law_313 ?_
  refine hl.sld (j := i + 2) (nI_add i 2) (by omega) qL_law_314 ?_
  refine v_aload_n hX rfl qL_law_315 ?_
  refine v_iload_n hX rfl qL_law_316 ?_
  refine v_iconst hX li_3 qL_law_317 ?_
  refine v_iadd hX qL_law_318 ?_
  refine hl.sld (j := i + 3) (nI_add i 3) (by omega) qL_law_319 ?_
  refine v_callVL hX hR k_L_30 (hm1.1.kd 38 rfl) (m_asks (by exact hm1) _ _ _) rfl (Nat.le_of_ble_eq_true rfl) rfl (Nat.le_of_ble_eq_true rfl) ⟨by omega, by omega⟩ qL_law_320 ?_
  rintro _ _ ⟨rfl, σ2, J2, rfl, hm2, k2⟩
  have hc2 := hc1.k58 hm1.1 k2
  have hN2 := hN1
  refine v_icmp_eq hX 1135 qL_law_323 rfl (fun q323 => ?_) (fun q323 => ?_)
  · skip
    refine v_widen (k' := 58 + 6 * (c + 1)) (n' := 4289 + 6 * (c + 1)) (by omega) (by omega) ?_
    exact kk _ _ (LwI.nx hc2 hm2 (Nat.le_trans hN2 (by omega)))
  · exact absurd rfl q323
theorem qL_law_328 : Dq cL_law 328 (.aload_n 1) 1 329 := ⟨by decide +kernel, rfl⟩
theorem qL_law_329 : Dq cL_law 329 (.aload_n 0) 1 330 := ⟨by decide +kernel, rfl⟩
theorem qL_law_330 : Dq cL_law 330 (.iload_n 3) 1 331 := ⟨by decide +kernel, rfl⟩
theorem qL_law_331 : Dq cL_law 331 (.iconst 1) 1 332 := ⟨by decide +kernel, rfl⟩
theorem qL_law_332 : Dq cL_law 332 (.iadd) 1 333 := ⟨by decide +kernel, rfl⟩
theorem qL_law_333 : Dq cL_law 333 (.iaload) 1 334 := ⟨by decide +kernel, rfl⟩
theorem qL_law_334 : Dq cL_law 334 (.invokevirtual 31) 3 337 := ⟨by decide +kernel, rfl⟩
theorem qL_law_337 : Dq cL_law 337 (.aload_n 2) 1 338 := ⟨by decide +kernel, rfl⟩
theorem qL_law_338 : Dq cL_law 338 (.aload_n 0) 1 339 := ⟨by decide +kernel, rfl⟩
theorem qL_law_339 : Dq cL_law 339 (.iload_n 3) 1 340 := ⟨by decide +kernel, rfl⟩
theorem qL_law_340 : Dq cL_law 340 (.iconst 1) 1 341 := ⟨by decide +kernel, rfl⟩
theorem qL_law_341 : Dq cL_law 341 (.iadd) 1 342 := ⟨by decide +kernel, rfl⟩
theorem qL_law_342 : Dq cL_law 342 (.iaload) 1 343 := ⟨by decide +kernel, rfl⟩
theorem qL_law_343 : Dq cL_law 343 (.invokevirtual 35) 3 346 := ⟨by decide +kernel, rfl⟩
theorem qL_law_346 : Dq cL_law 346 (.if_icmp .eq 789) 3 349 := ⟨by decide +kernel, rfl⟩
set_option maxRecDepth 100000 in
set_option maxHeartbeats 4000000 in
theorem law_04 {X : Cx} {G : Glb} {L : Nat} {xsc : Nat → Int32} {Q : State → Prop} (hl : LwX X G L xsc) {h : AHp} {E : Sst} {i c : Nat} (hi : i + 6 ≤ L) (hc64 : c < 64) (hI : LwI h E c) (kk : ∀ h' E', LwI h' E' (c + 1) → V X G 4 (58 + 6 * (c + 1)) (4289 + 6 * (c + 1)) Q 1135 [some (.ref 1000000), some (.ref 0), some (.ref 38), some (.int (nI i))] [] h') : V X G 4 (58 + 6 * c) (4289 + 6 * c) Q 328 [some (.ref 1000000), some (.ref 0), some (.ref 38), some (.int (nI i))] [] h := by
  obtain ⟨hc, hm, hN⟩ := hI
  obtain ⟨hX, hR, -⟩ := id hl
  refine v_aload_n hX rfl qL_law_328 ?_
  refine v_aload_n hX rfl qL_law_329 ?_
  refine v_iload_n hX rfl qL_law_330 ?_
  refine v_iconst hX li_1 qL_law_331 ?_
  refine v_iadd hX qL_law_332 ?_
  refine hl.sld (j := i + 1) (nI_add i 1) (by omega) qL_law_333 ?_
  refine v_callVL hX hR k_L_31 (hc.1.kd 0 rfl) (c_feed (by exact hc) _) rfl (Nat.le_of_ble_eq_true rfl) rfl (Nat.le_of_ble_eq_true rfl) ⟨by omega, by omega⟩ qL_law_334 ?_
  rintro _ _ ⟨rfl, σ, rfl, hc1, k1⟩
  have hm1 := hm.k38 k1
  have hN1 : hpN (σ, h.2) ≤ 58 + 6 * c := hN
  refine v_aload_n hX rfl qL_law_337 ?_
  refine v_aload_n hX rfl qL_law_338 ?_
  refine v_iload_n hX rfl qL_law_339 ?_
  refine v_iconst hX li_1 qL_law_340 ?_
  refine v_iadd hX qL_law_341 ?_
  refine hl.sld (j := i + 1) (nI_add i 1) (by omega) qL_law_342 ?_
  refine v_callVL hX hR k_L_35 (hm1.1.kd 38 rfl) (m_feed (by exact hm1) _) rfl (Nat.le_of_ble_eq_true rfl) rfl (Nat.le_of_ble_eq_true rfl) ⟨by omega, by omega⟩ qL_law_343 ?_
  rintro _ _ ⟨rfl, σ2, J2, rfl, hm2, k2⟩
  have hc2 := hc1.k58 hm1.1 k2
  have hN2 := hN1
  refine v_icmp_eq hX 1135 qL_law_346 rfl (fun q346 => ?_) (fun q346 => ?_)
  · skip
    refine v_widen (k' := 58 + 6 * (c + 1)) (n' := 4289 + 6 * (c + 1)) (by omega) (by omega) ?_
    exact kk _ _ (LwI.nx hc2 hm2 (Nat.le_trans hN2 (by omega)))
  · exact absurd rfl q346
theorem qL_law_351 : Dq cL_law 351 (.aload_n 1) 1 352 := ⟨by decide +kernel, rfl⟩
theorem qL_law_352 : Dq cL_law 352 (.invokevirtual 36) 3 355 := ⟨by decide +kernel, rfl⟩
theorem qL_law_355 : Dq cL_law 355 (.aload_n 2) 1 356 := ⟨by decide +kernel, rfl⟩
theorem qL_law_356 : Dq cL_law 356 (.invokevirtual 40) 3 359 := ⟨by decide +kernel, rfl⟩
theorem qL_law_359 : Dq cL_law 359 (.if_icmp .eq 776) 3 362 := ⟨by decide +kernel, rfl⟩
set_option maxRecDepth 100000 in
set_option maxHeartbeats 4000000 in
theorem law_05 {X : Cx} {G : Glb} {L : Nat} {xsc : Nat → Int32} {Q : State → Prop} (hl : LwX X G L xsc) {h : AHp} {E : Sst} {i c : Nat} (hi : i + 6 ≤ L) (hc64 : c < 64) (hI : LwI h E c) (kk : ∀ h' E', LwI h' E' (c + 1) → V X G 4 (58 + 6 * (c + 1)) (4289 + 6 * (c + 1)) Q 1135 [some (.ref 1000000), some (.ref 0), some (.ref 38), some (.int (nI i))] [] h') : V X G 4 (58 + 6 * c) (4289 + 6 * c) Q 351 [some (.ref 1000000), some (.ref 0), some (.ref 38), some (.int (nI i))] [] h := by
  obtain ⟨hc, hm, hN⟩ := hI
  obtain ⟨hX, hR, -⟩ := id hl
  refine v_aload_n hX rfl qL_law_351 ?_
  refine v_callVL hX hR k_L_36 (hc.1.kd 0 rfl) (c_text (by exact hc) (by exact (hst G))) rfl (Nat.le_of_ble_eq_true rfl) rfl (Nat.le_of_ble_eq_true rfl) ⟨by omega, by omega⟩ qL_law_352 ?_
  rintro _ _ ⟨rfl, σ, rfl, hc1, k1⟩
  have hm1 := hm.k38 k1
  have hN1 : hpN (σ, h.2) ≤ 58 + 6 * c := hN
  refine v_aload_n hX rfl qL_law_355 ?_
  refine v_callVL hX hR k_L_40 (hm1.1.kd 38 rfl) (m_text (by exact hm1)) rfl (Nat.le_of_ble_eq_true rfl) rfl (Nat.le_of_ble_eq_true rfl) ⟨by omega, by omega⟩ qL_law_356 ?_
  rintro _ _ ⟨rfl, σ2, J2, rfl, hm2, k2⟩
  have hc2 := hc1.k58 hm1.1 k2
  have hN2 := hN1
  refine v_icmp_eq hX 1135 qL_law_359 rfl (fun q359 => ?_) (fun q359 => ?_)
  · skip
    refine v_widen (k' := 58 + 6 * (c + 1)) (n' := 4289 + 6 * (c + 1)) (by omega) (by omega) ?_
    exact kk _ _ (LwI.nx hc2 hm2 (Nat.le_trans hN2 (by omega)))
  · exact absurd rfl q359
theorem qL_law_364 : Dq cL_law 364 (.aload_n 1) 1 365 := ⟨by decide +kernel, rfl⟩
theorem qL_law_365 : Dq cL_law 365 (.aload_n 0) 1 366 := ⟨by decide +kernel, rfl⟩
theorem qL_law_366 : Dq cL_law 366 (.iload_n 3) 1 367 := ⟨by decide +kernel, rfl⟩
theorem qL_law_367 : Dq cL_law 367 (.iconst 1) 1 368 := ⟨by decide +kernel, rfl⟩
theorem qL_law_368 : Dq cL_law 368 (.iadd) 1 369 := ⟨by decide +kernel, rfl⟩
theorem qL_law_369 : Dq cL_law 369 (.iaload) 1 370 := ⟨by decide +kernel, rfl⟩
theorem qL_law_370 : Dq cL_law 370 (.invokevirtual 41) 3 373 := ⟨by decide +kernel, rfl⟩
theorem qL_law_373 : Dq cL_law 373 (.aload_n 2) 1 374 := ⟨by decide +kernel, rfl⟩
theorem qL_law_374 : Dq cL_law 374 (.aload_n 0) 1 375 := ⟨by decide +kernel, rfl⟩
theorem qL_law_375 : Dq cL_law 375 (.iload_n 3) 1 376 := ⟨by decide +kernel, rfl⟩
theorem qL_law_376 : Dq cL_law 376 (.iconst 1) 1 377 := ⟨by decide +kernel, rfl⟩
theorem qL_law_377 : Dq cL_law 377 (.iadd) 1 378 := ⟨by decide +kernel, rfl⟩
theorem qL_law_378 : Dq cL_law 378 (.iaload) 1 379 := ⟨by decide +kernel, rfl⟩
theorem qL_law_379 : Dq cL_law 379 (.invokevirtual 44) 3 382 := ⟨by decide +kernel, rfl⟩
theorem qL_law_382 : Dq cL_law 382 (.if_icmp .eq 753) 3 385 := ⟨by decide +kernel, rfl⟩
set_option maxRecDepth 100000 in
set_option maxHeartbeats 4000000 in
theorem law_06 {X : Cx} {G : Glb} {L : Nat} {xsc : Nat → Int32} {Q : State → Prop} (hl : LwX X G L xsc) {h : AHp} {E : Sst} {i c : Nat} (hi : i + 6 ≤ L) (hc64 : c < 64) (hI : LwI h E c) (kk : ∀ h' E', LwI h' E' (c + 1) → V X G 4 (58 + 6 * (c + 1)) (4289 + 6 * (c + 1)) Q 1135 [some (.ref 1000000), some (.ref 0), some (.ref 38), some (.int (nI i))] [] h') : V X G 4 (58 + 6 * c) (4289 + 6 * c) Q 364 [some (.ref 1000000), some (.ref 0), some (.ref 38), some (.int (nI i))] [] h := by
  obtain ⟨hc, hm, hN⟩ := hI
  obtain ⟨hX, hR, -⟩ := id hl
  refine v_aload_n hX rfl qL_law_364 ?_
  refine v_aload_n hX rfl qL_law_365 ?_
  refine v_iload_n hX rfl qL_law_366 ?_
  refine v_iconst hX li_1 qL_law_367 ?_
  refine v_iadd hX qL_law_368 ?_
  refine hl.sld (j := i + 1) (nI_add i 1) (by omega) qL_law_369 ?_
  refine v_callVL hX hR k_L_41 (hc.1.kd 0 rfl) (c_force (by exact hc) _) rfl (Nat.le_of_ble_eq_true rfl) rfl (Nat.le_of_ble_eq_true rfl) ⟨by omega, by omega⟩ qL_law_370 ?_
  rintro _ _ ⟨rfl, σ, rfl, hc1, k1⟩
  have hm1 := hm.k38 k1
  have hN1 : hpN (σ, h.2) ≤ 58 + 6 * c := hN
  refine v_aload_n hX rfl qL_law_373 ?_
  refine v_aload_n hX rfl qL_law_374 ?_
  refine v_iload_n hX rfl qL_law_375 ?_
  refine v_iconst hX li_1 qL_law_376 ?_
  refine v_iadd hX qL_law_377 ?_
  refine hl.sld (j := i + 1) (nI_add i 1) (by omega) qL_law_378 ?_
  refine v_callVL hX hR k_L_44 (hm1.1.kd 38 rfl) (m_force (by exact hm1) _) rfl (Nat.le_of_ble_eq_true rfl) rfl (Nat.le_of_ble_eq_true rfl) ⟨by omega, by omega⟩ qL_law_379 ?_
  rintro _ _ ⟨rfl, σ2, J2, rfl, hm2, k2⟩
  have hc2 := hc1.k58 hm1.1 k2
  have hN2 := hN1
  refine v_icmp_eq hX 1135 qL_law_382 rfl (fun q382 => ?_) (fun q382 => ?_)
  · skip
    refine v_widen (k' := 58 + 6 * (c + 1)) (n' := 4289 + 6 * (c + 1)) (by omega) (by omega) ?_
    exact kk _ _ (LwI.nx hc2 hm2 (Nat.le_trans hN2 (by omega)))
  · exact absurd rfl q382
theorem qL_law_387 : Dq cL_law 387 (.aload_n 1) 1 388 := ⟨by decide +kernel, rfl⟩
theorem qL_law_388 : Dq cL_law 388 (.aload_n 0) 1 389 := ⟨by decide +kernel, rfl⟩
theorem qL_law_389 : Dq cL_law 389 (.iload_n 3) 1 390 := ⟨by decide +kernel, rfl⟩
theorem qL_law_390 : Dq cL_law 390 (.iconst 1) 1 391 := ⟨by decide +kernel, rfl⟩
theorem qL_law_391 : Dq cL_law 391 (.iadd) 1 392 := ⟨by decide +kernel, rfl⟩
theorem qL_law_392 : Dq cL_law 392 (.iaload) 1 393 := ⟨by decide +kernel, rfl⟩
theorem qL_law_393 : Dq cL_law 393 (.aload_n 0) 1 394 := ⟨by decide +kernel, rfl⟩
theorem qL_law_394 : Dq cL_law 394 (.iload_n 3) 1 395 := ⟨by decide +kernel, rfl⟩
theorem qL_law_395 : Dq cL_law 395 (.iconst 2) 1 396 := ⟨by decide +kernel, rfl⟩
theorem qL_law_396 : Dq cL_law 396 (.iadd) 1 397 := ⟨by decide +kernel, rfl⟩
theorem qL_law_397 : Dq cL_law 397 (.iaload) 1 398 := ⟨by decide +kernel, rfl⟩
theorem qL_law_398 : Dq cL_law 398 (.invokevirtual 45) 3 401 := ⟨by decide +kernel, rfl⟩
theorem qL_law_401 : Dq cL_law 401 (.aload_n 2) 1 402 := ⟨by decide +kernel, rfl⟩
theorem qL_law_402 : Dq cL_law 402 (.aload_n 0) 1 403 := ⟨by decide +kernel, rfl⟩
theorem qL_law_403 : Dq cL_law 403 (.iload_n 3) 1 404 := ⟨by decide +kernel, rfl⟩
theorem qL_law_404 : Dq cL_law 404 (.iconst 1) 1 405 := ⟨by decide +kernel, rfl⟩
theorem qL_law_405 : Dq cL_law 405 (.iadd) 1 406 := ⟨by decide +kernel, rfl⟩
theorem qL_law_406 : Dq cL_law 406 (.iaload) 1 407 := ⟨by decide +kernel, rfl⟩
theorem qL_law_407 : Dq cL_law 407 (.aload_n 0) 1 408 := ⟨by decide +kernel, rfl⟩
theorem qL_law_408 : Dq cL_law 408 (.iload_n 3) 1 409 := ⟨by decide +kernel, rfl⟩
theorem qL_law_409 : Dq cL_law 409 (.iconst 2) 1 410 := ⟨by decide +kernel, rfl⟩
theorem qL_law_410 : Dq cL_law 410 (.iadd) 1 411 := ⟨by decide +kernel, rfl⟩
theorem qL_law_411 : Dq cL_law 411 (.iaload) 1 412 := ⟨by decide +kernel, rfl⟩
theorem qL_law_412 : Dq cL_law 412 (.invokevirtual 48) 3 415 := ⟨by decide +kernel, rfl⟩
theorem qL_law_415 : Dq cL_law 415 (.if_icmp .eq 720) 3 418 := ⟨by decide +kernel, rfl⟩
set_option maxRecDepth 100000 in
set_option maxHeartbeats 4000000 in
theorem law_07 {X : Cx} {G : Glb} {L : Nat} {xsc : Nat → Int32} {Q : State → Prop} (hl : LwX X G L xsc) {h : AHp} {E : Sst} {i c : Nat} (hi : i + 6 ≤ L) (hc64 : c < 64) (hI : LwI h E c) (kk : ∀ h' E', LwI h' E' (c + 1) → V X G 4 (58 + 6 * (c + 1)) (4289 + 6 * (c + 1)) Q 1135 [some (.ref 1000000), some (.ref 0), some (.ref 38), some (.int (nI i))] [] h') : V X G 4 (58 + 6 * c) (4289 + 6 * c) Q 387 [some (.ref 1000000), some (.ref 0), some (.ref 38), some (.int (nI i))] [] h := by
  obtain ⟨hc, hm, hN⟩ := hI
  obtain ⟨hX, hR, -⟩ := id hl
  refine v_aload_n hX rfl qL_law_387 ?_
  refine v_aload_n hX rfl qL_law_388 ?_
  refine v_iload_n hX rfl qL_law_389 ?_
  refine v_iconst hX li_1 qL_law_390 ?_
  refine v_iadd hX qL_law_391 ?_
  refine hl.sld (j := i + 1) (nI_add i 1) (by omega) qL_law_392 ?_
  refine v_aload_n hX rfl qL_law_393 ?_
  refine v_iload_n hX rfl qL_law_394 ?_
  refine v_iconst hX li_2 qL_law_395 ?_
  refine v_iadd hX qL_law_396 ?_
  refine hl.sld (j := i + 2) (nI_add i 2) (by omega) qL_law_397 ?_
  refine v_callVL hX hR k_L_45 (hc.1.kd 0 rfl) (c_look (by exact hc) _ _) rfl (Nat.le_of_ble_eq_true rfl) rfl (Nat.le_of_ble_eq_true rfl) ⟨by omega, by omega⟩ qL_law_398 ?_
  rintro _ _ ⟨rfl, σ, rfl, hc1, k1⟩
  have hm1 := hm.k38 k1
  have hN1 : hpN (σ, h.2) ≤ 58 + 6 * c := hN
  refine v_aload_n hX rfl qL_law_401 ?_
  refine v_aload_n hX rfl qL_law_402 ?_
  refine v_iload_n hX rfl qL_law_403 ?_
  refine v_iconst hX li_1 qL_law_404 ?_
  refine v_iadd hX qL_law_405 ?_
  refine hl.sld (j := i + 1) (nI_add i 1) (by omega) qL_law_406 ?_
  refine v_aload_n hX rfl qL_law_407 ?_
  refine v_iload_n hX rfl qL_law_408 ?_
  refine v_iconst hX li_2 qL_law_409 ?_
  refine v_iadd hX qL_law_410 ?_
  refine hl.sld (j := i + 2) (nI_add i 2) (by omega) qL_law_411 ?_
  refine v_callVL hX hR k_L_48 (hm1.1.kd 38 rfl) (m_look (by exact hm1) _ _) rfl (Nat.le_of_ble_eq_true rfl) rfl (Nat.le_of_ble_eq_true rfl) ⟨by omega, by omega⟩ qL_law_412 ?_
  rintro _ _ ⟨rfl, σ2, J2, rfl, hm2, k2⟩
  have hc2 := hc1.k58 hm1.1 k2
  have hN2 := hN1
  refine v_icmp_eq hX 1135 qL_law_415 rfl (fun q415 => ?_) (fun q415 => ?_)
  · skip
    refine v_widen (k' := 58 + 6 * (c + 1)) (n' := 4289 + 6 * (c + 1)) (by omega) (by omega) ?_
    exact kk _ _ (LwI.nx hc2 hm2 (Nat.le_trans hN2 (by omega)))
  · exact absurd rfl q415
theorem qL_law_420 : Dq cL_law 420 (.aload_n 1) 1 421 := ⟨by decide +kernel, rfl⟩
theorem qL_law_421 : Dq cL_law 421 (.aload_n 0) 1 422 := ⟨by decide +kernel, rfl⟩
theorem qL_law_422 : Dq cL_law 422 (.iload_n 3) 1 423 := ⟨by decide +kernel, rfl⟩
theorem qL_law_423 : Dq cL_law 423 (.iconst 1) 1 424 := ⟨by decide +kernel, rfl⟩
theorem qL_law_424 : Dq cL_law 424 (.iadd) 1 425 := ⟨by decide +kernel, rfl⟩
theorem qL_law_425 : Dq cL_law 425 (.iaload) 1 426 := ⟨by decide +kernel, rfl⟩
theorem qL_law_426 : Dq cL_law 426 (.invokevirtual 49) 3 429 := ⟨by decide +kernel, rfl⟩
theorem qL_law_429 : Dq cL_law 429 (.aload_n 2) 1 430 := ⟨by decide +kernel, rfl⟩
theorem qL_law_430 : Dq cL_law 430 (.aload_n 0) 1 431 := ⟨by decide +kernel, rfl⟩
theorem qL_law_431 : Dq cL_law 431 (.iload_n 3) 1 432 := ⟨by decide +kernel, rfl⟩
theorem qL_law_432 : Dq cL_law 432 (.iconst 1) 1 433 := ⟨by decide +kernel, rfl⟩
theorem qL_law_433 : Dq cL_law 433 (.iadd) 1 434 := ⟨by decide +kernel, rfl⟩
theorem qL_law_434 : Dq cL_law 434 (.iaload) 1 435 := ⟨by decide +kernel, rfl⟩
theorem qL_law_435 : Dq cL_law 435 (.invokevirtual 52) 3 438 := ⟨by decide +kernel, rfl⟩
theorem qL_law_438 : Dq cL_law 438 (.if_icmp .eq 697) 3 441 := ⟨by decide +kernel, rfl⟩
set_option maxRecDepth 100000 in
set_option maxHeartbeats 4000000 in
theorem law_08 {X : Cx} {G : Glb} {L : Nat} {xsc : Nat → Int32} {Q : State → Prop} (hl : LwX X G L xsc) {h : AHp} {E : Sst} {i c : Nat} (hi : i + 6 ≤ L) (hc64 : c < 64) (hI : LwI h E c) (kk : ∀ h' E', LwI h' E' (c + 1) → V X G 4 (58 + 6 * (c + 1)) (4289 + 6 * (c + 1)) Q 1135 [some (.ref 1000000), some (.ref 0), some (.ref 38), some (.int (nI i))] [] h') : V X G 4 (58 + 6 * c) (4289 + 6 * c) Q 420 [some (.ref 1000000), some (.ref 0), some (.ref 38), some (.int (nI i))] [] h := by
  obtain ⟨hc, hm, hN⟩ := hI
  obtain ⟨hX, hR, -⟩ := id hl
  refine v_aload_n hX rfl qL_law_420 ?_
  refine v_aload_n hX rfl qL_law_421 ?_
  refine v_iload_n hX rfl qL_law_422 ?_
  refine v_iconst hX li_1 qL_law_423 ?_
  refine v_iadd hX qL_law_424 ?_
  refine hl.sld (j := i + 1) (nI_add i 1) (by omega) qL_law_425 ?_
  refine v_callVL hX hR k_L_49 (hc.1.kd 0 rfl) (c_next (by exact hc) _) rfl (Nat.le_of_ble_eq_true rfl) rfl (Nat.le_of_ble_eq_true rfl) ⟨by omega, by omega⟩ qL_law_426 ?_
  rintro _ _ ⟨rfl, σ, rfl, hc1, k1⟩
  have hm1 := hm.k38 k1
  have hN1 : hpN (σ, h.2) ≤ 58 + 6 * c := hN
  refine v_aload_n hX rfl qL_law_429 ?_
  refine v_aload_n hX rfl qL_law_430 ?_
  refine v_iload_n hX rfl qL_law_431 ?_
  refine v_iconst hX li_1 qL_law_432 ?_
  refine v_iadd hX qL_law_433 ?_
  refine hl.sld (j := i + 1) (nI_add i 1) (by omega) qL_law_434 ?_
  refine v_callVL hX hR k_L_52 (hm1.1.kd 38 rfl) (m_next (by exact hm1) _) rfl (Nat.le_of_ble_eq_true rfl) rfl (Nat.le_of_ble_eq_true rfl) ⟨by omega, by omega⟩ qL_law_435 ?_
  rintro _ _ ⟨rfl, σ2, J2, rfl, hm2, k2⟩
  have hc2 := hc1.k58 hm1.1 k2
  have hN2 := hN1
  refine v_icmp_eq hX 1135 qL_law_438 rfl (fun q438 => ?_) (fun q438 => ?_)
  · skip
    refine v_widen (k' := 58 + 6 * (c + 1)) (n' := 4289 + 6 * (c + 1)) (by omega) (by omega) ?_
    exact kk _ _ (LwI.nx hc2 hm2 (Nat.le_trans hN2 (by omega)))
  · exact absurd rfl q438
theorem qL_law_443 : Dq cL_law 443 (.aload_n 1) 1 444 := ⟨by decide +kernel, rfl⟩
theorem qL_law_444 : Dq cL_law 444 (.aload_n 0) 1 445 := ⟨by decide +kernel, rfl⟩
theorem qL_law_445 : Dq cL_law 445 (.iload_n 3) 1 446 := ⟨by decide +kernel, rfl⟩
theorem qL_law_446 : Dq cL_law 446 (.iconst 1) 1 447 := ⟨by decide +kernel, rfl⟩
theorem qL_law_447 : Dq cL_law 447 (.iadd) 1 448 := ⟨by decide +kernel, rfl⟩
theorem qL_law_448 : Dq cL_law 448 (.iaload) 1 449 := ⟨by decide +kernel, rfl⟩
theorem qL_law_449 : Dq cL_law 449 (.aload_n 0) 1 450 := ⟨by decide +kernel, rfl⟩
theorem qL_law_450 : Dq cL_law 450 (.iload_n 3) 1 451 := ⟨by decide +kernel, rfl⟩
theorem qL_law_451 : Dq cL_law 451 (.iconst 2) 1 452 := ⟨by decide +kernel, rfl⟩
theorem qL_law_452 : Dq cL_law 452 (.iadd) 1 453 := ⟨by decide +kernel, rfl⟩
theorem qL_law_453 : Dq cL_law 453 (.iaload) 1 454 := ⟨by decide +kernel, rfl⟩
theorem qL_law_454 : Dq cL_law 454 (.invokevirtual 53) 3 457 := ⟨by decide +kernel, rfl⟩
theorem qL_law_457 : Dq cL_law 457 (.aload_n 2) 1 458 := ⟨by decide +kernel, rfl⟩
theorem qL_law_458 : Dq cL_law 458 (.aload_n 0) 1 459 := ⟨by decide +kernel, rfl⟩
theorem qL_law_459 : Dq cL_law 459 (.iload_n 3) 1 460 := ⟨by decide +kernel, rfl⟩
theorem qL_law_460 : Dq cL_law 460 (.iconst 1) 1 461 := ⟨by decide +kernel, rfl⟩
theorem qL_law_461 : Dq cL_law 461 (.iadd) 1 462 := ⟨by decide +kernel, rfl⟩
theorem qL_law_462 : Dq cL_law 462 (.iaload) 1 463 := ⟨by decide +kernel, rfl⟩
theorem qL_law_463 : Dq cL_law 463 (.aload_n 0) 1 464 := ⟨by decide +kernel, rfl⟩
theorem qL_law_464 : Dq cL_law 464 (.iload_n 3) 1 465 := ⟨by decide +kernel, rfl⟩
theorem qL_law_465 : Dq cL_law 465 (.iconst 2) 1 466 := ⟨by decide +kernel, rfl⟩
theorem qL_law_466 : Dq cL_law 466 (.iadd) 1 467 := ⟨by decide +kernel, rfl⟩
theorem qL_law_467 : Dq cL_law 467 (.iaload) 1 468 := ⟨by decide +kernel, rfl⟩
theorem qL_law_468 : Dq cL_law 468 (.invokevirtual 56) 3 471 := ⟨by decide +kernel, rfl⟩
theorem qL_law_471 : Dq cL_law 471 (.if_icmp .eq 664) 3 474 := ⟨by decide +kernel, rfl⟩
set_option maxRecDepth 100000 in
set_option maxHeartbeats 4000000 in
theorem law_09 {X : Cx} {G : Glb} {L : Nat} {xsc : Nat → Int32} {Q : State → Prop} (hl : LwX X G L xsc) {h : AHp} {E : Sst} {i c : Nat} (hi : i + 6 ≤ L) (hc64 : c < 64) (hI : LwI h E c) (kk : ∀ h' E', LwI h' E' (c + 1) → V X G 4 (58 + 6 * (c + 1)) (4289 + 6 * (c + 1)) Q 1135 [some (.ref 1000000), some (.ref 0), some (.ref 38), some (.int (nI i))] [] h') : V X G 4 (58 + 6 * c) (4289 + 6 * c) Q 443 [some (.ref 1000000), some (.ref 0), some (.ref 38), some (.int (nI i))] [] h := by
  obtain ⟨hc, hm, hN⟩ := hI
  obtain ⟨hX, hR, -⟩ := id hl
  refine v_aload_n hX rfl qL_law_443 ?_
  refine v_aload_n hX rfl qL_law_444 ?_
  refine v_iload_n hX rfl qL_law_445 ?_
  refine v_iconst hX li_1 qL_law_446 ?_
  refine v_iadd hX qL_law_447 ?_
  refine hl.sld (j := i + 1) (nI_add i 1) (by omega) qL_law_448 ?_
  refine v_aload_n hX rfl qL_law_449 ?_
  refine v_iload_n hX rfl qL_law_450 ?_
  refine v_iconst hX li_2 qL_law_451 ?_
  refine v_iadd hX qL_law_452 ?_
  refine hl.sld (j := i + 2) (nI_add i 2) (by omega) qL_law_453 ?_
  refine v_callVL hX hR k_L_53 (hc.1.kd 0 rfl) (c_plan (by exact hc) _ _) rfl (Nat.le_of_ble_eq_true rfl) rfl (Nat.le_of_ble_eq_true rfl) ⟨by omega, by omega⟩ qL_law_454 ?_
  rintro _ _ ⟨rfl, σ, rfl, hc1, k1⟩
  have hm1 := hm.k38 k1
  have hN1 : hpN (σ, h.2) ≤ 58 + 6 * c := hN
  refine v_aload_n hX rfl qL_law_457 ?_
  refine v_aload_n hX rfl qL_law_458 ?_
  refine v_iload_n hX rfl qL_law_459 ?_
  refine v_iconst hX li_1 qL_law_460 ?_
  refine v_iadd hX qL_law_461 ?_
  refine hl.sld (j := i + 1) (nI_add i 1) (by omega) qL_law_462 ?_
  refine v_aload_n hX rfl qL_law_463 ?_
  refine v_iload_n hX rfl qL_law_464 ?_
  refine v_iconst hX li_2 qL_law_465 ?_
  refine v_iadd hX qL_law_466 ?_
  refine hl.sld (j := i + 2) (nI_add i 2) (by omega) qL_law_467 ?_
  refine v_callVL hX hR k_L_56 (hm1.1.kd 38 rfl) (m_plan (by exact hm1) _ _) rfl (Nat.le_of_ble_eq_true rfl) rfl (Nat.le_of_ble_eq_true rfl) ⟨by omega, by omega⟩ qL_law_468 ?_
  rintro _ _ ⟨rfl, σ2, J2, rfl, hm2, k2⟩
  have hc2 := hc1.k58 hm1.1 k2
  have hN2 := hN1
  refine v_icmp_eq hX 1135 qL_law_471 rfl (fun q471 => ?_) (fun q471 => ?_)
  · skip
    refine v_widen (k' := 58 + 6 * (c + 1)) (n' := 4289 + 6 * (c + 1)) (by omega) (by omega) ?_
    exact kk _ _ (LwI.nx hc2 hm2 (Nat.le_trans hN2 (by omega)))
  · exact absurd rfl q471
theorem qL_law_476 : Dq cL_law 476 (.aload_n 1) 1 477 := ⟨by decide +kernel, rfl⟩
theorem qL_law_477 : Dq cL_law 477 (.aload_n 0) 1 478 := ⟨by decide +kernel, rfl⟩
theorem qL_law_478 : Dq cL_law 478 (.iload_n 3) 1 479 := ⟨by decide +kernel, rfl⟩
theorem qL_law_479 : Dq cL_law 479 (.iconst 1) 1 480 := ⟨by decide +kernel, rfl⟩
theorem qL_law_480 : Dq cL_law 480 (.iadd) 1 481 := ⟨by decide +kernel, rfl⟩
theorem qL_law_481 : Dq cL_law 481 (.iaload) 1 482 := ⟨by decide +kernel, rfl⟩
theorem qL_law_482 : Dq cL_law 482 (.invokevirtual 57) 3 485 := ⟨by decide +kernel, rfl⟩
theorem qL_law_485 : Dq cL_law 485 (.aload_n 2) 1 486 := ⟨by decide +kernel, rfl⟩
theorem qL_law_486 : Dq cL_law 486 (.aload_n 0) 1 487 := ⟨by decide +kernel, rfl⟩
theorem qL_law_487 : Dq cL_law 487 (.iload_n 3) 1 488 := ⟨by decide +kernel, rfl⟩
theorem qL_law_488 : Dq cL_law 488 (.iconst 1) 1 489 := ⟨by decide +kernel, rfl⟩
theorem qL_law_489 : Dq cL_law 489 (.iadd) 1 490 := ⟨by decide +kernel, rfl⟩
theorem qL_law_490 : Dq cL_law 490 (.iaload) 1 491 := ⟨by decide +kernel, rfl⟩
theorem qL_law_491 : Dq cL_law 491 (.invokevirtual 60) 3 494 := ⟨by decide +kernel, rfl⟩
theorem qL_law_494 : Dq cL_law 494 (.if_icmp .eq 641) 3 497 := ⟨by decide +kernel, rfl⟩
set_option maxRecDepth 100000 in
set_option maxHeartbeats 4000000 in
theorem law_10 {X : Cx} {G : Glb} {L : Nat} {xsc : Nat → Int32} {Q : State → Prop} (hl : LwX X G L xsc) {h : AHp} {E : Sst} {i c : Nat} (hi : i + 6 ≤ L) (hc64 : c < 64) (hI : LwI h E c) (kk : ∀ h' E', LwI h' E' (c + 1) → V X G 4 (58 + 6 * (c + 1)) (4289 + 6 * (c + 1)) Q 1135 [some (.ref 1000000), some (.ref 0), some (.ref 38), some (.int (nI i))] [] h') : V X G 4 (58 + 6 * c) (4289 + 6 * c) Q 476 [some (.ref 1000000), some (.ref 0), some (.ref 38), some (.int (nI i))] [] h := by
  obtain ⟨hc, hm, hN⟩ := hI
  obtain ⟨hX, hR, -⟩ := id hl
  refine v_aload_n hX rfl qL_law_476 ?_
  refine v_aload_n hX rfl qL_law_477 ?_
  refine v_iload_n hX rfl qL_law_478 ?_
  refine v_iconst hX li_1 qL_law_479 ?_
  refine v_iadd hX qL_law_480 ?_
  refine hl.sld (j := i + 1) (nI_add i 1) (by omega) qL_law_481 ?_
  refine v_callVL hX hR k_L_57 (hc.1.kd 0 rfl) (c_planned (by exact hc) _) rfl (Nat.le_of_ble_eq_true rfl) rfl (Nat.le_of_ble_eq_true rfl) ⟨by omega, by omega⟩ qL_law_482 ?_
  rintro _ _ ⟨rfl, σ, rfl, hc1, k1⟩
  have hm1 := hm.k38 k1
  have hN1 : hpN (σ, h.2) ≤ 58 + 6 * c := hN
  refine v_aload_n hX rfl qL_law_485 ?_
  refine v_aload_n hX rfl qL_law_486 ?_
  refine v_iload_n hX rfl qL_law_487 ?_
  refine v_iconst hX li_1 qL_law_488 ?_
  refine v_iadd hX qL_law_489 ?_
  refine hl.sld (j := i + 1) (nI_add i 1) (by omega) qL_law_490 ?_
  refine v_callVL hX hR k_L_60 (hm1.1.kd 38 rfl) (m_planned (by exact hm1) _) rfl (Nat.le_of_ble_eq_true rfl) rfl (Nat.le_of_ble_eq_true rfl) ⟨by omega, by omega⟩ qL_law_491 ?_
  rintro _ _ ⟨rfl, σ2, J2, rfl, hm2, k2⟩
  have hc2 := hc1.k58 hm1.1 k2
  have hN2 := hN1
  refine v_icmp_eq hX 1135 qL_law_494 rfl (fun q494 => ?_) (fun q494 => ?_)
  · skip
    refine v_widen (k' := 58 + 6 * (c + 1)) (n' := 4289 + 6 * (c + 1)) (by omega) (by omega) ?_
    exact kk _ _ (LwI.nx hc2 hm2 (Nat.le_trans hN2 (by omega)))
  · exact absurd rfl q494
theorem qL_law_499 : Dq cL_law 499 (.aload_n 1) 1 500 := ⟨by decide +kernel, rfl⟩
theorem qL_law_500 : Dq cL_law 500 (.invokevirtual 61) 3 503 := ⟨by decide +kernel, rfl⟩
theorem qL_law_503 : Dq cL_law 503 (.aload_n 2) 1 504 := ⟨by decide +kernel, rfl⟩
theorem qL_law_504 : Dq cL_law 504 (.invokevirtual 64) 3 507 := ⟨by decide +kernel, rfl⟩
theorem qL_law_507 : Dq cL_law 507 (.if_icmp .eq 628) 3 510 := ⟨by decide +kernel, rfl⟩
set_option maxRecDepth 100000 in
set_option maxHeartbeats 4000000 in
theorem law_11 {X : Cx} {G : Glb} {L : Nat} {xsc : Nat → Int32} {Q : State → Prop} (hl : LwX X G L xsc) {h : AHp} {E : Sst} {i c : Nat} (hi : i + 6 ≤ L) (hc64 : c < 64) (hI : LwI h E c) (kk : ∀ h' E', LwI h' E' (c + 1) → V X G 4 (58 + 6 * (c + 1)) (4289 + 6 * (c + 1)) Q 1135 [some (.ref 1000000), some (.ref 0), some (.ref 38), some (.int (nI i))] [] h') : V X G 4 (58 + 6 * c) (4289 + 6 * c) Q 499 [some (.ref 1000000), some (.ref 0), some (.ref 38), some (.int (nI i))] [] h := by
  obtain ⟨hc, hm, hN⟩ := hI
  obtain ⟨hX, hR, -⟩ := id hl
  refine v_aload_n hX rfl qL_law_499 ?_
  refine v_callVL hX hR k_L_61 (hc.1.kd 0 rfl) (c_search (by exact hc)) rfl (Nat.le_of_ble_eq_true rfl) rfl (Nat.le_of_ble_eq_true rfl) ⟨by omega, by omega⟩ qL_law_500 ?_
  rintro _ _ ⟨rfl, σ, rfl, hc1, k1⟩
  have hm1 := hm.k38 k1
  have hN1 : hpN (σ, h.2) ≤ 58 + 6 * c := hN
  refine v_aload_n hX rfl qL_law_503 ?_
  refine v_callVL hX hR k_L_64 (hm1.1.kd 38 rfl) (m_search (by exact hm1)) rfl (Nat.le_of_ble_eq_true rfl) rfl (Nat.le_of_ble_eq_true rfl) ⟨by omega, by omega⟩ qL_law_504 ?_
  rintro _ _ ⟨rfl, σ2, J2, rfl, hm2, k2⟩
  have hc2 := hc1.k58 hm1.1 k2
  have hN2 := hN1
  refine v_icmp_eq hX 1135 qL_law_507 rfl (fun q507 => ?_) (fun q507 => ?_)
  · skip
    refine v_widen (k' := 58 + 6 * (c + 1)) (n' := 4289 + 6 * (c + 1)) (by omega) (by omega) ?_
    exact kk _ _ (LwI.nx hc2 hm2 (Nat.le_trans hN2 (by omega)))
  · exact absurd rfl q507
theorem qL_law_512 : Dq cL_law 512 (.aload_n 1) 1 513 := ⟨by decide +kernel, rfl⟩
theorem qL_law_513 : Dq cL_law 513 (.aload_n 0) 1 514 := ⟨by decide +kernel, rfl⟩
theorem qL_law_514 : Dq cL_law 514 (.iload_n 3) 1 515 := ⟨by decide +kernel, rfl⟩
theorem qL_law_515 : Dq cL_law 515 (.iconst 1) 1 516 := ⟨by decide +kernel, rfl⟩
theorem qL_law_516 : Dq cL_law 516 (.iadd) 1 517 := ⟨by decide +kernel, rfl⟩
theorem qL_law_517 : Dq cL_law 517 (.iaload) 1 518 := ⟨by decide +kernel, rfl⟩
theorem qL_law_518 : Dq cL_law 518 (.invokevirtual 65) 3 521 := ⟨by decide +kernel, rfl⟩
theorem qL_law_521 : Dq cL_law 521 (.aload_n 2) 1 522 := ⟨by decide +kernel, rfl⟩
theorem qL_law_522 : Dq cL_law 522 (.aload_n 0) 1 523 := ⟨by decide +kernel, rfl⟩
theorem qL_law_523 : Dq cL_law 523 (.iload_n 3) 1 524 := ⟨by decide +kernel, rfl⟩
theorem qL_law_524 : Dq cL_law 524 (.iconst 1) 1 525 := ⟨by decide +kernel, rfl⟩
theorem qL_law_525 : Dq cL_law 525 (.iadd) 1 526 := ⟨by decide +kernel, rfl⟩
theorem qL_law_526 : Dq cL_law 526 (.iaload) 1 527 := ⟨by decide +kernel, rfl⟩
theorem qL_law_527 : Dq cL_law 527 (.invokevirtual 68) 3 530 := ⟨by decide +kernel, rfl⟩
theorem qL_law_530 : Dq cL_law 530 (.if_icmp .eq 605) 3 533 := ⟨by decide +kernel, rfl⟩
set_option maxRecDepth 100000 in
set_option maxHeartbeats 4000000 in
theorem law_12 {X : Cx} {G : Glb} {L : Nat} {xsc : Nat → Int32} {Q : State → Prop} (hl : LwX X G L xsc) {h : AHp} {E : Sst} {i c : Nat} (hi : i + 6 ≤ L) (hc64 : c < 64) (hI : LwI h E c) (kk : ∀ h' E', LwI h' E' (c + 1) → V X G 4 (58 + 6 * (c + 1)) (4289 + 6 * (c + 1)) Q 1135 [some (.ref 1000000), some (.ref 0), some (.ref 38), some (.int (nI i))] [] h') : V X G 4 (58 + 6 * c) (4289 + 6 * c) Q 512 [some (.ref 1000000), some (.ref 0), some (.ref 38), some (.int (nI i))] [] h := by
  obtain ⟨hc, hm, hN⟩ := hI
  obtain ⟨hX, hR, -⟩ := id hl
  refine v_aload_n hX rfl qL_law_512 ?_
  refine v_aload_n hX rfl qL_law_513 ?_
  refine v_iload_n hX rfl qL_law_514 ?_
  refine v_iconst hX li_1 qL_law_515 ?_
  refine v_iadd hX qL_law_516 ?_
  refine hl.sld (j := i + 1) (nI_add i 1) (by omega) qL_law_517 ?_
  refine v_callVL hX hR k_L_65 (hc.1.kd 0 rfl) (c_giveUp (by exact hc) _) rfl (Nat.le_of_ble_eq_true rfl) rfl (Nat.le_of_ble_eq_true rfl) ⟨by omega, by omega⟩ qL_law_518 ?_
  rintro _ _ ⟨rfl, σ, rfl, hc1, k1⟩
  have hm1 := hm.k38 k1
  have hN1 : hpN (σ, h.2) ≤ 58 + 6 * c := hN
  refine v_aload_n hX rfl qL_law_521 ?_
  refine v_aload_n hX rfl qL_law_522 ?_
  refine v_iload_n hX rfl qL_law_523 ?_
  refine v_iconst hX li_1 qL_law_524 ?_
  refine v_iadd hX qL_law_525 ?_
  refine hl.sld (j := i + 1) (nI_add i 1) (by omega) qL_law_526 ?_
  refine v_callVL hX hR k_L_68 (hm1.1.kd 38 rfl) (m_giveUp (by exact hm1) _) rfl (Nat.le_of_ble_eq_true rfl) rfl (Nat.le_of_ble_eq_true rfl) ⟨by omega, by omega⟩ qL_law_527 ?_
  rintro _ _ ⟨rfl, σ2, J2, rfl, hm2, k2⟩
  have hc2 := hc1.k58 hm1.1 k2
  have hN2 := hN1
  refine v_icmp_eq hX 1135 qL_law_530 rfl (fun q530 => ?_) (fun q530 => ?_)
  · skip
    refine v_widen (k' := 58 + 6 * (c + 1)) (n' := 4289 + 6 * (c + 1)) (by omega) (by omega) ?_
    exact kk _ _ (LwI.nx hc2 hm2 (Nat.le_trans hN2 (by omega)))
  · exact absurd rfl q530
theorem qL_law_535 : Dq cL_law 535 (.aload_n 1) 1 536 := ⟨by decide +kernel, rfl⟩
theorem qL_law_536 : Dq cL_law 536 (.aload_n 0) 1 537 := ⟨by decide +kernel, rfl⟩
theorem qL_law_537 : Dq cL_law 537 (.iload_n 3) 1 538 := ⟨by decide +kernel, rfl⟩
theorem qL_law_538 : Dq cL_law 538 (.iconst 1) 1 539 := ⟨by decide +kernel, rfl⟩
theorem qL_law_539 : Dq cL_law 539 (.iadd) 1 540 := ⟨by decide +kernel, rfl⟩
theorem qL_law_540 : Dq cL_law 540 (.iaload) 1 541 := ⟨by decide +kernel, rfl⟩
theorem qL_law_541 : Dq cL_law 541 (.aload_n 0) 1 542 := ⟨by decide +kernel, rfl⟩
theorem qL_law_542 : Dq cL_law 542 (.iload_n 3) 1 543 := ⟨by decide +kernel, rfl⟩
theorem qL_law_543 : Dq cL_law 543 (.iconst 2) 1 544 := ⟨by decide +kernel, rfl⟩
theorem qL_law_544 : Dq cL_law 544 (.iadd) 1 545 := ⟨by decide +kernel, rfl⟩
theorem qL_law_545 : Dq cL_law 545 (.iaload) 1 546 := ⟨by decide +kernel, rfl⟩
theorem qL_law_546 : Dq cL_law 546 (.invokevirtual 69) 3 549 := ⟨by decide +kernel, rfl⟩
theorem qL_law_549 : Dq cL_law 549 (.aload_n 2) 1 550 := ⟨by decide +kernel, rfl⟩
theorem qL_law_550 : Dq cL_law 550 (.aload_n 0) 1 551 := ⟨by decide +kernel, rfl⟩
theorem qL_law_551 : Dq cL_law 551 (.iload_n 3) 1 552 := ⟨by decide +kernel, rfl⟩
theorem qL_law_552 : Dq cL_law 552 (.iconst 1) 1 553 := ⟨by decide +kernel, rfl⟩
theorem qL_law_553 : Dq cL_law 553 (.iadd) 1 554 := ⟨by decide +kernel, rfl⟩
theorem qL_law_554 : Dq cL_law 554 (.iaload) 1 555 := ⟨by decide +kernel, rfl⟩
theorem qL_law_555 : Dq cL_law 555 (.aload_n 0) 1 556 := ⟨by decide +kernel, rfl⟩
theorem qL_law_556 : Dq cL_law 556 (.iload_n 3) 1 557 := ⟨by decide +kernel, rfl⟩
theorem qL_law_557 : Dq cL_law 557 (.iconst 2) 1 558 := ⟨by decide +kernel, rfl⟩
theorem qL_law_558 : Dq cL_law 558 (.iadd) 1 559 := ⟨by decide +kernel, rfl⟩
theorem qL_law_559 : Dq cL_law 559 (.iaload) 1 560 := ⟨by decide +kernel, rfl⟩
theorem qL_law_560 : Dq cL_law 560 (.invokevirtual 73) 3 563 := ⟨by decide +kernel, rfl⟩
theorem qL_law_563 : Dq cL_law 563 (.lcmp) 1 564 := ⟨by decide +kernel, rfl⟩
theorem qL_law_564 : Dq cL_law 564 (.ifCond .eq 571) 3 567 := ⟨by decide +kernel, rfl⟩
set_option maxRecDepth 100000 in
set_option maxHeartbeats 4000000 in
theorem law_13 {X : Cx} {G : Glb} {L : Nat} {xsc : Nat → Int32} {Q : State → Prop} (hl : LwX X G L xsc) {h : AHp} {E : Sst} {i c : Nat} (hi : i + 6 ≤ L) (hc64 : c < 64) (hI : LwI h E c) (kk : ∀ h' E', LwI h' E' (c + 1) → V X G 4 (58 + 6 * (c + 1)) (4289 + 6 * (c + 1)) Q 1135 [some (.ref 1000000), some (.ref 0), some (.ref 38), some (.int (nI i))] [] h') : V X G 4 (58 + 6 * c) (4289 + 6 * c) Q 535 [some (.ref 1000000), some (.ref 0), some (.ref 38), some (.int (nI i))] [] h := by
  obtain ⟨hc, hm, hN⟩ := hI
  obtain ⟨hX, hR, -⟩ := id hl
  refine v_aload_n hX rfl qL_law_535 ?_
  refine v_aload_n hX rfl qL_law_536 ?_
  refine v_iload_n hX rfl qL_law_537 ?_
  refine v_iconst hX li_1 qL_law_538 ?_
  refine v_iadd hX qL_law_539 ?_
  refine hl.sld (j := i + 1) (nI_add i 1) (by omega) qL_law_540 ?_
  refine v_aload_n hX rfl qL_law_541 ?_
  refine v_iload_n hX rfl qL_law_542 ?_
  refine v_iconst hX li_2 qL_law_543 ?_
  refine v_iadd hX qL_law_544 ?_
  refine hl.sld (j := i + 2) (nI_add i 2) (by omega) qL_law_545 ?_
  refine v_callVL hX hR k_L_69 (hc.1.kd 0 rfl) (c_likely (by exact hc) _ _) rfl (Nat.le_of_ble_eq_true rfl) rfl (Nat.le_of_ble_eq_true rfl) ⟨by omega, by omega⟩ qL_law_546 ?_
  rintro _ _ ⟨rfl, rfl⟩
  have hc1 := hc
  have hm1 := hm
  have hN1 := hN
  refine v_aload_n hX rfl qL_law_549 ?_
  refine v_aload_n hX rfl qL_law_550 ?_
  refine v_iload_n hX rfl qL_law_551 ?_
  refine v_iconst hX li_1 qL_law_552 ?_
  refine v_iadd hX qL_law_553 ?_
  refine hl.sld (j := i + 1) (nI_add i 1) (by omega) qL_law_554 ?_
  refine v_aload_n hX rfl qL_law_555 ?_
  refine v_iload_n hX rfl qL_law_556 ?_
  refine v_iconst hX li_2 qL_law_557 ?_
  refine v_iadd hX qL_law_558 ?_
  refine hl.sld (j := i + 2) (nI_add i 2) (by omega) qL_law_559 ?_
  refine v_callVL hX hR k_L_73 (hm1.1.kd 38 rfl) (m_likely (by exact hm1) _ _) rfl (Nat.le_of_ble_eq_true rfl) rfl (Nat.le_of_ble_eq_true rfl) ⟨by omega, by omega⟩ qL_law_560 ?_
  rintro _ _ ⟨rfl, rfl⟩
  have hc2 := hc1
  have hm2 := hm1
  have hN2 := hN1
  refine v_lcmp hX qL_law_563 ?_
  first | refine v_if_eqB hX 1135 qL_law_564 rfl (fun q564 => ?_) (fun q564 => ?_) | refine v_if_eq hX 1135 qL_law_564 rfl (fun q564 => ?_) (fun q564 => ?_)
  · skip
    refine v_widen (k' := 58 + 6 * (c + 1)) (n' := 4289 + 6 * (c + 1)) (by omega) (by omega) ?_
    exact kk _ _ (LwI.nx hc2 hm2 (Nat.le_trans hN2 (by omega)))
  · exact absurd (lcmp_rf _) q564
theorem qL_law_569 : Dq cL_law 569 (.aload_n 1) 1 570 := ⟨by decide +kernel, rfl⟩
theorem qL_law_570 : Dq cL_law 570 (.aload_n 0) 1 571 := ⟨by decide +kernel, rfl⟩
theorem qL_law_571 : Dq cL_law 571 (.iload_n 3) 1 572 := ⟨by decide +kernel, rfl⟩
theorem qL_law_572 : Dq cL_law 572 (.iconst 1) 1 573 := ⟨by decide +kernel, rfl⟩
theorem qL_law_573 : Dq cL_law 573 (.iadd) 1 574 := ⟨by decide +kernel, rfl⟩
theorem qL_law_574 : Dq cL_law 574 (.iaload) 1 575 := ⟨by decide +kernel, rfl⟩
theorem qL_law_575 : Dq cL_law 575 (.invokevirtual 74) 3 578 := ⟨by decide +kernel, rfl⟩
theorem qL_law_578 : Dq cL_law 578 (.aload_n 2) 1 579 := ⟨by decide +kernel, rfl⟩
theorem qL_law_579 : Dq cL_law 579 (.aload_n 0) 1 580 := ⟨by decide +kernel, rfl⟩
theorem qL_law_580 : Dq cL_law 580 (.iload_n 3) 1 581 := ⟨by decide +kernel, rfl⟩
theorem qL_law_581 : Dq cL_law 581 (.iconst 1) 1 582 := ⟨by decide +kernel, rfl⟩
theorem qL_law_582 : Dq cL_law 582 (.iadd) 1 583 := ⟨by decide +kernel, rfl⟩
theorem qL_law_583 : Dq cL_law 583 (.iaload) 1 584 := ⟨by decide +kernel, rfl⟩
theorem qL_law_584 : Dq cL_law 584 (.invokevirtual 78) 3 587 := ⟨by decide +kernel, rfl⟩
theorem qL_law_587 : Dq cL_law 587 (.lcmp) 1 588 := ⟨by decide +kernel, rfl⟩
theorem qL_law_588 : Dq cL_law 588 (.ifCond .eq 547) 3 591 := ⟨by decide +kernel, rfl⟩
set_option maxRecDepth 100000 in
set_option maxHeartbeats 4000000 in
theorem law_14 {X : Cx} {G : Glb} {L : Nat} {xsc : Nat → Int32} {Q : State → Prop} (hl : LwX X G L xsc) {h : AHp} {E : Sst} {i c : Nat} (hi : i + 6 ≤ L) (hc64 : c < 64) (hI : LwI h E c) (kk : ∀ h' E', LwI h' E' (c + 1) → V X G 4 (58 + 6 * (c + 1)) (4289 + 6 * (c + 1)) Q 1135 [some (.ref 1000000), some (.ref 0), some (.ref 38), some (.int (nI i))] [] h') : V X G 4 (58 + 6 * c) (4289 + 6 * c) Q 569 [some (.ref 1000000), some (.ref 0), some (.ref 38), some (.int (nI i))] [] h := by
  obtain ⟨hc, hm, hN⟩ := hI
  obtain ⟨hX, hR, -⟩ := id hl
  refine v_aload_n hX rfl qL_law_569 ?_
  refine v_aload_n hX rfl qL_law_570 ?_
  refine v_iload_n hX rfl qL_law_571 ?_
  refine v_iconst hX li_1 qL_law_572 ?_
  refine v_iadd hX qL_law_573 ?_
  refine hl.sld (j := i + 1) (nI_add i 1) (by omega) qL_law_574 ?_
  refine v_callVL hX hR k_L_74 (hc.1.kd 0 rfl) (c_here (by exact hc) _) rfl (Nat.le_of_ble_eq_true rfl) rfl (Nat.le_of_ble_eq_true rfl) ⟨by omega, by omega⟩ qL_law_575 ?_
  rintro _ _ ⟨rfl, rfl⟩
  have hc1 := hc
  have hm1 := hm
  have hN1 := hN
  refine v_aload_n hX rfl qL_law_578 ?_
  refine v_aload_n hX rfl qL_law_579 ?_
  refine v_iload_n hX rfl qL_law_580 ?_
  refine v_iconst hX li_1 qL_law_581 ?_
  refine v_iadd hX qL_law_582 ?_
  refine hl.sld (j := i + 1) (nI_add i 1) (by omega) qL_law_583 ?_
  refine v_callVL hX hR k_L_78 (hm1.1.kd 38 rfl) (m_here (by exact hm1) _) rfl (Nat.le_of_ble_eq_true rfl) rfl (Nat.le_of_ble_eq_true rfl) ⟨by omega, by omega⟩ qL_law_584 ?_
  rintro _ _ ⟨rfl, rfl⟩
  have hc2 := hc1
  have hm2 := hm1
  have hN2 := hN1
  refine v_lcmp hX qL_law_587 ?_
  first | refine v_if_eqB hX 1135 qL_law_588 rfl (fun q588 => ?_) (fun q588 => ?_) | refine v_if_eq hX 1135 qL_law_588 rfl (fun q588 => ?_) (fun q588 => ?_)
  · skip
    refine v_widen (k' := 58 + 6 * (c + 1)) (n' := 4289 + 6 * (c + 1)) (by omega) (by omega) ?_
    exact kk _ _ (LwI.nx hc2 hm2 (Nat.le_trans hN2 (by omega)))
  · exact absurd (lcmp_rf _) q588
theorem qL_law_593 : Dq cL_law 593 (.aload_n 1) 1 594 := ⟨by decide +kernel, rfl⟩
theorem qL_law_594 : Dq cL_law 594 (.aload_n 0) 1 595 := ⟨by decide +kernel, rfl⟩
theorem qL_law_595 : Dq cL_law 595 (.iload_n 3) 1 596 := ⟨by decide +kernel, rfl⟩
theorem qL_law_596 : Dq cL_law 596 (.iconst 1) 1 597 := ⟨by decide +kernel, rfl⟩
theorem qL_law_597 : Dq cL_law 597 (.iadd) 1 598 := ⟨by decide +kernel, rfl⟩
theorem qL_law_598 : Dq cL_law 598 (.iaload) 1 599 := ⟨by decide +kernel, rfl⟩
theorem qL_law_599 : Dq cL_law 599 (.invokevirtual 79) 3 602 := ⟨by decide +kernel, rfl⟩
theorem qL_law_602 : Dq cL_law 602 (.aload_n 2) 1 603 := ⟨by decide +kernel, rfl⟩
theorem qL_law_603 : Dq cL_law 603 (.aload_n 0) 1 604 := ⟨by decide +kernel, rfl⟩
theorem qL_law_604 : Dq cL_law 604 (.iload_n 3) 1 605 := ⟨by decide +kernel, rfl⟩
theorem qL_law_605 : Dq cL_law 605 (.iconst 1) 1 606 := ⟨by decide +kernel, rfl⟩
theorem qL_law_606 : Dq cL_law 606 (.iadd) 1 607 := ⟨by decide +kernel, rfl⟩
theorem qL_law_607 : Dq cL_law 607 (.iaload) 1 608 := ⟨by decide +kernel, rfl⟩
theorem qL_law_608 : Dq cL_law 608 (.invokevirtual 82) 3 611 := ⟨by decide +kernel, rfl⟩
theorem qL_law_611 : Dq cL_law 611 (.if_icmp .eq 524) 3 614 := ⟨by decide +kernel, rfl⟩
set_option maxRecDepth 100000 in
set_option maxHeartbeats 4000000 in
theorem law_15 {X : Cx} {G : Glb} {L : Nat} {xsc : Nat → Int32} {Q : State → Prop} (hl : LwX X G L xsc) {h : AHp} {E : Sst} {i c : Nat} (hi : i + 6 ≤ L) (hc64 : c < 64) (hI : LwI h E c) (kk : ∀ h' E', LwI h' E' (c + 1) → V X G 4 (58 + 6 * (c + 1)) (4289 + 6 * (c + 1)) Q 1135 [some (.ref 1000000), some (.ref 0), some (.ref 38), some (.int (nI i))] [] h') : V X G 4 (58 + 6 * c) (4289 + 6 * c) Q 593 [some (.ref 1000000), some (.ref 0), some (.ref 38), some (.int (nI i))] [] h := by
  obtain ⟨hc, hm, hN⟩ := hI
  obtain ⟨hX, hR, -⟩ := id hl
  refine v_aload_n hX rfl qL_law_593 ?_
  refine v_aload_n hX rfl qL_law_594 ?_
  refine v_iload_n hX rfl qL_law_595 ?_
  refine v_iconst hX li_1 qL_law_596 ?_
  refine v_iadd hX qL_law_597 ?_
  refine hl.sld (j := i + 1) (nI_add i 1) (by omega) qL_law_598 ?_
  refine v_callVL hX hR k_L_79 (hc.1.kd 0 rfl) (c_most (by exact hc) _) rfl (Nat.le_of_ble_eq_true rfl) rfl (Nat.le_of_ble_eq_true rfl) ⟨by omega, by omega⟩ qL_law_599 ?_
  rintro _ _ ⟨rfl, rfl⟩
  have hc1 := hc
  have hm1 := hm
  have hN1 := hN
  refine v_aload_n hX rfl qL_law_602 ?_
  refine v_aload_n hX rfl qL_law_603 ?_
  refine v_iload_n hX rfl qL_law_604 ?_
  refine v_iconst hX li_1 qL_law_605 ?_
  refine v_iadd hX qL_law_606 ?_
  refine hl.sld (j := i + 1) (nI_add i 1) (by omega) qL_law_607 ?_
  refine v_callVL hX hR k_L_82 (hm1.1.kd 38 rfl) (m_most (by exact hm1) _) rfl (Nat.le_of_ble_eq_true rfl) rfl (Nat.le_of_ble_eq_true rfl) ⟨by omega, by omega⟩ qL_law_608 ?_
  rintro _ _ ⟨rfl, rfl⟩
  have hc2 := hc1
  have hm2 := hm1
  have hN2 := hN1
  refine v_icmp_eq hX 1135 qL_law_611 rfl (fun q611 => ?_) (fun q611 => ?_)
  · skip
    refine v_widen (k' := 58 + 6 * (c + 1)) (n' := 4289 + 6 * (c + 1)) (by omega) (by omega) ?_
    exact kk _ _ (LwI.nx hc2 hm2 (Nat.le_trans hN2 (by omega)))
  · exact absurd rfl q611
theorem qL_law_616 : Dq cL_law 616 (.aload_n 1) 1 617 := ⟨by decide +kernel, rfl⟩
theorem qL_law_617 : Dq cL_law 617 (.aload_n 0) 1 618 := ⟨by decide +kernel, rfl⟩
theorem qL_law_618 : Dq cL_law 618 (.iload_n 3) 1 619 := ⟨by decide +kernel, rfl⟩
theorem qL_law_619 : Dq cL_law 619 (.iconst 1) 1 620 := ⟨by decide +kernel, rfl⟩
theorem qL_law_620 : Dq cL_law 620 (.iadd) 1 621 := ⟨by decide +kernel, rfl⟩
theorem qL_law_621 : Dq cL_law 621 (.iaload) 1 622 := ⟨by decide +kernel, rfl⟩
theorem qL_law_622 : Dq cL_law 622 (.invokevirtual 83) 3 625 := ⟨by decide +kernel, rfl⟩
theorem qL_law_625 : Dq cL_law 625 (.aload_n 2) 1 626 := ⟨by decide +kernel, rfl⟩
theorem qL_law_626 : Dq cL_law 626 (.aload_n 0) 1 627 := ⟨by decide +kernel, rfl⟩
theorem qL_law_627 : Dq cL_law 627 (.iload_n 3) 1 628 := ⟨by decide +kernel, rfl⟩
theorem qL_law_628 : Dq cL_law 628 (.iconst 1) 1 629 := ⟨by decide +kernel, rfl⟩
theorem qL_law_629 : Dq cL_law 629 (.iadd) 1 630 := ⟨by decide +kernel, rfl⟩
theorem qL_law_630 : Dq cL_law 630 (.iaload) 1 631 := ⟨by decide +kernel, rfl⟩
theorem qL_law_631 : Dq cL_law 631 (.invokevirtual 86) 3 634 := ⟨by decide +kernel, rfl⟩
theorem qL_law_634 : Dq cL_law 634 (.if_icmp .eq 501) 3 637 := ⟨by decide +kernel, rfl⟩
set_option maxRecDepth 100000 in
set_option maxHeartbeats 4000000 in
theorem law_16 {X : Cx} {G : Glb} {L : Nat} {xsc : Nat → Int32} {Q : State → Prop} (hl : LwX X G L xsc) {h : AHp} {E : Sst} {i c : Nat} (hi : i + 6 ≤ L) (hc64 : c < 64) (hI : LwI h E c) (kk : ∀ h' E', LwI h' E' (c + 1) → V X G 4 (58 + 6 * (c + 1)) (4289 + 6 * (c + 1)) Q 1135 [some (.ref 1000000), some (.ref 0), some (.ref 38), some (.int (nI i))] [] h') : V X G 4 (58 + 6 * c) (4289 + 6 * c) Q 616 [some (.ref 1000000), some (.ref 0), some (.ref 38), some (.int (nI i))] [] h := by
  obtain ⟨hc, hm, hN⟩ := hI
  obtain ⟨hX, hR, -⟩ := id hl
  refine v_aload_n hX rfl qL_law_616 ?_
  refine v_aload_n hX rfl qL_law_617 ?_
  refine v_iload_n hX rfl qL_law_618 ?_
  refine v_iconst hX li_1 qL_law_619 ?_
  refine v_iadd hX qL_law_620 ?_
  refine hl.sld (j := i + 1) (nI_add i 1) (by omega) qL_law_621 ?_
  refine v_callVL hX hR k_L_83 (hc.1.kd 0 rfl) (c_under (by exact hc) _) rfl (Nat.le_of_ble_eq_true rfl) rfl (Nat.le_of_ble_eq_true rfl) ⟨by omega, by omega⟩ qL_law_622 ?_
  rintro _ _ ⟨rfl, σ, rfl, hc1, k1⟩
  have hm1 := hm.k38 k1
  have hN1 : hpN (σ, h.2) ≤ 58 + 6 * c := hN
  refine v_aload_n hX rfl qL_law_625 ?_
  refine v_aload_n hX rfl qL_law_626 ?_
  refine v_iload_n hX rfl qL_law_627 ?_
  refine v_iconst hX li_1 qL_law_628 ?_
  refine v_iadd hX qL_law_629 ?_
  refine hl.sld (j := i + 1) (nI_add i 1) (by omega) qL_law_630 ?_
  refine v_callVL hX hR k_L_86 (hm1.1.kd 38 rfl) (m_under (by exact hm1) _) rfl (Nat.le_of_ble_eq_true rfl) rfl (Nat.le_of_ble_eq_true rfl) ⟨by omega, by omega⟩ qL_law_631 ?_
  rintro _ _ ⟨rfl, σ2, J2, rfl, hm2, k2⟩
  have hc2 := hc1.k58 hm1.1 k2
  have hN2 := hN1
  refine v_icmp_eq hX 1135 qL_law_634 rfl (fun q634 => ?_) (fun q634 => ?_)
  · skip
    refine v_widen (k' := 58 + 6 * (c + 1)) (n' := 4289 + 6 * (c + 1)) (by omega) (by omega) ?_
    exact kk _ _ (LwI.nx hc2 hm2 (Nat.le_trans hN2 (by omega)))
  · exact absurd rfl q634
theorem qL_law_639 : Dq cL_law 639 (.aload_n 1) 1 640 := ⟨by decide +kernel, rfl⟩
theorem qL_law_640 : Dq cL_law 640 (.aload_n 0) 1 641 := ⟨by decide +kernel, rfl⟩
theorem qL_law_641 : Dq cL_law 641 (.iload_n 3) 1 642 := ⟨by decide +kernel, rfl⟩
theorem qL_law_642 : Dq cL_law 642 (.iconst 1) 1 643 := ⟨by decide +kernel, rfl⟩
theorem qL_law_643 : Dq cL_law 643 (.iadd) 1 644 := ⟨by decide +kernel, rfl⟩
theorem qL_law_644 : Dq cL_law 644 (.iaload) 1 645 := ⟨by decide +kernel, rfl⟩
theorem qL_law_645 : Dq cL_law 645 (.invokevirtual 87) 3 648 := ⟨by decide +kernel, rfl⟩
theorem qL_law_648 : Dq cL_law 648 (.aload_n 2) 1 649 := ⟨by decide +kernel, rfl⟩
theorem qL_law_649 : Dq cL_law 649 (.aload_n 0) 1 650 := ⟨by decide +kernel, rfl⟩
theorem qL_law_650 : Dq cL_law 650 (.iload_n 3) 1 651 := ⟨by decide +kernel, rfl⟩
theorem qL_law_651 : Dq cL_law 651 (.iconst 1) 1 652 := ⟨by decide +kernel, rfl⟩
theorem qL_law_652 : Dq cL_law 652 (.iadd) 1 653 := ⟨by decide +kernel, rfl⟩
theorem qL_law_653 : Dq cL_law 653 (.iaload) 1 654 := ⟨by decide +kernel, rfl⟩
theorem qL_law_654 : Dq cL_law 654 (.invokevirtual 90) 3 657 := ⟨by decide +kernel, rfl⟩
theorem qL_law_657 : Dq cL_law 657 (.if_icmp .eq 478) 3 660 := ⟨by decide +kernel, rfl⟩
set_option maxRecDepth 100000 in
set_option maxHeartbeats 4000000 in
theorem law_17 {X : Cx} {G : Glb} {L : Nat} {xsc : Nat → Int32} {Q : State → Prop} (hl : LwX X G L xsc) {h : AHp} {E : Sst} {i c : Nat} (hi : i + 6 ≤ L) (hc64 : c < 64) (hI : LwI h E c) (kk : ∀ h' E', LwI h' E' (c + 1) → V X G 4 (58 + 6 * (c + 1)) (4289 + 6 * (c + 1)) Q 1135 [some (.ref 1000000), some (.ref 0), some (.ref 38), some (.int (nI i))] [] h') : V X G 4 (58 + 6 * c) (4289 + 6 * c) Q 639 [some (.ref 1000000), some (.ref 0), some (.ref 38), some (.int (nI i))] [] h := by
  obtain ⟨hc, hm, hN⟩ := hI
  obtain ⟨hX, hR, -⟩ := id hl
  refine v_aload_n hX rfl qL_law_639 ?_
  refine v_aload_n hX rfl qL_law_640 ?_
  refine v_iload_n hX rfl qL_law_641 ?_
  refine v_iconst hX li_1 qL_law_642 ?_
  refine v_iadd hX qL_law_643 ?_
  refine hl.sld (j := i + 1) (nI_add i 1) (by omega) qL_law_644 ?_
  refine v_callVL hX hR k_L_87 (hc.1.kd 0 rfl) (c_drowned (by exact hc) _) rfl (Nat.le_of_ble_eq_true rfl) rfl (Nat.le_of_ble_eq_true rfl) ⟨by omega, by omega⟩ qL_law_645 ?_
  rintro _ _ ⟨rfl, σ, rfl, hc1, k1⟩
  have hm1 := hm.k38 k1
  have hN1 : hpN (σ, h.2) ≤ 58 + 6 * c := hN
  refine v_aload_n hX rfl qL_law_648 ?_
  refine v_aload_n hX rfl qL_law_649 ?_
  refine v_iload_n hX rfl qL_law_650 ?_
  refine v_iconst hX li_1 qL_law_651 ?_
  refine v_iadd hX qL_law_652 ?_
  refine hl.sld (j := i + 1) (nI_add i 1) (by omega) qL_law_653 ?_
  refine v_callVL hX hR k_L_90 (hm1.1.kd 38 rfl) (m_drowned (by exact hm1) _) rfl (Nat.le_of_ble_eq_true rfl) rfl (Nat.le_of_ble_eq_true rfl) ⟨by omega, by omega⟩ qL_law_654 ?_
  rintro _ _ ⟨rfl, σ2, J2, rfl, hm2, k2⟩
  have hc2 := hc1.k58 hm1.1 k2
  have hN2 := hN1
  refine v_icmp_eq hX 1135 qL_law_657 rfl (fun q657 => ?_) (fun q657 => ?_)
  · skip
    refine v_widen (k' := 58 + 6 * (c + 1)) (n' := 4289 + 6 * (c + 1)) (by omega) (by omega) ?_
    exact kk _ _ (LwI.nx hc2 hm2 (Nat.le_trans hN2 (by omega)))
  · exact absurd rfl q657
theorem qL_law_662 : Dq cL_law 662 (.aload_n 1) 1 663 := ⟨by decide +kernel, rfl⟩
theorem qL_law_663 : Dq cL_law 663 (.aload_n 0) 1 664 := ⟨by decide +kernel, rfl⟩
theorem qL_law_664 : Dq cL_law 664 (.iload_n 3) 1 665 := ⟨by decide +kernel, rfl⟩
theorem qL_law_665 : Dq cL_law 665 (.iconst 1) 1 666 := ⟨by decide +kernel, rfl⟩
theorem qL_law_666 : Dq cL_law 666 (.iadd) 1 667 := ⟨by decide +kernel, rfl⟩
theorem qL_law_667 : Dq cL_law 667 (.iaload) 1 668 := ⟨by decide +kernel, rfl⟩
theorem qL_law_668 : Dq cL_law 668 (.aload_n 0) 1 669 := ⟨by decide +kernel, rfl⟩
theorem qL_law_669 : Dq cL_law 669 (.iload_n 3) 1 670 := ⟨by decide +kernel, rfl⟩
theorem qL_law_670 : Dq cL_law 670 (.iconst 2) 1 671 := ⟨by decide +kernel, rfl⟩
theorem qL_law_671 : Dq cL_law 671 (.iadd) 1 672 := ⟨by decide +kernel, rfl⟩
theorem qL_law_672 : Dq cL_law 672 (.iaload) 1 673 := ⟨by decide +kernel, rfl⟩
theorem qL_law_673 : Dq cL_law 673 (.invokevirtual 91) 3 676 := ⟨by decide +kernel, rfl⟩
theorem qL_law_676 : Dq cL_law 676 (.aload_n 2) 1 677 := ⟨by decide +kernel, rfl⟩
theorem qL_law_677 : Dq cL_law 677 (.aload_n 0) 1 678 := ⟨by decide +kernel, rfl⟩
theorem qL_law_678 : Dq cL_law 678 (.iload_n 3) 1 679 := ⟨by decide +kernel, rfl⟩
theorem qL_law_679 : Dq cL_law 679 (.iconst 1) 1 680 := ⟨by decide +kernel, rfl⟩
theorem qL_law_680 : Dq cL_law 680 (.iadd) 1 681 := ⟨by decide +kernel, rfl⟩
theorem qL_law_681 : Dq cL_law 681 (.iaload) 1 682 := ⟨by decide +kernel, rfl⟩
theorem qL_law_682 : Dq cL_law 682 (.aload_n 0) 1 683 := ⟨by decide +kernel, rfl⟩
theorem qL_law_683 : Dq cL_law 683 (.iload_n 3) 1 684 := ⟨by decide +kernel, rfl⟩
theorem qL_law_684 : Dq cL_law 684 (.iconst 2) 1 685 := ⟨by decide +kernel, rfl⟩
theorem qL_law_685 : Dq cL_law 685 (.iadd) 1 686 := ⟨by decide +kernel, rfl⟩
theorem qL_law_686 : Dq cL_law 686 (.iaload) 1 687 := ⟨by decide +kernel, rfl⟩
theorem qL_law_687 : Dq cL_law 687 (.invokevirtual 94) 3 690 := ⟨by decide +kernel, rfl⟩
theorem qL_law_690 : Dq cL_law 690 (.if_icmp .eq 445) 3 693 := ⟨by decide +kernel, rfl⟩
set_option maxRecDepth 100000 in
set_option maxHeartbeats 4000000 in
theorem law_18 {X : Cx} {G : Glb} {L : Nat} {xsc : Nat → Int32} {Q : State → Prop} (hl : LwX X G L xsc) {h : AHp} {E : Sst} {i c : Nat} (hi : i + 6 ≤ L) (hc64 : c < 64) (hI : LwI h E c) (kk : ∀ h' E', LwI h' E' (c + 1) → V X G 4 (58 + 6 * (c + 1)) (4289 + 6 * (c + 1)) Q 1135 [some (.ref 1000000), some (.ref 0), some (.ref 38), some (.int (nI i))] [] h') : V X G 4 (58 + 6 * c) (4289 + 6 * c) Q 662 [some (.ref 1000000), some (.ref 0), some (.ref 38), some (.int (nI i))] [] h := by
  obtain ⟨hc, hm, hN⟩ := hI
  obtain ⟨hX, hR, -⟩ := id hl
  refine v_aload_n hX rfl qL_law_662 ?_
  refine v_aload_n hX rfl qL_law_663 ?_
  refine v_iload_n hX rfl qL_law_664 ?_
  refine v_iconst hX li_1 qL_law_665 ?_
  refine v_iadd hX qL_law_666 ?_
  refine hl.sld (j := i + 1) (nI_add i 1) (by omega) qL_law_667 ?_
  refine v_aload_n hX rfl qL_law_668 ?_
  refine v_iload_n hX rfl qL_law_669 ?_
  refine v_iconst hX li_2 qL_law_670 ?_
  refine v_iadd hX qL_law_671 ?_
  refine hl.sld (j := i + 2) (nI_add i 2) (by omega) qL_law_672 ?_
  refine v_callVL hX hR k_L_91 (hc.1.kd 0 rfl) (c_seen (by exact hc) _ _) rfl (Nat.le_of_ble_eq_true rfl) rfl (Nat.le_of_ble_eq_true rfl) ⟨by omega, by omega⟩ qL_law_673 ?_
  rintro _ _ ⟨rfl, σ, rfl, hc1, k1⟩
  have hm1 := hm.k38 k1
  have hN1 : hpN (σ, h.2) ≤ 58 + 6 * c := hN
  refine v_aload_n hX rfl qL_law_676 ?_
  refine v_aload_n hX rfl qL_law_677 ?_
  refine v_iload_n hX rfl qL_law_678 ?_
  refine v_iconst hX li_1 qL_law_679 ?_
  refine v_iadd hX qL_law_680 ?_
  refine hl.sld (j := i + 1) (nI_add i 1) (by omega) qL_law_681 ?_
  refine v_aload_n hX rfl qL_law_682 ?_
  refine v_iload_n hX rfl qL_law_683 ?_
  refine v_iconst hX li_2 qL_law_684 ?_
  refine v_iadd hX qL_law_685 ?_
  refine hl.sld (j := i + 2) (nI_add i 2) (by omega) qL_law_686 ?_
  refine v_callVL hX hR k_L_94 (hm1.1.kd 38 rfl) (m_seen (by exact hm1) _ _) rfl (Nat.le_of_ble_eq_true rfl) rfl (Nat.le_of_ble_eq_true rfl) ⟨by omega, by omega⟩ qL_law_687 ?_
  rintro _ _ ⟨rfl, σ2, J2, rfl, hm2, k2⟩
  have hc2 := hc1.k58 hm1.1 k2
  have hN2 := hN1
  refine v_icmp_eq hX 1135 qL_law_690 rfl (fun q690 => ?_) (fun q690 => ?_)
  · skip
    refine v_widen (k' := 58 + 6 * (c + 1)) (n' := 4289 + 6 * (c + 1)) (by omega) (by omega) ?_
    exact kk _ _ (LwI.nx hc2 hm2 (Nat.le_trans hN2 (by omega)))
  · exact absurd rfl q690
theorem qL_law_695 : Dq cL_law 695 (.aload_n 1) 1 696 := ⟨by decide +kernel, rfl⟩
theorem qL_law_696 : Dq cL_law 696 (.aload_n 0) 1 697 := ⟨by decide +kernel, rfl⟩
theorem qL_law_697 : Dq cL_law 697 (.iload_n 3) 1 698 := ⟨by decide +kernel, rfl⟩
theorem qL_law_698 : Dq cL_law 698 (.iconst 1) 1 699 := ⟨by decide +kernel, rfl⟩
theorem qL_law_699 : Dq cL_law 699 (.iadd) 1 700 := ⟨by decide +kernel, rfl⟩
theorem qL_law_700 : Dq cL_law 700 (.iaload) 1 701 := ⟨by decide +kernel, rfl⟩
theorem qL_law_701 : Dq cL_law 701 (.aload_n 0) 1 702 := ⟨by decide +kernel, rfl⟩
theorem qL_law_702 : Dq cL_law 702 (.iload_n 3) 1 703 := ⟨by decide +kernel, rfl⟩
theorem qL_law_703 : Dq cL_law 703 (.iconst 2) 1 704 := ⟨by decide +kernel, rfl⟩
theorem qL_law_704 : Dq cL_law 704 (.iadd) 1 705 := ⟨by decide +kernel, rfl⟩
theorem qL_law_705 : Dq cL_law 705 (.iaload) 1 706 := ⟨by decide +kernel, rfl⟩
theorem qL_law_706 : Dq cL_law 706 (.aload_n 0) 1 707 := ⟨by decide +kernel, rfl⟩
theorem qL_law_707 : Dq cL_law 707 (.iload_n 3) 1 708 := ⟨by decide +kernel, rfl⟩
theorem qL_law_708 : Dq cL_law 708 (.iconst 3) 1 709 := ⟨by decide +kernel, rfl⟩
theorem qL_law_709 : Dq cL_law 709 (.iadd) 1 710 := ⟨by decide +kernel, rfl⟩
theorem qL_law_710 : Dq cL_law 710 (.iaload) 1 711 := ⟨by decide +kernel, rfl⟩
theorem qL_law_711 : Dq cL_law 711 (.invokevirtual 95) 3 714 := ⟨by decide +kernel, rfl⟩
theorem qL_law_714 : Dq cL_law 714 (.aload_n 2) 1 715 := ⟨by decide +kernel, rfl⟩
theorem qL_law_715 : Dq cL_law 715 (.aload_n 0) 1 716 := ⟨by decide +kernel, rfl⟩
theorem qL_law_716 : Dq cL_law 716 (.iload_n 3) 1 717 := ⟨by decide +kernel, rfl⟩
theorem qL_law_717 : Dq cL_law 717 (.iconst 1) 1 718 := ⟨by decide +kernel, rfl⟩
theorem qL_law_718 : Dq cL_law 718 (.iadd) 1 719 := ⟨by decide +kernel, rfl⟩
theorem qL_law_719 : Dq cL_law 719 (.iaload) 1 720 := ⟨by decide +kernel, rfl⟩
theorem qL_law_720 : Dq cL_law 720 (.aload_n 0) 1 721 := ⟨by decide +kernel, rfl⟩
theorem qL_law_721 : Dq cL_law 721 (.iload_n 3) 1 722 := ⟨by decide +kernel, rfl⟩
theorem qL_law_722 : Dq cL_law 722 (.iconst 2) 1 723 := ⟨by decide +kernel, rfl⟩
theorem qL_law_723 : Dq cL_law 723 (.iadd) 1 724 := ⟨by decide +kernel, rfl⟩
theorem qL_law_724 : Dq cL_law 724 (.iaload) 1 725 := ⟨by decide +kernel, rfl⟩
theorem qL_law_725 : Dq cL_law 725 (.aload_n 0) 1 726 := ⟨by decide +kernel, rfl⟩
theorem qL_law_726 : Dq cL_law 726 (.iload_n 3) 1 727 := ⟨by decide +kernel, rfl⟩
theorem qL_law_727 : Dq cL_law 727 (.iconst 3) 1 728 := ⟨by decide +kernel, rfl⟩
theorem qL_law_728 : Dq cL_law 728 (.iadd) 1 729 := ⟨by decide +kernel, rfl⟩
theorem qL_law_729 : Dq cL_law 729 (.iaload) 1 730 := ⟨by decide +kernel, rfl⟩
theorem qL_law_730 : Dq cL_law 730 (.invokevirtual 98) 3 733 := ⟨by decide +kernel, rfl⟩
theorem qL_law_733 : Dq cL_law 733 (.if_icmp .eq 402) 3 736 := ⟨by decide +kernel, rfl⟩
set_option maxRecDepth 100000 in
set_option maxHeartbeats 4000000 in
theorem law_19 {X : Cx} {G : Glb} {L : Nat} {xsc : Nat → Int32} {Q : State → Prop} (hl : LwX X G L xsc) {h : AHp} {E : Sst} {i c : Nat} (hi : i + 6 ≤ L) (hc64 : c < 64) (hI : LwI h E c) (kk : ∀ h' E', LwI h' E' (c + 1) → V X G 4 (58 + 6 * (c + 1)) (4289 + 6 * (c + 1)) Q 1135 [some (.ref 1000000), some (.ref 0), some (.ref 38), some (.int (nI i))] [] h') : V X G 4 (58 + 6 * c) (4289 + 6 * c) Q 695 [some (.ref 1000000), some (.ref 0), some (.ref 38), some (.int (nI i))] [] h := by
  obtain ⟨hc, hm, hN⟩ := hI
  obtain ⟨hX, hR, -⟩ := id hl
  refine v_aload_n hX rfl qL_law_695 ?_
  refine v_aload_n hX rfl qL_law_696 ?_
  refine v_iload_n hX rfl qL_law_697 ?_
  refine v_iconst hX li_1 qL_law_698 ?_
  refine v_iadd hX qL_law_699 ?_
  refine hl.sld (j := i + 1) (nI_add i 1) (by omega) qL_law_700 ?_
  refine v_aload_n hX rfl qL_law_701 ?_
  refine v_iload_n hX rfl qL_law_702 ?_
  refine v_iconst hX li_2 qL_law_703 ?_
  refine v_iadd hX qL_law_704 ?_
  refine hl.sld (j := i + 2) (nI_add i 2) (by omega) qL_law_705 ?_
  refine v_aload_n hX rfl qL_law_706 ?_
  refine v_iload_n hX rfl qL_law_707 ?_
  refine v_iconst hX li_3 qL_law_708 ?_
  refine v_iadd hX qL_law_709 ?_
  refine hl.sld (j := i + 3) (nI_add i 3) (by omega) qL_law_710 ?_
  refine v_callVL hX hR k_L_95 (hc.1.kd 0 rfl) (c_crowd (by exact hc) _ _ _) rfl (Nat.le_of_ble_eq_true rfl) rfl (Nat.le_of_ble_eq_true rfl) ⟨by omega, by omega⟩ qL_law_711 ?_
  rintro _ _ ⟨rfl, σ, rfl, hc1, k1⟩
  have hm1 := hm.k38 k1
  have hN1 : hpN (σ, h.2) ≤ 58 + 6 * c := hN
  refine v_aload_n hX rfl qL_law_714 ?_
  refine v_aload_n hX rfl qL_law_715 ?_
  refine v_iload_n hX rfl qL_law_716 ?_
  refine v_iconst hX li_1 qL_law_717 ?_
  refine v_iadd hX qL_law_718 ?_
  refine hl.sld (j := i + 1) (nI_add i 1) (by omega) qL_law_719 ?_
  refine v_aload_n hX rfl qL_law_720 ?_
  refine v_iload_n hX rfl qL_law_721 ?_
  refine v_iconst hX li_2 qL_law_722 ?_
  refine v_iadd hX qL_law_723 ?_
  refine hl.sld (j := i + 2) (nI_add i 2) (by omega) qL_law_724 ?_
  refine v_aload_n hX rfl qL_law_725 ?_
  refine v_iload_n hX rfl qL_law_726 ?_
  refine v_iconst hX li_3 qL_law_727 ?_
  refine v_iadd hX qL_law_728 ?_
  refine hl.sld (j := i + 3) (nI_add i 3) (by omega) qL_law_729 ?_
  refine v_callVL hX hR k_L_98 (hm1.1.kd 38 rfl) (m_crowd (by exact hm1) _ _ _) rfl (Nat.le_of_ble_eq_true rfl) rfl (Nat.le_of_ble_eq_true rfl) ⟨by omega, by omega⟩ qL_law_730 ?_
  rintro _ _ ⟨rfl, σ2, J2, rfl, hm2, k2⟩
  have hc2 := hc1.k58 hm1.1 k2
  have hN2 := hN1
  refine v_icmp_eq hX 1135 qL_law_733 rfl (fun q733 => ?_) (fun q733 => ?_)
  · skip
    refine v_widen (k' := 58 + 6 * (c + 1)) (n' := 4289 + 6 * (c + 1)) (by omega) (by omega) ?_
    exact kk _ _ (LwI.nx hc2 hm2 (Nat.le_trans hN2 (by omega)))
  · exact absurd rfl q733
theorem qL_law_738 : Dq cL_law 738 (.aload_n 1) 1 739 := ⟨by decide +kernel, rfl⟩
theorem qL_law_739 : Dq cL_law 739 (.aload_n 0) 1 740 := ⟨by decide +kernel, rfl⟩
theorem qL_law_740 : Dq cL_law 740 (.iload_n 3) 1 741 := ⟨by decide +kernel, rfl⟩
theorem qL_law_741 : Dq cL_law 741 (.iconst 1) 1 742 := ⟨by decide +kernel, rfl⟩
theorem qL_law_742 : Dq cL_law 742 (.iadd) 1 743 := ⟨by decide +kernel, rfl⟩
theorem qL_law_743 : Dq cL_law 743 (.iaload) 1 744 := ⟨by decide +kernel, rfl⟩
theorem qL_law_744 : Dq cL_law 744 (.invokevirtual 99) 3 747 := ⟨by decide +kernel, rfl⟩
theorem qL_law_747 : Dq cL_law 747 (.aload_n 2) 1 748 := ⟨by decide +kernel, rfl⟩
theorem qL_law_748 : Dq cL_law 748 (.aload_n 0) 1 749 := ⟨by decide +kernel, rfl⟩
theorem qL_law_749 : Dq cL_law 749 (.iload_n 3) 1 750 := ⟨by decide +kernel, rfl⟩
theorem qL_law_750 : Dq cL_law 750 (.iconst 1) 1 751 := ⟨by decide +kernel, rfl⟩
theorem qL_law_751 : Dq cL_law 751 (.iadd) 1 752 := ⟨by decide +kernel, rfl⟩
theorem qL_law_752 : Dq cL_law 752 (.iaload) 1 753 := ⟨by decide +kernel, rfl⟩
theorem qL_law_753 : Dq cL_law 753 (.invokevirtual 102) 3 756 := ⟨by decide +kernel, rfl⟩
theorem qL_law_756 : Dq cL_law 756 (.if_icmp .eq 379) 3 759 := ⟨by decide +kernel, rfl⟩
set_option maxRecDepth 100000 in
set_option maxHeartbeats 4000000 in
theorem law_20 {X : Cx} {G : Glb} {L : Nat} {xsc : Nat → Int32} {Q : State → Prop} (hl : LwX X G L xsc) {h : AHp} {E : Sst} {i c : Nat} (hi : i + 6 ≤ L) (hc64 : c < 64) (hI : LwI h E c) (kk : ∀ h' E', LwI h' E' (c + 1) → V X G 4 (58 + 6 * (c + 1)) (4289 + 6 * (c + 1)) Q 1135 [some (.ref 1000000), some (.ref 0), some (.ref 38), some (.int (nI i))] [] h') : V X G 4 (58 + 6 * c) (4289 + 6 * c) Q 738 [some (.ref 1000000), some (.ref 0), some (.ref 38), some (.int (nI i))] [] h := by
  obtain ⟨hc, hm, hN⟩ := hI
  obtain ⟨hX, hR, -⟩ := id hl
  refine v_aload_n hX rfl qL_law_738 ?_
  refine v_aload_n hX rfl qL_law_739 ?_
  refine v_iload_n hX rfl qL_law_740 ?_
  refine v_iconst hX li_1 qL_law_741 ?_
  refine v_iadd hX qL_law_742 ?_
  refine hl.sld (j := i + 1) (nI_add i 1) (by omega) qL_law_743 ?_
  refine v_callVL hX hR k_L_99 (hc.1.kd 0 rfl) (c_judge (by exact hc) _) rfl (Nat.le_of_ble_eq_true rfl) rfl (Nat.le_of_ble_eq_true rfl) ⟨by omega, by omega⟩ qL_law_744 ?_
  rintro _ _ ⟨rfl, σ, rfl, hc1, k1⟩
  have hm1 := hm.k38 k1
  have hN1 : hpN (σ, h.2) ≤ 58 + 6 * c := hN
  refine v_aload_n hX rfl qL_law_747 ?_
  refine v_aload_n hX rfl qL_law_748 ?_
  refine v_iload_n hX rfl qL_law_749 ?_
  refine v_iconst hX li_1 qL_law_750 ?_
  refine v_iadd hX qL_law_751 ?_
  refine hl.sld (j := i + 1) (nI_add i 1) (by omega) qL_law_752 ?_
  refine v_callVL hX hR k_L_102 (hm1.1.kd 38 rfl) (m_judge (by exact hm1) _) rfl (Nat.le_of_ble_eq_true rfl) rfl (Nat.le_of_ble_eq_true rfl) ⟨by omega, by omega⟩ qL_law_753 ?_
  rintro _ _ ⟨rfl, σ2, J2, rfl, hm2, k2⟩
  have hc2 := hc1.k58 hm1.1 k2
  have hN2 := hN1
  refine v_icmp_eq hX 1135 qL_law_756 rfl (fun q756 => ?_) (fun q756 => ?_)
  · skip
    refine v_widen (k' := 58 + 6 * (c + 1)) (n' := 4289 + 6 * (c + 1)) (by omega) (by omega) ?_
    exact kk _ _ (LwI.nx hc2 hm2 (Nat.le_trans hN2 (by omega)))
  · exact absurd rfl q756
theorem qL_law_761 : Dq cL_law 761 (.aload_n 1) 1 762 := ⟨by decide +kernel, rfl⟩
theorem qL_law_762 : Dq cL_law 762 (.aload_n 0) 1 763 := ⟨by decide +kernel, rfl⟩
theorem qL_law_763 : Dq cL_law 763 (.iload_n 3) 1 764 := ⟨by decide +kernel, rfl⟩
theorem qL_law_764 : Dq cL_law 764 (.iconst 1) 1 765 := ⟨by decide +kernel, rfl⟩
theorem qL_law_765 : Dq cL_law 765 (.iadd) 1 766 := ⟨by decide +kernel, rfl⟩
theorem qL_law_766 : Dq cL_law 766 (.iaload) 1 767 := ⟨by decide +kernel, rfl⟩
theorem qL_law_767 : Dq cL_law 767 (.aload_n 0) 1 768 := ⟨by decide +kernel, rfl⟩
theorem qL_law_768 : Dq cL_law 768 (.iload_n 3) 1 769 := ⟨by decide +kernel, rfl⟩
theorem qL_law_769 : Dq cL_law 769 (.iconst 2) 1 770 := ⟨by decide +kernel, rfl⟩
theorem qL_law_770 : Dq cL_law 770 (.iadd) 1 771 := ⟨by decide +kernel, rfl⟩
theorem qL_law_771 : Dq cL_law 771 (.iaload) 1 772 := ⟨by decide +kernel, rfl⟩
theorem qL_law_772 : Dq cL_law 772 (.invokevirtual 103) 3 775 := ⟨by decide +kernel, rfl⟩
theorem qL_law_775 : Dq cL_law 775 (.aload_n 2) 1 776 := ⟨by decide +kernel, rfl⟩
theorem qL_law_776 : Dq cL_law 776 (.aload_n 0) 1 777 := ⟨by decide +kernel, rfl⟩
theorem qL_law_777 : Dq cL_law 777 (.iload_n 3) 1 778 := ⟨by decide +kernel, rfl⟩
theorem qL_law_778 : Dq cL_law 778 (.iconst 1) 1 779 := ⟨by decide +kernel, rfl⟩
theorem qL_law_779 : Dq cL_law 779 (.iadd) 1 780 := ⟨by decide +kernel, rfl⟩
theorem qL_law_780 : Dq cL_law 780 (.iaload) 1 781 := ⟨by decide +kernel, rfl⟩
theorem qL_law_781 : Dq cL_law 781 (.aload_n 0) 1 782 := ⟨by decide +kernel, rfl⟩
theorem qL_law_782 : Dq cL_law 782 (.iload_n 3) 1 783 := ⟨by decide +kernel, rfl⟩
theorem qL_law_783 : Dq cL_law 783 (.iconst 2) 1 784 := ⟨by decide +kernel, rfl⟩
theorem qL_law_784 : Dq cL_law 784 (.iadd) 1 785 := ⟨by decide +kernel, rfl⟩
theorem qL_law_785 : Dq cL_law 785 (.iaload) 1 786 := ⟨by decide +kernel, rfl⟩
theorem qL_law_786 : Dq cL_law 786 (.invokevirtual 106) 3 789 := ⟨by decide +kernel, rfl⟩
theorem qL_law_789 : Dq cL_law 789 (.lcmp) 1 790 := ⟨by decide +kernel, rfl⟩
theorem qL_law_790 : Dq cL_law 790 (.ifCond .eq 345) 3 793 := ⟨by decide +kernel, rfl⟩
set_option maxRecDepth 100000 in
set_option maxHeartbeats 4000000 in
theorem law_21 {X : Cx} {G : Glb} {L : Nat} {xsc : Nat → Int32} {Q : State → Prop} (hl : LwX X G L xsc) {h : AHp} {E : Sst} {i c : Nat} (hi : i + 6 ≤ L) (hc64 : c < 64) (hI : LwI h E c) (kk : ∀ h' E', LwI h' E' (c + 1) → V X G 4 (58 + 6 * (c + 1)) (4289 + 6 * (c + 1)) Q 1135 [some (.ref 1000000), some (.ref 0), some (.ref 38), some (.int (nI i))] [] h') : V X G 4 (58 + 6 * c) (4289 + 6 * c) Q 761 [some (.ref 1000000), some (.ref 0), some (.ref 38), some (.int (nI i))] [] h := by
  obtain ⟨hc, hm, hN⟩ := hI
  obtain ⟨hX, hR, -⟩ := id hl
  refine v_aload_n hX rfl qL_law_761 ?_
  refine v_aload_n hX rfl qL_law_762 ?_
  refine v_iload_n hX rfl qL_law_763 ?_
  refine v_iconst hX li_1 qL_law_764 ?_
  refine v_iadd hX qL_law_765 ?_
  refine hl.sld (j := i + 1) (nI_add i 1) (by omega) qL_law_766 ?_
  refine v_aload_n hX rfl qL_law_767 ?_
  refine v_iload_n hX rfl qL_law_768 ?_
  refine v_iconst hX li_2 qL_law_769 ?_
  refine v_iadd hX qL_law_770 ?_
  refine hl.sld (j := i + 2) (nI_add i 2) (by omega) qL_law_771 ?_
  refine v_callVL hX hR k_L_103 (hc.1.kd 0 rfl) (c_found (by exact hc) _ _) rfl (Nat.le_of_ble_eq_true rfl) rfl (Nat.le_of_ble_eq_true rfl) ⟨by omega, by omega⟩ qL_law_772 ?_
  rintro _ _ ⟨rfl, σ, rfl, hc1, k1⟩
  have hm1 := hm.k38 k1
  have hN1 : hpN (σ, h.2) ≤ 58 + 6 * c := hN
  refine v_aload_n hX rfl qL_law_775 ?_
  refine v_aload_n hX rfl qL_law_776 ?_
  refine v_iload_n hX rfl qL_law_777 ?_
  refine v_iconst hX li_1 qL_law_778 ?_
  refine v_iadd hX qL_law_779 ?_
  refine hl.sld (j := i + 1) (nI_add i 1) (by omega) qL_law_780 ?_
  refine v_aload_n hX rfl qL_law_781 ?_
  refine v_iload_n hX rfl qL_law_782 ?_
  refine v_iconst hX li_2 qL_law_783 ?_
  refine v_iadd hX qL_law_784 ?_
  refine hl.sld (j := i + 2) (nI_add i 2) (by omega) qL_law_785 ?_
  refine v_callVL hX hR k_L_106 (hm1.1.kd 38 rfl) (m_found (by exact hm1) _ _) rfl (Nat.le_of_ble_eq_true rfl) rfl (Nat.le_of_ble_eq_true rfl) ⟨by omega, by omega⟩ qL_law_786 ?_
  rintro _ _ ⟨rfl, σ2, J2, rfl, hm2, k2⟩
  have hc2 := hc1.k58 hm1.1 k2
  have hN2 := hN1
  refine v_lcmp hX qL_law_789 ?_
  first | refine v_if_eqB hX 1135 qL_law_790 rfl (fun q790 => ?_) (fun q790 => ?_) | refine v_if_eq hX 1135 qL_law_790 rfl (fun q790 => ?_) (fun q790 => ?_)
  · skip
    refine v_widen (k' := 58 + 6 * (c + 1)) (n' := 4289 + 6 * (c + 1)) (by omega) (by omega) ?_
    exact kk _ _ (LwI.nx hc2 hm2 (Nat.le_trans hN2 (by omega)))
  · exact absurd (lcmp_rf _) q790
theorem qL_law_795 : Dq cL_law 795 (.aload_n 1) 1 796 := ⟨by decide +kernel, rfl⟩
theorem qL_law_796 : Dq cL_law 796 (.aload_n 0) 1 797 := ⟨by decide +kernel, rfl⟩
theorem qL_law_797 : Dq cL_law 797 (.iload_n 3) 1 798 := ⟨by decide +kernel, rfl⟩
theorem qL_law_798 : Dq cL_law 798 (.iconst 1) 1 799 := ⟨by decide +kernel, rfl⟩
theorem qL_law_799 : Dq cL_law 799 (.iadd) 1 800 := ⟨by decide +kernel, rfl⟩
theorem qL_law_800 : Dq cL_law 800 (.iaload) 1 801 := ⟨by decide +kernel, rfl⟩
theorem qL_law_801 : Dq cL_law 801 (.invokevirtual 107) 3 804 := ⟨by decide +kernel, rfl⟩
theorem qL_law_804 : Dq cL_law 804 (.aload_n 2) 1 805 := ⟨by decide +kernel, rfl⟩
theorem qL_law_805 : Dq cL_law 805 (.aload_n 0) 1 806 := ⟨by decide +kernel, rfl⟩
theorem qL_law_806 : Dq cL_law 806 (.iload_n 3) 1 807 := ⟨by decide +kernel, rfl⟩
theorem qL_law_807 : Dq cL_law 807 (.iconst 1) 1 808 := ⟨by decide +kernel, rfl⟩
theorem qL_law_808 : Dq cL_law 808 (.iadd) 1 809 := ⟨by decide +kernel, rfl⟩
theorem qL_law_809 : Dq cL_law 809 (.iaload) 1 810 := ⟨by decide +kernel, rfl⟩
theorem qL_law_810 : Dq cL_law 810 (.invokevirtual 110) 3 813 := ⟨by decide +kernel, rfl⟩
theorem qL_law_813 : Dq cL_law 813 (.if_icmp .eq 322) 3 816 := ⟨by decide +kernel, rfl⟩
set_option maxRecDepth 100000 in
set_option maxHeartbeats 4000000 in
theorem law_22 {X : Cx} {G : Glb} {L : Nat} {xsc : Nat → Int32} {Q : State → Prop} (hl : LwX X G L xsc) {h : AHp} {E : Sst} {i c : Nat} (hi : i + 6 ≤ L) (hc64 : c < 64) (hI : LwI h E c) (kk : ∀ h' E', LwI h' E' (c + 1) → V X G 4 (58 + 6 * (c + 1)) (4289 + 6 * (c + 1)) Q 1135 [some (.ref 1000000), some (.ref 0), some (.ref 38), some (.int (nI i))] [] h') : V X G 4 (58 + 6 * c) (4289 + 6 * c) Q 795 [some (.ref 1000000), some (.ref 0), some (.ref 38), some (.int (nI i))] [] h := by
  obtain ⟨hc, hm, hN⟩ := hI
  obtain ⟨hX, hR, -⟩ := id hl
  refine v_aload_n hX rfl qL_law_795 ?_
  refine v_aload_n hX rfl qL_law_796 ?_
  refine v_iload_n hX rfl qL_law_797 ?_
  refine v_iconst hX li_1 qL_law_798 ?_
  refine v_iadd hX qL_law_799 ?_
  refine hl.sld (j := i + 1) (nI_add i 1) (by omega) qL_law_800 ?_
  refine v_callVL hX hR k_L_107 (hc.1.kd 0 rfl) (c_drawn (by exact hc) _) rfl (Nat.le_of_ble_eq_true rfl) rfl (Nat.le_of_ble_eq_true rfl) ⟨by omega, by omega⟩ qL_law_801 ?_
  rintro _ _ ⟨rfl, rfl⟩
  have hc1 := hc
  have hm1 := hm
  have hN1 := hN
  refine v_aload_n hX rfl qL_law_804 ?_
  refine v_aload_n hX rfl qL_law_805 ?_
  refine v_iload_n hX rfl qL_law_806 ?_
  refine v_iconst hX li_1 qL_law_807 ?_
  refine v_iadd hX qL_law_808 ?_
  refine hl.sld (j := i + 1) (nI_add i 1) (by omega) qL_law_809 ?_
  refine v_callVL hX hR k_L_110 (hm1.1.kd 38 rfl) (m_drawn (by exact hm1) _) rfl (Nat.le_of_ble_eq_true rfl) rfl (Nat.le_of_ble_eq_true rfl) ⟨by omega, by omega⟩ qL_law_810 ?_
  rintro _ _ ⟨rfl, rfl⟩
  have hc2 := hc1
  have hm2 := hm1
  have hN2 := hN1
  refine v_icmp_eq hX 1135 qL_law_813 rfl (fun q813 => ?_) (fun q813 => ?_)
  · skip
    refine v_widen (k' := 58 + 6 * (c + 1)) (n' := 4289 + 6 * (c + 1)) (by omega) (by omega) ?_
    exact kk _ _ (LwI.nx hc2 hm2 (Nat.le_trans hN2 (by omega)))
  · exact absurd rfl q813
theorem qL_law_818 : Dq cL_law 818 (.aload_n 1) 1 819 := ⟨by decide +kernel, rfl⟩
theorem qL_law_819 : Dq cL_law 819 (.aload_n 0) 1 820 := ⟨by decide +kernel, rfl⟩
theorem qL_law_820 : Dq cL_law 820 (.iload_n 3) 1 821 := ⟨by decide +kernel, rfl⟩
theorem qL_law_821 : Dq cL_law 821 (.iconst 1) 1 822 := ⟨by decide +kernel, rfl⟩
theorem qL_law_822 : Dq cL_law 822 (.iadd) 1 823 := ⟨by decide +kernel, rfl⟩
theorem qL_law_823 : Dq cL_law 823 (.iaload) 1 824 := ⟨by decide +kernel, rfl⟩
theorem qL_law_824 : Dq cL_law 824 (.aload_n 0) 1 825 := ⟨by decide +kernel, rfl⟩
theorem qL_law_825 : Dq cL_law 825 (.iload_n 3) 1 826 := ⟨by decide +kernel, rfl⟩
theorem qL_law_826 : Dq cL_law 826 (.iconst 2) 1 827 := ⟨by decide +kernel, rfl⟩
theorem qL_law_827 : Dq cL_law 827 (.iadd) 1 828 := ⟨by decide +kernel, rfl⟩
theorem qL_law_828 : Dq cL_law 828 (.iaload) 1 829 := ⟨by decide +kernel, rfl⟩
theorem qL_law_829 : Dq cL_law 829 (.invokevirtual 111) 3 832 := ⟨by decide +kernel, rfl⟩
theorem qL_law_832 : Dq cL_law 832 (.aload_n 2) 1 833 := ⟨by decide +kernel, rfl⟩
theorem qL_law_833 : Dq cL_law 833 (.aload_n 0) 1 834 := ⟨by decide +kernel, rfl⟩
theorem qL_law_834 : Dq cL_law 834 (.iload_n 3) 1 835 := ⟨by decide +kernel, rfl⟩
theorem qL_law_835 : Dq cL_law 835 (.iconst 1) 1 836 := ⟨by decide +kernel, rfl⟩
theorem qL_law_836 : Dq cL_law 836 (.iadd) 1 837 := ⟨by decide +kernel, rfl⟩
theorem qL_law_837 : Dq cL_law 837 (.iaload) 1 838 := ⟨by decide +kernel, rfl⟩
theorem qL_law_838 : Dq cL_law 838 (.aload_n 0) 1 839 := ⟨by decide +kernel, rfl⟩
theorem qL_law_839 : Dq cL_law 839 (.iload_n 3) 1 840 := ⟨by decide +kernel, rfl⟩
theorem qL_law_840 : Dq cL_law 840 (.iconst 2) 1 841 := ⟨by decide +kernel, rfl⟩
theorem qL_law_841 : Dq cL_law 841 (.iadd) 1 842 := ⟨by decide +kernel, rfl⟩
theorem qL_law_842 : Dq cL_law 842 (.iaload) 1 843 := ⟨by decide +kernel, rfl⟩
theorem qL_law_843 : Dq cL_law 843 (.invokevirtual 114) 3 846 := ⟨by decide +kernel, rfl⟩
theorem qL_law_846 : Dq cL_law 846 (.if_icmp .eq 289) 3 849 := ⟨by decide +kernel, rfl⟩
set_option maxRecDepth 100000 in
set_option maxHeartbeats 4000000 in
theorem law_23 {X : Cx} {G : Glb} {L : Nat} {xsc : Nat → Int32} {Q : State → Prop} (hl : LwX X G L xsc) {h : AHp} {E : Sst} {i c : Nat} (hi : i + 6 ≤ L) (hc64 : c < 64) (hI : LwI h E c) (kk : ∀ h' E', LwI h' E' (c + 1) → V X G 4 (58 + 6 * (c + 1)) (4289 + 6 * (c + 1)) Q 1135 [some (.ref 1000000), some (.ref 0), some (.ref 38), some (.int (nI i))] [] h') : V X G 4 (58 + 6 * c) (4289 + 6 * c) Q 818 [some (.ref 1000000), some (.ref 0), some (.ref 38), some (.int (nI i))] [] h := by
  obtain ⟨hc, hm, hN⟩ := hI
  obtain ⟨hX, hR, -⟩ := id hl
  refine v_aload_n hX rfl qL_law_818 ?_
  refine v_aload_n hX rfl qL_law_819 ?_
  refine v_iload_n hX rfl qL_law_820 ?_
  refine v_iconst hX li_1 qL_law_821 ?_
  refine v_iadd hX qL_law_822 ?_
  refine hl.sld (j := i + 1) (nI_add i 1) (by omega) qL_law_823 ?_
  refine v_aload_n hX rfl qL_law_824 ?_
  refine v_iload_n hX rfl qL_law_825 ?_
  refine v_iconst hX li_2 qL_law_826 ?_
  refine v_iadd hX qL_law_827 ?_
  refine hl.sld (j := i + 2) (nI_add i 2) (by omega) qL_law_828 ?_
  refine v_callVL hX hR k_L_111 (hc.1.kd 0 rfl) (c_foundBy (by exact hc) _ _) rfl (Nat.le_of_ble_eq_true rfl) rfl (Nat.le_of_ble_eq_true rfl) ⟨by omega, by omega⟩ qL_law_829 ?_
  rintro _ _ ⟨rfl, σ, rfl, hc1, k1⟩
  have hm1 := hm.k38 k1
  have hN1 : hpN (σ, h.2) ≤ 58 + 6 * c := hN
  refine v_aload_n hX rfl qL_law_832 ?_
  refine v_aload_n hX rfl qL_law_833 ?_
  refine v_iload_n hX rfl qL_law_834 ?_
  refine v_iconst hX li_1 qL_law_835 ?_
  refine v_iadd hX qL_law_836 ?_
  refine hl.sld (j := i + 1) (nI_add i 1) (by omega) qL_law_837 ?_
  refine v_aload_n hX rfl qL_law_838 ?_
  refine v_iload_n hX rfl qL_law_839 ?_
  refine v_iconst hX li_2 qL_law_840 ?_
  refine v_iadd hX qL_law_841 ?_
  refine hl.sld (j := i + 2) (nI_add i 2) (by omega) qL_law_842 ?_
  refine v_callVL hX hR k_L_114 (hm1.1.kd 38 rfl) (m_foundBy (by exact hm1) _ _) rfl (Nat.le_of_ble_eq_true rfl) rfl (Nat.le_of_ble_eq_true rfl) ⟨by omega, by omega⟩ qL_law_843 ?_
  rintro _ _ ⟨rfl, σ2, J2, rfl, hm2, k2⟩
  have hc2 := hc1.k58 hm1.1 k2
  have hN2 := hN1
  refine v_icmp_eq hX 1135 qL_law_846 rfl (fun q846 => ?_) (fun q846 => ?_)
  · skip
    refine v_widen (k' := 58 + 6 * (c + 1)) (n' := 4289 + 6 * (c + 1)) (by omega) (by omega) ?_
    exact kk _ _ (LwI.nx hc2 hm2 (Nat.le_trans hN2 (by omega)))
  · exact absurd rfl q846
theorem qL_law_851 : Dq cL_law 851 (.aload_n 1) 1 852 := ⟨by decide +kernel, rfl⟩
theorem qL_law_852 : Dq cL_law 852 (.invokevirtual 115) 3 855 := ⟨by decide +kernel, rfl⟩
theorem qL_law_855 : Dq cL_law 855 (.aload_n 2) 1 856 := ⟨by decide +kernel, rfl⟩
theorem qL_law_856 : Dq cL_law 856 (.invokevirtual 118) 3 859 := ⟨by decide +kernel, rfl⟩
theorem qL_law_859 : Dq cL_law 859 (.if_icmp .eq 276) 3 862 := ⟨by decide +kernel, rfl⟩
set_option maxRecDepth 100000 in
set_option maxHeartbeats 4000000 in
theorem law_24 {X : Cx} {G : Glb} {L : Nat} {xsc : Nat → Int32} {Q : State → Prop} (hl : LwX X G L xsc) {h : AHp} {E : Sst} {i c : Nat} (hi : i + 6 ≤ L) (hc64 : c < 64) (hI : LwI h E c) (kk : ∀ h' E', LwI h' E' (c + 1) → V X G 4 (58 + 6 * (c + 1)) (4289 + 6 * (c + 1)) Q 1135 [some (.ref 1000000), some (.ref 0), some (.ref 38), some (.int (nI i))] [] h') : V X G 4 (58 + 6 * c) (4289 + 6 * c) Q 851 [some (.ref 1000000), some (.ref 0), some (.ref 38), some (.int (nI i))] [] h := by
  obtain ⟨hc, hm, hN⟩ := hI
  obtain ⟨hX, hR, -⟩ := id hl
  refine v_aload_n hX rfl qL_law_851 ?_
  refine v_callVL hX hR k_L_115 (hc.1.kd 0 rfl) (c_image (by exact hc)) rfl (Nat.le_of_ble_eq_true rfl) rfl (Nat.le_of_ble_eq_true rfl) ⟨by omega, by omega⟩ qL_law_852 ?_
  rintro _ _ ⟨rfl, σ, rfl, hc1, k1⟩
  have hm1 := hm.k38 k1
  have hN1 : hpN (σ, h.2) ≤ 58 + 6 * c := hN
  refine v_aload_n hX rfl qL_law_855 ?_
  refine v_callVL hX hR k_L_118 (hm1.1.kd 38 rfl) (m_image (by exact hm1)) rfl (Nat.le_of_ble_eq_true rfl) rfl (Nat.le_of_ble_eq_true rfl) ⟨by omega, by omega⟩ qL_law_856 ?_
  rintro _ _ ⟨rfl, σ2, J2, rfl, hm2, k2⟩
  have hc2 := hc1.k58 hm1.1 k2
  have hN2 := hN1
  refine v_icmp_eq hX 1135 qL_law_859 rfl (fun q859 => ?_) (fun q859 => ?_)
  · skip
    refine v_widen (k' := 58 + 6 * (c + 1)) (n' := 4289 + 6 * (c + 1)) (by omega) (by omega) ?_
    exact kk _ _ (LwI.nx hc2 hm2 (Nat.le_trans hN2 (by omega)))
  · exact absurd rfl q859
theorem qL_law_864 : Dq cL_law 864 (.aload_n 1) 1 865 := ⟨by decide +kernel, rfl⟩
theorem qL_law_865 : Dq cL_law 865 (.invokevirtual 119) 3 868 := ⟨by decide +kernel, rfl⟩
theorem qL_law_868 : Dq cL_law 868 (.aload_n 2) 1 869 := ⟨by decide +kernel, rfl⟩
theorem qL_law_869 : Dq cL_law 869 (.invokevirtual 122) 3 872 := ⟨by decide +kernel, rfl⟩
theorem qL_law_872 : Dq cL_law 872 (.if_icmp .eq 263) 3 875 := ⟨by decide +kernel, rfl⟩
set_option maxRecDepth 100000 in
set_option maxHeartbeats 4000000 in
theorem law_25 {X : Cx} {G : Glb} {L : Nat} {xsc : Nat → Int32} {Q : State → Prop} (hl : LwX X G L xsc) {h : AHp} {E : Sst} {i c : Nat} (hi : i + 6 ≤ L) (hc64 : c < 64) (hI : LwI h E c) (kk : ∀ h' E', LwI h' E' (c + 1) → V X G 4 (58 + 6 * (c + 1)) (4289 + 6 * (c + 1)) Q 1135 [some (.ref 1000000), some (.ref 0), some (.ref 38), some (.int (nI i))] [] h') : V X G 4 (58 + 6 * c) (4289 + 6 * c) Q 864 [some (.ref 1000000), some (.ref 0), some (.ref 38), some (.int (nI i))] [] h := by
  obtain ⟨hc, hm, hN⟩ := hI
  obtain ⟨hX, hR, -⟩ := id hl
  refine v_aload_n hX rfl qL_law_864 ?_
  refine v_callVL hX hR k_L_119 (hc.1.kd 0 rfl) (c_back (by exact hc)) rfl (Nat.le_of_ble_eq_true rfl) rfl (Nat.le_of_ble_eq_true rfl) ⟨by omega, by omega⟩ qL_law_865 ?_
  rintro _ _ ⟨rfl, σ, rfl, hc1, k1⟩
  have hm1 := hm.k38 k1
  have hN1 : hpN (σ, h.2) ≤ 58 + 6 * c := hN
  refine v_aload_n hX rfl qL_law_868 ?_
  refine v_callVL hX hR k_L_122 (hm1.1.kd 38 rfl) (m_back (by exact hm1)) rfl (Nat.le_of_ble_eq_true rfl) rfl (Nat.le_of_ble_eq_true rfl) ⟨by omega, by omega⟩ qL_law_869 ?_
  rintro _ _ ⟨rfl, σ2, J2, rfl, hm2, k2⟩
  have hc2 := hc1.k58 hm1.1 k2
  have hN2 := hN1
  refine v_icmp_eq hX 1135 qL_law_872 rfl (fun q872 => ?_) (fun q872 => ?_)
  · skip
    refine v_widen (k' := 58 + 6 * (c + 1)) (n' := 4289 + 6 * (c + 1)) (by omega) (by omega) ?_
    exact kk _ _ (LwI.nx hc2 hm2 (Nat.le_trans hN2 (by omega)))
  · exact absurd rfl q872
theorem qL_law_877 : Dq cL_law 877 (.aload_n 1) 1 878 := ⟨by decide +kernel, rfl⟩
theorem qL_law_878 : Dq cL_law 878 (.aload_n 0) 1 879 := ⟨by decide +kernel, rfl⟩
theorem qL_law_879 : Dq cL_law 879 (.iload_n 3) 1 880 := ⟨by decide +kernel, rfl⟩
theorem qL_law_880 : Dq cL_law 880 (.iconst 1) 1 881 := ⟨by decide +kernel, rfl⟩
theorem qL_law_881 : Dq cL_law 881 (.iadd) 1 882 := ⟨by decide +kernel, rfl⟩
theorem qL_law_882 : Dq cL_law 882 (.iaload) 1 883 := ⟨by decide +kernel, rfl⟩
theorem qL_law_883 : Dq cL_law 883 (.invokevirtual 123) 3 886 := ⟨by decide +kernel, rfl⟩
theorem qL_law_886 : Dq cL_law 886 (.aload_n 2) 1 887 := ⟨by decide +kernel, rfl⟩
theorem qL_law_887 : Dq cL_law 887 (.aload_n 0) 1 888 := ⟨by decide +kernel, rfl⟩
theorem qL_law_888 : Dq cL_law 888 (.iload_n 3) 1 889 := ⟨by decide +kernel, rfl⟩
theorem qL_law_889 : Dq cL_law 889 (.iconst 1) 1 890 := ⟨by decide +kernel, rfl⟩
theorem qL_law_890 : Dq cL_law 890 (.iadd) 1 891 := ⟨by decide +kernel, rfl⟩
theorem qL_law_891 : Dq cL_law 891 (.iaload) 1 892 := ⟨by decide +kernel, rfl⟩
theorem qL_law_892 : Dq cL_law 892 (.invokevirtual 126) 3 895 := ⟨by decide +kernel, rfl⟩
theorem qL_law_895 : Dq cL_law 895 (.if_icmp .eq 240) 3 898 := ⟨by decide +kernel, rfl⟩
set_option maxRecDepth 100000 in
set_option maxHeartbeats 4000000 in
theorem law_26 {X : Cx} {G : Glb} {L : Nat} {xsc : Nat → Int32} {Q : State → Prop} (hl : LwX X G L xsc) {h : AHp} {E : Sst} {i c : Nat} (hi : i + 6 ≤ L) (hc64 : c < 64) (hI : LwI h E c) (kk : ∀ h' E', LwI h' E' (c + 1) → V X G 4 (58 + 6 * (c + 1)) (4289 + 6 * (c + 1)) Q 1135 [some (.ref 1000000), some (.ref 0), some (.ref 38), some (.int (nI i))] [] h') : V X G 4 (58 + 6 * c) (4289 + 6 * c) Q 877 [some (.ref 1000000), some (.ref 0), some (.ref 38), some (.int (nI i))] [] h := by
  obtain ⟨hc, hm, hN⟩ := hI
  obtain ⟨hX, hR, -⟩ := id hl
  refine v_aload_n hX rfl qL_law_877 ?_
  refine v_aload_n hX rfl qL_law_878 ?_
  refine v_iload_n hX rfl qL_law_879 ?_
  refine v_iconst hX li_1 qL_law_880 ?_
  refine v_iadd hX qL_law_881 ?_
  refine hl.sld (j := i + 1) (nI_add i 1) (by omega) qL_law_882 ?_
  refine v_callVL hX hR k_L_123 (hc.1.kd 0 rfl) (c_count (by exact hc) _) rfl (Nat.le_of_ble_eq_true rfl) rfl (Nat.le_of_ble_eq_true rfl) ⟨by omega, by omega⟩ qL_law_883 ?_
  rintro _ _ ⟨rfl, rfl⟩
  have hc1 := hc
  have hm1 := hm
  have hN1 := hN
  refine v_aload_n hX rfl qL_law_886 ?_
  refine v_aload_n hX rfl qL_law_887 ?_
  refine v_iload_n hX rfl qL_law_888 ?_
  refine v_iconst hX li_1 qL_law_889 ?_
  refine v_iadd hX qL_law_890 ?_
  refine hl.sld (j := i + 1) (nI_add i 1) (by omega) qL_law_891 ?_
  refine v_callVL hX hR k_L_126 (hm1.1.kd 38 rfl) (m_count (by exact hm1) _) rfl (Nat.le_of_ble_eq_true rfl) rfl (Nat.le_of_ble_eq_true rfl) ⟨by omega, by omega⟩ qL_law_892 ?_
  rintro _ _ ⟨rfl, rfl⟩
  have hc2 := hc1
  have hm2 := hm1
  have hN2 := hN1
  refine v_icmp_eq hX 1135 qL_law_895 rfl (fun q895 => ?_) (fun q895 => ?_)
  · skip
    refine v_widen (k' := 58 + 6 * (c + 1)) (n' := 4289 + 6 * (c + 1)) (by omega) (by omega) ?_
    exact kk _ _ (LwI.nx hc2 hm2 (Nat.le_trans hN2 (by omega)))
  · exact absurd rfl q895
theorem qL_law_900 : Dq cL_law 900 (.aload_n 1) 1 901 := ⟨by decide +kernel, rfl⟩
theorem qL_law_901 : Dq cL_law 901 (.aload_n 0) 1 902 := ⟨by decide +kernel, rfl⟩
theorem qL_law_902 : Dq cL_law 902 (.iload_n 3) 1 903 := ⟨by decide +kernel, rfl⟩
theorem qL_law_903 : Dq cL_law 903 (.iconst 1) 1 904 := ⟨by decide +kernel, rfl⟩
theorem qL_law_904 : Dq cL_law 904 (.iadd) 1 905 := ⟨by decide +kernel, rfl⟩
theorem qL_law_905 : Dq cL_law 905 (.iaload) 1 906 := ⟨by decide +kernel, rfl⟩
theorem qL_law_906 : Dq cL_law 906 (.aload_n 0) 1 907 := ⟨by decide +kernel, rfl⟩
theorem qL_law_907 : Dq cL_law 907 (.iload_n 3) 1 908 := ⟨by decide +kernel, rfl⟩
theorem qL_law_908 : Dq cL_law 908 (.iconst 2) 1 909 := ⟨by decide +kernel, rfl⟩
theorem qL_law_909 : Dq cL_law 909 (.iadd) 1 910 := ⟨by decide +kernel, rfl⟩
theorem qL_law_910 : Dq cL_law 910 (.iaload) 1 911 := ⟨by decide +kernel, rfl⟩
theorem qL_law_911 : Dq cL_law 911 (.aload_n 0) 1 912 := ⟨by decide +kernel, rfl⟩
theorem qL_law_912 : Dq cL_law 912 (.iload_n 3) 1 913 := ⟨by decide +kernel, rfl⟩
theorem qL_law_913 : Dq cL_law 913 (.iconst 3) 1 914 := ⟨by decide +kernel, rfl⟩
theorem qL_law_914 : Dq cL_law 914 (.iadd) 1 915 := ⟨by decide +kernel, rfl⟩
theorem qL_law_915 : Dq cL_law 915 (.iaload) 1 916 := ⟨by decide +kernel, rfl⟩
theorem qL_law_916 : Dq cL_law 916 (.invokevirtual 127) 3 919 := ⟨by decide +kernel, rfl⟩
theorem qL_law_919 : Dq cL_law 919 (.aload_n 2) 1 920 := ⟨by decide +kernel, rfl⟩
theorem qL_law_920 : Dq cL_law 920 (.aload_n 0) 1 921 := ⟨by decide +kernel, rfl⟩
theorem qL_law_921 : Dq cL_law 921 (.iload_n 3) 1 922 := ⟨by decide +kernel, rfl⟩
theorem qL_law_922 : Dq cL_law 922 (.iconst 1) 1 923 := ⟨by decide +kernel, rfl⟩
theorem qL_law_923 : Dq cL_law 923 (.iadd) 1 924 := ⟨by decide +kernel, rfl⟩
theorem qL_law_924 : Dq cL_law 924 (.iaload) 1 925 := ⟨by decide +kernel, rfl⟩
theorem qL_law_925 : Dq cL_law 925 (.aload_n 0) 1 926 := ⟨by decide +kernel, rfl⟩
theorem qL_law_926 : Dq cL_law 926 (.iload_n 3) 1 927 := ⟨by decide +kernel, rfl⟩
theorem qL_law_927 : Dq cL_law 927 (.iconst 2) 1 928 := ⟨by decide +kernel, rfl⟩
theorem qL_law_928 : Dq cL_law 928 (.iadd) 1 929 := ⟨by decide +kernel, rfl⟩
theorem qL_law_929 : Dq cL_law 929 (.iaload) 1 930 := ⟨by decide +kernel, rfl⟩
theorem qL_law_930 : Dq cL_law 930 (.aload_n 0) 1 931 := ⟨by decide +kernel, rfl⟩
theorem qL_law_931 : Dq cL_law 931 (.iload_n 3) 1 932 := ⟨by decide +kernel, rfl⟩
theorem qL_law_932 : Dq cL_law 932 (.iconst 3) 1 933 := ⟨by decide +kernel, rfl⟩
theorem qL_law_933 : Dq cL_law 933 (.iadd) 1 934 := ⟨by decide +kernel, rfl⟩
theorem qL_law_934 : Dq cL_law 934 (.iaload) 1 935 := ⟨by decide +kernel, rfl⟩
theorem qL_law_935 : Dq cL_law 935 (.invokevirtual 130) 3 938 := ⟨by decide +kernel, rfl⟩
theorem qL_law_938 : Dq cL_law 938 (.if_icmp .eq 197) 3 941 := ⟨by decide +kernel, rfl⟩
set_option maxRecDepth 100000 in
set_option maxHeartbeats 4000000 in
theorem law_27 {X : Cx} {G : Glb} {L : Nat} {xsc : Nat → Int32} {Q : State → Prop} (hl : LwX X G L xsc) {h : AHp} {E : Sst} {i c : Nat} (hi : i + 6 ≤ L) (hc64 : c < 64) (hI : LwI h E c) (kk : ∀ h' E', LwI h' E' (c + 1) → V X G 4 (58 + 6 * (c + 1)) (4289 + 6 * (c + 1)) Q 1135 [some (.ref 1000000), some (.ref 0), some (.ref 38), some (.int (nI i))] [] h') : V X G 4 (58 + 6 * c) (4289 + 6 * c) Q 900 [some (.ref 1000000), some (.ref 0), some (.ref 38), some (.int (nI i))] [] h := by
  obtain ⟨hc, hm, hN⟩ := hI
  obtain ⟨hX, hR, -⟩ := id hl
  refine v_aload_n hX rfl qL_law_900 ?_
  refine v_aload_n hX rfl qL_law_901 ?_
  refine v_iload_n hX rfl qL_law_902 ?_
  refine v_iconst hX li_1 qL_law_903 ?_
  refine v_iadd hX qL_law_904 ?_
  refine hl.sld (j := i + 1) (nI_add i 1) (by omega) qL_law_905 ?_
  refine v_aload_n hX rfl qL_law_906 ?_
  refine v_iload_n hX rfl qL_law_907 ?_
  refine v_iconst hX li_2 qL_law_908 ?_
  refine v_iadd hX qL_law_909 ?_
  refine hl.sld (j := i + 2) (nI_add i 2) (by omega) qL_law_910 ?_
  refine v_aload_n hX rfl qL_law_911 ?_
  refine v_iload_n hX rfl qL_law_912 ?_
  refine v_iconst hX li_3 qL_law_913 ?_
  refine v_iadd hX qL_law_914 ?_
  refine hl.sld (j := i + 3) (nI_add i 3) (by omega) qL_law_915 ?_
  refine v_callVL hX hR k_L_127 (hc.1.kd 0 rfl) (c_sheet (by exact hc) _ _ _) rfl (Nat.le_of_ble_eq_true rfl) rfl (Nat.le_of_ble_eq_true rfl) ⟨by omega, by omega⟩ qL_law_916 ?_
  rintro _ _ ⟨rfl, σ, rfl, hc1, k1⟩
  have hm1 := hm.k38 k1
  have hN1 : hpN (σ, h.2) ≤ 58 + 6 * c := hN
  refine v_aload_n hX rfl qL_law_919 ?_
  refine v_aload_n hX rfl qL_law_920 ?_
  refine v_iload_n hX rfl qL_law_921 ?_
  refine v_iconst hX li_1 qL_law_922 ?_
  refine v_iadd hX qL_law_923 ?_
  refine hl.sld (j := i + 1) (nI_add i 1) (by omega) qL_law_924 ?_
  refine v_aload_n hX rfl qL_law_925 ?_
  refine v_iload_n hX rfl qL_law_926 ?_
  refine v_iconst hX li_2 qL_law_927 ?_
  refine v_iadd hX qL_law_928 ?_
  refine hl.sld (j := i + 2) (nI_add i 2) (by omega) qL_law_929 ?_
  refine v_aload_n hX rfl qL_law_930 ?_
  refine v_iload_n hX rfl qL_law_931 ?_
  refine v_iconst hX li_3 qL_law_932 ?_
  refine v_iadd hX qL_law_933 ?_
  refine hl.sld (j := i + 3) (nI_add i 3) (by omega) qL_law_934 ?_
  refine v_callVL hX hR k_L_130 (hm1.1.kd 38 rfl) (m_sheet (by exact hm1) _ _ _) rfl (Nat.le_of_ble_eq_true rfl) rfl (Nat.le_of_ble_eq_true rfl) ⟨by omega, by omega⟩ qL_law_935 ?_
  rintro _ _ ⟨rfl, σ2, J2, rfl, hm2, k2⟩
  have hc2 := hc1.k58 hm1.1 k2
  have hN2 := hN1
  refine v_icmp_eq hX 1135 qL_law_938 rfl (fun q938 => ?_) (fun q938 => ?_)
  · skip
    refine v_widen (k' := 58 + 6 * (c + 1)) (n' := 4289 + 6 * (c + 1)) (by omega) (by omega) ?_
    exact kk _ _ (LwI.nx hc2 hm2 (Nat.le_trans hN2 (by omega)))
  · exact absurd rfl q938
theorem qL_law_943 : Dq cL_law 943 (.aload_n 1) 1 944 := ⟨by decide +kernel, rfl⟩
theorem qL_law_944 : Dq cL_law 944 (.aload_n 0) 1 945 := ⟨by decide +kernel, rfl⟩
theorem qL_law_945 : Dq cL_law 945 (.iload_n 3) 1 946 := ⟨by decide +kernel, rfl⟩
theorem qL_law_946 : Dq cL_law 946 (.iconst 1) 1 947 := ⟨by decide +kernel, rfl⟩
theorem qL_law_947 : Dq cL_law 947 (.iadd) 1 948 := ⟨by decide +kernel, rfl⟩
theorem qL_law_948 : Dq cL_law 948 (.iaload) 1 949 := ⟨by decide +kernel, rfl⟩
theorem qL_law_949 : Dq cL_law 949 (.aload_n 0) 1 950 := ⟨by decide +kernel, rfl⟩
theorem qL_law_950 : Dq cL_law 950 (.iload_n 3) 1 951 := ⟨by decide +kernel, rfl⟩
theorem qL_law_951 : Dq cL_law 951 (.iconst 2) 1 952 := ⟨by decide +kernel, rfl⟩
theorem qL_law_952 : Dq cL_law 952 (.iadd) 1 953 := ⟨by decide +kernel, rfl⟩
theorem qL_law_953 : Dq cL_law 953 (.iaload) 1 954 := ⟨by decide +kernel, rfl⟩
theorem qL_law_954 : Dq cL_law 954 (.aload_n 0) 1 955 := ⟨by decide +kernel, rfl⟩
theorem qL_law_955 : Dq cL_law 955 (.iload_n 3) 1 956 := ⟨by decide +kernel, rfl⟩
theorem qL_law_956 : Dq cL_law 956 (.iconst 3) 1 957 := ⟨by decide +kernel, rfl⟩
theorem qL_law_957 : Dq cL_law 957 (.iadd) 1 958 := ⟨by decide +kernel, rfl⟩
theorem qL_law_958 : Dq cL_law 958 (.iaload) 1 959 := ⟨by decide +kernel, rfl⟩
theorem qL_law_959 : Dq cL_law 959 (.invokevirtual 131) 3 962 := ⟨by decide +kernel, rfl⟩
theorem qL_law_962 : Dq cL_law 962 (.aload_n 2) 1 963 := ⟨by decide +kernel, rfl⟩
theorem qL_law_963 : Dq cL_law 963 (.aload_n 0) 1 964 := ⟨by decide +kernel, rfl⟩
theorem qL_law_964 : Dq cL_law 964 (.iload_n 3) 1 965 := ⟨by decide +kernel, rfl⟩
theorem qL_law_965 : Dq cL_law 965 (.iconst 1) 1 966 := ⟨by decide +kernel, rfl⟩
theorem qL_law_966 : Dq cL_law 966 (.iadd) 1 967 := ⟨by decide +kernel, rfl⟩
theorem qL_law_967 : Dq cL_law 967 (.iaload) 1 968 := ⟨by decide +kernel, rfl⟩
theorem qL_law_968 : Dq cL_law 968 (.aload_n 0) 1 969 := ⟨by decide +kernel, rfl⟩
theorem qL_law_969 : Dq cL_law 969 (.iload_n 3) 1 970 := ⟨by decide +kernel, rfl⟩
theorem qL_law_970 : Dq cL_law 970 (.iconst 2) 1 971 := ⟨by decide +kernel, rfl⟩
theorem qL_law_971 : Dq cL_law 971 (.iadd) 1 972 := ⟨by decide +kernel, rfl⟩
theorem qL_law_972 : Dq cL_law 972 (.iaload) 1 973 := ⟨by decide +kernel, rfl⟩
theorem qL_law_973 : Dq cL_law 973 (.aload_n 0) 1 974 := ⟨by decide +kernel, rfl⟩
theorem qL_law_974 : Dq cL_law 974 (.iload_n 3) 1 975 := ⟨by decide +kernel, rfl⟩
theorem qL_law_975 : Dq cL_law 975 (.iconst 3) 1 976 := ⟨by decide +kernel, rfl⟩
theorem qL_law_976 : Dq cL_law 976 (.iadd) 1 977 := ⟨by decide +kernel, rfl⟩
theorem qL_law_977 : Dq cL_law 977 (.iaload) 1 978 := ⟨by decide +kernel, rfl⟩
theorem qL_law_978 : Dq cL_law 978 (.invokevirtual 134) 3 981 := ⟨by decide +kernel, rfl⟩
theorem qL_law_981 : Dq cL_law 981 (.if_icmp .eq 154) 3 984 := ⟨by decide +kernel, rfl⟩
set_option maxRecDepth 100000 in
set_option maxHeartbeats 4000000 in
theorem law_28 {X : Cx} {G : Glb} {L : Nat} {xsc : Nat → Int32} {Q : State → Prop} (hl : LwX X G L xsc) {h : AHp} {E : Sst} {i c : Nat} (hi : i + 6 ≤ L) (hc64 : c < 64) (hI : LwI h E c) (kk : ∀ h' E', LwI h' E' (c + 1) → V X G 4 (58 + 6 * (c + 1)) (4289 + 6 * (c + 1)) Q 1135 [some (.ref 1000000), some (.ref 0), some (.ref 38), some (.int (nI i))] [] h') : V X G 4 (58 + 6 * c) (4289 + 6 * c) Q 943 [some (.ref 1000000), some (.ref 0), some (.ref 38), some (.int (nI i))] [] h := by
  obtain ⟨hc, hm, hN⟩ := hI
  obtain ⟨hX, hR, -⟩ := id hl
  refine v_aload_n hX rfl qL_law_943 ?_
  refine v_aload_n hX rfl qL_law_944 ?_
  refine v_iload_n hX rfl qL_law_945 ?_
  refine v_iconst hX li_1 qL_law_946 ?_
  refine v_iadd hX qL_law_947 ?_
  refine hl.sld (j := i + 1) (nI_add i 1) (by omega) qL_law_948 ?_
  refine v_aload_n hX rfl qL_law_949 ?_
  refine v_iload_n hX rfl qL_law_950 ?_
  refine v_iconst hX li_2 qL_law_951 ?_
  refine v_iadd hX qL_law_952 ?_
  refine hl.sld (j := i + 2) (nI_add i 2) (by omega) qL_law_953 ?_
  refine v_aload_n hX rfl qL_law_954 ?_
  refine v_iload_n hX rfl qL_law_955 ?_
  refine v_iconst hX li_3 qL_law_956 ?_
  refine v_iadd hX qL_law_957 ?_
  refine hl.sld (j := i + 3) (nI_add i 3) (by omega) qL_law_958 ?_
  refine v_callVL hX hR k_L_131 (hc.1.kd 0 rfl) (c_cell (by exact hc) _ _ _) rfl (Nat.le_of_ble_eq_true rfl) rfl (Nat.le_of_ble_eq_true rfl) ⟨by omega, by omega⟩ qL_law_959 ?_
  rintro _ _ ⟨rfl, σ, rfl, hc1, k1⟩
  have hm1 := hm.k38 k1
  have hN1 : hpN (σ, h.2) ≤ 58 + 6 * c := hN
  refine v_aload_n hX rfl qL_law_962 ?_
  refine v_aload_n hX rfl qL_law_963 ?_
  refine v_iload_n hX rfl qL_law_964 ?_
  refine v_iconst hX li_1 qL_law_965 ?_
  refine v_iadd hX qL_law_966 ?_
  refine hl.sld (j := i + 1) (nI_add i 1) (by omega) qL_law_967 ?_
  refine v_aload_n hX rfl qL_law_968 ?_
  refine v_iload_n hX rfl qL_law_969 ?_
  refine v_iconst hX li_2 qL_law_970 ?_
  refine v_iadd hX qL_law_971 ?_
  refine hl.sld (j := i + 2) (nI_add i 2) (by omega) qL_law_972 ?_
  refine v_aload_n hX rfl qL_law_973 ?_
  refine v_iload_n hX rfl qL_law_974 ?_
  refine v_iconst hX li_3 qL_law_975 ?_
  refine v_iadd hX qL_law_976 ?_
  refine hl.sld (j := i + 3) (nI_add i 3) (by omega) qL_law_977 ?_
  refine v_callVL hX hR k_L_134 (hm1.1.kd 38 rfl) (m_cell (by exact hm1) _ _ _) rfl (Nat.le_of_ble_eq_true rfl) rfl (Nat.le_of_ble_eq_true rfl) ⟨by omega, by omega⟩ qL_law_978 ?_
  rintro _ _ ⟨rfl, σ2, J2, rfl, hm2, k2⟩
  have hc2 := hc1.k58 hm1.1 k2
  have hN2 := hN1
  refine v_icmp_eq hX 1135 qL_law_981 rfl (fun q981 => ?_) (fun q981 => ?_)
  · skip
    refine v_widen (k' := 58 + 6 * (c + 1)) (n' := 4289 + 6 * (c + 1)) (by omega) (by omega) ?_
    exact kk _ _ (LwI.nx hc2 hm2 (Nat.le_trans hN2 (by omega)))
  · exact absurd rfl q981
theorem qL_law_986 : Dq cL_law 986 (.aload_n 1) 1 987 := ⟨by decide +kernel, rfl⟩
theorem qL_law_987 : Dq cL_law 987 (.aload_n 0) 1 988 := ⟨by decide +kernel, rfl⟩
theorem qL_law_988 : Dq cL_law 988 (.iload_n 3) 1 989 := ⟨by decide +kernel, rfl⟩
theorem qL_law_989 : Dq cL_law 989 (.iconst 1) 1 990 := ⟨by decide +kernel, rfl⟩
theorem qL_law_990 : Dq cL_law 990 (.iadd) 1 991 := ⟨by decide +kernel, rfl⟩
theorem qL_law_991 : Dq cL_law 991 (.iaload) 1 992 := ⟨by decide +kernel, rfl⟩
theorem qL_law_992 : Dq cL_law 992 (.aload_n 0) 1 993 := ⟨by decide +kernel, rfl⟩
theorem qL_law_993 : Dq cL_law 993 (.iload_n 3) 1 994 := ⟨by decide +kernel, rfl⟩
theorem qL_law_994 : Dq cL_law 994 (.iconst 2) 1 995 := ⟨by decide +kernel, rfl⟩
theorem qL_law_995 : Dq cL_law 995 (.iadd) 1 996 := ⟨by decide +kernel, rfl⟩
theorem qL_law_996 : Dq cL_law 996 (.iaload) 1 997 := ⟨by decide +kernel, rfl⟩
theorem qL_law_997 : Dq cL_law 997 (.aload_n 0) 1 998 := ⟨by decide +kernel, rfl⟩
theorem qL_law_998 : Dq cL_law 998 (.iload_n 3) 1 999 := ⟨by decide +kernel, rfl⟩
theorem qL_law_999 : Dq cL_law 999 (.iconst 3) 1 1000 := ⟨by decide +kernel, rfl⟩
theorem qL_law_1000 : Dq cL_law 1000 (.iadd) 1 1001 := ⟨by decide +kernel, rfl⟩
theorem qL_law_1001 : Dq cL_law 1001 (.iaload) 1 1002 := ⟨by decide +kernel, rfl⟩
theorem qL_law_1002 : Dq cL_law 1002 (.aload_n 0) 1 1003 := ⟨by decide +kernel, rfl⟩
theorem qL_law_1003 : Dq cL_law 1003 (.iload_n 3) 1 1004 := ⟨by decide +kernel, rfl⟩
theorem qL_law_1004 : Dq cL_law 1004 (.iconst 4) 1 1005 := ⟨by decide +kernel, rfl⟩
theorem qL_law_1005 : Dq cL_law 1005 (.iadd) 1 1006 := ⟨by decide +kernel, rfl⟩
theorem qL_law_1006 : Dq cL_law 1006 (.iaload) 1 1007 := ⟨by decide +kernel, rfl⟩
theorem qL_law_1007 : Dq cL_law 1007 (.aload_n 0) 1 1008 := ⟨by decide +kernel, rfl⟩
theorem qL_law_1008 : Dq cL_law 1008 (.iload_n 3) 1 1009 := ⟨by decide +kernel, rfl⟩
theorem qL_law_1009 : Dq cL_law 1009 (.iconst 5) 1 1010 := ⟨by decide +kernel, rfl⟩
theorem qL_law_1010 : Dq cL_law 1010 (.iadd) 1 1011 := ⟨by decide +kernel, rfl⟩
theorem qL_law_1011 : Dq cL_law 1011 (.iaload) 1 1012 := ⟨by decide +kernel, rfl⟩
theorem qL_law_1012 : Dq cL_law 1012 (.invokevirtual 135) 3 1015 := ⟨by decide +kernel, rfl⟩
theorem qL_law_1015 : Dq cL_law 1015 (.aload_n 2) 1 1016 := ⟨by decide +kernel, rfl⟩
theorem qL_law_1016 : Dq cL_law 1016 (.aload_n 0) 1 1017 := ⟨by decide +kernel, rfl⟩
theorem qL_law_1017 : Dq cL_law 1017 (.iload_n 3) 1 1018 := ⟨by decide +kernel, rfl⟩
theorem qL_law_1018 : Dq cL_law 1018 (.iconst 1) 1 1019 := ⟨by decide +kernel, rfl⟩
theorem qL_law_1019 : Dq cL_law 1019 (.iadd) 1 1020 := ⟨by decide +kernel, rfl⟩
theorem qL_law_1020 : Dq cL_law 1020 (.iaload) 1 1021 := ⟨by decide +kernel, rfl⟩
theorem qL_law_1021 : Dq cL_law 1021 (.aload_n 0) 1 1022 := ⟨by decide +kernel, rfl⟩
theorem qL_law_1022 : Dq cL_law 1022 (.iload_n 3) 1 1023 := ⟨by decide +kernel, rfl⟩
theorem qL_law_1023 : Dq cL_law 1023 (.iconst 2) 1 1024 := ⟨by decide +kernel, rfl⟩
theorem qL_law_1024 : Dq cL_law 1024 (.iadd) 1 1025 := ⟨by decide +kernel, rfl⟩
theorem qL_law_1025 : Dq cL_law 1025 (.iaload) 1 1026 := ⟨by decide +kernel, rfl⟩
theorem qL_law_1026 : Dq cL_law 1026 (.aload_n 0) 1 1027 := ⟨by decide +kernel, rfl⟩
theorem qL_law_1027 : Dq cL_law 1027 (.iload_n 3) 1 1028 := ⟨by decide +kernel, rfl⟩
theorem qL_law_1028 : Dq cL_law 1028 (.iconst 3) 1 1029 := ⟨by decide +kernel, rfl⟩
theorem qL_law_1029 : Dq cL_law 1029 (.iadd) 1 1030 := ⟨by decide +kernel, rfl⟩
theorem qL_law_1030 : Dq cL_law 1030 (.iaload) 1 1031 := ⟨by decide +kernel, rfl⟩
theorem qL_law_1031 : Dq cL_law 1031 (.aload_n 0) 1 1032 := ⟨by decide +kernel, rfl⟩
theorem qL_law_1032 : Dq cL_law 1032 (.iload_n 3) 1 1033 := ⟨by decide +kernel, rfl⟩
theorem qL_law_1033 : Dq cL_law 1033 (.iconst 4) 1 1034 := ⟨by decide +kernel, rfl⟩
theorem qL_law_1034 : Dq cL_law 1034 (.iadd) 1 1035 := ⟨by decide +kernel, rfl⟩
theorem qL_law_1035 : Dq cL_law 1035 (.iaload) 1 1036 := ⟨by decide +kernel, rfl⟩
theorem qL_law_1036 : Dq cL_law 1036 (.aload_n 0) 1 1037 := ⟨by decide +kernel, rfl⟩
theorem qL_law_1037 : Dq cL_law 1037 (.iload_n 3) 1 1038 := ⟨by decide +kernel, rfl⟩
theorem qL_law_1038 : Dq cL_law 1038 (.iconst 5) 1 1039 := ⟨by decide +kernel, rfl⟩
theorem qL_law_1039 : Dq cL_law 1039 (.iadd) 1 1040 := ⟨by decide +kernel, rfl⟩
theorem qL_law_1040 : Dq cL_law 1040 (.iaload) 1 1041 := ⟨by decide +kernel, rfl⟩
theorem qL_law_1041 : Dq cL_law 1041 (.invokevirtual 139) 3 1044 := ⟨by decide +kernel, rfl⟩
theorem qL_law_1044 : Dq cL_law 1044 (.if_icmp .eq 91) 3 1047 := ⟨by decide +kernel, rfl⟩
set_option maxRecDepth 100000 in
set_option maxHeartbeats 4000000 in
theorem law_29 {X : Cx} {G : Glb} {L : Nat} {xsc : Nat → Int32} {Q : State → Prop} (hl : LwX X G L xsc) {h : AHp} {E : Sst} {i c : Nat} (hi : i + 6 ≤ L) (hc64 : c < 64) (hI : LwI h E c) (kk : ∀ h' E', LwI h' E' (c + 1) → V X G 4 (58 + 6 * (c + 1)) (4289 + 6 * (c + 1)) Q 1135 [some (.ref 1000000), some (.ref 0), some (.ref 38), some (.int (nI i))] [] h') : V X G 4 (58 + 6 * c) (4289 + 6 * c) Q 986 [some (.ref 1000000), some (.ref 0), some (.ref 38), some (.int (nI i))] [] h := by
  obtain ⟨hc, hm, hN⟩ := hI
  obtain ⟨hX, hR, -⟩ := id hl
  refine v_aload_n hX rfl qL_law_986 ?_
  refine v_aload_n hX rfl qL_law_987 ?_
  refine v_iload_n hX rfl qL_law_988 ?_
  refine v_iconst hX li_1 qL_law_989 ?_
  refine v_iadd hX qL_law_990 ?_
  refine hl.sld (j := i + 1) (nI_add i 1) (by omega) qL_law_991 ?_
  refine v_aload_n hX rfl qL_law_992 ?_
  refine v_iload_n hX rfl qL_law_993 ?_
  refine v_iconst hX li_2 qL_law_994 ?_
  refine v_iadd hX qL_law_995 ?_
  refine hl.sld (j := i + 2) (nI_add i 2) (by omega) qL_law_996 ?_
  refine v_aload_n hX rfl qL_law_997 ?_
  refine v_iload_n hX rfl qL_law_998 ?_
  refine v_iconst hX li_3 qL_law_999 ?_
  refine v_iadd hX qL_law_1000 ?_
  refine hl.sld (j := i + 3) (nI_add i 3) (by omega) qL_law_1001 ?_
  refine v_aload_n hX rfl qL_law_1002 ?_
  refine v_iload_n hX rfl qL_law_1003 ?_
  refine v_iconst hX li_4 qL_law_1004 ?_
  refine v_iadd hX qL_law_1005 ?_
  refine hl.sld (j := i + 4) (nI_add i 4) (by omega) qL_law_1006 ?_
  refine v_aload_n hX rfl qL_law_1007 ?_
  refine v_iload_n hX rfl qL_law_1008 ?_
  refine v_iconst hX li_5 qL_law_1009 ?_
  refine v_iadd hX qL_law_1010 ?_
  refine hl.sld (j := i + 5) (nI_add i 5) (by omega) qL_law_1011 ?_
  refine v_callVL hX hR k_L_135 (hc.1.kd 0 rfl) (c_copy (by exact hc) _ _ _ _ _) rfl (Nat.le_of_ble_eq_true rfl) rfl (Nat.le_of_ble_eq_true rfl) ⟨by omega, by omega⟩ qL_law_1012 ?_
  rintro _ _ ⟨rfl, σ, rfl, hc1, k1⟩
  have hm1 := hm.k38 k1
  have hN1 : hpN (σ, h.2) ≤ 58 + 6 * c := hN
  refine v_aload_n hX rfl qL_law_1015 ?_
  refine v_aload_n hX rfl qL_law_1016 ?_
  refine v_iload_n hX rfl qL_law_1017 ?_
  refine v_iconst hX li_1 qL_law_1018 ?_
  refine v_iadd hX qL_law_1019 ?_
  refine hl.sld (j := i + 1) (nI_add i 1) (by omega) qL_law_1020 ?_
  refine v_aload_n hX rfl qL_law_1021 ?_
  refine v_iload_n hX rfl qL_law_1022 ?_
  refine v_iconst hX li_2 qL_law_1023 ?_
  refine v_iadd hX qL_law_1024 ?_
  refine hl.sld (j := i + 2) (nI_add i 2) (by omega) qL_law_1025 ?_
  refine v_aload_n hX rfl qL_law_1026 ?_
  refine v_iload_n hX rfl qL_law_1027 ?_
  refine v_iconst hX li_3 qL_law_1028 ?_
  refine v_iadd hX qL_law_1029 ?_
  refine hl.sld (j := i + 3) (nI_add i 3) (by omega) qL_law_1030 ?_
  refine v_aload_n hX rfl qL_law_1031 ?_
  refine v_iload_n hX rfl qL_law_1032 ?_
  refine v_iconst hX li_4 qL_law_1033 ?_
  refine v_iadd hX qL_law_1034 ?_
  refine hl.sld (j := i + 4) (nI_add i 4) (by omega) qL_law_1035 ?_
  refine v_aload_n hX rfl qL_law_1036 ?_
  refine v_iload_n hX rfl qL_law_1037 ?_
  refine v_iconst hX li_5 qL_law_1038 ?_
  refine v_iadd hX qL_law_1039 ?_
  refine hl.sld (j := i + 5) (nI_add i 5) (by omega) qL_law_1040 ?_
  refine v_callVL hX hR k_L_139 (hm1.1.kd 38 rfl) (m_copy (by exact hm1) _ _ _ _ _) rfl (Nat.le_of_ble_eq_true rfl) rfl (Nat.le_of_ble_eq_true rfl) ⟨by omega, by omega⟩ qL_law_1041 ?_
  rintro _ _ ⟨rfl, σ2, J2, rfl, hm2, k2⟩
  have hc2 := hc1.k58 hm1.1 k2
  have hN2 := hN1
  refine v_icmp_eq hX 1135 qL_law_1044 rfl (fun q1044 => ?_) (fun q1044 => ?_)
  · skip
    refine v_widen (k' := 58 + 6 * (c + 1)) (n' := 4289 + 6 * (c + 1)) (by omega) (by omega) ?_
    exact kk _ _ (LwI.nx hc2 hm2 (Nat.le_trans hN2 (by omega)))
  · exact absurd rfl q1044
theorem qL_law_1049 : Dq cL_law 1049 (.aload_n 1) 1 1050 := ⟨by decide +kernel, rfl⟩
theorem qL_law_1050 : Dq cL_law 1050 (.aload_n 0) 1 1051 := ⟨by decide +kernel, rfl⟩
theorem qL_law_1051 : Dq cL_law 1051 (.iload_n 3) 1 1052 := ⟨by decide +kernel, rfl⟩
theorem qL_law_1052 : Dq cL_law 1052 (.iconst 1) 1 1053 := ⟨by decide +kernel, rfl⟩
theorem qL_law_1053 : Dq cL_law 1053 (.iadd) 1 1054 := ⟨by decide +kernel, rfl⟩
theorem qL_law_1054 : Dq cL_law 1054 (.iaload) 1 1055 := ⟨by decide +kernel, rfl⟩
theorem qL_law_1055 : Dq cL_law 1055 (.aload_n 0) 1 1056 := ⟨by decide +kernel, rfl⟩
theorem qL_law_1056 : Dq cL_law 1056 (.iload_n 3) 1 1057 := ⟨by decide +kernel, rfl⟩
theorem qL_law_1057 : Dq cL_law 1057 (.iconst 2) 1 1058 := ⟨by decide +kernel, rfl⟩
theorem qL_law_1058 : Dq cL_law 1058 (.iadd) 1 1059 := ⟨by decide +kernel, rfl⟩
theorem qL_law_1059 : Dq cL_law 1059 (.iaload) 1 1060 := ⟨by decide +kernel, rfl⟩
theorem qL_law_1060 : Dq cL_law 1060 (.aload_n 0) 1 1061 := ⟨by decide +kernel, rfl⟩
theorem qL_law_1061 : Dq cL_law 1061 (.iload_n 3) 1 1062 := ⟨by decide +kernel, rfl⟩
theorem qL_law_1062 : Dq cL_law 1062 (.iconst 3) 1 1063 := ⟨by decide +kernel, rfl⟩
theorem qL_law_1063 : Dq cL_law 1063 (.iadd) 1 1064 := ⟨by decide +kernel, rfl⟩
theorem qL_law_1064 : Dq cL_law 1064 (.iaload) 1 1065 := ⟨by decide +kernel, rfl⟩
theorem qL_law_1065 : Dq cL_law 1065 (.aload_n 0) 1 1066 := ⟨by decide +kernel, rfl⟩
theorem qL_law_1066 : Dq cL_law 1066 (.iload_n 3) 1 1067 := ⟨by decide +kernel, rfl⟩
theorem qL_law_1067 : Dq cL_law 1067 (.iconst 4) 1 1068 := ⟨by decide +kernel, rfl⟩
theorem qL_law_1068 : Dq cL_law 1068 (.iadd) 1 1069 := ⟨by decide +kernel, rfl⟩
theorem qL_law_1069 : Dq cL_law 1069 (.iaload) 1 1070 := ⟨by decide +kernel, rfl⟩
theorem qL_law_1070 : Dq cL_law 1070 (.invokevirtual 140) 3 1073 := ⟨by decide +kernel, rfl⟩
theorem qL_law_1073 : Dq cL_law 1073 (.aload_n 2) 1 1074 := ⟨by decide +kernel, rfl⟩
theorem qL_law_1074 : Dq cL_law 1074 (.aload_n 0) 1 1075 := ⟨by decide +kernel, rfl⟩
theorem qL_law_1075 : Dq cL_law 1075 (.iload_n 3) 1 1076 := ⟨by decide +kernel, rfl⟩
theorem qL_law_1076 : Dq cL_law 1076 (.iconst 1) 1 1077 := ⟨by decide +kernel, rfl⟩
theorem qL_law_1077 : Dq cL_law 1077 (.iadd) 1 1078 := ⟨by decide +kernel, rfl⟩
theorem qL_law_1078 : Dq cL_law 1078 (.iaload) 1 1079 := ⟨by decide +kernel, rfl⟩
theorem qL_law_1079 : Dq cL_law 1079 (.aload_n 0) 1 1080 := ⟨by decide +kernel, rfl⟩
theorem qL_law_1080 : Dq cL_law 1080 (.iload_n 3) 1 1081 := ⟨by decide +kernel, rfl⟩
theorem qL_law_1081 : Dq cL_law 1081 (.iconst 2) 1 1082 := ⟨by decide +kernel, rfl⟩
theorem qL_law_1082 : Dq cL_law 1082 (.iadd) 1 1083 := ⟨by decide +kernel, rfl⟩
theorem qL_law_1083 : Dq cL_law 1083 (.iaload) 1 1084 := ⟨by decide +kernel, rfl⟩
theorem qL_law_1084 : Dq cL_law 1084 (.aload_n 0) 1 1085 := ⟨by decide +kernel, rfl⟩
theorem qL_law_1085 : Dq cL_law 1085 (.iload_n 3) 1 1086 := ⟨by decide +kernel, rfl⟩
theorem qL_law_1086 : Dq cL_law 1086 (.iconst 3) 1 1087 := ⟨by decide +kernel, rfl⟩
theorem qL_law_1087 : Dq cL_law 1087 (.iadd) 1 1088 := ⟨by decide +kernel, rfl⟩
theorem qL_law_1088 : Dq cL_law 1088 (.iaload) 1 1089 := ⟨by decide +kernel, rfl⟩
theorem qL_law_1089 : Dq cL_law 1089 (.aload_n 0) 1 1090 := ⟨by decide +kernel, rfl⟩
theorem qL_law_1090 : Dq cL_law 1090 (.iload_n 3) 1 1091 := ⟨by decide +kernel, rfl⟩
theorem qL_law_1091 : Dq cL_law 1091 (.iconst 4) 1 1092 := ⟨by decide +kernel, rfl⟩
theorem qL_law_1092 : Dq cL_law 1092 (.iadd) 1 1093 := ⟨by decide +kernel, rfl⟩
theorem qL_law_1093 : Dq cL_law 1093 (.iaload) 1 1094 := ⟨by decide +kernel, rfl⟩
theorem qL_law_1094 : Dq cL_law 1094 (.invokevirtual 144) 3 1097 := ⟨by decide +kernel, rfl⟩
theorem qL_law_1097 : Dq cL_law 1097 (.if_icmp .eq 38) 3 1100 := ⟨by decide +kernel, rfl⟩
set_option maxRecDepth 100000 in
set_option maxHeartbeats 4000000 in
theorem law_30 {X : Cx} {G : Glb} {L : Nat} {xsc : Nat → Int32} {Q : State → Prop} (hl : LwX X G L xsc) {h : AHp} {E : Sst} {i c : Nat} (hi : i + 6 ≤ L) (hc64 : c < 64) (hI : LwI h E c) (kk : ∀ h' E', LwI h' E' (c + 1) → V X G 4 (58 + 6 * (c + 1)) (4289 + 6 * (c + 1)) Q 1135 [some (.ref 1000000), some (.ref 0), some (.ref 38), some (.int (nI i))] [] h') : V X G 4 (58 + 6 * c) (4289 + 6 * c) Q 1049 [some (.ref 1000000), some (.ref 0), some (.ref 38), some (.int (nI i))] [] h := by
  obtain ⟨hc, hm, hN⟩ := hI
  obtain ⟨hX, hR, -⟩ := id hl
  refine v_aload_n hX rfl qL_law_1049 ?_
  refine v_aload_n hX rfl qL_law_1050 ?_
  refine v_iload_n hX rfl qL_law_1051 ?_
  refine v_iconst hX li_1 qL_law_1052 ?_
  refine v_iadd hX qL_law_1053 ?_
  refine hl.sld (j := i + 1) (nI_add i 1) (by omega) qL_law_1054 ?_
  refine v_aload_n hX rfl qL_law_1055 ?_
  refine v_iload_n hX rfl qL_law_1056 ?_
  refine v_iconst hX li_2 qL_law_1057 ?_
  refine v_iadd hX qL_law_1058 ?_
  refine hl.sld (j := i + 2) (nI_add i 2) (by omega) qL_law_1059 ?_
  refine v_aload_n hX rfl qL_law_1060 ?_
  refine v_iload_n hX rfl qL_law_1061 ?_
  refine v_iconst hX li_3 qL_law_1062 ?_
  refine v_iadd hX qL_law_1063 ?_
  refine hl.sld (j := i + 3) (nI_add i 3) (by omega) qL_law_1064 ?_
  refine v_aload_n hX rfl qL_law_1065 ?_
  refine v_iload_n hX rfl qL_law_1066 ?_
  refine v_iconst hX li_4 qL_law_1067 ?_
  refine v_iadd hX qL_law_1068 ?_
  refine hl.sld (j := i + 4) (nI_add i 4) (by omega) qL_law_1069 ?_
  refine v_callVL' hX hR k_L_140 (hc.1.kd 0 rfl) (c_lookers (by exact hc) (by omega) _ _ _ _) rfl (Nat.le_of_ble_eq_true rfl) rfl (Nat.le_of_ble_eq_true rfl) ⟨by omega, by omega⟩ qL_law_1070 ?_
  rintro _ _ ⟨rfl, hc1, k1, n1⟩
  have hm1 := hm.kp k1
  have hN1 : hpN _ ≤ 58 + 6 * c + 6 := Nat.le_trans n1 (by omega)
  refine v_aload_n hX rfl qL_law_1073 ?_
  refine v_aload_n hX rfl qL_law_1074 ?_
  refine v_iload_n hX rfl qL_law_1075 ?_
  refine v_iconst hX li_1 qL_law_1076 ?_
  refine v_iadd hX qL_law_1077 ?_
  refine hl.sld (j := i + 1) (nI_add i 1) (by omega) qL_law_1078 ?_
  refine v_aload_n hX rfl qL_law_1079 ?_
  refine v_iload_n hX rfl qL_law_1080 ?_
  refine v_iconst hX li_2 qL_law_1081 ?_
  refine v_iadd hX qL_law_1082 ?_
  refine hl.sld (j := i + 2) (nI_add i 2) (by omega) qL_law_1083 ?_
  refine v_aload_n hX rfl qL_law_1084 ?_
  refine v_iload_n hX rfl qL_law_1085 ?_
  refine v_iconst hX li_3 qL_law_1086 ?_
  refine v_iadd hX qL_law_1087 ?_
  refine hl.sld (j := i + 3) (nI_add i 3) (by omega) qL_law_1088 ?_
  refine v_aload_n hX rfl qL_law_1089 ?_
  refine v_iload_n hX rfl qL_law_1090 ?_
  refine v_iconst hX li_4 qL_law_1091 ?_
  refine v_iadd hX qL_law_1092 ?_
  refine hl.sld (j := i + 4) (nI_add i 4) (by omega) qL_law_1093 ?_
  refine v_callVL hX hR k_L_144 (hm1.1.kd 38 rfl) (m_lookers (by exact hm1) _ _ _ _) rfl (Nat.le_of_ble_eq_true rfl) rfl (Nat.le_of_ble_eq_true rfl) ⟨by omega, by omega⟩ qL_law_1094 ?_
  rintro _ _ ⟨rfl, σ2, J2, rfl, hm2, k2⟩
  have hc2 := hc1.k58 hm1.1 k2
  have hN2 := hN1
  refine v_icmp_eq hX 1135 qL_law_1097 rfl (fun q1097 => ?_) (fun q1097 => ?_)
  · skip
    refine v_widen (k' := 58 + 6 * (c + 1)) (n' := 4289 + 6 * (c + 1)) (by omega) (by omega) ?_
    exact kk _ _ (LwI.nx hc2 hm2 (Nat.le_trans hN2 (by omega)))
  · exact absurd rfl q1097
theorem qL_law_1102 : Dq cL_law 1102 (.aload_n 1) 1 1103 := ⟨by decide +kernel, rfl⟩
theorem qL_law_1103 : Dq cL_law 1103 (.aload_n 0) 1 1104 := ⟨by decide +kernel, rfl⟩
theorem qL_law_1104 : Dq cL_law 1104 (.iload_n 3) 1 1105 := ⟨by decide +kernel, rfl⟩
theorem qL_law_1105 : Dq cL_law 1105 (.iconst 1) 1 1106 := ⟨by decide +kernel, rfl⟩
theorem qL_law_1106 : Dq cL_law 1106 (.iadd) 1 1107 := ⟨by decide +kernel, rfl⟩
theorem qL_law_1107 : Dq cL_law 1107 (.iaload) 1 1108 := ⟨by decide +kernel, rfl⟩
theorem qL_law_1108 : Dq cL_law 1108 (.aload_n 0) 1 1109 := ⟨by decide +kernel, rfl⟩
theorem qL_law_1109 : Dq cL_law 1109 (.iload_n 3) 1 1110 := ⟨by decide +kernel, rfl⟩
theorem qL_law_1110 : Dq cL_law 1110 (.iconst 2) 1 1111 := ⟨by decide +kernel, rfl⟩
theorem qL_law_1111 : Dq cL_law 1111 (.iadd) 1 1112 := ⟨by decide +kernel, rfl⟩
theorem qL_law_1112 : Dq cL_law 1112 (.iaload) 1 1113 := ⟨by decide +kernel, rfl⟩
theorem qL_law_1113 : Dq cL_law 1113 (.invokevirtual 145) 3 1116 := ⟨by decide +kernel, rfl⟩
theorem qL_law_1116 : Dq cL_law 1116 (.aload_n 2) 1 1117 := ⟨by decide +kernel, rfl⟩
theorem qL_law_1117 : Dq cL_law 1117 (.aload_n 0) 1 1118 := ⟨by decide +kernel, rfl⟩
theorem qL_law_1118 : Dq cL_law 1118 (.iload_n 3) 1 1119 := ⟨by decide +kernel, rfl⟩
theorem qL_law_1119 : Dq cL_law 1119 (.iconst 1) 1 1120 := ⟨by decide +kernel, rfl⟩
theorem qL_law_1120 : Dq cL_law 1120 (.iadd) 1 1121 := ⟨by decide +kernel, rfl⟩
theorem qL_law_1121 : Dq cL_law 1121 (.iaload) 1 1122 := ⟨by decide +kernel, rfl⟩
theorem qL_law_1122 : Dq cL_law 1122 (.aload_n 0) 1 1123 := ⟨by decide +kernel, rfl⟩
theorem qL_law_1123 : Dq cL_law 1123 (.iload_n 3) 1 1124 := ⟨by decide +kernel, rfl⟩
theorem qL_law_1124 : Dq cL_law 1124 (.iconst 2) 1 1125 := ⟨by decide +kernel, rfl⟩
theorem qL_law_1125 : Dq cL_law 1125 (.iadd) 1 1126 := ⟨by decide +kernel, rfl⟩
theorem qL_law_1126 : Dq cL_law 1126 (.iaload) 1 1127 := ⟨by decide +kernel, rfl⟩
theorem qL_law_1127 : Dq cL_law 1127 (.invokevirtual 148) 3 1130 := ⟨by decide +kernel, rfl⟩
theorem qL_law_1130 : Dq cL_law 1130 (.if_icmp .eq 5) 3 1133 := ⟨by decide +kernel, rfl⟩
set_option maxRecDepth 100000 in
set_option maxHeartbeats 4000000 in
theorem law_31 {X : Cx} {G : Glb} {L : Nat} {xsc : Nat → Int32} {Q : State → Prop} (hl : LwX X G L xsc) {h : AHp} {E : Sst} {i c : Nat} (hi : i + 6 ≤ L) (hc64 : c < 64) (hI : LwI h E c) (kk : ∀ h' E', LwI h' E' (c + 1) → V X G 4 (58 + 6 * (c + 1)) (4289 + 6 * (c + 1)) Q 1135 [some (.ref 1000000), some (.ref 0), some (.ref 38), some (.int (nI i))] [] h') : V X G 4 (58 + 6 * c) (4289 + 6 * c) Q 1102 [some (.ref 1000000), some (.ref 0), some (.ref 38), some (.int (nI i))] [] h := by
  obtain ⟨hc, hm, hN⟩ := hI
  obtain ⟨hX, hR, -⟩ := id hl
  refine v_aload_n hX rfl qL_law_1102 ?_
  refine v_aload_n hX rfl qL_law_1103 ?_
  refine v_iload_n hX rfl qL_law_1104 ?_
  refine v_iconst hX li_1 qL_law_1105 ?_
  refine v_iadd hX qL_law_1106 ?_
  refine hl.sld (j := i + 1) (nI_add i 1) (by omega) qL_law_1107 ?_
  refine v_aload_n hX rfl qL_law_1108 ?_
  refine v_iload_n hX rfl qL_law_1109 ?_
  refine v_iconst hX li_2 qL_law_1110 ?_
  refine v_iadd hX qL_law_1111 ?_
  refine hl.sld (j := i + 2) (nI_add i 2) (by omega) qL_law_1112 ?_
  refine v_callVL hX hR k_L_145 (hc.1.kd 0 rfl) (c_taken (by exact hc) _ _) rfl (Nat.le_of_ble_eq_true rfl) rfl (Nat.le_of_ble_eq_true rfl) ⟨by omega, by omega⟩ qL_law_1113 ?_
  rintro _ _ ⟨rfl, rfl⟩
  have hc1 := hc
  have hm1 := hm
  have hN1 := hN
  refine v_aload_n hX rfl qL_law_1116 ?_
  refine v_aload_n hX rfl qL_law_1117 ?_
  refine v_iload_n hX rfl qL_law_1118 ?_
  refine v_iconst hX li_1 qL_law_1119 ?_
  refine v_iadd hX qL_law_1120 ?_
  refine hl.sld (j := i + 1) (nI_add i 1) (by omega) qL_law_1121 ?_
  refine v_aload_n hX rfl qL_law_1122 ?_
  refine v_iload_n hX rfl qL_law_1123 ?_
  refine v_iconst hX li_2 qL_law_1124 ?_
  refine v_iadd hX qL_law_1125 ?_
  refine hl.sld (j := i + 2) (nI_add i 2) (by omega) qL_law_1126 ?_
  refine v_callVL hX hR k_L_148 (hm1.1.kd 38 rfl) (m_taken (by exact hm1) _ _) rfl (Nat.le_of_ble_eq_true rfl) rfl (Nat.le_of_ble_eq_true rfl) ⟨by omega, by omega⟩ qL_law_1127 ?_
  rintro _ _ ⟨rfl, rfl⟩
  have hc2 := hc1
  have hm2 := hm1
  have hN2 := hN1
  refine v_icmp_eq hX 1135 qL_law_1130 rfl (fun q1130 => ?_) (fun q1130 => ?_)
  · skip
    refine v_widen (k' := 58 + 6 * (c + 1)) (n' := 4289 + 6 * (c + 1)) (by omega) (by omega) ?_
    exact kk _ _ (LwI.nx hc2 hm2 (Nat.le_trans hN2 (by omega)))
  · exact absurd rfl q1130

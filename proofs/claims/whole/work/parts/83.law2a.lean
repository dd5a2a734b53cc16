/-! the law: a call of the class, then of the reference -/
theorem lcmp_rf (x : Int64) : lg_cmp x x = 0 := (lg_cmp_eq _ _).mpr rfl
/-- what holds at the loop's head after c calls -/
def LwI (h : AHp) (E : Sst) (c : Nat) : Prop := CV h E ∧ MW h E ∧ hpN h ≤ 58 + 6 * c
theorem LwI.nx {h : AHp} {E : Sst} {c : Nat} (hc : CV h E) (hm : MW h E) (hN : hpN h ≤ 58 + 6 * c + 6) : LwI h E (c + 1) := ⟨hc, hm, by omega⟩
theorem qL_law_176 : Dq cL_law 176 (.aload_n 1) 1 177 := ⟨by decide +kernel, rfl⟩
theorem qL_law_177 : Dq cL_law 177 (.aload_n 0) 1 178 := ⟨by decide +kernel, rfl⟩
theorem qL_law_178 : Dq cL_law 178 (.iload_n 3) 1 179 := ⟨by decide +kernel, rfl⟩
theorem qL_law_179 : Dq cL_law 179 (.iconst 1) 1 180 := ⟨by decide +kernel, rfl⟩
theorem qL_law_180 : Dq cL_law 180 (.iadd) 1 181 := ⟨by decide +kernel, rfl⟩
theorem qL_law_181 : Dq cL_law 181 (.iaload) 1 182 := ⟨by decide +kernel, rfl⟩
theorem qL_law_182 : Dq cL_law 182 (.aload_n 0) 1 183 := ⟨by decide +kernel, rfl⟩
theorem qL_law_183 : Dq cL_law 183 (.iload_n 3) 1 184 := ⟨by decide +kernel, rfl⟩
theorem qL_law_184 : Dq cL_law 184 (.iconst 2) 1 185 := ⟨by decide +kernel, rfl⟩
theorem qL_law_185 : Dq cL_law 185 (.iadd) 1 186 := ⟨by decide +kernel, rfl⟩
theorem qL_law_186 : Dq cL_law 186 (.iaload) 1 187 := ⟨by decide +kernel, rfl⟩
theorem qL_law_187 : Dq cL_law 187 (.aload_n 0) 1 188 := ⟨by decide +kernel, rfl⟩
theorem qL_law_188 : Dq cL_law 188 (.iload_n 3) 1 189 := ⟨by decide +kernel, rfl⟩
theorem qL_law_189 : Dq cL_law 189 (.iconst 3) 1 190 := ⟨by decide +kernel, rfl⟩
theorem qL_law_190 : Dq cL_law 190 (.iadd) 1 191 := ⟨by decide +kernel, rfl⟩
theorem qL_law_191 : Dq cL_law 191 (.iaload) 1 192 := ⟨by decide +kernel, rfl⟩
theorem qL_law_192 : Dq cL_law 192 (.invokevirtual 13) 3 195 := ⟨by decide +kernel, rfl⟩
theorem qL_law_195 : Dq cL_law 195 (.aload_n 2) 1 196 := ⟨by decide +kernel, rfl⟩
theorem qL_law_196 : Dq cL_law 196 (.aload_n 0) 1 197 := ⟨by decide +kernel, rfl⟩
theorem qL_law_197 : Dq cL_law 197 (.iload_n 3) 1 198 := ⟨by decide +kernel, rfl⟩
theorem qL_law_198 : Dq cL_law 198 (.iconst 1) 1 199 := ⟨by decide +kernel, rfl⟩
theorem qL_law_199 : Dq cL_law 199 (.iadd) 1 200 := ⟨by decide +kernel, rfl⟩
theorem qL_law_200 : Dq cL_law 200 (.iaload) 1 201 := ⟨by decide +kernel, rfl⟩
theorem qL_law_201 : Dq cL_law 201 (.aload_n 0) 1 202 := ⟨by decide +kernel, rfl⟩
theorem qL_law_202 : Dq cL_law 202 (.iload_n 3) 1 203 := ⟨by decide +kernel, rfl⟩
theorem qL_law_203 : Dq cL_law 203 (.iconst 2) 1 204 := ⟨by decide +kernel, rfl⟩
theorem qL_law_204 : Dq cL_law 204 (.iadd) 1 205 := ⟨by decide +kernel, rfl⟩
theorem qL_law_205 : Dq cL_law 205 (.iaload) 1 206 := ⟨by decide +kernel, rfl⟩
theorem qL_law_206 : Dq cL_law 206 (.aload_n 0) 1 207 := ⟨by decide +kernel, rfl⟩
theorem qL_law_207 : Dq cL_law 207 (.iload_n 3) 1 208 := ⟨by decide +kernel, rfl⟩
theorem qL_law_208 : Dq cL_law 208 (.iconst 3) 1 209 := ⟨by decide +kernel, rfl⟩
theorem qL_law_209 : Dq cL_law 209 (.iadd) 1 210 := ⟨by decide +kernel, rfl⟩
theorem qL_law_210 : Dq cL_law 210 (.iaload) 1 211 := ⟨by decide +kernel, rfl⟩
theorem qL_law_211 : Dq cL_law 211 (.invokevirtual 17) 3 214 := ⟨by decide +kernel, rfl⟩
theorem qL_law_214 : Dq cL_law 214 (.if_icmp .eq 921) 3 217 := ⟨by decide +kernel, rfl⟩
set_option maxRecDepth 100000 in
set_option maxHeartbeats 4000000 in
theorem law_00 {X : Cx} {G : Glb} {L : Nat} {xsc : Nat → Int32} {Q : State → Prop} (hl : LwX X G L xsc) {h : AHp} {E : Sst} {i c : Nat} (hi : i + 6 ≤ L) (hc64 : c < 64) (hI : LwI h E c) (kk : ∀ h' E', LwI h' E' (c + 1) → V X G 4 (58 + 6 * (c + 1)) (4289 + 6 * (c + 1)) Q 1135 [some (.ref 1000000), some (.ref 0), some (.ref 38), some (.int (nI i))] [] h') : V X G 4 (58 + 6 * c) (4289 + 6 * c) Q 176 [some (.ref 1000000), some (.ref 0), some (.ref 38), some (.int (nI i))] [] h := by
  obtain ⟨hc, hm, hN⟩ := hI
  obtain ⟨hX, hR, -⟩ := id hl
  refine v_aload_n hX rfl qL_law_176 ?_
  refine v_aload_n hX rfl qL_law_177 ?_
  refine v_iload_n hX rfl qL_law_178 ?_
  refine v_iconst hX li_1 qL_law_179 ?_
  refine v_iadd hX qL_law_180 ?_
  refine hl.sld (j := i + 1) (nI_add i 1) (by omega) qL_law_181 ?_
  refine v_aload_n hX rfl qL_law_182 ?_
  refine v_iload_n hX rfl qL_law_183 ?_
  refine v_iconst hX li_2 qL_law_184 ?_
  refine v_iadd hX qL_law_185 ?_
  refine hl.sld (j := i + 2) (nI_add i 2) (by omega) qL_law_186 ?_
  refine v_aload_n hX rfl qL_law_187 ?_
  refine v_iload_n hX rfl qL_law_188 ?_
  refine v_iconst hX li_3 qL_law_189 ?_
  refine v_iadd hX qL_law_190 ?_
  refine hl.sld (j := i + 3) (nI_add i 3) (by omega) qL_law_191 ?_
  refine v_callVL hX hR k_L_13 (hc.1.kd 0 rfl) (c_set (by exact hc) _ _ _) rfl (Nat.le_of_ble_eq_true rfl) rfl (Nat.le_of_ble_eq_true rfl) ⟨by omega, by omega⟩ qL_law_192 ?_
  rintro _ _ ⟨rfl, σ, rfl, hc1, k1⟩
  have hm1 := hm.k38 k1
  have hN1 : hpN (σ, h.2) ≤ 58 + 6 * c := hN
  refine v_aload_n hX rfl qL_law_195 ?_
  refine v_aload_n hX rfl qL_law_196 ?_
  refine v_iload_n hX rfl qL_law_197 ?_
  refine v_iconst hX li_1 qL_law_198 ?_
  refine v_iadd hX qL_law_199 ?_
  refine hl.sld (j := i + 1) (nI_add i 1) (by omega) qL_law_200 ?_
  refine v_aload_n hX rfl qL_law_201 ?_
  refine v_iload_n hX rfl qL_law_202 ?_
  refine v_iconst hX li_2 qL_law_203 ?_
  refine v_iadd hX qL_law_204 ?_
  refine hl.sld (j := i + 2) (nI_add i 2) (by omega) qL_law_205 ?_
  refine v_aload_n hX rfl qL_law_206 ?_
  refine v_iload_n hX rfl qL_law_207 ?_
  refine v_iconst hX li_3 qL_law_208 ?_
  refine v_iadd hX qL_law_209 ?_
  refine hl.sld (j := i + 3) (nI_add i 3) (by omega) qL_law_210 ?_
  refine v_callVL hX hR k_L_17 (hm1.1.kd 38 rfl) (m_set (by exact hm1) _ _ _) rfl (Nat.le_of_ble_eq_true rfl) rfl (Nat.le_of_ble_eq_true rfl) ⟨by omega, by omega⟩ qL_law_211 ?_
  rintro _ _ ⟨rfl, σ2, J2, rfl, hm2, k2⟩
  have hc2 := hc1.k58 (J := J2) hm1.1 k2
  have hN2 := hN1
  refine v_icmp_eq hX 1135 qL_law_214 rfl (fun q214 => ?_) (fun q214 => ?_)
  · skip
    refine v_widen (rt := none) (k' := 58 + 6 * (c + 1)) (n' := 4289 + 6 * (c + 1)) (by omega) (by omega) ?_
    exact kk _ _ (LwI.nx hc2 hm2 (Nat.le_trans hN2 (by omega)))
  · exact absurd rfl q214
theorem qL_law_219 : Dq cL_law 219 (.aload_n 1) 1 220 := ⟨by decide +kernel, rfl⟩
theorem qL_law_220 : Dq cL_law 220 (.aload_n 0) 1 221 := ⟨by decide +kernel, rfl⟩
theorem qL_law_221 : Dq cL_law 221 (.iload_n 3) 1 222 := ⟨by decide +kernel, rfl⟩
theorem qL_law_222 : Dq cL_law 222 (.iconst 1) 1 223 := ⟨by decide +kernel, rfl⟩
theorem qL_law_223 : Dq cL_law 223 (.iadd) 1 224 := ⟨by decide +kernel, rfl⟩
theorem qL_law_224 : Dq cL_law 224 (.iaload) 1 225 := ⟨by decide +kernel, rfl⟩
theorem qL_law_225 : Dq cL_law 225 (.aload_n 0) 1 226 := ⟨by decide +kernel, rfl⟩
theorem qL_law_226 : Dq cL_law 226 (.iload_n 3) 1 227 := ⟨by decide +kernel, rfl⟩
theorem qL_law_227 : Dq cL_law 227 (.iconst 2) 1 228 := ⟨by decide +kernel, rfl⟩
theorem qL_law_228 : Dq cL_law 228 (.iadd) 1 229 := ⟨by decide +kernel, rfl⟩
theorem qL_law_229 : Dq cL_law 229 (.iaload) 1 230 := ⟨by decide +kernel, rfl⟩
theorem qL_law_230 : Dq cL_law 230 (.invokevirtual 18) 3 233 := ⟨by decide +kernel, rfl⟩
theorem qL_law_233 : Dq cL_law 233 (.aload_n 2) 1 234 := ⟨by decide +kernel, rfl⟩
theorem qL_law_234 : Dq cL_law 234 (.aload_n 0) 1 235 := ⟨by decide +kernel, rfl⟩
theorem qL_law_235 : Dq cL_law 235 (.iload_n 3) 1 236 := ⟨by decide +kernel, rfl⟩
theorem qL_law_236 : Dq cL_law 236 (.iconst 1) 1 237 := ⟨by decide +kernel, rfl⟩
theorem qL_law_237 : Dq cL_law 237 (.iadd) 1 238 := ⟨by decide +kernel, rfl⟩
theorem qL_law_238 : Dq cL_law 238 (.iaload) 1 239 := ⟨by decide +kernel, rfl⟩
theorem qL_law_239 : Dq cL_law 239 (.aload_n 0) 1 240 := ⟨by decide +kernel, rfl⟩
theorem qL_law_240 : Dq cL_law 240 (.iload_n 3) 1 241 := ⟨by decide +kernel, rfl⟩
theorem qL_law_241 : Dq cL_law 241 (.iconst 2) 1 242 := ⟨by decide +kernel, rfl⟩
theorem qL_law_242 : Dq cL_law 242 (.iadd) 1 243 := ⟨by decide +kernel, rfl⟩
theorem qL_law_243 : Dq cL_law 243 (.iaload) 1 244 := ⟨by decide +kernel, rfl⟩
theorem qL_law_244 : Dq cL_law 244 (.invokevirtual 22) 3 247 := ⟨by decide +kernel, rfl⟩
theorem qL_law_247 : Dq cL_law 247 (.if_icmp .eq 888) 3 250 := ⟨by decide +kernel, rfl⟩
set_option maxRecDepth 100000 in
set_option maxHeartbeats 4000000 in
theorem law_01 {X : Cx} {G : Glb} {L : Nat} {xsc : Nat → Int32} {Q : State → Prop} (hl : LwX X G L xsc) {h : AHp} {E : Sst} {i c : Nat} (hi : i + 6 ≤ L) (hc64 : c < 64) (hI : LwI h E c) (kk : ∀ h' E', LwI h' E' (c + 1) → V X G 4 (58 + 6 * (c + 1)) (4289 + 6 * (c + 1)) Q 1135 [some (.ref 1000000), some (.ref 0), some (.ref 38), some (.int (nI i))] [] h') : V X G 4 (58 + 6 * c) (4289 + 6 * c) Q 219 [some (.ref 1000000), some (.ref 0), some (.ref 38), some (.int (nI i))] [] h := by
  obtain ⟨hc, hm, hN⟩ := hI
  obtain ⟨hX, hR, -⟩ := id hl
  refine v_aload_n hX rfl qL_law_219 ?_
  refine v_aload_n hX rfl qL_law_220 ?_
  refine v_iload_n hX rfl qL_law_221 ?_
  refine v_iconst hX li_1 qL_law_222 ?_
  refine v_iadd hX qL_law_223 ?_
  refine hl.sld (j := i + 1) (nI_add i 1) (by omega) qL_law_224 ?_
  refine v_aload_n hX rfl qL_law_225 ?_
  refine v_iload_n hX rfl qL_law_226 ?_
  refine v_iconst hX li_2 qL_law_227 ?_
  refine v_iadd hX qL_law_228 ?_
  refine hl.sld (j := i + 2) (nI_add i 2) (by omega) qL_law_229 ?_
  refine v_callVL hX hR k_L_18 (hc.1.kd 0 rfl) (c_told (by exact hc) _ _) rfl (Nat.le_of_ble_eq_true rfl) rfl (Nat.le_of_ble_eq_true rfl) ⟨by omega, by omega⟩ qL_law_230 ?_
  rintro _ _ ⟨rfl, σ, rfl, hc1, k1⟩
  have hm1 := hm.k38 k1
  have hN1 : hpN (σ, h.2) ≤ 58 + 6 * c := hN
  refine v_aload_n hX rfl qL_law_233 ?_
  refine v_aload_n hX rfl qL_law_234 ?_
  refine v_iload_n hX rfl qL_law_235 ?_
  refine v_iconst hX li_1 qL_law_236 ?_
  refine v_iadd hX qL_law_237 ?_
  refine hl.sld (j := i + 1) (nI_add i 1) (by omega) qL_law_238 ?_
  refine v_aload_n hX rfl qL_law_239 ?_
  refine v_iload_n hX rfl qL_law_240 ?_
  refine v_iconst hX li_2 qL_law_241 ?_
  refine v_iadd hX qL_law_242 ?_
  refine hl.sld (j := i + 2) (nI_add i 2) (by omega) qL_law_243 ?_
  refine v_callVL hX hR k_L_22 (hm1.1.kd 38 rfl) (m_told (by exact hm1) _ _) rfl (Nat.le_of_ble_eq_true rfl) rfl (Nat.le_of_ble_eq_true rfl) ⟨by omega, by omega⟩ qL_law_244 ?_
  rintro _ _ ⟨rfl, σ2, J2, rfl, hm2, k2⟩
  have hc2 := hc1.k58 (J := J2) hm1.1 k2
  have hN2 := hN1
  refine v_icmp_eq hX 1135 qL_law_247 rfl (fun q247 => ?_) (fun q247 => ?_)
  · skip
    refine v_widen (rt := none) (k' := 58 + 6 * (c + 1)) (n' := 4289 + 6 * (c + 1)) (by omega) (by omega) ?_
    exact kk _ _ (LwI.nx hc2 hm2 (Nat.le_trans hN2 (by omega)))
  · exact absurd rfl q247
theorem qL_law_252 : Dq cL_law 252 (.aload_n 1) 1 253 := ⟨by decide +kernel, rfl⟩
theorem qL_law_253 : Dq cL_law 253 (.aload_n 0) 1 254 := ⟨by decide +kernel, rfl⟩
theorem qL_law_254 : Dq cL_law 254 (.iload_n 3) 1 255 := ⟨by decide +kernel, rfl⟩
theorem qL_law_255 : Dq cL_law 255 (.iconst 1) 1 256 := ⟨by decide +kernel, rfl⟩
theorem qL_law_256 : Dq cL_law 256 (.iadd) 1 257 := ⟨by decide +kernel, rfl⟩
theorem qL_law_257 : Dq cL_law 257 (.iaload) 1 258 := ⟨by decide +kernel, rfl⟩
theorem qL_law_258 : Dq cL_law 258 (.aload_n 0) 1 259 := ⟨by decide +kernel, rfl⟩
theorem qL_law_259 : Dq cL_law 259 (.iload_n 3) 1 260 := ⟨by decide +kernel, rfl⟩
theorem qL_law_260 : Dq cL_law 260 (.iconst 2) 1 261 := ⟨by decide +kernel, rfl⟩
theorem qL_law_261 : Dq cL_law 261 (.iadd) 1 262 := ⟨by decide +kernel, rfl⟩
theorem qL_law_262 : Dq cL_law 262 (.iaload) 1 263 := ⟨by decide +kernel, rfl⟩
theorem qL_law_263 : Dq cL_law 263 (.invokevirtual 23) 3 266 := ⟨by decide +kernel, rfl⟩
theorem qL_law_266 : Dq cL_law 266 (.aload_n 2) 1 267 := ⟨by decide +kernel, rfl⟩
theorem qL_law_267 : Dq cL_law 267 (.aload_n 0) 1 268 := ⟨by decide +kernel, rfl⟩
theorem qL_law_268 : Dq cL_law 268 (.iload_n 3) 1 269 := ⟨by decide +kernel, rfl⟩
theorem qL_law_269 : Dq cL_law 269 (.iconst 1) 1 270 := ⟨by decide +kernel, rfl⟩
theorem qL_law_270 : Dq cL_law 270 (.iadd) 1 271 := ⟨by decide +kernel, rfl⟩
theorem qL_law_271 : Dq cL_law 271 (.iaload) 1 272 := ⟨by decide +kernel, rfl⟩
theorem qL_law_272 : Dq cL_law 272 (.aload_n 0) 1 273 := ⟨by decide +kernel, rfl⟩
theorem qL_law_273 : Dq cL_law 273 (.iload_n 3) 1 274 := ⟨by decide +kernel, rfl⟩
theorem qL_law_274 : Dq cL_law 274 (.iconst 2) 1 275 := ⟨by decide +kernel, rfl⟩
theorem qL_law_275 : Dq cL_law 275 (.iadd) 1 276 := ⟨by decide +kernel, rfl⟩
theorem qL_law_276 : Dq cL_law 276 (.iaload) 1 277 := ⟨by decide +kernel, rfl⟩
theorem qL_law_277 : Dq cL_law 277 (.invokevirtual 26) 3 280 := ⟨by decide +kernel, rfl⟩
theorem qL_law_280 : Dq cL_law 280 (.if_icmp .eq 855) 3 283 := ⟨by decide +kernel, rfl⟩
set_option maxRecDepth 100000 in
set_option maxHeartbeats 4000000 in
theorem law_02 {X : Cx} {G : Glb} {L : Nat} {xsc : Nat → Int32} {Q : State → Prop} (hl : LwX X G L xsc) {h : AHp} {E : Sst} {i c : Nat} (hi : i + 6 ≤ L) (hc64 : c < 64) (hI : LwI h E c) (kk : ∀ h' E', LwI h' E' (c + 1) → V X G 4 (58 + 6 * (c + 1)) (4289 + 6 * (c + 1)) Q 1135 [some (.ref 1000000), some (.ref 0), some (.ref 38), some (.int (nI i))] [] h') : V X G 4 (58 + 6 * c) (4289 + 6 * c) Q 252 [some (.ref 1000000), some (.ref 0), some (.ref 38), some (.int (nI i))] [] h := by
  obtain ⟨hc, hm, hN⟩ := hI
  obtain ⟨hX, hR, -⟩ := id hl
  refine v_aload_n hX rfl qL_law_252 ?_
  refine v_aload_n hX rfl qL_law_253 ?_
  refine v_iload_n hX rfl qL_law_254 ?_
  refine v_iconst hX li_1 qL_law_255 ?_
  refine v_iadd hX qL_law_256 ?_
  refine hl.sld (j := i + 1) (nI_add i 1) (by omega) qL_law_257 ?_
  refine v_aload_n hX rfl qL_law_258 ?_
  refine v_iload_n hX rfl qL_law_259 ?_
  refine v_iconst hX li_2 qL_law_260 ?_
  refine v_iadd hX qL_law_261 ?_
  refine hl.sld (j := i + 2) (nI_add i 2) (by omega) qL_law_262 ?_
  refine v_callVL' hX hR k_L_23 (hc.1.kd 0 rfl) (c_looker (by exact hc) (by omega) _ _) rfl (Nat.le_of_ble_eq_true rfl) rfl (Nat.le_of_ble_eq_true rfl) ⟨by omega, by omega⟩ qL_law_263 ?_
  rintro _ _ ⟨rfl, hc1, k1, n1⟩
  have hm1 := hm.kp k1
  have hN1 : hpN _ ≤ 58 + 6 * c + 1 := Nat.le_trans n1 (by omega)
  refine v_aload_n hX rfl qL_law_266 ?_
  refine v_aload_n hX rfl qL_law_267 ?_
  refine v_iload_n hX rfl qL_law_268 ?_
  refine v_iconst hX li_1 qL_law_269 ?_
  refine v_iadd hX qL_law_270 ?_
  refine hl.sld (j := i + 1) (nI_add i 1) (by omega) qL_law_271 ?_
  refine v_aload_n hX rfl qL_law_272 ?_
  refine v_iload_n hX rfl qL_law_273 ?_
  refine v_iconst hX li_2 qL_law_274 ?_
  refine v_iadd hX qL_law_275 ?_
  refine hl.sld (j := i + 2) (nI_add i 2) (by omega) qL_law_276 ?_
  refine v_callVL hX hR k_L_26 (hm1.1.kd 38 rfl) (m_looker (by exact hm1) _ _) rfl (Nat.le_of_ble_eq_true rfl) rfl (Nat.le_of_ble_eq_true rfl) ⟨by omega, by omega⟩ qL_law_277 ?_
  rintro _ _ ⟨rfl, σ2, J2, rfl, hm2, k2⟩
  have hc2 := hc1.k58 (J := J2) hm1.1 k2
  have hN2 := hN1
  refine v_icmp_eq hX 1135 qL_law_280 rfl (fun q280 => ?_) (fun q280 => ?_)
  · skip
    refine v_widen (rt := none) (k' := 58 + 6 * (c + 1)) (n' := 4289 + 6 * (c + 1)) (by omega) (by omega) ?_
    exact kk _ _ (LwI.nx hc2 hm2 (Nat.le_trans hN2 (by omega)))
  · exact absurd rfl q280
theorem qL_law_285 : Dq cL_law 285 (.aload_n 1) 1 286 := ⟨by decide +kernel, rfl⟩
theorem qL_law_286 : Dq cL_law 286 (.aload_n 0) 1 287 := ⟨by decide +kernel, rfl⟩
theorem qL_law_287 : Dq cL_law 287 (.iload_n 3) 1 288 := ⟨by decide +kernel, rfl⟩
theorem qL_law_288 : Dq cL_law 288 (.iconst 1) 1 289 := ⟨by decide +kernel, rfl⟩
theorem qL_law_289 : Dq cL_law 289 (.iadd) 1 290 := ⟨by decide +kernel, rfl⟩
theorem qL_law_290 : Dq cL_law 290 (.iaload) 1 291 := ⟨by decide +kernel, rfl⟩
theorem qL_law_291 : Dq cL_law 291 (.aload_n 0) 1 292 := ⟨by decide +kernel, rfl⟩
theorem qL_law_292 : Dq cL_law 292 (.iload_n 3) 1 293 := ⟨by decide +kernel, rfl⟩
theorem qL_law_293 : Dq cL_law 293 (.iconst 2) 1 294 := ⟨by decide +kernel, rfl⟩
theorem qL_law_294 : Dq cL_law 294 (.iadd) 1 295 := ⟨by decide +kernel, rfl⟩
theorem qL_law_295 : Dq cL_law 295 (.iaload) 1 296 := ⟨by decide +kernel, rfl⟩
theorem qL_law_296 : Dq cL_law 296 (.aload_n 0) 1 297 := ⟨by decide +kernel, rfl⟩
theorem qL_law_297 : Dq cL_law 297 (.iload_n 3) 1 298 := ⟨by decide +kernel, rfl⟩
theorem qL_law_298 : Dq cL_law 298 (.iconst 3) 1 299 := ⟨by decide +kernel, rfl⟩
theorem qL_law_299 : Dq cL_law 299 (.iadd) 1 300 := ⟨by decide +kernel, rfl⟩
theorem qL_law_300 : Dq cL_law 300 (.iaload) 1 301 := ⟨by decide +kernel, rfl⟩
theorem qL_law_301 : Dq cL_law 301 (.invokevirtual 27) 3 304 := ⟨by decide +kernel, rfl⟩
theorem qL_law_304 : Dq cL_law 304 (.aload_n 2) 1 305 := ⟨by decide +kernel, rfl⟩
theorem qL_law_305 : Dq cL_law 305 (.aload_n 0) 1 306 := ⟨by decide +kernel, rfl⟩
theorem qL_law_306 : Dq cL_law 306 (.iload_n 3) 1 307 := ⟨by decide +kernel, rfl⟩
theorem qL_law_307 : Dq cL_law 307 (.iconst 1) 1 308 := ⟨by decide +kernel, rfl⟩
theorem qL_law_308 : Dq cL_law 308 (.iadd) 1 309 := ⟨by decide +kernel, rfl⟩
theorem qL_law_309 : Dq cL_law 309 (.iaload) 1 310 := ⟨by decide +kernel, rfl⟩
theorem qL_law_310 : Dq cL_law 310 (.aload_n 0) 1 311 := ⟨by decide +kernel, rfl⟩
theorem qL_law_311 : Dq cL_law 311 (.iload_n 3) 1 312 := ⟨by decide +kernel, rfl⟩
theorem qL_law_312 : Dq cL_law 312 (.iconst 2) 1 313 := ⟨by decide +kernel, rfl⟩
theorem qL_law_313 : Dq cL_law 313 (.iadd) 1 314 := ⟨by decide +kernel, rfl⟩
theorem qL_law_314 : Dq cL_law 314 (.iaload) 1 315 := ⟨by decide +kernel, rfl⟩
theorem qL_law_315 : Dq cL_law 315 (.aload_n 0) 1 316 := ⟨by decide +kernel, rfl⟩
theorem qL_law_316 : Dq cL_law 316 (.iload_n 3) 1 317 := ⟨by decide +kernel, rfl⟩
theorem qL_law_317 : Dq cL_law 317 (.iconst 3) 1 318 := ⟨by decide +kernel, rfl⟩
theorem qL_law_318 : Dq cL_law 318 (.iadd) 1 319 := ⟨by decide +kernel, rfl⟩
theorem qL_law_319 : Dq cL_law 319 (.iaload) 1 320 := ⟨by decide +kernel, rfl⟩
theorem qL_law_320 : Dq cL_law 320 (.invokevirtual 30) 3 323 := ⟨by decide +kernel, rfl⟩
theorem qL_law_323 : Dq cL_law 323 (.if_icmp .eq 812) 3 326 := ⟨by decide +kernel, rfl⟩
set_option maxRecDepth 100000 in
set_option maxHeartbeats 4000000 in
theorem law_03 {X : Cx} {G : Glb} {L : Nat} {xsc : Nat → Int32} {Q : State → Prop} (hl : LwX X G L xsc) {h : AHp} {E : Sst} {i c : Nat} (hi : i + 6 ≤ L) (hc64 : c < 64) (hI : LwI h E c) (kk : ∀ h' E', LwI h' E' (c + 1) → V X G 4 (58 + 6 * (c + 1)) (4289 + 6 * (c + 1)) Q 1135 [some (.ref 1000000), some (.ref 0), some (.ref 38), some (.int (nI i))] [] h') : V X G 4 (58 + 6 * c) (4289 + 6 * c) Q 285 [some (.ref 1000000), some (.ref 0), some (.ref 38), some (.int (nI i))] [] h := by
  obtain ⟨hc, hm, hN⟩ := hI
  obtain ⟨hX, hR, -⟩ := id hl
  refine v_aload_n hX rfl qL_law_285 ?_
  refine v_aload_n hX rfl qL_law_286 ?_
  refine v_iload_n hX rfl qL_law_287 ?_
  refine v_iconst hX li_1 qL_law_288 ?_
  refine v_iadd hX qL_law_289 ?_
  refine hl.sld (j := i + 1) (nI_add i 1) (by omega) qL_law_290 ?_
  refine v_aload_n hX rfl qL_law_291 ?_
  refine v_iload_n hX rfl qL_law_292 ?_
  refine v_iconst hX li_2 qL_law_293 ?_
  refine v_iadd hX qL_law_294 ?_
  refine hl.sld (j := i + 2) (nI_add i 2) (by omega) qL_law_295 ?_
  refine v_aload_n hX rfl qL_law_296 ?_
  refine v_iload_n hX rfl qL_law_297 ?_
  refine v_iconst hX li_3 qL_law_298 ?_
  refine v_iadd hX qL_law_299 ?_
  refine hl.sld (j := i + 3) (nI_add i 3) (by omega) qL_law_300 ?_
  refine v_callVL hX hR k_L_27 (hc.1.kd 0 rfl) (c_asks (by exact hc) _ _ _) rfl (Nat.le_of_ble_eq_true rfl) rfl (Nat.le_of_ble_eq_true rfl) ⟨by omega, by omega⟩ qL_law_301 ?_
  rintro _ _ ⟨rfl, σ, rfl, hc1, k1⟩
  have hm1 := hm.k38 k1
  have hN1 : hpN (σ, h.2) ≤ 58 + 6 * c := hN
  refine v_aload_n hX rfl qL_law_304 ?_
  refine v_aload_n hX rfl qL_law_305 ?_
  refine v_iload_n hX rfl qL_law_306 ?_
  refine v_iconst hX li_1 qL_law_307 ?_
  refine v_iadd hX qL_law_308 ?_
  refine hl.sld (j := i + 1) (nI_add i 1) (by omega) qL_law_309 ?_
  refine v_aload_n hX rfl qL_law_310 ?_
  refine v_iload_n hX rfl qL_law_311 ?_
  refine v_iconst hX li_2 qL_law_312 ?_
  refine v_iadd hX qL_law_313 ?_
  refine hl.sld (j := i + 2) (nI_add i 2) (by omega) qL_law_314 ?_
  refine v_aload_n hX rfl qL_law_315 ?_
  refine v_iload_n hX rfl qL_law_316 ?_
  refine v_iconst hX li_3 qL_law_317 ?_
  refine v_iadd hX qL_law_318 ?_
  refine hl.sld (j := i + 3) (nI_add i 3) (by omega) qL_law_319 ?_
  refine v_callVL hX hR k_L_30 (hm1.1.kd 38 rfl) (m_asks (by exact hm1) _ _ _) rfl (Nat.le_of_ble_eq_true rfl) rfl (Nat.le_of_ble_eq_true rfl) ⟨by omega, by omega⟩ qL_law_320 ?_
  rintro _ _ ⟨rfl, σ2, J2, rfl, hm2, k2⟩
  have hc2 := hc1.k58 (J := J2) hm1.1 k2
  have hN2 := hN1
  refine v_icmp_eq hX 1135 qL_law_323 rfl (fun q323 => ?_) (fun q323 => ?_)
  · skip
    refine v_widen (rt := none) (k' := 58 + 6 * (c + 1)) (n' := 4289 + 6 * (c + 1)) (by omega) (by omega) ?_
    exact kk _ _ (LwI.nx hc2 hm2 (Nat.le_trans hN2 (by omega)))
  · exact absurd rfl q323
theorem qL_law_328 : Dq cL_law 328 (.aload_n 1) 1 329 := ⟨by decide +kernel, rfl⟩
theorem qL_law_329 : Dq cL_law 329 (.aload_n 0) 1 330 := ⟨by decide +kernel, rfl⟩
theorem qL_law_330 : Dq cL_law 330 (.iload_n 3) 1 331 := ⟨by decide +kernel, rfl⟩
theorem qL_law_331 : Dq cL_law 331 (.iconst 1) 1 332 := ⟨by decide +kernel, rfl⟩
theorem qL_law_332 : Dq cL_law 332 (.iadd) 1 333 := ⟨by decide +kernel, rfl⟩
theorem qL_law_333 : Dq cL_law 333 (.iaload) 1 334 := ⟨by decide +kernel, rfl⟩
theorem qL_law_334 : Dq cL_law 334 (.invokevirtual 31) 3 337 := ⟨by decide +kernel, rfl⟩
theorem qL_law_337 : Dq cL_law 337 (.aload_n 2) 1 338 := ⟨by decide +kernel, rfl⟩
theorem qL_law_338 : Dq cL_law 338 (.aload_n 0) 1 339 := ⟨by decide +kernel, rfl⟩
theorem qL_law_339 : Dq cL_law 339 (.iload_n 3) 1 340 := ⟨by decide +kernel, rfl⟩
theorem qL_law_340 : Dq cL_law 340 (.iconst 1) 1 341 := ⟨by decide +kernel, rfl⟩
theorem qL_law_341 : Dq cL_law 341 (.iadd) 1 342 := ⟨by decide +kernel, rfl⟩
theorem qL_law_342 : Dq cL_law 342 (.iaload) 1 343 := ⟨by decide +kernel, rfl⟩
theorem qL_law_343 : Dq cL_law 343 (.invokevirtual 35) 3 346 := ⟨by decide +kernel, rfl⟩
theorem qL_law_346 : Dq cL_law 346 (.if_icmp .eq 789) 3 349 := ⟨by decide +kernel, rfl⟩
set_option maxRecDepth 100000 in
set_option maxHeartbeats 4000000 in
theorem law_04 {X : Cx} {G : Glb} {L : Nat} {xsc : Nat → Int32} {Q : State → Prop} (hl : LwX X G L xsc) {h : AHp} {E : Sst} {i c : Nat} (hi : i + 6 ≤ L) (hc64 : c < 64) (hI : LwI h E c) (kk : ∀ h' E', LwI h' E' (c + 1) → V X G 4 (58 + 6 * (c + 1)) (4289 + 6 * (c + 1)) Q 1135 [some (.ref 1000000), some (.ref 0), some (.ref 38), some (.int (nI i))] [] h') : V X G 4 (58 + 6 * c) (4289 + 6 * c) Q 328 [some (.ref 1000000), some (.ref 0), some (.ref 38), some (.int (nI i))] [] h := by
  obtain ⟨hc, hm, hN⟩ := hI
  obtain ⟨hX, hR, -⟩ := id hl
  refine v_aload_n hX rfl qL_law_328 ?_
  refine v_aload_n hX rfl qL_law_329 ?_
  refine v_iload_n hX rfl qL_law_330 ?_
  refine v_iconst hX li_1 qL_law_331 ?_
  refine v_iadd hX qL_law_332 ?_
  refine hl.sld (j := i + 1) (nI_add i 1) (by omega) qL_law_333 ?_
  refine v_callVL hX hR k_L_31 (hc.1.kd 0 rfl) (c_feed (by exact hc) _) rfl (Nat.le_of_ble_eq_true rfl) rfl (Nat.le_of_ble_eq_true rfl) ⟨by omega, by omega⟩ qL_law_334 ?_
  rintro _ _ ⟨rfl, σ, rfl, hc1, k1⟩
  have hm1 := hm.k38 k1
  have hN1 : hpN (σ, h.2) ≤ 58 + 6 * c := hN
  refine v_aload_n hX rfl qL_law_337 ?_
  refine v_aload_n hX rfl qL_law_338 ?_
  refine v_iload_n hX rfl qL_law_339 ?_
  refine v_iconst hX li_1 qL_law_340 ?_
  refine v_iadd hX qL_law_341 ?_
  refine hl.sld (j := i + 1) (nI_add i 1) (by omega) qL_law_342 ?_
  refine v_callVL hX hR k_L_35 (hm1.1.kd 38 rfl) (m_feed (by exact hm1) _) rfl (Nat.le_of_ble_eq_true rfl) rfl (Nat.le_of_ble_eq_true rfl) ⟨by omega, by omega⟩ qL_law_343 ?_
  rintro _ _ ⟨rfl, σ2, J2, rfl, hm2, k2⟩
  have hc2 := hc1.k58 (J := J2) hm1.1 k2
  have hN2 := hN1
  refine v_icmp_eq hX 1135 qL_law_346 rfl (fun q346 => ?_) (fun q346 => ?_)
  · skip
    refine v_widen (rt := none) (k' := 58 + 6 * (c + 1)) (n' := 4289 + 6 * (c + 1)) (by omega) (by omega) ?_
    exact kk _ _ (LwI.nx hc2 hm2 (Nat.le_trans hN2 (by omega)))
  · exact absurd rfl q346
theorem qL_law_351 : Dq cL_law 351 (.aload_n 1) 1 352 := ⟨by decide +kernel, rfl⟩
theorem qL_law_352 : Dq cL_law 352 (.invokevirtual 36) 3 355 := ⟨by decide +kernel, rfl⟩
theorem qL_law_355 : Dq cL_law 355 (.aload_n 2) 1 356 := ⟨by decide +kernel, rfl⟩
theorem qL_law_356 : Dq cL_law 356 (.invokevirtual 40) 3 359 := ⟨by decide +kernel, rfl⟩
theorem qL_law_359 : Dq cL_law 359 (.if_icmp .eq 776) 3 362 := ⟨by decide +kernel, rfl⟩
set_option maxRecDepth 100000 in
set_option maxHeartbeats 4000000 in
theorem law_05 {X : Cx} {G : Glb} {L : Nat} {xsc : Nat → Int32} {Q : State → Prop} (hl : LwX X G L xsc) {h : AHp} {E : Sst} {i c : Nat} (hi : i + 6 ≤ L) (hc64 : c < 64) (hI : LwI h E c) (kk : ∀ h' E', LwI h' E' (c + 1) → V X G 4 (58 + 6 * (c + 1)) (4289 + 6 * (c + 1)) Q 1135 [some (.ref 1000000), some (.ref 0), some (.ref 38), some (.int (nI i))] [] h') : V X G 4 (58 + 6 * c) (4289 + 6 * c) Q 351 [some (.ref 1000000), some (.ref 0), some (.ref 38), some (.int (nI i))] [] h := by
  obtain ⟨hc, hm, hN⟩ := hI
  obtain ⟨hX, hR, -⟩ := id hl
  refine v_aload_n hX rfl qL_law_351 ?_
  refine v_callVL hX hR k_L_36 (hc.1.kd 0 rfl) (c_text (by exact hc) (by exact (hst G))) rfl (Nat.le_of_ble_eq_true rfl) rfl (Nat.le_of_ble_eq_true rfl) ⟨by omega, by omega⟩ qL_law_352 ?_
  rintro _ _ ⟨rfl, σ, rfl, hc1, k1⟩
  have hm1 := hm.k38 k1
  have hN1 : hpN (σ, h.2) ≤ 58 + 6 * c := hN
  refine v_aload_n hX rfl qL_law_355 ?_
  refine v_callVL hX hR k_L_40 (hm1.1.kd 38 rfl) (m_text (by exact hm1)) rfl (Nat.le_of_ble_eq_true rfl) rfl (Nat.le_of_ble_eq_true rfl) ⟨by omega, by omega⟩ qL_law_356 ?_
  rintro _ _ ⟨rfl, σ2, J2, rfl, hm2, k2⟩
  have hc2 := hc1.k58 (J := J2) hm1.1 k2
  have hN2 := hN1
  refine v_icmp_eq hX 1135 qL_law_359 rfl (fun q359 => ?_) (fun q359 => ?_)
  · skip
    refine v_widen (rt := none) (k' := 58 + 6 * (c + 1)) (n' := 4289 + 6 * (c + 1)) (by omega) (by omega) ?_
    exact kk _ _ (LwI.nx hc2 hm2 (Nat.le_trans hN2 (by omega)))
  · exact absurd rfl q359
theorem qL_law_364 : Dq cL_law 364 (.aload_n 1) 1 365 := ⟨by decide +kernel, rfl⟩
theorem qL_law_365 : Dq cL_law 365 (.aload_n 0) 1 366 := ⟨by decide +kernel, rfl⟩
theorem qL_law_366 : Dq cL_law 366 (.iload_n 3) 1 367 := ⟨by decide +kernel, rfl⟩
theorem qL_law_367 : Dq cL_law 367 (.iconst 1) 1 368 := ⟨by decide +kernel, rfl⟩
theorem qL_law_368 : Dq cL_law 368 (.iadd) 1 369 := ⟨by decide +kernel, rfl⟩
theorem qL_law_369 : Dq cL_law 369 (.iaload) 1 370 := ⟨by decide +kernel, rfl⟩
theorem qL_law_370 : Dq cL_law 370 (.invokevirtual 41) 3 373 := ⟨by decide +kernel, rfl⟩
theorem qL_law_373 : Dq cL_law 373 (.aload_n 2) 1 374 := ⟨by decide +kernel, rfl⟩
theorem qL_law_374 : Dq cL_law 374 (.aload_n 0) 1 375 := ⟨by decide +kernel, rfl⟩
theorem qL_law_375 : Dq cL_law 375 (.iload_n 3) 1 376 := ⟨by decide +kernel, rfl⟩
theorem qL_law_376 : Dq cL_law 376 (.iconst 1) 1 377 := ⟨by decide +kernel, rfl⟩
theorem qL_law_377 : Dq cL_law 377 (.iadd) 1 378 := ⟨by decide +kernel, rfl⟩
theorem qL_law_378 : Dq cL_law 378 (.iaload) 1 379 := ⟨by decide +kernel, rfl⟩
theorem qL_law_379 : Dq cL_law 379 (.invokevirtual 44) 3 382 := ⟨by decide +kernel, rfl⟩
theorem qL_law_382 : Dq cL_law 382 (.if_icmp .eq 753) 3 385 := ⟨by decide +kernel, rfl⟩
set_option maxRecDepth 100000 in
set_option maxHeartbeats 4000000 in
theorem law_06 {X : Cx} {G : Glb} {L : Nat} {xsc : Nat → Int32} {Q : State → Prop} (hl : LwX X G L xsc) {h : AHp} {E : Sst} {i c : Nat} (hi : i + 6 ≤ L) (hc64 : c < 64) (hI : LwI h E c) (kk : ∀ h' E', LwI h' E' (c + 1) → V X G 4 (58 + 6 * (c + 1)) (4289 + 6 * (c + 1)) Q 1135 [some (.ref 1000000), some (.ref 0), some (.ref 38), some (.int (nI i))] [] h') : V X G 4 (58 + 6 * c) (4289 + 6 * c) Q 364 [some (.ref 1000000), some (.ref 0), some (.ref 38), some (.int (nI i))] [] h := by
  obtain ⟨hc, hm, hN⟩ := hI
  obtain ⟨hX, hR, -⟩ := id hl
  refine v_aload_n hX rfl qL_law_364 ?_
  refine v_aload_n hX rfl qL_law_365 ?_
  refine v_iload_n hX rfl qL_law_366 ?_
  refine v_iconst hX li_1 qL_law_367 ?_
  refine v_iadd hX qL_law_368 ?_
  refine hl.sld (j := i + 1) (nI_add i 1) (by omega) qL_law_369 ?_
  refine v_callVL hX hR k_L_41 (hc.1.kd 0 rfl) (c_force (by exact hc) _) rfl (Nat.le_of_ble_eq_true rfl) rfl (Nat.le_of_ble_eq_true rfl) ⟨by omega, by omega⟩ qL_law_370 ?_
  rintro _ _ ⟨rfl, σ, rfl, hc1, k1⟩
  have hm1 := hm.k38 k1
  have hN1 : hpN (σ, h.2) ≤ 58 + 6 * c := hN
  refine v_aload_n hX rfl qL_law_373 ?_
  refine v_aload_n hX rfl qL_law_374 ?_
  refine v_iload_n hX rfl qL_law_375 ?_
  refine v_iconst hX li_1 qL_law_376 ?_
  refine v_iadd hX qL_law_377 ?_
  refine hl.sld (j := i + 1) (nI_add i 1) (by omega) qL_law_378 ?_
  refine v_callVL hX hR k_L_44 (hm1.1.kd 38 rfl) (m_force (by exact hm1) _) rfl (Nat.le_of_ble_eq_true rfl) rfl (Nat.le_of_ble_eq_true rfl) ⟨by omega, by omega⟩ qL_law_379 ?_
  rintro _ _ ⟨rfl, σ2, J2, rfl, hm2, k2⟩
  have hc2 := hc1.k58 (J := J2) hm1.1 k2
  have hN2 := hN1
  refine v_icmp_eq hX 1135 qL_law_382 rfl (fun q382 => ?_) (fun q382 => ?_)
  · skip
    refine v_widen (rt := none) (k' := 58 + 6 * (c + 1)) (n' := 4289 + 6 * (c + 1)) (by omega) (by omega) ?_
    exact kk _ _ (LwI.nx hc2 hm2 (Nat.le_trans hN2 (by omega)))
  · exact absurd rfl q382
theorem qL_law_387 : Dq cL_law 387 (.aload_n 1) 1 388 := ⟨by decide +kernel, rfl⟩
theorem qL_law_388 : Dq cL_law 388 (.aload_n 0) 1 389 := ⟨by decide +kernel, rfl⟩
theorem qL_law_389 : Dq cL_law 389 (.iload_n 3) 1 390 := ⟨by decide +kernel, rfl⟩
theorem qL_law_390 : Dq cL_law 390 (.iconst 1) 1 391 := ⟨by decide +kernel, rfl⟩
theorem qL_law_391 : Dq cL_law 391 (.iadd) 1 392 := ⟨by decide +kernel, rfl⟩
theorem qL_law_392 : Dq cL_law 392 (.iaload) 1 393 := ⟨by decide +kernel, rfl⟩
theorem qL_law_393 : Dq cL_law 393 (.aload_n 0) 1 394 := ⟨by decide +kernel, rfl⟩
theorem qL_law_394 : Dq cL_law 394 (.iload_n 3) 1 395 := ⟨by decide +kernel, rfl⟩
theorem qL_law_395 : Dq cL_law 395 (.iconst 2) 1 396 := ⟨by decide +kernel, rfl⟩
theorem qL_law_396 : Dq cL_law 396 (.iadd) 1 397 := ⟨by decide +kernel, rfl⟩
theorem qL_law_397 : Dq cL_law 397 (.iaload) 1 398 := ⟨by decide +kernel, rfl⟩
theorem qL_law_398 : Dq cL_law 398 (.invokevirtual 45) 3 401 := ⟨by decide +kernel, rfl⟩
theorem qL_law_401 : Dq cL_law 401 (.aload_n 2) 1 402 := ⟨by decide +kernel, rfl⟩
theorem qL_law_402 : Dq cL_law 402 (.aload_n 0) 1 403 := ⟨by decide +kernel, rfl⟩
theorem qL_law_403 : Dq cL_law 403 (.iload_n 3) 1 404 := ⟨by decide +kernel, rfl⟩
theorem qL_law_404 : Dq cL_law 404 (.iconst 1) 1 405 := ⟨by decide +kernel, rfl⟩
theorem qL_law_405 : Dq cL_law 405 (.iadd) 1 406 := ⟨by decide +kernel, rfl⟩
theorem qL_law_406 : Dq cL_law 406 (.iaload) 1 407 := ⟨by decide +kernel, rfl⟩
theorem qL_law_407 : Dq cL_law 407 (.aload_n 0) 1 408 := ⟨by decide +kernel, rfl⟩
theorem qL_law_408 : Dq cL_law 408 (.iload_n 3) 1 409 := ⟨by decide +kernel, rfl⟩
theorem qL_law_409 : Dq cL_law 409 (.iconst 2) 1 410 := ⟨by decide +kernel, rfl⟩
theorem qL_law_410 : Dq cL_law 410 (.iadd) 1 411 := ⟨by decide +kernel, rfl⟩
theorem qL_law_411 : Dq cL_law 411 (.iaload) 1 412 := ⟨by decide +kernel, rfl⟩
theorem qL_law_412 : Dq cL_law 412 (.invokevirtual 48) 3 415 := ⟨by decide +kernel, rfl⟩
theorem qL_law_415 : Dq cL_law 415 (.if_icmp .eq 720) 3 418 := ⟨by decide +kernel, rfl⟩
set_option maxRecDepth 100000 in
set_option maxHeartbeats 4000000 in
theorem law_07 {X : Cx} {G : Glb} {L : Nat} {xsc : Nat → Int32} {Q : State → Prop} (hl : LwX X G L xsc) {h : AHp} {E : Sst} {i c : Nat} (hi : i + 6 ≤ L) (hc64 : c < 64) (hI : LwI h E c) (kk : ∀ h' E', LwI h' E' (c + 1) → V X G 4 (58 + 6 * (c + 1)) (4289 + 6 * (c + 1)) Q 1135 [some (.ref 1000000), some (.ref 0), some (.ref 38), some (.int (nI i))] [] h') : V X G 4 (58 + 6 * c) (4289 + 6 * c) Q 387 [some (.ref 1000000), some (.ref 0), some (.ref 38), some (.int (nI i))] [] h := by
  obtain ⟨hc, hm, hN⟩ := hI
  obtain ⟨hX, hR, -⟩ := id hl
  refine v_aload_n hX rfl qL_law_387 ?_
  refine v_aload_n hX rfl qL_law_388 ?_
  refine v_iload_n hX rfl qL_law_389 ?_
  refine v_iconst hX li_1 qL_law_390 ?_
  refine v_iadd hX qL_law_391 ?_
  refine hl.sld (j := i + 1) (nI_add i 1) (by omega) qL_law_392 ?_
  refine v_aload_n hX rfl qL_law_393 ?_
  refine v_iload_n hX rfl qL_law_394 ?_
  refine v_iconst hX li_2 qL_law_395 ?_
  refine v_iadd hX qL_law_396 ?_
  refine hl.sld (j := i + 2) (nI_add i 2) (by omega) qL_law_397 ?_
  refine v_callVL hX hR k_L_45 (hc.1.kd 0 rfl) (c_look (by exact hc) _ _) rfl (Nat.le_of_ble_eq_true rfl) rfl (Nat.le_of_ble_eq_true rfl) ⟨by omega, by omega⟩ qL_law_398 ?_
  rintro _ _ ⟨rfl, σ, rfl, hc1, k1⟩
  have hm1 := hm.k38 k1
  have hN1 : hpN (σ, h.2) ≤ 58 + 6 * c := hN
  refine v_aload_n hX rfl qL_law_401 ?_
  refine v_aload_n hX rfl qL_law_402 ?_
  refine v_iload_n hX rfl qL_law_403 ?_
  refine v_iconst hX li_1 qL_law_404 ?_
  refine v_iadd hX qL_law_405 ?_
  refine hl.sld (j := i + 1) (nI_add i 1) (by omega) qL_law_406 ?_
  refine v_aload_n hX rfl qL_law_407 ?_
  refine v_iload_n hX rfl qL_law_408 ?_
  refine v_iconst hX li_2 qL_law_409 ?_
  refine v_iadd hX qL_law_410 ?_
  refine hl.sld (j := i + 2) (nI_add i 2) (by omega) qL_law_411 ?_
  refine v_callVL hX hR k_L_48 (hm1.1.kd 38 rfl) (m_look (by exact hm1) _ _) rfl (Nat.le_of_ble_eq_true rfl) rfl (Nat.le_of_ble_eq_true rfl) ⟨by omega, by omega⟩ qL_law_412 ?_
  rintro _ _ ⟨rfl, σ2, J2, rfl, hm2, k2⟩
  have hc2 := hc1.k58 (J := J2) hm1.1 k2
  have hN2 := hN1
  refine v_icmp_eq hX 1135 qL_law_415 rfl (fun q415 => ?_) (fun q415 => ?_)
  · skip
    refine v_widen (rt := none) (k' := 58 + 6 * (c + 1)) (n' := 4289 + 6 * (c + 1)) (by omega) (by omega) ?_
    exact kk _ _ (LwI.nx hc2 hm2 (Nat.le_trans hN2 (by omega)))
  · exact absurd rfl q415

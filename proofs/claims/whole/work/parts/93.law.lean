/-! ===== the law's body: one lemma a call ===== -/
abbrev fi_L_law : FI := (yL_law, cL_law, 4, some .boolean, room_1)
theorem clrL {f' : FI} (hc : f'.2.2.2.2.cells = 0) (hs : f'.2.2.2.2.slots = 0) (h1 : f'.2.2.2.2.frames + 1 ≤ fi_L_law.2.2.2.2.frames) (h2 : 8 + (f'.2.2.1 + 11) + f'.2.2.2.2.locals ≤ fi_L_law.2.2.2.2.locals) : CLr fi_L_law f' 0 93 := by
  unfold CLr
  rw [hc, hs]
  exact ⟨⟨h1, h2⟩, ⟨by decide +kernel, by decide +kernel⟩, rfl⟩
set_option maxHeartbeats 4000000 in
theorem lk_0 (l : Launch) (g : Cx) (μ : Mc) (Q : State → Prop) (pz : Int) (M : FMem) (hL : (g.2.2.2.2.1 : Int) ≤ 4096) (h0 : 0 ≤ pz ∧ pz + 8 ≤ (g.2.2.2.2.1 : Int)) (hC : Cp M) (hk : ∀ M2, Cp M2 → Wa l g true fi_L_law 0 μ Q 1183 [] [fe 0, fr 0, fr 60, fi pz] 93 M2) : Wa l g true fi_L_law 0 μ Q 164 [] [fe 0, fr 0, fr 60, fi pz] 93 M := by
  refine z_aload_nr dL_law_164 rfl ?_
  refine z_aload_ne dL_law_165 rfl ?_
  refine z_iload_n dL_law_166 rfl ?_
  refine z_iconst dL_law_167 ⟨by decide, by decide⟩ ?_
  first | refine z_iaddN dL_law_168 (by omega) (fun x1 hx1 => ?_) | refine z_iadd dL_law_168 (fun x1 hx1 => ?_)
  refine z_sld (by omega) (by omega) dL_law_169 (fun x2 hx2 bx2 => ?_)
  refine z_aload_ne dL_law_170 rfl ?_
  refine z_iload_n dL_law_171 rfl ?_
  refine z_iconst dL_law_172 ⟨by decide, by decide⟩ ?_
  first | refine z_iaddN dL_law_173 (by omega) (fun x3 hx3 => ?_) | refine z_iadd dL_law_173 (fun x3 hx3 => ?_)
  refine z_sld (by omega) (by omega) dL_law_174 (fun x4 hx4 bx4 => ?_)
  refine z_aload_ne dL_law_175 rfl ?_
  refine z_iload_n dL_law_176 rfl ?_
  refine z_iconst dL_law_177 ⟨by decide, by decide⟩ ?_
  first | refine z_iaddN dL_law_178 (by omega) (fun x5 hx5 => ?_) | refine z_iadd dL_law_178 (fun x5 hx5 => ?_)
  refine z_sld (by omega) (by omega) dL_law_179 (fun x6 hx6 bx6 => ?_)
  refine z_aload_ne dL_law_180 rfl ?_
  refine z_iload_n dL_law_181 rfl ?_
  refine z_iconst dL_law_182 ⟨by decide, by decide⟩ ?_
  first | refine z_iaddN dL_law_183 (by omega) (fun x7 hx7 => ?_) | refine z_iadd dL_law_183 (fun x7 hx7 => ?_)
  refine z_sld (by omega) (by omega) dL_law_184 (fun x8 hx8 bx8 => ?_)
  refine z_aload_ne dL_law_185 rfl ?_
  refine z_iload_n dL_law_186 rfl ?_
  refine z_iconst dL_law_187 ⟨by decide, by decide⟩ ?_
  first | refine z_iaddN dL_law_188 (by omega) (fun x9 hx9 => ?_) | refine z_iadd dL_law_188 (fun x9 hx9 => ?_)
  refine z_sld (by omega) (by omega) dL_law_189 (fun x10 hx10 bx10 => ?_)
  refine z_aload_ne dL_law_190 rfl ?_
  refine z_iload_n dL_law_191 rfl ?_
  refine z_bipush dL_law_192 ⟨by decide, by decide⟩ (by decide) ?_
  first | refine z_iaddN dL_law_194 (by omega) (fun x11 hx11 => ?_) | refine z_iadd dL_law_194 (fun x11 hx11 => ?_)
  refine z_sld (by omega) (by omega) dL_law_195 (fun x12 hx12 bx12 => ?_)
  refine z_aload_ne dL_law_196 rfl ?_
  refine z_iload_n dL_law_197 rfl ?_
  refine z_bipush dL_law_198 ⟨by decide, by decide⟩ (by decide) ?_
  first | refine z_iaddN dL_law_200 (by omega) (fun x13 hx13 => ?_) | refine z_iadd dL_law_200 (fun x13 hx13 => ?_)
  refine z_sld (by omega) (by omega) dL_law_201 (fun x14 hx14 bx14 => ?_)
  refine z_callVi (n2 := 93) (C_light l g M x2 x4 x6 x8 x10 x12 x14 hC) cb_X7_light cl_L_13 (clrL rfl rfl (by decide) (by decide)) rfl (by decide) ⟨_, rfl, rfl⟩ rfl (by decide) rfl (Nat.le_of_ble_eq_true rfl) rfl dL_law_202 (fun x15 Mz15 bx15 kMz15 hc15 => ?_)
  have hk1 := hc15
  refine z_aload_nr dL_law_205 rfl ?_
  refine z_aload_ne dL_law_206 rfl ?_
  refine z_iload_n dL_law_207 rfl ?_
  refine z_iconst dL_law_208 ⟨by decide, by decide⟩ ?_
  first | refine z_iaddN dL_law_209 (by omega) (fun x16 hx16 => ?_) | refine z_iadd dL_law_209 (fun x16 hx16 => ?_)
  refine z_sld (by omega) (by omega) dL_law_210 (fun x17 hx17 bx17 => ?_)
  refine z_aload_ne dL_law_211 rfl ?_
  refine z_iload_n dL_law_212 rfl ?_
  refine z_iconst dL_law_213 ⟨by decide, by decide⟩ ?_
  first | refine z_iaddN dL_law_214 (by omega) (fun x18 hx18 => ?_) | refine z_iadd dL_law_214 (fun x18 hx18 => ?_)
  refine z_sld (by omega) (by omega) dL_law_215 (fun x19 hx19 bx19 => ?_)
  refine z_aload_ne dL_law_216 rfl ?_
  refine z_iload_n dL_law_217 rfl ?_
  refine z_iconst dL_law_218 ⟨by decide, by decide⟩ ?_
  first | refine z_iaddN dL_law_219 (by omega) (fun x20 hx20 => ?_) | refine z_iadd dL_law_219 (fun x20 hx20 => ?_)
  refine z_sld (by omega) (by omega) dL_law_220 (fun x21 hx21 bx21 => ?_)
  refine z_aload_ne dL_law_221 rfl ?_
  refine z_iload_n dL_law_222 rfl ?_
  refine z_iconst dL_law_223 ⟨by decide, by decide⟩ ?_
  first | refine z_iaddN dL_law_224 (by omega) (fun x22 hx22 => ?_) | refine z_iadd dL_law_224 (fun x22 hx22 => ?_)
  refine z_sld (by omega) (by omega) dL_law_225 (fun x23 hx23 bx23 => ?_)
  refine z_aload_ne dL_law_226 rfl ?_
  refine z_iload_n dL_law_227 rfl ?_
  refine z_iconst dL_law_228 ⟨by decide, by decide⟩ ?_
  first | refine z_iaddN dL_law_229 (by omega) (fun x24 hx24 => ?_) | refine z_iadd dL_law_229 (fun x24 hx24 => ?_)
  refine z_sld (by omega) (by omega) dL_law_230 (fun x25 hx25 bx25 => ?_)
  refine z_aload_ne dL_law_231 rfl ?_
  refine z_iload_n dL_law_232 rfl ?_
  refine z_bipush dL_law_233 ⟨by decide, by decide⟩ (by decide) ?_
  first | refine z_iaddN dL_law_235 (by omega) (fun x26 hx26 => ?_) | refine z_iadd dL_law_235 (fun x26 hx26 => ?_)
  refine z_sld (by omega) (by omega) dL_law_236 (fun x27 hx27 bx27 => ?_)
  refine z_aload_ne dL_law_237 rfl ?_
  refine z_iload_n dL_law_238 rfl ?_
  refine z_bipush dL_law_239 ⟨by decide, by decide⟩ (by decide) ?_
  first | refine z_iaddN dL_law_241 (by omega) (fun x28 hx28 => ?_) | refine z_iadd dL_law_241 (fun x28 hx28 => ?_)
  refine z_sld (by omega) (by omega) dL_law_242 (fun x29 hx29 bx29 => ?_)
  refine z_callVi (n2 := 93) (D_light l g M Mz15 x17 x19 x21 x23 x25 x27 x29 x15 hC (by have z := hk1; rw [(show x2 = x17 by first | (subst_vars; rfl) | (subst_vars; omega)), (show x4 = x19 by first | (subst_vars; rfl) | (subst_vars; omega)), (show x6 = x21 by first | (subst_vars; rfl) | (subst_vars; omega)), (show x8 = x23 by first | (subst_vars; rfl) | (subst_vars; omega)), (show x10 = x25 by first | (subst_vars; rfl) | (subst_vars; omega)), (show x12 = x27 by first | (subst_vars; rfl) | (subst_vars; omega)), (show x14 = x29 by first | (subst_vars; rfl) | (subst_vars; omega))] at z; exact z)) cb_X8_light cl_L_17 (clrL rfl rfl (by decide) (by decide)) rfl (by decide) ⟨_, rfl, rfl⟩ rfl (by decide) rfl (Nat.le_of_ble_eq_true rfl) rfl dL_law_243 (fun x30 Mz30 bx30 kMz30 hc30 => ?_)
  have hk2 := hc30
  refine z_icmp_eq (tgt := 1183) dL_law_246 (by decide) (fun c31 => ?_) (fun c31 => ?_)
  · exact hk _ hk2.2
  · exfalso; have z := hk2.1; omega
set_option maxHeartbeats 4000000 in
theorem lk_1 (l : Launch) (g : Cx) (μ : Mc) (Q : State → Prop) (pz : Int) (M : FMem) (hL : (g.2.2.2.2.1 : Int) ≤ 4096) (h0 : 0 ≤ pz ∧ pz + 8 ≤ (g.2.2.2.2.1 : Int)) (hC : Cp M) (hk : ∀ M2, Cp M2 → Wa l g true fi_L_law 0 μ Q 1183 [] [fe 0, fr 0, fr 60, fi pz] 93 M2) : Wa l g true fi_L_law 0 μ Q 251 [] [fe 0, fr 0, fr 60, fi pz] 93 M := by
  refine z_aload_nr dL_law_251 rfl ?_
  refine z_aload_ne dL_law_252 rfl ?_
  refine z_iload_n dL_law_253 rfl ?_
  refine z_iconst dL_law_254 ⟨by decide, by decide⟩ ?_
  first | refine z_iaddN dL_law_255 (by omega) (fun x1 hx1 => ?_) | refine z_iadd dL_law_255 (fun x1 hx1 => ?_)
  refine z_sld (by omega) (by omega) dL_law_256 (fun x2 hx2 bx2 => ?_)
  refine z_aload_ne dL_law_257 rfl ?_
  refine z_iload_n dL_law_258 rfl ?_
  refine z_iconst dL_law_259 ⟨by decide, by decide⟩ ?_
  first | refine z_iaddN dL_law_260 (by omega) (fun x3 hx3 => ?_) | refine z_iadd dL_law_260 (fun x3 hx3 => ?_)
  refine z_sld (by omega) (by omega) dL_law_261 (fun x4 hx4 bx4 => ?_)
  refine z_aload_ne dL_law_262 rfl ?_
  refine z_iload_n dL_law_263 rfl ?_
  refine z_iconst dL_law_264 ⟨by decide, by decide⟩ ?_
  first | refine z_iaddN dL_law_265 (by omega) (fun x5 hx5 => ?_) | refine z_iadd dL_law_265 (fun x5 hx5 => ?_)
  refine z_sld (by omega) (by omega) dL_law_266 (fun x6 hx6 bx6 => ?_)
  refine z_aload_ne dL_law_267 rfl ?_
  refine z_iload_n dL_law_268 rfl ?_
  refine z_iconst dL_law_269 ⟨by decide, by decide⟩ ?_
  first | refine z_iaddN dL_law_270 (by omega) (fun x7 hx7 => ?_) | refine z_iadd dL_law_270 (fun x7 hx7 => ?_)
  refine z_sld (by omega) (by omega) dL_law_271 (fun x8 hx8 bx8 => ?_)
  refine z_callVi (n2 := 93) (C_shift l g M x2 x4 x6 x8 hC) cb_X7_shift cl_L_18 (clrL rfl rfl (by decide) (by decide)) rfl (by decide) ⟨_, rfl, rfl⟩ rfl (by decide) rfl (Nat.le_of_ble_eq_true rfl) rfl dL_law_272 (fun x9 Mz9 bx9 kMz9 hc9 => ?_)
  have hk1 := hc9
  refine z_aload_nr dL_law_275 rfl ?_
  refine z_aload_ne dL_law_276 rfl ?_
  refine z_iload_n dL_law_277 rfl ?_
  refine z_iconst dL_law_278 ⟨by decide, by decide⟩ ?_
  first | refine z_iaddN dL_law_279 (by omega) (fun x10 hx10 => ?_) | refine z_iadd dL_law_279 (fun x10 hx10 => ?_)
  refine z_sld (by omega) (by omega) dL_law_280 (fun x11 hx11 bx11 => ?_)
  refine z_aload_ne dL_law_281 rfl ?_
  refine z_iload_n dL_law_282 rfl ?_
  refine z_iconst dL_law_283 ⟨by decide, by decide⟩ ?_
  first | refine z_iaddN dL_law_284 (by omega) (fun x12 hx12 => ?_) | refine z_iadd dL_law_284 (fun x12 hx12 => ?_)
  refine z_sld (by omega) (by omega) dL_law_285 (fun x13 hx13 bx13 => ?_)
  refine z_aload_ne dL_law_286 rfl ?_
  refine z_iload_n dL_law_287 rfl ?_
  refine z_iconst dL_law_288 ⟨by decide, by decide⟩ ?_
  first | refine z_iaddN dL_law_289 (by omega) (fun x14 hx14 => ?_) | refine z_iadd dL_law_289 (fun x14 hx14 => ?_)
  refine z_sld (by omega) (by omega) dL_law_290 (fun x15 hx15 bx15 => ?_)
  refine z_aload_ne dL_law_291 rfl ?_
  refine z_iload_n dL_law_292 rfl ?_
  refine z_iconst dL_law_293 ⟨by decide, by decide⟩ ?_
  first | refine z_iaddN dL_law_294 (by omega) (fun x16 hx16 => ?_) | refine z_iadd dL_law_294 (fun x16 hx16 => ?_)
  refine z_sld (by omega) (by omega) dL_law_295 (fun x17 hx17 bx17 => ?_)
  refine z_callVi (n2 := 93) (D_shift l g M Mz9 x11 x13 x15 x17 x9 hC (by have z := hk1; rw [(show x2 = x11 by first | (subst_vars; rfl) | (subst_vars; omega)), (show x4 = x13 by first | (subst_vars; rfl) | (subst_vars; omega)), (show x6 = x15 by first | (subst_vars; rfl) | (subst_vars; omega)), (show x8 = x17 by first | (subst_vars; rfl) | (subst_vars; omega))] at z; exact z)) cb_X8_shift cl_L_22 (clrL rfl rfl (by decide) (by decide)) rfl (by decide) ⟨_, rfl, rfl⟩ rfl (by decide) rfl (Nat.le_of_ble_eq_true rfl) rfl dL_law_296 (fun x18 Mz18 bx18 kMz18 hc18 => ?_)
  have hk2 := hc18
  refine z_icmp_eq (tgt := 1183) dL_law_299 (by decide) (fun c19 => ?_) (fun c19 => ?_)
  · exact hk _ hk2.2
  · exfalso; have z := hk2.1; omega
set_option maxHeartbeats 4000000 in
theorem lk_2 (l : Launch) (g : Cx) (μ : Mc) (Q : State → Prop) (pz : Int) (M : FMem) (hL : (g.2.2.2.2.1 : Int) ≤ 4096) (h0 : 0 ≤ pz ∧ pz + 8 ≤ (g.2.2.2.2.1 : Int)) (hC : Cp M) (hk : ∀ M2, Cp M2 → Wa l g true fi_L_law 0 μ Q 1183 [] [fe 0, fr 0, fr 60, fi pz] 93 M2) : Wa l g true fi_L_law 0 μ Q 304 [] [fe 0, fr 0, fr 60, fi pz] 93 M := by
  refine z_aload_nr dL_law_304 rfl ?_
  refine z_aload_ne dL_law_305 rfl ?_
  refine z_iload_n dL_law_306 rfl ?_
  refine z_iconst dL_law_307 ⟨by decide, by decide⟩ ?_
  first | refine z_iaddN dL_law_308 (by omega) (fun x1 hx1 => ?_) | refine z_iadd dL_law_308 (fun x1 hx1 => ?_)
  refine z_sld (by omega) (by omega) dL_law_309 (fun x2 hx2 bx2 => ?_)
  refine z_aload_ne dL_law_310 rfl ?_
  refine z_iload_n dL_law_311 rfl ?_
  refine z_iconst dL_law_312 ⟨by decide, by decide⟩ ?_
  first | refine z_iaddN dL_law_313 (by omega) (fun x3 hx3 => ?_) | refine z_iadd dL_law_313 (fun x3 hx3 => ?_)
  refine z_sld (by omega) (by omega) dL_law_314 (fun x4 hx4 bx4 => ?_)
  refine z_aload_ne dL_law_315 rfl ?_
  refine z_iload_n dL_law_316 rfl ?_
  refine z_iconst dL_law_317 ⟨by decide, by decide⟩ ?_
  first | refine z_iaddN dL_law_318 (by omega) (fun x5 hx5 => ?_) | refine z_iadd dL_law_318 (fun x5 hx5 => ?_)
  refine z_sld (by omega) (by omega) dL_law_319 (fun x6 hx6 bx6 => ?_)
  refine z_aload_ne dL_law_320 rfl ?_
  refine z_iload_n dL_law_321 rfl ?_
  refine z_iconst dL_law_322 ⟨by decide, by decide⟩ ?_
  first | refine z_iaddN dL_law_323 (by omega) (fun x7 hx7 => ?_) | refine z_iadd dL_law_323 (fun x7 hx7 => ?_)
  refine z_sld (by omega) (by omega) dL_law_324 (fun x8 hx8 bx8 => ?_)
  refine z_callVi (n2 := 93) (C_anchor l g M x2 x4 x6 x8 hC) cb_X7_anchor cl_L_23 (clrL rfl rfl (by decide) (by decide)) rfl (by decide) ⟨_, rfl, rfl⟩ rfl (by decide) rfl (Nat.le_of_ble_eq_true rfl) rfl dL_law_325 (fun x9 Mz9 bx9 kMz9 hc9 => ?_)
  have hk1 := hc9
  refine z_aload_nr dL_law_328 rfl ?_
  refine z_aload_ne dL_law_329 rfl ?_
  refine z_iload_n dL_law_330 rfl ?_
  refine z_iconst dL_law_331 ⟨by decide, by decide⟩ ?_
  first | refine z_iaddN dL_law_332 (by omega) (fun x10 hx10 => ?_) | refine z_iadd dL_law_332 (fun x10 hx10 => ?_)
  refine z_sld (by omega) (by omega) dL_law_333 (fun x11 hx11 bx11 => ?_)
  refine z_aload_ne dL_law_334 rfl ?_
  refine z_iload_n dL_law_335 rfl ?_
  refine z_iconst dL_law_336 ⟨by decide, by decide⟩ ?_
  first | refine z_iaddN dL_law_337 (by omega) (fun x12 hx12 => ?_) | refine z_iadd dL_law_337 (fun x12 hx12 => ?_)
  refine z_sld (by omega) (by omega) dL_law_338 (fun x13 hx13 bx13 => ?_)
  refine z_aload_ne dL_law_339 rfl ?_
  refine z_iload_n dL_law_340 rfl ?_
  refine z_iconst dL_law_341 ⟨by decide, by decide⟩ ?_
  first | refine z_iaddN dL_law_342 (by omega) (fun x14 hx14 => ?_) | refine z_iadd dL_law_342 (fun x14 hx14 => ?_)
  refine z_sld (by omega) (by omega) dL_law_343 (fun x15 hx15 bx15 => ?_)
  refine z_aload_ne dL_law_344 rfl ?_
  refine z_iload_n dL_law_345 rfl ?_
  refine z_iconst dL_law_346 ⟨by decide, by decide⟩ ?_
  first | refine z_iaddN dL_law_347 (by omega) (fun x16 hx16 => ?_) | refine z_iadd dL_law_347 (fun x16 hx16 => ?_)
  refine z_sld (by omega) (by omega) dL_law_348 (fun x17 hx17 bx17 => ?_)
  refine z_callVi (n2 := 93) (D_anchor l g M Mz9 x11 x13 x15 x17 x9 hC (by have z := hk1; rw [(show x2 = x11 by first | (subst_vars; rfl) | (subst_vars; omega)), (show x4 = x13 by first | (subst_vars; rfl) | (subst_vars; omega)), (show x6 = x15 by first | (subst_vars; rfl) | (subst_vars; omega)), (show x8 = x17 by first | (subst_vars; rfl) | (subst_vars; omega))] at z; exact z)) cb_X8_anchor cl_L_26 (clrL rfl rfl (by decide) (by decide)) rfl (by decide) ⟨_, rfl, rfl⟩ rfl (by decide) rfl (Nat.le_of_ble_eq_true rfl) rfl dL_law_349 (fun x18 Mz18 bx18 kMz18 hc18 => ?_)
  have hk2 := hc18
  refine z_icmp_eq (tgt := 1183) dL_law_352 (by decide) (fun c19 => ?_) (fun c19 => ?_)
  · exact hk _ hk2.2
  · exfalso; have z := hk2.1; omega
set_option maxHeartbeats 4000000 in
theorem lk_3 (l : Launch) (g : Cx) (μ : Mc) (Q : State → Prop) (pz : Int) (M : FMem) (hL : (g.2.2.2.2.1 : Int) ≤ 4096) (h0 : 0 ≤ pz ∧ pz + 8 ≤ (g.2.2.2.2.1 : Int)) (hC : Cp M) (hk : ∀ M2, Cp M2 → Wa l g true fi_L_law 0 μ Q 1183 [] [fe 0, fr 0, fr 60, fi pz] 93 M2) : Wa l g true fi_L_law 0 μ Q 357 [] [fe 0, fr 0, fr 60, fi pz] 93 M := by
  refine z_aload_nr dL_law_357 rfl ?_
  refine z_aload_ne dL_law_358 rfl ?_
  refine z_iload_n dL_law_359 rfl ?_
  refine z_iconst dL_law_360 ⟨by decide, by decide⟩ ?_
  first | refine z_iaddN dL_law_361 (by omega) (fun x1 hx1 => ?_) | refine z_iadd dL_law_361 (fun x1 hx1 => ?_)
  refine z_sld (by omega) (by omega) dL_law_362 (fun x2 hx2 bx2 => ?_)
  refine z_aload_ne dL_law_363 rfl ?_
  refine z_iload_n dL_law_364 rfl ?_
  refine z_iconst dL_law_365 ⟨by decide, by decide⟩ ?_
  first | refine z_iaddN dL_law_366 (by omega) (fun x3 hx3 => ?_) | refine z_iadd dL_law_366 (fun x3 hx3 => ?_)
  refine z_sld (by omega) (by omega) dL_law_367 (fun x4 hx4 bx4 => ?_)
  refine z_aload_ne dL_law_368 rfl ?_
  refine z_iload_n dL_law_369 rfl ?_
  refine z_iconst dL_law_370 ⟨by decide, by decide⟩ ?_
  first | refine z_iaddN dL_law_371 (by omega) (fun x5 hx5 => ?_) | refine z_iadd dL_law_371 (fun x5 hx5 => ?_)
  refine z_sld (by omega) (by omega) dL_law_372 (fun x6 hx6 bx6 => ?_)
  refine z_callVi (n2 := 93) (C_redden l g M x2 x4 x6 hC) cb_X7_redden cl_L_27 (clrL rfl rfl (by decide) (by decide)) rfl (by decide) ⟨_, rfl, rfl⟩ rfl (by decide) rfl (Nat.le_of_ble_eq_true rfl) rfl dL_law_373 (fun x7 Mz7 bx7 kMz7 hc7 => ?_)
  have hk1 := hc7
  refine z_aload_nr dL_law_376 rfl ?_
  refine z_aload_ne dL_law_377 rfl ?_
  refine z_iload_n dL_law_378 rfl ?_
  refine z_iconst dL_law_379 ⟨by decide, by decide⟩ ?_
  first | refine z_iaddN dL_law_380 (by omega) (fun x8 hx8 => ?_) | refine z_iadd dL_law_380 (fun x8 hx8 => ?_)
  refine z_sld (by omega) (by omega) dL_law_381 (fun x9 hx9 bx9 => ?_)
  refine z_aload_ne dL_law_382 rfl ?_
  refine z_iload_n dL_law_383 rfl ?_
  refine z_iconst dL_law_384 ⟨by decide, by decide⟩ ?_
  first | refine z_iaddN dL_law_385 (by omega) (fun x10 hx10 => ?_) | refine z_iadd dL_law_385 (fun x10 hx10 => ?_)
  refine z_sld (by omega) (by omega) dL_law_386 (fun x11 hx11 bx11 => ?_)
  refine z_aload_ne dL_law_387 rfl ?_
  refine z_iload_n dL_law_388 rfl ?_
  refine z_iconst dL_law_389 ⟨by decide, by decide⟩ ?_
  first | refine z_iaddN dL_law_390 (by omega) (fun x12 hx12 => ?_) | refine z_iadd dL_law_390 (fun x12 hx12 => ?_)
  refine z_sld (by omega) (by omega) dL_law_391 (fun x13 hx13 bx13 => ?_)
  refine z_callVi (n2 := 93) (D_redden l g M Mz7 x9 x11 x13 x7 hC (by have z := hk1; rw [(show x2 = x9 by first | (subst_vars; rfl) | (subst_vars; omega)), (show x4 = x11 by first | (subst_vars; rfl) | (subst_vars; omega)), (show x6 = x13 by first | (subst_vars; rfl) | (subst_vars; omega))] at z; exact z)) cb_X8_redden cl_L_31 (clrL rfl rfl (by decide) (by decide)) rfl (by decide) ⟨_, rfl, rfl⟩ rfl (by decide) rfl (Nat.le_of_ble_eq_true rfl) rfl dL_law_392 (fun x14 Mz14 bx14 kMz14 hc14 => ?_)
  have hk2 := hc14
  refine z_icmp_eq (tgt := 1183) dL_law_395 (by decide) (fun c15 => ?_) (fun c15 => ?_)
  · exact hk _ hk2.2
  · exfalso; have z := hk2.1; omega
set_option maxHeartbeats 4000000 in
theorem lk_4 (l : Launch) (g : Cx) (μ : Mc) (Q : State → Prop) (pz : Int) (M : FMem) (hL : (g.2.2.2.2.1 : Int) ≤ 4096) (h0 : 0 ≤ pz ∧ pz + 8 ≤ (g.2.2.2.2.1 : Int)) (hC : Cp M) (hk : ∀ M2, Cp M2 → Wa l g true fi_L_law 0 μ Q 1183 [] [fe 0, fr 0, fr 60, fi pz] 93 M2) : Wa l g true fi_L_law 0 μ Q 400 [] [fe 0, fr 0, fr 60, fi pz] 93 M := by
  refine z_aload_nr dL_law_400 rfl ?_
  refine z_aload_ne dL_law_401 rfl ?_
  refine z_iload_n dL_law_402 rfl ?_
  refine z_iconst dL_law_403 ⟨by decide, by decide⟩ ?_
  first | refine z_iaddN dL_law_404 (by omega) (fun x1 hx1 => ?_) | refine z_iadd dL_law_404 (fun x1 hx1 => ?_)
  refine z_sld (by omega) (by omega) dL_law_405 (fun x2 hx2 bx2 => ?_)
  refine z_aload_ne dL_law_406 rfl ?_
  refine z_iload_n dL_law_407 rfl ?_
  refine z_iconst dL_law_408 ⟨by decide, by decide⟩ ?_
  first | refine z_iaddN dL_law_409 (by omega) (fun x3 hx3 => ?_) | refine z_iadd dL_law_409 (fun x3 hx3 => ?_)
  refine z_sld (by omega) (by omega) dL_law_410 (fun x4 hx4 bx4 => ?_)
  refine z_callVi (n2 := 93) (C_redness l g M x2 x4 hC) cb_X7_redness cl_L_32 (clrL rfl rfl (by decide) (by decide)) rfl (by decide) ⟨_, rfl, rfl⟩ rfl (by decide) rfl (Nat.le_of_ble_eq_true rfl) rfl dL_law_411 (fun x5 Mz5 bx5 kMz5 hc5 => ?_)
  have hk1 := hc5
  refine z_aload_nr dL_law_414 rfl ?_
  refine z_aload_ne dL_law_415 rfl ?_
  refine z_iload_n dL_law_416 rfl ?_
  refine z_iconst dL_law_417 ⟨by decide, by decide⟩ ?_
  first | refine z_iaddN dL_law_418 (by omega) (fun x6 hx6 => ?_) | refine z_iadd dL_law_418 (fun x6 hx6 => ?_)
  refine z_sld (by omega) (by omega) dL_law_419 (fun x7 hx7 bx7 => ?_)
  refine z_aload_ne dL_law_420 rfl ?_
  refine z_iload_n dL_law_421 rfl ?_
  refine z_iconst dL_law_422 ⟨by decide, by decide⟩ ?_
  first | refine z_iaddN dL_law_423 (by omega) (fun x8 hx8 => ?_) | refine z_iadd dL_law_423 (fun x8 hx8 => ?_)
  refine z_sld (by omega) (by omega) dL_law_424 (fun x9 hx9 bx9 => ?_)
  refine z_callVi (n2 := 93) (D_redness l g M Mz5 x7 x9 x5 hC (by have z := hk1; rw [(show x2 = x7 by first | (subst_vars; rfl) | (subst_vars; omega)), (show x4 = x9 by first | (subst_vars; rfl) | (subst_vars; omega))] at z; exact z)) cb_X8_redness cl_L_36 (clrL rfl rfl (by decide) (by decide)) rfl (by decide) ⟨_, rfl, rfl⟩ rfl (by decide) rfl (Nat.le_of_ble_eq_true rfl) rfl dL_law_425 (fun x10 Mz10 bx10 kMz10 hc10 => ?_)
  have hk2 := hc10
  refine z_icmp_eq (tgt := 1183) dL_law_428 (by decide) (fun c11 => ?_) (fun c11 => ?_)
  · exact hk _ hk2.2
  · exfalso; have z := hk2.1; omega
set_option maxHeartbeats 4000000 in
theorem lk_5 (l : Launch) (g : Cx) (μ : Mc) (Q : State → Prop) (pz : Int) (M : FMem) (hL : (g.2.2.2.2.1 : Int) ≤ 4096) (h0 : 0 ≤ pz ∧ pz + 8 ≤ (g.2.2.2.2.1 : Int)) (hC : Cp M) (hk : ∀ M2, Cp M2 → Wa l g true fi_L_law 0 μ Q 1183 [] [fe 0, fr 0, fr 60, fi pz] 93 M2) : Wa l g true fi_L_law 0 μ Q 433 [] [fe 0, fr 0, fr 60, fi pz] 93 M := by
  refine z_aload_nr dL_law_433 rfl ?_
  refine z_aload_ne dL_law_434 rfl ?_
  refine z_iload_n dL_law_435 rfl ?_
  refine z_iconst dL_law_436 ⟨by decide, by decide⟩ ?_
  first | refine z_iaddN dL_law_437 (by omega) (fun x1 hx1 => ?_) | refine z_iadd dL_law_437 (fun x1 hx1 => ?_)
  refine z_sld (by omega) (by omega) dL_law_438 (fun x2 hx2 bx2 => ?_)
  refine z_aload_ne dL_law_439 rfl ?_
  refine z_iload_n dL_law_440 rfl ?_
  refine z_iconst dL_law_441 ⟨by decide, by decide⟩ ?_
  first | refine z_iaddN dL_law_442 (by omega) (fun x3 hx3 => ?_) | refine z_iadd dL_law_442 (fun x3 hx3 => ?_)
  refine z_sld (by omega) (by omega) dL_law_443 (fun x4 hx4 bx4 => ?_)
  have J5 : ∀ b5 : Int, (b5 = 1 ∧ (x4 ≠ 0)) ∨ (b5 = 0 ∧ ¬ (x4 ≠ 0)) → Wa l g true fi_L_law 0 μ (Q) 452 ([fi b5, fi x2, fr 0]) [fe 0, fr 0, fr 60, fi pz] 93 M := by
    intro b5 j5
    refine z_callVi (n2 := 93) (C_leave l g M x2 b5 (by omega) hC) cb_X7_leave cl_L_37 (clrL rfl rfl (by decide) (by decide)) rfl (by decide) ⟨_, rfl, rfl⟩ rfl (by decide) rfl (Nat.le_of_ble_eq_true rfl) rfl dL_law_452 (fun x6 Mz6 bx6 kMz6 hc6 => ?_)
    have hk1 := hc6
    refine z_aload_nr dL_law_455 rfl ?_
    refine z_aload_ne dL_law_456 rfl ?_
    refine z_iload_n dL_law_457 rfl ?_
    refine z_iconst dL_law_458 ⟨by decide, by decide⟩ ?_
    first | refine z_iaddN dL_law_459 (by omega) (fun x7 hx7 => ?_) | refine z_iadd dL_law_459 (fun x7 hx7 => ?_)
    refine z_sld (by omega) (by omega) dL_law_460 (fun x8 hx8 bx8 => ?_)
    refine z_aload_ne dL_law_461 rfl ?_
    refine z_iload_n dL_law_462 rfl ?_
    refine z_iconst dL_law_463 ⟨by decide, by decide⟩ ?_
    first | refine z_iaddN dL_law_464 (by omega) (fun x9 hx9 => ?_) | refine z_iadd dL_law_464 (fun x9 hx9 => ?_)
    refine z_sld (by omega) (by omega) dL_law_465 (fun x10 hx10 bx10 => ?_)
    have J11 : ∀ b11 : Int, (b11 = 1 ∧ (x10 ≠ 0)) ∨ (b11 = 0 ∧ ¬ (x10 ≠ 0)) → Wa l g true fi_L_law 0 μ (Q) 474 ([fi b11, fi x8, fr 60, fi x6]) [fe 0, fr 0, fr 60, fi pz] 93 Mz6 := by
      intro b11 j11
      refine z_callVi (n2 := 93) (D_leave l g M Mz6 x8 b11 x6 (by omega) hC (by have z := hk1; rw [(show x2 = x8 by first | (subst_vars; rfl) | (subst_vars; omega)), (show b5 = b11 by first | (subst_vars; rfl) | (subst_vars; omega))] at z; exact z)) cb_X8_leave cl_L_41 (clrL rfl rfl (by decide) (by decide)) rfl (by decide) ⟨_, rfl, rfl⟩ rfl (by decide) rfl (Nat.le_of_ble_eq_true rfl) rfl dL_law_474 (fun x12 Mz12 bx12 kMz12 hc12 => ?_)
      have hk2 := hc12
      refine z_icmp_eq (tgt := 1183) dL_law_477 (by decide) (fun c13 => ?_) (fun c13 => ?_)
      · exact hk _ hk2.2
      · exfalso; have z := hk2.1; omega
    refine z_if_eq (tgt := 473) dL_law_466 (by decide) (fun c14 => ?_) (fun c14 => ?_)
    · refine z_iconst dL_law_473 ⟨by decide, by decide⟩ ?_
      first | exact J11 _ (Or.inl ⟨rfl, by omega⟩) | exact J11 _ (Or.inr ⟨rfl, by omega⟩)
    · refine z_iconst dL_law_469 ⟨by decide, by decide⟩ ?_
      refine z_goto (tgt := 474) dL_law_470 (by decide) ?_
      first | exact J11 _ (Or.inl ⟨rfl, by omega⟩) | exact J11 _ (Or.inr ⟨rfl, by omega⟩)
  refine z_if_eq (tgt := 451) dL_law_444 (by decide) (fun c15 => ?_) (fun c15 => ?_)
  · refine z_iconst dL_law_451 ⟨by decide, by decide⟩ ?_
    first | exact J5 _ (Or.inl ⟨rfl, by omega⟩) | exact J5 _ (Or.inr ⟨rfl, by omega⟩)
  · refine z_iconst dL_law_447 ⟨by decide, by decide⟩ ?_
    refine z_goto (tgt := 452) dL_law_448 (by decide) ?_
    first | exact J5 _ (Or.inl ⟨rfl, by omega⟩) | exact J5 _ (Or.inr ⟨rfl, by omega⟩)
set_option maxHeartbeats 4000000 in
theorem lk_6 (l : Launch) (g : Cx) (μ : Mc) (Q : State → Prop) (pz : Int) (M : FMem) (hL : (g.2.2.2.2.1 : Int) ≤ 4096) (h0 : 0 ≤ pz ∧ pz + 8 ≤ (g.2.2.2.2.1 : Int)) (hC : Cp M) (hk : ∀ M2, Cp M2 → Wa l g true fi_L_law 0 μ Q 1183 [] [fe 0, fr 0, fr 60, fi pz] 93 M2) : Wa l g true fi_L_law 0 μ Q 482 [] [fe 0, fr 0, fr 60, fi pz] 93 M := by
  refine z_aload_nr dL_law_482 rfl ?_
  refine z_callVi (n2 := 93) (C_undo l g M  hC) cb_X7_undo cl_L_42 (clrL rfl rfl (by decide) (by decide)) rfl (by decide) ⟨_, rfl, rfl⟩ rfl (by decide) rfl (Nat.le_of_ble_eq_true rfl) rfl dL_law_483 (fun x1 Mz1 bx1 kMz1 hc1 => ?_)
  have hk1 := hc1
  refine z_aload_nr dL_law_486 rfl ?_
  refine z_callVi (n2 := 93) (D_undo l g M Mz1  x1 hC (by have z := hk1; exact z)) cb_X8_undo cl_L_46 (clrL rfl rfl (by decide) (by decide)) rfl (by decide) ⟨_, rfl, rfl⟩ rfl (by decide) rfl (Nat.le_of_ble_eq_true rfl) rfl dL_law_487 (fun x2 Mz2 bx2 kMz2 hc2 => ?_)
  have hk2 := hc2
  refine z_icmp_eq (tgt := 1183) dL_law_490 (by decide) (fun c3 => ?_) (fun c3 => ?_)
  · exact hk _ hk2.2
  · exfalso; have z := hk2.1; omega
set_option maxHeartbeats 4000000 in
theorem lk_7 (l : Launch) (g : Cx) (μ : Mc) (Q : State → Prop) (pz : Int) (M : FMem) (hL : (g.2.2.2.2.1 : Int) ≤ 4096) (h0 : 0 ≤ pz ∧ pz + 8 ≤ (g.2.2.2.2.1 : Int)) (hC : Cp M) (hk : ∀ M2, Cp M2 → Wa l g true fi_L_law 0 μ Q 1183 [] [fe 0, fr 0, fr 60, fi pz] 93 M2) : Wa l g true fi_L_law 0 μ Q 495 [] [fe 0, fr 0, fr 60, fi pz] 93 M := by
  refine z_aload_nr dL_law_495 rfl ?_
  refine z_callVi (n2 := 93) (C_redo l g M  hC) cb_X7_redo cl_L_47 (clrL rfl rfl (by decide) (by decide)) rfl (by decide) ⟨_, rfl, rfl⟩ rfl (by decide) rfl (Nat.le_of_ble_eq_true rfl) rfl dL_law_496 (fun x1 Mz1 bx1 kMz1 hc1 => ?_)
  have hk1 := hc1
  refine z_aload_nr dL_law_499 rfl ?_
  refine z_callVi (n2 := 93) (D_redo l g M Mz1  x1 hC (by have z := hk1; exact z)) cb_X8_redo cl_L_50 (clrL rfl rfl (by decide) (by decide)) rfl (by decide) ⟨_, rfl, rfl⟩ rfl (by decide) rfl (Nat.le_of_ble_eq_true rfl) rfl dL_law_500 (fun x2 Mz2 bx2 kMz2 hc2 => ?_)
  have hk2 := hc2
  refine z_icmp_eq (tgt := 1183) dL_law_503 (by decide) (fun c3 => ?_) (fun c3 => ?_)
  · exact hk _ hk2.2
  · exfalso; have z := hk2.1; omega
set_option maxHeartbeats 4000000 in
theorem lk_8 (l : Launch) (g : Cx) (μ : Mc) (Q : State → Prop) (pz : Int) (M : FMem) (hL : (g.2.2.2.2.1 : Int) ≤ 4096) (h0 : 0 ≤ pz ∧ pz + 8 ≤ (g.2.2.2.2.1 : Int)) (hC : Cp M) (hk : ∀ M2, Cp M2 → Wa l g true fi_L_law 0 μ Q 1183 [] [fe 0, fr 0, fr 60, fi pz] 93 M2) : Wa l g true fi_L_law 0 μ Q 508 [] [fe 0, fr 0, fr 60, fi pz] 93 M := by
  refine z_aload_nr dL_law_508 rfl ?_
  refine z_aload_ne dL_law_509 rfl ?_
  refine z_iload_n dL_law_510 rfl ?_
  refine z_iconst dL_law_511 ⟨by decide, by decide⟩ ?_
  first | refine z_iaddN dL_law_512 (by omega) (fun x1 hx1 => ?_) | refine z_iadd dL_law_512 (fun x1 hx1 => ?_)
  refine z_sld (by omega) (by omega) dL_law_513 (fun x2 hx2 bx2 => ?_)
  refine z_aload_ne dL_law_514 rfl ?_
  refine z_iload_n dL_law_515 rfl ?_
  refine z_iconst dL_law_516 ⟨by decide, by decide⟩ ?_
  first | refine z_iaddN dL_law_517 (by omega) (fun x3 hx3 => ?_) | refine z_iadd dL_law_517 (fun x3 hx3 => ?_)
  refine z_sld (by omega) (by omega) dL_law_518 (fun x4 hx4 bx4 => ?_)
  refine z_callVi (n2 := 93) (C_told l g M x2 x4 hC) cb_X7_told cl_L_51 (clrL rfl rfl (by decide) (by decide)) rfl (by decide) ⟨_, rfl, rfl⟩ rfl (by decide) rfl (Nat.le_of_ble_eq_true rfl) rfl dL_law_519 (fun x5 Mz5 bx5 kMz5 hc5 => ?_)
  have hk1 := hc5
  refine z_aload_nr dL_law_522 rfl ?_
  refine z_aload_ne dL_law_523 rfl ?_
  refine z_iload_n dL_law_524 rfl ?_
  refine z_iconst dL_law_525 ⟨by decide, by decide⟩ ?_
  first | refine z_iaddN dL_law_526 (by omega) (fun x6 hx6 => ?_) | refine z_iadd dL_law_526 (fun x6 hx6 => ?_)
  refine z_sld (by omega) (by omega) dL_law_527 (fun x7 hx7 bx7 => ?_)
  refine z_aload_ne dL_law_528 rfl ?_
  refine z_iload_n dL_law_529 rfl ?_
  refine z_iconst dL_law_530 ⟨by decide, by decide⟩ ?_
  first | refine z_iaddN dL_law_531 (by omega) (fun x8 hx8 => ?_) | refine z_iadd dL_law_531 (fun x8 hx8 => ?_)
  refine z_sld (by omega) (by omega) dL_law_532 (fun x9 hx9 bx9 => ?_)
  refine z_callVi (n2 := 93) (D_told l g Mz5 x7 x9 x5 hk1.1 (by have z := hk1.2; rw [(show x2 = x7 by first | (subst_vars; rfl) | (subst_vars; omega)), (show x4 = x9 by first | (subst_vars; rfl) | (subst_vars; omega))] at z; exact z)) cb_X8_told cl_L_54 (clrL rfl rfl (by decide) (by decide)) rfl (by decide) ⟨_, rfl, rfl⟩ rfl (by decide) rfl (Nat.le_of_ble_eq_true rfl) rfl dL_law_533 (fun x10 Mz10 bx10 kMz10 hc10 => ?_)
  have hk2 := hc10
  refine z_icmp_eq (tgt := 1183) dL_law_536 (by decide) (fun c11 => ?_) (fun c11 => ?_)
  · exact hk _ hk2.2
  · exfalso; have z := hk2.1; omega
set_option maxHeartbeats 4000000 in
theorem lk_9 (l : Launch) (g : Cx) (μ : Mc) (Q : State → Prop) (pz : Int) (M : FMem) (hL : (g.2.2.2.2.1 : Int) ≤ 4096) (h0 : 0 ≤ pz ∧ pz + 8 ≤ (g.2.2.2.2.1 : Int)) (hC : Cp M) (hk : ∀ M2, Cp M2 → Wa l g true fi_L_law 0 μ Q 1183 [] [fe 0, fr 0, fr 60, fi pz] 93 M2) : Wa l g true fi_L_law 0 μ Q 541 [] [fe 0, fr 0, fr 60, fi pz] 93 M := by
  refine z_aload_nr dL_law_541 rfl ?_
  refine z_aload_ne dL_law_542 rfl ?_
  refine z_iload_n dL_law_543 rfl ?_
  refine z_iconst dL_law_544 ⟨by decide, by decide⟩ ?_
  first | refine z_iaddN dL_law_545 (by omega) (fun x1 hx1 => ?_) | refine z_iadd dL_law_545 (fun x1 hx1 => ?_)
  refine z_sld (by omega) (by omega) dL_law_546 (fun x2 hx2 bx2 => ?_)
  refine z_callVi (n2 := 93) (C_count l g M x2 hC) cb_X7_count cl_L_55 (clrL rfl rfl (by decide) (by decide)) rfl (by decide) ⟨_, rfl, rfl⟩ rfl (by decide) rfl (Nat.le_of_ble_eq_true rfl) rfl dL_law_547 (fun x3 Mz3 bx3 kMz3 hc3 => ?_)
  have hk1 := hc3
  refine z_aload_nr dL_law_550 rfl ?_
  refine z_aload_ne dL_law_551 rfl ?_
  refine z_iload_n dL_law_552 rfl ?_
  refine z_iconst dL_law_553 ⟨by decide, by decide⟩ ?_
  first | refine z_iaddN dL_law_554 (by omega) (fun x4 hx4 => ?_) | refine z_iadd dL_law_554 (fun x4 hx4 => ?_)
  refine z_sld (by omega) (by omega) dL_law_555 (fun x5 hx5 bx5 => ?_)
  refine z_callVi (n2 := 93) (D_count l g Mz3 x5 x3 hk1.1 (by have z := hk1.2; rw [(show x2 = x5 by first | (subst_vars; rfl) | (subst_vars; omega))] at z; exact z)) cb_X8_count cl_L_59 (clrL rfl rfl (by decide) (by decide)) rfl (by decide) ⟨_, rfl, rfl⟩ rfl (by decide) rfl (Nat.le_of_ble_eq_true rfl) rfl dL_law_556 (fun x6 Mz6 bx6 kMz6 hc6 => ?_)
  have hk2 := hc6
  refine z_icmp_eq (tgt := 1183) dL_law_559 (by decide) (fun c7 => ?_) (fun c7 => ?_)
  · exact hk _ hk2.2
  · exfalso; have z := hk2.1; omega
set_option maxHeartbeats 4000000 in
theorem lk_10 (l : Launch) (g : Cx) (μ : Mc) (Q : State → Prop) (pz : Int) (M : FMem) (hL : (g.2.2.2.2.1 : Int) ≤ 4096) (h0 : 0 ≤ pz ∧ pz + 8 ≤ (g.2.2.2.2.1 : Int)) (hC : Cp M) (hk : ∀ M2, Cp M2 → Wa l g true fi_L_law 0 μ Q 1183 [] [fe 0, fr 0, fr 60, fi pz] 93 M2) : Wa l g true fi_L_law 0 μ Q 564 [] [fe 0, fr 0, fr 60, fi pz] 93 M := by
  refine z_aload_nr dL_law_564 rfl ?_
  refine z_aload_ne dL_law_565 rfl ?_
  refine z_iload_n dL_law_566 rfl ?_
  refine z_iconst dL_law_567 ⟨by decide, by decide⟩ ?_
  first | refine z_iaddN dL_law_568 (by omega) (fun x1 hx1 => ?_) | refine z_iadd dL_law_568 (fun x1 hx1 => ?_)
  refine z_sld (by omega) (by omega) dL_law_569 (fun x2 hx2 bx2 => ?_)
  refine z_aload_ne dL_law_570 rfl ?_
  refine z_iload_n dL_law_571 rfl ?_
  refine z_iconst dL_law_572 ⟨by decide, by decide⟩ ?_
  first | refine z_iaddN dL_law_573 (by omega) (fun x3 hx3 => ?_) | refine z_iadd dL_law_573 (fun x3 hx3 => ?_)
  refine z_sld (by omega) (by omega) dL_law_574 (fun x4 hx4 bx4 => ?_)
  refine z_i2l dL_law_575 ?_
  refine z_bipush dL_law_576 ⟨by decide, by decide⟩ (by decide) ?_
  refine z_lshl dL_law_578 (fun x5 hx5 bx5 => ?_)
  refine z_aload_ne dL_law_579 rfl ?_
  refine z_iload_n dL_law_580 rfl ?_
  refine z_iconst dL_law_581 ⟨by decide, by decide⟩ ?_
  first | refine z_iaddN dL_law_582 (by omega) (fun x6 hx6 => ?_) | refine z_iadd dL_law_582 (fun x6 hx6 => ?_)
  refine z_sld (by omega) (by omega) dL_law_583 (fun x7 hx7 bx7 => ?_)
  refine z_i2l dL_law_584 ?_
  refine z_ldc2 (c := 4294967295) cn_L_60 ⟨by decide, by decide⟩ dL_law_585 ?_
  refine z_land dL_law_588 (fun x8 hx8 bx8 => ?_)
  refine z_lor dL_law_589 (fun x9 hx9 bx9 => ?_)
  refine z_callVi (n2 := 93) (C_feed l g M x2 x9 hC) cb_X7_feed cl_L_62 (clrL rfl rfl (by decide) (by decide)) rfl (by decide) ⟨_, rfl, rfl⟩ rfl (by decide) rfl (Nat.le_of_ble_eq_true rfl) rfl dL_law_590 (fun x10 Mz10 bx10 kMz10 hc10 => ?_)
  have hk1 := hc10
  refine z_aload_nr dL_law_593 rfl ?_
  refine z_aload_ne dL_law_594 rfl ?_
  refine z_iload_n dL_law_595 rfl ?_
  refine z_iconst dL_law_596 ⟨by decide, by decide⟩ ?_
  first | refine z_iaddN dL_law_597 (by omega) (fun x11 hx11 => ?_) | refine z_iadd dL_law_597 (fun x11 hx11 => ?_)
  refine z_sld (by omega) (by omega) dL_law_598 (fun x12 hx12 bx12 => ?_)
  refine z_aload_ne dL_law_599 rfl ?_
  refine z_iload_n dL_law_600 rfl ?_
  refine z_iconst dL_law_601 ⟨by decide, by decide⟩ ?_
  first | refine z_iaddN dL_law_602 (by omega) (fun x13 hx13 => ?_) | refine z_iadd dL_law_602 (fun x13 hx13 => ?_)
  refine z_sld (by omega) (by omega) dL_law_603 (fun x14 hx14 bx14 => ?_)
  refine z_i2l dL_law_604 ?_
  refine z_bipush dL_law_605 ⟨by decide, by decide⟩ (by decide) ?_
  refine z_lshl dL_law_607 (fun x15 hx15 bx15 => ?_)
  refine z_aload_ne dL_law_608 rfl ?_
  refine z_iload_n dL_law_609 rfl ?_
  refine z_iconst dL_law_610 ⟨by decide, by decide⟩ ?_
  first | refine z_iaddN dL_law_611 (by omega) (fun x16 hx16 => ?_) | refine z_iadd dL_law_611 (fun x16 hx16 => ?_)
  refine z_sld (by omega) (by omega) dL_law_612 (fun x17 hx17 bx17 => ?_)
  refine z_i2l dL_law_613 ?_
  refine z_ldc2 (c := 4294967295) cn_L_60 ⟨by decide, by decide⟩ dL_law_614 ?_
  refine z_land dL_law_617 (fun x18 hx18 bx18 => ?_)
  refine z_lor dL_law_618 (fun x19 hx19 bx19 => ?_)
  refine z_callVi (n2 := 93) (D_feed l g M Mz10 x12 x19 x10 hC (by have z := hk1; rw [(show x2 = x12 by first | (subst_vars; rfl) | (subst_vars; omega)), (show x9 = x19 by first | (subst_vars; rfl) | (subst_vars; omega))] at z; exact z)) cb_X8_feed cl_L_66 (clrL rfl rfl (by decide) (by decide)) rfl (by decide) ⟨_, rfl, rfl⟩ rfl (by decide) rfl (Nat.le_of_ble_eq_true rfl) rfl dL_law_619 (fun x20 Mz20 bx20 kMz20 hc20 => ?_)
  have hk2 := hc20
  refine z_icmp_eq (tgt := 1183) dL_law_622 (by decide) (fun c21 => ?_) (fun c21 => ?_)
  · exact hk _ hk2.2
  · exfalso; have z := hk2.1; omega
set_option maxHeartbeats 4000000 in
theorem lk_11 (l : Launch) (g : Cx) (μ : Mc) (Q : State → Prop) (pz : Int) (M : FMem) (hL : (g.2.2.2.2.1 : Int) ≤ 4096) (h0 : 0 ≤ pz ∧ pz + 8 ≤ (g.2.2.2.2.1 : Int)) (hC : Cp M) (hk : ∀ M2, Cp M2 → Wa l g true fi_L_law 0 μ Q 1183 [] [fe 0, fr 0, fr 60, fi pz] 93 M2) : Wa l g true fi_L_law 0 μ Q 627 [] [fe 0, fr 0, fr 60, fi pz] 93 M := by
  refine z_aload_nr dL_law_627 rfl ?_
  refine z_callVi (n2 := 93) (C_read l g M  hC) cb_X7_read cl_L_67 (clrL rfl rfl (by decide) (by decide)) rfl (by decide) ⟨_, rfl, rfl⟩ rfl (by decide) rfl (Nat.le_of_ble_eq_true rfl) rfl dL_law_628 (fun x1 Mz1 bx1 kMz1 hc1 => ?_)
  have hk1 := hc1
  refine z_aload_nr dL_law_631 rfl ?_
  refine z_callVi (n2 := 93) (D_read l g M Mz1  x1 hC (by have z := hk1; exact z)) cb_X8_read cl_L_70 (clrL rfl rfl (by decide) (by decide)) rfl (by decide) ⟨_, rfl, rfl⟩ rfl (by decide) rfl (Nat.le_of_ble_eq_true rfl) rfl dL_law_632 (fun x2 Mz2 bx2 kMz2 hc2 => ?_)
  have hk2 := hc2
  refine z_icmp_eq (tgt := 1183) dL_law_635 (by decide) (fun c3 => ?_) (fun c3 => ?_)
  · exact hk _ hk2.2
  · exfalso; have z := hk2.1; omega
set_option maxHeartbeats 4000000 in
theorem lk_12 (l : Launch) (g : Cx) (μ : Mc) (Q : State → Prop) (pz : Int) (M : FMem) (hL : (g.2.2.2.2.1 : Int) ≤ 4096) (h0 : 0 ≤ pz ∧ pz + 8 ≤ (g.2.2.2.2.1 : Int)) (hC : Cp M) (hk : ∀ M2, Cp M2 → Wa l g true fi_L_law 0 μ Q 1183 [] [fe 0, fr 0, fr 60, fi pz] 93 M2) : Wa l g true fi_L_law 0 μ Q 640 [] [fe 0, fr 0, fr 60, fi pz] 93 M := by
  refine z_aload_nr dL_law_640 rfl ?_
  refine z_callVi (n2 := 93) (C_fault l g M  hC) cb_X7_fault cl_L_71 (clrL rfl rfl (by decide) (by decide)) rfl (by decide) ⟨_, rfl, rfl⟩ rfl (by decide) rfl (Nat.le_of_ble_eq_true rfl) rfl dL_law_641 (fun x1 Mz1 bx1 kMz1 hc1 => ?_)
  have hk1 := hc1
  refine z_aload_nr dL_law_644 rfl ?_
  refine z_callVi (n2 := 93) (D_fault l g Mz1  x1 hk1.1 (by have z := hk1.2; exact z)) cb_X8_fault cl_L_74 (clrL rfl rfl (by decide) (by decide)) rfl (by decide) ⟨_, rfl, rfl⟩ rfl (by decide) rfl (Nat.le_of_ble_eq_true rfl) rfl dL_law_645 (fun x2 Mz2 bx2 kMz2 hc2 => ?_)
  have hk2 := hc2
  refine z_icmp_eq (tgt := 1183) dL_law_648 (by decide) (fun c3 => ?_) (fun c3 => ?_)
  · exact hk _ hk2.2
  · exfalso; have z := hk2.1; omega
set_option maxHeartbeats 4000000 in
theorem lk_13 (l : Launch) (g : Cx) (μ : Mc) (Q : State → Prop) (pz : Int) (M : FMem) (hL : (g.2.2.2.2.1 : Int) ≤ 4096) (h0 : 0 ≤ pz ∧ pz + 8 ≤ (g.2.2.2.2.1 : Int)) (hC : Cp M) (hk : ∀ M2, Cp M2 → Wa l g true fi_L_law 0 μ Q 1183 [] [fe 0, fr 0, fr 60, fi pz] 93 M2) : Wa l g true fi_L_law 0 μ Q 653 [] [fe 0, fr 0, fr 60, fi pz] 93 M := by
  refine z_aload_nr dL_law_653 rfl ?_
  refine z_aload_ne dL_law_654 rfl ?_
  refine z_iload_n dL_law_655 rfl ?_
  refine z_iconst dL_law_656 ⟨by decide, by decide⟩ ?_
  first | refine z_iaddN dL_law_657 (by omega) (fun x1 hx1 => ?_) | refine z_iadd dL_law_657 (fun x1 hx1 => ?_)
  refine z_sld (by omega) (by omega) dL_law_658 (fun x2 hx2 bx2 => ?_)
  refine z_aload_ne dL_law_659 rfl ?_
  refine z_iload_n dL_law_660 rfl ?_
  refine z_iconst dL_law_661 ⟨by decide, by decide⟩ ?_
  first | refine z_iaddN dL_law_662 (by omega) (fun x3 hx3 => ?_) | refine z_iadd dL_law_662 (fun x3 hx3 => ?_)
  refine z_sld (by omega) (by omega) dL_law_663 (fun x4 hx4 bx4 => ?_)
  refine z_callVi (n2 := 93) (C_rule l g M x2 x4 hC) cb_X7_rule cl_L_75 (clrL rfl rfl (by decide) (by decide)) rfl (by decide) ⟨_, rfl, rfl⟩ rfl (by decide) rfl (Nat.le_of_ble_eq_true rfl) rfl dL_law_664 (fun x5 Mz5 bx5 kMz5 hc5 => ?_)
  have hk1 := hc5
  refine z_aload_nr dL_law_667 rfl ?_
  refine z_aload_ne dL_law_668 rfl ?_
  refine z_iload_n dL_law_669 rfl ?_
  refine z_iconst dL_law_670 ⟨by decide, by decide⟩ ?_
  first | refine z_iaddN dL_law_671 (by omega) (fun x6 hx6 => ?_) | refine z_iadd dL_law_671 (fun x6 hx6 => ?_)
  refine z_sld (by omega) (by omega) dL_law_672 (fun x7 hx7 bx7 => ?_)
  refine z_aload_ne dL_law_673 rfl ?_
  refine z_iload_n dL_law_674 rfl ?_
  refine z_iconst dL_law_675 ⟨by decide, by decide⟩ ?_
  first | refine z_iaddN dL_law_676 (by omega) (fun x8 hx8 => ?_) | refine z_iadd dL_law_676 (fun x8 hx8 => ?_)
  refine z_sld (by omega) (by omega) dL_law_677 (fun x9 hx9 bx9 => ?_)
  refine z_callVi (n2 := 93) (D_rule l g Mz5 x7 x9 x5 hk1.1 (by have z := hk1.2; rw [(show x2 = x7 by first | (subst_vars; rfl) | (subst_vars; omega)), (show x4 = x9 by first | (subst_vars; rfl) | (subst_vars; omega))] at z; exact z)) cb_X8_rule cl_L_78 (clrL rfl rfl (by decide) (by decide)) rfl (by decide) ⟨_, rfl, rfl⟩ rfl (by decide) rfl (Nat.le_of_ble_eq_true rfl) rfl dL_law_678 (fun x10 Mz10 bx10 kMz10 hc10 => ?_)
  have hk2 := hc10
  refine z_icmp_eq (tgt := 1183) dL_law_681 (by decide) (fun c11 => ?_) (fun c11 => ?_)
  · exact hk _ hk2.2
  · exfalso; have z := hk2.1; omega
set_option maxHeartbeats 4000000 in
theorem lk_14 (l : Launch) (g : Cx) (μ : Mc) (Q : State → Prop) (pz : Int) (M : FMem) (hL : (g.2.2.2.2.1 : Int) ≤ 4096) (h0 : 0 ≤ pz ∧ pz + 8 ≤ (g.2.2.2.2.1 : Int)) (hC : Cp M) (hk : ∀ M2, Cp M2 → Wa l g true fi_L_law 0 μ Q 1183 [] [fe 0, fr 0, fr 60, fi pz] 93 M2) : Wa l g true fi_L_law 0 μ Q 686 [] [fe 0, fr 0, fr 60, fi pz] 93 M := by
  refine z_aload_nr dL_law_686 rfl ?_
  refine z_aload_ne dL_law_687 rfl ?_
  refine z_iload_n dL_law_688 rfl ?_
  refine z_iconst dL_law_689 ⟨by decide, by decide⟩ ?_
  first | refine z_iaddN dL_law_690 (by omega) (fun x1 hx1 => ?_) | refine z_iadd dL_law_690 (fun x1 hx1 => ?_)
  refine z_sld (by omega) (by omega) dL_law_691 (fun x2 hx2 bx2 => ?_)
  refine z_aload_ne dL_law_692 rfl ?_
  refine z_iload_n dL_law_693 rfl ?_
  refine z_iconst dL_law_694 ⟨by decide, by decide⟩ ?_
  first | refine z_iaddN dL_law_695 (by omega) (fun x3 hx3 => ?_) | refine z_iadd dL_law_695 (fun x3 hx3 => ?_)
  refine z_sld (by omega) (by omega) dL_law_696 (fun x4 hx4 bx4 => ?_)
  refine z_aload_ne dL_law_697 rfl ?_
  refine z_iload_n dL_law_698 rfl ?_
  refine z_iconst dL_law_699 ⟨by decide, by decide⟩ ?_
  first | refine z_iaddN dL_law_700 (by omega) (fun x5 hx5 => ?_) | refine z_iadd dL_law_700 (fun x5 hx5 => ?_)
  refine z_sld (by omega) (by omega) dL_law_701 (fun x6 hx6 bx6 => ?_)
  refine z_callVi (n2 := 93) (C_ends l g M x2 x4 x6 hC) cb_X7_ends cl_L_79 (clrL rfl rfl (by decide) (by decide)) rfl (by decide) ⟨_, rfl, rfl⟩ rfl (by decide) rfl (Nat.le_of_ble_eq_true rfl) rfl dL_law_702 (fun x7 Mz7 bx7 kMz7 hc7 => ?_)
  have hk1 := hc7
  refine z_aload_nr dL_law_705 rfl ?_
  refine z_aload_ne dL_law_706 rfl ?_
  refine z_iload_n dL_law_707 rfl ?_
  refine z_iconst dL_law_708 ⟨by decide, by decide⟩ ?_
  first | refine z_iaddN dL_law_709 (by omega) (fun x8 hx8 => ?_) | refine z_iadd dL_law_709 (fun x8 hx8 => ?_)
  refine z_sld (by omega) (by omega) dL_law_710 (fun x9 hx9 bx9 => ?_)
  refine z_aload_ne dL_law_711 rfl ?_
  refine z_iload_n dL_law_712 rfl ?_
  refine z_iconst dL_law_713 ⟨by decide, by decide⟩ ?_
  first | refine z_iaddN dL_law_714 (by omega) (fun x10 hx10 => ?_) | refine z_iadd dL_law_714 (fun x10 hx10 => ?_)
  refine z_sld (by omega) (by omega) dL_law_715 (fun x11 hx11 bx11 => ?_)
  refine z_aload_ne dL_law_716 rfl ?_
  refine z_iload_n dL_law_717 rfl ?_
  refine z_iconst dL_law_718 ⟨by decide, by decide⟩ ?_
  first | refine z_iaddN dL_law_719 (by omega) (fun x12 hx12 => ?_) | refine z_iadd dL_law_719 (fun x12 hx12 => ?_)
  refine z_sld (by omega) (by omega) dL_law_720 (fun x13 hx13 bx13 => ?_)
  refine z_callVi (n2 := 93) (D_ends l g Mz7 x9 x11 x13 x7 hk1.1 (by have z := hk1.2; rw [(show x2 = x9 by first | (subst_vars; rfl) | (subst_vars; omega)), (show x4 = x11 by first | (subst_vars; rfl) | (subst_vars; omega)), (show x6 = x13 by first | (subst_vars; rfl) | (subst_vars; omega))] at z; exact z)) cb_X8_ends cl_L_82 (clrL rfl rfl (by decide) (by decide)) rfl (by decide) ⟨_, rfl, rfl⟩ rfl (by decide) rfl (Nat.le_of_ble_eq_true rfl) rfl dL_law_721 (fun x14 Mz14 bx14 kMz14 hc14 => ?_)
  have hk2 := hc14
  refine z_icmp_eq (tgt := 1183) dL_law_724 (by decide) (fun c15 => ?_) (fun c15 => ?_)
  · exact hk _ hk2.2
  · exfalso; have z := hk2.1; omega
set_option maxHeartbeats 4000000 in
theorem lk_15 (l : Launch) (g : Cx) (μ : Mc) (Q : State → Prop) (pz : Int) (M : FMem) (hL : (g.2.2.2.2.1 : Int) ≤ 4096) (h0 : 0 ≤ pz ∧ pz + 8 ≤ (g.2.2.2.2.1 : Int)) (hC : Cp M) (hk : ∀ M2, Cp M2 → Wa l g true fi_L_law 0 μ Q 1183 [] [fe 0, fr 0, fr 60, fi pz] 93 M2) : Wa l g true fi_L_law 0 μ Q 729 [] [fe 0, fr 0, fr 60, fi pz] 93 M := by
  refine z_aload_nr dL_law_729 rfl ?_
  refine z_aload_ne dL_law_730 rfl ?_
  refine z_iload_n dL_law_731 rfl ?_
  refine z_iconst dL_law_732 ⟨by decide, by decide⟩ ?_
  first | refine z_iaddN dL_law_733 (by omega) (fun x1 hx1 => ?_) | refine z_iadd dL_law_733 (fun x1 hx1 => ?_)
  refine z_sld (by omega) (by omega) dL_law_734 (fun x2 hx2 bx2 => ?_)
  refine z_aload_ne dL_law_735 rfl ?_
  refine z_iload_n dL_law_736 rfl ?_
  refine z_iconst dL_law_737 ⟨by decide, by decide⟩ ?_
  first | refine z_iaddN dL_law_738 (by omega) (fun x3 hx3 => ?_) | refine z_iadd dL_law_738 (fun x3 hx3 => ?_)
  refine z_sld (by omega) (by omega) dL_law_739 (fun x4 hx4 bx4 => ?_)
  refine z_aload_ne dL_law_740 rfl ?_
  refine z_iload_n dL_law_741 rfl ?_
  refine z_iconst dL_law_742 ⟨by decide, by decide⟩ ?_
  first | refine z_iaddN dL_law_743 (by omega) (fun x5 hx5 => ?_) | refine z_iadd dL_law_743 (fun x5 hx5 => ?_)
  refine z_sld (by omega) (by omega) dL_law_744 (fun x6 hx6 bx6 => ?_)
  refine z_callVi (n2 := 93) (C_between l g M x2 x4 x6 hC) cb_X7_between cl_L_83 (clrL rfl rfl (by decide) (by decide)) rfl (by decide) ⟨_, rfl, rfl⟩ rfl (by decide) rfl (Nat.le_of_ble_eq_true rfl) rfl dL_law_745 (fun x7 Mz7 bx7 kMz7 hc7 => ?_)
  have hk1 := hc7
  refine z_aload_nr dL_law_748 rfl ?_
  refine z_aload_ne dL_law_749 rfl ?_
  refine z_iload_n dL_law_750 rfl ?_
  refine z_iconst dL_law_751 ⟨by decide, by decide⟩ ?_
  first | refine z_iaddN dL_law_752 (by omega) (fun x8 hx8 => ?_) | refine z_iadd dL_law_752 (fun x8 hx8 => ?_)
  refine z_sld (by omega) (by omega) dL_law_753 (fun x9 hx9 bx9 => ?_)
  refine z_aload_ne dL_law_754 rfl ?_
  refine z_iload_n dL_law_755 rfl ?_
  refine z_iconst dL_law_756 ⟨by decide, by decide⟩ ?_
  first | refine z_iaddN dL_law_757 (by omega) (fun x10 hx10 => ?_) | refine z_iadd dL_law_757 (fun x10 hx10 => ?_)
  refine z_sld (by omega) (by omega) dL_law_758 (fun x11 hx11 bx11 => ?_)
  refine z_aload_ne dL_law_759 rfl ?_
  refine z_iload_n dL_law_760 rfl ?_
  refine z_iconst dL_law_761 ⟨by decide, by decide⟩ ?_
  first | refine z_iaddN dL_law_762 (by omega) (fun x12 hx12 => ?_) | refine z_iadd dL_law_762 (fun x12 hx12 => ?_)
  refine z_sld (by omega) (by omega) dL_law_763 (fun x13 hx13 bx13 => ?_)
  refine z_callVi (n2 := 93) (D_between l g Mz7 x9 x11 x13 x7 hk1.1 (by have z := hk1.2; rw [(show x2 = x9 by first | (subst_vars; rfl) | (subst_vars; omega)), (show x4 = x11 by first | (subst_vars; rfl) | (subst_vars; omega)), (show x6 = x13 by first | (subst_vars; rfl) | (subst_vars; omega))] at z; exact z)) cb_X8_between cl_L_86 (clrL rfl rfl (by decide) (by decide)) rfl (by decide) ⟨_, rfl, rfl⟩ rfl (by decide) rfl (Nat.le_of_ble_eq_true rfl) rfl dL_law_764 (fun x14 Mz14 bx14 kMz14 hc14 => ?_)
  have hk2 := hc14
  refine z_icmp_eq (tgt := 1183) dL_law_767 (by decide) (fun c15 => ?_) (fun c15 => ?_)
  · exact hk _ hk2.2
  · exfalso; have z := hk2.1; omega
set_option maxHeartbeats 4000000 in
theorem lk_16 (l : Launch) (g : Cx) (μ : Mc) (Q : State → Prop) (pz : Int) (M : FMem) (hL : (g.2.2.2.2.1 : Int) ≤ 4096) (h0 : 0 ≤ pz ∧ pz + 8 ≤ (g.2.2.2.2.1 : Int)) (hC : Cp M) (hk : ∀ M2, Cp M2 → Wa l g true fi_L_law 0 μ Q 1183 [] [fe 0, fr 0, fr 60, fi pz] 93 M2) : Wa l g true fi_L_law 0 μ Q 772 [] [fe 0, fr 0, fr 60, fi pz] 93 M := by
  refine z_aload_nr dL_law_772 rfl ?_
  refine z_aload_ne dL_law_773 rfl ?_
  refine z_iload_n dL_law_774 rfl ?_
  refine z_iconst dL_law_775 ⟨by decide, by decide⟩ ?_
  first | refine z_iaddN dL_law_776 (by omega) (fun x1 hx1 => ?_) | refine z_iadd dL_law_776 (fun x1 hx1 => ?_)
  refine z_sld (by omega) (by omega) dL_law_777 (fun x2 hx2 bx2 => ?_)
  refine z_callVi (n2 := 93) (C_widening l g M x2 hC) cb_X7_widening cl_L_87 (clrL rfl rfl (by decide) (by decide)) rfl (by decide) ⟨_, rfl, rfl⟩ rfl (by decide) rfl (Nat.le_of_ble_eq_true rfl) rfl dL_law_778 (fun x3 Mz3 bx3 kMz3 hc3 => ?_)
  have hk1 := hc3
  refine z_aload_nr dL_law_781 rfl ?_
  refine z_aload_ne dL_law_782 rfl ?_
  refine z_iload_n dL_law_783 rfl ?_
  refine z_iconst dL_law_784 ⟨by decide, by decide⟩ ?_
  first | refine z_iaddN dL_law_785 (by omega) (fun x4 hx4 => ?_) | refine z_iadd dL_law_785 (fun x4 hx4 => ?_)
  refine z_sld (by omega) (by omega) dL_law_786 (fun x5 hx5 bx5 => ?_)
  refine z_callVi (n2 := 93) (D_widening l g Mz3 x5 x3 hk1.1 (by have z := hk1.2; rw [(show x2 = x5 by first | (subst_vars; rfl) | (subst_vars; omega))] at z; exact z)) cb_X8_widening cl_L_90 (clrL rfl rfl (by decide) (by decide)) rfl (by decide) ⟨_, rfl, rfl⟩ rfl (by decide) rfl (Nat.le_of_ble_eq_true rfl) rfl dL_law_787 (fun x6 Mz6 bx6 kMz6 hc6 => ?_)
  have hk2 := hc6
  refine z_icmp_eq (tgt := 1183) dL_law_790 (by decide) (fun c7 => ?_) (fun c7 => ?_)
  · exact hk _ hk2.2
  · exfalso; have z := hk2.1; omega
set_option maxHeartbeats 4000000 in
theorem lk_17 (l : Launch) (g : Cx) (μ : Mc) (Q : State → Prop) (pz : Int) (M : FMem) (hL : (g.2.2.2.2.1 : Int) ≤ 4096) (h0 : 0 ≤ pz ∧ pz + 8 ≤ (g.2.2.2.2.1 : Int)) (hC : Cp M) (hk : ∀ M2, Cp M2 → Wa l g true fi_L_law 0 μ Q 1183 [] [fe 0, fr 0, fr 60, fi pz] 93 M2) : Wa l g true fi_L_law 0 μ Q 795 [] [fe 0, fr 0, fr 60, fi pz] 93 M := by
  refine z_aload_nr dL_law_795 rfl ?_
  refine z_callVi (n2 := 93) (C_blame l g M  hC) cb_X7_blame cl_L_91 (clrL rfl rfl (by decide) (by decide)) rfl (by decide) ⟨_, rfl, rfl⟩ rfl (by decide) rfl (Nat.le_of_ble_eq_true rfl) rfl dL_law_796 (fun x1 Mz1 bx1 kMz1 hc1 => ?_)
  have hk1 := hc1
  refine z_aload_nr dL_law_799 rfl ?_
  refine z_callVi (n2 := 93) (D_blame l g Mz1  x1 hk1.1 (by have z := hk1.2; exact z)) cb_X8_blame cl_L_94 (clrL rfl rfl (by decide) (by decide)) rfl (by decide) ⟨_, rfl, rfl⟩ rfl (by decide) rfl (Nat.le_of_ble_eq_true rfl) rfl dL_law_800 (fun x2 Mz2 bx2 kMz2 hc2 => ?_)
  have hk2 := hc2
  refine z_icmp_eq (tgt := 1183) dL_law_803 (by decide) (fun c3 => ?_) (fun c3 => ?_)
  · exact hk _ hk2.2
  · exfalso; have z := hk2.1; omega
set_option maxHeartbeats 4000000 in
theorem lk_18 (l : Launch) (g : Cx) (μ : Mc) (Q : State → Prop) (pz : Int) (M : FMem) (hL : (g.2.2.2.2.1 : Int) ≤ 4096) (h0 : 0 ≤ pz ∧ pz + 8 ≤ (g.2.2.2.2.1 : Int)) (hC : Cp M) (hk : ∀ M2, Cp M2 → Wa l g true fi_L_law 0 μ Q 1183 [] [fe 0, fr 0, fr 60, fi pz] 93 M2) : Wa l g true fi_L_law 0 μ Q 808 [] [fe 0, fr 0, fr 60, fi pz] 93 M := by
  refine z_aload_nr dL_law_808 rfl ?_
  refine z_aload_ne dL_law_809 rfl ?_
  refine z_iload_n dL_law_810 rfl ?_
  refine z_iconst dL_law_811 ⟨by decide, by decide⟩ ?_
  first | refine z_iaddN dL_law_812 (by omega) (fun x1 hx1 => ?_) | refine z_iadd dL_law_812 (fun x1 hx1 => ?_)
  refine z_sld (by omega) (by omega) dL_law_813 (fun x2 hx2 bx2 => ?_)
  refine z_callVi (n2 := 93) (C_odd l g M x2 hC) cb_X7_odd cl_L_95 (clrL rfl rfl (by decide) (by decide)) rfl (by decide) ⟨_, rfl, rfl⟩ rfl (by decide) rfl (Nat.le_of_ble_eq_true rfl) rfl dL_law_814 (fun x3 Mz3 bx3 kMz3 hc3 => ?_)
  have hk1 := hc3
  refine z_aload_nr dL_law_817 rfl ?_
  refine z_aload_ne dL_law_818 rfl ?_
  refine z_iload_n dL_law_819 rfl ?_
  refine z_iconst dL_law_820 ⟨by decide, by decide⟩ ?_
  first | refine z_iaddN dL_law_821 (by omega) (fun x4 hx4 => ?_) | refine z_iadd dL_law_821 (fun x4 hx4 => ?_)
  refine z_sld (by omega) (by omega) dL_law_822 (fun x5 hx5 bx5 => ?_)
  refine z_callVi (n2 := 93) (D_odd l g Mz3 x5 x3 hk1.1 (by have z := hk1.2; rw [(show x2 = x5 by first | (subst_vars; rfl) | (subst_vars; omega))] at z; exact z)) cb_X8_odd cl_L_98 (clrL rfl rfl (by decide) (by decide)) rfl (by decide) ⟨_, rfl, rfl⟩ rfl (by decide) rfl (Nat.le_of_ble_eq_true rfl) rfl dL_law_823 (fun x6 Mz6 bx6 kMz6 hc6 => ?_)
  have hk2 := hc6
  refine z_icmp_eq (tgt := 1183) dL_law_826 (by decide) (fun c7 => ?_) (fun c7 => ?_)
  · exact hk _ hk2.2
  · exfalso; have z := hk2.1; omega
set_option maxHeartbeats 4000000 in
theorem lk_19 (l : Launch) (g : Cx) (μ : Mc) (Q : State → Prop) (pz : Int) (M : FMem) (hL : (g.2.2.2.2.1 : Int) ≤ 4096) (h0 : 0 ≤ pz ∧ pz + 8 ≤ (g.2.2.2.2.1 : Int)) (hC : Cp M) (hk : ∀ M2, Cp M2 → Wa l g true fi_L_law 0 μ Q 1183 [] [fe 0, fr 0, fr 60, fi pz] 93 M2) : Wa l g true fi_L_law 0 μ Q 831 [] [fe 0, fr 0, fr 60, fi pz] 93 M := by
  refine z_aload_nr dL_law_831 rfl ?_
  refine z_aload_ne dL_law_832 rfl ?_
  refine z_iload_n dL_law_833 rfl ?_
  refine z_iconst dL_law_834 ⟨by decide, by decide⟩ ?_
  first | refine z_iaddN dL_law_835 (by omega) (fun x1 hx1 => ?_) | refine z_iadd dL_law_835 (fun x1 hx1 => ?_)
  refine z_sld (by omega) (by omega) dL_law_836 (fun x2 hx2 bx2 => ?_)
  refine z_aload_ne dL_law_837 rfl ?_
  refine z_iload_n dL_law_838 rfl ?_
  refine z_iconst dL_law_839 ⟨by decide, by decide⟩ ?_
  first | refine z_iaddN dL_law_840 (by omega) (fun x3 hx3 => ?_) | refine z_iadd dL_law_840 (fun x3 hx3 => ?_)
  refine z_sld (by omega) (by omega) dL_law_841 (fun x4 hx4 bx4 => ?_)
  refine z_callVi (n2 := 93) (C_worth l g M x2 x4 hC) cb_X7_worth cl_L_99 (clrL rfl rfl (by decide) (by decide)) rfl (by decide) ⟨_, rfl, rfl⟩ rfl (by decide) rfl (Nat.le_of_ble_eq_true rfl) rfl dL_law_842 (fun x5 Mz5 bx5 kMz5 hc5 => ?_)
  have hk1 := hc5
  refine z_aload_nr dL_law_845 rfl ?_
  refine z_aload_ne dL_law_846 rfl ?_
  refine z_iload_n dL_law_847 rfl ?_
  refine z_iconst dL_law_848 ⟨by decide, by decide⟩ ?_
  first | refine z_iaddN dL_law_849 (by omega) (fun x6 hx6 => ?_) | refine z_iadd dL_law_849 (fun x6 hx6 => ?_)
  refine z_sld (by omega) (by omega) dL_law_850 (fun x7 hx7 bx7 => ?_)
  refine z_aload_ne dL_law_851 rfl ?_
  refine z_iload_n dL_law_852 rfl ?_
  refine z_iconst dL_law_853 ⟨by decide, by decide⟩ ?_
  first | refine z_iaddN dL_law_854 (by omega) (fun x8 hx8 => ?_) | refine z_iadd dL_law_854 (fun x8 hx8 => ?_)
  refine z_sld (by omega) (by omega) dL_law_855 (fun x9 hx9 bx9 => ?_)
  refine z_callVi (n2 := 93) (D_worth l g Mz5 x7 x9 x5 hk1.1 (by have z := hk1.2; rw [(show x2 = x7 by first | (subst_vars; rfl) | (subst_vars; omega)), (show x4 = x9 by first | (subst_vars; rfl) | (subst_vars; omega))] at z; exact z)) cb_X8_worth cl_L_102 (clrL rfl rfl (by decide) (by decide)) rfl (by decide) ⟨_, rfl, rfl⟩ rfl (by decide) rfl (Nat.le_of_ble_eq_true rfl) rfl dL_law_856 (fun x10 Mz10 bx10 kMz10 hc10 => ?_)
  have hk2 := hc10
  refine z_icmp_eq (tgt := 1183) dL_law_859 (by decide) (fun c11 => ?_) (fun c11 => ?_)
  · exact hk _ hk2.2
  · exfalso; have z := hk2.1; omega
set_option maxHeartbeats 4000000 in
theorem lk_20 (l : Launch) (g : Cx) (μ : Mc) (Q : State → Prop) (pz : Int) (M : FMem) (hL : (g.2.2.2.2.1 : Int) ≤ 4096) (h0 : 0 ≤ pz ∧ pz + 8 ≤ (g.2.2.2.2.1 : Int)) (hC : Cp M) (hk : ∀ M2, Cp M2 → Wa l g true fi_L_law 0 μ Q 1183 [] [fe 0, fr 0, fr 60, fi pz] 93 M2) : Wa l g true fi_L_law 0 μ Q 864 [] [fe 0, fr 0, fr 60, fi pz] 93 M := by
  refine z_aload_nr dL_law_864 rfl ?_
  refine z_aload_ne dL_law_865 rfl ?_
  refine z_iload_n dL_law_866 rfl ?_
  refine z_iconst dL_law_867 ⟨by decide, by decide⟩ ?_
  first | refine z_iaddN dL_law_868 (by omega) (fun x1 hx1 => ?_) | refine z_iadd dL_law_868 (fun x1 hx1 => ?_)
  refine z_sld (by omega) (by omega) dL_law_869 (fun x2 hx2 bx2 => ?_)
  refine z_aload_ne dL_law_870 rfl ?_
  refine z_iload_n dL_law_871 rfl ?_
  refine z_iconst dL_law_872 ⟨by decide, by decide⟩ ?_
  first | refine z_iaddN dL_law_873 (by omega) (fun x3 hx3 => ?_) | refine z_iadd dL_law_873 (fun x3 hx3 => ?_)
  refine z_sld (by omega) (by omega) dL_law_874 (fun x4 hx4 bx4 => ?_)
  refine z_aload_ne dL_law_875 rfl ?_
  refine z_iload_n dL_law_876 rfl ?_
  refine z_iconst dL_law_877 ⟨by decide, by decide⟩ ?_
  first | refine z_iaddN dL_law_878 (by omega) (fun x5 hx5 => ?_) | refine z_iadd dL_law_878 (fun x5 hx5 => ?_)
  refine z_sld (by omega) (by omega) dL_law_879 (fun x6 hx6 bx6 => ?_)
  refine z_callVi (n2 := 93) (C_lead l g M x2 x4 x6 hC) cb_X7_lead cl_L_103 (clrL rfl rfl (by decide) (by decide)) rfl (by decide) ⟨_, rfl, rfl⟩ rfl (by decide) rfl (Nat.le_of_ble_eq_true rfl) rfl dL_law_880 (fun x7 Mz7 bx7 kMz7 hc7 => ?_)
  have hk1 := hc7
  refine z_aload_nr dL_law_883 rfl ?_
  refine z_aload_ne dL_law_884 rfl ?_
  refine z_iload_n dL_law_885 rfl ?_
  refine z_iconst dL_law_886 ⟨by decide, by decide⟩ ?_
  first | refine z_iaddN dL_law_887 (by omega) (fun x8 hx8 => ?_) | refine z_iadd dL_law_887 (fun x8 hx8 => ?_)
  refine z_sld (by omega) (by omega) dL_law_888 (fun x9 hx9 bx9 => ?_)
  refine z_aload_ne dL_law_889 rfl ?_
  refine z_iload_n dL_law_890 rfl ?_
  refine z_iconst dL_law_891 ⟨by decide, by decide⟩ ?_
  first | refine z_iaddN dL_law_892 (by omega) (fun x10 hx10 => ?_) | refine z_iadd dL_law_892 (fun x10 hx10 => ?_)
  refine z_sld (by omega) (by omega) dL_law_893 (fun x11 hx11 bx11 => ?_)
  refine z_aload_ne dL_law_894 rfl ?_
  refine z_iload_n dL_law_895 rfl ?_
  refine z_iconst dL_law_896 ⟨by decide, by decide⟩ ?_
  first | refine z_iaddN dL_law_897 (by omega) (fun x12 hx12 => ?_) | refine z_iadd dL_law_897 (fun x12 hx12 => ?_)
  refine z_sld (by omega) (by omega) dL_law_898 (fun x13 hx13 bx13 => ?_)
  refine z_callVi (n2 := 93) (D_lead l g Mz7 x9 x11 x13 x7 hk1.1 (by have z := hk1.2; rw [(show x2 = x9 by first | (subst_vars; rfl) | (subst_vars; omega)), (show x4 = x11 by first | (subst_vars; rfl) | (subst_vars; omega)), (show x6 = x13 by first | (subst_vars; rfl) | (subst_vars; omega))] at z; exact z)) cb_X8_lead cl_L_106 (clrL rfl rfl (by decide) (by decide)) rfl (by decide) ⟨_, rfl, rfl⟩ rfl (by decide) rfl (Nat.le_of_ble_eq_true rfl) rfl dL_law_899 (fun x14 Mz14 bx14 kMz14 hc14 => ?_)
  have hk2 := hc14
  refine z_icmp_eq (tgt := 1183) dL_law_902 (by decide) (fun c15 => ?_) (fun c15 => ?_)
  · exact hk _ hk2.2
  · exfalso; have z := hk2.1; omega
set_option maxHeartbeats 4000000 in
theorem lk_21 (l : Launch) (g : Cx) (μ : Mc) (Q : State → Prop) (pz : Int) (M : FMem) (hL : (g.2.2.2.2.1 : Int) ≤ 4096) (h0 : 0 ≤ pz ∧ pz + 8 ≤ (g.2.2.2.2.1 : Int)) (hC : Cp M) (hk : ∀ M2, Cp M2 → Wa l g true fi_L_law 0 μ Q 1183 [] [fe 0, fr 0, fr 60, fi pz] 93 M2) : Wa l g true fi_L_law 0 μ Q 907 [] [fe 0, fr 0, fr 60, fi pz] 93 M := by
  refine z_aload_nr dL_law_907 rfl ?_
  refine z_aload_ne dL_law_908 rfl ?_
  refine z_iload_n dL_law_909 rfl ?_
  refine z_iconst dL_law_910 ⟨by decide, by decide⟩ ?_
  first | refine z_iaddN dL_law_911 (by omega) (fun x1 hx1 => ?_) | refine z_iadd dL_law_911 (fun x1 hx1 => ?_)
  refine z_sld (by omega) (by omega) dL_law_912 (fun x2 hx2 bx2 => ?_)
  refine z_callVi (n2 := 93) (C_steps l g M x2 hC) cb_X7_steps cl_L_107 (clrL rfl rfl (by decide) (by decide)) rfl (by decide) ⟨_, rfl, rfl⟩ rfl (by decide) rfl (Nat.le_of_ble_eq_true rfl) rfl dL_law_913 (fun x3 Mz3 bx3 kMz3 hc3 => ?_)
  have hk1 := hc3
  refine z_aload_nr dL_law_916 rfl ?_
  refine z_aload_ne dL_law_917 rfl ?_
  refine z_iload_n dL_law_918 rfl ?_
  refine z_iconst dL_law_919 ⟨by decide, by decide⟩ ?_
  first | refine z_iaddN dL_law_920 (by omega) (fun x4 hx4 => ?_) | refine z_iadd dL_law_920 (fun x4 hx4 => ?_)
  refine z_sld (by omega) (by omega) dL_law_921 (fun x5 hx5 bx5 => ?_)
  refine z_callVi (n2 := 93) (D_steps l g Mz3 x5 x3 hk1.1 (by have z := hk1.2; rw [(show x2 = x5 by first | (subst_vars; rfl) | (subst_vars; omega))] at z; exact z)) cb_X8_steps cl_L_110 (clrL rfl rfl (by decide) (by decide)) rfl (by decide) ⟨_, rfl, rfl⟩ rfl (by decide) rfl (Nat.le_of_ble_eq_true rfl) rfl dL_law_922 (fun x6 Mz6 bx6 kMz6 hc6 => ?_)
  have hk2 := hc6
  refine z_icmp_eq (tgt := 1183) dL_law_925 (by decide) (fun c7 => ?_) (fun c7 => ?_)
  · exact hk _ hk2.2
  · exfalso; have z := hk2.1; omega
set_option maxHeartbeats 4000000 in
theorem lk_22 (l : Launch) (g : Cx) (μ : Mc) (Q : State → Prop) (pz : Int) (M : FMem) (hL : (g.2.2.2.2.1 : Int) ≤ 4096) (h0 : 0 ≤ pz ∧ pz + 8 ≤ (g.2.2.2.2.1 : Int)) (hC : Cp M) (hk : ∀ M2, Cp M2 → Wa l g true fi_L_law 0 μ Q 1183 [] [fe 0, fr 0, fr 60, fi pz] 93 M2) : Wa l g true fi_L_law 0 μ Q 930 [] [fe 0, fr 0, fr 60, fi pz] 93 M := by
  refine z_aload_nr dL_law_930 rfl ?_
  refine z_aload_ne dL_law_931 rfl ?_
  refine z_iload_n dL_law_932 rfl ?_
  refine z_iconst dL_law_933 ⟨by decide, by decide⟩ ?_
  first | refine z_iaddN dL_law_934 (by omega) (fun x1 hx1 => ?_) | refine z_iadd dL_law_934 (fun x1 hx1 => ?_)
  refine z_sld (by omega) (by omega) dL_law_935 (fun x2 hx2 bx2 => ?_)
  refine z_aload_ne dL_law_936 rfl ?_
  refine z_iload_n dL_law_937 rfl ?_
  refine z_iconst dL_law_938 ⟨by decide, by decide⟩ ?_
  first | refine z_iaddN dL_law_939 (by omega) (fun x3 hx3 => ?_) | refine z_iadd dL_law_939 (fun x3 hx3 => ?_)
  refine z_sld (by omega) (by omega) dL_law_940 (fun x4 hx4 bx4 => ?_)
  refine z_callVl (n2 := 93) (C_far l g M x2 x4 hC) cb_X7_far cl_L_111 (clrL rfl rfl (by decide) (by decide)) rfl (by decide) ⟨_, rfl, rfl⟩ rfl (by decide) rfl (Nat.le_of_ble_eq_true rfl) rfl dL_law_941 (fun x5 Mz5 bx5 kMz5 hc5 => ?_)
  have hk1 := hc5
  refine z_aload_nr dL_law_944 rfl ?_
  refine z_aload_ne dL_law_945 rfl ?_
  refine z_iload_n dL_law_946 rfl ?_
  refine z_iconst dL_law_947 ⟨by decide, by decide⟩ ?_
  first | refine z_iaddN dL_law_948 (by omega) (fun x6 hx6 => ?_) | refine z_iadd dL_law_948 (fun x6 hx6 => ?_)
  refine z_sld (by omega) (by omega) dL_law_949 (fun x7 hx7 bx7 => ?_)
  refine z_aload_ne dL_law_950 rfl ?_
  refine z_iload_n dL_law_951 rfl ?_
  refine z_iconst dL_law_952 ⟨by decide, by decide⟩ ?_
  first | refine z_iaddN dL_law_953 (by omega) (fun x8 hx8 => ?_) | refine z_iadd dL_law_953 (fun x8 hx8 => ?_)
  refine z_sld (by omega) (by omega) dL_law_954 (fun x9 hx9 bx9 => ?_)
  refine z_callVl (n2 := 93) (D_far l g Mz5 x7 x9 x5 hk1.1 (by have z := hk1.2; rw [(show x2 = x7 by first | (subst_vars; rfl) | (subst_vars; omega)), (show x4 = x9 by first | (subst_vars; rfl) | (subst_vars; omega))] at z; exact z)) cb_X8_far cl_L_115 (clrL rfl rfl (by decide) (by decide)) rfl (by decide) ⟨_, rfl, rfl⟩ rfl (by decide) rfl (Nat.le_of_ble_eq_true rfl) rfl dL_law_955 (fun x10 Mz10 bx10 kMz10 hc10 => ?_)
  have hk2 := hc10
  refine z_lcmp_eq (tgt := 1183) dL_law_958 dL_law_959 (by decide) (fun c11 => ?_) (fun c11 => ?_)
  · exact hk _ hk2.2
  · exfalso; have z := hk2.1; omega
set_option maxHeartbeats 4000000 in
theorem lk_23 (l : Launch) (g : Cx) (μ : Mc) (Q : State → Prop) (pz : Int) (M : FMem) (hL : (g.2.2.2.2.1 : Int) ≤ 4096) (h0 : 0 ≤ pz ∧ pz + 8 ≤ (g.2.2.2.2.1 : Int)) (hC : Cp M) (hk : ∀ M2, Cp M2 → Wa l g true fi_L_law 0 μ Q 1183 [] [fe 0, fr 0, fr 60, fi pz] 93 M2) : Wa l g true fi_L_law 0 μ Q 964 [] [fe 0, fr 0, fr 60, fi pz] 93 M := by
  refine z_aload_nr dL_law_964 rfl ?_
  refine z_aload_ne dL_law_965 rfl ?_
  refine z_iload_n dL_law_966 rfl ?_
  refine z_iconst dL_law_967 ⟨by decide, by decide⟩ ?_
  first | refine z_iaddN dL_law_968 (by omega) (fun x1 hx1 => ?_) | refine z_iadd dL_law_968 (fun x1 hx1 => ?_)
  refine z_sld (by omega) (by omega) dL_law_969 (fun x2 hx2 bx2 => ?_)
  refine z_callVi (n2 := 93) (C_boxes l g M x2 hC) cb_X7_boxes cl_L_116 (clrL rfl rfl (by decide) (by decide)) rfl (by decide) ⟨_, rfl, rfl⟩ rfl (by decide) rfl (Nat.le_of_ble_eq_true rfl) rfl dL_law_970 (fun x3 Mz3 bx3 kMz3 hc3 => ?_)
  have hk1 := hc3
  refine z_aload_nr dL_law_973 rfl ?_
  refine z_aload_ne dL_law_974 rfl ?_
  refine z_iload_n dL_law_975 rfl ?_
  refine z_iconst dL_law_976 ⟨by decide, by decide⟩ ?_
  first | refine z_iaddN dL_law_977 (by omega) (fun x4 hx4 => ?_) | refine z_iadd dL_law_977 (fun x4 hx4 => ?_)
  refine z_sld (by omega) (by omega) dL_law_978 (fun x5 hx5 bx5 => ?_)
  refine z_callVi (n2 := 93) (D_boxes l g Mz3 x5 x3 hk1.1 (by have z := hk1.2; rw [(show x2 = x5 by first | (subst_vars; rfl) | (subst_vars; omega))] at z; exact z)) cb_X8_boxes cl_L_119 (clrL rfl rfl (by decide) (by decide)) rfl (by decide) ⟨_, rfl, rfl⟩ rfl (by decide) rfl (Nat.le_of_ble_eq_true rfl) rfl dL_law_979 (fun x6 Mz6 bx6 kMz6 hc6 => ?_)
  have hk2 := hc6
  refine z_icmp_eq (tgt := 1183) dL_law_982 (by decide) (fun c7 => ?_) (fun c7 => ?_)
  · exact hk _ hk2.2
  · exfalso; have z := hk2.1; omega
set_option maxHeartbeats 4000000 in
theorem lk_24 (l : Launch) (g : Cx) (μ : Mc) (Q : State → Prop) (pz : Int) (M : FMem) (hL : (g.2.2.2.2.1 : Int) ≤ 4096) (h0 : 0 ≤ pz ∧ pz + 8 ≤ (g.2.2.2.2.1 : Int)) (hC : Cp M) (hk : ∀ M2, Cp M2 → Wa l g true fi_L_law 0 μ Q 1183 [] [fe 0, fr 0, fr 60, fi pz] 93 M2) : Wa l g true fi_L_law 0 μ Q 987 [] [fe 0, fr 0, fr 60, fi pz] 93 M := by
  refine z_aload_nr dL_law_987 rfl ?_
  refine z_aload_ne dL_law_988 rfl ?_
  refine z_iload_n dL_law_989 rfl ?_
  refine z_iconst dL_law_990 ⟨by decide, by decide⟩ ?_
  first | refine z_iaddN dL_law_991 (by omega) (fun x1 hx1 => ?_) | refine z_iadd dL_law_991 (fun x1 hx1 => ?_)
  refine z_sld (by omega) (by omega) dL_law_992 (fun x2 hx2 bx2 => ?_)
  refine z_callVi (n2 := 93) (C_box l g M x2 hC) cb_X7_box cl_L_120 (clrL rfl rfl (by decide) (by decide)) rfl (by decide) ⟨_, rfl, rfl⟩ rfl (by decide) rfl (Nat.le_of_ble_eq_true rfl) rfl dL_law_993 (fun x3 Mz3 bx3 kMz3 hc3 => ?_)
  have hk1 := hc3
  refine z_aload_nr dL_law_996 rfl ?_
  refine z_aload_ne dL_law_997 rfl ?_
  refine z_iload_n dL_law_998 rfl ?_
  refine z_iconst dL_law_999 ⟨by decide, by decide⟩ ?_
  first | refine z_iaddN dL_law_1000 (by omega) (fun x4 hx4 => ?_) | refine z_iadd dL_law_1000 (fun x4 hx4 => ?_)
  refine z_sld (by omega) (by omega) dL_law_1001 (fun x5 hx5 bx5 => ?_)
  refine z_callVi (n2 := 93) (D_box l g Mz3 x5 x3 hk1.1 (by have z := hk1.2; rw [(show x2 = x5 by first | (subst_vars; rfl) | (subst_vars; omega))] at z; exact z)) cb_X8_box cl_L_123 (clrL rfl rfl (by decide) (by decide)) rfl (by decide) ⟨_, rfl, rfl⟩ rfl (by decide) rfl (Nat.le_of_ble_eq_true rfl) rfl dL_law_1002 (fun x6 Mz6 bx6 kMz6 hc6 => ?_)
  have hk2 := hc6
  refine z_icmp_eq (tgt := 1183) dL_law_1005 (by decide) (fun c7 => ?_) (fun c7 => ?_)
  · exact hk _ hk2.2
  · exfalso; have z := hk2.1; omega
set_option maxHeartbeats 4000000 in
theorem lk_25 (l : Launch) (g : Cx) (μ : Mc) (Q : State → Prop) (pz : Int) (M : FMem) (hL : (g.2.2.2.2.1 : Int) ≤ 4096) (h0 : 0 ≤ pz ∧ pz + 8 ≤ (g.2.2.2.2.1 : Int)) (hC : Cp M) (hk : ∀ M2, Cp M2 → Wa l g true fi_L_law 0 μ Q 1183 [] [fe 0, fr 0, fr 60, fi pz] 93 M2) : Wa l g true fi_L_law 0 μ Q 1010 [] [fe 0, fr 0, fr 60, fi pz] 93 M := by
  refine z_aload_nr dL_law_1010 rfl ?_
  refine z_aload_ne dL_law_1011 rfl ?_
  refine z_iload_n dL_law_1012 rfl ?_
  refine z_iconst dL_law_1013 ⟨by decide, by decide⟩ ?_
  first | refine z_iaddN dL_law_1014 (by omega) (fun x1 hx1 => ?_) | refine z_iadd dL_law_1014 (fun x1 hx1 => ?_)
  refine z_sld (by omega) (by omega) dL_law_1015 (fun x2 hx2 bx2 => ?_)
  refine z_aload_ne dL_law_1016 rfl ?_
  refine z_iload_n dL_law_1017 rfl ?_
  refine z_iconst dL_law_1018 ⟨by decide, by decide⟩ ?_
  first | refine z_iaddN dL_law_1019 (by omega) (fun x3 hx3 => ?_) | refine z_iadd dL_law_1019 (fun x3 hx3 => ?_)
  refine z_sld (by omega) (by omega) dL_law_1020 (fun x4 hx4 bx4 => ?_)
  refine z_i2l dL_law_1021 ?_
  refine z_bipush dL_law_1022 ⟨by decide, by decide⟩ (by decide) ?_
  refine z_lshl dL_law_1024 (fun x5 hx5 bx5 => ?_)
  refine z_aload_ne dL_law_1025 rfl ?_
  refine z_iload_n dL_law_1026 rfl ?_
  refine z_iconst dL_law_1027 ⟨by decide, by decide⟩ ?_
  first | refine z_iaddN dL_law_1028 (by omega) (fun x6 hx6 => ?_) | refine z_iadd dL_law_1028 (fun x6 hx6 => ?_)
  refine z_sld (by omega) (by omega) dL_law_1029 (fun x7 hx7 bx7 => ?_)
  refine z_i2l dL_law_1030 ?_
  refine z_ldc2 (c := 4294967295) cn_L_60 ⟨by decide, by decide⟩ dL_law_1031 ?_
  refine z_land dL_law_1034 (fun x8 hx8 bx8 => ?_)
  refine z_lor dL_law_1035 (fun x9 hx9 bx9 => ?_)
  refine z_aload_ne dL_law_1036 rfl ?_
  refine z_iload_n dL_law_1037 rfl ?_
  refine z_iconst dL_law_1038 ⟨by decide, by decide⟩ ?_
  first | refine z_iaddN dL_law_1039 (by omega) (fun x10 hx10 => ?_) | refine z_iadd dL_law_1039 (fun x10 hx10 => ?_)
  refine z_sld (by omega) (by omega) dL_law_1040 (fun x11 hx11 bx11 => ?_)
  refine z_i2l dL_law_1041 ?_
  refine z_bipush dL_law_1042 ⟨by decide, by decide⟩ (by decide) ?_
  refine z_lshl dL_law_1044 (fun x12 hx12 bx12 => ?_)
  refine z_aload_ne dL_law_1045 rfl ?_
  refine z_iload_n dL_law_1046 rfl ?_
  refine z_iconst dL_law_1047 ⟨by decide, by decide⟩ ?_
  first | refine z_iaddN dL_law_1048 (by omega) (fun x13 hx13 => ?_) | refine z_iadd dL_law_1048 (fun x13 hx13 => ?_)
  refine z_sld (by omega) (by omega) dL_law_1049 (fun x14 hx14 bx14 => ?_)
  refine z_i2l dL_law_1050 ?_
  refine z_ldc2 (c := 4294967295) cn_L_60 ⟨by decide, by decide⟩ dL_law_1051 ?_
  refine z_land dL_law_1054 (fun x15 hx15 bx15 => ?_)
  refine z_lor dL_law_1055 (fun x16 hx16 bx16 => ?_)
  refine z_callVl (n2 := 93) (C_delay l g M x2 x9 x16 hC) cb_X7_delay cl_L_124 (clrL rfl rfl (by decide) (by decide)) rfl (by decide) ⟨_, rfl, rfl⟩ rfl (by decide) rfl (Nat.le_of_ble_eq_true rfl) rfl dL_law_1056 (fun x17 Mz17 bx17 kMz17 hc17 => ?_)
  have hk1 := hc17
  refine z_aload_nr dL_law_1059 rfl ?_
  refine z_aload_ne dL_law_1060 rfl ?_
  refine z_iload_n dL_law_1061 rfl ?_
  refine z_iconst dL_law_1062 ⟨by decide, by decide⟩ ?_
  first | refine z_iaddN dL_law_1063 (by omega) (fun x18 hx18 => ?_) | refine z_iadd dL_law_1063 (fun x18 hx18 => ?_)
  refine z_sld (by omega) (by omega) dL_law_1064 (fun x19 hx19 bx19 => ?_)
  refine z_aload_ne dL_law_1065 rfl ?_
  refine z_iload_n dL_law_1066 rfl ?_
  refine z_iconst dL_law_1067 ⟨by decide, by decide⟩ ?_
  first | refine z_iaddN dL_law_1068 (by omega) (fun x20 hx20 => ?_) | refine z_iadd dL_law_1068 (fun x20 hx20 => ?_)
  refine z_sld (by omega) (by omega) dL_law_1069 (fun x21 hx21 bx21 => ?_)
  refine z_i2l dL_law_1070 ?_
  refine z_bipush dL_law_1071 ⟨by decide, by decide⟩ (by decide) ?_
  refine z_lshl dL_law_1073 (fun x22 hx22 bx22 => ?_)
  refine z_aload_ne dL_law_1074 rfl ?_
  refine z_iload_n dL_law_1075 rfl ?_
  refine z_iconst dL_law_1076 ⟨by decide, by decide⟩ ?_
  first | refine z_iaddN dL_law_1077 (by omega) (fun x23 hx23 => ?_) | refine z_iadd dL_law_1077 (fun x23 hx23 => ?_)
  refine z_sld (by omega) (by omega) dL_law_1078 (fun x24 hx24 bx24 => ?_)
  refine z_i2l dL_law_1079 ?_
  refine z_ldc2 (c := 4294967295) cn_L_60 ⟨by decide, by decide⟩ dL_law_1080 ?_
  refine z_land dL_law_1083 (fun x25 hx25 bx25 => ?_)
  refine z_lor dL_law_1084 (fun x26 hx26 bx26 => ?_)
  refine z_aload_ne dL_law_1085 rfl ?_
  refine z_iload_n dL_law_1086 rfl ?_
  refine z_iconst dL_law_1087 ⟨by decide, by decide⟩ ?_
  first | refine z_iaddN dL_law_1088 (by omega) (fun x27 hx27 => ?_) | refine z_iadd dL_law_1088 (fun x27 hx27 => ?_)
  refine z_sld (by omega) (by omega) dL_law_1089 (fun x28 hx28 bx28 => ?_)
  refine z_i2l dL_law_1090 ?_
  refine z_bipush dL_law_1091 ⟨by decide, by decide⟩ (by decide) ?_
  refine z_lshl dL_law_1093 (fun x29 hx29 bx29 => ?_)
  refine z_aload_ne dL_law_1094 rfl ?_
  refine z_iload_n dL_law_1095 rfl ?_
  refine z_iconst dL_law_1096 ⟨by decide, by decide⟩ ?_
  first | refine z_iaddN dL_law_1097 (by omega) (fun x30 hx30 => ?_) | refine z_iadd dL_law_1097 (fun x30 hx30 => ?_)
  refine z_sld (by omega) (by omega) dL_law_1098 (fun x31 hx31 bx31 => ?_)
  refine z_i2l dL_law_1099 ?_
  refine z_ldc2 (c := 4294967295) cn_L_60 ⟨by decide, by decide⟩ dL_law_1100 ?_
  refine z_land dL_law_1103 (fun x32 hx32 bx32 => ?_)
  refine z_lor dL_law_1104 (fun x33 hx33 bx33 => ?_)
  refine z_callVl (n2 := 93) (D_delay l g Mz17 x19 x26 x33 x17 hk1.1 (by have z := hk1.2; rw [(show x2 = x19 by first | (subst_vars; rfl) | (subst_vars; omega)), (show x9 = x26 by first | (subst_vars; rfl) | (subst_vars; omega)), (show x16 = x33 by first | (subst_vars; rfl) | (subst_vars; omega))] at z; exact z)) cb_X8_delay cl_L_128 (clrL rfl rfl (by decide) (by decide)) rfl (by decide) ⟨_, rfl, rfl⟩ rfl (by decide) rfl (Nat.le_of_ble_eq_true rfl) rfl dL_law_1105 (fun x34 Mz34 bx34 kMz34 hc34 => ?_)
  have hk2 := hc34
  refine z_lcmp_eq (tgt := 1183) dL_law_1108 dL_law_1109 (by decide) (fun c35 => ?_) (fun c35 => ?_)
  · exact hk _ hk2.2
  · exfalso; have z := hk2.1; omega
set_option maxHeartbeats 4000000 in
theorem lk_26 (l : Launch) (g : Cx) (μ : Mc) (Q : State → Prop) (pz : Int) (M : FMem) (hL : (g.2.2.2.2.1 : Int) ≤ 4096) (h0 : 0 ≤ pz ∧ pz + 8 ≤ (g.2.2.2.2.1 : Int)) (hC : Cp M) (hk : ∀ M2, Cp M2 → Wa l g true fi_L_law 0 μ Q 1183 [] [fe 0, fr 0, fr 60, fi pz] 93 M2) : Wa l g true fi_L_law 0 μ Q 1114 [] [fe 0, fr 0, fr 60, fi pz] 93 M := by
  refine z_aload_nr dL_law_1114 rfl ?_
  refine z_aload_ne dL_law_1115 rfl ?_
  refine z_iload_n dL_law_1116 rfl ?_
  refine z_iconst dL_law_1117 ⟨by decide, by decide⟩ ?_
  first | refine z_iaddN dL_law_1118 (by omega) (fun x1 hx1 => ?_) | refine z_iadd dL_law_1118 (fun x1 hx1 => ?_)
  refine z_sld (by omega) (by omega) dL_law_1119 (fun x2 hx2 bx2 => ?_)
  refine z_callVi (n2 := 93) (C_blind l g M x2 hC) cb_X7_blind cl_L_129 (clrL rfl rfl (by decide) (by decide)) rfl (by decide) ⟨_, rfl, rfl⟩ rfl (by decide) rfl (Nat.le_of_ble_eq_true rfl) rfl dL_law_1120 (fun x3 Mz3 bx3 kMz3 hc3 => ?_)
  have hk1 := hc3
  refine z_aload_nr dL_law_1123 rfl ?_
  refine z_aload_ne dL_law_1124 rfl ?_
  refine z_iload_n dL_law_1125 rfl ?_
  refine z_iconst dL_law_1126 ⟨by decide, by decide⟩ ?_
  first | refine z_iaddN dL_law_1127 (by omega) (fun x4 hx4 => ?_) | refine z_iadd dL_law_1127 (fun x4 hx4 => ?_)
  refine z_sld (by omega) (by omega) dL_law_1128 (fun x5 hx5 bx5 => ?_)
  refine z_callVi (n2 := 93) (D_blind l g M Mz3 x5 x3 hC (by have z := hk1; rw [(show x2 = x5 by first | (subst_vars; rfl) | (subst_vars; omega))] at z; exact z)) cb_X8_blind cl_L_132 (clrL rfl rfl (by decide) (by decide)) rfl (by decide) ⟨_, rfl, rfl⟩ rfl (by decide) rfl (Nat.le_of_ble_eq_true rfl) rfl dL_law_1129 (fun x6 Mz6 bx6 kMz6 hc6 => ?_)
  have hk2 := hc6
  refine z_icmp_eq (tgt := 1183) dL_law_1132 (by decide) (fun c7 => ?_) (fun c7 => ?_)
  · exact hk _ hk2.2
  · exfalso; have z := hk2.1; omega
set_option maxHeartbeats 4000000 in
theorem lk_27 (l : Launch) (g : Cx) (μ : Mc) (Q : State → Prop) (pz : Int) (M : FMem) (hL : (g.2.2.2.2.1 : Int) ≤ 4096) (h0 : 0 ≤ pz ∧ pz + 8 ≤ (g.2.2.2.2.1 : Int)) (hC : Cp M) (hk : ∀ M2, Cp M2 → Wa l g true fi_L_law 0 μ Q 1183 [] [fe 0, fr 0, fr 60, fi pz] 93 M2) : Wa l g true fi_L_law 0 μ Q 1137 [] [fe 0, fr 0, fr 60, fi pz] 93 M := by
  refine z_aload_nr dL_law_1137 rfl ?_
  refine z_callVi (n2 := 93) (C_open l g M  hC) cb_X7_open cl_L_133 (clrL rfl rfl (by decide) (by decide)) rfl (by decide) ⟨_, rfl, rfl⟩ rfl (by decide) rfl (Nat.le_of_ble_eq_true rfl) rfl dL_law_1138 (fun x1 Mz1 bx1 kMz1 hc1 => ?_)
  have hk1 := hc1
  refine z_aload_nr dL_law_1141 rfl ?_
  refine z_callVi (n2 := 93) (D_open l g M Mz1  x1 hC (by have z := hk1; exact z)) cb_X8_open cl_L_136 (clrL rfl rfl (by decide) (by decide)) rfl (by decide) ⟨_, rfl, rfl⟩ rfl (by decide) rfl (Nat.le_of_ble_eq_true rfl) rfl dL_law_1142 (fun x2 Mz2 bx2 kMz2 hc2 => ?_)
  have hk2 := hc2
  refine z_icmp_eq (tgt := 1183) dL_law_1145 (by decide) (fun c3 => ?_) (fun c3 => ?_)
  · exact hk _ hk2.2
  · exfalso; have z := hk2.1; omega
set_option maxHeartbeats 4000000 in
theorem lk_28 (l : Launch) (g : Cx) (μ : Mc) (Q : State → Prop) (pz : Int) (M : FMem) (hL : (g.2.2.2.2.1 : Int) ≤ 4096) (h0 : 0 ≤ pz ∧ pz + 8 ≤ (g.2.2.2.2.1 : Int)) (hC : Cp M) (hk : ∀ M2, Cp M2 → Wa l g true fi_L_law 0 μ Q 1183 [] [fe 0, fr 0, fr 60, fi pz] 93 M2) : Wa l g true fi_L_law 0 μ Q 1150 [] [fe 0, fr 0, fr 60, fi pz] 93 M := by
  refine z_aload_nr dL_law_1150 rfl ?_
  refine z_aload_ne dL_law_1151 rfl ?_
  refine z_iload_n dL_law_1152 rfl ?_
  refine z_iconst dL_law_1153 ⟨by decide, by decide⟩ ?_
  first | refine z_iaddN dL_law_1154 (by omega) (fun x1 hx1 => ?_) | refine z_iadd dL_law_1154 (fun x1 hx1 => ?_)
  refine z_sld (by omega) (by omega) dL_law_1155 (fun x2 hx2 bx2 => ?_)
  refine z_aload_ne dL_law_1156 rfl ?_
  refine z_iload_n dL_law_1157 rfl ?_
  refine z_iconst dL_law_1158 ⟨by decide, by decide⟩ ?_
  first | refine z_iaddN dL_law_1159 (by omega) (fun x3 hx3 => ?_) | refine z_iadd dL_law_1159 (fun x3 hx3 => ?_)
  refine z_sld (by omega) (by omega) dL_law_1160 (fun x4 hx4 bx4 => ?_)
  refine z_callVi (n2 := 93) (C_claim l g M x2 x4 hC) cb_X7_claim cl_L_137 (clrL rfl rfl (by decide) (by decide)) rfl (by decide) ⟨_, rfl, rfl⟩ rfl (by decide) rfl (Nat.le_of_ble_eq_true rfl) rfl dL_law_1161 (fun x5 Mz5 bx5 kMz5 hc5 => ?_)
  have hk1 := hc5
  refine z_aload_nr dL_law_1164 rfl ?_
  refine z_aload_ne dL_law_1165 rfl ?_
  refine z_iload_n dL_law_1166 rfl ?_
  refine z_iconst dL_law_1167 ⟨by decide, by decide⟩ ?_
  first | refine z_iaddN dL_law_1168 (by omega) (fun x6 hx6 => ?_) | refine z_iadd dL_law_1168 (fun x6 hx6 => ?_)
  refine z_sld (by omega) (by omega) dL_law_1169 (fun x7 hx7 bx7 => ?_)
  refine z_aload_ne dL_law_1170 rfl ?_
  refine z_iload_n dL_law_1171 rfl ?_
  refine z_iconst dL_law_1172 ⟨by decide, by decide⟩ ?_
  first | refine z_iaddN dL_law_1173 (by omega) (fun x8 hx8 => ?_) | refine z_iadd dL_law_1173 (fun x8 hx8 => ?_)
  refine z_sld (by omega) (by omega) dL_law_1174 (fun x9 hx9 bx9 => ?_)
  refine z_callVi (n2 := 93) (D_claim l g Mz5 x7 x9 x5 hk1.1 (by have z := hk1.2; rw [(show x2 = x7 by first | (subst_vars; rfl) | (subst_vars; omega)), (show x4 = x9 by first | (subst_vars; rfl) | (subst_vars; omega))] at z; exact z)) cb_X8_claim cl_L_140 (clrL rfl rfl (by decide) (by decide)) rfl (by decide) ⟨_, rfl, rfl⟩ rfl (by decide) rfl (Nat.le_of_ble_eq_true rfl) rfl dL_law_1175 (fun x10 Mz10 bx10 kMz10 hc10 => ?_)
  have hk2 := hc10
  refine z_icmp_eq (tgt := 1183) dL_law_1178 (by decide) (fun c11 => ?_) (fun c11 => ?_)
  · exact hk _ hk2.2
  · exfalso; have z := hk2.1; omega

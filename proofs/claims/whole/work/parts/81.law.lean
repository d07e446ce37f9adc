/-! the law's loop -/
abbrev M_L_law : Mt := (⟨"FurrowFieldLaw", "law", "([I)Z"⟩, cL_law, 4, some .boolean)

theorem law_0 {l : Launch} {G : Gx} {d : Nat} {σ : Sg} {Q : Option Value → Sg → Prop} {a : Ab} {j : Nat} {x : Int32} (hr : rC σ a) (hm : rM σ a) (hk : abOk a) (hx : x.toInt = (j : Int)) (hj : j + 6 ≤ rol G 105) (hj2 : j + 6 ≤ 4000) (hnext : ∀ (υ : Sg) (b : Ab), rC υ b → rM υ b → abOk b → Z l G M_L_law (d + 20) 1000 [some (.ref 105), some (.ref 0), some (.ref 1), some (.int x)] [] υ Q) : Z l G M_L_law (d + 20) 156 [some (.ref 105), some (.ref 0), some (.ref 1), some (.int x)] [] σ Q := by
  refine z_aload_n (pc := 156) dL_law_156 rfl ?_
  refine z_aload_n (pc := 157) dL_law_157 rfl ?_
  refine z_iload_n (pc := 158) dL_law_158 rfl ?_
  refine z_iconst (pc := 159) (v := 1) dL_law_159 (by decide) ?_
  refine z_iaddT (pc := 160) (cy := 1) dL_law_160 rfl (by decide) (by omega) (by omega) (fun v160 e160 => ?_)
  refine z_roaldN (pc := 161) (j + 1) dL_law_161 (by decide) (by decide) (by omega) (by omega) ?_
  refine z_aload_n (pc := 162) dL_law_162 rfl ?_
  refine z_iload_n (pc := 163) dL_law_163 rfl ?_
  refine z_iconst (pc := 164) (v := 2) dL_law_164 (by decide) ?_
  refine z_iaddT (pc := 165) (cy := 2) dL_law_165 rfl (by decide) (by omega) (by omega) (fun v165 e165 => ?_)
  refine z_roaldN (pc := 166) (j + 2) dL_law_166 (by decide) (by decide) (by omega) (by omega) ?_
  refine z_aload_n (pc := 167) dL_law_167 rfl ?_
  refine z_iload_n (pc := 168) dL_law_168 rfl ?_
  refine z_iconst (pc := 169) (v := 3) dL_law_169 (by decide) ?_
  refine z_iaddT (pc := 170) (cy := 3) dL_law_170 rfl (by decide) (by omega) (by omega) (fun v170 e170 => ?_)
  refine z_roaldN (pc := 171) (j + 3) dL_law_171 (by decide) (by decide) (by omega) (by omega) ?_
  refine z_iv3 (pc := 172) dL_law_172 kv_L_13 rfl (by decide) (by decide) rfl rfl ?_
  refine c_X10_bed hr hk (fun rc τ ec hrc eM => ?_)
  refine z_aload_n (pc := 175) dL_law_175 rfl ?_
  refine z_aload_n (pc := 176) dL_law_176 rfl ?_
  refine z_iload_n (pc := 177) dL_law_177 rfl ?_
  refine z_iconst (pc := 178) (v := 1) dL_law_178 (by decide) ?_
  refine z_iaddT (pc := 179) (cy := 1) dL_law_179 rfl (by decide) (by omega) (by omega) (fun v179 e179 => ?_)
  refine z_roaldN (pc := 180) (j + 1) dL_law_180 (by decide) (by decide) (by omega) (by omega) ?_
  refine z_aload_n (pc := 181) dL_law_181 rfl ?_
  refine z_iload_n (pc := 182) dL_law_182 rfl ?_
  refine z_iconst (pc := 183) (v := 2) dL_law_183 (by decide) ?_
  refine z_iaddT (pc := 184) (cy := 2) dL_law_184 rfl (by decide) (by omega) (by omega) (fun v184 e184 => ?_)
  refine z_roaldN (pc := 185) (j + 2) dL_law_185 (by decide) (by decide) (by omega) (by omega) ?_
  refine z_aload_n (pc := 186) dL_law_186 rfl ?_
  refine z_iload_n (pc := 187) dL_law_187 rfl ?_
  refine z_iconst (pc := 188) (v := 3) dL_law_188 (by decide) ?_
  refine z_iaddT (pc := 189) (cy := 3) dL_law_189 rfl (by decide) (by omega) (by omega) (fun v189 e189 => ?_)
  refine z_roaldN (pc := 190) (j + 3) dL_law_190 (by decide) (by decide) (by omega) (by omega) ?_
  refine z_iv3 (pc := 191) dL_law_191 kv_L_17 rfl (by decide) (by decide) rfl rfl ?_
  have hmt := rM_cong eM hm
  refine c_X11_bed hmt hk (fun rm υ em hrm eC => ?_)
  have eq : rc.toInt = rm.toInt := ec.trans em.symm
  refine zq_icmp_eq (pc := 194) (tgt := 1000) dL_law_194 rfl rfl rfl (fun h194 => ?_) (fun h194 => ?_)
  · skip
    exact hnext υ _ (rC_cong eC hrc) hrm (ab_sBed hk)
  · skip
    refine z_iconst (pc := 197) (v := 0) dL_law_197 (by decide) ?_
    refine z_zret (pc := 198) dL_law_198 rfl (by decide) ?_
    exfalso; omega

theorem law_1 {l : Launch} {G : Gx} {d : Nat} {σ : Sg} {Q : Option Value → Sg → Prop} {a : Ab} {j : Nat} {x : Int32} (hr : rC σ a) (hm : rM σ a) (hk : abOk a) (hx : x.toInt = (j : Int)) (hj : j + 6 ≤ rol G 105) (hj2 : j + 6 ≤ 4000) (hnext : ∀ (υ : Sg) (b : Ab), rC υ b → rM υ b → abOk b → Z l G M_L_law (d + 20) 1000 [some (.ref 105), some (.ref 0), some (.ref 1), some (.int x)] [] υ Q) : Z l G M_L_law (d + 20) 199 [some (.ref 105), some (.ref 0), some (.ref 1), some (.int x)] [] σ Q := by
  refine z_aload_n (pc := 199) dL_law_199 rfl ?_
  refine z_aload_n (pc := 200) dL_law_200 rfl ?_
  refine z_iload_n (pc := 201) dL_law_201 rfl ?_
  refine z_iconst (pc := 202) (v := 1) dL_law_202 (by decide) ?_
  refine z_iaddT (pc := 203) (cy := 1) dL_law_203 rfl (by decide) (by omega) (by omega) (fun v203 e203 => ?_)
  refine z_roaldN (pc := 204) (j + 1) dL_law_204 (by decide) (by decide) (by omega) (by omega) ?_
  refine z_aload_n (pc := 205) dL_law_205 rfl ?_
  refine z_iload_n (pc := 206) dL_law_206 rfl ?_
  refine z_iconst (pc := 207) (v := 2) dL_law_207 (by decide) ?_
  refine z_iaddT (pc := 208) (cy := 2) dL_law_208 rfl (by decide) (by omega) (by omega) (fun v208 e208 => ?_)
  refine z_roaldN (pc := 209) (j + 2) dL_law_209 (by decide) (by decide) (by omega) (by omega) ?_
  refine z_aload_n (pc := 210) dL_law_210 rfl ?_
  refine z_iload_n (pc := 211) dL_law_211 rfl ?_
  refine z_iconst (pc := 212) (v := 3) dL_law_212 (by decide) ?_
  refine z_iaddT (pc := 213) (cy := 3) dL_law_213 rfl (by decide) (by omega) (by omega) (fun v213 e213 => ?_)
  refine z_roaldN (pc := 214) (j + 3) dL_law_214 (by decide) (by decide) (by omega) (by omega) ?_
  refine z_i2l (pc := 215) dL_law_215 ?_
  refine z_bipush (pc := 216) (v := 32) dL_law_216 (by decide) ?_
  refine z_lshl (pc := 218) dL_law_218 ?_
  refine z_aload_n (pc := 219) dL_law_219 rfl ?_
  refine z_iload_n (pc := 220) dL_law_220 rfl ?_
  refine z_iconst (pc := 221) (v := 4) dL_law_221 (by decide) ?_
  refine z_iaddT (pc := 222) (cy := 4) dL_law_222 rfl (by decide) (by omega) (by omega) (fun v222 e222 => ?_)
  refine z_roaldN (pc := 223) (j + 4) dL_law_223 (by decide) (by decide) (by omega) (by omega) ?_
  refine z_i2l (pc := 224) dL_law_224 ?_
  refine z_ldc2 (pc := 225) dL_law_225 kc_L_18 ?_
  refine z_land (pc := 228) dL_law_228 ?_
  refine z_lor (pc := 229) dL_law_229 ?_
  refine z_iv3 (pc := 230) dL_law_230 kv_L_20 rfl (by decide) (by decide) rfl rfl ?_
  refine c_X10_set hr hk (fun rc τ ec hrc eM => ?_)
  refine z_aload_n (pc := 233) dL_law_233 rfl ?_
  refine z_aload_n (pc := 234) dL_law_234 rfl ?_
  refine z_iload_n (pc := 235) dL_law_235 rfl ?_
  refine z_iconst (pc := 236) (v := 1) dL_law_236 (by decide) ?_
  refine z_iaddT (pc := 237) (cy := 1) dL_law_237 rfl (by decide) (by omega) (by omega) (fun v237 e237 => ?_)
  refine z_roaldN (pc := 238) (j + 1) dL_law_238 (by decide) (by decide) (by omega) (by omega) ?_
  refine z_aload_n (pc := 239) dL_law_239 rfl ?_
  refine z_iload_n (pc := 240) dL_law_240 rfl ?_
  refine z_iconst (pc := 241) (v := 2) dL_law_241 (by decide) ?_
  refine z_iaddT (pc := 242) (cy := 2) dL_law_242 rfl (by decide) (by omega) (by omega) (fun v242 e242 => ?_)
  refine z_roaldN (pc := 243) (j + 2) dL_law_243 (by decide) (by decide) (by omega) (by omega) ?_
  refine z_aload_n (pc := 244) dL_law_244 rfl ?_
  refine z_iload_n (pc := 245) dL_law_245 rfl ?_
  refine z_iconst (pc := 246) (v := 3) dL_law_246 (by decide) ?_
  refine z_iaddT (pc := 247) (cy := 3) dL_law_247 rfl (by decide) (by omega) (by omega) (fun v247 e247 => ?_)
  refine z_roaldN (pc := 248) (j + 3) dL_law_248 (by decide) (by decide) (by omega) (by omega) ?_
  refine z_i2l (pc := 249) dL_law_249 ?_
  refine z_bipush (pc := 250) (v := 32) dL_law_250 (by decide) ?_
  refine z_lshl (pc := 252) dL_law_252 ?_
  refine z_aload_n (pc := 253) dL_law_253 rfl ?_
  refine z_iload_n (pc := 254) dL_law_254 rfl ?_
  refine z_iconst (pc := 255) (v := 4) dL_law_255 (by decide) ?_
  refine z_iaddT (pc := 256) (cy := 4) dL_law_256 rfl (by decide) (by omega) (by omega) (fun v256 e256 => ?_)
  refine z_roaldN (pc := 257) (j + 4) dL_law_257 (by decide) (by decide) (by omega) (by omega) ?_
  refine z_i2l (pc := 258) dL_law_258 ?_
  refine z_ldc2 (pc := 259) dL_law_259 kc_L_18 ?_
  refine z_land (pc := 262) dL_law_262 ?_
  refine z_lor (pc := 263) dL_law_263 ?_
  refine z_iv3 (pc := 264) dL_law_264 kv_L_24 rfl (by decide) (by decide) rfl rfl ?_
  have hmt := rM_cong eM hm
  refine c_X11_set hmt hk (fun rm υ em hrm eC => ?_)
  have eq : rc.toInt = rm.toInt := ec.trans em.symm
  refine zq_lc_eq (pc := 267) (tgt := 1000) dL_law_267 dL_law_268 rfl rfl rfl (fun h267 => ?_) (fun h267 => ?_)
  · skip
    exact hnext υ _ (rC_cong eC hrc) hrm (ab_sSet hk)
  · skip
    refine z_iconst (pc := 271) (v := 0) dL_law_271 (by decide) ?_
    refine z_zret (pc := 272) dL_law_272 rfl (by decide) ?_
    exfalso; omega

theorem law_2 {l : Launch} {G : Gx} {d : Nat} {σ : Sg} {Q : Option Value → Sg → Prop} {a : Ab} {j : Nat} {x : Int32} (hr : rC σ a) (hm : rM σ a) (hk : abOk a) (hx : x.toInt = (j : Int)) (hj : j + 6 ≤ rol G 105) (hj2 : j + 6 ≤ 4000) (hnext : ∀ (υ : Sg) (b : Ab), rC υ b → rM υ b → abOk b → Z l G M_L_law (d + 20) 1000 [some (.ref 105), some (.ref 0), some (.ref 1), some (.int x)] [] υ Q) : Z l G M_L_law (d + 20) 273 [some (.ref 105), some (.ref 0), some (.ref 1), some (.int x)] [] σ Q := by
  refine z_aload_n (pc := 273) dL_law_273 rfl ?_
  refine z_aload_n (pc := 274) dL_law_274 rfl ?_
  refine z_iload_n (pc := 275) dL_law_275 rfl ?_
  refine z_iconst (pc := 276) (v := 1) dL_law_276 (by decide) ?_
  refine z_iaddT (pc := 277) (cy := 1) dL_law_277 rfl (by decide) (by omega) (by omega) (fun v277 e277 => ?_)
  refine z_roaldN (pc := 278) (j + 1) dL_law_278 (by decide) (by decide) (by omega) (by omega) ?_
  refine z_iv1 (pc := 279) dL_law_279 kv_L_25 rfl (by decide) (by decide) rfl rfl ?_
  refine c_X10_drop hr hk (fun rc τ ec hrc eM => ?_)
  refine z_aload_n (pc := 282) dL_law_282 rfl ?_
  refine z_aload_n (pc := 283) dL_law_283 rfl ?_
  refine z_iload_n (pc := 284) dL_law_284 rfl ?_
  refine z_iconst (pc := 285) (v := 1) dL_law_285 (by decide) ?_
  refine z_iaddT (pc := 286) (cy := 1) dL_law_286 rfl (by decide) (by omega) (by omega) (fun v286 e286 => ?_)
  refine z_roaldN (pc := 287) (j + 1) dL_law_287 (by decide) (by decide) (by omega) (by omega) ?_
  refine z_iv1 (pc := 288) dL_law_288 kv_L_29 rfl (by decide) (by decide) rfl rfl ?_
  have hmt := rM_cong eM hm
  refine c_X11_drop hmt hk (fun rm υ em hrm eC => ?_)
  have eq : rc.toInt = rm.toInt := ec.trans em.symm
  refine zq_icmp_eq (pc := 291) (tgt := 1000) dL_law_291 rfl rfl rfl (fun h291 => ?_) (fun h291 => ?_)
  · skip
    exact hnext υ _ (rC_cong eC hrc) hrm (ab_sDrop hk)
  · skip
    refine z_iconst (pc := 294) (v := 0) dL_law_294 (by decide) ?_
    refine z_zret (pc := 295) dL_law_295 rfl (by decide) ?_
    exfalso; omega

theorem law_3 {l : Launch} {G : Gx} {d : Nat} {σ : Sg} {Q : Option Value → Sg → Prop} {a : Ab} {j : Nat} {x : Int32} (hr : rC σ a) (hm : rM σ a) (hk : abOk a) (hx : x.toInt = (j : Int)) (hj : j + 6 ≤ rol G 105) (hj2 : j + 6 ≤ 4000) (hnext : ∀ (υ : Sg) (b : Ab), rC υ b → rM υ b → abOk b → Z l G M_L_law (d + 20) 1000 [some (.ref 105), some (.ref 0), some (.ref 1), some (.int x)] [] υ Q) : Z l G M_L_law (d + 20) 296 [some (.ref 105), some (.ref 0), some (.ref 1), some (.int x)] [] σ Q := by
  refine z_aload_n (pc := 296) dL_law_296 rfl ?_
  refine z_aload_n (pc := 297) dL_law_297 rfl ?_
  refine z_iload_n (pc := 298) dL_law_298 rfl ?_
  refine z_iconst (pc := 299) (v := 1) dL_law_299 (by decide) ?_
  refine z_iaddT (pc := 300) (cy := 1) dL_law_300 rfl (by decide) (by omega) (by omega) (fun v300 e300 => ?_)
  refine z_roaldN (pc := 301) (j + 1) dL_law_301 (by decide) (by decide) (by omega) (by omega) ?_
  refine z_aload_n (pc := 302) dL_law_302 rfl ?_
  refine z_iload_n (pc := 303) dL_law_303 rfl ?_
  refine z_iconst (pc := 304) (v := 2) dL_law_304 (by decide) ?_
  refine z_iaddT (pc := 305) (cy := 2) dL_law_305 rfl (by decide) (by omega) (by omega) (fun v305 e305 => ?_)
  refine z_roaldN (pc := 306) (j + 2) dL_law_306 (by decide) (by decide) (by omega) (by omega) ?_
  refine z_aload_n (pc := 307) dL_law_307 rfl ?_
  refine z_iload_n (pc := 308) dL_law_308 rfl ?_
  refine z_iconst (pc := 309) (v := 3) dL_law_309 (by decide) ?_
  refine z_iaddT (pc := 310) (cy := 3) dL_law_310 rfl (by decide) (by omega) (by omega) (fun v310 e310 => ?_)
  refine z_roaldN (pc := 311) (j + 3) dL_law_311 (by decide) (by decide) (by omega) (by omega) ?_
  refine z_aload_n (pc := 312) dL_law_312 rfl ?_
  refine z_iload_n (pc := 313) dL_law_313 rfl ?_
  refine z_iconst (pc := 314) (v := 4) dL_law_314 (by decide) ?_
  refine z_iaddT (pc := 315) (cy := 4) dL_law_315 rfl (by decide) (by omega) (by omega) (fun v315 e315 => ?_)
  refine z_roaldN (pc := 316) (j + 4) dL_law_316 (by decide) (by decide) (by omega) (by omega) ?_
  refine z_aload_n (pc := 317) dL_law_317 rfl ?_
  refine z_iload_n (pc := 318) dL_law_318 rfl ?_
  refine z_iconst (pc := 319) (v := 5) dL_law_319 (by decide) ?_
  refine z_iaddT (pc := 320) (cy := 5) dL_law_320 rfl (by decide) (by omega) (by omega) (fun v320 e320 => ?_)
  refine z_roaldN (pc := 321) (j + 5) dL_law_321 (by decide) (by decide) (by omega) (by omega) ?_
  refine z_iv5 (pc := 322) dL_law_322 kv_L_30 rfl (by decide) (by decide) rfl rfl ?_
  refine c_X10_copy hr hk (fun rc τ ec hrc eM => ?_)
  refine z_aload_n (pc := 325) dL_law_325 rfl ?_
  refine z_aload_n (pc := 326) dL_law_326 rfl ?_
  refine z_iload_n (pc := 327) dL_law_327 rfl ?_
  refine z_iconst (pc := 328) (v := 1) dL_law_328 (by decide) ?_
  refine z_iaddT (pc := 329) (cy := 1) dL_law_329 rfl (by decide) (by omega) (by omega) (fun v329 e329 => ?_)
  refine z_roaldN (pc := 330) (j + 1) dL_law_330 (by decide) (by decide) (by omega) (by omega) ?_
  refine z_aload_n (pc := 331) dL_law_331 rfl ?_
  refine z_iload_n (pc := 332) dL_law_332 rfl ?_
  refine z_iconst (pc := 333) (v := 2) dL_law_333 (by decide) ?_
  refine z_iaddT (pc := 334) (cy := 2) dL_law_334 rfl (by decide) (by omega) (by omega) (fun v334 e334 => ?_)
  refine z_roaldN (pc := 335) (j + 2) dL_law_335 (by decide) (by decide) (by omega) (by omega) ?_
  refine z_aload_n (pc := 336) dL_law_336 rfl ?_
  refine z_iload_n (pc := 337) dL_law_337 rfl ?_
  refine z_iconst (pc := 338) (v := 3) dL_law_338 (by decide) ?_
  refine z_iaddT (pc := 339) (cy := 3) dL_law_339 rfl (by decide) (by omega) (by omega) (fun v339 e339 => ?_)
  refine z_roaldN (pc := 340) (j + 3) dL_law_340 (by decide) (by decide) (by omega) (by omega) ?_
  refine z_aload_n (pc := 341) dL_law_341 rfl ?_
  refine z_iload_n (pc := 342) dL_law_342 rfl ?_
  refine z_iconst (pc := 343) (v := 4) dL_law_343 (by decide) ?_
  refine z_iaddT (pc := 344) (cy := 4) dL_law_344 rfl (by decide) (by omega) (by omega) (fun v344 e344 => ?_)
  refine z_roaldN (pc := 345) (j + 4) dL_law_345 (by decide) (by decide) (by omega) (by omega) ?_
  refine z_aload_n (pc := 346) dL_law_346 rfl ?_
  refine z_iload_n (pc := 347) dL_law_347 rfl ?_
  refine z_iconst (pc := 348) (v := 5) dL_law_348 (by decide) ?_
  refine z_iaddT (pc := 349) (cy := 5) dL_law_349 rfl (by decide) (by omega) (by omega) (fun v349 e349 => ?_)
  refine z_roaldN (pc := 350) (j + 5) dL_law_350 (by decide) (by decide) (by omega) (by omega) ?_
  refine z_iv5 (pc := 351) dL_law_351 kv_L_34 rfl (by decide) (by decide) rfl rfl ?_
  have hmt := rM_cong eM hm
  refine c_X11_copy hmt hk (fun rm υ em hrm eC => ?_)
  have eq : rc.toInt = rm.toInt := ec.trans em.symm
  refine zq_icmp_eq (pc := 354) (tgt := 1000) dL_law_354 rfl rfl rfl (fun h354 => ?_) (fun h354 => ?_)
  · skip
    exact hnext υ _ (rC_cong eC hrc) hrm (ab_sCopy hk)
  · skip
    refine z_iconst (pc := 357) (v := 0) dL_law_357 (by decide) ?_
    refine z_zret (pc := 358) dL_law_358 rfl (by decide) ?_
    exfalso; omega

theorem law_4 {l : Launch} {G : Gx} {d : Nat} {σ : Sg} {Q : Option Value → Sg → Prop} {a : Ab} {j : Nat} {x : Int32} (hr : rC σ a) (hm : rM σ a) (hk : abOk a) (hx : x.toInt = (j : Int)) (hj : j + 6 ≤ rol G 105) (hj2 : j + 6 ≤ 4000) (hnext : ∀ (υ : Sg) (b : Ab), rC υ b → rM υ b → abOk b → Z l G M_L_law (d + 20) 1000 [some (.ref 105), some (.ref 0), some (.ref 1), some (.int x)] [] υ Q) : Z l G M_L_law (d + 20) 359 [some (.ref 105), some (.ref 0), some (.ref 1), some (.int x)] [] σ Q := by
  refine z_aload_n (pc := 359) dL_law_359 rfl ?_
  refine z_aload_n (pc := 360) dL_law_360 rfl ?_
  refine z_iload_n (pc := 361) dL_law_361 rfl ?_
  refine z_iconst (pc := 362) (v := 1) dL_law_362 (by decide) ?_
  refine z_iaddT (pc := 363) (cy := 1) dL_law_363 rfl (by decide) (by omega) (by omega) (fun v363 e363 => ?_)
  refine z_roaldN (pc := 364) (j + 1) dL_law_364 (by decide) (by decide) (by omega) (by omega) ?_
  refine z_aload_n (pc := 365) dL_law_365 rfl ?_
  refine z_iload_n (pc := 366) dL_law_366 rfl ?_
  refine z_iconst (pc := 367) (v := 2) dL_law_367 (by decide) ?_
  refine z_iaddT (pc := 368) (cy := 2) dL_law_368 rfl (by decide) (by omega) (by omega) (fun v368 e368 => ?_)
  refine z_roaldN (pc := 369) (j + 2) dL_law_369 (by decide) (by decide) (by omega) (by omega) ?_
  refine z_aload_n (pc := 370) dL_law_370 rfl ?_
  refine z_iload_n (pc := 371) dL_law_371 rfl ?_
  refine z_iconst (pc := 372) (v := 3) dL_law_372 (by decide) ?_
  refine z_iaddT (pc := 373) (cy := 3) dL_law_373 rfl (by decide) (by omega) (by omega) (fun v373 e373 => ?_)
  refine z_roaldN (pc := 374) (j + 3) dL_law_374 (by decide) (by decide) (by omega) (by omega) ?_
  refine z_iv3 (pc := 375) dL_law_375 kv_L_35 rfl (by decide) (by decide) rfl rfl ?_
  refine c_X10_plant hr hk (fun rc τ ec hrc eM => ?_)
  refine z_aload_n (pc := 378) dL_law_378 rfl ?_
  refine z_aload_n (pc := 379) dL_law_379 rfl ?_
  refine z_iload_n (pc := 380) dL_law_380 rfl ?_
  refine z_iconst (pc := 381) (v := 1) dL_law_381 (by decide) ?_
  refine z_iaddT (pc := 382) (cy := 1) dL_law_382 rfl (by decide) (by omega) (by omega) (fun v382 e382 => ?_)
  refine z_roaldN (pc := 383) (j + 1) dL_law_383 (by decide) (by decide) (by omega) (by omega) ?_
  refine z_aload_n (pc := 384) dL_law_384 rfl ?_
  refine z_iload_n (pc := 385) dL_law_385 rfl ?_
  refine z_iconst (pc := 386) (v := 2) dL_law_386 (by decide) ?_
  refine z_iaddT (pc := 387) (cy := 2) dL_law_387 rfl (by decide) (by omega) (by omega) (fun v387 e387 => ?_)
  refine z_roaldN (pc := 388) (j + 2) dL_law_388 (by decide) (by decide) (by omega) (by omega) ?_
  refine z_aload_n (pc := 389) dL_law_389 rfl ?_
  refine z_iload_n (pc := 390) dL_law_390 rfl ?_
  refine z_iconst (pc := 391) (v := 3) dL_law_391 (by decide) ?_
  refine z_iaddT (pc := 392) (cy := 3) dL_law_392 rfl (by decide) (by omega) (by omega) (fun v392 e392 => ?_)
  refine z_roaldN (pc := 393) (j + 3) dL_law_393 (by decide) (by decide) (by omega) (by omega) ?_
  refine z_iv3 (pc := 394) dL_law_394 kv_L_38 rfl (by decide) (by decide) rfl rfl ?_
  have hmt := rM_cong eM hm
  refine c_X11_plant hmt hk (fun rm υ em hrm eC => ?_)
  have eq : rc.toInt = rm.toInt := ec.trans em.symm
  refine zq_icmp_eq (pc := 397) (tgt := 1000) dL_law_397 rfl rfl rfl (fun h397 => ?_) (fun h397 => ?_)
  · skip
    exact hnext υ _ (rC_cong eC hrc) hrm (ab_sPlant hk)
  · skip
    refine z_iconst (pc := 400) (v := 0) dL_law_400 (by decide) ?_
    refine z_zret (pc := 401) dL_law_401 rfl (by decide) ?_
    exfalso; omega

theorem law_5 {l : Launch} {G : Gx} {d : Nat} {σ : Sg} {Q : Option Value → Sg → Prop} {a : Ab} {j : Nat} {x : Int32} (hr : rC σ a) (hm : rM σ a) (hk : abOk a) (hx : x.toInt = (j : Int)) (hj : j + 6 ≤ rol G 105) (hj2 : j + 6 ≤ 4000) (hnext : ∀ (υ : Sg) (b : Ab), rC υ b → rM υ b → abOk b → Z l G M_L_law (d + 20) 1000 [some (.ref 105), some (.ref 0), some (.ref 1), some (.int x)] [] υ Q) : Z l G M_L_law (d + 20) 402 [some (.ref 105), some (.ref 0), some (.ref 1), some (.int x)] [] σ Q := by
  refine z_aload_n (pc := 402) dL_law_402 rfl ?_
  refine z_aload_n (pc := 403) dL_law_403 rfl ?_
  refine z_iload_n (pc := 404) dL_law_404 rfl ?_
  refine z_iconst (pc := 405) (v := 1) dL_law_405 (by decide) ?_
  refine z_iaddT (pc := 406) (cy := 1) dL_law_406 rfl (by decide) (by omega) (by omega) (fun v406 e406 => ?_)
  refine z_roaldN (pc := 407) (j + 1) dL_law_407 (by decide) (by decide) (by omega) (by omega) ?_
  refine z_aload_n (pc := 408) dL_law_408 rfl ?_
  refine z_iload_n (pc := 409) dL_law_409 rfl ?_
  refine z_iconst (pc := 410) (v := 2) dL_law_410 (by decide) ?_
  refine z_iaddT (pc := 411) (cy := 2) dL_law_411 rfl (by decide) (by omega) (by omega) (fun v411 e411 => ?_)
  refine z_roaldN (pc := 412) (j + 2) dL_law_412 (by decide) (by decide) (by omega) (by omega) ?_
  refine z_aload_n (pc := 413) dL_law_413 rfl ?_
  refine z_iload_n (pc := 414) dL_law_414 rfl ?_
  refine z_iconst (pc := 415) (v := 3) dL_law_415 (by decide) ?_
  refine z_iaddT (pc := 416) (cy := 3) dL_law_416 rfl (by decide) (by omega) (by omega) (fun v416 e416 => ?_)
  refine z_roaldN (pc := 417) (j + 3) dL_law_417 (by decide) (by decide) (by omega) (by omega) ?_
  refine z_iv3 (pc := 418) dL_law_418 kv_L_39 rfl (by decide) (by decide) rfl rfl ?_
  refine c_X10_move hr hk (fun rc τ ec hrc eM => ?_)
  refine z_aload_n (pc := 421) dL_law_421 rfl ?_
  refine z_aload_n (pc := 422) dL_law_422 rfl ?_
  refine z_iload_n (pc := 423) dL_law_423 rfl ?_
  refine z_iconst (pc := 424) (v := 1) dL_law_424 (by decide) ?_
  refine z_iaddT (pc := 425) (cy := 1) dL_law_425 rfl (by decide) (by omega) (by omega) (fun v425 e425 => ?_)
  refine z_roaldN (pc := 426) (j + 1) dL_law_426 (by decide) (by decide) (by omega) (by omega) ?_
  refine z_aload_n (pc := 427) dL_law_427 rfl ?_
  refine z_iload_n (pc := 428) dL_law_428 rfl ?_
  refine z_iconst (pc := 429) (v := 2) dL_law_429 (by decide) ?_
  refine z_iaddT (pc := 430) (cy := 2) dL_law_430 rfl (by decide) (by omega) (by omega) (fun v430 e430 => ?_)
  refine z_roaldN (pc := 431) (j + 2) dL_law_431 (by decide) (by decide) (by omega) (by omega) ?_
  refine z_aload_n (pc := 432) dL_law_432 rfl ?_
  refine z_iload_n (pc := 433) dL_law_433 rfl ?_
  refine z_iconst (pc := 434) (v := 3) dL_law_434 (by decide) ?_
  refine z_iaddT (pc := 435) (cy := 3) dL_law_435 rfl (by decide) (by omega) (by omega) (fun v435 e435 => ?_)
  refine z_roaldN (pc := 436) (j + 3) dL_law_436 (by decide) (by decide) (by omega) (by omega) ?_
  refine z_iv3 (pc := 437) dL_law_437 kv_L_42 rfl (by decide) (by decide) rfl rfl ?_
  have hmt := rM_cong eM hm
  refine c_X11_move hmt hk (fun rm υ em hrm eC => ?_)
  have eq : rc.toInt = rm.toInt := ec.trans em.symm
  refine zq_icmp_eq (pc := 440) (tgt := 1000) dL_law_440 rfl rfl rfl (fun h440 => ?_) (fun h440 => ?_)
  · skip
    exact hnext υ _ (rC_cong eC hrc) hrm (ab_sMove hk)
  · skip
    refine z_iconst (pc := 443) (v := 0) dL_law_443 (by decide) ?_
    refine z_zret (pc := 444) dL_law_444 rfl (by decide) ?_
    exfalso; omega

theorem law_6 {l : Launch} {G : Gx} {d : Nat} {σ : Sg} {Q : Option Value → Sg → Prop} {a : Ab} {j : Nat} {x : Int32} (hr : rC σ a) (hm : rM σ a) (hk : abOk a) (hx : x.toInt = (j : Int)) (hj : j + 6 ≤ rol G 105) (hj2 : j + 6 ≤ 4000) (hnext : ∀ (υ : Sg) (b : Ab), rC υ b → rM υ b → abOk b → Z l G M_L_law (d + 20) 1000 [some (.ref 105), some (.ref 0), some (.ref 1), some (.int x)] [] υ Q) : Z l G M_L_law (d + 20) 445 [some (.ref 105), some (.ref 0), some (.ref 1), some (.int x)] [] σ Q := by
  refine z_aload_n (pc := 445) dL_law_445 rfl ?_
  refine z_aload_n (pc := 446) dL_law_446 rfl ?_
  refine z_iload_n (pc := 447) dL_law_447 rfl ?_
  refine z_iconst (pc := 448) (v := 1) dL_law_448 (by decide) ?_
  refine z_iaddT (pc := 449) (cy := 1) dL_law_449 rfl (by decide) (by omega) (by omega) (fun v449 e449 => ?_)
  refine z_roaldN (pc := 450) (j + 1) dL_law_450 (by decide) (by decide) (by omega) (by omega) ?_
  refine z_iv1 (pc := 451) dL_law_451 kv_L_43 rfl (by decide) (by decide) rfl rfl ?_
  refine c_X10_away hr hk (fun rc τ ec hrc eM => ?_)
  refine z_aload_n (pc := 454) dL_law_454 rfl ?_
  refine z_aload_n (pc := 455) dL_law_455 rfl ?_
  refine z_iload_n (pc := 456) dL_law_456 rfl ?_
  refine z_iconst (pc := 457) (v := 1) dL_law_457 (by decide) ?_
  refine z_iaddT (pc := 458) (cy := 1) dL_law_458 rfl (by decide) (by omega) (by omega) (fun v458 e458 => ?_)
  refine z_roaldN (pc := 459) (j + 1) dL_law_459 (by decide) (by decide) (by omega) (by omega) ?_
  refine z_iv1 (pc := 460) dL_law_460 kv_L_46 rfl (by decide) (by decide) rfl rfl ?_
  have hmt := rM_cong eM hm
  refine c_X11_away hmt hk (fun rm υ em hrm eC => ?_)
  have eq : rc.toInt = rm.toInt := ec.trans em.symm
  refine zq_icmp_eq (pc := 463) (tgt := 1000) dL_law_463 rfl rfl rfl (fun h463 => ?_) (fun h463 => ?_)
  · skip
    exact hnext υ _ (rC_cong eC hrc) hrm (ab_sAway hk)
  · skip
    refine z_iconst (pc := 466) (v := 0) dL_law_466 (by decide) ?_
    refine z_zret (pc := 467) dL_law_467 rfl (by decide) ?_
    exfalso; omega

theorem law_7 {l : Launch} {G : Gx} {d : Nat} {σ : Sg} {Q : Option Value → Sg → Prop} {a : Ab} {j : Nat} {x : Int32} (hr : rC σ a) (hm : rM σ a) (hk : abOk a) (hx : x.toInt = (j : Int)) (hj : j + 6 ≤ rol G 105) (hj2 : j + 6 ≤ 4000) (hnext : ∀ (υ : Sg) (b : Ab), rC υ b → rM υ b → abOk b → Z l G M_L_law (d + 20) 1000 [some (.ref 105), some (.ref 0), some (.ref 1), some (.int x)] [] υ Q) : Z l G M_L_law (d + 20) 468 [some (.ref 105), some (.ref 0), some (.ref 1), some (.int x)] [] σ Q := by
  refine z_aload_n (pc := 468) dL_law_468 rfl ?_
  refine z_aload_n (pc := 469) dL_law_469 rfl ?_
  refine z_iload_n (pc := 470) dL_law_470 rfl ?_
  refine z_iconst (pc := 471) (v := 1) dL_law_471 (by decide) ?_
  refine z_iaddT (pc := 472) (cy := 1) dL_law_472 rfl (by decide) (by omega) (by omega) (fun v472 e472 => ?_)
  refine z_roaldN (pc := 473) (j + 1) dL_law_473 (by decide) (by decide) (by omega) (by omega) ?_
  refine z_aload_n (pc := 474) dL_law_474 rfl ?_
  refine z_iload_n (pc := 475) dL_law_475 rfl ?_
  refine z_iconst (pc := 476) (v := 2) dL_law_476 (by decide) ?_
  refine z_iaddT (pc := 477) (cy := 2) dL_law_477 rfl (by decide) (by omega) (by omega) (fun v477 e477 => ?_)
  refine z_roaldN (pc := 478) (j + 2) dL_law_478 (by decide) (by decide) (by omega) (by omega) ?_
  refine z_iv2 (pc := 479) dL_law_479 kv_L_47 rfl (by decide) (by decide) rfl rfl ?_
  refine c_X10_colour hr hk (fun rc τ ec hrc eM => ?_)
  refine z_aload_n (pc := 482) dL_law_482 rfl ?_
  refine z_aload_n (pc := 483) dL_law_483 rfl ?_
  refine z_iload_n (pc := 484) dL_law_484 rfl ?_
  refine z_iconst (pc := 485) (v := 1) dL_law_485 (by decide) ?_
  refine z_iaddT (pc := 486) (cy := 1) dL_law_486 rfl (by decide) (by omega) (by omega) (fun v486 e486 => ?_)
  refine z_roaldN (pc := 487) (j + 1) dL_law_487 (by decide) (by decide) (by omega) (by omega) ?_
  refine z_aload_n (pc := 488) dL_law_488 rfl ?_
  refine z_iload_n (pc := 489) dL_law_489 rfl ?_
  refine z_iconst (pc := 490) (v := 2) dL_law_490 (by decide) ?_
  refine z_iaddT (pc := 491) (cy := 2) dL_law_491 rfl (by decide) (by omega) (by omega) (fun v491 e491 => ?_)
  refine z_roaldN (pc := 492) (j + 2) dL_law_492 (by decide) (by decide) (by omega) (by omega) ?_
  refine z_iv2 (pc := 493) dL_law_493 kv_L_51 rfl (by decide) (by decide) rfl rfl ?_
  have hmt := rM_cong eM hm
  refine c_X11_colour hmt hk (fun rm υ em hrm eC => ?_)
  have eq : rc.toInt = rm.toInt := ec.trans em.symm
  refine zq_icmp_eq (pc := 496) (tgt := 1000) dL_law_496 rfl rfl rfl (fun h496 => ?_) (fun h496 => ?_)
  · skip
    exact hnext υ _ (rC_cong eC hrc) hrm (ab_sColour hk)
  · skip
    refine z_iconst (pc := 499) (v := 0) dL_law_499 (by decide) ?_
    refine z_zret (pc := 500) dL_law_500 rfl (by decide) ?_
    exfalso; omega

theorem law_8 {l : Launch} {G : Gx} {d : Nat} {σ : Sg} {Q : Option Value → Sg → Prop} {a : Ab} {j : Nat} {x : Int32} (hr : rC σ a) (hm : rM σ a) (hk : abOk a) (hx : x.toInt = (j : Int)) (hj : j + 6 ≤ rol G 105) (hj2 : j + 6 ≤ 4000) (hnext : ∀ (υ : Sg) (b : Ab), rC υ b → rM υ b → abOk b → Z l G M_L_law (d + 20) 1000 [some (.ref 105), some (.ref 0), some (.ref 1), some (.int x)] [] υ Q) : Z l G M_L_law (d + 20) 501 [some (.ref 105), some (.ref 0), some (.ref 1), some (.int x)] [] σ Q := by
  refine z_aload_n (pc := 501) dL_law_501 rfl ?_
  refine z_aload_n (pc := 502) dL_law_502 rfl ?_
  refine z_iload_n (pc := 503) dL_law_503 rfl ?_
  refine z_iconst (pc := 504) (v := 1) dL_law_504 (by decide) ?_
  refine z_iaddT (pc := 505) (cy := 1) dL_law_505 rfl (by decide) (by omega) (by omega) (fun v505 e505 => ?_)
  refine z_roaldN (pc := 506) (j + 1) dL_law_506 (by decide) (by decide) (by omega) (by omega) ?_
  refine z_aload_n (pc := 507) dL_law_507 rfl ?_
  refine z_iload_n (pc := 508) dL_law_508 rfl ?_
  refine z_iconst (pc := 509) (v := 2) dL_law_509 (by decide) ?_
  refine z_iaddT (pc := 510) (cy := 2) dL_law_510 rfl (by decide) (by omega) (by omega) (fun v510 e510 => ?_)
  refine z_roaldN (pc := 511) (j + 2) dL_law_511 (by decide) (by decide) (by omega) (by omega) ?_
  refine z_iv2 (pc := 512) dL_law_512 kv_L_52 rfl (by decide) (by decide) rfl rfl ?_
  refine c_X10_told hr hk (fun rc τ ec hrc eM => ?_)
  refine z_aload_n (pc := 515) dL_law_515 rfl ?_
  refine z_aload_n (pc := 516) dL_law_516 rfl ?_
  refine z_iload_n (pc := 517) dL_law_517 rfl ?_
  refine z_iconst (pc := 518) (v := 1) dL_law_518 (by decide) ?_
  refine z_iaddT (pc := 519) (cy := 1) dL_law_519 rfl (by decide) (by omega) (by omega) (fun v519 e519 => ?_)
  refine z_roaldN (pc := 520) (j + 1) dL_law_520 (by decide) (by decide) (by omega) (by omega) ?_
  refine z_aload_n (pc := 521) dL_law_521 rfl ?_
  refine z_iload_n (pc := 522) dL_law_522 rfl ?_
  refine z_iconst (pc := 523) (v := 2) dL_law_523 (by decide) ?_
  refine z_iaddT (pc := 524) (cy := 2) dL_law_524 rfl (by decide) (by omega) (by omega) (fun v524 e524 => ?_)
  refine z_roaldN (pc := 525) (j + 2) dL_law_525 (by decide) (by decide) (by omega) (by omega) ?_
  refine z_iv2 (pc := 526) dL_law_526 kv_L_55 rfl (by decide) (by decide) rfl rfl ?_
  have hmt := rM_cong eM hm
  refine c_X11_told hmt hk (fun rm υ em hrm eC => ?_)
  have eq : rc.toInt = rm.toInt := ec.trans em.symm
  refine zq_icmp_eq (pc := 529) (tgt := 1000) dL_law_529 rfl rfl rfl (fun h529 => ?_) (fun h529 => ?_)
  · skip
    exact hnext υ _ (rC_cong eC hrc) hrm (ab_sTold hk)
  · skip
    refine z_iconst (pc := 532) (v := 0) dL_law_532 (by decide) ?_
    refine z_zret (pc := 533) dL_law_533 rfl (by decide) ?_
    exfalso; omega

theorem law_9 {l : Launch} {G : Gx} {d : Nat} {σ : Sg} {Q : Option Value → Sg → Prop} {a : Ab} {j : Nat} {x : Int32} (hr : rC σ a) (hm : rM σ a) (hk : abOk a) (hx : x.toInt = (j : Int)) (hj : j + 6 ≤ rol G 105) (hj2 : j + 6 ≤ 4000) (hnext : ∀ (υ : Sg) (b : Ab), rC υ b → rM υ b → abOk b → Z l G M_L_law (d + 20) 1000 [some (.ref 105), some (.ref 0), some (.ref 1), some (.int x)] [] υ Q) : Z l G M_L_law (d + 20) 534 [some (.ref 105), some (.ref 0), some (.ref 1), some (.int x)] [] σ Q := by
  refine z_aload_n (pc := 534) dL_law_534 rfl ?_
  refine z_aload_n (pc := 535) dL_law_535 rfl ?_
  refine z_iload_n (pc := 536) dL_law_536 rfl ?_
  refine z_iconst (pc := 537) (v := 1) dL_law_537 (by decide) ?_
  refine z_iaddT (pc := 538) (cy := 1) dL_law_538 rfl (by decide) (by omega) (by omega) (fun v538 e538 => ?_)
  refine z_roaldN (pc := 539) (j + 1) dL_law_539 (by decide) (by decide) (by omega) (by omega) ?_
  refine z_aload_n (pc := 540) dL_law_540 rfl ?_
  refine z_iload_n (pc := 541) dL_law_541 rfl ?_
  refine z_iconst (pc := 542) (v := 2) dL_law_542 (by decide) ?_
  refine z_iaddT (pc := 543) (cy := 2) dL_law_543 rfl (by decide) (by omega) (by omega) (fun v543 e543 => ?_)
  refine z_roaldN (pc := 544) (j + 2) dL_law_544 (by decide) (by decide) (by omega) (by omega) ?_
  refine z_iv2 (pc := 545) dL_law_545 kv_L_56 rfl (by decide) (by decide) rfl rfl ?_
  refine c_X10_is hr hk (fun rc τ ec hrc eM => ?_)
  refine z_aload_n (pc := 548) dL_law_548 rfl ?_
  refine z_aload_n (pc := 549) dL_law_549 rfl ?_
  refine z_iload_n (pc := 550) dL_law_550 rfl ?_
  refine z_iconst (pc := 551) (v := 1) dL_law_551 (by decide) ?_
  refine z_iaddT (pc := 552) (cy := 1) dL_law_552 rfl (by decide) (by omega) (by omega) (fun v552 e552 => ?_)
  refine z_roaldN (pc := 553) (j + 1) dL_law_553 (by decide) (by decide) (by omega) (by omega) ?_
  refine z_aload_n (pc := 554) dL_law_554 rfl ?_
  refine z_iload_n (pc := 555) dL_law_555 rfl ?_
  refine z_iconst (pc := 556) (v := 2) dL_law_556 (by decide) ?_
  refine z_iaddT (pc := 557) (cy := 2) dL_law_557 rfl (by decide) (by omega) (by omega) (fun v557 e557 => ?_)
  refine z_roaldN (pc := 558) (j + 2) dL_law_558 (by decide) (by decide) (by omega) (by omega) ?_
  refine z_iv2 (pc := 559) dL_law_559 kv_L_59 rfl (by decide) (by decide) rfl rfl ?_
  have hmt := rM_cong eM hm
  refine c_X11_is hmt hk (fun rm υ em hrm eC => ?_)
  have eq : rc.toInt = rm.toInt := ec.trans em.symm
  refine zq_icmp_eq (pc := 562) (tgt := 1000) dL_law_562 rfl rfl rfl (fun h562 => ?_) (fun h562 => ?_)
  · skip
    exact hnext υ _ (rC_cong eC hrc) hrm (ab_sIs hk)
  · skip
    refine z_iconst (pc := 565) (v := 0) dL_law_565 (by decide) ?_
    refine z_zret (pc := 566) dL_law_566 rfl (by decide) ?_
    exfalso; omega

theorem law_10 {l : Launch} {G : Gx} {d : Nat} {σ : Sg} {Q : Option Value → Sg → Prop} {a : Ab} {j : Nat} {x : Int32} (hr : rC σ a) (hm : rM σ a) (hk : abOk a) (hx : x.toInt = (j : Int)) (hj : j + 6 ≤ rol G 105) (hj2 : j + 6 ≤ 4000) (hnext : ∀ (υ : Sg) (b : Ab), rC υ b → rM υ b → abOk b → Z l G M_L_law (d + 20) 1000 [some (.ref 105), some (.ref 0), some (.ref 1), some (.int x)] [] υ Q) : Z l G M_L_law (d + 20) 567 [some (.ref 105), some (.ref 0), some (.ref 1), some (.int x)] [] σ Q := by
  refine z_aload_n (pc := 567) dL_law_567 rfl ?_
  refine z_aload_n (pc := 568) dL_law_568 rfl ?_
  refine z_iload_n (pc := 569) dL_law_569 rfl ?_
  refine z_iconst (pc := 570) (v := 1) dL_law_570 (by decide) ?_
  refine z_iaddT (pc := 571) (cy := 1) dL_law_571 rfl (by decide) (by omega) (by omega) (fun v571 e571 => ?_)
  refine z_roaldN (pc := 572) (j + 1) dL_law_572 (by decide) (by decide) (by omega) (by omega) ?_
  refine z_aload_n (pc := 573) dL_law_573 rfl ?_
  refine z_iload_n (pc := 574) dL_law_574 rfl ?_
  refine z_iconst (pc := 575) (v := 2) dL_law_575 (by decide) ?_
  refine z_iaddT (pc := 576) (cy := 2) dL_law_576 rfl (by decide) (by omega) (by omega) (fun v576 e576 => ?_)
  refine z_roaldN (pc := 577) (j + 2) dL_law_577 (by decide) (by decide) (by omega) (by omega) ?_
  refine z_iv2 (pc := 578) dL_law_578 kv_L_60 rfl (by decide) (by decide) rfl rfl ?_
  refine c_X10_ask hr hk (fun rc τ ec hrc eM => ?_)
  refine z_aload_n (pc := 581) dL_law_581 rfl ?_
  refine z_aload_n (pc := 582) dL_law_582 rfl ?_
  refine z_iload_n (pc := 583) dL_law_583 rfl ?_
  refine z_iconst (pc := 584) (v := 1) dL_law_584 (by decide) ?_
  refine z_iaddT (pc := 585) (cy := 1) dL_law_585 rfl (by decide) (by omega) (by omega) (fun v585 e585 => ?_)
  refine z_roaldN (pc := 586) (j + 1) dL_law_586 (by decide) (by decide) (by omega) (by omega) ?_
  refine z_aload_n (pc := 587) dL_law_587 rfl ?_
  refine z_iload_n (pc := 588) dL_law_588 rfl ?_
  refine z_iconst (pc := 589) (v := 2) dL_law_589 (by decide) ?_
  refine z_iaddT (pc := 590) (cy := 2) dL_law_590 rfl (by decide) (by omega) (by omega) (fun v590 e590 => ?_)
  refine z_roaldN (pc := 591) (j + 2) dL_law_591 (by decide) (by decide) (by omega) (by omega) ?_
  refine z_iv2 (pc := 592) dL_law_592 kv_L_63 rfl (by decide) (by decide) rfl rfl ?_
  have hmt := rM_cong eM hm
  refine c_X11_ask hmt hk (fun rm υ em hrm eC => ?_)
  have eq : rc.toInt = rm.toInt := ec.trans em.symm
  refine zq_icmp_eq (pc := 595) (tgt := 1000) dL_law_595 rfl rfl rfl (fun h595 => ?_) (fun h595 => ?_)
  · skip
    exact hnext υ _ (rC_cong eC hrc) hrm (ab_sAsk hk)
  · skip
    refine z_iconst (pc := 598) (v := 0) dL_law_598 (by decide) ?_
    refine z_zret (pc := 599) dL_law_599 rfl (by decide) ?_
    exfalso; omega

theorem law_11 {l : Launch} {G : Gx} {d : Nat} {σ : Sg} {Q : Option Value → Sg → Prop} {a : Ab} {j : Nat} {x : Int32} (hr : rC σ a) (hm : rM σ a) (hk : abOk a) (hx : x.toInt = (j : Int)) (hj : j + 6 ≤ rol G 105) (hj2 : j + 6 ≤ 4000) (hnext : ∀ (υ : Sg) (b : Ab), rC υ b → rM υ b → abOk b → Z l G M_L_law (d + 20) 1000 [some (.ref 105), some (.ref 0), some (.ref 1), some (.int x)] [] υ Q) : Z l G M_L_law (d + 20) 600 [some (.ref 105), some (.ref 0), some (.ref 1), some (.int x)] [] σ Q := by
  refine z_aload_n (pc := 600) dL_law_600 rfl ?_
  refine z_aload_n (pc := 601) dL_law_601 rfl ?_
  refine z_iload_n (pc := 602) dL_law_602 rfl ?_
  refine z_iconst (pc := 603) (v := 1) dL_law_603 (by decide) ?_
  refine z_iaddT (pc := 604) (cy := 1) dL_law_604 rfl (by decide) (by omega) (by omega) (fun v604 e604 => ?_)
  refine z_roaldN (pc := 605) (j + 1) dL_law_605 (by decide) (by decide) (by omega) (by omega) ?_
  refine z_iv1 (pc := 606) dL_law_606 kv_L_64 rfl (by decide) (by decide) rfl rfl ?_
  refine c_X10_trace hr hk (fun rc ec => ?_)
  refine z_aload_n (pc := 609) dL_law_609 rfl ?_
  refine z_aload_n (pc := 610) dL_law_610 rfl ?_
  refine z_iload_n (pc := 611) dL_law_611 rfl ?_
  refine z_iconst (pc := 612) (v := 1) dL_law_612 (by decide) ?_
  refine z_iaddT (pc := 613) (cy := 1) dL_law_613 rfl (by decide) (by omega) (by omega) (fun v613 e613 => ?_)
  refine z_roaldN (pc := 614) (j + 1) dL_law_614 (by decide) (by decide) (by omega) (by omega) ?_
  refine z_iv1 (pc := 615) dL_law_615 kv_L_67 rfl (by decide) (by decide) rfl rfl ?_
  refine c_X11_trace hm hk (fun rm em => ?_)
  have eq : rc.toInt = rm.toInt := ec.trans em.symm
  refine zq_icmp_eq (pc := 618) (tgt := 1000) dL_law_618 rfl rfl rfl (fun h618 => ?_) (fun h618 => ?_)
  · skip
    exact hnext σ a hr hm hk
  · skip
    refine z_iconst (pc := 621) (v := 0) dL_law_621 (by decide) ?_
    refine z_zret (pc := 622) dL_law_622 rfl (by decide) ?_
    exfalso; omega

theorem law_12 {l : Launch} {G : Gx} {d : Nat} {σ : Sg} {Q : Option Value → Sg → Prop} {a : Ab} {j : Nat} {x : Int32} (hr : rC σ a) (hm : rM σ a) (hk : abOk a) (hx : x.toInt = (j : Int)) (hj : j + 6 ≤ rol G 105) (hj2 : j + 6 ≤ 4000) (hnext : ∀ (υ : Sg) (b : Ab), rC υ b → rM υ b → abOk b → Z l G M_L_law (d + 20) 1000 [some (.ref 105), some (.ref 0), some (.ref 1), some (.int x)] [] υ Q) : Z l G M_L_law (d + 20) 623 [some (.ref 105), some (.ref 0), some (.ref 1), some (.int x)] [] σ Q := by
  refine z_aload_n (pc := 623) dL_law_623 rfl ?_
  refine z_iv0 (pc := 624) dL_law_624 kv_L_68 rfl (by decide) (by decide) rfl rfl ?_
  refine c_undo hr hk (fun rc τ ec hrc eM => ?_)
  refine z_aload_n (pc := 627) dL_law_627 rfl ?_
  refine z_iv0 (pc := 628) dL_law_628 kv_L_72 rfl (by decide) (by decide) rfl rfl ?_
  have hmt := rM_cong eM hm
  refine c_mundo hmt hk (fun rm υ em hrm eC => ?_)
  have eq : rc.toInt = rm.toInt := ec.trans em.symm
  refine zq_icmp_eq (pc := 631) (tgt := 1000) dL_law_631 rfl rfl rfl (fun h631 => ?_) (fun h631 => ?_)
  · skip
    exact hnext υ _ (rC_cong eC hrc) hrm (ab_sUndo hk)
  · skip
    refine z_iconst (pc := 634) (v := 0) dL_law_634 (by decide) ?_
    refine z_zret (pc := 635) dL_law_635 rfl (by decide) ?_
    exfalso; omega

theorem law_13 {l : Launch} {G : Gx} {d : Nat} {σ : Sg} {Q : Option Value → Sg → Prop} {a : Ab} {j : Nat} {x : Int32} (hr : rC σ a) (hm : rM σ a) (hk : abOk a) (hx : x.toInt = (j : Int)) (hj : j + 6 ≤ rol G 105) (hj2 : j + 6 ≤ 4000) (hnext : ∀ (υ : Sg) (b : Ab), rC υ b → rM υ b → abOk b → Z l G M_L_law (d + 20) 1000 [some (.ref 105), some (.ref 0), some (.ref 1), some (.int x)] [] υ Q) : Z l G M_L_law (d + 20) 636 [some (.ref 105), some (.ref 0), some (.ref 1), some (.int x)] [] σ Q := by
  refine z_aload_n (pc := 636) dL_law_636 rfl ?_
  refine z_aload_n (pc := 637) dL_law_637 rfl ?_
  refine z_iload_n (pc := 638) dL_law_638 rfl ?_
  refine z_iconst (pc := 639) (v := 1) dL_law_639 (by decide) ?_
  refine z_iaddT (pc := 640) (cy := 1) dL_law_640 rfl (by decide) (by omega) (by omega) (fun v640 e640 => ?_)
  refine z_roaldN (pc := 641) (j + 1) dL_law_641 (by decide) (by decide) (by omega) (by omega) ?_
  refine z_aload_n (pc := 642) dL_law_642 rfl ?_
  refine z_iload_n (pc := 643) dL_law_643 rfl ?_
  refine z_iconst (pc := 644) (v := 2) dL_law_644 (by decide) ?_
  refine z_iaddT (pc := 645) (cy := 2) dL_law_645 rfl (by decide) (by omega) (by omega) (fun v645 e645 => ?_)
  refine z_roaldN (pc := 646) (j + 2) dL_law_646 (by decide) (by decide) (by omega) (by omega) ?_
  refine z_aload_n (pc := 647) dL_law_647 rfl ?_
  refine z_iload_n (pc := 648) dL_law_648 rfl ?_
  refine z_iconst (pc := 649) (v := 3) dL_law_649 (by decide) ?_
  refine z_iaddT (pc := 650) (cy := 3) dL_law_650 rfl (by decide) (by omega) (by omega) (fun v650 e650 => ?_)
  refine z_roaldN (pc := 651) (j + 3) dL_law_651 (by decide) (by decide) (by omega) (by omega) ?_
  refine z_iv3 (pc := 652) dL_law_652 kv_L_73 rfl (by decide) (by decide) rfl rfl ?_
  refine c_X10_line hr hk (fun rc τ ec hrc eM => ?_)
  refine z_aload_n (pc := 655) dL_law_655 rfl ?_
  refine z_aload_n (pc := 656) dL_law_656 rfl ?_
  refine z_iload_n (pc := 657) dL_law_657 rfl ?_
  refine z_iconst (pc := 658) (v := 1) dL_law_658 (by decide) ?_
  refine z_iaddT (pc := 659) (cy := 1) dL_law_659 rfl (by decide) (by omega) (by omega) (fun v659 e659 => ?_)
  refine z_roaldN (pc := 660) (j + 1) dL_law_660 (by decide) (by decide) (by omega) (by omega) ?_
  refine z_aload_n (pc := 661) dL_law_661 rfl ?_
  refine z_iload_n (pc := 662) dL_law_662 rfl ?_
  refine z_iconst (pc := 663) (v := 2) dL_law_663 (by decide) ?_
  refine z_iaddT (pc := 664) (cy := 2) dL_law_664 rfl (by decide) (by omega) (by omega) (fun v664 e664 => ?_)
  refine z_roaldN (pc := 665) (j + 2) dL_law_665 (by decide) (by decide) (by omega) (by omega) ?_
  refine z_aload_n (pc := 666) dL_law_666 rfl ?_
  refine z_iload_n (pc := 667) dL_law_667 rfl ?_
  refine z_iconst (pc := 668) (v := 3) dL_law_668 (by decide) ?_
  refine z_iaddT (pc := 669) (cy := 3) dL_law_669 rfl (by decide) (by omega) (by omega) (fun v669 e669 => ?_)
  refine z_roaldN (pc := 670) (j + 3) dL_law_670 (by decide) (by decide) (by omega) (by omega) ?_
  refine z_iv3 (pc := 671) dL_law_671 kv_L_76 rfl (by decide) (by decide) rfl rfl ?_
  have hmt := rM_cong eM hm
  refine c_X11_line hmt hk (fun rm υ em hrm eC => ?_)
  have eq : rc.toInt = rm.toInt := ec.trans em.symm
  refine zq_icmp_eq (pc := 674) (tgt := 1000) dL_law_674 rfl rfl rfl (fun h674 => ?_) (fun h674 => ?_)
  · skip
    exact hnext υ _ (rC_cong eC hrc) hrm (ab_sLine hk)
  · skip
    refine z_iconst (pc := 677) (v := 0) dL_law_677 (by decide) ?_
    refine z_zret (pc := 678) dL_law_678 rfl (by decide) ?_
    exfalso; omega

theorem law_14 {l : Launch} {G : Gx} {d : Nat} {σ : Sg} {Q : Option Value → Sg → Prop} {a : Ab} {j : Nat} {x : Int32} (hr : rC σ a) (hm : rM σ a) (hk : abOk a) (hx : x.toInt = (j : Int)) (hj : j + 6 ≤ rol G 105) (hj2 : j + 6 ≤ 4000) (hnext : ∀ (υ : Sg) (b : Ab), rC υ b → rM υ b → abOk b → Z l G M_L_law (d + 20) 1000 [some (.ref 105), some (.ref 0), some (.ref 1), some (.int x)] [] υ Q) : Z l G M_L_law (d + 20) 679 [some (.ref 105), some (.ref 0), some (.ref 1), some (.int x)] [] σ Q := by
  refine z_aload_n (pc := 679) dL_law_679 rfl ?_
  refine z_aload_n (pc := 680) dL_law_680 rfl ?_
  refine z_iload_n (pc := 681) dL_law_681 rfl ?_
  refine z_iconst (pc := 682) (v := 1) dL_law_682 (by decide) ?_
  refine z_iaddT (pc := 683) (cy := 1) dL_law_683 rfl (by decide) (by omega) (by omega) (fun v683 e683 => ?_)
  refine z_roaldN (pc := 684) (j + 1) dL_law_684 (by decide) (by decide) (by omega) (by omega) ?_
  refine z_aload_n (pc := 685) dL_law_685 rfl ?_
  refine z_iload_n (pc := 686) dL_law_686 rfl ?_
  refine z_iconst (pc := 687) (v := 2) dL_law_687 (by decide) ?_
  refine z_iaddT (pc := 688) (cy := 2) dL_law_688 rfl (by decide) (by omega) (by omega) (fun v688 e688 => ?_)
  refine z_roaldN (pc := 689) (j + 2) dL_law_689 (by decide) (by decide) (by omega) (by omega) ?_
  refine z_iv2 (pc := 690) dL_law_690 kv_L_77 rfl (by decide) (by decide) rfl rfl ?_
  refine c_X10_through hr hk (fun rc τ ec hrc eM => ?_)
  refine z_aload_n (pc := 693) dL_law_693 rfl ?_
  refine z_aload_n (pc := 694) dL_law_694 rfl ?_
  refine z_iload_n (pc := 695) dL_law_695 rfl ?_
  refine z_iconst (pc := 696) (v := 1) dL_law_696 (by decide) ?_
  refine z_iaddT (pc := 697) (cy := 1) dL_law_697 rfl (by decide) (by omega) (by omega) (fun v697 e697 => ?_)
  refine z_roaldN (pc := 698) (j + 1) dL_law_698 (by decide) (by decide) (by omega) (by omega) ?_
  refine z_aload_n (pc := 699) dL_law_699 rfl ?_
  refine z_iload_n (pc := 700) dL_law_700 rfl ?_
  refine z_iconst (pc := 701) (v := 2) dL_law_701 (by decide) ?_
  refine z_iaddT (pc := 702) (cy := 2) dL_law_702 rfl (by decide) (by omega) (by omega) (fun v702 e702 => ?_)
  refine z_roaldN (pc := 703) (j + 2) dL_law_703 (by decide) (by decide) (by omega) (by omega) ?_
  refine z_iv2 (pc := 704) dL_law_704 kv_L_80 rfl (by decide) (by decide) rfl rfl ?_
  have hmt := rM_cong eM hm
  refine c_X11_through hmt hk (fun rm υ em hrm eC => ?_)
  have eq : rc.toInt = rm.toInt := ec.trans em.symm
  refine zq_icmp_eq (pc := 707) (tgt := 1000) dL_law_707 rfl rfl rfl (fun h707 => ?_) (fun h707 => ?_)
  · skip
    exact hnext υ _ (rC_cong eC hrc) hrm (ab_sThrough hk)
  · skip
    refine z_iconst (pc := 710) (v := 0) dL_law_710 (by decide) ?_
    refine z_zret (pc := 711) dL_law_711 rfl (by decide) ?_
    exfalso; omega

theorem law_15 {l : Launch} {G : Gx} {d : Nat} {σ : Sg} {Q : Option Value → Sg → Prop} {a : Ab} {j : Nat} {x : Int32} (hr : rC σ a) (hm : rM σ a) (hk : abOk a) (hx : x.toInt = (j : Int)) (hj : j + 6 ≤ rol G 105) (hj2 : j + 6 ≤ 4000) (hnext : ∀ (υ : Sg) (b : Ab), rC υ b → rM υ b → abOk b → Z l G M_L_law (d + 20) 1000 [some (.ref 105), some (.ref 0), some (.ref 1), some (.int x)] [] υ Q) : Z l G M_L_law (d + 20) 712 [some (.ref 105), some (.ref 0), some (.ref 1), some (.int x)] [] σ Q := by
  refine z_aload_n (pc := 712) dL_law_712 rfl ?_
  refine z_aload_n (pc := 713) dL_law_713 rfl ?_
  refine z_iload_n (pc := 714) dL_law_714 rfl ?_
  refine z_iconst (pc := 715) (v := 1) dL_law_715 (by decide) ?_
  refine z_iaddT (pc := 716) (cy := 1) dL_law_716 rfl (by decide) (by omega) (by omega) (fun v716 e716 => ?_)
  refine z_roaldN (pc := 717) (j + 1) dL_law_717 (by decide) (by decide) (by omega) (by omega) ?_
  refine z_iv1 (pc := 718) dL_law_718 kv_L_81 rfl (by decide) (by decide) rfl rfl ?_
  refine c_X10_lineAt hr (fun rc ec => ?_)
  refine z_aload_n (pc := 721) dL_law_721 rfl ?_
  refine z_aload_n (pc := 722) dL_law_722 rfl ?_
  refine z_iload_n (pc := 723) dL_law_723 rfl ?_
  refine z_iconst (pc := 724) (v := 1) dL_law_724 (by decide) ?_
  refine z_iaddT (pc := 725) (cy := 1) dL_law_725 rfl (by decide) (by omega) (by omega) (fun v725 e725 => ?_)
  refine z_roaldN (pc := 726) (j + 1) dL_law_726 (by decide) (by decide) (by omega) (by omega) ?_
  refine z_iv1 (pc := 727) dL_law_727 kv_L_84 rfl (by decide) (by decide) rfl rfl ?_
  refine c_X11_lineAt hm hk (fun rm em => ?_)
  have eq : rc.toInt = rm.toInt := ec.trans em.symm
  refine zq_icmp_eq (pc := 730) (tgt := 1000) dL_law_730 rfl rfl rfl (fun h730 => ?_) (fun h730 => ?_)
  · skip
    exact hnext σ a hr hm hk
  · skip
    refine z_iconst (pc := 733) (v := 0) dL_law_733 (by decide) ?_
    refine z_zret (pc := 734) dL_law_734 rfl (by decide) ?_
    exfalso; omega

theorem law_16 {l : Launch} {G : Gx} {d : Nat} {σ : Sg} {Q : Option Value → Sg → Prop} {a : Ab} {j : Nat} {x : Int32} (hr : rC σ a) (hm : rM σ a) (hk : abOk a) (hx : x.toInt = (j : Int)) (hj : j + 6 ≤ rol G 105) (hj2 : j + 6 ≤ 4000) (hnext : ∀ (υ : Sg) (b : Ab), rC υ b → rM υ b → abOk b → Z l G M_L_law (d + 20) 1000 [some (.ref 105), some (.ref 0), some (.ref 1), some (.int x)] [] υ Q) : Z l G M_L_law (d + 20) 735 [some (.ref 105), some (.ref 0), some (.ref 1), some (.int x)] [] σ Q := by
  refine z_aload_n (pc := 735) dL_law_735 rfl ?_
  refine z_aload_n (pc := 736) dL_law_736 rfl ?_
  refine z_iload_n (pc := 737) dL_law_737 rfl ?_
  refine z_iconst (pc := 738) (v := 1) dL_law_738 (by decide) ?_
  refine z_iaddT (pc := 739) (cy := 1) dL_law_739 rfl (by decide) (by omega) (by omega) (fun v739 e739 => ?_)
  refine z_roaldN (pc := 740) (j + 1) dL_law_740 (by decide) (by decide) (by omega) (by omega) ?_
  refine z_aload_n (pc := 741) dL_law_741 rfl ?_
  refine z_iload_n (pc := 742) dL_law_742 rfl ?_
  refine z_iconst (pc := 743) (v := 2) dL_law_743 (by decide) ?_
  refine z_iaddT (pc := 744) (cy := 2) dL_law_744 rfl (by decide) (by omega) (by omega) (fun v744 e744 => ?_)
  refine z_roaldN (pc := 745) (j + 2) dL_law_745 (by decide) (by decide) (by omega) (by omega) ?_
  refine z_iv2 (pc := 746) dL_law_746 kv_L_85 rfl (by decide) (by decide) rfl rfl ?_
  refine c_X10_side hr hk (fun rc τ ec hrc eM => ?_)
  refine z_aload_n (pc := 749) dL_law_749 rfl ?_
  refine z_aload_n (pc := 750) dL_law_750 rfl ?_
  refine z_iload_n (pc := 751) dL_law_751 rfl ?_
  refine z_iconst (pc := 752) (v := 1) dL_law_752 (by decide) ?_
  refine z_iaddT (pc := 753) (cy := 1) dL_law_753 rfl (by decide) (by omega) (by omega) (fun v753 e753 => ?_)
  refine z_roaldN (pc := 754) (j + 1) dL_law_754 (by decide) (by decide) (by omega) (by omega) ?_
  refine z_aload_n (pc := 755) dL_law_755 rfl ?_
  refine z_iload_n (pc := 756) dL_law_756 rfl ?_
  refine z_iconst (pc := 757) (v := 2) dL_law_757 (by decide) ?_
  refine z_iaddT (pc := 758) (cy := 2) dL_law_758 rfl (by decide) (by omega) (by omega) (fun v758 e758 => ?_)
  refine z_roaldN (pc := 759) (j + 2) dL_law_759 (by decide) (by decide) (by omega) (by omega) ?_
  refine z_iv2 (pc := 760) dL_law_760 kv_L_88 rfl (by decide) (by decide) rfl rfl ?_
  have hmt := rM_cong eM hm
  refine c_X11_side hmt hk (fun rm υ em hrm eC => ?_)
  have eq : rc.toInt = rm.toInt := ec.trans em.symm
  refine zq_icmp_eq (pc := 763) (tgt := 1000) dL_law_763 rfl rfl rfl (fun h763 => ?_) (fun h763 => ?_)
  · skip
    exact hnext υ a (rC_cong eC hrc) hrm hk
  · skip
    refine z_iconst (pc := 766) (v := 0) dL_law_766 (by decide) ?_
    refine z_zret (pc := 767) dL_law_767 rfl (by decide) ?_
    exfalso; omega

theorem law_17 {l : Launch} {G : Gx} {d : Nat} {σ : Sg} {Q : Option Value → Sg → Prop} {a : Ab} {j : Nat} {x : Int32} (hr : rC σ a) (hm : rM σ a) (hk : abOk a) (hx : x.toInt = (j : Int)) (hj : j + 6 ≤ rol G 105) (hj2 : j + 6 ≤ 4000) (hnext : ∀ (υ : Sg) (b : Ab), rC υ b → rM υ b → abOk b → Z l G M_L_law (d + 20) 1000 [some (.ref 105), some (.ref 0), some (.ref 1), some (.int x)] [] υ Q) : Z l G M_L_law (d + 20) 768 [some (.ref 105), some (.ref 0), some (.ref 1), some (.int x)] [] σ Q := by
  refine z_aload_n (pc := 768) dL_law_768 rfl ?_
  refine z_aload_n (pc := 769) dL_law_769 rfl ?_
  refine z_iload_n (pc := 770) dL_law_770 rfl ?_
  refine z_iconst (pc := 771) (v := 1) dL_law_771 (by decide) ?_
  refine z_iaddT (pc := 772) (cy := 1) dL_law_772 rfl (by decide) (by omega) (by omega) (fun v772 e772 => ?_)
  refine z_roaldN (pc := 773) (j + 1) dL_law_773 (by decide) (by decide) (by omega) (by omega) ?_
  refine z_iv1 (pc := 774) dL_law_774 kv_L_89 rfl (by decide) (by decide) rfl rfl ?_
  refine c_X10_halves hr hk (fun rc τ ec hrc eM => ?_)
  refine z_aload_n (pc := 777) dL_law_777 rfl ?_
  refine z_aload_n (pc := 778) dL_law_778 rfl ?_
  refine z_iload_n (pc := 779) dL_law_779 rfl ?_
  refine z_iconst (pc := 780) (v := 1) dL_law_780 (by decide) ?_
  refine z_iaddT (pc := 781) (cy := 1) dL_law_781 rfl (by decide) (by omega) (by omega) (fun v781 e781 => ?_)
  refine z_roaldN (pc := 782) (j + 1) dL_law_782 (by decide) (by decide) (by omega) (by omega) ?_
  refine z_iv1 (pc := 783) dL_law_783 kv_L_92 rfl (by decide) (by decide) rfl rfl ?_
  have hmt := rM_cong eM hm
  refine c_X11_halves hmt hk (fun rm υ em hrm eC => ?_)
  have eq : rc.toInt = rm.toInt := ec.trans em.symm
  refine zq_icmp_eq (pc := 786) (tgt := 1000) dL_law_786 rfl rfl rfl (fun h786 => ?_) (fun h786 => ?_)
  · skip
    exact hnext υ a (rC_cong eC hrc) hrm hk
  · skip
    refine z_iconst (pc := 789) (v := 0) dL_law_789 (by decide) ?_
    refine z_zret (pc := 790) dL_law_790 rfl (by decide) ?_
    exfalso; omega

theorem law_18 {l : Launch} {G : Gx} {d : Nat} {σ : Sg} {Q : Option Value → Sg → Prop} {a : Ab} {j : Nat} {x : Int32} (hr : rC σ a) (hm : rM σ a) (hk : abOk a) (hx : x.toInt = (j : Int)) (hj : j + 6 ≤ rol G 105) (hj2 : j + 6 ≤ 4000) (hnext : ∀ (υ : Sg) (b : Ab), rC υ b → rM υ b → abOk b → Z l G M_L_law (d + 20) 1000 [some (.ref 105), some (.ref 0), some (.ref 1), some (.int x)] [] υ Q) : Z l G M_L_law (d + 20) 791 [some (.ref 105), some (.ref 0), some (.ref 1), some (.int x)] [] σ Q := by
  refine z_aload_n (pc := 791) dL_law_791 rfl ?_
  refine z_aload_n (pc := 792) dL_law_792 rfl ?_
  refine z_iload_n (pc := 793) dL_law_793 rfl ?_
  refine z_iconst (pc := 794) (v := 1) dL_law_794 (by decide) ?_
  refine z_iaddT (pc := 795) (cy := 1) dL_law_795 rfl (by decide) (by omega) (by omega) (fun v795 e795 => ?_)
  refine z_roaldN (pc := 796) (j + 1) dL_law_796 (by decide) (by decide) (by omega) (by omega) ?_
  refine z_iv1 (pc := 797) dL_law_797 kv_L_93 rfl (by decide) (by decide) rfl rfl ?_
  refine c_X10_furrow hr hk (fun rc τ ec hrc eM => ?_)
  refine z_aload_n (pc := 800) dL_law_800 rfl ?_
  refine z_aload_n (pc := 801) dL_law_801 rfl ?_
  refine z_iload_n (pc := 802) dL_law_802 rfl ?_
  refine z_iconst (pc := 803) (v := 1) dL_law_803 (by decide) ?_
  refine z_iaddT (pc := 804) (cy := 1) dL_law_804 rfl (by decide) (by omega) (by omega) (fun v804 e804 => ?_)
  refine z_roaldN (pc := 805) (j + 1) dL_law_805 (by decide) (by decide) (by omega) (by omega) ?_
  refine z_iv1 (pc := 806) dL_law_806 kv_L_96 rfl (by decide) (by decide) rfl rfl ?_
  have hmt := rM_cong eM hm
  refine c_X11_furrow hmt hk (fun rm υ em hrm eC => ?_)
  have eq : rc.toInt = rm.toInt := ec.trans em.symm
  refine zq_icmp_eq (pc := 809) (tgt := 1000) dL_law_809 rfl rfl rfl (fun h809 => ?_) (fun h809 => ?_)
  · skip
    exact hnext υ _ (rC_cong eC hrc) hrm (ab_sFurrow hk)
  · skip
    refine z_iconst (pc := 812) (v := 0) dL_law_812 (by decide) ?_
    refine z_zret (pc := 813) dL_law_813 rfl (by decide) ?_
    exfalso; omega

theorem law_19 {l : Launch} {G : Gx} {d : Nat} {σ : Sg} {Q : Option Value → Sg → Prop} {a : Ab} {j : Nat} {x : Int32} (hr : rC σ a) (hm : rM σ a) (hk : abOk a) (hx : x.toInt = (j : Int)) (hj : j + 6 ≤ rol G 105) (hj2 : j + 6 ≤ 4000) (hnext : ∀ (υ : Sg) (b : Ab), rC υ b → rM υ b → abOk b → Z l G M_L_law (d + 20) 1000 [some (.ref 105), some (.ref 0), some (.ref 1), some (.int x)] [] υ Q) : Z l G M_L_law (d + 20) 814 [some (.ref 105), some (.ref 0), some (.ref 1), some (.int x)] [] σ Q := by
  refine z_aload_n (pc := 814) dL_law_814 rfl ?_
  refine z_iv0 (pc := 815) dL_law_815 kv_L_97 rfl (by decide) (by decide) rfl rfl ?_
  refine c_X10_furrows hr hk (fun rc τ ec hrc eM => ?_)
  refine z_aload_n (pc := 818) dL_law_818 rfl ?_
  refine z_iv0 (pc := 819) dL_law_819 kv_L_100 rfl (by decide) (by decide) rfl rfl ?_
  have hmt := rM_cong eM hm
  refine c_X11_furrows hmt hk (fun rm υ em hrm eC => ?_)
  have eq : rc.toInt = rm.toInt := ec.trans em.symm
  refine zq_icmp_eq (pc := 822) (tgt := 1000) dL_law_822 rfl rfl rfl (fun h822 => ?_) (fun h822 => ?_)
  · skip
    exact hnext υ a (rC_cong eC hrc) hrm hk
  · skip
    refine z_iconst (pc := 825) (v := 0) dL_law_825 (by decide) ?_
    refine z_zret (pc := 826) dL_law_826 rfl (by decide) ?_
    exfalso; omega

theorem law_20 {l : Launch} {G : Gx} {d : Nat} {σ : Sg} {Q : Option Value → Sg → Prop} {a : Ab} {j : Nat} {x : Int32} (hr : rC σ a) (hm : rM σ a) (hk : abOk a) (hx : x.toInt = (j : Int)) (hj : j + 6 ≤ rol G 105) (hj2 : j + 6 ≤ 4000) (hnext : ∀ (υ : Sg) (b : Ab), rC υ b → rM υ b → abOk b → Z l G M_L_law (d + 20) 1000 [some (.ref 105), some (.ref 0), some (.ref 1), some (.int x)] [] υ Q) : Z l G M_L_law (d + 20) 827 [some (.ref 105), some (.ref 0), some (.ref 1), some (.int x)] [] σ Q := by
  refine z_aload_n (pc := 827) dL_law_827 rfl ?_
  refine z_aload_n (pc := 828) dL_law_828 rfl ?_
  refine z_iload_n (pc := 829) dL_law_829 rfl ?_
  refine z_iconst (pc := 830) (v := 1) dL_law_830 (by decide) ?_
  refine z_iaddT (pc := 831) (cy := 1) dL_law_831 rfl (by decide) (by omega) (by omega) (fun v831 e831 => ?_)
  refine z_roaldN (pc := 832) (j + 1) dL_law_832 (by decide) (by decide) (by omega) (by omega) ?_
  refine z_aload_n (pc := 833) dL_law_833 rfl ?_
  refine z_iload_n (pc := 834) dL_law_834 rfl ?_
  refine z_iconst (pc := 835) (v := 2) dL_law_835 (by decide) ?_
  refine z_iaddT (pc := 836) (cy := 2) dL_law_836 rfl (by decide) (by omega) (by omega) (fun v836 e836 => ?_)
  refine z_roaldN (pc := 837) (j + 2) dL_law_837 (by decide) (by decide) (by omega) (by omega) ?_
  refine z_aload_n (pc := 838) dL_law_838 rfl ?_
  refine z_iload_n (pc := 839) dL_law_839 rfl ?_
  refine z_iconst (pc := 840) (v := 3) dL_law_840 (by decide) ?_
  refine z_iaddT (pc := 841) (cy := 3) dL_law_841 rfl (by decide) (by omega) (by omega) (fun v841 e841 => ?_)
  refine z_roaldN (pc := 842) (j + 3) dL_law_842 (by decide) (by decide) (by omega) (by omega) ?_
  refine z_iv3 (pc := 843) dL_law_843 kv_L_101 rfl (by decide) (by decide) rfl rfl ?_
  refine c_X10_depth hr hk (fun rc τ ec hrc eM => ?_)
  refine z_aload_n (pc := 846) dL_law_846 rfl ?_
  refine z_aload_n (pc := 847) dL_law_847 rfl ?_
  refine z_iload_n (pc := 848) dL_law_848 rfl ?_
  refine z_iconst (pc := 849) (v := 1) dL_law_849 (by decide) ?_
  refine z_iaddT (pc := 850) (cy := 1) dL_law_850 rfl (by decide) (by omega) (by omega) (fun v850 e850 => ?_)
  refine z_roaldN (pc := 851) (j + 1) dL_law_851 (by decide) (by decide) (by omega) (by omega) ?_
  refine z_aload_n (pc := 852) dL_law_852 rfl ?_
  refine z_iload_n (pc := 853) dL_law_853 rfl ?_
  refine z_iconst (pc := 854) (v := 2) dL_law_854 (by decide) ?_
  refine z_iaddT (pc := 855) (cy := 2) dL_law_855 rfl (by decide) (by omega) (by omega) (fun v855 e855 => ?_)
  refine z_roaldN (pc := 856) (j + 2) dL_law_856 (by decide) (by decide) (by omega) (by omega) ?_
  refine z_aload_n (pc := 857) dL_law_857 rfl ?_
  refine z_iload_n (pc := 858) dL_law_858 rfl ?_
  refine z_iconst (pc := 859) (v := 3) dL_law_859 (by decide) ?_
  refine z_iaddT (pc := 860) (cy := 3) dL_law_860 rfl (by decide) (by omega) (by omega) (fun v860 e860 => ?_)
  refine z_roaldN (pc := 861) (j + 3) dL_law_861 (by decide) (by decide) (by omega) (by omega) ?_
  refine z_iv3 (pc := 862) dL_law_862 kv_L_104 rfl (by decide) (by decide) rfl rfl ?_
  have hmt := rM_cong eM hm
  refine c_X11_depth hmt hk (fun rm υ em hrm eC => ?_)
  have eq : rc.toInt = rm.toInt := ec.trans em.symm
  refine zq_icmp_eq (pc := 865) (tgt := 1000) dL_law_865 rfl rfl rfl (fun h865 => ?_) (fun h865 => ?_)
  · skip
    exact hnext υ a (rC_cong eC hrc) hrm hk
  · skip
    refine z_iconst (pc := 868) (v := 0) dL_law_868 (by decide) ?_
    refine z_zret (pc := 869) dL_law_869 rfl (by decide) ?_
    exfalso; omega

theorem law_21 {l : Launch} {G : Gx} {d : Nat} {σ : Sg} {Q : Option Value → Sg → Prop} {a : Ab} {j : Nat} {x : Int32} (hr : rC σ a) (hm : rM σ a) (hk : abOk a) (hx : x.toInt = (j : Int)) (hj : j + 6 ≤ rol G 105) (hj2 : j + 6 ≤ 4000) (hnext : ∀ (υ : Sg) (b : Ab), rC υ b → rM υ b → abOk b → Z l G M_L_law (d + 20) 1000 [some (.ref 105), some (.ref 0), some (.ref 1), some (.int x)] [] υ Q) : Z l G M_L_law (d + 20) 870 [some (.ref 105), some (.ref 0), some (.ref 1), some (.int x)] [] σ Q := by
  refine z_aload_n (pc := 870) dL_law_870 rfl ?_
  refine z_aload_n (pc := 871) dL_law_871 rfl ?_
  refine z_iload_n (pc := 872) dL_law_872 rfl ?_
  refine z_iconst (pc := 873) (v := 1) dL_law_873 (by decide) ?_
  refine z_iaddT (pc := 874) (cy := 1) dL_law_874 rfl (by decide) (by omega) (by omega) (fun v874 e874 => ?_)
  refine z_roaldN (pc := 875) (j + 1) dL_law_875 (by decide) (by decide) (by omega) (by omega) ?_
  refine z_iv1 (pc := 876) dL_law_876 kv_L_105 rfl (by decide) (by decide) rfl rfl ?_
  refine c_X10_deepest hr hk (fun rc τ ec hrc eM => ?_)
  refine z_aload_n (pc := 879) dL_law_879 rfl ?_
  refine z_aload_n (pc := 880) dL_law_880 rfl ?_
  refine z_iload_n (pc := 881) dL_law_881 rfl ?_
  refine z_iconst (pc := 882) (v := 1) dL_law_882 (by decide) ?_
  refine z_iaddT (pc := 883) (cy := 1) dL_law_883 rfl (by decide) (by omega) (by omega) (fun v883 e883 => ?_)
  refine z_roaldN (pc := 884) (j + 1) dL_law_884 (by decide) (by decide) (by omega) (by omega) ?_
  refine z_iv1 (pc := 885) dL_law_885 kv_L_109 rfl (by decide) (by decide) rfl rfl ?_
  have hmt := rM_cong eM hm
  refine c_X11_deepest hmt hk (fun rm υ em hrm eC => ?_)
  have eq := sDeepest_uniq ec em
  refine zq_lc_eq (pc := 888) (tgt := 1000) dL_law_888 dL_law_889 rfl rfl rfl (fun h888 => ?_) (fun h888 => ?_)
  · skip
    exact hnext υ a (rC_cong eC hrc) hrm hk
  · skip
    refine z_iconst (pc := 892) (v := 0) dL_law_892 (by decide) ?_
    refine z_zret (pc := 893) dL_law_893 rfl (by decide) ?_
    exfalso; omega

theorem law_22 {l : Launch} {G : Gx} {d : Nat} {σ : Sg} {Q : Option Value → Sg → Prop} {a : Ab} {j : Nat} {x : Int32} (hr : rC σ a) (hm : rM σ a) (hk : abOk a) (hx : x.toInt = (j : Int)) (hj : j + 6 ≤ rol G 105) (hj2 : j + 6 ≤ 4000) (hnext : ∀ (υ : Sg) (b : Ab), rC υ b → rM υ b → abOk b → Z l G M_L_law (d + 20) 1000 [some (.ref 105), some (.ref 0), some (.ref 1), some (.int x)] [] υ Q) : Z l G M_L_law (d + 20) 894 [some (.ref 105), some (.ref 0), some (.ref 1), some (.int x)] [] σ Q := by
  refine z_aload_n (pc := 894) dL_law_894 rfl ?_
  refine z_aload_n (pc := 895) dL_law_895 rfl ?_
  refine z_iload_n (pc := 896) dL_law_896 rfl ?_
  refine z_iconst (pc := 897) (v := 1) dL_law_897 (by decide) ?_
  refine z_iaddT (pc := 898) (cy := 1) dL_law_898 rfl (by decide) (by omega) (by omega) (fun v898 e898 => ?_)
  refine z_roaldN (pc := 899) (j + 1) dL_law_899 (by decide) (by decide) (by omega) (by omega) ?_
  refine z_iv1 (pc := 900) dL_law_900 kv_L_110 rfl (by decide) (by decide) rfl rfl ?_
  refine c_X10_layer hr hk (fun rc τ ec hrc eM => ?_)
  refine z_aload_n (pc := 903) dL_law_903 rfl ?_
  refine z_aload_n (pc := 904) dL_law_904 rfl ?_
  refine z_iload_n (pc := 905) dL_law_905 rfl ?_
  refine z_iconst (pc := 906) (v := 1) dL_law_906 (by decide) ?_
  refine z_iaddT (pc := 907) (cy := 1) dL_law_907 rfl (by decide) (by omega) (by omega) (fun v907 e907 => ?_)
  refine z_roaldN (pc := 908) (j + 1) dL_law_908 (by decide) (by decide) (by omega) (by omega) ?_
  refine z_iv1 (pc := 909) dL_law_909 kv_L_113 rfl (by decide) (by decide) rfl rfl ?_
  have hmt := rM_cong eM hm
  refine c_X11_layer hmt hk (fun rm υ em hrm eC => ?_)
  have eq : rc.toInt = rm.toInt := ec.trans em.symm
  refine zq_icmp_eq (pc := 912) (tgt := 1000) dL_law_912 rfl rfl rfl (fun h912 => ?_) (fun h912 => ?_)
  · skip
    exact hnext υ a (rC_cong eC hrc) hrm hk
  · skip
    refine z_iconst (pc := 915) (v := 0) dL_law_915 (by decide) ?_
    refine z_zret (pc := 916) dL_law_916 rfl (by decide) ?_
    exfalso; omega

theorem law_23 {l : Launch} {G : Gx} {d : Nat} {σ : Sg} {Q : Option Value → Sg → Prop} {a : Ab} {j : Nat} {x : Int32} (hr : rC σ a) (hm : rM σ a) (hk : abOk a) (hx : x.toInt = (j : Int)) (hj : j + 6 ≤ rol G 105) (hj2 : j + 6 ≤ 4000) (hnext : ∀ (υ : Sg) (b : Ab), rC υ b → rM υ b → abOk b → Z l G M_L_law (d + 20) 1000 [some (.ref 105), some (.ref 0), some (.ref 1), some (.int x)] [] υ Q) : Z l G M_L_law (d + 20) 917 [some (.ref 105), some (.ref 0), some (.ref 1), some (.int x)] [] σ Q := by
  refine z_aload_n (pc := 917) dL_law_917 rfl ?_
  refine z_aload_n (pc := 918) dL_law_918 rfl ?_
  refine z_iload_n (pc := 919) dL_law_919 rfl ?_
  refine z_iconst (pc := 920) (v := 1) dL_law_920 (by decide) ?_
  refine z_iaddT (pc := 921) (cy := 1) dL_law_921 rfl (by decide) (by omega) (by omega) (fun v921 e921 => ?_)
  refine z_roaldN (pc := 922) (j + 1) dL_law_922 (by decide) (by decide) (by omega) (by omega) ?_
  refine z_iv1 (pc := 923) dL_law_923 kv_L_114 rfl (by decide) (by decide) rfl rfl ?_
  refine c_X10_most hr hk (fun rc τ ec hrc eM => ?_)
  refine z_aload_n (pc := 926) dL_law_926 rfl ?_
  refine z_aload_n (pc := 927) dL_law_927 rfl ?_
  refine z_iload_n (pc := 928) dL_law_928 rfl ?_
  refine z_iconst (pc := 929) (v := 1) dL_law_929 (by decide) ?_
  refine z_iaddT (pc := 930) (cy := 1) dL_law_930 rfl (by decide) (by omega) (by omega) (fun v930 e930 => ?_)
  refine z_roaldN (pc := 931) (j + 1) dL_law_931 (by decide) (by decide) (by omega) (by omega) ?_
  refine z_iv1 (pc := 932) dL_law_932 kv_L_117 rfl (by decide) (by decide) rfl rfl ?_
  have hmt := rM_cong eM hm
  refine c_X11_most hmt hk (fun rm υ em hrm eC => ?_)
  have eq := sMost_uniq ec em
  refine zq_icmp_eq (pc := 935) (tgt := 1000) dL_law_935 rfl rfl rfl (fun h935 => ?_) (fun h935 => ?_)
  · skip
    exact hnext υ a (rC_cong eC hrc) hrm hk
  · skip
    refine z_iconst (pc := 938) (v := 0) dL_law_938 (by decide) ?_
    refine z_zret (pc := 939) dL_law_939 rfl (by decide) ?_
    exfalso; omega

theorem law_24 {l : Launch} {G : Gx} {d : Nat} {σ : Sg} {Q : Option Value → Sg → Prop} {a : Ab} {j : Nat} {x : Int32} (hr : rC σ a) (hm : rM σ a) (hk : abOk a) (hx : x.toInt = (j : Int)) (hj : j + 6 ≤ rol G 105) (hj2 : j + 6 ≤ 4000) (hnext : ∀ (υ : Sg) (b : Ab), rC υ b → rM υ b → abOk b → Z l G M_L_law (d + 20) 1000 [some (.ref 105), some (.ref 0), some (.ref 1), some (.int x)] [] υ Q) : Z l G M_L_law (d + 20) 940 [some (.ref 105), some (.ref 0), some (.ref 1), some (.int x)] [] σ Q := by
  refine z_aload_n (pc := 940) dL_law_940 rfl ?_
  refine z_aload_n (pc := 941) dL_law_941 rfl ?_
  refine z_iload_n (pc := 942) dL_law_942 rfl ?_
  refine z_iconst (pc := 943) (v := 1) dL_law_943 (by decide) ?_
  refine z_iaddT (pc := 944) (cy := 1) dL_law_944 rfl (by decide) (by omega) (by omega) (fun v944 e944 => ?_)
  refine z_roaldN (pc := 945) (j + 1) dL_law_945 (by decide) (by decide) (by omega) (by omega) ?_
  refine z_iv1 (pc := 946) dL_law_946 kv_L_118 rfl (by decide) (by decide) rfl rfl ?_
  refine c_X10_widest hr hk (fun rc τ ec hrc eM => ?_)
  refine z_aload_n (pc := 949) dL_law_949 rfl ?_
  refine z_aload_n (pc := 950) dL_law_950 rfl ?_
  refine z_iload_n (pc := 951) dL_law_951 rfl ?_
  refine z_iconst (pc := 952) (v := 1) dL_law_952 (by decide) ?_
  refine z_iaddT (pc := 953) (cy := 1) dL_law_953 rfl (by decide) (by omega) (by omega) (fun v953 e953 => ?_)
  refine z_roaldN (pc := 954) (j + 1) dL_law_954 (by decide) (by decide) (by omega) (by omega) ?_
  refine z_iv1 (pc := 955) dL_law_955 kv_L_121 rfl (by decide) (by decide) rfl rfl ?_
  have hmt := rM_cong eM hm
  refine c_X11_widest hmt hk (fun rm υ em hrm eC => ?_)
  have eq := sWidest_uniq ec em
  refine zq_lc_eq (pc := 958) (tgt := 1000) dL_law_958 dL_law_959 rfl rfl rfl (fun h958 => ?_) (fun h958 => ?_)
  · skip
    exact hnext υ a (rC_cong eC hrc) hrm hk
  · skip
    refine z_iconst (pc := 962) (v := 0) dL_law_962 (by decide) ?_
    refine z_zret (pc := 963) dL_law_963 rfl (by decide) ?_
    exfalso; omega

theorem law_25 {l : Launch} {G : Gx} {d : Nat} {σ : Sg} {Q : Option Value → Sg → Prop} {a : Ab} {j : Nat} {x : Int32} (hr : rC σ a) (hm : rM σ a) (hk : abOk a) (hx : x.toInt = (j : Int)) (hj : j + 6 ≤ rol G 105) (hj2 : j + 6 ≤ 4000) (hnext : ∀ (υ : Sg) (b : Ab), rC υ b → rM υ b → abOk b → Z l G M_L_law (d + 20) 1000 [some (.ref 105), some (.ref 0), some (.ref 1), some (.int x)] [] υ Q) : Z l G M_L_law (d + 20) 964 [some (.ref 105), some (.ref 0), some (.ref 1), some (.int x)] [] σ Q := by
  refine z_aload_n (pc := 964) dL_law_964 rfl ?_
  refine z_aload_n (pc := 965) dL_law_965 rfl ?_
  refine z_iload_n (pc := 966) dL_law_966 rfl ?_
  refine z_iconst (pc := 967) (v := 1) dL_law_967 (by decide) ?_
  refine z_iaddT (pc := 968) (cy := 1) dL_law_968 rfl (by decide) (by omega) (by omega) (fun v968 e968 => ?_)
  refine z_roaldN (pc := 969) (j + 1) dL_law_969 (by decide) (by decide) (by omega) (by omega) ?_
  refine z_iv1 (pc := 970) dL_law_970 kv_L_122 rfl (by decide) (by decide) rfl rfl ?_
  refine c_X10_count hr hk (fun rc τ ec hrc eM => ?_)
  refine z_aload_n (pc := 973) dL_law_973 rfl ?_
  refine z_aload_n (pc := 974) dL_law_974 rfl ?_
  refine z_iload_n (pc := 975) dL_law_975 rfl ?_
  refine z_iconst (pc := 976) (v := 1) dL_law_976 (by decide) ?_
  refine z_iaddT (pc := 977) (cy := 1) dL_law_977 rfl (by decide) (by omega) (by omega) (fun v977 e977 => ?_)
  refine z_roaldN (pc := 978) (j + 1) dL_law_978 (by decide) (by decide) (by omega) (by omega) ?_
  refine z_iv1 (pc := 979) dL_law_979 kv_L_125 rfl (by decide) (by decide) rfl rfl ?_
  have hmt := rM_cong eM hm
  refine c_X11_count hmt hk (fun rm υ em hrm eC => ?_)
  have eq : rc.toInt = rm.toInt := ec.trans em.symm
  refine zq_icmp_eq (pc := 982) (tgt := 1000) dL_law_982 rfl rfl rfl (fun h982 => ?_) (fun h982 => ?_)
  · skip
    exact hnext υ a (rC_cong eC hrc) hrm hk
  · skip
    refine z_iconst (pc := 985) (v := 0) dL_law_985 (by decide) ?_
    refine z_zret (pc := 986) dL_law_986 rfl (by decide) ?_
    exfalso; omega

theorem law_26 {l : Launch} {G : Gx} {d : Nat} {σ : Sg} {Q : Option Value → Sg → Prop} {a : Ab} {j : Nat} {x : Int32} (hr : rC σ a) (hm : rM σ a) (hk : abOk a) (hx : x.toInt = (j : Int)) (hj : j + 6 ≤ rol G 105) (hj2 : j + 6 ≤ 4000) (hnext : ∀ (υ : Sg) (b : Ab), rC υ b → rM υ b → abOk b → Z l G M_L_law (d + 20) 1000 [some (.ref 105), some (.ref 0), some (.ref 1), some (.int x)] [] υ Q) : Z l G M_L_law (d + 20) 987 [some (.ref 105), some (.ref 0), some (.ref 1), some (.int x)] [] σ Q := by
  refine z_aload_n (pc := 987) dL_law_987 rfl ?_
  refine z_iv0 (pc := 988) dL_law_988 kv_L_126 rfl (by decide) (by decide) rfl rfl ?_
  refine c_X10_status hr (fun rc ec => ?_)
  refine z_aload_n (pc := 991) dL_law_991 rfl ?_
  refine z_iv0 (pc := 992) dL_law_992 kv_L_129 rfl (by decide) (by decide) rfl rfl ?_
  refine c_X11_status hm (fun rm em => ?_)
  have eq : rc.toInt = rm.toInt := ec.trans em.symm
  refine zq_icmp_eq (pc := 995) (tgt := 1000) dL_law_995 rfl rfl rfl (fun h995 => ?_) (fun h995 => ?_)
  · skip
    exact hnext σ a hr hm hk
  · skip
    refine z_iconst (pc := 998) (v := 0) dL_law_998 (by decide) ?_
    refine z_zret (pc := 999) dL_law_999 rfl (by decide) ?_
    exfalso; omega

theorem and31 (x : Int32) : 0 ≤ (x &&& 31).toInt ∧ (x &&& 31).toInt ≤ 31 := by
  have h : (x &&& 31).toBitVec = x.toBitVec &&& 31#32 := rfl
  have e : (x &&& 31).toInt = (x.toBitVec &&& 31#32).toInt := by rw [← h]; rfl
  rw [e]
  have hn : (x.toBitVec &&& 31#32).toNat ≤ 31 := by
    rw [BitVec.toNat_and]
    exact Nat.and_le_right
  rw [BitVec.toInt_eq_toNat_of_lt (by omega)]
  omega

theorem law_loop {l : Launch} {G : Gx} {d : Nat} {Q : Option Value → Sg → Prop} {Ln : Nat} (hG : rol G 105 = Ln) (hL : Ln ≤ 3072) (h : ∀ τ, Q (some (.int 1)) τ) : ∀ (f j : Nat) (x : Int32) (σ : Sg) (a : Ab), x.toInt = (j : Int) → j ≤ Ln + 6 → Ln + 6 - j < f → rC σ a → rM σ a → abOk a → Z l G M_L_law (d + 20) 18 [some (.ref 105), some (.ref 0), some (.ref 1), some (.int x)] [] σ Q := by
  intro f
  induction f with
  | zero => intro j x σ a hx hj hfu hr hm hk; omega
  | succ f ih =>
  intro j x σ a hx hj hfu hr hm hk
  have nxt : ∀ (υ : Sg) (b : Ab), rC υ b → rM υ b → abOk b → j + 6 ≤ Ln → Z l G M_L_law (d + 20) 1000 [some (.ref 105), some (.ref 0), some (.ref 1), some (.int x)] [] υ Q := by
    intro υ b h1 h2 h3 hj6
    refine z_iincT (pc := 1000) dL_law_1000 rfl rfl (by decide) (by decide) (by omega) (by omega) rfl rfl (fun v => by dsimp only [setI, setL, List.set]) (fun v1000 e1000 => ?_)
    refine z_goto (pc := 1003) (tgt := 18) dL_law_1003 rfl ?_
    exact ih (j + 6) v1000 υ b (by omega) (by omega) (by omega) h1 h2 h3
  refine z_iload_n (pc := 18) dL_law_18 rfl ?_
  refine z_aload_n (pc := 19) dL_law_19 rfl ?_
  refine z_rolen (pc := 20) dL_law_20 (by decide) (by decide) ?_
  have elen : (Int32.ofNat (rol G 105)).toInt = (Ln : Int) := by
    rw [hG]
    exact Int32.toInt_ofNat_of_lt (by omega)
  generalize Int32.ofNat (rol G 105) = yl at elen ⊢
  refine z_bipush (pc := 21) (v := 6) dL_law_21 (by decide) ?_
  refine z_isubT (pc := 23) (cy := 6) dL_law_23 rfl (by decide) (by omega) (by omega) (fun v23 e23 => ?_)
  refine zq_icmp_gt (pc := 24) (tgt := 1006) dL_law_24 rfl rfl rfl (fun h24 => ?_) (fun h24 => ?_)
  · skip
    refine z_iconst (pc := 1006) (v := 1) dL_law_1006 (by decide) ?_
    refine z_zret (pc := 1007) dL_law_1007 rfl (by decide) ?_
    exact h _
  · skip
    have nxt := fun υ b h1 h2 h3 => nxt υ b h1 h2 h3 (by omega)
    refine z_aload_n (pc := 27) dL_law_27 rfl ?_
    refine z_iload_n (pc := 28) dL_law_28 rfl ?_
    refine z_roaldN (pc := 29) j dL_law_29 (by decide) (by decide) hx (by omega) ?_
    refine z_bipush (pc := 30) (v := 31) dL_law_30 (by decide) ?_
    refine z_iand (pc := 32) dL_law_32 ?_
    have ha := and31 (roc G 105 j)
    generalize roc G 105 j &&& 31 = y at ha ⊢
    rcases (show y.toInt = 0 ∨ y.toInt = 1 ∨ y.toInt = 2 ∨ y.toInt = 3 ∨ y.toInt = 4 ∨ y.toInt = 5 ∨ y.toInt = 6 ∨ y.toInt = 7 ∨ y.toInt = 8 ∨ y.toInt = 9 ∨ y.toInt = 10 ∨ y.toInt = 11 ∨ y.toInt = 12 ∨ y.toInt = 13 ∨ y.toInt = 14 ∨ y.toInt = 15 ∨ y.toInt = 16 ∨ y.toInt = 17 ∨ y.toInt = 18 ∨ y.toInt = 19 ∨ y.toInt = 20 ∨ y.toInt = 21 ∨ y.toInt = 22 ∨ y.toInt = 23 ∨ y.toInt = 24 ∨ y.toInt = 25 ∨ y.toInt = 26 ∨ (y.toInt < 0 ∨ 26 < y.toInt) by omega) with ek | ek | ek | ek | ek | ek | ek | ek | ek | ek | ek | ek | ek | ek | ek | ek | ek | ek | ek | ek | ek | ek | ek | ek | ek | ek | ek | ek
    · refine zq_swIn (pc := 33) (c := 0) (tgt := 156) dL_law_33 ek (by decide) (by decide) rfl rfl ?_
      exact law_0 hr hm hk hx (by omega) (by omega) nxt
    · refine zq_swIn (pc := 33) (c := 1) (tgt := 199) dL_law_33 ek (by decide) (by decide) rfl rfl ?_
      exact law_1 hr hm hk hx (by omega) (by omega) nxt
    · refine zq_swIn (pc := 33) (c := 2) (tgt := 273) dL_law_33 ek (by decide) (by decide) rfl rfl ?_
      exact law_2 hr hm hk hx (by omega) (by omega) nxt
    · refine zq_swIn (pc := 33) (c := 3) (tgt := 296) dL_law_33 ek (by decide) (by decide) rfl rfl ?_
      exact law_3 hr hm hk hx (by omega) (by omega) nxt
    · refine zq_swIn (pc := 33) (c := 4) (tgt := 359) dL_law_33 ek (by decide) (by decide) rfl rfl ?_
      exact law_4 hr hm hk hx (by omega) (by omega) nxt
    · refine zq_swIn (pc := 33) (c := 5) (tgt := 402) dL_law_33 ek (by decide) (by decide) rfl rfl ?_
      exact law_5 hr hm hk hx (by omega) (by omega) nxt
    · refine zq_swIn (pc := 33) (c := 6) (tgt := 445) dL_law_33 ek (by decide) (by decide) rfl rfl ?_
      exact law_6 hr hm hk hx (by omega) (by omega) nxt
    · refine zq_swIn (pc := 33) (c := 7) (tgt := 468) dL_law_33 ek (by decide) (by decide) rfl rfl ?_
      exact law_7 hr hm hk hx (by omega) (by omega) nxt
    · refine zq_swIn (pc := 33) (c := 8) (tgt := 501) dL_law_33 ek (by decide) (by decide) rfl rfl ?_
      exact law_8 hr hm hk hx (by omega) (by omega) nxt
    · refine zq_swIn (pc := 33) (c := 9) (tgt := 534) dL_law_33 ek (by decide) (by decide) rfl rfl ?_
      exact law_9 hr hm hk hx (by omega) (by omega) nxt
    · refine zq_swIn (pc := 33) (c := 10) (tgt := 567) dL_law_33 ek (by decide) (by decide) rfl rfl ?_
      exact law_10 hr hm hk hx (by omega) (by omega) nxt
    · refine zq_swIn (pc := 33) (c := 11) (tgt := 600) dL_law_33 ek (by decide) (by decide) rfl rfl ?_
      exact law_11 hr hm hk hx (by omega) (by omega) nxt
    · refine zq_swIn (pc := 33) (c := 12) (tgt := 623) dL_law_33 ek (by decide) (by decide) rfl rfl ?_
      exact law_12 hr hm hk hx (by omega) (by omega) nxt
    · refine zq_swIn (pc := 33) (c := 13) (tgt := 636) dL_law_33 ek (by decide) (by decide) rfl rfl ?_
      exact law_13 hr hm hk hx (by omega) (by omega) nxt
    · refine zq_swIn (pc := 33) (c := 14) (tgt := 679) dL_law_33 ek (by decide) (by decide) rfl rfl ?_
      exact law_14 hr hm hk hx (by omega) (by omega) nxt
    · refine zq_swIn (pc := 33) (c := 15) (tgt := 712) dL_law_33 ek (by decide) (by decide) rfl rfl ?_
      exact law_15 hr hm hk hx (by omega) (by omega) nxt
    · refine zq_swIn (pc := 33) (c := 16) (tgt := 735) dL_law_33 ek (by decide) (by decide) rfl rfl ?_
      exact law_16 hr hm hk hx (by omega) (by omega) nxt
    · refine zq_swIn (pc := 33) (c := 17) (tgt := 768) dL_law_33 ek (by decide) (by decide) rfl rfl ?_
      exact law_17 hr hm hk hx (by omega) (by omega) nxt
    · refine zq_swIn (pc := 33) (c := 18) (tgt := 791) dL_law_33 ek (by decide) (by decide) rfl rfl ?_
      exact law_18 hr hm hk hx (by omega) (by omega) nxt
    · refine zq_swIn (pc := 33) (c := 19) (tgt := 814) dL_law_33 ek (by decide) (by decide) rfl rfl ?_
      exact law_19 hr hm hk hx (by omega) (by omega) nxt
    · refine zq_swIn (pc := 33) (c := 20) (tgt := 827) dL_law_33 ek (by decide) (by decide) rfl rfl ?_
      exact law_20 hr hm hk hx (by omega) (by omega) nxt
    · refine zq_swIn (pc := 33) (c := 21) (tgt := 870) dL_law_33 ek (by decide) (by decide) rfl rfl ?_
      exact law_21 hr hm hk hx (by omega) (by omega) nxt
    · refine zq_swIn (pc := 33) (c := 22) (tgt := 894) dL_law_33 ek (by decide) (by decide) rfl rfl ?_
      exact law_22 hr hm hk hx (by omega) (by omega) nxt
    · refine zq_swIn (pc := 33) (c := 23) (tgt := 917) dL_law_33 ek (by decide) (by decide) rfl rfl ?_
      exact law_23 hr hm hk hx (by omega) (by omega) nxt
    · refine zq_swIn (pc := 33) (c := 24) (tgt := 940) dL_law_33 ek (by decide) (by decide) rfl rfl ?_
      exact law_24 hr hm hk hx (by omega) (by omega) nxt
    · refine zq_swIn (pc := 33) (c := 25) (tgt := 964) dL_law_33 ek (by decide) (by decide) rfl rfl ?_
      exact law_25 hr hm hk hx (by omega) (by omega) nxt
    · refine zq_swIn (pc := 33) (c := 26) (tgt := 987) dL_law_33 ek (by decide) (by decide) rfl rfl ?_
      exact law_26 hr hm hk hx (by omega) (by omega) nxt
    · refine zq_swOut (pc := 33) (tgt := 1000) dL_law_33 ek rfl ?_
      exact nxt σ a hr hm hk

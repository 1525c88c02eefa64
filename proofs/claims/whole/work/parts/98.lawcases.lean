/-! the law: each case -/
section LCS
variable {G : hG} {h : hp} {A : aT} {σ : sT} {ofr : Nat → Nat} {o oD sc Ln c d kc ks : Nat} {xs : Nat → Int32}
set_option maxHeartbeats 4000000 in
set_option maxRecDepth 100000 in
theorem lc_addPackage (HI : INV G h A σ ofr o oD) (hd : 20 ≤ d) (hL : Ln ≤ 2560) (hc : 5 * c + 5 ≤ Ln) (K : ∀ (h8 : hp) (A' : aT) (σ' : sT) (ofr' : Nat → Nat), INV G h8 A' σ' ofr' o oD → A' 0 0 = A 0 0 → A' 60 0 = A 60 0 → PW G ML_law d (psX sc Ln xs) EL kc ks 1820 [(0, Value.ref sc), (1, Value.ref (A 0 0)), (2, Value.ref (A 60 0)), (3, Value.ref o), (4, Value.ref oD), (5, Value.int (nI (5 * c)))] [] h8) : PW G ML_law d (psX sc Ln xs) EL (kc + 40) (ks + 400) 164 [(0, Value.ref sc), (1, Value.ref (A 0 0)), (2, Value.ref (A 60 0)), (3, Value.ref o), (4, Value.ref oD), (5, Value.int (nI (5 * c)))] [] h := by
  refine pw_aload_n (pc2 := 165) dL_law_164 rfl rfl 1 rfl (by first | exact rf_ref _ | exact rf_opt _ | exact rf_nul) ?_
  refine pw_aload_n (pc2 := 166) dL_law_165 rfl rfl 0 rfl (by first | exact rf_ref _ | exact rf_opt _ | exact rf_nul) ?_
  refine pw_iload (pc2 := 168) dL_law_166 rfl 5 rfl ?_
  refine pw_iconst (pc2 := 169) (v := 1) dL_law_168 rfl (by decide) ?_
  refine pw_iadd (pc2 := 170) dL_law_169 rfl ?_
  refine pw_topE (nI_1 _) ?_
  refine pw_sld (pc2 := 171) (i := (5 * c) + 1) (by omega) (by omega) dL_law_170 rfl ?_
  refine pw_aload_n (pc2 := 172) dL_law_171 rfl rfl 3 rfl (by first | exact rf_ref _ | exact rf_opt _ | exact rf_nul) ?_
  obtain ⟨Qw, hw, hn⟩ := st_addPackage HI (xs ((5 * c) + 1))
  refine PW.widen (kc' := (kc + 0) + (0 + 17)) (ks' := (ks + 0) + (0 + 108)) (by omega) (by omega) ?_
  refine pw_callS (kc := kc + 0) (ks := ks + 0) (pc2 := 175) hw cs_L_110 rfl dL_law_172 rfl (by omega) rfl (by first | decide | simp [cat_rf, Value.category]) (fun r9 h9 q9 => ?_) (fun Y h9 q9 => q9.elim)
  obtain ⟨k, rfl, ⟨fs, hfs⟩, Qm, hm, hn2⟩ := hn _ _ q9
  refine pw_istore (pc2 := 177) (L2 := [(6, Value.int k), (0, Value.ref sc), (1, Value.ref (A 0 0)), (2, Value.ref (A 60 0)), (3, Value.ref o), (4, Value.ref oD), (5, Value.int (nI (5 * c)))]) dL_law_175 rfl (by decide) rfl ?_
  refine pw_aload_n (pc2 := 178) dL_law_177 rfl rfl 3 rfl (by first | exact rf_ref _ | exact rf_opt _ | exact rf_nul) ?_
  refine pw_aload_n (pc2 := 179) dL_law_178 rfl rfl 1 rfl (by first | exact rf_ref _ | exact rf_opt _ | exact rf_nul) ?_
  refine pw_iload (pc2 := 181) dL_law_179 rfl 6 rfl ?_
  refine pw_iconst (pc2 := 182) (v := 1) dL_law_181 rfl (by decide) ?_
  refine pw_iadd (pc2 := 183) dL_law_182 rfl ?_
  refine pw_topE (nI_1 _) ?_
  refine pw_sld (pc2 := 184) (i := (5 * c) + 1) (by omega) (by omega) dL_law_183 rfl ?_
  refine pw_callV (kc := kc) (ks := ks) (pc2 := 187) hm cs_L_115 rfl rfl hfs dL_law_184 rfl (by omega) rfl (by first | decide | simp [cat_rf, Value.category]) (fun r8 h8 q8 => ?_) (fun Y h8 q8 => q8.elim)
  obtain ⟨b, rfl, A', σ', ofr', HI', e0, e60, h7, hk⟩ := hn2 _ _ q8
  refine pw_istore (pc2 := 189) (L2 := [(7, Value.int b), (6, Value.int k), (0, Value.ref sc), (1, Value.ref (A 0 0)), (2, Value.ref (A 60 0)), (3, Value.ref o), (4, Value.ref oD), (5, Value.int (nI (5 * c)))]) dL_law_187 rfl (by decide) rfl ?_
  refine pw_aload_n (pc2 := 190) dL_law_189 rfl rfl 4 rfl (by first | exact rf_ref _ | exact rf_opt _ | exact rf_nul) ?_
  have hT : PMet G MX10_thrown 0 0 0 [.ref (A 60 0)] h8 (det (some (.int k)) h8) noX := by have z := c_thrown G h8 HI'.1.wm; rw [e60, h7] at z; exact z
  have hR8 := HI'.1.c60
  rw [e60] at hR8
  refine pw_callV1 (kc := kc) (ks := ks) (pc2 := 193) hT cs_L_116 rfl rfl hR8 dL_law_190 rfl (by omega) rfl (by first | decide | simp [cat_rf, Value.category]) ?_
  refine pw_iload (pc2 := 195) dL_law_193 rfl 1 rfl ?_
  refine pw_icmp_eq (tgt := 200) (pc2 := 198) dL_law_195 (by decide) rfl (fun _ => ?_) (fun c195 => by exact absurd (rfl) c195)
  refine pw_iload (pc2 := 202) dL_law_200 rfl 1 rfl ?_
  refine pw_if_ne (tgt := 217) (pc2 := 205) dL_law_202 (by decide) rfl (fun c202 => ?_) (fun c202 => ?_)
  · refine pw_goto (tgt := 1820) dL_law_217 (by decide) ?_
    refine PW.sub (L2 := [(0, Value.ref sc), (1, Value.ref (A 0 0)), (2, Value.ref (A 60 0)), (3, Value.ref o), (4, Value.ref oD), (5, Value.int (nI (5 * c)))]) [2, 3, 4, 5, 6, 7] rfl ?_
    exact K h8 A' σ' ofr' HI' e0 e60
  · have K0 : k = 0 := by first | exact c202 | exact Classical.not_not.mp c202
    refine pw_aload_n (pc2 := 206) dL_law_205 rfl rfl 5 rfl (by first | exact rf_ref _ | exact rf_opt _ | exact rf_nul) ?_
    refine pw_iconst (pc2 := 207) (v := 0) dL_law_206 rfl (by decide) ?_
    obtain ⟨f, hf, hf0⟩ := hk K0
    refine pw_lald (pc2 := 208) hf (by unfold vp_in; decide) dL_law_207 rfl ?_
    refine pw_iload (pc2 := 210) dL_law_208 rfl 0 rfl ?_
    refine pw_i2l (pc2 := 211) dL_law_210 rfl ?_
    refine pw_lcmp (pc2 := 212) dL_law_211 rfl ?_
    refine pw_if_eq (tgt := 217) (pc2 := 215) dL_law_212 (by decide) rfl (fun _ => ?_) (fun c212 => by exact absurd (lcmp_eq hf0) c212)
    refine pw_goto (tgt := 1820) dL_law_217 (by decide) ?_
    refine PW.sub (L2 := [(0, Value.ref sc), (1, Value.ref (A 0 0)), (2, Value.ref (A 60 0)), (3, Value.ref o), (4, Value.ref oD), (5, Value.int (nI (5 * c)))]) [2, 3, 4, 5, 6, 7] rfl ?_
    exact K h8 A' σ' ofr' HI' e0 e60
set_option maxHeartbeats 4000000 in
set_option maxRecDepth 100000 in
theorem lc_setSource (HI : INV G h A σ ofr o oD) (hd : 20 ≤ d) (hL : Ln ≤ 2560) (hc : 5 * c + 5 ≤ Ln) (K : ∀ (h8 : hp) (A' : aT) (σ' : sT) (ofr' : Nat → Nat), INV G h8 A' σ' ofr' o oD → A' 0 0 = A 0 0 → A' 60 0 = A 60 0 → PW G ML_law d (psX sc Ln xs) EL kc ks 1820 [(0, Value.ref sc), (1, Value.ref (A 0 0)), (2, Value.ref (A 60 0)), (3, Value.ref o), (4, Value.ref oD), (5, Value.int (nI (5 * c)))] [] h8) : PW G ML_law d (psX sc Ln xs) EL (kc + 40) (ks + 400) 220 [(0, Value.ref sc), (1, Value.ref (A 0 0)), (2, Value.ref (A 60 0)), (3, Value.ref o), (4, Value.ref oD), (5, Value.int (nI (5 * c)))] [] h := by
  refine pw_aload_n (pc2 := 221) dL_law_220 rfl rfl 1 rfl (by first | exact rf_ref _ | exact rf_opt _ | exact rf_nul) ?_
  refine pw_aload_n (pc2 := 222) dL_law_221 rfl rfl 0 rfl (by first | exact rf_ref _ | exact rf_opt _ | exact rf_nul) ?_
  refine pw_iload (pc2 := 224) dL_law_222 rfl 5 rfl ?_
  refine pw_iconst (pc2 := 225) (v := 1) dL_law_224 rfl (by decide) ?_
  refine pw_iadd (pc2 := 226) dL_law_225 rfl ?_
  refine pw_topE (nI_1 _) ?_
  refine pw_sld (pc2 := 227) (i := (5 * c) + 1) (by omega) (by omega) dL_law_226 rfl ?_
  refine pw_aload_n (pc2 := 228) dL_law_227 rfl rfl 0 rfl (by first | exact rf_ref _ | exact rf_opt _ | exact rf_nul) ?_
  refine pw_iload (pc2 := 230) dL_law_228 rfl 5 rfl ?_
  refine pw_iconst (pc2 := 231) (v := 2) dL_law_230 rfl (by decide) ?_
  refine pw_iadd (pc2 := 232) dL_law_231 rfl ?_
  refine pw_topE (nIa (5 * c) 2) ?_
  refine pw_sld (pc2 := 233) (i := 5 * c + 2) (by omega) (by omega) dL_law_232 rfl ?_
  refine pw_aload_n (pc2 := 234) dL_law_233 rfl rfl 0 rfl (by first | exact rf_ref _ | exact rf_opt _ | exact rf_nul) ?_
  refine pw_iload (pc2 := 236) dL_law_234 rfl 5 rfl ?_
  refine pw_iconst (pc2 := 237) (v := 3) dL_law_236 rfl (by decide) ?_
  refine pw_iadd (pc2 := 238) dL_law_237 rfl ?_
  refine pw_topE (nIa (5 * c) 3) ?_
  refine pw_sld (pc2 := 239) (i := 5 * c + 3) (by omega) (by omega) dL_law_238 rfl ?_
  refine pw_aload_n (pc2 := 240) dL_law_239 rfl rfl 3 rfl (by first | exact rf_ref _ | exact rf_opt _ | exact rf_nul) ?_
  obtain ⟨Qw, hw, hn⟩ := st_setSource HI (xs ((5 * c) + 1)) (xs (5 * c + 2)) (xs (5 * c + 3))
  refine PW.widen (kc' := (kc + 0) + (0 + 2)) (ks' := (ks + 0) + (0 + 12)) (by omega) (by omega) ?_
  refine pw_callS (kc := kc + 0) (ks := ks + 0) (pc2 := 243) hw cs_L_119 rfl dL_law_240 rfl (by omega) rfl (by first | decide | simp [cat_rf, Value.category]) (fun r9 h9 q9 => ?_) (fun Y h9 q9 => q9.elim)
  obtain ⟨k, rfl, ⟨fs, hfs⟩, Qm, hm, hn2⟩ := hn _ _ q9
  refine pw_istore (pc2 := 245) (L2 := [(6, Value.int k), (0, Value.ref sc), (1, Value.ref (A 0 0)), (2, Value.ref (A 60 0)), (3, Value.ref o), (4, Value.ref oD), (5, Value.int (nI (5 * c)))]) dL_law_243 rfl (by decide) rfl ?_
  refine pw_aload_n (pc2 := 246) dL_law_245 rfl rfl 3 rfl (by first | exact rf_ref _ | exact rf_opt _ | exact rf_nul) ?_
  refine pw_aload_n (pc2 := 247) dL_law_246 rfl rfl 1 rfl (by first | exact rf_ref _ | exact rf_opt _ | exact rf_nul) ?_
  refine pw_iload (pc2 := 249) dL_law_247 rfl 6 rfl ?_
  refine pw_iconst (pc2 := 250) (v := 1) dL_law_249 rfl (by decide) ?_
  refine pw_iadd (pc2 := 251) dL_law_250 rfl ?_
  refine pw_topE (nI_1 _) ?_
  refine pw_sld (pc2 := 252) (i := (5 * c) + 1) (by omega) (by omega) dL_law_251 rfl ?_
  refine pw_aload_n (pc2 := 253) dL_law_252 rfl rfl 1 rfl (by first | exact rf_ref _ | exact rf_opt _ | exact rf_nul) ?_
  refine pw_iload (pc2 := 255) dL_law_253 rfl 6 rfl ?_
  refine pw_iconst (pc2 := 256) (v := 2) dL_law_255 rfl (by decide) ?_
  refine pw_iadd (pc2 := 257) dL_law_256 rfl ?_
  refine pw_topE (nIa (5 * c) 2) ?_
  refine pw_sld (pc2 := 258) (i := 5 * c + 2) (by omega) (by omega) dL_law_257 rfl ?_
  refine pw_aload_n (pc2 := 259) dL_law_258 rfl rfl 1 rfl (by first | exact rf_ref _ | exact rf_opt _ | exact rf_nul) ?_
  refine pw_iload (pc2 := 261) dL_law_259 rfl 6 rfl ?_
  refine pw_iconst (pc2 := 262) (v := 3) dL_law_261 rfl (by decide) ?_
  refine pw_iadd (pc2 := 263) dL_law_262 rfl ?_
  refine pw_topE (nIa (5 * c) 3) ?_
  refine pw_sld (pc2 := 264) (i := 5 * c + 3) (by omega) (by omega) dL_law_263 rfl ?_
  refine pw_callV (kc := kc) (ks := ks) (pc2 := 267) hm cs_L_122 rfl rfl hfs dL_law_264 rfl (by omega) rfl (by first | decide | simp [cat_rf, Value.category]) (fun r8 h8 q8 => ?_) (fun Y h8 q8 => q8.elim)
  obtain ⟨b, rfl, A', σ', ofr', HI', e0, e60, h7, hk⟩ := hn2 _ _ q8
  refine pw_istore (pc2 := 269) (L2 := [(7, Value.int b), (6, Value.int k), (0, Value.ref sc), (1, Value.ref (A 0 0)), (2, Value.ref (A 60 0)), (3, Value.ref o), (4, Value.ref oD), (5, Value.int (nI (5 * c)))]) dL_law_267 rfl (by decide) rfl ?_
  refine pw_aload_n (pc2 := 270) dL_law_269 rfl rfl 4 rfl (by first | exact rf_ref _ | exact rf_opt _ | exact rf_nul) ?_
  have hT : PMet G MX10_thrown 0 0 0 [.ref (A 60 0)] h8 (det (some (.int k)) h8) noX := by have z := c_thrown G h8 HI'.1.wm; rw [e60, h7] at z; exact z
  have hR8 := HI'.1.c60
  rw [e60] at hR8
  refine pw_callV1 (kc := kc) (ks := ks) (pc2 := 273) hT cs_L_116 rfl rfl hR8 dL_law_270 rfl (by omega) rfl (by first | decide | simp [cat_rf, Value.category]) ?_
  refine pw_iload (pc2 := 275) dL_law_273 rfl 1 rfl ?_
  refine pw_icmp_eq (tgt := 280) (pc2 := 278) dL_law_275 (by decide) rfl (fun _ => ?_) (fun c275 => by exact absurd (rfl) c275)
  refine pw_iload (pc2 := 282) dL_law_280 rfl 1 rfl ?_
  refine pw_if_ne (tgt := 297) (pc2 := 285) dL_law_282 (by decide) rfl (fun c282 => ?_) (fun c282 => ?_)
  · refine pw_goto (tgt := 1820) dL_law_297 (by decide) ?_
    refine PW.sub (L2 := [(0, Value.ref sc), (1, Value.ref (A 0 0)), (2, Value.ref (A 60 0)), (3, Value.ref o), (4, Value.ref oD), (5, Value.int (nI (5 * c)))]) [2, 3, 4, 5, 6, 7] rfl ?_
    exact K h8 A' σ' ofr' HI' e0 e60
  · have K0 : k = 0 := by first | exact c282 | exact Classical.not_not.mp c282
    refine pw_aload_n (pc2 := 286) dL_law_285 rfl rfl 5 rfl (by first | exact rf_ref _ | exact rf_opt _ | exact rf_nul) ?_
    refine pw_iconst (pc2 := 287) (v := 0) dL_law_286 rfl (by decide) ?_
    obtain ⟨f, hf, hf0⟩ := hk K0
    refine pw_lald (pc2 := 288) hf (by unfold vp_in; decide) dL_law_287 rfl ?_
    refine pw_iload (pc2 := 290) dL_law_288 rfl 0 rfl ?_
    refine pw_i2l (pc2 := 291) dL_law_290 rfl ?_
    refine pw_lcmp (pc2 := 292) dL_law_291 rfl ?_
    refine pw_if_eq (tgt := 297) (pc2 := 295) dL_law_292 (by decide) rfl (fun _ => ?_) (fun c292 => by exact absurd (lcmp_eq hf0) c292)
    refine pw_goto (tgt := 1820) dL_law_297 (by decide) ?_
    refine PW.sub (L2 := [(0, Value.ref sc), (1, Value.ref (A 0 0)), (2, Value.ref (A 60 0)), (3, Value.ref o), (4, Value.ref oD), (5, Value.int (nI (5 * c)))]) [2, 3, 4, 5, 6, 7] rfl ?_
    exact K h8 A' σ' ofr' HI' e0 e60
set_option maxHeartbeats 4000000 in
set_option maxRecDepth 100000 in
theorem lc_need (HI : INV G h A σ ofr o oD) (hd : 20 ≤ d) (hL : Ln ≤ 2560) (hc : 5 * c + 5 ≤ Ln) (K : ∀ (h8 : hp) (A' : aT) (σ' : sT) (ofr' : Nat → Nat), INV G h8 A' σ' ofr' o oD → A' 0 0 = A 0 0 → A' 60 0 = A 60 0 → PW G ML_law d (psX sc Ln xs) EL kc ks 1820 [(0, Value.ref sc), (1, Value.ref (A 0 0)), (2, Value.ref (A 60 0)), (3, Value.ref o), (4, Value.ref oD), (5, Value.int (nI (5 * c)))] [] h8) : PW G ML_law d (psX sc Ln xs) EL (kc + 40) (ks + 400) 300 [(0, Value.ref sc), (1, Value.ref (A 0 0)), (2, Value.ref (A 60 0)), (3, Value.ref o), (4, Value.ref oD), (5, Value.int (nI (5 * c)))] [] h := by
  refine pw_aload_n (pc2 := 301) dL_law_300 rfl rfl 1 rfl (by first | exact rf_ref _ | exact rf_opt _ | exact rf_nul) ?_
  refine pw_aload_n (pc2 := 302) dL_law_301 rfl rfl 0 rfl (by first | exact rf_ref _ | exact rf_opt _ | exact rf_nul) ?_
  refine pw_iload (pc2 := 304) dL_law_302 rfl 5 rfl ?_
  refine pw_iconst (pc2 := 305) (v := 1) dL_law_304 rfl (by decide) ?_
  refine pw_iadd (pc2 := 306) dL_law_305 rfl ?_
  refine pw_topE (nI_1 _) ?_
  refine pw_sld (pc2 := 307) (i := (5 * c) + 1) (by omega) (by omega) dL_law_306 rfl ?_
  refine pw_aload_n (pc2 := 308) dL_law_307 rfl rfl 0 rfl (by first | exact rf_ref _ | exact rf_opt _ | exact rf_nul) ?_
  refine pw_iload (pc2 := 310) dL_law_308 rfl 5 rfl ?_
  refine pw_iconst (pc2 := 311) (v := 2) dL_law_310 rfl (by decide) ?_
  refine pw_iadd (pc2 := 312) dL_law_311 rfl ?_
  refine pw_topE (nIa (5 * c) 2) ?_
  refine pw_sld (pc2 := 313) (i := 5 * c + 2) (by omega) (by omega) dL_law_312 rfl ?_
  refine pw_aload_n (pc2 := 314) dL_law_313 rfl rfl 0 rfl (by first | exact rf_ref _ | exact rf_opt _ | exact rf_nul) ?_
  refine pw_iload (pc2 := 316) dL_law_314 rfl 5 rfl ?_
  refine pw_iconst (pc2 := 317) (v := 3) dL_law_316 rfl (by decide) ?_
  refine pw_iadd (pc2 := 318) dL_law_317 rfl ?_
  refine pw_topE (nIa (5 * c) 3) ?_
  refine pw_sld (pc2 := 319) (i := 5 * c + 3) (by omega) (by omega) dL_law_318 rfl ?_
  refine pw_aload_n (pc2 := 320) dL_law_319 rfl rfl 0 rfl (by first | exact rf_ref _ | exact rf_opt _ | exact rf_nul) ?_
  refine pw_iload (pc2 := 322) dL_law_320 rfl 5 rfl ?_
  refine pw_iconst (pc2 := 323) (v := 4) dL_law_322 rfl (by decide) ?_
  refine pw_iadd (pc2 := 324) dL_law_323 rfl ?_
  refine pw_topE (nIa (5 * c) 4) ?_
  refine pw_sld (pc2 := 325) (i := 5 * c + 4) (by omega) (by omega) dL_law_324 rfl ?_
  refine pw_aload_n (pc2 := 326) dL_law_325 rfl rfl 3 rfl (by first | exact rf_ref _ | exact rf_opt _ | exact rf_nul) ?_
  obtain ⟨Qw, hw, hn⟩ := st_need HI (xs ((5 * c) + 1)) (xs (5 * c + 2)) (xs (5 * c + 3)) (xs (5 * c + 4))
  refine PW.widen (kc' := (kc + 0) + (0 + 3)) (ks' := (ks + 0) + (0 + 18)) (by omega) (by omega) ?_
  refine pw_callS (kc := kc + 0) (ks := ks + 0) (pc2 := 329) hw cs_L_123 rfl dL_law_326 rfl (by omega) rfl (by first | decide | simp [cat_rf, Value.category]) (fun r9 h9 q9 => ?_) (fun Y h9 q9 => q9.elim)
  obtain ⟨k, rfl, ⟨fs, hfs⟩, Qm, hm, hn2⟩ := hn _ _ q9
  refine pw_istore (pc2 := 331) (L2 := [(6, Value.int k), (0, Value.ref sc), (1, Value.ref (A 0 0)), (2, Value.ref (A 60 0)), (3, Value.ref o), (4, Value.ref oD), (5, Value.int (nI (5 * c)))]) dL_law_329 rfl (by decide) rfl ?_
  refine pw_aload_n (pc2 := 332) dL_law_331 rfl rfl 3 rfl (by first | exact rf_ref _ | exact rf_opt _ | exact rf_nul) ?_
  refine pw_aload_n (pc2 := 333) dL_law_332 rfl rfl 1 rfl (by first | exact rf_ref _ | exact rf_opt _ | exact rf_nul) ?_
  refine pw_iload (pc2 := 335) dL_law_333 rfl 6 rfl ?_
  refine pw_iconst (pc2 := 336) (v := 1) dL_law_335 rfl (by decide) ?_
  refine pw_iadd (pc2 := 337) dL_law_336 rfl ?_
  refine pw_topE (nI_1 _) ?_
  refine pw_sld (pc2 := 338) (i := (5 * c) + 1) (by omega) (by omega) dL_law_337 rfl ?_
  refine pw_aload_n (pc2 := 339) dL_law_338 rfl rfl 1 rfl (by first | exact rf_ref _ | exact rf_opt _ | exact rf_nul) ?_
  refine pw_iload (pc2 := 341) dL_law_339 rfl 6 rfl ?_
  refine pw_iconst (pc2 := 342) (v := 2) dL_law_341 rfl (by decide) ?_
  refine pw_iadd (pc2 := 343) dL_law_342 rfl ?_
  refine pw_topE (nIa (5 * c) 2) ?_
  refine pw_sld (pc2 := 344) (i := 5 * c + 2) (by omega) (by omega) dL_law_343 rfl ?_
  refine pw_aload_n (pc2 := 345) dL_law_344 rfl rfl 1 rfl (by first | exact rf_ref _ | exact rf_opt _ | exact rf_nul) ?_
  refine pw_iload (pc2 := 347) dL_law_345 rfl 6 rfl ?_
  refine pw_iconst (pc2 := 348) (v := 3) dL_law_347 rfl (by decide) ?_
  refine pw_iadd (pc2 := 349) dL_law_348 rfl ?_
  refine pw_topE (nIa (5 * c) 3) ?_
  refine pw_sld (pc2 := 350) (i := 5 * c + 3) (by omega) (by omega) dL_law_349 rfl ?_
  refine pw_aload_n (pc2 := 351) dL_law_350 rfl rfl 1 rfl (by first | exact rf_ref _ | exact rf_opt _ | exact rf_nul) ?_
  refine pw_iload (pc2 := 353) dL_law_351 rfl 6 rfl ?_
  refine pw_iconst (pc2 := 354) (v := 4) dL_law_353 rfl (by decide) ?_
  refine pw_iadd (pc2 := 355) dL_law_354 rfl ?_
  refine pw_topE (nIa (5 * c) 4) ?_
  refine pw_sld (pc2 := 356) (i := 5 * c + 4) (by omega) (by omega) dL_law_355 rfl ?_
  refine pw_callV (kc := kc) (ks := ks) (pc2 := 359) hm cs_L_126 rfl rfl hfs dL_law_356 rfl (by omega) rfl (by first | decide | simp [cat_rf, Value.category]) (fun r8 h8 q8 => ?_) (fun Y h8 q8 => q8.elim)
  obtain ⟨b, rfl, A', σ', ofr', HI', e0, e60, h7, hk⟩ := hn2 _ _ q8
  refine pw_istore (pc2 := 361) (L2 := [(7, Value.int b), (6, Value.int k), (0, Value.ref sc), (1, Value.ref (A 0 0)), (2, Value.ref (A 60 0)), (3, Value.ref o), (4, Value.ref oD), (5, Value.int (nI (5 * c)))]) dL_law_359 rfl (by decide) rfl ?_
  refine pw_aload_n (pc2 := 362) dL_law_361 rfl rfl 4 rfl (by first | exact rf_ref _ | exact rf_opt _ | exact rf_nul) ?_
  have hT : PMet G MX10_thrown 0 0 0 [.ref (A 60 0)] h8 (det (some (.int k)) h8) noX := by have z := c_thrown G h8 HI'.1.wm; rw [e60, h7] at z; exact z
  have hR8 := HI'.1.c60
  rw [e60] at hR8
  refine pw_callV1 (kc := kc) (ks := ks) (pc2 := 365) hT cs_L_116 rfl rfl hR8 dL_law_362 rfl (by omega) rfl (by first | decide | simp [cat_rf, Value.category]) ?_
  refine pw_iload (pc2 := 367) dL_law_365 rfl 1 rfl ?_
  refine pw_icmp_eq (tgt := 372) (pc2 := 370) dL_law_367 (by decide) rfl (fun _ => ?_) (fun c367 => by exact absurd (rfl) c367)
  refine pw_iload (pc2 := 374) dL_law_372 rfl 1 rfl ?_
  refine pw_if_ne (tgt := 389) (pc2 := 377) dL_law_374 (by decide) rfl (fun c374 => ?_) (fun c374 => ?_)
  · refine pw_goto (tgt := 1820) dL_law_389 (by decide) ?_
    refine PW.sub (L2 := [(0, Value.ref sc), (1, Value.ref (A 0 0)), (2, Value.ref (A 60 0)), (3, Value.ref o), (4, Value.ref oD), (5, Value.int (nI (5 * c)))]) [2, 3, 4, 5, 6, 7] rfl ?_
    exact K h8 A' σ' ofr' HI' e0 e60
  · have K0 : k = 0 := by first | exact c374 | exact Classical.not_not.mp c374
    refine pw_aload_n (pc2 := 378) dL_law_377 rfl rfl 5 rfl (by first | exact rf_ref _ | exact rf_opt _ | exact rf_nul) ?_
    refine pw_iconst (pc2 := 379) (v := 0) dL_law_378 rfl (by decide) ?_
    obtain ⟨f, hf, hf0⟩ := hk K0
    refine pw_lald (pc2 := 380) hf (by unfold vp_in; decide) dL_law_379 rfl ?_
    refine pw_iload (pc2 := 382) dL_law_380 rfl 0 rfl ?_
    refine pw_i2l (pc2 := 383) dL_law_382 rfl ?_
    refine pw_lcmp (pc2 := 384) dL_law_383 rfl ?_
    refine pw_if_eq (tgt := 389) (pc2 := 387) dL_law_384 (by decide) rfl (fun _ => ?_) (fun c384 => by exact absurd (lcmp_eq hf0) c384)
    refine pw_goto (tgt := 1820) dL_law_389 (by decide) ?_
    refine PW.sub (L2 := [(0, Value.ref sc), (1, Value.ref (A 0 0)), (2, Value.ref (A 60 0)), (3, Value.ref o), (4, Value.ref oD), (5, Value.int (nI (5 * c)))]) [2, 3, 4, 5, 6, 7] rfl ?_
    exact K h8 A' σ' ofr' HI' e0 e60
set_option maxHeartbeats 4000000 in
set_option maxRecDepth 100000 in
theorem lc_dropNeed (HI : INV G h A σ ofr o oD) (hd : 20 ≤ d) (hL : Ln ≤ 2560) (hc : 5 * c + 5 ≤ Ln) (K : ∀ (h8 : hp) (A' : aT) (σ' : sT) (ofr' : Nat → Nat), INV G h8 A' σ' ofr' o oD → A' 0 0 = A 0 0 → A' 60 0 = A 60 0 → PW G ML_law d (psX sc Ln xs) EL kc ks 1820 [(0, Value.ref sc), (1, Value.ref (A 0 0)), (2, Value.ref (A 60 0)), (3, Value.ref o), (4, Value.ref oD), (5, Value.int (nI (5 * c)))] [] h8) : PW G ML_law d (psX sc Ln xs) EL (kc + 40) (ks + 400) 392 [(0, Value.ref sc), (1, Value.ref (A 0 0)), (2, Value.ref (A 60 0)), (3, Value.ref o), (4, Value.ref oD), (5, Value.int (nI (5 * c)))] [] h := by
  refine pw_aload_n (pc2 := 393) dL_law_392 rfl rfl 1 rfl (by first | exact rf_ref _ | exact rf_opt _ | exact rf_nul) ?_
  refine pw_aload_n (pc2 := 394) dL_law_393 rfl rfl 0 rfl (by first | exact rf_ref _ | exact rf_opt _ | exact rf_nul) ?_
  refine pw_iload (pc2 := 396) dL_law_394 rfl 5 rfl ?_
  refine pw_iconst (pc2 := 397) (v := 1) dL_law_396 rfl (by decide) ?_
  refine pw_iadd (pc2 := 398) dL_law_397 rfl ?_
  refine pw_topE (nI_1 _) ?_
  refine pw_sld (pc2 := 399) (i := (5 * c) + 1) (by omega) (by omega) dL_law_398 rfl ?_
  refine pw_aload_n (pc2 := 400) dL_law_399 rfl rfl 0 rfl (by first | exact rf_ref _ | exact rf_opt _ | exact rf_nul) ?_
  refine pw_iload (pc2 := 402) dL_law_400 rfl 5 rfl ?_
  refine pw_iconst (pc2 := 403) (v := 2) dL_law_402 rfl (by decide) ?_
  refine pw_iadd (pc2 := 404) dL_law_403 rfl ?_
  refine pw_topE (nIa (5 * c) 2) ?_
  refine pw_sld (pc2 := 405) (i := 5 * c + 2) (by omega) (by omega) dL_law_404 rfl ?_
  refine pw_aload_n (pc2 := 406) dL_law_405 rfl rfl 3 rfl (by first | exact rf_ref _ | exact rf_opt _ | exact rf_nul) ?_
  obtain ⟨Qw, hw, hn⟩ := st_dropNeed HI (xs ((5 * c) + 1)) (xs (5 * c + 2))
  refine PW.widen (kc' := (kc + 0) + (0 + 3)) (ks' := (ks + 0) + (0 + 18)) (by omega) (by omega) ?_
  refine pw_callS (kc := kc + 0) (ks := ks + 0) (pc2 := 409) hw cs_L_127 rfl dL_law_406 rfl (by omega) rfl (by first | decide | simp [cat_rf, Value.category]) (fun r9 h9 q9 => ?_) (fun Y h9 q9 => q9.elim)
  obtain ⟨k, rfl, ⟨fs, hfs⟩, Qm, hm, hn2⟩ := hn _ _ q9
  refine pw_istore (pc2 := 411) (L2 := [(6, Value.int k), (0, Value.ref sc), (1, Value.ref (A 0 0)), (2, Value.ref (A 60 0)), (3, Value.ref o), (4, Value.ref oD), (5, Value.int (nI (5 * c)))]) dL_law_409 rfl (by decide) rfl ?_
  refine pw_aload_n (pc2 := 412) dL_law_411 rfl rfl 3 rfl (by first | exact rf_ref _ | exact rf_opt _ | exact rf_nul) ?_
  refine pw_aload_n (pc2 := 413) dL_law_412 rfl rfl 1 rfl (by first | exact rf_ref _ | exact rf_opt _ | exact rf_nul) ?_
  refine pw_iload (pc2 := 415) dL_law_413 rfl 6 rfl ?_
  refine pw_iconst (pc2 := 416) (v := 1) dL_law_415 rfl (by decide) ?_
  refine pw_iadd (pc2 := 417) dL_law_416 rfl ?_
  refine pw_topE (nI_1 _) ?_
  refine pw_sld (pc2 := 418) (i := (5 * c) + 1) (by omega) (by omega) dL_law_417 rfl ?_
  refine pw_aload_n (pc2 := 419) dL_law_418 rfl rfl 1 rfl (by first | exact rf_ref _ | exact rf_opt _ | exact rf_nul) ?_
  refine pw_iload (pc2 := 421) dL_law_419 rfl 6 rfl ?_
  refine pw_iconst (pc2 := 422) (v := 2) dL_law_421 rfl (by decide) ?_
  refine pw_iadd (pc2 := 423) dL_law_422 rfl ?_
  refine pw_topE (nIa (5 * c) 2) ?_
  refine pw_sld (pc2 := 424) (i := 5 * c + 2) (by omega) (by omega) dL_law_423 rfl ?_
  refine pw_callV (kc := kc) (ks := ks) (pc2 := 427) hm cs_L_130 rfl rfl hfs dL_law_424 rfl (by omega) rfl (by first | decide | simp [cat_rf, Value.category]) (fun r8 h8 q8 => ?_) (fun Y h8 q8 => q8.elim)
  obtain ⟨b, rfl, A', σ', ofr', HI', e0, e60, h7, hk⟩ := hn2 _ _ q8
  refine pw_istore (pc2 := 429) (L2 := [(7, Value.int b), (6, Value.int k), (0, Value.ref sc), (1, Value.ref (A 0 0)), (2, Value.ref (A 60 0)), (3, Value.ref o), (4, Value.ref oD), (5, Value.int (nI (5 * c)))]) dL_law_427 rfl (by decide) rfl ?_
  refine pw_aload_n (pc2 := 430) dL_law_429 rfl rfl 4 rfl (by first | exact rf_ref _ | exact rf_opt _ | exact rf_nul) ?_
  have hT : PMet G MX10_thrown 0 0 0 [.ref (A 60 0)] h8 (det (some (.int k)) h8) noX := by have z := c_thrown G h8 HI'.1.wm; rw [e60, h7] at z; exact z
  have hR8 := HI'.1.c60
  rw [e60] at hR8
  refine pw_callV1 (kc := kc) (ks := ks) (pc2 := 433) hT cs_L_116 rfl rfl hR8 dL_law_430 rfl (by omega) rfl (by first | decide | simp [cat_rf, Value.category]) ?_
  refine pw_iload (pc2 := 435) dL_law_433 rfl 1 rfl ?_
  refine pw_icmp_eq (tgt := 440) (pc2 := 438) dL_law_435 (by decide) rfl (fun _ => ?_) (fun c435 => by exact absurd (rfl) c435)
  refine pw_iload (pc2 := 442) dL_law_440 rfl 1 rfl ?_
  refine pw_if_ne (tgt := 457) (pc2 := 445) dL_law_442 (by decide) rfl (fun c442 => ?_) (fun c442 => ?_)
  · refine pw_goto (tgt := 1820) dL_law_457 (by decide) ?_
    refine PW.sub (L2 := [(0, Value.ref sc), (1, Value.ref (A 0 0)), (2, Value.ref (A 60 0)), (3, Value.ref o), (4, Value.ref oD), (5, Value.int (nI (5 * c)))]) [2, 3, 4, 5, 6, 7] rfl ?_
    exact K h8 A' σ' ofr' HI' e0 e60
  · have K0 : k = 0 := by first | exact c442 | exact Classical.not_not.mp c442
    refine pw_aload_n (pc2 := 446) dL_law_445 rfl rfl 5 rfl (by first | exact rf_ref _ | exact rf_opt _ | exact rf_nul) ?_
    refine pw_iconst (pc2 := 447) (v := 0) dL_law_446 rfl (by decide) ?_
    obtain ⟨f, hf, hf0⟩ := hk K0
    refine pw_lald (pc2 := 448) hf (by unfold vp_in; decide) dL_law_447 rfl ?_
    refine pw_iload (pc2 := 450) dL_law_448 rfl 0 rfl ?_
    refine pw_i2l (pc2 := 451) dL_law_450 rfl ?_
    refine pw_lcmp (pc2 := 452) dL_law_451 rfl ?_
    refine pw_if_eq (tgt := 457) (pc2 := 455) dL_law_452 (by decide) rfl (fun _ => ?_) (fun c452 => by exact absurd (lcmp_eq hf0) c452)
    refine pw_goto (tgt := 1820) dL_law_457 (by decide) ?_
    refine PW.sub (L2 := [(0, Value.ref sc), (1, Value.ref (A 0 0)), (2, Value.ref (A 60 0)), (3, Value.ref o), (4, Value.ref oD), (5, Value.int (nI (5 * c)))]) [2, 3, 4, 5, 6, 7] rfl ?_
    exact K h8 A' σ' ofr' HI' e0 e60
set_option maxHeartbeats 4000000 in
set_option maxRecDepth 100000 in
theorem lc_chosen (HI : INV G h A σ ofr o oD) (hd : 20 ≤ d) (hL : Ln ≤ 2560) (hc : 5 * c + 5 ≤ Ln) (K : ∀ (h8 : hp) (A' : aT) (σ' : sT) (ofr' : Nat → Nat), INV G h8 A' σ' ofr' o oD → A' 0 0 = A 0 0 → A' 60 0 = A 60 0 → PW G ML_law d (psX sc Ln xs) EL kc ks 1820 [(0, Value.ref sc), (1, Value.ref (A 0 0)), (2, Value.ref (A 60 0)), (3, Value.ref o), (4, Value.ref oD), (5, Value.int (nI (5 * c)))] [] h8) : PW G ML_law d (psX sc Ln xs) EL (kc + 40) (ks + 400) 460 [(0, Value.ref sc), (1, Value.ref (A 0 0)), (2, Value.ref (A 60 0)), (3, Value.ref o), (4, Value.ref oD), (5, Value.int (nI (5 * c)))] [] h := by
  refine pw_aload_n (pc2 := 461) dL_law_460 rfl rfl 1 rfl (by first | exact rf_ref _ | exact rf_opt _ | exact rf_nul) ?_
  refine pw_aload_n (pc2 := 462) dL_law_461 rfl rfl 0 rfl (by first | exact rf_ref _ | exact rf_opt _ | exact rf_nul) ?_
  refine pw_iload (pc2 := 464) dL_law_462 rfl 5 rfl ?_
  refine pw_iconst (pc2 := 465) (v := 1) dL_law_464 rfl (by decide) ?_
  refine pw_iadd (pc2 := 466) dL_law_465 rfl ?_
  refine pw_topE (nI_1 _) ?_
  refine pw_sld (pc2 := 467) (i := (5 * c) + 1) (by omega) (by omega) dL_law_466 rfl ?_
  refine pw_aload_n (pc2 := 468) dL_law_467 rfl rfl 0 rfl (by first | exact rf_ref _ | exact rf_opt _ | exact rf_nul) ?_
  refine pw_iload (pc2 := 470) dL_law_468 rfl 5 rfl ?_
  refine pw_iconst (pc2 := 471) (v := 2) dL_law_470 rfl (by decide) ?_
  refine pw_iadd (pc2 := 472) dL_law_471 rfl ?_
  refine pw_topE (nIa (5 * c) 2) ?_
  refine pw_sld (pc2 := 473) (i := 5 * c + 2) (by omega) (by omega) dL_law_472 rfl ?_
  refine pw_aload_n (pc2 := 474) dL_law_473 rfl rfl 3 rfl (by first | exact rf_ref _ | exact rf_opt _ | exact rf_nul) ?_
  obtain ⟨Qw, hw, hn⟩ := st_chosen HI (xs ((5 * c) + 1)) (xs (5 * c + 2))
  refine PW.widen (kc' := (kc + 0) + (0 + 3)) (ks' := (ks + 0) + (0 + 18)) (by omega) (by omega) ?_
  refine pw_callS (kc := kc + 0) (ks := ks + 0) (pc2 := 477) hw cs_L_131 rfl dL_law_474 rfl (by omega) rfl (by first | decide | simp [cat_rf, Value.category]) (fun r9 h9 q9 => ?_) (fun Y h9 q9 => q9.elim)
  obtain ⟨k, rfl, ⟨fs, hfs⟩, Qm, hm, hn2⟩ := hn _ _ q9
  refine pw_istore (pc2 := 479) (L2 := [(6, Value.int k), (0, Value.ref sc), (1, Value.ref (A 0 0)), (2, Value.ref (A 60 0)), (3, Value.ref o), (4, Value.ref oD), (5, Value.int (nI (5 * c)))]) dL_law_477 rfl (by decide) rfl ?_
  refine pw_aload_n (pc2 := 480) dL_law_479 rfl rfl 3 rfl (by first | exact rf_ref _ | exact rf_opt _ | exact rf_nul) ?_
  refine pw_aload_n (pc2 := 481) dL_law_480 rfl rfl 1 rfl (by first | exact rf_ref _ | exact rf_opt _ | exact rf_nul) ?_
  refine pw_iload (pc2 := 483) dL_law_481 rfl 6 rfl ?_
  refine pw_iconst (pc2 := 484) (v := 1) dL_law_483 rfl (by decide) ?_
  refine pw_iadd (pc2 := 485) dL_law_484 rfl ?_
  refine pw_topE (nI_1 _) ?_
  refine pw_sld (pc2 := 486) (i := (5 * c) + 1) (by omega) (by omega) dL_law_485 rfl ?_
  refine pw_aload_n (pc2 := 487) dL_law_486 rfl rfl 1 rfl (by first | exact rf_ref _ | exact rf_opt _ | exact rf_nul) ?_
  refine pw_iload (pc2 := 489) dL_law_487 rfl 6 rfl ?_
  refine pw_iconst (pc2 := 490) (v := 2) dL_law_489 rfl (by decide) ?_
  refine pw_iadd (pc2 := 491) dL_law_490 rfl ?_
  refine pw_topE (nIa (5 * c) 2) ?_
  refine pw_sld (pc2 := 492) (i := 5 * c + 2) (by omega) (by omega) dL_law_491 rfl ?_
  refine pw_callV (kc := kc) (ks := ks) (pc2 := 495) hm cs_L_133 rfl rfl hfs dL_law_492 rfl (by omega) rfl (by first | decide | simp [cat_rf, Value.category]) (fun r8 h8 q8 => ?_) (fun Y h8 q8 => q8.elim)
  obtain ⟨b, rfl, A', σ', ofr', HI', e0, e60, h7, hk⟩ := hn2 _ _ q8
  refine pw_istore (pc2 := 497) (L2 := [(7, Value.int b), (6, Value.int k), (0, Value.ref sc), (1, Value.ref (A 0 0)), (2, Value.ref (A 60 0)), (3, Value.ref o), (4, Value.ref oD), (5, Value.int (nI (5 * c)))]) dL_law_495 rfl (by decide) rfl ?_
  refine pw_aload_n (pc2 := 498) dL_law_497 rfl rfl 4 rfl (by first | exact rf_ref _ | exact rf_opt _ | exact rf_nul) ?_
  have hT : PMet G MX10_thrown 0 0 0 [.ref (A 60 0)] h8 (det (some (.int k)) h8) noX := by have z := c_thrown G h8 HI'.1.wm; rw [e60, h7] at z; exact z
  have hR8 := HI'.1.c60
  rw [e60] at hR8
  refine pw_callV1 (kc := kc) (ks := ks) (pc2 := 501) hT cs_L_116 rfl rfl hR8 dL_law_498 rfl (by omega) rfl (by first | decide | simp [cat_rf, Value.category]) ?_
  refine pw_iload (pc2 := 503) dL_law_501 rfl 1 rfl ?_
  refine pw_icmp_eq (tgt := 508) (pc2 := 506) dL_law_503 (by decide) rfl (fun _ => ?_) (fun c503 => by exact absurd (rfl) c503)
  refine pw_iload (pc2 := 510) dL_law_508 rfl 1 rfl ?_
  refine pw_if_ne (tgt := 525) (pc2 := 513) dL_law_510 (by decide) rfl (fun c510 => ?_) (fun c510 => ?_)
  · refine pw_goto (tgt := 1820) dL_law_525 (by decide) ?_
    refine PW.sub (L2 := [(0, Value.ref sc), (1, Value.ref (A 0 0)), (2, Value.ref (A 60 0)), (3, Value.ref o), (4, Value.ref oD), (5, Value.int (nI (5 * c)))]) [2, 3, 4, 5, 6, 7] rfl ?_
    exact K h8 A' σ' ofr' HI' e0 e60
  · have K0 : k = 0 := by first | exact c510 | exact Classical.not_not.mp c510
    refine pw_aload_n (pc2 := 514) dL_law_513 rfl rfl 5 rfl (by first | exact rf_ref _ | exact rf_opt _ | exact rf_nul) ?_
    refine pw_iconst (pc2 := 515) (v := 0) dL_law_514 rfl (by decide) ?_
    obtain ⟨f, hf, hf0⟩ := hk K0
    refine pw_lald (pc2 := 516) hf (by unfold vp_in; decide) dL_law_515 rfl ?_
    refine pw_iload (pc2 := 518) dL_law_516 rfl 0 rfl ?_
    refine pw_i2l (pc2 := 519) dL_law_518 rfl ?_
    refine pw_lcmp (pc2 := 520) dL_law_519 rfl ?_
    refine pw_if_eq (tgt := 525) (pc2 := 523) dL_law_520 (by decide) rfl (fun _ => ?_) (fun c520 => by exact absurd (lcmp_eq hf0) c520)
    refine pw_goto (tgt := 1820) dL_law_525 (by decide) ?_
    refine PW.sub (L2 := [(0, Value.ref sc), (1, Value.ref (A 0 0)), (2, Value.ref (A 60 0)), (3, Value.ref o), (4, Value.ref oD), (5, Value.int (nI (5 * c)))]) [2, 3, 4, 5, 6, 7] rfl ?_
    exact K h8 A' σ' ofr' HI' e0 e60
set_option maxHeartbeats 4000000 in
set_option maxRecDepth 100000 in
theorem lc_chosenByAll (HI : INV G h A σ ofr o oD) (hd : 20 ≤ d) (hL : Ln ≤ 2560) (hc : 5 * c + 5 ≤ Ln) (K : ∀ (h8 : hp) (A' : aT) (σ' : sT) (ofr' : Nat → Nat), INV G h8 A' σ' ofr' o oD → A' 0 0 = A 0 0 → A' 60 0 = A 60 0 → PW G ML_law d (psX sc Ln xs) EL kc ks 1820 [(0, Value.ref sc), (1, Value.ref (A 0 0)), (2, Value.ref (A 60 0)), (3, Value.ref o), (4, Value.ref oD), (5, Value.int (nI (5 * c)))] [] h8) : PW G ML_law d (psX sc Ln xs) EL (kc + 40) (ks + 400) 528 [(0, Value.ref sc), (1, Value.ref (A 0 0)), (2, Value.ref (A 60 0)), (3, Value.ref o), (4, Value.ref oD), (5, Value.int (nI (5 * c)))] [] h := by
  refine pw_aload_n (pc2 := 529) dL_law_528 rfl rfl 1 rfl (by first | exact rf_ref _ | exact rf_opt _ | exact rf_nul) ?_
  refine pw_aload_n (pc2 := 530) dL_law_529 rfl rfl 0 rfl (by first | exact rf_ref _ | exact rf_opt _ | exact rf_nul) ?_
  refine pw_iload (pc2 := 532) dL_law_530 rfl 5 rfl ?_
  refine pw_iconst (pc2 := 533) (v := 1) dL_law_532 rfl (by decide) ?_
  refine pw_iadd (pc2 := 534) dL_law_533 rfl ?_
  refine pw_topE (nI_1 _) ?_
  refine pw_sld (pc2 := 535) (i := (5 * c) + 1) (by omega) (by omega) dL_law_534 rfl ?_
  refine pw_aload_n (pc2 := 536) dL_law_535 rfl rfl 0 rfl (by first | exact rf_ref _ | exact rf_opt _ | exact rf_nul) ?_
  refine pw_iload (pc2 := 538) dL_law_536 rfl 5 rfl ?_
  refine pw_iconst (pc2 := 539) (v := 2) dL_law_538 rfl (by decide) ?_
  refine pw_iadd (pc2 := 540) dL_law_539 rfl ?_
  refine pw_topE (nIa (5 * c) 2) ?_
  refine pw_sld (pc2 := 541) (i := 5 * c + 2) (by omega) (by omega) dL_law_540 rfl ?_
  refine pw_aload_n (pc2 := 542) dL_law_541 rfl rfl 3 rfl (by first | exact rf_ref _ | exact rf_opt _ | exact rf_nul) ?_
  obtain ⟨Qw, hw, hn⟩ := st_chosenByAll HI (xs ((5 * c) + 1)) (xs (5 * c + 2))
  refine PW.widen (kc' := (kc + 0) + (0 + 3)) (ks' := (ks + 0) + (0 + 18)) (by omega) (by omega) ?_
  refine pw_callS (kc := kc + 0) (ks := ks + 0) (pc2 := 545) hw cs_L_134 rfl dL_law_542 rfl (by omega) rfl (by first | decide | simp [cat_rf, Value.category]) (fun r9 h9 q9 => ?_) (fun Y h9 q9 => q9.elim)
  obtain ⟨k, rfl, ⟨fs, hfs⟩, Qm, hm, hn2⟩ := hn _ _ q9
  refine pw_istore (pc2 := 547) (L2 := [(6, Value.int k), (0, Value.ref sc), (1, Value.ref (A 0 0)), (2, Value.ref (A 60 0)), (3, Value.ref o), (4, Value.ref oD), (5, Value.int (nI (5 * c)))]) dL_law_545 rfl (by decide) rfl ?_
  refine pw_aload_n (pc2 := 548) dL_law_547 rfl rfl 3 rfl (by first | exact rf_ref _ | exact rf_opt _ | exact rf_nul) ?_
  refine pw_aload_n (pc2 := 549) dL_law_548 rfl rfl 1 rfl (by first | exact rf_ref _ | exact rf_opt _ | exact rf_nul) ?_
  refine pw_iload (pc2 := 551) dL_law_549 rfl 6 rfl ?_
  refine pw_iconst (pc2 := 552) (v := 1) dL_law_551 rfl (by decide) ?_
  refine pw_iadd (pc2 := 553) dL_law_552 rfl ?_
  refine pw_topE (nI_1 _) ?_
  refine pw_sld (pc2 := 554) (i := (5 * c) + 1) (by omega) (by omega) dL_law_553 rfl ?_
  refine pw_aload_n (pc2 := 555) dL_law_554 rfl rfl 1 rfl (by first | exact rf_ref _ | exact rf_opt _ | exact rf_nul) ?_
  refine pw_iload (pc2 := 557) dL_law_555 rfl 6 rfl ?_
  refine pw_iconst (pc2 := 558) (v := 2) dL_law_557 rfl (by decide) ?_
  refine pw_iadd (pc2 := 559) dL_law_558 rfl ?_
  refine pw_topE (nIa (5 * c) 2) ?_
  refine pw_sld (pc2 := 560) (i := 5 * c + 2) (by omega) (by omega) dL_law_559 rfl ?_
  refine pw_callV (kc := kc) (ks := ks) (pc2 := 563) hm cs_L_136 rfl rfl hfs dL_law_560 rfl (by omega) rfl (by first | decide | simp [cat_rf, Value.category]) (fun r8 h8 q8 => ?_) (fun Y h8 q8 => q8.elim)
  obtain ⟨b, rfl, A', σ', ofr', HI', e0, e60, h7, hk⟩ := hn2 _ _ q8
  refine pw_istore (pc2 := 565) (L2 := [(7, Value.int b), (6, Value.int k), (0, Value.ref sc), (1, Value.ref (A 0 0)), (2, Value.ref (A 60 0)), (3, Value.ref o), (4, Value.ref oD), (5, Value.int (nI (5 * c)))]) dL_law_563 rfl (by decide) rfl ?_
  refine pw_aload_n (pc2 := 566) dL_law_565 rfl rfl 4 rfl (by first | exact rf_ref _ | exact rf_opt _ | exact rf_nul) ?_
  have hT : PMet G MX10_thrown 0 0 0 [.ref (A 60 0)] h8 (det (some (.int k)) h8) noX := by have z := c_thrown G h8 HI'.1.wm; rw [e60, h7] at z; exact z
  have hR8 := HI'.1.c60
  rw [e60] at hR8
  refine pw_callV1 (kc := kc) (ks := ks) (pc2 := 569) hT cs_L_116 rfl rfl hR8 dL_law_566 rfl (by omega) rfl (by first | decide | simp [cat_rf, Value.category]) ?_
  refine pw_iload (pc2 := 571) dL_law_569 rfl 1 rfl ?_
  refine pw_icmp_eq (tgt := 576) (pc2 := 574) dL_law_571 (by decide) rfl (fun _ => ?_) (fun c571 => by exact absurd (rfl) c571)
  refine pw_iload (pc2 := 578) dL_law_576 rfl 1 rfl ?_
  refine pw_if_ne (tgt := 593) (pc2 := 581) dL_law_578 (by decide) rfl (fun c578 => ?_) (fun c578 => ?_)
  · refine pw_goto (tgt := 1820) dL_law_593 (by decide) ?_
    refine PW.sub (L2 := [(0, Value.ref sc), (1, Value.ref (A 0 0)), (2, Value.ref (A 60 0)), (3, Value.ref o), (4, Value.ref oD), (5, Value.int (nI (5 * c)))]) [2, 3, 4, 5, 6, 7] rfl ?_
    exact K h8 A' σ' ofr' HI' e0 e60
  · have K0 : k = 0 := by first | exact c578 | exact Classical.not_not.mp c578
    refine pw_aload_n (pc2 := 582) dL_law_581 rfl rfl 5 rfl (by first | exact rf_ref _ | exact rf_opt _ | exact rf_nul) ?_
    refine pw_iconst (pc2 := 583) (v := 0) dL_law_582 rfl (by decide) ?_
    obtain ⟨f, hf, hf0⟩ := hk K0
    refine pw_lald (pc2 := 584) hf (by unfold vp_in; decide) dL_law_583 rfl ?_
    refine pw_iload (pc2 := 586) dL_law_584 rfl 0 rfl ?_
    refine pw_i2l (pc2 := 587) dL_law_586 rfl ?_
    refine pw_lcmp (pc2 := 588) dL_law_587 rfl ?_
    refine pw_if_eq (tgt := 593) (pc2 := 591) dL_law_588 (by decide) rfl (fun _ => ?_) (fun c588 => by exact absurd (lcmp_eq hf0) c588)
    refine pw_goto (tgt := 1820) dL_law_593 (by decide) ?_
    refine PW.sub (L2 := [(0, Value.ref sc), (1, Value.ref (A 0 0)), (2, Value.ref (A 60 0)), (3, Value.ref o), (4, Value.ref oD), (5, Value.int (nI (5 * c)))]) [2, 3, 4, 5, 6, 7] rfl ?_
    exact K h8 A' σ' ofr' HI' e0 e60
set_option maxHeartbeats 4000000 in
set_option maxRecDepth 100000 in
theorem lc_compile (HI : INV G h A σ ofr o oD) (hd : 20 ≤ d) (hL : Ln ≤ 2560) (hc : 5 * c + 5 ≤ Ln) (K : ∀ (h8 : hp) (A' : aT) (σ' : sT) (ofr' : Nat → Nat), INV G h8 A' σ' ofr' o oD → A' 0 0 = A 0 0 → A' 60 0 = A 60 0 → PW G ML_law d (psX sc Ln xs) EL kc ks 1820 [(0, Value.ref sc), (1, Value.ref (A 0 0)), (2, Value.ref (A 60 0)), (3, Value.ref o), (4, Value.ref oD), (5, Value.int (nI (5 * c)))] [] h8) : PW G ML_law d (psX sc Ln xs) EL (kc + 40) (ks + 400) 596 [(0, Value.ref sc), (1, Value.ref (A 0 0)), (2, Value.ref (A 60 0)), (3, Value.ref o), (4, Value.ref oD), (5, Value.int (nI (5 * c)))] [] h := by
  refine pw_aload_n (pc2 := 597) dL_law_596 rfl rfl 1 rfl (by first | exact rf_ref _ | exact rf_opt _ | exact rf_nul) ?_
  refine pw_aload_n (pc2 := 598) dL_law_597 rfl rfl 0 rfl (by first | exact rf_ref _ | exact rf_opt _ | exact rf_nul) ?_
  refine pw_iload (pc2 := 600) dL_law_598 rfl 5 rfl ?_
  refine pw_iconst (pc2 := 601) (v := 1) dL_law_600 rfl (by decide) ?_
  refine pw_iadd (pc2 := 602) dL_law_601 rfl ?_
  refine pw_topE (nI_1 _) ?_
  refine pw_sld (pc2 := 603) (i := (5 * c) + 1) (by omega) (by omega) dL_law_602 rfl ?_
  refine pw_aload_n (pc2 := 604) dL_law_603 rfl rfl 3 rfl (by first | exact rf_ref _ | exact rf_opt _ | exact rf_nul) ?_
  obtain ⟨Qw, hw, hn⟩ := st_compile HI (xs ((5 * c) + 1))
  refine PW.widen (kc' := (kc + 0) + (0 + 2)) (ks' := (ks + 0) + (0 + 12)) (by omega) (by omega) ?_
  refine pw_callS (kc := kc + 0) (ks := ks + 0) (pc2 := 607) hw cs_L_137 rfl dL_law_604 rfl (by omega) rfl (by first | decide | simp [cat_rf, Value.category]) (fun r9 h9 q9 => ?_) (fun Y h9 q9 => q9.elim)
  obtain ⟨k, rfl, ⟨fs, hfs⟩, Qm, hm, hn2⟩ := hn _ _ q9
  refine pw_istore (pc2 := 609) (L2 := [(6, Value.int k), (0, Value.ref sc), (1, Value.ref (A 0 0)), (2, Value.ref (A 60 0)), (3, Value.ref o), (4, Value.ref oD), (5, Value.int (nI (5 * c)))]) dL_law_607 rfl (by decide) rfl ?_
  refine pw_aload_n (pc2 := 610) dL_law_609 rfl rfl 3 rfl (by first | exact rf_ref _ | exact rf_opt _ | exact rf_nul) ?_
  refine pw_aload_n (pc2 := 611) dL_law_610 rfl rfl 1 rfl (by first | exact rf_ref _ | exact rf_opt _ | exact rf_nul) ?_
  refine pw_iload (pc2 := 613) dL_law_611 rfl 6 rfl ?_
  refine pw_iconst (pc2 := 614) (v := 1) dL_law_613 rfl (by decide) ?_
  refine pw_iadd (pc2 := 615) dL_law_614 rfl ?_
  refine pw_topE (nI_1 _) ?_
  refine pw_sld (pc2 := 616) (i := (5 * c) + 1) (by omega) (by omega) dL_law_615 rfl ?_
  refine pw_callV (kc := kc) (ks := ks) (pc2 := 619) hm cs_L_139 rfl rfl hfs dL_law_616 rfl (by omega) rfl (by first | decide | simp [cat_rf, Value.category]) (fun r8 h8 q8 => ?_) (fun Y h8 q8 => q8.elim)
  obtain ⟨b, rfl, hb01, A', σ', ofr', HI', e0, e60, h7, hk⟩ := hn2 _ _ q8
  refine pw_istore (pc2 := 621) (L2 := [(7, Value.int b), (6, Value.int k), (0, Value.ref sc), (1, Value.ref (A 0 0)), (2, Value.ref (A 60 0)), (3, Value.ref o), (4, Value.ref oD), (5, Value.int (nI (5 * c)))]) dL_law_619 rfl (by decide) rfl ?_
  refine pw_aload_n (pc2 := 622) dL_law_621 rfl rfl 4 rfl (by first | exact rf_ref _ | exact rf_opt _ | exact rf_nul) ?_
  have hT : PMet G MX10_thrown 0 0 0 [.ref (A 60 0)] h8 (det (some (.int k)) h8) noX := by have z := c_thrown G h8 HI'.1.wm; rw [e60, h7] at z; exact z
  have hR8 := HI'.1.c60
  rw [e60] at hR8
  refine pw_callV1 (kc := kc) (ks := ks) (pc2 := 625) hT cs_L_116 rfl rfl hR8 dL_law_622 rfl (by omega) rfl (by first | decide | simp [cat_rf, Value.category]) ?_
  refine pw_iload (pc2 := 627) dL_law_625 rfl 1 rfl ?_
  refine pw_icmp_eq (tgt := 632) (pc2 := 630) dL_law_627 (by decide) rfl (fun _ => ?_) (fun c627 => by exact absurd (rfl) c627)
  refine pw_iload (pc2 := 634) dL_law_632 rfl 1 rfl ?_
  refine pw_if_ne (tgt := 656) (pc2 := 637) dL_law_634 (by decide) rfl (fun c634 => ?_) (fun c634 => ?_)
  · refine pw_goto (tgt := 1820) dL_law_656 (by decide) ?_
    refine PW.sub (L2 := [(0, Value.ref sc), (1, Value.ref (A 0 0)), (2, Value.ref (A 60 0)), (3, Value.ref o), (4, Value.ref oD), (5, Value.int (nI (5 * c)))]) [2, 3, 4, 5, 6, 7] rfl ?_
    exact K h8 A' σ' ofr' HI' e0 e60
  · have K0 : k = 0 := by first | exact c634 | exact Classical.not_not.mp c634
    refine pw_aload_n (pc2 := 638) dL_law_637 rfl rfl 5 rfl (by first | exact rf_ref _ | exact rf_opt _ | exact rf_nul) ?_
    refine pw_iconst (pc2 := 639) (v := 0) dL_law_638 rfl (by decide) ?_
    obtain ⟨f, hf, hf0⟩ := hk K0
    refine pw_lald (pc2 := 640) hf (by unfold vp_in; decide) dL_law_639 rfl ?_
    refine pw_iload (pc2 := 642) dL_law_640 rfl 0 rfl ?_
    refine pw_if_eq (tgt := 649) (pc2 := 645) dL_law_642 (by decide) rfl (fun c642 => ?_) (fun c642 => ?_)
    · refine pw_lconst (pc2 := 650) (v := 0) dL_law_649 rfl (by decide) ?_
      refine pw_lcmp (pc2 := 651) dL_law_650 rfl ?_
      refine pw_if_eq (tgt := 656) (pc2 := 654) dL_law_651 (by decide) rfl (fun _ => ?_) (fun c651 => by exact absurd (lcmp_eq (hf0.trans (by first | (rw [c642]; rfl) | (rw [hb01.resolve_left c642]; rfl)))) c651)
      refine pw_goto (tgt := 1820) dL_law_656 (by decide) ?_
      refine PW.sub (L2 := [(0, Value.ref sc), (1, Value.ref (A 0 0)), (2, Value.ref (A 60 0)), (3, Value.ref o), (4, Value.ref oD), (5, Value.int (nI (5 * c)))]) [2, 3, 4, 5, 6, 7] rfl ?_
      exact K h8 A' σ' ofr' HI' e0 e60
    · refine pw_lconst (pc2 := 646) (v := 1) dL_law_645 rfl (by decide) ?_
      refine pw_goto (tgt := 650) dL_law_646 (by decide) ?_
      refine pw_lcmp (pc2 := 651) dL_law_650 rfl ?_
      refine pw_if_eq (tgt := 656) (pc2 := 654) dL_law_651 (by decide) rfl (fun _ => ?_) (fun c651 => by exact absurd (lcmp_eq (hf0.trans (by first | (rw [c642]; rfl) | (rw [hb01.resolve_left c642]; rfl)))) c651)
      refine pw_goto (tgt := 1820) dL_law_656 (by decide) ?_
      refine PW.sub (L2 := [(0, Value.ref sc), (1, Value.ref (A 0 0)), (2, Value.ref (A 60 0)), (3, Value.ref o), (4, Value.ref oD), (5, Value.int (nI (5 * c)))]) [2, 3, 4, 5, 6, 7] rfl ?_
      exact K h8 A' σ' ofr' HI' e0 e60
set_option maxHeartbeats 4000000 in
set_option maxRecDepth 100000 in
theorem lc_compiled (HI : INV G h A σ ofr o oD) (hd : 20 ≤ d) (hL : Ln ≤ 2560) (hc : 5 * c + 5 ≤ Ln) (K : ∀ (h8 : hp) (A' : aT) (σ' : sT) (ofr' : Nat → Nat), INV G h8 A' σ' ofr' o oD → A' 0 0 = A 0 0 → A' 60 0 = A 60 0 → PW G ML_law d (psX sc Ln xs) EL kc ks 1820 [(0, Value.ref sc), (1, Value.ref (A 0 0)), (2, Value.ref (A 60 0)), (3, Value.ref o), (4, Value.ref oD), (5, Value.int (nI (5 * c)))] [] h8) : PW G ML_law d (psX sc Ln xs) EL (kc + 40) (ks + 400) 659 [(0, Value.ref sc), (1, Value.ref (A 0 0)), (2, Value.ref (A 60 0)), (3, Value.ref o), (4, Value.ref oD), (5, Value.int (nI (5 * c)))] [] h := by
  refine pw_aload_n (pc2 := 660) dL_law_659 rfl rfl 1 rfl (by first | exact rf_ref _ | exact rf_opt _ | exact rf_nul) ?_
  obtain ⟨hcc, Qm, hm, hn2⟩ := st_compiled HI
  refine PW.widen (kc' := kc) (ks' := ks) (by omega) (by omega) ?_
  refine pw_callV1 (kc := kc) (ks := ks) (pc2 := 663) hcc cs_L_140 rfl rfl HI.1.c0 dL_law_660 rfl (by omega) rfl (by first | decide | simp [cat_rf, Value.category]) ?_
  refine pw_aload_n (pc2 := 664) dL_law_663 rfl rfl 2 rfl (by first | exact rf_ref _ | exact rf_opt _ | exact rf_nul) ?_
  refine pw_callV (kc := kc) (ks := ks) (pc2 := 667) hm cs_L_143 rfl rfl HI.1.c60 dL_law_664 rfl (by omega) rfl (by first | decide | simp [cat_rf, Value.category]) (fun r8 h8 q8 => ?_) (fun Y h8 q8 => q8.elim)
  obtain ⟨rfl, A', σ', ofr', HI', e0, e60⟩ := hn2 _ _ q8
  refine pw_icmp_eq (tgt := 1820) (pc2 := 670) dL_law_667 (by decide) rfl (fun _ => ?_) (fun c667 => by exact absurd (rfl) c667)
  refine PW.sub (L2 := [(0, Value.ref sc), (1, Value.ref (A 0 0)), (2, Value.ref (A 60 0)), (3, Value.ref o), (4, Value.ref oD), (5, Value.int (nI (5 * c)))]) [0, 1, 2, 3, 4, 5] rfl ?_
  exact K h8 A' σ' ofr' HI' e0 e60
set_option maxHeartbeats 4000000 in
set_option maxRecDepth 100000 in
theorem lc_addTest (HI : INV G h A σ ofr o oD) (hd : 20 ≤ d) (hL : Ln ≤ 2560) (hc : 5 * c + 5 ≤ Ln) (K : ∀ (h8 : hp) (A' : aT) (σ' : sT) (ofr' : Nat → Nat), INV G h8 A' σ' ofr' o oD → A' 0 0 = A 0 0 → A' 60 0 = A 60 0 → PW G ML_law d (psX sc Ln xs) EL kc ks 1820 [(0, Value.ref sc), (1, Value.ref (A 0 0)), (2, Value.ref (A 60 0)), (3, Value.ref o), (4, Value.ref oD), (5, Value.int (nI (5 * c)))] [] h8) : PW G ML_law d (psX sc Ln xs) EL (kc + 40) (ks + 400) 672 [(0, Value.ref sc), (1, Value.ref (A 0 0)), (2, Value.ref (A 60 0)), (3, Value.ref o), (4, Value.ref oD), (5, Value.int (nI (5 * c)))] [] h := by
  refine pw_aload_n (pc2 := 673) dL_law_672 rfl rfl 1 rfl (by first | exact rf_ref _ | exact rf_opt _ | exact rf_nul) ?_
  refine pw_aload_n (pc2 := 674) dL_law_673 rfl rfl 0 rfl (by first | exact rf_ref _ | exact rf_opt _ | exact rf_nul) ?_
  refine pw_iload (pc2 := 676) dL_law_674 rfl 5 rfl ?_
  refine pw_iconst (pc2 := 677) (v := 1) dL_law_676 rfl (by decide) ?_
  refine pw_iadd (pc2 := 678) dL_law_677 rfl ?_
  refine pw_topE (nI_1 _) ?_
  refine pw_sld (pc2 := 679) (i := (5 * c) + 1) (by omega) (by omega) dL_law_678 rfl ?_
  refine pw_aload_n (pc2 := 680) dL_law_679 rfl rfl 0 rfl (by first | exact rf_ref _ | exact rf_opt _ | exact rf_nul) ?_
  refine pw_iload (pc2 := 682) dL_law_680 rfl 5 rfl ?_
  refine pw_iconst (pc2 := 683) (v := 2) dL_law_682 rfl (by decide) ?_
  refine pw_iadd (pc2 := 684) dL_law_683 rfl ?_
  refine pw_topE (nIa (5 * c) 2) ?_
  refine pw_sld (pc2 := 685) (i := 5 * c + 2) (by omega) (by omega) dL_law_684 rfl ?_
  refine pw_aload_n (pc2 := 686) dL_law_685 rfl rfl 3 rfl (by first | exact rf_ref _ | exact rf_opt _ | exact rf_nul) ?_
  obtain ⟨Qw, hw, hn⟩ := st_addTest HI (xs ((5 * c) + 1)) (xs (5 * c + 2))
  refine PW.widen (kc' := (kc + 0) + (0 + 4)) (ks' := (ks + 0) + (0 + 59)) (by omega) (by omega) ?_
  refine pw_callS (kc := kc + 0) (ks := ks + 0) (pc2 := 689) hw cs_L_144 rfl dL_law_686 rfl (by omega) rfl (by first | decide | simp [cat_rf, Value.category]) (fun r9 h9 q9 => ?_) (fun Y h9 q9 => q9.elim)
  obtain ⟨k, rfl, ⟨fs, hfs⟩, Qm, hm, hn2⟩ := hn _ _ q9
  refine pw_istore (pc2 := 691) (L2 := [(6, Value.int k), (0, Value.ref sc), (1, Value.ref (A 0 0)), (2, Value.ref (A 60 0)), (3, Value.ref o), (4, Value.ref oD), (5, Value.int (nI (5 * c)))]) dL_law_689 rfl (by decide) rfl ?_
  refine pw_aload_n (pc2 := 692) dL_law_691 rfl rfl 3 rfl (by first | exact rf_ref _ | exact rf_opt _ | exact rf_nul) ?_
  refine pw_aload_n (pc2 := 693) dL_law_692 rfl rfl 1 rfl (by first | exact rf_ref _ | exact rf_opt _ | exact rf_nul) ?_
  refine pw_iload (pc2 := 695) dL_law_693 rfl 6 rfl ?_
  refine pw_iconst (pc2 := 696) (v := 1) dL_law_695 rfl (by decide) ?_
  refine pw_iadd (pc2 := 697) dL_law_696 rfl ?_
  refine pw_topE (nI_1 _) ?_
  refine pw_sld (pc2 := 698) (i := (5 * c) + 1) (by omega) (by omega) dL_law_697 rfl ?_
  refine pw_aload_n (pc2 := 699) dL_law_698 rfl rfl 1 rfl (by first | exact rf_ref _ | exact rf_opt _ | exact rf_nul) ?_
  refine pw_iload (pc2 := 701) dL_law_699 rfl 6 rfl ?_
  refine pw_iconst (pc2 := 702) (v := 2) dL_law_701 rfl (by decide) ?_
  refine pw_iadd (pc2 := 703) dL_law_702 rfl ?_
  refine pw_topE (nIa (5 * c) 2) ?_
  refine pw_sld (pc2 := 704) (i := 5 * c + 2) (by omega) (by omega) dL_law_703 rfl ?_
  refine pw_callV (kc := kc) (ks := ks) (pc2 := 707) hm cs_L_146 rfl rfl hfs dL_law_704 rfl (by omega) rfl (by first | decide | simp [cat_rf, Value.category]) (fun r8 h8 q8 => ?_) (fun Y h8 q8 => q8.elim)
  obtain ⟨b, rfl, A', σ', ofr', HI', e0, e60, h7, hk⟩ := hn2 _ _ q8
  refine pw_istore (pc2 := 709) (L2 := [(7, Value.int b), (6, Value.int k), (0, Value.ref sc), (1, Value.ref (A 0 0)), (2, Value.ref (A 60 0)), (3, Value.ref o), (4, Value.ref oD), (5, Value.int (nI (5 * c)))]) dL_law_707 rfl (by decide) rfl ?_
  refine pw_aload_n (pc2 := 710) dL_law_709 rfl rfl 4 rfl (by first | exact rf_ref _ | exact rf_opt _ | exact rf_nul) ?_
  have hT : PMet G MX10_thrown 0 0 0 [.ref (A 60 0)] h8 (det (some (.int k)) h8) noX := by have z := c_thrown G h8 HI'.1.wm; rw [e60, h7] at z; exact z
  have hR8 := HI'.1.c60
  rw [e60] at hR8
  refine pw_callV1 (kc := kc) (ks := ks) (pc2 := 713) hT cs_L_116 rfl rfl hR8 dL_law_710 rfl (by omega) rfl (by first | decide | simp [cat_rf, Value.category]) ?_
  refine pw_iload (pc2 := 715) dL_law_713 rfl 1 rfl ?_
  refine pw_icmp_eq (tgt := 720) (pc2 := 718) dL_law_715 (by decide) rfl (fun _ => ?_) (fun c715 => by exact absurd (rfl) c715)
  refine pw_iload (pc2 := 722) dL_law_720 rfl 1 rfl ?_
  refine pw_if_ne (tgt := 737) (pc2 := 725) dL_law_722 (by decide) rfl (fun c722 => ?_) (fun c722 => ?_)
  · refine pw_goto (tgt := 1820) dL_law_737 (by decide) ?_
    refine PW.sub (L2 := [(0, Value.ref sc), (1, Value.ref (A 0 0)), (2, Value.ref (A 60 0)), (3, Value.ref o), (4, Value.ref oD), (5, Value.int (nI (5 * c)))]) [2, 3, 4, 5, 6, 7] rfl ?_
    exact K h8 A' σ' ofr' HI' e0 e60
  · have K0 : k = 0 := by first | exact c722 | exact Classical.not_not.mp c722
    refine pw_aload_n (pc2 := 726) dL_law_725 rfl rfl 5 rfl (by first | exact rf_ref _ | exact rf_opt _ | exact rf_nul) ?_
    refine pw_iconst (pc2 := 727) (v := 0) dL_law_726 rfl (by decide) ?_
    obtain ⟨f, hf, hf0⟩ := hk K0
    refine pw_lald (pc2 := 728) hf (by unfold vp_in; decide) dL_law_727 rfl ?_
    refine pw_iload (pc2 := 730) dL_law_728 rfl 0 rfl ?_
    refine pw_i2l (pc2 := 731) dL_law_730 rfl ?_
    refine pw_lcmp (pc2 := 732) dL_law_731 rfl ?_
    refine pw_if_eq (tgt := 737) (pc2 := 735) dL_law_732 (by decide) rfl (fun _ => ?_) (fun c732 => by exact absurd (lcmp_eq hf0) c732)
    refine pw_goto (tgt := 1820) dL_law_737 (by decide) ?_
    refine PW.sub (L2 := [(0, Value.ref sc), (1, Value.ref (A 0 0)), (2, Value.ref (A 60 0)), (3, Value.ref o), (4, Value.ref oD), (5, Value.int (nI (5 * c)))]) [2, 3, 4, 5, 6, 7] rfl ?_
    exact K h8 A' σ' ofr' HI' e0 e60
set_option maxHeartbeats 4000000 in
set_option maxRecDepth 100000 in
theorem lc_setFailing (HI : INV G h A σ ofr o oD) (hd : 20 ≤ d) (hL : Ln ≤ 2560) (hc : 5 * c + 5 ≤ Ln) (K : ∀ (h8 : hp) (A' : aT) (σ' : sT) (ofr' : Nat → Nat), INV G h8 A' σ' ofr' o oD → A' 0 0 = A 0 0 → A' 60 0 = A 60 0 → PW G ML_law d (psX sc Ln xs) EL kc ks 1820 [(0, Value.ref sc), (1, Value.ref (A 0 0)), (2, Value.ref (A 60 0)), (3, Value.ref o), (4, Value.ref oD), (5, Value.int (nI (5 * c)))] [] h8) : PW G ML_law d (psX sc Ln xs) EL (kc + 40) (ks + 400) 740 [(0, Value.ref sc), (1, Value.ref (A 0 0)), (2, Value.ref (A 60 0)), (3, Value.ref o), (4, Value.ref oD), (5, Value.int (nI (5 * c)))] [] h := by
  refine pw_aload_n (pc2 := 741) dL_law_740 rfl rfl 1 rfl (by first | exact rf_ref _ | exact rf_opt _ | exact rf_nul) ?_
  refine pw_aload_n (pc2 := 742) dL_law_741 rfl rfl 0 rfl (by first | exact rf_ref _ | exact rf_opt _ | exact rf_nul) ?_
  refine pw_iload (pc2 := 744) dL_law_742 rfl 5 rfl ?_
  refine pw_iconst (pc2 := 745) (v := 1) dL_law_744 rfl (by decide) ?_
  refine pw_iadd (pc2 := 746) dL_law_745 rfl ?_
  refine pw_topE (nI_1 _) ?_
  refine pw_sld (pc2 := 747) (i := (5 * c) + 1) (by omega) (by omega) dL_law_746 rfl ?_
  refine pw_aload_n (pc2 := 748) dL_law_747 rfl rfl 0 rfl (by first | exact rf_ref _ | exact rf_opt _ | exact rf_nul) ?_
  refine pw_iload (pc2 := 750) dL_law_748 rfl 5 rfl ?_
  refine pw_iconst (pc2 := 751) (v := 2) dL_law_750 rfl (by decide) ?_
  refine pw_iadd (pc2 := 752) dL_law_751 rfl ?_
  refine pw_topE (nIa (5 * c) 2) ?_
  refine pw_sld (pc2 := 753) (i := 5 * c + 2) (by omega) (by omega) dL_law_752 rfl ?_
  refine pw_if_eq (tgt := 760) (pc2 := 756) dL_law_753 (by decide) rfl (fun c753 => ?_) (fun c753 => ?_)
  · refine pw_iconst (pc2 := 761) (v := 0) dL_law_760 rfl (by decide) ?_
    refine pw_aload_n (pc2 := 762) dL_law_761 rfl rfl 3 rfl (by first | exact rf_ref _ | exact rf_opt _ | exact rf_nul) ?_
    obtain ⟨Qw, hw, hn⟩ := st_setFailing HI (xs ((5 * c) + 1)) (x := 0) (by first | exact Or.inl rfl | exact Or.inr rfl)
    refine PW.widen (kc' := (kc + 0) + (0 + 1)) (ks' := (ks + 0) + (0 + 6)) (by omega) (by omega) ?_
    refine pw_callS (kc := kc + 0) (ks := ks + 0) (pc2 := 765) hw cs_L_147 rfl dL_law_762 rfl (by omega) rfl (by first | decide | simp [cat_rf, Value.category]) (fun r9 h9 q9 => ?_) (fun Y h9 q9 => q9.elim)
    obtain ⟨k, rfl, ⟨fs, hfs⟩, Qm, hm, hn2⟩ := hn _ _ q9
    refine pw_istore (pc2 := 767) (L2 := [(6, Value.int k), (0, Value.ref sc), (1, Value.ref (A 0 0)), (2, Value.ref (A 60 0)), (3, Value.ref o), (4, Value.ref oD), (5, Value.int (nI (5 * c)))]) dL_law_765 rfl (by decide) rfl ?_
    refine pw_aload_n (pc2 := 768) dL_law_767 rfl rfl 3 rfl (by first | exact rf_ref _ | exact rf_opt _ | exact rf_nul) ?_
    refine pw_aload_n (pc2 := 769) dL_law_768 rfl rfl 1 rfl (by first | exact rf_ref _ | exact rf_opt _ | exact rf_nul) ?_
    refine pw_iload (pc2 := 771) dL_law_769 rfl 6 rfl ?_
    refine pw_iconst (pc2 := 772) (v := 1) dL_law_771 rfl (by decide) ?_
    refine pw_iadd (pc2 := 773) dL_law_772 rfl ?_
    refine pw_topE (nI_1 _) ?_
    refine pw_sld (pc2 := 774) (i := (5 * c) + 1) (by omega) (by omega) dL_law_773 rfl ?_
    refine pw_aload_n (pc2 := 775) dL_law_774 rfl rfl 1 rfl (by first | exact rf_ref _ | exact rf_opt _ | exact rf_nul) ?_
    refine pw_iload (pc2 := 777) dL_law_775 rfl 6 rfl ?_
    refine pw_iconst (pc2 := 778) (v := 2) dL_law_777 rfl (by decide) ?_
    refine pw_iadd (pc2 := 779) dL_law_778 rfl ?_
    refine pw_topE (nIa (5 * c) 2) ?_
    refine pw_sld (pc2 := 780) (i := 5 * c + 2) (by omega) (by omega) dL_law_779 rfl ?_
    refine pw_if_eq (tgt := 787) (pc2 := 783) dL_law_780 (by decide) rfl (fun _ => ?_) (fun c780 => by exact absurd (c753) c780)
    refine pw_iconst (pc2 := 788) (v := 0) dL_law_787 rfl (by decide) ?_
    refine pw_callV (kc := kc) (ks := ks) (pc2 := 791) hm cs_L_150 rfl rfl hfs dL_law_788 rfl (by omega) rfl (by first | decide | simp [cat_rf, Value.category]) (fun r8 h8 q8 => ?_) (fun Y h8 q8 => q8.elim)
    obtain ⟨b, rfl, hb01, A', σ', ofr', HI', e0, e60, h7, hk⟩ := hn2 _ _ q8
    refine pw_istore (pc2 := 793) (L2 := [(7, Value.int b), (6, Value.int k), (0, Value.ref sc), (1, Value.ref (A 0 0)), (2, Value.ref (A 60 0)), (3, Value.ref o), (4, Value.ref oD), (5, Value.int (nI (5 * c)))]) dL_law_791 rfl (by decide) rfl ?_
    refine pw_aload_n (pc2 := 794) dL_law_793 rfl rfl 4 rfl (by first | exact rf_ref _ | exact rf_opt _ | exact rf_nul) ?_
    have hT : PMet G MX10_thrown 0 0 0 [.ref (A 60 0)] h8 (det (some (.int k)) h8) noX := by have z := c_thrown G h8 HI'.1.wm; rw [e60, h7] at z; exact z
    have hR8 := HI'.1.c60
    rw [e60] at hR8
    refine pw_callV1 (kc := kc) (ks := ks) (pc2 := 797) hT cs_L_116 rfl rfl hR8 dL_law_794 rfl (by omega) rfl (by first | decide | simp [cat_rf, Value.category]) ?_
    refine pw_iload (pc2 := 799) dL_law_797 rfl 1 rfl ?_
    refine pw_icmp_eq (tgt := 804) (pc2 := 802) dL_law_799 (by decide) rfl (fun _ => ?_) (fun c799 => by exact absurd (rfl) c799)
    refine pw_iload (pc2 := 806) dL_law_804 rfl 1 rfl ?_
    refine pw_if_ne (tgt := 828) (pc2 := 809) dL_law_806 (by decide) rfl (fun c806 => ?_) (fun c806 => ?_)
    · refine pw_goto (tgt := 1820) dL_law_828 (by decide) ?_
      refine PW.sub (L2 := [(0, Value.ref sc), (1, Value.ref (A 0 0)), (2, Value.ref (A 60 0)), (3, Value.ref o), (4, Value.ref oD), (5, Value.int (nI (5 * c)))]) [2, 3, 4, 5, 6, 7] rfl ?_
      exact K h8 A' σ' ofr' HI' e0 e60
    · have K0 : k = 0 := by first | exact c806 | exact Classical.not_not.mp c806
      refine pw_aload_n (pc2 := 810) dL_law_809 rfl rfl 5 rfl (by first | exact rf_ref _ | exact rf_opt _ | exact rf_nul) ?_
      refine pw_iconst (pc2 := 811) (v := 0) dL_law_810 rfl (by decide) ?_
      obtain ⟨f, hf, hf0⟩ := hk K0
      refine pw_lald (pc2 := 812) hf (by unfold vp_in; decide) dL_law_811 rfl ?_
      refine pw_iload (pc2 := 814) dL_law_812 rfl 0 rfl ?_
      refine pw_if_eq (tgt := 821) (pc2 := 817) dL_law_814 (by decide) rfl (fun c814 => ?_) (fun c814 => ?_)
      · refine pw_lconst (pc2 := 822) (v := 0) dL_law_821 rfl (by decide) ?_
        refine pw_lcmp (pc2 := 823) dL_law_822 rfl ?_
        refine pw_if_eq (tgt := 828) (pc2 := 826) dL_law_823 (by decide) rfl (fun _ => ?_) (fun c823 => by exact absurd (lcmp_eq (hf0.trans (by first | (rw [c814]; rfl) | (rw [hb01.resolve_left c814]; rfl)))) c823)
        refine pw_goto (tgt := 1820) dL_law_828 (by decide) ?_
        refine PW.sub (L2 := [(0, Value.ref sc), (1, Value.ref (A 0 0)), (2, Value.ref (A 60 0)), (3, Value.ref o), (4, Value.ref oD), (5, Value.int (nI (5 * c)))]) [2, 3, 4, 5, 6, 7] rfl ?_
        exact K h8 A' σ' ofr' HI' e0 e60
      · refine pw_lconst (pc2 := 818) (v := 1) dL_law_817 rfl (by decide) ?_
        refine pw_goto (tgt := 822) dL_law_818 (by decide) ?_
        refine pw_lcmp (pc2 := 823) dL_law_822 rfl ?_
        refine pw_if_eq (tgt := 828) (pc2 := 826) dL_law_823 (by decide) rfl (fun _ => ?_) (fun c823 => by exact absurd (lcmp_eq (hf0.trans (by first | (rw [c814]; rfl) | (rw [hb01.resolve_left c814]; rfl)))) c823)
        refine pw_goto (tgt := 1820) dL_law_828 (by decide) ?_
        refine PW.sub (L2 := [(0, Value.ref sc), (1, Value.ref (A 0 0)), (2, Value.ref (A 60 0)), (3, Value.ref o), (4, Value.ref oD), (5, Value.int (nI (5 * c)))]) [2, 3, 4, 5, 6, 7] rfl ?_
        exact K h8 A' σ' ofr' HI' e0 e60
  · refine pw_iconst (pc2 := 757) (v := 1) dL_law_756 rfl (by decide) ?_
    refine pw_goto (tgt := 761) dL_law_757 (by decide) ?_
    refine pw_aload_n (pc2 := 762) dL_law_761 rfl rfl 3 rfl (by first | exact rf_ref _ | exact rf_opt _ | exact rf_nul) ?_
    obtain ⟨Qw, hw, hn⟩ := st_setFailing HI (xs ((5 * c) + 1)) (x := 1) (by first | exact Or.inl rfl | exact Or.inr rfl)
    refine PW.widen (kc' := (kc + 0) + (0 + 1)) (ks' := (ks + 0) + (0 + 6)) (by omega) (by omega) ?_
    refine pw_callS (kc := kc + 0) (ks := ks + 0) (pc2 := 765) hw cs_L_147 rfl dL_law_762 rfl (by omega) rfl (by first | decide | simp [cat_rf, Value.category]) (fun r9 h9 q9 => ?_) (fun Y h9 q9 => q9.elim)
    obtain ⟨k, rfl, ⟨fs, hfs⟩, Qm, hm, hn2⟩ := hn _ _ q9
    refine pw_istore (pc2 := 767) (L2 := [(6, Value.int k), (0, Value.ref sc), (1, Value.ref (A 0 0)), (2, Value.ref (A 60 0)), (3, Value.ref o), (4, Value.ref oD), (5, Value.int (nI (5 * c)))]) dL_law_765 rfl (by decide) rfl ?_
    refine pw_aload_n (pc2 := 768) dL_law_767 rfl rfl 3 rfl (by first | exact rf_ref _ | exact rf_opt _ | exact rf_nul) ?_
    refine pw_aload_n (pc2 := 769) dL_law_768 rfl rfl 1 rfl (by first | exact rf_ref _ | exact rf_opt _ | exact rf_nul) ?_
    refine pw_iload (pc2 := 771) dL_law_769 rfl 6 rfl ?_
    refine pw_iconst (pc2 := 772) (v := 1) dL_law_771 rfl (by decide) ?_
    refine pw_iadd (pc2 := 773) dL_law_772 rfl ?_
    refine pw_topE (nI_1 _) ?_
    refine pw_sld (pc2 := 774) (i := (5 * c) + 1) (by omega) (by omega) dL_law_773 rfl ?_
    refine pw_aload_n (pc2 := 775) dL_law_774 rfl rfl 1 rfl (by first | exact rf_ref _ | exact rf_opt _ | exact rf_nul) ?_
    refine pw_iload (pc2 := 777) dL_law_775 rfl 6 rfl ?_
    refine pw_iconst (pc2 := 778) (v := 2) dL_law_777 rfl (by decide) ?_
    refine pw_iadd (pc2 := 779) dL_law_778 rfl ?_
    refine pw_topE (nIa (5 * c) 2) ?_
    refine pw_sld (pc2 := 780) (i := 5 * c + 2) (by omega) (by omega) dL_law_779 rfl ?_
    refine pw_if_eq (tgt := 787) (pc2 := 783) dL_law_780 (by decide) rfl (fun c780 => by exact absurd c780 (c753)) (fun _ => ?_)
    refine pw_iconst (pc2 := 784) (v := 1) dL_law_783 rfl (by decide) ?_
    refine pw_goto (tgt := 788) dL_law_784 (by decide) ?_
    refine pw_callV (kc := kc) (ks := ks) (pc2 := 791) hm cs_L_150 rfl rfl hfs dL_law_788 rfl (by omega) rfl (by first | decide | simp [cat_rf, Value.category]) (fun r8 h8 q8 => ?_) (fun Y h8 q8 => q8.elim)
    obtain ⟨b, rfl, hb01, A', σ', ofr', HI', e0, e60, h7, hk⟩ := hn2 _ _ q8
    refine pw_istore (pc2 := 793) (L2 := [(7, Value.int b), (6, Value.int k), (0, Value.ref sc), (1, Value.ref (A 0 0)), (2, Value.ref (A 60 0)), (3, Value.ref o), (4, Value.ref oD), (5, Value.int (nI (5 * c)))]) dL_law_791 rfl (by decide) rfl ?_
    refine pw_aload_n (pc2 := 794) dL_law_793 rfl rfl 4 rfl (by first | exact rf_ref _ | exact rf_opt _ | exact rf_nul) ?_
    have hT : PMet G MX10_thrown 0 0 0 [.ref (A 60 0)] h8 (det (some (.int k)) h8) noX := by have z := c_thrown G h8 HI'.1.wm; rw [e60, h7] at z; exact z
    have hR8 := HI'.1.c60
    rw [e60] at hR8
    refine pw_callV1 (kc := kc) (ks := ks) (pc2 := 797) hT cs_L_116 rfl rfl hR8 dL_law_794 rfl (by omega) rfl (by first | decide | simp [cat_rf, Value.category]) ?_
    refine pw_iload (pc2 := 799) dL_law_797 rfl 1 rfl ?_
    refine pw_icmp_eq (tgt := 804) (pc2 := 802) dL_law_799 (by decide) rfl (fun _ => ?_) (fun c799 => by exact absurd (rfl) c799)
    refine pw_iload (pc2 := 806) dL_law_804 rfl 1 rfl ?_
    refine pw_if_ne (tgt := 828) (pc2 := 809) dL_law_806 (by decide) rfl (fun c806 => ?_) (fun c806 => ?_)
    · refine pw_goto (tgt := 1820) dL_law_828 (by decide) ?_
      refine PW.sub (L2 := [(0, Value.ref sc), (1, Value.ref (A 0 0)), (2, Value.ref (A 60 0)), (3, Value.ref o), (4, Value.ref oD), (5, Value.int (nI (5 * c)))]) [2, 3, 4, 5, 6, 7] rfl ?_
      exact K h8 A' σ' ofr' HI' e0 e60
    · have K0 : k = 0 := by first | exact c806 | exact Classical.not_not.mp c806
      refine pw_aload_n (pc2 := 810) dL_law_809 rfl rfl 5 rfl (by first | exact rf_ref _ | exact rf_opt _ | exact rf_nul) ?_
      refine pw_iconst (pc2 := 811) (v := 0) dL_law_810 rfl (by decide) ?_
      obtain ⟨f, hf, hf0⟩ := hk K0
      refine pw_lald (pc2 := 812) hf (by unfold vp_in; decide) dL_law_811 rfl ?_
      refine pw_iload (pc2 := 814) dL_law_812 rfl 0 rfl ?_
      refine pw_if_eq (tgt := 821) (pc2 := 817) dL_law_814 (by decide) rfl (fun c814 => ?_) (fun c814 => ?_)
      · refine pw_lconst (pc2 := 822) (v := 0) dL_law_821 rfl (by decide) ?_
        refine pw_lcmp (pc2 := 823) dL_law_822 rfl ?_
        refine pw_if_eq (tgt := 828) (pc2 := 826) dL_law_823 (by decide) rfl (fun _ => ?_) (fun c823 => by exact absurd (lcmp_eq (hf0.trans (by first | (rw [c814]; rfl) | (rw [hb01.resolve_left c814]; rfl)))) c823)
        refine pw_goto (tgt := 1820) dL_law_828 (by decide) ?_
        refine PW.sub (L2 := [(0, Value.ref sc), (1, Value.ref (A 0 0)), (2, Value.ref (A 60 0)), (3, Value.ref o), (4, Value.ref oD), (5, Value.int (nI (5 * c)))]) [2, 3, 4, 5, 6, 7] rfl ?_
        exact K h8 A' σ' ofr' HI' e0 e60
      · refine pw_lconst (pc2 := 818) (v := 1) dL_law_817 rfl (by decide) ?_
        refine pw_goto (tgt := 822) dL_law_818 (by decide) ?_
        refine pw_lcmp (pc2 := 823) dL_law_822 rfl ?_
        refine pw_if_eq (tgt := 828) (pc2 := 826) dL_law_823 (by decide) rfl (fun _ => ?_) (fun c823 => by exact absurd (lcmp_eq (hf0.trans (by first | (rw [c814]; rfl) | (rw [hb01.resolve_left c814]; rfl)))) c823)
        refine pw_goto (tgt := 1820) dL_law_828 (by decide) ?_
        refine PW.sub (L2 := [(0, Value.ref sc), (1, Value.ref (A 0 0)), (2, Value.ref (A 60 0)), (3, Value.ref o), (4, Value.ref oD), (5, Value.int (nI (5 * c)))]) [2, 3, 4, 5, 6, 7] rfl ?_
        exact K h8 A' σ' ofr' HI' e0 e60
set_option maxHeartbeats 4000000 in
set_option maxRecDepth 100000 in
theorem lc_setMachines (HI : INV G h A σ ofr o oD) (hd : 20 ≤ d) (hL : Ln ≤ 2560) (hc : 5 * c + 5 ≤ Ln) (K : ∀ (h8 : hp) (A' : aT) (σ' : sT) (ofr' : Nat → Nat), INV G h8 A' σ' ofr' o oD → A' 0 0 = A 0 0 → A' 60 0 = A 60 0 → PW G ML_law d (psX sc Ln xs) EL kc ks 1820 [(0, Value.ref sc), (1, Value.ref (A 0 0)), (2, Value.ref (A 60 0)), (3, Value.ref o), (4, Value.ref oD), (5, Value.int (nI (5 * c)))] [] h8) : PW G ML_law d (psX sc Ln xs) EL (kc + 40) (ks + 400) 831 [(0, Value.ref sc), (1, Value.ref (A 0 0)), (2, Value.ref (A 60 0)), (3, Value.ref o), (4, Value.ref oD), (5, Value.int (nI (5 * c)))] [] h := by
  refine pw_aload_n (pc2 := 832) dL_law_831 rfl rfl 1 rfl (by first | exact rf_ref _ | exact rf_opt _ | exact rf_nul) ?_
  refine pw_aload_n (pc2 := 833) dL_law_832 rfl rfl 0 rfl (by first | exact rf_ref _ | exact rf_opt _ | exact rf_nul) ?_
  refine pw_iload (pc2 := 835) dL_law_833 rfl 5 rfl ?_
  refine pw_iconst (pc2 := 836) (v := 1) dL_law_835 rfl (by decide) ?_
  refine pw_iadd (pc2 := 837) dL_law_836 rfl ?_
  refine pw_topE (nI_1 _) ?_
  refine pw_sld (pc2 := 838) (i := (5 * c) + 1) (by omega) (by omega) dL_law_837 rfl ?_
  refine pw_aload_n (pc2 := 839) dL_law_838 rfl rfl 3 rfl (by first | exact rf_ref _ | exact rf_opt _ | exact rf_nul) ?_
  obtain ⟨Qw, hw, hn⟩ := st_setMachines HI (xs ((5 * c) + 1))
  refine PW.widen (kc' := (kc + 0) + (0 + 1)) (ks' := (ks + 0) + (0 + 6)) (by omega) (by omega) ?_
  refine pw_callS (kc := kc + 0) (ks := ks + 0) (pc2 := 842) hw cs_L_151 rfl dL_law_839 rfl (by omega) rfl (by first | decide | simp [cat_rf, Value.category]) (fun r9 h9 q9 => ?_) (fun Y h9 q9 => q9.elim)
  obtain ⟨k, rfl, ⟨fs, hfs⟩, Qm, hm, hn2⟩ := hn _ _ q9
  refine pw_istore (pc2 := 844) (L2 := [(6, Value.int k), (0, Value.ref sc), (1, Value.ref (A 0 0)), (2, Value.ref (A 60 0)), (3, Value.ref o), (4, Value.ref oD), (5, Value.int (nI (5 * c)))]) dL_law_842 rfl (by decide) rfl ?_
  refine pw_aload_n (pc2 := 845) dL_law_844 rfl rfl 3 rfl (by first | exact rf_ref _ | exact rf_opt _ | exact rf_nul) ?_
  refine pw_aload_n (pc2 := 846) dL_law_845 rfl rfl 1 rfl (by first | exact rf_ref _ | exact rf_opt _ | exact rf_nul) ?_
  refine pw_iload (pc2 := 848) dL_law_846 rfl 6 rfl ?_
  refine pw_iconst (pc2 := 849) (v := 1) dL_law_848 rfl (by decide) ?_
  refine pw_iadd (pc2 := 850) dL_law_849 rfl ?_
  refine pw_topE (nI_1 _) ?_
  refine pw_sld (pc2 := 851) (i := (5 * c) + 1) (by omega) (by omega) dL_law_850 rfl ?_
  refine pw_callV (kc := kc) (ks := ks) (pc2 := 854) hm cs_L_153 rfl rfl hfs dL_law_851 rfl (by omega) rfl (by first | decide | simp [cat_rf, Value.category]) (fun r8 h8 q8 => ?_) (fun Y h8 q8 => q8.elim)
  obtain ⟨b, rfl, A', σ', ofr', HI', e0, e60, h7, hk⟩ := hn2 _ _ q8
  refine pw_istore (pc2 := 856) (L2 := [(7, Value.int b), (6, Value.int k), (0, Value.ref sc), (1, Value.ref (A 0 0)), (2, Value.ref (A 60 0)), (3, Value.ref o), (4, Value.ref oD), (5, Value.int (nI (5 * c)))]) dL_law_854 rfl (by decide) rfl ?_
  refine pw_aload_n (pc2 := 857) dL_law_856 rfl rfl 4 rfl (by first | exact rf_ref _ | exact rf_opt _ | exact rf_nul) ?_
  have hT : PMet G MX10_thrown 0 0 0 [.ref (A 60 0)] h8 (det (some (.int k)) h8) noX := by have z := c_thrown G h8 HI'.1.wm; rw [e60, h7] at z; exact z
  have hR8 := HI'.1.c60
  rw [e60] at hR8
  refine pw_callV1 (kc := kc) (ks := ks) (pc2 := 860) hT cs_L_116 rfl rfl hR8 dL_law_857 rfl (by omega) rfl (by first | decide | simp [cat_rf, Value.category]) ?_
  refine pw_iload (pc2 := 862) dL_law_860 rfl 1 rfl ?_
  refine pw_icmp_eq (tgt := 867) (pc2 := 865) dL_law_862 (by decide) rfl (fun _ => ?_) (fun c862 => by exact absurd (rfl) c862)
  refine pw_iload (pc2 := 869) dL_law_867 rfl 1 rfl ?_
  refine pw_if_ne (tgt := 884) (pc2 := 872) dL_law_869 (by decide) rfl (fun c869 => ?_) (fun c869 => ?_)
  · refine pw_goto (tgt := 1820) dL_law_884 (by decide) ?_
    refine PW.sub (L2 := [(0, Value.ref sc), (1, Value.ref (A 0 0)), (2, Value.ref (A 60 0)), (3, Value.ref o), (4, Value.ref oD), (5, Value.int (nI (5 * c)))]) [2, 3, 4, 5, 6, 7] rfl ?_
    exact K h8 A' σ' ofr' HI' e0 e60
  · have K0 : k = 0 := by first | exact c869 | exact Classical.not_not.mp c869
    refine pw_aload_n (pc2 := 873) dL_law_872 rfl rfl 5 rfl (by first | exact rf_ref _ | exact rf_opt _ | exact rf_nul) ?_
    refine pw_iconst (pc2 := 874) (v := 0) dL_law_873 rfl (by decide) ?_
    obtain ⟨f, hf, hf0⟩ := hk K0
    refine pw_lald (pc2 := 875) hf (by unfold vp_in; decide) dL_law_874 rfl ?_
    refine pw_iload (pc2 := 877) dL_law_875 rfl 0 rfl ?_
    refine pw_i2l (pc2 := 878) dL_law_877 rfl ?_
    refine pw_lcmp (pc2 := 879) dL_law_878 rfl ?_
    refine pw_if_eq (tgt := 884) (pc2 := 882) dL_law_879 (by decide) rfl (fun _ => ?_) (fun c879 => by exact absurd (lcmp_eq hf0) c879)
    refine pw_goto (tgt := 1820) dL_law_884 (by decide) ?_
    refine PW.sub (L2 := [(0, Value.ref sc), (1, Value.ref (A 0 0)), (2, Value.ref (A 60 0)), (3, Value.ref o), (4, Value.ref oD), (5, Value.int (nI (5 * c)))]) [2, 3, 4, 5, 6, 7] rfl ?_
    exact K h8 A' σ' ofr' HI' e0 e60
set_option maxHeartbeats 4000000 in
set_option maxRecDepth 100000 in
theorem lc_fund (HI : INV G h A σ ofr o oD) (hd : 20 ≤ d) (hL : Ln ≤ 2560) (hc : 5 * c + 5 ≤ Ln) (K : ∀ (h8 : hp) (A' : aT) (σ' : sT) (ofr' : Nat → Nat), INV G h8 A' σ' ofr' o oD → A' 0 0 = A 0 0 → A' 60 0 = A 60 0 → PW G ML_law d (psX sc Ln xs) EL kc ks 1820 [(0, Value.ref sc), (1, Value.ref (A 0 0)), (2, Value.ref (A 60 0)), (3, Value.ref o), (4, Value.ref oD), (5, Value.int (nI (5 * c)))] [] h8) : PW G ML_law d (psX sc Ln xs) EL (kc + 40) (ks + 400) 887 [(0, Value.ref sc), (1, Value.ref (A 0 0)), (2, Value.ref (A 60 0)), (3, Value.ref o), (4, Value.ref oD), (5, Value.int (nI (5 * c)))] [] h := by
  refine pw_aload_n (pc2 := 888) dL_law_887 rfl rfl 1 rfl (by first | exact rf_ref _ | exact rf_opt _ | exact rf_nul) ?_
  refine pw_aload_n (pc2 := 889) dL_law_888 rfl rfl 0 rfl (by first | exact rf_ref _ | exact rf_opt _ | exact rf_nul) ?_
  refine pw_iload (pc2 := 891) dL_law_889 rfl 5 rfl ?_
  refine pw_iconst (pc2 := 892) (v := 1) dL_law_891 rfl (by decide) ?_
  refine pw_iadd (pc2 := 893) dL_law_892 rfl ?_
  refine pw_topE (nI_1 _) ?_
  refine pw_sld (pc2 := 894) (i := (5 * c) + 1) (by omega) (by omega) dL_law_893 rfl ?_
  refine pw_aload_n (pc2 := 895) dL_law_894 rfl rfl 0 rfl (by first | exact rf_ref _ | exact rf_opt _ | exact rf_nul) ?_
  refine pw_iload (pc2 := 897) dL_law_895 rfl 5 rfl ?_
  refine pw_iconst (pc2 := 898) (v := 2) dL_law_897 rfl (by decide) ?_
  refine pw_iadd (pc2 := 899) dL_law_898 rfl ?_
  refine pw_topE (nIa (5 * c) 2) ?_
  refine pw_sld (pc2 := 900) (i := 5 * c + 2) (by omega) (by omega) dL_law_899 rfl ?_
  refine pw_aload_n (pc2 := 901) dL_law_900 rfl rfl 3 rfl (by first | exact rf_ref _ | exact rf_opt _ | exact rf_nul) ?_
  obtain ⟨Qw, hw, hn⟩ := st_fund HI (xs ((5 * c) + 1)) (xs (5 * c + 2))
  refine PW.widen (kc' := (kc + 0) + (0 + 2)) (ks' := (ks + 0) + (0 + 12)) (by omega) (by omega) ?_
  refine pw_callS (kc := kc + 0) (ks := ks + 0) (pc2 := 904) hw cs_L_154 rfl dL_law_901 rfl (by omega) rfl (by first | decide | simp [cat_rf, Value.category]) (fun r9 h9 q9 => ?_) (fun Y h9 q9 => q9.elim)
  obtain ⟨k, rfl, ⟨fs, hfs⟩, Qm, hm, hn2⟩ := hn _ _ q9
  refine pw_istore (pc2 := 906) (L2 := [(6, Value.int k), (0, Value.ref sc), (1, Value.ref (A 0 0)), (2, Value.ref (A 60 0)), (3, Value.ref o), (4, Value.ref oD), (5, Value.int (nI (5 * c)))]) dL_law_904 rfl (by decide) rfl ?_
  refine pw_aload_n (pc2 := 907) dL_law_906 rfl rfl 3 rfl (by first | exact rf_ref _ | exact rf_opt _ | exact rf_nul) ?_
  refine pw_aload_n (pc2 := 908) dL_law_907 rfl rfl 1 rfl (by first | exact rf_ref _ | exact rf_opt _ | exact rf_nul) ?_
  refine pw_iload (pc2 := 910) dL_law_908 rfl 6 rfl ?_
  refine pw_iconst (pc2 := 911) (v := 1) dL_law_910 rfl (by decide) ?_
  refine pw_iadd (pc2 := 912) dL_law_911 rfl ?_
  refine pw_topE (nI_1 _) ?_
  refine pw_sld (pc2 := 913) (i := (5 * c) + 1) (by omega) (by omega) dL_law_912 rfl ?_
  refine pw_aload_n (pc2 := 914) dL_law_913 rfl rfl 1 rfl (by first | exact rf_ref _ | exact rf_opt _ | exact rf_nul) ?_
  refine pw_iload (pc2 := 916) dL_law_914 rfl 6 rfl ?_
  refine pw_iconst (pc2 := 917) (v := 2) dL_law_916 rfl (by decide) ?_
  refine pw_iadd (pc2 := 918) dL_law_917 rfl ?_
  refine pw_topE (nIa (5 * c) 2) ?_
  refine pw_sld (pc2 := 919) (i := 5 * c + 2) (by omega) (by omega) dL_law_918 rfl ?_
  refine pw_callV (kc := kc) (ks := ks) (pc2 := 922) hm cs_L_156 rfl rfl hfs dL_law_919 rfl (by omega) rfl (by first | decide | simp [cat_rf, Value.category]) (fun r8 h8 q8 => ?_) (fun Y h8 q8 => q8.elim)
  obtain ⟨b, rfl, A', σ', ofr', HI', e0, e60, h7, hk⟩ := hn2 _ _ q8
  refine pw_istore (pc2 := 924) (L2 := [(7, Value.int b), (6, Value.int k), (0, Value.ref sc), (1, Value.ref (A 0 0)), (2, Value.ref (A 60 0)), (3, Value.ref o), (4, Value.ref oD), (5, Value.int (nI (5 * c)))]) dL_law_922 rfl (by decide) rfl ?_
  refine pw_aload_n (pc2 := 925) dL_law_924 rfl rfl 4 rfl (by first | exact rf_ref _ | exact rf_opt _ | exact rf_nul) ?_
  have hT : PMet G MX10_thrown 0 0 0 [.ref (A 60 0)] h8 (det (some (.int k)) h8) noX := by have z := c_thrown G h8 HI'.1.wm; rw [e60, h7] at z; exact z
  have hR8 := HI'.1.c60
  rw [e60] at hR8
  refine pw_callV1 (kc := kc) (ks := ks) (pc2 := 928) hT cs_L_116 rfl rfl hR8 dL_law_925 rfl (by omega) rfl (by first | decide | simp [cat_rf, Value.category]) ?_
  refine pw_iload (pc2 := 930) dL_law_928 rfl 1 rfl ?_
  refine pw_icmp_eq (tgt := 935) (pc2 := 933) dL_law_930 (by decide) rfl (fun _ => ?_) (fun c930 => by exact absurd (rfl) c930)
  refine pw_iload (pc2 := 937) dL_law_935 rfl 1 rfl ?_
  refine pw_if_ne (tgt := 952) (pc2 := 940) dL_law_937 (by decide) rfl (fun c937 => ?_) (fun c937 => ?_)
  · refine pw_goto (tgt := 1820) dL_law_952 (by decide) ?_
    refine PW.sub (L2 := [(0, Value.ref sc), (1, Value.ref (A 0 0)), (2, Value.ref (A 60 0)), (3, Value.ref o), (4, Value.ref oD), (5, Value.int (nI (5 * c)))]) [2, 3, 4, 5, 6, 7] rfl ?_
    exact K h8 A' σ' ofr' HI' e0 e60
  · have K0 : k = 0 := by first | exact c937 | exact Classical.not_not.mp c937
    refine pw_aload_n (pc2 := 941) dL_law_940 rfl rfl 5 rfl (by first | exact rf_ref _ | exact rf_opt _ | exact rf_nul) ?_
    refine pw_iconst (pc2 := 942) (v := 0) dL_law_941 rfl (by decide) ?_
    obtain ⟨f, hf, hf0⟩ := hk K0
    refine pw_lald (pc2 := 943) hf (by unfold vp_in; decide) dL_law_942 rfl ?_
    refine pw_iload (pc2 := 945) dL_law_943 rfl 0 rfl ?_
    refine pw_i2l (pc2 := 946) dL_law_945 rfl ?_
    refine pw_lcmp (pc2 := 947) dL_law_946 rfl ?_
    refine pw_if_eq (tgt := 952) (pc2 := 950) dL_law_947 (by decide) rfl (fun _ => ?_) (fun c947 => by exact absurd (lcmp_eq hf0) c947)
    refine pw_goto (tgt := 1820) dL_law_952 (by decide) ?_
    refine PW.sub (L2 := [(0, Value.ref sc), (1, Value.ref (A 0 0)), (2, Value.ref (A 60 0)), (3, Value.ref o), (4, Value.ref oD), (5, Value.int (nI (5 * c)))]) [2, 3, 4, 5, 6, 7] rfl ?_
    exact K h8 A' σ' ofr' HI' e0 e60
set_option maxHeartbeats 4000000 in
set_option maxRecDepth 100000 in
theorem lc_budget (HI : INV G h A σ ofr o oD) (hd : 20 ≤ d) (hL : Ln ≤ 2560) (hc : 5 * c + 5 ≤ Ln) (K : ∀ (h8 : hp) (A' : aT) (σ' : sT) (ofr' : Nat → Nat), INV G h8 A' σ' ofr' o oD → A' 0 0 = A 0 0 → A' 60 0 = A 60 0 → PW G ML_law d (psX sc Ln xs) EL kc ks 1820 [(0, Value.ref sc), (1, Value.ref (A 0 0)), (2, Value.ref (A 60 0)), (3, Value.ref o), (4, Value.ref oD), (5, Value.int (nI (5 * c)))] [] h8) : PW G ML_law d (psX sc Ln xs) EL (kc + 40) (ks + 400) 955 [(0, Value.ref sc), (1, Value.ref (A 0 0)), (2, Value.ref (A 60 0)), (3, Value.ref o), (4, Value.ref oD), (5, Value.int (nI (5 * c)))] [] h := by
  refine pw_aload_n (pc2 := 956) dL_law_955 rfl rfl 1 rfl (by first | exact rf_ref _ | exact rf_opt _ | exact rf_nul) ?_
  refine pw_aload_n (pc2 := 957) dL_law_956 rfl rfl 0 rfl (by first | exact rf_ref _ | exact rf_opt _ | exact rf_nul) ?_
  refine pw_iload (pc2 := 959) dL_law_957 rfl 5 rfl ?_
  refine pw_iconst (pc2 := 960) (v := 1) dL_law_959 rfl (by decide) ?_
  refine pw_iadd (pc2 := 961) dL_law_960 rfl ?_
  refine pw_topE (nI_1 _) ?_
  refine pw_sld (pc2 := 962) (i := (5 * c) + 1) (by omega) (by omega) dL_law_961 rfl ?_
  refine pw_aload_n (pc2 := 963) dL_law_962 rfl rfl 3 rfl (by first | exact rf_ref _ | exact rf_opt _ | exact rf_nul) ?_
  obtain ⟨Qw, hw, hn⟩ := st_budget HI (xs ((5 * c) + 1))
  refine PW.widen (kc' := (kc + 0) + (0 + 1)) (ks' := (ks + 0) + (0 + 6)) (by omega) (by omega) ?_
  refine pw_callS (kc := kc + 0) (ks := ks + 0) (pc2 := 966) hw cs_L_157 rfl dL_law_963 rfl (by omega) rfl (by first | decide | simp [cat_rf, Value.category]) (fun r9 h9 q9 => ?_) (fun Y h9 q9 => q9.elim)
  obtain ⟨k, rfl, ⟨fs, hfs⟩, Qm, hm, hn2⟩ := hn _ _ q9
  refine pw_istore (pc2 := 968) (L2 := [(6, Value.int k), (0, Value.ref sc), (1, Value.ref (A 0 0)), (2, Value.ref (A 60 0)), (3, Value.ref o), (4, Value.ref oD), (5, Value.int (nI (5 * c)))]) dL_law_966 rfl (by decide) rfl ?_
  refine pw_aload_n (pc2 := 969) dL_law_968 rfl rfl 3 rfl (by first | exact rf_ref _ | exact rf_opt _ | exact rf_nul) ?_
  refine pw_aload_n (pc2 := 970) dL_law_969 rfl rfl 1 rfl (by first | exact rf_ref _ | exact rf_opt _ | exact rf_nul) ?_
  refine pw_iload (pc2 := 972) dL_law_970 rfl 6 rfl ?_
  refine pw_iconst (pc2 := 973) (v := 1) dL_law_972 rfl (by decide) ?_
  refine pw_iadd (pc2 := 974) dL_law_973 rfl ?_
  refine pw_topE (nI_1 _) ?_
  refine pw_sld (pc2 := 975) (i := (5 * c) + 1) (by omega) (by omega) dL_law_974 rfl ?_
  refine pw_callV (kc := kc) (ks := ks) (pc2 := 978) hm cs_L_159 rfl rfl hfs dL_law_975 rfl (by omega) rfl (by first | decide | simp [cat_rf, Value.category]) (fun r8 h8 q8 => ?_) (fun Y h8 q8 => q8.elim)
  obtain ⟨b, rfl, A', σ', ofr', HI', e0, e60, h7, hk⟩ := hn2 _ _ q8
  refine pw_istore (pc2 := 980) (L2 := [(7, Value.int b), (6, Value.int k), (0, Value.ref sc), (1, Value.ref (A 0 0)), (2, Value.ref (A 60 0)), (3, Value.ref o), (4, Value.ref oD), (5, Value.int (nI (5 * c)))]) dL_law_978 rfl (by decide) rfl ?_
  refine pw_aload_n (pc2 := 981) dL_law_980 rfl rfl 4 rfl (by first | exact rf_ref _ | exact rf_opt _ | exact rf_nul) ?_
  have hT : PMet G MX10_thrown 0 0 0 [.ref (A 60 0)] h8 (det (some (.int k)) h8) noX := by have z := c_thrown G h8 HI'.1.wm; rw [e60, h7] at z; exact z
  have hR8 := HI'.1.c60
  rw [e60] at hR8
  refine pw_callV1 (kc := kc) (ks := ks) (pc2 := 984) hT cs_L_116 rfl rfl hR8 dL_law_981 rfl (by omega) rfl (by first | decide | simp [cat_rf, Value.category]) ?_
  refine pw_iload (pc2 := 986) dL_law_984 rfl 1 rfl ?_
  refine pw_icmp_eq (tgt := 991) (pc2 := 989) dL_law_986 (by decide) rfl (fun _ => ?_) (fun c986 => by exact absurd (rfl) c986)
  refine pw_iload (pc2 := 993) dL_law_991 rfl 1 rfl ?_
  refine pw_if_ne (tgt := 1008) (pc2 := 996) dL_law_993 (by decide) rfl (fun c993 => ?_) (fun c993 => ?_)
  · refine pw_goto (tgt := 1820) dL_law_1008 (by decide) ?_
    refine PW.sub (L2 := [(0, Value.ref sc), (1, Value.ref (A 0 0)), (2, Value.ref (A 60 0)), (3, Value.ref o), (4, Value.ref oD), (5, Value.int (nI (5 * c)))]) [2, 3, 4, 5, 6, 7] rfl ?_
    exact K h8 A' σ' ofr' HI' e0 e60
  · have K0 : k = 0 := by first | exact c993 | exact Classical.not_not.mp c993
    refine pw_aload_n (pc2 := 997) dL_law_996 rfl rfl 5 rfl (by first | exact rf_ref _ | exact rf_opt _ | exact rf_nul) ?_
    refine pw_iconst (pc2 := 998) (v := 0) dL_law_997 rfl (by decide) ?_
    obtain ⟨f, hf, hf0⟩ := hk K0
    refine pw_lald (pc2 := 999) hf (by unfold vp_in; decide) dL_law_998 rfl ?_
    refine pw_iload (pc2 := 1001) dL_law_999 rfl 0 rfl ?_
    refine pw_i2l (pc2 := 1002) dL_law_1001 rfl ?_
    refine pw_lcmp (pc2 := 1003) dL_law_1002 rfl ?_
    refine pw_if_eq (tgt := 1008) (pc2 := 1006) dL_law_1003 (by decide) rfl (fun _ => ?_) (fun c1003 => by exact absurd (lcmp_eq hf0) c1003)
    refine pw_goto (tgt := 1820) dL_law_1008 (by decide) ?_
    refine PW.sub (L2 := [(0, Value.ref sc), (1, Value.ref (A 0 0)), (2, Value.ref (A 60 0)), (3, Value.ref o), (4, Value.ref oD), (5, Value.int (nI (5 * c)))]) [2, 3, 4, 5, 6, 7] rfl ?_
    exact K h8 A' σ' ofr' HI' e0 e60
set_option maxHeartbeats 4000000 in
set_option maxRecDepth 100000 in
theorem lc_testTime (HI : INV G h A σ ofr o oD) (hd : 20 ≤ d) (hL : Ln ≤ 2560) (hc : 5 * c + 5 ≤ Ln) (K : ∀ (h8 : hp) (A' : aT) (σ' : sT) (ofr' : Nat → Nat), INV G h8 A' σ' ofr' o oD → A' 0 0 = A 0 0 → A' 60 0 = A 60 0 → PW G ML_law d (psX sc Ln xs) EL kc ks 1820 [(0, Value.ref sc), (1, Value.ref (A 0 0)), (2, Value.ref (A 60 0)), (3, Value.ref o), (4, Value.ref oD), (5, Value.int (nI (5 * c)))] [] h8) : PW G ML_law d (psX sc Ln xs) EL (kc + 40) (ks + 400) 1011 [(0, Value.ref sc), (1, Value.ref (A 0 0)), (2, Value.ref (A 60 0)), (3, Value.ref o), (4, Value.ref oD), (5, Value.int (nI (5 * c)))] [] h := by
  refine pw_aload_n (pc2 := 1012) dL_law_1011 rfl rfl 1 rfl (by first | exact rf_ref _ | exact rf_opt _ | exact rf_nul) ?_
  refine pw_aload_n (pc2 := 1013) dL_law_1012 rfl rfl 0 rfl (by first | exact rf_ref _ | exact rf_opt _ | exact rf_nul) ?_
  refine pw_iload (pc2 := 1015) dL_law_1013 rfl 5 rfl ?_
  refine pw_iconst (pc2 := 1016) (v := 1) dL_law_1015 rfl (by decide) ?_
  refine pw_iadd (pc2 := 1017) dL_law_1016 rfl ?_
  refine pw_topE (nI_1 _) ?_
  refine pw_sld (pc2 := 1018) (i := (5 * c) + 1) (by omega) (by omega) dL_law_1017 rfl ?_
  refine pw_aload_n (pc2 := 1019) dL_law_1018 rfl rfl 3 rfl (by first | exact rf_ref _ | exact rf_opt _ | exact rf_nul) ?_
  obtain ⟨Qw, hw, hn⟩ := st_testTime HI (xs ((5 * c) + 1))
  refine PW.widen (kc' := (kc + 1) + (0 + 1)) (ks' := (ks + 4) + (0 + 6)) (by omega) (by omega) ?_
  refine pw_callS (kc := kc + 1) (ks := ks + 4) (pc2 := 1022) hw cs_L_160 rfl dL_law_1019 rfl (by omega) rfl (by first | decide | simp [cat_rf, Value.category]) (fun r9 h9 q9 => ?_) (fun Y h9 q9 => q9.elim)
  obtain ⟨k, rfl, ⟨fs, hfs⟩, Qm, hm, hn2⟩ := hn _ _ q9
  refine pw_istore (pc2 := 1024) (L2 := [(6, Value.int k), (0, Value.ref sc), (1, Value.ref (A 0 0)), (2, Value.ref (A 60 0)), (3, Value.ref o), (4, Value.ref oD), (5, Value.int (nI (5 * c)))]) dL_law_1022 rfl (by decide) rfl ?_
  refine pw_aload_n (pc2 := 1025) dL_law_1024 rfl rfl 3 rfl (by first | exact rf_ref _ | exact rf_opt _ | exact rf_nul) ?_
  refine pw_aload_n (pc2 := 1026) dL_law_1025 rfl rfl 1 rfl (by first | exact rf_ref _ | exact rf_opt _ | exact rf_nul) ?_
  refine pw_iload (pc2 := 1028) dL_law_1026 rfl 6 rfl ?_
  refine pw_iconst (pc2 := 1029) (v := 1) dL_law_1028 rfl (by decide) ?_
  refine pw_iadd (pc2 := 1030) dL_law_1029 rfl ?_
  refine pw_topE (nI_1 _) ?_
  refine pw_sld (pc2 := 1031) (i := (5 * c) + 1) (by omega) (by omega) dL_law_1030 rfl ?_
  refine pw_callV (kc := kc) (ks := ks) (pc2 := 1034) hm cs_L_162 rfl rfl hfs dL_law_1031 rfl (by omega) rfl (by first | decide | simp [cat_rf, Value.category]) (fun r8 h8 q8 => ?_) (fun Y h8 q8 => q8.elim)
  obtain ⟨b, rfl, A', σ', ofr', HI', e0, e60, h7, hk⟩ := hn2 _ _ q8
  refine pw_istore (pc2 := 1036) (L2 := [(7, Value.int b), (6, Value.int k), (0, Value.ref sc), (1, Value.ref (A 0 0)), (2, Value.ref (A 60 0)), (3, Value.ref o), (4, Value.ref oD), (5, Value.int (nI (5 * c)))]) dL_law_1034 rfl (by decide) rfl ?_
  refine pw_aload_n (pc2 := 1037) dL_law_1036 rfl rfl 4 rfl (by first | exact rf_ref _ | exact rf_opt _ | exact rf_nul) ?_
  have hT : PMet G MX10_thrown 0 0 0 [.ref (A 60 0)] h8 (det (some (.int k)) h8) noX := by have z := c_thrown G h8 HI'.1.wm; rw [e60, h7] at z; exact z
  have hR8 := HI'.1.c60
  rw [e60] at hR8
  refine pw_callV1 (kc := kc) (ks := ks) (pc2 := 1040) hT cs_L_116 rfl rfl hR8 dL_law_1037 rfl (by omega) rfl (by first | decide | simp [cat_rf, Value.category]) ?_
  refine pw_iload (pc2 := 1042) dL_law_1040 rfl 1 rfl ?_
  refine pw_icmp_eq (tgt := 1047) (pc2 := 1045) dL_law_1042 (by decide) rfl (fun _ => ?_) (fun c1042 => by exact absurd (rfl) c1042)
  refine pw_iload (pc2 := 1049) dL_law_1047 rfl 1 rfl ?_
  refine pw_if_ne (tgt := 1064) (pc2 := 1052) dL_law_1049 (by decide) rfl (fun c1049 => ?_) (fun c1049 => ?_)
  · refine pw_goto (tgt := 1820) dL_law_1064 (by decide) ?_
    refine PW.sub (L2 := [(0, Value.ref sc), (1, Value.ref (A 0 0)), (2, Value.ref (A 60 0)), (3, Value.ref o), (4, Value.ref oD), (5, Value.int (nI (5 * c)))]) [2, 3, 4, 5, 6, 7] rfl ?_
    exact K h8 A' σ' ofr' HI' e0 e60
  · have K0 : k = 0 := by first | exact c1049 | exact Classical.not_not.mp c1049
    refine pw_aload_n (pc2 := 1053) dL_law_1052 rfl rfl 5 rfl (by first | exact rf_ref _ | exact rf_opt _ | exact rf_nul) ?_
    refine pw_iconst (pc2 := 1054) (v := 0) dL_law_1053 rfl (by decide) ?_
    obtain ⟨f, hf, hf0⟩ := hk K0
    refine pw_lald (pc2 := 1055) hf (by unfold vp_in; decide) dL_law_1054 rfl ?_
    refine pw_iload (pc2 := 1057) dL_law_1055 rfl 0 rfl ?_
    refine pw_i2l (pc2 := 1058) dL_law_1057 rfl ?_
    refine pw_lcmp (pc2 := 1059) dL_law_1058 rfl ?_
    refine pw_if_eq (tgt := 1064) (pc2 := 1062) dL_law_1059 (by decide) rfl (fun _ => ?_) (fun c1059 => by exact absurd (lcmp_eq hf0) c1059)
    refine pw_goto (tgt := 1820) dL_law_1064 (by decide) ?_
    refine PW.sub (L2 := [(0, Value.ref sc), (1, Value.ref (A 0 0)), (2, Value.ref (A 60 0)), (3, Value.ref o), (4, Value.ref oD), (5, Value.int (nI (5 * c)))]) [2, 3, 4, 5, 6, 7] rfl ?_
    exact K h8 A' σ' ofr' HI' e0 e60
set_option maxHeartbeats 4000000 in
set_option maxRecDepth 100000 in
theorem lc_test (HI : INV G h A σ ofr o oD) (hd : 20 ≤ d) (hL : Ln ≤ 2560) (hc : 5 * c + 5 ≤ Ln) (K : ∀ (h8 : hp) (A' : aT) (σ' : sT) (ofr' : Nat → Nat), INV G h8 A' σ' ofr' o oD → A' 0 0 = A 0 0 → A' 60 0 = A 60 0 → PW G ML_law d (psX sc Ln xs) EL kc ks 1820 [(0, Value.ref sc), (1, Value.ref (A 0 0)), (2, Value.ref (A 60 0)), (3, Value.ref o), (4, Value.ref oD), (5, Value.int (nI (5 * c)))] [] h8) : PW G ML_law d (psX sc Ln xs) EL (kc + 40) (ks + 400) 1067 [(0, Value.ref sc), (1, Value.ref (A 0 0)), (2, Value.ref (A 60 0)), (3, Value.ref o), (4, Value.ref oD), (5, Value.int (nI (5 * c)))] [] h := by
  refine pw_aload_n (pc2 := 1068) dL_law_1067 rfl rfl 1 rfl (by first | exact rf_ref _ | exact rf_opt _ | exact rf_nul) ?_
  refine pw_aload_n (pc2 := 1069) dL_law_1068 rfl rfl 0 rfl (by first | exact rf_ref _ | exact rf_opt _ | exact rf_nul) ?_
  refine pw_iload (pc2 := 1071) dL_law_1069 rfl 5 rfl ?_
  refine pw_iconst (pc2 := 1072) (v := 1) dL_law_1071 rfl (by decide) ?_
  refine pw_iadd (pc2 := 1073) dL_law_1072 rfl ?_
  refine pw_topE (nI_1 _) ?_
  refine pw_sld (pc2 := 1074) (i := (5 * c) + 1) (by omega) (by omega) dL_law_1073 rfl ?_
  refine pw_aload_n (pc2 := 1075) dL_law_1074 rfl rfl 3 rfl (by first | exact rf_ref _ | exact rf_opt _ | exact rf_nul) ?_
  obtain ⟨Qw, hw, hn⟩ := st_test HI (xs ((5 * c) + 1))
  refine PW.widen (kc' := (kc + 0) + (0 + 3)) (ks' := (ks + 0) + (0 + 18)) (by omega) (by omega) ?_
  refine pw_callS (kc := kc + 0) (ks := ks + 0) (pc2 := 1078) hw cs_L_163 rfl dL_law_1075 rfl (by omega) rfl (by first | decide | simp [cat_rf, Value.category]) (fun r9 h9 q9 => ?_) (fun Y h9 q9 => q9.elim)
  obtain ⟨k, rfl, ⟨fs, hfs⟩, Qm, hm, hn2⟩ := hn _ _ q9
  refine pw_istore (pc2 := 1080) (L2 := [(6, Value.int k), (0, Value.ref sc), (1, Value.ref (A 0 0)), (2, Value.ref (A 60 0)), (3, Value.ref o), (4, Value.ref oD), (5, Value.int (nI (5 * c)))]) dL_law_1078 rfl (by decide) rfl ?_
  refine pw_aload_n (pc2 := 1081) dL_law_1080 rfl rfl 3 rfl (by first | exact rf_ref _ | exact rf_opt _ | exact rf_nul) ?_
  refine pw_aload_n (pc2 := 1082) dL_law_1081 rfl rfl 1 rfl (by first | exact rf_ref _ | exact rf_opt _ | exact rf_nul) ?_
  refine pw_iload (pc2 := 1084) dL_law_1082 rfl 6 rfl ?_
  refine pw_iconst (pc2 := 1085) (v := 1) dL_law_1084 rfl (by decide) ?_
  refine pw_iadd (pc2 := 1086) dL_law_1085 rfl ?_
  refine pw_topE (nI_1 _) ?_
  refine pw_sld (pc2 := 1087) (i := (5 * c) + 1) (by omega) (by omega) dL_law_1086 rfl ?_
  refine pw_callV (kc := kc) (ks := ks) (pc2 := 1090) hm cs_L_165 rfl rfl hfs dL_law_1087 rfl (by omega) rfl (by first | decide | simp [cat_rf, Value.category]) (fun r8 h8 q8 => ?_) (fun Y h8 q8 => q8.elim)
  obtain ⟨b, rfl, A', σ', ofr', HI', e0, e60, h7, hk⟩ := hn2 _ _ q8
  refine pw_istore (pc2 := 1092) (L2 := [(7, Value.int b), (6, Value.int k), (0, Value.ref sc), (1, Value.ref (A 0 0)), (2, Value.ref (A 60 0)), (3, Value.ref o), (4, Value.ref oD), (5, Value.int (nI (5 * c)))]) dL_law_1090 rfl (by decide) rfl ?_
  refine pw_aload_n (pc2 := 1093) dL_law_1092 rfl rfl 4 rfl (by first | exact rf_ref _ | exact rf_opt _ | exact rf_nul) ?_
  have hT : PMet G MX10_thrown 0 0 0 [.ref (A 60 0)] h8 (det (some (.int k)) h8) noX := by have z := c_thrown G h8 HI'.1.wm; rw [e60, h7] at z; exact z
  have hR8 := HI'.1.c60
  rw [e60] at hR8
  refine pw_callV1 (kc := kc) (ks := ks) (pc2 := 1096) hT cs_L_116 rfl rfl hR8 dL_law_1093 rfl (by omega) rfl (by first | decide | simp [cat_rf, Value.category]) ?_
  refine pw_iload (pc2 := 1098) dL_law_1096 rfl 1 rfl ?_
  refine pw_icmp_eq (tgt := 1103) (pc2 := 1101) dL_law_1098 (by decide) rfl (fun _ => ?_) (fun c1098 => by exact absurd (rfl) c1098)
  refine pw_iload (pc2 := 1105) dL_law_1103 rfl 1 rfl ?_
  refine pw_if_ne (tgt := 1120) (pc2 := 1108) dL_law_1105 (by decide) rfl (fun c1105 => ?_) (fun c1105 => ?_)
  · refine pw_goto (tgt := 1820) dL_law_1120 (by decide) ?_
    refine PW.sub (L2 := [(0, Value.ref sc), (1, Value.ref (A 0 0)), (2, Value.ref (A 60 0)), (3, Value.ref o), (4, Value.ref oD), (5, Value.int (nI (5 * c)))]) [2, 3, 4, 5, 6, 7] rfl ?_
    exact K h8 A' σ' ofr' HI' e0 e60
  · have K0 : k = 0 := by first | exact c1105 | exact Classical.not_not.mp c1105
    refine pw_aload_n (pc2 := 1109) dL_law_1108 rfl rfl 5 rfl (by first | exact rf_ref _ | exact rf_opt _ | exact rf_nul) ?_
    refine pw_iconst (pc2 := 1110) (v := 0) dL_law_1109 rfl (by decide) ?_
    obtain ⟨f, hf, hf0⟩ := hk K0
    refine pw_lald (pc2 := 1111) hf (by unfold vp_in; decide) dL_law_1110 rfl ?_
    refine pw_iload (pc2 := 1113) dL_law_1111 rfl 0 rfl ?_
    refine pw_i2l (pc2 := 1114) dL_law_1113 rfl ?_
    refine pw_lcmp (pc2 := 1115) dL_law_1114 rfl ?_
    refine pw_if_eq (tgt := 1120) (pc2 := 1118) dL_law_1115 (by decide) rfl (fun _ => ?_) (fun c1115 => by exact absurd (lcmp_eq hf0) c1115)
    refine pw_goto (tgt := 1820) dL_law_1120 (by decide) ?_
    refine PW.sub (L2 := [(0, Value.ref sc), (1, Value.ref (A 0 0)), (2, Value.ref (A 60 0)), (3, Value.ref o), (4, Value.ref oD), (5, Value.int (nI (5 * c)))]) [2, 3, 4, 5, 6, 7] rfl ?_
    exact K h8 A' σ' ofr' HI' e0 e60
set_option maxHeartbeats 4000000 in
set_option maxRecDepth 100000 in
theorem lc_flaky (HI : INV G h A σ ofr o oD) (hd : 20 ≤ d) (hL : Ln ≤ 2560) (hc : 5 * c + 5 ≤ Ln) (K : ∀ (h8 : hp) (A' : aT) (σ' : sT) (ofr' : Nat → Nat), INV G h8 A' σ' ofr' o oD → A' 0 0 = A 0 0 → A' 60 0 = A 60 0 → PW G ML_law d (psX sc Ln xs) EL kc ks 1820 [(0, Value.ref sc), (1, Value.ref (A 0 0)), (2, Value.ref (A 60 0)), (3, Value.ref o), (4, Value.ref oD), (5, Value.int (nI (5 * c)))] [] h8) : PW G ML_law d (psX sc Ln xs) EL (kc + 40) (ks + 400) 1123 [(0, Value.ref sc), (1, Value.ref (A 0 0)), (2, Value.ref (A 60 0)), (3, Value.ref o), (4, Value.ref oD), (5, Value.int (nI (5 * c)))] [] h := by
  refine pw_aload_n (pc2 := 1124) dL_law_1123 rfl rfl 1 rfl (by first | exact rf_ref _ | exact rf_opt _ | exact rf_nul) ?_
  refine pw_aload_n (pc2 := 1125) dL_law_1124 rfl rfl 0 rfl (by first | exact rf_ref _ | exact rf_opt _ | exact rf_nul) ?_
  refine pw_iload (pc2 := 1127) dL_law_1125 rfl 5 rfl ?_
  refine pw_iconst (pc2 := 1128) (v := 1) dL_law_1127 rfl (by decide) ?_
  refine pw_iadd (pc2 := 1129) dL_law_1128 rfl ?_
  refine pw_topE (nI_1 _) ?_
  refine pw_sld (pc2 := 1130) (i := (5 * c) + 1) (by omega) (by omega) dL_law_1129 rfl ?_
  refine pw_aload_n (pc2 := 1131) dL_law_1130 rfl rfl 3 rfl (by first | exact rf_ref _ | exact rf_opt _ | exact rf_nul) ?_
  obtain ⟨Qw, hw, hn⟩ := st_flaky HI (xs ((5 * c) + 1))
  refine PW.widen (kc' := (kc + 0) + (0 + 1)) (ks' := (ks + 0) + (0 + 6)) (by omega) (by omega) ?_
  refine pw_callS (kc := kc + 0) (ks := ks + 0) (pc2 := 1134) hw cs_L_166 rfl dL_law_1131 rfl (by omega) rfl (by first | decide | simp [cat_rf, Value.category]) (fun r9 h9 q9 => ?_) (fun Y h9 q9 => q9.elim)
  obtain ⟨k, rfl, ⟨fs, hfs⟩, Qm, hm, hn2⟩ := hn _ _ q9
  refine pw_istore (pc2 := 1136) (L2 := [(6, Value.int k), (0, Value.ref sc), (1, Value.ref (A 0 0)), (2, Value.ref (A 60 0)), (3, Value.ref o), (4, Value.ref oD), (5, Value.int (nI (5 * c)))]) dL_law_1134 rfl (by decide) rfl ?_
  refine pw_aload_n (pc2 := 1137) dL_law_1136 rfl rfl 3 rfl (by first | exact rf_ref _ | exact rf_opt _ | exact rf_nul) ?_
  refine pw_aload_n (pc2 := 1138) dL_law_1137 rfl rfl 1 rfl (by first | exact rf_ref _ | exact rf_opt _ | exact rf_nul) ?_
  refine pw_iload (pc2 := 1140) dL_law_1138 rfl 6 rfl ?_
  refine pw_iconst (pc2 := 1141) (v := 1) dL_law_1140 rfl (by decide) ?_
  refine pw_iadd (pc2 := 1142) dL_law_1141 rfl ?_
  refine pw_topE (nI_1 _) ?_
  refine pw_sld (pc2 := 1143) (i := (5 * c) + 1) (by omega) (by omega) dL_law_1142 rfl ?_
  refine pw_callV (kc := kc) (ks := ks) (pc2 := 1146) hm cs_L_168 rfl rfl hfs dL_law_1143 rfl (by omega) rfl (by first | decide | simp [cat_rf, Value.category]) (fun r8 h8 q8 => ?_) (fun Y h8 q8 => q8.elim)
  obtain ⟨b, rfl, A', σ', ofr', HI', e0, e60, h7, hk⟩ := hn2 _ _ q8
  refine pw_istore (pc2 := 1148) (L2 := [(7, Value.int b), (6, Value.int k), (0, Value.ref sc), (1, Value.ref (A 0 0)), (2, Value.ref (A 60 0)), (3, Value.ref o), (4, Value.ref oD), (5, Value.int (nI (5 * c)))]) dL_law_1146 rfl (by decide) rfl ?_
  refine pw_aload_n (pc2 := 1149) dL_law_1148 rfl rfl 4 rfl (by first | exact rf_ref _ | exact rf_opt _ | exact rf_nul) ?_
  have hT : PMet G MX10_thrown 0 0 0 [.ref (A 60 0)] h8 (det (some (.int k)) h8) noX := by have z := c_thrown G h8 HI'.1.wm; rw [e60, h7] at z; exact z
  have hR8 := HI'.1.c60
  rw [e60] at hR8
  refine pw_callV1 (kc := kc) (ks := ks) (pc2 := 1152) hT cs_L_116 rfl rfl hR8 dL_law_1149 rfl (by omega) rfl (by first | decide | simp [cat_rf, Value.category]) ?_
  refine pw_iload (pc2 := 1154) dL_law_1152 rfl 1 rfl ?_
  refine pw_icmp_eq (tgt := 1159) (pc2 := 1157) dL_law_1154 (by decide) rfl (fun _ => ?_) (fun c1154 => by exact absurd (rfl) c1154)
  refine pw_iload (pc2 := 1161) dL_law_1159 rfl 1 rfl ?_
  refine pw_if_ne (tgt := 1176) (pc2 := 1164) dL_law_1161 (by decide) rfl (fun c1161 => ?_) (fun c1161 => ?_)
  · refine pw_goto (tgt := 1820) dL_law_1176 (by decide) ?_
    refine PW.sub (L2 := [(0, Value.ref sc), (1, Value.ref (A 0 0)), (2, Value.ref (A 60 0)), (3, Value.ref o), (4, Value.ref oD), (5, Value.int (nI (5 * c)))]) [2, 3, 4, 5, 6, 7] rfl ?_
    exact K h8 A' σ' ofr' HI' e0 e60
  · have K0 : k = 0 := by first | exact c1161 | exact Classical.not_not.mp c1161
    refine pw_aload_n (pc2 := 1165) dL_law_1164 rfl rfl 5 rfl (by first | exact rf_ref _ | exact rf_opt _ | exact rf_nul) ?_
    refine pw_iconst (pc2 := 1166) (v := 0) dL_law_1165 rfl (by decide) ?_
    obtain ⟨f, hf, hf0⟩ := hk K0
    refine pw_lald (pc2 := 1167) hf (by unfold vp_in; decide) dL_law_1166 rfl ?_
    refine pw_iload (pc2 := 1169) dL_law_1167 rfl 0 rfl ?_
    refine pw_i2l (pc2 := 1170) dL_law_1169 rfl ?_
    refine pw_lcmp (pc2 := 1171) dL_law_1170 rfl ?_
    refine pw_if_eq (tgt := 1176) (pc2 := 1174) dL_law_1171 (by decide) rfl (fun _ => ?_) (fun c1171 => by exact absurd (lcmp_eq hf0) c1171)
    refine pw_goto (tgt := 1820) dL_law_1176 (by decide) ?_
    refine PW.sub (L2 := [(0, Value.ref sc), (1, Value.ref (A 0 0)), (2, Value.ref (A 60 0)), (3, Value.ref o), (4, Value.ref oD), (5, Value.int (nI (5 * c)))]) [2, 3, 4, 5, 6, 7] rfl ?_
    exact K h8 A' σ' ofr' HI' e0 e60
set_option maxHeartbeats 4000000 in
set_option maxRecDepth 100000 in
theorem lc_flakiest (HI : INV G h A σ ofr o oD) (hd : 20 ≤ d) (hL : Ln ≤ 2560) (hc : 5 * c + 5 ≤ Ln) (K : ∀ (h8 : hp) (A' : aT) (σ' : sT) (ofr' : Nat → Nat), INV G h8 A' σ' ofr' o oD → A' 0 0 = A 0 0 → A' 60 0 = A 60 0 → PW G ML_law d (psX sc Ln xs) EL kc ks 1820 [(0, Value.ref sc), (1, Value.ref (A 0 0)), (2, Value.ref (A 60 0)), (3, Value.ref o), (4, Value.ref oD), (5, Value.int (nI (5 * c)))] [] h8) : PW G ML_law d (psX sc Ln xs) EL (kc + 40) (ks + 400) 1179 [(0, Value.ref sc), (1, Value.ref (A 0 0)), (2, Value.ref (A 60 0)), (3, Value.ref o), (4, Value.ref oD), (5, Value.int (nI (5 * c)))] [] h := by
  refine pw_aload_n (pc2 := 1180) dL_law_1179 rfl rfl 1 rfl (by first | exact rf_ref _ | exact rf_opt _ | exact rf_nul) ?_
  refine pw_aload_n (pc2 := 1181) dL_law_1180 rfl rfl 3 rfl (by first | exact rf_ref _ | exact rf_opt _ | exact rf_nul) ?_
  obtain ⟨Qw, hw, hn⟩ := st_flakiest HI 
  refine PW.widen (kc' := (kc + 0) + (0 + 1)) (ks' := (ks + 0) + (0 + 6)) (by omega) (by omega) ?_
  refine pw_callS (kc := kc + 0) (ks := ks + 0) (pc2 := 1184) hw cs_L_169 rfl dL_law_1181 rfl (by omega) rfl (by first | decide | simp [cat_rf, Value.category]) (fun r9 h9 q9 => ?_) (fun Y h9 q9 => q9.elim)
  obtain ⟨k, rfl, ⟨fs, hfs⟩, Qm, hm, hn2⟩ := hn _ _ q9
  refine pw_istore (pc2 := 1186) (L2 := [(6, Value.int k), (0, Value.ref sc), (1, Value.ref (A 0 0)), (2, Value.ref (A 60 0)), (3, Value.ref o), (4, Value.ref oD), (5, Value.int (nI (5 * c)))]) dL_law_1184 rfl (by decide) rfl ?_
  refine pw_aload_n (pc2 := 1187) dL_law_1186 rfl rfl 3 rfl (by first | exact rf_ref _ | exact rf_opt _ | exact rf_nul) ?_
  refine pw_callV (kc := kc) (ks := ks) (pc2 := 1190) hm cs_L_172 rfl rfl hfs dL_law_1187 rfl (by omega) rfl (by first | decide | simp [cat_rf, Value.category]) (fun r8 h8 q8 => ?_) (fun Y h8 q8 => q8.elim)
  obtain ⟨b, rfl, A', σ', ofr', HI', e0, e60, h7, hk⟩ := hn2 _ _ q8
  refine pw_istore (pc2 := 1192) (L2 := [(7, Value.int b), (6, Value.int k), (0, Value.ref sc), (1, Value.ref (A 0 0)), (2, Value.ref (A 60 0)), (3, Value.ref o), (4, Value.ref oD), (5, Value.int (nI (5 * c)))]) dL_law_1190 rfl (by decide) rfl ?_
  refine pw_aload_n (pc2 := 1193) dL_law_1192 rfl rfl 4 rfl (by first | exact rf_ref _ | exact rf_opt _ | exact rf_nul) ?_
  have hT : PMet G MX10_thrown 0 0 0 [.ref (A 60 0)] h8 (det (some (.int k)) h8) noX := by have z := c_thrown G h8 HI'.1.wm; rw [e60, h7] at z; exact z
  have hR8 := HI'.1.c60
  rw [e60] at hR8
  refine pw_callV1 (kc := kc) (ks := ks) (pc2 := 1196) hT cs_L_116 rfl rfl hR8 dL_law_1193 rfl (by omega) rfl (by first | decide | simp [cat_rf, Value.category]) ?_
  refine pw_iload (pc2 := 1198) dL_law_1196 rfl 1 rfl ?_
  refine pw_icmp_eq (tgt := 1203) (pc2 := 1201) dL_law_1198 (by decide) rfl (fun _ => ?_) (fun c1198 => by exact absurd (rfl) c1198)
  refine pw_iload (pc2 := 1205) dL_law_1203 rfl 1 rfl ?_
  refine pw_if_ne (tgt := 1220) (pc2 := 1208) dL_law_1205 (by decide) rfl (fun c1205 => ?_) (fun c1205 => ?_)
  · refine pw_goto (tgt := 1820) dL_law_1220 (by decide) ?_
    refine PW.sub (L2 := [(0, Value.ref sc), (1, Value.ref (A 0 0)), (2, Value.ref (A 60 0)), (3, Value.ref o), (4, Value.ref oD), (5, Value.int (nI (5 * c)))]) [2, 3, 4, 5, 6, 7] rfl ?_
    exact K h8 A' σ' ofr' HI' e0 e60
  · have K0 : k = 0 := by first | exact c1205 | exact Classical.not_not.mp c1205
    refine pw_aload_n (pc2 := 1209) dL_law_1208 rfl rfl 5 rfl (by first | exact rf_ref _ | exact rf_opt _ | exact rf_nul) ?_
    refine pw_iconst (pc2 := 1210) (v := 0) dL_law_1209 rfl (by decide) ?_
    obtain ⟨f, hf, hf0⟩ := hk K0
    refine pw_lald (pc2 := 1211) hf (by unfold vp_in; decide) dL_law_1210 rfl ?_
    refine pw_iload (pc2 := 1213) dL_law_1211 rfl 0 rfl ?_
    refine pw_i2l (pc2 := 1214) dL_law_1213 rfl ?_
    refine pw_lcmp (pc2 := 1215) dL_law_1214 rfl ?_
    refine pw_if_eq (tgt := 1220) (pc2 := 1218) dL_law_1215 (by decide) rfl (fun _ => ?_) (fun c1215 => by exact absurd (lcmp_eq hf0) c1215)
    refine pw_goto (tgt := 1820) dL_law_1220 (by decide) ?_
    refine PW.sub (L2 := [(0, Value.ref sc), (1, Value.ref (A 0 0)), (2, Value.ref (A 60 0)), (3, Value.ref o), (4, Value.ref oD), (5, Value.int (nI (5 * c)))]) [2, 3, 4, 5, 6, 7] rfl ?_
    exact K h8 A' σ' ofr' HI' e0 e60
set_option maxHeartbeats 4000000 in
set_option maxRecDepth 100000 in
theorem lc_canPublish (HI : INV G h A σ ofr o oD) (hd : 20 ≤ d) (hL : Ln ≤ 2560) (hc : 5 * c + 5 ≤ Ln) (K : ∀ (h8 : hp) (A' : aT) (σ' : sT) (ofr' : Nat → Nat), INV G h8 A' σ' ofr' o oD → A' 0 0 = A 0 0 → A' 60 0 = A 60 0 → PW G ML_law d (psX sc Ln xs) EL kc ks 1820 [(0, Value.ref sc), (1, Value.ref (A 0 0)), (2, Value.ref (A 60 0)), (3, Value.ref o), (4, Value.ref oD), (5, Value.int (nI (5 * c)))] [] h8) : PW G ML_law d (psX sc Ln xs) EL (kc + 40) (ks + 400) 1223 [(0, Value.ref sc), (1, Value.ref (A 0 0)), (2, Value.ref (A 60 0)), (3, Value.ref o), (4, Value.ref oD), (5, Value.int (nI (5 * c)))] [] h := by
  refine pw_aload_n (pc2 := 1224) dL_law_1223 rfl rfl 1 rfl (by first | exact rf_ref _ | exact rf_opt _ | exact rf_nul) ?_
  refine pw_aload_n (pc2 := 1225) dL_law_1224 rfl rfl 0 rfl (by first | exact rf_ref _ | exact rf_opt _ | exact rf_nul) ?_
  refine pw_iload (pc2 := 1227) dL_law_1225 rfl 5 rfl ?_
  refine pw_iconst (pc2 := 1228) (v := 1) dL_law_1227 rfl (by decide) ?_
  refine pw_iadd (pc2 := 1229) dL_law_1228 rfl ?_
  refine pw_topE (nI_1 _) ?_
  refine pw_sld (pc2 := 1230) (i := (5 * c) + 1) (by omega) (by omega) dL_law_1229 rfl ?_
  refine pw_aload_n (pc2 := 1231) dL_law_1230 rfl rfl 3 rfl (by first | exact rf_ref _ | exact rf_opt _ | exact rf_nul) ?_
  obtain ⟨Qw, hw, hn⟩ := st_canPublish HI (xs ((5 * c) + 1))
  refine PW.widen (kc' := (kc + 0) + (0 + 1)) (ks' := (ks + 0) + (0 + 6)) (by omega) (by omega) ?_
  refine pw_callS (kc := kc + 0) (ks := ks + 0) (pc2 := 1234) hw cs_L_173 rfl dL_law_1231 rfl (by omega) rfl (by first | decide | simp [cat_rf, Value.category]) (fun r9 h9 q9 => ?_) (fun Y h9 q9 => q9.elim)
  obtain ⟨k, rfl, ⟨fs, hfs⟩, Qm, hm, hn2⟩ := hn _ _ q9
  refine pw_istore (pc2 := 1236) (L2 := [(6, Value.int k), (0, Value.ref sc), (1, Value.ref (A 0 0)), (2, Value.ref (A 60 0)), (3, Value.ref o), (4, Value.ref oD), (5, Value.int (nI (5 * c)))]) dL_law_1234 rfl (by decide) rfl ?_
  refine pw_aload_n (pc2 := 1237) dL_law_1236 rfl rfl 3 rfl (by first | exact rf_ref _ | exact rf_opt _ | exact rf_nul) ?_
  refine pw_aload_n (pc2 := 1238) dL_law_1237 rfl rfl 1 rfl (by first | exact rf_ref _ | exact rf_opt _ | exact rf_nul) ?_
  refine pw_iload (pc2 := 1240) dL_law_1238 rfl 6 rfl ?_
  refine pw_iconst (pc2 := 1241) (v := 1) dL_law_1240 rfl (by decide) ?_
  refine pw_iadd (pc2 := 1242) dL_law_1241 rfl ?_
  refine pw_topE (nI_1 _) ?_
  refine pw_sld (pc2 := 1243) (i := (5 * c) + 1) (by omega) (by omega) dL_law_1242 rfl ?_
  refine pw_callV (kc := kc) (ks := ks) (pc2 := 1246) hm cs_L_175 rfl rfl hfs dL_law_1243 rfl (by omega) rfl (by first | decide | simp [cat_rf, Value.category]) (fun r8 h8 q8 => ?_) (fun Y h8 q8 => q8.elim)
  obtain ⟨b, rfl, hb01, A', σ', ofr', HI', e0, e60, h7, hk⟩ := hn2 _ _ q8
  refine pw_istore (pc2 := 1248) (L2 := [(7, Value.int b), (6, Value.int k), (0, Value.ref sc), (1, Value.ref (A 0 0)), (2, Value.ref (A 60 0)), (3, Value.ref o), (4, Value.ref oD), (5, Value.int (nI (5 * c)))]) dL_law_1246 rfl (by decide) rfl ?_
  refine pw_aload_n (pc2 := 1249) dL_law_1248 rfl rfl 4 rfl (by first | exact rf_ref _ | exact rf_opt _ | exact rf_nul) ?_
  have hT : PMet G MX10_thrown 0 0 0 [.ref (A 60 0)] h8 (det (some (.int k)) h8) noX := by have z := c_thrown G h8 HI'.1.wm; rw [e60, h7] at z; exact z
  have hR8 := HI'.1.c60
  rw [e60] at hR8
  refine pw_callV1 (kc := kc) (ks := ks) (pc2 := 1252) hT cs_L_116 rfl rfl hR8 dL_law_1249 rfl (by omega) rfl (by first | decide | simp [cat_rf, Value.category]) ?_
  refine pw_iload (pc2 := 1254) dL_law_1252 rfl 1 rfl ?_
  refine pw_icmp_eq (tgt := 1259) (pc2 := 1257) dL_law_1254 (by decide) rfl (fun _ => ?_) (fun c1254 => by exact absurd (rfl) c1254)
  refine pw_iload (pc2 := 1261) dL_law_1259 rfl 1 rfl ?_
  refine pw_if_ne (tgt := 1283) (pc2 := 1264) dL_law_1261 (by decide) rfl (fun c1261 => ?_) (fun c1261 => ?_)
  · refine pw_goto (tgt := 1820) dL_law_1283 (by decide) ?_
    refine PW.sub (L2 := [(0, Value.ref sc), (1, Value.ref (A 0 0)), (2, Value.ref (A 60 0)), (3, Value.ref o), (4, Value.ref oD), (5, Value.int (nI (5 * c)))]) [2, 3, 4, 5, 6, 7] rfl ?_
    exact K h8 A' σ' ofr' HI' e0 e60
  · have K0 : k = 0 := by first | exact c1261 | exact Classical.not_not.mp c1261
    refine pw_aload_n (pc2 := 1265) dL_law_1264 rfl rfl 5 rfl (by first | exact rf_ref _ | exact rf_opt _ | exact rf_nul) ?_
    refine pw_iconst (pc2 := 1266) (v := 0) dL_law_1265 rfl (by decide) ?_
    obtain ⟨f, hf, hf0⟩ := hk K0
    refine pw_lald (pc2 := 1267) hf (by unfold vp_in; decide) dL_law_1266 rfl ?_
    refine pw_iload (pc2 := 1269) dL_law_1267 rfl 0 rfl ?_
    refine pw_if_eq (tgt := 1276) (pc2 := 1272) dL_law_1269 (by decide) rfl (fun c1269 => ?_) (fun c1269 => ?_)
    · refine pw_lconst (pc2 := 1277) (v := 0) dL_law_1276 rfl (by decide) ?_
      refine pw_lcmp (pc2 := 1278) dL_law_1277 rfl ?_
      refine pw_if_eq (tgt := 1283) (pc2 := 1281) dL_law_1278 (by decide) rfl (fun _ => ?_) (fun c1278 => by exact absurd (lcmp_eq (hf0.trans (by first | (rw [c1269]; rfl) | (rw [hb01.resolve_left c1269]; rfl)))) c1278)
      refine pw_goto (tgt := 1820) dL_law_1283 (by decide) ?_
      refine PW.sub (L2 := [(0, Value.ref sc), (1, Value.ref (A 0 0)), (2, Value.ref (A 60 0)), (3, Value.ref o), (4, Value.ref oD), (5, Value.int (nI (5 * c)))]) [2, 3, 4, 5, 6, 7] rfl ?_
      exact K h8 A' σ' ofr' HI' e0 e60
    · refine pw_lconst (pc2 := 1273) (v := 1) dL_law_1272 rfl (by decide) ?_
      refine pw_goto (tgt := 1277) dL_law_1273 (by decide) ?_
      refine pw_lcmp (pc2 := 1278) dL_law_1277 rfl ?_
      refine pw_if_eq (tgt := 1283) (pc2 := 1281) dL_law_1278 (by decide) rfl (fun _ => ?_) (fun c1278 => by exact absurd (lcmp_eq (hf0.trans (by first | (rw [c1269]; rfl) | (rw [hb01.resolve_left c1269]; rfl)))) c1278)
      refine pw_goto (tgt := 1820) dL_law_1283 (by decide) ?_
      refine PW.sub (L2 := [(0, Value.ref sc), (1, Value.ref (A 0 0)), (2, Value.ref (A 60 0)), (3, Value.ref o), (4, Value.ref oD), (5, Value.int (nI (5 * c)))]) [2, 3, 4, 5, 6, 7] rfl ?_
      exact K h8 A' σ' ofr' HI' e0 e60
set_option maxHeartbeats 4000000 in
set_option maxRecDepth 100000 in
theorem lc_nextVersion (HI : INV G h A σ ofr o oD) (hd : 20 ≤ d) (hL : Ln ≤ 2560) (hc : 5 * c + 5 ≤ Ln) (K : ∀ (h8 : hp) (A' : aT) (σ' : sT) (ofr' : Nat → Nat), INV G h8 A' σ' ofr' o oD → A' 0 0 = A 0 0 → A' 60 0 = A 60 0 → PW G ML_law d (psX sc Ln xs) EL kc ks 1820 [(0, Value.ref sc), (1, Value.ref (A 0 0)), (2, Value.ref (A 60 0)), (3, Value.ref o), (4, Value.ref oD), (5, Value.int (nI (5 * c)))] [] h8) : PW G ML_law d (psX sc Ln xs) EL (kc + 40) (ks + 400) 1286 [(0, Value.ref sc), (1, Value.ref (A 0 0)), (2, Value.ref (A 60 0)), (3, Value.ref o), (4, Value.ref oD), (5, Value.int (nI (5 * c)))] [] h := by
  refine pw_aload_n (pc2 := 1287) dL_law_1286 rfl rfl 1 rfl (by first | exact rf_ref _ | exact rf_opt _ | exact rf_nul) ?_
  refine pw_aload_n (pc2 := 1288) dL_law_1287 rfl rfl 0 rfl (by first | exact rf_ref _ | exact rf_opt _ | exact rf_nul) ?_
  refine pw_iload (pc2 := 1290) dL_law_1288 rfl 5 rfl ?_
  refine pw_iconst (pc2 := 1291) (v := 1) dL_law_1290 rfl (by decide) ?_
  refine pw_iadd (pc2 := 1292) dL_law_1291 rfl ?_
  refine pw_topE (nI_1 _) ?_
  refine pw_sld (pc2 := 1293) (i := (5 * c) + 1) (by omega) (by omega) dL_law_1292 rfl ?_
  refine pw_aload_n (pc2 := 1294) dL_law_1293 rfl rfl 3 rfl (by first | exact rf_ref _ | exact rf_opt _ | exact rf_nul) ?_
  obtain ⟨Qw, hw, hn⟩ := st_nextVersion HI (xs ((5 * c) + 1))
  refine PW.widen (kc' := (kc + 0) + (0 + 1)) (ks' := (ks + 0) + (0 + 6)) (by omega) (by omega) ?_
  refine pw_callS (kc := kc + 0) (ks := ks + 0) (pc2 := 1297) hw cs_L_176 rfl dL_law_1294 rfl (by omega) rfl (by first | decide | simp [cat_rf, Value.category]) (fun r9 h9 q9 => ?_) (fun Y h9 q9 => q9.elim)
  obtain ⟨k, rfl, ⟨fs, hfs⟩, Qm, hm, hn2⟩ := hn _ _ q9
  refine pw_istore (pc2 := 1299) (L2 := [(6, Value.int k), (0, Value.ref sc), (1, Value.ref (A 0 0)), (2, Value.ref (A 60 0)), (3, Value.ref o), (4, Value.ref oD), (5, Value.int (nI (5 * c)))]) dL_law_1297 rfl (by decide) rfl ?_
  refine pw_aload_n (pc2 := 1300) dL_law_1299 rfl rfl 3 rfl (by first | exact rf_ref _ | exact rf_opt _ | exact rf_nul) ?_
  refine pw_aload_n (pc2 := 1301) dL_law_1300 rfl rfl 1 rfl (by first | exact rf_ref _ | exact rf_opt _ | exact rf_nul) ?_
  refine pw_iload (pc2 := 1303) dL_law_1301 rfl 6 rfl ?_
  refine pw_iconst (pc2 := 1304) (v := 1) dL_law_1303 rfl (by decide) ?_
  refine pw_iadd (pc2 := 1305) dL_law_1304 rfl ?_
  refine pw_topE (nI_1 _) ?_
  refine pw_sld (pc2 := 1306) (i := (5 * c) + 1) (by omega) (by omega) dL_law_1305 rfl ?_
  refine pw_callV (kc := kc) (ks := ks) (pc2 := 1309) hm cs_L_178 rfl rfl hfs dL_law_1306 rfl (by omega) rfl (by first | decide | simp [cat_rf, Value.category]) (fun r8 h8 q8 => ?_) (fun Y h8 q8 => q8.elim)
  obtain ⟨b, rfl, A', σ', ofr', HI', e0, e60, h7, hk⟩ := hn2 _ _ q8
  refine pw_istore (pc2 := 1311) (L2 := [(7, Value.int b), (6, Value.int k), (0, Value.ref sc), (1, Value.ref (A 0 0)), (2, Value.ref (A 60 0)), (3, Value.ref o), (4, Value.ref oD), (5, Value.int (nI (5 * c)))]) dL_law_1309 rfl (by decide) rfl ?_
  refine pw_aload_n (pc2 := 1312) dL_law_1311 rfl rfl 4 rfl (by first | exact rf_ref _ | exact rf_opt _ | exact rf_nul) ?_
  have hT : PMet G MX10_thrown 0 0 0 [.ref (A 60 0)] h8 (det (some (.int k)) h8) noX := by have z := c_thrown G h8 HI'.1.wm; rw [e60, h7] at z; exact z
  have hR8 := HI'.1.c60
  rw [e60] at hR8
  refine pw_callV1 (kc := kc) (ks := ks) (pc2 := 1315) hT cs_L_116 rfl rfl hR8 dL_law_1312 rfl (by omega) rfl (by first | decide | simp [cat_rf, Value.category]) ?_
  refine pw_iload (pc2 := 1317) dL_law_1315 rfl 1 rfl ?_
  refine pw_icmp_eq (tgt := 1322) (pc2 := 1320) dL_law_1317 (by decide) rfl (fun _ => ?_) (fun c1317 => by exact absurd (rfl) c1317)
  refine pw_iload (pc2 := 1324) dL_law_1322 rfl 1 rfl ?_
  refine pw_if_ne (tgt := 1339) (pc2 := 1327) dL_law_1324 (by decide) rfl (fun c1324 => ?_) (fun c1324 => ?_)
  · refine pw_goto (tgt := 1820) dL_law_1339 (by decide) ?_
    refine PW.sub (L2 := [(0, Value.ref sc), (1, Value.ref (A 0 0)), (2, Value.ref (A 60 0)), (3, Value.ref o), (4, Value.ref oD), (5, Value.int (nI (5 * c)))]) [2, 3, 4, 5, 6, 7] rfl ?_
    exact K h8 A' σ' ofr' HI' e0 e60
  · have K0 : k = 0 := by first | exact c1324 | exact Classical.not_not.mp c1324
    refine pw_aload_n (pc2 := 1328) dL_law_1327 rfl rfl 5 rfl (by first | exact rf_ref _ | exact rf_opt _ | exact rf_nul) ?_
    refine pw_iconst (pc2 := 1329) (v := 0) dL_law_1328 rfl (by decide) ?_
    obtain ⟨f, hf, hf0⟩ := hk K0
    refine pw_lald (pc2 := 1330) hf (by unfold vp_in; decide) dL_law_1329 rfl ?_
    refine pw_iload (pc2 := 1332) dL_law_1330 rfl 0 rfl ?_
    refine pw_i2l (pc2 := 1333) dL_law_1332 rfl ?_
    refine pw_lcmp (pc2 := 1334) dL_law_1333 rfl ?_
    refine pw_if_eq (tgt := 1339) (pc2 := 1337) dL_law_1334 (by decide) rfl (fun _ => ?_) (fun c1334 => by exact absurd (lcmp_eq hf0) c1334)
    refine pw_goto (tgt := 1820) dL_law_1339 (by decide) ?_
    refine PW.sub (L2 := [(0, Value.ref sc), (1, Value.ref (A 0 0)), (2, Value.ref (A 60 0)), (3, Value.ref o), (4, Value.ref oD), (5, Value.int (nI (5 * c)))]) [2, 3, 4, 5, 6, 7] rfl ?_
    exact K h8 A' σ' ofr' HI' e0 e60
set_option maxHeartbeats 4000000 in
set_option maxRecDepth 100000 in
theorem lc_publish (HI : INV G h A σ ofr o oD) (hd : 20 ≤ d) (hL : Ln ≤ 2560) (hc : 5 * c + 5 ≤ Ln) (K : ∀ (h8 : hp) (A' : aT) (σ' : sT) (ofr' : Nat → Nat), INV G h8 A' σ' ofr' o oD → A' 0 0 = A 0 0 → A' 60 0 = A 60 0 → PW G ML_law d (psX sc Ln xs) EL kc ks 1820 [(0, Value.ref sc), (1, Value.ref (A 0 0)), (2, Value.ref (A 60 0)), (3, Value.ref o), (4, Value.ref oD), (5, Value.int (nI (5 * c)))] [] h8) : PW G ML_law d (psX sc Ln xs) EL (kc + 40) (ks + 400) 1342 [(0, Value.ref sc), (1, Value.ref (A 0 0)), (2, Value.ref (A 60 0)), (3, Value.ref o), (4, Value.ref oD), (5, Value.int (nI (5 * c)))] [] h := by
  refine pw_aload_n (pc2 := 1343) dL_law_1342 rfl rfl 1 rfl (by first | exact rf_ref _ | exact rf_opt _ | exact rf_nul) ?_
  refine pw_aload_n (pc2 := 1344) dL_law_1343 rfl rfl 0 rfl (by first | exact rf_ref _ | exact rf_opt _ | exact rf_nul) ?_
  refine pw_iload (pc2 := 1346) dL_law_1344 rfl 5 rfl ?_
  refine pw_iconst (pc2 := 1347) (v := 1) dL_law_1346 rfl (by decide) ?_
  refine pw_iadd (pc2 := 1348) dL_law_1347 rfl ?_
  refine pw_topE (nI_1 _) ?_
  refine pw_sld (pc2 := 1349) (i := (5 * c) + 1) (by omega) (by omega) dL_law_1348 rfl ?_
  refine pw_aload_n (pc2 := 1350) dL_law_1349 rfl rfl 3 rfl (by first | exact rf_ref _ | exact rf_opt _ | exact rf_nul) ?_
  obtain ⟨Qw, hw, hn⟩ := st_publish HI (xs ((5 * c) + 1))
  refine PW.widen (kc' := (kc + 0) + (0 + 9)) (ks' := (ks + 0) + (0 + 112)) (by omega) (by omega) ?_
  refine pw_callS (kc := kc + 0) (ks := ks + 0) (pc2 := 1353) hw cs_L_179 rfl dL_law_1350 rfl (by omega) rfl (by first | decide | simp [cat_rf, Value.category]) (fun r9 h9 q9 => ?_) (fun Y h9 q9 => q9.elim)
  obtain ⟨k, rfl, ⟨fs, hfs⟩, Qm, hm, hn2⟩ := hn _ _ q9
  refine pw_istore (pc2 := 1355) (L2 := [(6, Value.int k), (0, Value.ref sc), (1, Value.ref (A 0 0)), (2, Value.ref (A 60 0)), (3, Value.ref o), (4, Value.ref oD), (5, Value.int (nI (5 * c)))]) dL_law_1353 rfl (by decide) rfl ?_
  refine pw_aload_n (pc2 := 1356) dL_law_1355 rfl rfl 3 rfl (by first | exact rf_ref _ | exact rf_opt _ | exact rf_nul) ?_
  refine pw_aload_n (pc2 := 1357) dL_law_1356 rfl rfl 1 rfl (by first | exact rf_ref _ | exact rf_opt _ | exact rf_nul) ?_
  refine pw_iload (pc2 := 1359) dL_law_1357 rfl 6 rfl ?_
  refine pw_iconst (pc2 := 1360) (v := 1) dL_law_1359 rfl (by decide) ?_
  refine pw_iadd (pc2 := 1361) dL_law_1360 rfl ?_
  refine pw_topE (nI_1 _) ?_
  refine pw_sld (pc2 := 1362) (i := (5 * c) + 1) (by omega) (by omega) dL_law_1361 rfl ?_
  refine pw_callV (kc := kc) (ks := ks) (pc2 := 1365) hm cs_L_181 rfl rfl hfs dL_law_1362 rfl (by omega) rfl (by first | decide | simp [cat_rf, Value.category]) (fun r8 h8 q8 => ?_) (fun Y h8 q8 => q8.elim)
  obtain ⟨b, rfl, A', σ', ofr', HI', e0, e60, h7, hk⟩ := hn2 _ _ q8
  refine pw_istore (pc2 := 1367) (L2 := [(7, Value.int b), (6, Value.int k), (0, Value.ref sc), (1, Value.ref (A 0 0)), (2, Value.ref (A 60 0)), (3, Value.ref o), (4, Value.ref oD), (5, Value.int (nI (5 * c)))]) dL_law_1365 rfl (by decide) rfl ?_
  refine pw_aload_n (pc2 := 1368) dL_law_1367 rfl rfl 4 rfl (by first | exact rf_ref _ | exact rf_opt _ | exact rf_nul) ?_
  have hT : PMet G MX10_thrown 0 0 0 [.ref (A 60 0)] h8 (det (some (.int k)) h8) noX := by have z := c_thrown G h8 HI'.1.wm; rw [e60, h7] at z; exact z
  have hR8 := HI'.1.c60
  rw [e60] at hR8
  refine pw_callV1 (kc := kc) (ks := ks) (pc2 := 1371) hT cs_L_116 rfl rfl hR8 dL_law_1368 rfl (by omega) rfl (by first | decide | simp [cat_rf, Value.category]) ?_
  refine pw_iload (pc2 := 1373) dL_law_1371 rfl 1 rfl ?_
  refine pw_icmp_eq (tgt := 1378) (pc2 := 1376) dL_law_1373 (by decide) rfl (fun _ => ?_) (fun c1373 => by exact absurd (rfl) c1373)
  refine pw_iload (pc2 := 1380) dL_law_1378 rfl 1 rfl ?_
  refine pw_if_ne (tgt := 1395) (pc2 := 1383) dL_law_1380 (by decide) rfl (fun c1380 => ?_) (fun c1380 => ?_)
  · refine pw_goto (tgt := 1820) dL_law_1395 (by decide) ?_
    refine PW.sub (L2 := [(0, Value.ref sc), (1, Value.ref (A 0 0)), (2, Value.ref (A 60 0)), (3, Value.ref o), (4, Value.ref oD), (5, Value.int (nI (5 * c)))]) [2, 3, 4, 5, 6, 7] rfl ?_
    exact K h8 A' σ' ofr' HI' e0 e60
  · have K0 : k = 0 := by first | exact c1380 | exact Classical.not_not.mp c1380
    refine pw_aload_n (pc2 := 1384) dL_law_1383 rfl rfl 5 rfl (by first | exact rf_ref _ | exact rf_opt _ | exact rf_nul) ?_
    refine pw_iconst (pc2 := 1385) (v := 0) dL_law_1384 rfl (by decide) ?_
    obtain ⟨f, hf, hf0⟩ := hk K0
    refine pw_lald (pc2 := 1386) hf (by unfold vp_in; decide) dL_law_1385 rfl ?_
    refine pw_iload (pc2 := 1388) dL_law_1386 rfl 0 rfl ?_
    refine pw_i2l (pc2 := 1389) dL_law_1388 rfl ?_
    refine pw_lcmp (pc2 := 1390) dL_law_1389 rfl ?_
    refine pw_if_eq (tgt := 1395) (pc2 := 1393) dL_law_1390 (by decide) rfl (fun _ => ?_) (fun c1390 => by exact absurd (lcmp_eq hf0) c1390)
    refine pw_goto (tgt := 1820) dL_law_1395 (by decide) ?_
    refine PW.sub (L2 := [(0, Value.ref sc), (1, Value.ref (A 0 0)), (2, Value.ref (A 60 0)), (3, Value.ref o), (4, Value.ref oD), (5, Value.int (nI (5 * c)))]) [2, 3, 4, 5, 6, 7] rfl ?_
    exact K h8 A' σ' ofr' HI' e0 e60
set_option maxHeartbeats 4000000 in
set_option maxRecDepth 100000 in
theorem lc_yank (HI : INV G h A σ ofr o oD) (hd : 20 ≤ d) (hL : Ln ≤ 2560) (hc : 5 * c + 5 ≤ Ln) (K : ∀ (h8 : hp) (A' : aT) (σ' : sT) (ofr' : Nat → Nat), INV G h8 A' σ' ofr' o oD → A' 0 0 = A 0 0 → A' 60 0 = A 60 0 → PW G ML_law d (psX sc Ln xs) EL kc ks 1820 [(0, Value.ref sc), (1, Value.ref (A 0 0)), (2, Value.ref (A 60 0)), (3, Value.ref o), (4, Value.ref oD), (5, Value.int (nI (5 * c)))] [] h8) : PW G ML_law d (psX sc Ln xs) EL (kc + 40) (ks + 400) 1398 [(0, Value.ref sc), (1, Value.ref (A 0 0)), (2, Value.ref (A 60 0)), (3, Value.ref o), (4, Value.ref oD), (5, Value.int (nI (5 * c)))] [] h := by
  refine pw_aload_n (pc2 := 1399) dL_law_1398 rfl rfl 1 rfl (by first | exact rf_ref _ | exact rf_opt _ | exact rf_nul) ?_
  refine pw_aload_n (pc2 := 1400) dL_law_1399 rfl rfl 0 rfl (by first | exact rf_ref _ | exact rf_opt _ | exact rf_nul) ?_
  refine pw_iload (pc2 := 1402) dL_law_1400 rfl 5 rfl ?_
  refine pw_iconst (pc2 := 1403) (v := 1) dL_law_1402 rfl (by decide) ?_
  refine pw_iadd (pc2 := 1404) dL_law_1403 rfl ?_
  refine pw_topE (nI_1 _) ?_
  refine pw_sld (pc2 := 1405) (i := (5 * c) + 1) (by omega) (by omega) dL_law_1404 rfl ?_
  refine pw_aload_n (pc2 := 1406) dL_law_1405 rfl rfl 0 rfl (by first | exact rf_ref _ | exact rf_opt _ | exact rf_nul) ?_
  refine pw_iload (pc2 := 1408) dL_law_1406 rfl 5 rfl ?_
  refine pw_iconst (pc2 := 1409) (v := 2) dL_law_1408 rfl (by decide) ?_
  refine pw_iadd (pc2 := 1410) dL_law_1409 rfl ?_
  refine pw_topE (nIa (5 * c) 2) ?_
  refine pw_sld (pc2 := 1411) (i := 5 * c + 2) (by omega) (by omega) dL_law_1410 rfl ?_
  refine pw_aload_n (pc2 := 1412) dL_law_1411 rfl rfl 3 rfl (by first | exact rf_ref _ | exact rf_opt _ | exact rf_nul) ?_
  obtain ⟨Qw, hw, hn⟩ := st_yank HI (xs ((5 * c) + 1)) (xs (5 * c + 2))
  refine PW.widen (kc' := (kc + 0) + (0 + 3)) (ks' := (ks + 0) + (0 + 18)) (by omega) (by omega) ?_
  refine pw_callS (kc := kc + 0) (ks := ks + 0) (pc2 := 1415) hw cs_L_182 rfl dL_law_1412 rfl (by omega) rfl (by first | decide | simp [cat_rf, Value.category]) (fun r9 h9 q9 => ?_) (fun Y h9 q9 => q9.elim)
  obtain ⟨k, rfl, ⟨fs, hfs⟩, Qm, hm, hn2⟩ := hn _ _ q9
  refine pw_istore (pc2 := 1417) (L2 := [(6, Value.int k), (0, Value.ref sc), (1, Value.ref (A 0 0)), (2, Value.ref (A 60 0)), (3, Value.ref o), (4, Value.ref oD), (5, Value.int (nI (5 * c)))]) dL_law_1415 rfl (by decide) rfl ?_
  refine pw_aload_n (pc2 := 1418) dL_law_1417 rfl rfl 3 rfl (by first | exact rf_ref _ | exact rf_opt _ | exact rf_nul) ?_
  refine pw_aload_n (pc2 := 1419) dL_law_1418 rfl rfl 1 rfl (by first | exact rf_ref _ | exact rf_opt _ | exact rf_nul) ?_
  refine pw_iload (pc2 := 1421) dL_law_1419 rfl 6 rfl ?_
  refine pw_iconst (pc2 := 1422) (v := 1) dL_law_1421 rfl (by decide) ?_
  refine pw_iadd (pc2 := 1423) dL_law_1422 rfl ?_
  refine pw_topE (nI_1 _) ?_
  refine pw_sld (pc2 := 1424) (i := (5 * c) + 1) (by omega) (by omega) dL_law_1423 rfl ?_
  refine pw_aload_n (pc2 := 1425) dL_law_1424 rfl rfl 1 rfl (by first | exact rf_ref _ | exact rf_opt _ | exact rf_nul) ?_
  refine pw_iload (pc2 := 1427) dL_law_1425 rfl 6 rfl ?_
  refine pw_iconst (pc2 := 1428) (v := 2) dL_law_1427 rfl (by decide) ?_
  refine pw_iadd (pc2 := 1429) dL_law_1428 rfl ?_
  refine pw_topE (nIa (5 * c) 2) ?_
  refine pw_sld (pc2 := 1430) (i := 5 * c + 2) (by omega) (by omega) dL_law_1429 rfl ?_
  refine pw_callV (kc := kc) (ks := ks) (pc2 := 1433) hm cs_L_184 rfl rfl hfs dL_law_1430 rfl (by omega) rfl (by first | decide | simp [cat_rf, Value.category]) (fun r8 h8 q8 => ?_) (fun Y h8 q8 => q8.elim)
  obtain ⟨b, rfl, A', σ', ofr', HI', e0, e60, h7, hk⟩ := hn2 _ _ q8
  refine pw_istore (pc2 := 1435) (L2 := [(7, Value.int b), (6, Value.int k), (0, Value.ref sc), (1, Value.ref (A 0 0)), (2, Value.ref (A 60 0)), (3, Value.ref o), (4, Value.ref oD), (5, Value.int (nI (5 * c)))]) dL_law_1433 rfl (by decide) rfl ?_
  refine pw_aload_n (pc2 := 1436) dL_law_1435 rfl rfl 4 rfl (by first | exact rf_ref _ | exact rf_opt _ | exact rf_nul) ?_
  have hT : PMet G MX10_thrown 0 0 0 [.ref (A 60 0)] h8 (det (some (.int k)) h8) noX := by have z := c_thrown G h8 HI'.1.wm; rw [e60, h7] at z; exact z
  have hR8 := HI'.1.c60
  rw [e60] at hR8
  refine pw_callV1 (kc := kc) (ks := ks) (pc2 := 1439) hT cs_L_116 rfl rfl hR8 dL_law_1436 rfl (by omega) rfl (by first | decide | simp [cat_rf, Value.category]) ?_
  refine pw_iload (pc2 := 1441) dL_law_1439 rfl 1 rfl ?_
  refine pw_icmp_eq (tgt := 1446) (pc2 := 1444) dL_law_1441 (by decide) rfl (fun _ => ?_) (fun c1441 => by exact absurd (rfl) c1441)
  refine pw_iload (pc2 := 1448) dL_law_1446 rfl 1 rfl ?_
  refine pw_if_ne (tgt := 1463) (pc2 := 1451) dL_law_1448 (by decide) rfl (fun c1448 => ?_) (fun c1448 => ?_)
  · refine pw_goto (tgt := 1820) dL_law_1463 (by decide) ?_
    refine PW.sub (L2 := [(0, Value.ref sc), (1, Value.ref (A 0 0)), (2, Value.ref (A 60 0)), (3, Value.ref o), (4, Value.ref oD), (5, Value.int (nI (5 * c)))]) [2, 3, 4, 5, 6, 7] rfl ?_
    exact K h8 A' σ' ofr' HI' e0 e60
  · have K0 : k = 0 := by first | exact c1448 | exact Classical.not_not.mp c1448
    refine pw_aload_n (pc2 := 1452) dL_law_1451 rfl rfl 5 rfl (by first | exact rf_ref _ | exact rf_opt _ | exact rf_nul) ?_
    refine pw_iconst (pc2 := 1453) (v := 0) dL_law_1452 rfl (by decide) ?_
    obtain ⟨f, hf, hf0⟩ := hk K0
    refine pw_lald (pc2 := 1454) hf (by unfold vp_in; decide) dL_law_1453 rfl ?_
    refine pw_iload (pc2 := 1456) dL_law_1454 rfl 0 rfl ?_
    refine pw_i2l (pc2 := 1457) dL_law_1456 rfl ?_
    refine pw_lcmp (pc2 := 1458) dL_law_1457 rfl ?_
    refine pw_if_eq (tgt := 1463) (pc2 := 1461) dL_law_1458 (by decide) rfl (fun _ => ?_) (fun c1458 => by exact absurd (lcmp_eq hf0) c1458)
    refine pw_goto (tgt := 1820) dL_law_1463 (by decide) ?_
    refine PW.sub (L2 := [(0, Value.ref sc), (1, Value.ref (A 0 0)), (2, Value.ref (A 60 0)), (3, Value.ref o), (4, Value.ref oD), (5, Value.int (nI (5 * c)))]) [2, 3, 4, 5, 6, 7] rfl ?_
    exact K h8 A' σ' ofr' HI' e0 e60
set_option maxHeartbeats 4000000 in
set_option maxRecDepth 100000 in
theorem lc_isStale (HI : INV G h A σ ofr o oD) (hd : 20 ≤ d) (hL : Ln ≤ 2560) (hc : 5 * c + 5 ≤ Ln) (K : ∀ (h8 : hp) (A' : aT) (σ' : sT) (ofr' : Nat → Nat), INV G h8 A' σ' ofr' o oD → A' 0 0 = A 0 0 → A' 60 0 = A 60 0 → PW G ML_law d (psX sc Ln xs) EL kc ks 1820 [(0, Value.ref sc), (1, Value.ref (A 0 0)), (2, Value.ref (A 60 0)), (3, Value.ref o), (4, Value.ref oD), (5, Value.int (nI (5 * c)))] [] h8) : PW G ML_law d (psX sc Ln xs) EL (kc + 40) (ks + 400) 1466 [(0, Value.ref sc), (1, Value.ref (A 0 0)), (2, Value.ref (A 60 0)), (3, Value.ref o), (4, Value.ref oD), (5, Value.int (nI (5 * c)))] [] h := by
  refine pw_aload_n (pc2 := 1467) dL_law_1466 rfl rfl 1 rfl (by first | exact rf_ref _ | exact rf_opt _ | exact rf_nul) ?_
  refine pw_aload_n (pc2 := 1468) dL_law_1467 rfl rfl 0 rfl (by first | exact rf_ref _ | exact rf_opt _ | exact rf_nul) ?_
  refine pw_iload (pc2 := 1470) dL_law_1468 rfl 5 rfl ?_
  refine pw_iconst (pc2 := 1471) (v := 1) dL_law_1470 rfl (by decide) ?_
  refine pw_iadd (pc2 := 1472) dL_law_1471 rfl ?_
  refine pw_topE (nI_1 _) ?_
  refine pw_sld (pc2 := 1473) (i := (5 * c) + 1) (by omega) (by omega) dL_law_1472 rfl ?_
  refine pw_aload_n (pc2 := 1474) dL_law_1473 rfl rfl 0 rfl (by first | exact rf_ref _ | exact rf_opt _ | exact rf_nul) ?_
  refine pw_iload (pc2 := 1476) dL_law_1474 rfl 5 rfl ?_
  refine pw_iconst (pc2 := 1477) (v := 2) dL_law_1476 rfl (by decide) ?_
  refine pw_iadd (pc2 := 1478) dL_law_1477 rfl ?_
  refine pw_topE (nIa (5 * c) 2) ?_
  refine pw_sld (pc2 := 1479) (i := 5 * c + 2) (by omega) (by omega) dL_law_1478 rfl ?_
  refine pw_aload_n (pc2 := 1480) dL_law_1479 rfl rfl 3 rfl (by first | exact rf_ref _ | exact rf_opt _ | exact rf_nul) ?_
  obtain ⟨Qw, hw, hn⟩ := st_isStale HI (xs ((5 * c) + 1)) (xs (5 * c + 2))
  refine PW.widen (kc' := (kc + 0) + (0 + 2)) (ks' := (ks + 0) + (0 + 12)) (by omega) (by omega) ?_
  refine pw_callS (kc := kc + 0) (ks := ks + 0) (pc2 := 1483) hw cs_L_185 rfl dL_law_1480 rfl (by omega) rfl (by first | decide | simp [cat_rf, Value.category]) (fun r9 h9 q9 => ?_) (fun Y h9 q9 => q9.elim)
  obtain ⟨k, rfl, ⟨fs, hfs⟩, Qm, hm, hn2⟩ := hn _ _ q9
  refine pw_istore (pc2 := 1485) (L2 := [(6, Value.int k), (0, Value.ref sc), (1, Value.ref (A 0 0)), (2, Value.ref (A 60 0)), (3, Value.ref o), (4, Value.ref oD), (5, Value.int (nI (5 * c)))]) dL_law_1483 rfl (by decide) rfl ?_
  refine pw_aload_n (pc2 := 1486) dL_law_1485 rfl rfl 3 rfl (by first | exact rf_ref _ | exact rf_opt _ | exact rf_nul) ?_
  refine pw_aload_n (pc2 := 1487) dL_law_1486 rfl rfl 1 rfl (by first | exact rf_ref _ | exact rf_opt _ | exact rf_nul) ?_
  refine pw_iload (pc2 := 1489) dL_law_1487 rfl 6 rfl ?_
  refine pw_iconst (pc2 := 1490) (v := 1) dL_law_1489 rfl (by decide) ?_
  refine pw_iadd (pc2 := 1491) dL_law_1490 rfl ?_
  refine pw_topE (nI_1 _) ?_
  refine pw_sld (pc2 := 1492) (i := (5 * c) + 1) (by omega) (by omega) dL_law_1491 rfl ?_
  refine pw_aload_n (pc2 := 1493) dL_law_1492 rfl rfl 1 rfl (by first | exact rf_ref _ | exact rf_opt _ | exact rf_nul) ?_
  refine pw_iload (pc2 := 1495) dL_law_1493 rfl 6 rfl ?_
  refine pw_iconst (pc2 := 1496) (v := 2) dL_law_1495 rfl (by decide) ?_
  refine pw_iadd (pc2 := 1497) dL_law_1496 rfl ?_
  refine pw_topE (nIa (5 * c) 2) ?_
  refine pw_sld (pc2 := 1498) (i := 5 * c + 2) (by omega) (by omega) dL_law_1497 rfl ?_
  refine pw_callV (kc := kc) (ks := ks) (pc2 := 1501) hm cs_L_187 rfl rfl hfs dL_law_1498 rfl (by omega) rfl (by first | decide | simp [cat_rf, Value.category]) (fun r8 h8 q8 => ?_) (fun Y h8 q8 => q8.elim)
  obtain ⟨b, rfl, hb01, A', σ', ofr', HI', e0, e60, h7, hk⟩ := hn2 _ _ q8
  refine pw_istore (pc2 := 1503) (L2 := [(7, Value.int b), (6, Value.int k), (0, Value.ref sc), (1, Value.ref (A 0 0)), (2, Value.ref (A 60 0)), (3, Value.ref o), (4, Value.ref oD), (5, Value.int (nI (5 * c)))]) dL_law_1501 rfl (by decide) rfl ?_
  refine pw_aload_n (pc2 := 1504) dL_law_1503 rfl rfl 4 rfl (by first | exact rf_ref _ | exact rf_opt _ | exact rf_nul) ?_
  have hT : PMet G MX10_thrown 0 0 0 [.ref (A 60 0)] h8 (det (some (.int k)) h8) noX := by have z := c_thrown G h8 HI'.1.wm; rw [e60, h7] at z; exact z
  have hR8 := HI'.1.c60
  rw [e60] at hR8
  refine pw_callV1 (kc := kc) (ks := ks) (pc2 := 1507) hT cs_L_116 rfl rfl hR8 dL_law_1504 rfl (by omega) rfl (by first | decide | simp [cat_rf, Value.category]) ?_
  refine pw_iload (pc2 := 1509) dL_law_1507 rfl 1 rfl ?_
  refine pw_icmp_eq (tgt := 1514) (pc2 := 1512) dL_law_1509 (by decide) rfl (fun _ => ?_) (fun c1509 => by exact absurd (rfl) c1509)
  refine pw_iload (pc2 := 1516) dL_law_1514 rfl 1 rfl ?_
  refine pw_if_ne (tgt := 1538) (pc2 := 1519) dL_law_1516 (by decide) rfl (fun c1516 => ?_) (fun c1516 => ?_)
  · refine pw_goto (tgt := 1820) dL_law_1538 (by decide) ?_
    refine PW.sub (L2 := [(0, Value.ref sc), (1, Value.ref (A 0 0)), (2, Value.ref (A 60 0)), (3, Value.ref o), (4, Value.ref oD), (5, Value.int (nI (5 * c)))]) [2, 3, 4, 5, 6, 7] rfl ?_
    exact K h8 A' σ' ofr' HI' e0 e60
  · have K0 : k = 0 := by first | exact c1516 | exact Classical.not_not.mp c1516
    refine pw_aload_n (pc2 := 1520) dL_law_1519 rfl rfl 5 rfl (by first | exact rf_ref _ | exact rf_opt _ | exact rf_nul) ?_
    refine pw_iconst (pc2 := 1521) (v := 0) dL_law_1520 rfl (by decide) ?_
    obtain ⟨f, hf, hf0⟩ := hk K0
    refine pw_lald (pc2 := 1522) hf (by unfold vp_in; decide) dL_law_1521 rfl ?_
    refine pw_iload (pc2 := 1524) dL_law_1522 rfl 0 rfl ?_
    refine pw_if_eq (tgt := 1531) (pc2 := 1527) dL_law_1524 (by decide) rfl (fun c1524 => ?_) (fun c1524 => ?_)
    · refine pw_lconst (pc2 := 1532) (v := 0) dL_law_1531 rfl (by decide) ?_
      refine pw_lcmp (pc2 := 1533) dL_law_1532 rfl ?_
      refine pw_if_eq (tgt := 1538) (pc2 := 1536) dL_law_1533 (by decide) rfl (fun _ => ?_) (fun c1533 => by exact absurd (lcmp_eq (hf0.trans (by first | (rw [c1524]; rfl) | (rw [hb01.resolve_left c1524]; rfl)))) c1533)
      refine pw_goto (tgt := 1820) dL_law_1538 (by decide) ?_
      refine PW.sub (L2 := [(0, Value.ref sc), (1, Value.ref (A 0 0)), (2, Value.ref (A 60 0)), (3, Value.ref o), (4, Value.ref oD), (5, Value.int (nI (5 * c)))]) [2, 3, 4, 5, 6, 7] rfl ?_
      exact K h8 A' σ' ofr' HI' e0 e60
    · refine pw_lconst (pc2 := 1528) (v := 1) dL_law_1527 rfl (by decide) ?_
      refine pw_goto (tgt := 1532) dL_law_1528 (by decide) ?_
      refine pw_lcmp (pc2 := 1533) dL_law_1532 rfl ?_
      refine pw_if_eq (tgt := 1538) (pc2 := 1536) dL_law_1533 (by decide) rfl (fun _ => ?_) (fun c1533 => by exact absurd (lcmp_eq (hf0.trans (by first | (rw [c1524]; rfl) | (rw [hb01.resolve_left c1524]; rfl)))) c1533)
      refine pw_goto (tgt := 1820) dL_law_1538 (by decide) ?_
      refine PW.sub (L2 := [(0, Value.ref sc), (1, Value.ref (A 0 0)), (2, Value.ref (A 60 0)), (3, Value.ref o), (4, Value.ref oD), (5, Value.int (nI (5 * c)))]) [2, 3, 4, 5, 6, 7] rfl ?_
      exact K h8 A' σ' ofr' HI' e0 e60
set_option maxHeartbeats 4000000 in
set_option maxRecDepth 100000 in
theorem lc_relock (HI : INV G h A σ ofr o oD) (hd : 20 ≤ d) (hL : Ln ≤ 2560) (hc : 5 * c + 5 ≤ Ln) (K : ∀ (h8 : hp) (A' : aT) (σ' : sT) (ofr' : Nat → Nat), INV G h8 A' σ' ofr' o oD → A' 0 0 = A 0 0 → A' 60 0 = A 60 0 → PW G ML_law d (psX sc Ln xs) EL kc ks 1820 [(0, Value.ref sc), (1, Value.ref (A 0 0)), (2, Value.ref (A 60 0)), (3, Value.ref o), (4, Value.ref oD), (5, Value.int (nI (5 * c)))] [] h8) : PW G ML_law d (psX sc Ln xs) EL (kc + 40) (ks + 400) 1541 [(0, Value.ref sc), (1, Value.ref (A 0 0)), (2, Value.ref (A 60 0)), (3, Value.ref o), (4, Value.ref oD), (5, Value.int (nI (5 * c)))] [] h := by
  refine pw_aload_n (pc2 := 1542) dL_law_1541 rfl rfl 1 rfl (by first | exact rf_ref _ | exact rf_opt _ | exact rf_nul) ?_
  refine pw_aload_n (pc2 := 1543) dL_law_1542 rfl rfl 0 rfl (by first | exact rf_ref _ | exact rf_opt _ | exact rf_nul) ?_
  refine pw_iload (pc2 := 1545) dL_law_1543 rfl 5 rfl ?_
  refine pw_iconst (pc2 := 1546) (v := 1) dL_law_1545 rfl (by decide) ?_
  refine pw_iadd (pc2 := 1547) dL_law_1546 rfl ?_
  refine pw_topE (nI_1 _) ?_
  refine pw_sld (pc2 := 1548) (i := (5 * c) + 1) (by omega) (by omega) dL_law_1547 rfl ?_
  refine pw_aload_n (pc2 := 1549) dL_law_1548 rfl rfl 0 rfl (by first | exact rf_ref _ | exact rf_opt _ | exact rf_nul) ?_
  refine pw_iload (pc2 := 1551) dL_law_1549 rfl 5 rfl ?_
  refine pw_iconst (pc2 := 1552) (v := 2) dL_law_1551 rfl (by decide) ?_
  refine pw_iadd (pc2 := 1553) dL_law_1552 rfl ?_
  refine pw_topE (nIa (5 * c) 2) ?_
  refine pw_sld (pc2 := 1554) (i := 5 * c + 2) (by omega) (by omega) dL_law_1553 rfl ?_
  refine pw_aload_n (pc2 := 1555) dL_law_1554 rfl rfl 3 rfl (by first | exact rf_ref _ | exact rf_opt _ | exact rf_nul) ?_
  obtain ⟨Qw, hw, hn⟩ := st_relock HI (xs ((5 * c) + 1)) (xs (5 * c + 2))
  refine PW.widen (kc' := (kc + 0) + (0 + 4)) (ks' := (ks + 0) + (0 + 24)) (by omega) (by omega) ?_
  refine pw_callS (kc := kc + 0) (ks := ks + 0) (pc2 := 1558) hw cs_L_188 rfl dL_law_1555 rfl (by omega) rfl (by first | decide | simp [cat_rf, Value.category]) (fun r9 h9 q9 => ?_) (fun Y h9 q9 => q9.elim)
  obtain ⟨k, rfl, ⟨fs, hfs⟩, Qm, hm, hn2⟩ := hn _ _ q9
  refine pw_istore (pc2 := 1560) (L2 := [(6, Value.int k), (0, Value.ref sc), (1, Value.ref (A 0 0)), (2, Value.ref (A 60 0)), (3, Value.ref o), (4, Value.ref oD), (5, Value.int (nI (5 * c)))]) dL_law_1558 rfl (by decide) rfl ?_
  refine pw_aload_n (pc2 := 1561) dL_law_1560 rfl rfl 3 rfl (by first | exact rf_ref _ | exact rf_opt _ | exact rf_nul) ?_
  refine pw_aload_n (pc2 := 1562) dL_law_1561 rfl rfl 1 rfl (by first | exact rf_ref _ | exact rf_opt _ | exact rf_nul) ?_
  refine pw_iload (pc2 := 1564) dL_law_1562 rfl 6 rfl ?_
  refine pw_iconst (pc2 := 1565) (v := 1) dL_law_1564 rfl (by decide) ?_
  refine pw_iadd (pc2 := 1566) dL_law_1565 rfl ?_
  refine pw_topE (nI_1 _) ?_
  refine pw_sld (pc2 := 1567) (i := (5 * c) + 1) (by omega) (by omega) dL_law_1566 rfl ?_
  refine pw_aload_n (pc2 := 1568) dL_law_1567 rfl rfl 1 rfl (by first | exact rf_ref _ | exact rf_opt _ | exact rf_nul) ?_
  refine pw_iload (pc2 := 1570) dL_law_1568 rfl 6 rfl ?_
  refine pw_iconst (pc2 := 1571) (v := 2) dL_law_1570 rfl (by decide) ?_
  refine pw_iadd (pc2 := 1572) dL_law_1571 rfl ?_
  refine pw_topE (nIa (5 * c) 2) ?_
  refine pw_sld (pc2 := 1573) (i := 5 * c + 2) (by omega) (by omega) dL_law_1572 rfl ?_
  refine pw_callV (kc := kc) (ks := ks) (pc2 := 1576) hm cs_L_190 rfl rfl hfs dL_law_1573 rfl (by omega) rfl (by first | decide | simp [cat_rf, Value.category]) (fun r8 h8 q8 => ?_) (fun Y h8 q8 => q8.elim)
  obtain ⟨b, rfl, A', σ', ofr', HI', e0, e60, h7, hk⟩ := hn2 _ _ q8
  refine pw_istore (pc2 := 1578) (L2 := [(7, Value.int b), (6, Value.int k), (0, Value.ref sc), (1, Value.ref (A 0 0)), (2, Value.ref (A 60 0)), (3, Value.ref o), (4, Value.ref oD), (5, Value.int (nI (5 * c)))]) dL_law_1576 rfl (by decide) rfl ?_
  refine pw_aload_n (pc2 := 1579) dL_law_1578 rfl rfl 4 rfl (by first | exact rf_ref _ | exact rf_opt _ | exact rf_nul) ?_
  have hT : PMet G MX10_thrown 0 0 0 [.ref (A 60 0)] h8 (det (some (.int k)) h8) noX := by have z := c_thrown G h8 HI'.1.wm; rw [e60, h7] at z; exact z
  have hR8 := HI'.1.c60
  rw [e60] at hR8
  refine pw_callV1 (kc := kc) (ks := ks) (pc2 := 1582) hT cs_L_116 rfl rfl hR8 dL_law_1579 rfl (by omega) rfl (by first | decide | simp [cat_rf, Value.category]) ?_
  refine pw_iload (pc2 := 1584) dL_law_1582 rfl 1 rfl ?_
  refine pw_icmp_eq (tgt := 1589) (pc2 := 1587) dL_law_1584 (by decide) rfl (fun _ => ?_) (fun c1584 => by exact absurd (rfl) c1584)
  refine pw_iload (pc2 := 1591) dL_law_1589 rfl 1 rfl ?_
  refine pw_if_ne (tgt := 1606) (pc2 := 1594) dL_law_1591 (by decide) rfl (fun c1591 => ?_) (fun c1591 => ?_)
  · refine pw_goto (tgt := 1820) dL_law_1606 (by decide) ?_
    refine PW.sub (L2 := [(0, Value.ref sc), (1, Value.ref (A 0 0)), (2, Value.ref (A 60 0)), (3, Value.ref o), (4, Value.ref oD), (5, Value.int (nI (5 * c)))]) [2, 3, 4, 5, 6, 7] rfl ?_
    exact K h8 A' σ' ofr' HI' e0 e60
  · have K0 : k = 0 := by first | exact c1591 | exact Classical.not_not.mp c1591
    refine pw_aload_n (pc2 := 1595) dL_law_1594 rfl rfl 5 rfl (by first | exact rf_ref _ | exact rf_opt _ | exact rf_nul) ?_
    refine pw_iconst (pc2 := 1596) (v := 0) dL_law_1595 rfl (by decide) ?_
    obtain ⟨f, hf, hf0⟩ := hk K0
    refine pw_lald (pc2 := 1597) hf (by unfold vp_in; decide) dL_law_1596 rfl ?_
    refine pw_iload (pc2 := 1599) dL_law_1597 rfl 0 rfl ?_
    refine pw_i2l (pc2 := 1600) dL_law_1599 rfl ?_
    refine pw_lcmp (pc2 := 1601) dL_law_1600 rfl ?_
    refine pw_if_eq (tgt := 1606) (pc2 := 1604) dL_law_1601 (by decide) rfl (fun _ => ?_) (fun c1601 => by exact absurd (lcmp_eq hf0) c1601)
    refine pw_goto (tgt := 1820) dL_law_1606 (by decide) ?_
    refine PW.sub (L2 := [(0, Value.ref sc), (1, Value.ref (A 0 0)), (2, Value.ref (A 60 0)), (3, Value.ref o), (4, Value.ref oD), (5, Value.int (nI (5 * c)))]) [2, 3, 4, 5, 6, 7] rfl ?_
    exact K h8 A' σ' ofr' HI' e0 e60
set_option maxHeartbeats 4000000 in
set_option maxRecDepth 100000 in
theorem lc_locked (HI : INV G h A σ ofr o oD) (hd : 20 ≤ d) (hL : Ln ≤ 2560) (hc : 5 * c + 5 ≤ Ln) (K : ∀ (h8 : hp) (A' : aT) (σ' : sT) (ofr' : Nat → Nat), INV G h8 A' σ' ofr' o oD → A' 0 0 = A 0 0 → A' 60 0 = A 60 0 → PW G ML_law d (psX sc Ln xs) EL kc ks 1820 [(0, Value.ref sc), (1, Value.ref (A 0 0)), (2, Value.ref (A 60 0)), (3, Value.ref o), (4, Value.ref oD), (5, Value.int (nI (5 * c)))] [] h8) : PW G ML_law d (psX sc Ln xs) EL (kc + 40) (ks + 400) 1609 [(0, Value.ref sc), (1, Value.ref (A 0 0)), (2, Value.ref (A 60 0)), (3, Value.ref o), (4, Value.ref oD), (5, Value.int (nI (5 * c)))] [] h := by
  refine pw_aload_n (pc2 := 1610) dL_law_1609 rfl rfl 1 rfl (by first | exact rf_ref _ | exact rf_opt _ | exact rf_nul) ?_
  refine pw_aload_n (pc2 := 1611) dL_law_1610 rfl rfl 0 rfl (by first | exact rf_ref _ | exact rf_opt _ | exact rf_nul) ?_
  refine pw_iload (pc2 := 1613) dL_law_1611 rfl 5 rfl ?_
  refine pw_iconst (pc2 := 1614) (v := 1) dL_law_1613 rfl (by decide) ?_
  refine pw_iadd (pc2 := 1615) dL_law_1614 rfl ?_
  refine pw_topE (nI_1 _) ?_
  refine pw_sld (pc2 := 1616) (i := (5 * c) + 1) (by omega) (by omega) dL_law_1615 rfl ?_
  refine pw_aload_n (pc2 := 1617) dL_law_1616 rfl rfl 0 rfl (by first | exact rf_ref _ | exact rf_opt _ | exact rf_nul) ?_
  refine pw_iload (pc2 := 1619) dL_law_1617 rfl 5 rfl ?_
  refine pw_iconst (pc2 := 1620) (v := 2) dL_law_1619 rfl (by decide) ?_
  refine pw_iadd (pc2 := 1621) dL_law_1620 rfl ?_
  refine pw_topE (nIa (5 * c) 2) ?_
  refine pw_sld (pc2 := 1622) (i := 5 * c + 2) (by omega) (by omega) dL_law_1621 rfl ?_
  refine pw_aload_n (pc2 := 1623) dL_law_1622 rfl rfl 0 rfl (by first | exact rf_ref _ | exact rf_opt _ | exact rf_nul) ?_
  refine pw_iload (pc2 := 1625) dL_law_1623 rfl 5 rfl ?_
  refine pw_iconst (pc2 := 1626) (v := 3) dL_law_1625 rfl (by decide) ?_
  refine pw_iadd (pc2 := 1627) dL_law_1626 rfl ?_
  refine pw_topE (nIa (5 * c) 3) ?_
  refine pw_sld (pc2 := 1628) (i := 5 * c + 3) (by omega) (by omega) dL_law_1627 rfl ?_
  refine pw_aload_n (pc2 := 1629) dL_law_1628 rfl rfl 3 rfl (by first | exact rf_ref _ | exact rf_opt _ | exact rf_nul) ?_
  obtain ⟨Qw, hw, hn⟩ := st_locked HI (xs ((5 * c) + 1)) (xs (5 * c + 2)) (xs (5 * c + 3))
  refine PW.widen (kc' := (kc + 0) + (0 + 3)) (ks' := (ks + 0) + (0 + 18)) (by omega) (by omega) ?_
  refine pw_callS (kc := kc + 0) (ks := ks + 0) (pc2 := 1632) hw cs_L_191 rfl dL_law_1629 rfl (by omega) rfl (by first | decide | simp [cat_rf, Value.category]) (fun r9 h9 q9 => ?_) (fun Y h9 q9 => q9.elim)
  obtain ⟨k, rfl, ⟨fs, hfs⟩, Qm, hm, hn2⟩ := hn _ _ q9
  refine pw_istore (pc2 := 1634) (L2 := [(6, Value.int k), (0, Value.ref sc), (1, Value.ref (A 0 0)), (2, Value.ref (A 60 0)), (3, Value.ref o), (4, Value.ref oD), (5, Value.int (nI (5 * c)))]) dL_law_1632 rfl (by decide) rfl ?_
  refine pw_aload_n (pc2 := 1635) dL_law_1634 rfl rfl 3 rfl (by first | exact rf_ref _ | exact rf_opt _ | exact rf_nul) ?_
  refine pw_aload_n (pc2 := 1636) dL_law_1635 rfl rfl 1 rfl (by first | exact rf_ref _ | exact rf_opt _ | exact rf_nul) ?_
  refine pw_iload (pc2 := 1638) dL_law_1636 rfl 6 rfl ?_
  refine pw_iconst (pc2 := 1639) (v := 1) dL_law_1638 rfl (by decide) ?_
  refine pw_iadd (pc2 := 1640) dL_law_1639 rfl ?_
  refine pw_topE (nI_1 _) ?_
  refine pw_sld (pc2 := 1641) (i := (5 * c) + 1) (by omega) (by omega) dL_law_1640 rfl ?_
  refine pw_aload_n (pc2 := 1642) dL_law_1641 rfl rfl 1 rfl (by first | exact rf_ref _ | exact rf_opt _ | exact rf_nul) ?_
  refine pw_iload (pc2 := 1644) dL_law_1642 rfl 6 rfl ?_
  refine pw_iconst (pc2 := 1645) (v := 2) dL_law_1644 rfl (by decide) ?_
  refine pw_iadd (pc2 := 1646) dL_law_1645 rfl ?_
  refine pw_topE (nIa (5 * c) 2) ?_
  refine pw_sld (pc2 := 1647) (i := 5 * c + 2) (by omega) (by omega) dL_law_1646 rfl ?_
  refine pw_aload_n (pc2 := 1648) dL_law_1647 rfl rfl 1 rfl (by first | exact rf_ref _ | exact rf_opt _ | exact rf_nul) ?_
  refine pw_iload (pc2 := 1650) dL_law_1648 rfl 6 rfl ?_
  refine pw_iconst (pc2 := 1651) (v := 3) dL_law_1650 rfl (by decide) ?_
  refine pw_iadd (pc2 := 1652) dL_law_1651 rfl ?_
  refine pw_topE (nIa (5 * c) 3) ?_
  refine pw_sld (pc2 := 1653) (i := 5 * c + 3) (by omega) (by omega) dL_law_1652 rfl ?_
  refine pw_callV (kc := kc) (ks := ks) (pc2 := 1656) hm cs_L_193 rfl rfl hfs dL_law_1653 rfl (by omega) rfl (by first | decide | simp [cat_rf, Value.category]) (fun r8 h8 q8 => ?_) (fun Y h8 q8 => q8.elim)
  obtain ⟨b, rfl, A', σ', ofr', HI', e0, e60, h7, hk⟩ := hn2 _ _ q8
  refine pw_istore (pc2 := 1658) (L2 := [(7, Value.int b), (6, Value.int k), (0, Value.ref sc), (1, Value.ref (A 0 0)), (2, Value.ref (A 60 0)), (3, Value.ref o), (4, Value.ref oD), (5, Value.int (nI (5 * c)))]) dL_law_1656 rfl (by decide) rfl ?_
  refine pw_aload_n (pc2 := 1659) dL_law_1658 rfl rfl 4 rfl (by first | exact rf_ref _ | exact rf_opt _ | exact rf_nul) ?_
  have hT : PMet G MX10_thrown 0 0 0 [.ref (A 60 0)] h8 (det (some (.int k)) h8) noX := by have z := c_thrown G h8 HI'.1.wm; rw [e60, h7] at z; exact z
  have hR8 := HI'.1.c60
  rw [e60] at hR8
  refine pw_callV1 (kc := kc) (ks := ks) (pc2 := 1662) hT cs_L_116 rfl rfl hR8 dL_law_1659 rfl (by omega) rfl (by first | decide | simp [cat_rf, Value.category]) ?_
  refine pw_iload (pc2 := 1664) dL_law_1662 rfl 1 rfl ?_
  refine pw_icmp_eq (tgt := 1669) (pc2 := 1667) dL_law_1664 (by decide) rfl (fun _ => ?_) (fun c1664 => by exact absurd (rfl) c1664)
  refine pw_iload (pc2 := 1671) dL_law_1669 rfl 1 rfl ?_
  refine pw_if_ne (tgt := 1686) (pc2 := 1674) dL_law_1671 (by decide) rfl (fun c1671 => ?_) (fun c1671 => ?_)
  · refine pw_goto (tgt := 1820) dL_law_1686 (by decide) ?_
    refine PW.sub (L2 := [(0, Value.ref sc), (1, Value.ref (A 0 0)), (2, Value.ref (A 60 0)), (3, Value.ref o), (4, Value.ref oD), (5, Value.int (nI (5 * c)))]) [2, 3, 4, 5, 6, 7] rfl ?_
    exact K h8 A' σ' ofr' HI' e0 e60
  · have K0 : k = 0 := by first | exact c1671 | exact Classical.not_not.mp c1671
    refine pw_aload_n (pc2 := 1675) dL_law_1674 rfl rfl 5 rfl (by first | exact rf_ref _ | exact rf_opt _ | exact rf_nul) ?_
    refine pw_iconst (pc2 := 1676) (v := 0) dL_law_1675 rfl (by decide) ?_
    obtain ⟨f, hf, hf0⟩ := hk K0
    refine pw_lald (pc2 := 1677) hf (by unfold vp_in; decide) dL_law_1676 rfl ?_
    refine pw_iload (pc2 := 1679) dL_law_1677 rfl 0 rfl ?_
    refine pw_i2l (pc2 := 1680) dL_law_1679 rfl ?_
    refine pw_lcmp (pc2 := 1681) dL_law_1680 rfl ?_
    refine pw_if_eq (tgt := 1686) (pc2 := 1684) dL_law_1681 (by decide) rfl (fun _ => ?_) (fun c1681 => by exact absurd (lcmp_eq hf0) c1681)
    refine pw_goto (tgt := 1820) dL_law_1686 (by decide) ?_
    refine PW.sub (L2 := [(0, Value.ref sc), (1, Value.ref (A 0 0)), (2, Value.ref (A 60 0)), (3, Value.ref o), (4, Value.ref oD), (5, Value.int (nI (5 * c)))]) [2, 3, 4, 5, 6, 7] rfl ?_
    exact K h8 A' σ' ofr' HI' e0 e60
set_option maxHeartbeats 4000000 in
set_option maxRecDepth 100000 in
theorem lc_goodShare (HI : INV G h A σ ofr o oD) (hd : 20 ≤ d) (hL : Ln ≤ 2560) (hc : 5 * c + 5 ≤ Ln) (K : ∀ (h8 : hp) (A' : aT) (σ' : sT) (ofr' : Nat → Nat), INV G h8 A' σ' ofr' o oD → A' 0 0 = A 0 0 → A' 60 0 = A 60 0 → PW G ML_law d (psX sc Ln xs) EL kc ks 1820 [(0, Value.ref sc), (1, Value.ref (A 0 0)), (2, Value.ref (A 60 0)), (3, Value.ref o), (4, Value.ref oD), (5, Value.int (nI (5 * c)))] [] h8) : PW G ML_law d (psX sc Ln xs) EL (kc + 40) (ks + 400) 1689 [(0, Value.ref sc), (1, Value.ref (A 0 0)), (2, Value.ref (A 60 0)), (3, Value.ref o), (4, Value.ref oD), (5, Value.int (nI (5 * c)))] [] h := by
  refine pw_aload_n (pc2 := 1690) dL_law_1689 rfl rfl 1 rfl (by first | exact rf_ref _ | exact rf_opt _ | exact rf_nul) ?_
  refine pw_aload (pc2 := 1692) dL_law_1690 rfl 4 rfl (by first | exact rf_ref _ | exact rf_opt _ | exact rf_nul) ?_
  obtain ⟨Qw, hw, hn⟩ := st_goodShare HI 
  refine PW.widen (kc' := (kc + 0) + (0 + 1)) (ks' := (ks + 0) + (0 + 6)) (by omega) (by omega) ?_
  refine pw_callS (kc := kc + 0) (ks := ks + 0) (pc2 := 1695) hw cs_L_194 rfl dL_law_1692 rfl (by omega) rfl (by first | decide | simp [cat_rf, Value.category]) (fun r9 h9 q9 => ?_) (fun Y h9 q9 => q9.elim)
  obtain ⟨k, rfl, ⟨fs, hfs⟩, Qm, hm, hn2⟩ := hn _ _ q9
  refine pw_istore (pc2 := 1697) (L2 := [(6, Value.int k), (0, Value.ref sc), (1, Value.ref (A 0 0)), (2, Value.ref (A 60 0)), (3, Value.ref o), (4, Value.ref oD), (5, Value.int (nI (5 * c)))]) dL_law_1695 rfl (by decide) rfl ?_
  refine pw_aload_n (pc2 := 1698) dL_law_1697 rfl rfl 3 rfl (by first | exact rf_ref _ | exact rf_opt _ | exact rf_nul) ?_
  refine pw_callV (kc := kc) (ks := ks) (pc2 := 1701) hm cs_L_197 rfl rfl hfs dL_law_1698 rfl (by omega) rfl (by first | decide | simp [cat_rf, Value.category]) (fun r8 h8 q8 => ?_) (fun Y h8 q8 => q8.elim)
  obtain ⟨b, rfl, A', σ', ofr', HI', e0, e60, h7, hk⟩ := hn2 _ _ q8
  refine pw_fstore (pc2 := 1703) (L2 := [(7, Value.float b), (6, Value.int k), (0, Value.ref sc), (1, Value.ref (A 0 0)), (2, Value.ref (A 60 0)), (3, Value.ref o), (4, Value.ref oD), (5, Value.int (nI (5 * c)))]) dL_law_1701 rfl (by decide) rfl ?_
  refine pw_aload_n (pc2 := 1704) dL_law_1703 rfl rfl 4 rfl (by first | exact rf_ref _ | exact rf_opt _ | exact rf_nul) ?_
  have hT : PMet G MX10_thrown 0 0 0 [.ref (A 60 0)] h8 (det (some (.int k)) h8) noX := by have z := c_thrown G h8 HI'.1.wm; rw [e60, h7] at z; exact z
  have hR8 := HI'.1.c60
  rw [e60] at hR8
  refine pw_callV1 (kc := kc) (ks := ks) (pc2 := 1707) hT cs_L_116 rfl rfl hR8 dL_law_1704 rfl (by omega) rfl (by first | decide | simp [cat_rf, Value.category]) ?_
  refine pw_iload (pc2 := 1709) dL_law_1707 rfl 1 rfl ?_
  refine pw_icmp_eq (tgt := 1714) (pc2 := 1712) dL_law_1709 (by decide) rfl (fun _ => ?_) (fun c1709 => by exact absurd (rfl) c1709)
  refine pw_iload (pc2 := 1716) dL_law_1714 rfl 1 rfl ?_
  refine pw_if_ne (tgt := 1752) (pc2 := 1719) dL_law_1716 (by decide) rfl (fun c1716 => ?_) (fun c1716 => ?_)
  · refine pw_goto (tgt := 1820) dL_law_1752 (by decide) ?_
    refine PW.sub (L2 := [(0, Value.ref sc), (1, Value.ref (A 0 0)), (2, Value.ref (A 60 0)), (3, Value.ref o), (4, Value.ref oD), (5, Value.int (nI (5 * c)))]) [2, 3, 4, 5, 6, 7] rfl ?_
    exact K h8 A' σ' ofr' HI' e0 e60
  · have K0 : k = 0 := by first | exact c1716 | exact Classical.not_not.mp c1716
    refine pw_aload (pc2 := 1721) dL_law_1719 rfl 6 rfl (by first | exact rf_ref _ | exact rf_opt _ | exact rf_nul) ?_
    refine pw_iconst (pc2 := 1722) (v := 0) dL_law_1721 rfl (by decide) ?_
    obtain ⟨f, hf, hf0, hnn⟩ := hk K0
    refine pw_dald (pc2 := 1723) hf (by unfold vp_in; decide) dL_law_1722 rfl ?_
    refine pw_fload (pc2 := 1725) dL_law_1723 rfl 0 rfl ?_
    refine pw_f2d (pc2 := 1726) dL_law_1725 rfl (vf64 hnn) ?_
    refine pw_dcmp (pc2 := 1727) dL_law_1726 rfl ?_
    refine pw_if_eq (tgt := 1752) (pc2 := 1730) dL_law_1727 (by decide) rfl (fun _ => ?_) (fun c1727 => by exact absurd (dcmp_eq hf0 hnn) c1727)
    refine pw_goto (tgt := 1820) dL_law_1752 (by decide) ?_
    refine PW.sub (L2 := [(0, Value.ref sc), (1, Value.ref (A 0 0)), (2, Value.ref (A 60 0)), (3, Value.ref o), (4, Value.ref oD), (5, Value.int (nI (5 * c)))]) [2, 3, 4, 5, 6, 7] rfl ?_
    exact K h8 A' σ' ofr' HI' e0 e60
set_option maxHeartbeats 4000000 in
set_option maxRecDepth 100000 in
theorem lc_meanPaid (HI : INV G h A σ ofr o oD) (hd : 20 ≤ d) (hL : Ln ≤ 2560) (hc : 5 * c + 5 ≤ Ln) (K : ∀ (h8 : hp) (A' : aT) (σ' : sT) (ofr' : Nat → Nat), INV G h8 A' σ' ofr' o oD → A' 0 0 = A 0 0 → A' 60 0 = A 60 0 → PW G ML_law d (psX sc Ln xs) EL kc ks 1820 [(0, Value.ref sc), (1, Value.ref (A 0 0)), (2, Value.ref (A 60 0)), (3, Value.ref o), (4, Value.ref oD), (5, Value.int (nI (5 * c)))] [] h8) : PW G ML_law d (psX sc Ln xs) EL (kc + 40) (ks + 400) 1755 [(0, Value.ref sc), (1, Value.ref (A 0 0)), (2, Value.ref (A 60 0)), (3, Value.ref o), (4, Value.ref oD), (5, Value.int (nI (5 * c)))] [] h := by
  refine pw_aload_n (pc2 := 1756) dL_law_1755 rfl rfl 1 rfl (by first | exact rf_ref _ | exact rf_opt _ | exact rf_nul) ?_
  refine pw_aload (pc2 := 1758) dL_law_1756 rfl 4 rfl (by first | exact rf_ref _ | exact rf_opt _ | exact rf_nul) ?_
  obtain ⟨Qw, hw, hn⟩ := st_meanPaid HI 
  refine PW.widen (kc' := (kc + 0) + (0 + 1)) (ks' := (ks + 0) + (0 + 6)) (by omega) (by omega) ?_
  refine pw_callS (kc := kc + 0) (ks := ks + 0) (pc2 := 1761) hw cs_L_198 rfl dL_law_1758 rfl (by omega) rfl (by first | decide | simp [cat_rf, Value.category]) (fun r9 h9 q9 => ?_) (fun Y h9 q9 => q9.elim)
  obtain ⟨k, rfl, ⟨fs, hfs⟩, Qm, hm, hn2⟩ := hn _ _ q9
  refine pw_istore (pc2 := 1763) (L2 := [(6, Value.int k), (0, Value.ref sc), (1, Value.ref (A 0 0)), (2, Value.ref (A 60 0)), (3, Value.ref o), (4, Value.ref oD), (5, Value.int (nI (5 * c)))]) dL_law_1761 rfl (by decide) rfl ?_
  refine pw_aload_n (pc2 := 1764) dL_law_1763 rfl rfl 3 rfl (by first | exact rf_ref _ | exact rf_opt _ | exact rf_nul) ?_
  refine pw_callV (kc := kc) (ks := ks) (pc2 := 1767) hm cs_L_200 rfl rfl hfs dL_law_1764 rfl (by omega) rfl (by first | decide | simp [cat_rf, Value.category]) (fun r8 h8 q8 => ?_) (fun Y h8 q8 => q8.elim)
  obtain ⟨b, rfl, A', σ', ofr', HI', e0, e60, h7, hk⟩ := hn2 _ _ q8
  refine pw_dstore (pc2 := 1769) (L2 := [(7, Value.double b), (6, Value.int k), (0, Value.ref sc), (1, Value.ref (A 0 0)), (2, Value.ref (A 60 0)), (3, Value.ref o), (4, Value.ref oD), (5, Value.int (nI (5 * c)))]) dL_law_1767 rfl (by decide) rfl ?_
  refine pw_aload_n (pc2 := 1770) dL_law_1769 rfl rfl 4 rfl (by first | exact rf_ref _ | exact rf_opt _ | exact rf_nul) ?_
  have hT : PMet G MX10_thrown 0 0 0 [.ref (A 60 0)] h8 (det (some (.int k)) h8) noX := by have z := c_thrown G h8 HI'.1.wm; rw [e60, h7] at z; exact z
  have hR8 := HI'.1.c60
  rw [e60] at hR8
  refine pw_callV1 (kc := kc) (ks := ks) (pc2 := 1773) hT cs_L_116 rfl rfl hR8 dL_law_1770 rfl (by omega) rfl (by first | decide | simp [cat_rf, Value.category]) ?_
  refine pw_iload (pc2 := 1775) dL_law_1773 rfl 1 rfl ?_
  refine pw_icmp_eq (tgt := 1780) (pc2 := 1778) dL_law_1775 (by decide) rfl (fun _ => ?_) (fun c1775 => by exact absurd (rfl) c1775)
  refine pw_iload (pc2 := 1782) dL_law_1780 rfl 1 rfl ?_
  refine pw_if_ne (tgt := 1817) (pc2 := 1785) dL_law_1782 (by decide) rfl (fun c1782 => ?_) (fun c1782 => ?_)
  · refine pw_goto (tgt := 1820) dL_law_1817 (by decide) ?_
    refine PW.sub (L2 := [(0, Value.ref sc), (1, Value.ref (A 0 0)), (2, Value.ref (A 60 0)), (3, Value.ref o), (4, Value.ref oD), (5, Value.int (nI (5 * c)))]) [2, 3, 4, 5, 6, 7] rfl ?_
    exact K h8 A' σ' ofr' HI' e0 e60
  · have K0 : k = 0 := by first | exact c1782 | exact Classical.not_not.mp c1782
    refine pw_aload (pc2 := 1787) dL_law_1785 rfl 6 rfl (by first | exact rf_ref _ | exact rf_opt _ | exact rf_nul) ?_
    refine pw_iconst (pc2 := 1788) (v := 0) dL_law_1787 rfl (by decide) ?_
    obtain ⟨f, hf, hf0, hnn⟩ := hk K0
    refine pw_dald (pc2 := 1789) hf (by unfold vp_in; decide) dL_law_1788 rfl ?_
    refine pw_dload (pc2 := 1791) dL_law_1789 rfl 0 rfl ?_
    refine pw_dcmp (pc2 := 1792) dL_law_1791 rfl ?_
    refine pw_if_eq (tgt := 1817) (pc2 := 1795) dL_law_1792 (by decide) rfl (fun _ => ?_) (fun c1792 => by exact absurd (dcmp_eq hf0 hnn) c1792)
    refine pw_goto (tgt := 1820) dL_law_1817 (by decide) ?_
    refine PW.sub (L2 := [(0, Value.ref sc), (1, Value.ref (A 0 0)), (2, Value.ref (A 60 0)), (3, Value.ref o), (4, Value.ref oD), (5, Value.int (nI (5 * c)))]) [2, 3, 4, 5, 6, 7] rfl ?_
    exact K h8 A' σ' ofr' HI' e0 e60
end LCS

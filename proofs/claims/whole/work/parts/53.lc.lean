/-! the law's cases (laid by wip/whole/mklaw.py) -/
theorem ixs {a b : Nat} {k : Int32} (h : k = nI b) : nI a + k = nI (a + b) := by rw [h, nI_add]
theorem GG.shp {nf nc ns : Nat} {μ : xM} (h : GG nf nc ns μ) : mT μ 1 = (4, 0) := by
  obtain ⟨φ, κ, hR, -⟩ := h
  exact hR.2.1.1 1 (by decide) (by decide)
theorem GG.bd {nf nc ns : Nat} {μ : xM} (h : GG nf nc ns μ) : mN μ ≤ nc ∧ mS μ ≤ ns := by
  obtain ⟨φ, κ, hR, -⟩ := h
  exact hR.2.2.2.2.2.2.2
set_option maxRecDepth 100000 in
set_option maxHeartbeats 4000000 in
theorem law_c0 {L i nf nc ns : Nat} {xs : Nat → Int32} {μ : xM} {Q : Option Value → xM → Prop} (hL : L ≤ 3072) (hi : i + 6 ≤ L) (hG : GG nf nc ns μ) (hf : nf + 40 < 2 ^ 30) (K : ∀ μ2, GG (nf + 40) (nc + 4) (ns + 101) μ2 → X kL_law (some (L, xs)) 1196 (xl [(0, .ref 0), (1, .ref 1), (2, .ref 44), (3, .int (nI i))]) [] μ2 Q) : X kL_law (some (L, xs)) 164 (xl [(0, .ref 0), (1, .ref 1), (2, .ref 44), (3, .int (nI i))]) [] μ Q := by
  refine X.aload_n dL_law_164 rfl ?_
  refine X.aload_n dL_law_165 rfl ?_
  refine X.iload_n dL_law_166 rfl ?_
  refine X.iconst (v := 1) dL_law_167 (by decide) ?_
  refine X.iadd dL_law_168 ?_
  refine X.sld (i := i + 1) dL_law_169 (ixs rfl) (by omega) (by omega) ?_
  refine X.aload_n dL_law_170 rfl ?_
  refine X.iload_n dL_law_171 rfl ?_
  refine X.iconst (v := 2) dL_law_172 (by decide) ?_
  refine X.iadd dL_law_173 ?_
  refine X.sld (i := i + 2) dL_law_174 (ixs rfl) (by omega) (by omega) ?_
  refine X.aload_n dL_law_175 rfl ?_
  refine X.iload_n dL_law_176 rfl ?_
  refine X.iconst (v := 3) dL_law_177 (by decide) ?_
  refine X.iadd dL_law_178 ?_
  refine X.sld (i := i + 3) dL_law_179 (ixs rfl) (by omega) (by omega) ?_
  refine X.cV3i (k' := kX4_tape) dL_law_180 (hG.shp) ⟨by decide, rfl⟩ v_X4_tape wm_L_13 wi_X4_tape ws_X4_tape ⟨Nat.le_of_ble_eq_true rfl, Nat.le_of_ble_eq_true rfl⟩ n_X4_tape (Nat.le_of_ble_eq_true rfl) ?_
  refine Mt.mono (a_tape hG) (fun r μ1 h => ?_)
  obtain ⟨v, rfl, h44, h⟩ := h
  refine ⟨v, rfl, ?_⟩
  refine X.aload_n dL_law_183 rfl ?_
  refine X.aload_n dL_law_184 rfl ?_
  refine X.iload_n dL_law_185 rfl ?_
  refine X.iconst (v := 1) dL_law_186 (by decide) ?_
  refine X.iadd dL_law_187 ?_
  refine X.sld (i := i + 1) dL_law_188 (ixs rfl) (by omega) (by omega) ?_
  refine X.aload_n dL_law_189 rfl ?_
  refine X.iload_n dL_law_190 rfl ?_
  refine X.iconst (v := 2) dL_law_191 (by decide) ?_
  refine X.iadd dL_law_192 ?_
  refine X.sld (i := i + 2) dL_law_193 (ixs rfl) (by omega) (by omega) ?_
  refine X.aload_n dL_law_194 rfl ?_
  refine X.iload_n dL_law_195 rfl ?_
  refine X.iconst (v := 3) dL_law_196 (by decide) ?_
  refine X.iadd dL_law_197 ?_
  refine X.sld (i := i + 3) dL_law_198 (ixs rfl) (by omega) (by omega) ?_
  refine X.cV3i (k' := kX5_tape) dL_law_199 (h44) ⟨by decide, rfl⟩ v_X5_tape wm_L_17 wi_X5_tape ws_X5_tape ⟨Nat.le_of_ble_eq_true rfl, Nat.le_of_ble_eq_true rfl⟩ n_X5_tape (Nat.le_of_ble_eq_true rfl) ?_
  refine Mt.mono h (fun r' μ2 h2 => ?_)
  obtain ⟨rfl, hG2⟩ := h2
  refine ⟨v, rfl, ?_⟩
  refine X.icmp_eq_t (tgt := 1196) dL_law_202 (by decide) rfl ?_
  exact K μ2 hG2
set_option maxRecDepth 100000 in
set_option maxHeartbeats 4000000 in
theorem law_c1 {L i nf nc ns : Nat} {xs : Nat → Int32} {μ : xM} {Q : Option Value → xM → Prop} (hL : L ≤ 3072) (hi : i + 6 ≤ L) (hG : GG nf nc ns μ) (hf : nf + 40 < 2 ^ 30) (K : ∀ μ2, GG (nf + 40) (nc + 4) (ns + 101) μ2 → X kL_law (some (L, xs)) 1196 (xl [(0, .ref 0), (1, .ref 1), (2, .ref 44), (3, .int (nI i))]) [] μ2 Q) : X kL_law (some (L, xs)) 207 (xl [(0, .ref 0), (1, .ref 1), (2, .ref 44), (3, .int (nI i))]) [] μ Q := by
  refine X.aload_n dL_law_207 rfl ?_
  refine X.aload_n dL_law_208 rfl ?_
  refine X.iload_n dL_law_209 rfl ?_
  refine X.iconst (v := 1) dL_law_210 (by decide) ?_
  refine X.iadd dL_law_211 ?_
  refine X.sld (i := i + 1) dL_law_212 (ixs rfl) (by omega) (by omega) ?_
  refine X.cV1i (k' := kX4_plug) dL_law_213 (hG.shp) ⟨by decide, rfl⟩ v_X4_plug wm_L_18 wi_X4_plug ws_X4_plug ⟨Nat.le_of_ble_eq_true rfl, Nat.le_of_ble_eq_true rfl⟩ n_X4_plug (Nat.le_of_ble_eq_true rfl) ?_
  refine Mt.mono (a_plug hG) (fun r μ1 h => ?_)
  obtain ⟨v, rfl, h44, h⟩ := h
  refine ⟨v, rfl, ?_⟩
  refine X.aload_n dL_law_216 rfl ?_
  refine X.aload_n dL_law_217 rfl ?_
  refine X.iload_n dL_law_218 rfl ?_
  refine X.iconst (v := 1) dL_law_219 (by decide) ?_
  refine X.iadd dL_law_220 ?_
  refine X.sld (i := i + 1) dL_law_221 (ixs rfl) (by omega) (by omega) ?_
  refine X.cV1i (k' := kX5_plug) dL_law_222 (h44) ⟨by decide, rfl⟩ v_X5_plug wm_L_22 wi_X5_plug ws_X5_plug ⟨Nat.le_of_ble_eq_true rfl, Nat.le_of_ble_eq_true rfl⟩ n_X5_plug (Nat.le_of_ble_eq_true rfl) ?_
  refine Mt.mono h (fun r' μ2 h2 => ?_)
  obtain ⟨rfl, hG2⟩ := h2
  refine ⟨v, rfl, ?_⟩
  refine X.icmp_eq_t (tgt := 1196) dL_law_225 (by decide) rfl ?_
  exact K μ2 hG2
set_option maxRecDepth 100000 in
set_option maxHeartbeats 4000000 in
theorem law_c2 {L i nf nc ns : Nat} {xs : Nat → Int32} {μ : xM} {Q : Option Value → xM → Prop} (hL : L ≤ 3072) (hi : i + 6 ≤ L) (hG : GG nf nc ns μ) (hf : nf + 40 < 2 ^ 30) (K : ∀ μ2, GG (nf + 40) (nc + 4) (ns + 101) μ2 → X kL_law (some (L, xs)) 1196 (xl [(0, .ref 0), (1, .ref 1), (2, .ref 44), (3, .int (nI i))]) [] μ2 Q) : X kL_law (some (L, xs)) 230 (xl [(0, .ref 0), (1, .ref 1), (2, .ref 44), (3, .int (nI i))]) [] μ Q := by
  refine X.aload_n dL_law_230 rfl ?_
  refine X.aload_n dL_law_231 rfl ?_
  refine X.iload_n dL_law_232 rfl ?_
  refine X.iconst (v := 1) dL_law_233 (by decide) ?_
  refine X.iadd dL_law_234 ?_
  refine X.sld (i := i + 1) dL_law_235 (ixs rfl) (by omega) (by omega) ?_
  refine X.cV1i (k' := kX4_strip) dL_law_236 (hG.shp) ⟨by decide, rfl⟩ v_X4_strip wm_L_23 wi_X4_strip ws_X4_strip ⟨Nat.le_of_ble_eq_true rfl, Nat.le_of_ble_eq_true rfl⟩ n_X4_strip (Nat.le_of_ble_eq_true rfl) ?_
  refine Mt.mono (a_strip hG) (fun r μ1 h => ?_)
  obtain ⟨v, rfl, h44, h⟩ := h
  refine ⟨v, rfl, ?_⟩
  refine X.aload_n dL_law_239 rfl ?_
  refine X.aload_n dL_law_240 rfl ?_
  refine X.iload_n dL_law_241 rfl ?_
  refine X.iconst (v := 1) dL_law_242 (by decide) ?_
  refine X.iadd dL_law_243 ?_
  refine X.sld (i := i + 1) dL_law_244 (ixs rfl) (by omega) (by omega) ?_
  refine X.cV1i (k' := kX5_strip) dL_law_245 (h44) ⟨by decide, rfl⟩ v_X5_strip wm_L_26 wi_X5_strip ws_X5_strip ⟨Nat.le_of_ble_eq_true rfl, Nat.le_of_ble_eq_true rfl⟩ n_X5_strip (Nat.le_of_ble_eq_true rfl) ?_
  refine Mt.mono h (fun r' μ2 h2 => ?_)
  obtain ⟨rfl, hG2⟩ := h2
  refine ⟨v, rfl, ?_⟩
  refine X.icmp_eq_t (tgt := 1196) dL_law_248 (by decide) rfl ?_
  exact K μ2 hG2
set_option maxRecDepth 100000 in
set_option maxHeartbeats 4000000 in
theorem law_c3 {L i nf nc ns : Nat} {xs : Nat → Int32} {μ : xM} {Q : Option Value → xM → Prop} (hL : L ≤ 3072) (hi : i + 6 ≤ L) (hG : GG nf nc ns μ) (hf : nf + 40 < 2 ^ 30) (K : ∀ μ2, GG (nf + 40) (nc + 4) (ns + 101) μ2 → X kL_law (some (L, xs)) 1196 (xl [(0, .ref 0), (1, .ref 1), (2, .ref 44), (3, .int (nI i))]) [] μ2 Q) : X kL_law (some (L, xs)) 253 (xl [(0, .ref 0), (1, .ref 1), (2, .ref 44), (3, .int (nI i))]) [] μ Q := by
  refine X.aload_n dL_law_253 rfl ?_
  refine X.aload_n dL_law_254 rfl ?_
  refine X.iload_n dL_law_255 rfl ?_
  refine X.iconst (v := 1) dL_law_256 (by decide) ?_
  refine X.iadd dL_law_257 ?_
  refine X.sld (i := i + 1) dL_law_258 (ixs rfl) (by omega) (by omega) ?_
  refine X.aload_n dL_law_259 rfl ?_
  refine X.iload_n dL_law_260 rfl ?_
  refine X.iconst (v := 2) dL_law_261 (by decide) ?_
  refine X.iadd dL_law_262 ?_
  refine X.sld (i := i + 2) dL_law_263 (ixs rfl) (by omega) (by omega) ?_
  refine X.cV2i (k' := kX4_share) dL_law_264 (hG.shp) ⟨by decide, rfl⟩ v_X4_share wm_L_27 wi_X4_share ws_X4_share ⟨Nat.le_of_ble_eq_true rfl, Nat.le_of_ble_eq_true rfl⟩ n_X4_share (Nat.le_of_ble_eq_true rfl) ?_
  refine Mt.mono (a_share hG) (fun r μ1 h => ?_)
  obtain ⟨v, rfl, h44, h⟩ := h
  refine ⟨v, rfl, ?_⟩
  refine X.aload_n dL_law_267 rfl ?_
  refine X.aload_n dL_law_268 rfl ?_
  refine X.iload_n dL_law_269 rfl ?_
  refine X.iconst (v := 1) dL_law_270 (by decide) ?_
  refine X.iadd dL_law_271 ?_
  refine X.sld (i := i + 1) dL_law_272 (ixs rfl) (by omega) (by omega) ?_
  refine X.aload_n dL_law_273 rfl ?_
  refine X.iload_n dL_law_274 rfl ?_
  refine X.iconst (v := 2) dL_law_275 (by decide) ?_
  refine X.iadd dL_law_276 ?_
  refine X.sld (i := i + 2) dL_law_277 (ixs rfl) (by omega) (by omega) ?_
  refine X.cV2i (k' := kX5_share) dL_law_278 (h44) ⟨by decide, rfl⟩ v_X5_share wm_L_31 wi_X5_share ws_X5_share ⟨Nat.le_of_ble_eq_true rfl, Nat.le_of_ble_eq_true rfl⟩ n_X5_share (Nat.le_of_ble_eq_true rfl) ?_
  refine Mt.mono h (fun r' μ2 h2 => ?_)
  obtain ⟨rfl, hG2⟩ := h2
  refine ⟨v, rfl, ?_⟩
  refine X.icmp_eq_t (tgt := 1196) dL_law_281 (by decide) rfl ?_
  exact K μ2 hG2
set_option maxRecDepth 100000 in
set_option maxHeartbeats 4000000 in
theorem law_c4 {L i nf nc ns : Nat} {xs : Nat → Int32} {μ : xM} {Q : Option Value → xM → Prop} (hL : L ≤ 3072) (hi : i + 6 ≤ L) (hG : GG nf nc ns μ) (hf : nf + 40 < 2 ^ 30) (K : ∀ μ2, GG (nf + 40) (nc + 4) (ns + 101) μ2 → X kL_law (some (L, xs)) 1196 (xl [(0, .ref 0), (1, .ref 1), (2, .ref 44), (3, .int (nI i))]) [] μ2 Q) : X kL_law (some (L, xs)) 286 (xl [(0, .ref 0), (1, .ref 1), (2, .ref 44), (3, .int (nI i))]) [] μ Q := by
  refine X.aload_n dL_law_286 rfl ?_
  refine X.aload_n dL_law_287 rfl ?_
  refine X.iload_n dL_law_288 rfl ?_
  refine X.iconst (v := 1) dL_law_289 (by decide) ?_
  refine X.iadd dL_law_290 ?_
  refine X.sld (i := i + 1) dL_law_291 (ixs rfl) (by omega) (by omega) ?_
  refine X.aload_n dL_law_292 rfl ?_
  refine X.iload_n dL_law_293 rfl ?_
  refine X.iconst (v := 2) dL_law_294 (by decide) ?_
  refine X.iadd dL_law_295 ?_
  refine X.sld (i := i + 2) dL_law_296 (ixs rfl) (by omega) (by omega) ?_
  refine X.cV2i (k' := kX4_head) dL_law_297 (hG.shp) ⟨by decide, rfl⟩ v_X4_head wm_L_32 wi_X4_head ws_X4_head ⟨Nat.le_of_ble_eq_true rfl, Nat.le_of_ble_eq_true rfl⟩ n_X4_head (Nat.le_of_ble_eq_true rfl) ?_
  refine Mt.mono (a_head hG) (fun r μ1 h => ?_)
  obtain ⟨v, rfl, h44, h⟩ := h
  refine ⟨v, rfl, ?_⟩
  refine X.aload_n dL_law_300 rfl ?_
  refine X.aload_n dL_law_301 rfl ?_
  refine X.iload_n dL_law_302 rfl ?_
  refine X.iconst (v := 1) dL_law_303 (by decide) ?_
  refine X.iadd dL_law_304 ?_
  refine X.sld (i := i + 1) dL_law_305 (ixs rfl) (by omega) (by omega) ?_
  refine X.aload_n dL_law_306 rfl ?_
  refine X.iload_n dL_law_307 rfl ?_
  refine X.iconst (v := 2) dL_law_308 (by decide) ?_
  refine X.iadd dL_law_309 ?_
  refine X.sld (i := i + 2) dL_law_310 (ixs rfl) (by omega) (by omega) ?_
  refine X.cV2i (k' := kX5_head) dL_law_311 (h44) ⟨by decide, rfl⟩ v_X5_head wm_L_35 wi_X5_head ws_X5_head ⟨Nat.le_of_ble_eq_true rfl, Nat.le_of_ble_eq_true rfl⟩ n_X5_head (Nat.le_of_ble_eq_true rfl) ?_
  refine Mt.mono h (fun r' μ2 h2 => ?_)
  obtain ⟨rfl, hG2⟩ := h2
  refine ⟨v, rfl, ?_⟩
  refine X.icmp_eq_t (tgt := 1196) dL_law_314 (by decide) rfl ?_
  exact K μ2 hG2
set_option maxRecDepth 100000 in
set_option maxHeartbeats 4000000 in
theorem law_c5 {L i nf nc ns : Nat} {xs : Nat → Int32} {μ : xM} {Q : Option Value → xM → Prop} (hL : L ≤ 3072) (hi : i + 6 ≤ L) (hG : GG nf nc ns μ) (hf : nf + 40 < 2 ^ 30) (K : ∀ μ2, GG (nf + 40) (nc + 4) (ns + 101) μ2 → X kL_law (some (L, xs)) 1196 (xl [(0, .ref 0), (1, .ref 1), (2, .ref 44), (3, .int (nI i))]) [] μ2 Q) : X kL_law (some (L, xs)) 319 (xl [(0, .ref 0), (1, .ref 1), (2, .ref 44), (3, .int (nI i))]) [] μ Q := by
  refine X.aload_n dL_law_319 rfl ?_
  refine X.aload_n dL_law_320 rfl ?_
  refine X.iload_n dL_law_321 rfl ?_
  refine X.iconst (v := 1) dL_law_322 (by decide) ?_
  refine X.iadd dL_law_323 ?_
  refine X.sld (i := i + 1) dL_law_324 (ixs rfl) (by omega) (by omega) ?_
  refine X.aload_n dL_law_325 rfl ?_
  refine X.iload_n dL_law_326 rfl ?_
  refine X.iconst (v := 2) dL_law_327 (by decide) ?_
  refine X.iadd dL_law_328 ?_
  refine X.sld (i := i + 2) dL_law_329 (ixs rfl) (by omega) (by omega) ?_
  refine X.cV2i (k' := kX4_step) dL_law_330 (hG.shp) ⟨by decide, rfl⟩ v_X4_step wm_L_36 wi_X4_step ws_X4_step ⟨Nat.le_of_ble_eq_true rfl, Nat.le_of_ble_eq_true rfl⟩ n_X4_step (Nat.le_of_ble_eq_true rfl) ?_
  refine Mt.mono (a_step hG) (fun r μ1 h => ?_)
  obtain ⟨v, rfl, h44, h⟩ := h
  refine ⟨v, rfl, ?_⟩
  refine X.aload_n dL_law_333 rfl ?_
  refine X.aload_n dL_law_334 rfl ?_
  refine X.iload_n dL_law_335 rfl ?_
  refine X.iconst (v := 1) dL_law_336 (by decide) ?_
  refine X.iadd dL_law_337 ?_
  refine X.sld (i := i + 1) dL_law_338 (ixs rfl) (by omega) (by omega) ?_
  refine X.aload_n dL_law_339 rfl ?_
  refine X.iload_n dL_law_340 rfl ?_
  refine X.iconst (v := 2) dL_law_341 (by decide) ?_
  refine X.iadd dL_law_342 ?_
  refine X.sld (i := i + 2) dL_law_343 (ixs rfl) (by omega) (by omega) ?_
  refine X.cV2i (k' := kX5_step) dL_law_344 (h44) ⟨by decide, rfl⟩ v_X5_step wm_L_39 wi_X5_step ws_X5_step ⟨Nat.le_of_ble_eq_true rfl, Nat.le_of_ble_eq_true rfl⟩ n_X5_step (Nat.le_of_ble_eq_true rfl) ?_
  refine Mt.mono h (fun r' μ2 h2 => ?_)
  obtain ⟨rfl, hG2⟩ := h2
  refine ⟨v, rfl, ?_⟩
  refine X.icmp_eq_t (tgt := 1196) dL_law_347 (by decide) rfl ?_
  exact K μ2 hG2
set_option maxRecDepth 100000 in
set_option maxHeartbeats 4000000 in
theorem law_c6 {L i nf nc ns : Nat} {xs : Nat → Int32} {μ : xM} {Q : Option Value → xM → Prop} (hL : L ≤ 3072) (hi : i + 6 ≤ L) (hG : GG nf nc ns μ) (hf : nf + 40 < 2 ^ 30) (K : ∀ μ2, GG (nf + 40) (nc + 4) (ns + 101) μ2 → X kL_law (some (L, xs)) 1196 (xl [(0, .ref 0), (1, .ref 1), (2, .ref 44), (3, .int (nI i))]) [] μ2 Q) : X kL_law (some (L, xs)) 352 (xl [(0, .ref 0), (1, .ref 1), (2, .ref 44), (3, .int (nI i))]) [] μ Q := by
  by_cases hz : xs (i + 2) = 0
  · refine X.aload_n dL_law_352 rfl ?_
    refine X.aload_n dL_law_353 rfl ?_
    refine X.iload_n dL_law_354 rfl ?_
    refine X.iconst (v := 1) dL_law_355 (by decide) ?_
    refine X.iadd dL_law_356 ?_
    refine X.sld (i := i + 1) dL_law_357 (ixs rfl) (by omega) (by omega) ?_
    refine X.aload_n dL_law_358 rfl ?_
    refine X.iload_n dL_law_359 rfl ?_
    refine X.iconst (v := 2) dL_law_360 (by decide) ?_
    refine X.iadd dL_law_361 ?_
    refine X.sld (i := i + 2) dL_law_362 (ixs rfl) (by omega) (by omega) ?_
    refine X.if_eq_t (tgt := 370) dL_law_363 (by decide) hz ?_
    refine X.iconst (v := 0) dL_law_370 (by decide) ?_
    refine X.cV2i (k' := kX4_loop) dL_law_371 (hG.shp) ⟨by decide, rfl⟩ v_X4_loop wm_L_40 wi_X4_loop ws_X4_loop ⟨Nat.le_of_ble_eq_true rfl, Nat.le_of_ble_eq_true rfl⟩ n_X4_loop (Nat.le_of_ble_eq_true rfl) ?_
    refine Mt.mono (a_loop (Or.inl rfl) hG) (fun r μ1 h => ?_)
    obtain ⟨v, rfl, h44, h⟩ := h
    refine ⟨v, rfl, ?_⟩
    refine X.aload_n dL_law_374 rfl ?_
    refine X.aload_n dL_law_375 rfl ?_
    refine X.iload_n dL_law_376 rfl ?_
    refine X.iconst (v := 1) dL_law_377 (by decide) ?_
    refine X.iadd dL_law_378 ?_
    refine X.sld (i := i + 1) dL_law_379 (ixs rfl) (by omega) (by omega) ?_
    refine X.aload_n dL_law_380 rfl ?_
    refine X.iload_n dL_law_381 rfl ?_
    refine X.iconst (v := 2) dL_law_382 (by decide) ?_
    refine X.iadd dL_law_383 ?_
    refine X.sld (i := i + 2) dL_law_384 (ixs rfl) (by omega) (by omega) ?_
    refine X.if_eq_t (tgt := 392) dL_law_385 (by decide) hz ?_
    refine X.iconst (v := 0) dL_law_392 (by decide) ?_
    refine X.cV2i (k' := kX5_loop) dL_law_393 (h44) ⟨by decide, rfl⟩ v_X5_loop wm_L_44 wi_X5_loop ws_X5_loop ⟨Nat.le_of_ble_eq_true rfl, Nat.le_of_ble_eq_true rfl⟩ n_X5_loop (Nat.le_of_ble_eq_true rfl) ?_
    refine Mt.mono h (fun r' μ2 h2 => ?_)
    obtain ⟨rfl, hG2⟩ := h2
    refine ⟨v, rfl, ?_⟩
    refine X.icmp_eq_t (tgt := 1196) dL_law_396 (by decide) rfl ?_
    exact K μ2 hG2
  · refine X.aload_n dL_law_352 rfl ?_
    refine X.aload_n dL_law_353 rfl ?_
    refine X.iload_n dL_law_354 rfl ?_
    refine X.iconst (v := 1) dL_law_355 (by decide) ?_
    refine X.iadd dL_law_356 ?_
    refine X.sld (i := i + 1) dL_law_357 (ixs rfl) (by omega) (by omega) ?_
    refine X.aload_n dL_law_358 rfl ?_
    refine X.iload_n dL_law_359 rfl ?_
    refine X.iconst (v := 2) dL_law_360 (by decide) ?_
    refine X.iadd dL_law_361 ?_
    refine X.sld (i := i + 2) dL_law_362 (ixs rfl) (by omega) (by omega) ?_
    refine X.if_eq_f (tgt := 370) dL_law_363 (by decide) hz ?_
    refine X.iconst (v := 1) dL_law_366 (by decide) ?_
    refine X.goto (tgt := 371) dL_law_367 (by decide) ?_
    refine X.cV2i (k' := kX4_loop) dL_law_371 (hG.shp) ⟨by decide, rfl⟩ v_X4_loop wm_L_40 wi_X4_loop ws_X4_loop ⟨Nat.le_of_ble_eq_true rfl, Nat.le_of_ble_eq_true rfl⟩ n_X4_loop (Nat.le_of_ble_eq_true rfl) ?_
    refine Mt.mono (a_loop (Or.inr rfl) hG) (fun r μ1 h => ?_)
    obtain ⟨v, rfl, h44, h⟩ := h
    refine ⟨v, rfl, ?_⟩
    refine X.aload_n dL_law_374 rfl ?_
    refine X.aload_n dL_law_375 rfl ?_
    refine X.iload_n dL_law_376 rfl ?_
    refine X.iconst (v := 1) dL_law_377 (by decide) ?_
    refine X.iadd dL_law_378 ?_
    refine X.sld (i := i + 1) dL_law_379 (ixs rfl) (by omega) (by omega) ?_
    refine X.aload_n dL_law_380 rfl ?_
    refine X.iload_n dL_law_381 rfl ?_
    refine X.iconst (v := 2) dL_law_382 (by decide) ?_
    refine X.iadd dL_law_383 ?_
    refine X.sld (i := i + 2) dL_law_384 (ixs rfl) (by omega) (by omega) ?_
    refine X.if_eq_f (tgt := 392) dL_law_385 (by decide) hz ?_
    refine X.iconst (v := 1) dL_law_388 (by decide) ?_
    refine X.goto (tgt := 393) dL_law_389 (by decide) ?_
    refine X.cV2i (k' := kX5_loop) dL_law_393 (h44) ⟨by decide, rfl⟩ v_X5_loop wm_L_44 wi_X5_loop ws_X5_loop ⟨Nat.le_of_ble_eq_true rfl, Nat.le_of_ble_eq_true rfl⟩ n_X5_loop (Nat.le_of_ble_eq_true rfl) ?_
    refine Mt.mono h (fun r' μ2 h2 => ?_)
    obtain ⟨rfl, hG2⟩ := h2
    refine ⟨v, rfl, ?_⟩
    refine X.icmp_eq_t (tgt := 1196) dL_law_396 (by decide) rfl ?_
    exact K μ2 hG2
set_option maxRecDepth 100000 in
set_option maxHeartbeats 4000000 in
theorem law_c7 {L i nf nc ns : Nat} {xs : Nat → Int32} {μ : xM} {Q : Option Value → xM → Prop} (hL : L ≤ 3072) (hi : i + 6 ≤ L) (hG : GG nf nc ns μ) (hf : nf + 40 < 2 ^ 30) (K : ∀ μ2, GG (nf + 40) (nc + 4) (ns + 101) μ2 → X kL_law (some (L, xs)) 1196 (xl [(0, .ref 0), (1, .ref 1), (2, .ref 44), (3, .int (nI i))]) [] μ2 Q) : X kL_law (some (L, xs)) 401 (xl [(0, .ref 0), (1, .ref 1), (2, .ref 44), (3, .int (nI i))]) [] μ Q := by
  refine X.aload_n dL_law_401 rfl ?_
  refine X.aload_n dL_law_402 rfl ?_
  refine X.iload_n dL_law_403 rfl ?_
  refine X.iconst (v := 1) dL_law_404 (by decide) ?_
  refine X.iadd dL_law_405 ?_
  refine X.sld (i := i + 1) dL_law_406 (ixs rfl) (by omega) (by omega) ?_
  refine X.aload_n dL_law_407 rfl ?_
  refine X.iload_n dL_law_408 rfl ?_
  refine X.iconst (v := 2) dL_law_409 (by decide) ?_
  refine X.iadd dL_law_410 ?_
  refine X.sld (i := i + 2) dL_law_411 (ixs rfl) (by omega) (by omega) ?_
  refine X.aload_n dL_law_412 rfl ?_
  refine X.iload_n dL_law_413 rfl ?_
  refine X.iconst (v := 3) dL_law_414 (by decide) ?_
  refine X.iadd dL_law_415 ?_
  refine X.sld (i := i + 3) dL_law_416 (ixs rfl) (by omega) (by omega) ?_
  refine X.aload_n dL_law_417 rfl ?_
  refine X.iload_n dL_law_418 rfl ?_
  refine X.iconst (v := 4) dL_law_419 (by decide) ?_
  refine X.iadd dL_law_420 ?_
  refine X.sld (i := i + 4) dL_law_421 (ixs rfl) (by omega) (by omega) ?_
  refine X.i2l dL_law_422 ?_
  refine X.bipush (v := 32) dL_law_423 (by decide) ?_
  refine X.lshl dL_law_425 ?_
  refine X.aload_n dL_law_426 rfl ?_
  refine X.iload_n dL_law_427 rfl ?_
  refine X.iconst (v := 5) dL_law_428 (by decide) ?_
  refine X.iadd dL_law_429 ?_
  refine X.sld (i := i + 5) dL_law_430 (ixs rfl) (by omega) (by omega) ?_
  refine X.i2l dL_law_431 ?_
  refine X.ldc2 dL_law_432 wk_L_45 ?_
  refine X.land dL_law_435 ?_
  refine X.lor dL_law_436 ?_
  refine X.cV4i (k' := kX4_stamp) dL_law_437 (hG.shp) ⟨by decide, rfl⟩ v_X4_stamp wm_L_47 wi_X4_stamp ws_X4_stamp ⟨Nat.le_of_ble_eq_true rfl, Nat.le_of_ble_eq_true rfl⟩ n_X4_stamp (Nat.le_of_ble_eq_true rfl) ?_
  refine Mt.mono (a_stamp hG) (fun r μ1 h => ?_)
  obtain ⟨v, rfl, h44, h⟩ := h
  refine ⟨v, rfl, ?_⟩
  refine X.aload_n dL_law_440 rfl ?_
  refine X.aload_n dL_law_441 rfl ?_
  refine X.iload_n dL_law_442 rfl ?_
  refine X.iconst (v := 1) dL_law_443 (by decide) ?_
  refine X.iadd dL_law_444 ?_
  refine X.sld (i := i + 1) dL_law_445 (ixs rfl) (by omega) (by omega) ?_
  refine X.aload_n dL_law_446 rfl ?_
  refine X.iload_n dL_law_447 rfl ?_
  refine X.iconst (v := 2) dL_law_448 (by decide) ?_
  refine X.iadd dL_law_449 ?_
  refine X.sld (i := i + 2) dL_law_450 (ixs rfl) (by omega) (by omega) ?_
  refine X.aload_n dL_law_451 rfl ?_
  refine X.iload_n dL_law_452 rfl ?_
  refine X.iconst (v := 3) dL_law_453 (by decide) ?_
  refine X.iadd dL_law_454 ?_
  refine X.sld (i := i + 3) dL_law_455 (ixs rfl) (by omega) (by omega) ?_
  refine X.aload_n dL_law_456 rfl ?_
  refine X.iload_n dL_law_457 rfl ?_
  refine X.iconst (v := 4) dL_law_458 (by decide) ?_
  refine X.iadd dL_law_459 ?_
  refine X.sld (i := i + 4) dL_law_460 (ixs rfl) (by omega) (by omega) ?_
  refine X.i2l dL_law_461 ?_
  refine X.bipush (v := 32) dL_law_462 (by decide) ?_
  refine X.lshl dL_law_464 ?_
  refine X.aload_n dL_law_465 rfl ?_
  refine X.iload_n dL_law_466 rfl ?_
  refine X.iconst (v := 5) dL_law_467 (by decide) ?_
  refine X.iadd dL_law_468 ?_
  refine X.sld (i := i + 5) dL_law_469 (ixs rfl) (by omega) (by omega) ?_
  refine X.i2l dL_law_470 ?_
  refine X.ldc2 dL_law_471 wk_L_45 ?_
  refine X.land dL_law_474 ?_
  refine X.lor dL_law_475 ?_
  refine X.cV4i (k' := kX5_stamp) dL_law_476 (h44) ⟨by decide, rfl⟩ v_X5_stamp wm_L_51 wi_X5_stamp ws_X5_stamp ⟨Nat.le_of_ble_eq_true rfl, Nat.le_of_ble_eq_true rfl⟩ n_X5_stamp (Nat.le_of_ble_eq_true rfl) ?_
  refine Mt.mono h (fun r' μ2 h2 => ?_)
  obtain ⟨rfl, hG2⟩ := h2
  refine ⟨v, rfl, ?_⟩
  refine X.icmp_eq_t (tgt := 1196) dL_law_479 (by decide) rfl ?_
  exact K μ2 hG2
set_option maxRecDepth 100000 in
set_option maxHeartbeats 4000000 in
theorem law_c8 {L i nf nc ns : Nat} {xs : Nat → Int32} {μ : xM} {Q : Option Value → xM → Prop} (hL : L ≤ 3072) (hi : i + 6 ≤ L) (hG : GG nf nc ns μ) (hf : nf + 40 < 2 ^ 30) (K : ∀ μ2, GG (nf + 40) (nc + 4) (ns + 101) μ2 → X kL_law (some (L, xs)) 1196 (xl [(0, .ref 0), (1, .ref 1), (2, .ref 44), (3, .int (nI i))]) [] μ2 Q) : X kL_law (some (L, xs)) 484 (xl [(0, .ref 0), (1, .ref 1), (2, .ref 44), (3, .int (nI i))]) [] μ Q := by
  refine X.aload_n dL_law_484 rfl ?_
  refine X.aload_n dL_law_485 rfl ?_
  refine X.iload_n dL_law_486 rfl ?_
  refine X.iconst (v := 1) dL_law_487 (by decide) ?_
  refine X.iadd dL_law_488 ?_
  refine X.sld (i := i + 1) dL_law_489 (ixs rfl) (by omega) (by omega) ?_
  refine X.aload_n dL_law_490 rfl ?_
  refine X.iload_n dL_law_491 rfl ?_
  refine X.iconst (v := 2) dL_law_492 (by decide) ?_
  refine X.iadd dL_law_493 ?_
  refine X.sld (i := i + 2) dL_law_494 (ixs rfl) (by omega) (by omega) ?_
  refine X.aload_n dL_law_495 rfl ?_
  refine X.iload_n dL_law_496 rfl ?_
  refine X.iconst (v := 3) dL_law_497 (by decide) ?_
  refine X.iadd dL_law_498 ?_
  refine X.sld (i := i + 3) dL_law_499 (ixs rfl) (by omega) (by omega) ?_
  refine X.cV3l (k' := kX4_probe) dL_law_500 (hG.shp) ⟨by decide, rfl⟩ v_X4_probe wm_L_52 wi_X4_probe ws_X4_probe ⟨Nat.le_of_ble_eq_true rfl, Nat.le_of_ble_eq_true rfl⟩ n_X4_probe (Nat.le_of_ble_eq_true rfl) ?_
  refine Mt.mono (a_probe hG) (fun r μ1 h => ?_)
  obtain ⟨v, rfl, h44, h⟩ := h
  refine ⟨v, rfl, ?_⟩
  refine X.aload_n dL_law_503 rfl ?_
  refine X.aload_n dL_law_504 rfl ?_
  refine X.iload_n dL_law_505 rfl ?_
  refine X.iconst (v := 1) dL_law_506 (by decide) ?_
  refine X.iadd dL_law_507 ?_
  refine X.sld (i := i + 1) dL_law_508 (ixs rfl) (by omega) (by omega) ?_
  refine X.aload_n dL_law_509 rfl ?_
  refine X.iload_n dL_law_510 rfl ?_
  refine X.iconst (v := 2) dL_law_511 (by decide) ?_
  refine X.iadd dL_law_512 ?_
  refine X.sld (i := i + 2) dL_law_513 (ixs rfl) (by omega) (by omega) ?_
  refine X.aload_n dL_law_514 rfl ?_
  refine X.iload_n dL_law_515 rfl ?_
  refine X.iconst (v := 3) dL_law_516 (by decide) ?_
  refine X.iadd dL_law_517 ?_
  refine X.sld (i := i + 3) dL_law_518 (ixs rfl) (by omega) (by omega) ?_
  refine X.cV3l (k' := kX5_probe) dL_law_519 (h44) ⟨by decide, rfl⟩ v_X5_probe wm_L_56 wi_X5_probe ws_X5_probe ⟨Nat.le_of_ble_eq_true rfl, Nat.le_of_ble_eq_true rfl⟩ n_X5_probe (Nat.le_of_ble_eq_true rfl) ?_
  refine Mt.mono h (fun r' μ2 h2 => ?_)
  obtain ⟨rfl, hG2⟩ := h2
  refine ⟨v, rfl, ?_⟩
  refine X.lcmp dL_law_522 ?_
  refine X.if_eq_t (tgt := 1196) dL_law_523 (by decide) (lgc_eq rfl) ?_
  exact K μ2 hG2
set_option maxRecDepth 100000 in
set_option maxHeartbeats 4000000 in
theorem law_c9 {L i nf nc ns : Nat} {xs : Nat → Int32} {μ : xM} {Q : Option Value → xM → Prop} (hL : L ≤ 3072) (hi : i + 6 ≤ L) (hG : GG nf nc ns μ) (hf : nf + 40 < 2 ^ 30) (K : ∀ μ2, GG (nf + 40) (nc + 4) (ns + 101) μ2 → X kL_law (some (L, xs)) 1196 (xl [(0, .ref 0), (1, .ref 1), (2, .ref 44), (3, .int (nI i))]) [] μ2 Q) : X kL_law (some (L, xs)) 528 (xl [(0, .ref 0), (1, .ref 1), (2, .ref 44), (3, .int (nI i))]) [] μ Q := by
  by_cases hz : xs (i + 3) = 0
  · refine X.aload_n dL_law_528 rfl ?_
    refine X.aload_n dL_law_529 rfl ?_
    refine X.iload_n dL_law_530 rfl ?_
    refine X.iconst (v := 1) dL_law_531 (by decide) ?_
    refine X.iadd dL_law_532 ?_
    refine X.sld (i := i + 1) dL_law_533 (ixs rfl) (by omega) (by omega) ?_
    refine X.aload_n dL_law_534 rfl ?_
    refine X.iload_n dL_law_535 rfl ?_
    refine X.iconst (v := 2) dL_law_536 (by decide) ?_
    refine X.iadd dL_law_537 ?_
    refine X.sld (i := i + 2) dL_law_538 (ixs rfl) (by omega) (by omega) ?_
    refine X.aload_n dL_law_539 rfl ?_
    refine X.iload_n dL_law_540 rfl ?_
    refine X.iconst (v := 3) dL_law_541 (by decide) ?_
    refine X.iadd dL_law_542 ?_
    refine X.sld (i := i + 3) dL_law_543 (ixs rfl) (by omega) (by omega) ?_
    refine X.if_eq_t (tgt := 551) dL_law_544 (by decide) hz ?_
    refine X.iconst (v := 0) dL_law_551 (by decide) ?_
    refine X.cV3i (k' := kX4_tag) dL_law_552 (hG.shp) ⟨by decide, rfl⟩ v_X4_tag wm_L_57 wi_X4_tag ws_X4_tag ⟨Nat.le_of_ble_eq_true rfl, Nat.le_of_ble_eq_true rfl⟩ n_X4_tag (Nat.le_of_ble_eq_true rfl) ?_
    refine Mt.mono (a_tag (Or.inl rfl) hG) (fun r μ1 h => ?_)
    obtain ⟨v, rfl, h44, h⟩ := h
    refine ⟨v, rfl, ?_⟩
    refine X.aload_n dL_law_555 rfl ?_
    refine X.aload_n dL_law_556 rfl ?_
    refine X.iload_n dL_law_557 rfl ?_
    refine X.iconst (v := 1) dL_law_558 (by decide) ?_
    refine X.iadd dL_law_559 ?_
    refine X.sld (i := i + 1) dL_law_560 (ixs rfl) (by omega) (by omega) ?_
    refine X.aload_n dL_law_561 rfl ?_
    refine X.iload_n dL_law_562 rfl ?_
    refine X.iconst (v := 2) dL_law_563 (by decide) ?_
    refine X.iadd dL_law_564 ?_
    refine X.sld (i := i + 2) dL_law_565 (ixs rfl) (by omega) (by omega) ?_
    refine X.aload_n dL_law_566 rfl ?_
    refine X.iload_n dL_law_567 rfl ?_
    refine X.iconst (v := 3) dL_law_568 (by decide) ?_
    refine X.iadd dL_law_569 ?_
    refine X.sld (i := i + 3) dL_law_570 (ixs rfl) (by omega) (by omega) ?_
    refine X.if_eq_t (tgt := 578) dL_law_571 (by decide) hz ?_
    refine X.iconst (v := 0) dL_law_578 (by decide) ?_
    refine X.cV3i (k' := kX5_tag) dL_law_579 (h44) ⟨by decide, rfl⟩ v_X5_tag wm_L_61 wi_X5_tag ws_X5_tag ⟨Nat.le_of_ble_eq_true rfl, Nat.le_of_ble_eq_true rfl⟩ n_X5_tag (Nat.le_of_ble_eq_true rfl) ?_
    refine Mt.mono h (fun r' μ2 h2 => ?_)
    obtain ⟨rfl, hG2⟩ := h2
    refine ⟨v, rfl, ?_⟩
    refine X.icmp_eq_t (tgt := 1196) dL_law_582 (by decide) rfl ?_
    exact K μ2 hG2
  · refine X.aload_n dL_law_528 rfl ?_
    refine X.aload_n dL_law_529 rfl ?_
    refine X.iload_n dL_law_530 rfl ?_
    refine X.iconst (v := 1) dL_law_531 (by decide) ?_
    refine X.iadd dL_law_532 ?_
    refine X.sld (i := i + 1) dL_law_533 (ixs rfl) (by omega) (by omega) ?_
    refine X.aload_n dL_law_534 rfl ?_
    refine X.iload_n dL_law_535 rfl ?_
    refine X.iconst (v := 2) dL_law_536 (by decide) ?_
    refine X.iadd dL_law_537 ?_
    refine X.sld (i := i + 2) dL_law_538 (ixs rfl) (by omega) (by omega) ?_
    refine X.aload_n dL_law_539 rfl ?_
    refine X.iload_n dL_law_540 rfl ?_
    refine X.iconst (v := 3) dL_law_541 (by decide) ?_
    refine X.iadd dL_law_542 ?_
    refine X.sld (i := i + 3) dL_law_543 (ixs rfl) (by omega) (by omega) ?_
    refine X.if_eq_f (tgt := 551) dL_law_544 (by decide) hz ?_
    refine X.iconst (v := 1) dL_law_547 (by decide) ?_
    refine X.goto (tgt := 552) dL_law_548 (by decide) ?_
    refine X.cV3i (k' := kX4_tag) dL_law_552 (hG.shp) ⟨by decide, rfl⟩ v_X4_tag wm_L_57 wi_X4_tag ws_X4_tag ⟨Nat.le_of_ble_eq_true rfl, Nat.le_of_ble_eq_true rfl⟩ n_X4_tag (Nat.le_of_ble_eq_true rfl) ?_
    refine Mt.mono (a_tag (Or.inr rfl) hG) (fun r μ1 h => ?_)
    obtain ⟨v, rfl, h44, h⟩ := h
    refine ⟨v, rfl, ?_⟩
    refine X.aload_n dL_law_555 rfl ?_
    refine X.aload_n dL_law_556 rfl ?_
    refine X.iload_n dL_law_557 rfl ?_
    refine X.iconst (v := 1) dL_law_558 (by decide) ?_
    refine X.iadd dL_law_559 ?_
    refine X.sld (i := i + 1) dL_law_560 (ixs rfl) (by omega) (by omega) ?_
    refine X.aload_n dL_law_561 rfl ?_
    refine X.iload_n dL_law_562 rfl ?_
    refine X.iconst (v := 2) dL_law_563 (by decide) ?_
    refine X.iadd dL_law_564 ?_
    refine X.sld (i := i + 2) dL_law_565 (ixs rfl) (by omega) (by omega) ?_
    refine X.aload_n dL_law_566 rfl ?_
    refine X.iload_n dL_law_567 rfl ?_
    refine X.iconst (v := 3) dL_law_568 (by decide) ?_
    refine X.iadd dL_law_569 ?_
    refine X.sld (i := i + 3) dL_law_570 (ixs rfl) (by omega) (by omega) ?_
    refine X.if_eq_f (tgt := 578) dL_law_571 (by decide) hz ?_
    refine X.iconst (v := 1) dL_law_574 (by decide) ?_
    refine X.goto (tgt := 579) dL_law_575 (by decide) ?_
    refine X.cV3i (k' := kX5_tag) dL_law_579 (h44) ⟨by decide, rfl⟩ v_X5_tag wm_L_61 wi_X5_tag ws_X5_tag ⟨Nat.le_of_ble_eq_true rfl, Nat.le_of_ble_eq_true rfl⟩ n_X5_tag (Nat.le_of_ble_eq_true rfl) ?_
    refine Mt.mono h (fun r' μ2 h2 => ?_)
    obtain ⟨rfl, hG2⟩ := h2
    refine ⟨v, rfl, ?_⟩
    refine X.icmp_eq_t (tgt := 1196) dL_law_582 (by decide) rfl ?_
    exact K μ2 hG2
set_option maxRecDepth 100000 in
set_option maxHeartbeats 4000000 in
theorem law_c10 {L i nf nc ns : Nat} {xs : Nat → Int32} {μ : xM} {Q : Option Value → xM → Prop} (hL : L ≤ 3072) (hi : i + 6 ≤ L) (hG : GG nf nc ns μ) (hf : nf + 40 < 2 ^ 30) (K : ∀ μ2, GG (nf + 40) (nc + 4) (ns + 101) μ2 → X kL_law (some (L, xs)) 1196 (xl [(0, .ref 0), (1, .ref 1), (2, .ref 44), (3, .int (nI i))]) [] μ2 Q) : X kL_law (some (L, xs)) 587 (xl [(0, .ref 0), (1, .ref 1), (2, .ref 44), (3, .int (nI i))]) [] μ Q := by
  refine X.aload_n dL_law_587 rfl ?_
  refine X.aload_n dL_law_588 rfl ?_
  refine X.iload_n dL_law_589 rfl ?_
  refine X.iconst (v := 1) dL_law_590 (by decide) ?_
  refine X.iadd dL_law_591 ?_
  refine X.sld (i := i + 1) dL_law_592 (ixs rfl) (by omega) (by omega) ?_
  refine X.aload_n dL_law_593 rfl ?_
  refine X.iload_n dL_law_594 rfl ?_
  refine X.iconst (v := 2) dL_law_595 (by decide) ?_
  refine X.iadd dL_law_596 ?_
  refine X.sld (i := i + 2) dL_law_597 (ixs rfl) (by omega) (by omega) ?_
  refine X.aload_n dL_law_598 rfl ?_
  refine X.iload_n dL_law_599 rfl ?_
  refine X.iconst (v := 3) dL_law_600 (by decide) ?_
  refine X.iadd dL_law_601 ?_
  refine X.sld (i := i + 3) dL_law_602 (ixs rfl) (by omega) (by omega) ?_
  refine X.cV3i (k' := kX4_rack) dL_law_603 (hG.shp) ⟨by decide, rfl⟩ v_X4_rack wm_L_62 wi_X4_rack ws_X4_rack ⟨Nat.le_of_ble_eq_true rfl, Nat.le_of_ble_eq_true rfl⟩ n_X4_rack (Nat.le_of_ble_eq_true rfl) ?_
  refine Mt.mono (a_rack hG) (fun r μ1 h => ?_)
  obtain ⟨v, rfl, h44, h⟩ := h
  refine ⟨v, rfl, ?_⟩
  refine X.aload_n dL_law_606 rfl ?_
  refine X.aload_n dL_law_607 rfl ?_
  refine X.iload_n dL_law_608 rfl ?_
  refine X.iconst (v := 1) dL_law_609 (by decide) ?_
  refine X.iadd dL_law_610 ?_
  refine X.sld (i := i + 1) dL_law_611 (ixs rfl) (by omega) (by omega) ?_
  refine X.aload_n dL_law_612 rfl ?_
  refine X.iload_n dL_law_613 rfl ?_
  refine X.iconst (v := 2) dL_law_614 (by decide) ?_
  refine X.iadd dL_law_615 ?_
  refine X.sld (i := i + 2) dL_law_616 (ixs rfl) (by omega) (by omega) ?_
  refine X.aload_n dL_law_617 rfl ?_
  refine X.iload_n dL_law_618 rfl ?_
  refine X.iconst (v := 3) dL_law_619 (by decide) ?_
  refine X.iadd dL_law_620 ?_
  refine X.sld (i := i + 3) dL_law_621 (ixs rfl) (by omega) (by omega) ?_
  refine X.cV3i (k' := kX5_rack) dL_law_622 (h44) ⟨by decide, rfl⟩ v_X5_rack wm_L_65 wi_X5_rack ws_X5_rack ⟨Nat.le_of_ble_eq_true rfl, Nat.le_of_ble_eq_true rfl⟩ n_X5_rack (Nat.le_of_ble_eq_true rfl) ?_
  refine Mt.mono h (fun r' μ2 h2 => ?_)
  obtain ⟨rfl, hG2⟩ := h2
  refine ⟨v, rfl, ?_⟩
  refine X.icmp_eq_t (tgt := 1196) dL_law_625 (by decide) rfl ?_
  exact K μ2 hG2
set_option maxRecDepth 100000 in
set_option maxHeartbeats 4000000 in
theorem law_c11 {L i nf nc ns : Nat} {xs : Nat → Int32} {μ : xM} {Q : Option Value → xM → Prop} (hL : L ≤ 3072) (hi : i + 6 ≤ L) (hG : GG nf nc ns μ) (hf : nf + 40 < 2 ^ 30) (K : ∀ μ2, GG (nf + 40) (nc + 4) (ns + 101) μ2 → X kL_law (some (L, xs)) 1196 (xl [(0, .ref 0), (1, .ref 1), (2, .ref 44), (3, .int (nI i))]) [] μ2 Q) : X kL_law (some (L, xs)) 630 (xl [(0, .ref 0), (1, .ref 1), (2, .ref 44), (3, .int (nI i))]) [] μ Q := by
  refine X.aload_n dL_law_630 rfl ?_
  refine X.aload_n dL_law_631 rfl ?_
  refine X.iload_n dL_law_632 rfl ?_
  refine X.iconst (v := 1) dL_law_633 (by decide) ?_
  refine X.iadd dL_law_634 ?_
  refine X.sld (i := i + 1) dL_law_635 (ixs rfl) (by omega) (by omega) ?_
  refine X.aload_n dL_law_636 rfl ?_
  refine X.iload_n dL_law_637 rfl ?_
  refine X.iconst (v := 2) dL_law_638 (by decide) ?_
  refine X.iadd dL_law_639 ?_
  refine X.sld (i := i + 2) dL_law_640 (ixs rfl) (by omega) (by omega) ?_
  refine X.aload_n dL_law_641 rfl ?_
  refine X.iload_n dL_law_642 rfl ?_
  refine X.iconst (v := 3) dL_law_643 (by decide) ?_
  refine X.iadd dL_law_644 ?_
  refine X.sld (i := i + 3) dL_law_645 (ixs rfl) (by omega) (by omega) ?_
  refine X.cV3i (k' := kX4_unrack) dL_law_646 (hG.shp) ⟨by decide, rfl⟩ v_X4_unrack wm_L_66 wi_X4_unrack ws_X4_unrack ⟨Nat.le_of_ble_eq_true rfl, Nat.le_of_ble_eq_true rfl⟩ n_X4_unrack (Nat.le_of_ble_eq_true rfl) ?_
  refine Mt.mono (a_unrack hG) (fun r μ1 h => ?_)
  obtain ⟨v, rfl, h44, h⟩ := h
  refine ⟨v, rfl, ?_⟩
  refine X.aload_n dL_law_649 rfl ?_
  refine X.aload_n dL_law_650 rfl ?_
  refine X.iload_n dL_law_651 rfl ?_
  refine X.iconst (v := 1) dL_law_652 (by decide) ?_
  refine X.iadd dL_law_653 ?_
  refine X.sld (i := i + 1) dL_law_654 (ixs rfl) (by omega) (by omega) ?_
  refine X.aload_n dL_law_655 rfl ?_
  refine X.iload_n dL_law_656 rfl ?_
  refine X.iconst (v := 2) dL_law_657 (by decide) ?_
  refine X.iadd dL_law_658 ?_
  refine X.sld (i := i + 2) dL_law_659 (ixs rfl) (by omega) (by omega) ?_
  refine X.aload_n dL_law_660 rfl ?_
  refine X.iload_n dL_law_661 rfl ?_
  refine X.iconst (v := 3) dL_law_662 (by decide) ?_
  refine X.iadd dL_law_663 ?_
  refine X.sld (i := i + 3) dL_law_664 (ixs rfl) (by omega) (by omega) ?_
  refine X.cV3i (k' := kX5_unrack) dL_law_665 (h44) ⟨by decide, rfl⟩ v_X5_unrack wm_L_69 wi_X5_unrack ws_X5_unrack ⟨Nat.le_of_ble_eq_true rfl, Nat.le_of_ble_eq_true rfl⟩ n_X5_unrack (Nat.le_of_ble_eq_true rfl) ?_
  refine Mt.mono h (fun r' μ2 h2 => ?_)
  obtain ⟨rfl, hG2⟩ := h2
  refine ⟨v, rfl, ?_⟩
  refine X.icmp_eq_t (tgt := 1196) dL_law_668 (by decide) rfl ?_
  exact K μ2 hG2
set_option maxRecDepth 100000 in
set_option maxHeartbeats 4000000 in
theorem law_c12 {L i nf nc ns : Nat} {xs : Nat → Int32} {μ : xM} {Q : Option Value → xM → Prop} (hL : L ≤ 3072) (hi : i + 6 ≤ L) (hG : GG nf nc ns μ) (hf : nf + 40 < 2 ^ 30) (K : ∀ μ2, GG (nf + 40) (nc + 4) (ns + 101) μ2 → X kL_law (some (L, xs)) 1196 (xl [(0, .ref 0), (1, .ref 1), (2, .ref 44), (3, .int (nI i))]) [] μ2 Q) : X kL_law (some (L, xs)) 673 (xl [(0, .ref 0), (1, .ref 1), (2, .ref 44), (3, .int (nI i))]) [] μ Q := by
  refine X.aload_n dL_law_673 rfl ?_
  refine X.aload_n dL_law_674 rfl ?_
  refine X.iload_n dL_law_675 rfl ?_
  refine X.iconst (v := 1) dL_law_676 (by decide) ?_
  refine X.iadd dL_law_677 ?_
  refine X.sld (i := i + 1) dL_law_678 (ixs rfl) (by omega) (by omega) ?_
  refine X.aload_n dL_law_679 rfl ?_
  refine X.iload_n dL_law_680 rfl ?_
  refine X.iconst (v := 2) dL_law_681 (by decide) ?_
  refine X.iadd dL_law_682 ?_
  refine X.sld (i := i + 2) dL_law_683 (ixs rfl) (by omega) (by omega) ?_
  refine X.aload_n dL_law_684 rfl ?_
  refine X.iload_n dL_law_685 rfl ?_
  refine X.iconst (v := 3) dL_law_686 (by decide) ?_
  refine X.iadd dL_law_687 ?_
  refine X.sld (i := i + 3) dL_law_688 (ixs rfl) (by omega) (by omega) ?_
  refine X.cV3i (k' := kX4_cable) dL_law_689 (hG.shp) ⟨by decide, rfl⟩ v_X4_cable wm_L_70 wi_X4_cable ws_X4_cable ⟨Nat.le_of_ble_eq_true rfl, Nat.le_of_ble_eq_true rfl⟩ n_X4_cable (Nat.le_of_ble_eq_true rfl) ?_
  refine Mt.mono (a_cable hG) (fun r μ1 h => ?_)
  obtain ⟨v, rfl, h44, h⟩ := h
  refine ⟨v, rfl, ?_⟩
  refine X.aload_n dL_law_692 rfl ?_
  refine X.aload_n dL_law_693 rfl ?_
  refine X.iload_n dL_law_694 rfl ?_
  refine X.iconst (v := 1) dL_law_695 (by decide) ?_
  refine X.iadd dL_law_696 ?_
  refine X.sld (i := i + 1) dL_law_697 (ixs rfl) (by omega) (by omega) ?_
  refine X.aload_n dL_law_698 rfl ?_
  refine X.iload_n dL_law_699 rfl ?_
  refine X.iconst (v := 2) dL_law_700 (by decide) ?_
  refine X.iadd dL_law_701 ?_
  refine X.sld (i := i + 2) dL_law_702 (ixs rfl) (by omega) (by omega) ?_
  refine X.aload_n dL_law_703 rfl ?_
  refine X.iload_n dL_law_704 rfl ?_
  refine X.iconst (v := 3) dL_law_705 (by decide) ?_
  refine X.iadd dL_law_706 ?_
  refine X.sld (i := i + 3) dL_law_707 (ixs rfl) (by omega) (by omega) ?_
  refine X.cV3i (k' := kX5_cable) dL_law_708 (h44) ⟨by decide, rfl⟩ v_X5_cable wm_L_73 wi_X5_cable ws_X5_cable ⟨Nat.le_of_ble_eq_true rfl, Nat.le_of_ble_eq_true rfl⟩ n_X5_cable (Nat.le_of_ble_eq_true rfl) ?_
  refine Mt.mono h (fun r' μ2 h2 => ?_)
  obtain ⟨rfl, hG2⟩ := h2
  refine ⟨v, rfl, ?_⟩
  refine X.icmp_eq_t (tgt := 1196) dL_law_711 (by decide) rfl ?_
  exact K μ2 hG2
set_option maxRecDepth 100000 in
set_option maxHeartbeats 4000000 in
theorem law_c13 {L i nf nc ns : Nat} {xs : Nat → Int32} {μ : xM} {Q : Option Value → xM → Prop} (hL : L ≤ 3072) (hi : i + 6 ≤ L) (hG : GG nf nc ns μ) (hf : nf + 40 < 2 ^ 30) (K : ∀ μ2, GG (nf + 40) (nc + 4) (ns + 101) μ2 → X kL_law (some (L, xs)) 1196 (xl [(0, .ref 0), (1, .ref 1), (2, .ref 44), (3, .int (nI i))]) [] μ2 Q) : X kL_law (some (L, xs)) 716 (xl [(0, .ref 0), (1, .ref 1), (2, .ref 44), (3, .int (nI i))]) [] μ Q := by
  refine X.aload_n dL_law_716 rfl ?_
  refine X.aload_n dL_law_717 rfl ?_
  refine X.iload_n dL_law_718 rfl ?_
  refine X.iconst (v := 1) dL_law_719 (by decide) ?_
  refine X.iadd dL_law_720 ?_
  refine X.sld (i := i + 1) dL_law_721 (ixs rfl) (by omega) (by omega) ?_
  refine X.aload_n dL_law_722 rfl ?_
  refine X.iload_n dL_law_723 rfl ?_
  refine X.iconst (v := 2) dL_law_724 (by decide) ?_
  refine X.iadd dL_law_725 ?_
  refine X.sld (i := i + 2) dL_law_726 (ixs rfl) (by omega) (by omega) ?_
  refine X.cV2i (k' := kX4_patience) dL_law_727 (hG.shp) ⟨by decide, rfl⟩ v_X4_patience wm_L_74 wi_X4_patience ws_X4_patience ⟨Nat.le_of_ble_eq_true rfl, Nat.le_of_ble_eq_true rfl⟩ n_X4_patience (Nat.le_of_ble_eq_true rfl) ?_
  refine Mt.mono (a_patience hG) (fun r μ1 h => ?_)
  obtain ⟨v, rfl, h44, h⟩ := h
  refine ⟨v, rfl, ?_⟩
  refine X.aload_n dL_law_730 rfl ?_
  refine X.aload_n dL_law_731 rfl ?_
  refine X.iload_n dL_law_732 rfl ?_
  refine X.iconst (v := 1) dL_law_733 (by decide) ?_
  refine X.iadd dL_law_734 ?_
  refine X.sld (i := i + 1) dL_law_735 (ixs rfl) (by omega) (by omega) ?_
  refine X.aload_n dL_law_736 rfl ?_
  refine X.iload_n dL_law_737 rfl ?_
  refine X.iconst (v := 2) dL_law_738 (by decide) ?_
  refine X.iadd dL_law_739 ?_
  refine X.sld (i := i + 2) dL_law_740 (ixs rfl) (by omega) (by omega) ?_
  refine X.cV2i (k' := kX5_patience) dL_law_741 (h44) ⟨by decide, rfl⟩ v_X5_patience wm_L_77 wi_X5_patience ws_X5_patience ⟨Nat.le_of_ble_eq_true rfl, Nat.le_of_ble_eq_true rfl⟩ n_X5_patience (Nat.le_of_ble_eq_true rfl) ?_
  refine Mt.mono h (fun r' μ2 h2 => ?_)
  obtain ⟨rfl, hG2⟩ := h2
  refine ⟨v, rfl, ?_⟩
  refine X.icmp_eq_t (tgt := 1196) dL_law_744 (by decide) rfl ?_
  exact K μ2 hG2
set_option maxRecDepth 100000 in
set_option maxHeartbeats 4000000 in
theorem law_c14 {L i nf nc ns : Nat} {xs : Nat → Int32} {μ : xM} {Q : Option Value → xM → Prop} (hL : L ≤ 3072) (hi : i + 6 ≤ L) (hG : GG nf nc ns μ) (hf : nf + 40 < 2 ^ 30) (K : ∀ μ2, GG (nf + 40) (nc + 4) (ns + 101) μ2 → X kL_law (some (L, xs)) 1196 (xl [(0, .ref 0), (1, .ref 1), (2, .ref 44), (3, .int (nI i))]) [] μ2 Q) : X kL_law (some (L, xs)) 749 (xl [(0, .ref 0), (1, .ref 1), (2, .ref 44), (3, .int (nI i))]) [] μ Q := by
  refine X.aload_n dL_law_749 rfl ?_
  refine X.aload_n dL_law_750 rfl ?_
  refine X.iload_n dL_law_751 rfl ?_
  refine X.iconst (v := 1) dL_law_752 (by decide) ?_
  refine X.iadd dL_law_753 ?_
  refine X.sld (i := i + 1) dL_law_754 (ixs rfl) (by omega) (by omega) ?_
  refine X.cV1i (k' := kX4_pull) dL_law_755 (hG.shp) ⟨by decide, rfl⟩ v_X4_pull wm_L_78 wi_X4_pull ws_X4_pull ⟨Nat.le_of_ble_eq_true rfl, Nat.le_of_ble_eq_true rfl⟩ n_X4_pull (Nat.le_of_ble_eq_true rfl) ?_
  refine Mt.mono (a_pull hG) (fun r μ1 h => ?_)
  obtain ⟨v, rfl, h44, h⟩ := h
  refine ⟨v, rfl, ?_⟩
  refine X.aload_n dL_law_758 rfl ?_
  refine X.aload_n dL_law_759 rfl ?_
  refine X.iload_n dL_law_760 rfl ?_
  refine X.iconst (v := 1) dL_law_761 (by decide) ?_
  refine X.iadd dL_law_762 ?_
  refine X.sld (i := i + 1) dL_law_763 (ixs rfl) (by omega) (by omega) ?_
  refine X.cV1i (k' := kX5_pull) dL_law_764 (h44) ⟨by decide, rfl⟩ v_X5_pull wm_L_81 wi_X5_pull ws_X5_pull ⟨Nat.le_of_ble_eq_true rfl, Nat.le_of_ble_eq_true rfl⟩ n_X5_pull (Nat.le_of_ble_eq_true rfl) ?_
  refine Mt.mono h (fun r' μ2 h2 => ?_)
  obtain ⟨rfl, hG2⟩ := h2
  refine ⟨v, rfl, ?_⟩
  refine X.icmp_eq_t (tgt := 1196) dL_law_767 (by decide) rfl ?_
  exact K μ2 hG2
set_option maxRecDepth 100000 in
set_option maxHeartbeats 4000000 in
theorem law_c15 {L i nf nc ns : Nat} {xs : Nat → Int32} {μ : xM} {Q : Option Value → xM → Prop} (hL : L ≤ 3072) (hi : i + 6 ≤ L) (hG : GG nf nc ns μ) (hf : nf + 40 < 2 ^ 30) (K : ∀ μ2, GG (nf + 40) (nc + 4) (ns + 101) μ2 → X kL_law (some (L, xs)) 1196 (xl [(0, .ref 0), (1, .ref 1), (2, .ref 44), (3, .int (nI i))]) [] μ2 Q) : X kL_law (some (L, xs)) 772 (xl [(0, .ref 0), (1, .ref 1), (2, .ref 44), (3, .int (nI i))]) [] μ Q := by
  refine X.aload_n dL_law_772 rfl ?_
  refine X.aload_n dL_law_773 rfl ?_
  refine X.iload_n dL_law_774 rfl ?_
  refine X.iconst (v := 1) dL_law_775 (by decide) ?_
  refine X.iadd dL_law_776 ?_
  refine X.sld (i := i + 1) dL_law_777 (ixs rfl) (by omega) (by omega) ?_
  refine X.cV1i (k' := kX4_plugIn) dL_law_778 (hG.shp) ⟨by decide, rfl⟩ v_X4_plugIn wm_L_82 wi_X4_plugIn ws_X4_plugIn ⟨Nat.le_of_ble_eq_true rfl, Nat.le_of_ble_eq_true rfl⟩ n_X4_plugIn (Nat.le_of_ble_eq_true rfl) ?_
  refine Mt.mono (a_plugIn hG) (fun r μ1 h => ?_)
  obtain ⟨v, rfl, h44, h⟩ := h
  refine ⟨v, rfl, ?_⟩
  refine X.aload_n dL_law_781 rfl ?_
  refine X.aload_n dL_law_782 rfl ?_
  refine X.iload_n dL_law_783 rfl ?_
  refine X.iconst (v := 1) dL_law_784 (by decide) ?_
  refine X.iadd dL_law_785 ?_
  refine X.sld (i := i + 1) dL_law_786 (ixs rfl) (by omega) (by omega) ?_
  refine X.cV1i (k' := kX5_plugIn) dL_law_787 (h44) ⟨by decide, rfl⟩ v_X5_plugIn wm_L_85 wi_X5_plugIn ws_X5_plugIn ⟨Nat.le_of_ble_eq_true rfl, Nat.le_of_ble_eq_true rfl⟩ n_X5_plugIn (Nat.le_of_ble_eq_true rfl) ?_
  refine Mt.mono h (fun r' μ2 h2 => ?_)
  obtain ⟨rfl, hG2⟩ := h2
  refine ⟨v, rfl, ?_⟩
  refine X.icmp_eq_t (tgt := 1196) dL_law_790 (by decide) rfl ?_
  exact K μ2 hG2
set_option maxRecDepth 100000 in
set_option maxHeartbeats 4000000 in
theorem law_c16 {L i nf nc ns : Nat} {xs : Nat → Int32} {μ : xM} {Q : Option Value → xM → Prop} (hL : L ≤ 3072) (hi : i + 6 ≤ L) (hG : GG nf nc ns μ) (hf : nf + 40 < 2 ^ 30) (K : ∀ μ2, GG (nf + 40) (nc + 4) (ns + 101) μ2 → X kL_law (some (L, xs)) 1196 (xl [(0, .ref 0), (1, .ref 1), (2, .ref 44), (3, .int (nI i))]) [] μ2 Q) : X kL_law (some (L, xs)) 795 (xl [(0, .ref 0), (1, .ref 1), (2, .ref 44), (3, .int (nI i))]) [] μ Q := by
  refine X.aload_n dL_law_795 rfl ?_
  refine X.cV0i (k' := kX4_tick) dL_law_796 (hG.shp) ⟨by decide, rfl⟩ v_X4_tick wm_L_86 wi_X4_tick ws_X4_tick ⟨Nat.le_of_ble_eq_true rfl, Nat.le_of_ble_eq_true rfl⟩ n_X4_tick (Nat.le_of_ble_eq_true rfl) ?_
  refine Mt.mono (a_tick hG hf) (fun r μ1 h => ?_)
  obtain ⟨v, rfl, h44, h⟩ := h
  refine ⟨v, rfl, ?_⟩
  refine X.aload_n dL_law_799 rfl ?_
  refine X.cV0i (k' := kX5_tick) dL_law_800 (h44) ⟨by decide, rfl⟩ v_X5_tick wm_L_90 wi_X5_tick ws_X5_tick ⟨Nat.le_of_ble_eq_true rfl, Nat.le_of_ble_eq_true rfl⟩ n_X5_tick (Nat.le_of_ble_eq_true rfl) ?_
  refine Mt.mono h (fun r' μ2 h2 => ?_)
  obtain ⟨rfl, hG2⟩ := h2
  refine ⟨v, rfl, ?_⟩
  refine X.icmp_eq_t (tgt := 1196) dL_law_803 (by decide) rfl ?_
  exact K μ2 hG2
set_option maxRecDepth 100000 in
set_option maxHeartbeats 4000000 in
theorem law_c17 {L i nf nc ns : Nat} {xs : Nat → Int32} {μ : xM} {Q : Option Value → xM → Prop} (hL : L ≤ 3072) (hi : i + 6 ≤ L) (hG : GG nf nc ns μ) (hf : nf + 40 < 2 ^ 30) (K : ∀ μ2, GG (nf + 40) (nc + 4) (ns + 101) μ2 → X kL_law (some (L, xs)) 1196 (xl [(0, .ref 0), (1, .ref 1), (2, .ref 44), (3, .int (nI i))]) [] μ2 Q) : X kL_law (some (L, xs)) 808 (xl [(0, .ref 0), (1, .ref 1), (2, .ref 44), (3, .int (nI i))]) [] μ Q := by
  refine X.aload_n dL_law_808 rfl ?_
  refine X.aload_n dL_law_809 rfl ?_
  refine X.iload_n dL_law_810 rfl ?_
  refine X.iconst (v := 1) dL_law_811 (by decide) ?_
  refine X.iadd dL_law_812 ?_
  refine X.sld (i := i + 1) dL_law_813 (ixs rfl) (by omega) (by omega) ?_
  refine X.aload_n dL_law_814 rfl ?_
  refine X.iload_n dL_law_815 rfl ?_
  refine X.iconst (v := 2) dL_law_816 (by decide) ?_
  refine X.iadd dL_law_817 ?_
  refine X.sld (i := i + 2) dL_law_818 (ixs rfl) (by omega) (by omega) ?_
  refine X.aload_n dL_law_819 rfl ?_
  refine X.iload_n dL_law_820 rfl ?_
  refine X.iconst (v := 3) dL_law_821 (by decide) ?_
  refine X.iadd dL_law_822 ?_
  refine X.sld (i := i + 3) dL_law_823 (ixs rfl) (by omega) (by omega) ?_
  refine X.aload_n dL_law_824 rfl ?_
  refine X.iload_n dL_law_825 rfl ?_
  refine X.iconst (v := 4) dL_law_826 (by decide) ?_
  refine X.iadd dL_law_827 ?_
  refine X.sld (i := i + 4) dL_law_828 (ixs rfl) (by omega) (by omega) ?_
  refine X.aload_n dL_law_829 rfl ?_
  refine X.iload_n dL_law_830 rfl ?_
  refine X.iconst (v := 5) dL_law_831 (by decide) ?_
  refine X.iadd dL_law_832 ?_
  refine X.sld (i := i + 5) dL_law_833 (ixs rfl) (by omega) (by omega) ?_
  refine X.cV5i (k' := kX4_splice) dL_law_834 (hG.shp) ⟨by decide, rfl⟩ v_X4_splice wm_L_91 wi_X4_splice ws_X4_splice ⟨Nat.le_of_ble_eq_true rfl, Nat.le_of_ble_eq_true rfl⟩ n_X4_splice (Nat.le_of_ble_eq_true rfl) ?_
  refine Mt.mono (a_splice hG) (fun r μ1 h => ?_)
  obtain ⟨v, rfl, h44, h⟩ := h
  refine ⟨v, rfl, ?_⟩
  refine X.aload_n dL_law_837 rfl ?_
  refine X.aload_n dL_law_838 rfl ?_
  refine X.iload_n dL_law_839 rfl ?_
  refine X.iconst (v := 1) dL_law_840 (by decide) ?_
  refine X.iadd dL_law_841 ?_
  refine X.sld (i := i + 1) dL_law_842 (ixs rfl) (by omega) (by omega) ?_
  refine X.aload_n dL_law_843 rfl ?_
  refine X.iload_n dL_law_844 rfl ?_
  refine X.iconst (v := 2) dL_law_845 (by decide) ?_
  refine X.iadd dL_law_846 ?_
  refine X.sld (i := i + 2) dL_law_847 (ixs rfl) (by omega) (by omega) ?_
  refine X.aload_n dL_law_848 rfl ?_
  refine X.iload_n dL_law_849 rfl ?_
  refine X.iconst (v := 3) dL_law_850 (by decide) ?_
  refine X.iadd dL_law_851 ?_
  refine X.sld (i := i + 3) dL_law_852 (ixs rfl) (by omega) (by omega) ?_
  refine X.aload_n dL_law_853 rfl ?_
  refine X.iload_n dL_law_854 rfl ?_
  refine X.iconst (v := 4) dL_law_855 (by decide) ?_
  refine X.iadd dL_law_856 ?_
  refine X.sld (i := i + 4) dL_law_857 (ixs rfl) (by omega) (by omega) ?_
  refine X.aload_n dL_law_858 rfl ?_
  refine X.iload_n dL_law_859 rfl ?_
  refine X.iconst (v := 5) dL_law_860 (by decide) ?_
  refine X.iadd dL_law_861 ?_
  refine X.sld (i := i + 5) dL_law_862 (ixs rfl) (by omega) (by omega) ?_
  refine X.cV5i (k' := kX5_splice) dL_law_863 (h44) ⟨by decide, rfl⟩ v_X5_splice wm_L_95 wi_X5_splice ws_X5_splice ⟨Nat.le_of_ble_eq_true rfl, Nat.le_of_ble_eq_true rfl⟩ n_X5_splice (Nat.le_of_ble_eq_true rfl) ?_
  refine Mt.mono h (fun r' μ2 h2 => ?_)
  obtain ⟨rfl, hG2⟩ := h2
  refine ⟨v, rfl, ?_⟩
  refine X.icmp_eq_t (tgt := 1196) dL_law_866 (by decide) rfl ?_
  exact K μ2 hG2
set_option maxRecDepth 100000 in
set_option maxHeartbeats 4000000 in
theorem law_c18 {L i nf nc ns : Nat} {xs : Nat → Int32} {μ : xM} {Q : Option Value → xM → Prop} (hL : L ≤ 3072) (hi : i + 6 ≤ L) (hG : GG nf nc ns μ) (hf : nf + 40 < 2 ^ 30) (K : ∀ μ2, GG (nf + 40) (nc + 4) (ns + 101) μ2 → X kL_law (some (L, xs)) 1196 (xl [(0, .ref 0), (1, .ref 1), (2, .ref 44), (3, .int (nI i))]) [] μ2 Q) : X kL_law (some (L, xs)) 871 (xl [(0, .ref 0), (1, .ref 1), (2, .ref 44), (3, .int (nI i))]) [] μ Q := by
  refine X.aload_n dL_law_871 rfl ?_
  refine X.aload_n dL_law_872 rfl ?_
  refine X.iload_n dL_law_873 rfl ?_
  refine X.iconst (v := 1) dL_law_874 (by decide) ?_
  refine X.iadd dL_law_875 ?_
  refine X.sld (i := i + 1) dL_law_876 (ixs rfl) (by omega) (by omega) ?_
  refine X.aload_n dL_law_877 rfl ?_
  refine X.iload_n dL_law_878 rfl ?_
  refine X.iconst (v := 2) dL_law_879 (by decide) ?_
  refine X.iadd dL_law_880 ?_
  refine X.sld (i := i + 2) dL_law_881 (ixs rfl) (by omega) (by omega) ?_
  refine X.aload_n dL_law_882 rfl ?_
  refine X.iload_n dL_law_883 rfl ?_
  refine X.iconst (v := 3) dL_law_884 (by decide) ?_
  refine X.iadd dL_law_885 ?_
  refine X.sld (i := i + 3) dL_law_886 (ixs rfl) (by omega) (by omega) ?_
  refine X.cV3i (k' := kX4_dub) dL_law_887 (hG.shp) ⟨by decide, rfl⟩ v_X4_dub wm_L_96 wi_X4_dub ws_X4_dub ⟨Nat.le_of_ble_eq_true rfl, Nat.le_of_ble_eq_true rfl⟩ n_X4_dub (Nat.le_of_ble_eq_true rfl) ?_
  refine Mt.mono (a_dub hG) (fun r μ1 h => ?_)
  obtain ⟨v, rfl, h44, h⟩ := h
  refine ⟨v, rfl, ?_⟩
  refine X.aload_n dL_law_890 rfl ?_
  refine X.aload_n dL_law_891 rfl ?_
  refine X.iload_n dL_law_892 rfl ?_
  refine X.iconst (v := 1) dL_law_893 (by decide) ?_
  refine X.iadd dL_law_894 ?_
  refine X.sld (i := i + 1) dL_law_895 (ixs rfl) (by omega) (by omega) ?_
  refine X.aload_n dL_law_896 rfl ?_
  refine X.iload_n dL_law_897 rfl ?_
  refine X.iconst (v := 2) dL_law_898 (by decide) ?_
  refine X.iadd dL_law_899 ?_
  refine X.sld (i := i + 2) dL_law_900 (ixs rfl) (by omega) (by omega) ?_
  refine X.aload_n dL_law_901 rfl ?_
  refine X.iload_n dL_law_902 rfl ?_
  refine X.iconst (v := 3) dL_law_903 (by decide) ?_
  refine X.iadd dL_law_904 ?_
  refine X.sld (i := i + 3) dL_law_905 (ixs rfl) (by omega) (by omega) ?_
  refine X.cV3i (k' := kX5_dub) dL_law_906 (h44) ⟨by decide, rfl⟩ v_X5_dub wm_L_99 wi_X5_dub ws_X5_dub ⟨Nat.le_of_ble_eq_true rfl, Nat.le_of_ble_eq_true rfl⟩ n_X5_dub (Nat.le_of_ble_eq_true rfl) ?_
  refine Mt.mono h (fun r' μ2 h2 => ?_)
  obtain ⟨rfl, hG2⟩ := h2
  refine ⟨v, rfl, ?_⟩
  refine X.icmp_eq_t (tgt := 1196) dL_law_909 (by decide) rfl ?_
  exact K μ2 hG2
set_option maxRecDepth 100000 in
set_option maxHeartbeats 4000000 in
theorem law_c19 {L i nf nc ns : Nat} {xs : Nat → Int32} {μ : xM} {Q : Option Value → xM → Prop} (hL : L ≤ 3072) (hi : i + 6 ≤ L) (hG : GG nf nc ns μ) (hf : nf + 40 < 2 ^ 30) (K : ∀ μ2, GG (nf + 40) (nc + 4) (ns + 101) μ2 → X kL_law (some (L, xs)) 1196 (xl [(0, .ref 0), (1, .ref 1), (2, .ref 44), (3, .int (nI i))]) [] μ2 Q) : X kL_law (some (L, xs)) 914 (xl [(0, .ref 0), (1, .ref 1), (2, .ref 44), (3, .int (nI i))]) [] μ Q := by
  refine X.aload_n dL_law_914 rfl ?_
  refine X.aload_n dL_law_915 rfl ?_
  refine X.iload_n dL_law_916 rfl ?_
  refine X.iconst (v := 1) dL_law_917 (by decide) ?_
  refine X.iadd dL_law_918 ?_
  refine X.sld (i := i + 1) dL_law_919 (ixs rfl) (by omega) (by omega) ?_
  refine X.cV1l (k' := kX4_sum) dL_law_920 (hG.shp) ⟨by decide, rfl⟩ v_X4_sum wm_L_100 wi_X4_sum ws_X4_sum ⟨Nat.le_of_ble_eq_true rfl, Nat.le_of_ble_eq_true rfl⟩ n_X4_sum (Nat.le_of_ble_eq_true rfl) ?_
  refine Mt.mono (a_sum hG) (fun r μ1 h => ?_)
  obtain ⟨v, rfl, h44, h⟩ := h
  refine ⟨v, rfl, ?_⟩
  refine X.aload_n dL_law_923 rfl ?_
  refine X.aload_n dL_law_924 rfl ?_
  refine X.iload_n dL_law_925 rfl ?_
  refine X.iconst (v := 1) dL_law_926 (by decide) ?_
  refine X.iadd dL_law_927 ?_
  refine X.sld (i := i + 1) dL_law_928 (ixs rfl) (by omega) (by omega) ?_
  refine X.cV1l (k' := kX5_sum) dL_law_929 (h44) ⟨by decide, rfl⟩ v_X5_sum wm_L_104 wi_X5_sum ws_X5_sum ⟨Nat.le_of_ble_eq_true rfl, Nat.le_of_ble_eq_true rfl⟩ n_X5_sum (Nat.le_of_ble_eq_true rfl) ?_
  refine Mt.mono h (fun r' μ2 h2 => ?_)
  obtain ⟨rfl, hG2⟩ := h2
  refine ⟨v, rfl, ?_⟩
  refine X.lcmp dL_law_932 ?_
  refine X.if_eq_t (tgt := 1196) dL_law_933 (by decide) (lgc_eq rfl) ?_
  exact K μ2 hG2
set_option maxRecDepth 100000 in
set_option maxHeartbeats 4000000 in
theorem law_c20 {L i nf nc ns : Nat} {xs : Nat → Int32} {μ : xM} {Q : Option Value → xM → Prop} (hL : L ≤ 3072) (hi : i + 6 ≤ L) (hG : GG nf nc ns μ) (hf : nf + 40 < 2 ^ 30) (K : ∀ μ2, GG (nf + 40) (nc + 4) (ns + 101) μ2 → X kL_law (some (L, xs)) 1196 (xl [(0, .ref 0), (1, .ref 1), (2, .ref 44), (3, .int (nI i))]) [] μ2 Q) : X kL_law (some (L, xs)) 938 (xl [(0, .ref 0), (1, .ref 1), (2, .ref 44), (3, .int (nI i))]) [] μ Q := by
  refine X.aload_n dL_law_938 rfl ?_
  refine X.aload_n dL_law_939 rfl ?_
  refine X.iload_n dL_law_940 rfl ?_
  refine X.iconst (v := 1) dL_law_941 (by decide) ?_
  refine X.iadd dL_law_942 ?_
  refine X.sld (i := i + 1) dL_law_943 (ixs rfl) (by omega) (by omega) ?_
  refine X.aload_n dL_law_944 rfl ?_
  refine X.iload_n dL_law_945 rfl ?_
  refine X.iconst (v := 2) dL_law_946 (by decide) ?_
  refine X.iadd dL_law_947 ?_
  refine X.sld (i := i + 2) dL_law_948 (ixs rfl) (by omega) (by omega) ?_
  refine X.cV2i (k' := kX4_match) dL_law_949 (hG.shp) ⟨by decide, rfl⟩ v_X4_match wm_L_105 wi_X4_match ws_X4_match ⟨Nat.le_of_ble_eq_true rfl, Nat.le_of_ble_eq_true rfl⟩ n_X4_match (Nat.le_of_ble_eq_true rfl) ?_
  refine Mt.mono (a_match hG) (fun r μ1 h => ?_)
  obtain ⟨v, rfl, h44, h⟩ := h
  refine ⟨v, rfl, ?_⟩
  refine X.aload_n dL_law_952 rfl ?_
  refine X.aload_n dL_law_953 rfl ?_
  refine X.iload_n dL_law_954 rfl ?_
  refine X.iconst (v := 1) dL_law_955 (by decide) ?_
  refine X.iadd dL_law_956 ?_
  refine X.sld (i := i + 1) dL_law_957 (ixs rfl) (by omega) (by omega) ?_
  refine X.aload_n dL_law_958 rfl ?_
  refine X.iload_n dL_law_959 rfl ?_
  refine X.iconst (v := 2) dL_law_960 (by decide) ?_
  refine X.iadd dL_law_961 ?_
  refine X.sld (i := i + 2) dL_law_962 (ixs rfl) (by omega) (by omega) ?_
  refine X.cV2i (k' := kX5_match) dL_law_963 (h44) ⟨by decide, rfl⟩ v_X5_match wm_L_108 wi_X5_match ws_X5_match ⟨Nat.le_of_ble_eq_true rfl, Nat.le_of_ble_eq_true rfl⟩ n_X5_match (Nat.le_of_ble_eq_true rfl) ?_
  refine Mt.mono h (fun r' μ2 h2 => ?_)
  obtain ⟨rfl, hG2⟩ := h2
  refine ⟨v, rfl, ?_⟩
  refine X.icmp_eq_t (tgt := 1196) dL_law_966 (by decide) rfl ?_
  exact K μ2 hG2
set_option maxRecDepth 100000 in
set_option maxHeartbeats 4000000 in
theorem law_c21 {L i nf nc ns : Nat} {xs : Nat → Int32} {μ : xM} {Q : Option Value → xM → Prop} (hL : L ≤ 3072) (hi : i + 6 ≤ L) (hG : GG nf nc ns μ) (hf : nf + 40 < 2 ^ 30) (K : ∀ μ2, GG (nf + 40) (nc + 4) (ns + 101) μ2 → X kL_law (some (L, xs)) 1196 (xl [(0, .ref 0), (1, .ref 1), (2, .ref 44), (3, .int (nI i))]) [] μ2 Q) : X kL_law (some (L, xs)) 971 (xl [(0, .ref 0), (1, .ref 1), (2, .ref 44), (3, .int (nI i))]) [] μ Q := by
  refine X.aload_n dL_law_971 rfl ?_
  refine X.cV0i (k' := kX4_why) dL_law_972 (hG.shp) ⟨by decide, rfl⟩ v_X4_why wm_L_109 wi_X4_why ws_X4_why ⟨Nat.le_of_ble_eq_true rfl, Nat.le_of_ble_eq_true rfl⟩ n_X4_why (Nat.le_of_ble_eq_true rfl) ?_
  refine Mt.mono (a_why hG) (fun r μ1 h => ?_)
  obtain ⟨v, rfl, h44, h⟩ := h
  refine ⟨v, rfl, ?_⟩
  refine X.aload_n dL_law_975 rfl ?_
  refine X.cV0i (k' := kX5_why) dL_law_976 (h44) ⟨by decide, rfl⟩ v_X5_why wm_L_112 wi_X5_why ws_X5_why ⟨Nat.le_of_ble_eq_true rfl, Nat.le_of_ble_eq_true rfl⟩ n_X5_why (Nat.le_of_ble_eq_true rfl) ?_
  refine Mt.mono h (fun r' μ2 h2 => ?_)
  obtain ⟨rfl, hG2⟩ := h2
  refine ⟨v, rfl, ?_⟩
  refine X.icmp_eq_t (tgt := 1196) dL_law_979 (by decide) rfl ?_
  exact K μ2 hG2
set_option maxRecDepth 100000 in
set_option maxHeartbeats 4000000 in
theorem law_c22 {L i nf nc ns : Nat} {xs : Nat → Int32} {μ : xM} {Q : Option Value → xM → Prop} (hL : L ≤ 3072) (hi : i + 6 ≤ L) (hG : GG nf nc ns μ) (hf : nf + 40 < 2 ^ 30) (K : ∀ μ2, GG (nf + 40) (nc + 4) (ns + 101) μ2 → X kL_law (some (L, xs)) 1196 (xl [(0, .ref 0), (1, .ref 1), (2, .ref 44), (3, .int (nI i))]) [] μ2 Q) : X kL_law (some (L, xs)) 984 (xl [(0, .ref 0), (1, .ref 1), (2, .ref 44), (3, .int (nI i))]) [] μ Q := by
  refine X.aload_n dL_law_984 rfl ?_
  refine X.aload_n dL_law_985 rfl ?_
  refine X.iload_n dL_law_986 rfl ?_
  refine X.iconst (v := 1) dL_law_987 (by decide) ?_
  refine X.iadd dL_law_988 ?_
  refine X.sld (i := i + 1) dL_law_989 (ixs rfl) (by omega) (by omega) ?_
  refine X.aload_n dL_law_990 rfl ?_
  refine X.iload_n dL_law_991 rfl ?_
  refine X.iconst (v := 2) dL_law_992 (by decide) ?_
  refine X.iadd dL_law_993 ?_
  refine X.sld (i := i + 2) dL_law_994 (ixs rfl) (by omega) (by omega) ?_
  refine X.cV2l (k' := kX4_number) dL_law_995 (hG.shp) ⟨by decide, rfl⟩ v_X4_number wm_L_113 wi_X4_number ws_X4_number ⟨Nat.le_of_ble_eq_true rfl, Nat.le_of_ble_eq_true rfl⟩ n_X4_number (Nat.le_of_ble_eq_true rfl) ?_
  refine Mt.mono (a_number hG) (fun r μ1 h => ?_)
  obtain ⟨v, rfl, h44, h⟩ := h
  refine ⟨v, rfl, ?_⟩
  refine X.aload_n dL_law_998 rfl ?_
  refine X.aload_n dL_law_999 rfl ?_
  refine X.iload_n dL_law_1000 rfl ?_
  refine X.iconst (v := 1) dL_law_1001 (by decide) ?_
  refine X.iadd dL_law_1002 ?_
  refine X.sld (i := i + 1) dL_law_1003 (ixs rfl) (by omega) (by omega) ?_
  refine X.aload_n dL_law_1004 rfl ?_
  refine X.iload_n dL_law_1005 rfl ?_
  refine X.iconst (v := 2) dL_law_1006 (by decide) ?_
  refine X.iadd dL_law_1007 ?_
  refine X.sld (i := i + 2) dL_law_1008 (ixs rfl) (by omega) (by omega) ?_
  refine X.cV2l (k' := kX5_number) dL_law_1009 (h44) ⟨by decide, rfl⟩ v_X5_number wm_L_117 wi_X5_number ws_X5_number ⟨Nat.le_of_ble_eq_true rfl, Nat.le_of_ble_eq_true rfl⟩ n_X5_number (Nat.le_of_ble_eq_true rfl) ?_
  refine Mt.mono h (fun r' μ2 h2 => ?_)
  obtain ⟨rfl, hG2⟩ := h2
  refine ⟨v, rfl, ?_⟩
  refine X.lcmp dL_law_1012 ?_
  refine X.if_eq_t (tgt := 1196) dL_law_1013 (by decide) (lgc_eq rfl) ?_
  exact K μ2 hG2
set_option maxRecDepth 100000 in
set_option maxHeartbeats 4000000 in
theorem law_c23 {L i nf nc ns : Nat} {xs : Nat → Int32} {μ : xM} {Q : Option Value → xM → Prop} (hL : L ≤ 3072) (hi : i + 6 ≤ L) (hG : GG nf nc ns μ) (hf : nf + 40 < 2 ^ 30) (K : ∀ μ2, GG (nf + 40) (nc + 4) (ns + 101) μ2 → X kL_law (some (L, xs)) 1196 (xl [(0, .ref 0), (1, .ref 1), (2, .ref 44), (3, .int (nI i))]) [] μ2 Q) : X kL_law (some (L, xs)) 1018 (xl [(0, .ref 0), (1, .ref 1), (2, .ref 44), (3, .int (nI i))]) [] μ Q := by
  refine X.aload_n dL_law_1018 rfl ?_
  refine X.aload_n dL_law_1019 rfl ?_
  refine X.iload_n dL_law_1020 rfl ?_
  refine X.iconst (v := 1) dL_law_1021 (by decide) ?_
  refine X.iadd dL_law_1022 ?_
  refine X.sld (i := i + 1) dL_law_1023 (ixs rfl) (by omega) (by omega) ?_
  refine X.aload_n dL_law_1024 rfl ?_
  refine X.iload_n dL_law_1025 rfl ?_
  refine X.iconst (v := 2) dL_law_1026 (by decide) ?_
  refine X.iadd dL_law_1027 ?_
  refine X.sld (i := i + 2) dL_law_1028 (ixs rfl) (by omega) (by omega) ?_
  refine X.cV2i (k' := kX4_kind) dL_law_1029 (hG.shp) ⟨by decide, rfl⟩ v_X4_kind wm_L_118 wi_X4_kind ws_X4_kind ⟨Nat.le_of_ble_eq_true rfl, Nat.le_of_ble_eq_true rfl⟩ n_X4_kind (Nat.le_of_ble_eq_true rfl) ?_
  refine Mt.mono (a_kind hG) (fun r μ1 h => ?_)
  obtain ⟨v, rfl, h44, h⟩ := h
  refine ⟨v, rfl, ?_⟩
  refine X.aload_n dL_law_1032 rfl ?_
  refine X.aload_n dL_law_1033 rfl ?_
  refine X.iload_n dL_law_1034 rfl ?_
  refine X.iconst (v := 1) dL_law_1035 (by decide) ?_
  refine X.iadd dL_law_1036 ?_
  refine X.sld (i := i + 1) dL_law_1037 (ixs rfl) (by omega) (by omega) ?_
  refine X.aload_n dL_law_1038 rfl ?_
  refine X.iload_n dL_law_1039 rfl ?_
  refine X.iconst (v := 2) dL_law_1040 (by decide) ?_
  refine X.iadd dL_law_1041 ?_
  refine X.sld (i := i + 2) dL_law_1042 (ixs rfl) (by omega) (by omega) ?_
  refine X.cV2i (k' := kX5_kind) dL_law_1043 (h44) ⟨by decide, rfl⟩ v_X5_kind wm_L_121 wi_X5_kind ws_X5_kind ⟨Nat.le_of_ble_eq_true rfl, Nat.le_of_ble_eq_true rfl⟩ n_X5_kind (Nat.le_of_ble_eq_true rfl) ?_
  refine Mt.mono h (fun r' μ2 h2 => ?_)
  obtain ⟨rfl, hG2⟩ := h2
  refine ⟨v, rfl, ?_⟩
  refine X.icmp_eq_t (tgt := 1196) dL_law_1046 (by decide) rfl ?_
  exact K μ2 hG2
set_option maxRecDepth 100000 in
set_option maxHeartbeats 4000000 in
theorem law_c24 {L i nf nc ns : Nat} {xs : Nat → Int32} {μ : xM} {Q : Option Value → xM → Prop} (hL : L ≤ 3072) (hi : i + 6 ≤ L) (hG : GG nf nc ns μ) (hf : nf + 40 < 2 ^ 30) (K : ∀ μ2, GG (nf + 40) (nc + 4) (ns + 101) μ2 → X kL_law (some (L, xs)) 1196 (xl [(0, .ref 0), (1, .ref 1), (2, .ref 44), (3, .int (nI i))]) [] μ2 Q) : X kL_law (some (L, xs)) 1051 (xl [(0, .ref 0), (1, .ref 1), (2, .ref 44), (3, .int (nI i))]) [] μ Q := by
  refine X.aload_n dL_law_1051 rfl ?_
  refine X.aload_n dL_law_1052 rfl ?_
  refine X.iload_n dL_law_1053 rfl ?_
  refine X.iconst (v := 1) dL_law_1054 (by decide) ?_
  refine X.iadd dL_law_1055 ?_
  refine X.sld (i := i + 1) dL_law_1056 (ixs rfl) (by omega) (by omega) ?_
  refine X.cV1i (k' := kX4_cells) dL_law_1057 (hG.shp) ⟨by decide, rfl⟩ v_X4_cells wm_L_122 wi_X4_cells ws_X4_cells ⟨Nat.le_of_ble_eq_true rfl, Nat.le_of_ble_eq_true rfl⟩ n_X4_cells (Nat.le_of_ble_eq_true rfl) ?_
  refine Mt.mono (a_cells hG) (fun r μ1 h => ?_)
  obtain ⟨v, rfl, h44, h⟩ := h
  refine ⟨v, rfl, ?_⟩
  refine X.aload_n dL_law_1060 rfl ?_
  refine X.aload_n dL_law_1061 rfl ?_
  refine X.iload_n dL_law_1062 rfl ?_
  refine X.iconst (v := 1) dL_law_1063 (by decide) ?_
  refine X.iadd dL_law_1064 ?_
  refine X.sld (i := i + 1) dL_law_1065 (ixs rfl) (by omega) (by omega) ?_
  refine X.cV1i (k' := kX5_cells) dL_law_1066 (h44) ⟨by decide, rfl⟩ v_X5_cells wm_L_125 wi_X5_cells ws_X5_cells ⟨Nat.le_of_ble_eq_true rfl, Nat.le_of_ble_eq_true rfl⟩ n_X5_cells (Nat.le_of_ble_eq_true rfl) ?_
  refine Mt.mono h (fun r' μ2 h2 => ?_)
  obtain ⟨rfl, hG2⟩ := h2
  refine ⟨v, rfl, ?_⟩
  refine X.icmp_eq_t (tgt := 1196) dL_law_1069 (by decide) rfl ?_
  exact K μ2 hG2
set_option maxRecDepth 100000 in
set_option maxHeartbeats 4000000 in
theorem law_c25 {L i nf nc ns : Nat} {xs : Nat → Int32} {μ : xM} {Q : Option Value → xM → Prop} (hL : L ≤ 3072) (hi : i + 6 ≤ L) (hG : GG nf nc ns μ) (hf : nf + 40 < 2 ^ 30) (K : ∀ μ2, GG (nf + 40) (nc + 4) (ns + 101) μ2 → X kL_law (some (L, xs)) 1196 (xl [(0, .ref 0), (1, .ref 1), (2, .ref 44), (3, .int (nI i))]) [] μ2 Q) : X kL_law (some (L, xs)) 1074 (xl [(0, .ref 0), (1, .ref 1), (2, .ref 44), (3, .int (nI i))]) [] μ Q := by
  refine X.aload_n dL_law_1074 rfl ?_
  refine X.aload_n dL_law_1075 rfl ?_
  refine X.iload_n dL_law_1076 rfl ?_
  refine X.iconst (v := 1) dL_law_1077 (by decide) ?_
  refine X.iadd dL_law_1078 ?_
  refine X.sld (i := i + 1) dL_law_1079 (ixs rfl) (by omega) (by omega) ?_
  refine X.aload_n dL_law_1080 rfl ?_
  refine X.iload_n dL_law_1081 rfl ?_
  refine X.iconst (v := 2) dL_law_1082 (by decide) ?_
  refine X.iadd dL_law_1083 ?_
  refine X.sld (i := i + 2) dL_law_1084 (ixs rfl) (by omega) (by omega) ?_
  refine X.cV2i (k' := kX4_of) dL_law_1085 (hG.shp) ⟨by decide, rfl⟩ v_X4_of wm_L_126 wi_X4_of ws_X4_of ⟨Nat.le_of_ble_eq_true rfl, Nat.le_of_ble_eq_true rfl⟩ n_X4_of (Nat.le_of_ble_eq_true rfl) ?_
  refine Mt.mono (a_of hG) (fun r μ1 h => ?_)
  obtain ⟨v, rfl, h44, h⟩ := h
  refine ⟨v, rfl, ?_⟩
  refine X.aload_n dL_law_1088 rfl ?_
  refine X.aload_n dL_law_1089 rfl ?_
  refine X.iload_n dL_law_1090 rfl ?_
  refine X.iconst (v := 1) dL_law_1091 (by decide) ?_
  refine X.iadd dL_law_1092 ?_
  refine X.sld (i := i + 1) dL_law_1093 (ixs rfl) (by omega) (by omega) ?_
  refine X.aload_n dL_law_1094 rfl ?_
  refine X.iload_n dL_law_1095 rfl ?_
  refine X.iconst (v := 2) dL_law_1096 (by decide) ?_
  refine X.iadd dL_law_1097 ?_
  refine X.sld (i := i + 2) dL_law_1098 (ixs rfl) (by omega) (by omega) ?_
  refine X.cV2i (k' := kX5_of) dL_law_1099 (h44) ⟨by decide, rfl⟩ v_X5_of wm_L_129 wi_X5_of ws_X5_of ⟨Nat.le_of_ble_eq_true rfl, Nat.le_of_ble_eq_true rfl⟩ n_X5_of (Nat.le_of_ble_eq_true rfl) ?_
  refine Mt.mono h (fun r' μ2 h2 => ?_)
  obtain ⟨rfl, hG2⟩ := h2
  refine ⟨v, rfl, ?_⟩
  refine X.icmp_eq_t (tgt := 1196) dL_law_1102 (by decide) rfl ?_
  exact K μ2 hG2
set_option maxRecDepth 100000 in
set_option maxHeartbeats 4000000 in
theorem law_c26 {L i nf nc ns : Nat} {xs : Nat → Int32} {μ : xM} {Q : Option Value → xM → Prop} (hL : L ≤ 3072) (hi : i + 6 ≤ L) (hG : GG nf nc ns μ) (hf : nf + 40 < 2 ^ 30) (K : ∀ μ2, GG (nf + 40) (nc + 4) (ns + 101) μ2 → X kL_law (some (L, xs)) 1196 (xl [(0, .ref 0), (1, .ref 1), (2, .ref 44), (3, .int (nI i))]) [] μ2 Q) : X kL_law (some (L, xs)) 1107 (xl [(0, .ref 0), (1, .ref 1), (2, .ref 44), (3, .int (nI i))]) [] μ Q := by
  refine X.aload_n dL_law_1107 rfl ?_
  refine X.aload_n dL_law_1108 rfl ?_
  refine X.iload_n dL_law_1109 rfl ?_
  refine X.iconst (v := 1) dL_law_1110 (by decide) ?_
  refine X.iadd dL_law_1111 ?_
  refine X.sld (i := i + 1) dL_law_1112 (ixs rfl) (by omega) (by omega) ?_
  refine X.aload_n dL_law_1113 rfl ?_
  refine X.iload_n dL_law_1114 rfl ?_
  refine X.iconst (v := 2) dL_law_1115 (by decide) ?_
  refine X.iadd dL_law_1116 ?_
  refine X.sld (i := i + 2) dL_law_1117 (ixs rfl) (by omega) (by omega) ?_
  refine X.cV2i (k' := kX4_told) dL_law_1118 (hG.shp) ⟨by decide, rfl⟩ v_X4_told wm_L_130 wi_X4_told ws_X4_told ⟨Nat.le_of_ble_eq_true rfl, Nat.le_of_ble_eq_true rfl⟩ n_X4_told (Nat.le_of_ble_eq_true rfl) ?_
  refine Mt.mono (a_told hG) (fun r μ1 h => ?_)
  obtain ⟨v, rfl, h44, h⟩ := h
  refine ⟨v, rfl, ?_⟩
  refine X.aload_n dL_law_1121 rfl ?_
  refine X.aload_n dL_law_1122 rfl ?_
  refine X.iload_n dL_law_1123 rfl ?_
  refine X.iconst (v := 1) dL_law_1124 (by decide) ?_
  refine X.iadd dL_law_1125 ?_
  refine X.sld (i := i + 1) dL_law_1126 (ixs rfl) (by omega) (by omega) ?_
  refine X.aload_n dL_law_1127 rfl ?_
  refine X.iload_n dL_law_1128 rfl ?_
  refine X.iconst (v := 2) dL_law_1129 (by decide) ?_
  refine X.iadd dL_law_1130 ?_
  refine X.sld (i := i + 2) dL_law_1131 (ixs rfl) (by omega) (by omega) ?_
  refine X.cV2i (k' := kX5_told) dL_law_1132 (h44) ⟨by decide, rfl⟩ v_X5_told wm_L_133 wi_X5_told ws_X5_told ⟨Nat.le_of_ble_eq_true rfl, Nat.le_of_ble_eq_true rfl⟩ n_X5_told (Nat.le_of_ble_eq_true rfl) ?_
  refine Mt.mono h (fun r' μ2 h2 => ?_)
  obtain ⟨rfl, hG2⟩ := h2
  refine ⟨v, rfl, ?_⟩
  refine X.icmp_eq_t (tgt := 1196) dL_law_1135 (by decide) rfl ?_
  exact K μ2 hG2
set_option maxRecDepth 100000 in
set_option maxHeartbeats 4000000 in
theorem law_c27 {L i nf nc ns : Nat} {xs : Nat → Int32} {μ : xM} {Q : Option Value → xM → Prop} (hL : L ≤ 3072) (hi : i + 6 ≤ L) (hG : GG nf nc ns μ) (hf : nf + 40 < 2 ^ 30) (K : ∀ μ2, GG (nf + 40) (nc + 4) (ns + 101) μ2 → X kL_law (some (L, xs)) 1196 (xl [(0, .ref 0), (1, .ref 1), (2, .ref 44), (3, .int (nI i))]) [] μ2 Q) : X kL_law (some (L, xs)) 1140 (xl [(0, .ref 0), (1, .ref 1), (2, .ref 44), (3, .int (nI i))]) [] μ Q := by
  refine X.aload_n dL_law_1140 rfl ?_
  refine X.aload_n dL_law_1141 rfl ?_
  refine X.iload_n dL_law_1142 rfl ?_
  refine X.iconst (v := 1) dL_law_1143 (by decide) ?_
  refine X.iadd dL_law_1144 ?_
  refine X.sld (i := i + 1) dL_law_1145 (ixs rfl) (by omega) (by omega) ?_
  refine X.aload_n dL_law_1146 rfl ?_
  refine X.iload_n dL_law_1147 rfl ?_
  refine X.iconst (v := 2) dL_law_1148 (by decide) ?_
  refine X.iadd dL_law_1149 ?_
  refine X.sld (i := i + 2) dL_law_1150 (ixs rfl) (by omega) (by omega) ?_
  refine X.cV2i (k' := kX4_fault) dL_law_1151 (hG.shp) ⟨by decide, rfl⟩ v_X4_fault wm_L_134 wi_X4_fault ws_X4_fault ⟨Nat.le_of_ble_eq_true rfl, Nat.le_of_ble_eq_true rfl⟩ n_X4_fault (Nat.le_of_ble_eq_true rfl) ?_
  refine Mt.mono (a_fault hG hf) (fun r μ1 h => ?_)
  obtain ⟨v, rfl, h44, h⟩ := h
  refine ⟨v, rfl, ?_⟩
  refine X.aload_n dL_law_1154 rfl ?_
  refine X.aload_n dL_law_1155 rfl ?_
  refine X.iload_n dL_law_1156 rfl ?_
  refine X.iconst (v := 1) dL_law_1157 (by decide) ?_
  refine X.iadd dL_law_1158 ?_
  refine X.sld (i := i + 1) dL_law_1159 (ixs rfl) (by omega) (by omega) ?_
  refine X.aload_n dL_law_1160 rfl ?_
  refine X.iload_n dL_law_1161 rfl ?_
  refine X.iconst (v := 2) dL_law_1162 (by decide) ?_
  refine X.iadd dL_law_1163 ?_
  refine X.sld (i := i + 2) dL_law_1164 (ixs rfl) (by omega) (by omega) ?_
  refine X.cV2i (k' := kX5_fault) dL_law_1165 (h44) ⟨by decide, rfl⟩ v_X5_fault wm_L_137 wi_X5_fault ws_X5_fault ⟨Nat.le_of_ble_eq_true rfl, Nat.le_of_ble_eq_true rfl⟩ n_X5_fault (Nat.le_of_ble_eq_true rfl) ?_
  refine Mt.mono h (fun r' μ2 h2 => ?_)
  obtain ⟨rfl, hG2⟩ := h2
  refine ⟨v, rfl, ?_⟩
  refine X.icmp_eq_t (tgt := 1196) dL_law_1168 (by decide) rfl ?_
  exact K μ2 hG2
set_option maxRecDepth 100000 in
set_option maxHeartbeats 4000000 in
theorem law_c28 {L i nf nc ns : Nat} {xs : Nat → Int32} {μ : xM} {Q : Option Value → xM → Prop} (hL : L ≤ 3072) (hi : i + 6 ≤ L) (hG : GG nf nc ns μ) (hf : nf + 40 < 2 ^ 30) (K : ∀ μ2, GG (nf + 40) (nc + 4) (ns + 101) μ2 → X kL_law (some (L, xs)) 1196 (xl [(0, .ref 0), (1, .ref 1), (2, .ref 44), (3, .int (nI i))]) [] μ2 Q) : X kL_law (some (L, xs)) 1173 (xl [(0, .ref 0), (1, .ref 1), (2, .ref 44), (3, .int (nI i))]) [] μ Q := by
  refine X.aload_n dL_law_1173 rfl ?_
  refine X.aload_n dL_law_1174 rfl ?_
  refine X.iload_n dL_law_1175 rfl ?_
  refine X.iconst (v := 1) dL_law_1176 (by decide) ?_
  refine X.iadd dL_law_1177 ?_
  refine X.sld (i := i + 1) dL_law_1178 (ixs rfl) (by omega) (by omega) ?_
  refine X.cV1i (k' := kX4_count) dL_law_1179 (hG.shp) ⟨by decide, rfl⟩ v_X4_count wm_L_138 wi_X4_count ws_X4_count ⟨Nat.le_of_ble_eq_true rfl, Nat.le_of_ble_eq_true rfl⟩ n_X4_count (Nat.le_of_ble_eq_true rfl) ?_
  refine Mt.mono (a_count hG) (fun r μ1 h => ?_)
  obtain ⟨v, rfl, h44, h⟩ := h
  refine ⟨v, rfl, ?_⟩
  refine X.aload_n dL_law_1182 rfl ?_
  refine X.aload_n dL_law_1183 rfl ?_
  refine X.iload_n dL_law_1184 rfl ?_
  refine X.iconst (v := 1) dL_law_1185 (by decide) ?_
  refine X.iadd dL_law_1186 ?_
  refine X.sld (i := i + 1) dL_law_1187 (ixs rfl) (by omega) (by omega) ?_
  refine X.cV1i (k' := kX5_count) dL_law_1188 (h44) ⟨by decide, rfl⟩ v_X5_count wm_L_141 wi_X5_count ws_X5_count ⟨Nat.le_of_ble_eq_true rfl, Nat.le_of_ble_eq_true rfl⟩ n_X5_count (Nat.le_of_ble_eq_true rfl) ?_
  refine Mt.mono h (fun r' μ2 h2 => ?_)
  obtain ⟨rfl, hG2⟩ := h2
  refine ⟨v, rfl, ?_⟩
  refine X.icmp_eq_t (tgt := 1196) dL_law_1191 (by decide) rfl ?_
  exact K μ2 hG2

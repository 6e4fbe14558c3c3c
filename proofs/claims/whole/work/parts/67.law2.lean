set_option maxHeartbeats 4000000 in
set_option maxRecDepth 100000 in
theorem lw_feed (l : Launch) {Ln i : Nat} {xs : Nat → Int32} {G : PH} {σ : Sg} (hi : i + 5 ≤ Ln) (hL : Ln ≤ 2560) (kC : Cls G σ) (kM : Mod G σ) (hv : sVal σ) (ht : sTx σ) (kk : ∀ G' σ', Cls G' σ' → Mod G' σ' → sVal σ' → sTx σ' → WP mL_law l room_1 ZL (XL Ln xs) 181 14476 879 (LL i) [] G') : WP mL_law l room_1 ZL (XL Ln xs) 181 14476 144 (LL i) [] G := by
  refine P_aload_n dL_law_144 rfl ?_
  refine P_aload_nF dL_law_145 rfl ?_
  refine P_iload_n dL_law_146 rfl ?_
  refine P_iconst dL_law_147 ci_1 ?_
  refine P_iadd dL_law_148 ?_
  refine P_sld dL_law_149 (six (k := 1) hi hL (by decide)) ?_
  refine P_callV dL_law_150 lkL_13 okX9_feed ⟨Nat.le_of_ble_eq_true rfl, Nat.le_of_ble_eq_true rfl⟩ (c_feed l kC hv) rfl rfl kC.1 (Nat.le_of_ble_eq_true rfl) ⟨Nat.le_of_ble_eq_true rfl, Nat.le_of_ble_eq_true rfl⟩ (fun v150 G150 q150 => ?_)
  obtain ⟨rfl, kc, hF1⟩ := q150
  have km := kM.out hF1
  obtain ⟨om, fm, kO⟩ := id km
  refine P_aload_n dL_law_153 rfl ?_
  refine P_aload_nF dL_law_154 rfl ?_
  refine P_iload_n dL_law_155 rfl ?_
  refine P_iconst dL_law_156 ci_1 ?_
  refine P_iadd dL_law_157 ?_
  refine P_sld dL_law_158 (six (k := 1) hi hL (by decide)) ?_
  refine P_callV dL_law_159 lkL_17 okX10_feed ⟨Nat.le_of_ble_eq_true rfl, Nat.le_of_ble_eq_true rfl⟩ (d_feed l km hv) rfl rfl kO.1.1 (Nat.le_of_ble_eq_true rfl) ⟨Nat.le_of_ble_eq_true rfl, Nat.le_of_ble_eq_true rfl⟩ (fun v159 G159 q159 => ?_)
  obtain ⟨rfl, km2, hF2⟩ := q159
  refine P_icmp_eq (tgt := 879) dL_law_162 (by decide) (fun c162 => ?_) (fun c162 => ?_)
  · exact kk _ _ (kc.out hF2) km2 (vFeed hv _) (xFeed ht _)
  · exact absurd (rfl) c162
set_option maxHeartbeats 4000000 in
set_option maxRecDepth 100000 in
theorem lw_river (l : Launch) {Ln i : Nat} {xs : Nat → Int32} {G : PH} {σ : Sg} (hi : i + 5 ≤ Ln) (hL : Ln ≤ 2560) (kC : Cls G σ) (kM : Mod G σ) (hv : sVal σ) (ht : sTx σ) (kk : ∀ G' σ', Cls G' σ' → Mod G' σ' → sVal σ' → sTx σ' → WP mL_law l room_1 ZL (XL Ln xs) 181 14476 879 (LL i) [] G') : WP mL_law l room_1 ZL (XL Ln xs) 181 14476 167 (LL i) [] G := by
  refine P_aload_n dL_law_167 rfl ?_
  refine P_callV dL_law_168 lkL_18 okX9_river ⟨Nat.le_of_ble_eq_true rfl, Nat.le_of_ble_eq_true rfl⟩ (c_river l kC hv) rfl rfl kC.1 (Nat.le_of_ble_eq_true rfl) ⟨Nat.le_of_ble_eq_true rfl, Nat.le_of_ble_eq_true rfl⟩ (fun v168 G168 q168 => ?_)
  obtain ⟨rfl, kc, hF1⟩ := q168
  have km := kM.out hF1
  obtain ⟨om, fm, kO⟩ := id km
  refine P_aload_n dL_law_171 rfl ?_
  refine P_callV dL_law_172 lkL_22 okX10_river ⟨Nat.le_of_ble_eq_true rfl, Nat.le_of_ble_eq_true rfl⟩ (d_river l km hv ht) rfl rfl kO.1.1 (Nat.le_of_ble_eq_true rfl) ⟨Nat.le_of_ble_eq_true rfl, Nat.le_of_ble_eq_true rfl⟩ (fun v172 G172 q172 => ?_)
  obtain ⟨rfl, km2, hF2⟩ := q172
  refine P_icmp_eq (tgt := 879) dL_law_175 (by decide) (fun c175 => ?_) (fun c175 => ?_)
  · exact kk _ _ (kc.out hF2) km2 (vRiver hv) (xRiver σ)
  · exact absurd (rfl) c175
set_option maxHeartbeats 4000000 in
set_option maxRecDepth 100000 in
theorem lw_fault (l : Launch) {Ln i : Nat} {xs : Nat → Int32} {G : PH} {σ : Sg} (hi : i + 5 ≤ Ln) (hL : Ln ≤ 2560) (kC : Cls G σ) (kM : Mod G σ) (hv : sVal σ) (ht : sTx σ) (kk : ∀ G' σ', Cls G' σ' → Mod G' σ' → sVal σ' → sTx σ' → WP mL_law l room_1 ZL (XL Ln xs) 181 14476 879 (LL i) [] G') : WP mL_law l room_1 ZL (XL Ln xs) 181 14476 180 (LL i) [] G := by
  refine P_aload_n dL_law_180 rfl ?_
  refine P_callV dL_law_181 lkL_23 okX9_fault ⟨Nat.le_of_ble_eq_true rfl, Nat.le_of_ble_eq_true rfl⟩ (c_fault l kC) rfl rfl kC.1 (Nat.le_of_ble_eq_true rfl) ⟨Nat.le_of_ble_eq_true rfl, Nat.le_of_ble_eq_true rfl⟩ (fun v181 G181 q181 => ?_)
  obtain ⟨rfl, kc, hF1⟩ := q181
  have km := kM.out hF1
  obtain ⟨om, fm, kO⟩ := id km
  refine P_aload_n dL_law_184 rfl ?_
  refine P_callV dL_law_185 lkL_26 okX10_fault ⟨Nat.le_of_ble_eq_true rfl, Nat.le_of_ble_eq_true rfl⟩ (d_fault l km) rfl rfl kO.1.1 (Nat.le_of_ble_eq_true rfl) ⟨Nat.le_of_ble_eq_true rfl, Nat.le_of_ble_eq_true rfl⟩ (fun v185 G185 q185 => ?_)
  obtain ⟨rfl, km2, hF2⟩ := q185
  refine P_icmp_eq (tgt := 879) dL_law_188 (by decide) (fun c188 => ?_) (fun c188 => ?_)
  · exact kk _ σ (kc.out hF2) km2 hv ht
  · exact absurd (rfl) c188
set_option maxHeartbeats 4000000 in
set_option maxRecDepth 100000 in
theorem lw_told (l : Launch) {Ln i : Nat} {xs : Nat → Int32} {G : PH} {σ : Sg} (hi : i + 5 ≤ Ln) (hL : Ln ≤ 2560) (kC : Cls G σ) (kM : Mod G σ) (hv : sVal σ) (ht : sTx σ) (kk : ∀ G' σ', Cls G' σ' → Mod G' σ' → sVal σ' → sTx σ' → WP mL_law l room_1 ZL (XL Ln xs) 181 14476 879 (LL i) [] G') : WP mL_law l room_1 ZL (XL Ln xs) 181 14476 193 (LL i) [] G := by
  refine P_aload_n dL_law_193 rfl ?_
  refine P_aload_nF dL_law_194 rfl ?_
  refine P_iload_n dL_law_195 rfl ?_
  refine P_iconst dL_law_196 ci_1 ?_
  refine P_iadd dL_law_197 ?_
  refine P_sld dL_law_198 (six (k := 1) hi hL (by decide)) ?_
  refine P_callV dL_law_199 lkL_27 okX9_told ⟨Nat.le_of_ble_eq_true rfl, Nat.le_of_ble_eq_true rfl⟩ (c_told l kC hv) rfl rfl kC.1 (Nat.le_of_ble_eq_true rfl) ⟨Nat.le_of_ble_eq_true rfl, Nat.le_of_ble_eq_true rfl⟩ (fun v199 G199 q199 => ?_)
  obtain ⟨rfl, kc, hF1⟩ := q199
  have km := kM.out hF1
  obtain ⟨om, fm, kO⟩ := id km
  refine P_aload_n dL_law_202 rfl ?_
  refine P_aload_nF dL_law_203 rfl ?_
  refine P_iload_n dL_law_204 rfl ?_
  refine P_iconst dL_law_205 ci_1 ?_
  refine P_iadd dL_law_206 ?_
  refine P_sld dL_law_207 (six (k := 1) hi hL (by decide)) ?_
  refine P_callV dL_law_208 lkL_30 okX10_told ⟨Nat.le_of_ble_eq_true rfl, Nat.le_of_ble_eq_true rfl⟩ (d_told l km hv) rfl rfl kO.1.1 (Nat.le_of_ble_eq_true rfl) ⟨Nat.le_of_ble_eq_true rfl, Nat.le_of_ble_eq_true rfl⟩ (fun v208 G208 q208 => ?_)
  obtain ⟨rfl, km2, hF2⟩ := q208
  refine P_icmp_eq (tgt := 879) dL_law_211 (by decide) (fun c211 => ?_) (fun c211 => ?_)
  · exact kk _ σ (kc.out hF2) km2 hv ht
  · exact absurd (rfl) c211
set_option maxHeartbeats 4000000 in
set_option maxRecDepth 100000 in
theorem lw_reachAt (l : Launch) {Ln i : Nat} {xs : Nat → Int32} {G : PH} {σ : Sg} (hi : i + 5 ≤ Ln) (hL : Ln ≤ 2560) (kC : Cls G σ) (kM : Mod G σ) (hv : sVal σ) (ht : sTx σ) (kk : ∀ G' σ', Cls G' σ' → Mod G' σ' → sVal σ' → sTx σ' → WP mL_law l room_1 ZL (XL Ln xs) 181 14476 879 (LL i) [] G') : WP mL_law l room_1 ZL (XL Ln xs) 181 14476 216 (LL i) [] G := by
  refine P_aload_n dL_law_216 rfl ?_
  refine P_aload_nF dL_law_217 rfl ?_
  refine P_iload_n dL_law_218 rfl ?_
  refine P_iconst dL_law_219 ci_1 ?_
  refine P_iadd dL_law_220 ?_
  refine P_sld dL_law_221 (six (k := 1) hi hL (by decide)) ?_
  refine P_aload_nF dL_law_222 rfl ?_
  refine P_iload_n dL_law_223 rfl ?_
  refine P_iconst dL_law_224 ci_2 ?_
  refine P_iadd dL_law_225 ?_
  refine P_sld dL_law_226 (six (k := 2) hi hL (by decide)) ?_
  refine P_callV dL_law_227 lkL_31 okX9_reachAt ⟨Nat.le_of_ble_eq_true rfl, Nat.le_of_ble_eq_true rfl⟩ (c_reachAt l kC hv) rfl rfl kC.1 (Nat.le_of_ble_eq_true rfl) ⟨Nat.le_of_ble_eq_true rfl, Nat.le_of_ble_eq_true rfl⟩ (fun v227 G227 q227 => ?_)
  obtain ⟨rfl, kc, hF1⟩ := q227
  have km := kM.out hF1
  obtain ⟨om, fm, kO⟩ := id km
  refine P_aload_n dL_law_230 rfl ?_
  refine P_aload_nF dL_law_231 rfl ?_
  refine P_iload_n dL_law_232 rfl ?_
  refine P_iconst dL_law_233 ci_1 ?_
  refine P_iadd dL_law_234 ?_
  refine P_sld dL_law_235 (six (k := 1) hi hL (by decide)) ?_
  refine P_aload_nF dL_law_236 rfl ?_
  refine P_iload_n dL_law_237 rfl ?_
  refine P_iconst dL_law_238 ci_2 ?_
  refine P_iadd dL_law_239 ?_
  refine P_sld dL_law_240 (six (k := 2) hi hL (by decide)) ?_
  refine P_callV dL_law_241 lkL_35 okX10_reachAt ⟨Nat.le_of_ble_eq_true rfl, Nat.le_of_ble_eq_true rfl⟩ (d_reachAt l km hv) rfl rfl kO.1.1 (Nat.le_of_ble_eq_true rfl) ⟨Nat.le_of_ble_eq_true rfl, Nat.le_of_ble_eq_true rfl⟩ (fun v241 G241 q241 => ?_)
  obtain ⟨rfl, km2, hF2⟩ := q241
  refine P_icmp_eq (tgt := 879) dL_law_244 (by decide) (fun c244 => ?_) (fun c244 => ?_)
  · exact kk _ σ (kc.out hF2) km2 hv ht
  · exact absurd (rfl) c244
set_option maxHeartbeats 4000000 in
set_option maxRecDepth 100000 in
theorem lw_weight (l : Launch) {Ln i : Nat} {xs : Nat → Int32} {G : PH} {σ : Sg} (hi : i + 5 ≤ Ln) (hL : Ln ≤ 2560) (kC : Cls G σ) (kM : Mod G σ) (hv : sVal σ) (ht : sTx σ) (kk : ∀ G' σ', Cls G' σ' → Mod G' σ' → sVal σ' → sTx σ' → WP mL_law l room_1 ZL (XL Ln xs) 181 14476 879 (LL i) [] G') : WP mL_law l room_1 ZL (XL Ln xs) 181 14476 249 (LL i) [] G := by
  refine P_aload_n dL_law_249 rfl ?_
  refine P_aload_nF dL_law_250 rfl ?_
  refine P_iload_n dL_law_251 rfl ?_
  refine P_iconst dL_law_252 ci_1 ?_
  refine P_iadd dL_law_253 ?_
  refine P_sld dL_law_254 (six (k := 1) hi hL (by decide)) ?_
  refine P_aload_nF dL_law_255 rfl ?_
  refine P_iload_n dL_law_256 rfl ?_
  refine P_iconst dL_law_257 ci_2 ?_
  refine P_iadd dL_law_258 ?_
  refine P_sld dL_law_259 (six (k := 2) hi hL (by decide)) ?_
  refine P_callV dL_law_260 lkL_36 okX9_weight ⟨Nat.le_of_ble_eq_true rfl, Nat.le_of_ble_eq_true rfl⟩ (c_weight l kC hv) rfl rfl kC.1 (Nat.le_of_ble_eq_true rfl) ⟨Nat.le_of_ble_eq_true rfl, Nat.le_of_ble_eq_true rfl⟩ (fun v260 G260 q260 => ?_)
  obtain ⟨rfl, kc, hF1⟩ := q260
  have km := kM.out hF1
  obtain ⟨om, fm, kO⟩ := id km
  refine P_aload_n dL_law_263 rfl ?_
  refine P_aload_nF dL_law_264 rfl ?_
  refine P_iload_n dL_law_265 rfl ?_
  refine P_iconst dL_law_266 ci_1 ?_
  refine P_iadd dL_law_267 ?_
  refine P_sld dL_law_268 (six (k := 1) hi hL (by decide)) ?_
  refine P_aload_nF dL_law_269 rfl ?_
  refine P_iload_n dL_law_270 rfl ?_
  refine P_iconst dL_law_271 ci_2 ?_
  refine P_iadd dL_law_272 ?_
  refine P_sld dL_law_273 (six (k := 2) hi hL (by decide)) ?_
  refine P_callV dL_law_274 lkL_39 okX10_weight ⟨Nat.le_of_ble_eq_true rfl, Nat.le_of_ble_eq_true rfl⟩ (d_weight l km hv) rfl rfl kO.1.1 (Nat.le_of_ble_eq_true rfl) ⟨Nat.le_of_ble_eq_true rfl, Nat.le_of_ble_eq_true rfl⟩ (fun v274 G274 q274 => ?_)
  obtain ⟨rfl, km2, hF2⟩ := q274
  refine P_icmp_eq (tgt := 879) dL_law_277 (by decide) (fun c277 => ?_) (fun c277 => ?_)
  · exact kk _ σ (kc.out hF2) km2 hv ht
  · exact absurd (rfl) c277
set_option maxHeartbeats 4000000 in
set_option maxRecDepth 100000 in
theorem lw_flow (l : Launch) {Ln i : Nat} {xs : Nat → Int32} {G : PH} {σ : Sg} (hi : i + 5 ≤ Ln) (hL : Ln ≤ 2560) (kC : Cls G σ) (kM : Mod G σ) (hv : sVal σ) (ht : sTx σ) (kk : ∀ G' σ', Cls G' σ' → Mod G' σ' → sVal σ' → sTx σ' → WP mL_law l room_1 ZL (XL Ln xs) 181 14476 879 (LL i) [] G') : WP mL_law l room_1 ZL (XL Ln xs) 181 14476 282 (LL i) [] G := by
  refine P_aload_n dL_law_282 rfl ?_
  refine P_aload_nF dL_law_283 rfl ?_
  refine P_iload_n dL_law_284 rfl ?_
  refine P_iconst dL_law_285 ci_1 ?_
  refine P_iadd dL_law_286 ?_
  refine P_sld dL_law_287 (six (k := 1) hi hL (by decide)) ?_
  refine P_aload_nF dL_law_288 rfl ?_
  refine P_iload_n dL_law_289 rfl ?_
  refine P_iconst dL_law_290 ci_2 ?_
  refine P_iadd dL_law_291 ?_
  refine P_sld dL_law_292 (six (k := 2) hi hL (by decide)) ?_
  refine P_aload_nF dL_law_293 rfl ?_
  refine P_iload_n dL_law_294 rfl ?_
  refine P_iconst dL_law_295 ci_3 ?_
  refine P_iadd dL_law_296 ?_
  refine P_sld dL_law_297 (six (k := 3) hi hL (by decide)) ?_
  refine P_callV dL_law_298 lkL_40 okX9_flow ⟨Nat.le_of_ble_eq_true rfl, Nat.le_of_ble_eq_true rfl⟩ (c_flow l kC hv) rfl rfl kC.1 (Nat.le_of_ble_eq_true rfl) ⟨Nat.le_of_ble_eq_true rfl, Nat.le_of_ble_eq_true rfl⟩ (fun v298 G298 q298 => ?_)
  obtain ⟨rfl, kc, hF1⟩ := q298
  have km := kM.out hF1
  obtain ⟨om, fm, kO⟩ := id km
  refine P_aload_n dL_law_301 rfl ?_
  refine P_aload_nF dL_law_302 rfl ?_
  refine P_iload_n dL_law_303 rfl ?_
  refine P_iconst dL_law_304 ci_1 ?_
  refine P_iadd dL_law_305 ?_
  refine P_sld dL_law_306 (six (k := 1) hi hL (by decide)) ?_
  refine P_aload_nF dL_law_307 rfl ?_
  refine P_iload_n dL_law_308 rfl ?_
  refine P_iconst dL_law_309 ci_2 ?_
  refine P_iadd dL_law_310 ?_
  refine P_sld dL_law_311 (six (k := 2) hi hL (by decide)) ?_
  refine P_aload_nF dL_law_312 rfl ?_
  refine P_iload_n dL_law_313 rfl ?_
  refine P_iconst dL_law_314 ci_3 ?_
  refine P_iadd dL_law_315 ?_
  refine P_sld dL_law_316 (six (k := 3) hi hL (by decide)) ?_
  refine P_callV dL_law_317 lkL_44 okX10_flow ⟨Nat.le_of_ble_eq_true rfl, Nat.le_of_ble_eq_true rfl⟩ (d_flow l km hv) rfl rfl kO.1.1 (Nat.le_of_ble_eq_true rfl) ⟨Nat.le_of_ble_eq_true rfl, Nat.le_of_ble_eq_true rfl⟩ (fun v317 G317 q317 => ?_)
  obtain ⟨rfl, km2, hF2⟩ := q317
  refine P_lcmp dL_law_320 ?_
  refine P_if_eq (tgt := 879) dL_law_321 (by decide) (fun c321 => ?_) (fun c321 => ?_)
  · exact kk _ σ (kc.out hF2) km2 hv ht
  · exact absurd ((lg_cmp_eq _ _).mpr rfl) c321
set_option maxHeartbeats 4000000 in
set_option maxRecDepth 100000 in
theorem lw_sum (l : Launch) {Ln i : Nat} {xs : Nat → Int32} {G : PH} {σ : Sg} (hi : i + 5 ≤ Ln) (hL : Ln ≤ 2560) (kC : Cls G σ) (kM : Mod G σ) (hv : sVal σ) (ht : sTx σ) (kk : ∀ G' σ', Cls G' σ' → Mod G' σ' → sVal σ' → sTx σ' → WP mL_law l room_1 ZL (XL Ln xs) 181 14476 879 (LL i) [] G') : WP mL_law l room_1 ZL (XL Ln xs) 181 14476 326 (LL i) [] G := by
  refine P_aload_n dL_law_326 rfl ?_
  refine P_aload_nF dL_law_327 rfl ?_
  refine P_iload_n dL_law_328 rfl ?_
  refine P_iconst dL_law_329 ci_1 ?_
  refine P_iadd dL_law_330 ?_
  refine P_sld dL_law_331 (six (k := 1) hi hL (by decide)) ?_
  refine P_aload_nF dL_law_332 rfl ?_
  refine P_iload_n dL_law_333 rfl ?_
  refine P_iconst dL_law_334 ci_2 ?_
  refine P_iadd dL_law_335 ?_
  refine P_sld dL_law_336 (six (k := 2) hi hL (by decide)) ?_
  refine P_callV dL_law_337 lkL_45 okX9_sum ⟨Nat.le_of_ble_eq_true rfl, Nat.le_of_ble_eq_true rfl⟩ (c_sum l kC hv) rfl rfl kC.1 (Nat.le_of_ble_eq_true rfl) ⟨Nat.le_of_ble_eq_true rfl, Nat.le_of_ble_eq_true rfl⟩ (fun v337 G337 q337 => ?_)
  obtain ⟨rfl, kc, hF1⟩ := q337
  have km := kM.out hF1
  obtain ⟨om, fm, kO⟩ := id km
  refine P_aload_n dL_law_340 rfl ?_
  refine P_aload_nF dL_law_341 rfl ?_
  refine P_iload_n dL_law_342 rfl ?_
  refine P_iconst dL_law_343 ci_1 ?_
  refine P_iadd dL_law_344 ?_
  refine P_sld dL_law_345 (six (k := 1) hi hL (by decide)) ?_
  refine P_aload_nF dL_law_346 rfl ?_
  refine P_iload_n dL_law_347 rfl ?_
  refine P_iconst dL_law_348 ci_2 ?_
  refine P_iadd dL_law_349 ?_
  refine P_sld dL_law_350 (six (k := 2) hi hL (by decide)) ?_
  refine P_callV dL_law_351 lkL_49 okX10_sum ⟨Nat.le_of_ble_eq_true rfl, Nat.le_of_ble_eq_true rfl⟩ (d_sum l km hv) rfl rfl kO.1.1 (Nat.le_of_ble_eq_true rfl) ⟨Nat.le_of_ble_eq_true rfl, Nat.le_of_ble_eq_true rfl⟩ (fun v351 G351 q351 => ?_)
  obtain ⟨rfl, km2, hF2⟩ := q351
  refine P_lcmp dL_law_354 ?_
  refine P_if_eq (tgt := 879) dL_law_355 (by decide) (fun c355 => ?_) (fun c355 => ?_)
  · exact kk _ σ (kc.out hF2) km2 hv ht
  · exact absurd ((lg_cmp_eq _ _).mpr rfl) c355
set_option maxHeartbeats 4000000 in
set_option maxRecDepth 100000 in
theorem lw_would (l : Launch) {Ln i : Nat} {xs : Nat → Int32} {G : PH} {σ : Sg} (hi : i + 5 ≤ Ln) (hL : Ln ≤ 2560) (kC : Cls G σ) (kM : Mod G σ) (hv : sVal σ) (ht : sTx σ) (kk : ∀ G' σ', Cls G' σ' → Mod G' σ' → sVal σ' → sTx σ' → WP mL_law l room_1 ZL (XL Ln xs) 181 14476 879 (LL i) [] G') : WP mL_law l room_1 ZL (XL Ln xs) 181 14476 360 (LL i) [] G := by
  refine P_aload_n dL_law_360 rfl ?_
  refine P_aload_nF dL_law_361 rfl ?_
  refine P_iload_n dL_law_362 rfl ?_
  refine P_iconst dL_law_363 ci_1 ?_
  refine P_iadd dL_law_364 ?_
  refine P_sld dL_law_365 (six (k := 1) hi hL (by decide)) ?_
  refine P_aload_nF dL_law_366 rfl ?_
  refine P_iload_n dL_law_367 rfl ?_
  refine P_iconst dL_law_368 ci_2 ?_
  refine P_iadd dL_law_369 ?_
  refine P_sld dL_law_370 (six (k := 2) hi hL (by decide)) ?_
  refine P_aload_nF dL_law_371 rfl ?_
  refine P_iload_n dL_law_372 rfl ?_
  refine P_iconst dL_law_373 ci_3 ?_
  refine P_iadd dL_law_374 ?_
  refine P_sld dL_law_375 (six (k := 3) hi hL (by decide)) ?_
  refine P_aload_nF dL_law_376 rfl ?_
  refine P_iload_n dL_law_377 rfl ?_
  refine P_iconst dL_law_378 ci_4 ?_
  refine P_iadd dL_law_379 ?_
  refine P_sld dL_law_380 (six (k := 4) hi hL (by decide)) ?_
  refine P_callV dL_law_381 lkL_50 okX9_would ⟨Nat.le_of_ble_eq_true rfl, Nat.le_of_ble_eq_true rfl⟩ (c_would l kC hv) rfl rfl kC.1 (Nat.le_of_ble_eq_true rfl) ⟨Nat.le_of_ble_eq_true rfl, Nat.le_of_ble_eq_true rfl⟩ (fun v381 G381 q381 => ?_)
  obtain ⟨rfl, kc, hF1⟩ := q381
  have km := kM.out hF1
  obtain ⟨om, fm, kO⟩ := id km
  refine P_aload_n dL_law_384 rfl ?_
  refine P_aload_nF dL_law_385 rfl ?_
  refine P_iload_n dL_law_386 rfl ?_
  refine P_iconst dL_law_387 ci_1 ?_
  refine P_iadd dL_law_388 ?_
  refine P_sld dL_law_389 (six (k := 1) hi hL (by decide)) ?_
  refine P_aload_nF dL_law_390 rfl ?_
  refine P_iload_n dL_law_391 rfl ?_
  refine P_iconst dL_law_392 ci_2 ?_
  refine P_iadd dL_law_393 ?_
  refine P_sld dL_law_394 (six (k := 2) hi hL (by decide)) ?_
  refine P_aload_nF dL_law_395 rfl ?_
  refine P_iload_n dL_law_396 rfl ?_
  refine P_iconst dL_law_397 ci_3 ?_
  refine P_iadd dL_law_398 ?_
  refine P_sld dL_law_399 (six (k := 3) hi hL (by decide)) ?_
  refine P_aload_nF dL_law_400 rfl ?_
  refine P_iload_n dL_law_401 rfl ?_
  refine P_iconst dL_law_402 ci_4 ?_
  refine P_iadd dL_law_403 ?_
  refine P_sld dL_law_404 (six (k := 4) hi hL (by decide)) ?_
  refine P_callV dL_law_405 lkL_54 okX10_would ⟨Nat.le_of_ble_eq_true rfl, Nat.le_of_ble_eq_true rfl⟩ (d_would l km hv) rfl rfl kO.1.1 (Nat.le_of_ble_eq_true rfl) ⟨Nat.le_of_ble_eq_true rfl, Nat.le_of_ble_eq_true rfl⟩ (fun v405 G405 q405 => ?_)
  obtain ⟨rfl, km2, hF2⟩ := q405
  refine P_lcmp dL_law_408 ?_
  refine P_if_eq (tgt := 879) dL_law_409 (by decide) (fun c409 => ?_) (fun c409 => ?_)
  · exact kk _ σ (kc.out hF2) km2 hv ht
  · exact absurd ((lg_cmp_eq _ _).mpr rfl) c409
set_option maxHeartbeats 4000000 in
set_option maxRecDepth 100000 in
theorem lw_times (l : Launch) {Ln i : Nat} {xs : Nat → Int32} {G : PH} {σ : Sg} (hi : i + 5 ≤ Ln) (hL : Ln ≤ 2560) (kC : Cls G σ) (kM : Mod G σ) (hv : sVal σ) (ht : sTx σ) (kk : ∀ G' σ', Cls G' σ' → Mod G' σ' → sVal σ' → sTx σ' → WP mL_law l room_1 ZL (XL Ln xs) 181 14476 879 (LL i) [] G') : WP mL_law l room_1 ZL (XL Ln xs) 181 14476 414 (LL i) [] G := by
  refine P_aload_n dL_law_414 rfl ?_
  refine P_aload_nF dL_law_415 rfl ?_
  refine P_iload_n dL_law_416 rfl ?_
  refine P_iconst dL_law_417 ci_1 ?_
  refine P_iadd dL_law_418 ?_
  refine P_sld dL_law_419 (six (k := 1) hi hL (by decide)) ?_
  refine P_callV dL_law_420 lkL_55 okX9_times ⟨Nat.le_of_ble_eq_true rfl, Nat.le_of_ble_eq_true rfl⟩ (c_times l kC hv) rfl rfl kC.1 (Nat.le_of_ble_eq_true rfl) ⟨Nat.le_of_ble_eq_true rfl, Nat.le_of_ble_eq_true rfl⟩ (fun v420 G420 q420 => ?_)
  obtain ⟨rfl, kc, hF1⟩ := q420
  have km := kM.out hF1
  obtain ⟨om, fm, kO⟩ := id km
  refine P_aload_n dL_law_423 rfl ?_
  refine P_aload_nF dL_law_424 rfl ?_
  refine P_iload_n dL_law_425 rfl ?_
  refine P_iconst dL_law_426 ci_1 ?_
  refine P_iadd dL_law_427 ?_
  refine P_sld dL_law_428 (six (k := 1) hi hL (by decide)) ?_
  refine P_callV dL_law_429 lkL_58 okX10_times ⟨Nat.le_of_ble_eq_true rfl, Nat.le_of_ble_eq_true rfl⟩ (d_times l km hv) rfl rfl kO.1.1 (Nat.le_of_ble_eq_true rfl) ⟨Nat.le_of_ble_eq_true rfl, Nat.le_of_ble_eq_true rfl⟩ (fun v429 G429 q429 => ?_)
  obtain ⟨rfl, km2, hF2⟩ := q429
  refine P_icmp_eq (tgt := 879) dL_law_432 (by decide) (fun c432 => ?_) (fun c432 => ?_)
  · exact kk _ _ (kc.out hF2) km2 (vTimes hv _) (ht.of (xTimes σ _))
  · exact absurd (rfl) c432
set_option maxHeartbeats 4000000 in
set_option maxRecDepth 100000 in
theorem lw_step (l : Launch) {Ln i : Nat} {xs : Nat → Int32} {G : PH} {σ : Sg} (hi : i + 5 ≤ Ln) (hL : Ln ≤ 2560) (kC : Cls G σ) (kM : Mod G σ) (hv : sVal σ) (ht : sTx σ) (kk : ∀ G' σ', Cls G' σ' → Mod G' σ' → sVal σ' → sTx σ' → WP mL_law l room_1 ZL (XL Ln xs) 181 14476 879 (LL i) [] G') : WP mL_law l room_1 ZL (XL Ln xs) 181 14476 437 (LL i) [] G := by
  refine P_aload_n dL_law_437 rfl ?_
  refine P_aload_nF dL_law_438 rfl ?_
  refine P_iload_n dL_law_439 rfl ?_
  refine P_iconst dL_law_440 ci_1 ?_
  refine P_iadd dL_law_441 ?_
  refine P_sld dL_law_442 (six (k := 1) hi hL (by decide)) ?_
  refine P_callV dL_law_443 lkL_59 okX9_step ⟨Nat.le_of_ble_eq_true rfl, Nat.le_of_ble_eq_true rfl⟩ (c_step l kC hv) rfl rfl kC.1 (Nat.le_of_ble_eq_true rfl) ⟨Nat.le_of_ble_eq_true rfl, Nat.le_of_ble_eq_true rfl⟩ (fun v443 G443 q443 => ?_)
  obtain ⟨rfl, kc, hF1⟩ := q443
  have km := kM.out hF1
  obtain ⟨om, fm, kO⟩ := id km
  refine P_aload_n dL_law_446 rfl ?_
  refine P_aload_nF dL_law_447 rfl ?_
  refine P_iload_n dL_law_448 rfl ?_
  refine P_iconst dL_law_449 ci_1 ?_
  refine P_iadd dL_law_450 ?_
  refine P_sld dL_law_451 (six (k := 1) hi hL (by decide)) ?_
  refine P_callV dL_law_452 lkL_62 okX10_step ⟨Nat.le_of_ble_eq_true rfl, Nat.le_of_ble_eq_true rfl⟩ (d_step l km hv) rfl rfl kO.1.1 (Nat.le_of_ble_eq_true rfl) ⟨Nat.le_of_ble_eq_true rfl, Nat.le_of_ble_eq_true rfl⟩ (fun v452 G452 q452 => ?_)
  obtain ⟨rfl, km2, hF2⟩ := q452
  refine P_icmp_eq (tgt := 879) dL_law_455 (by decide) (fun c455 => ?_) (fun c455 => ?_)
  · exact kk _ _ (kc.out hF2) km2 (vStep hv _) (ht.of (xStep σ _))
  · exact absurd (rfl) c455
set_option maxHeartbeats 4000000 in
set_option maxRecDepth 100000 in
theorem lw_reach (l : Launch) {Ln i : Nat} {xs : Nat → Int32} {G : PH} {σ : Sg} (hi : i + 5 ≤ Ln) (hL : Ln ≤ 2560) (kC : Cls G σ) (kM : Mod G σ) (hv : sVal σ) (ht : sTx σ) (kk : ∀ G' σ', Cls G' σ' → Mod G' σ' → sVal σ' → sTx σ' → WP mL_law l room_1 ZL (XL Ln xs) 181 14476 879 (LL i) [] G') : WP mL_law l room_1 ZL (XL Ln xs) 181 14476 460 (LL i) [] G := by
  refine P_aload_n dL_law_460 rfl ?_
  refine P_aload_nF dL_law_461 rfl ?_
  refine P_iload_n dL_law_462 rfl ?_
  refine P_iconst dL_law_463 ci_1 ?_
  refine P_iadd dL_law_464 ?_
  refine P_sld dL_law_465 (six (k := 1) hi hL (by decide)) ?_
  refine P_aload_nF dL_law_466 rfl ?_
  refine P_iload_n dL_law_467 rfl ?_
  refine P_iconst dL_law_468 ci_2 ?_
  refine P_iadd dL_law_469 ?_
  refine P_sld dL_law_470 (six (k := 2) hi hL (by decide)) ?_
  refine P_aload_nF dL_law_471 rfl ?_
  refine P_iload_n dL_law_472 rfl ?_
  refine P_iconst dL_law_473 ci_3 ?_
  refine P_iadd dL_law_474 ?_
  refine P_sld dL_law_475 (six (k := 3) hi hL (by decide)) ?_
  refine P_aload_nF dL_law_476 rfl ?_
  refine P_iload_n dL_law_477 rfl ?_
  refine P_iconst dL_law_478 ci_4 ?_
  refine P_iadd dL_law_479 ?_
  refine P_sld dL_law_480 (six (k := 4) hi hL (by decide)) ?_
  refine P_callV dL_law_481 lkL_63 okX9_reach ⟨Nat.le_of_ble_eq_true rfl, Nat.le_of_ble_eq_true rfl⟩ (c_reach l kC hv) rfl rfl kC.1 (Nat.le_of_ble_eq_true rfl) ⟨Nat.le_of_ble_eq_true rfl, Nat.le_of_ble_eq_true rfl⟩ (fun v481 G481 q481 => ?_)
  obtain ⟨rfl, kc, hF1⟩ := q481
  have km := kM.out hF1
  obtain ⟨om, fm, kO⟩ := id km
  refine P_aload_n dL_law_484 rfl ?_
  refine P_aload_nF dL_law_485 rfl ?_
  refine P_iload_n dL_law_486 rfl ?_
  refine P_iconst dL_law_487 ci_1 ?_
  refine P_iadd dL_law_488 ?_
  refine P_sld dL_law_489 (six (k := 1) hi hL (by decide)) ?_
  refine P_aload_nF dL_law_490 rfl ?_
  refine P_iload_n dL_law_491 rfl ?_
  refine P_iconst dL_law_492 ci_2 ?_
  refine P_iadd dL_law_493 ?_
  refine P_sld dL_law_494 (six (k := 2) hi hL (by decide)) ?_
  refine P_aload_nF dL_law_495 rfl ?_
  refine P_iload_n dL_law_496 rfl ?_
  refine P_iconst dL_law_497 ci_3 ?_
  refine P_iadd dL_law_498 ?_
  refine P_sld dL_law_499 (six (k := 3) hi hL (by decide)) ?_
  refine P_aload_nF dL_law_500 rfl ?_
  refine P_iload_n dL_law_501 rfl ?_
  refine P_iconst dL_law_502 ci_4 ?_
  refine P_iadd dL_law_503 ?_
  refine P_sld dL_law_504 (six (k := 4) hi hL (by decide)) ?_
  refine P_callV dL_law_505 lkL_67 okX10_reach ⟨Nat.le_of_ble_eq_true rfl, Nat.le_of_ble_eq_true rfl⟩ (d_reach l km hv) rfl rfl kO.1.1 (Nat.le_of_ble_eq_true rfl) ⟨Nat.le_of_ble_eq_true rfl, Nat.le_of_ble_eq_true rfl⟩ (fun v505 G505 q505 => ?_)
  obtain ⟨rfl, km2, hF2⟩ := q505
  refine P_icmp_eq (tgt := 879) dL_law_508 (by decide) (fun c508 => ?_) (fun c508 => ?_)
  · exact kk _ _ (kc.out hF2) km2 (vReach hv _ _ _ _) (ht.of (xReach σ _ _ _ _))
  · exact absurd (rfl) c508
set_option maxHeartbeats 4000000 in
set_option maxRecDepth 100000 in
theorem lw_change (l : Launch) {Ln i : Nat} {xs : Nat → Int32} {G : PH} {σ : Sg} (hi : i + 5 ≤ Ln) (hL : Ln ≤ 2560) (kC : Cls G σ) (kM : Mod G σ) (hv : sVal σ) (ht : sTx σ) (kk : ∀ G' σ', Cls G' σ' → Mod G' σ' → sVal σ' → sTx σ' → WP mL_law l room_1 ZL (XL Ln xs) 181 14476 879 (LL i) [] G') : WP mL_law l room_1 ZL (XL Ln xs) 181 14476 513 (LL i) [] G := by
  refine P_aload_n dL_law_513 rfl ?_
  refine P_aload_nF dL_law_514 rfl ?_
  refine P_iload_n dL_law_515 rfl ?_
  refine P_iconst dL_law_516 ci_1 ?_
  refine P_iadd dL_law_517 ?_
  refine P_sld dL_law_518 (six (k := 1) hi hL (by decide)) ?_
  refine P_aload_nF dL_law_519 rfl ?_
  refine P_iload_n dL_law_520 rfl ?_
  refine P_iconst dL_law_521 ci_2 ?_
  refine P_iadd dL_law_522 ?_
  refine P_sld dL_law_523 (six (k := 2) hi hL (by decide)) ?_
  refine P_aload_nF dL_law_524 rfl ?_
  refine P_iload_n dL_law_525 rfl ?_
  refine P_iconst dL_law_526 ci_3 ?_
  refine P_iadd dL_law_527 ?_
  refine P_sld dL_law_528 (six (k := 3) hi hL (by decide)) ?_
  refine P_callV dL_law_529 lkL_68 okX9_change ⟨Nat.le_of_ble_eq_true rfl, Nat.le_of_ble_eq_true rfl⟩ (c_change l kC hv) rfl rfl kC.1 (Nat.le_of_ble_eq_true rfl) ⟨Nat.le_of_ble_eq_true rfl, Nat.le_of_ble_eq_true rfl⟩ (fun v529 G529 q529 => ?_)
  obtain ⟨rfl, kc, hF1⟩ := q529
  have km := kM.out hF1
  obtain ⟨om, fm, kO⟩ := id km
  refine P_aload_n dL_law_532 rfl ?_
  refine P_aload_nF dL_law_533 rfl ?_
  refine P_iload_n dL_law_534 rfl ?_
  refine P_iconst dL_law_535 ci_1 ?_
  refine P_iadd dL_law_536 ?_
  refine P_sld dL_law_537 (six (k := 1) hi hL (by decide)) ?_
  refine P_aload_nF dL_law_538 rfl ?_
  refine P_iload_n dL_law_539 rfl ?_
  refine P_iconst dL_law_540 ci_2 ?_
  refine P_iadd dL_law_541 ?_
  refine P_sld dL_law_542 (six (k := 2) hi hL (by decide)) ?_
  refine P_aload_nF dL_law_543 rfl ?_
  refine P_iload_n dL_law_544 rfl ?_
  refine P_iconst dL_law_545 ci_3 ?_
  refine P_iadd dL_law_546 ?_
  refine P_sld dL_law_547 (six (k := 3) hi hL (by decide)) ?_
  refine P_callV dL_law_548 lkL_72 okX10_change ⟨Nat.le_of_ble_eq_true rfl, Nat.le_of_ble_eq_true rfl⟩ (d_change l km hv) rfl rfl kO.1.1 (Nat.le_of_ble_eq_true rfl) ⟨Nat.le_of_ble_eq_true rfl, Nat.le_of_ble_eq_true rfl⟩ (fun v548 G548 q548 => ?_)
  obtain ⟨rfl, km2, hF2⟩ := q548
  refine P_icmp_eq (tgt := 879) dL_law_551 (by decide) (fun c551 => ?_) (fun c551 => ?_)
  · exact kk _ _ (kc.out hF2) km2 (vChange hv _ _ _) (ht.of (xChange σ _ _ _))
  · exact absurd (rfl) c551
set_option maxHeartbeats 4000000 in
set_option maxRecDepth 100000 in
theorem lw_side (l : Launch) {Ln i : Nat} {xs : Nat → Int32} {G : PH} {σ : Sg} (hi : i + 5 ≤ Ln) (hL : Ln ≤ 2560) (kC : Cls G σ) (kM : Mod G σ) (hv : sVal σ) (ht : sTx σ) (kk : ∀ G' σ', Cls G' σ' → Mod G' σ' → sVal σ' → sTx σ' → WP mL_law l room_1 ZL (XL Ln xs) 181 14476 879 (LL i) [] G') : WP mL_law l room_1 ZL (XL Ln xs) 181 14476 556 (LL i) [] G := by
  refine P_aload_n dL_law_556 rfl ?_
  refine P_aload_nF dL_law_557 rfl ?_
  refine P_iload_n dL_law_558 rfl ?_
  refine P_iconst dL_law_559 ci_1 ?_
  refine P_iadd dL_law_560 ?_
  refine P_sld dL_law_561 (six (k := 1) hi hL (by decide)) ?_
  refine P_aload_nF dL_law_562 rfl ?_
  refine P_iload_n dL_law_563 rfl ?_
  refine P_iconst dL_law_564 ci_2 ?_
  refine P_iadd dL_law_565 ?_
  refine P_sld dL_law_566 (six (k := 2) hi hL (by decide)) ?_
  refine P_aload_nF dL_law_567 rfl ?_
  refine P_iload_n dL_law_568 rfl ?_
  refine P_iconst dL_law_569 ci_3 ?_
  refine P_iadd dL_law_570 ?_
  refine P_sld dL_law_571 (six (k := 3) hi hL (by decide)) ?_
  refine P_callV dL_law_572 lkL_73 okX9_side ⟨Nat.le_of_ble_eq_true rfl, Nat.le_of_ble_eq_true rfl⟩ (c_side l kC hv) rfl rfl kC.1 (Nat.le_of_ble_eq_true rfl) ⟨Nat.le_of_ble_eq_true rfl, Nat.le_of_ble_eq_true rfl⟩ (fun v572 G572 q572 => ?_)
  obtain ⟨rfl, kc, hF1⟩ := q572
  have km := kM.out hF1
  obtain ⟨om, fm, kO⟩ := id km
  refine P_aload_n dL_law_575 rfl ?_
  refine P_aload_nF dL_law_576 rfl ?_
  refine P_iload_n dL_law_577 rfl ?_
  refine P_iconst dL_law_578 ci_1 ?_
  refine P_iadd dL_law_579 ?_
  refine P_sld dL_law_580 (six (k := 1) hi hL (by decide)) ?_
  refine P_aload_nF dL_law_581 rfl ?_
  refine P_iload_n dL_law_582 rfl ?_
  refine P_iconst dL_law_583 ci_2 ?_
  refine P_iadd dL_law_584 ?_
  refine P_sld dL_law_585 (six (k := 2) hi hL (by decide)) ?_
  refine P_aload_nF dL_law_586 rfl ?_
  refine P_iload_n dL_law_587 rfl ?_
  refine P_iconst dL_law_588 ci_3 ?_
  refine P_iadd dL_law_589 ?_
  refine P_sld dL_law_590 (six (k := 3) hi hL (by decide)) ?_
  refine P_callV dL_law_591 lkL_76 okX10_side ⟨Nat.le_of_ble_eq_true rfl, Nat.le_of_ble_eq_true rfl⟩ (d_side l km hv) rfl rfl kO.1.1 (Nat.le_of_ble_eq_true rfl) ⟨Nat.le_of_ble_eq_true rfl, Nat.le_of_ble_eq_true rfl⟩ (fun v591 G591 q591 => ?_)
  obtain ⟨rfl, km2, hF2⟩ := q591
  refine P_icmp_eq (tgt := 879) dL_law_594 (by decide) (fun c594 => ?_) (fun c594 => ?_)
  · exact kk _ _ (kc.out hF2) km2 (vSide hv _ _ _) (ht.of (xSide σ _ _ _))
  · exact absurd (rfl) c594
set_option maxHeartbeats 4000000 in
set_option maxRecDepth 100000 in
theorem lw_seen (l : Launch) {Ln i : Nat} {xs : Nat → Int32} {G : PH} {σ : Sg} (hi : i + 5 ≤ Ln) (hL : Ln ≤ 2560) (kC : Cls G σ) (kM : Mod G σ) (hv : sVal σ) (ht : sTx σ) (kk : ∀ G' σ', Cls G' σ' → Mod G' σ' → sVal σ' → sTx σ' → WP mL_law l room_1 ZL (XL Ln xs) 181 14476 879 (LL i) [] G') : WP mL_law l room_1 ZL (XL Ln xs) 181 14476 599 (LL i) [] G := by
  refine P_aload_n dL_law_599 rfl ?_
  refine P_aload_nF dL_law_600 rfl ?_
  refine P_iload_n dL_law_601 rfl ?_
  refine P_iconst dL_law_602 ci_1 ?_
  refine P_iadd dL_law_603 ?_
  refine P_sld dL_law_604 (six (k := 1) hi hL (by decide)) ?_
  refine P_aload_nF dL_law_605 rfl ?_
  refine P_iload_n dL_law_606 rfl ?_
  refine P_iconst dL_law_607 ci_2 ?_
  refine P_iadd dL_law_608 ?_
  refine P_sld dL_law_609 (six (k := 2) hi hL (by decide)) ?_
  refine P_aload_nF dL_law_610 rfl ?_
  refine P_iload_n dL_law_611 rfl ?_
  refine P_iconst dL_law_612 ci_3 ?_
  refine P_iadd dL_law_613 ?_
  refine P_sld dL_law_614 (six (k := 3) hi hL (by decide)) ?_
  refine P_callV dL_law_615 lkL_77 okX9_seen ⟨Nat.le_of_ble_eq_true rfl, Nat.le_of_ble_eq_true rfl⟩ (c_seen l kC hv) rfl rfl kC.1 (Nat.le_of_ble_eq_true rfl) ⟨Nat.le_of_ble_eq_true rfl, Nat.le_of_ble_eq_true rfl⟩ (fun v615 G615 q615 => ?_)
  obtain ⟨rfl, kc, hF1⟩ := q615
  have km := kM.out hF1
  obtain ⟨om, fm, kO⟩ := id km
  refine P_aload_n dL_law_618 rfl ?_
  refine P_aload_nF dL_law_619 rfl ?_
  refine P_iload_n dL_law_620 rfl ?_
  refine P_iconst dL_law_621 ci_1 ?_
  refine P_iadd dL_law_622 ?_
  refine P_sld dL_law_623 (six (k := 1) hi hL (by decide)) ?_
  refine P_aload_nF dL_law_624 rfl ?_
  refine P_iload_n dL_law_625 rfl ?_
  refine P_iconst dL_law_626 ci_2 ?_
  refine P_iadd dL_law_627 ?_
  refine P_sld dL_law_628 (six (k := 2) hi hL (by decide)) ?_
  refine P_aload_nF dL_law_629 rfl ?_
  refine P_iload_n dL_law_630 rfl ?_
  refine P_iconst dL_law_631 ci_3 ?_
  refine P_iadd dL_law_632 ?_
  refine P_sld dL_law_633 (six (k := 3) hi hL (by decide)) ?_
  refine P_callV dL_law_634 lkL_80 okX10_seen ⟨Nat.le_of_ble_eq_true rfl, Nat.le_of_ble_eq_true rfl⟩ (d_seen l km hv) rfl rfl kO.1.1 (Nat.le_of_ble_eq_true rfl) ⟨Nat.le_of_ble_eq_true rfl, Nat.le_of_ble_eq_true rfl⟩ (fun v634 G634 q634 => ?_)
  obtain ⟨rfl, km2, hF2⟩ := q634
  refine P_icmp_eq (tgt := 879) dL_law_637 (by decide) (fun c637 => ?_) (fun c637 => ?_)
  · exact kk _ _ (kc.out hF2) km2 (vSeen hv _ _ _) (ht.of (xSeen σ _ _ _))
  · exact absurd (rfl) c637
set_option maxHeartbeats 4000000 in
set_option maxRecDepth 100000 in
theorem lw_show (l : Launch) {Ln i : Nat} {xs : Nat → Int32} {G : PH} {σ : Sg} (hi : i + 5 ≤ Ln) (hL : Ln ≤ 2560) (kC : Cls G σ) (kM : Mod G σ) (hv : sVal σ) (ht : sTx σ) (kk : ∀ G' σ', Cls G' σ' → Mod G' σ' → sVal σ' → sTx σ' → WP mL_law l room_1 ZL (XL Ln xs) 181 14476 879 (LL i) [] G') : WP mL_law l room_1 ZL (XL Ln xs) 181 14476 642 (LL i) [] G := by
  refine P_aload_n dL_law_642 rfl ?_
  refine P_aload_nF dL_law_643 rfl ?_
  refine P_iload_n dL_law_644 rfl ?_
  refine P_iconst dL_law_645 ci_1 ?_
  refine P_iadd dL_law_646 ?_
  refine P_sld dL_law_647 (six (k := 1) hi hL (by decide)) ?_
  refine P_callV dL_law_648 lkL_81 okX9_show ⟨Nat.le_of_ble_eq_true rfl, Nat.le_of_ble_eq_true rfl⟩ (c_show l kC hv) rfl rfl kC.1 (Nat.le_of_ble_eq_true rfl) ⟨Nat.le_of_ble_eq_true rfl, Nat.le_of_ble_eq_true rfl⟩ (fun v648 G648 q648 => ?_)
  obtain ⟨rfl, kc, hF1⟩ := q648
  have km := kM.out hF1
  obtain ⟨om, fm, kO⟩ := id km
  refine P_aload_n dL_law_651 rfl ?_
  refine P_aload_nF dL_law_652 rfl ?_
  refine P_iload_n dL_law_653 rfl ?_
  refine P_iconst dL_law_654 ci_1 ?_
  refine P_iadd dL_law_655 ?_
  refine P_sld dL_law_656 (six (k := 1) hi hL (by decide)) ?_
  refine P_callV dL_law_657 lkL_84 okX10_show ⟨Nat.le_of_ble_eq_true rfl, Nat.le_of_ble_eq_true rfl⟩ (d_show l km hv) rfl rfl kO.1.1 (Nat.le_of_ble_eq_true rfl) ⟨Nat.le_of_ble_eq_true rfl, Nat.le_of_ble_eq_true rfl⟩ (fun v657 G657 q657 => ?_)
  obtain ⟨rfl, km2, hF2⟩ := q657
  refine P_icmp_eq (tgt := 879) dL_law_660 (by decide) (fun c660 => ?_) (fun c660 => ?_)
  · exact kk _ _ (kc.out hF2) km2 (vShow hv _) (ht.of (xShow σ _))
  · exact absurd (rfl) c660
set_option maxHeartbeats 4000000 in
set_option maxRecDepth 100000 in
theorem lw_take (l : Launch) {Ln i : Nat} {xs : Nat → Int32} {G : PH} {σ : Sg} (hi : i + 5 ≤ Ln) (hL : Ln ≤ 2560) (kC : Cls G σ) (kM : Mod G σ) (hv : sVal σ) (ht : sTx σ) (kk : ∀ G' σ', Cls G' σ' → Mod G' σ' → sVal σ' → sTx σ' → WP mL_law l room_1 ZL (XL Ln xs) 181 14476 879 (LL i) [] G') : WP mL_law l room_1 ZL (XL Ln xs) 181 14476 665 (LL i) [] G := by
  refine P_aload_n dL_law_665 rfl ?_
  refine P_callV dL_law_666 lkL_85 okX9_take ⟨Nat.le_of_ble_eq_true rfl, Nat.le_of_ble_eq_true rfl⟩ (c_take l kC hv) rfl rfl kC.1 (Nat.le_of_ble_eq_true rfl) ⟨Nat.le_of_ble_eq_true rfl, Nat.le_of_ble_eq_true rfl⟩ (fun v666 G666 q666 => ?_)
  obtain ⟨rfl, kc, hF1⟩ := q666
  have km := kM.out hF1
  obtain ⟨om, fm, kO⟩ := id km
  refine P_aload_n dL_law_669 rfl ?_
  refine P_callV dL_law_670 lkL_88 okX10_take ⟨Nat.le_of_ble_eq_true rfl, Nat.le_of_ble_eq_true rfl⟩ (d_take l km hv) rfl rfl kO.1.1 (Nat.le_of_ble_eq_true rfl) ⟨Nat.le_of_ble_eq_true rfl, Nat.le_of_ble_eq_true rfl⟩ (fun v670 G670 q670 => ?_)
  obtain ⟨rfl, km2, hF2⟩ := q670
  refine P_icmp_eq (tgt := 879) dL_law_673 (by decide) (fun c673 => ?_) (fun c673 => ?_)
  · exact kk _ _ (kc.out hF2) km2 (vTake hv) (ht.of (xTake σ))
  · exact absurd (rfl) c673
set_option maxHeartbeats 4000000 in
set_option maxRecDepth 100000 in
theorem lw_drift (l : Launch) {Ln i : Nat} {xs : Nat → Int32} {G : PH} {σ : Sg} (hi : i + 5 ≤ Ln) (hL : Ln ≤ 2560) (kC : Cls G σ) (kM : Mod G σ) (hv : sVal σ) (ht : sTx σ) (kk : ∀ G' σ', Cls G' σ' → Mod G' σ' → sVal σ' → sTx σ' → WP mL_law l room_1 ZL (XL Ln xs) 181 14476 879 (LL i) [] G') : WP mL_law l room_1 ZL (XL Ln xs) 181 14476 678 (LL i) [] G := by
  refine P_aload_n dL_law_678 rfl ?_
  refine P_aload_nF dL_law_679 rfl ?_
  refine P_iload_n dL_law_680 rfl ?_
  refine P_iconst dL_law_681 ci_1 ?_
  refine P_iadd dL_law_682 ?_
  refine P_sld dL_law_683 (six (k := 1) hi hL (by decide)) ?_
  refine P_callV dL_law_684 lkL_89 okX9_drift ⟨Nat.le_of_ble_eq_true rfl, Nat.le_of_ble_eq_true rfl⟩ (c_drift l kC hv) rfl rfl kC.1 (Nat.le_of_ble_eq_true rfl) ⟨Nat.le_of_ble_eq_true rfl, Nat.le_of_ble_eq_true rfl⟩ (fun v684 G684 q684 => ?_)
  obtain ⟨rfl, kc, hF1⟩ := q684
  have km := kM.out hF1
  obtain ⟨om, fm, kO⟩ := id km
  refine P_aload_n dL_law_687 rfl ?_
  refine P_aload_nF dL_law_688 rfl ?_
  refine P_iload_n dL_law_689 rfl ?_
  refine P_iconst dL_law_690 ci_1 ?_
  refine P_iadd dL_law_691 ?_
  refine P_sld dL_law_692 (six (k := 1) hi hL (by decide)) ?_
  refine P_callV dL_law_693 lkL_92 okX10_drift ⟨Nat.le_of_ble_eq_true rfl, Nat.le_of_ble_eq_true rfl⟩ (d_drift l km hv) rfl rfl kO.1.1 (Nat.le_of_ble_eq_true rfl) ⟨Nat.le_of_ble_eq_true rfl, Nat.le_of_ble_eq_true rfl⟩ (fun v693 G693 q693 => ?_)
  obtain ⟨rfl, km2, hF2⟩ := q693
  refine P_icmp_eq (tgt := 879) dL_law_696 (by decide) (fun c696 => ?_) (fun c696 => ?_)
  · exact kk _ _ (kc.out hF2) km2 (vDrift hv _) (ht.of (xDrift σ _))
  · exact absurd (rfl) c696
set_option maxHeartbeats 4000000 in
set_option maxRecDepth 100000 in
theorem lw_undo (l : Launch) {Ln i : Nat} {xs : Nat → Int32} {G : PH} {σ : Sg} (hi : i + 5 ≤ Ln) (hL : Ln ≤ 2560) (kC : Cls G σ) (kM : Mod G σ) (hv : sVal σ) (ht : sTx σ) (kk : ∀ G' σ', Cls G' σ' → Mod G' σ' → sVal σ' → sTx σ' → WP mL_law l room_1 ZL (XL Ln xs) 181 14476 879 (LL i) [] G') : WP mL_law l room_1 ZL (XL Ln xs) 181 14476 701 (LL i) [] G := by
  refine P_aload_n dL_law_701 rfl ?_
  refine P_aload_nF dL_law_702 rfl ?_
  refine P_iload_n dL_law_703 rfl ?_
  refine P_iconst dL_law_704 ci_1 ?_
  refine P_iadd dL_law_705 ?_
  refine P_sld dL_law_706 (six (k := 1) hi hL (by decide)) ?_
  refine P_callV dL_law_707 lkL_93 okX9_undo ⟨Nat.le_of_ble_eq_true rfl, Nat.le_of_ble_eq_true rfl⟩ (c_undo l kC hv) rfl rfl kC.1 (Nat.le_of_ble_eq_true rfl) ⟨Nat.le_of_ble_eq_true rfl, Nat.le_of_ble_eq_true rfl⟩ (fun v707 G707 q707 => ?_)
  obtain ⟨rfl, kc, hF1⟩ := q707
  have km := kM.out hF1
  obtain ⟨om, fm, kO⟩ := id km
  refine P_aload_n dL_law_710 rfl ?_
  refine P_aload_nF dL_law_711 rfl ?_
  refine P_iload_n dL_law_712 rfl ?_
  refine P_iconst dL_law_713 ci_1 ?_
  refine P_iadd dL_law_714 ?_
  refine P_sld dL_law_715 (six (k := 1) hi hL (by decide)) ?_
  refine P_callV dL_law_716 lkL_96 okX10_undo ⟨Nat.le_of_ble_eq_true rfl, Nat.le_of_ble_eq_true rfl⟩ (d_undo l km hv) rfl rfl kO.1.1 (Nat.le_of_ble_eq_true rfl) ⟨Nat.le_of_ble_eq_true rfl, Nat.le_of_ble_eq_true rfl⟩ (fun v716 G716 q716 => ?_)
  obtain ⟨rfl, km2, hF2⟩ := q716
  refine P_icmp_eq (tgt := 879) dL_law_719 (by decide) (fun c719 => ?_) (fun c719 => ?_)
  · exact kk _ _ (kc.out hF2) km2 (vUndo hv _) (ht.of (xUndo σ _))
  · exact absurd (rfl) c719
set_option maxHeartbeats 4000000 in
set_option maxRecDepth 100000 in
theorem lw_write (l : Launch) {Ln i : Nat} {xs : Nat → Int32} {G : PH} {σ : Sg} (hi : i + 5 ≤ Ln) (hL : Ln ≤ 2560) (kC : Cls G σ) (kM : Mod G σ) (hv : sVal σ) (ht : sTx σ) (kk : ∀ G' σ', Cls G' σ' → Mod G' σ' → sVal σ' → sTx σ' → WP mL_law l room_1 ZL (XL Ln xs) 181 14476 879 (LL i) [] G') : WP mL_law l room_1 ZL (XL Ln xs) 181 14476 724 (LL i) [] G := by
  refine P_aload_n dL_law_724 rfl ?_
  refine P_aload_nF dL_law_725 rfl ?_
  refine P_iload_n dL_law_726 rfl ?_
  refine P_iconst dL_law_727 ci_1 ?_
  refine P_iadd dL_law_728 ?_
  refine P_sld dL_law_729 (six (k := 1) hi hL (by decide)) ?_
  refine P_aload_nF dL_law_730 rfl ?_
  refine P_iload_n dL_law_731 rfl ?_
  refine P_iconst dL_law_732 ci_2 ?_
  refine P_iadd dL_law_733 ?_
  refine P_sld dL_law_734 (six (k := 2) hi hL (by decide)) ?_
  refine P_aload_nF dL_law_735 rfl ?_
  refine P_iload_n dL_law_736 rfl ?_
  refine P_iconst dL_law_737 ci_3 ?_
  refine P_iadd dL_law_738 ?_
  refine P_sld dL_law_739 (six (k := 3) hi hL (by decide)) ?_
  refine P_i2l dL_law_740 ?_
  refine P_bipush dL_law_741 bp_32 ?_
  refine P_lshl dL_law_743 ?_
  refine P_aload_nF dL_law_744 rfl ?_
  refine P_iload_n dL_law_745 rfl ?_
  refine P_iconst dL_law_746 ci_4 ?_
  refine P_iadd dL_law_747 ?_
  refine P_sld dL_law_748 (six (k := 4) hi hL (by decide)) ?_
  refine P_i2l dL_law_749 ?_
  refine P_ldc2 dL_law_750 kcL_97 ?_
  refine P_land dL_law_753 ?_
  refine P_lor dL_law_754 ?_
  refine P_callV dL_law_755 lkL_99 okX9_write ⟨Nat.le_of_ble_eq_true rfl, Nat.le_of_ble_eq_true rfl⟩ (c_write l kC hv) rfl rfl kC.1 (Nat.le_of_ble_eq_true rfl) ⟨Nat.le_of_ble_eq_true rfl, Nat.le_of_ble_eq_true rfl⟩ (fun v755 G755 q755 => ?_)
  obtain ⟨rfl, kc, hF1⟩ := q755
  have km := kM.out hF1
  obtain ⟨om, fm, kO⟩ := id km
  refine P_aload_n dL_law_758 rfl ?_
  refine P_aload_nF dL_law_759 rfl ?_
  refine P_iload_n dL_law_760 rfl ?_
  refine P_iconst dL_law_761 ci_1 ?_
  refine P_iadd dL_law_762 ?_
  refine P_sld dL_law_763 (six (k := 1) hi hL (by decide)) ?_
  refine P_aload_nF dL_law_764 rfl ?_
  refine P_iload_n dL_law_765 rfl ?_
  refine P_iconst dL_law_766 ci_2 ?_
  refine P_iadd dL_law_767 ?_
  refine P_sld dL_law_768 (six (k := 2) hi hL (by decide)) ?_
  refine P_aload_nF dL_law_769 rfl ?_
  refine P_iload_n dL_law_770 rfl ?_
  refine P_iconst dL_law_771 ci_3 ?_
  refine P_iadd dL_law_772 ?_
  refine P_sld dL_law_773 (six (k := 3) hi hL (by decide)) ?_
  refine P_i2l dL_law_774 ?_
  refine P_bipush dL_law_775 bp_32 ?_
  refine P_lshl dL_law_777 ?_
  refine P_aload_nF dL_law_778 rfl ?_
  refine P_iload_n dL_law_779 rfl ?_
  refine P_iconst dL_law_780 ci_4 ?_
  refine P_iadd dL_law_781 ?_
  refine P_sld dL_law_782 (six (k := 4) hi hL (by decide)) ?_
  refine P_i2l dL_law_783 ?_
  refine P_ldc2 dL_law_784 kcL_97 ?_
  refine P_land dL_law_787 ?_
  refine P_lor dL_law_788 ?_
  refine P_callV dL_law_789 lkL_103 okX10_write ⟨Nat.le_of_ble_eq_true rfl, Nat.le_of_ble_eq_true rfl⟩ (d_write l km hv) rfl rfl kO.1.1 (Nat.le_of_ble_eq_true rfl) ⟨Nat.le_of_ble_eq_true rfl, Nat.le_of_ble_eq_true rfl⟩ (fun v789 G789 q789 => ?_)
  obtain ⟨rfl, km2, hF2⟩ := q789
  refine P_icmp_eq (tgt := 879) dL_law_792 (by decide) (fun c792 => ?_) (fun c792 => ?_)
  · exact kk _ _ (kc.out hF2) km2 (vWrite hv _ _ _) (ht.of (xWrite σ _ _ _))
  · exact absurd (rfl) c792
set_option maxHeartbeats 4000000 in
set_option maxRecDepth 100000 in
theorem lw_tear (l : Launch) {Ln i : Nat} {xs : Nat → Int32} {G : PH} {σ : Sg} (hi : i + 5 ≤ Ln) (hL : Ln ≤ 2560) (kC : Cls G σ) (kM : Mod G σ) (hv : sVal σ) (ht : sTx σ) (kk : ∀ G' σ', Cls G' σ' → Mod G' σ' → sVal σ' → sTx σ' → WP mL_law l room_1 ZL (XL Ln xs) 181 14476 879 (LL i) [] G') : WP mL_law l room_1 ZL (XL Ln xs) 181 14476 797 (LL i) [] G := by
  refine P_aload_n dL_law_797 rfl ?_
  refine P_callV dL_law_798 lkL_104 okX9_tear ⟨Nat.le_of_ble_eq_true rfl, Nat.le_of_ble_eq_true rfl⟩ (c_tear l kC hv) rfl rfl kC.1 (Nat.le_of_ble_eq_true rfl) ⟨Nat.le_of_ble_eq_true rfl, Nat.le_of_ble_eq_true rfl⟩ (fun v798 G798 q798 => ?_)
  obtain ⟨rfl, kc, hF1⟩ := q798
  have km := kM.out hF1
  obtain ⟨om, fm, kO⟩ := id km
  refine P_aload_n dL_law_801 rfl ?_
  refine P_callV dL_law_802 lkL_107 okX10_tear ⟨Nat.le_of_ble_eq_true rfl, Nat.le_of_ble_eq_true rfl⟩ (d_tear l km hv) rfl rfl kO.1.1 (Nat.le_of_ble_eq_true rfl) ⟨Nat.le_of_ble_eq_true rfl, Nat.le_of_ble_eq_true rfl⟩ (fun v802 G802 q802 => ?_)
  obtain ⟨rfl, km2, hF2⟩ := q802
  refine P_icmp_eq (tgt := 879) dL_law_805 (by decide) (fun c805 => ?_) (fun c805 => ?_)
  · exact kk _ _ (kc.out hF2) km2 (vTear hv) (ht.of (xTear σ))
  · exact absurd (rfl) c805
set_option maxHeartbeats 4000000 in
set_option maxRecDepth 100000 in
theorem lw_seed (l : Launch) {Ln i : Nat} {xs : Nat → Int32} {G : PH} {σ : Sg} (hi : i + 5 ≤ Ln) (hL : Ln ≤ 2560) (kC : Cls G σ) (kM : Mod G σ) (hv : sVal σ) (ht : sTx σ) (kk : ∀ G' σ', Cls G' σ' → Mod G' σ' → sVal σ' → sTx σ' → WP mL_law l room_1 ZL (XL Ln xs) 181 14476 879 (LL i) [] G') : WP mL_law l room_1 ZL (XL Ln xs) 181 14476 810 (LL i) [] G := by
  refine P_aload_n dL_law_810 rfl ?_
  refine P_aload_nF dL_law_811 rfl ?_
  refine P_iload_n dL_law_812 rfl ?_
  refine P_iconst dL_law_813 ci_1 ?_
  refine P_iadd dL_law_814 ?_
  refine P_sld dL_law_815 (six (k := 1) hi hL (by decide)) ?_
  refine P_callV dL_law_816 lkL_108 okX9_seed ⟨Nat.le_of_ble_eq_true rfl, Nat.le_of_ble_eq_true rfl⟩ (c_seed l kC hv) rfl rfl kC.1 (Nat.le_of_ble_eq_true rfl) ⟨Nat.le_of_ble_eq_true rfl, Nat.le_of_ble_eq_true rfl⟩ (fun v816 G816 q816 => ?_)
  obtain ⟨rfl, kc, hF1⟩ := q816
  have km := kM.out hF1
  obtain ⟨om, fm, kO⟩ := id km
  refine P_aload_n dL_law_819 rfl ?_
  refine P_aload_nF dL_law_820 rfl ?_
  refine P_iload_n dL_law_821 rfl ?_
  refine P_iconst dL_law_822 ci_1 ?_
  refine P_iadd dL_law_823 ?_
  refine P_sld dL_law_824 (six (k := 1) hi hL (by decide)) ?_
  refine P_callV dL_law_825 lkL_111 okX10_seed ⟨Nat.le_of_ble_eq_true rfl, Nat.le_of_ble_eq_true rfl⟩ (d_seed l km hv) rfl rfl kO.1.1 (Nat.le_of_ble_eq_true rfl) ⟨Nat.le_of_ble_eq_true rfl, Nat.le_of_ble_eq_true rfl⟩ (fun v825 G825 q825 => ?_)
  obtain ⟨rfl, km2, hF2⟩ := q825
  refine P_icmp_eq (tgt := 879) dL_law_828 (by decide) (fun c828 => ?_) (fun c828 => ?_)
  · exact kk _ _ (kc.out hF2) km2 (vSeed hv _) (ht.of (xSeed σ _))
  · exact absurd (rfl) c828
set_option maxHeartbeats 4000000 in
set_option maxRecDepth 100000 in
theorem lw_keep (l : Launch) {Ln i : Nat} {xs : Nat → Int32} {G : PH} {σ : Sg} (hi : i + 5 ≤ Ln) (hL : Ln ≤ 2560) (kC : Cls G σ) (kM : Mod G σ) (hv : sVal σ) (ht : sTx σ) (kk : ∀ G' σ', Cls G' σ' → Mod G' σ' → sVal σ' → sTx σ' → WP mL_law l room_1 ZL (XL Ln xs) 181 14476 879 (LL i) [] G') : WP mL_law l room_1 ZL (XL Ln xs) 181 14476 833 (LL i) [] G := by
  refine P_aload_n dL_law_833 rfl ?_
  refine P_aload_nF dL_law_834 rfl ?_
  refine P_iload_n dL_law_835 rfl ?_
  refine P_iconst dL_law_836 ci_1 ?_
  refine P_iadd dL_law_837 ?_
  refine P_sld dL_law_838 (six (k := 1) hi hL (by decide)) ?_
  refine P_callV dL_law_839 lkL_112 okX9_keep ⟨Nat.le_of_ble_eq_true rfl, Nat.le_of_ble_eq_true rfl⟩ (c_keep l kC hv) rfl rfl kC.1 (Nat.le_of_ble_eq_true rfl) ⟨Nat.le_of_ble_eq_true rfl, Nat.le_of_ble_eq_true rfl⟩ (fun v839 G839 q839 => ?_)
  obtain ⟨rfl, kc, hF1⟩ := q839
  have km := kM.out hF1
  obtain ⟨om, fm, kO⟩ := id km
  refine P_aload_n dL_law_842 rfl ?_
  refine P_aload_nF dL_law_843 rfl ?_
  refine P_iload_n dL_law_844 rfl ?_
  refine P_iconst dL_law_845 ci_1 ?_
  refine P_iadd dL_law_846 ?_
  refine P_sld dL_law_847 (six (k := 1) hi hL (by decide)) ?_
  refine P_callV dL_law_848 lkL_115 okX10_keep ⟨Nat.le_of_ble_eq_true rfl, Nat.le_of_ble_eq_true rfl⟩ (d_keep l km hv) rfl rfl kO.1.1 (Nat.le_of_ble_eq_true rfl) ⟨Nat.le_of_ble_eq_true rfl, Nat.le_of_ble_eq_true rfl⟩ (fun v848 G848 q848 => ?_)
  obtain ⟨rfl, km2, hF2⟩ := q848
  refine P_icmp_eq (tgt := 879) dL_law_851 (by decide) (fun c851 => ?_) (fun c851 => ?_)
  · exact kk _ _ (kc.out hF2) km2 (vKeep hv _) (ht.of (xKeep σ _))
  · exact absurd (rfl) c851
set_option maxHeartbeats 4000000 in
set_option maxRecDepth 100000 in
theorem lw_back (l : Launch) {Ln i : Nat} {xs : Nat → Int32} {G : PH} {σ : Sg} (hi : i + 5 ≤ Ln) (hL : Ln ≤ 2560) (kC : Cls G σ) (kM : Mod G σ) (hv : sVal σ) (ht : sTx σ) (kk : ∀ G' σ', Cls G' σ' → Mod G' σ' → sVal σ' → sTx σ' → WP mL_law l room_1 ZL (XL Ln xs) 181 14476 879 (LL i) [] G') : WP mL_law l room_1 ZL (XL Ln xs) 181 14476 856 (LL i) [] G := by
  refine P_aload_n dL_law_856 rfl ?_
  refine P_aload_nF dL_law_857 rfl ?_
  refine P_iload_n dL_law_858 rfl ?_
  refine P_iconst dL_law_859 ci_1 ?_
  refine P_iadd dL_law_860 ?_
  refine P_sld dL_law_861 (six (k := 1) hi hL (by decide)) ?_
  refine P_callV dL_law_862 lkL_116 okX9_goBack ⟨Nat.le_of_ble_eq_true rfl, Nat.le_of_ble_eq_true rfl⟩ (c_back l kC hv) rfl rfl kC.1 (Nat.le_of_ble_eq_true rfl) ⟨Nat.le_of_ble_eq_true rfl, Nat.le_of_ble_eq_true rfl⟩ (fun v862 G862 q862 => ?_)
  obtain ⟨rfl, kc, hF1⟩ := q862
  have km := kM.out hF1
  obtain ⟨om, fm, kO⟩ := id km
  refine P_aload_n dL_law_865 rfl ?_
  refine P_aload_nF dL_law_866 rfl ?_
  refine P_iload_n dL_law_867 rfl ?_
  refine P_iconst dL_law_868 ci_1 ?_
  refine P_iadd dL_law_869 ?_
  refine P_sld dL_law_870 (six (k := 1) hi hL (by decide)) ?_
  refine P_callV dL_law_871 lkL_119 okX10_goBack ⟨Nat.le_of_ble_eq_true rfl, Nat.le_of_ble_eq_true rfl⟩ (d_back l km hv) rfl rfl kO.1.1 (Nat.le_of_ble_eq_true rfl) ⟨Nat.le_of_ble_eq_true rfl, Nat.le_of_ble_eq_true rfl⟩ (fun v871 G871 q871 => ?_)
  obtain ⟨rfl, km2, hF2⟩ := q871
  refine P_icmp_eq (tgt := 879) dL_law_874 (by decide) (fun c874 => ?_) (fun c874 => ?_)
  · exact kk _ _ (kc.out hF2) km2 (vBack hv _) (ht.of (xBack σ _))
  · exact absurd (rfl) c874

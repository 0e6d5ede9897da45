/-! the law: each call -/
theorem wx_sldG {d : Nat} {M : zMt} {pc : Nat} {L : List (Option Value)} {rest : List Value} {K : List Value → zS → Prop} {mm : zM} {i : Int32} {j n : Nat} (hd : decode M.2.1 pc = .ok (.iaload, 1)) (hi : i = nI j) (hl : (mm 155 0).toNatClampNeg = n) (hj : j < n) (hn : n < 2 ^ 31) (kk : wx d M (pc + 1) L (.int (mm 154 j) :: rest) (zG mm) K) : wx d M pc L (.int i :: .null :: rest) (zG mm) K := wx_sldN hd hi hl hj hn kk
theorem lg_cmp_self (x : Int64) : lg_cmp x x = 0 := by simp [lg_cmp]
theorem lw_disc {d : Nat} {K : List Value → zS → Prop} {sc : Nat → Int32} {ln b n : Nat} {m1 : zM} (hI : zIn sc ln n b m1) (hb : b < 1000) (hln : ln ≤ 2048) (h4 : 4 * b + 4 ≤ ln) (hnext : ∀ m3, zInv sc ln (b + 1) m3 → wx (d + 81) mL_law 1039 [some .null, some (.ref 0), some (.ref 128), some (.int (nI (4 * b)))] [] (zG m3) K) : wx (d + 81) mL_law 168 [some .null, some (.ref 0), some (.ref 128), some (.int (nI (4 * b)))] [] (zG m1) K := by
  have hl : (m1 155 0).toNatClampNeg = ln := by rw [hI.2.2.2.2.2.2.2.2.2]; exact nI_clamp (by omega)
  refine wx_aload_n (i := 1) dL_law_168 rfl rfl ?_
  refine wx_aloads_n (i := 0) dL_law_169 rfl rfl ?_
  refine wx_iload_n (i := 3) dL_law_170 rfl rfl ?_
  refine wx_iconst (v := 1) dL_law_171 (by decide) ?_
  refine wx_iadd dL_law_172 ?_
  refine wx_sldG (j := 4 * b + 1) (n := ln) dL_law_173 (by rw [show (1 : Int32) = nI 1 from rfl, nI_add]) hl (by omega) (by omega) ?_
  refine wx_VS1 dL_law_174 zPV_X8_disc zLk_L_13 rfl (Nat.le_of_ble_eq_true rfl) (Nat.le_of_ble_eq_true rfl) (Or.inl (Nat.le_refl _)) ?_
  refine op_disc hI hb (fun x m2 hag hs => ?_)
  have hl2 : (m2 155 0).toNatClampNeg = ln := hs.1.trans hl
  have hs2 : ∀ j, j < ln → m2 154 j = m1 154 j := fun j hj => hs.2 j (by show j < (m1 155 0).toNatClampNeg; rw [hl]; exact hj)
  refine wx_r1 ?_
  refine wx_aload_n (i := 2) dL_law_177 rfl rfl ?_
  refine wx_aloads_n (i := 0) dL_law_178 rfl rfl ?_
  refine wx_iload_n (i := 3) dL_law_179 rfl rfl ?_
  refine wx_iconst (v := 1) dL_law_180 (by decide) ?_
  refine wx_iadd dL_law_181 ?_
  refine wx_sldG (j := 4 * b + 1) (n := ln) dL_law_182 (by rw [show (1 : Int32) = nI 1 from rfl, nI_add]) hl2 (by omega) (by omega) ?_
  refine wx_V1 dL_law_183 zPV_X9_disc zLk_L_17 rfl (Nat.le_of_ble_eq_true rfl) (Nat.le_of_ble_eq_true rfl) (Or.inl (Nat.le_refl _)) ?_
  rw [hs2 (4 * b + 1) (by omega)]
  refine hag _ (fun m3 hI3 => ?_)
  refine wx_r1 ?_
  refine wx_icmp_eq (tgt := 1039) dL_law_186 (by decide) (fun h186 => ?_) (fun h186 => ?_)
  · exact hnext m3 hI3 --end
  · exact absurd rfl h186 --end
theorem lw_aim {d : Nat} {K : List Value → zS → Prop} {sc : Nat → Int32} {ln b n : Nat} {m1 : zM} (hI : zIn sc ln n b m1) (hb : b < 1000) (hln : ln ≤ 2048) (h4 : 4 * b + 4 ≤ ln) (hnext : ∀ m3, zInv sc ln (b + 1) m3 → wx (d + 81) mL_law 1039 [some .null, some (.ref 0), some (.ref 128), some (.int (nI (4 * b)))] [] (zG m3) K) : wx (d + 81) mL_law 191 [some .null, some (.ref 0), some (.ref 128), some (.int (nI (4 * b)))] [] (zG m1) K := by
  have hl : (m1 155 0).toNatClampNeg = ln := by rw [hI.2.2.2.2.2.2.2.2.2]; exact nI_clamp (by omega)
  refine wx_aload_n (i := 1) dL_law_191 rfl rfl ?_
  refine wx_aloads_n (i := 0) dL_law_192 rfl rfl ?_
  refine wx_iload_n (i := 3) dL_law_193 rfl rfl ?_
  refine wx_iconst (v := 1) dL_law_194 (by decide) ?_
  refine wx_iadd dL_law_195 ?_
  refine wx_sldG (j := 4 * b + 1) (n := ln) dL_law_196 (by rw [show (1 : Int32) = nI 1 from rfl, nI_add]) hl (by omega) (by omega) ?_
  refine wx_aloads_n (i := 0) dL_law_197 rfl rfl ?_
  refine wx_iload_n (i := 3) dL_law_198 rfl rfl ?_
  refine wx_iconst (v := 2) dL_law_199 (by decide) ?_
  refine wx_iadd dL_law_200 ?_
  refine wx_sldG (j := 4 * b + 2) (n := ln) dL_law_201 (by rw [show (2 : Int32) = nI 2 from rfl, nI_add]) hl (by omega) (by omega) ?_
  refine wx_aloads_n (i := 0) dL_law_202 rfl rfl ?_
  refine wx_iload_n (i := 3) dL_law_203 rfl rfl ?_
  refine wx_iconst (v := 3) dL_law_204 (by decide) ?_
  refine wx_iadd dL_law_205 ?_
  refine wx_sldG (j := 4 * b + 3) (n := ln) dL_law_206 (by rw [show (3 : Int32) = nI 3 from rfl, nI_add]) hl (by omega) (by omega) ?_
  refine wx_VS3 dL_law_207 zPV_X8_aim zLk_L_18 rfl (Nat.le_of_ble_eq_true rfl) (Nat.le_of_ble_eq_true rfl) (Or.inl (Nat.le_refl _)) ?_
  refine op_aim hI hb (fun x m2 hag hs => ?_)
  have hl2 : (m2 155 0).toNatClampNeg = ln := hs.1.trans hl
  have hs2 : ∀ j, j < ln → m2 154 j = m1 154 j := fun j hj => hs.2 j (by show j < (m1 155 0).toNatClampNeg; rw [hl]; exact hj)
  refine wx_r1 ?_
  refine wx_aload_n (i := 2) dL_law_210 rfl rfl ?_
  refine wx_aloads_n (i := 0) dL_law_211 rfl rfl ?_
  refine wx_iload_n (i := 3) dL_law_212 rfl rfl ?_
  refine wx_iconst (v := 1) dL_law_213 (by decide) ?_
  refine wx_iadd dL_law_214 ?_
  refine wx_sldG (j := 4 * b + 1) (n := ln) dL_law_215 (by rw [show (1 : Int32) = nI 1 from rfl, nI_add]) hl2 (by omega) (by omega) ?_
  refine wx_aloads_n (i := 0) dL_law_216 rfl rfl ?_
  refine wx_iload_n (i := 3) dL_law_217 rfl rfl ?_
  refine wx_iconst (v := 2) dL_law_218 (by decide) ?_
  refine wx_iadd dL_law_219 ?_
  refine wx_sldG (j := 4 * b + 2) (n := ln) dL_law_220 (by rw [show (2 : Int32) = nI 2 from rfl, nI_add]) hl2 (by omega) (by omega) ?_
  refine wx_aloads_n (i := 0) dL_law_221 rfl rfl ?_
  refine wx_iload_n (i := 3) dL_law_222 rfl rfl ?_
  refine wx_iconst (v := 3) dL_law_223 (by decide) ?_
  refine wx_iadd dL_law_224 ?_
  refine wx_sldG (j := 4 * b + 3) (n := ln) dL_law_225 (by rw [show (3 : Int32) = nI 3 from rfl, nI_add]) hl2 (by omega) (by omega) ?_
  refine wx_V3 dL_law_226 zPV_X9_aim zLk_L_22 rfl (Nat.le_of_ble_eq_true rfl) (Nat.le_of_ble_eq_true rfl) (Or.inl (Nat.le_refl _)) ?_
  rw [hs2 (4 * b + 1) (by omega), hs2 (4 * b + 2) (by omega), hs2 (4 * b + 3) (by omega)]
  refine hag _ (fun m3 hI3 => ?_)
  refine wx_r1 ?_
  refine wx_icmp_eq (tgt := 1039) dL_law_229 (by decide) (fun h229 => ?_) (fun h229 => ?_)
  · exact hnext m3 hI3 --end
  · exact absurd rfl h229 --end
theorem lw_depth {d : Nat} {K : List Value → zS → Prop} {sc : Nat → Int32} {ln b n : Nat} {m1 : zM} (hI : zIn sc ln n b m1) (hb : b < 1000) (hln : ln ≤ 2048) (h4 : 4 * b + 4 ≤ ln) (hnext : ∀ m3, zInv sc ln (b + 1) m3 → wx (d + 81) mL_law 1039 [some .null, some (.ref 0), some (.ref 128), some (.int (nI (4 * b)))] [] (zG m3) K) : wx (d + 81) mL_law 234 [some .null, some (.ref 0), some (.ref 128), some (.int (nI (4 * b)))] [] (zG m1) K := by
  have hl : (m1 155 0).toNatClampNeg = ln := by rw [hI.2.2.2.2.2.2.2.2.2]; exact nI_clamp (by omega)
  refine wx_aload_n (i := 1) dL_law_234 rfl rfl ?_
  refine wx_aloads_n (i := 0) dL_law_235 rfl rfl ?_
  refine wx_iload_n (i := 3) dL_law_236 rfl rfl ?_
  refine wx_iconst (v := 1) dL_law_237 (by decide) ?_
  refine wx_iadd dL_law_238 ?_
  refine wx_sldG (j := 4 * b + 1) (n := ln) dL_law_239 (by rw [show (1 : Int32) = nI 1 from rfl, nI_add]) hl (by omega) (by omega) ?_
  refine wx_aloads_n (i := 0) dL_law_240 rfl rfl ?_
  refine wx_iload_n (i := 3) dL_law_241 rfl rfl ?_
  refine wx_iconst (v := 2) dL_law_242 (by decide) ?_
  refine wx_iadd dL_law_243 ?_
  refine wx_sldG (j := 4 * b + 2) (n := ln) dL_law_244 (by rw [show (2 : Int32) = nI 2 from rfl, nI_add]) hl (by omega) (by omega) ?_
  refine wx_VS2 dL_law_245 zPV_X8_depth zLk_L_23 rfl (Nat.le_of_ble_eq_true rfl) (Nat.le_of_ble_eq_true rfl) (Or.inl (Nat.le_refl _)) ?_
  refine op_depth hI hb (fun x m2 hag hs => ?_)
  have hl2 : (m2 155 0).toNatClampNeg = ln := hs.1.trans hl
  have hs2 : ∀ j, j < ln → m2 154 j = m1 154 j := fun j hj => hs.2 j (by show j < (m1 155 0).toNatClampNeg; rw [hl]; exact hj)
  refine wx_r1 ?_
  refine wx_aload_n (i := 2) dL_law_248 rfl rfl ?_
  refine wx_aloads_n (i := 0) dL_law_249 rfl rfl ?_
  refine wx_iload_n (i := 3) dL_law_250 rfl rfl ?_
  refine wx_iconst (v := 1) dL_law_251 (by decide) ?_
  refine wx_iadd dL_law_252 ?_
  refine wx_sldG (j := 4 * b + 1) (n := ln) dL_law_253 (by rw [show (1 : Int32) = nI 1 from rfl, nI_add]) hl2 (by omega) (by omega) ?_
  refine wx_aloads_n (i := 0) dL_law_254 rfl rfl ?_
  refine wx_iload_n (i := 3) dL_law_255 rfl rfl ?_
  refine wx_iconst (v := 2) dL_law_256 (by decide) ?_
  refine wx_iadd dL_law_257 ?_
  refine wx_sldG (j := 4 * b + 2) (n := ln) dL_law_258 (by rw [show (2 : Int32) = nI 2 from rfl, nI_add]) hl2 (by omega) (by omega) ?_
  refine wx_V2 dL_law_259 zPV_X9_depth zLk_L_27 rfl (Nat.le_of_ble_eq_true rfl) (Nat.le_of_ble_eq_true rfl) (Or.inl (Nat.le_refl _)) ?_
  rw [hs2 (4 * b + 1) (by omega), hs2 (4 * b + 2) (by omega)]
  refine hag _ (fun m3 hI3 => ?_)
  refine wx_r1 ?_
  refine wx_lcmp dL_law_262 ?_
  refine wx_if_eq (tgt := 1039) dL_law_263 (by decide) (fun h263 => ?_) (fun h263 => ?_)
  · exact hnext m3 hI3 --end
  · exact absurd (lg_cmp_self x) h263 --end
theorem lw_height {d : Nat} {K : List Value → zS → Prop} {sc : Nat → Int32} {ln b n : Nat} {m1 : zM} (hI : zIn sc ln n b m1) (hb : b < 1000) (hln : ln ≤ 2048) (h4 : 4 * b + 4 ≤ ln) (hnext : ∀ m3, zInv sc ln (b + 1) m3 → wx (d + 81) mL_law 1039 [some .null, some (.ref 0), some (.ref 128), some (.int (nI (4 * b)))] [] (zG m3) K) : wx (d + 81) mL_law 268 [some .null, some (.ref 0), some (.ref 128), some (.int (nI (4 * b)))] [] (zG m1) K := by
  have hl : (m1 155 0).toNatClampNeg = ln := by rw [hI.2.2.2.2.2.2.2.2.2]; exact nI_clamp (by omega)
  refine wx_aload_n (i := 1) dL_law_268 rfl rfl ?_
  refine wx_aloads_n (i := 0) dL_law_269 rfl rfl ?_
  refine wx_iload_n (i := 3) dL_law_270 rfl rfl ?_
  refine wx_iconst (v := 1) dL_law_271 (by decide) ?_
  refine wx_iadd dL_law_272 ?_
  refine wx_sldG (j := 4 * b + 1) (n := ln) dL_law_273 (by rw [show (1 : Int32) = nI 1 from rfl, nI_add]) hl (by omega) (by omega) ?_
  refine wx_aloads_n (i := 0) dL_law_274 rfl rfl ?_
  refine wx_iload_n (i := 3) dL_law_275 rfl rfl ?_
  refine wx_iconst (v := 2) dL_law_276 (by decide) ?_
  refine wx_iadd dL_law_277 ?_
  refine wx_sldG (j := 4 * b + 2) (n := ln) dL_law_278 (by rw [show (2 : Int32) = nI 2 from rfl, nI_add]) hl (by omega) (by omega) ?_
  refine wx_VS2 dL_law_279 zPV_X8_height zLk_L_28 rfl (Nat.le_of_ble_eq_true rfl) (Nat.le_of_ble_eq_true rfl) (Or.inl (Nat.le_refl _)) ?_
  refine op_height hI hb (fun x m2 hag hs => ?_)
  have hl2 : (m2 155 0).toNatClampNeg = ln := hs.1.trans hl
  have hs2 : ∀ j, j < ln → m2 154 j = m1 154 j := fun j hj => hs.2 j (by show j < (m1 155 0).toNatClampNeg; rw [hl]; exact hj)
  refine wx_r1 ?_
  refine wx_aload_n (i := 2) dL_law_282 rfl rfl ?_
  refine wx_aloads_n (i := 0) dL_law_283 rfl rfl ?_
  refine wx_iload_n (i := 3) dL_law_284 rfl rfl ?_
  refine wx_iconst (v := 1) dL_law_285 (by decide) ?_
  refine wx_iadd dL_law_286 ?_
  refine wx_sldG (j := 4 * b + 1) (n := ln) dL_law_287 (by rw [show (1 : Int32) = nI 1 from rfl, nI_add]) hl2 (by omega) (by omega) ?_
  refine wx_aloads_n (i := 0) dL_law_288 rfl rfl ?_
  refine wx_iload_n (i := 3) dL_law_289 rfl rfl ?_
  refine wx_iconst (v := 2) dL_law_290 (by decide) ?_
  refine wx_iadd dL_law_291 ?_
  refine wx_sldG (j := 4 * b + 2) (n := ln) dL_law_292 (by rw [show (2 : Int32) = nI 2 from rfl, nI_add]) hl2 (by omega) (by omega) ?_
  refine wx_V2 dL_law_293 zPV_X9_height zLk_L_32 rfl (Nat.le_of_ble_eq_true rfl) (Nat.le_of_ble_eq_true rfl) (Or.inl (Nat.le_refl _)) ?_
  rw [hs2 (4 * b + 1) (by omega), hs2 (4 * b + 2) (by omega)]
  refine hag _ (fun m3 hI3 => ?_)
  refine wx_r1 ?_
  refine wx_icmp_eq (tgt := 1039) dL_law_296 (by decide) (fun h296 => ?_) (fun h296 => ?_)
  · exact hnext m3 hI3 --end
  · exact absurd rfl h296 --end
theorem lw_at {d : Nat} {K : List Value → zS → Prop} {sc : Nat → Int32} {ln b n : Nat} {m1 : zM} (hI : zIn sc ln n b m1) (hb : b < 1000) (hln : ln ≤ 2048) (h4 : 4 * b + 4 ≤ ln) (hnext : ∀ m3, zInv sc ln (b + 1) m3 → wx (d + 81) mL_law 1039 [some .null, some (.ref 0), some (.ref 128), some (.int (nI (4 * b)))] [] (zG m3) K) : wx (d + 81) mL_law 301 [some .null, some (.ref 0), some (.ref 128), some (.int (nI (4 * b)))] [] (zG m1) K := by
  have hl : (m1 155 0).toNatClampNeg = ln := by rw [hI.2.2.2.2.2.2.2.2.2]; exact nI_clamp (by omega)
  refine wx_aload_n (i := 1) dL_law_301 rfl rfl ?_
  refine wx_aloads_n (i := 0) dL_law_302 rfl rfl ?_
  refine wx_iload_n (i := 3) dL_law_303 rfl rfl ?_
  refine wx_iconst (v := 1) dL_law_304 (by decide) ?_
  refine wx_iadd dL_law_305 ?_
  refine wx_sldG (j := 4 * b + 1) (n := ln) dL_law_306 (by rw [show (1 : Int32) = nI 1 from rfl, nI_add]) hl (by omega) (by omega) ?_
  refine wx_VS1 dL_law_307 zPV_X8_at zLk_L_33 rfl (Nat.le_of_ble_eq_true rfl) (Nat.le_of_ble_eq_true rfl) (Or.inl (Nat.le_refl _)) ?_
  refine op_at hI hb (fun x m2 hag hs => ?_)
  have hl2 : (m2 155 0).toNatClampNeg = ln := hs.1.trans hl
  have hs2 : ∀ j, j < ln → m2 154 j = m1 154 j := fun j hj => hs.2 j (by show j < (m1 155 0).toNatClampNeg; rw [hl]; exact hj)
  refine wx_r1 ?_
  refine wx_aload_n (i := 2) dL_law_310 rfl rfl ?_
  refine wx_aloads_n (i := 0) dL_law_311 rfl rfl ?_
  refine wx_iload_n (i := 3) dL_law_312 rfl rfl ?_
  refine wx_iconst (v := 1) dL_law_313 (by decide) ?_
  refine wx_iadd dL_law_314 ?_
  refine wx_sldG (j := 4 * b + 1) (n := ln) dL_law_315 (by rw [show (1 : Int32) = nI 1 from rfl, nI_add]) hl2 (by omega) (by omega) ?_
  refine wx_V1 dL_law_316 zPV_X9_at zLk_L_36 rfl (Nat.le_of_ble_eq_true rfl) (Nat.le_of_ble_eq_true rfl) (Or.inl (Nat.le_refl _)) ?_
  rw [hs2 (4 * b + 1) (by omega)]
  refine hag _ (fun m3 hI3 => ?_)
  refine wx_r1 ?_
  refine wx_icmp_eq (tgt := 1039) dL_law_319 (by decide) (fun h319 => ?_) (fun h319 => ?_)
  · exact hnext m3 hI3 --end
  · exact absurd rfl h319 --end
theorem lw_read {d : Nat} {K : List Value → zS → Prop} {sc : Nat → Int32} {ln b n : Nat} {m1 : zM} (hI : zIn sc ln n b m1) (hb : b < 1000) (hln : ln ≤ 2048) (h4 : 4 * b + 4 ≤ ln) (hnext : ∀ m3, zInv sc ln (b + 1) m3 → wx (d + 81) mL_law 1039 [some .null, some (.ref 0), some (.ref 128), some (.int (nI (4 * b)))] [] (zG m3) K) : wx (d + 81) mL_law 324 [some .null, some (.ref 0), some (.ref 128), some (.int (nI (4 * b)))] [] (zG m1) K := by
  have hl : (m1 155 0).toNatClampNeg = ln := by rw [hI.2.2.2.2.2.2.2.2.2]; exact nI_clamp (by omega)
  refine wx_aload_n (i := 1) dL_law_324 rfl rfl ?_
  refine wx_aloads_n (i := 0) dL_law_325 rfl rfl ?_
  refine wx_iload_n (i := 3) dL_law_326 rfl rfl ?_
  refine wx_iconst (v := 1) dL_law_327 (by decide) ?_
  refine wx_iadd dL_law_328 ?_
  refine wx_sldG (j := 4 * b + 1) (n := ln) dL_law_329 (by rw [show (1 : Int32) = nI 1 from rfl, nI_add]) hl (by omega) (by omega) ?_
  refine wx_aloads_n (i := 0) dL_law_330 rfl rfl ?_
  refine wx_iload_n (i := 3) dL_law_331 rfl rfl ?_
  refine wx_iconst (v := 2) dL_law_332 (by decide) ?_
  refine wx_iadd dL_law_333 ?_
  refine wx_sldG (j := 4 * b + 2) (n := ln) dL_law_334 (by rw [show (2 : Int32) = nI 2 from rfl, nI_add]) hl (by omega) (by omega) ?_
  refine wx_aloads_n (i := 0) dL_law_335 rfl rfl ?_
  refine wx_iload_n (i := 3) dL_law_336 rfl rfl ?_
  refine wx_iconst (v := 3) dL_law_337 (by decide) ?_
  refine wx_iadd dL_law_338 ?_
  refine wx_sldG (j := 4 * b + 3) (n := ln) dL_law_339 (by rw [show (3 : Int32) = nI 3 from rfl, nI_add]) hl (by omega) (by omega) ?_
  refine wx_VS3 dL_law_340 zPV_X8_read zLk_L_37 rfl (Nat.le_of_ble_eq_true rfl) (Nat.le_of_ble_eq_true rfl) (Or.inl (Nat.le_refl _)) ?_
  refine op_read hI hb (fun x m2 hag hs => ?_)
  have hl2 : (m2 155 0).toNatClampNeg = ln := hs.1.trans hl
  have hs2 : ∀ j, j < ln → m2 154 j = m1 154 j := fun j hj => hs.2 j (by show j < (m1 155 0).toNatClampNeg; rw [hl]; exact hj)
  refine wx_r1 ?_
  refine wx_aload_n (i := 2) dL_law_343 rfl rfl ?_
  refine wx_aloads_n (i := 0) dL_law_344 rfl rfl ?_
  refine wx_iload_n (i := 3) dL_law_345 rfl rfl ?_
  refine wx_iconst (v := 1) dL_law_346 (by decide) ?_
  refine wx_iadd dL_law_347 ?_
  refine wx_sldG (j := 4 * b + 1) (n := ln) dL_law_348 (by rw [show (1 : Int32) = nI 1 from rfl, nI_add]) hl2 (by omega) (by omega) ?_
  refine wx_aloads_n (i := 0) dL_law_349 rfl rfl ?_
  refine wx_iload_n (i := 3) dL_law_350 rfl rfl ?_
  refine wx_iconst (v := 2) dL_law_351 (by decide) ?_
  refine wx_iadd dL_law_352 ?_
  refine wx_sldG (j := 4 * b + 2) (n := ln) dL_law_353 (by rw [show (2 : Int32) = nI 2 from rfl, nI_add]) hl2 (by omega) (by omega) ?_
  refine wx_aloads_n (i := 0) dL_law_354 rfl rfl ?_
  refine wx_iload_n (i := 3) dL_law_355 rfl rfl ?_
  refine wx_iconst (v := 3) dL_law_356 (by decide) ?_
  refine wx_iadd dL_law_357 ?_
  refine wx_sldG (j := 4 * b + 3) (n := ln) dL_law_358 (by rw [show (3 : Int32) = nI 3 from rfl, nI_add]) hl2 (by omega) (by omega) ?_
  refine wx_V3 dL_law_359 zPV_X9_read zLk_L_40 rfl (Nat.le_of_ble_eq_true rfl) (Nat.le_of_ble_eq_true rfl) (Or.inl (Nat.le_refl _)) ?_
  rw [hs2 (4 * b + 1) (by omega), hs2 (4 * b + 2) (by omega), hs2 (4 * b + 3) (by omega)]
  refine hag _ (fun m3 hI3 => ?_)
  refine wx_r1 ?_
  refine wx_icmp_eq (tgt := 1039) dL_law_362 (by decide) (fun h362 => ?_) (fun h362 => ?_)
  · exact hnext m3 hI3 --end
  · exact absurd rfl h362 --end
theorem lw_lie {d : Nat} {K : List Value → zS → Prop} {sc : Nat → Int32} {ln b n : Nat} {m1 : zM} (hI : zIn sc ln n b m1) (hb : b < 1000) (hln : ln ≤ 2048) (h4 : 4 * b + 4 ≤ ln) (hnext : ∀ m3, zInv sc ln (b + 1) m3 → wx (d + 81) mL_law 1039 [some .null, some (.ref 0), some (.ref 128), some (.int (nI (4 * b)))] [] (zG m3) K) : wx (d + 81) mL_law 367 [some .null, some (.ref 0), some (.ref 128), some (.int (nI (4 * b)))] [] (zG m1) K := by
  have hl : (m1 155 0).toNatClampNeg = ln := by rw [hI.2.2.2.2.2.2.2.2.2]; exact nI_clamp (by omega)
  refine wx_aload_n (i := 1) dL_law_367 rfl rfl ?_
  refine wx_aloads_n (i := 0) dL_law_368 rfl rfl ?_
  refine wx_iload_n (i := 3) dL_law_369 rfl rfl ?_
  refine wx_iconst (v := 1) dL_law_370 (by decide) ?_
  refine wx_iadd dL_law_371 ?_
  refine wx_sldG (j := 4 * b + 1) (n := ln) dL_law_372 (by rw [show (1 : Int32) = nI 1 from rfl, nI_add]) hl (by omega) (by omega) ?_
  refine wx_VS1 dL_law_373 zPV_X8_lie zLk_L_41 rfl (Nat.le_of_ble_eq_true rfl) (Nat.le_of_ble_eq_true rfl) (Or.inl (Nat.le_refl _)) ?_
  refine op_lie hI hb (fun x m2 hag hs => ?_)
  have hl2 : (m2 155 0).toNatClampNeg = ln := hs.1.trans hl
  have hs2 : ∀ j, j < ln → m2 154 j = m1 154 j := fun j hj => hs.2 j (by show j < (m1 155 0).toNatClampNeg; rw [hl]; exact hj)
  refine wx_r1 ?_
  refine wx_aload_n (i := 2) dL_law_376 rfl rfl ?_
  refine wx_aloads_n (i := 0) dL_law_377 rfl rfl ?_
  refine wx_iload_n (i := 3) dL_law_378 rfl rfl ?_
  refine wx_iconst (v := 1) dL_law_379 (by decide) ?_
  refine wx_iadd dL_law_380 ?_
  refine wx_sldG (j := 4 * b + 1) (n := ln) dL_law_381 (by rw [show (1 : Int32) = nI 1 from rfl, nI_add]) hl2 (by omega) (by omega) ?_
  refine wx_V1 dL_law_382 zPV_X9_lie zLk_L_44 rfl (Nat.le_of_ble_eq_true rfl) (Nat.le_of_ble_eq_true rfl) (Or.inl (Nat.le_refl _)) ?_
  rw [hs2 (4 * b + 1) (by omega)]
  refine hag _ (fun m3 hI3 => ?_)
  refine wx_r1 ?_
  refine wx_icmp_eq (tgt := 1039) dL_law_385 (by decide) (fun h385 => ?_) (fun h385 => ?_)
  · exact hnext m3 hI3 --end
  · exact absurd rfl h385 --end
theorem lw_joined {d : Nat} {K : List Value → zS → Prop} {sc : Nat → Int32} {ln b n : Nat} {m1 : zM} (hI : zIn sc ln n b m1) (hb : b < 1000) (hln : ln ≤ 2048) (h4 : 4 * b + 4 ≤ ln) (hnext : ∀ m3, zInv sc ln (b + 1) m3 → wx (d + 81) mL_law 1039 [some .null, some (.ref 0), some (.ref 128), some (.int (nI (4 * b)))] [] (zG m3) K) : wx (d + 81) mL_law 390 [some .null, some (.ref 0), some (.ref 128), some (.int (nI (4 * b)))] [] (zG m1) K := by
  have hl : (m1 155 0).toNatClampNeg = ln := by rw [hI.2.2.2.2.2.2.2.2.2]; exact nI_clamp (by omega)
  refine wx_aload_n (i := 1) dL_law_390 rfl rfl ?_
  refine wx_aloads_n (i := 0) dL_law_391 rfl rfl ?_
  refine wx_iload_n (i := 3) dL_law_392 rfl rfl ?_
  refine wx_iconst (v := 1) dL_law_393 (by decide) ?_
  refine wx_iadd dL_law_394 ?_
  refine wx_sldG (j := 4 * b + 1) (n := ln) dL_law_395 (by rw [show (1 : Int32) = nI 1 from rfl, nI_add]) hl (by omega) (by omega) ?_
  refine wx_VS1 dL_law_396 zPV_X8_joined zLk_L_45 rfl (Nat.le_of_ble_eq_true rfl) (Nat.le_of_ble_eq_true rfl) (Or.inl (Nat.le_refl _)) ?_
  refine op_joined hI hb (fun x m2 hag hs => ?_)
  have hl2 : (m2 155 0).toNatClampNeg = ln := hs.1.trans hl
  have hs2 : ∀ j, j < ln → m2 154 j = m1 154 j := fun j hj => hs.2 j (by show j < (m1 155 0).toNatClampNeg; rw [hl]; exact hj)
  refine wx_r1 ?_
  refine wx_aload_n (i := 2) dL_law_399 rfl rfl ?_
  refine wx_aloads_n (i := 0) dL_law_400 rfl rfl ?_
  refine wx_iload_n (i := 3) dL_law_401 rfl rfl ?_
  refine wx_iconst (v := 1) dL_law_402 (by decide) ?_
  refine wx_iadd dL_law_403 ?_
  refine wx_sldG (j := 4 * b + 1) (n := ln) dL_law_404 (by rw [show (1 : Int32) = nI 1 from rfl, nI_add]) hl2 (by omega) (by omega) ?_
  refine wx_V1 dL_law_405 zPV_X9_joined zLk_L_48 rfl (Nat.le_of_ble_eq_true rfl) (Nat.le_of_ble_eq_true rfl) (Or.inl (Nat.le_refl _)) ?_
  rw [hs2 (4 * b + 1) (by omega)]
  refine hag _ (fun m3 hI3 => ?_)
  refine wx_r1 ?_
  refine wx_icmp_eq (tgt := 1039) dL_law_408 (by decide) (fun h408 => ?_) (fun h408 => ?_)
  · exact hnext m3 hI3 --end
  · exact absurd rfl h408 --end
theorem lw_step {d : Nat} {K : List Value → zS → Prop} {sc : Nat → Int32} {ln b n : Nat} {m1 : zM} (hI : zIn sc ln n b m1) (hb : b < 1000) (hln : ln ≤ 2048) (h4 : 4 * b + 4 ≤ ln) (hnext : ∀ m3, zInv sc ln (b + 1) m3 → wx (d + 81) mL_law 1039 [some .null, some (.ref 0), some (.ref 128), some (.int (nI (4 * b)))] [] (zG m3) K) : wx (d + 81) mL_law 413 [some .null, some (.ref 0), some (.ref 128), some (.int (nI (4 * b)))] [] (zG m1) K := by
  have hl : (m1 155 0).toNatClampNeg = ln := by rw [hI.2.2.2.2.2.2.2.2.2]; exact nI_clamp (by omega)
  refine wx_aload_n (i := 1) dL_law_413 rfl rfl ?_
  refine wx_aloads_n (i := 0) dL_law_414 rfl rfl ?_
  refine wx_iload_n (i := 3) dL_law_415 rfl rfl ?_
  refine wx_iconst (v := 1) dL_law_416 (by decide) ?_
  refine wx_iadd dL_law_417 ?_
  refine wx_sldG (j := 4 * b + 1) (n := ln) dL_law_418 (by rw [show (1 : Int32) = nI 1 from rfl, nI_add]) hl (by omega) (by omega) ?_
  refine wx_VS1 dL_law_419 zPV_X8_step zLk_L_49 rfl (Nat.le_of_ble_eq_true rfl) (Nat.le_of_ble_eq_true rfl) (Or.inl (Nat.le_refl _)) ?_
  refine op_step hI hb (fun x m2 hag hs => ?_)
  have hl2 : (m2 155 0).toNatClampNeg = ln := hs.1.trans hl
  have hs2 : ∀ j, j < ln → m2 154 j = m1 154 j := fun j hj => hs.2 j (by show j < (m1 155 0).toNatClampNeg; rw [hl]; exact hj)
  refine wx_r1 ?_
  refine wx_aload_n (i := 2) dL_law_422 rfl rfl ?_
  refine wx_aloads_n (i := 0) dL_law_423 rfl rfl ?_
  refine wx_iload_n (i := 3) dL_law_424 rfl rfl ?_
  refine wx_iconst (v := 1) dL_law_425 (by decide) ?_
  refine wx_iadd dL_law_426 ?_
  refine wx_sldG (j := 4 * b + 1) (n := ln) dL_law_427 (by rw [show (1 : Int32) = nI 1 from rfl, nI_add]) hl2 (by omega) (by omega) ?_
  refine wx_V1 dL_law_428 zPV_X9_step zLk_L_52 rfl (Nat.le_of_ble_eq_true rfl) (Nat.le_of_ble_eq_true rfl) (Or.inl (Nat.le_refl _)) ?_
  rw [hs2 (4 * b + 1) (by omega)]
  refine hag _ (fun m3 hI3 => ?_)
  refine wx_r1 ?_
  refine wx_icmp_eq (tgt := 1039) dL_law_431 (by decide) (fun h431 => ?_) (fun h431 => ?_)
  · exact hnext m3 hI3 --end
  · exact absurd rfl h431 --end
theorem lw_profile {d : Nat} {K : List Value → zS → Prop} {sc : Nat → Int32} {ln b n : Nat} {m1 : zM} (hI : zIn sc ln n b m1) (hb : b < 1000) (hln : ln ≤ 2048) (h4 : 4 * b + 4 ≤ ln) (hnext : ∀ m3, zInv sc ln (b + 1) m3 → wx (d + 81) mL_law 1039 [some .null, some (.ref 0), some (.ref 128), some (.int (nI (4 * b)))] [] (zG m3) K) : wx (d + 81) mL_law 436 [some .null, some (.ref 0), some (.ref 128), some (.int (nI (4 * b)))] [] (zG m1) K := by
  have hl : (m1 155 0).toNatClampNeg = ln := by rw [hI.2.2.2.2.2.2.2.2.2]; exact nI_clamp (by omega)
  refine wx_aload_n (i := 1) dL_law_436 rfl rfl ?_
  refine wx_aloads_n (i := 0) dL_law_437 rfl rfl ?_
  refine wx_iload_n (i := 3) dL_law_438 rfl rfl ?_
  refine wx_iconst (v := 1) dL_law_439 (by decide) ?_
  refine wx_iadd dL_law_440 ?_
  refine wx_sldG (j := 4 * b + 1) (n := ln) dL_law_441 (by rw [show (1 : Int32) = nI 1 from rfl, nI_add]) hl (by omega) (by omega) ?_
  refine wx_VS1 dL_law_442 zPV_X8_profile zLk_L_53 rfl (Nat.le_of_ble_eq_true rfl) (Nat.le_of_ble_eq_true rfl) (Or.inl (Nat.le_refl _)) ?_
  refine op_profile hI hb (fun x m2 hag hs => ?_)
  have hl2 : (m2 155 0).toNatClampNeg = ln := hs.1.trans hl
  have hs2 : ∀ j, j < ln → m2 154 j = m1 154 j := fun j hj => hs.2 j (by show j < (m1 155 0).toNatClampNeg; rw [hl]; exact hj)
  refine wx_r1 ?_
  refine wx_aload_n (i := 2) dL_law_445 rfl rfl ?_
  refine wx_aloads_n (i := 0) dL_law_446 rfl rfl ?_
  refine wx_iload_n (i := 3) dL_law_447 rfl rfl ?_
  refine wx_iconst (v := 1) dL_law_448 (by decide) ?_
  refine wx_iadd dL_law_449 ?_
  refine wx_sldG (j := 4 * b + 1) (n := ln) dL_law_450 (by rw [show (1 : Int32) = nI 1 from rfl, nI_add]) hl2 (by omega) (by omega) ?_
  refine wx_V1 dL_law_451 zPV_X9_profile zLk_L_56 rfl (Nat.le_of_ble_eq_true rfl) (Nat.le_of_ble_eq_true rfl) (Or.inl (Nat.le_refl _)) ?_
  rw [hs2 (4 * b + 1) (by omega)]
  refine hag _ (fun m3 hI3 => ?_)
  refine wx_r1 ?_
  refine wx_icmp_eq (tgt := 1039) dL_law_454 (by decide) (fun h454 => ?_) (fun h454 => ?_)
  · exact hnext m3 hI3 --end
  · exact absurd rfl h454 --end
theorem lw_wire {d : Nat} {K : List Value → zS → Prop} {sc : Nat → Int32} {ln b n : Nat} {m1 : zM} (hI : zIn sc ln n b m1) (hb : b < 1000) (hln : ln ≤ 2048) (h4 : 4 * b + 4 ≤ ln) (hnext : ∀ m3, zInv sc ln (b + 1) m3 → wx (d + 81) mL_law 1039 [some .null, some (.ref 0), some (.ref 128), some (.int (nI (4 * b)))] [] (zG m3) K) : wx (d + 81) mL_law 459 [some .null, some (.ref 0), some (.ref 128), some (.int (nI (4 * b)))] [] (zG m1) K := by
  have hl : (m1 155 0).toNatClampNeg = ln := by rw [hI.2.2.2.2.2.2.2.2.2]; exact nI_clamp (by omega)
  refine wx_aload_n (i := 1) dL_law_459 rfl rfl ?_
  refine wx_aloads_n (i := 0) dL_law_460 rfl rfl ?_
  refine wx_iload_n (i := 3) dL_law_461 rfl rfl ?_
  refine wx_iconst (v := 1) dL_law_462 (by decide) ?_
  refine wx_iadd dL_law_463 ?_
  refine wx_sldG (j := 4 * b + 1) (n := ln) dL_law_464 (by rw [show (1 : Int32) = nI 1 from rfl, nI_add]) hl (by omega) (by omega) ?_
  refine wx_aloads_n (i := 0) dL_law_465 rfl rfl ?_
  refine wx_iload_n (i := 3) dL_law_466 rfl rfl ?_
  refine wx_iconst (v := 2) dL_law_467 (by decide) ?_
  refine wx_iadd dL_law_468 ?_
  refine wx_sldG (j := 4 * b + 2) (n := ln) dL_law_469 (by rw [show (2 : Int32) = nI 2 from rfl, nI_add]) hl (by omega) (by omega) ?_
  refine wx_aloads_n (i := 0) dL_law_470 rfl rfl ?_
  refine wx_iload_n (i := 3) dL_law_471 rfl rfl ?_
  refine wx_iconst (v := 3) dL_law_472 (by decide) ?_
  refine wx_iadd dL_law_473 ?_
  refine wx_sldG (j := 4 * b + 3) (n := ln) dL_law_474 (by rw [show (3 : Int32) = nI 3 from rfl, nI_add]) hl (by omega) (by omega) ?_
  refine wx_VS3 dL_law_475 zPV_X8_wire zLk_L_57 rfl (Nat.le_of_ble_eq_true rfl) (Nat.le_of_ble_eq_true rfl) (Or.inl (Nat.le_refl _)) ?_
  refine op_wire hI hb (fun x m2 hag hs => ?_)
  have hl2 : (m2 155 0).toNatClampNeg = ln := hs.1.trans hl
  have hs2 : ∀ j, j < ln → m2 154 j = m1 154 j := fun j hj => hs.2 j (by show j < (m1 155 0).toNatClampNeg; rw [hl]; exact hj)
  refine wx_r1 ?_
  refine wx_aload_n (i := 2) dL_law_478 rfl rfl ?_
  refine wx_aloads_n (i := 0) dL_law_479 rfl rfl ?_
  refine wx_iload_n (i := 3) dL_law_480 rfl rfl ?_
  refine wx_iconst (v := 1) dL_law_481 (by decide) ?_
  refine wx_iadd dL_law_482 ?_
  refine wx_sldG (j := 4 * b + 1) (n := ln) dL_law_483 (by rw [show (1 : Int32) = nI 1 from rfl, nI_add]) hl2 (by omega) (by omega) ?_
  refine wx_aloads_n (i := 0) dL_law_484 rfl rfl ?_
  refine wx_iload_n (i := 3) dL_law_485 rfl rfl ?_
  refine wx_iconst (v := 2) dL_law_486 (by decide) ?_
  refine wx_iadd dL_law_487 ?_
  refine wx_sldG (j := 4 * b + 2) (n := ln) dL_law_488 (by rw [show (2 : Int32) = nI 2 from rfl, nI_add]) hl2 (by omega) (by omega) ?_
  refine wx_aloads_n (i := 0) dL_law_489 rfl rfl ?_
  refine wx_iload_n (i := 3) dL_law_490 rfl rfl ?_
  refine wx_iconst (v := 3) dL_law_491 (by decide) ?_
  refine wx_iadd dL_law_492 ?_
  refine wx_sldG (j := 4 * b + 3) (n := ln) dL_law_493 (by rw [show (3 : Int32) = nI 3 from rfl, nI_add]) hl2 (by omega) (by omega) ?_
  refine wx_V3 dL_law_494 zPV_X9_wire zLk_L_60 rfl (Nat.le_of_ble_eq_true rfl) (Nat.le_of_ble_eq_true rfl) (Or.inl (Nat.le_refl _)) ?_
  rw [hs2 (4 * b + 1) (by omega), hs2 (4 * b + 2) (by omega), hs2 (4 * b + 3) (by omega)]
  refine hag _ (fun m3 hI3 => ?_)
  refine wx_r1 ?_
  refine wx_icmp_eq (tgt := 1039) dL_law_497 (by decide) (fun h497 => ?_) (fun h497 => ?_)
  · exact hnext m3 hI3 --end
  · exact absurd rfl h497 --end
theorem lw_wires {d : Nat} {K : List Value → zS → Prop} {sc : Nat → Int32} {ln b n : Nat} {m1 : zM} (hI : zIn sc ln n b m1) (hb : b < 1000) (hln : ln ≤ 2048) (h4 : 4 * b + 4 ≤ ln) (hnext : ∀ m3, zInv sc ln (b + 1) m3 → wx (d + 81) mL_law 1039 [some .null, some (.ref 0), some (.ref 128), some (.int (nI (4 * b)))] [] (zG m3) K) : wx (d + 81) mL_law 502 [some .null, some (.ref 0), some (.ref 128), some (.int (nI (4 * b)))] [] (zG m1) K := by
  have hl : (m1 155 0).toNatClampNeg = ln := by rw [hI.2.2.2.2.2.2.2.2.2]; exact nI_clamp (by omega)
  refine wx_aload_n (i := 1) dL_law_502 rfl rfl ?_
  refine wx_aloads_n (i := 0) dL_law_503 rfl rfl ?_
  refine wx_iload_n (i := 3) dL_law_504 rfl rfl ?_
  refine wx_iconst (v := 1) dL_law_505 (by decide) ?_
  refine wx_iadd dL_law_506 ?_
  refine wx_sldG (j := 4 * b + 1) (n := ln) dL_law_507 (by rw [show (1 : Int32) = nI 1 from rfl, nI_add]) hl (by omega) (by omega) ?_
  refine wx_VS1 dL_law_508 zPV_X8_wires zLk_L_61 rfl (Nat.le_of_ble_eq_true rfl) (Nat.le_of_ble_eq_true rfl) (Or.inl (Nat.le_refl _)) ?_
  refine op_wires hI hb (fun x m2 hag hs => ?_)
  have hl2 : (m2 155 0).toNatClampNeg = ln := hs.1.trans hl
  have hs2 : ∀ j, j < ln → m2 154 j = m1 154 j := fun j hj => hs.2 j (by show j < (m1 155 0).toNatClampNeg; rw [hl]; exact hj)
  refine wx_r1 ?_
  refine wx_aload_n (i := 2) dL_law_511 rfl rfl ?_
  refine wx_aloads_n (i := 0) dL_law_512 rfl rfl ?_
  refine wx_iload_n (i := 3) dL_law_513 rfl rfl ?_
  refine wx_iconst (v := 1) dL_law_514 (by decide) ?_
  refine wx_iadd dL_law_515 ?_
  refine wx_sldG (j := 4 * b + 1) (n := ln) dL_law_516 (by rw [show (1 : Int32) = nI 1 from rfl, nI_add]) hl2 (by omega) (by omega) ?_
  refine wx_V1 dL_law_517 zPV_X9_wires zLk_L_64 rfl (Nat.le_of_ble_eq_true rfl) (Nat.le_of_ble_eq_true rfl) (Or.inl (Nat.le_refl _)) ?_
  rw [hs2 (4 * b + 1) (by omega)]
  refine hag _ (fun m3 hI3 => ?_)
  refine wx_r1 ?_
  refine wx_icmp_eq (tgt := 1039) dL_law_520 (by decide) (fun h520 => ?_) (fun h520 => ?_)
  · exact hnext m3 hI3 --end
  · exact absurd rfl h520 --end
theorem lw_pull {d : Nat} {K : List Value → zS → Prop} {sc : Nat → Int32} {ln b n : Nat} {m1 : zM} (hI : zIn sc ln n b m1) (hb : b < 1000) (hln : ln ≤ 2048) (h4 : 4 * b + 4 ≤ ln) (hnext : ∀ m3, zInv sc ln (b + 1) m3 → wx (d + 81) mL_law 1039 [some .null, some (.ref 0), some (.ref 128), some (.int (nI (4 * b)))] [] (zG m3) K) : wx (d + 81) mL_law 525 [some .null, some (.ref 0), some (.ref 128), some (.int (nI (4 * b)))] [] (zG m1) K := by
  have hl : (m1 155 0).toNatClampNeg = ln := by rw [hI.2.2.2.2.2.2.2.2.2]; exact nI_clamp (by omega)
  refine wx_aload_n (i := 1) dL_law_525 rfl rfl ?_
  refine wx_aloads_n (i := 0) dL_law_526 rfl rfl ?_
  refine wx_iload_n (i := 3) dL_law_527 rfl rfl ?_
  refine wx_iconst (v := 1) dL_law_528 (by decide) ?_
  refine wx_iadd dL_law_529 ?_
  refine wx_sldG (j := 4 * b + 1) (n := ln) dL_law_530 (by rw [show (1 : Int32) = nI 1 from rfl, nI_add]) hl (by omega) (by omega) ?_
  refine wx_aloads_n (i := 0) dL_law_531 rfl rfl ?_
  refine wx_iload_n (i := 3) dL_law_532 rfl rfl ?_
  refine wx_iconst (v := 2) dL_law_533 (by decide) ?_
  refine wx_iadd dL_law_534 ?_
  refine wx_sldG (j := 4 * b + 2) (n := ln) dL_law_535 (by rw [show (2 : Int32) = nI 2 from rfl, nI_add]) hl (by omega) (by omega) ?_
  refine wx_aloads_n (i := 0) dL_law_536 rfl rfl ?_
  refine wx_iload_n (i := 3) dL_law_537 rfl rfl ?_
  refine wx_iconst (v := 3) dL_law_538 (by decide) ?_
  refine wx_iadd dL_law_539 ?_
  refine wx_sldG (j := 4 * b + 3) (n := ln) dL_law_540 (by rw [show (3 : Int32) = nI 3 from rfl, nI_add]) hl (by omega) (by omega) ?_
  refine wx_VS3 dL_law_541 zPV_X8_pull zLk_L_65 rfl (Nat.le_of_ble_eq_true rfl) (Nat.le_of_ble_eq_true rfl) (Or.inl (Nat.le_refl _)) ?_
  refine op_pull hI hb (fun x m2 hag hs => ?_)
  have hl2 : (m2 155 0).toNatClampNeg = ln := hs.1.trans hl
  have hs2 : ∀ j, j < ln → m2 154 j = m1 154 j := fun j hj => hs.2 j (by show j < (m1 155 0).toNatClampNeg; rw [hl]; exact hj)
  refine wx_r1 ?_
  refine wx_aload_n (i := 2) dL_law_544 rfl rfl ?_
  refine wx_aloads_n (i := 0) dL_law_545 rfl rfl ?_
  refine wx_iload_n (i := 3) dL_law_546 rfl rfl ?_
  refine wx_iconst (v := 1) dL_law_547 (by decide) ?_
  refine wx_iadd dL_law_548 ?_
  refine wx_sldG (j := 4 * b + 1) (n := ln) dL_law_549 (by rw [show (1 : Int32) = nI 1 from rfl, nI_add]) hl2 (by omega) (by omega) ?_
  refine wx_aloads_n (i := 0) dL_law_550 rfl rfl ?_
  refine wx_iload_n (i := 3) dL_law_551 rfl rfl ?_
  refine wx_iconst (v := 2) dL_law_552 (by decide) ?_
  refine wx_iadd dL_law_553 ?_
  refine wx_sldG (j := 4 * b + 2) (n := ln) dL_law_554 (by rw [show (2 : Int32) = nI 2 from rfl, nI_add]) hl2 (by omega) (by omega) ?_
  refine wx_aloads_n (i := 0) dL_law_555 rfl rfl ?_
  refine wx_iload_n (i := 3) dL_law_556 rfl rfl ?_
  refine wx_iconst (v := 3) dL_law_557 (by decide) ?_
  refine wx_iadd dL_law_558 ?_
  refine wx_sldG (j := 4 * b + 3) (n := ln) dL_law_559 (by rw [show (3 : Int32) = nI 3 from rfl, nI_add]) hl2 (by omega) (by omega) ?_
  refine wx_V3 dL_law_560 zPV_X9_pull zLk_L_68 rfl (Nat.le_of_ble_eq_true rfl) (Nat.le_of_ble_eq_true rfl) (Or.inl (Nat.le_refl _)) ?_
  rw [hs2 (4 * b + 1) (by omega), hs2 (4 * b + 2) (by omega), hs2 (4 * b + 3) (by omega)]
  refine hag _ (fun m3 hI3 => ?_)
  refine wx_r1 ?_
  refine wx_icmp_eq (tgt := 1039) dL_law_563 (by decide) (fun h563 => ?_) (fun h563 => ?_)
  · exact hnext m3 hI3 --end
  · exact absurd rfl h563 --end
theorem lw_rest {d : Nat} {K : List Value → zS → Prop} {sc : Nat → Int32} {ln b n : Nat} {m1 : zM} (hI : zIn sc ln n b m1) (hb : b < 1000) (hln : ln ≤ 2048) (h4 : 4 * b + 4 ≤ ln) (hnext : ∀ m3, zInv sc ln (b + 1) m3 → wx (d + 81) mL_law 1039 [some .null, some (.ref 0), some (.ref 128), some (.int (nI (4 * b)))] [] (zG m3) K) : wx (d + 81) mL_law 568 [some .null, some (.ref 0), some (.ref 128), some (.int (nI (4 * b)))] [] (zG m1) K := by
  have hl : (m1 155 0).toNatClampNeg = ln := by rw [hI.2.2.2.2.2.2.2.2.2]; exact nI_clamp (by omega)
  refine wx_aload_n (i := 1) dL_law_568 rfl rfl ?_
  refine wx_aloads_n (i := 0) dL_law_569 rfl rfl ?_
  refine wx_iload_n (i := 3) dL_law_570 rfl rfl ?_
  refine wx_iconst (v := 1) dL_law_571 (by decide) ?_
  refine wx_iadd dL_law_572 ?_
  refine wx_sldG (j := 4 * b + 1) (n := ln) dL_law_573 (by rw [show (1 : Int32) = nI 1 from rfl, nI_add]) hl (by omega) (by omega) ?_
  refine wx_VS1 dL_law_574 zPV_X8_rest zLk_L_69 rfl (Nat.le_of_ble_eq_true rfl) (Nat.le_of_ble_eq_true rfl) (Or.inl (Nat.le_refl _)) ?_
  refine op_rest hI hb (fun x m2 hag hs => ?_)
  have hl2 : (m2 155 0).toNatClampNeg = ln := hs.1.trans hl
  have hs2 : ∀ j, j < ln → m2 154 j = m1 154 j := fun j hj => hs.2 j (by show j < (m1 155 0).toNatClampNeg; rw [hl]; exact hj)
  refine wx_r1 ?_
  refine wx_aload_n (i := 2) dL_law_577 rfl rfl ?_
  refine wx_aloads_n (i := 0) dL_law_578 rfl rfl ?_
  refine wx_iload_n (i := 3) dL_law_579 rfl rfl ?_
  refine wx_iconst (v := 1) dL_law_580 (by decide) ?_
  refine wx_iadd dL_law_581 ?_
  refine wx_sldG (j := 4 * b + 1) (n := ln) dL_law_582 (by rw [show (1 : Int32) = nI 1 from rfl, nI_add]) hl2 (by omega) (by omega) ?_
  refine wx_V1 dL_law_583 zPV_X9_rest zLk_L_72 rfl (Nat.le_of_ble_eq_true rfl) (Nat.le_of_ble_eq_true rfl) (Or.inl (Nat.le_refl _)) ?_
  rw [hs2 (4 * b + 1) (by omega)]
  refine hag _ (fun m3 hI3 => ?_)
  refine wx_r1 ?_
  refine wx_icmp_eq (tgt := 1039) dL_law_586 (by decide) (fun h586 => ?_) (fun h586 => ?_)
  · exact hnext m3 hI3 --end
  · exact absurd rfl h586 --end
theorem lw_stroke {d : Nat} {K : List Value → zS → Prop} {sc : Nat → Int32} {ln b n : Nat} {m1 : zM} (hI : zIn sc ln n b m1) (hb : b < 1000) (hln : ln ≤ 2048) (h4 : 4 * b + 4 ≤ ln) (hnext : ∀ m3, zInv sc ln (b + 1) m3 → wx (d + 81) mL_law 1039 [some .null, some (.ref 0), some (.ref 128), some (.int (nI (4 * b)))] [] (zG m3) K) : wx (d + 81) mL_law 591 [some .null, some (.ref 0), some (.ref 128), some (.int (nI (4 * b)))] [] (zG m1) K := by
  have hl : (m1 155 0).toNatClampNeg = ln := by rw [hI.2.2.2.2.2.2.2.2.2]; exact nI_clamp (by omega)
  refine wx_aload_n (i := 1) dL_law_591 rfl rfl ?_
  refine wx_aloads_n (i := 0) dL_law_592 rfl rfl ?_
  refine wx_iload_n (i := 3) dL_law_593 rfl rfl ?_
  refine wx_iconst (v := 1) dL_law_594 (by decide) ?_
  refine wx_iadd dL_law_595 ?_
  refine wx_sldG (j := 4 * b + 1) (n := ln) dL_law_596 (by rw [show (1 : Int32) = nI 1 from rfl, nI_add]) hl (by omega) (by omega) ?_
  refine wx_aloads_n (i := 0) dL_law_597 rfl rfl ?_
  refine wx_iload_n (i := 3) dL_law_598 rfl rfl ?_
  refine wx_iconst (v := 2) dL_law_599 (by decide) ?_
  refine wx_iadd dL_law_600 ?_
  refine wx_sldG (j := 4 * b + 2) (n := ln) dL_law_601 (by rw [show (2 : Int32) = nI 2 from rfl, nI_add]) hl (by omega) (by omega) ?_
  refine wx_aloads_n (i := 0) dL_law_602 rfl rfl ?_
  refine wx_iload_n (i := 3) dL_law_603 rfl rfl ?_
  refine wx_iconst (v := 3) dL_law_604 (by decide) ?_
  refine wx_iadd dL_law_605 ?_
  refine wx_sldG (j := 4 * b + 3) (n := ln) dL_law_606 (by rw [show (3 : Int32) = nI 3 from rfl, nI_add]) hl (by omega) (by omega) ?_
  refine wx_VS3 dL_law_607 zPV_X8_stroke zLk_L_73 rfl (Nat.le_of_ble_eq_true rfl) (Nat.le_of_ble_eq_true rfl) (Or.inl (Nat.le_refl _)) ?_
  refine op_stroke hI hb (fun x m2 hag hs => ?_)
  have hl2 : (m2 155 0).toNatClampNeg = ln := hs.1.trans hl
  have hs2 : ∀ j, j < ln → m2 154 j = m1 154 j := fun j hj => hs.2 j (by show j < (m1 155 0).toNatClampNeg; rw [hl]; exact hj)
  refine wx_r1 ?_
  refine wx_aload_n (i := 2) dL_law_610 rfl rfl ?_
  refine wx_aloads_n (i := 0) dL_law_611 rfl rfl ?_
  refine wx_iload_n (i := 3) dL_law_612 rfl rfl ?_
  refine wx_iconst (v := 1) dL_law_613 (by decide) ?_
  refine wx_iadd dL_law_614 ?_
  refine wx_sldG (j := 4 * b + 1) (n := ln) dL_law_615 (by rw [show (1 : Int32) = nI 1 from rfl, nI_add]) hl2 (by omega) (by omega) ?_
  refine wx_aloads_n (i := 0) dL_law_616 rfl rfl ?_
  refine wx_iload_n (i := 3) dL_law_617 rfl rfl ?_
  refine wx_iconst (v := 2) dL_law_618 (by decide) ?_
  refine wx_iadd dL_law_619 ?_
  refine wx_sldG (j := 4 * b + 2) (n := ln) dL_law_620 (by rw [show (2 : Int32) = nI 2 from rfl, nI_add]) hl2 (by omega) (by omega) ?_
  refine wx_aloads_n (i := 0) dL_law_621 rfl rfl ?_
  refine wx_iload_n (i := 3) dL_law_622 rfl rfl ?_
  refine wx_iconst (v := 3) dL_law_623 (by decide) ?_
  refine wx_iadd dL_law_624 ?_
  refine wx_sldG (j := 4 * b + 3) (n := ln) dL_law_625 (by rw [show (3 : Int32) = nI 3 from rfl, nI_add]) hl2 (by omega) (by omega) ?_
  refine wx_V3 dL_law_626 zPV_X9_stroke zLk_L_76 rfl (Nat.le_of_ble_eq_true rfl) (Nat.le_of_ble_eq_true rfl) (Or.inl (Nat.le_refl _)) ?_
  rw [hs2 (4 * b + 1) (by omega), hs2 (4 * b + 2) (by omega), hs2 (4 * b + 3) (by omega)]
  refine hag _ (fun m3 hI3 => ?_)
  refine wx_r1 ?_
  refine wx_icmp_eq (tgt := 1039) dL_law_629 (by decide) (fun h629 => ?_) (fun h629 => ?_)
  · exact hnext m3 hI3 --end
  · exact absurd rfl h629 --end
theorem lw_undo {d : Nat} {K : List Value → zS → Prop} {sc : Nat → Int32} {ln b n : Nat} {m1 : zM} (hI : zIn sc ln n b m1) (hb : b < 1000) (hln : ln ≤ 2048) (h4 : 4 * b + 4 ≤ ln) (hnext : ∀ m3, zInv sc ln (b + 1) m3 → wx (d + 81) mL_law 1039 [some .null, some (.ref 0), some (.ref 128), some (.int (nI (4 * b)))] [] (zG m3) K) : wx (d + 81) mL_law 634 [some .null, some (.ref 0), some (.ref 128), some (.int (nI (4 * b)))] [] (zG m1) K := by
  have hl : (m1 155 0).toNatClampNeg = ln := by rw [hI.2.2.2.2.2.2.2.2.2]; exact nI_clamp (by omega)
  refine wx_aload_n (i := 1) dL_law_634 rfl rfl ?_
  refine wx_VS0 dL_law_635 zPV_X8_undo zLk_L_77 rfl (Nat.le_of_ble_eq_true rfl) (Nat.le_of_ble_eq_true rfl) (Or.inl (Nat.le_refl _)) ?_
  refine op_undo hI hb (fun x m2 hag hs => ?_)
  have hl2 : (m2 155 0).toNatClampNeg = ln := hs.1.trans hl
  have hs2 : ∀ j, j < ln → m2 154 j = m1 154 j := fun j hj => hs.2 j (by show j < (m1 155 0).toNatClampNeg; rw [hl]; exact hj)
  refine wx_r1 ?_
  refine wx_aload_n (i := 2) dL_law_638 rfl rfl ?_
  refine wx_V0 dL_law_639 zPV_X9_undo zLk_L_81 rfl (Nat.le_of_ble_eq_true rfl) (Nat.le_of_ble_eq_true rfl) (Or.inl (Nat.le_refl _)) ?_
  refine hag _ (fun m3 hI3 => ?_)
  refine wx_r1 ?_
  refine wx_icmp_eq (tgt := 1039) dL_law_642 (by decide) (fun h642 => ?_) (fun h642 => ?_)
  · exact hnext m3 hI3 --end
  · exact absurd rfl h642 --end
theorem lw_replay {d : Nat} {K : List Value → zS → Prop} {sc : Nat → Int32} {ln b n : Nat} {m1 : zM} (hI : zIn sc ln n b m1) (hb : b < 1000) (hln : ln ≤ 2048) (h4 : 4 * b + 4 ≤ ln) (hnext : ∀ m3, zInv sc ln (b + 1) m3 → wx (d + 81) mL_law 1039 [some .null, some (.ref 0), some (.ref 128), some (.int (nI (4 * b)))] [] (zG m3) K) : wx (d + 81) mL_law 647 [some .null, some (.ref 0), some (.ref 128), some (.int (nI (4 * b)))] [] (zG m1) K := by
  have hl : (m1 155 0).toNatClampNeg = ln := by rw [hI.2.2.2.2.2.2.2.2.2]; exact nI_clamp (by omega)
  refine wx_aload_n (i := 1) dL_law_647 rfl rfl ?_
  refine wx_aloads_n (i := 0) dL_law_648 rfl rfl ?_
  refine wx_iload_n (i := 3) dL_law_649 rfl rfl ?_
  refine wx_iconst (v := 1) dL_law_650 (by decide) ?_
  refine wx_iadd dL_law_651 ?_
  refine wx_sldG (j := 4 * b + 1) (n := ln) dL_law_652 (by rw [show (1 : Int32) = nI 1 from rfl, nI_add]) hl (by omega) (by omega) ?_
  refine wx_aloads_n (i := 0) dL_law_653 rfl rfl ?_
  refine wx_iload_n (i := 3) dL_law_654 rfl rfl ?_
  refine wx_iconst (v := 2) dL_law_655 (by decide) ?_
  refine wx_iadd dL_law_656 ?_
  refine wx_sldG (j := 4 * b + 2) (n := ln) dL_law_657 (by rw [show (2 : Int32) = nI 2 from rfl, nI_add]) hl (by omega) (by omega) ?_
  refine wx_VS2 dL_law_658 zPV_X8_replay zLk_L_82 rfl (Nat.le_of_ble_eq_true rfl) (Nat.le_of_ble_eq_true rfl) (Or.inl (Nat.le_refl _)) ?_
  refine op_replay hI hb (fun x m2 hag hs => ?_)
  have hl2 : (m2 155 0).toNatClampNeg = ln := hs.1.trans hl
  have hs2 : ∀ j, j < ln → m2 154 j = m1 154 j := fun j hj => hs.2 j (by show j < (m1 155 0).toNatClampNeg; rw [hl]; exact hj)
  refine wx_r1 ?_
  refine wx_aload_n (i := 2) dL_law_661 rfl rfl ?_
  refine wx_aloads_n (i := 0) dL_law_662 rfl rfl ?_
  refine wx_iload_n (i := 3) dL_law_663 rfl rfl ?_
  refine wx_iconst (v := 1) dL_law_664 (by decide) ?_
  refine wx_iadd dL_law_665 ?_
  refine wx_sldG (j := 4 * b + 1) (n := ln) dL_law_666 (by rw [show (1 : Int32) = nI 1 from rfl, nI_add]) hl2 (by omega) (by omega) ?_
  refine wx_aloads_n (i := 0) dL_law_667 rfl rfl ?_
  refine wx_iload_n (i := 3) dL_law_668 rfl rfl ?_
  refine wx_iconst (v := 2) dL_law_669 (by decide) ?_
  refine wx_iadd dL_law_670 ?_
  refine wx_sldG (j := 4 * b + 2) (n := ln) dL_law_671 (by rw [show (2 : Int32) = nI 2 from rfl, nI_add]) hl2 (by omega) (by omega) ?_
  refine wx_V2 dL_law_672 zPV_X9_replay zLk_L_85 rfl (Nat.le_of_ble_eq_true rfl) (Nat.le_of_ble_eq_true rfl) (Or.inl (Nat.le_refl _)) ?_
  rw [hs2 (4 * b + 1) (by omega), hs2 (4 * b + 2) (by omega)]
  refine hag _ (fun m3 hI3 => ?_)
  refine wx_r1 ?_
  refine wx_icmp_eq (tgt := 1039) dL_law_675 (by decide) (fun h675 => ?_) (fun h675 => ?_)
  · exact hnext m3 hI3 --end
  · exact absurd rfl h675 --end
theorem lw_plan {d : Nat} {K : List Value → zS → Prop} {sc : Nat → Int32} {ln b n : Nat} {m1 : zM} (hI : zIn sc ln n b m1) (hb : b < 1000) (hln : ln ≤ 2048) (h4 : 4 * b + 4 ≤ ln) (hnext : ∀ m3, zInv sc ln (b + 1) m3 → wx (d + 81) mL_law 1039 [some .null, some (.ref 0), some (.ref 128), some (.int (nI (4 * b)))] [] (zG m3) K) : wx (d + 81) mL_law 680 [some .null, some (.ref 0), some (.ref 128), some (.int (nI (4 * b)))] [] (zG m1) K := by
  have hl : (m1 155 0).toNatClampNeg = ln := by rw [hI.2.2.2.2.2.2.2.2.2]; exact nI_clamp (by omega)
  refine wx_aload_n (i := 1) dL_law_680 rfl rfl ?_
  refine wx_aloads_n (i := 0) dL_law_681 rfl rfl ?_
  refine wx_iload_n (i := 3) dL_law_682 rfl rfl ?_
  refine wx_iconst (v := 1) dL_law_683 (by decide) ?_
  refine wx_iadd dL_law_684 ?_
  refine wx_sldG (j := 4 * b + 1) (n := ln) dL_law_685 (by rw [show (1 : Int32) = nI 1 from rfl, nI_add]) hl (by omega) (by omega) ?_
  refine wx_aloads_n (i := 0) dL_law_686 rfl rfl ?_
  refine wx_iload_n (i := 3) dL_law_687 rfl rfl ?_
  refine wx_iconst (v := 2) dL_law_688 (by decide) ?_
  refine wx_iadd dL_law_689 ?_
  refine wx_sldG (j := 4 * b + 2) (n := ln) dL_law_690 (by rw [show (2 : Int32) = nI 2 from rfl, nI_add]) hl (by omega) (by omega) ?_
  refine wx_VS2 dL_law_691 zPV_X8_plan zLk_L_86 rfl (Nat.le_of_ble_eq_true rfl) (Nat.le_of_ble_eq_true rfl) (Or.inl (Nat.le_refl _)) ?_
  refine op_plan hI hb (fun x m2 hag hs => ?_)
  have hl2 : (m2 155 0).toNatClampNeg = ln := hs.1.trans hl
  have hs2 : ∀ j, j < ln → m2 154 j = m1 154 j := fun j hj => hs.2 j (by show j < (m1 155 0).toNatClampNeg; rw [hl]; exact hj)
  refine wx_r1 ?_
  refine wx_aload_n (i := 2) dL_law_694 rfl rfl ?_
  refine wx_aloads_n (i := 0) dL_law_695 rfl rfl ?_
  refine wx_iload_n (i := 3) dL_law_696 rfl rfl ?_
  refine wx_iconst (v := 1) dL_law_697 (by decide) ?_
  refine wx_iadd dL_law_698 ?_
  refine wx_sldG (j := 4 * b + 1) (n := ln) dL_law_699 (by rw [show (1 : Int32) = nI 1 from rfl, nI_add]) hl2 (by omega) (by omega) ?_
  refine wx_aloads_n (i := 0) dL_law_700 rfl rfl ?_
  refine wx_iload_n (i := 3) dL_law_701 rfl rfl ?_
  refine wx_iconst (v := 2) dL_law_702 (by decide) ?_
  refine wx_iadd dL_law_703 ?_
  refine wx_sldG (j := 4 * b + 2) (n := ln) dL_law_704 (by rw [show (2 : Int32) = nI 2 from rfl, nI_add]) hl2 (by omega) (by omega) ?_
  refine wx_V2 dL_law_705 zPV_X9_plan zLk_L_89 rfl (Nat.le_of_ble_eq_true rfl) (Nat.le_of_ble_eq_true rfl) (Or.inl (Nat.le_refl _)) ?_
  rw [hs2 (4 * b + 1) (by omega), hs2 (4 * b + 2) (by omega)]
  refine hag _ (fun m3 hI3 => ?_)
  refine wx_r1 ?_
  refine wx_icmp_eq (tgt := 1039) dL_law_708 (by decide) (fun h708 => ?_) (fun h708 => ?_)
  · exact hnext m3 hI3 --end
  · exact absurd rfl h708 --end
theorem lw_right {d : Nat} {K : List Value → zS → Prop} {sc : Nat → Int32} {ln b n : Nat} {m1 : zM} (hI : zIn sc ln n b m1) (hb : b < 1000) (hln : ln ≤ 2048) (h4 : 4 * b + 4 ≤ ln) (hnext : ∀ m3, zInv sc ln (b + 1) m3 → wx (d + 81) mL_law 1039 [some .null, some (.ref 0), some (.ref 128), some (.int (nI (4 * b)))] [] (zG m3) K) : wx (d + 81) mL_law 713 [some .null, some (.ref 0), some (.ref 128), some (.int (nI (4 * b)))] [] (zG m1) K := by
  have hl : (m1 155 0).toNatClampNeg = ln := by rw [hI.2.2.2.2.2.2.2.2.2]; exact nI_clamp (by omega)
  refine wx_aload_n (i := 1) dL_law_713 rfl rfl ?_
  refine wx_aloads_n (i := 0) dL_law_714 rfl rfl ?_
  refine wx_iload_n (i := 3) dL_law_715 rfl rfl ?_
  refine wx_iconst (v := 1) dL_law_716 (by decide) ?_
  refine wx_iadd dL_law_717 ?_
  refine wx_sldG (j := 4 * b + 1) (n := ln) dL_law_718 (by rw [show (1 : Int32) = nI 1 from rfl, nI_add]) hl (by omega) (by omega) ?_
  refine wx_VS1 dL_law_719 zPV_X8_right zLk_L_90 rfl (Nat.le_of_ble_eq_true rfl) (Nat.le_of_ble_eq_true rfl) (Or.inl (Nat.le_refl _)) ?_
  refine op_right hI hb (fun x m2 hag hs => ?_)
  have hl2 : (m2 155 0).toNatClampNeg = ln := hs.1.trans hl
  have hs2 : ∀ j, j < ln → m2 154 j = m1 154 j := fun j hj => hs.2 j (by show j < (m1 155 0).toNatClampNeg; rw [hl]; exact hj)
  refine wx_r1 ?_
  refine wx_aload_n (i := 2) dL_law_722 rfl rfl ?_
  refine wx_aloads_n (i := 0) dL_law_723 rfl rfl ?_
  refine wx_iload_n (i := 3) dL_law_724 rfl rfl ?_
  refine wx_iconst (v := 1) dL_law_725 (by decide) ?_
  refine wx_iadd dL_law_726 ?_
  refine wx_sldG (j := 4 * b + 1) (n := ln) dL_law_727 (by rw [show (1 : Int32) = nI 1 from rfl, nI_add]) hl2 (by omega) (by omega) ?_
  refine wx_V1 dL_law_728 zPV_X9_right zLk_L_93 rfl (Nat.le_of_ble_eq_true rfl) (Nat.le_of_ble_eq_true rfl) (Or.inl (Nat.le_refl _)) ?_
  rw [hs2 (4 * b + 1) (by omega)]
  refine hag _ (fun m3 hI3 => ?_)
  refine wx_r1 ?_
  refine wx_icmp_eq (tgt := 1039) dL_law_731 (by decide) (fun h731 => ?_) (fun h731 => ?_)
  · exact hnext m3 hI3 --end
  · exact absurd rfl h731 --end
theorem lw_work {d : Nat} {K : List Value → zS → Prop} {sc : Nat → Int32} {ln b n : Nat} {m1 : zM} (hI : zIn sc ln n b m1) (hb : b < 1000) (hln : ln ≤ 2048) (h4 : 4 * b + 4 ≤ ln) (hnext : ∀ m3, zInv sc ln (b + 1) m3 → wx (d + 81) mL_law 1039 [some .null, some (.ref 0), some (.ref 128), some (.int (nI (4 * b)))] [] (zG m3) K) : wx (d + 81) mL_law 736 [some .null, some (.ref 0), some (.ref 128), some (.int (nI (4 * b)))] [] (zG m1) K := by
  have hl : (m1 155 0).toNatClampNeg = ln := by rw [hI.2.2.2.2.2.2.2.2.2]; exact nI_clamp (by omega)
  refine wx_aload_n (i := 1) dL_law_736 rfl rfl ?_
  refine wx_aloads_n (i := 0) dL_law_737 rfl rfl ?_
  refine wx_iload_n (i := 3) dL_law_738 rfl rfl ?_
  refine wx_iconst (v := 1) dL_law_739 (by decide) ?_
  refine wx_iadd dL_law_740 ?_
  refine wx_sldG (j := 4 * b + 1) (n := ln) dL_law_741 (by rw [show (1 : Int32) = nI 1 from rfl, nI_add]) hl (by omega) (by omega) ?_
  refine wx_VS1 dL_law_742 zPV_X8_work zLk_L_94 rfl (Nat.le_of_ble_eq_true rfl) (Nat.le_of_ble_eq_true rfl) (Or.inl (Nat.le_refl _)) ?_
  refine op_work hI hb (fun x m2 hag hs => ?_)
  have hl2 : (m2 155 0).toNatClampNeg = ln := hs.1.trans hl
  have hs2 : ∀ j, j < ln → m2 154 j = m1 154 j := fun j hj => hs.2 j (by show j < (m1 155 0).toNatClampNeg; rw [hl]; exact hj)
  refine wx_r1 ?_
  refine wx_aload_n (i := 2) dL_law_745 rfl rfl ?_
  refine wx_aloads_n (i := 0) dL_law_746 rfl rfl ?_
  refine wx_iload_n (i := 3) dL_law_747 rfl rfl ?_
  refine wx_iconst (v := 1) dL_law_748 (by decide) ?_
  refine wx_iadd dL_law_749 ?_
  refine wx_sldG (j := 4 * b + 1) (n := ln) dL_law_750 (by rw [show (1 : Int32) = nI 1 from rfl, nI_add]) hl2 (by omega) (by omega) ?_
  refine wx_V1 dL_law_751 zPV_X9_work zLk_L_97 rfl (Nat.le_of_ble_eq_true rfl) (Nat.le_of_ble_eq_true rfl) (Or.inl (Nat.le_refl _)) ?_
  rw [hs2 (4 * b + 1) (by omega)]
  refine hag _ (fun m3 hI3 => ?_)
  refine wx_r1 ?_
  refine wx_icmp_eq (tgt := 1039) dL_law_754 (by decide) (fun h754 => ?_) (fun h754 => ?_)
  · exact hnext m3 hI3 --end
  · exact absurd rfl h754 --end
theorem lw_bend {d : Nat} {K : List Value → zS → Prop} {sc : Nat → Int32} {ln b n : Nat} {m1 : zM} (hI : zIn sc ln n b m1) (hb : b < 1000) (hln : ln ≤ 2048) (h4 : 4 * b + 4 ≤ ln) (hnext : ∀ m3, zInv sc ln (b + 1) m3 → wx (d + 81) mL_law 1039 [some .null, some (.ref 0), some (.ref 128), some (.int (nI (4 * b)))] [] (zG m3) K) : wx (d + 81) mL_law 759 [some .null, some (.ref 0), some (.ref 128), some (.int (nI (4 * b)))] [] (zG m1) K := by
  have hl : (m1 155 0).toNatClampNeg = ln := by rw [hI.2.2.2.2.2.2.2.2.2]; exact nI_clamp (by omega)
  refine wx_aload_n (i := 1) dL_law_759 rfl rfl ?_
  refine wx_aloads_n (i := 0) dL_law_760 rfl rfl ?_
  refine wx_iload_n (i := 3) dL_law_761 rfl rfl ?_
  refine wx_iconst (v := 1) dL_law_762 (by decide) ?_
  refine wx_iadd dL_law_763 ?_
  refine wx_sldG (j := 4 * b + 1) (n := ln) dL_law_764 (by rw [show (1 : Int32) = nI 1 from rfl, nI_add]) hl (by omega) (by omega) ?_
  refine wx_aloads_n (i := 0) dL_law_765 rfl rfl ?_
  refine wx_iload_n (i := 3) dL_law_766 rfl rfl ?_
  refine wx_iconst (v := 2) dL_law_767 (by decide) ?_
  refine wx_iadd dL_law_768 ?_
  refine wx_sldG (j := 4 * b + 2) (n := ln) dL_law_769 (by rw [show (2 : Int32) = nI 2 from rfl, nI_add]) hl (by omega) (by omega) ?_
  refine wx_aloads_n (i := 0) dL_law_770 rfl rfl ?_
  refine wx_iload_n (i := 3) dL_law_771 rfl rfl ?_
  refine wx_iconst (v := 3) dL_law_772 (by decide) ?_
  refine wx_iadd dL_law_773 ?_
  refine wx_sldG (j := 4 * b + 3) (n := ln) dL_law_774 (by rw [show (3 : Int32) = nI 3 from rfl, nI_add]) hl (by omega) (by omega) ?_
  refine wx_VS3 dL_law_775 zPV_X8_bend zLk_L_98 rfl (Nat.le_of_ble_eq_true rfl) (Nat.le_of_ble_eq_true rfl) (Or.inl (Nat.le_refl _)) ?_
  refine op_bend hI hb (fun x m2 hag hs => ?_)
  have hl2 : (m2 155 0).toNatClampNeg = ln := hs.1.trans hl
  have hs2 : ∀ j, j < ln → m2 154 j = m1 154 j := fun j hj => hs.2 j (by show j < (m1 155 0).toNatClampNeg; rw [hl]; exact hj)
  refine wx_r1 ?_
  refine wx_aload_n (i := 2) dL_law_778 rfl rfl ?_
  refine wx_aloads_n (i := 0) dL_law_779 rfl rfl ?_
  refine wx_iload_n (i := 3) dL_law_780 rfl rfl ?_
  refine wx_iconst (v := 1) dL_law_781 (by decide) ?_
  refine wx_iadd dL_law_782 ?_
  refine wx_sldG (j := 4 * b + 1) (n := ln) dL_law_783 (by rw [show (1 : Int32) = nI 1 from rfl, nI_add]) hl2 (by omega) (by omega) ?_
  refine wx_aloads_n (i := 0) dL_law_784 rfl rfl ?_
  refine wx_iload_n (i := 3) dL_law_785 rfl rfl ?_
  refine wx_iconst (v := 2) dL_law_786 (by decide) ?_
  refine wx_iadd dL_law_787 ?_
  refine wx_sldG (j := 4 * b + 2) (n := ln) dL_law_788 (by rw [show (2 : Int32) = nI 2 from rfl, nI_add]) hl2 (by omega) (by omega) ?_
  refine wx_aloads_n (i := 0) dL_law_789 rfl rfl ?_
  refine wx_iload_n (i := 3) dL_law_790 rfl rfl ?_
  refine wx_iconst (v := 3) dL_law_791 (by decide) ?_
  refine wx_iadd dL_law_792 ?_
  refine wx_sldG (j := 4 * b + 3) (n := ln) dL_law_793 (by rw [show (3 : Int32) = nI 3 from rfl, nI_add]) hl2 (by omega) (by omega) ?_
  refine wx_V3 dL_law_794 zPV_X9_bend zLk_L_101 rfl (Nat.le_of_ble_eq_true rfl) (Nat.le_of_ble_eq_true rfl) (Or.inl (Nat.le_refl _)) ?_
  rw [hs2 (4 * b + 1) (by omega), hs2 (4 * b + 2) (by omega), hs2 (4 * b + 3) (by omega)]
  refine hag _ (fun m3 hI3 => ?_)
  refine wx_r1 ?_
  refine wx_icmp_eq (tgt := 1039) dL_law_797 (by decide) (fun h797 => ?_) (fun h797 => ?_)
  · exact hnext m3 hI3 --end
  · exact absurd rfl h797 --end
theorem lw_bear {d : Nat} {K : List Value → zS → Prop} {sc : Nat → Int32} {ln b n : Nat} {m1 : zM} (hI : zIn sc ln n b m1) (hb : b < 1000) (hln : ln ≤ 2048) (h4 : 4 * b + 4 ≤ ln) (hnext : ∀ m3, zInv sc ln (b + 1) m3 → wx (d + 81) mL_law 1039 [some .null, some (.ref 0), some (.ref 128), some (.int (nI (4 * b)))] [] (zG m3) K) : wx (d + 81) mL_law 802 [some .null, some (.ref 0), some (.ref 128), some (.int (nI (4 * b)))] [] (zG m1) K := by
  have hl : (m1 155 0).toNatClampNeg = ln := by rw [hI.2.2.2.2.2.2.2.2.2]; exact nI_clamp (by omega)
  refine wx_aload_n (i := 1) dL_law_802 rfl rfl ?_
  refine wx_aloads_n (i := 0) dL_law_803 rfl rfl ?_
  refine wx_iload_n (i := 3) dL_law_804 rfl rfl ?_
  refine wx_iconst (v := 1) dL_law_805 (by decide) ?_
  refine wx_iadd dL_law_806 ?_
  refine wx_sldG (j := 4 * b + 1) (n := ln) dL_law_807 (by rw [show (1 : Int32) = nI 1 from rfl, nI_add]) hl (by omega) (by omega) ?_
  refine wx_VS1 dL_law_808 zPV_X8_bear zLk_L_102 rfl (Nat.le_of_ble_eq_true rfl) (Nat.le_of_ble_eq_true rfl) (Or.inl (Nat.le_refl _)) ?_
  refine op_bear hI hb (fun x m2 hag hs => ?_)
  have hl2 : (m2 155 0).toNatClampNeg = ln := hs.1.trans hl
  have hs2 : ∀ j, j < ln → m2 154 j = m1 154 j := fun j hj => hs.2 j (by show j < (m1 155 0).toNatClampNeg; rw [hl]; exact hj)
  refine wx_r1 ?_
  refine wx_aload_n (i := 2) dL_law_811 rfl rfl ?_
  refine wx_aloads_n (i := 0) dL_law_812 rfl rfl ?_
  refine wx_iload_n (i := 3) dL_law_813 rfl rfl ?_
  refine wx_iconst (v := 1) dL_law_814 (by decide) ?_
  refine wx_iadd dL_law_815 ?_
  refine wx_sldG (j := 4 * b + 1) (n := ln) dL_law_816 (by rw [show (1 : Int32) = nI 1 from rfl, nI_add]) hl2 (by omega) (by omega) ?_
  refine wx_V1 dL_law_817 zPV_X9_bear zLk_L_105 rfl (Nat.le_of_ble_eq_true rfl) (Nat.le_of_ble_eq_true rfl) (Or.inl (Nat.le_refl _)) ?_
  rw [hs2 (4 * b + 1) (by omega)]
  refine hag _ (fun m3 hI3 => ?_)
  refine wx_r1 ?_
  refine wx_icmp_eq (tgt := 1039) dL_law_820 (by decide) (fun h820 => ?_) (fun h820 => ?_)
  · exact hnext m3 hI3 --end
  · exact absurd rfl h820 --end
theorem lw_warm {d : Nat} {K : List Value → zS → Prop} {sc : Nat → Int32} {ln b n : Nat} {m1 : zM} (hI : zIn sc ln n b m1) (hb : b < 1000) (hln : ln ≤ 2048) (h4 : 4 * b + 4 ≤ ln) (hnext : ∀ m3, zInv sc ln (b + 1) m3 → wx (d + 81) mL_law 1039 [some .null, some (.ref 0), some (.ref 128), some (.int (nI (4 * b)))] [] (zG m3) K) : wx (d + 81) mL_law 825 [some .null, some (.ref 0), some (.ref 128), some (.int (nI (4 * b)))] [] (zG m1) K := by
  have hl : (m1 155 0).toNatClampNeg = ln := by rw [hI.2.2.2.2.2.2.2.2.2]; exact nI_clamp (by omega)
  refine wx_aload_n (i := 1) dL_law_825 rfl rfl ?_
  refine wx_aloads_n (i := 0) dL_law_826 rfl rfl ?_
  refine wx_iload_n (i := 3) dL_law_827 rfl rfl ?_
  refine wx_iconst (v := 1) dL_law_828 (by decide) ?_
  refine wx_iadd dL_law_829 ?_
  refine wx_sldG (j := 4 * b + 1) (n := ln) dL_law_830 (by rw [show (1 : Int32) = nI 1 from rfl, nI_add]) hl (by omega) (by omega) ?_
  refine wx_aloads_n (i := 0) dL_law_831 rfl rfl ?_
  refine wx_iload_n (i := 3) dL_law_832 rfl rfl ?_
  refine wx_iconst (v := 2) dL_law_833 (by decide) ?_
  refine wx_iadd dL_law_834 ?_
  refine wx_sldG (j := 4 * b + 2) (n := ln) dL_law_835 (by rw [show (2 : Int32) = nI 2 from rfl, nI_add]) hl (by omega) (by omega) ?_
  refine wx_VS2 dL_law_836 zPV_X8_warm zLk_L_106 rfl (Nat.le_of_ble_eq_true rfl) (Nat.le_of_ble_eq_true rfl) (Or.inl (Nat.le_refl _)) ?_
  refine op_warm hI hb (fun x m2 hag hs => ?_)
  have hl2 : (m2 155 0).toNatClampNeg = ln := hs.1.trans hl
  have hs2 : ∀ j, j < ln → m2 154 j = m1 154 j := fun j hj => hs.2 j (by show j < (m1 155 0).toNatClampNeg; rw [hl]; exact hj)
  refine wx_r1 ?_
  refine wx_aload_n (i := 2) dL_law_839 rfl rfl ?_
  refine wx_aloads_n (i := 0) dL_law_840 rfl rfl ?_
  refine wx_iload_n (i := 3) dL_law_841 rfl rfl ?_
  refine wx_iconst (v := 1) dL_law_842 (by decide) ?_
  refine wx_iadd dL_law_843 ?_
  refine wx_sldG (j := 4 * b + 1) (n := ln) dL_law_844 (by rw [show (1 : Int32) = nI 1 from rfl, nI_add]) hl2 (by omega) (by omega) ?_
  refine wx_aloads_n (i := 0) dL_law_845 rfl rfl ?_
  refine wx_iload_n (i := 3) dL_law_846 rfl rfl ?_
  refine wx_iconst (v := 2) dL_law_847 (by decide) ?_
  refine wx_iadd dL_law_848 ?_
  refine wx_sldG (j := 4 * b + 2) (n := ln) dL_law_849 (by rw [show (2 : Int32) = nI 2 from rfl, nI_add]) hl2 (by omega) (by omega) ?_
  refine wx_V2 dL_law_850 zPV_X9_warm zLk_L_109 rfl (Nat.le_of_ble_eq_true rfl) (Nat.le_of_ble_eq_true rfl) (Or.inl (Nat.le_refl _)) ?_
  rw [hs2 (4 * b + 1) (by omega), hs2 (4 * b + 2) (by omega)]
  refine hag _ (fun m3 hI3 => ?_)
  refine wx_r1 ?_
  refine wx_icmp_eq (tgt := 1039) dL_law_853 (by decide) (fun h853 => ?_) (fun h853 => ?_)
  · exact hnext m3 hI3 --end
  · exact absurd rfl h853 --end
theorem lw_cool {d : Nat} {K : List Value → zS → Prop} {sc : Nat → Int32} {ln b n : Nat} {m1 : zM} (hI : zIn sc ln n b m1) (hb : b < 1000) (hln : ln ≤ 2048) (h4 : 4 * b + 4 ≤ ln) (hnext : ∀ m3, zInv sc ln (b + 1) m3 → wx (d + 81) mL_law 1039 [some .null, some (.ref 0), some (.ref 128), some (.int (nI (4 * b)))] [] (zG m3) K) : wx (d + 81) mL_law 858 [some .null, some (.ref 0), some (.ref 128), some (.int (nI (4 * b)))] [] (zG m1) K := by
  have hl : (m1 155 0).toNatClampNeg = ln := by rw [hI.2.2.2.2.2.2.2.2.2]; exact nI_clamp (by omega)
  refine wx_aload_n (i := 1) dL_law_858 rfl rfl ?_
  refine wx_aloads_n (i := 0) dL_law_859 rfl rfl ?_
  refine wx_iload_n (i := 3) dL_law_860 rfl rfl ?_
  refine wx_iconst (v := 1) dL_law_861 (by decide) ?_
  refine wx_iadd dL_law_862 ?_
  refine wx_sldG (j := 4 * b + 1) (n := ln) dL_law_863 (by rw [show (1 : Int32) = nI 1 from rfl, nI_add]) hl (by omega) (by omega) ?_
  refine wx_VS1 dL_law_864 zPV_X8_cool zLk_L_110 rfl (Nat.le_of_ble_eq_true rfl) (Nat.le_of_ble_eq_true rfl) (Or.inl (Nat.le_refl _)) ?_
  refine op_cool hI hb (fun x m2 hag hs => ?_)
  have hl2 : (m2 155 0).toNatClampNeg = ln := hs.1.trans hl
  have hs2 : ∀ j, j < ln → m2 154 j = m1 154 j := fun j hj => hs.2 j (by show j < (m1 155 0).toNatClampNeg; rw [hl]; exact hj)
  refine wx_r1 ?_
  refine wx_aload_n (i := 2) dL_law_867 rfl rfl ?_
  refine wx_aloads_n (i := 0) dL_law_868 rfl rfl ?_
  refine wx_iload_n (i := 3) dL_law_869 rfl rfl ?_
  refine wx_iconst (v := 1) dL_law_870 (by decide) ?_
  refine wx_iadd dL_law_871 ?_
  refine wx_sldG (j := 4 * b + 1) (n := ln) dL_law_872 (by rw [show (1 : Int32) = nI 1 from rfl, nI_add]) hl2 (by omega) (by omega) ?_
  refine wx_V1 dL_law_873 zPV_X9_cool zLk_L_113 rfl (Nat.le_of_ble_eq_true rfl) (Nat.le_of_ble_eq_true rfl) (Or.inl (Nat.le_refl _)) ?_
  rw [hs2 (4 * b + 1) (by omega)]
  refine hag _ (fun m3 hI3 => ?_)
  refine wx_r1 ?_
  refine wx_icmp_eq (tgt := 1039) dL_law_876 (by decide) (fun h876 => ?_) (fun h876 => ?_)
  · exact hnext m3 hI3 --end
  · exact absurd rfl h876 --end
theorem lw_still {d : Nat} {K : List Value → zS → Prop} {sc : Nat → Int32} {ln b n : Nat} {m1 : zM} (hI : zIn sc ln n b m1) (hb : b < 1000) (hln : ln ≤ 2048) (h4 : 4 * b + 4 ≤ ln) (hnext : ∀ m3, zInv sc ln (b + 1) m3 → wx (d + 81) mL_law 1039 [some .null, some (.ref 0), some (.ref 128), some (.int (nI (4 * b)))] [] (zG m3) K) : wx (d + 81) mL_law 881 [some .null, some (.ref 0), some (.ref 128), some (.int (nI (4 * b)))] [] (zG m1) K := by
  have hl : (m1 155 0).toNatClampNeg = ln := by rw [hI.2.2.2.2.2.2.2.2.2]; exact nI_clamp (by omega)
  refine wx_aload_n (i := 1) dL_law_881 rfl rfl ?_
  refine wx_aloads_n (i := 0) dL_law_882 rfl rfl ?_
  refine wx_iload_n (i := 3) dL_law_883 rfl rfl ?_
  refine wx_iconst (v := 1) dL_law_884 (by decide) ?_
  refine wx_iadd dL_law_885 ?_
  refine wx_sldG (j := 4 * b + 1) (n := ln) dL_law_886 (by rw [show (1 : Int32) = nI 1 from rfl, nI_add]) hl (by omega) (by omega) ?_
  refine wx_VS1 dL_law_887 zPV_X8_still zLk_L_114 rfl (Nat.le_of_ble_eq_true rfl) (Nat.le_of_ble_eq_true rfl) (Or.inl (Nat.le_refl _)) ?_
  refine op_still hI hb (fun x m2 hag hs => ?_)
  have hl2 : (m2 155 0).toNatClampNeg = ln := hs.1.trans hl
  have hs2 : ∀ j, j < ln → m2 154 j = m1 154 j := fun j hj => hs.2 j (by show j < (m1 155 0).toNatClampNeg; rw [hl]; exact hj)
  refine wx_r1 ?_
  refine wx_aload_n (i := 2) dL_law_890 rfl rfl ?_
  refine wx_aloads_n (i := 0) dL_law_891 rfl rfl ?_
  refine wx_iload_n (i := 3) dL_law_892 rfl rfl ?_
  refine wx_iconst (v := 1) dL_law_893 (by decide) ?_
  refine wx_iadd dL_law_894 ?_
  refine wx_sldG (j := 4 * b + 1) (n := ln) dL_law_895 (by rw [show (1 : Int32) = nI 1 from rfl, nI_add]) hl2 (by omega) (by omega) ?_
  refine wx_V1 dL_law_896 zPV_X9_still zLk_L_117 rfl (Nat.le_of_ble_eq_true rfl) (Nat.le_of_ble_eq_true rfl) (Or.inl (Nat.le_refl _)) ?_
  rw [hs2 (4 * b + 1) (by omega)]
  refine hag _ (fun m3 hI3 => ?_)
  refine wx_r1 ?_
  refine wx_icmp_eq (tgt := 1039) dL_law_899 (by decide) (fun h899 => ?_) (fun h899 => ?_)
  · exact hnext m3 hI3 --end
  · exact absurd rfl h899 --end
theorem lw_warmth {d : Nat} {K : List Value → zS → Prop} {sc : Nat → Int32} {ln b n : Nat} {m1 : zM} (hI : zIn sc ln n b m1) (hb : b < 1000) (hln : ln ≤ 2048) (h4 : 4 * b + 4 ≤ ln) (hnext : ∀ m3, zInv sc ln (b + 1) m3 → wx (d + 81) mL_law 1039 [some .null, some (.ref 0), some (.ref 128), some (.int (nI (4 * b)))] [] (zG m3) K) : wx (d + 81) mL_law 904 [some .null, some (.ref 0), some (.ref 128), some (.int (nI (4 * b)))] [] (zG m1) K := by
  have hl : (m1 155 0).toNatClampNeg = ln := by rw [hI.2.2.2.2.2.2.2.2.2]; exact nI_clamp (by omega)
  refine wx_aload_n (i := 1) dL_law_904 rfl rfl ?_
  refine wx_aloads_n (i := 0) dL_law_905 rfl rfl ?_
  refine wx_iload_n (i := 3) dL_law_906 rfl rfl ?_
  refine wx_iconst (v := 1) dL_law_907 (by decide) ?_
  refine wx_iadd dL_law_908 ?_
  refine wx_sldG (j := 4 * b + 1) (n := ln) dL_law_909 (by rw [show (1 : Int32) = nI 1 from rfl, nI_add]) hl (by omega) (by omega) ?_
  refine wx_VS1 dL_law_910 zPV_X8_warmth zLk_L_118 rfl (Nat.le_of_ble_eq_true rfl) (Nat.le_of_ble_eq_true rfl) (Or.inl (Nat.le_refl _)) ?_
  refine op_warmth hI hb (fun x m2 hag hs => ?_)
  have hl2 : (m2 155 0).toNatClampNeg = ln := hs.1.trans hl
  have hs2 : ∀ j, j < ln → m2 154 j = m1 154 j := fun j hj => hs.2 j (by show j < (m1 155 0).toNatClampNeg; rw [hl]; exact hj)
  refine wx_r1 ?_
  refine wx_aload_n (i := 2) dL_law_913 rfl rfl ?_
  refine wx_aloads_n (i := 0) dL_law_914 rfl rfl ?_
  refine wx_iload_n (i := 3) dL_law_915 rfl rfl ?_
  refine wx_iconst (v := 1) dL_law_916 (by decide) ?_
  refine wx_iadd dL_law_917 ?_
  refine wx_sldG (j := 4 * b + 1) (n := ln) dL_law_918 (by rw [show (1 : Int32) = nI 1 from rfl, nI_add]) hl2 (by omega) (by omega) ?_
  refine wx_V1 dL_law_919 zPV_X9_warmth zLk_L_121 rfl (Nat.le_of_ble_eq_true rfl) (Nat.le_of_ble_eq_true rfl) (Or.inl (Nat.le_refl _)) ?_
  rw [hs2 (4 * b + 1) (by omega)]
  refine hag _ (fun m3 hI3 => ?_)
  refine wx_r1 ?_
  refine wx_icmp_eq (tgt := 1039) dL_law_922 (by decide) (fun h922 => ?_) (fun h922 => ?_)
  · exact hnext m3 hI3 --end
  · exact absurd rfl h922 --end
theorem lw_grit {d : Nat} {K : List Value → zS → Prop} {sc : Nat → Int32} {ln b n : Nat} {m1 : zM} (hI : zIn sc ln n b m1) (hb : b < 1000) (hln : ln ≤ 2048) (h4 : 4 * b + 4 ≤ ln) (hnext : ∀ m3, zInv sc ln (b + 1) m3 → wx (d + 81) mL_law 1039 [some .null, some (.ref 0), some (.ref 128), some (.int (nI (4 * b)))] [] (zG m3) K) : wx (d + 81) mL_law 927 [some .null, some (.ref 0), some (.ref 128), some (.int (nI (4 * b)))] [] (zG m1) K := by
  have hl : (m1 155 0).toNatClampNeg = ln := by rw [hI.2.2.2.2.2.2.2.2.2]; exact nI_clamp (by omega)
  refine wx_aload_n (i := 1) dL_law_927 rfl rfl ?_
  refine wx_aloads_n (i := 0) dL_law_928 rfl rfl ?_
  refine wx_iload_n (i := 3) dL_law_929 rfl rfl ?_
  refine wx_iconst (v := 1) dL_law_930 (by decide) ?_
  refine wx_iadd dL_law_931 ?_
  refine wx_sldG (j := 4 * b + 1) (n := ln) dL_law_932 (by rw [show (1 : Int32) = nI 1 from rfl, nI_add]) hl (by omega) (by omega) ?_
  refine wx_aloads_n (i := 0) dL_law_933 rfl rfl ?_
  refine wx_iload_n (i := 3) dL_law_934 rfl rfl ?_
  refine wx_iconst (v := 2) dL_law_935 (by decide) ?_
  refine wx_iadd dL_law_936 ?_
  refine wx_sldG (j := 4 * b + 2) (n := ln) dL_law_937 (by rw [show (2 : Int32) = nI 2 from rfl, nI_add]) hl (by omega) (by omega) ?_
  refine wx_VS2 dL_law_938 zPV_X8_grit zLk_L_122 rfl (Nat.le_of_ble_eq_true rfl) (Nat.le_of_ble_eq_true rfl) (Or.inl (Nat.le_refl _)) ?_
  refine op_grit hI hb (fun x m2 hag hs => ?_)
  have hl2 : (m2 155 0).toNatClampNeg = ln := hs.1.trans hl
  have hs2 : ∀ j, j < ln → m2 154 j = m1 154 j := fun j hj => hs.2 j (by show j < (m1 155 0).toNatClampNeg; rw [hl]; exact hj)
  refine wx_r1 ?_
  refine wx_aload_n (i := 2) dL_law_941 rfl rfl ?_
  refine wx_aloads_n (i := 0) dL_law_942 rfl rfl ?_
  refine wx_iload_n (i := 3) dL_law_943 rfl rfl ?_
  refine wx_iconst (v := 1) dL_law_944 (by decide) ?_
  refine wx_iadd dL_law_945 ?_
  refine wx_sldG (j := 4 * b + 1) (n := ln) dL_law_946 (by rw [show (1 : Int32) = nI 1 from rfl, nI_add]) hl2 (by omega) (by omega) ?_
  refine wx_aloads_n (i := 0) dL_law_947 rfl rfl ?_
  refine wx_iload_n (i := 3) dL_law_948 rfl rfl ?_
  refine wx_iconst (v := 2) dL_law_949 (by decide) ?_
  refine wx_iadd dL_law_950 ?_
  refine wx_sldG (j := 4 * b + 2) (n := ln) dL_law_951 (by rw [show (2 : Int32) = nI 2 from rfl, nI_add]) hl2 (by omega) (by omega) ?_
  refine wx_V2 dL_law_952 zPV_X9_grit zLk_L_125 rfl (Nat.le_of_ble_eq_true rfl) (Nat.le_of_ble_eq_true rfl) (Or.inl (Nat.le_refl _)) ?_
  rw [hs2 (4 * b + 1) (by omega), hs2 (4 * b + 2) (by omega)]
  refine hag _ (fun m3 hI3 => ?_)
  refine wx_r1 ?_
  refine wx_icmp_eq (tgt := 1039) dL_law_955 (by decide) (fun h955 => ?_) (fun h955 => ?_)
  · exact hnext m3 hI3 --end
  · exact absurd rfl h955 --end
theorem lw_slack {d : Nat} {K : List Value → zS → Prop} {sc : Nat → Int32} {ln b n : Nat} {m1 : zM} (hI : zIn sc ln n b m1) (hb : b < 1000) (hln : ln ≤ 2048) (h4 : 4 * b + 4 ≤ ln) (hnext : ∀ m3, zInv sc ln (b + 1) m3 → wx (d + 81) mL_law 1039 [some .null, some (.ref 0), some (.ref 128), some (.int (nI (4 * b)))] [] (zG m3) K) : wx (d + 81) mL_law 960 [some .null, some (.ref 0), some (.ref 128), some (.int (nI (4 * b)))] [] (zG m1) K := by
  have hl : (m1 155 0).toNatClampNeg = ln := by rw [hI.2.2.2.2.2.2.2.2.2]; exact nI_clamp (by omega)
  refine wx_aload_n (i := 1) dL_law_960 rfl rfl ?_
  refine wx_aloads_n (i := 0) dL_law_961 rfl rfl ?_
  refine wx_iload_n (i := 3) dL_law_962 rfl rfl ?_
  refine wx_iconst (v := 1) dL_law_963 (by decide) ?_
  refine wx_iadd dL_law_964 ?_
  refine wx_sldG (j := 4 * b + 1) (n := ln) dL_law_965 (by rw [show (1 : Int32) = nI 1 from rfl, nI_add]) hl (by omega) (by omega) ?_
  refine wx_VS1 dL_law_966 zPV_X8_slack zLk_L_126 rfl (Nat.le_of_ble_eq_true rfl) (Nat.le_of_ble_eq_true rfl) (Or.inl (Nat.le_refl _)) ?_
  refine op_slack hI hb (fun x m2 hag hs => ?_)
  have hl2 : (m2 155 0).toNatClampNeg = ln := hs.1.trans hl
  have hs2 : ∀ j, j < ln → m2 154 j = m1 154 j := fun j hj => hs.2 j (by show j < (m1 155 0).toNatClampNeg; rw [hl]; exact hj)
  refine wx_r1 ?_
  refine wx_aload_n (i := 2) dL_law_969 rfl rfl ?_
  refine wx_aloads_n (i := 0) dL_law_970 rfl rfl ?_
  refine wx_iload_n (i := 3) dL_law_971 rfl rfl ?_
  refine wx_iconst (v := 1) dL_law_972 (by decide) ?_
  refine wx_iadd dL_law_973 ?_
  refine wx_sldG (j := 4 * b + 1) (n := ln) dL_law_974 (by rw [show (1 : Int32) = nI 1 from rfl, nI_add]) hl2 (by omega) (by omega) ?_
  refine wx_V1 dL_law_975 zPV_X9_slack zLk_L_129 rfl (Nat.le_of_ble_eq_true rfl) (Nat.le_of_ble_eq_true rfl) (Or.inl (Nat.le_refl _)) ?_
  rw [hs2 (4 * b + 1) (by omega)]
  refine hag _ (fun m3 hI3 => ?_)
  refine wx_r1 ?_
  refine wx_icmp_eq (tgt := 1039) dL_law_978 (by decide) (fun h978 => ?_) (fun h978 => ?_)
  · exact hnext m3 hI3 --end
  · exact absurd rfl h978 --end
theorem lw_wets {d : Nat} {K : List Value → zS → Prop} {sc : Nat → Int32} {ln b n : Nat} {m1 : zM} (hI : zIn sc ln n b m1) (hb : b < 1000) (hln : ln ≤ 2048) (h4 : 4 * b + 4 ≤ ln) (hnext : ∀ m3, zInv sc ln (b + 1) m3 → wx (d + 81) mL_law 1039 [some .null, some (.ref 0), some (.ref 128), some (.int (nI (4 * b)))] [] (zG m3) K) : wx (d + 81) mL_law 983 [some .null, some (.ref 0), some (.ref 128), some (.int (nI (4 * b)))] [] (zG m1) K := by
  have hl : (m1 155 0).toNatClampNeg = ln := by rw [hI.2.2.2.2.2.2.2.2.2]; exact nI_clamp (by omega)
  refine wx_aload_n (i := 1) dL_law_983 rfl rfl ?_
  refine wx_aloads_n (i := 0) dL_law_984 rfl rfl ?_
  refine wx_iload_n (i := 3) dL_law_985 rfl rfl ?_
  refine wx_iconst (v := 1) dL_law_986 (by decide) ?_
  refine wx_iadd dL_law_987 ?_
  refine wx_sldG (j := 4 * b + 1) (n := ln) dL_law_988 (by rw [show (1 : Int32) = nI 1 from rfl, nI_add]) hl (by omega) (by omega) ?_
  refine wx_aloads_n (i := 0) dL_law_989 rfl rfl ?_
  refine wx_iload_n (i := 3) dL_law_990 rfl rfl ?_
  refine wx_iconst (v := 2) dL_law_991 (by decide) ?_
  refine wx_iadd dL_law_992 ?_
  refine wx_sldG (j := 4 * b + 2) (n := ln) dL_law_993 (by rw [show (2 : Int32) = nI 2 from rfl, nI_add]) hl (by omega) (by omega) ?_
  refine wx_VS2 dL_law_994 zPV_X8_wets zLk_L_130 rfl (Nat.le_of_ble_eq_true rfl) (Nat.le_of_ble_eq_true rfl) (Or.inl (Nat.le_refl _)) ?_
  refine op_wets hI hb (fun x m2 hag hs => ?_)
  have hl2 : (m2 155 0).toNatClampNeg = ln := hs.1.trans hl
  have hs2 : ∀ j, j < ln → m2 154 j = m1 154 j := fun j hj => hs.2 j (by show j < (m1 155 0).toNatClampNeg; rw [hl]; exact hj)
  refine wx_r1 ?_
  refine wx_aload_n (i := 2) dL_law_997 rfl rfl ?_
  refine wx_aloads_n (i := 0) dL_law_998 rfl rfl ?_
  refine wx_iload_n (i := 3) dL_law_999 rfl rfl ?_
  refine wx_iconst (v := 1) dL_law_1000 (by decide) ?_
  refine wx_iadd dL_law_1001 ?_
  refine wx_sldG (j := 4 * b + 1) (n := ln) dL_law_1002 (by rw [show (1 : Int32) = nI 1 from rfl, nI_add]) hl2 (by omega) (by omega) ?_
  refine wx_aloads_n (i := 0) dL_law_1003 rfl rfl ?_
  refine wx_iload_n (i := 3) dL_law_1004 rfl rfl ?_
  refine wx_iconst (v := 2) dL_law_1005 (by decide) ?_
  refine wx_iadd dL_law_1006 ?_
  refine wx_sldG (j := 4 * b + 2) (n := ln) dL_law_1007 (by rw [show (2 : Int32) = nI 2 from rfl, nI_add]) hl2 (by omega) (by omega) ?_
  refine wx_V2 dL_law_1008 zPV_X9_wets zLk_L_133 rfl (Nat.le_of_ble_eq_true rfl) (Nat.le_of_ble_eq_true rfl) (Or.inl (Nat.le_refl _)) ?_
  rw [hs2 (4 * b + 1) (by omega), hs2 (4 * b + 2) (by omega)]
  refine hag _ (fun m3 hI3 => ?_)
  refine wx_r1 ?_
  refine wx_icmp_eq (tgt := 1039) dL_law_1011 (by decide) (fun h1011 => ?_) (fun h1011 => ?_)
  · exact hnext m3 hI3 --end
  · exact absurd rfl h1011 --end
theorem lw_count {d : Nat} {K : List Value → zS → Prop} {sc : Nat → Int32} {ln b n : Nat} {m1 : zM} (hI : zIn sc ln n b m1) (hb : b < 1000) (hln : ln ≤ 2048) (h4 : 4 * b + 4 ≤ ln) (hnext : ∀ m3, zInv sc ln (b + 1) m3 → wx (d + 81) mL_law 1039 [some .null, some (.ref 0), some (.ref 128), some (.int (nI (4 * b)))] [] (zG m3) K) : wx (d + 81) mL_law 1016 [some .null, some (.ref 0), some (.ref 128), some (.int (nI (4 * b)))] [] (zG m1) K := by
  have hl : (m1 155 0).toNatClampNeg = ln := by rw [hI.2.2.2.2.2.2.2.2.2]; exact nI_clamp (by omega)
  refine wx_aload_n (i := 1) dL_law_1016 rfl rfl ?_
  refine wx_aloads_n (i := 0) dL_law_1017 rfl rfl ?_
  refine wx_iload_n (i := 3) dL_law_1018 rfl rfl ?_
  refine wx_iconst (v := 1) dL_law_1019 (by decide) ?_
  refine wx_iadd dL_law_1020 ?_
  refine wx_sldG (j := 4 * b + 1) (n := ln) dL_law_1021 (by rw [show (1 : Int32) = nI 1 from rfl, nI_add]) hl (by omega) (by omega) ?_
  refine wx_VS1 dL_law_1022 zPV_X8_count zLk_L_134 rfl (Nat.le_of_ble_eq_true rfl) (Nat.le_of_ble_eq_true rfl) (Or.inl (Nat.le_refl _)) ?_
  refine op_count hI hb (fun x m2 hag hs => ?_)
  have hl2 : (m2 155 0).toNatClampNeg = ln := hs.1.trans hl
  have hs2 : ∀ j, j < ln → m2 154 j = m1 154 j := fun j hj => hs.2 j (by show j < (m1 155 0).toNatClampNeg; rw [hl]; exact hj)
  refine wx_r1 ?_
  refine wx_aload_n (i := 2) dL_law_1025 rfl rfl ?_
  refine wx_aloads_n (i := 0) dL_law_1026 rfl rfl ?_
  refine wx_iload_n (i := 3) dL_law_1027 rfl rfl ?_
  refine wx_iconst (v := 1) dL_law_1028 (by decide) ?_
  refine wx_iadd dL_law_1029 ?_
  refine wx_sldG (j := 4 * b + 1) (n := ln) dL_law_1030 (by rw [show (1 : Int32) = nI 1 from rfl, nI_add]) hl2 (by omega) (by omega) ?_
  refine wx_V1 dL_law_1031 zPV_X9_count zLk_L_137 rfl (Nat.le_of_ble_eq_true rfl) (Nat.le_of_ble_eq_true rfl) (Or.inl (Nat.le_refl _)) ?_
  rw [hs2 (4 * b + 1) (by omega)]
  refine hag _ (fun m3 hI3 => ?_)
  refine wx_r1 ?_
  refine wx_icmp_eq (tgt := 1039) dL_law_1034 (by decide) (fun h1034 => ?_) (fun h1034 => ?_)
  · exact hnext m3 hI3 --end
  · exact absurd rfl h1034 --end

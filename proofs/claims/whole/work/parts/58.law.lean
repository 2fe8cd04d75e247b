/-! the law, on the pure machine -/
section LAW
variable {G : pm_G} {zm z : pm_z} {Φ : pm_F} {h : pm_h} {g : pm_g} {r : Nat}
theorem px_f8_5 {M : pm_M} {pc : Nat} {st : List Value} {a0 a1 a2 a3 a4 a5 a6 a7 : Value} (k : pm_W G M zm Φ pc [a0, a1, a2, a3, a4, pm_u, pm_u, pm_u] st z h g) : pm_W G M zm Φ pc [a0, a1, a2, a3, a4, a5, a6, a7] st z h g := px_fk 5 3 k
theorem L_in {k : Nat} (hr : 6 * r + 6 ≤ pm_L G) (hL : pm_L G ≤ 3072) (hk : k < 6) : vp_in (nI (6 * r) + nI k) (pm_L G) := by
  rw [nI_add]
  exact vp_in_nI (by omega) (by omega)
theorem L_feed (hr : 6 * r + 6 ≤ pm_L G) (hL : pm_L G ≤ 3072) (hz : pm_le z zm) (j : J h g) (next : ∀ h' g', J h' g' → pm_W G mL_law zm Φ 680 [.retAddr 0, .ref 0, .ref 30, .ref 53, .int (nI (6 * r)), pm_u, pm_u, pm_u] [] z h' g') : pm_W G mL_law zm Φ 128 [.retAddr 0, .ref 0, .ref 30, .ref 53, .int (nI (6 * r)), pm_u, pm_u, pm_u] [] z h g := by
  have I := j.1
  refine px_aload_n (i := 1) (pc' := 129) dL_law_128 rfl rfl rfl ?_
  refine px_aload_s (i := 0) (pc' := 130) dL_law_129 rfl rfl rfl ?_
  refine px_iload (i := 4) (pc' := 132) dL_law_130 rfl rfl ?_
  refine px_iconst (v := 1) (pc' := 133) dL_law_132 rfl (by decide) ?_
  refine px_iadd (pc' := 134) dL_law_133 rfl ?_
  refine px_sld (pc' := 135) dL_law_134 rfl (L_in (k := 1) hr hL (by decide)) ?_
  refine px_aload_s (i := 0) (pc' := 136) dL_law_135 rfl rfl rfl ?_
  refine px_iload (i := 4) (pc' := 138) dL_law_136 rfl rfl ?_
  refine px_iconst (v := 2) (pc' := 139) dL_law_138 rfl (by decide) ?_
  refine px_iadd (pc' := 140) dL_law_139 rfl ?_
  refine px_sld (pc' := 141) dL_law_140 rfl (L_in (k := 2) hr hL (by decide)) ?_
  refine px_aload_s (i := 0) (pc' := 142) dL_law_141 rfl rfl rfl ?_
  refine px_iload (i := 4) (pc' := 144) dL_law_142 rfl rfl ?_
  refine px_iconst (v := 3) (pc' := 145) dL_law_144 rfl (by decide) ?_
  refine px_iadd (pc' := 146) dL_law_145 rfl ?_
  refine px_sld (pc' := 147) dL_law_146 rfl (L_in (k := 3) hr hL (by decide)) ?_
  refine px_aload_s (i := 0) (pc' := 148) dL_law_147 rfl rfl rfl ?_
  refine px_iload (i := 4) (pc' := 150) dL_law_148 rfl rfl ?_
  refine px_iconst (v := 4) (pc' := 151) dL_law_150 rfl (by decide) ?_
  refine px_iadd (pc' := 152) dL_law_151 rfl ?_
  refine px_sld (pc' := 153) dL_law_152 rfl (L_in (k := 4) hr hL (by decide)) ?_
  refine px_aload_s (i := 0) (pc' := 154) dL_law_153 rfl rfl rfl ?_
  refine px_iload (i := 4) (pc' := 156) dL_law_154 rfl rfl ?_
  refine px_iconst (v := 5) (pc' := 157) dL_law_156 rfl (by decide) ?_
  refine px_iadd (pc' := 158) dL_law_157 rfl ?_
  refine px_sld (pc' := 159) dL_law_158 rfl (L_in (k := 5) hr hL (by decide)) ?_
  obtain ⟨v, M1⟩ := o_feed (G := G) z h g j
  refine pi_callV (pc' := 162) (M1) okX8_feed ivX8_feed ml_L_19 ⟨Nat.le_of_ble_eq_true rfl, Nat.le_of_ble_eq_true rfl⟩ dL_law_159 rfl rfl rfl (Nat.le_of_ble_eq_true rfl) (by repeat (first | assumption | refine pm_I.up ?_ rfl | refine pm_I.uf ?_ rfl)) rfl cl_8 pm_le.rf hz ?_
  rintro _ h1 g1 ⟨rfl, I1, M2⟩
  refine px_aload_n (i := 2) (pc' := 163) dL_law_162 rfl rfl rfl ?_
  refine px_aload_s (i := 0) (pc' := 164) dL_law_163 rfl rfl rfl ?_
  refine px_iload (i := 4) (pc' := 166) dL_law_164 rfl rfl ?_
  refine px_iconst (v := 1) (pc' := 167) dL_law_166 rfl (by decide) ?_
  refine px_iadd (pc' := 168) dL_law_167 rfl ?_
  refine px_sld (pc' := 169) dL_law_168 rfl (L_in (k := 1) hr hL (by decide)) ?_
  refine px_aload_s (i := 0) (pc' := 170) dL_law_169 rfl rfl rfl ?_
  refine px_iload (i := 4) (pc' := 172) dL_law_170 rfl rfl ?_
  refine px_iconst (v := 2) (pc' := 173) dL_law_172 rfl (by decide) ?_
  refine px_iadd (pc' := 174) dL_law_173 rfl ?_
  refine px_sld (pc' := 175) dL_law_174 rfl (L_in (k := 2) hr hL (by decide)) ?_
  refine px_aload_s (i := 0) (pc' := 176) dL_law_175 rfl rfl rfl ?_
  refine px_iload (i := 4) (pc' := 178) dL_law_176 rfl rfl ?_
  refine px_iconst (v := 3) (pc' := 179) dL_law_178 rfl (by decide) ?_
  refine px_iadd (pc' := 180) dL_law_179 rfl ?_
  refine px_sld (pc' := 181) dL_law_180 rfl (L_in (k := 3) hr hL (by decide)) ?_
  refine px_aload_s (i := 0) (pc' := 182) dL_law_181 rfl rfl rfl ?_
  refine px_iload (i := 4) (pc' := 184) dL_law_182 rfl rfl ?_
  refine px_iconst (v := 4) (pc' := 185) dL_law_184 rfl (by decide) ?_
  refine px_iadd (pc' := 186) dL_law_185 rfl ?_
  refine px_sld (pc' := 187) dL_law_186 rfl (L_in (k := 4) hr hL (by decide)) ?_
  refine px_aload_s (i := 0) (pc' := 188) dL_law_187 rfl rfl rfl ?_
  refine px_iload (i := 4) (pc' := 190) dL_law_188 rfl rfl ?_
  refine px_iconst (v := 5) (pc' := 191) dL_law_190 rfl (by decide) ?_
  refine px_iadd (pc' := 192) dL_law_191 rfl ?_
  refine px_sld (pc' := 193) dL_law_192 rfl (L_in (k := 5) hr hL (by decide)) ?_
  refine pi_callV (pc' := 196) (M2) okX9_feed ivX9_feed ml_L_23 ⟨Nat.le_of_ble_eq_true rfl, Nat.le_of_ble_eq_true rfl⟩ dL_law_193 rfl rfl rfl (Nat.le_of_ble_eq_true rfl) (by repeat (first | assumption | refine pm_I.up ?_ rfl | refine pm_I.uf ?_ rfl)) rfl cl_9 pm_le.rf hz ?_
  rintro _ h2 g2 ⟨rfl, j2⟩
  refine px_icmp_eq (tgt := 680) (pc' := 199) dL_law_196 (by decide) rfl (fun _ => ?_) (fun q_ => absurd (rfl) q_)
  exact next h2 g2 j2
theorem L_end (hr : 6 * r + 6 ≤ pm_L G) (hL : pm_L G ≤ 3072) (hz : pm_le z zm) (j : J h g) (next : ∀ h' g', J h' g' → pm_W G mL_law zm Φ 680 [.retAddr 0, .ref 0, .ref 30, .ref 53, .int (nI (6 * r)), pm_u, pm_u, pm_u] [] z h' g') : pm_W G mL_law zm Φ 201 [.retAddr 0, .ref 0, .ref 30, .ref 53, .int (nI (6 * r)), pm_u, pm_u, pm_u] [] z h g := by
  have I := j.1
  refine px_aload_n (i := 1) (pc' := 202) dL_law_201 rfl rfl rfl ?_
  refine px_aload_s (i := 0) (pc' := 203) dL_law_202 rfl rfl rfl ?_
  refine px_iload (i := 4) (pc' := 205) dL_law_203 rfl rfl ?_
  refine px_iconst (v := 1) (pc' := 206) dL_law_205 rfl (by decide) ?_
  refine px_iadd (pc' := 207) dL_law_206 rfl ?_
  refine px_sld (pc' := 208) dL_law_207 rfl (L_in (k := 1) hr hL (by decide)) ?_
  obtain ⟨v, M1⟩ := o_end (G := G) z h g j
  refine pi_callV (pc' := 211) (M1) okX8_end ivX8_end ml_L_24 ⟨Nat.le_of_ble_eq_true rfl, Nat.le_of_ble_eq_true rfl⟩ dL_law_208 rfl rfl rfl (Nat.le_of_ble_eq_true rfl) (by repeat (first | assumption | refine pm_I.up ?_ rfl | refine pm_I.uf ?_ rfl)) rfl cl_8 pm_le.rf hz ?_
  rintro _ h1 g1 ⟨rfl, I1, M2⟩
  refine px_aload_n (i := 2) (pc' := 212) dL_law_211 rfl rfl rfl ?_
  refine px_aload_s (i := 0) (pc' := 213) dL_law_212 rfl rfl rfl ?_
  refine px_iload (i := 4) (pc' := 215) dL_law_213 rfl rfl ?_
  refine px_iconst (v := 1) (pc' := 216) dL_law_215 rfl (by decide) ?_
  refine px_iadd (pc' := 217) dL_law_216 rfl ?_
  refine px_sld (pc' := 218) dL_law_217 rfl (L_in (k := 1) hr hL (by decide)) ?_
  refine pi_callV (pc' := 221) (M2) okX9_end ivX9_end ml_L_28 ⟨Nat.le_of_ble_eq_true rfl, Nat.le_of_ble_eq_true rfl⟩ dL_law_218 rfl rfl rfl (Nat.le_of_ble_eq_true rfl) (by repeat (first | assumption | refine pm_I.up ?_ rfl | refine pm_I.uf ?_ rfl)) rfl cl_9 pm_le.rf hz ?_
  rintro _ h2 g2 ⟨rfl, j2⟩
  refine px_icmp_eq (tgt := 680) (pc' := 224) dL_law_221 (by decide) rfl (fun _ => ?_) (fun q_ => absurd (rfl) q_)
  exact next h2 g2 j2
theorem L_map (hr : 6 * r + 6 ≤ pm_L G) (hL : pm_L G ≤ 3072) (hz : pm_le z zm) (j : J h g) (next : ∀ h' g', J h' g' → pm_W G mL_law zm Φ 680 [.retAddr 0, .ref 0, .ref 30, .ref 53, .int (nI (6 * r)), pm_u, pm_u, pm_u] [] z h' g') : pm_W G mL_law zm Φ 226 [.retAddr 0, .ref 0, .ref 30, .ref 53, .int (nI (6 * r)), pm_u, pm_u, pm_u] [] z h g := by
  have I := j.1
  refine px_aload_n (i := 1) (pc' := 227) dL_law_226 rfl rfl rfl ?_
  refine px_aload_s (i := 0) (pc' := 228) dL_law_227 rfl rfl rfl ?_
  refine px_iload (i := 4) (pc' := 230) dL_law_228 rfl rfl ?_
  refine px_iconst (v := 1) (pc' := 231) dL_law_230 rfl (by decide) ?_
  refine px_iadd (pc' := 232) dL_law_231 rfl ?_
  refine px_sld (pc' := 233) dL_law_232 rfl (L_in (k := 1) hr hL (by decide)) ?_
  refine px_aload_s (i := 0) (pc' := 234) dL_law_233 rfl rfl rfl ?_
  refine px_iload (i := 4) (pc' := 236) dL_law_234 rfl rfl ?_
  refine px_iconst (v := 2) (pc' := 237) dL_law_236 rfl (by decide) ?_
  refine px_iadd (pc' := 238) dL_law_237 rfl ?_
  refine px_sld (pc' := 239) dL_law_238 rfl (L_in (k := 2) hr hL (by decide)) ?_
  obtain ⟨v, M1⟩ := o_map (G := G) z h g j
  refine pi_callV (pc' := 242) (M1) okX8_map ivX8_map ml_L_29 ⟨Nat.le_of_ble_eq_true rfl, Nat.le_of_ble_eq_true rfl⟩ dL_law_239 rfl rfl rfl (Nat.le_of_ble_eq_true rfl) (by repeat (first | assumption | refine pm_I.up ?_ rfl | refine pm_I.uf ?_ rfl)) rfl cl_8 pm_le.rf hz ?_
  rintro _ h1 g1 ⟨rfl, I1, M2⟩
  refine px_aload_n (i := 2) (pc' := 243) dL_law_242 rfl rfl rfl ?_
  refine px_aload_s (i := 0) (pc' := 244) dL_law_243 rfl rfl rfl ?_
  refine px_iload (i := 4) (pc' := 246) dL_law_244 rfl rfl ?_
  refine px_iconst (v := 1) (pc' := 247) dL_law_246 rfl (by decide) ?_
  refine px_iadd (pc' := 248) dL_law_247 rfl ?_
  refine px_sld (pc' := 249) dL_law_248 rfl (L_in (k := 1) hr hL (by decide)) ?_
  refine px_aload_s (i := 0) (pc' := 250) dL_law_249 rfl rfl rfl ?_
  refine px_iload (i := 4) (pc' := 252) dL_law_250 rfl rfl ?_
  refine px_iconst (v := 2) (pc' := 253) dL_law_252 rfl (by decide) ?_
  refine px_iadd (pc' := 254) dL_law_253 rfl ?_
  refine px_sld (pc' := 255) dL_law_254 rfl (L_in (k := 2) hr hL (by decide)) ?_
  refine pi_callV (pc' := 258) (M2) okX9_map ivX9_map ml_L_33 ⟨Nat.le_of_ble_eq_true rfl, Nat.le_of_ble_eq_true rfl⟩ dL_law_255 rfl rfl rfl (Nat.le_of_ble_eq_true rfl) (by repeat (first | assumption | refine pm_I.up ?_ rfl | refine pm_I.uf ?_ rfl)) rfl cl_9 pm_le.rf hz ?_
  rintro _ h2 g2 ⟨rfl, j2⟩
  refine px_icmp_eq (tgt := 680) (pc' := 261) dL_law_258 (by decide) rfl (fun _ => ?_) (fun q_ => absurd (rfl) q_)
  exact next h2 g2 j2
theorem L_meter (hr : 6 * r + 6 ≤ pm_L G) (hL : pm_L G ≤ 3072) (hz : pm_le z zm) (j : J h g) (next : ∀ h' g', J h' g' → pm_W G mL_law zm Φ 680 [.retAddr 0, .ref 0, .ref 30, .ref 53, .int (nI (6 * r)), pm_u, pm_u, pm_u] [] z h' g') : pm_W G mL_law zm Φ 263 [.retAddr 0, .ref 0, .ref 30, .ref 53, .int (nI (6 * r)), pm_u, pm_u, pm_u] [] z h g := by
  have I := j.1
  refine px_aload_n (i := 1) (pc' := 264) dL_law_263 rfl rfl rfl ?_
  refine px_aload_s (i := 0) (pc' := 265) dL_law_264 rfl rfl rfl ?_
  refine px_iload (i := 4) (pc' := 267) dL_law_265 rfl rfl ?_
  refine px_iconst (v := 1) (pc' := 268) dL_law_267 rfl (by decide) ?_
  refine px_iadd (pc' := 269) dL_law_268 rfl ?_
  refine px_sld (pc' := 270) dL_law_269 rfl (L_in (k := 1) hr hL (by decide)) ?_
  refine px_aload_s (i := 0) (pc' := 271) dL_law_270 rfl rfl rfl ?_
  refine px_iload (i := 4) (pc' := 273) dL_law_271 rfl rfl ?_
  refine px_iconst (v := 2) (pc' := 274) dL_law_273 rfl (by decide) ?_
  refine px_iadd (pc' := 275) dL_law_274 rfl ?_
  refine px_sld (pc' := 276) dL_law_275 rfl (L_in (k := 2) hr hL (by decide)) ?_
  refine px_aload_s (i := 0) (pc' := 277) dL_law_276 rfl rfl rfl ?_
  refine px_iload (i := 4) (pc' := 279) dL_law_277 rfl rfl ?_
  refine px_iconst (v := 3) (pc' := 280) dL_law_279 rfl (by decide) ?_
  refine px_iadd (pc' := 281) dL_law_280 rfl ?_
  refine px_sld (pc' := 282) dL_law_281 rfl (L_in (k := 3) hr hL (by decide)) ?_
  obtain ⟨v, M1⟩ := o_meter (G := G) z h g j
  refine pi_callV (pc' := 285) (M1) okX8_meter ivX8_meter ml_L_34 ⟨Nat.le_of_ble_eq_true rfl, Nat.le_of_ble_eq_true rfl⟩ dL_law_282 rfl rfl rfl (Nat.le_of_ble_eq_true rfl) (by repeat (first | assumption | refine pm_I.up ?_ rfl | refine pm_I.uf ?_ rfl)) rfl cl_8 pm_le.rf hz ?_
  rintro _ h1 g1 ⟨rfl, I1, M2⟩
  refine px_aload_n (i := 2) (pc' := 286) dL_law_285 rfl rfl rfl ?_
  refine px_aload_s (i := 0) (pc' := 287) dL_law_286 rfl rfl rfl ?_
  refine px_iload (i := 4) (pc' := 289) dL_law_287 rfl rfl ?_
  refine px_iconst (v := 1) (pc' := 290) dL_law_289 rfl (by decide) ?_
  refine px_iadd (pc' := 291) dL_law_290 rfl ?_
  refine px_sld (pc' := 292) dL_law_291 rfl (L_in (k := 1) hr hL (by decide)) ?_
  refine px_aload_s (i := 0) (pc' := 293) dL_law_292 rfl rfl rfl ?_
  refine px_iload (i := 4) (pc' := 295) dL_law_293 rfl rfl ?_
  refine px_iconst (v := 2) (pc' := 296) dL_law_295 rfl (by decide) ?_
  refine px_iadd (pc' := 297) dL_law_296 rfl ?_
  refine px_sld (pc' := 298) dL_law_297 rfl (L_in (k := 2) hr hL (by decide)) ?_
  refine px_aload_s (i := 0) (pc' := 299) dL_law_298 rfl rfl rfl ?_
  refine px_iload (i := 4) (pc' := 301) dL_law_299 rfl rfl ?_
  refine px_iconst (v := 3) (pc' := 302) dL_law_301 rfl (by decide) ?_
  refine px_iadd (pc' := 303) dL_law_302 rfl ?_
  refine px_sld (pc' := 304) dL_law_303 rfl (L_in (k := 3) hr hL (by decide)) ?_
  refine pi_callV (pc' := 307) (M2) okX9_meter ivX9_meter ml_L_38 ⟨Nat.le_of_ble_eq_true rfl, Nat.le_of_ble_eq_true rfl⟩ dL_law_304 rfl rfl rfl (Nat.le_of_ble_eq_true rfl) (by repeat (first | assumption | refine pm_I.up ?_ rfl | refine pm_I.uf ?_ rfl)) rfl cl_9 pm_le.rf hz ?_
  rintro _ h2 g2 ⟨rfl, j2⟩
  refine px_icmp_eq (tgt := 680) (pc' := 310) dL_law_307 (by decide) rfl (fun _ => ?_) (fun q_ => absurd (rfl) q_)
  exact next h2 g2 j2
theorem L_begin (hr : 6 * r + 6 ≤ pm_L G) (hL : pm_L G ≤ 3072) (hz : pm_le z zm) (j : J h g) (next : ∀ h' g', J h' g' → pm_W G mL_law zm Φ 680 [.retAddr 0, .ref 0, .ref 30, .ref 53, .int (nI (6 * r)), pm_u, pm_u, pm_u] [] z h' g') : pm_W G mL_law zm Φ 312 [.retAddr 0, .ref 0, .ref 30, .ref 53, .int (nI (6 * r)), pm_u, pm_u, pm_u] [] z h g := by
  have I := j.1
  refine px_aload_n (i := 1) (pc' := 313) dL_law_312 rfl rfl rfl ?_
  refine px_aload_s (i := 0) (pc' := 314) dL_law_313 rfl rfl rfl ?_
  refine px_iload (i := 4) (pc' := 316) dL_law_314 rfl rfl ?_
  refine px_iconst (v := 1) (pc' := 317) dL_law_316 rfl (by decide) ?_
  refine px_iadd (pc' := 318) dL_law_317 rfl ?_
  refine px_sld (pc' := 319) dL_law_318 rfl (L_in (k := 1) hr hL (by decide)) ?_
  obtain ⟨v, M1⟩ := o_begin (G := G) z h g j
  refine pi_callV (pc' := 322) (M1) okX8_begin ivX8_begin ml_L_39 ⟨Nat.le_of_ble_eq_true rfl, Nat.le_of_ble_eq_true rfl⟩ dL_law_319 rfl rfl rfl (Nat.le_of_ble_eq_true rfl) (by repeat (first | assumption | refine pm_I.up ?_ rfl | refine pm_I.uf ?_ rfl)) rfl cl_8 pm_le.rf hz ?_
  rintro _ h1 g1 ⟨rfl, I1, M2⟩
  refine px_aload_n (i := 2) (pc' := 323) dL_law_322 rfl rfl rfl ?_
  refine px_aload_s (i := 0) (pc' := 324) dL_law_323 rfl rfl rfl ?_
  refine px_iload (i := 4) (pc' := 326) dL_law_324 rfl rfl ?_
  refine px_iconst (v := 1) (pc' := 327) dL_law_326 rfl (by decide) ?_
  refine px_iadd (pc' := 328) dL_law_327 rfl ?_
  refine px_sld (pc' := 329) dL_law_328 rfl (L_in (k := 1) hr hL (by decide)) ?_
  refine pi_callV (pc' := 332) (M2) okX9_begin ivX9_begin ml_L_42 ⟨Nat.le_of_ble_eq_true rfl, Nat.le_of_ble_eq_true rfl⟩ dL_law_329 rfl rfl rfl (Nat.le_of_ble_eq_true rfl) (by repeat (first | assumption | refine pm_I.up ?_ rfl | refine pm_I.uf ?_ rfl)) rfl cl_9 pm_le.rf hz ?_
  rintro _ h2 g2 ⟨rfl, j2⟩
  refine px_icmp_eq (tgt := 680) (pc' := 335) dL_law_332 (by decide) rfl (fun _ => ?_) (fun q_ => absurd (rfl) q_)
  exact next h2 g2 j2
theorem L_move (hr : 6 * r + 6 ≤ pm_L G) (hL : pm_L G ≤ 3072) (hz : pm_le z zm) (j : J h g) (next : ∀ h' g', J h' g' → pm_W G mL_law zm Φ 680 [.retAddr 0, .ref 0, .ref 30, .ref 53, .int (nI (6 * r)), pm_u, pm_u, pm_u] [] z h' g') : pm_W G mL_law zm Φ 337 [.retAddr 0, .ref 0, .ref 30, .ref 53, .int (nI (6 * r)), pm_u, pm_u, pm_u] [] z h g := by
  have I := j.1
  refine px_aload_n (i := 1) (pc' := 338) dL_law_337 rfl rfl rfl ?_
  refine px_aload_s (i := 0) (pc' := 339) dL_law_338 rfl rfl rfl ?_
  refine px_iload (i := 4) (pc' := 341) dL_law_339 rfl rfl ?_
  refine px_iconst (v := 1) (pc' := 342) dL_law_341 rfl (by decide) ?_
  refine px_iadd (pc' := 343) dL_law_342 rfl ?_
  refine px_sld (pc' := 344) dL_law_343 rfl (L_in (k := 1) hr hL (by decide)) ?_
  refine px_aload_s (i := 0) (pc' := 345) dL_law_344 rfl rfl rfl ?_
  refine px_iload (i := 4) (pc' := 347) dL_law_345 rfl rfl ?_
  refine px_iconst (v := 2) (pc' := 348) dL_law_347 rfl (by decide) ?_
  refine px_iadd (pc' := 349) dL_law_348 rfl ?_
  refine px_sld (pc' := 350) dL_law_349 rfl (L_in (k := 2) hr hL (by decide)) ?_
  obtain ⟨v, M1⟩ := o_move (G := G) z h g j
  refine pi_callV (pc' := 353) (M1) okX8_move ivX8_move ml_L_43 ⟨Nat.le_of_ble_eq_true rfl, Nat.le_of_ble_eq_true rfl⟩ dL_law_350 rfl rfl rfl (Nat.le_of_ble_eq_true rfl) (by repeat (first | assumption | refine pm_I.up ?_ rfl | refine pm_I.uf ?_ rfl)) rfl cl_8 pm_le.rf hz ?_
  rintro _ h1 g1 ⟨rfl, I1, M2⟩
  refine px_aload_n (i := 2) (pc' := 354) dL_law_353 rfl rfl rfl ?_
  refine px_aload_s (i := 0) (pc' := 355) dL_law_354 rfl rfl rfl ?_
  refine px_iload (i := 4) (pc' := 357) dL_law_355 rfl rfl ?_
  refine px_iconst (v := 1) (pc' := 358) dL_law_357 rfl (by decide) ?_
  refine px_iadd (pc' := 359) dL_law_358 rfl ?_
  refine px_sld (pc' := 360) dL_law_359 rfl (L_in (k := 1) hr hL (by decide)) ?_
  refine px_aload_s (i := 0) (pc' := 361) dL_law_360 rfl rfl rfl ?_
  refine px_iload (i := 4) (pc' := 363) dL_law_361 rfl rfl ?_
  refine px_iconst (v := 2) (pc' := 364) dL_law_363 rfl (by decide) ?_
  refine px_iadd (pc' := 365) dL_law_364 rfl ?_
  refine px_sld (pc' := 366) dL_law_365 rfl (L_in (k := 2) hr hL (by decide)) ?_
  refine pi_callV (pc' := 369) (M2) okX9_move ivX9_move ml_L_47 ⟨Nat.le_of_ble_eq_true rfl, Nat.le_of_ble_eq_true rfl⟩ dL_law_366 rfl rfl rfl (Nat.le_of_ble_eq_true rfl) (by repeat (first | assumption | refine pm_I.up ?_ rfl | refine pm_I.uf ?_ rfl)) rfl cl_9 pm_le.rf hz ?_
  rintro _ h2 g2 ⟨rfl, j2⟩
  refine px_icmp_eq (tgt := 680) (pc' := 372) dL_law_369 (by decide) rfl (fun _ => ?_) (fun q_ => absurd (rfl) q_)
  exact next h2 g2 j2
theorem L_read (hr : 6 * r + 6 ≤ pm_L G) (hL : pm_L G ≤ 3072) (hz : pm_le z zm) (j : J h g) (next : ∀ h' g', J h' g' → pm_W G mL_law zm Φ 680 [.retAddr 0, .ref 0, .ref 30, .ref 53, .int (nI (6 * r)), pm_u, pm_u, pm_u] [] z h' g') : pm_W G mL_law zm Φ 374 [.retAddr 0, .ref 0, .ref 30, .ref 53, .int (nI (6 * r)), pm_u, pm_u, pm_u] [] z h g := by
  have I := j.1
  refine px_aload_n (i := 1) (pc' := 375) dL_law_374 rfl rfl rfl ?_
  refine px_aload_s (i := 0) (pc' := 376) dL_law_375 rfl rfl rfl ?_
  refine px_iload (i := 4) (pc' := 378) dL_law_376 rfl rfl ?_
  refine px_iconst (v := 1) (pc' := 379) dL_law_378 rfl (by decide) ?_
  refine px_iadd (pc' := 380) dL_law_379 rfl ?_
  refine px_sld (pc' := 381) dL_law_380 rfl (L_in (k := 1) hr hL (by decide)) ?_
  obtain ⟨v, M1⟩ := o_read (G := G) z h g j
  refine pi_callV (pc' := 384) (M1) okX8_read ivX8_read ml_L_48 ⟨Nat.le_of_ble_eq_true rfl, Nat.le_of_ble_eq_true rfl⟩ dL_law_381 rfl rfl rfl (Nat.le_of_ble_eq_true rfl) (by repeat (first | assumption | refine pm_I.up ?_ rfl | refine pm_I.uf ?_ rfl)) rfl cl_8 pm_le.rf hz ?_
  rintro _ h1 g1 ⟨rfl, I1, M2⟩
  refine px_aload_n (i := 2) (pc' := 385) dL_law_384 rfl rfl rfl ?_
  refine px_aload_s (i := 0) (pc' := 386) dL_law_385 rfl rfl rfl ?_
  refine px_iload (i := 4) (pc' := 388) dL_law_386 rfl rfl ?_
  refine px_iconst (v := 1) (pc' := 389) dL_law_388 rfl (by decide) ?_
  refine px_iadd (pc' := 390) dL_law_389 rfl ?_
  refine px_sld (pc' := 391) dL_law_390 rfl (L_in (k := 1) hr hL (by decide)) ?_
  refine pi_callV (pc' := 394) (M2) okX9_read ivX9_read ml_L_52 ⟨Nat.le_of_ble_eq_true rfl, Nat.le_of_ble_eq_true rfl⟩ dL_law_391 rfl rfl rfl (Nat.le_of_ble_eq_true rfl) (by repeat (first | assumption | refine pm_I.up ?_ rfl | refine pm_I.uf ?_ rfl)) rfl cl_9 pm_le.rf hz ?_
  rintro _ h2 g2 ⟨rfl, j2⟩
  refine px_icmp_eq (tgt := 680) (pc' := 397) dL_law_394 (by decide) rfl (fun _ => ?_) (fun q_ => absurd (rfl) q_)
  exact next h2 g2 j2
theorem L_likely (hr : 6 * r + 6 ≤ pm_L G) (hL : pm_L G ≤ 3072) (hz : pm_le z zm) (j : J h g) (next : ∀ h' g', J h' g' → pm_W G mL_law zm Φ 680 [.retAddr 0, .ref 0, .ref 30, .ref 53, .int (nI (6 * r)), pm_u, pm_u, pm_u] [] z h' g') : pm_W G mL_law zm Φ 466 [.retAddr 0, .ref 0, .ref 30, .ref 53, .int (nI (6 * r)), pm_u, pm_u, pm_u] [] z h g := by
  have I := j.1
  refine px_aload_n (i := 1) (pc' := 467) dL_law_466 rfl rfl rfl ?_
  obtain ⟨v, M1⟩ := o_likely (G := G) z h g j
  refine pi_callV (pc' := 470) (M1) okX8_likely ivX8_likely ml_L_63 ⟨Nat.le_of_ble_eq_true rfl, Nat.le_of_ble_eq_true rfl⟩ dL_law_467 rfl rfl rfl (Nat.le_of_ble_eq_true rfl) (by repeat (first | assumption | refine pm_I.up ?_ rfl | refine pm_I.uf ?_ rfl)) rfl cl_8 pm_le.rf hz ?_
  rintro _ h1 g1 ⟨rfl, I1, M2⟩
  refine px_aload_n (i := 2) (pc' := 471) dL_law_470 rfl rfl rfl ?_
  refine pi_callV (pc' := 474) (M2) okX9_likely ivX9_likely ml_L_66 ⟨Nat.le_of_ble_eq_true rfl, Nat.le_of_ble_eq_true rfl⟩ dL_law_471 rfl rfl rfl (Nat.le_of_ble_eq_true rfl) (by repeat (first | assumption | refine pm_I.up ?_ rfl | refine pm_I.uf ?_ rfl)) rfl cl_9 pm_le.rf hz ?_
  rintro _ h2 g2 ⟨rfl, j2⟩
  refine px_icmp_eq (tgt := 680) (pc' := 477) dL_law_474 (by decide) rfl (fun _ => ?_) (fun q_ => absurd (rfl) q_)
  exact next h2 g2 j2
theorem L_span (hr : 6 * r + 6 ≤ pm_L G) (hL : pm_L G ≤ 3072) (hz : pm_le z zm) (j : J h g) (next : ∀ h' g', J h' g' → pm_W G mL_law zm Φ 680 [.retAddr 0, .ref 0, .ref 30, .ref 53, .int (nI (6 * r)), pm_u, pm_u, pm_u] [] z h' g') : pm_W G mL_law zm Φ 479 [.retAddr 0, .ref 0, .ref 30, .ref 53, .int (nI (6 * r)), pm_u, pm_u, pm_u] [] z h g := by
  have I := j.1
  refine px_aload_n (i := 1) (pc' := 480) dL_law_479 rfl rfl rfl ?_
  refine px_aload_s (i := 0) (pc' := 481) dL_law_480 rfl rfl rfl ?_
  refine px_iload (i := 4) (pc' := 483) dL_law_481 rfl rfl ?_
  refine px_iconst (v := 1) (pc' := 484) dL_law_483 rfl (by decide) ?_
  refine px_iadd (pc' := 485) dL_law_484 rfl ?_
  refine px_sld (pc' := 486) dL_law_485 rfl (L_in (k := 1) hr hL (by decide)) ?_
  obtain ⟨v, M1⟩ := o_span (G := G) z h g j
  refine pi_callV (pc' := 489) (M1) okX8_span ivX8_span ml_L_67 ⟨Nat.le_of_ble_eq_true rfl, Nat.le_of_ble_eq_true rfl⟩ dL_law_486 rfl rfl rfl (Nat.le_of_ble_eq_true rfl) (by repeat (first | assumption | refine pm_I.up ?_ rfl | refine pm_I.uf ?_ rfl)) rfl cl_8 pm_le.rf hz ?_
  rintro _ h1 g1 ⟨rfl, I1, M2⟩
  refine px_aload_n (i := 2) (pc' := 490) dL_law_489 rfl rfl rfl ?_
  refine px_aload_s (i := 0) (pc' := 491) dL_law_490 rfl rfl rfl ?_
  refine px_iload (i := 4) (pc' := 493) dL_law_491 rfl rfl ?_
  refine px_iconst (v := 1) (pc' := 494) dL_law_493 rfl (by decide) ?_
  refine px_iadd (pc' := 495) dL_law_494 rfl ?_
  refine px_sld (pc' := 496) dL_law_495 rfl (L_in (k := 1) hr hL (by decide)) ?_
  refine pi_callV (pc' := 499) (M2) okX9_span ivX9_span ml_L_70 ⟨Nat.le_of_ble_eq_true rfl, Nat.le_of_ble_eq_true rfl⟩ dL_law_496 rfl rfl rfl (Nat.le_of_ble_eq_true rfl) (by repeat (first | assumption | refine pm_I.up ?_ rfl | refine pm_I.uf ?_ rfl)) rfl cl_9 pm_le.rf hz ?_
  rintro _ h2 g2 ⟨rfl, j2⟩
  refine px_icmp_eq (tgt := 680) (pc' := 502) dL_law_499 (by decide) rfl (fun _ => ?_) (fun q_ => absurd (rfl) q_)
  exact next h2 g2 j2
theorem L_best (hr : 6 * r + 6 ≤ pm_L G) (hL : pm_L G ≤ 3072) (hz : pm_le z zm) (j : J h g) (next : ∀ h' g', J h' g' → pm_W G mL_law zm Φ 680 [.retAddr 0, .ref 0, .ref 30, .ref 53, .int (nI (6 * r)), pm_u, pm_u, pm_u] [] z h' g') : pm_W G mL_law zm Φ 504 [.retAddr 0, .ref 0, .ref 30, .ref 53, .int (nI (6 * r)), pm_u, pm_u, pm_u] [] z h g := by
  have I := j.1
  refine px_aload_n (i := 1) (pc' := 505) dL_law_504 rfl rfl rfl ?_
  obtain ⟨v, M1⟩ := o_best (G := G) z h g j
  refine pi_callV (pc' := 508) (M1) okX8_best ivX8_best ml_L_71 ⟨Nat.le_of_ble_eq_true rfl, Nat.le_of_ble_eq_true rfl⟩ dL_law_505 rfl rfl rfl (Nat.le_of_ble_eq_true rfl) (by repeat (first | assumption | refine pm_I.up ?_ rfl | refine pm_I.uf ?_ rfl)) rfl cl_8 pm_le.rf hz ?_
  rintro _ h1 g1 ⟨rfl, I1, M2⟩
  refine px_aload_n (i := 2) (pc' := 509) dL_law_508 rfl rfl rfl ?_
  refine pi_callV (pc' := 512) (M2) okX9_best ivX9_best ml_L_74 ⟨Nat.le_of_ble_eq_true rfl, Nat.le_of_ble_eq_true rfl⟩ dL_law_509 rfl rfl rfl (Nat.le_of_ble_eq_true rfl) (by repeat (first | assumption | refine pm_I.up ?_ rfl | refine pm_I.uf ?_ rfl)) rfl cl_9 pm_le.rf hz ?_
  rintro _ h2 g2 ⟨rfl, j2⟩
  refine px_icmp_eq (tgt := 680) (pc' := 515) dL_law_512 (by decide) rfl (fun _ => ?_) (fun q_ => absurd (rfl) q_)
  exact next h2 g2 j2
theorem L_path (hr : 6 * r + 6 ≤ pm_L G) (hL : pm_L G ≤ 3072) (hz : pm_le z zm) (j : J h g) (next : ∀ h' g', J h' g' → pm_W G mL_law zm Φ 680 [.retAddr 0, .ref 0, .ref 30, .ref 53, .int (nI (6 * r)), pm_u, pm_u, pm_u] [] z h' g') : pm_W G mL_law zm Φ 517 [.retAddr 0, .ref 0, .ref 30, .ref 53, .int (nI (6 * r)), pm_u, pm_u, pm_u] [] z h g := by
  have I := j.1
  refine px_aload_n (i := 1) (pc' := 518) dL_law_517 rfl rfl rfl ?_
  refine px_aload_s (i := 0) (pc' := 519) dL_law_518 rfl rfl rfl ?_
  refine px_iload (i := 4) (pc' := 521) dL_law_519 rfl rfl ?_
  refine px_iconst (v := 1) (pc' := 522) dL_law_521 rfl (by decide) ?_
  refine px_iadd (pc' := 523) dL_law_522 rfl ?_
  refine px_sld (pc' := 524) dL_law_523 rfl (L_in (k := 1) hr hL (by decide)) ?_
  obtain ⟨v, M1⟩ := o_path (G := G) z h g j
  refine pi_callV (pc' := 527) (M1) okX8_path ivX8_path ml_L_75 ⟨Nat.le_of_ble_eq_true rfl, Nat.le_of_ble_eq_true rfl⟩ dL_law_524 rfl rfl rfl (Nat.le_of_ble_eq_true rfl) (by repeat (first | assumption | refine pm_I.up ?_ rfl | refine pm_I.uf ?_ rfl)) rfl cl_8 pm_le.rf hz ?_
  rintro _ h1 g1 ⟨rfl, I1, M2⟩
  refine px_aload_n (i := 2) (pc' := 528) dL_law_527 rfl rfl rfl ?_
  refine px_aload_s (i := 0) (pc' := 529) dL_law_528 rfl rfl rfl ?_
  refine px_iload (i := 4) (pc' := 531) dL_law_529 rfl rfl ?_
  refine px_iconst (v := 1) (pc' := 532) dL_law_531 rfl (by decide) ?_
  refine px_iadd (pc' := 533) dL_law_532 rfl ?_
  refine px_sld (pc' := 534) dL_law_533 rfl (L_in (k := 1) hr hL (by decide)) ?_
  refine pi_callV (pc' := 537) (M2) okX9_path ivX9_path ml_L_78 ⟨Nat.le_of_ble_eq_true rfl, Nat.le_of_ble_eq_true rfl⟩ dL_law_534 rfl rfl rfl (Nat.le_of_ble_eq_true rfl) (by repeat (first | assumption | refine pm_I.up ?_ rfl | refine pm_I.uf ?_ rfl)) rfl cl_9 pm_le.rf hz ?_
  rintro _ h2 g2 ⟨rfl, j2⟩
  refine px_icmp_eq (tgt := 680) (pc' := 540) dL_law_537 (by decide) rfl (fun _ => ?_) (fun q_ => absurd (rfl) q_)
  exact next h2 g2 j2
theorem L_twins (hr : 6 * r + 6 ≤ pm_L G) (hL : pm_L G ≤ 3072) (hz : pm_le z zm) (j : J h g) (next : ∀ h' g', J h' g' → pm_W G mL_law zm Φ 680 [.retAddr 0, .ref 0, .ref 30, .ref 53, .int (nI (6 * r)), pm_u, pm_u, pm_u] [] z h' g') : pm_W G mL_law zm Φ 542 [.retAddr 0, .ref 0, .ref 30, .ref 53, .int (nI (6 * r)), pm_u, pm_u, pm_u] [] z h g := by
  have I := j.1
  refine px_aload_n (i := 1) (pc' := 543) dL_law_542 rfl rfl rfl ?_
  obtain ⟨v, M1⟩ := o_twins (G := G) z h g j
  refine pi_callV (pc' := 546) (M1) okX8_twins ivX8_twins ml_L_79 ⟨Nat.le_of_ble_eq_true rfl, Nat.le_of_ble_eq_true rfl⟩ dL_law_543 rfl rfl rfl (Nat.le_of_ble_eq_true rfl) (by repeat (first | assumption | refine pm_I.up ?_ rfl | refine pm_I.uf ?_ rfl)) rfl cl_8 pm_le.rf hz ?_
  rintro _ h1 g1 ⟨rfl, I1, M2⟩
  refine px_aload_n (i := 2) (pc' := 547) dL_law_546 rfl rfl rfl ?_
  refine pi_callV (pc' := 550) (M2) okX9_twins ivX9_twins ml_L_82 ⟨Nat.le_of_ble_eq_true rfl, Nat.le_of_ble_eq_true rfl⟩ dL_law_547 rfl rfl rfl (Nat.le_of_ble_eq_true rfl) (by repeat (first | assumption | refine pm_I.up ?_ rfl | refine pm_I.uf ?_ rfl)) rfl cl_9 pm_le.rf hz ?_
  rintro _ h2 g2 ⟨rfl, j2⟩
  refine px_icmp_eq (tgt := 680) (pc' := 553) dL_law_550 (by decide) rfl (fun _ => ?_) (fun q_ => absurd (rfl) q_)
  exact next h2 g2 j2
theorem L_twin (hr : 6 * r + 6 ≤ pm_L G) (hL : pm_L G ≤ 3072) (hz : pm_le z zm) (j : J h g) (next : ∀ h' g', J h' g' → pm_W G mL_law zm Φ 680 [.retAddr 0, .ref 0, .ref 30, .ref 53, .int (nI (6 * r)), pm_u, pm_u, pm_u] [] z h' g') : pm_W G mL_law zm Φ 555 [.retAddr 0, .ref 0, .ref 30, .ref 53, .int (nI (6 * r)), pm_u, pm_u, pm_u] [] z h g := by
  have I := j.1
  refine px_aload_n (i := 1) (pc' := 556) dL_law_555 rfl rfl rfl ?_
  obtain ⟨v, M1⟩ := o_twin (G := G) z h g j
  refine pi_callV (pc' := 559) (M1) okX8_twin ivX8_twin ml_L_83 ⟨Nat.le_of_ble_eq_true rfl, Nat.le_of_ble_eq_true rfl⟩ dL_law_556 rfl rfl rfl (Nat.le_of_ble_eq_true rfl) (by repeat (first | assumption | refine pm_I.up ?_ rfl | refine pm_I.uf ?_ rfl)) rfl cl_8 pm_le.rf hz ?_
  rintro _ h1 g1 ⟨rfl, I1, M2⟩
  refine px_aload_n (i := 2) (pc' := 560) dL_law_559 rfl rfl rfl ?_
  refine pi_callV (pc' := 563) (M2) okX9_twin ivX9_twin ml_L_86 ⟨Nat.le_of_ble_eq_true rfl, Nat.le_of_ble_eq_true rfl⟩ dL_law_560 rfl rfl rfl (Nat.le_of_ble_eq_true rfl) (by repeat (first | assumption | refine pm_I.up ?_ rfl | refine pm_I.uf ?_ rfl)) rfl cl_9 pm_le.rf hz ?_
  rintro _ h2 g2 ⟨rfl, j2⟩
  refine px_icmp_eq (tgt := 680) (pc' := 566) dL_law_563 (by decide) rfl (fun _ => ?_) (fun q_ => absurd (rfl) q_)
  exact next h2 g2 j2
theorem L_route (hr : 6 * r + 6 ≤ pm_L G) (hL : pm_L G ≤ 3072) (hz : pm_le z zm) (j : J h g) (next : ∀ h' g', J h' g' → pm_W G mL_law zm Φ 680 [.retAddr 0, .ref 0, .ref 30, .ref 53, .int (nI (6 * r)), pm_u, pm_u, pm_u] [] z h' g') : pm_W G mL_law zm Φ 568 [.retAddr 0, .ref 0, .ref 30, .ref 53, .int (nI (6 * r)), pm_u, pm_u, pm_u] [] z h g := by
  have I := j.1
  refine px_aload_n (i := 1) (pc' := 569) dL_law_568 rfl rfl rfl ?_
  refine px_aload_s (i := 0) (pc' := 570) dL_law_569 rfl rfl rfl ?_
  refine px_iload (i := 4) (pc' := 572) dL_law_570 rfl rfl ?_
  refine px_iconst (v := 1) (pc' := 573) dL_law_572 rfl (by decide) ?_
  refine px_iadd (pc' := 574) dL_law_573 rfl ?_
  refine px_sld (pc' := 575) dL_law_574 rfl (L_in (k := 1) hr hL (by decide)) ?_
  obtain ⟨v, M1⟩ := o_route (G := G) z h g j
  refine pi_callV (pc' := 578) (M1) okX8_route ivX8_route ml_L_87 ⟨Nat.le_of_ble_eq_true rfl, Nat.le_of_ble_eq_true rfl⟩ dL_law_575 rfl rfl rfl (Nat.le_of_ble_eq_true rfl) (by repeat (first | assumption | refine pm_I.up ?_ rfl | refine pm_I.uf ?_ rfl)) rfl cl_8 pm_le.rf hz ?_
  rintro _ h1 g1 ⟨rfl, I1, M2⟩
  refine px_aload_n (i := 2) (pc' := 579) dL_law_578 rfl rfl rfl ?_
  refine px_aload_s (i := 0) (pc' := 580) dL_law_579 rfl rfl rfl ?_
  refine px_iload (i := 4) (pc' := 582) dL_law_580 rfl rfl ?_
  refine px_iconst (v := 1) (pc' := 583) dL_law_582 rfl (by decide) ?_
  refine px_iadd (pc' := 584) dL_law_583 rfl ?_
  refine px_sld (pc' := 585) dL_law_584 rfl (L_in (k := 1) hr hL (by decide)) ?_
  refine pi_callV (pc' := 588) (M2) okX9_route ivX9_route ml_L_90 ⟨Nat.le_of_ble_eq_true rfl, Nat.le_of_ble_eq_true rfl⟩ dL_law_585 rfl rfl rfl (Nat.le_of_ble_eq_true rfl) (by repeat (first | assumption | refine pm_I.up ?_ rfl | refine pm_I.uf ?_ rfl)) rfl cl_9 pm_le.rf hz ?_
  rintro _ h2 g2 ⟨rfl, j2⟩
  refine px_icmp_eq (tgt := 680) (pc' := 591) dL_law_588 (by decide) rfl (fun _ => ?_) (fun q_ => absurd (rfl) q_)
  exact next h2 g2 j2
theorem L_check (hr : 6 * r + 6 ≤ pm_L G) (hL : pm_L G ≤ 3072) (hz : pm_le z zm) (j : J h g) (next : ∀ h' g', J h' g' → pm_W G mL_law zm Φ 680 [.retAddr 0, .ref 0, .ref 30, .ref 53, .int (nI (6 * r)), pm_u, pm_u, pm_u] [] z h' g') : pm_W G mL_law zm Φ 593 [.retAddr 0, .ref 0, .ref 30, .ref 53, .int (nI (6 * r)), pm_u, pm_u, pm_u] [] z h g := by
  have I := j.1
  refine px_aload_n (i := 1) (pc' := 594) dL_law_593 rfl rfl rfl ?_
  refine px_aload_s (i := 0) (pc' := 595) dL_law_594 rfl rfl rfl ?_
  refine px_iload (i := 4) (pc' := 597) dL_law_595 rfl rfl ?_
  refine px_iconst (v := 1) (pc' := 598) dL_law_597 rfl (by decide) ?_
  refine px_iadd (pc' := 599) dL_law_598 rfl ?_
  refine px_sld (pc' := 600) dL_law_599 rfl (L_in (k := 1) hr hL (by decide)) ?_
  refine px_aload_s (i := 0) (pc' := 601) dL_law_600 rfl rfl rfl ?_
  refine px_iload (i := 4) (pc' := 603) dL_law_601 rfl rfl ?_
  refine px_iconst (v := 2) (pc' := 604) dL_law_603 rfl (by decide) ?_
  refine px_iadd (pc' := 605) dL_law_604 rfl ?_
  refine px_sld (pc' := 606) dL_law_605 rfl (L_in (k := 2) hr hL (by decide)) ?_
  obtain ⟨v, M1⟩ := o_check (G := G) z h g j
  refine pi_callV (pc' := 609) (M1) okX8_check ivX8_check ml_L_91 ⟨Nat.le_of_ble_eq_true rfl, Nat.le_of_ble_eq_true rfl⟩ dL_law_606 rfl rfl rfl (Nat.le_of_ble_eq_true rfl) (by repeat (first | assumption | refine pm_I.up ?_ rfl | refine pm_I.uf ?_ rfl)) rfl cl_8 pm_le.rf hz ?_
  rintro _ h1 g1 ⟨rfl, I1, M2⟩
  refine px_aload_n (i := 2) (pc' := 610) dL_law_609 rfl rfl rfl ?_
  refine px_aload_s (i := 0) (pc' := 611) dL_law_610 rfl rfl rfl ?_
  refine px_iload (i := 4) (pc' := 613) dL_law_611 rfl rfl ?_
  refine px_iconst (v := 1) (pc' := 614) dL_law_613 rfl (by decide) ?_
  refine px_iadd (pc' := 615) dL_law_614 rfl ?_
  refine px_sld (pc' := 616) dL_law_615 rfl (L_in (k := 1) hr hL (by decide)) ?_
  refine px_aload_s (i := 0) (pc' := 617) dL_law_616 rfl rfl rfl ?_
  refine px_iload (i := 4) (pc' := 619) dL_law_617 rfl rfl ?_
  refine px_iconst (v := 2) (pc' := 620) dL_law_619 rfl (by decide) ?_
  refine px_iadd (pc' := 621) dL_law_620 rfl ?_
  refine px_sld (pc' := 622) dL_law_621 rfl (L_in (k := 2) hr hL (by decide)) ?_
  refine pi_callV (pc' := 625) (M2) okX9_check ivX9_check ml_L_94 ⟨Nat.le_of_ble_eq_true rfl, Nat.le_of_ble_eq_true rfl⟩ dL_law_622 rfl rfl rfl (Nat.le_of_ble_eq_true rfl) (by repeat (first | assumption | refine pm_I.up ?_ rfl | refine pm_I.uf ?_ rfl)) rfl cl_9 pm_le.rf hz ?_
  rintro _ h2 g2 ⟨rfl, j2⟩
  refine px_icmp_eq (tgt := 680) (pc' := 628) dL_law_625 (by decide) rfl (fun _ => ?_) (fun q_ => absurd (rfl) q_)
  exact next h2 g2 j2
theorem L_height (hr : 6 * r + 6 ≤ pm_L G) (hL : pm_L G ≤ 3072) (hz : pm_le z zm) (j : J h g) (next : ∀ h' g', J h' g' → pm_W G mL_law zm Φ 680 [.retAddr 0, .ref 0, .ref 30, .ref 53, .int (nI (6 * r)), pm_u, pm_u, pm_u] [] z h' g') : pm_W G mL_law zm Φ 630 [.retAddr 0, .ref 0, .ref 30, .ref 53, .int (nI (6 * r)), pm_u, pm_u, pm_u] [] z h g := by
  have I := j.1
  refine px_aload_n (i := 1) (pc' := 631) dL_law_630 rfl rfl rfl ?_
  refine px_aload_s (i := 0) (pc' := 632) dL_law_631 rfl rfl rfl ?_
  refine px_iload (i := 4) (pc' := 634) dL_law_632 rfl rfl ?_
  refine px_iconst (v := 1) (pc' := 635) dL_law_634 rfl (by decide) ?_
  refine px_iadd (pc' := 636) dL_law_635 rfl ?_
  refine px_sld (pc' := 637) dL_law_636 rfl (L_in (k := 1) hr hL (by decide)) ?_
  obtain ⟨v, M1⟩ := o_height (G := G) z h g j
  refine pi_callV (pc' := 640) (M1) okX8_height ivX8_height ml_L_95 ⟨Nat.le_of_ble_eq_true rfl, Nat.le_of_ble_eq_true rfl⟩ dL_law_637 rfl rfl rfl (Nat.le_of_ble_eq_true rfl) (by repeat (first | assumption | refine pm_I.up ?_ rfl | refine pm_I.uf ?_ rfl)) rfl cl_8 pm_le.rf hz ?_
  rintro _ h1 g1 ⟨rfl, I1, M2⟩
  refine px_aload_n (i := 2) (pc' := 641) dL_law_640 rfl rfl rfl ?_
  refine px_aload_s (i := 0) (pc' := 642) dL_law_641 rfl rfl rfl ?_
  refine px_iload (i := 4) (pc' := 644) dL_law_642 rfl rfl ?_
  refine px_iconst (v := 1) (pc' := 645) dL_law_644 rfl (by decide) ?_
  refine px_iadd (pc' := 646) dL_law_645 rfl ?_
  refine px_sld (pc' := 647) dL_law_646 rfl (L_in (k := 1) hr hL (by decide)) ?_
  refine pi_callV (pc' := 650) (M2) okX9_height ivX9_height ml_L_98 ⟨Nat.le_of_ble_eq_true rfl, Nat.le_of_ble_eq_true rfl⟩ dL_law_647 rfl rfl rfl (Nat.le_of_ble_eq_true rfl) (by repeat (first | assumption | refine pm_I.up ?_ rfl | refine pm_I.uf ?_ rfl)) rfl cl_9 pm_le.rf hz ?_
  rintro _ h2 g2 ⟨rfl, j2⟩
  refine px_icmp_eq (tgt := 680) (pc' := 653) dL_law_650 (by decide) rfl (fun _ => ?_) (fun q_ => absurd (rfl) q_)
  exact next h2 g2 j2
theorem L_count (hr : 6 * r + 6 ≤ pm_L G) (hL : pm_L G ≤ 3072) (hz : pm_le z zm) (j : J h g) (next : ∀ h' g', J h' g' → pm_W G mL_law zm Φ 680 [.retAddr 0, .ref 0, .ref 30, .ref 53, .int (nI (6 * r)), pm_u, pm_u, pm_u] [] z h' g') : pm_W G mL_law zm Φ 655 [.retAddr 0, .ref 0, .ref 30, .ref 53, .int (nI (6 * r)), pm_u, pm_u, pm_u] [] z h g := by
  have I := j.1
  refine px_aload_n (i := 1) (pc' := 656) dL_law_655 rfl rfl rfl ?_
  refine px_aload_s (i := 0) (pc' := 657) dL_law_656 rfl rfl rfl ?_
  refine px_iload (i := 4) (pc' := 659) dL_law_657 rfl rfl ?_
  refine px_iconst (v := 1) (pc' := 660) dL_law_659 rfl (by decide) ?_
  refine px_iadd (pc' := 661) dL_law_660 rfl ?_
  refine px_sld (pc' := 662) dL_law_661 rfl (L_in (k := 1) hr hL (by decide)) ?_
  obtain ⟨v, M1⟩ := o_count (G := G) z h g j
  refine pi_callV (pc' := 665) (M1) okX8_count ivX8_count ml_L_99 ⟨Nat.le_of_ble_eq_true rfl, Nat.le_of_ble_eq_true rfl⟩ dL_law_662 rfl rfl rfl (Nat.le_of_ble_eq_true rfl) (by repeat (first | assumption | refine pm_I.up ?_ rfl | refine pm_I.uf ?_ rfl)) rfl cl_8 pm_le.rf hz ?_
  rintro _ h1 g1 ⟨rfl, I1, M2⟩
  refine px_aload_n (i := 2) (pc' := 666) dL_law_665 rfl rfl rfl ?_
  refine px_aload_s (i := 0) (pc' := 667) dL_law_666 rfl rfl rfl ?_
  refine px_iload (i := 4) (pc' := 669) dL_law_667 rfl rfl ?_
  refine px_iconst (v := 1) (pc' := 670) dL_law_669 rfl (by decide) ?_
  refine px_iadd (pc' := 671) dL_law_670 rfl ?_
  refine px_sld (pc' := 672) dL_law_671 rfl (L_in (k := 1) hr hL (by decide)) ?_
  refine pi_callV (pc' := 675) (M2) okX9_count ivX9_count ml_L_102 ⟨Nat.le_of_ble_eq_true rfl, Nat.le_of_ble_eq_true rfl⟩ dL_law_672 rfl rfl rfl (Nat.le_of_ble_eq_true rfl) (by repeat (first | assumption | refine pm_I.up ?_ rfl | refine pm_I.uf ?_ rfl)) rfl cl_9 pm_le.rf hz ?_
  rintro _ h2 g2 ⟨rfl, j2⟩
  refine px_icmp_eq (tgt := 680) (pc' := 678) dL_law_675 (by decide) rfl (fun _ => ?_) (fun q_ => absurd (rfl) q_)
  exact next h2 g2 j2
theorem L_share (hr : 6 * r + 6 ≤ pm_L G) (hL : pm_L G ≤ 3072) (hz : z.1 + 1 ≤ zm.1 ∧ z.2.1 + 6 ≤ zm.2.1) (j : J h g) (next : ∀ (z' : pm_z) h' g', z'.1 ≤ z.1 + 1 → z'.2.1 ≤ z.2.1 + 6 → J h' g' → pm_W G mL_law zm Φ 680 [.retAddr 0, .ref 0, .ref 30, .ref 53, .int (nI (6 * r)), pm_u, pm_u, pm_u] [] z' h' g') : pm_W G mL_law zm Φ 399 [.retAddr 0, .ref 0, .ref 30, .ref 53, .int (nI (6 * r)), pm_u, pm_u, pm_u] [] z h g := by
  have I := j.1
  have hzz : pm_le z zm := ⟨by have := hz.1; omega, by have := hz.2; omega⟩
  obtain ⟨w, d, S, fo, hw, hd, e1, e2, e3, e4, e5, e6, hS, hS0, hh, hle, eo⟩ := j.share
  refine px_aload_n (i := 1) (pc' := 400) dL_law_399 rfl rfl rfl ?_
  refine px_aload_s (i := 0) (pc' := 401) dL_law_400 rfl rfl rfl ?_
  refine px_iload (i := 4) (pc' := 403) dL_law_401 rfl rfl ?_
  refine px_iconst (v := 1) (pc' := 404) dL_law_403 rfl (by decide) ?_
  refine px_iadd (pc' := 405) dL_law_404 rfl ?_
  refine px_sld (pc' := 406) dL_law_405 rfl (L_in (k := 1) hr hL (by decide)) ?_
  refine px_aload_s (i := 0) (pc' := 407) dL_law_406 rfl rfl rfl ?_
  refine px_iload (i := 4) (pc' := 409) dL_law_407 rfl rfl ?_
  refine px_iconst (v := 2) (pc' := 410) dL_law_409 rfl (by decide) ?_
  refine px_iadd (pc' := 411) dL_law_410 rfl ?_
  refine px_sld (pc' := 412) dL_law_411 rfl (L_in (k := 2) hr hL (by decide)) ?_
  refine px_aload_n (i := 3) (pc' := 413) dL_law_412 rfl rfl rfl ?_
  generalize hc : pm_xs G (nI (6 * r) + 1).toNatClampNeg = c
  generalize ha : pm_xs G (nI (6 * r) + 2).toNatClampNeg = a
  by_cases ok : 0 ≤ c.toInt ∧ c.toInt < (w * d : Nat) ∧ 0 ≤ a.toInt ∧ a.toInt ≤ 1
  · obtain ⟨k1, k2, k3, k4⟩ := ok
    have hwd := m_wd hw hd
    obtain ⟨n, hn, rfl⟩ : ∃ n : Nat, n < w * d ∧ c = nI n := ⟨c.toInt.toNat, by omega, by rw [← iZ_n, Int.toNat_of_nonneg k1, iZ_i]⟩
    refine px_callL rfl (L_share_ok I e1 e2 hw hd e5 hS hS0 hn (hle n hn) ⟨k3, k4⟩ eo) pm_le.rf hzz rfl dL_law_413 (pc' := 416) rfl (Nat.le_of_ble_eq_true rfl) ?_
    rintro _ n' h' g' ⟨rfl, rfl, rfl, rfl⟩
    show pm_W G mL_law zm Φ 416 _ _ z _ _
    refine sx_i_8_5 (pc' := 418) dL_law_416 rfl rfl rfl ?_
    refine px_aload_n (i := 2) (pc' := 419) dL_law_418 rfl rfl rfl ?_
    refine px_aload_s (i := 0) (pc' := 420) dL_law_419 rfl rfl rfl ?_
    refine px_iload (i := 4) (pc' := 422) dL_law_420 rfl rfl ?_
    refine px_iconst (v := 1) (pc' := 423) dL_law_422 rfl (by decide) ?_
    refine px_iadd (pc' := 424) dL_law_423 rfl ?_
    refine px_sld (pc' := 425) dL_law_424 rfl (L_in (k := 1) hr hL (by decide)) ?_
    refine px_aload_s (i := 0) (pc' := 426) dL_law_425 rfl rfl rfl ?_
    refine px_iload (i := 4) (pc' := 428) dL_law_426 rfl rfl ?_
    refine px_iconst (v := 2) (pc' := 429) dL_law_428 rfl (by decide) ?_
    refine px_iadd (pc' := 430) dL_law_429 rfl ?_
    refine px_sld (pc' := 431) dL_law_430 rfl (L_in (k := 2) hr hL (by decide)) ?_
    rw [hc, ha]
    refine pi_callV (pc' := 434) (d_share_ok (by repeat (first | assumption | refine pm_I.up ?_ rfl | refine pm_I.uf ?_ rfl)) e3 e4 hw hd (by first | assumption | (repeat (first | exact pm_up_e rfl | refine pm_up_o (by decide) ?_ | apply pm_up_o (by decide))) <;> assumption) hS hS0 hh hn (hle n hn) ⟨k3, k4⟩) okX9_share ivX9_share ml_L_58 ⟨Nat.le_of_ble_eq_true rfl, Nat.le_of_ble_eq_true rfl⟩ dL_law_431 rfl rfl rfl (Nat.le_of_ble_eq_true rfl) (by repeat (first | assumption | refine pm_I.up ?_ rfl | refine pm_I.uf ?_ rfl)) rfl cl_9 pm_le.rf hzz ?_
    rintro _ _ _ ⟨rfl, rfl, rfl⟩
    refine sx_l_8_6 (pc' := 436) dL_law_434 rfl rfl rfl ?_
    refine px_aload_n (i := 2) (pc' := 437) dL_law_436 rfl rfl rfl ?_
    refine pi_callV (pc' := 440) (d_thrown (by repeat (first | assumption | refine pm_I.up ?_ rfl | refine pm_I.uf ?_ rfl)) (by first | assumption | (repeat (first | exact pm_uf_e rfl | refine pm_uf_o (by decide) ?_ | apply pm_uf_o (by decide))) <;> assumption)) okX9_thrown ivX9_thrown ml_L_59 ⟨Nat.le_of_ble_eq_true rfl, Nat.le_of_ble_eq_true rfl⟩ dL_law_437 rfl rfl rfl (Nat.le_of_ble_eq_true rfl) (by repeat (first | assumption | refine pm_I.up ?_ rfl | refine pm_I.uf ?_ rfl)) rfl cl_9 pm_le.rf hzz ?_
    rintro _ _ _ ⟨rfl, rfl, rfl⟩
    refine px_iload (i := 5) (pc' := 442) dL_law_440 rfl rfl ?_
    refine px_icmp_eq (tgt := 447) (pc' := 445) dL_law_442 (by decide) rfl (fun _ => ?_) (fun q_ => absurd (rfl) q_)
    refine px_iload (i := 5) (pc' := 449) dL_law_447 rfl rfl ?_
    refine px_if_ne (tgt := 463) (pc' := 452) dL_law_449 (by decide) rfl (fun q_ => absurd (rfl) q_) (fun _ => ?_)
    refine px_aload_n (i := 3) (pc' := 453) dL_law_452 rfl rfl rfl ?_
    refine px_iconst (v := 0) (pc' := 454) dL_law_453 rfl (by decide) ?_
    refine px_lald (pc' := 455) dL_law_454 rfl (by first | assumption | (repeat (first | exact pm_up_e rfl | refine pm_up_o (by decide) ?_ | apply pm_up_o (by decide))) <;> assumption) (i_in (by decide) (by decide)) ?_
    refine px_lload (i := 6) (pc' := 457) dL_law_455 rfl rfl ?_
    rw [show vp_updL fo 0 (lN (if a.toInt = 0 then S n / Nat.gcd (S n) (m_sum S 144) else m_sum S 144 / Nat.gcd (S n) (m_sum S 144))) (0 : Int32).toNatClampNeg = lN (if a.toInt = 0 then S n / Nat.gcd (S n) (m_sum S 144) else m_sum S 144 / Nat.gcd (S n) (m_sum S 144)) from if_pos rfl]
    refine px_lcmp (pc' := 458) dL_law_457 rfl ?_
    refine px_if_eq (tgt := 463) (pc' := 461) dL_law_458 (by decide) rfl (fun _ => ?_) (fun q_ => absurd (by rw [lg_cmp_eq]) q_)
    refine px_goto (tgt := 680) dL_law_463 (by decide) ?_
    refine px_f8_5 ?_
    exact next z _ _ (by omega) (by omega) j.out.thr
  · refine px_callL rfl (L_share_x I e1 e2 hw hd ok) ⟨by show z.1 ≤ z.1 + 1; omega, by show z.2.1 ≤ z.2.1 + 6; omega⟩ hz rfl dL_law_413 (pc' := 416) rfl (Nat.le_of_ble_eq_true rfl) ?_
    rintro _ n' h' g' ⟨rfl, hn, rfl, rfl⟩
    refine sx_i_8_5 (pc' := 418) dL_law_416 rfl rfl rfl ?_
    refine px_aload_n (i := 2) (pc' := 419) dL_law_418 rfl rfl rfl ?_
    refine px_aload_s (i := 0) (pc' := 420) dL_law_419 rfl rfl rfl ?_
    refine px_iload (i := 4) (pc' := 422) dL_law_420 rfl rfl ?_
    refine px_iconst (v := 1) (pc' := 423) dL_law_422 rfl (by decide) ?_
    refine px_iadd (pc' := 424) dL_law_423 rfl ?_
    refine px_sld (pc' := 425) dL_law_424 rfl (L_in (k := 1) hr hL (by decide)) ?_
    refine px_aload_s (i := 0) (pc' := 426) dL_law_425 rfl rfl rfl ?_
    refine px_iload (i := 4) (pc' := 428) dL_law_426 rfl rfl ?_
    refine px_iconst (v := 2) (pc' := 429) dL_law_428 rfl (by decide) ?_
    refine px_iadd (pc' := 430) dL_law_429 rfl ?_
    refine px_sld (pc' := 431) dL_law_430 rfl (L_in (k := 2) hr hL (by decide)) ?_
    rw [hc, ha]
    refine pi_callV (pc' := 434) (d_share_x (by repeat (first | assumption | refine pm_I.up ?_ rfl | refine pm_I.uf ?_ rfl)) e3 e4 hw hd ok) okX9_share ivX9_share ml_L_58 ⟨Nat.le_of_ble_eq_true rfl, Nat.le_of_ble_eq_true rfl⟩ dL_law_431 rfl rfl rfl (Nat.le_of_ble_eq_true rfl) (by repeat (first | assumption | refine pm_I.up ?_ rfl | refine pm_I.uf ?_ rfl)) rfl cl_9 pm_le.rf hz ?_
    rintro _ _ _ ⟨rfl, rfl, rfl⟩
    refine sx_l_8_6 (pc' := 436) dL_law_434 rfl rfl rfl ?_
    refine px_aload_n (i := 2) (pc' := 437) dL_law_436 rfl rfl rfl ?_
    refine pi_callV (pc' := 440) (d_thrown (by repeat (first | assumption | refine pm_I.up ?_ rfl | refine pm_I.uf ?_ rfl)) (by first | assumption | (repeat (first | exact pm_uf_e rfl | refine pm_uf_o (by decide) ?_ | apply pm_uf_o (by decide))) <;> assumption)) okX9_thrown ivX9_thrown ml_L_59 ⟨Nat.le_of_ble_eq_true rfl, Nat.le_of_ble_eq_true rfl⟩ dL_law_437 rfl rfl rfl (Nat.le_of_ble_eq_true rfl) (by repeat (first | assumption | refine pm_I.up ?_ rfl | refine pm_I.uf ?_ rfl)) rfl cl_9 pm_le.rf hz ?_
    rintro _ _ _ ⟨rfl, rfl, rfl⟩
    refine px_iload (i := 5) (pc' := 442) dL_law_440 rfl rfl ?_
    refine px_icmp_eq (tgt := 447) (pc' := 445) dL_law_442 (by decide) rfl (fun _ => ?_) (fun q_ => absurd (rfl) q_)
    refine px_iload (i := 5) (pc' := 449) dL_law_447 rfl rfl ?_
    refine px_if_ne (tgt := 463) (pc' := 452) dL_law_449 (by decide) rfl (fun _ => ?_) (fun q_ => absurd q_ (by decide))
    refine px_goto (tgt := 680) dL_law_463 (by decide) ?_
    refine px_f8_5 ?_
    exact next _ _ _ (Nat.le_refl _) (Nat.le_refl _) j.thr
/-- the law's loop -/
theorem L_loop (hL : pm_L G ≤ 3072) (hzm : zm = (1079, 39825, 0)) (K : ∀ (z : pm_z) (ls : List Value) (h : pm_h) (g : pm_g), pm_W G mL_law zm Φ 687 ls [.int 1] z h g) :
    ∀ k r : Nat, r + k = 513 → ∀ (z : pm_z) (h : pm_h) (g : pm_g), z.1 ≤ 54 + r → z.2.1 ≤ 31627 + 6 * r → J h g → pm_W G mL_law zm Φ 23 [.retAddr 0, .ref 0, .ref 30, .ref 53, .int (nI (6 * r)), pm_u, pm_u, pm_u] [] z h g := by
  intro k
  induction k with
  | zero =>
    intro r hr z h g z1 z2 j
    have cmp : Int32.ofNat (pm_L G) - 6 < nI (6 * r) := by
      rw [show Int32.ofNat (pm_L G) = nI (pm_L G) from rfl, i_lt, i_sub (by rw [nI_toInt (by omega), show (6 : Int32).toInt = 6 from rfl]; omega) (by rw [nI_toInt (by omega), show (6 : Int32).toInt = 6 from rfl]; omega), nI_toInt (by omega), nI_toInt (by omega), show (6 : Int32).toInt = 6 from rfl]
      omega
    refine px_iload (i := 4) (pc' := 25) dL_law_23 rfl rfl ?_
    refine px_aload_s (i := 0) (pc' := 26) dL_law_25 rfl rfl rfl ?_
    refine px_slen (pc' := 27) dL_law_26 rfl ?_
    refine px_bipush (v := 6) (pc' := 29) dL_law_27 rfl (by decide) ?_
    refine px_isub (pc' := 30) dL_law_29 rfl ?_
    refine px_icmp_gt (tgt := 686) (pc' := 33) dL_law_30 (by decide) rfl (fun _ => ?_) (fun q_ => absurd (cmp) q_)
    refine px_iconst (v := 1) (pc' := 687) dL_law_686 rfl (by decide) ?_
    exact K _ _ _ _
  | succ k ih =>
    intro r hr z h g z1 z2 j
    have cmp : Int32.ofNat (pm_L G) - 6 < nI (6 * r) ↔ pm_L G < 6 * r + 6 := by
      rw [show Int32.ofNat (pm_L G) = nI (pm_L G) from rfl, i_lt, i_sub (by rw [nI_toInt (by omega), show (6 : Int32).toInt = 6 from rfl]; omega) (by rw [nI_toInt (by omega), show (6 : Int32).toInt = 6 from rfl]; omega), nI_toInt (by omega), nI_toInt (by omega), show (6 : Int32).toInt = 6 from rfl]
      omega
    by_cases q : pm_L G < 6 * r + 6
    · refine px_iload (i := 4) (pc' := 25) dL_law_23 rfl rfl ?_
      refine px_aload_s (i := 0) (pc' := 26) dL_law_25 rfl rfl rfl ?_
      refine px_slen (pc' := 27) dL_law_26 rfl ?_
      refine px_bipush (v := 6) (pc' := 29) dL_law_27 rfl (by decide) ?_
      refine px_isub (pc' := 30) dL_law_29 rfl ?_
      refine px_icmp_gt (tgt := 686) (pc' := 33) dL_law_30 (by decide) rfl (fun _ => ?_) (fun q_ => absurd (cmp.mpr q) q_)
      refine px_iconst (v := 1) (pc' := 687) dL_law_686 rfl (by decide) ?_
      exact K _ _ _ _
    have hr6 : 6 * r + 6 ≤ pm_L G := by omega
    have hz : z.1 + 1 ≤ zm.1 ∧ z.2.1 + 6 ≤ zm.2.1 := by
      rw [hzm]
      exact ⟨by show z.1 + 1 ≤ 1079; omega, by show z.2.1 + 6 ≤ 39825; omega⟩
    have hzz : pm_le z zm := ⟨by have := hz.1; omega, by have := hz.2; omega⟩
    have next2 : ∀ (z' : pm_z) h' g', z'.1 ≤ z.1 + 1 → z'.2.1 ≤ z.2.1 + 6 → J h' g' → pm_W G mL_law zm Φ 680 [.retAddr 0, .ref 0, .ref 30, .ref 53, .int (nI (6 * r)), pm_u, pm_u, pm_u] [] z' h' g' := by
      intro z' h' g' y1 y2 j'
      refine sx_inc_8_4 (w := 6) (pc' := 683) dL_law_680 rfl rfl (by decide) rfl ?_
      refine px_goto (tgt := 23) dL_law_683 (by decide) ?_
      rw [show nI (6 * r) + 6 = nI (6 * (r + 1)) by rw [show (6 : Int32) = nI 6 from rfl, nI_add, Nat.mul_add]]
      exact ih (r + 1) (by omega) z' h' g' (by omega) (by omega) j'
    have next : ∀ h' g', J h' g' → pm_W G mL_law zm Φ 680 [.retAddr 0, .ref 0, .ref 30, .ref 53, .int (nI (6 * r)), pm_u, pm_u, pm_u] [] z h' g' := fun h' g' j' => next2 z h' g' (by omega) (by omega) j'
    refine px_iload (i := 4) (pc' := 25) dL_law_23 rfl rfl ?_
    refine px_aload_s (i := 0) (pc' := 26) dL_law_25 rfl rfl rfl ?_
    refine px_slen (pc' := 27) dL_law_26 rfl ?_
    refine px_bipush (v := 6) (pc' := 29) dL_law_27 rfl (by decide) ?_
    refine px_isub (pc' := 30) dL_law_29 rfl ?_
    refine px_icmp_gt (tgt := 686) (pc' := 33) dL_law_30 (by decide) rfl (fun q_ => absurd q_ (fun hh => q (cmp.mp hh))) (fun _ => ?_)
    refine px_aload_s (i := 0) (pc' := 34) dL_law_33 rfl rfl rfl ?_
    refine px_iload (i := 4) (pc' := 36) dL_law_34 rfl rfl ?_
    refine px_sld (pc' := 37) dL_law_36 rfl (vp_in_nI (by omega) (by omega)) ?_
    refine px_bipush (v := 31) (pc' := 39) dL_law_37 rfl (by decide) ?_
    refine px_iand (pc' := 40) dL_law_39 rfl ?_
    obtain ⟨m, hm, em⟩ := pk_andE (pm_xs G (nI (6 * r)).toNatClampNeg) (m := 31) 5 (by decide)
    rw [em]
    by_cases hm18 : 18 ≤ m
    · refine px_tblOut (tgt := 680) dL_law_40 (Or.inr ?_) (by decide) ?_
      · rw [nI_toInt (by omega)]
        omega
      · exact next h g j
    have cs : m = 0 ∨ m = 1 ∨ m = 2 ∨ m = 3 ∨ m = 4 ∨ m = 5 ∨ m = 6 ∨ m = 7 ∨ m = 8 ∨ m = 9 ∨ m = 10 ∨ m = 11 ∨ m = 12 ∨ m = 13 ∨ m = 14 ∨ m = 15 ∨ m = 16 ∨ m = 17 := by omega
    rcases cs with rfl | rfl | rfl | rfl | rfl | rfl | rfl | rfl | rfl | rfl | rfl | rfl | rfl | rfl | rfl | rfl | rfl | rfl
    · refine px_tblIn (off := 88) (tgt := 128) dL_law_40 (by decide) (by decide) rfl (by decide) ?_
      exact L_feed hr6 hL hzz j next
    · refine px_tblIn (off := 161) (tgt := 201) dL_law_40 (by decide) (by decide) rfl (by decide) ?_
      exact L_end hr6 hL hzz j next
    · refine px_tblIn (off := 186) (tgt := 226) dL_law_40 (by decide) (by decide) rfl (by decide) ?_
      exact L_map hr6 hL hzz j next
    · refine px_tblIn (off := 223) (tgt := 263) dL_law_40 (by decide) (by decide) rfl (by decide) ?_
      exact L_meter hr6 hL hzz j next
    · refine px_tblIn (off := 272) (tgt := 312) dL_law_40 (by decide) (by decide) rfl (by decide) ?_
      exact L_begin hr6 hL hzz j next
    · refine px_tblIn (off := 297) (tgt := 337) dL_law_40 (by decide) (by decide) rfl (by decide) ?_
      exact L_move hr6 hL hzz j next
    · refine px_tblIn (off := 334) (tgt := 374) dL_law_40 (by decide) (by decide) rfl (by decide) ?_
      exact L_read hr6 hL hzz j next
    · refine px_tblIn (off := 359) (tgt := 399) dL_law_40 (by decide) (by decide) rfl (by decide) ?_
      exact L_share hr6 hL hz j next2
    · refine px_tblIn (off := 426) (tgt := 466) dL_law_40 (by decide) (by decide) rfl (by decide) ?_
      exact L_likely hr6 hL hzz j next
    · refine px_tblIn (off := 439) (tgt := 479) dL_law_40 (by decide) (by decide) rfl (by decide) ?_
      exact L_span hr6 hL hzz j next
    · refine px_tblIn (off := 464) (tgt := 504) dL_law_40 (by decide) (by decide) rfl (by decide) ?_
      exact L_best hr6 hL hzz j next
    · refine px_tblIn (off := 477) (tgt := 517) dL_law_40 (by decide) (by decide) rfl (by decide) ?_
      exact L_path hr6 hL hzz j next
    · refine px_tblIn (off := 502) (tgt := 542) dL_law_40 (by decide) (by decide) rfl (by decide) ?_
      exact L_twins hr6 hL hzz j next
    · refine px_tblIn (off := 515) (tgt := 555) dL_law_40 (by decide) (by decide) rfl (by decide) ?_
      exact L_twin hr6 hL hzz j next
    · refine px_tblIn (off := 528) (tgt := 568) dL_law_40 (by decide) (by decide) rfl (by decide) ?_
      exact L_route hr6 hL hzz j next
    · refine px_tblIn (off := 553) (tgt := 593) dL_law_40 (by decide) (by decide) rfl (by decide) ?_
      exact L_check hr6 hL hzz j next
    · refine px_tblIn (off := 590) (tgt := 630) dL_law_40 (by decide) (by decide) rfl (by decide) ?_
      exact L_height hr6 hL hzz j next
    · refine px_tblIn (off := 615) (tgt := 655) dL_law_40 (by decide) (by decide) rfl (by decide) ?_
      exact L_count hr6 hL hzz j next
end LAW

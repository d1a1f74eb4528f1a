theorem cb_wid {κ : cb_K} {w : cb_W} {ca sl ca' sl' pc : Nat} {lv : List (Option cb_V)} {st : List cb_V} (h1 : ca ≤ ca') (h2 : sl ≤ sl') (k : cb_X κ w ca' sl' pc lv st) : cb_X κ w ca sl pc lv st := fun ad H locs ls a b c d => W.widen h1 h2 (k ad H locs ls a b c d)
def lw_I (w : cb_W) (A : ca_A) (z : Int32) : Prop := ca_J A ∧ cc_I w A z ∧ cm_I w A z
theorem lw_c0 {κ : cb_K} (O : cb_Ok κ cL_law 4 RL room_1) (hkf : ∀ q, κ.2.2.2.2.1 q = false) (w : cb_W) (A : ca_A) (z : Int32) (hL : lw_I w A z) (i ca sl : Nat) (hi : i + 3 < (cb_ro κ.2.2.1.1 3).1) (hb : (cb_ro κ.2.2.1.1 3).1 ≤ 2048) (hca : ca + 120 ≤ 600000) (hsl : sl + 6520 ≤ 7302250) (K : ∀ w' A' z', lw_I w' A' z' → cb_X κ w' (ca + 120) (sl + 6520) 1182 [some (.inr (some 903)), some (.inr (some 0)), some (.inr (some 1000)), some (.inl (nI i))] []) : cb_X κ w ca sl 176 [some (.inr (some 903)), some (.inr (some 0)), some (.inr (some 1000)), some (.inl (nI i))] [] := by
  obtain ⟨hJ, hC, hM⟩ := hL
  refine cb_aload_n (pc := 176) O dL_law_176 rfl ?_
  refine cb_aload_n (pc := 177) O dL_law_177 rfl ?_
  refine cb_iload_n (pc := 178) O dL_law_178 rfl ?_
  refine cb_iconst (pc := 179) (v := 1) O dL_law_179 (by decide) ?_
  refine cb_iadd (pc := 180) O dL_law_180 ?_
  refine cb_ialdS (pc := 181) O 3 (i + 1) (by decide) dL_law_181 (by omega) (nI_add i 1) (by omega) ?_
  refine cb_aload_n (pc := 182) O dL_law_182 rfl ?_
  refine cb_iload_n (pc := 183) O dL_law_183 rfl ?_
  refine cb_iconst (pc := 184) (v := 2) O dL_law_184 (by decide) ?_
  refine cb_iadd (pc := 185) O dL_law_185 ?_
  refine cb_ialdS (pc := 186) O 3 (i + 2) (by decide) dL_law_186 (by omega) (nI_add i 2) (by omega) ?_
  refine cb_cVi (pc := 187) O (k_board _ A z hJ.1 hC _ _) my_X10_board mi_X10_board mx_X10_board ml_L_13 dL_law_187 rfl ct_10 rfl rfl rfl ⟨(Nat.le_of_ble_eq_true rfl), (Nat.le_of_ble_eq_true rfl)⟩ (Nat.le_of_ble_eq_true rfl) rfl ⟨by show _ ≤ 600000; omega, by show _ ≤ 7302250; omega⟩ (fun q h => by rw [hkf q] at h; cases h) (hC.1.1 _ rfl) (fun x_187 w_187 hp_187 => ?_)
  obtain ⟨hx1, hC1, hm1⟩ := hp_187
  have hM1 := hM.mv hm1
  refine cb_aload_n (pc := 190) O dL_law_190 rfl ?_
  refine cb_aload_n (pc := 191) O dL_law_191 rfl ?_
  refine cb_iload_n (pc := 192) O dL_law_192 rfl ?_
  refine cb_iconst (pc := 193) (v := 1) O dL_law_193 (by decide) ?_
  refine cb_iadd (pc := 194) O dL_law_194 ?_
  refine cb_ialdS (pc := 195) O 3 (i + 1) (by decide) dL_law_195 (by omega) (nI_add i 1) (by omega) ?_
  refine cb_aload_n (pc := 196) O dL_law_196 rfl ?_
  refine cb_iload_n (pc := 197) O dL_law_197 rfl ?_
  refine cb_iconst (pc := 198) (v := 2) O dL_law_198 (by decide) ?_
  refine cb_iadd (pc := 199) O dL_law_199 ?_
  refine cb_ialdS (pc := 200) O 3 (i + 2) (by decide) dL_law_200 (by omega) (nI_add i 2) (by omega) ?_
  refine cb_cVi (pc := 201) O (m_board _ A z hJ.1 hM1 _ _) my_X11_board mi_X11_board mx_X11_board ml_L_17 dL_law_201 rfl ct_11 rfl rfl rfl ⟨(Nat.le_of_ble_eq_true rfl), (Nat.le_of_ble_eq_true rfl)⟩ (Nat.le_of_ble_eq_true rfl) rfl ⟨by show _ ≤ 600000; omega, by show _ ≤ 7302250; omega⟩ (fun _ _ => rfl) (hM1.1.1 _ rfl) (fun x_201 w_201 hp_201 => ?_)
  obtain ⟨hx2, hM2, hc2⟩ := hp_201
  refine cb_icmp_eq (pc := 204) O 1182 dL_law_204 (by decide) (fun c_204 => ?_) (fun c_204 => ?_)
  · skip
    exact cb_wid (by omega) (by omega) (K _ _ _ ⟨(J_boardA _ _ hJ), hC1.mv hc2 (J_boardA _ _ hJ).1, hM2⟩)
  · skip
    exact absurd (hx1.trans hx2.symm) c_204
theorem lw_c1 {κ : cb_K} (O : cb_Ok κ cL_law 4 RL room_1) (hkf : ∀ q, κ.2.2.2.2.1 q = false) (w : cb_W) (A : ca_A) (z : Int32) (hL : lw_I w A z) (i ca sl : Nat) (hi : i + 3 < (cb_ro κ.2.2.1.1 3).1) (hb : (cb_ro κ.2.2.1.1 3).1 ≤ 2048) (hca : ca + 120 ≤ 600000) (hsl : sl + 6520 ≤ 7302250) (K : ∀ w' A' z', lw_I w' A' z' → cb_X κ w' (ca + 120) (sl + 6520) 1182 [some (.inr (some 903)), some (.inr (some 0)), some (.inr (some 1000)), some (.inl (nI i))] []) : cb_X κ w ca sl 209 [some (.inr (some 903)), some (.inr (some 0)), some (.inr (some 1000)), some (.inl (nI i))] [] := by
  obtain ⟨hJ, hC, hM⟩ := hL
  refine cb_aload_n (pc := 209) O dL_law_209 rfl ?_
  refine cb_aload_n (pc := 210) O dL_law_210 rfl ?_
  refine cb_iload_n (pc := 211) O dL_law_211 rfl ?_
  refine cb_iconst (pc := 212) (v := 1) O dL_law_212 (by decide) ?_
  refine cb_iadd (pc := 213) O dL_law_213 ?_
  refine cb_ialdS (pc := 214) O 3 (i + 1) (by decide) dL_law_214 (by omega) (nI_add i 1) (by omega) ?_
  refine cb_aload_n (pc := 215) O dL_law_215 rfl ?_
  refine cb_iload_n (pc := 216) O dL_law_216 rfl ?_
  refine cb_iconst (pc := 217) (v := 2) O dL_law_217 (by decide) ?_
  refine cb_iadd (pc := 218) O dL_law_218 ?_
  refine cb_ialdS (pc := 219) O 3 (i + 2) (by decide) dL_law_219 (by omega) (nI_add i 2) (by omega) ?_
  refine cb_aload_n (pc := 220) O dL_law_220 rfl ?_
  refine cb_iload_n (pc := 221) O dL_law_221 rfl ?_
  refine cb_iconst (pc := 222) (v := 3) O dL_law_222 (by decide) ?_
  refine cb_iadd (pc := 223) O dL_law_223 ?_
  refine cb_ialdS (pc := 224) O 3 (i + 3) (by decide) dL_law_224 (by omega) (nI_add i 3) (by omega) ?_
  refine cb_cVi (pc := 225) O (k_table _ A z hJ.1 hC _ _ _) my_X10_table mi_X10_table mx_X10_table ml_L_18 dL_law_225 rfl ct_10 rfl rfl rfl ⟨(Nat.le_of_ble_eq_true rfl), (Nat.le_of_ble_eq_true rfl)⟩ (Nat.le_of_ble_eq_true rfl) rfl ⟨by show _ ≤ 600000; omega, by show _ ≤ 7302250; omega⟩ (fun _ _ => rfl) (hC.1.1 _ rfl) (fun x_225 w_225 hp_225 => ?_)
  obtain ⟨hx1, hC1, hm1⟩ := hp_225
  have hM1 := hM.mv hm1
  refine cb_aload_n (pc := 228) O dL_law_228 rfl ?_
  refine cb_aload_n (pc := 229) O dL_law_229 rfl ?_
  refine cb_iload_n (pc := 230) O dL_law_230 rfl ?_
  refine cb_iconst (pc := 231) (v := 1) O dL_law_231 (by decide) ?_
  refine cb_iadd (pc := 232) O dL_law_232 ?_
  refine cb_ialdS (pc := 233) O 3 (i + 1) (by decide) dL_law_233 (by omega) (nI_add i 1) (by omega) ?_
  refine cb_aload_n (pc := 234) O dL_law_234 rfl ?_
  refine cb_iload_n (pc := 235) O dL_law_235 rfl ?_
  refine cb_iconst (pc := 236) (v := 2) O dL_law_236 (by decide) ?_
  refine cb_iadd (pc := 237) O dL_law_237 ?_
  refine cb_ialdS (pc := 238) O 3 (i + 2) (by decide) dL_law_238 (by omega) (nI_add i 2) (by omega) ?_
  refine cb_aload_n (pc := 239) O dL_law_239 rfl ?_
  refine cb_iload_n (pc := 240) O dL_law_240 rfl ?_
  refine cb_iconst (pc := 241) (v := 3) O dL_law_241 (by decide) ?_
  refine cb_iadd (pc := 242) O dL_law_242 ?_
  refine cb_ialdS (pc := 243) O 3 (i + 3) (by decide) dL_law_243 (by omega) (nI_add i 3) (by omega) ?_
  refine cb_cVi (pc := 244) O (m_table _ A z hJ.1 hM1 _ _ _) my_X11_table mi_X11_table mx_X11_table ml_L_22 dL_law_244 rfl ct_11 rfl rfl rfl ⟨(Nat.le_of_ble_eq_true rfl), (Nat.le_of_ble_eq_true rfl)⟩ (Nat.le_of_ble_eq_true rfl) rfl ⟨by show _ ≤ 600000; omega, by show _ ≤ 7302250; omega⟩ (fun _ _ => rfl) (hM1.1.1 _ rfl) (fun x_244 w_244 hp_244 => ?_)
  obtain ⟨hx2, hM2, hc2⟩ := hp_244
  refine cb_icmp_eq (pc := 247) O 1182 dL_law_247 (by decide) (fun c_247 => ?_) (fun c_247 => ?_)
  · skip
    exact cb_wid (by omega) (by omega) (K _ _ _ ⟨(J_table _ _ _ hJ), hC1.mv hc2 (J_table _ _ _ hJ).1, hM2⟩)
  · skip
    exact absurd (hx1.trans hx2.symm) c_247
theorem lw_c2 {κ : cb_K} (O : cb_Ok κ cL_law 4 RL room_1) (hkf : ∀ q, κ.2.2.2.2.1 q = false) (w : cb_W) (A : ca_A) (z : Int32) (hL : lw_I w A z) (i ca sl : Nat) (hi : i + 3 < (cb_ro κ.2.2.1.1 3).1) (hb : (cb_ro κ.2.2.1.1 3).1 ≤ 2048) (hca : ca + 120 ≤ 600000) (hsl : sl + 6520 ≤ 7302250) (K : ∀ w' A' z', lw_I w' A' z' → cb_X κ w' (ca + 120) (sl + 6520) 1182 [some (.inr (some 903)), some (.inr (some 0)), some (.inr (some 1000)), some (.inl (nI i))] []) : cb_X κ w ca sl 252 [some (.inr (some 903)), some (.inr (some 0)), some (.inr (some 1000)), some (.inl (nI i))] [] := by
  obtain ⟨hJ, hC, hM⟩ := hL
  refine cb_aload_n (pc := 252) O dL_law_252 rfl ?_
  refine cb_aload_n (pc := 253) O dL_law_253 rfl ?_
  refine cb_iload_n (pc := 254) O dL_law_254 rfl ?_
  refine cb_iconst (pc := 255) (v := 1) O dL_law_255 (by decide) ?_
  refine cb_iadd (pc := 256) O dL_law_256 ?_
  refine cb_ialdS (pc := 257) O 3 (i + 1) (by decide) dL_law_257 (by omega) (nI_add i 1) (by omega) ?_
  refine cb_aload_n (pc := 258) O dL_law_258 rfl ?_
  refine cb_iload_n (pc := 259) O dL_law_259 rfl ?_
  refine cb_iconst (pc := 260) (v := 2) O dL_law_260 (by decide) ?_
  refine cb_iadd (pc := 261) O dL_law_261 ?_
  refine cb_ialdS (pc := 262) O 3 (i + 2) (by decide) dL_law_262 (by omega) (nI_add i 2) (by omega) ?_
  refine cb_cVi (pc := 263) O (k_drying _ A z hJ.1 hC _ _) my_X10_drying mi_X10_drying mx_X10_drying ml_L_23 dL_law_263 rfl ct_10 rfl rfl rfl ⟨(Nat.le_of_ble_eq_true rfl), (Nat.le_of_ble_eq_true rfl)⟩ (Nat.le_of_ble_eq_true rfl) rfl ⟨by show _ ≤ 600000; omega, by show _ ≤ 7302250; omega⟩ (fun _ _ => rfl) (hC.1.1 _ rfl) (fun x_263 w_263 hp_263 => ?_)
  obtain ⟨hx1, hC1, hm1⟩ := hp_263
  have hM1 := hM.mv hm1
  refine cb_aload_n (pc := 266) O dL_law_266 rfl ?_
  refine cb_aload_n (pc := 267) O dL_law_267 rfl ?_
  refine cb_iload_n (pc := 268) O dL_law_268 rfl ?_
  refine cb_iconst (pc := 269) (v := 1) O dL_law_269 (by decide) ?_
  refine cb_iadd (pc := 270) O dL_law_270 ?_
  refine cb_ialdS (pc := 271) O 3 (i + 1) (by decide) dL_law_271 (by omega) (nI_add i 1) (by omega) ?_
  refine cb_aload_n (pc := 272) O dL_law_272 rfl ?_
  refine cb_iload_n (pc := 273) O dL_law_273 rfl ?_
  refine cb_iconst (pc := 274) (v := 2) O dL_law_274 (by decide) ?_
  refine cb_iadd (pc := 275) O dL_law_275 ?_
  refine cb_ialdS (pc := 276) O 3 (i + 2) (by decide) dL_law_276 (by omega) (nI_add i 2) (by omega) ?_
  refine cb_cVi (pc := 277) O (m_drying _ A z hJ.1 hM1 _ _) my_X11_drying mi_X11_drying mx_X11_drying ml_L_26 dL_law_277 rfl ct_11 rfl rfl rfl ⟨(Nat.le_of_ble_eq_true rfl), (Nat.le_of_ble_eq_true rfl)⟩ (Nat.le_of_ble_eq_true rfl) rfl ⟨by show _ ≤ 600000; omega, by show _ ≤ 7302250; omega⟩ (fun _ _ => rfl) (hM1.1.1 _ rfl) (fun x_277 w_277 hp_277 => ?_)
  obtain ⟨hx2, hM2, hc2⟩ := hp_277
  refine cb_icmp_eq (pc := 280) O 1182 dL_law_280 (by decide) (fun c_280 => ?_) (fun c_280 => ?_)
  · skip
    exact cb_wid (by omega) (by omega) (K _ _ _ ⟨(J_drying _ _ hJ), hC1.mv hc2 (J_drying _ _ hJ).1, hM2⟩)
  · skip
    exact absurd (hx1.trans hx2.symm) c_280
theorem lw_c3 {κ : cb_K} (O : cb_Ok κ cL_law 4 RL room_1) (hkf : ∀ q, κ.2.2.2.2.1 q = false) (w : cb_W) (A : ca_A) (z : Int32) (hL : lw_I w A z) (i ca sl : Nat) (hi : i + 3 < (cb_ro κ.2.2.1.1 3).1) (hb : (cb_ro κ.2.2.1.1 3).1 ≤ 2048) (hca : ca + 120 ≤ 600000) (hsl : sl + 6520 ≤ 7302250) (K : ∀ w' A' z', lw_I w' A' z' → cb_X κ w' (ca + 120) (sl + 6520) 1182 [some (.inr (some 903)), some (.inr (some 0)), some (.inr (some 1000)), some (.inl (nI i))] []) : cb_X κ w ca sl 285 [some (.inr (some 903)), some (.inr (some 0)), some (.inr (some 1000)), some (.inl (nI i))] [] := by
  obtain ⟨hJ, hC, hM⟩ := hL
  refine cb_aload_n (pc := 285) O dL_law_285 rfl ?_
  refine cb_aload_n (pc := 286) O dL_law_286 rfl ?_
  refine cb_iload_n (pc := 287) O dL_law_287 rfl ?_
  refine cb_iconst (pc := 288) (v := 1) O dL_law_288 (by decide) ?_
  refine cb_iadd (pc := 289) O dL_law_289 ?_
  refine cb_ialdS (pc := 290) O 3 (i + 1) (by decide) dL_law_290 (by omega) (nI_add i 1) (by omega) ?_
  refine cb_aload_n (pc := 291) O dL_law_291 rfl ?_
  refine cb_iload_n (pc := 292) O dL_law_292 rfl ?_
  refine cb_iconst (pc := 293) (v := 2) O dL_law_293 (by decide) ?_
  refine cb_iadd (pc := 294) O dL_law_294 ?_
  refine cb_ialdS (pc := 295) O 3 (i + 2) (by decide) dL_law_295 (by omega) (nI_add i 2) (by omega) ?_
  refine cb_aload_n (pc := 296) O dL_law_296 rfl ?_
  refine cb_iload_n (pc := 297) O dL_law_297 rfl ?_
  refine cb_iconst (pc := 298) (v := 3) O dL_law_298 (by decide) ?_
  refine cb_iadd (pc := 299) O dL_law_299 ?_
  refine cb_ialdS (pc := 300) O 3 (i + 3) (by decide) dL_law_300 (by omega) (nI_add i 3) (by omega) ?_
  refine cb_cVi (pc := 301) O (k_against _ A z hJ.1 hC _ _ _) my_X10_against mi_X10_against mx_X10_against ml_L_27 dL_law_301 rfl ct_10 rfl rfl rfl ⟨(Nat.le_of_ble_eq_true rfl), (Nat.le_of_ble_eq_true rfl)⟩ (Nat.le_of_ble_eq_true rfl) rfl ⟨by show _ ≤ 600000; omega, by show _ ≤ 7302250; omega⟩ (fun _ _ => rfl) (hC.1.1 _ rfl) (fun x_301 w_301 hp_301 => ?_)
  obtain ⟨hx1, hC1, hm1⟩ := hp_301
  have hM1 := hM.mv hm1
  refine cb_aload_n (pc := 304) O dL_law_304 rfl ?_
  refine cb_aload_n (pc := 305) O dL_law_305 rfl ?_
  refine cb_iload_n (pc := 306) O dL_law_306 rfl ?_
  refine cb_iconst (pc := 307) (v := 1) O dL_law_307 (by decide) ?_
  refine cb_iadd (pc := 308) O dL_law_308 ?_
  refine cb_ialdS (pc := 309) O 3 (i + 1) (by decide) dL_law_309 (by omega) (nI_add i 1) (by omega) ?_
  refine cb_aload_n (pc := 310) O dL_law_310 rfl ?_
  refine cb_iload_n (pc := 311) O dL_law_311 rfl ?_
  refine cb_iconst (pc := 312) (v := 2) O dL_law_312 (by decide) ?_
  refine cb_iadd (pc := 313) O dL_law_313 ?_
  refine cb_ialdS (pc := 314) O 3 (i + 2) (by decide) dL_law_314 (by omega) (nI_add i 2) (by omega) ?_
  refine cb_aload_n (pc := 315) O dL_law_315 rfl ?_
  refine cb_iload_n (pc := 316) O dL_law_316 rfl ?_
  refine cb_iconst (pc := 317) (v := 3) O dL_law_317 (by decide) ?_
  refine cb_iadd (pc := 318) O dL_law_318 ?_
  refine cb_ialdS (pc := 319) O 3 (i + 3) (by decide) dL_law_319 (by omega) (nI_add i 3) (by omega) ?_
  refine cb_cVi (pc := 320) O (m_against _ A z hJ.1 hM1 _ _ _) my_X11_against mi_X11_against mx_X11_against ml_L_30 dL_law_320 rfl ct_11 rfl rfl rfl ⟨(Nat.le_of_ble_eq_true rfl), (Nat.le_of_ble_eq_true rfl)⟩ (Nat.le_of_ble_eq_true rfl) rfl ⟨by show _ ≤ 600000; omega, by show _ ≤ 7302250; omega⟩ (fun _ _ => rfl) (hM1.1.1 _ rfl) (fun x_320 w_320 hp_320 => ?_)
  obtain ⟨hx2, hM2, hc2⟩ := hp_320
  refine cb_icmp_eq (pc := 323) O 1182 dL_law_323 (by decide) (fun c_323 => ?_) (fun c_323 => ?_)
  · skip
    exact cb_wid (by omega) (by omega) (K _ _ _ ⟨(J_against _ _ _ hJ), hC1.mv hc2 (J_against _ _ _ hJ).1, hM2⟩)
  · skip
    exact absurd (hx1.trans hx2.symm) c_323
theorem lw_c4 {κ : cb_K} (O : cb_Ok κ cL_law 4 RL room_1) (hkf : ∀ q, κ.2.2.2.2.1 q = false) (w : cb_W) (A : ca_A) (z : Int32) (hL : lw_I w A z) (i ca sl : Nat) (hi : i + 3 < (cb_ro κ.2.2.1.1 3).1) (hb : (cb_ro κ.2.2.1.1 3).1 ≤ 2048) (hca : ca + 120 ≤ 600000) (hsl : sl + 6520 ≤ 7302250) (K : ∀ w' A' z', lw_I w' A' z' → cb_X κ w' (ca + 120) (sl + 6520) 1182 [some (.inr (some 903)), some (.inr (some 0)), some (.inr (some 1000)), some (.inl (nI i))] []) : cb_X κ w ca sl 328 [some (.inr (some 903)), some (.inr (some 0)), some (.inr (some 1000)), some (.inl (nI i))] [] := by
  obtain ⟨hJ, hC, hM⟩ := hL
  refine cb_aload_n (pc := 328) O dL_law_328 rfl ?_
  refine cb_aload_n (pc := 329) O dL_law_329 rfl ?_
  refine cb_iload_n (pc := 330) O dL_law_330 rfl ?_
  refine cb_iconst (pc := 331) (v := 1) O dL_law_331 (by decide) ?_
  refine cb_iadd (pc := 332) O dL_law_332 ?_
  refine cb_ialdS (pc := 333) O 3 (i + 1) (by decide) dL_law_333 (by omega) (nI_add i 1) (by omega) ?_
  refine cb_aload_n (pc := 334) O dL_law_334 rfl ?_
  refine cb_iload_n (pc := 335) O dL_law_335 rfl ?_
  refine cb_iconst (pc := 336) (v := 2) O dL_law_336 (by decide) ?_
  refine cb_iadd (pc := 337) O dL_law_337 ?_
  refine cb_ialdS (pc := 338) O 3 (i + 2) (by decide) dL_law_338 (by omega) (nI_add i 2) (by omega) ?_
  refine cb_aload_n (pc := 339) O dL_law_339 rfl ?_
  refine cb_iload_n (pc := 340) O dL_law_340 rfl ?_
  refine cb_iconst (pc := 341) (v := 3) O dL_law_341 (by decide) ?_
  refine cb_iadd (pc := 342) O dL_law_342 ?_
  refine cb_ialdS (pc := 343) O 3 (i + 3) (by decide) dL_law_343 (by omega) (nI_add i 3) (by omega) ?_
  refine cb_cVi (pc := 344) O (k_mixed _ A z hJ.1 hC _ _ _) my_X10_mixed mi_X10_mixed mx_X10_mixed ml_L_31 dL_law_344 rfl ct_10 rfl rfl rfl ⟨(Nat.le_of_ble_eq_true rfl), (Nat.le_of_ble_eq_true rfl)⟩ (Nat.le_of_ble_eq_true rfl) rfl ⟨by show _ ≤ 600000; omega, by show _ ≤ 7302250; omega⟩ (fun _ _ => rfl) (hC.1.1 _ rfl) (fun x_344 w_344 hp_344 => ?_)
  obtain ⟨hx1, hC1, hm1⟩ := hp_344
  have hM1 := hM.mv hm1
  refine cb_aload_n (pc := 347) O dL_law_347 rfl ?_
  refine cb_aload_n (pc := 348) O dL_law_348 rfl ?_
  refine cb_iload_n (pc := 349) O dL_law_349 rfl ?_
  refine cb_iconst (pc := 350) (v := 1) O dL_law_350 (by decide) ?_
  refine cb_iadd (pc := 351) O dL_law_351 ?_
  refine cb_ialdS (pc := 352) O 3 (i + 1) (by decide) dL_law_352 (by omega) (nI_add i 1) (by omega) ?_
  refine cb_aload_n (pc := 353) O dL_law_353 rfl ?_
  refine cb_iload_n (pc := 354) O dL_law_354 rfl ?_
  refine cb_iconst (pc := 355) (v := 2) O dL_law_355 (by decide) ?_
  refine cb_iadd (pc := 356) O dL_law_356 ?_
  refine cb_ialdS (pc := 357) O 3 (i + 2) (by decide) dL_law_357 (by omega) (nI_add i 2) (by omega) ?_
  refine cb_aload_n (pc := 358) O dL_law_358 rfl ?_
  refine cb_iload_n (pc := 359) O dL_law_359 rfl ?_
  refine cb_iconst (pc := 360) (v := 3) O dL_law_360 (by decide) ?_
  refine cb_iadd (pc := 361) O dL_law_361 ?_
  refine cb_ialdS (pc := 362) O 3 (i + 3) (by decide) dL_law_362 (by omega) (nI_add i 3) (by omega) ?_
  refine cb_cVi (pc := 363) O (m_mixed _ A z hJ.1 hM1 _ _ _) my_X11_mixed mi_X11_mixed mx_X11_mixed ml_L_34 dL_law_363 rfl ct_11 rfl rfl rfl ⟨(Nat.le_of_ble_eq_true rfl), (Nat.le_of_ble_eq_true rfl)⟩ (Nat.le_of_ble_eq_true rfl) rfl ⟨by show _ ≤ 600000; omega, by show _ ≤ 7302250; omega⟩ (fun _ _ => rfl) (hM1.1.1 _ rfl) (fun x_363 w_363 hp_363 => ?_)
  obtain ⟨hx2, hM2, hc2⟩ := hp_363
  refine cb_icmp_eq (pc := 366) O 1182 dL_law_366 (by decide) (fun c_366 => ?_) (fun c_366 => ?_)
  · skip
    exact cb_wid (by omega) (by omega) (K _ _ _ ⟨(J_mixed _ _ _ hJ), hC1.mv hc2 (J_mixed _ _ _ hJ).1, hM2⟩)
  · skip
    exact absurd (hx1.trans hx2.symm) c_366
theorem lw_c5 {κ : cb_K} (O : cb_Ok κ cL_law 4 RL room_1) (hkf : ∀ q, κ.2.2.2.2.1 q = false) (w : cb_W) (A : ca_A) (z : Int32) (hL : lw_I w A z) (i ca sl : Nat) (hi : i + 3 < (cb_ro κ.2.2.1.1 3).1) (hb : (cb_ro κ.2.2.1.1 3).1 ≤ 2048) (hca : ca + 120 ≤ 600000) (hsl : sl + 6520 ≤ 7302250) (K : ∀ w' A' z', lw_I w' A' z' → cb_X κ w' (ca + 120) (sl + 6520) 1182 [some (.inr (some 903)), some (.inr (some 0)), some (.inr (some 1000)), some (.inl (nI i))] []) : cb_X κ w ca sl 371 [some (.inr (some 903)), some (.inr (some 0)), some (.inr (some 1000)), some (.inl (nI i))] [] := by
  obtain ⟨hJ, hC, hM⟩ := hL
  refine cb_aload_n (pc := 371) O dL_law_371 rfl ?_
  refine cb_aload_n (pc := 372) O dL_law_372 rfl ?_
  refine cb_iload_n (pc := 373) O dL_law_373 rfl ?_
  refine cb_iconst (pc := 374) (v := 1) O dL_law_374 (by decide) ?_
  refine cb_iadd (pc := 375) O dL_law_375 ?_
  refine cb_ialdS (pc := 376) O 3 (i + 1) (by decide) dL_law_376 (by omega) (nI_add i 1) (by omega) ?_
  refine cb_aload_n (pc := 377) O dL_law_377 rfl ?_
  refine cb_iload_n (pc := 378) O dL_law_378 rfl ?_
  refine cb_iconst (pc := 379) (v := 2) O dL_law_379 (by decide) ?_
  refine cb_iadd (pc := 380) O dL_law_380 ?_
  refine cb_ialdS (pc := 381) O 3 (i + 2) (by decide) dL_law_381 (by omega) (nI_add i 2) (by omega) ?_
  refine cb_cVi (pc := 382) O (k_lots _ A z hJ.1 hC _ _) my_X10_lots mi_X10_lots mx_X10_lots ml_L_35 dL_law_382 rfl ct_10 rfl rfl rfl ⟨(Nat.le_of_ble_eq_true rfl), (Nat.le_of_ble_eq_true rfl)⟩ (Nat.le_of_ble_eq_true rfl) rfl ⟨by show _ ≤ 600000; omega, by show _ ≤ 7302250; omega⟩ (fun _ _ => rfl) (hC.1.1 _ rfl) (fun x_382 w_382 hp_382 => ?_)
  obtain ⟨hx1, hC1, hm1⟩ := hp_382
  have hM1 := hM.mv hm1
  refine cb_aload_n (pc := 385) O dL_law_385 rfl ?_
  refine cb_aload_n (pc := 386) O dL_law_386 rfl ?_
  refine cb_iload_n (pc := 387) O dL_law_387 rfl ?_
  refine cb_iconst (pc := 388) (v := 1) O dL_law_388 (by decide) ?_
  refine cb_iadd (pc := 389) O dL_law_389 ?_
  refine cb_ialdS (pc := 390) O 3 (i + 1) (by decide) dL_law_390 (by omega) (nI_add i 1) (by omega) ?_
  refine cb_aload_n (pc := 391) O dL_law_391 rfl ?_
  refine cb_iload_n (pc := 392) O dL_law_392 rfl ?_
  refine cb_iconst (pc := 393) (v := 2) O dL_law_393 (by decide) ?_
  refine cb_iadd (pc := 394) O dL_law_394 ?_
  refine cb_ialdS (pc := 395) O 3 (i + 2) (by decide) dL_law_395 (by omega) (nI_add i 2) (by omega) ?_
  refine cb_cVi (pc := 396) O (m_lots _ A z hJ.1 hM1 _ _) my_X11_lots mi_X11_lots mx_X11_lots ml_L_38 dL_law_396 rfl ct_11 rfl rfl rfl ⟨(Nat.le_of_ble_eq_true rfl), (Nat.le_of_ble_eq_true rfl)⟩ (Nat.le_of_ble_eq_true rfl) rfl ⟨by show _ ≤ 600000; omega, by show _ ≤ 7302250; omega⟩ (fun _ _ => rfl) (hM1.1.1 _ rfl) (fun x_396 w_396 hp_396 => ?_)
  obtain ⟨hx2, hM2, hc2⟩ := hp_396
  refine cb_icmp_eq (pc := 399) O 1182 dL_law_399 (by decide) (fun c_399 => ?_) (fun c_399 => ?_)
  · skip
    exact cb_wid (by omega) (by omega) (K _ _ _ ⟨(J_lots _ _ hJ), hC1.mv hc2 (J_lots _ _ hJ).1, hM2⟩)
  · skip
    exact absurd (hx1.trans hx2.symm) c_399
theorem lw_c6 {κ : cb_K} (O : cb_Ok κ cL_law 4 RL room_1) (hkf : ∀ q, κ.2.2.2.2.1 q = false) (w : cb_W) (A : ca_A) (z : Int32) (hL : lw_I w A z) (i ca sl : Nat) (hi : i + 3 < (cb_ro κ.2.2.1.1 3).1) (hb : (cb_ro κ.2.2.1.1 3).1 ≤ 2048) (hca : ca + 120 ≤ 600000) (hsl : sl + 6520 ≤ 7302250) (K : ∀ w' A' z', lw_I w' A' z' → cb_X κ w' (ca + 120) (sl + 6520) 1182 [some (.inr (some 903)), some (.inr (some 0)), some (.inr (some 1000)), some (.inl (nI i))] []) : cb_X κ w ca sl 404 [some (.inr (some 903)), some (.inr (some 0)), some (.inr (some 1000)), some (.inl (nI i))] [] := by
  obtain ⟨hJ, hC, hM⟩ := hL
  refine cb_aload_n (pc := 404) O dL_law_404 rfl ?_
  refine cb_aload_n (pc := 405) O dL_law_405 rfl ?_
  refine cb_iload_n (pc := 406) O dL_law_406 rfl ?_
  refine cb_iconst (pc := 407) (v := 1) O dL_law_407 (by decide) ?_
  refine cb_iadd (pc := 408) O dL_law_408 ?_
  refine cb_ialdS (pc := 409) O 3 (i + 1) (by decide) dL_law_409 (by omega) (nI_add i 1) (by omega) ?_
  refine cb_cVi (pc := 410) O (k_minutes _ A z hJ.1 hC _) my_X10_minutes mi_X10_minutes mx_X10_minutes ml_L_39 dL_law_410 rfl ct_10 rfl rfl rfl ⟨(Nat.le_of_ble_eq_true rfl), (Nat.le_of_ble_eq_true rfl)⟩ (Nat.le_of_ble_eq_true rfl) rfl ⟨by show _ ≤ 600000; omega, by show _ ≤ 7302250; omega⟩ (fun _ _ => rfl) (hC.1.1 _ rfl) (fun x_410 w_410 hp_410 => ?_)
  obtain ⟨hx1, hC1, hm1⟩ := hp_410
  have hM1 := hM.mv hm1
  refine cb_aload_n (pc := 413) O dL_law_413 rfl ?_
  refine cb_aload_n (pc := 414) O dL_law_414 rfl ?_
  refine cb_iload_n (pc := 415) O dL_law_415 rfl ?_
  refine cb_iconst (pc := 416) (v := 1) O dL_law_416 (by decide) ?_
  refine cb_iadd (pc := 417) O dL_law_417 ?_
  refine cb_ialdS (pc := 418) O 3 (i + 1) (by decide) dL_law_418 (by omega) (nI_add i 1) (by omega) ?_
  refine cb_cVi (pc := 419) O (m_minutes _ A z hJ.1 hM1 _) my_X11_minutes mi_X11_minutes mx_X11_minutes ml_L_43 dL_law_419 rfl ct_11 rfl rfl rfl ⟨(Nat.le_of_ble_eq_true rfl), (Nat.le_of_ble_eq_true rfl)⟩ (Nat.le_of_ble_eq_true rfl) rfl ⟨by show _ ≤ 600000; omega, by show _ ≤ 7302250; omega⟩ (fun _ _ => rfl) (hM1.1.1 _ rfl) (fun x_419 w_419 hp_419 => ?_)
  obtain ⟨hx2, hM2, hc2⟩ := hp_419
  refine cb_icmp_eq (pc := 422) O 1182 dL_law_422 (by decide) (fun c_422 => ?_) (fun c_422 => ?_)
  · skip
    exact cb_wid (by omega) (by omega) (K _ _ _ ⟨(J_minutes _ hJ), hC1.mv hc2 (J_minutes _ hJ).1, hM2⟩)
  · skip
    exact absurd (hx1.trans hx2.symm) c_422
theorem lw_c7 {κ : cb_K} (O : cb_Ok κ cL_law 4 RL room_1) (hkf : ∀ q, κ.2.2.2.2.1 q = false) (w : cb_W) (A : ca_A) (z : Int32) (hL : lw_I w A z) (i ca sl : Nat) (hi : i + 3 < (cb_ro κ.2.2.1.1 3).1) (hb : (cb_ro κ.2.2.1.1 3).1 ≤ 2048) (hca : ca + 120 ≤ 600000) (hsl : sl + 6520 ≤ 7302250) (K : ∀ w' A' z', lw_I w' A' z' → cb_X κ w' (ca + 120) (sl + 6520) 1182 [some (.inr (some 903)), some (.inr (some 0)), some (.inr (some 1000)), some (.inl (nI i))] []) : cb_X κ w ca sl 427 [some (.inr (some 903)), some (.inr (some 0)), some (.inr (some 1000)), some (.inl (nI i))] [] := by
  obtain ⟨hJ, hC, hM⟩ := hL
  refine cb_aload_n (pc := 427) O dL_law_427 rfl ?_
  refine cb_aload_n (pc := 428) O dL_law_428 rfl ?_
  refine cb_iload_n (pc := 429) O dL_law_429 rfl ?_
  refine cb_iconst (pc := 430) (v := 1) O dL_law_430 (by decide) ?_
  refine cb_iadd (pc := 431) O dL_law_431 ?_
  refine cb_ialdS (pc := 432) O 3 (i + 1) (by decide) dL_law_432 (by omega) (nI_add i 1) (by omega) ?_
  refine cb_cVi (pc := 433) O (k_cut _ A z hJ.1 hC _) my_X10_cut mi_X10_cut mx_X10_cut ml_L_44 dL_law_433 rfl ct_10 rfl rfl rfl ⟨(Nat.le_of_ble_eq_true rfl), (Nat.le_of_ble_eq_true rfl)⟩ (Nat.le_of_ble_eq_true rfl) rfl ⟨by show _ ≤ 600000; omega, by show _ ≤ 7302250; omega⟩ (fun q h => by rw [hkf q] at h; cases h) (hC.1.1 _ rfl) (fun x_433 w_433 hp_433 => ?_)
  obtain ⟨hx1, hC1, hm1⟩ := hp_433
  have hM1 := hM.mv hm1
  refine cb_aload_n (pc := 436) O dL_law_436 rfl ?_
  refine cb_aload_n (pc := 437) O dL_law_437 rfl ?_
  refine cb_iload_n (pc := 438) O dL_law_438 rfl ?_
  refine cb_iconst (pc := 439) (v := 1) O dL_law_439 (by decide) ?_
  refine cb_iadd (pc := 440) O dL_law_440 ?_
  refine cb_ialdS (pc := 441) O 3 (i + 1) (by decide) dL_law_441 (by omega) (nI_add i 1) (by omega) ?_
  refine cb_cVi (pc := 442) O (m_cut _ A z hJ.1 hM1 _) my_X11_cut mi_X11_cut mx_X11_cut ml_L_47 dL_law_442 rfl ct_11 rfl rfl rfl ⟨(Nat.le_of_ble_eq_true rfl), (Nat.le_of_ble_eq_true rfl)⟩ (Nat.le_of_ble_eq_true rfl) rfl ⟨by show _ ≤ 600000; omega, by show _ ≤ 7302250; omega⟩ (fun _ _ => rfl) (hM1.1.1 _ rfl) (fun x_442 w_442 hp_442 => ?_)
  obtain ⟨hx2, hM2, hc2⟩ := hp_442
  refine cb_icmp_eq (pc := 445) O 1182 dL_law_445 (by decide) (fun c_445 => ?_) (fun c_445 => ?_)
  · skip
    exact cb_wid (by omega) (by omega) (K _ _ _ ⟨(J_cutA _ hJ), hC1.mv hc2 (J_cutA _ hJ).1, hM2⟩)
  · skip
    exact absurd (hx1.trans hx2.symm) c_445
theorem lw_c8 {κ : cb_K} (O : cb_Ok κ cL_law 4 RL room_1) (hkf : ∀ q, κ.2.2.2.2.1 q = false) (w : cb_W) (A : ca_A) (z : Int32) (hL : lw_I w A z) (i ca sl : Nat) (hi : i + 3 < (cb_ro κ.2.2.1.1 3).1) (hb : (cb_ro κ.2.2.1.1 3).1 ≤ 2048) (hca : ca + 120 ≤ 600000) (hsl : sl + 6520 ≤ 7302250) (K : ∀ w' A' z', lw_I w' A' z' → cb_X κ w' (ca + 120) (sl + 6520) 1182 [some (.inr (some 903)), some (.inr (some 0)), some (.inr (some 1000)), some (.inl (nI i))] []) : cb_X κ w ca sl 450 [some (.inr (some 903)), some (.inr (some 0)), some (.inr (some 1000)), some (.inl (nI i))] [] := by
  obtain ⟨hJ, hC, hM⟩ := hL
  refine cb_aload_n (pc := 450) O dL_law_450 rfl ?_
  refine cb_aload_n (pc := 451) O dL_law_451 rfl ?_
  refine cb_iload_n (pc := 452) O dL_law_452 rfl ?_
  refine cb_iconst (pc := 453) (v := 1) O dL_law_453 (by decide) ?_
  refine cb_iadd (pc := 454) O dL_law_454 ?_
  refine cb_ialdS (pc := 455) O 3 (i + 1) (by decide) dL_law_455 (by omega) (nI_add i 1) (by omega) ?_
  refine cb_aload_n (pc := 456) O dL_law_456 rfl ?_
  refine cb_iload_n (pc := 457) O dL_law_457 rfl ?_
  refine cb_iconst (pc := 458) (v := 2) O dL_law_458 (by decide) ?_
  refine cb_iadd (pc := 459) O dL_law_459 ?_
  refine cb_ialdS (pc := 460) O 3 (i + 2) (by decide) dL_law_460 (by omega) (nI_add i 2) (by omega) ?_
  refine cb_cVi (pc := 461) O (k_saw _ A z hJ.1 hC _ _) my_X10_saw mi_X10_saw mx_X10_saw ml_L_48 dL_law_461 rfl ct_10 rfl rfl rfl ⟨(Nat.le_of_ble_eq_true rfl), (Nat.le_of_ble_eq_true rfl)⟩ (Nat.le_of_ble_eq_true rfl) rfl ⟨by show _ ≤ 600000; omega, by show _ ≤ 7302250; omega⟩ (fun q h => by rw [hkf q] at h; cases h) (hC.1.1 _ rfl) (fun x_461 w_461 hp_461 => ?_)
  obtain ⟨hx1, hC1, hm1⟩ := hp_461
  have hM1 := hM.mv hm1
  refine cb_aload_n (pc := 464) O dL_law_464 rfl ?_
  refine cb_aload_n (pc := 465) O dL_law_465 rfl ?_
  refine cb_iload_n (pc := 466) O dL_law_466 rfl ?_
  refine cb_iconst (pc := 467) (v := 1) O dL_law_467 (by decide) ?_
  refine cb_iadd (pc := 468) O dL_law_468 ?_
  refine cb_ialdS (pc := 469) O 3 (i + 1) (by decide) dL_law_469 (by omega) (nI_add i 1) (by omega) ?_
  refine cb_aload_n (pc := 470) O dL_law_470 rfl ?_
  refine cb_iload_n (pc := 471) O dL_law_471 rfl ?_
  refine cb_iconst (pc := 472) (v := 2) O dL_law_472 (by decide) ?_
  refine cb_iadd (pc := 473) O dL_law_473 ?_
  refine cb_ialdS (pc := 474) O 3 (i + 2) (by decide) dL_law_474 (by omega) (nI_add i 2) (by omega) ?_
  refine cb_cVi (pc := 475) O (m_saw _ A z hJ.1 hM1 _ _) my_X11_saw mi_X11_saw mx_X11_saw ml_L_51 dL_law_475 rfl ct_11 rfl rfl rfl ⟨(Nat.le_of_ble_eq_true rfl), (Nat.le_of_ble_eq_true rfl)⟩ (Nat.le_of_ble_eq_true rfl) rfl ⟨by show _ ≤ 600000; omega, by show _ ≤ 7302250; omega⟩ (fun _ _ => rfl) (hM1.1.1 _ rfl) (fun x_475 w_475 hp_475 => ?_)
  obtain ⟨hx2, hM2, hc2⟩ := hp_475
  refine cb_icmp_eq (pc := 478) O 1182 dL_law_478 (by decide) (fun c_478 => ?_) (fun c_478 => ?_)
  · skip
    exact cb_wid (by omega) (by omega) (K _ _ _ ⟨(J_sawA _ _ hJ), hC1.mv hc2 (J_sawA _ _ hJ).1, hM2⟩)
  · skip
    exact absurd (hx1.trans hx2.symm) c_478
theorem lw_c9 {κ : cb_K} (O : cb_Ok κ cL_law 4 RL room_1) (hkf : ∀ q, κ.2.2.2.2.1 q = false) (w : cb_W) (A : ca_A) (z : Int32) (hL : lw_I w A z) (i ca sl : Nat) (hi : i + 3 < (cb_ro κ.2.2.1.1 3).1) (hb : (cb_ro κ.2.2.1.1 3).1 ≤ 2048) (hca : ca + 120 ≤ 600000) (hsl : sl + 6520 ≤ 7302250) (K : ∀ w' A' z', lw_I w' A' z' → cb_X κ w' (ca + 120) (sl + 6520) 1182 [some (.inr (some 903)), some (.inr (some 0)), some (.inr (some 1000)), some (.inl (nI i))] []) : cb_X κ w ca sl 483 [some (.inr (some 903)), some (.inr (some 0)), some (.inr (some 1000)), some (.inl (nI i))] [] := by
  obtain ⟨hJ, hC, hM⟩ := hL
  refine cb_aload_n (pc := 483) O dL_law_483 rfl ?_
  refine cb_aload_n (pc := 484) O dL_law_484 rfl ?_
  refine cb_iload_n (pc := 485) O dL_law_485 rfl ?_
  refine cb_iconst (pc := 486) (v := 1) O dL_law_486 (by decide) ?_
  refine cb_iadd (pc := 487) O dL_law_487 ?_
  refine cb_ialdS (pc := 488) O 3 (i + 1) (by decide) dL_law_488 (by omega) (nI_add i 1) (by omega) ?_
  refine cb_aload_n (pc := 489) O dL_law_489 rfl ?_
  refine cb_iload_n (pc := 490) O dL_law_490 rfl ?_
  refine cb_iconst (pc := 491) (v := 2) O dL_law_491 (by decide) ?_
  refine cb_iadd (pc := 492) O dL_law_492 ?_
  refine cb_ialdS (pc := 493) O 3 (i + 2) (by decide) dL_law_493 (by omega) (nI_add i 2) (by omega) ?_
  refine cb_cVi (pc := 494) O (k_piece _ A z hJ.1 hC _ _) my_X10_piece mi_X10_piece mx_X10_piece ml_L_52 dL_law_494 rfl ct_10 rfl rfl rfl ⟨(Nat.le_of_ble_eq_true rfl), (Nat.le_of_ble_eq_true rfl)⟩ (Nat.le_of_ble_eq_true rfl) rfl ⟨by show _ ≤ 600000; omega, by show _ ≤ 7302250; omega⟩ (fun _ _ => rfl) (hC.1.1 _ rfl) (fun x_494 w_494 hp_494 => ?_)
  obtain ⟨hx1, hC1, hm1⟩ := hp_494
  have hM1 := hM.mv hm1
  refine cb_aload_n (pc := 497) O dL_law_497 rfl ?_
  refine cb_aload_n (pc := 498) O dL_law_498 rfl ?_
  refine cb_iload_n (pc := 499) O dL_law_499 rfl ?_
  refine cb_iconst (pc := 500) (v := 1) O dL_law_500 (by decide) ?_
  refine cb_iadd (pc := 501) O dL_law_501 ?_
  refine cb_ialdS (pc := 502) O 3 (i + 1) (by decide) dL_law_502 (by omega) (nI_add i 1) (by omega) ?_
  refine cb_aload_n (pc := 503) O dL_law_503 rfl ?_
  refine cb_iload_n (pc := 504) O dL_law_504 rfl ?_
  refine cb_iconst (pc := 505) (v := 2) O dL_law_505 (by decide) ?_
  refine cb_iadd (pc := 506) O dL_law_506 ?_
  refine cb_ialdS (pc := 507) O 3 (i + 2) (by decide) dL_law_507 (by omega) (nI_add i 2) (by omega) ?_
  refine cb_cVi (pc := 508) O (m_piece _ A z hJ.1 hM1 _ _) my_X11_piece mi_X11_piece mx_X11_piece ml_L_55 dL_law_508 rfl ct_11 rfl rfl rfl ⟨(Nat.le_of_ble_eq_true rfl), (Nat.le_of_ble_eq_true rfl)⟩ (Nat.le_of_ble_eq_true rfl) rfl ⟨by show _ ≤ 600000; omega, by show _ ≤ 7302250; omega⟩ (fun _ _ => rfl) (hM1.1.1 _ rfl) (fun x_508 w_508 hp_508 => ?_)
  obtain ⟨hx2, hM2, hc2⟩ := hp_508
  refine cb_icmp_eq (pc := 511) O 1182 dL_law_511 (by decide) (fun c_511 => ?_) (fun c_511 => ?_)
  · skip
    exact cb_wid (by omega) (by omega) (K _ _ _ ⟨(J_piece _ _ hJ), hC1.mv hc2 (J_piece _ _ hJ).1, hM2⟩)
  · skip
    exact absurd (hx1.trans hx2.symm) c_511
theorem lw_c10 {κ : cb_K} (O : cb_Ok κ cL_law 4 RL room_1) (hkf : ∀ q, κ.2.2.2.2.1 q = false) (w : cb_W) (A : ca_A) (z : Int32) (hL : lw_I w A z) (i ca sl : Nat) (hi : i + 3 < (cb_ro κ.2.2.1.1 3).1) (hb : (cb_ro κ.2.2.1.1 3).1 ≤ 2048) (hca : ca + 120 ≤ 600000) (hsl : sl + 6520 ≤ 7302250) (K : ∀ w' A' z', lw_I w' A' z' → cb_X κ w' (ca + 120) (sl + 6520) 1182 [some (.inr (some 903)), some (.inr (some 0)), some (.inr (some 1000)), some (.inl (nI i))] []) : cb_X κ w ca sl 516 [some (.inr (some 903)), some (.inr (some 0)), some (.inr (some 1000)), some (.inl (nI i))] [] := by
  obtain ⟨hJ, hC, hM⟩ := hL
  refine cb_aload_n (pc := 516) O dL_law_516 rfl ?_
  refine cb_aload_n (pc := 517) O dL_law_517 rfl ?_
  refine cb_iload_n (pc := 518) O dL_law_518 rfl ?_
  refine cb_iconst (pc := 519) (v := 1) O dL_law_519 (by decide) ?_
  refine cb_iadd (pc := 520) O dL_law_520 ?_
  refine cb_ialdS (pc := 521) O 3 (i + 1) (by decide) dL_law_521 (by omega) (nI_add i 1) (by omega) ?_
  refine cb_aload_n (pc := 522) O dL_law_522 rfl ?_
  refine cb_iload_n (pc := 523) O dL_law_523 rfl ?_
  refine cb_iconst (pc := 524) (v := 2) O dL_law_524 (by decide) ?_
  refine cb_iadd (pc := 525) O dL_law_525 ?_
  refine cb_ialdS (pc := 526) O 3 (i + 2) (by decide) dL_law_526 (by omega) (nI_add i 2) (by omega) ?_
  refine cb_cVi (pc := 527) O (k_cell _ A z hJ.1 hC _ _) my_X10_cell mi_X10_cell mx_X10_cell ml_L_56 dL_law_527 rfl ct_10 rfl rfl rfl ⟨(Nat.le_of_ble_eq_true rfl), (Nat.le_of_ble_eq_true rfl)⟩ (Nat.le_of_ble_eq_true rfl) rfl ⟨by show _ ≤ 600000; omega, by show _ ≤ 7302250; omega⟩ (fun _ _ => rfl) (hC.1.1 _ rfl) (fun x_527 w_527 hp_527 => ?_)
  obtain ⟨hx1, rfl⟩ := hp_527
  have hM1 := hM
  refine cb_aload_n (pc := 530) O dL_law_530 rfl ?_
  refine cb_aload_n (pc := 531) O dL_law_531 rfl ?_
  refine cb_iload_n (pc := 532) O dL_law_532 rfl ?_
  refine cb_iconst (pc := 533) (v := 1) O dL_law_533 (by decide) ?_
  refine cb_iadd (pc := 534) O dL_law_534 ?_
  refine cb_ialdS (pc := 535) O 3 (i + 1) (by decide) dL_law_535 (by omega) (nI_add i 1) (by omega) ?_
  refine cb_aload_n (pc := 536) O dL_law_536 rfl ?_
  refine cb_iload_n (pc := 537) O dL_law_537 rfl ?_
  refine cb_iconst (pc := 538) (v := 2) O dL_law_538 (by decide) ?_
  refine cb_iadd (pc := 539) O dL_law_539 ?_
  refine cb_ialdS (pc := 540) O 3 (i + 2) (by decide) dL_law_540 (by omega) (nI_add i 2) (by omega) ?_
  refine cb_cVi (pc := 541) O (m_cell _ A z hJ.1 hM1 _ _) my_X11_cell mi_X11_cell mx_X11_cell ml_L_59 dL_law_541 rfl ct_11 rfl rfl rfl ⟨(Nat.le_of_ble_eq_true rfl), (Nat.le_of_ble_eq_true rfl)⟩ (Nat.le_of_ble_eq_true rfl) rfl ⟨by show _ ≤ 600000; omega, by show _ ≤ 7302250; omega⟩ (fun _ _ => rfl) (hM1.1.1 _ rfl) (fun x_541 w_541 hp_541 => ?_)
  obtain ⟨hx2, rfl⟩ := hp_541
  refine cb_icmp_eq (pc := 544) O 1182 dL_law_544 (by decide) (fun c_544 => ?_) (fun c_544 => ?_)
  · skip
    exact cb_wid (by omega) (by omega) (K _ _ _ ⟨hJ, hC, hM⟩)
  · skip
    exact absurd (hx1.trans hx2.symm) c_544
theorem lw_c11 {κ : cb_K} (O : cb_Ok κ cL_law 4 RL room_1) (hkf : ∀ q, κ.2.2.2.2.1 q = false) (w : cb_W) (A : ca_A) (z : Int32) (hL : lw_I w A z) (i ca sl : Nat) (hi : i + 3 < (cb_ro κ.2.2.1.1 3).1) (hb : (cb_ro κ.2.2.1.1 3).1 ≤ 2048) (hca : ca + 120 ≤ 600000) (hsl : sl + 6520 ≤ 7302250) (K : ∀ w' A' z', lw_I w' A' z' → cb_X κ w' (ca + 120) (sl + 6520) 1182 [some (.inr (some 903)), some (.inr (some 0)), some (.inr (some 1000)), some (.inl (nI i))] []) : cb_X κ w ca sl 549 [some (.inr (some 903)), some (.inr (some 0)), some (.inr (some 1000)), some (.inl (nI i))] [] := by
  obtain ⟨hJ, hC, hM⟩ := hL
  refine cb_aload_n (pc := 549) O dL_law_549 rfl ?_
  refine cb_aload_n (pc := 550) O dL_law_550 rfl ?_
  refine cb_iload_n (pc := 551) O dL_law_551 rfl ?_
  refine cb_iconst (pc := 552) (v := 1) O dL_law_552 (by decide) ?_
  refine cb_iadd (pc := 553) O dL_law_553 ?_
  refine cb_ialdS (pc := 554) O 3 (i + 1) (by decide) dL_law_554 (by omega) (nI_add i 1) (by omega) ?_
  refine cb_cVi (pc := 555) O (k_islands _ A z hJ.1 hC _) my_X10_islands mi_X10_islands mx_X10_islands ml_L_60 dL_law_555 rfl ct_10 rfl rfl rfl ⟨(Nat.le_of_ble_eq_true rfl), (Nat.le_of_ble_eq_true rfl)⟩ (Nat.le_of_ble_eq_true rfl) rfl ⟨by show _ ≤ 600000; omega, by show _ ≤ 7302250; omega⟩ (fun _ _ => rfl) (hC.1.1 _ rfl) (fun x_555 w_555 hp_555 => ?_)
  obtain ⟨hx1, hC1, hm1⟩ := hp_555
  have hM1 := hM.mv hm1
  refine cb_aload_n (pc := 558) O dL_law_558 rfl ?_
  refine cb_aload_n (pc := 559) O dL_law_559 rfl ?_
  refine cb_iload_n (pc := 560) O dL_law_560 rfl ?_
  refine cb_iconst (pc := 561) (v := 1) O dL_law_561 (by decide) ?_
  refine cb_iadd (pc := 562) O dL_law_562 ?_
  refine cb_ialdS (pc := 563) O 3 (i + 1) (by decide) dL_law_563 (by omega) (nI_add i 1) (by omega) ?_
  refine cb_cVi (pc := 564) O (m_islands _ A z hJ.1 hM1 _) my_X11_islands mi_X11_islands mx_X11_islands ml_L_63 dL_law_564 rfl ct_11 rfl rfl rfl ⟨(Nat.le_of_ble_eq_true rfl), (Nat.le_of_ble_eq_true rfl)⟩ (Nat.le_of_ble_eq_true rfl) rfl ⟨by show _ ≤ 600000; omega, by show _ ≤ 7302250; omega⟩ (fun _ _ => rfl) (hM1.1.1 _ rfl) (fun x_564 w_564 hp_564 => ?_)
  obtain ⟨hx2, hM2, hc2⟩ := hp_564
  have hJ2 := hJ
  have hC2 := hC1.mv hc2 hJ2.1
  refine cb_icmp_eq (pc := 567) O 1182 dL_law_567 (by decide) (fun c_567 => ?_) (fun c_567 => ?_)
  · skip
    exact cb_wid (by omega) (by omega) (K _ _ _ ⟨hJ2, hC2, hM2⟩)
  · skip
    exact absurd (hx1.trans hx2.symm) c_567
theorem lw_c12 {κ : cb_K} (O : cb_Ok κ cL_law 4 RL room_1) (hkf : ∀ q, κ.2.2.2.2.1 q = false) (w : cb_W) (A : ca_A) (z : Int32) (hL : lw_I w A z) (i ca sl : Nat) (hi : i + 3 < (cb_ro κ.2.2.1.1 3).1) (hb : (cb_ro κ.2.2.1.1 3).1 ≤ 2048) (hca : ca + 120 ≤ 600000) (hsl : sl + 6520 ≤ 7302250) (K : ∀ w' A' z', lw_I w' A' z' → cb_X κ w' (ca + 120) (sl + 6520) 1182 [some (.inr (some 903)), some (.inr (some 0)), some (.inr (some 1000)), some (.inl (nI i))] []) : cb_X κ w ca sl 572 [some (.inr (some 903)), some (.inr (some 0)), some (.inr (some 1000)), some (.inl (nI i))] [] := by
  obtain ⟨hJ, hC, hM⟩ := hL
  refine cb_aload_n (pc := 572) O dL_law_572 rfl ?_
  refine cb_aload_n (pc := 573) O dL_law_573 rfl ?_
  refine cb_iload_n (pc := 574) O dL_law_574 rfl ?_
  refine cb_iconst (pc := 575) (v := 1) O dL_law_575 (by decide) ?_
  refine cb_iadd (pc := 576) O dL_law_576 ?_
  refine cb_ialdS (pc := 577) O 3 (i + 1) (by decide) dL_law_577 (by omega) (nI_add i 1) (by omega) ?_
  refine cb_aload_n (pc := 578) O dL_law_578 rfl ?_
  refine cb_iload_n (pc := 579) O dL_law_579 rfl ?_
  refine cb_iconst (pc := 580) (v := 2) O dL_law_580 (by decide) ?_
  refine cb_iadd (pc := 581) O dL_law_581 ?_
  refine cb_ialdS (pc := 582) O 3 (i + 2) (by decide) dL_law_582 (by omega) (nI_add i 2) (by omega) ?_
  refine cb_cVi (pc := 583) O (k_joined _ A z hJ.1 hC _ _) my_X10_joined mi_X10_joined mx_X10_joined ml_L_64 dL_law_583 rfl ct_10 rfl rfl rfl ⟨(Nat.le_of_ble_eq_true rfl), (Nat.le_of_ble_eq_true rfl)⟩ (Nat.le_of_ble_eq_true rfl) rfl ⟨by show _ ≤ 600000; omega, by show _ ≤ 7302250; omega⟩ (fun _ _ => rfl) (hC.1.1 _ rfl) (fun x_583 w_583 hp_583 => ?_)
  obtain ⟨hx1, hC1, hm1⟩ := hp_583
  have hM1 := hM.mv hm1
  refine cb_aload_n (pc := 586) O dL_law_586 rfl ?_
  refine cb_aload_n (pc := 587) O dL_law_587 rfl ?_
  refine cb_iload_n (pc := 588) O dL_law_588 rfl ?_
  refine cb_iconst (pc := 589) (v := 1) O dL_law_589 (by decide) ?_
  refine cb_iadd (pc := 590) O dL_law_590 ?_
  refine cb_ialdS (pc := 591) O 3 (i + 1) (by decide) dL_law_591 (by omega) (nI_add i 1) (by omega) ?_
  refine cb_aload_n (pc := 592) O dL_law_592 rfl ?_
  refine cb_iload_n (pc := 593) O dL_law_593 rfl ?_
  refine cb_iconst (pc := 594) (v := 2) O dL_law_594 (by decide) ?_
  refine cb_iadd (pc := 595) O dL_law_595 ?_
  refine cb_ialdS (pc := 596) O 3 (i + 2) (by decide) dL_law_596 (by omega) (nI_add i 2) (by omega) ?_
  refine cb_cVi (pc := 597) O (m_joined _ A z hJ.1 hM1 _ _) my_X11_joined mi_X11_joined mx_X11_joined ml_L_67 dL_law_597 rfl ct_11 rfl rfl rfl ⟨(Nat.le_of_ble_eq_true rfl), (Nat.le_of_ble_eq_true rfl)⟩ (Nat.le_of_ble_eq_true rfl) rfl ⟨by show _ ≤ 600000; omega, by show _ ≤ 7302250; omega⟩ (fun _ _ => rfl) (hM1.1.1 _ rfl) (fun x_597 w_597 hp_597 => ?_)
  obtain ⟨hx2, hM2, hc2⟩ := hp_597
  have hJ2 := hJ
  have hC2 := hC1.mv hc2 hJ2.1
  refine cb_icmp_eq (pc := 600) O 1182 dL_law_600 (by decide) (fun c_600 => ?_) (fun c_600 => ?_)
  · skip
    exact cb_wid (by omega) (by omega) (K _ _ _ ⟨hJ2, hC2, hM2⟩)
  · skip
    exact absurd (hx1.trans hx2.symm) c_600
theorem lw_c13 {κ : cb_K} (O : cb_Ok κ cL_law 4 RL room_1) (hkf : ∀ q, κ.2.2.2.2.1 q = false) (w : cb_W) (A : ca_A) (z : Int32) (hL : lw_I w A z) (i ca sl : Nat) (hi : i + 3 < (cb_ro κ.2.2.1.1 3).1) (hb : (cb_ro κ.2.2.1.1 3).1 ≤ 2048) (hca : ca + 120 ≤ 600000) (hsl : sl + 6520 ≤ 7302250) (K : ∀ w' A' z', lw_I w' A' z' → cb_X κ w' (ca + 120) (sl + 6520) 1182 [some (.inr (some 903)), some (.inr (some 0)), some (.inr (some 1000)), some (.inl (nI i))] []) : cb_X κ w ca sl 605 [some (.inr (some 903)), some (.inr (some 0)), some (.inr (some 1000)), some (.inl (nI i))] [] := by
  obtain ⟨hJ, hC, hM⟩ := hL
  refine cb_aload_n (pc := 605) O dL_law_605 rfl ?_
  refine cb_aload_n (pc := 606) O dL_law_606 rfl ?_
  refine cb_iload_n (pc := 607) O dL_law_607 rfl ?_
  refine cb_iconst (pc := 608) (v := 1) O dL_law_608 (by decide) ?_
  refine cb_iadd (pc := 609) O dL_law_609 ?_
  refine cb_ialdS (pc := 610) O 3 (i + 1) (by decide) dL_law_610 (by omega) (nI_add i 1) (by omega) ?_
  refine cb_cVi (pc := 611) O (k_sheets _ A z hJ.1 hC _) my_X10_sheets mi_X10_sheets mx_X10_sheets ml_L_68 dL_law_611 rfl ct_10 rfl rfl rfl ⟨(Nat.le_of_ble_eq_true rfl), (Nat.le_of_ble_eq_true rfl)⟩ (Nat.le_of_ble_eq_true rfl) rfl ⟨by show _ ≤ 600000; omega, by show _ ≤ 7302250; omega⟩ (fun q h => by rw [hkf q] at h; cases h) (hC.1.1 _ rfl) (fun x_611 w_611 hp_611 => ?_)
  obtain ⟨hx1, hC1, hm1⟩ := hp_611
  have hM1 := hM.mv hm1
  refine cb_aload_n (pc := 614) O dL_law_614 rfl ?_
  refine cb_aload_n (pc := 615) O dL_law_615 rfl ?_
  refine cb_iload_n (pc := 616) O dL_law_616 rfl ?_
  refine cb_iconst (pc := 617) (v := 1) O dL_law_617 (by decide) ?_
  refine cb_iadd (pc := 618) O dL_law_618 ?_
  refine cb_ialdS (pc := 619) O 3 (i + 1) (by decide) dL_law_619 (by omega) (nI_add i 1) (by omega) ?_
  refine cb_cVi (pc := 620) O (m_sheets _ A z hJ.1 hM1 _) my_X11_sheets mi_X11_sheets mx_X11_sheets ml_L_71 dL_law_620 rfl ct_11 rfl rfl rfl ⟨(Nat.le_of_ble_eq_true rfl), (Nat.le_of_ble_eq_true rfl)⟩ (Nat.le_of_ble_eq_true rfl) rfl ⟨by show _ ≤ 600000; omega, by show _ ≤ 7302250; omega⟩ (fun _ _ => rfl) (hM1.1.1 _ rfl) (fun x_620 w_620 hp_620 => ?_)
  obtain ⟨hx2, hM2, hc2⟩ := hp_620
  refine cb_icmp_eq (pc := 623) O 1182 dL_law_623 (by decide) (fun c_623 => ?_) (fun c_623 => ?_)
  · skip
    exact cb_wid (by omega) (by omega) (K _ _ _ ⟨(J_sheetsA _ hJ), hC1.mv hc2 (J_sheetsA _ hJ).1, hM2⟩)
  · skip
    exact absurd (hx1.trans hx2.symm) c_623
theorem lw_c14 {κ : cb_K} (O : cb_Ok κ cL_law 4 RL room_1) (hkf : ∀ q, κ.2.2.2.2.1 q = false) (w : cb_W) (A : ca_A) (z : Int32) (hL : lw_I w A z) (i ca sl : Nat) (hi : i + 3 < (cb_ro κ.2.2.1.1 3).1) (hb : (cb_ro κ.2.2.1.1 3).1 ≤ 2048) (hca : ca + 120 ≤ 600000) (hsl : sl + 6520 ≤ 7302250) (K : ∀ w' A' z', lw_I w' A' z' → cb_X κ w' (ca + 120) (sl + 6520) 1182 [some (.inr (some 903)), some (.inr (some 0)), some (.inr (some 1000)), some (.inl (nI i))] []) : cb_X κ w ca sl 628 [some (.inr (some 903)), some (.inr (some 0)), some (.inr (some 1000)), some (.inl (nI i))] [] := by
  obtain ⟨hJ, hC, hM⟩ := hL
  refine cb_aload_n (pc := 628) O dL_law_628 rfl ?_
  refine cb_aload_n (pc := 629) O dL_law_629 rfl ?_
  refine cb_iload_n (pc := 630) O dL_law_630 rfl ?_
  refine cb_iconst (pc := 631) (v := 1) O dL_law_631 (by decide) ?_
  refine cb_iadd (pc := 632) O dL_law_632 ?_
  refine cb_ialdS (pc := 633) O 3 (i + 1) (by decide) dL_law_633 (by omega) (nI_add i 1) (by omega) ?_
  refine cb_aload_n (pc := 634) O dL_law_634 rfl ?_
  refine cb_iload_n (pc := 635) O dL_law_635 rfl ?_
  refine cb_iconst (pc := 636) (v := 2) O dL_law_636 (by decide) ?_
  refine cb_iadd (pc := 637) O dL_law_637 ?_
  refine cb_ialdS (pc := 638) O 3 (i + 2) (by decide) dL_law_638 (by omega) (nI_add i 2) (by omega) ?_
  refine cb_cVi (pc := 639) O (k_pull _ A z hJ.1 hC _ _ (fun j => by have := hJ.2 j; have := hJ.1.1; omega)) my_X10_pull mi_X10_pull mx_X10_pull ml_L_72 dL_law_639 rfl ct_10 rfl rfl rfl ⟨(Nat.le_of_ble_eq_true rfl), (Nat.le_of_ble_eq_true rfl)⟩ (Nat.le_of_ble_eq_true rfl) rfl ⟨by show _ ≤ 600000; omega, by show _ ≤ 7302250; omega⟩ (fun q h => by rw [hkf q] at h; cases h) (hC.1.1 _ rfl) (fun x_639 w_639 hp_639 => ?_)
  obtain ⟨hx1, hC1, hm1⟩ := hp_639
  have hM1 := hM.mv hm1
  refine cb_aload_n (pc := 642) O dL_law_642 rfl ?_
  refine cb_aload_n (pc := 643) O dL_law_643 rfl ?_
  refine cb_iload_n (pc := 644) O dL_law_644 rfl ?_
  refine cb_iconst (pc := 645) (v := 1) O dL_law_645 (by decide) ?_
  refine cb_iadd (pc := 646) O dL_law_646 ?_
  refine cb_ialdS (pc := 647) O 3 (i + 1) (by decide) dL_law_647 (by omega) (nI_add i 1) (by omega) ?_
  refine cb_aload_n (pc := 648) O dL_law_648 rfl ?_
  refine cb_iload_n (pc := 649) O dL_law_649 rfl ?_
  refine cb_iconst (pc := 650) (v := 2) O dL_law_650 (by decide) ?_
  refine cb_iadd (pc := 651) O dL_law_651 ?_
  refine cb_ialdS (pc := 652) O 3 (i + 2) (by decide) dL_law_652 (by omega) (nI_add i 2) (by omega) ?_
  refine cb_cVi (pc := 653) O (m_pull _ A z hJ.1 hM1 _ _ (fun j => by have := hJ.2 j; have := hJ.1.1; omega)) my_X11_pull mi_X11_pull mx_X11_pull ml_L_75 dL_law_653 rfl ct_11 rfl rfl rfl ⟨(Nat.le_of_ble_eq_true rfl), (Nat.le_of_ble_eq_true rfl)⟩ (Nat.le_of_ble_eq_true rfl) rfl ⟨by show _ ≤ 600000; omega, by show _ ≤ 7302250; omega⟩ (fun _ _ => rfl) (hM1.1.1 _ rfl) (fun x_653 w_653 hp_653 => ?_)
  obtain ⟨hx2, hM2, hc2⟩ := hp_653
  refine cb_icmp_eq (pc := 656) O 1182 dL_law_656 (by decide) (fun c_656 => ?_) (fun c_656 => ?_)
  · skip
    exact cb_wid (by omega) (by omega) (K _ _ _ ⟨(J_pull z _ _ hJ), hC1.mv hc2 (J_pull z _ _ hJ).1, hM2⟩)
  · skip
    exact absurd (hx1.trans hx2.symm) c_656
theorem lw_c15 {κ : cb_K} (O : cb_Ok κ cL_law 4 RL room_1) (hkf : ∀ q, κ.2.2.2.2.1 q = false) (w : cb_W) (A : ca_A) (z : Int32) (hL : lw_I w A z) (i ca sl : Nat) (hi : i + 3 < (cb_ro κ.2.2.1.1 3).1) (hb : (cb_ro κ.2.2.1.1 3).1 ≤ 2048) (hca : ca + 120 ≤ 600000) (hsl : sl + 6520 ≤ 7302250) (K : ∀ w' A' z', lw_I w' A' z' → cb_X κ w' (ca + 120) (sl + 6520) 1182 [some (.inr (some 903)), some (.inr (some 0)), some (.inr (some 1000)), some (.inl (nI i))] []) : cb_X κ w ca sl 661 [some (.inr (some 903)), some (.inr (some 0)), some (.inr (some 1000)), some (.inl (nI i))] [] := by
  obtain ⟨hJ, hC, hM⟩ := hL
  refine cb_aload_n (pc := 661) O dL_law_661 rfl ?_
  refine cb_aload_n (pc := 662) O dL_law_662 rfl ?_
  refine cb_iload_n (pc := 663) O dL_law_663 rfl ?_
  refine cb_iconst (pc := 664) (v := 1) O dL_law_664 (by decide) ?_
  refine cb_iadd (pc := 665) O dL_law_665 ?_
  refine cb_ialdS (pc := 666) O 3 (i + 1) (by decide) dL_law_666 (by omega) (nI_add i 1) (by omega) ?_
  refine cb_aload_n (pc := 667) O dL_law_667 rfl ?_
  refine cb_iload_n (pc := 668) O dL_law_668 rfl ?_
  refine cb_iconst (pc := 669) (v := 2) O dL_law_669 (by decide) ?_
  refine cb_iadd (pc := 670) O dL_law_670 ?_
  refine cb_ialdS (pc := 671) O 3 (i + 2) (by decide) dL_law_671 (by omega) (nI_add i 2) (by omega) ?_
  refine cb_cVi (pc := 672) O (k_blend _ A z hJ.1 hC _ _ (fun j => by have := hJ.2 j; have := hJ.1.1; omega)) my_X10_blend mi_X10_blend mx_X10_blend ml_L_76 dL_law_672 rfl ct_10 rfl rfl rfl ⟨(Nat.le_of_ble_eq_true rfl), (Nat.le_of_ble_eq_true rfl)⟩ (Nat.le_of_ble_eq_true rfl) rfl ⟨by show _ ≤ 600000; omega, by show _ ≤ 7302250; omega⟩ (fun q h => by rw [hkf q] at h; cases h) (hC.1.1 _ rfl) (fun x_672 w_672 hp_672 => ?_)
  obtain ⟨hx1, hC1, hm1⟩ := hp_672
  have hM1 := hM.mv hm1
  refine cb_aload_n (pc := 675) O dL_law_675 rfl ?_
  refine cb_aload_n (pc := 676) O dL_law_676 rfl ?_
  refine cb_iload_n (pc := 677) O dL_law_677 rfl ?_
  refine cb_iconst (pc := 678) (v := 1) O dL_law_678 (by decide) ?_
  refine cb_iadd (pc := 679) O dL_law_679 ?_
  refine cb_ialdS (pc := 680) O 3 (i + 1) (by decide) dL_law_680 (by omega) (nI_add i 1) (by omega) ?_
  refine cb_aload_n (pc := 681) O dL_law_681 rfl ?_
  refine cb_iload_n (pc := 682) O dL_law_682 rfl ?_
  refine cb_iconst (pc := 683) (v := 2) O dL_law_683 (by decide) ?_
  refine cb_iadd (pc := 684) O dL_law_684 ?_
  refine cb_ialdS (pc := 685) O 3 (i + 2) (by decide) dL_law_685 (by omega) (nI_add i 2) (by omega) ?_
  refine cb_cVi (pc := 686) O (m_blend _ A z hJ.1 hM1 _ _ (fun j => by have := hJ.2 j; have := hJ.1.1; omega)) my_X11_blend mi_X11_blend mx_X11_blend ml_L_79 dL_law_686 rfl ct_11 rfl rfl rfl ⟨(Nat.le_of_ble_eq_true rfl), (Nat.le_of_ble_eq_true rfl)⟩ (Nat.le_of_ble_eq_true rfl) rfl ⟨by show _ ≤ 600000; omega, by show _ ≤ 7302250; omega⟩ (fun _ _ => rfl) (hM1.1.1 _ rfl) (fun x_686 w_686 hp_686 => ?_)
  obtain ⟨hx2, hM2, hc2⟩ := hp_686
  refine cb_icmp_eq (pc := 689) O 1182 dL_law_689 (by decide) (fun c_689 => ?_) (fun c_689 => ?_)
  · skip
    exact cb_wid (by omega) (by omega) (K _ _ _ ⟨(J_blend z _ _ hJ), hC1.mv hc2 (J_blend z _ _ hJ).1, hM2⟩)
  · skip
    exact absurd (hx1.trans hx2.symm) c_689
theorem lw_c16 {κ : cb_K} (O : cb_Ok κ cL_law 4 RL room_1) (hkf : ∀ q, κ.2.2.2.2.1 q = false) (w : cb_W) (A : ca_A) (z : Int32) (hL : lw_I w A z) (i ca sl : Nat) (hi : i + 3 < (cb_ro κ.2.2.1.1 3).1) (hb : (cb_ro κ.2.2.1.1 3).1 ≤ 2048) (hca : ca + 120 ≤ 600000) (hsl : sl + 6520 ≤ 7302250) (K : ∀ w' A' z', lw_I w' A' z' → cb_X κ w' (ca + 120) (sl + 6520) 1182 [some (.inr (some 903)), some (.inr (some 0)), some (.inr (some 1000)), some (.inl (nI i))] []) : cb_X κ w ca sl 694 [some (.inr (some 903)), some (.inr (some 0)), some (.inr (some 1000)), some (.inl (nI i))] [] := by
  obtain ⟨hJ, hC, hM⟩ := hL
  refine cb_aload_n (pc := 694) O dL_law_694 rfl ?_
  refine cb_aload_n (pc := 695) O dL_law_695 rfl ?_
  refine cb_iload_n (pc := 696) O dL_law_696 rfl ?_
  refine cb_iconst (pc := 697) (v := 1) O dL_law_697 (by decide) ?_
  refine cb_iadd (pc := 698) O dL_law_698 ?_
  refine cb_ialdS (pc := 699) O 3 (i + 1) (by decide) dL_law_699 (by omega) (nI_add i 1) (by omega) ?_
  refine cb_aload_n (pc := 700) O dL_law_700 rfl ?_
  refine cb_iload_n (pc := 701) O dL_law_701 rfl ?_
  refine cb_iconst (pc := 702) (v := 2) O dL_law_702 (by decide) ?_
  refine cb_iadd (pc := 703) O dL_law_703 ?_
  refine cb_ialdS (pc := 704) O 3 (i + 2) (by decide) dL_law_704 (by omega) (nI_add i 2) (by omega) ?_
  refine cb_cVi (pc := 705) O (k_colour _ A z hJ.1 hC _ _) my_X10_colour mi_X10_colour mx_X10_colour ml_L_80 dL_law_705 rfl ct_10 rfl rfl rfl ⟨(Nat.le_of_ble_eq_true rfl), (Nat.le_of_ble_eq_true rfl)⟩ (Nat.le_of_ble_eq_true rfl) rfl ⟨by show _ ≤ 600000; omega, by show _ ≤ 7302250; omega⟩ (fun _ _ => rfl) (hC.1.1 _ rfl) (fun x_705 w_705 hp_705 => ?_)
  obtain ⟨hx1, rfl⟩ := hp_705
  have hM1 := hM
  refine cb_aload_n (pc := 708) O dL_law_708 rfl ?_
  refine cb_aload_n (pc := 709) O dL_law_709 rfl ?_
  refine cb_iload_n (pc := 710) O dL_law_710 rfl ?_
  refine cb_iconst (pc := 711) (v := 1) O dL_law_711 (by decide) ?_
  refine cb_iadd (pc := 712) O dL_law_712 ?_
  refine cb_ialdS (pc := 713) O 3 (i + 1) (by decide) dL_law_713 (by omega) (nI_add i 1) (by omega) ?_
  refine cb_aload_n (pc := 714) O dL_law_714 rfl ?_
  refine cb_iload_n (pc := 715) O dL_law_715 rfl ?_
  refine cb_iconst (pc := 716) (v := 2) O dL_law_716 (by decide) ?_
  refine cb_iadd (pc := 717) O dL_law_717 ?_
  refine cb_ialdS (pc := 718) O 3 (i + 2) (by decide) dL_law_718 (by omega) (nI_add i 2) (by omega) ?_
  refine cb_cVi (pc := 719) O (m_colour _ A z hJ.1 hM1 _ _) my_X11_colour mi_X11_colour mx_X11_colour ml_L_83 dL_law_719 rfl ct_11 rfl rfl rfl ⟨(Nat.le_of_ble_eq_true rfl), (Nat.le_of_ble_eq_true rfl)⟩ (Nat.le_of_ble_eq_true rfl) rfl ⟨by show _ ≤ 600000; omega, by show _ ≤ 7302250; omega⟩ (fun _ _ => rfl) (hM1.1.1 _ rfl) (fun x_719 w_719 hp_719 => ?_)
  obtain ⟨hx2, rfl⟩ := hp_719
  refine cb_icmp_eq (pc := 722) O 1182 dL_law_722 (by decide) (fun c_722 => ?_) (fun c_722 => ?_)
  · skip
    exact cb_wid (by omega) (by omega) (K _ _ _ ⟨hJ, hC, hM⟩)
  · skip
    exact absurd (hx1.trans hx2.symm) c_722
theorem lw_c17 {κ : cb_K} (O : cb_Ok κ cL_law 4 RL room_1) (hkf : ∀ q, κ.2.2.2.2.1 q = false) (w : cb_W) (A : ca_A) (z : Int32) (hL : lw_I w A z) (i ca sl : Nat) (hi : i + 3 < (cb_ro κ.2.2.1.1 3).1) (hb : (cb_ro κ.2.2.1.1 3).1 ≤ 2048) (hca : ca + 120 ≤ 600000) (hsl : sl + 6520 ≤ 7302250) (K : ∀ w' A' z', lw_I w' A' z' → cb_X κ w' (ca + 120) (sl + 6520) 1182 [some (.inr (some 903)), some (.inr (some 0)), some (.inr (some 1000)), some (.inl (nI i))] []) : cb_X κ w ca sl 727 [some (.inr (some 903)), some (.inr (some 0)), some (.inr (some 1000)), some (.inl (nI i))] [] := by
  obtain ⟨hJ, hC, hM⟩ := hL
  refine cb_aload_n (pc := 727) O dL_law_727 rfl ?_
  refine cb_aload_n (pc := 728) O dL_law_728 rfl ?_
  refine cb_iload_n (pc := 729) O dL_law_729 rfl ?_
  refine cb_iconst (pc := 730) (v := 1) O dL_law_730 (by decide) ?_
  refine cb_iadd (pc := 731) O dL_law_731 ?_
  refine cb_ialdS (pc := 732) O 3 (i + 1) (by decide) dL_law_732 (by omega) (nI_add i 1) (by omega) ?_
  refine cb_aload_n (pc := 733) O dL_law_733 rfl ?_
  refine cb_iload_n (pc := 734) O dL_law_734 rfl ?_
  refine cb_iconst (pc := 735) (v := 2) O dL_law_735 (by decide) ?_
  refine cb_iadd (pc := 736) O dL_law_736 ?_
  refine cb_ialdS (pc := 737) O 3 (i + 2) (by decide) dL_law_737 (by omega) (nI_add i 2) (by omega) ?_
  refine cb_aload_n (pc := 738) O dL_law_738 rfl ?_
  refine cb_iload_n (pc := 739) O dL_law_739 rfl ?_
  refine cb_iconst (pc := 740) (v := 3) O dL_law_740 (by decide) ?_
  refine cb_iadd (pc := 741) O dL_law_741 ?_
  refine cb_ialdS (pc := 742) O 3 (i + 3) (by decide) dL_law_742 (by omega) (nI_add i 3) (by omega) ?_
  refine cb_cVi (pc := 743) O (k_led _ A z hJ.1 hC _ _ _) my_X10_led mi_X10_led mx_X10_led ml_L_84 dL_law_743 rfl ct_10 rfl rfl rfl ⟨(Nat.le_of_ble_eq_true rfl), (Nat.le_of_ble_eq_true rfl)⟩ (Nat.le_of_ble_eq_true rfl) rfl ⟨by show _ ≤ 600000; omega, by show _ ≤ 7302250; omega⟩ (fun _ _ => rfl) (hC.1.1 _ rfl) (fun x_743 w_743 hp_743 => ?_)
  obtain ⟨hx1, rfl⟩ := hp_743
  have hM1 := hM
  refine cb_aload_n (pc := 746) O dL_law_746 rfl ?_
  refine cb_aload_n (pc := 747) O dL_law_747 rfl ?_
  refine cb_iload_n (pc := 748) O dL_law_748 rfl ?_
  refine cb_iconst (pc := 749) (v := 1) O dL_law_749 (by decide) ?_
  refine cb_iadd (pc := 750) O dL_law_750 ?_
  refine cb_ialdS (pc := 751) O 3 (i + 1) (by decide) dL_law_751 (by omega) (nI_add i 1) (by omega) ?_
  refine cb_aload_n (pc := 752) O dL_law_752 rfl ?_
  refine cb_iload_n (pc := 753) O dL_law_753 rfl ?_
  refine cb_iconst (pc := 754) (v := 2) O dL_law_754 (by decide) ?_
  refine cb_iadd (pc := 755) O dL_law_755 ?_
  refine cb_ialdS (pc := 756) O 3 (i + 2) (by decide) dL_law_756 (by omega) (nI_add i 2) (by omega) ?_
  refine cb_aload_n (pc := 757) O dL_law_757 rfl ?_
  refine cb_iload_n (pc := 758) O dL_law_758 rfl ?_
  refine cb_iconst (pc := 759) (v := 3) O dL_law_759 (by decide) ?_
  refine cb_iadd (pc := 760) O dL_law_760 ?_
  refine cb_ialdS (pc := 761) O 3 (i + 3) (by decide) dL_law_761 (by omega) (nI_add i 3) (by omega) ?_
  refine cb_cVi (pc := 762) O (m_led _ A z hJ.1 hM1 _ _ _) my_X11_led mi_X11_led mx_X11_led ml_L_87 dL_law_762 rfl ct_11 rfl rfl rfl ⟨(Nat.le_of_ble_eq_true rfl), (Nat.le_of_ble_eq_true rfl)⟩ (Nat.le_of_ble_eq_true rfl) rfl ⟨by show _ ≤ 600000; omega, by show _ ≤ 7302250; omega⟩ (fun _ _ => rfl) (hM1.1.1 _ rfl) (fun x_762 w_762 hp_762 => ?_)
  obtain ⟨hx2, rfl⟩ := hp_762
  refine cb_icmp_eq (pc := 765) O 1182 dL_law_765 (by decide) (fun c_765 => ?_) (fun c_765 => ?_)
  · skip
    exact cb_wid (by omega) (by omega) (K _ _ _ ⟨hJ, hC, hM⟩)
  · skip
    exact absurd (hx1.trans hx2.symm) c_765
theorem lw_c18 {κ : cb_K} (O : cb_Ok κ cL_law 4 RL room_1) (hkf : ∀ q, κ.2.2.2.2.1 q = false) (w : cb_W) (A : ca_A) (z : Int32) (hL : lw_I w A z) (i ca sl : Nat) (hi : i + 3 < (cb_ro κ.2.2.1.1 3).1) (hb : (cb_ro κ.2.2.1.1 3).1 ≤ 2048) (hca : ca + 120 ≤ 600000) (hsl : sl + 6520 ≤ 7302250) (K : ∀ w' A' z', lw_I w' A' z' → cb_X κ w' (ca + 120) (sl + 6520) 1182 [some (.inr (some 903)), some (.inr (some 0)), some (.inr (some 1000)), some (.inl (nI i))] []) : cb_X κ w ca sl 770 [some (.inr (some 903)), some (.inr (some 0)), some (.inr (some 1000)), some (.inl (nI i))] [] := by
  obtain ⟨hJ, hC, hM⟩ := hL
  refine cb_aload_n (pc := 770) O dL_law_770 rfl ?_
  refine cb_aload_n (pc := 771) O dL_law_771 rfl ?_
  refine cb_iload_n (pc := 772) O dL_law_772 rfl ?_
  refine cb_iconst (pc := 773) (v := 1) O dL_law_773 (by decide) ?_
  refine cb_iadd (pc := 774) O dL_law_774 ?_
  refine cb_ialdS (pc := 775) O 3 (i + 1) (by decide) dL_law_775 (by omega) (nI_add i 1) (by omega) ?_
  refine cb_cVi (pc := 776) O (k_good _ A z hJ.1 hC _) my_X10_good mi_X10_good mx_X10_good ml_L_88 dL_law_776 rfl ct_10 rfl rfl rfl ⟨(Nat.le_of_ble_eq_true rfl), (Nat.le_of_ble_eq_true rfl)⟩ (Nat.le_of_ble_eq_true rfl) rfl ⟨by show _ ≤ 600000; omega, by show _ ≤ 7302250; omega⟩ (fun _ _ => rfl) (hC.1.1 _ rfl) (fun x_776 w_776 hp_776 => ?_)
  obtain ⟨hx1, rfl⟩ := hp_776
  have hM1 := hM
  refine cb_aload_n (pc := 779) O dL_law_779 rfl ?_
  refine cb_aload_n (pc := 780) O dL_law_780 rfl ?_
  refine cb_iload_n (pc := 781) O dL_law_781 rfl ?_
  refine cb_iconst (pc := 782) (v := 1) O dL_law_782 (by decide) ?_
  refine cb_iadd (pc := 783) O dL_law_783 ?_
  refine cb_ialdS (pc := 784) O 3 (i + 1) (by decide) dL_law_784 (by omega) (nI_add i 1) (by omega) ?_
  refine cb_cVi (pc := 785) O (m_good _ A z hJ.1 hM1 _) my_X11_good mi_X11_good mx_X11_good ml_L_91 dL_law_785 rfl ct_11 rfl rfl rfl ⟨(Nat.le_of_ble_eq_true rfl), (Nat.le_of_ble_eq_true rfl)⟩ (Nat.le_of_ble_eq_true rfl) rfl ⟨by show _ ≤ 600000; omega, by show _ ≤ 7302250; omega⟩ (fun _ _ => rfl) (hM1.1.1 _ rfl) (fun x_785 w_785 hp_785 => ?_)
  obtain ⟨hx2, rfl⟩ := hp_785
  refine cb_icmp_eq (pc := 788) O 1182 dL_law_788 (by decide) (fun c_788 => ?_) (fun c_788 => ?_)
  · skip
    exact cb_wid (by omega) (by omega) (K _ _ _ ⟨hJ, hC, hM⟩)
  · skip
    exact absurd (hx1.trans hx2.symm) c_788
theorem lw_c19 {κ : cb_K} (O : cb_Ok κ cL_law 4 RL room_1) (hkf : ∀ q, κ.2.2.2.2.1 q = false) (w : cb_W) (A : ca_A) (z : Int32) (hL : lw_I w A z) (i ca sl : Nat) (hi : i + 3 < (cb_ro κ.2.2.1.1 3).1) (hb : (cb_ro κ.2.2.1.1 3).1 ≤ 2048) (hca : ca + 120 ≤ 600000) (hsl : sl + 6520 ≤ 7302250) (K : ∀ w' A' z', lw_I w' A' z' → cb_X κ w' (ca + 120) (sl + 6520) 1182 [some (.inr (some 903)), some (.inr (some 0)), some (.inr (some 1000)), some (.inl (nI i))] []) : cb_X κ w ca sl 793 [some (.inr (some 903)), some (.inr (some 0)), some (.inr (some 1000)), some (.inl (nI i))] [] := by
  obtain ⟨hJ, hC, hM⟩ := hL
  refine cb_aload_n (pc := 793) O dL_law_793 rfl ?_
  refine cb_aload_n (pc := 794) O dL_law_794 rfl ?_
  refine cb_iload_n (pc := 795) O dL_law_795 rfl ?_
  refine cb_iconst (pc := 796) (v := 1) O dL_law_796 (by decide) ?_
  refine cb_iadd (pc := 797) O dL_law_797 ?_
  refine cb_ialdS (pc := 798) O 3 (i + 1) (by decide) dL_law_798 (by omega) (nI_add i 1) (by omega) ?_
  refine cb_aload_n (pc := 799) O dL_law_799 rfl ?_
  refine cb_iload_n (pc := 800) O dL_law_800 rfl ?_
  refine cb_iconst (pc := 801) (v := 2) O dL_law_801 (by decide) ?_
  refine cb_iadd (pc := 802) O dL_law_802 ?_
  refine cb_ialdS (pc := 803) O 3 (i + 2) (by decide) dL_law_803 (by omega) (nI_add i 2) (by omega) ?_
  refine cb_cVi (pc := 804) O (k_book _ A z hJ.1 hC _ _) my_X10_book mi_X10_book mx_X10_book ml_L_92 dL_law_804 rfl ct_10 rfl rfl rfl ⟨(Nat.le_of_ble_eq_true rfl), (Nat.le_of_ble_eq_true rfl)⟩ (Nat.le_of_ble_eq_true rfl) rfl ⟨by show _ ≤ 600000; omega, by show _ ≤ 7302250; omega⟩ (fun _ _ => rfl) (hC.1.1 _ rfl) (fun x_804 w_804 hp_804 => ?_)
  obtain ⟨hx1, rfl⟩ := hp_804
  have hM1 := hM
  refine cb_aload_n (pc := 807) O dL_law_807 rfl ?_
  refine cb_aload_n (pc := 808) O dL_law_808 rfl ?_
  refine cb_iload_n (pc := 809) O dL_law_809 rfl ?_
  refine cb_iconst (pc := 810) (v := 1) O dL_law_810 (by decide) ?_
  refine cb_iadd (pc := 811) O dL_law_811 ?_
  refine cb_ialdS (pc := 812) O 3 (i + 1) (by decide) dL_law_812 (by omega) (nI_add i 1) (by omega) ?_
  refine cb_aload_n (pc := 813) O dL_law_813 rfl ?_
  refine cb_iload_n (pc := 814) O dL_law_814 rfl ?_
  refine cb_iconst (pc := 815) (v := 2) O dL_law_815 (by decide) ?_
  refine cb_iadd (pc := 816) O dL_law_816 ?_
  refine cb_ialdS (pc := 817) O 3 (i + 2) (by decide) dL_law_817 (by omega) (nI_add i 2) (by omega) ?_
  refine cb_cVi (pc := 818) O (m_book _ A z hJ.1 hM1 _ _) my_X11_book mi_X11_book mx_X11_book ml_L_95 dL_law_818 rfl ct_11 rfl rfl rfl ⟨(Nat.le_of_ble_eq_true rfl), (Nat.le_of_ble_eq_true rfl)⟩ (Nat.le_of_ble_eq_true rfl) rfl ⟨by show _ ≤ 600000; omega, by show _ ≤ 7302250; omega⟩ (fun _ _ => rfl) (hM1.1.1 _ rfl) (fun x_818 w_818 hp_818 => ?_)
  obtain ⟨hx2, rfl⟩ := hp_818
  refine cb_icmp_eq (pc := 821) O 1182 dL_law_821 (by decide) (fun c_821 => ?_) (fun c_821 => ?_)
  · skip
    exact cb_wid (by omega) (by omega) (K _ _ _ ⟨hJ, hC, hM⟩)
  · skip
    exact absurd (hx1.trans hx2.symm) c_821
theorem lw_c20 {κ : cb_K} (O : cb_Ok κ cL_law 4 RL room_1) (hkf : ∀ q, κ.2.2.2.2.1 q = false) (w : cb_W) (A : ca_A) (z : Int32) (hL : lw_I w A z) (i ca sl : Nat) (hi : i + 3 < (cb_ro κ.2.2.1.1 3).1) (hb : (cb_ro κ.2.2.1.1 3).1 ≤ 2048) (hca : ca + 120 ≤ 600000) (hsl : sl + 6520 ≤ 7302250) (K : ∀ w' A' z', lw_I w' A' z' → cb_X κ w' (ca + 120) (sl + 6520) 1182 [some (.inr (some 903)), some (.inr (some 0)), some (.inr (some 1000)), some (.inl (nI i))] []) : cb_X κ w ca sl 826 [some (.inr (some 903)), some (.inr (some 0)), some (.inr (some 1000)), some (.inl (nI i))] [] := by
  obtain ⟨hJ, hC, hM⟩ := hL
  refine cb_aload_n (pc := 826) O dL_law_826 rfl ?_
  refine cb_aload_n (pc := 827) O dL_law_827 rfl ?_
  refine cb_iload_n (pc := 828) O dL_law_828 rfl ?_
  refine cb_iconst (pc := 829) (v := 1) O dL_law_829 (by decide) ?_
  refine cb_iadd (pc := 830) O dL_law_830 ?_
  refine cb_ialdS (pc := 831) O 3 (i + 1) (by decide) dL_law_831 (by omega) (nI_add i 1) (by omega) ?_
  refine cb_aload_n (pc := 832) O dL_law_832 rfl ?_
  refine cb_iload_n (pc := 833) O dL_law_833 rfl ?_
  refine cb_iconst (pc := 834) (v := 2) O dL_law_834 (by decide) ?_
  refine cb_iadd (pc := 835) O dL_law_835 ?_
  refine cb_ialdS (pc := 836) O 3 (i + 2) (by decide) dL_law_836 (by omega) (nI_add i 2) (by omega) ?_
  refine cb_cVi (pc := 837) O (k_free _ A z hJ.1 hC _ _) my_X10_free mi_X10_free mx_X10_free ml_L_96 dL_law_837 rfl ct_10 rfl rfl rfl ⟨(Nat.le_of_ble_eq_true rfl), (Nat.le_of_ble_eq_true rfl)⟩ (Nat.le_of_ble_eq_true rfl) rfl ⟨by show _ ≤ 600000; omega, by show _ ≤ 7302250; omega⟩ (fun _ _ => rfl) (hC.1.1 _ rfl) (fun x_837 w_837 hp_837 => ?_)
  obtain ⟨hx1, rfl⟩ := hp_837
  have hM1 := hM
  refine cb_aload_n (pc := 840) O dL_law_840 rfl ?_
  refine cb_aload_n (pc := 841) O dL_law_841 rfl ?_
  refine cb_iload_n (pc := 842) O dL_law_842 rfl ?_
  refine cb_iconst (pc := 843) (v := 1) O dL_law_843 (by decide) ?_
  refine cb_iadd (pc := 844) O dL_law_844 ?_
  refine cb_ialdS (pc := 845) O 3 (i + 1) (by decide) dL_law_845 (by omega) (nI_add i 1) (by omega) ?_
  refine cb_aload_n (pc := 846) O dL_law_846 rfl ?_
  refine cb_iload_n (pc := 847) O dL_law_847 rfl ?_
  refine cb_iconst (pc := 848) (v := 2) O dL_law_848 (by decide) ?_
  refine cb_iadd (pc := 849) O dL_law_849 ?_
  refine cb_ialdS (pc := 850) O 3 (i + 2) (by decide) dL_law_850 (by omega) (nI_add i 2) (by omega) ?_
  refine cb_cVi (pc := 851) O (m_free _ A z hJ.1 hM1 _ _) my_X11_free mi_X11_free mx_X11_free ml_L_99 dL_law_851 rfl ct_11 rfl rfl rfl ⟨(Nat.le_of_ble_eq_true rfl), (Nat.le_of_ble_eq_true rfl)⟩ (Nat.le_of_ble_eq_true rfl) rfl ⟨by show _ ≤ 600000; omega, by show _ ≤ 7302250; omega⟩ (fun _ _ => rfl) (hM1.1.1 _ rfl) (fun x_851 w_851 hp_851 => ?_)
  obtain ⟨hx2, rfl⟩ := hp_851
  refine cb_icmp_eq (pc := 854) O 1182 dL_law_854 (by decide) (fun c_854 => ?_) (fun c_854 => ?_)
  · skip
    exact cb_wid (by omega) (by omega) (K _ _ _ ⟨hJ, hC, hM⟩)
  · skip
    exact absurd (hx1.trans hx2.symm) c_854
theorem lw_c21 {κ : cb_K} (O : cb_Ok κ cL_law 4 RL room_1) (hkf : ∀ q, κ.2.2.2.2.1 q = false) (w : cb_W) (A : ca_A) (z : Int32) (hL : lw_I w A z) (i ca sl : Nat) (hi : i + 3 < (cb_ro κ.2.2.1.1 3).1) (hb : (cb_ro κ.2.2.1.1 3).1 ≤ 2048) (hca : ca + 120 ≤ 600000) (hsl : sl + 6520 ≤ 7302250) (K : ∀ w' A' z', lw_I w' A' z' → cb_X κ w' (ca + 120) (sl + 6520) 1182 [some (.inr (some 903)), some (.inr (some 0)), some (.inr (some 1000)), some (.inl (nI i))] []) : cb_X κ w ca sl 859 [some (.inr (some 903)), some (.inr (some 0)), some (.inr (some 1000)), some (.inl (nI i))] [] := by
  obtain ⟨hJ, hC, hM⟩ := hL
  refine cb_aload_n (pc := 859) O dL_law_859 rfl ?_
  refine cb_aload_n (pc := 860) O dL_law_860 rfl ?_
  refine cb_iload_n (pc := 861) O dL_law_861 rfl ?_
  refine cb_iconst (pc := 862) (v := 1) O dL_law_862 (by decide) ?_
  refine cb_iadd (pc := 863) O dL_law_863 ?_
  refine cb_ialdS (pc := 864) O 3 (i + 1) (by decide) dL_law_864 (by omega) (nI_add i 1) (by omega) ?_
  refine cb_aload_n (pc := 865) O dL_law_865 rfl ?_
  refine cb_iload_n (pc := 866) O dL_law_866 rfl ?_
  refine cb_iconst (pc := 867) (v := 2) O dL_law_867 (by decide) ?_
  refine cb_iadd (pc := 868) O dL_law_868 ?_
  refine cb_ialdS (pc := 869) O 3 (i + 2) (by decide) dL_law_869 (by omega) (nI_add i 2) (by omega) ?_
  refine cb_cVi (pc := 870) O (k_wanted _ A z hJ.1 hC _ _) my_X10_wanted mi_X10_wanted mx_X10_wanted ml_L_100 dL_law_870 rfl ct_10 rfl rfl rfl ⟨(Nat.le_of_ble_eq_true rfl), (Nat.le_of_ble_eq_true rfl)⟩ (Nat.le_of_ble_eq_true rfl) rfl ⟨by show _ ≤ 600000; omega, by show _ ≤ 7302250; omega⟩ (fun q h => by rw [hkf q] at h; cases h) (hC.1.1 _ rfl) (fun x_870 w_870 hp_870 => ?_)
  obtain ⟨hx1, hC1, hm1⟩ := hp_870
  have hM1 := hM.mv hm1
  refine cb_aload_n (pc := 873) O dL_law_873 rfl ?_
  refine cb_aload_n (pc := 874) O dL_law_874 rfl ?_
  refine cb_iload_n (pc := 875) O dL_law_875 rfl ?_
  refine cb_iconst (pc := 876) (v := 1) O dL_law_876 (by decide) ?_
  refine cb_iadd (pc := 877) O dL_law_877 ?_
  refine cb_ialdS (pc := 878) O 3 (i + 1) (by decide) dL_law_878 (by omega) (nI_add i 1) (by omega) ?_
  refine cb_aload_n (pc := 879) O dL_law_879 rfl ?_
  refine cb_iload_n (pc := 880) O dL_law_880 rfl ?_
  refine cb_iconst (pc := 881) (v := 2) O dL_law_881 (by decide) ?_
  refine cb_iadd (pc := 882) O dL_law_882 ?_
  refine cb_ialdS (pc := 883) O 3 (i + 2) (by decide) dL_law_883 (by omega) (nI_add i 2) (by omega) ?_
  refine cb_cVi (pc := 884) O (m_wanted _ A z hJ.1 hM1 _ _) my_X11_wanted mi_X11_wanted mx_X11_wanted ml_L_103 dL_law_884 rfl ct_11 rfl rfl rfl ⟨(Nat.le_of_ble_eq_true rfl), (Nat.le_of_ble_eq_true rfl)⟩ (Nat.le_of_ble_eq_true rfl) rfl ⟨by show _ ≤ 600000; omega, by show _ ≤ 7302250; omega⟩ (fun _ _ => rfl) (hM1.1.1 _ rfl) (fun x_884 w_884 hp_884 => ?_)
  obtain ⟨hx2, hM2, hc2⟩ := hp_884
  refine cb_icmp_eq (pc := 887) O 1182 dL_law_887 (by decide) (fun c_887 => ?_) (fun c_887 => ?_)
  · skip
    exact cb_wid (by omega) (by omega) (K _ _ _ ⟨(J_wantedA _ _ hJ), hC1.mv hc2 (J_wantedA _ _ hJ).1, hM2⟩)
  · skip
    exact absurd (hx1.trans hx2.symm) c_887
theorem lw_c22 {κ : cb_K} (O : cb_Ok κ cL_law 4 RL room_1) (hkf : ∀ q, κ.2.2.2.2.1 q = false) (w : cb_W) (A : ca_A) (z : Int32) (hL : lw_I w A z) (i ca sl : Nat) (hi : i + 3 < (cb_ro κ.2.2.1.1 3).1) (hb : (cb_ro κ.2.2.1.1 3).1 ≤ 2048) (hca : ca + 120 ≤ 600000) (hsl : sl + 6520 ≤ 7302250) (K : ∀ w' A' z', lw_I w' A' z' → cb_X κ w' (ca + 120) (sl + 6520) 1182 [some (.inr (some 903)), some (.inr (some 0)), some (.inr (some 1000)), some (.inl (nI i))] []) : cb_X κ w ca sl 892 [some (.inr (some 903)), some (.inr (some 0)), some (.inr (some 1000)), some (.inl (nI i))] [] := by
  obtain ⟨hJ, hC, hM⟩ := hL
  refine cb_aload_n (pc := 892) O dL_law_892 rfl ?_
  refine cb_aload_n (pc := 893) O dL_law_893 rfl ?_
  refine cb_iload_n (pc := 894) O dL_law_894 rfl ?_
  refine cb_iconst (pc := 895) (v := 1) O dL_law_895 (by decide) ?_
  refine cb_iadd (pc := 896) O dL_law_896 ?_
  refine cb_ialdS (pc := 897) O 3 (i + 1) (by decide) dL_law_897 (by omega) (nI_add i 1) (by omega) ?_
  refine cb_aload_n (pc := 898) O dL_law_898 rfl ?_
  refine cb_iload_n (pc := 899) O dL_law_899 rfl ?_
  refine cb_iconst (pc := 900) (v := 2) O dL_law_900 (by decide) ?_
  refine cb_iadd (pc := 901) O dL_law_901 ?_
  refine cb_ialdS (pc := 902) O 3 (i + 2) (by decide) dL_law_902 (by omega) (nI_add i 2) (by omega) ?_
  refine cb_cVi (pc := 903) O (k_want _ A z hJ.1 hC _ _) my_X10_want mi_X10_want mx_X10_want ml_L_104 dL_law_903 rfl ct_10 rfl rfl rfl ⟨(Nat.le_of_ble_eq_true rfl), (Nat.le_of_ble_eq_true rfl)⟩ (Nat.le_of_ble_eq_true rfl) rfl ⟨by show _ ≤ 600000; omega, by show _ ≤ 7302250; omega⟩ (fun _ _ => rfl) (hC.1.1 _ rfl) (fun x_903 w_903 hp_903 => ?_)
  obtain ⟨hx1, hC1, hm1⟩ := hp_903
  have hM1 := hM.mv hm1
  refine cb_aload_n (pc := 906) O dL_law_906 rfl ?_
  refine cb_aload_n (pc := 907) O dL_law_907 rfl ?_
  refine cb_iload_n (pc := 908) O dL_law_908 rfl ?_
  refine cb_iconst (pc := 909) (v := 1) O dL_law_909 (by decide) ?_
  refine cb_iadd (pc := 910) O dL_law_910 ?_
  refine cb_ialdS (pc := 911) O 3 (i + 1) (by decide) dL_law_911 (by omega) (nI_add i 1) (by omega) ?_
  refine cb_aload_n (pc := 912) O dL_law_912 rfl ?_
  refine cb_iload_n (pc := 913) O dL_law_913 rfl ?_
  refine cb_iconst (pc := 914) (v := 2) O dL_law_914 (by decide) ?_
  refine cb_iadd (pc := 915) O dL_law_915 ?_
  refine cb_ialdS (pc := 916) O 3 (i + 2) (by decide) dL_law_916 (by omega) (nI_add i 2) (by omega) ?_
  refine cb_cVi (pc := 917) O (m_want _ A z hJ.1 hM1 _ _) my_X11_want mi_X11_want mx_X11_want ml_L_107 dL_law_917 rfl ct_11 rfl rfl rfl ⟨(Nat.le_of_ble_eq_true rfl), (Nat.le_of_ble_eq_true rfl)⟩ (Nat.le_of_ble_eq_true rfl) rfl ⟨by show _ ≤ 600000; omega, by show _ ≤ 7302250; omega⟩ (fun _ _ => rfl) (hM1.1.1 _ rfl) (fun x_917 w_917 hp_917 => ?_)
  obtain ⟨hx2, hM2, hc2⟩ := hp_917
  refine cb_icmp_eq (pc := 920) O 1182 dL_law_920 (by decide) (fun c_920 => ?_) (fun c_920 => ?_)
  · skip
    exact cb_wid (by omega) (by omega) (K _ _ _ ⟨(J_want _ _ hJ), hC1.mv hc2 (J_want _ _ hJ).1, hM2⟩)
  · skip
    exact absurd (hx1.trans hx2.symm) c_920
theorem lw_c23 {κ : cb_K} (O : cb_Ok κ cL_law 4 RL room_1) (hkf : ∀ q, κ.2.2.2.2.1 q = false) (w : cb_W) (A : ca_A) (z : Int32) (hL : lw_I w A z) (i ca sl : Nat) (hi : i + 3 < (cb_ro κ.2.2.1.1 3).1) (hb : (cb_ro κ.2.2.1.1 3).1 ≤ 2048) (hca : ca + 120 ≤ 600000) (hsl : sl + 6520 ≤ 7302250) (K : ∀ w' A' z', lw_I w' A' z' → cb_X κ w' (ca + 120) (sl + 6520) 1182 [some (.inr (some 903)), some (.inr (some 0)), some (.inr (some 1000)), some (.inl (nI i))] []) : cb_X κ w ca sl 925 [some (.inr (some 903)), some (.inr (some 0)), some (.inr (some 1000)), some (.inl (nI i))] [] := by
  obtain ⟨hJ, hC, hM⟩ := hL
  refine cb_aload_n (pc := 925) O dL_law_925 rfl ?_
  refine cb_aload_n (pc := 926) O dL_law_926 rfl ?_
  refine cb_iload_n (pc := 927) O dL_law_927 rfl ?_
  refine cb_iconst (pc := 928) (v := 1) O dL_law_928 (by decide) ?_
  refine cb_iadd (pc := 929) O dL_law_929 ?_
  refine cb_ialdS (pc := 930) O 3 (i + 1) (by decide) dL_law_930 (by omega) (nI_add i 1) (by omega) ?_
  refine cb_cVi (pc := 931) O (k_fewest _ A z hJ.1 hC _) my_X10_fewest mi_X10_fewest mx_X10_fewest ml_L_108 dL_law_931 rfl ct_10 rfl rfl rfl ⟨(Nat.le_of_ble_eq_true rfl), (Nat.le_of_ble_eq_true rfl)⟩ (Nat.le_of_ble_eq_true rfl) rfl ⟨by show _ ≤ 600000; omega, by show _ ≤ 7302250; omega⟩ (fun _ _ => rfl) (hC.1.1 _ rfl) (fun x_931 w_931 hp_931 => ?_)
  obtain ⟨hx1, hC1, hm1⟩ := hp_931
  have hM1 := hM.mv hm1
  refine cb_aload_n (pc := 934) O dL_law_934 rfl ?_
  refine cb_aload_n (pc := 935) O dL_law_935 rfl ?_
  refine cb_iload_n (pc := 936) O dL_law_936 rfl ?_
  refine cb_iconst (pc := 937) (v := 1) O dL_law_937 (by decide) ?_
  refine cb_iadd (pc := 938) O dL_law_938 ?_
  refine cb_ialdS (pc := 939) O 3 (i + 1) (by decide) dL_law_939 (by omega) (nI_add i 1) (by omega) ?_
  refine cb_cVi (pc := 940) O (m_fewest _ A z hJ.1 hM1 _) my_X11_fewest mi_X11_fewest mx_X11_fewest ml_L_111 dL_law_940 rfl ct_11 rfl rfl rfl ⟨(Nat.le_of_ble_eq_true rfl), (Nat.le_of_ble_eq_true rfl)⟩ (Nat.le_of_ble_eq_true rfl) rfl ⟨by show _ ≤ 600000; omega, by show _ ≤ 7302250; omega⟩ (fun _ _ => rfl) (hM1.1.1 _ rfl) (fun x_940 w_940 hp_940 => ?_)
  obtain ⟨hx2, hM2, hc2⟩ := hp_940
  refine cb_icmp_eq (pc := 943) O 1182 dL_law_943 (by decide) (fun c_943 => ?_) (fun c_943 => ?_)
  · skip
    exact cb_wid (by omega) (by omega) (K _ _ _ ⟨(J_fewest _ hJ), hC1.mv hc2 (J_fewest _ hJ).1, hM2⟩)
  · skip
    exact absurd (hx1.trans hx2.symm) c_943
theorem lw_c24 {κ : cb_K} (O : cb_Ok κ cL_law 4 RL room_1) (hkf : ∀ q, κ.2.2.2.2.1 q = false) (w : cb_W) (A : ca_A) (z : Int32) (hL : lw_I w A z) (i ca sl : Nat) (hi : i + 3 < (cb_ro κ.2.2.1.1 3).1) (hb : (cb_ro κ.2.2.1.1 3).1 ≤ 2048) (hca : ca + 120 ≤ 600000) (hsl : sl + 6520 ≤ 7302250) (K : ∀ w' A' z', lw_I w' A' z' → cb_X κ w' (ca + 120) (sl + 6520) 1182 [some (.inr (some 903)), some (.inr (some 0)), some (.inr (some 1000)), some (.inl (nI i))] []) : cb_X κ w ca sl 948 [some (.inr (some 903)), some (.inr (some 0)), some (.inr (some 1000)), some (.inl (nI i))] [] := by
  obtain ⟨hJ, hC, hM⟩ := hL
  refine cb_aload_n (pc := 948) O dL_law_948 rfl ?_
  refine cb_aload_n (pc := 949) O dL_law_949 rfl ?_
  refine cb_iload_n (pc := 950) O dL_law_950 rfl ?_
  refine cb_iconst (pc := 951) (v := 1) O dL_law_951 (by decide) ?_
  refine cb_iadd (pc := 952) O dL_law_952 ?_
  refine cb_ialdS (pc := 953) O 3 (i + 1) (by decide) dL_law_953 (by omega) (nI_add i 1) (by omega) ?_
  refine cb_cVi (pc := 954) O (k_order _ A z hJ.1 hC _) my_X10_order mi_X10_order mx_X10_order ml_L_112 dL_law_954 rfl ct_10 rfl rfl rfl ⟨(Nat.le_of_ble_eq_true rfl), (Nat.le_of_ble_eq_true rfl)⟩ (Nat.le_of_ble_eq_true rfl) rfl ⟨by show _ ≤ 600000; omega, by show _ ≤ 7302250; omega⟩ (fun _ _ => rfl) (hC.1.1 _ rfl) (fun x_954 w_954 hp_954 => ?_)
  obtain ⟨hx1, rfl⟩ := hp_954
  have hM1 := hM
  refine cb_aload_n (pc := 957) O dL_law_957 rfl ?_
  refine cb_aload_n (pc := 958) O dL_law_958 rfl ?_
  refine cb_iload_n (pc := 959) O dL_law_959 rfl ?_
  refine cb_iconst (pc := 960) (v := 1) O dL_law_960 (by decide) ?_
  refine cb_iadd (pc := 961) O dL_law_961 ?_
  refine cb_ialdS (pc := 962) O 3 (i + 1) (by decide) dL_law_962 (by omega) (nI_add i 1) (by omega) ?_
  refine cb_cVi (pc := 963) O (m_order _ A z hJ.1 hM1 _) my_X11_order mi_X11_order mx_X11_order ml_L_115 dL_law_963 rfl ct_11 rfl rfl rfl ⟨(Nat.le_of_ble_eq_true rfl), (Nat.le_of_ble_eq_true rfl)⟩ (Nat.le_of_ble_eq_true rfl) rfl ⟨by show _ ≤ 600000; omega, by show _ ≤ 7302250; omega⟩ (fun _ _ => rfl) (hM1.1.1 _ rfl) (fun x_963 w_963 hp_963 => ?_)
  obtain ⟨hx2, rfl⟩ := hp_963
  refine cb_icmp_eq (pc := 966) O 1182 dL_law_966 (by decide) (fun c_966 => ?_) (fun c_966 => ?_)
  · skip
    exact cb_wid (by omega) (by omega) (K _ _ _ ⟨hJ, hC, hM⟩)
  · skip
    exact absurd (hx1.trans hx2.symm) c_966
theorem lw_c25 {κ : cb_K} (O : cb_Ok κ cL_law 4 RL room_1) (hkf : ∀ q, κ.2.2.2.2.1 q = false) (w : cb_W) (A : ca_A) (z : Int32) (hL : lw_I w A z) (i ca sl : Nat) (hi : i + 3 < (cb_ro κ.2.2.1.1 3).1) (hb : (cb_ro κ.2.2.1.1 3).1 ≤ 2048) (hca : ca + 120 ≤ 600000) (hsl : sl + 6520 ≤ 7302250) (K : ∀ w' A' z', lw_I w' A' z' → cb_X κ w' (ca + 120) (sl + 6520) 1182 [some (.inr (some 903)), some (.inr (some 0)), some (.inr (some 1000)), some (.inl (nI i))] []) : cb_X κ w ca sl 971 [some (.inr (some 903)), some (.inr (some 0)), some (.inr (some 1000)), some (.inl (nI i))] [] := by
  obtain ⟨hJ, hC, hM⟩ := hL
  refine cb_aload_n (pc := 971) O dL_law_971 rfl ?_
  refine cb_aload_n (pc := 972) O dL_law_972 rfl ?_
  refine cb_iload_n (pc := 973) O dL_law_973 rfl ?_
  refine cb_iconst (pc := 974) (v := 1) O dL_law_974 (by decide) ?_
  refine cb_iadd (pc := 975) O dL_law_975 ?_
  refine cb_ialdS (pc := 976) O 3 (i + 1) (by decide) dL_law_976 (by omega) (nI_add i 1) (by omega) ?_
  refine cb_cVi (pc := 977) O (k_place _ A z hJ.1 hC _) my_X10_place mi_X10_place mx_X10_place ml_L_116 dL_law_977 rfl ct_10 rfl rfl rfl ⟨(Nat.le_of_ble_eq_true rfl), (Nat.le_of_ble_eq_true rfl)⟩ (Nat.le_of_ble_eq_true rfl) rfl ⟨by show _ ≤ 600000; omega, by show _ ≤ 7302250; omega⟩ (fun _ _ => rfl) (hC.1.1 _ rfl) (fun x_977 w_977 hp_977 => ?_)
  obtain ⟨hx1, rfl⟩ := hp_977
  have hM1 := hM
  refine cb_aload_n (pc := 980) O dL_law_980 rfl ?_
  refine cb_aload_n (pc := 981) O dL_law_981 rfl ?_
  refine cb_iload_n (pc := 982) O dL_law_982 rfl ?_
  refine cb_iconst (pc := 983) (v := 1) O dL_law_983 (by decide) ?_
  refine cb_iadd (pc := 984) O dL_law_984 ?_
  refine cb_ialdS (pc := 985) O 3 (i + 1) (by decide) dL_law_985 (by omega) (nI_add i 1) (by omega) ?_
  refine cb_cVi (pc := 986) O (m_place _ A z hJ.1 hM1 _) my_X11_place mi_X11_place mx_X11_place ml_L_119 dL_law_986 rfl ct_11 rfl rfl rfl ⟨(Nat.le_of_ble_eq_true rfl), (Nat.le_of_ble_eq_true rfl)⟩ (Nat.le_of_ble_eq_true rfl) rfl ⟨by show _ ≤ 600000; omega, by show _ ≤ 7302250; omega⟩ (fun _ _ => rfl) (hM1.1.1 _ rfl) (fun x_986 w_986 hp_986 => ?_)
  obtain ⟨hx2, rfl⟩ := hp_986
  refine cb_icmp_eq (pc := 989) O 1182 dL_law_989 (by decide) (fun c_989 => ?_) (fun c_989 => ?_)
  · skip
    exact cb_wid (by omega) (by omega) (K _ _ _ ⟨hJ, hC, hM⟩)
  · skip
    exact absurd (hx1.trans hx2.symm) c_989
theorem lw_c26 {κ : cb_K} (O : cb_Ok κ cL_law 4 RL room_1) (hkf : ∀ q, κ.2.2.2.2.1 q = false) (w : cb_W) (A : ca_A) (z : Int32) (hL : lw_I w A z) (i ca sl : Nat) (hi : i + 3 < (cb_ro κ.2.2.1.1 3).1) (hb : (cb_ro κ.2.2.1.1 3).1 ≤ 2048) (hca : ca + 120 ≤ 600000) (hsl : sl + 6520 ≤ 7302250) (K : ∀ w' A' z', lw_I w' A' z' → cb_X κ w' (ca + 120) (sl + 6520) 1182 [some (.inr (some 903)), some (.inr (some 0)), some (.inr (some 1000)), some (.inl (nI i))] []) : cb_X κ w ca sl 994 [some (.inr (some 903)), some (.inr (some 0)), some (.inr (some 1000)), some (.inl (nI i))] [] := by
  obtain ⟨hJ, hC, hM⟩ := hL
  refine cb_aload_n (pc := 994) O dL_law_994 rfl ?_
  refine cb_aload_n (pc := 995) O dL_law_995 rfl ?_
  refine cb_iload_n (pc := 996) O dL_law_996 rfl ?_
  refine cb_iconst (pc := 997) (v := 1) O dL_law_997 (by decide) ?_
  refine cb_iadd (pc := 998) O dL_law_998 ?_
  refine cb_ialdS (pc := 999) O 3 (i + 1) (by decide) dL_law_999 (by omega) (nI_add i 1) (by omega) ?_
  refine cb_cVi (pc := 1000) O (k_why _ A z hJ.1 hC _) my_X10_why mi_X10_why mx_X10_why ml_L_120 dL_law_1000 rfl ct_10 rfl rfl rfl ⟨(Nat.le_of_ble_eq_true rfl), (Nat.le_of_ble_eq_true rfl)⟩ (Nat.le_of_ble_eq_true rfl) rfl ⟨by show _ ≤ 600000; omega, by show _ ≤ 7302250; omega⟩ (fun _ _ => rfl) (hC.1.1 _ rfl) (fun x_1000 w_1000 hp_1000 => ?_)
  obtain ⟨hx1, hC1, hm1⟩ := hp_1000
  have hM1 := hM.mv hm1
  refine cb_aload_n (pc := 1003) O dL_law_1003 rfl ?_
  refine cb_aload_n (pc := 1004) O dL_law_1004 rfl ?_
  refine cb_iload_n (pc := 1005) O dL_law_1005 rfl ?_
  refine cb_iconst (pc := 1006) (v := 1) O dL_law_1006 (by decide) ?_
  refine cb_iadd (pc := 1007) O dL_law_1007 ?_
  refine cb_ialdS (pc := 1008) O 3 (i + 1) (by decide) dL_law_1008 (by omega) (nI_add i 1) (by omega) ?_
  refine cb_cVi (pc := 1009) O (m_why _ A z hJ.1 hM1 _) my_X11_why mi_X11_why mx_X11_why ml_L_123 dL_law_1009 rfl ct_11 rfl rfl rfl ⟨(Nat.le_of_ble_eq_true rfl), (Nat.le_of_ble_eq_true rfl)⟩ (Nat.le_of_ble_eq_true rfl) rfl ⟨by show _ ≤ 600000; omega, by show _ ≤ 7302250; omega⟩ (fun _ _ => rfl) (hM1.1.1 _ rfl) (fun x_1009 w_1009 hp_1009 => ?_)
  obtain ⟨hx2, hM2, hc2⟩ := hp_1009
  have hJ2 := hJ
  have hC2 := hC1.mv hc2 hJ2.1
  refine cb_icmp_eq (pc := 1012) O 1182 dL_law_1012 (by decide) (fun c_1012 => ?_) (fun c_1012 => ?_)
  · skip
    exact cb_wid (by omega) (by omega) (K _ _ _ ⟨hJ2, hC2, hM2⟩)
  · skip
    exact absurd (hx1.trans hx2.symm) c_1012
theorem lw_c27 {κ : cb_K} (O : cb_Ok κ cL_law 4 RL room_1) (hkf : ∀ q, κ.2.2.2.2.1 q = false) (w : cb_W) (A : ca_A) (z : Int32) (hL : lw_I w A z) (i ca sl : Nat) (hi : i + 3 < (cb_ro κ.2.2.1.1 3).1) (hb : (cb_ro κ.2.2.1.1 3).1 ≤ 2048) (hca : ca + 120 ≤ 600000) (hsl : sl + 6520 ≤ 7302250) (K : ∀ w' A' z', lw_I w' A' z' → cb_X κ w' (ca + 120) (sl + 6520) 1182 [some (.inr (some 903)), some (.inr (some 0)), some (.inr (some 1000)), some (.inl (nI i))] []) : cb_X κ w ca sl 1017 [some (.inr (some 903)), some (.inr (some 0)), some (.inr (some 1000)), some (.inl (nI i))] [] := by
  obtain ⟨hJ, hC, hM⟩ := hL
  refine cb_aload_n (pc := 1017) O dL_law_1017 rfl ?_
  refine cb_aload_n (pc := 1018) O dL_law_1018 rfl ?_
  refine cb_iload_n (pc := 1019) O dL_law_1019 rfl ?_
  refine cb_iconst (pc := 1020) (v := 1) O dL_law_1020 (by decide) ?_
  refine cb_iadd (pc := 1021) O dL_law_1021 ?_
  refine cb_ialdS (pc := 1022) O 3 (i + 1) (by decide) dL_law_1022 (by omega) (nI_add i 1) (by omega) ?_
  refine cb_aload_n (pc := 1023) O dL_law_1023 rfl ?_
  refine cb_iload_n (pc := 1024) O dL_law_1024 rfl ?_
  refine cb_iconst (pc := 1025) (v := 2) O dL_law_1025 (by decide) ?_
  refine cb_iadd (pc := 1026) O dL_law_1026 ?_
  refine cb_ialdS (pc := 1027) O 3 (i + 2) (by decide) dL_law_1027 (by omega) (nI_add i 2) (by omega) ?_
  refine cb_aload_n (pc := 1028) O dL_law_1028 rfl ?_
  refine cb_iload_n (pc := 1029) O dL_law_1029 rfl ?_
  refine cb_iconst (pc := 1030) (v := 3) O dL_law_1030 (by decide) ?_
  refine cb_iadd (pc := 1031) O dL_law_1031 ?_
  refine cb_ialdS (pc := 1032) O 3 (i + 3) (by decide) dL_law_1032 (by omega) (nI_add i 3) (by omega) ?_
  refine cb_cVi (pc := 1033) O (k_alike _ A z hJ.1 hC _ _ _) my_X10_alike mi_X10_alike mx_X10_alike ml_L_124 dL_law_1033 rfl ct_10 rfl rfl rfl ⟨(Nat.le_of_ble_eq_true rfl), (Nat.le_of_ble_eq_true rfl)⟩ (Nat.le_of_ble_eq_true rfl) rfl ⟨by show _ ≤ 600000; omega, by show _ ≤ 7302250; omega⟩ (fun q h => by rw [hkf q] at h; cases h) (hC.1.1 _ rfl) (fun x_1033 w_1033 hp_1033 => ?_)
  obtain ⟨hx1, hC1, hm1⟩ := hp_1033
  have hM1 := hM.mv hm1
  refine cb_aload_n (pc := 1036) O dL_law_1036 rfl ?_
  refine cb_aload_n (pc := 1037) O dL_law_1037 rfl ?_
  refine cb_iload_n (pc := 1038) O dL_law_1038 rfl ?_
  refine cb_iconst (pc := 1039) (v := 1) O dL_law_1039 (by decide) ?_
  refine cb_iadd (pc := 1040) O dL_law_1040 ?_
  refine cb_ialdS (pc := 1041) O 3 (i + 1) (by decide) dL_law_1041 (by omega) (nI_add i 1) (by omega) ?_
  refine cb_aload_n (pc := 1042) O dL_law_1042 rfl ?_
  refine cb_iload_n (pc := 1043) O dL_law_1043 rfl ?_
  refine cb_iconst (pc := 1044) (v := 2) O dL_law_1044 (by decide) ?_
  refine cb_iadd (pc := 1045) O dL_law_1045 ?_
  refine cb_ialdS (pc := 1046) O 3 (i + 2) (by decide) dL_law_1046 (by omega) (nI_add i 2) (by omega) ?_
  refine cb_aload_n (pc := 1047) O dL_law_1047 rfl ?_
  refine cb_iload_n (pc := 1048) O dL_law_1048 rfl ?_
  refine cb_iconst (pc := 1049) (v := 3) O dL_law_1049 (by decide) ?_
  refine cb_iadd (pc := 1050) O dL_law_1050 ?_
  refine cb_ialdS (pc := 1051) O 3 (i + 3) (by decide) dL_law_1051 (by omega) (nI_add i 3) (by omega) ?_
  refine cb_cVi (pc := 1052) O (m_alike _ A z hJ.1 hM1 _ _ _) my_X11_alike mi_X11_alike mx_X11_alike ml_L_127 dL_law_1052 rfl ct_11 rfl rfl rfl ⟨(Nat.le_of_ble_eq_true rfl), (Nat.le_of_ble_eq_true rfl)⟩ (Nat.le_of_ble_eq_true rfl) rfl ⟨by show _ ≤ 600000; omega, by show _ ≤ 7302250; omega⟩ (fun _ _ => rfl) (hM1.1.1 _ rfl) (fun x_1052 w_1052 hp_1052 => ?_)
  obtain ⟨hx2, hM2, hc2⟩ := hp_1052
  have hJ2 := hJ
  have hC2 := hC1.mv hc2 hJ2.1
  refine cb_icmp_eq (pc := 1055) O 1182 dL_law_1055 (by decide) (fun c_1055 => ?_) (fun c_1055 => ?_)
  · skip
    exact cb_wid (by omega) (by omega) (K _ _ _ ⟨hJ2, hC2, hM2⟩)
  · skip
    exact absurd (hx1.trans hx2.symm) c_1055
theorem lw_c28 {κ : cb_K} (O : cb_Ok κ cL_law 4 RL room_1) (hkf : ∀ q, κ.2.2.2.2.1 q = false) (w : cb_W) (A : ca_A) (z : Int32) (hL : lw_I w A z) (i ca sl : Nat) (hi : i + 3 < (cb_ro κ.2.2.1.1 3).1) (hb : (cb_ro κ.2.2.1.1 3).1 ≤ 2048) (hca : ca + 120 ≤ 600000) (hsl : sl + 6520 ≤ 7302250) (K : ∀ w' A' z', lw_I w' A' z' → cb_X κ w' (ca + 120) (sl + 6520) 1182 [some (.inr (some 903)), some (.inr (some 0)), some (.inr (some 1000)), some (.inl (nI i))] []) : cb_X κ w ca sl 1060 [some (.inr (some 903)), some (.inr (some 0)), some (.inr (some 1000)), some (.inl (nI i))] [] := by
  obtain ⟨hJ, hC, hM⟩ := hL
  refine cb_aload_n (pc := 1060) O dL_law_1060 rfl ?_
  refine cb_aload_n (pc := 1061) O dL_law_1061 rfl ?_
  refine cb_iload_n (pc := 1062) O dL_law_1062 rfl ?_
  refine cb_iconst (pc := 1063) (v := 1) O dL_law_1063 (by decide) ?_
  refine cb_iadd (pc := 1064) O dL_law_1064 ?_
  refine cb_ialdS (pc := 1065) O 3 (i + 1) (by decide) dL_law_1065 (by omega) (nI_add i 1) (by omega) ?_
  refine cb_aload_n (pc := 1066) O dL_law_1066 rfl ?_
  refine cb_iload_n (pc := 1067) O dL_law_1067 rfl ?_
  refine cb_iconst (pc := 1068) (v := 2) O dL_law_1068 (by decide) ?_
  refine cb_iadd (pc := 1069) O dL_law_1069 ?_
  refine cb_ialdS (pc := 1070) O 3 (i + 2) (by decide) dL_law_1070 (by omega) (nI_add i 2) (by omega) ?_
  refine cb_cVi (pc := 1071) O (k_made _ A z hJ.1 hC _ _) my_X10_made mi_X10_made mx_X10_made ml_L_128 dL_law_1071 rfl ct_10 rfl rfl rfl ⟨(Nat.le_of_ble_eq_true rfl), (Nat.le_of_ble_eq_true rfl)⟩ (Nat.le_of_ble_eq_true rfl) rfl ⟨by show _ ≤ 600000; omega, by show _ ≤ 7302250; omega⟩ (fun q h => by rw [hkf q] at h; cases h) (hC.1.1 _ rfl) (fun x_1071 w_1071 hp_1071 => ?_)
  obtain ⟨hx1, hC1, hm1⟩ := hp_1071
  have hM1 := hM.mv hm1
  refine cb_aload_n (pc := 1074) O dL_law_1074 rfl ?_
  refine cb_aload_n (pc := 1075) O dL_law_1075 rfl ?_
  refine cb_iload_n (pc := 1076) O dL_law_1076 rfl ?_
  refine cb_iconst (pc := 1077) (v := 1) O dL_law_1077 (by decide) ?_
  refine cb_iadd (pc := 1078) O dL_law_1078 ?_
  refine cb_ialdS (pc := 1079) O 3 (i + 1) (by decide) dL_law_1079 (by omega) (nI_add i 1) (by omega) ?_
  refine cb_aload_n (pc := 1080) O dL_law_1080 rfl ?_
  refine cb_iload_n (pc := 1081) O dL_law_1081 rfl ?_
  refine cb_iconst (pc := 1082) (v := 2) O dL_law_1082 (by decide) ?_
  refine cb_iadd (pc := 1083) O dL_law_1083 ?_
  refine cb_ialdS (pc := 1084) O 3 (i + 2) (by decide) dL_law_1084 (by omega) (nI_add i 2) (by omega) ?_
  refine cb_cVi (pc := 1085) O (m_made _ A z hJ.1 hM1 _ _) my_X11_made mi_X11_made mx_X11_made ml_L_131 dL_law_1085 rfl ct_11 rfl rfl rfl ⟨(Nat.le_of_ble_eq_true rfl), (Nat.le_of_ble_eq_true rfl)⟩ (Nat.le_of_ble_eq_true rfl) rfl ⟨by show _ ≤ 600000; omega, by show _ ≤ 7302250; omega⟩ (fun _ _ => rfl) (hM1.1.1 _ rfl) (fun x_1085 w_1085 hp_1085 => ?_)
  obtain ⟨hx2, hM2, hc2⟩ := hp_1085
  have hJ2 := hJ
  have hC2 := hC1.mv hc2 hJ2.1
  refine cb_icmp_eq (pc := 1088) O 1182 dL_law_1088 (by decide) (fun c_1088 => ?_) (fun c_1088 => ?_)
  · skip
    exact cb_wid (by omega) (by omega) (K _ _ _ ⟨hJ2, hC2, hM2⟩)
  · skip
    exact absurd (hx1.trans hx2.symm) c_1088
theorem lw_c29 {κ : cb_K} (O : cb_Ok κ cL_law 4 RL room_1) (hkf : ∀ q, κ.2.2.2.2.1 q = false) (w : cb_W) (A : ca_A) (z : Int32) (hL : lw_I w A z) (i ca sl : Nat) (hi : i + 3 < (cb_ro κ.2.2.1.1 3).1) (hb : (cb_ro κ.2.2.1.1 3).1 ≤ 2048) (hca : ca + 120 ≤ 600000) (hsl : sl + 6520 ≤ 7302250) (K : ∀ w' A' z', lw_I w' A' z' → cb_X κ w' (ca + 120) (sl + 6520) 1182 [some (.inr (some 903)), some (.inr (some 0)), some (.inr (some 1000)), some (.inl (nI i))] []) : cb_X κ w ca sl 1093 [some (.inr (some 903)), some (.inr (some 0)), some (.inr (some 1000)), some (.inl (nI i))] [] := by
  obtain ⟨hJ, hC, hM⟩ := hL
  refine cb_aload_n (pc := 1093) O dL_law_1093 rfl ?_
  refine cb_aload_n (pc := 1094) O dL_law_1094 rfl ?_
  refine cb_iload_n (pc := 1095) O dL_law_1095 rfl ?_
  refine cb_iconst (pc := 1096) (v := 1) O dL_law_1096 (by decide) ?_
  refine cb_iadd (pc := 1097) O dL_law_1097 ?_
  refine cb_ialdS (pc := 1098) O 3 (i + 1) (by decide) dL_law_1098 (by omega) (nI_add i 1) (by omega) ?_
  refine cb_aload_n (pc := 1099) O dL_law_1099 rfl ?_
  refine cb_iload_n (pc := 1100) O dL_law_1100 rfl ?_
  refine cb_iconst (pc := 1101) (v := 2) O dL_law_1101 (by decide) ?_
  refine cb_iadd (pc := 1102) O dL_law_1102 ?_
  refine cb_ialdS (pc := 1103) O 3 (i + 2) (by decide) dL_law_1103 (by omega) (nI_add i 2) (by omega) ?_
  refine cb_aload_n (pc := 1104) O dL_law_1104 rfl ?_
  refine cb_iload_n (pc := 1105) O dL_law_1105 rfl ?_
  refine cb_iconst (pc := 1106) (v := 3) O dL_law_1106 (by decide) ?_
  refine cb_iadd (pc := 1107) O dL_law_1107 ?_
  refine cb_ialdS (pc := 1108) O 3 (i + 3) (by decide) dL_law_1108 (by omega) (nI_add i 3) (by omega) ?_
  refine cb_cVi (pc := 1109) O (k_begin _ _ _ _) my_X10_begin mi_X10_begin mx_X10_begin ml_L_132 dL_law_1109 rfl ct_10 rfl rfl rfl ⟨(Nat.le_of_ble_eq_true rfl), (Nat.le_of_ble_eq_true rfl)⟩ (Nat.le_of_ble_eq_true rfl) rfl ⟨by show _ ≤ 600000; omega, by show _ ≤ 7302250; omega⟩ (fun _ _ => rfl) (hC.1.1 _ rfl) (fun x_1109 w_1109 hp_1109 => ?_)
  obtain ⟨hx1, rfl⟩ := hp_1109
  have hM1 := hM
  refine cb_aload_n (pc := 1112) O dL_law_1112 rfl ?_
  refine cb_aload_n (pc := 1113) O dL_law_1113 rfl ?_
  refine cb_iload_n (pc := 1114) O dL_law_1114 rfl ?_
  refine cb_iconst (pc := 1115) (v := 1) O dL_law_1115 (by decide) ?_
  refine cb_iadd (pc := 1116) O dL_law_1116 ?_
  refine cb_ialdS (pc := 1117) O 3 (i + 1) (by decide) dL_law_1117 (by omega) (nI_add i 1) (by omega) ?_
  refine cb_aload_n (pc := 1118) O dL_law_1118 rfl ?_
  refine cb_iload_n (pc := 1119) O dL_law_1119 rfl ?_
  refine cb_iconst (pc := 1120) (v := 2) O dL_law_1120 (by decide) ?_
  refine cb_iadd (pc := 1121) O dL_law_1121 ?_
  refine cb_ialdS (pc := 1122) O 3 (i + 2) (by decide) dL_law_1122 (by omega) (nI_add i 2) (by omega) ?_
  refine cb_aload_n (pc := 1123) O dL_law_1123 rfl ?_
  refine cb_iload_n (pc := 1124) O dL_law_1124 rfl ?_
  refine cb_iconst (pc := 1125) (v := 3) O dL_law_1125 (by decide) ?_
  refine cb_iadd (pc := 1126) O dL_law_1126 ?_
  refine cb_ialdS (pc := 1127) O 3 (i + 3) (by decide) dL_law_1127 (by omega) (nI_add i 3) (by omega) ?_
  refine cb_cVi (pc := 1128) O (m_begin _ _ _ _) my_X11_begin mi_X11_begin mx_X11_begin ml_L_135 dL_law_1128 rfl ct_11 rfl rfl rfl ⟨(Nat.le_of_ble_eq_true rfl), (Nat.le_of_ble_eq_true rfl)⟩ (Nat.le_of_ble_eq_true rfl) rfl ⟨by show _ ≤ 600000; omega, by show _ ≤ 7302250; omega⟩ (fun _ _ => rfl) (hM1.1.1 _ rfl) (fun x_1128 w_1128 hp_1128 => ?_)
  obtain ⟨hx2, rfl⟩ := hp_1128
  refine cb_icmp_eq (pc := 1131) O 1182 dL_law_1131 (by decide) (fun c_1131 => ?_) (fun c_1131 => ?_)
  · skip
    exact cb_wid (by omega) (by omega) (K _ _ _ ⟨hJ, hC, hM⟩)
  · skip
    exact absurd (hx1.trans hx2.symm) c_1131
theorem lw_c30 {κ : cb_K} (O : cb_Ok κ cL_law 4 RL room_1) (hkf : ∀ q, κ.2.2.2.2.1 q = false) (w : cb_W) (A : ca_A) (z : Int32) (hL : lw_I w A z) (i ca sl : Nat) (hi : i + 3 < (cb_ro κ.2.2.1.1 3).1) (hb : (cb_ro κ.2.2.1.1 3).1 ≤ 2048) (hca : ca + 120 ≤ 600000) (hsl : sl + 6520 ≤ 7302250) (K : ∀ w' A' z', lw_I w' A' z' → cb_X κ w' (ca + 120) (sl + 6520) 1182 [some (.inr (some 903)), some (.inr (some 0)), some (.inr (some 1000)), some (.inl (nI i))] []) : cb_X κ w ca sl 1136 [some (.inr (some 903)), some (.inr (some 0)), some (.inr (some 1000)), some (.inl (nI i))] [] := by
  obtain ⟨hJ, hC, hM⟩ := hL
  refine cb_aload_n (pc := 1136) O dL_law_1136 rfl ?_
  refine cb_aload_n (pc := 1137) O dL_law_1137 rfl ?_
  refine cb_iload_n (pc := 1138) O dL_law_1138 rfl ?_
  refine cb_iconst (pc := 1139) (v := 1) O dL_law_1139 (by decide) ?_
  refine cb_iadd (pc := 1140) O dL_law_1140 ?_
  refine cb_ialdS (pc := 1141) O 3 (i + 1) (by decide) dL_law_1141 (by omega) (nI_add i 1) (by omega) ?_
  refine cb_cVi (pc := 1142) O (k_shows _ A z hJ.1 hC _) my_X10_shows mi_X10_shows mx_X10_shows ml_L_136 dL_law_1142 rfl ct_10 rfl rfl rfl ⟨(Nat.le_of_ble_eq_true rfl), (Nat.le_of_ble_eq_true rfl)⟩ (Nat.le_of_ble_eq_true rfl) rfl ⟨by show _ ≤ 600000; omega, by show _ ≤ 7302250; omega⟩ (fun _ _ => rfl) (hC.1.1 _ rfl) (fun x_1142 w_1142 hp_1142 => ?_)
  obtain ⟨hx1, rfl⟩ := hp_1142
  have hM1 := hM
  refine cb_aload_n (pc := 1145) O dL_law_1145 rfl ?_
  refine cb_aload_n (pc := 1146) O dL_law_1146 rfl ?_
  refine cb_iload_n (pc := 1147) O dL_law_1147 rfl ?_
  refine cb_iconst (pc := 1148) (v := 1) O dL_law_1148 (by decide) ?_
  refine cb_iadd (pc := 1149) O dL_law_1149 ?_
  refine cb_ialdS (pc := 1150) O 3 (i + 1) (by decide) dL_law_1150 (by omega) (nI_add i 1) (by omega) ?_
  refine cb_cVi (pc := 1151) O (m_shows _ A z hJ.1 hM1 _) my_X11_shows mi_X11_shows mx_X11_shows ml_L_139 dL_law_1151 rfl ct_11 rfl rfl rfl ⟨(Nat.le_of_ble_eq_true rfl), (Nat.le_of_ble_eq_true rfl)⟩ (Nat.le_of_ble_eq_true rfl) rfl ⟨by show _ ≤ 600000; omega, by show _ ≤ 7302250; omega⟩ (fun _ _ => rfl) (hM1.1.1 _ rfl) (fun x_1151 w_1151 hp_1151 => ?_)
  obtain ⟨hx2, rfl⟩ := hp_1151
  refine cb_icmp_eq (pc := 1154) O 1182 dL_law_1154 (by decide) (fun c_1154 => ?_) (fun c_1154 => ?_)
  · skip
    exact cb_wid (by omega) (by omega) (K _ _ _ ⟨hJ, hC, hM⟩)
  · skip
    exact absurd (hx1.trans hx2.symm) c_1154
theorem lw_c31 {κ : cb_K} (O : cb_Ok κ cL_law 4 RL room_1) (hkf : ∀ q, κ.2.2.2.2.1 q = false) (w : cb_W) (A : ca_A) (z : Int32) (hL : lw_I w A z) (i ca sl : Nat) (hi : i + 3 < (cb_ro κ.2.2.1.1 3).1) (hb : (cb_ro κ.2.2.1.1 3).1 ≤ 2048) (hca : ca + 120 ≤ 600000) (hsl : sl + 6520 ≤ 7302250) (K : ∀ w' A' z', lw_I w' A' z' → cb_X κ w' (ca + 120) (sl + 6520) 1182 [some (.inr (some 903)), some (.inr (some 0)), some (.inr (some 1000)), some (.inl (nI i))] []) : cb_X κ w ca sl 1159 [some (.inr (some 903)), some (.inr (some 0)), some (.inr (some 1000)), some (.inl (nI i))] [] := by
  obtain ⟨hJ, hC, hM⟩ := hL
  refine cb_aload_n (pc := 1159) O dL_law_1159 rfl ?_
  refine cb_aload_n (pc := 1160) O dL_law_1160 rfl ?_
  refine cb_iload_n (pc := 1161) O dL_law_1161 rfl ?_
  refine cb_iconst (pc := 1162) (v := 1) O dL_law_1162 (by decide) ?_
  refine cb_iadd (pc := 1163) O dL_law_1163 ?_
  refine cb_ialdS (pc := 1164) O 3 (i + 1) (by decide) dL_law_1164 (by omega) (nI_add i 1) (by omega) ?_
  refine cb_cVi (pc := 1165) O (k_count _ A z hJ.1 hC _) my_X10_count mi_X10_count mx_X10_count ml_L_140 dL_law_1165 rfl ct_10 rfl rfl rfl ⟨(Nat.le_of_ble_eq_true rfl), (Nat.le_of_ble_eq_true rfl)⟩ (Nat.le_of_ble_eq_true rfl) rfl ⟨by show _ ≤ 600000; omega, by show _ ≤ 7302250; omega⟩ (fun _ _ => rfl) (hC.1.1 _ rfl) (fun x_1165 w_1165 hp_1165 => ?_)
  obtain ⟨hx1, rfl⟩ := hp_1165
  have hM1 := hM
  refine cb_aload_n (pc := 1168) O dL_law_1168 rfl ?_
  refine cb_aload_n (pc := 1169) O dL_law_1169 rfl ?_
  refine cb_iload_n (pc := 1170) O dL_law_1170 rfl ?_
  refine cb_iconst (pc := 1171) (v := 1) O dL_law_1171 (by decide) ?_
  refine cb_iadd (pc := 1172) O dL_law_1172 ?_
  refine cb_ialdS (pc := 1173) O 3 (i + 1) (by decide) dL_law_1173 (by omega) (nI_add i 1) (by omega) ?_
  refine cb_cVi (pc := 1174) O (m_count _ A z hJ.1 hM1 _) my_X11_count mi_X11_count mx_X11_count ml_L_143 dL_law_1174 rfl ct_11 rfl rfl rfl ⟨(Nat.le_of_ble_eq_true rfl), (Nat.le_of_ble_eq_true rfl)⟩ (Nat.le_of_ble_eq_true rfl) rfl ⟨by show _ ≤ 600000; omega, by show _ ≤ 7302250; omega⟩ (fun _ _ => rfl) (hM1.1.1 _ rfl) (fun x_1174 w_1174 hp_1174 => ?_)
  obtain ⟨hx2, rfl⟩ := hp_1174
  refine cb_icmp_eq (pc := 1177) O 1182 dL_law_1177 (by decide) (fun c_1177 => ?_) (fun c_1177 => ?_)
  · skip
    exact cb_wid (by omega) (by omega) (K _ _ _ ⟨hJ, hC, hM⟩)
  · skip
    exact absurd (hx1.trans hx2.symm) c_1177
set_option maxHeartbeats 4000000 in
set_option maxRecDepth 100000 in
theorem lc_0 {X : Cx} {b L : Nat} {ys : Nat → Int32} (K : LC X b L ys) (hst9 : (xl X).stackTraces = false) {i : Nat} (hi : i + 5 ≤ L) (hL : L ≤ 2560) {S : SP} {x9 : Nat → Nat} {a o : Nat} {σ : HS} (hv : LV S x9 a o σ) {k n : Nat} (hk : k + 8 ≤ 601024) (hn : n + 127 ≤ 7293034) (kk : ∀ (S' : SP) (σ' : HS), LV S' x9 a o σ' → J X (k + 8) (n + 127) σ' [(0, .ref b), (1, .ref a), (2, .ref (x9 0)), (3, .ref o), (4, .int (nI i))] [] 1865) : J X k n σ [(0, .ref b), (1, .ref a), (2, .ref (x9 0)), (3, .ref o), (4, .int (nI i))] [] 168 := by
  obtain ⟨hw, hc, ⟨k9, hs⟩, ha0, ho, hN⟩ := hv
  have C := K.1
  have hM0 := hs.2.1.1
  refine j_aload_n (pc := 168) C dL_law_168 rfl 1 rfl ?_
  refine j_aload_n (pc := 169) C dL_law_169 rfl 0 rfl ?_
  refine j_iload (pc := 170) C dL_law_170 4 rfl ?_
  refine j_iconst (pc := 172) C (nI 1) dL_law_172 (by decide) ?_
  refine j_iadd (pc := 173) C dL_law_173 ?_
  refine j_topi (nI (i + 1)) (nI_add i 1) ?_
  refine j_sld (pc := 174) K (i := i + 1) (by omega) hL dL_law_174 ?_
  refine j_aload_n (pc := 175) C dL_law_175 rfl 3 rfl ?_
  refine j_callSW (pc := 176) C [.ref a, .int (ys (i + 1)), .ref o] [] (rm0 := room_1) (k' := k + 1) (n' := n + 6) K.2.1 (w_sound (xl X) (xw X) hst9 hw hc ha0 ho hN (ys (i + 1))) mp_L_sound wm_368 rfl rfl (Nat.le_of_ble_eq_true rfl) dL_law_176 ⟨by decide, by decide⟩ ⟨show k + 1 ≤ 601024 by omega, show n + 6 ≤ 7293034 by omega⟩ rfl rfl (fun v9 σ1 hp9 => ?_)
  obtain ⟨rfl, h4, hout, hw1, hc1, hF1⟩ := hp9
  have hs1 := hs.fr hF1 (fun t z => tgV_K z)
  show J X (k + 1) (n + 6) σ1 [(0, .ref b), (1, .ref a), (2, .ref (x9 0)), (3, .ref o), (4, .int (nI i))] [.int (nI (s_sound S (ys (i + 1))).1)] 179
  refine j_istore (pc := 179) C [(5, .int (nI (s_sound S (ys (i + 1))).1)), (0, .ref b), (1, .ref a), (2, .ref (x9 0)), (3, .ref o), (4, .int (nI i))] dL_law_179 (by decide) rfl ?_
  refine j_aload_n (pc := 181) C dL_law_181 rfl 3 rfl ?_
  refine j_aload_n (pc := 182) C dL_law_182 rfl 1 rfl ?_
  refine j_iload (pc := 183) C dL_law_183 5 rfl ?_
  refine j_iconst (pc := 185) C (nI 1) dL_law_185 (by decide) ?_
  refine j_iadd (pc := 186) C dL_law_186 ?_
  refine j_topi (nI (i + 1)) (nI_add i 1) ?_
  refine j_sld (pc := 187) K (i := i + 1) (by omega) hL dL_law_187 ?_
  refine j_callV (pc := 188) C [.int (ys (i + 1))] [] (rm0 := room_1) (k' := k + 1) (n' := n + 6) K.2.1 (c_X10_sound (xl X) (xw X) hs1 hw (ys (i + 1))) mp_X10_sound wm_1149 (hF1.at hM0) rfl rfl (by decide) rfl rfl (Nat.le_of_ble_eq_true rfl) dL_law_188 ⟨by decide, by decide⟩ ⟨show k + 1 + 0 ≤ 601024 by omega, show n + 6 + 0 ≤ 7293034 by omega⟩ rfl rfl (fun v8 σ2 hp8 => ?_)
  obtain ⟨rfl, hs2, hM⟩ := hp8
  have hF2 := hM.fr
  have hv2 : LV (s_sound S (ys (i + 1))).2.2 x9 a o σ2 := ⟨hw1, hc1.fr hw1 hF2 (fun t z y => by rw [tgA_K z] at y; cases y), ⟨_, hs2⟩, hF2.at (hF1.at ha0), hF2.at (hF1.at ho), (hF2.len (hF1.live ho.1)).trans ((hF1.len ho.1).trans hN)⟩
  show J X (k + 1) (n + 6) σ2 [(5, .int (nI (s_sound S (ys (i + 1))).1)), (0, .ref b), (1, .ref a), (2, .ref (x9 0)), (3, .ref o), (4, .int (nI i))] [.int ((s_sound S (ys (i + 1))).2.1)] 191
  refine j_istore (pc := 191) C [(6, .int ((s_sound S (ys (i + 1))).2.1)), (5, .int (nI (s_sound S (ys (i + 1))).1)), (0, .ref b), (1, .ref a), (2, .ref (x9 0)), (3, .ref o), (4, .int (nI i))] dL_law_191 (by decide) rfl ?_
  refine j_aload_n (pc := 193) C dL_law_193 rfl 4 rfl ?_
  refine j_callV (pc := 194) C [] [] (rm0 := room_1) (k' := k + 1) (n' := n + 6) K.2.1 (c_X10_thrown (xl X) (xw X) hs2) mp_X10_thrown wm_1145 (hF2.at (hF1.at hM0)) rfl rfl (by decide) rfl rfl (Nat.le_of_ble_eq_true rfl) dL_law_194 ⟨by decide, by decide⟩ ⟨show k + 1 + 0 ≤ 601024 by omega, show n + 6 + 0 ≤ 7293034 by omega⟩ rfl rfl (fun v7 σ3 hp7 => ?_)
  obtain ⟨rfl, rfl⟩ := hp7
  refine j_iload (pc := 197) C dL_law_197 1 rfl ?_
  refine j_icmp_eq (pc := 199) C 204 dL_law_199 (by decide) (fun c0 => ?_) (fun c0 => (c0 rfl : False).elim)
  refine j_iload (pc := 204) C dL_law_204 1 rfl ?_
  refine jn_if_ne (pc := 206) C 221 (a := (s_sound S (ys (i + 1))).1) (by omega) dL_law_206 (by decide) (fun c5 => ?_) (fun c5 => ?_)
  · refine j_goto (pc := 221) C 1865 dL_law_221 (by decide) ?_
    exact J.wide (by omega) (by omega) (J.to [2, 3, 4, 5, 6] rfl (kk _ _ hv2))
  · refine j_aload_n (pc := 209) C dL_law_209 rfl 5 rfl ?_
    refine j_iconst (pc := 210) C (nI 0) dL_law_210 (by decide) ?_
    refine j_lald (pc := 211) C (p := 0) (M := 1) (hF2.at (hF1.at ho)) rfl hv2.2.2.2.2.2 (by decide) (by decide) dL_law_211 ?_
    refine j_topl ((s_sound S (ys (i + 1))).2.1.toInt64) ((hF2.rL (f := 768) (i := 300) (j := 0) (by decide)).trans (hout c5)) ?_
    refine j_iload (pc := 212) C dL_law_212 0 rfl ?_
    refine j_i2l (pc := 214) C dL_law_214 ?_
    refine j_lcmp (pc := 215) C dL_law_215 ?_
    refine jl_if_eq (pc := 216) C 221 dL_law_216 (by decide) (fun c0 => ?_) (fun c0 => (c0 rfl : False).elim)
    refine j_goto (pc := 221) C 1865 dL_law_221 (by decide) ?_
    exact J.wide (by omega) (by omega) (J.to [2, 3, 4, 5, 6] rfl (kk _ _ hv2))
set_option maxHeartbeats 4000000 in
set_option maxRecDepth 100000 in
theorem lc_1 {X : Cx} {b L : Nat} {ys : Nat → Int32} (K : LC X b L ys) (hst9 : (xl X).stackTraces = false) {i : Nat} (hi : i + 5 ≤ L) (hL : L ≤ 2560) {S : SP} {x9 : Nat → Nat} {a o : Nat} {σ : HS} (hv : LV S x9 a o σ) {k n : Nat} (hk : k + 8 ≤ 601024) (hn : n + 127 ≤ 7293034) (kk : ∀ (S' : SP) (σ' : HS), LV S' x9 a o σ' → J X (k + 8) (n + 127) σ' [(0, .ref b), (1, .ref a), (2, .ref (x9 0)), (3, .ref o), (4, .int (nI i))] [] 1865) : J X k n σ [(0, .ref b), (1, .ref a), (2, .ref (x9 0)), (3, .ref o), (4, .int (nI i))] [] 224 := by
  obtain ⟨hw, hc, ⟨k9, hs⟩, ha0, ho, hN⟩ := hv
  have C := K.1
  have hM0 := hs.2.1.1
  refine j_aload_n (pc := 224) C dL_law_224 rfl 1 rfl ?_
  refine j_aload_n (pc := 225) C dL_law_225 rfl 0 rfl ?_
  refine j_iload (pc := 226) C dL_law_226 4 rfl ?_
  refine j_iconst (pc := 228) C (nI 1) dL_law_228 (by decide) ?_
  refine j_iadd (pc := 229) C dL_law_229 ?_
  refine j_topi (nI (i + 1)) (nI_add i 1) ?_
  refine j_sld (pc := 230) K (i := i + 1) (by omega) hL dL_law_230 ?_
  refine j_aload_n (pc := 231) C dL_law_231 rfl 0 rfl ?_
  refine j_iload (pc := 232) C dL_law_232 4 rfl ?_
  refine j_iconst (pc := 234) C (nI 2) dL_law_234 (by decide) ?_
  refine j_iadd (pc := 235) C dL_law_235 ?_
  refine j_topi (nI (i + 2)) (nI_add i 2) ?_
  refine j_sld (pc := 236) K (i := i + 2) (by omega) hL dL_law_236 ?_
  refine j_aload_n (pc := 237) C dL_law_237 rfl 3 rfl ?_
  refine j_callSW (pc := 238) C [.ref a, .int (ys (i + 1)), .int (ys (i + 2)), .ref o] [] (rm0 := room_1) (k' := k + 2) (n' := n + 52) K.2.1 (w_kind (xl X) (xw X) hst9 hw hc ha0 ho hN (ys (i + 1)) (ys (i + 2))) mp_L_kind wm_477 rfl rfl (Nat.le_of_ble_eq_true rfl) dL_law_238 ⟨by decide, by decide⟩ ⟨show k + 2 ≤ 601024 by omega, show n + 52 ≤ 7293034 by omega⟩ rfl rfl (fun v9 σ1 hp9 => ?_)
  obtain ⟨rfl, h4, hout, hw1, hc1, hF1⟩ := hp9
  have hs1 := hs.fr hF1 (fun t z => tgV_K z)
  show J X (k + 2) (n + 52) σ1 [(0, .ref b), (1, .ref a), (2, .ref (x9 0)), (3, .ref o), (4, .int (nI i))] [.int (nI (s_kind S (ys (i + 1)) (ys (i + 2))).1)] 241
  refine j_istore (pc := 241) C [(5, .int (nI (s_kind S (ys (i + 1)) (ys (i + 2))).1)), (0, .ref b), (1, .ref a), (2, .ref (x9 0)), (3, .ref o), (4, .int (nI i))] dL_law_241 (by decide) rfl ?_
  refine j_aload_n (pc := 243) C dL_law_243 rfl 3 rfl ?_
  refine j_aload_n (pc := 244) C dL_law_244 rfl 1 rfl ?_
  refine j_iload (pc := 245) C dL_law_245 5 rfl ?_
  refine j_iconst (pc := 247) C (nI 1) dL_law_247 (by decide) ?_
  refine j_iadd (pc := 248) C dL_law_248 ?_
  refine j_topi (nI (i + 1)) (nI_add i 1) ?_
  refine j_sld (pc := 249) K (i := i + 1) (by omega) hL dL_law_249 ?_
  refine j_aload_n (pc := 250) C dL_law_250 rfl 1 rfl ?_
  refine j_iload (pc := 251) C dL_law_251 5 rfl ?_
  refine j_iconst (pc := 253) C (nI 2) dL_law_253 (by decide) ?_
  refine j_iadd (pc := 254) C dL_law_254 ?_
  refine j_topi (nI (i + 2)) (nI_add i 2) ?_
  refine j_sld (pc := 255) K (i := i + 2) (by omega) hL dL_law_255 ?_
  refine j_callV (pc := 256) C [.int (ys (i + 1)), .int (ys (i + 2))] [] (rm0 := room_1) (k' := k + 2) (n' := n + 52) K.2.1 (c_X10_kind (xl X) (xw X) hs1 hw (ys (i + 1)) (ys (i + 2))) mp_X10_kind wm_1160 (hF1.at hM0) rfl rfl (by decide) rfl rfl (Nat.le_of_ble_eq_true rfl) dL_law_256 ⟨by decide, by decide⟩ ⟨show k + 2 + 0 ≤ 601024 by omega, show n + 52 + 0 ≤ 7293034 by omega⟩ rfl rfl (fun v8 σ2 hp8 => ?_)
  obtain ⟨rfl, hs2, hM⟩ := hp8
  have hF2 := hM.fr
  have hv2 : LV (s_kind S (ys (i + 1)) (ys (i + 2))).2.2 x9 a o σ2 := ⟨hw1, hc1.fr hw1 hF2 (fun t z y => by rw [tgA_K z] at y; cases y), ⟨_, hs2⟩, hF2.at (hF1.at ha0), hF2.at (hF1.at ho), (hF2.len (hF1.live ho.1)).trans ((hF1.len ho.1).trans hN)⟩
  show J X (k + 2) (n + 52) σ2 [(5, .int (nI (s_kind S (ys (i + 1)) (ys (i + 2))).1)), (0, .ref b), (1, .ref a), (2, .ref (x9 0)), (3, .ref o), (4, .int (nI i))] [.int ((s_kind S (ys (i + 1)) (ys (i + 2))).2.1)] 259
  refine j_istore (pc := 259) C [(6, .int ((s_kind S (ys (i + 1)) (ys (i + 2))).2.1)), (5, .int (nI (s_kind S (ys (i + 1)) (ys (i + 2))).1)), (0, .ref b), (1, .ref a), (2, .ref (x9 0)), (3, .ref o), (4, .int (nI i))] dL_law_259 (by decide) rfl ?_
  refine j_aload_n (pc := 261) C dL_law_261 rfl 4 rfl ?_
  refine j_callV (pc := 262) C [] [] (rm0 := room_1) (k' := k + 2) (n' := n + 52) K.2.1 (c_X10_thrown (xl X) (xw X) hs2) mp_X10_thrown wm_1145 (hF2.at (hF1.at hM0)) rfl rfl (by decide) rfl rfl (Nat.le_of_ble_eq_true rfl) dL_law_262 ⟨by decide, by decide⟩ ⟨show k + 2 + 0 ≤ 601024 by omega, show n + 52 + 0 ≤ 7293034 by omega⟩ rfl rfl (fun v7 σ3 hp7 => ?_)
  obtain ⟨rfl, rfl⟩ := hp7
  refine j_iload (pc := 265) C dL_law_265 1 rfl ?_
  refine j_icmp_eq (pc := 267) C 272 dL_law_267 (by decide) (fun c0 => ?_) (fun c0 => (c0 rfl : False).elim)
  refine j_iload (pc := 272) C dL_law_272 1 rfl ?_
  refine jn_if_ne (pc := 274) C 289 (a := (s_kind S (ys (i + 1)) (ys (i + 2))).1) (by omega) dL_law_274 (by decide) (fun c5 => ?_) (fun c5 => ?_)
  · refine j_goto (pc := 289) C 1865 dL_law_289 (by decide) ?_
    exact J.wide (by omega) (by omega) (J.to [2, 3, 4, 5, 6] rfl (kk _ _ hv2))
  · refine j_aload_n (pc := 277) C dL_law_277 rfl 5 rfl ?_
    refine j_iconst (pc := 278) C (nI 0) dL_law_278 (by decide) ?_
    refine j_lald (pc := 279) C (p := 0) (M := 1) (hF2.at (hF1.at ho)) rfl hv2.2.2.2.2.2 (by decide) (by decide) dL_law_279 ?_
    refine j_topl ((s_kind S (ys (i + 1)) (ys (i + 2))).2.1.toInt64) ((hF2.rL (f := 768) (i := 300) (j := 0) (by decide)).trans (hout c5)) ?_
    refine j_iload (pc := 280) C dL_law_280 0 rfl ?_
    refine j_i2l (pc := 282) C dL_law_282 ?_
    refine j_lcmp (pc := 283) C dL_law_283 ?_
    refine jl_if_eq (pc := 284) C 289 dL_law_284 (by decide) (fun c0 => ?_) (fun c0 => (c0 rfl : False).elim)
    refine j_goto (pc := 289) C 1865 dL_law_289 (by decide) ?_
    exact J.wide (by omega) (by omega) (J.to [2, 3, 4, 5, 6] rfl (kk _ _ hv2))
set_option maxHeartbeats 4000000 in
set_option maxRecDepth 100000 in
theorem lc_2 {X : Cx} {b L : Nat} {ys : Nat → Int32} (K : LC X b L ys) (hst9 : (xl X).stackTraces = false) {i : Nat} (hi : i + 5 ≤ L) (hL : L ≤ 2560) {S : SP} {x9 : Nat → Nat} {a o : Nat} {σ : HS} (hv : LV S x9 a o σ) {k n : Nat} (hk : k + 8 ≤ 601024) (hn : n + 127 ≤ 7293034) (kk : ∀ (S' : SP) (σ' : HS), LV S' x9 a o σ' → J X (k + 8) (n + 127) σ' [(0, .ref b), (1, .ref a), (2, .ref (x9 0)), (3, .ref o), (4, .int (nI i))] [] 1865) : J X k n σ [(0, .ref b), (1, .ref a), (2, .ref (x9 0)), (3, .ref o), (4, .int (nI i))] [] 292 := by
  obtain ⟨hw, hc, ⟨k9, hs⟩, ha0, ho, hN⟩ := hv
  have C := K.1
  have hM0 := hs.2.1.1
  refine j_aload_n (pc := 292) C dL_law_292 rfl 1 rfl ?_
  refine j_aload_n (pc := 293) C dL_law_293 rfl 0 rfl ?_
  refine j_iload (pc := 294) C dL_law_294 4 rfl ?_
  refine j_iconst (pc := 296) C (nI 1) dL_law_296 (by decide) ?_
  refine j_iadd (pc := 297) C dL_law_297 ?_
  refine j_topi (nI (i + 1)) (nI_add i 1) ?_
  refine j_sld (pc := 298) K (i := i + 1) (by omega) hL dL_law_298 ?_
  refine j_aload_n (pc := 299) C dL_law_299 rfl 3 rfl ?_
  refine j_callSW (pc := 300) C [.ref a, .int (ys (i + 1)), .ref o] [] (rm0 := room_1) (k' := k + 1) (n' := n + 6) K.2.1 (w_put (xl X) (xw X) hst9 hw hc ha0 ho hN (ys (i + 1))) mp_L_put wm_553 rfl rfl (Nat.le_of_ble_eq_true rfl) dL_law_300 ⟨by decide, by decide⟩ ⟨show k + 1 ≤ 601024 by omega, show n + 6 ≤ 7293034 by omega⟩ rfl rfl (fun v9 σ1 hp9 => ?_)
  obtain ⟨rfl, h4, hout, hw1, hc1, hF1⟩ := hp9
  have hs1 := hs.fr hF1 (fun t z => tgV_K z)
  show J X (k + 1) (n + 6) σ1 [(0, .ref b), (1, .ref a), (2, .ref (x9 0)), (3, .ref o), (4, .int (nI i))] [.int (nI (s_put S (ys (i + 1))).1)] 303
  refine j_istore (pc := 303) C [(5, .int (nI (s_put S (ys (i + 1))).1)), (0, .ref b), (1, .ref a), (2, .ref (x9 0)), (3, .ref o), (4, .int (nI i))] dL_law_303 (by decide) rfl ?_
  refine j_aload_n (pc := 305) C dL_law_305 rfl 3 rfl ?_
  refine j_aload_n (pc := 306) C dL_law_306 rfl 1 rfl ?_
  refine j_iload (pc := 307) C dL_law_307 5 rfl ?_
  refine j_iconst (pc := 309) C (nI 1) dL_law_309 (by decide) ?_
  refine j_iadd (pc := 310) C dL_law_310 ?_
  refine j_topi (nI (i + 1)) (nI_add i 1) ?_
  refine j_sld (pc := 311) K (i := i + 1) (by omega) hL dL_law_311 ?_
  refine j_callV (pc := 312) C [.int (ys (i + 1))] [] (rm0 := room_1) (k' := k + 1) (n' := n + 6) K.2.1 (c_X10_put (xl X) (xw X) hs1 hw (ys (i + 1))) mp_X10_put wm_1164 (hF1.at hM0) rfl rfl (by decide) rfl rfl (Nat.le_of_ble_eq_true rfl) dL_law_312 ⟨by decide, by decide⟩ ⟨show k + 1 + 0 ≤ 601024 by omega, show n + 6 + 0 ≤ 7293034 by omega⟩ rfl rfl (fun v8 σ2 hp8 => ?_)
  obtain ⟨rfl, hs2, hM⟩ := hp8
  have hF2 := hM.fr
  have hv2 : LV (s_put S (ys (i + 1))).2.2 x9 a o σ2 := ⟨hw1, hc1.fr hw1 hF2 (fun t z y => by rw [tgA_K z] at y; cases y), ⟨_, hs2⟩, hF2.at (hF1.at ha0), hF2.at (hF1.at ho), (hF2.len (hF1.live ho.1)).trans ((hF1.len ho.1).trans hN)⟩
  show J X (k + 1) (n + 6) σ2 [(5, .int (nI (s_put S (ys (i + 1))).1)), (0, .ref b), (1, .ref a), (2, .ref (x9 0)), (3, .ref o), (4, .int (nI i))] [.int ((s_put S (ys (i + 1))).2.1)] 315
  refine j_istore (pc := 315) C [(6, .int ((s_put S (ys (i + 1))).2.1)), (5, .int (nI (s_put S (ys (i + 1))).1)), (0, .ref b), (1, .ref a), (2, .ref (x9 0)), (3, .ref o), (4, .int (nI i))] dL_law_315 (by decide) rfl ?_
  refine j_aload_n (pc := 317) C dL_law_317 rfl 4 rfl ?_
  refine j_callV (pc := 318) C [] [] (rm0 := room_1) (k' := k + 1) (n' := n + 6) K.2.1 (c_X10_thrown (xl X) (xw X) hs2) mp_X10_thrown wm_1145 (hF2.at (hF1.at hM0)) rfl rfl (by decide) rfl rfl (Nat.le_of_ble_eq_true rfl) dL_law_318 ⟨by decide, by decide⟩ ⟨show k + 1 + 0 ≤ 601024 by omega, show n + 6 + 0 ≤ 7293034 by omega⟩ rfl rfl (fun v7 σ3 hp7 => ?_)
  obtain ⟨rfl, rfl⟩ := hp7
  refine j_iload (pc := 321) C dL_law_321 1 rfl ?_
  refine j_icmp_eq (pc := 323) C 328 dL_law_323 (by decide) (fun c0 => ?_) (fun c0 => (c0 rfl : False).elim)
  refine j_iload (pc := 328) C dL_law_328 1 rfl ?_
  refine jn_if_ne (pc := 330) C 345 (a := (s_put S (ys (i + 1))).1) (by omega) dL_law_330 (by decide) (fun c5 => ?_) (fun c5 => ?_)
  · refine j_goto (pc := 345) C 1865 dL_law_345 (by decide) ?_
    exact J.wide (by omega) (by omega) (J.to [2, 3, 4, 5, 6] rfl (kk _ _ hv2))
  · refine j_aload_n (pc := 333) C dL_law_333 rfl 5 rfl ?_
    refine j_iconst (pc := 334) C (nI 0) dL_law_334 (by decide) ?_
    refine j_lald (pc := 335) C (p := 0) (M := 1) (hF2.at (hF1.at ho)) rfl hv2.2.2.2.2.2 (by decide) (by decide) dL_law_335 ?_
    refine j_topl ((s_put S (ys (i + 1))).2.1.toInt64) ((hF2.rL (f := 768) (i := 300) (j := 0) (by decide)).trans (hout c5)) ?_
    refine j_iload (pc := 336) C dL_law_336 0 rfl ?_
    refine j_i2l (pc := 338) C dL_law_338 ?_
    refine j_lcmp (pc := 339) C dL_law_339 ?_
    refine jl_if_eq (pc := 340) C 345 dL_law_340 (by decide) (fun c0 => ?_) (fun c0 => (c0 rfl : False).elim)
    refine j_goto (pc := 345) C 1865 dL_law_345 (by decide) ?_
    exact J.wide (by omega) (by omega) (J.to [2, 3, 4, 5, 6] rfl (kk _ _ hv2))
set_option maxHeartbeats 4000000 in
set_option maxRecDepth 100000 in
theorem lc_3 {X : Cx} {b L : Nat} {ys : Nat → Int32} (K : LC X b L ys) (hst9 : (xl X).stackTraces = false) {i : Nat} (hi : i + 5 ≤ L) (hL : L ≤ 2560) {S : SP} {x9 : Nat → Nat} {a o : Nat} {σ : HS} (hv : LV S x9 a o σ) {k n : Nat} (hk : k + 8 ≤ 601024) (hn : n + 127 ≤ 7293034) (kk : ∀ (S' : SP) (σ' : HS), LV S' x9 a o σ' → J X (k + 8) (n + 127) σ' [(0, .ref b), (1, .ref a), (2, .ref (x9 0)), (3, .ref o), (4, .int (nI i))] [] 1865) : J X k n σ [(0, .ref b), (1, .ref a), (2, .ref (x9 0)), (3, .ref o), (4, .int (nI i))] [] 348 := by
  obtain ⟨hw, hc, ⟨k9, hs⟩, ha0, ho, hN⟩ := hv
  have C := K.1
  have hM0 := hs.2.1.1
  refine j_aload_n (pc := 348) C dL_law_348 rfl 1 rfl ?_
  refine j_callV (pc := 349) C [] [] (rm0 := room_1) (k' := k) (n' := n) K.2.1 (c_X9_wipe_0 (xl X) (xw X) hw hc ha0) mp_X9_wipe wm_215 ha0 rfl rfl (by decide) rfl rfl (Nat.le_of_ble_eq_true rfl) dL_law_349 ⟨by decide, by decide⟩ ⟨show k + 0 ≤ 601024 by omega, show n + 0 ≤ 7293034 by omega⟩ rfl rfl (fun v9 σ1 hp9 => ?_)
  obtain ⟨rfl, hc1, hF1⟩ := hp9
  have hw1 := hw.noDraft
  have hs1 := hs.fr hF1 (fun t z => tgU_K z)
  show J X k n σ1 [(0, .ref b), (1, .ref a), (2, .ref (x9 0)), (3, .ref o), (4, .int (nI i))] [.int (nI ((dr S).length))] 352
  refine j_aload_n (pc := 352) C dL_law_352 rfl 2 rfl ?_
  refine j_callV (pc := 353) C [] [.int (nI ((dr S).length))] (rm0 := room_1) (k' := k) (n' := n) K.2.1 (c_X10_wipe (xl X) (xw X) hs1 hw) mp_X10_wipe wm_1179 (hF1.at hM0) rfl rfl (by decide) rfl rfl (Nat.le_of_ble_eq_true rfl) dL_law_353 ⟨by decide, by decide⟩ ⟨show k + 0 ≤ 601024 by omega, show n + 0 ≤ 7293034 by omega⟩ rfl rfl (fun v8 σ2 hp8 => ?_)
  obtain ⟨rfl, hs2, hM⟩ := hp8
  have hF2 := hM.fr
  have hv2 : LV (s_wipe S).2.2 x9 a o σ2 := ⟨hw1, hc1.fr hw1 hF2 (fun t z y => by rw [tgA_K z] at y; cases y), ⟨_, hs2⟩, hF2.at (hF1.at ha0), hF2.at (hF1.at ho), (hF2.len (hF1.live ho.1)).trans ((hF1.len ho.1).trans hN)⟩
  show J X k n σ2 [(0, .ref b), (1, .ref a), (2, .ref (x9 0)), (3, .ref o), (4, .int (nI i))] [.int ((s_wipe S).2.1), .int (nI ((dr S).length))] 356
  refine j_icmp_eq (pc := 356) C 1865 dL_law_356 (by decide) (fun c0 => ?_) (fun c0 => (c0 rfl : False).elim)
  exact J.wide (by omega) (by omega) (J.to [0, 1, 2, 3, 4] rfl (kk _ _ hv2))
set_option maxHeartbeats 4000000 in
set_option maxRecDepth 100000 in
theorem lc_4 {X : Cx} {b L : Nat} {ys : Nat → Int32} (K : LC X b L ys) (hst9 : (xl X).stackTraces = false) {i : Nat} (hi : i + 5 ≤ L) (hL : L ≤ 2560) {S : SP} {x9 : Nat → Nat} {a o : Nat} {σ : HS} (hv : LV S x9 a o σ) {k n : Nat} (hk : k + 8 ≤ 601024) (hn : n + 127 ≤ 7293034) (kk : ∀ (S' : SP) (σ' : HS), LV S' x9 a o σ' → J X (k + 8) (n + 127) σ' [(0, .ref b), (1, .ref a), (2, .ref (x9 0)), (3, .ref o), (4, .int (nI i))] [] 1865) : J X k n σ [(0, .ref b), (1, .ref a), (2, .ref (x9 0)), (3, .ref o), (4, .int (nI i))] [] 361 := by
  obtain ⟨hw, hc, ⟨k9, hs⟩, ha0, ho, hN⟩ := hv
  have C := K.1
  have hM0 := hs.2.1.1
  refine j_aload_n (pc := 361) C dL_law_361 rfl 1 rfl ?_
  refine j_aload_n (pc := 362) C dL_law_362 rfl 3 rfl ?_
  refine j_callSW (pc := 363) C [.ref a, .ref o] [] (rm0 := room_1) (k' := k + 4) (n' := n + 63) K.2.1 (w_lexeme (xl X) (xw X) hst9 hw hc ha0 ho hN) mp_L_lexeme wm_582 rfl rfl (Nat.le_of_ble_eq_true rfl) dL_law_363 ⟨by decide, by decide⟩ ⟨show k + 4 ≤ 601024 by omega, show n + 63 ≤ 7293034 by omega⟩ rfl rfl (fun v9 σ1 hp9 => ?_)
  obtain ⟨rfl, h4, hout, hw1, hc1, hF1⟩ := hp9
  have hs1 := hs.fr hF1 (fun t z => tgV_K z)
  show J X (k + 4) (n + 63) σ1 [(0, .ref b), (1, .ref a), (2, .ref (x9 0)), (3, .ref o), (4, .int (nI i))] [.int (nI (s_lexeme S).1)] 366
  refine j_istore (pc := 366) C [(5, .int (nI (s_lexeme S).1)), (0, .ref b), (1, .ref a), (2, .ref (x9 0)), (3, .ref o), (4, .int (nI i))] dL_law_366 (by decide) rfl ?_
  refine j_aload_n (pc := 368) C dL_law_368 rfl 3 rfl ?_
  refine j_callV (pc := 369) C [] [] (rm0 := room_1) (k' := k + 4) (n' := n + 63) K.2.1 (c_X10_lexeme (xl X) (xw X) hs1 hw) mp_X10_lexeme wm_1187 (hF1.at hM0) rfl rfl (by decide) rfl rfl (Nat.le_of_ble_eq_true rfl) dL_law_369 ⟨by decide, by decide⟩ ⟨show k + 4 + 0 ≤ 601024 by omega, show n + 63 + 0 ≤ 7293034 by omega⟩ rfl rfl (fun v8 σ2 hp8 => ?_)
  obtain ⟨rfl, hs2, hM⟩ := hp8
  have hF2 := hM.fr
  have hv2 : LV (s_lexeme S).2.2 x9 a o σ2 := ⟨hw1, hc1.fr hw1 hF2 (fun t z y => by rw [tgA_K z] at y; cases y), ⟨_, hs2⟩, hF2.at (hF1.at ha0), hF2.at (hF1.at ho), (hF2.len (hF1.live ho.1)).trans ((hF1.len ho.1).trans hN)⟩
  show J X (k + 4) (n + 63) σ2 [(5, .int (nI (s_lexeme S).1)), (0, .ref b), (1, .ref a), (2, .ref (x9 0)), (3, .ref o), (4, .int (nI i))] [.int ((s_lexeme S).2.1)] 372
  refine j_istore (pc := 372) C [(6, .int ((s_lexeme S).2.1)), (5, .int (nI (s_lexeme S).1)), (0, .ref b), (1, .ref a), (2, .ref (x9 0)), (3, .ref o), (4, .int (nI i))] dL_law_372 (by decide) rfl ?_
  refine j_aload_n (pc := 374) C dL_law_374 rfl 4 rfl ?_
  refine j_callV (pc := 375) C [] [] (rm0 := room_1) (k' := k + 4) (n' := n + 63) K.2.1 (c_X10_thrown (xl X) (xw X) hs2) mp_X10_thrown wm_1145 (hF2.at (hF1.at hM0)) rfl rfl (by decide) rfl rfl (Nat.le_of_ble_eq_true rfl) dL_law_375 ⟨by decide, by decide⟩ ⟨show k + 4 + 0 ≤ 601024 by omega, show n + 63 + 0 ≤ 7293034 by omega⟩ rfl rfl (fun v7 σ3 hp7 => ?_)
  obtain ⟨rfl, rfl⟩ := hp7
  refine j_iload (pc := 378) C dL_law_378 1 rfl ?_
  refine j_icmp_eq (pc := 380) C 385 dL_law_380 (by decide) (fun c0 => ?_) (fun c0 => (c0 rfl : False).elim)
  refine j_iload (pc := 385) C dL_law_385 1 rfl ?_
  refine jn_if_ne (pc := 387) C 402 (a := (s_lexeme S).1) (by omega) dL_law_387 (by decide) (fun c5 => ?_) (fun c5 => ?_)
  · refine j_goto (pc := 402) C 1865 dL_law_402 (by decide) ?_
    exact J.wide (by omega) (by omega) (J.to [2, 3, 4, 5, 6] rfl (kk _ _ hv2))
  · refine j_aload_n (pc := 390) C dL_law_390 rfl 5 rfl ?_
    refine j_iconst (pc := 391) C (nI 0) dL_law_391 (by decide) ?_
    refine j_lald (pc := 392) C (p := 0) (M := 1) (hF2.at (hF1.at ho)) rfl hv2.2.2.2.2.2 (by decide) (by decide) dL_law_392 ?_
    refine j_topl ((s_lexeme S).2.1.toInt64) ((hF2.rL (f := 768) (i := 300) (j := 0) (by decide)).trans (hout c5)) ?_
    refine j_iload (pc := 393) C dL_law_393 0 rfl ?_
    refine j_i2l (pc := 395) C dL_law_395 ?_
    refine j_lcmp (pc := 396) C dL_law_396 ?_
    refine jl_if_eq (pc := 397) C 402 dL_law_397 (by decide) (fun c0 => ?_) (fun c0 => (c0 rfl : False).elim)
    refine j_goto (pc := 402) C 1865 dL_law_402 (by decide) ?_
    exact J.wide (by omega) (by omega) (J.to [2, 3, 4, 5, 6] rfl (kk _ _ hv2))
set_option maxHeartbeats 4000000 in
set_option maxRecDepth 100000 in
theorem lc_5 {X : Cx} {b L : Nat} {ys : Nat → Int32} (K : LC X b L ys) (hst9 : (xl X).stackTraces = false) {i : Nat} (hi : i + 5 ≤ L) (hL : L ≤ 2560) {S : SP} {x9 : Nat → Nat} {a o : Nat} {σ : HS} (hv : LV S x9 a o σ) {k n : Nat} (hk : k + 8 ≤ 601024) (hn : n + 127 ≤ 7293034) (kk : ∀ (S' : SP) (σ' : HS), LV S' x9 a o σ' → J X (k + 8) (n + 127) σ' [(0, .ref b), (1, .ref a), (2, .ref (x9 0)), (3, .ref o), (4, .int (nI i))] [] 1865) : J X k n σ [(0, .ref b), (1, .ref a), (2, .ref (x9 0)), (3, .ref o), (4, .int (nI i))] [] 405 := by
  obtain ⟨hw, hc, ⟨k9, hs⟩, ha0, ho, hN⟩ := hv
  have C := K.1
  have hM0 := hs.2.1.1
  refine j_aload_n (pc := 405) C dL_law_405 rfl 1 rfl ?_
  refine j_aload_n (pc := 406) C dL_law_406 rfl 0 rfl ?_
  refine j_iload (pc := 407) C dL_law_407 4 rfl ?_
  refine j_iconst (pc := 409) C (nI 1) dL_law_409 (by decide) ?_
  refine j_iadd (pc := 410) C dL_law_410 ?_
  refine j_topi (nI (i + 1)) (nI_add i 1) ?_
  refine j_sld (pc := 411) K (i := i + 1) (by omega) hL dL_law_411 ?_
  refine j_callSW (pc := 412) C [.ref a, .int (ys (i + 1))] [] (rm0 := room_1) (k' := k + 1) (n' := n + 6) K.2.1 (w_reform (xl X) (xw X) hst9 hw hc ha0 (ys (i + 1))) mp_L_reform wm_629 rfl rfl (Nat.le_of_ble_eq_true rfl) dL_law_412 ⟨by decide, by decide⟩ ⟨show k + 1 ≤ 601024 by omega, show n + 6 ≤ 7293034 by omega⟩ rfl rfl (fun v9 σ1 hp9 => ?_)
  obtain ⟨rfl, h4, hout, hw1, hc1, hF1⟩ := hp9
  have hs1 := hs.fr hF1 (fun t z => tgV_K z)
  show J X (k + 1) (n + 6) σ1 [(0, .ref b), (1, .ref a), (2, .ref (x9 0)), (3, .ref o), (4, .int (nI i))] [.int (nI (s_reform S (ys (i + 1))).1)] 415
  refine j_istore (pc := 415) C [(5, .int (nI (s_reform S (ys (i + 1))).1)), (0, .ref b), (1, .ref a), (2, .ref (x9 0)), (3, .ref o), (4, .int (nI i))] dL_law_415 (by decide) rfl ?_
  refine j_aload_n (pc := 417) C dL_law_417 rfl 3 rfl ?_
  refine j_aload_n (pc := 418) C dL_law_418 rfl 1 rfl ?_
  refine j_iload (pc := 419) C dL_law_419 5 rfl ?_
  refine j_iconst (pc := 421) C (nI 1) dL_law_421 (by decide) ?_
  refine j_iadd (pc := 422) C dL_law_422 ?_
  refine j_topi (nI (i + 1)) (nI_add i 1) ?_
  refine j_sld (pc := 423) K (i := i + 1) (by omega) hL dL_law_423 ?_
  refine j_callV (pc := 424) C [.int (ys (i + 1))] [] (rm0 := room_1) (k' := k + 1) (n' := n + 6) K.2.1 (c_X10_reform (xl X) (xw X) hs1 hw (ys (i + 1))) mp_X10_reform wm_1199 (hF1.at hM0) rfl rfl (by decide) rfl rfl (Nat.le_of_ble_eq_true rfl) dL_law_424 ⟨by decide, by decide⟩ ⟨show k + 1 + 0 ≤ 601024 by omega, show n + 6 + 0 ≤ 7293034 by omega⟩ rfl rfl (fun v8 σ2 hp8 => ?_)
  obtain ⟨rfl, hs2, hM⟩ := hp8
  have hF2 := hM.fr
  have hv2 : LV (s_reform S (ys (i + 1))).2.2 x9 a o σ2 := ⟨hw1, hc1.fr hw1 hF2 (fun t z y => by rw [tgA_K z] at y; cases y), ⟨_, hs2⟩, hF2.at (hF1.at ha0), hF2.at (hF1.at ho), (hF2.len (hF1.live ho.1)).trans ((hF1.len ho.1).trans hN)⟩
  show J X (k + 1) (n + 6) σ2 [(5, .int (nI (s_reform S (ys (i + 1))).1)), (0, .ref b), (1, .ref a), (2, .ref (x9 0)), (3, .ref o), (4, .int (nI i))] [] 427
  refine j_aload_n (pc := 427) C dL_law_427 rfl 3 rfl ?_
  refine j_callV (pc := 428) C [] [] (rm0 := room_1) (k' := k + 1) (n' := n + 6) K.2.1 (c_X10_thrown (xl X) (xw X) hs2) mp_X10_thrown wm_1145 (hF2.at (hF1.at hM0)) rfl rfl (by decide) rfl rfl (Nat.le_of_ble_eq_true rfl) dL_law_428 ⟨by decide, by decide⟩ ⟨show k + 1 + 0 ≤ 601024 by omega, show n + 6 + 0 ≤ 7293034 by omega⟩ rfl rfl (fun v7 σ3 hp7 => ?_)
  obtain ⟨rfl, rfl⟩ := hp7
  refine j_iload (pc := 431) C dL_law_431 0 rfl ?_
  refine j_icmp_eq (pc := 433) C 438 dL_law_433 (by decide) (fun c0 => ?_) (fun c0 => (c0 rfl : False).elim)
  refine j_goto (pc := 438) C 1865 dL_law_438 (by decide) ?_
  exact J.wide (by omega) (by omega) (J.to [1, 2, 3, 4, 5] rfl (kk _ _ hv2))
set_option maxHeartbeats 4000000 in
set_option maxRecDepth 100000 in
theorem lc_6 {X : Cx} {b L : Nat} {ys : Nat → Int32} (K : LC X b L ys) (hst9 : (xl X).stackTraces = false) {i : Nat} (hi : i + 5 ≤ L) (hL : L ≤ 2560) {S : SP} {x9 : Nat → Nat} {a o : Nat} {σ : HS} (hv : LV S x9 a o σ) {k n : Nat} (hk : k + 8 ≤ 601024) (hn : n + 127 ≤ 7293034) (kk : ∀ (S' : SP) (σ' : HS), LV S' x9 a o σ' → J X (k + 8) (n + 127) σ' [(0, .ref b), (1, .ref a), (2, .ref (x9 0)), (3, .ref o), (4, .int (nI i))] [] 1865) : J X k n σ [(0, .ref b), (1, .ref a), (2, .ref (x9 0)), (3, .ref o), (4, .int (nI i))] [] 441 := by
  obtain ⟨hw, hc, ⟨k9, hs⟩, ha0, ho, hN⟩ := hv
  have C := K.1
  have hM0 := hs.2.1.1
  refine j_aload_n (pc := 441) C dL_law_441 rfl 1 rfl ?_
  refine j_aload_n (pc := 442) C dL_law_442 rfl 0 rfl ?_
  refine j_iload (pc := 443) C dL_law_443 4 rfl ?_
  refine j_iconst (pc := 445) C (nI 1) dL_law_445 (by decide) ?_
  refine j_iadd (pc := 446) C dL_law_446 ?_
  refine j_topi (nI (i + 1)) (nI_add i 1) ?_
  refine j_sld (pc := 447) K (i := i + 1) (by omega) hL dL_law_447 ?_
  refine j_callSW (pc := 448) C [.ref a, .int (ys (i + 1))] [] (rm0 := room_1) (k' := k + 1) (n' := n + 6) K.2.1 (w_ending (xl X) (xw X) hst9 hw hc ha0 (ys (i + 1))) mp_L_ending wm_640 rfl rfl (Nat.le_of_ble_eq_true rfl) dL_law_448 ⟨by decide, by decide⟩ ⟨show k + 1 ≤ 601024 by omega, show n + 6 ≤ 7293034 by omega⟩ rfl rfl (fun v9 σ1 hp9 => ?_)
  obtain ⟨rfl, h4, hout, hw1, hc1, hF1⟩ := hp9
  have hs1 := hs.fr hF1 (fun t z => tgV_K z)
  show J X (k + 1) (n + 6) σ1 [(0, .ref b), (1, .ref a), (2, .ref (x9 0)), (3, .ref o), (4, .int (nI i))] [.int (nI (s_ending S (ys (i + 1))).1)] 451
  refine j_istore (pc := 451) C [(5, .int (nI (s_ending S (ys (i + 1))).1)), (0, .ref b), (1, .ref a), (2, .ref (x9 0)), (3, .ref o), (4, .int (nI i))] dL_law_451 (by decide) rfl ?_
  refine j_aload_n (pc := 453) C dL_law_453 rfl 3 rfl ?_
  refine j_aload_n (pc := 454) C dL_law_454 rfl 1 rfl ?_
  refine j_iload (pc := 455) C dL_law_455 5 rfl ?_
  refine j_iconst (pc := 457) C (nI 1) dL_law_457 (by decide) ?_
  refine j_iadd (pc := 458) C dL_law_458 ?_
  refine j_topi (nI (i + 1)) (nI_add i 1) ?_
  refine j_sld (pc := 459) K (i := i + 1) (by omega) hL dL_law_459 ?_
  refine j_callV (pc := 460) C [.int (ys (i + 1))] [] (rm0 := room_1) (k' := k + 1) (n' := n + 6) K.2.1 (c_X10_ending (xl X) (xw X) hs1 hw (ys (i + 1))) mp_X10_ending wm_1207 (hF1.at hM0) rfl rfl (by decide) rfl rfl (Nat.le_of_ble_eq_true rfl) dL_law_460 ⟨by decide, by decide⟩ ⟨show k + 1 + 0 ≤ 601024 by omega, show n + 6 + 0 ≤ 7293034 by omega⟩ rfl rfl (fun v8 σ2 hp8 => ?_)
  obtain ⟨rfl, hs2, hM⟩ := hp8
  have hF2 := hM.fr
  have hv2 : LV (s_ending S (ys (i + 1))).2.2 x9 a o σ2 := ⟨hw1, hc1.fr hw1 hF2 (fun t z y => by rw [tgA_K z] at y; cases y), ⟨_, hs2⟩, hF2.at (hF1.at ha0), hF2.at (hF1.at ho), (hF2.len (hF1.live ho.1)).trans ((hF1.len ho.1).trans hN)⟩
  show J X (k + 1) (n + 6) σ2 [(5, .int (nI (s_ending S (ys (i + 1))).1)), (0, .ref b), (1, .ref a), (2, .ref (x9 0)), (3, .ref o), (4, .int (nI i))] [] 463
  refine j_aload_n (pc := 463) C dL_law_463 rfl 3 rfl ?_
  refine j_callV (pc := 464) C [] [] (rm0 := room_1) (k' := k + 1) (n' := n + 6) K.2.1 (c_X10_thrown (xl X) (xw X) hs2) mp_X10_thrown wm_1145 (hF2.at (hF1.at hM0)) rfl rfl (by decide) rfl rfl (Nat.le_of_ble_eq_true rfl) dL_law_464 ⟨by decide, by decide⟩ ⟨show k + 1 + 0 ≤ 601024 by omega, show n + 6 + 0 ≤ 7293034 by omega⟩ rfl rfl (fun v7 σ3 hp7 => ?_)
  obtain ⟨rfl, rfl⟩ := hp7
  refine j_iload (pc := 467) C dL_law_467 0 rfl ?_
  refine j_icmp_eq (pc := 469) C 474 dL_law_469 (by decide) (fun c0 => ?_) (fun c0 => (c0 rfl : False).elim)
  refine j_goto (pc := 474) C 1865 dL_law_474 (by decide) ?_
  exact J.wide (by omega) (by omega) (J.to [1, 2, 3, 4, 5] rfl (kk _ _ hv2))
set_option maxHeartbeats 4000000 in
set_option maxRecDepth 100000 in
theorem lc_7 {X : Cx} {b L : Nat} {ys : Nat → Int32} (K : LC X b L ys) (hst9 : (xl X).stackTraces = false) {i : Nat} (hi : i + 5 ≤ L) (hL : L ≤ 2560) {S : SP} {x9 : Nat → Nat} {a o : Nat} {σ : HS} (hv : LV S x9 a o σ) {k n : Nat} (hk : k + 8 ≤ 601024) (hn : n + 127 ≤ 7293034) (kk : ∀ (S' : SP) (σ' : HS), LV S' x9 a o σ' → J X (k + 8) (n + 127) σ' [(0, .ref b), (1, .ref a), (2, .ref (x9 0)), (3, .ref o), (4, .int (nI i))] [] 1865) : J X k n σ [(0, .ref b), (1, .ref a), (2, .ref (x9 0)), (3, .ref o), (4, .int (nI i))] [] 477 := by
  obtain ⟨hw, hc, ⟨k9, hs⟩, ha0, ho, hN⟩ := hv
  have C := K.1
  have hM0 := hs.2.1.1
  refine j_aload_n (pc := 477) C dL_law_477 rfl 1 rfl ?_
  refine j_aload_n (pc := 478) C dL_law_478 rfl 0 rfl ?_
  refine j_iload (pc := 479) C dL_law_479 4 rfl ?_
  refine j_iconst (pc := 481) C (nI 1) dL_law_481 (by decide) ?_
  refine j_iadd (pc := 482) C dL_law_482 ?_
  refine j_topi (nI (i + 1)) (nI_add i 1) ?_
  refine j_sld (pc := 483) K (i := i + 1) (by omega) hL dL_law_483 ?_
  refine j_aload_n (pc := 484) C dL_law_484 rfl 0 rfl ?_
  refine j_iload (pc := 485) C dL_law_485 4 rfl ?_
  refine j_iconst (pc := 487) C (nI 2) dL_law_487 (by decide) ?_
  refine j_iadd (pc := 488) C dL_law_488 ?_
  refine j_topi (nI (i + 2)) (nI_add i 2) ?_
  refine j_sld (pc := 489) K (i := i + 2) (by omega) hL dL_law_489 ?_
  refine j_aload_n (pc := 490) C dL_law_490 rfl 0 rfl ?_
  refine j_iload (pc := 491) C dL_law_491 4 rfl ?_
  refine j_iconst (pc := 493) C (nI 3) dL_law_493 (by decide) ?_
  refine j_iadd (pc := 494) C dL_law_494 ?_
  refine j_topi (nI (i + 3)) (nI_add i 3) ?_
  refine j_sld (pc := 495) K (i := i + 3) (by omega) hL dL_law_495 ?_
  refine j_aload_n (pc := 496) C dL_law_496 rfl 0 rfl ?_
  refine j_iload (pc := 497) C dL_law_497 4 rfl ?_
  refine j_iconst (pc := 499) C (nI 4) dL_law_499 (by decide) ?_
  refine j_iadd (pc := 500) C dL_law_500 ?_
  refine j_topi (nI (i + 4)) (nI_add i 4) ?_
  refine j_sld (pc := 501) K (i := i + 4) (by omega) hL dL_law_501 ?_
  refine j_aload_n (pc := 502) C dL_law_502 rfl 3 rfl ?_
  refine j_callSW (pc := 503) C [.ref a, .int (ys (i + 1)), .int (ys (i + 2)), .int (ys (i + 3)), .int (ys (i + 4)), .ref o] [] (rm0 := room_1) (k' := k + 3) (n' := n + 103) K.2.1 (w_rule (xl X) (xw X) hst9 hw hc ha0 ho hN (ys (i + 1)) (ys (i + 2)) (ys (i + 3)) (ys (i + 4))) mp_L_rule wm_655 rfl rfl (Nat.le_of_ble_eq_true rfl) dL_law_503 ⟨by decide, by decide⟩ ⟨show k + 3 ≤ 601024 by omega, show n + 103 ≤ 7293034 by omega⟩ rfl rfl (fun v9 σ1 hp9 => ?_)
  obtain ⟨rfl, h4, hout, hw1, hc1, hF1⟩ := hp9
  have hs1 := hs.fr hF1 (fun t z => tgV_K z)
  show J X (k + 3) (n + 103) σ1 [(0, .ref b), (1, .ref a), (2, .ref (x9 0)), (3, .ref o), (4, .int (nI i))] [.int (nI (s_rule S (ys (i + 1)) (ys (i + 2)) (ys (i + 3)) (ys (i + 4))).1)] 506
  refine j_istore (pc := 506) C [(5, .int (nI (s_rule S (ys (i + 1)) (ys (i + 2)) (ys (i + 3)) (ys (i + 4))).1)), (0, .ref b), (1, .ref a), (2, .ref (x9 0)), (3, .ref o), (4, .int (nI i))] dL_law_506 (by decide) rfl ?_
  refine j_aload_n (pc := 508) C dL_law_508 rfl 3 rfl ?_
  refine j_aload_n (pc := 509) C dL_law_509 rfl 1 rfl ?_
  refine j_iload (pc := 510) C dL_law_510 5 rfl ?_
  refine j_iconst (pc := 512) C (nI 1) dL_law_512 (by decide) ?_
  refine j_iadd (pc := 513) C dL_law_513 ?_
  refine j_topi (nI (i + 1)) (nI_add i 1) ?_
  refine j_sld (pc := 514) K (i := i + 1) (by omega) hL dL_law_514 ?_
  refine j_aload_n (pc := 515) C dL_law_515 rfl 1 rfl ?_
  refine j_iload (pc := 516) C dL_law_516 5 rfl ?_
  refine j_iconst (pc := 518) C (nI 2) dL_law_518 (by decide) ?_
  refine j_iadd (pc := 519) C dL_law_519 ?_
  refine j_topi (nI (i + 2)) (nI_add i 2) ?_
  refine j_sld (pc := 520) K (i := i + 2) (by omega) hL dL_law_520 ?_
  refine j_aload_n (pc := 521) C dL_law_521 rfl 1 rfl ?_
  refine j_iload (pc := 522) C dL_law_522 5 rfl ?_
  refine j_iconst (pc := 524) C (nI 3) dL_law_524 (by decide) ?_
  refine j_iadd (pc := 525) C dL_law_525 ?_
  refine j_topi (nI (i + 3)) (nI_add i 3) ?_
  refine j_sld (pc := 526) K (i := i + 3) (by omega) hL dL_law_526 ?_
  refine j_aload_n (pc := 527) C dL_law_527 rfl 1 rfl ?_
  refine j_iload (pc := 528) C dL_law_528 5 rfl ?_
  refine j_iconst (pc := 530) C (nI 4) dL_law_530 (by decide) ?_
  refine j_iadd (pc := 531) C dL_law_531 ?_
  refine j_topi (nI (i + 4)) (nI_add i 4) ?_
  refine j_sld (pc := 532) K (i := i + 4) (by omega) hL dL_law_532 ?_
  refine j_callV (pc := 533) C [.int (ys (i + 1)), .int (ys (i + 2)), .int (ys (i + 3)), .int (ys (i + 4))] [] (rm0 := room_1) (k' := k + 3) (n' := n + 103) K.2.1 (c_X10_rule (xl X) (xw X) hs1 hw (ys (i + 1)) (ys (i + 2)) (ys (i + 3)) (ys (i + 4))) mp_X10_rule wm_1214 (hF1.at hM0) rfl rfl (by decide) rfl rfl (Nat.le_of_ble_eq_true rfl) dL_law_533 ⟨by decide, by decide⟩ ⟨show k + 3 + 0 ≤ 601024 by omega, show n + 103 + 0 ≤ 7293034 by omega⟩ rfl rfl (fun v8 σ2 hp8 => ?_)
  obtain ⟨rfl, hs2, hM⟩ := hp8
  have hF2 := hM.fr
  have hv2 : LV (s_rule S (ys (i + 1)) (ys (i + 2)) (ys (i + 3)) (ys (i + 4))).2.2 x9 a o σ2 := ⟨hw1, hc1.fr hw1 hF2 (fun t z y => by rw [tgA_K z] at y; cases y), ⟨_, hs2⟩, hF2.at (hF1.at ha0), hF2.at (hF1.at ho), (hF2.len (hF1.live ho.1)).trans ((hF1.len ho.1).trans hN)⟩
  show J X (k + 3) (n + 103) σ2 [(5, .int (nI (s_rule S (ys (i + 1)) (ys (i + 2)) (ys (i + 3)) (ys (i + 4))).1)), (0, .ref b), (1, .ref a), (2, .ref (x9 0)), (3, .ref o), (4, .int (nI i))] [.int ((s_rule S (ys (i + 1)) (ys (i + 2)) (ys (i + 3)) (ys (i + 4))).2.1)] 536
  refine j_istore (pc := 536) C [(6, .int ((s_rule S (ys (i + 1)) (ys (i + 2)) (ys (i + 3)) (ys (i + 4))).2.1)), (5, .int (nI (s_rule S (ys (i + 1)) (ys (i + 2)) (ys (i + 3)) (ys (i + 4))).1)), (0, .ref b), (1, .ref a), (2, .ref (x9 0)), (3, .ref o), (4, .int (nI i))] dL_law_536 (by decide) rfl ?_
  refine j_aload_n (pc := 538) C dL_law_538 rfl 4 rfl ?_
  refine j_callV (pc := 539) C [] [] (rm0 := room_1) (k' := k + 3) (n' := n + 103) K.2.1 (c_X10_thrown (xl X) (xw X) hs2) mp_X10_thrown wm_1145 (hF2.at (hF1.at hM0)) rfl rfl (by decide) rfl rfl (Nat.le_of_ble_eq_true rfl) dL_law_539 ⟨by decide, by decide⟩ ⟨show k + 3 + 0 ≤ 601024 by omega, show n + 103 + 0 ≤ 7293034 by omega⟩ rfl rfl (fun v7 σ3 hp7 => ?_)
  obtain ⟨rfl, rfl⟩ := hp7
  refine j_iload (pc := 542) C dL_law_542 1 rfl ?_
  refine j_icmp_eq (pc := 544) C 549 dL_law_544 (by decide) (fun c0 => ?_) (fun c0 => (c0 rfl : False).elim)
  refine j_iload (pc := 549) C dL_law_549 1 rfl ?_
  refine jn_if_ne (pc := 551) C 566 (a := (s_rule S (ys (i + 1)) (ys (i + 2)) (ys (i + 3)) (ys (i + 4))).1) (by omega) dL_law_551 (by decide) (fun c5 => ?_) (fun c5 => ?_)
  · refine j_goto (pc := 566) C 1865 dL_law_566 (by decide) ?_
    exact J.wide (by omega) (by omega) (J.to [2, 3, 4, 5, 6] rfl (kk _ _ hv2))
  · refine j_aload_n (pc := 554) C dL_law_554 rfl 5 rfl ?_
    refine j_iconst (pc := 555) C (nI 0) dL_law_555 (by decide) ?_
    refine j_lald (pc := 556) C (p := 0) (M := 1) (hF2.at (hF1.at ho)) rfl hv2.2.2.2.2.2 (by decide) (by decide) dL_law_556 ?_
    refine j_topl ((s_rule S (ys (i + 1)) (ys (i + 2)) (ys (i + 3)) (ys (i + 4))).2.1.toInt64) ((hF2.rL (f := 768) (i := 300) (j := 0) (by decide)).trans (hout c5)) ?_
    refine j_iload (pc := 557) C dL_law_557 0 rfl ?_
    refine j_i2l (pc := 559) C dL_law_559 ?_
    refine j_lcmp (pc := 560) C dL_law_560 ?_
    refine jl_if_eq (pc := 561) C 566 dL_law_561 (by decide) (fun c0 => ?_) (fun c0 => (c0 rfl : False).elim)
    refine j_goto (pc := 566) C 1865 dL_law_566 (by decide) ?_
    exact J.wide (by omega) (by omega) (J.to [2, 3, 4, 5, 6] rfl (kk _ _ hv2))
set_option maxHeartbeats 4000000 in
set_option maxRecDepth 100000 in
theorem lc_8 {X : Cx} {b L : Nat} {ys : Nat → Int32} (K : LC X b L ys) (hst9 : (xl X).stackTraces = false) {i : Nat} (hi : i + 5 ≤ L) (hL : L ≤ 2560) {S : SP} {x9 : Nat → Nat} {a o : Nat} {σ : HS} (hv : LV S x9 a o σ) {k n : Nat} (hk : k + 8 ≤ 601024) (hn : n + 127 ≤ 7293034) (kk : ∀ (S' : SP) (σ' : HS), LV S' x9 a o σ' → J X (k + 8) (n + 127) σ' [(0, .ref b), (1, .ref a), (2, .ref (x9 0)), (3, .ref o), (4, .int (nI i))] [] 1865) : J X k n σ [(0, .ref b), (1, .ref a), (2, .ref (x9 0)), (3, .ref o), (4, .int (nI i))] [] 569 := by
  obtain ⟨hw, hc, ⟨k9, hs⟩, ha0, ho, hN⟩ := hv
  have C := K.1
  have hM0 := hs.2.1.1
  by_cases e0 : ys (i + 2) = 0
  · refine j_aload_n (pc := 569) C dL_law_569 rfl 1 rfl ?_
    refine j_aload_n (pc := 570) C dL_law_570 rfl 0 rfl ?_
    refine j_iload (pc := 571) C dL_law_571 4 rfl ?_
    refine j_iconst (pc := 573) C (nI 1) dL_law_573 (by decide) ?_
    refine j_iadd (pc := 574) C dL_law_574 ?_
    refine j_topi (nI (i + 1)) (nI_add i 1) ?_
    refine j_sld (pc := 575) K (i := i + 1) (by omega) hL dL_law_575 ?_
    refine j_aload_n (pc := 576) C dL_law_576 rfl 0 rfl ?_
    refine j_iload (pc := 577) C dL_law_577 4 rfl ?_
    refine j_iconst (pc := 579) C (nI 2) dL_law_579 (by decide) ?_
    refine j_iadd (pc := 580) C dL_law_580 ?_
    refine j_topi (nI (i + 2)) (nI_add i 2) ?_
    refine j_sld (pc := 581) K (i := i + 2) (by omega) hL dL_law_581 ?_
    refine j_topi (nI 0) e0 ?_
    refine j_if_eq (pc := 582) C 589 dL_law_582 (by decide) (fun _ => ?_) (fun q => absurd q (by decide))
    refine j_iconst (pc := 589) C (nI 0) dL_law_589 (by decide) ?_
    refine j_topi (bI false) rfl ?_
    refine j_aload_n (pc := 590) C dL_law_590 rfl 3 rfl ?_
    refine j_callSW (pc := 591) C [.ref a, .int (ys (i + 1)), .int (bI false), .ref o] [] (rm0 := room_1) (k' := k + 1) (n' := n + 6) K.2.1 (w_turn (xl X) (xw X) hst9 hw hc ha0 ho hN (ys (i + 1)) false) mp_L_turn wm_698 rfl rfl (Nat.le_of_ble_eq_true rfl) dL_law_591 ⟨by decide, by decide⟩ ⟨show k + 1 ≤ 601024 by omega, show n + 6 ≤ 7293034 by omega⟩ rfl rfl (fun v9 σ1 hp9 => ?_)
    obtain ⟨rfl, h4, hout, hw1, hc1, hF1⟩ := hp9
    have hs1 := hs.fr hF1 (fun t z => tgV_K z)
    obtain ⟨d, hd9, hout⟩ := hout
    show J X (k + 1) (n + 6) σ1 [(0, .ref b), (1, .ref a), (2, .ref (x9 0)), (3, .ref o), (4, .int (nI i))] [.int (nI (s_turn S (ys (i + 1)) false).1)] 594
    refine j_istore (pc := 594) C [(5, .int (nI (s_turn S (ys (i + 1)) false).1)), (0, .ref b), (1, .ref a), (2, .ref (x9 0)), (3, .ref o), (4, .int (nI i))] dL_law_594 (by decide) rfl ?_
    refine j_aload_n (pc := 596) C dL_law_596 rfl 3 rfl ?_
    refine j_aload_n (pc := 597) C dL_law_597 rfl 1 rfl ?_
    refine j_iload (pc := 598) C dL_law_598 5 rfl ?_
    refine j_iconst (pc := 600) C (nI 1) dL_law_600 (by decide) ?_
    refine j_iadd (pc := 601) C dL_law_601 ?_
    refine j_topi (nI (i + 1)) (nI_add i 1) ?_
    refine j_sld (pc := 602) K (i := i + 1) (by omega) hL dL_law_602 ?_
    refine j_aload_n (pc := 603) C dL_law_603 rfl 1 rfl ?_
    refine j_iload (pc := 604) C dL_law_604 5 rfl ?_
    refine j_iconst (pc := 606) C (nI 2) dL_law_606 (by decide) ?_
    refine j_iadd (pc := 607) C dL_law_607 ?_
    refine j_topi (nI (i + 2)) (nI_add i 2) ?_
    refine j_sld (pc := 608) K (i := i + 2) (by omega) hL dL_law_608 ?_
    refine j_topi (nI 0) e0 ?_
    refine j_if_eq (pc := 609) C 616 dL_law_609 (by decide) (fun _ => ?_) (fun q => absurd q (by decide))
    refine j_iconst (pc := 616) C (nI 0) dL_law_616 (by decide) ?_
    refine j_topi (bI false) rfl ?_
    refine j_callV (pc := 617) C [.int (ys (i + 1)), .int (bI false)] [] (rm0 := room_1) (k' := k + 1) (n' := n + 6) K.2.1 (c_X10_turn (xl X) (xw X) hs1 hw (ys (i + 1)) false) mp_X10_turn wm_1226 (hF1.at hM0) rfl rfl (by decide) rfl rfl (Nat.le_of_ble_eq_true rfl) dL_law_617 ⟨by decide, by decide⟩ ⟨show k + 1 + 0 ≤ 601024 by omega, show n + 6 + 0 ≤ 7293034 by omega⟩ rfl rfl (fun v8 σ2 hp8 => ?_)
    obtain ⟨rfl, hs2, hM⟩ := hp8
    have hF2 := hM.fr
    have hv2 : LV (s_turn S (ys (i + 1)) false).2.2 x9 a o σ2 := ⟨hw1, hc1.fr hw1 hF2 (fun t z y => by rw [tgA_K z] at y; cases y), ⟨_, hs2⟩, hF2.at (hF1.at ha0), hF2.at (hF1.at ho), (hF2.len (hF1.live ho.1)).trans ((hF1.len ho.1).trans hN)⟩
    show J X (k + 1) (n + 6) σ2 [(5, .int (nI (s_turn S (ys (i + 1)) false).1)), (0, .ref b), (1, .ref a), (2, .ref (x9 0)), (3, .ref o), (4, .int (nI i))] [.int ((s_turn S (ys (i + 1)) false).2.1)] 620
    refine j_topi (bI d) hd9 ?_
    refine j_istore (pc := 620) C [(6, .int (bI d)), (5, .int (nI (s_turn S (ys (i + 1)) false).1)), (0, .ref b), (1, .ref a), (2, .ref (x9 0)), (3, .ref o), (4, .int (nI i))] dL_law_620 (by decide) rfl ?_
    refine j_aload_n (pc := 622) C dL_law_622 rfl 4 rfl ?_
    refine j_callV (pc := 623) C [] [] (rm0 := room_1) (k' := k + 1) (n' := n + 6) K.2.1 (c_X10_thrown (xl X) (xw X) hs2) mp_X10_thrown wm_1145 (hF2.at (hF1.at hM0)) rfl rfl (by decide) rfl rfl (Nat.le_of_ble_eq_true rfl) dL_law_623 ⟨by decide, by decide⟩ ⟨show k + 1 + 0 ≤ 601024 by omega, show n + 6 + 0 ≤ 7293034 by omega⟩ rfl rfl (fun v7 σ3 hp7 => ?_)
    obtain ⟨rfl, rfl⟩ := hp7
    refine j_iload (pc := 626) C dL_law_626 1 rfl ?_
    refine j_icmp_eq (pc := 628) C 633 dL_law_628 (by decide) (fun c0 => ?_) (fun c0 => (c0 rfl : False).elim)
    refine j_iload (pc := 633) C dL_law_633 1 rfl ?_
    refine jn_if_ne (pc := 635) C 657 (a := (s_turn S (ys (i + 1)) false).1) (by omega) dL_law_635 (by decide) (fun c5 => ?_) (fun c5 => ?_)
    · refine j_goto (pc := 657) C 1865 dL_law_657 (by decide) ?_
      exact J.wide (by omega) (by omega) (J.to [2, 3, 4, 5, 6] rfl (kk _ _ hv2))
    · refine j_aload_n (pc := 638) C dL_law_638 rfl 5 rfl ?_
      refine j_iconst (pc := 639) C (nI 0) dL_law_639 (by decide) ?_
      refine j_lald (pc := 640) C (p := 0) (M := 1) (hF2.at (hF1.at ho)) rfl hv2.2.2.2.2.2 (by decide) (by decide) dL_law_640 ?_
      refine j_topl (lN d.toNat) ((hF2.rL (f := 768) (i := 300) (j := 0) (by decide)).trans (hout c5)) ?_
      refine j_iload (pc := 641) C dL_law_641 0 rfl ?_
      refine jb_if_eq (pc := 643) C 650 (b := d) dL_law_643 (by decide) (fun c6 => ?_) (fun c6 => ?_)
      · refine j_lconst (pc := 650) C (lN 0) dL_law_650 (by decide) ?_
        refine j_lcmp (pc := 651) C dL_law_651 ?_
        refine jl_if_eq (pc := 652) C 657 dL_law_652 (by decide) (fun c0 => ?_) (fun c0 => (c0 (by rw [c6]; rfl) : False).elim)
        refine j_goto (pc := 657) C 1865 dL_law_657 (by decide) ?_
        exact J.wide (by omega) (by omega) (J.to [2, 3, 4, 5, 6] rfl (kk _ _ hv2))
      · refine j_lconst (pc := 646) C (lN 1) dL_law_646 (by decide) ?_
        refine j_goto (pc := 647) C 651 dL_law_647 (by decide) ?_
        refine j_lcmp (pc := 651) C dL_law_651 ?_
        refine jl_if_eq (pc := 652) C 657 dL_law_652 (by decide) (fun c0 => ?_) (fun c0 => (c0 (by rw [c6]; rfl) : False).elim)
        refine j_goto (pc := 657) C 1865 dL_law_657 (by decide) ?_
        exact J.wide (by omega) (by omega) (J.to [2, 3, 4, 5, 6] rfl (kk _ _ hv2))
  · refine j_aload_n (pc := 569) C dL_law_569 rfl 1 rfl ?_
    refine j_aload_n (pc := 570) C dL_law_570 rfl 0 rfl ?_
    refine j_iload (pc := 571) C dL_law_571 4 rfl ?_
    refine j_iconst (pc := 573) C (nI 1) dL_law_573 (by decide) ?_
    refine j_iadd (pc := 574) C dL_law_574 ?_
    refine j_topi (nI (i + 1)) (nI_add i 1) ?_
    refine j_sld (pc := 575) K (i := i + 1) (by omega) hL dL_law_575 ?_
    refine j_aload_n (pc := 576) C dL_law_576 rfl 0 rfl ?_
    refine j_iload (pc := 577) C dL_law_577 4 rfl ?_
    refine j_iconst (pc := 579) C (nI 2) dL_law_579 (by decide) ?_
    refine j_iadd (pc := 580) C dL_law_580 ?_
    refine j_topi (nI (i + 2)) (nI_add i 2) ?_
    refine j_sld (pc := 581) K (i := i + 2) (by omega) hL dL_law_581 ?_
    refine j_if_eq (pc := 582) C 589 dL_law_582 (by decide) (fun c0 => (e0 c0 : False).elim) (fun c0 => ?_)
    refine j_iconst (pc := 585) C (nI 1) dL_law_585 (by decide) ?_
    refine j_topi (bI true) rfl ?_
    refine j_goto (pc := 586) C 590 dL_law_586 (by decide) ?_
    refine j_aload_n (pc := 590) C dL_law_590 rfl 3 rfl ?_
    refine j_callSW (pc := 591) C [.ref a, .int (ys (i + 1)), .int (bI true), .ref o] [] (rm0 := room_1) (k' := k + 1) (n' := n + 6) K.2.1 (w_turn (xl X) (xw X) hst9 hw hc ha0 ho hN (ys (i + 1)) true) mp_L_turn wm_698 rfl rfl (Nat.le_of_ble_eq_true rfl) dL_law_591 ⟨by decide, by decide⟩ ⟨show k + 1 ≤ 601024 by omega, show n + 6 ≤ 7293034 by omega⟩ rfl rfl (fun v9 σ1 hp9 => ?_)
    obtain ⟨rfl, h4, hout, hw1, hc1, hF1⟩ := hp9
    have hs1 := hs.fr hF1 (fun t z => tgV_K z)
    obtain ⟨d, hd9, hout⟩ := hout
    show J X (k + 1) (n + 6) σ1 [(0, .ref b), (1, .ref a), (2, .ref (x9 0)), (3, .ref o), (4, .int (nI i))] [.int (nI (s_turn S (ys (i + 1)) true).1)] 594
    refine j_istore (pc := 594) C [(5, .int (nI (s_turn S (ys (i + 1)) true).1)), (0, .ref b), (1, .ref a), (2, .ref (x9 0)), (3, .ref o), (4, .int (nI i))] dL_law_594 (by decide) rfl ?_
    refine j_aload_n (pc := 596) C dL_law_596 rfl 3 rfl ?_
    refine j_aload_n (pc := 597) C dL_law_597 rfl 1 rfl ?_
    refine j_iload (pc := 598) C dL_law_598 5 rfl ?_
    refine j_iconst (pc := 600) C (nI 1) dL_law_600 (by decide) ?_
    refine j_iadd (pc := 601) C dL_law_601 ?_
    refine j_topi (nI (i + 1)) (nI_add i 1) ?_
    refine j_sld (pc := 602) K (i := i + 1) (by omega) hL dL_law_602 ?_
    refine j_aload_n (pc := 603) C dL_law_603 rfl 1 rfl ?_
    refine j_iload (pc := 604) C dL_law_604 5 rfl ?_
    refine j_iconst (pc := 606) C (nI 2) dL_law_606 (by decide) ?_
    refine j_iadd (pc := 607) C dL_law_607 ?_
    refine j_topi (nI (i + 2)) (nI_add i 2) ?_
    refine j_sld (pc := 608) K (i := i + 2) (by omega) hL dL_law_608 ?_
    refine j_if_eq (pc := 609) C 616 dL_law_609 (by decide) (fun c0 => (e0 c0 : False).elim) (fun c0 => ?_)
    refine j_iconst (pc := 612) C (nI 1) dL_law_612 (by decide) ?_
    refine j_topi (bI true) rfl ?_
    refine j_goto (pc := 613) C 617 dL_law_613 (by decide) ?_
    refine j_callV (pc := 617) C [.int (ys (i + 1)), .int (bI true)] [] (rm0 := room_1) (k' := k + 1) (n' := n + 6) K.2.1 (c_X10_turn (xl X) (xw X) hs1 hw (ys (i + 1)) true) mp_X10_turn wm_1226 (hF1.at hM0) rfl rfl (by decide) rfl rfl (Nat.le_of_ble_eq_true rfl) dL_law_617 ⟨by decide, by decide⟩ ⟨show k + 1 + 0 ≤ 601024 by omega, show n + 6 + 0 ≤ 7293034 by omega⟩ rfl rfl (fun v8 σ2 hp8 => ?_)
    obtain ⟨rfl, hs2, hM⟩ := hp8
    have hF2 := hM.fr
    have hv2 : LV (s_turn S (ys (i + 1)) true).2.2 x9 a o σ2 := ⟨hw1, hc1.fr hw1 hF2 (fun t z y => by rw [tgA_K z] at y; cases y), ⟨_, hs2⟩, hF2.at (hF1.at ha0), hF2.at (hF1.at ho), (hF2.len (hF1.live ho.1)).trans ((hF1.len ho.1).trans hN)⟩
    show J X (k + 1) (n + 6) σ2 [(5, .int (nI (s_turn S (ys (i + 1)) true).1)), (0, .ref b), (1, .ref a), (2, .ref (x9 0)), (3, .ref o), (4, .int (nI i))] [.int ((s_turn S (ys (i + 1)) true).2.1)] 620
    refine j_topi (bI d) hd9 ?_
    refine j_istore (pc := 620) C [(6, .int (bI d)), (5, .int (nI (s_turn S (ys (i + 1)) true).1)), (0, .ref b), (1, .ref a), (2, .ref (x9 0)), (3, .ref o), (4, .int (nI i))] dL_law_620 (by decide) rfl ?_
    refine j_aload_n (pc := 622) C dL_law_622 rfl 4 rfl ?_
    refine j_callV (pc := 623) C [] [] (rm0 := room_1) (k' := k + 1) (n' := n + 6) K.2.1 (c_X10_thrown (xl X) (xw X) hs2) mp_X10_thrown wm_1145 (hF2.at (hF1.at hM0)) rfl rfl (by decide) rfl rfl (Nat.le_of_ble_eq_true rfl) dL_law_623 ⟨by decide, by decide⟩ ⟨show k + 1 + 0 ≤ 601024 by omega, show n + 6 + 0 ≤ 7293034 by omega⟩ rfl rfl (fun v7 σ3 hp7 => ?_)
    obtain ⟨rfl, rfl⟩ := hp7
    refine j_iload (pc := 626) C dL_law_626 1 rfl ?_
    refine j_icmp_eq (pc := 628) C 633 dL_law_628 (by decide) (fun c0 => ?_) (fun c0 => (c0 rfl : False).elim)
    refine j_iload (pc := 633) C dL_law_633 1 rfl ?_
    refine jn_if_ne (pc := 635) C 657 (a := (s_turn S (ys (i + 1)) true).1) (by omega) dL_law_635 (by decide) (fun c5 => ?_) (fun c5 => ?_)
    · refine j_goto (pc := 657) C 1865 dL_law_657 (by decide) ?_
      exact J.wide (by omega) (by omega) (J.to [2, 3, 4, 5, 6] rfl (kk _ _ hv2))
    · refine j_aload_n (pc := 638) C dL_law_638 rfl 5 rfl ?_
      refine j_iconst (pc := 639) C (nI 0) dL_law_639 (by decide) ?_
      refine j_lald (pc := 640) C (p := 0) (M := 1) (hF2.at (hF1.at ho)) rfl hv2.2.2.2.2.2 (by decide) (by decide) dL_law_640 ?_
      refine j_topl (lN d.toNat) ((hF2.rL (f := 768) (i := 300) (j := 0) (by decide)).trans (hout c5)) ?_
      refine j_iload (pc := 641) C dL_law_641 0 rfl ?_
      refine jb_if_eq (pc := 643) C 650 (b := d) dL_law_643 (by decide) (fun c6 => ?_) (fun c6 => ?_)
      · refine j_lconst (pc := 650) C (lN 0) dL_law_650 (by decide) ?_
        refine j_lcmp (pc := 651) C dL_law_651 ?_
        refine jl_if_eq (pc := 652) C 657 dL_law_652 (by decide) (fun c0 => ?_) (fun c0 => (c0 (by rw [c6]; rfl) : False).elim)
        refine j_goto (pc := 657) C 1865 dL_law_657 (by decide) ?_
        exact J.wide (by omega) (by omega) (J.to [2, 3, 4, 5, 6] rfl (kk _ _ hv2))
      · refine j_lconst (pc := 646) C (lN 1) dL_law_646 (by decide) ?_
        refine j_goto (pc := 647) C 651 dL_law_647 (by decide) ?_
        refine j_lcmp (pc := 651) C dL_law_651 ?_
        refine jl_if_eq (pc := 652) C 657 dL_law_652 (by decide) (fun c0 => ?_) (fun c0 => (c0 (by rw [c6]; rfl) : False).elim)
        refine j_goto (pc := 657) C 1865 dL_law_657 (by decide) ?_
        exact J.wide (by omega) (by omega) (J.to [2, 3, 4, 5, 6] rfl (kk _ _ hv2))
set_option maxHeartbeats 4000000 in
set_option maxRecDepth 100000 in
theorem lc_9 {X : Cx} {b L : Nat} {ys : Nat → Int32} (K : LC X b L ys) (hst9 : (xl X).stackTraces = false) {i : Nat} (hi : i + 5 ≤ L) (hL : L ≤ 2560) {S : SP} {x9 : Nat → Nat} {a o : Nat} {σ : HS} (hv : LV S x9 a o σ) {k n : Nat} (hk : k + 8 ≤ 601024) (hn : n + 127 ≤ 7293034) (kk : ∀ (S' : SP) (σ' : HS), LV S' x9 a o σ' → J X (k + 8) (n + 127) σ' [(0, .ref b), (1, .ref a), (2, .ref (x9 0)), (3, .ref o), (4, .int (nI i))] [] 1865) : J X k n σ [(0, .ref b), (1, .ref a), (2, .ref (x9 0)), (3, .ref o), (4, .int (nI i))] [] 660 := by
  obtain ⟨hw, hc, ⟨k9, hs⟩, ha0, ho, hN⟩ := hv
  have C := K.1
  have hM0 := hs.2.1.1
  refine j_aload_n (pc := 660) C dL_law_660 rfl 1 rfl ?_
  refine j_aload_n (pc := 661) C dL_law_661 rfl 0 rfl ?_
  refine j_iload (pc := 662) C dL_law_662 4 rfl ?_
  refine j_iconst (pc := 664) C (nI 1) dL_law_664 (by decide) ?_
  refine j_iadd (pc := 665) C dL_law_665 ?_
  refine j_topi (nI (i + 1)) (nI_add i 1) ?_
  refine j_sld (pc := 666) K (i := i + 1) (by omega) hL dL_law_666 ?_
  refine j_aload_n (pc := 667) C dL_law_667 rfl 3 rfl ?_
  refine j_callSW (pc := 668) C [.ref a, .int (ys (i + 1)), .ref o] [] (rm0 := room_1) (k' := k + 1) (n' := n + 6) K.2.1 (w_raise (xl X) (xw X) hst9 hw hc ha0 ho hN (ys (i + 1))) mp_L_raise wm_722 rfl rfl (Nat.le_of_ble_eq_true rfl) dL_law_668 ⟨by decide, by decide⟩ ⟨show k + 1 ≤ 601024 by omega, show n + 6 ≤ 7293034 by omega⟩ rfl rfl (fun v9 σ1 hp9 => ?_)
  obtain ⟨rfl, h4, hout, hw1, hc1, hF1⟩ := hp9
  have hs1 := hs.fr hF1 (fun t z => tgV_K z)
  show J X (k + 1) (n + 6) σ1 [(0, .ref b), (1, .ref a), (2, .ref (x9 0)), (3, .ref o), (4, .int (nI i))] [.int (nI (s_raise S (ys (i + 1))).1)] 671
  refine j_istore (pc := 671) C [(5, .int (nI (s_raise S (ys (i + 1))).1)), (0, .ref b), (1, .ref a), (2, .ref (x9 0)), (3, .ref o), (4, .int (nI i))] dL_law_671 (by decide) rfl ?_
  refine j_aload_n (pc := 673) C dL_law_673 rfl 3 rfl ?_
  refine j_aload_n (pc := 674) C dL_law_674 rfl 1 rfl ?_
  refine j_iload (pc := 675) C dL_law_675 5 rfl ?_
  refine j_iconst (pc := 677) C (nI 1) dL_law_677 (by decide) ?_
  refine j_iadd (pc := 678) C dL_law_678 ?_
  refine j_topi (nI (i + 1)) (nI_add i 1) ?_
  refine j_sld (pc := 679) K (i := i + 1) (by omega) hL dL_law_679 ?_
  refine j_callV (pc := 680) C [.int (ys (i + 1))] [] (rm0 := room_1) (k' := k + 1) (n' := n + 6) K.2.1 (c_X10_raise (xl X) (xw X) hs1 hw (ys (i + 1))) mp_X10_raise wm_1234 (hF1.at hM0) rfl rfl (by decide) rfl rfl (Nat.le_of_ble_eq_true rfl) dL_law_680 ⟨by decide, by decide⟩ ⟨show k + 1 + 0 ≤ 601024 by omega, show n + 6 + 0 ≤ 7293034 by omega⟩ rfl rfl (fun v8 σ2 hp8 => ?_)
  obtain ⟨rfl, hs2, hM⟩ := hp8
  have hF2 := hM.fr
  have hv2 : LV (s_raise S (ys (i + 1))).2.2 x9 a o σ2 := ⟨hw1, hc1.fr hw1 hF2 (fun t z y => by rw [tgA_K z] at y; cases y), ⟨_, hs2⟩, hF2.at (hF1.at ha0), hF2.at (hF1.at ho), (hF2.len (hF1.live ho.1)).trans ((hF1.len ho.1).trans hN)⟩
  show J X (k + 1) (n + 6) σ2 [(5, .int (nI (s_raise S (ys (i + 1))).1)), (0, .ref b), (1, .ref a), (2, .ref (x9 0)), (3, .ref o), (4, .int (nI i))] [.int ((s_raise S (ys (i + 1))).2.1)] 683
  refine j_istore (pc := 683) C [(6, .int ((s_raise S (ys (i + 1))).2.1)), (5, .int (nI (s_raise S (ys (i + 1))).1)), (0, .ref b), (1, .ref a), (2, .ref (x9 0)), (3, .ref o), (4, .int (nI i))] dL_law_683 (by decide) rfl ?_
  refine j_aload_n (pc := 685) C dL_law_685 rfl 4 rfl ?_
  refine j_callV (pc := 686) C [] [] (rm0 := room_1) (k' := k + 1) (n' := n + 6) K.2.1 (c_X10_thrown (xl X) (xw X) hs2) mp_X10_thrown wm_1145 (hF2.at (hF1.at hM0)) rfl rfl (by decide) rfl rfl (Nat.le_of_ble_eq_true rfl) dL_law_686 ⟨by decide, by decide⟩ ⟨show k + 1 + 0 ≤ 601024 by omega, show n + 6 + 0 ≤ 7293034 by omega⟩ rfl rfl (fun v7 σ3 hp7 => ?_)
  obtain ⟨rfl, rfl⟩ := hp7
  refine j_iload (pc := 689) C dL_law_689 1 rfl ?_
  refine j_icmp_eq (pc := 691) C 696 dL_law_691 (by decide) (fun c0 => ?_) (fun c0 => (c0 rfl : False).elim)
  refine j_iload (pc := 696) C dL_law_696 1 rfl ?_
  refine jn_if_ne (pc := 698) C 713 (a := (s_raise S (ys (i + 1))).1) (by omega) dL_law_698 (by decide) (fun c5 => ?_) (fun c5 => ?_)
  · refine j_goto (pc := 713) C 1865 dL_law_713 (by decide) ?_
    exact J.wide (by omega) (by omega) (J.to [2, 3, 4, 5, 6] rfl (kk _ _ hv2))
  · refine j_aload_n (pc := 701) C dL_law_701 rfl 5 rfl ?_
    refine j_iconst (pc := 702) C (nI 0) dL_law_702 (by decide) ?_
    refine j_lald (pc := 703) C (p := 0) (M := 1) (hF2.at (hF1.at ho)) rfl hv2.2.2.2.2.2 (by decide) (by decide) dL_law_703 ?_
    refine j_topl ((s_raise S (ys (i + 1))).2.1.toInt64) ((hF2.rL (f := 768) (i := 300) (j := 0) (by decide)).trans (hout c5)) ?_
    refine j_iload (pc := 704) C dL_law_704 0 rfl ?_
    refine j_i2l (pc := 706) C dL_law_706 ?_
    refine j_lcmp (pc := 707) C dL_law_707 ?_
    refine jl_if_eq (pc := 708) C 713 dL_law_708 (by decide) (fun c0 => ?_) (fun c0 => (c0 rfl : False).elim)
    refine j_goto (pc := 713) C 1865 dL_law_713 (by decide) ?_
    exact J.wide (by omega) (by omega) (J.to [2, 3, 4, 5, 6] rfl (kk _ _ hv2))

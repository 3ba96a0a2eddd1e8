/-! ===== the law's calls ===== -/
theorem acc_3 {G : Nat → gM} {M : gM} {X Y : Nat → Int32} {A B : Nat → Nat → Int32} {t : Nat → Nat} {n : Nat} {b : cB} (h : IV G M X A b Y B t n) : Y 3 = X 3 := by
  obtain ⟨⟨-, -, ⟨fr, m, -, -, -, e3, ey, -⟩, -⟩, -⟩ := h
  exact ey.trans e3.symm
set_option maxRecDepth 100000 in
set_option maxHeartbeats 4000000 in
theorem lc_0 {l : Launch} {D : gD} {cy : Nat → ClassId} {J : JT va_W} {b Ls : Nat} {xs : Nat → Int32} {L : Nat → Nat → Nat} {ad : Nat → Nat} {k : Nat} {u : cS × cB} {v : mS} (hl : OKL l D cy J b Ls xs) (hLs : Ls ≤ 3072) (hk : 6 * k + 6 ≤ Ls) (hi : INV u v) (hx : NX cy L ad J b k) : J (CW cy L u ++ MW cy ad v) (352 + 40 * k, 4654 + 8880 * k) (lvL L ad b k) 192 [] := by
  have h := hl.ok
  obtain ⟨G, M, X, A, bb, Y, B, t, n, rfl, rfl, hv⟩ := hi
  refine j_aload_n h dL_law_192 rfl 2 rfl ?_
  refine j_fI h (n := 0) (c_X7_clear l D cy L _ _ _ _ M hv.gi) (wr := MW cy ad _) rfl (xg_V (xr_6 21 rfl) (xr_6 22 rfl) (xr_6 23 rfl) (xr_1 2 rfl) (xr_7 0 rfl)) rfl rfl (by decide +kernel) ⟨Nat.le_of_ble_eq_true rfl, Nat.le_of_ble_eq_true rfl⟩ (330 + 0) (ml_get 0) rfl rfl rfl rfl (Nat.le_of_ble_eq_true rfl) dL_law_193 ⟨by show 352 + 40 * k + 0 ≤ 600000; omega, by show 4654 + 8880 * k + 0 ≤ 7302250; omega⟩ (fun r u' hq => ?_)
  obtain ⟨z, hz, rfl, rfl, hg⟩ := hq
  refine j_aload_n h dL_law_196 rfl 3 rfl ?_
  refine j_bI h (n := 0) (c_X8_clear l D cy ad _ _) (wr := CW cy L _) rfl (xg_V (xr_7 8 rfl) (xr_7 9 rfl) (xr_7 10 rfl) (xr_1 5 rfl) (xr_7 11 rfl)) rfl rfl (by decide +kernel) ⟨Nat.le_of_ble_eq_true rfl, Nat.le_of_ble_eq_true rfl⟩ 0 rfl rfl rfl rfl rfl (Nat.le_of_ble_eq_true rfl) dL_law_197 ⟨by show 352 + 40 * k + 0 + 0 ≤ 600000; omega, by show 4654 + 8880 * k + 0 + 0 ≤ 7302250; omega⟩ (fun r2 v' hq2 => ?_)
  obtain ⟨w2, rfl, rfl, rfl⟩ := hq2
  subst hz
  have cg := C_clear hv.1
  refine j_icmp_eq h (tgt := 1290) dL_law_200 (by decide) (fun _ => ?_) (fun q => absurd cg.1 q)
  refine j_widen h (k := 352 + 40 * (k + 1)) (n := 4654 + 8880 * (k + 1)) (by show 352 + 40 * k + 0 + 0 ≤ _; omega) (by show 4654 + 8880 * k + 0 + 0 ≤ _; omega) ?_
  exact hx _ _ ⟨_, _, _, _, bb, _, _, t, n, rfl, rfl, hv.chh cg hg M_clear⟩
set_option maxRecDepth 100000 in
set_option maxHeartbeats 4000000 in
theorem lc_1 {l : Launch} {D : gD} {cy : Nat → ClassId} {J : JT va_W} {b Ls : Nat} {xs : Nat → Int32} {L : Nat → Nat → Nat} {ad : Nat → Nat} {k : Nat} {u : cS × cB} {v : mS} (hl : OKL l D cy J b Ls xs) (hLs : Ls ≤ 3072) (hk : 6 * k + 6 ≤ Ls) (hi : INV u v) (hx : NX cy L ad J b k) : J (CW cy L u ++ MW cy ad v) (352 + 40 * k, 4654 + 8880 * k) (lvL L ad b k) 205 [] := by
  have h := hl.ok
  obtain ⟨G, M, X, A, bb, Y, B, t, n, rfl, rfl, hv⟩ := hi
  refine j_aload_n h dL_law_205 rfl 2 rfl ?_
  refine j_aload_n h dL_law_206 rfl 1 rfl ?_
  refine j_iload_n h dL_law_207 rfl 0 rfl ?_
  refine j_iconst h (v := 1) dL_law_208 (by decide) ?_
  refine j_iadd h dL_law_209 ?_
  refine j_sld hl (6 * k + 1) (nI_add _ 1) (by omega) hLs dL_law_210 ?_
  refine j_i2c h (v := ((xs (6 * k + 1)).toUInt32 % 65536).toInt32) dL_law_211 rfl ?_
  have hke := kE_le (n + 1) bb.2.1
  have hse := sE_le (q := n + 1) (m := bb.2.1) (by have := hv.2.1.1; omega)
  refine j_fI h (n := 1) (c_X7_append l D cy L _ _ _ _ M _ hv.x7 hv.tx) (wr := MW cy ad _) rfl (xg_V (xr_7 13 rfl) (xr_7 14 rfl) (xr_7 15 rfl) (xr_1 2 rfl) (xr_7 16 rfl)) rfl rfl (by decide +kernel) ⟨by show 6 + 1 ≤ 2048; omega, by show 8 + (2 + 11) + 150 ≤ 84000; omega⟩ (330 + 0) (ml_get 0) rfl rfl rfl rfl (Nat.le_of_ble_eq_true rfl) dL_law_212 ⟨by show 352 + 40 * k + kE (n + 1) bb.2.1 ≤ 600000; omega, by show 4654 + 8880 * k + sE (n + 1) bb.2.1 ≤ 7302250; omega⟩ (fun r u' hq => ?_)
  rcases hq with ⟨rfl, hp, rfl⟩ | ⟨ch, hp, h1, h2, h3, rfl, a1, f1, rfl, g1, g2, g3⟩
  · refine j_aload_n h dL_law_215 rfl 3 rfl ?_
    refine j_aload_n h dL_law_216 rfl 1 rfl ?_
    refine j_iload_n h dL_law_217 rfl 0 rfl ?_
    refine j_iconst h (v := 1) dL_law_218 (by decide) ?_
    refine j_iadd h dL_law_219 ?_
    refine j_sld hl (6 * k + 1) (nI_add _ 1) (by omega) hLs dL_law_220 ?_
    refine j_i2c h (v := ((xs (6 * k + 1)).toUInt32 % 65536).toInt32) dL_law_221 rfl ?_
    refine j_bI h (n := 1) (c_X8_append l D cy ad _ _ _ hv.y9) (wr := CW cy L _) rfl (xg_V (xr_12 8 rfl) (xr_12 9 rfl) (xr_12 10 rfl) (xr_1 5 rfl) (xr_12 11 rfl)) rfl rfl (by decide +kernel) ⟨Nat.le_of_ble_eq_true rfl, Nat.le_of_ble_eq_true rfl⟩ 0 rfl rfl rfl rfl rfl (Nat.le_of_ble_eq_true rfl) dL_law_222 ⟨by show 352 + 40 * k + kE (n + 1) bb.2.1 + 0 ≤ 600000; omega, by show 4654 + 8880 * k + sE (n + 1) bb.2.1 + 0 ≤ 7302250; omega⟩ (fun r2 v' hq2 => ?_)
    obtain ⟨w2, rfl, rfl, rfl⟩ := hq2
    rw [ap_bad hv.2.1 hp]
    refine j_icmp_eq h (tgt := 1290) dL_law_225 (by decide) (fun _ => ?_) (fun q => absurd rfl q)
    refine j_widen h (k := 352 + 40 * (k + 1)) (n := 4654 + 8880 * (k + 1)) (by show 352 + 40 * k + kE (n + 1) bb.2.1 + 0 ≤ _; omega) (by show 4654 + 8880 * k + sE (n + 1) bb.2.1 + 0 ≤ _; omega) ?_
    exact hx _ _ ⟨G, M, X, A, bb, Y, B, t, n, rfl, rfl, hv⟩
  · refine j_aload_n h dL_law_215 rfl 3 rfl ?_
    refine j_aload_n h dL_law_216 rfl 1 rfl ?_
    refine j_iload_n h dL_law_217 rfl 0 rfl ?_
    refine j_iconst h (v := 1) dL_law_218 (by decide) ?_
    refine j_iadd h dL_law_219 ?_
    refine j_sld hl (6 * k + 1) (nI_add _ 1) (by omega) hLs dL_law_220 ?_
    refine j_i2c h (v := ((xs (6 * k + 1)).toUInt32 % 65536).toInt32) dL_law_221 rfl ?_
    refine j_bI h (n := 1) (c_X8_append l D cy ad _ _ _ hv.y9) (wr := CW cy L _) rfl (xg_V (xr_12 8 rfl) (xr_12 9 rfl) (xr_12 10 rfl) (xr_1 5 rfl) (xr_12 11 rfl)) rfl rfl (by decide +kernel) ⟨Nat.le_of_ble_eq_true rfl, Nat.le_of_ble_eq_true rfl⟩ 0 rfl rfl rfl rfl rfl (Nat.le_of_ble_eq_true rfl) dL_law_222 ⟨by show 352 + 40 * k + kE (n + 1) bb.2.1 + 0 ≤ 600000; omega, by show 4654 + 8880 * k + sE (n + 1) bb.2.1 + 0 ≤ 7302250; omega⟩ (fun r2 v' hq2 => ?_)
    obtain ⟨w2, rfl, rfl, rfl⟩ := hq2
    rw [hp]
    obtain ⟨i1, i2⟩ := hv.app (a1 := a1) (f1 := f1) h1 h2 h3 g1 g2 g3
    refine j_icmp_eq h (tgt := 1290) dL_law_225 (by decide) (fun _ => ?_) (fun q => absurd i2.symm q)
    refine j_widen h (k := 352 + 40 * (k + 1)) (n := 4654 + 8880 * (k + 1)) (by show 352 + 40 * k + kE (n + 1) bb.2.1 + 0 ≤ _; omega) (by show 4654 + 8880 * k + sE (n + 1) bb.2.1 + 0 ≤ _; omega) ?_
    exact hx _ _ i1
set_option maxRecDepth 100000 in
set_option maxHeartbeats 4000000 in
theorem lc_2 {l : Launch} {D : gD} {cy : Nat → ClassId} {J : JT va_W} {b Ls : Nat} {xs : Nat → Int32} {L : Nat → Nat → Nat} {ad : Nat → Nat} {k : Nat} {u : cS × cB} {v : mS} (hl : OKL l D cy J b Ls xs) (hLs : Ls ≤ 3072) (hk : 6 * k + 6 ≤ Ls) (hi : INV u v) (hx : NX cy L ad J b k) : J (CW cy L u ++ MW cy ad v) (352 + 40 * k, 4654 + 8880 * k) (lvL L ad b k) 230 [] := by
  have h := hl.ok
  obtain ⟨G, M, X, A, bb, Y, B, t, n, rfl, rfl, hv⟩ := hi
  refine j_aload_n h dL_law_230 rfl 2 rfl ?_
  refine j_aload_n h dL_law_231 rfl 1 rfl ?_
  refine j_iload_n h dL_law_232 rfl 0 rfl ?_
  refine j_iconst h (v := 1) dL_law_233 (by decide) ?_
  refine j_iadd h dL_law_234 ?_
  refine j_sld hl (6 * k + 1) (nI_add _ 1) (by omega) hLs dL_law_235 ?_
  refine j_aload_n h dL_law_236 rfl 1 rfl ?_
  refine j_iload_n h dL_law_237 rfl 0 rfl ?_
  refine j_iconst h (v := 2) dL_law_238 (by decide) ?_
  refine j_iadd h dL_law_239 ?_
  refine j_sld hl (6 * k + 2) (nI_add _ 2) (by omega) hLs dL_law_240 ?_
  refine j_fI h (n := 2) (c_X7_rink l D cy L _ _ _ _ M _ _ hv.gi hv.k6 hv.f2) (wr := MW cy ad _) rfl (xg_V (xr_12 16 rfl) (xr_12 17 rfl) (xr_12 18 rfl) (xr_1 2 rfl) (xr_12 19 rfl)) rfl rfl (by decide +kernel) ⟨Nat.le_of_ble_eq_true rfl, Nat.le_of_ble_eq_true rfl⟩ (330 + 0) (ml_get 0) rfl rfl rfl rfl (Nat.le_of_ble_eq_true rfl) dL_law_241 ⟨by show 352 + 40 * k + 0 ≤ 600000; omega, by show 4654 + 8880 * k + 0 ≤ 7302250; omega⟩ (fun r u' hq => ?_)
  obtain ⟨z, hz, rfl, rfl, hg⟩ := hq
  refine j_aload_n h dL_law_244 rfl 3 rfl ?_
  refine j_aload_n h dL_law_245 rfl 1 rfl ?_
  refine j_iload_n h dL_law_246 rfl 0 rfl ?_
  refine j_iconst h (v := 1) dL_law_247 (by decide) ?_
  refine j_iadd h dL_law_248 ?_
  refine j_sld hl (6 * k + 1) (nI_add _ 1) (by omega) hLs dL_law_249 ?_
  refine j_aload_n h dL_law_250 rfl 1 rfl ?_
  refine j_iload_n h dL_law_251 rfl 0 rfl ?_
  refine j_iconst h (v := 2) dL_law_252 (by decide) ?_
  refine j_iadd h dL_law_253 ?_
  refine j_sld hl (6 * k + 2) (nI_add _ 2) (by omega) hLs dL_law_254 ?_
  refine j_bI h (n := 2) (c_X8_rink l D cy ad _ _ _ _ hv.mi hv.y3) (wr := CW cy L _) rfl (xg_V (xr_16 2 rfl) (xr_16 3 rfl) (xr_16 4 rfl) (xr_1 5 rfl) (xr_16 5 rfl)) rfl rfl (by decide +kernel) ⟨Nat.le_of_ble_eq_true rfl, Nat.le_of_ble_eq_true rfl⟩ 0 rfl rfl rfl rfl rfl (Nat.le_of_ble_eq_true rfl) dL_law_255 ⟨by show 352 + 40 * k + 0 + 0 ≤ 600000; omega, by show 4654 + 8880 * k + 0 + 0 ≤ 7302250; omega⟩ (fun r2 v' hq2 => ?_)
  obtain ⟨w2, hw2, rfl, rfl, hm, -⟩ := hq2
  have cg : CHG G M X A Y B z w2 := by rw [hz, hw2]; exact C_rink hv.1 _ _
  refine j_icmp_eq h (tgt := 1290) dL_law_258 (by decide) (fun _ => ?_) (fun q => absurd cg.1 q)
  refine j_widen h (k := 352 + 40 * (k + 1)) (n := 4654 + 8880 * (k + 1)) (by show 352 + 40 * k + 0 + 0 ≤ _; omega) (by show 4654 + 8880 * k + 0 + 0 ≤ _; omega) ?_
  exact hx _ _ ⟨_, _, _, _, bb, _, _, t, n, rfl, rfl, hv.chg cg (by rw [hz]; unfold f_X7_rink; simp only [bd_x]) hg hm⟩
set_option maxRecDepth 100000 in
set_option maxHeartbeats 4000000 in
theorem lc_3 {l : Launch} {D : gD} {cy : Nat → ClassId} {J : JT va_W} {b Ls : Nat} {xs : Nat → Int32} {L : Nat → Nat → Nat} {ad : Nat → Nat} {k : Nat} {u : cS × cB} {v : mS} (hl : OKL l D cy J b Ls xs) (hLs : Ls ≤ 3072) (hk : 6 * k + 6 ≤ Ls) (hi : INV u v) (hx : NX cy L ad J b k) : J (CW cy L u ++ MW cy ad v) (352 + 40 * k, 4654 + 8880 * k) (lvL L ad b k) 263 [] := by
  have h := hl.ok
  obtain ⟨G, M, X, A, bb, Y, B, t, n, rfl, rfl, hv⟩ := hi
  refine j_aload_n h dL_law_263 rfl 2 rfl ?_
  refine j_aload_n h dL_law_264 rfl 1 rfl ?_
  refine j_iload_n h dL_law_265 rfl 0 rfl ?_
  refine j_iconst h (v := 1) dL_law_266 (by decide) ?_
  refine j_iadd h dL_law_267 ?_
  refine j_sld hl (6 * k + 1) (nI_add _ 1) (by omega) hLs dL_law_268 ?_
  refine j_aload_n h dL_law_269 rfl 1 rfl ?_
  refine j_iload_n h dL_law_270 rfl 0 rfl ?_
  refine j_iconst h (v := 2) dL_law_271 (by decide) ?_
  refine j_iadd h dL_law_272 ?_
  refine j_sld hl (6 * k + 2) (nI_add _ 2) (by omega) hLs dL_law_273 ?_
  refine j_fI h (n := 2) (c_X7_wood l D cy L _ _ _ _ M _ _ hv.gi hv.k6 hv.f2) (wr := MW cy ad _) rfl (xg_V (xr_17 3 rfl) (xr_17 4 rfl) (xr_17 5 rfl) (xr_1 2 rfl) (xr_17 6 rfl)) rfl rfl (by decide +kernel) ⟨Nat.le_of_ble_eq_true rfl, Nat.le_of_ble_eq_true rfl⟩ (330 + 0) (ml_get 0) rfl rfl rfl rfl (Nat.le_of_ble_eq_true rfl) dL_law_274 ⟨by show 352 + 40 * k + 0 ≤ 600000; omega, by show 4654 + 8880 * k + 0 ≤ 7302250; omega⟩ (fun r u' hq => ?_)
  obtain ⟨z, hz, rfl, rfl, hg⟩ := hq
  refine j_aload_n h dL_law_277 rfl 3 rfl ?_
  refine j_aload_n h dL_law_278 rfl 1 rfl ?_
  refine j_iload_n h dL_law_279 rfl 0 rfl ?_
  refine j_iconst h (v := 1) dL_law_280 (by decide) ?_
  refine j_iadd h dL_law_281 ?_
  refine j_sld hl (6 * k + 1) (nI_add _ 1) (by omega) hLs dL_law_282 ?_
  refine j_aload_n h dL_law_283 rfl 1 rfl ?_
  refine j_iload_n h dL_law_284 rfl 0 rfl ?_
  refine j_iconst h (v := 2) dL_law_285 (by decide) ?_
  refine j_iadd h dL_law_286 ?_
  refine j_sld hl (6 * k + 2) (nI_add _ 2) (by omega) hLs dL_law_287 ?_
  refine j_bI h (n := 2) (c_X8_wood l D cy ad _ _ _ _ hv.mi hv.y3) (wr := CW cy L _) rfl (xg_V (xr_17 20 rfl) (xr_17 21 rfl) (xr_17 22 rfl) (xr_1 5 rfl) (xr_17 23 rfl)) rfl rfl (by decide +kernel) ⟨Nat.le_of_ble_eq_true rfl, Nat.le_of_ble_eq_true rfl⟩ 0 rfl rfl rfl rfl rfl (Nat.le_of_ble_eq_true rfl) dL_law_288 ⟨by show 352 + 40 * k + 0 + 0 ≤ 600000; omega, by show 4654 + 8880 * k + 0 + 0 ≤ 7302250; omega⟩ (fun r2 v' hq2 => ?_)
  obtain ⟨w2, hw2, rfl, rfl, hm, -⟩ := hq2
  have cg : CHG G M X A Y B z w2 := by rw [hz, hw2]; exact C_wood hv.1 _ _
  refine j_icmp_eq h (tgt := 1290) dL_law_291 (by decide) (fun _ => ?_) (fun q => absurd cg.1 q)
  refine j_widen h (k := 352 + 40 * (k + 1)) (n := 4654 + 8880 * (k + 1)) (by show 352 + 40 * k + 0 + 0 ≤ _; omega) (by show 4654 + 8880 * k + 0 + 0 ≤ _; omega) ?_
  exact hx _ _ ⟨_, _, _, _, bb, _, _, t, n, rfl, rfl, hv.chg cg (by rw [hz]; unfold f_X7_wood; simp only [bd_x]) hg hm⟩
set_option maxRecDepth 100000 in
set_option maxHeartbeats 4000000 in
theorem lc_4 {l : Launch} {D : gD} {cy : Nat → ClassId} {J : JT va_W} {b Ls : Nat} {xs : Nat → Int32} {L : Nat → Nat → Nat} {ad : Nat → Nat} {k : Nat} {u : cS × cB} {v : mS} (hl : OKL l D cy J b Ls xs) (hLs : Ls ≤ 3072) (hk : 6 * k + 6 ≤ Ls) (hi : INV u v) (hx : NX cy L ad J b k) : J (CW cy L u ++ MW cy ad v) (352 + 40 * k, 4654 + 8880 * k) (lvL L ad b k) 296 [] := by
  have h := hl.ok
  obtain ⟨G, M, X, A, bb, Y, B, t, n, rfl, rfl, hv⟩ := hi
  refine j_aload_n h dL_law_296 rfl 2 rfl ?_
  refine j_aload_n h dL_law_297 rfl 1 rfl ?_
  refine j_iload_n h dL_law_298 rfl 0 rfl ?_
  refine j_iconst h (v := 1) dL_law_299 (by decide) ?_
  refine j_iadd h dL_law_300 ?_
  refine j_sld hl (6 * k + 1) (nI_add _ 1) (by omega) hLs dL_law_301 ?_
  refine j_aload_n h dL_law_302 rfl 1 rfl ?_
  refine j_iload_n h dL_law_303 rfl 0 rfl ?_
  refine j_iconst h (v := 2) dL_law_304 (by decide) ?_
  refine j_iadd h dL_law_305 ?_
  refine j_sld hl (6 * k + 2) (nI_add _ 2) (by omega) hLs dL_law_306 ?_
  refine j_fI h (n := 2) (c_X7_begin l D cy L _ _ _ _ M _ _ hv.gi hv.k6 hv.f2) (wr := MW cy ad _) rfl (xg_V (xr_18 4 rfl) (xr_18 5 rfl) (xr_18 6 rfl) (xr_1 2 rfl) (xr_18 7 rfl)) rfl rfl (by decide +kernel) ⟨Nat.le_of_ble_eq_true rfl, Nat.le_of_ble_eq_true rfl⟩ (330 + 0) (ml_get 0) rfl rfl rfl rfl (Nat.le_of_ble_eq_true rfl) dL_law_307 ⟨by show 352 + 40 * k + 0 ≤ 600000; omega, by show 4654 + 8880 * k + 0 ≤ 7302250; omega⟩ (fun r u' hq => ?_)
  obtain ⟨z, hz, rfl, rfl, hg⟩ := hq
  refine j_aload_n h dL_law_310 rfl 3 rfl ?_
  refine j_aload_n h dL_law_311 rfl 1 rfl ?_
  refine j_iload_n h dL_law_312 rfl 0 rfl ?_
  refine j_iconst h (v := 1) dL_law_313 (by decide) ?_
  refine j_iadd h dL_law_314 ?_
  refine j_sld hl (6 * k + 1) (nI_add _ 1) (by omega) hLs dL_law_315 ?_
  refine j_aload_n h dL_law_316 rfl 1 rfl ?_
  refine j_iload_n h dL_law_317 rfl 0 rfl ?_
  refine j_iconst h (v := 2) dL_law_318 (by decide) ?_
  refine j_iadd h dL_law_319 ?_
  refine j_sld hl (6 * k + 2) (nI_add _ 2) (by omega) hLs dL_law_320 ?_
  refine j_bI h (n := 2) (c_X8_begin l D cy ad _ _ _ _ hv.mi hv.y3) (wr := CW cy L _) rfl (xg_V (xr_19 18 rfl) (xr_19 19 rfl) (xr_19 20 rfl) (xr_1 5 rfl) (xr_19 21 rfl)) rfl rfl (by decide +kernel) ⟨Nat.le_of_ble_eq_true rfl, Nat.le_of_ble_eq_true rfl⟩ 0 rfl rfl rfl rfl rfl (Nat.le_of_ble_eq_true rfl) dL_law_321 ⟨by show 352 + 40 * k + 0 + 0 ≤ 600000; omega, by show 4654 + 8880 * k + 0 + 0 ≤ 7302250; omega⟩ (fun r2 v' hq2 => ?_)
  obtain ⟨w2, hw2, rfl, rfl, hm, -⟩ := hq2
  have cg : CHG G M X A Y B z w2 := by rw [hz, hw2]; exact C_begin hv.1 _ _
  refine j_icmp_eq h (tgt := 1290) dL_law_324 (by decide) (fun _ => ?_) (fun q => absurd cg.1 q)
  refine j_widen h (k := 352 + 40 * (k + 1)) (n := 4654 + 8880 * (k + 1)) (by show 352 + 40 * k + 0 + 0 ≤ _; omega) (by show 4654 + 8880 * k + 0 + 0 ≤ _; omega) ?_
  exact hx _ _ ⟨_, _, _, _, bb, _, _, t, n, rfl, rfl, hv.chg cg (by rw [hz]; unfold f_X7_begin; simp only [bd_x]) hg hm⟩
set_option maxRecDepth 100000 in
set_option maxHeartbeats 4000000 in
theorem lc_5 {l : Launch} {D : gD} {cy : Nat → ClassId} {J : JT va_W} {b Ls : Nat} {xs : Nat → Int32} {L : Nat → Nat → Nat} {ad : Nat → Nat} {k : Nat} {u : cS × cB} {v : mS} (hl : OKL l D cy J b Ls xs) (hLs : Ls ≤ 3072) (hk : 6 * k + 6 ≤ Ls) (hi : INV u v) (hx : NX cy L ad J b k) : J (CW cy L u ++ MW cy ad v) (352 + 40 * k, 4654 + 8880 * k) (lvL L ad b k) 329 [] := by
  have h := hl.ok
  obtain ⟨G, M, X, A, bb, Y, B, t, n, rfl, rfl, hv⟩ := hi
  refine j_aload_n h dL_law_329 rfl 2 rfl ?_
  refine j_aload_n h dL_law_330 rfl 1 rfl ?_
  refine j_iload_n h dL_law_331 rfl 0 rfl ?_
  refine j_iconst h (v := 1) dL_law_332 (by decide) ?_
  refine j_iadd h dL_law_333 ?_
  refine j_sld hl (6 * k + 1) (nI_add _ 1) (by omega) hLs dL_law_334 ?_
  refine j_aload_n h dL_law_335 rfl 1 rfl ?_
  refine j_iload_n h dL_law_336 rfl 0 rfl ?_
  refine j_iconst h (v := 2) dL_law_337 (by decide) ?_
  refine j_iadd h dL_law_338 ?_
  refine j_sld hl (6 * k + 2) (nI_add _ 2) (by omega) hLs dL_law_339 ?_
  refine j_aload_n h dL_law_340 rfl 1 rfl ?_
  refine j_iload_n h dL_law_341 rfl 0 rfl ?_
  refine j_iconst h (v := 3) dL_law_342 (by decide) ?_
  refine j_iadd h dL_law_343 ?_
  refine j_sld hl (6 * k + 3) (nI_add _ 3) (by omega) hLs dL_law_344 ?_
  refine j_aload_n h dL_law_345 rfl 1 rfl ?_
  refine j_iload_n h dL_law_346 rfl 0 rfl ?_
  refine j_iconst h (v := 4) dL_law_347 (by decide) ?_
  refine j_iadd h dL_law_348 ?_
  refine j_sld hl (6 * k + 4) (nI_add _ 4) (by omega) hLs dL_law_349 ?_
  refine j_aload_n h dL_law_350 rfl 1 rfl ?_
  refine j_iload_n h dL_law_351 rfl 0 rfl ?_
  refine j_iconst h (v := 5) dL_law_352 (by decide) ?_
  refine j_iadd h dL_law_353 ?_
  refine j_sld hl (6 * k + 5) (nI_add _ 5) (by omega) hLs dL_law_354 ?_
  by_cases cb : (xs (6 * k + 5)) = 0
  · refine j_if_eq h (tgt := 362) dL_law_355 (by decide) (fun _ => ?_) (fun c => absurd cb c)
    refine j_iconst h (v := 0) dL_law_362 (by decide) ?_
    refine j_fI h (n := 5) (c_X7_bowl l D cy L _ _ _ _ M _ _ _ _ _ hv.gi hv.k6 hv.f2) (wr := MW cy ad _) rfl (xg_V (xr_21 5 rfl) (xr_21 6 rfl) (xr_21 7 rfl) (xr_1 2 rfl) (xr_21 8 rfl)) rfl rfl (by decide +kernel) ⟨Nat.le_of_ble_eq_true rfl, Nat.le_of_ble_eq_true rfl⟩ (330 + 0) (ml_get 0) rfl rfl rfl rfl (Nat.le_of_ble_eq_true rfl) dL_law_363 ⟨by show 352 + 40 * k + 0 ≤ 600000; omega, by show 4654 + 8880 * k + 0 ≤ 7302250; omega⟩ (fun r u' hq => ?_)
    obtain ⟨z, hz, rfl, rfl, hg⟩ := hq
    refine j_aload_n h dL_law_366 rfl 3 rfl ?_
    refine j_aload_n h dL_law_367 rfl 1 rfl ?_
    refine j_iload_n h dL_law_368 rfl 0 rfl ?_
    refine j_iconst h (v := 1) dL_law_369 (by decide) ?_
    refine j_iadd h dL_law_370 ?_
    refine j_sld hl (6 * k + 1) (nI_add _ 1) (by omega) hLs dL_law_371 ?_
    refine j_aload_n h dL_law_372 rfl 1 rfl ?_
    refine j_iload_n h dL_law_373 rfl 0 rfl ?_
    refine j_iconst h (v := 2) dL_law_374 (by decide) ?_
    refine j_iadd h dL_law_375 ?_
    refine j_sld hl (6 * k + 2) (nI_add _ 2) (by omega) hLs dL_law_376 ?_
    refine j_aload_n h dL_law_377 rfl 1 rfl ?_
    refine j_iload_n h dL_law_378 rfl 0 rfl ?_
    refine j_iconst h (v := 3) dL_law_379 (by decide) ?_
    refine j_iadd h dL_law_380 ?_
    refine j_sld hl (6 * k + 3) (nI_add _ 3) (by omega) hLs dL_law_381 ?_
    refine j_aload_n h dL_law_382 rfl 1 rfl ?_
    refine j_iload_n h dL_law_383 rfl 0 rfl ?_
    refine j_iconst h (v := 4) dL_law_384 (by decide) ?_
    refine j_iadd h dL_law_385 ?_
    refine j_sld hl (6 * k + 4) (nI_add _ 4) (by omega) hLs dL_law_386 ?_
    refine j_aload_n h dL_law_387 rfl 1 rfl ?_
    refine j_iload_n h dL_law_388 rfl 0 rfl ?_
    refine j_iconst h (v := 5) dL_law_389 (by decide) ?_
    refine j_iadd h dL_law_390 ?_
    refine j_sld hl (6 * k + 5) (nI_add _ 5) (by omega) hLs dL_law_391 ?_
    refine j_if_eq h (tgt := 399) dL_law_392 (by decide) (fun _ => ?_) (fun c => absurd cb c)
    refine j_iconst h (v := 0) dL_law_399 (by decide) ?_
    refine j_bI h (n := 5) (c_X8_bowl l D cy ad _ _ _ _ _ _ _ hv.mi hv.y3) (wr := CW cy L _) rfl (xg_V (xr_23 12 rfl) (xr_23 13 rfl) (xr_23 14 rfl) (xr_1 5 rfl) (xr_23 15 rfl)) rfl rfl (by decide +kernel) ⟨Nat.le_of_ble_eq_true rfl, Nat.le_of_ble_eq_true rfl⟩ 0 rfl rfl rfl rfl rfl (Nat.le_of_ble_eq_true rfl) dL_law_400 ⟨by show 352 + 40 * k + 0 + 0 ≤ 600000; omega, by show 4654 + 8880 * k + 0 + 0 ≤ 7302250; omega⟩ (fun r2 v' hq2 => ?_)
    obtain ⟨w2, hw2, rfl, rfl, hm, -⟩ := hq2
    have cg : CHG G M X A Y B z w2 := by rw [hz, hw2]; exact C_bowl hv.1 _ _ _ _ _
    refine j_icmp_eq h (tgt := 1290) dL_law_403 (by decide) (fun _ => ?_) (fun q => absurd cg.1 q)
    refine j_widen h (k := 352 + 40 * (k + 1)) (n := 4654 + 8880 * (k + 1)) (by show 352 + 40 * k + 0 + 0 ≤ _; omega) (by show 4654 + 8880 * k + 0 + 0 ≤ _; omega) ?_
    exact hx _ _ ⟨_, _, _, _, bb, _, _, t, n, rfl, rfl, hv.chg cg (by rw [hz]; unfold f_X7_bowl; simp only [bd_x]) hg hm⟩
  · refine j_if_eq h (tgt := 362) dL_law_355 (by decide) (fun c => absurd c cb) (fun _ => ?_)
    refine j_iconst h (v := 1) dL_law_358 (by decide) ?_
    refine j_goto h (tgt := 363) dL_law_359 (by decide) ?_
    refine j_fI h (n := 5) (c_X7_bowl l D cy L _ _ _ _ M _ _ _ _ _ hv.gi hv.k6 hv.f2) (wr := MW cy ad _) rfl (xg_V (xr_21 5 rfl) (xr_21 6 rfl) (xr_21 7 rfl) (xr_1 2 rfl) (xr_21 8 rfl)) rfl rfl (by decide +kernel) ⟨Nat.le_of_ble_eq_true rfl, Nat.le_of_ble_eq_true rfl⟩ (330 + 0) (ml_get 0) rfl rfl rfl rfl (Nat.le_of_ble_eq_true rfl) dL_law_363 ⟨by show 352 + 40 * k + 0 ≤ 600000; omega, by show 4654 + 8880 * k + 0 ≤ 7302250; omega⟩ (fun r u' hq => ?_)
    obtain ⟨z, hz, rfl, rfl, hg⟩ := hq
    refine j_aload_n h dL_law_366 rfl 3 rfl ?_
    refine j_aload_n h dL_law_367 rfl 1 rfl ?_
    refine j_iload_n h dL_law_368 rfl 0 rfl ?_
    refine j_iconst h (v := 1) dL_law_369 (by decide) ?_
    refine j_iadd h dL_law_370 ?_
    refine j_sld hl (6 * k + 1) (nI_add _ 1) (by omega) hLs dL_law_371 ?_
    refine j_aload_n h dL_law_372 rfl 1 rfl ?_
    refine j_iload_n h dL_law_373 rfl 0 rfl ?_
    refine j_iconst h (v := 2) dL_law_374 (by decide) ?_
    refine j_iadd h dL_law_375 ?_
    refine j_sld hl (6 * k + 2) (nI_add _ 2) (by omega) hLs dL_law_376 ?_
    refine j_aload_n h dL_law_377 rfl 1 rfl ?_
    refine j_iload_n h dL_law_378 rfl 0 rfl ?_
    refine j_iconst h (v := 3) dL_law_379 (by decide) ?_
    refine j_iadd h dL_law_380 ?_
    refine j_sld hl (6 * k + 3) (nI_add _ 3) (by omega) hLs dL_law_381 ?_
    refine j_aload_n h dL_law_382 rfl 1 rfl ?_
    refine j_iload_n h dL_law_383 rfl 0 rfl ?_
    refine j_iconst h (v := 4) dL_law_384 (by decide) ?_
    refine j_iadd h dL_law_385 ?_
    refine j_sld hl (6 * k + 4) (nI_add _ 4) (by omega) hLs dL_law_386 ?_
    refine j_aload_n h dL_law_387 rfl 1 rfl ?_
    refine j_iload_n h dL_law_388 rfl 0 rfl ?_
    refine j_iconst h (v := 5) dL_law_389 (by decide) ?_
    refine j_iadd h dL_law_390 ?_
    refine j_sld hl (6 * k + 5) (nI_add _ 5) (by omega) hLs dL_law_391 ?_
    refine j_if_eq h (tgt := 399) dL_law_392 (by decide) (fun c => absurd c cb) (fun _ => ?_)
    refine j_iconst h (v := 1) dL_law_395 (by decide) ?_
    refine j_goto h (tgt := 400) dL_law_396 (by decide) ?_
    refine j_bI h (n := 5) (c_X8_bowl l D cy ad _ _ _ _ _ _ _ hv.mi hv.y3) (wr := CW cy L _) rfl (xg_V (xr_23 12 rfl) (xr_23 13 rfl) (xr_23 14 rfl) (xr_1 5 rfl) (xr_23 15 rfl)) rfl rfl (by decide +kernel) ⟨Nat.le_of_ble_eq_true rfl, Nat.le_of_ble_eq_true rfl⟩ 0 rfl rfl rfl rfl rfl (Nat.le_of_ble_eq_true rfl) dL_law_400 ⟨by show 352 + 40 * k + 0 + 0 ≤ 600000; omega, by show 4654 + 8880 * k + 0 + 0 ≤ 7302250; omega⟩ (fun r2 v' hq2 => ?_)
    obtain ⟨w2, hw2, rfl, rfl, hm, -⟩ := hq2
    have cg : CHG G M X A Y B z w2 := by rw [hz, hw2]; exact C_bowl hv.1 _ _ _ _ _
    refine j_icmp_eq h (tgt := 1290) dL_law_403 (by decide) (fun _ => ?_) (fun q => absurd cg.1 q)
    refine j_widen h (k := 352 + 40 * (k + 1)) (n := 4654 + 8880 * (k + 1)) (by show 352 + 40 * k + 0 + 0 ≤ _; omega) (by show 4654 + 8880 * k + 0 + 0 ≤ _; omega) ?_
    exact hx _ _ ⟨_, _, _, _, bb, _, _, t, n, rfl, rfl, hv.chg cg (by rw [hz]; unfold f_X7_bowl; simp only [bd_x]) hg hm⟩
set_option maxRecDepth 100000 in
set_option maxHeartbeats 4000000 in
theorem lc_6 {l : Launch} {D : gD} {cy : Nat → ClassId} {J : JT va_W} {b Ls : Nat} {xs : Nat → Int32} {L : Nat → Nat → Nat} {ad : Nat → Nat} {k : Nat} {u : cS × cB} {v : mS} (hl : OKL l D cy J b Ls xs) (hLs : Ls ≤ 3072) (hk : 6 * k + 6 ≤ Ls) (hi : INV u v) (hx : NX cy L ad J b k) : J (CW cy L u ++ MW cy ad v) (352 + 40 * k, 4654 + 8880 * k) (lvL L ad b k) 408 [] := by
  have h := hl.ok
  obtain ⟨G, M, X, A, bb, Y, B, t, n, rfl, rfl, hv⟩ := hi
  refine j_aload_n h dL_law_408 rfl 2 rfl ?_
  refine j_aload_n h dL_law_409 rfl 1 rfl ?_
  refine j_iload_n h dL_law_410 rfl 0 rfl ?_
  refine j_iconst h (v := 1) dL_law_411 (by decide) ?_
  refine j_iadd h dL_law_412 ?_
  refine j_sld hl (6 * k + 1) (nI_add _ 1) (by omega) hLs dL_law_413 ?_
  refine j_fI h (n := 1) (c_X7_close l D cy L _ _ _ _ M _ hv.gi hv.k6 hv.f2) (wr := MW cy ad _) rfl (xg_V (xr_25 4 rfl) (xr_25 5 rfl) (xr_25 6 rfl) (xr_1 2 rfl) (xr_25 7 rfl)) rfl rfl (by decide +kernel) ⟨Nat.le_of_ble_eq_true rfl, Nat.le_of_ble_eq_true rfl⟩ (330 + 0) (ml_get 0) rfl rfl rfl rfl (Nat.le_of_ble_eq_true rfl) dL_law_414 ⟨by show 352 + 40 * k + 0 ≤ 600000; omega, by show 4654 + 8880 * k + 0 ≤ 7302250; omega⟩ (fun r u' hq => ?_)
  obtain ⟨z, hz, rfl, rfl, hg⟩ := hq
  refine j_aload_n h dL_law_417 rfl 3 rfl ?_
  refine j_aload_n h dL_law_418 rfl 1 rfl ?_
  refine j_iload_n h dL_law_419 rfl 0 rfl ?_
  refine j_iconst h (v := 1) dL_law_420 (by decide) ?_
  refine j_iadd h dL_law_421 ?_
  refine j_sld hl (6 * k + 1) (nI_add _ 1) (by omega) hLs dL_law_422 ?_
  refine j_bI h (n := 1) (c_X8_close l D cy ad _ _ _ hv.mi hv.y3) (wr := CW cy L _) rfl (xg_V (xr_26 17 rfl) (xr_26 18 rfl) (xr_26 19 rfl) (xr_1 5 rfl) (xr_26 20 rfl)) rfl rfl (by decide +kernel) ⟨Nat.le_of_ble_eq_true rfl, Nat.le_of_ble_eq_true rfl⟩ 0 rfl rfl rfl rfl rfl (Nat.le_of_ble_eq_true rfl) dL_law_423 ⟨by show 352 + 40 * k + 0 + 0 ≤ 600000; omega, by show 4654 + 8880 * k + 0 + 0 ≤ 7302250; omega⟩ (fun r2 v' hq2 => ?_)
  obtain ⟨w2, hw2, rfl, rfl, hm, -⟩ := hq2
  have cg : CHG G M X A Y B z w2 := by rw [hz, hw2]; exact C_close hv.1 _
  refine j_icmp_eq h (tgt := 1290) dL_law_426 (by decide) (fun _ => ?_) (fun q => absurd cg.1 q)
  refine j_widen h (k := 352 + 40 * (k + 1)) (n := 4654 + 8880 * (k + 1)) (by show 352 + 40 * k + 0 + 0 ≤ _; omega) (by show 4654 + 8880 * k + 0 + 0 ≤ _; omega) ?_
  exact hx _ _ ⟨_, _, _, _, bb, _, _, t, n, rfl, rfl, hv.chg cg (by rw [hz]; unfold f_X7_close; simp only [bd_x]) hg hm⟩
set_option maxRecDepth 100000 in
set_option maxHeartbeats 4000000 in
theorem lc_7 {l : Launch} {D : gD} {cy : Nat → ClassId} {J : JT va_W} {b Ls : Nat} {xs : Nat → Int32} {L : Nat → Nat → Nat} {ad : Nat → Nat} {k : Nat} {u : cS × cB} {v : mS} (hl : OKL l D cy J b Ls xs) (hLs : Ls ≤ 3072) (hk : 6 * k + 6 ≤ Ls) (hi : INV u v) (hx : NX cy L ad J b k) : J (CW cy L u ++ MW cy ad v) (352 + 40 * k, 4654 + 8880 * k) (lvL L ad b k) 431 [] := by
  have h := hl.ok
  obtain ⟨G, M, X, A, bb, Y, B, t, n, rfl, rfl, hv⟩ := hi
  refine j_aload_n h dL_law_431 rfl 2 rfl ?_
  refine j_aload_n h dL_law_432 rfl 1 rfl ?_
  refine j_iload_n h dL_law_433 rfl 0 rfl ?_
  refine j_iconst h (v := 1) dL_law_434 (by decide) ?_
  refine j_iadd h dL_law_435 ?_
  refine j_sld hl (6 * k + 1) (nI_add _ 1) (by omega) hLs dL_law_436 ?_
  refine j_fI h (n := 1) (c_X7_sweep l D cy L _ _ _ _ M _ hv.gi hv.k6 hv.f2) (wr := MW cy ad _) rfl (xg_V (xr_27 14 rfl) (xr_27 15 rfl) (xr_27 16 rfl) (xr_1 2 rfl) (xr_27 17 rfl)) rfl rfl (by decide +kernel) ⟨Nat.le_of_ble_eq_true rfl, Nat.le_of_ble_eq_true rfl⟩ (330 + 0) (ml_get 0) rfl rfl rfl rfl (Nat.le_of_ble_eq_true rfl) dL_law_437 ⟨by show 352 + 40 * k + 0 ≤ 600000; omega, by show 4654 + 8880 * k + 0 ≤ 7302250; omega⟩ (fun r u' hq => ?_)
  obtain ⟨z, hz, rfl, rfl, hg⟩ := hq
  refine j_aload_n h dL_law_440 rfl 3 rfl ?_
  refine j_aload_n h dL_law_441 rfl 1 rfl ?_
  refine j_iload_n h dL_law_442 rfl 0 rfl ?_
  refine j_iconst h (v := 1) dL_law_443 (by decide) ?_
  refine j_iadd h dL_law_444 ?_
  refine j_sld hl (6 * k + 1) (nI_add _ 1) (by omega) hLs dL_law_445 ?_
  refine j_bI h (n := 1) (c_X8_sweep l D cy ad _ _ _ hv.mi hv.y3) (wr := CW cy L _) rfl (xg_V (xr_28 5 rfl) (xr_28 6 rfl) (xr_28 7 rfl) (xr_1 5 rfl) (xr_28 8 rfl)) rfl rfl (by decide +kernel) ⟨Nat.le_of_ble_eq_true rfl, Nat.le_of_ble_eq_true rfl⟩ 0 rfl rfl rfl rfl rfl (Nat.le_of_ble_eq_true rfl) dL_law_446 ⟨by show 352 + 40 * k + 0 + 0 ≤ 600000; omega, by show 4654 + 8880 * k + 0 + 0 ≤ 7302250; omega⟩ (fun r2 v' hq2 => ?_)
  obtain ⟨w2, hw2, rfl, rfl, hm, -⟩ := hq2
  have cg : CHG G M X A Y B z w2 := by rw [hz, hw2]; exact C_sweep hv.1 _
  refine j_icmp_eq h (tgt := 1290) dL_law_449 (by decide) (fun _ => ?_) (fun q => absurd cg.1 q)
  refine j_widen h (k := 352 + 40 * (k + 1)) (n := 4654 + 8880 * (k + 1)) (by show 352 + 40 * k + 0 + 0 ≤ _; omega) (by show 4654 + 8880 * k + 0 + 0 ≤ _; omega) ?_
  exact hx _ _ ⟨_, _, _, _, bb, _, _, t, n, rfl, rfl, hv.chg cg (by rw [hz]; unfold f_X7_sweep; simp only [bd_x]) hg hm⟩
set_option maxRecDepth 100000 in
set_option maxHeartbeats 4000000 in
theorem lc_8 {l : Launch} {D : gD} {cy : Nat → ClassId} {J : JT va_W} {b Ls : Nat} {xs : Nat → Int32} {L : Nat → Nat → Nat} {ad : Nat → Nat} {k : Nat} {u : cS × cB} {v : mS} (hl : OKL l D cy J b Ls xs) (hLs : Ls ≤ 3072) (hk : 6 * k + 6 ≤ Ls) (hi : INV u v) (hx : NX cy L ad J b k) : J (CW cy L u ++ MW cy ad v) (352 + 40 * k, 4654 + 8880 * k) (lvL L ad b k) 454 [] := by
  have h := hl.ok
  obtain ⟨G, M, X, A, bb, Y, B, t, n, rfl, rfl, hv⟩ := hi
  refine j_aload_n h dL_law_454 rfl 2 rfl ?_
  refine j_aload_n h dL_law_455 rfl 1 rfl ?_
  refine j_iload_n h dL_law_456 rfl 0 rfl ?_
  refine j_iconst h (v := 1) dL_law_457 (by decide) ?_
  refine j_iadd h dL_law_458 ?_
  refine j_sld hl (6 * k + 1) (nI_add _ 1) (by omega) hLs dL_law_459 ?_
  refine j_fI h (n := 1) (c_X7_rain l D cy L _ _ _ _ M _ hv.gi hv.k6 hv.f2) (wr := MW cy ad _) rfl (xg_V (xr_28 13 rfl) (xr_28 14 rfl) (xr_28 15 rfl) (xr_1 2 rfl) (xr_28 16 rfl)) rfl rfl (by decide +kernel) ⟨Nat.le_of_ble_eq_true rfl, Nat.le_of_ble_eq_true rfl⟩ (330 + 0) (ml_get 0) rfl rfl rfl rfl (Nat.le_of_ble_eq_true rfl) dL_law_460 ⟨by show 352 + 40 * k + 0 ≤ 600000; omega, by show 4654 + 8880 * k + 0 ≤ 7302250; omega⟩ (fun r u' hq => ?_)
  obtain ⟨z, hz, rfl, rfl, hg⟩ := hq
  refine j_aload_n h dL_law_463 rfl 3 rfl ?_
  refine j_aload_n h dL_law_464 rfl 1 rfl ?_
  refine j_iload_n h dL_law_465 rfl 0 rfl ?_
  refine j_iconst h (v := 1) dL_law_466 (by decide) ?_
  refine j_iadd h dL_law_467 ?_
  refine j_sld hl (6 * k + 1) (nI_add _ 1) (by omega) hLs dL_law_468 ?_
  refine j_bI h (n := 1) (c_X8_rain l D cy ad _ _ _ hv.mi hv.y3) (wr := CW cy L _) rfl (xg_V (xr_29 1 rfl) (xr_29 2 rfl) (xr_29 3 rfl) (xr_1 5 rfl) (xr_29 4 rfl)) rfl rfl (by decide +kernel) ⟨Nat.le_of_ble_eq_true rfl, Nat.le_of_ble_eq_true rfl⟩ 0 rfl rfl rfl rfl rfl (Nat.le_of_ble_eq_true rfl) dL_law_469 ⟨by show 352 + 40 * k + 0 + 0 ≤ 600000; omega, by show 4654 + 8880 * k + 0 + 0 ≤ 7302250; omega⟩ (fun r2 v' hq2 => ?_)
  obtain ⟨w2, hw2, rfl, rfl, hm, -⟩ := hq2
  have cg : CHG G M X A Y B z w2 := by rw [hz, hw2]; exact C_rain hv.1 _
  refine j_icmp_eq h (tgt := 1290) dL_law_472 (by decide) (fun _ => ?_) (fun q => absurd cg.1 q)
  refine j_widen h (k := 352 + 40 * (k + 1)) (n := 4654 + 8880 * (k + 1)) (by show 352 + 40 * k + 0 + 0 ≤ _; omega) (by show 4654 + 8880 * k + 0 + 0 ≤ _; omega) ?_
  exact hx _ _ ⟨_, _, _, _, bb, _, _, t, n, rfl, rfl, hv.chg cg (by rw [hz]; unfold f_X7_rain; simp only [bd_x]) hg hm⟩
set_option maxRecDepth 100000 in
set_option maxHeartbeats 4000000 in
theorem lc_9 {l : Launch} {D : gD} {cy : Nat → ClassId} {J : JT va_W} {b Ls : Nat} {xs : Nat → Int32} {L : Nat → Nat → Nat} {ad : Nat → Nat} {k : Nat} {u : cS × cB} {v : mS} (hl : OKL l D cy J b Ls xs) (hLs : Ls ≤ 3072) (hk : 6 * k + 6 ≤ Ls) (hi : INV u v) (hx : NX cy L ad J b k) : J (CW cy L u ++ MW cy ad v) (352 + 40 * k, 4654 + 8880 * k) (lvL L ad b k) 477 [] := by
  have h := hl.ok
  obtain ⟨G, M, X, A, bb, Y, B, t, n, rfl, rfl, hv⟩ := hi
  refine j_aload_n h dL_law_477 rfl 2 rfl ?_
  refine j_aload_n h dL_law_478 rfl 1 rfl ?_
  refine j_iload_n h dL_law_479 rfl 0 rfl ?_
  refine j_iconst h (v := 1) dL_law_480 (by decide) ?_
  refine j_iadd h dL_law_481 ?_
  refine j_sld hl (6 * k + 1) (nI_add _ 1) (by omega) hLs dL_law_482 ?_
  refine j_fI h (n := 1) (c_X7_sun l D cy L _ _ _ _ M _ hv.gi hv.k6 hv.f2) (wr := MW cy ad _) rfl (xg_V (xr_29 9 rfl) (xr_29 10 rfl) (xr_29 11 rfl) (xr_1 2 rfl) (xr_29 12 rfl)) rfl rfl (by decide +kernel) ⟨Nat.le_of_ble_eq_true rfl, Nat.le_of_ble_eq_true rfl⟩ (330 + 0) (ml_get 0) rfl rfl rfl rfl (Nat.le_of_ble_eq_true rfl) dL_law_483 ⟨by show 352 + 40 * k + 0 ≤ 600000; omega, by show 4654 + 8880 * k + 0 ≤ 7302250; omega⟩ (fun r u' hq => ?_)
  obtain ⟨z, hz, rfl, rfl, hg⟩ := hq
  refine j_aload_n h dL_law_486 rfl 3 rfl ?_
  refine j_aload_n h dL_law_487 rfl 1 rfl ?_
  refine j_iload_n h dL_law_488 rfl 0 rfl ?_
  refine j_iconst h (v := 1) dL_law_489 (by decide) ?_
  refine j_iadd h dL_law_490 ?_
  refine j_sld hl (6 * k + 1) (nI_add _ 1) (by omega) hLs dL_law_491 ?_
  refine j_bI h (n := 1) (c_X8_sun l D cy ad _ _ _ hv.mi hv.y3) (wr := CW cy L _) rfl (xg_V (xr_29 18 rfl) (xr_29 19 rfl) (xr_29 20 rfl) (xr_1 5 rfl) (xr_29 21 rfl)) rfl rfl (by decide +kernel) ⟨Nat.le_of_ble_eq_true rfl, Nat.le_of_ble_eq_true rfl⟩ 0 rfl rfl rfl rfl rfl (Nat.le_of_ble_eq_true rfl) dL_law_492 ⟨by show 352 + 40 * k + 0 + 0 ≤ 600000; omega, by show 4654 + 8880 * k + 0 + 0 ≤ 7302250; omega⟩ (fun r2 v' hq2 => ?_)
  obtain ⟨w2, hw2, rfl, rfl, hm, -⟩ := hq2
  have cg : CHG G M X A Y B z w2 := by rw [hz, hw2]; exact C_sun hv.1 _
  refine j_icmp_eq h (tgt := 1290) dL_law_495 (by decide) (fun _ => ?_) (fun q => absurd cg.1 q)
  refine j_widen h (k := 352 + 40 * (k + 1)) (n := 4654 + 8880 * (k + 1)) (by show 352 + 40 * k + 0 + 0 ≤ _; omega) (by show 4654 + 8880 * k + 0 + 0 ≤ _; omega) ?_
  exact hx _ _ ⟨_, _, _, _, bb, _, _, t, n, rfl, rfl, hv.chg cg (by rw [hz]; unfold f_X7_sun; simp only [bd_x]) hg hm⟩
set_option maxRecDepth 100000 in
set_option maxHeartbeats 4000000 in
theorem lc_10 {l : Launch} {D : gD} {cy : Nat → ClassId} {J : JT va_W} {b Ls : Nat} {xs : Nat → Int32} {L : Nat → Nat → Nat} {ad : Nat → Nat} {k : Nat} {u : cS × cB} {v : mS} (hl : OKL l D cy J b Ls xs) (hLs : Ls ≤ 3072) (hk : 6 * k + 6 ≤ Ls) (hi : INV u v) (hx : NX cy L ad J b k) : J (CW cy L u ++ MW cy ad v) (352 + 40 * k, 4654 + 8880 * k) (lvL L ad b k) 500 [] := by
  have h := hl.ok
  obtain ⟨G, M, X, A, bb, Y, B, t, n, rfl, rfl, hv⟩ := hi
  refine j_aload_n h dL_law_500 rfl 2 rfl ?_
  refine j_aload_n h dL_law_501 rfl 1 rfl ?_
  refine j_iload_n h dL_law_502 rfl 0 rfl ?_
  refine j_iconst h (v := 1) dL_law_503 (by decide) ?_
  refine j_iadd h dL_law_504 ?_
  refine j_sld hl (6 * k + 1) (nI_add _ 1) (by omega) hLs dL_law_505 ?_
  refine j_fI h (n := 1) (c_X7_brew l D cy L _ _ _ _ M _ hv.gi hv.k6 hv.f2) (wr := MW cy ad _) rfl (xg_V (xr_29 22 rfl) (xr_29 23 rfl) (xr_30 0 rfl) (xr_1 2 rfl) (xr_30 1 rfl)) rfl rfl (by decide +kernel) ⟨Nat.le_of_ble_eq_true rfl, Nat.le_of_ble_eq_true rfl⟩ (330 + 0) (ml_get 0) rfl rfl rfl rfl (Nat.le_of_ble_eq_true rfl) dL_law_506 ⟨by show 352 + 40 * k + 0 ≤ 600000; omega, by show 4654 + 8880 * k + 0 ≤ 7302250; omega⟩ (fun r u' hq => ?_)
  obtain ⟨z, hz, rfl, rfl, hg⟩ := hq
  refine j_aload_n h dL_law_509 rfl 3 rfl ?_
  refine j_aload_n h dL_law_510 rfl 1 rfl ?_
  refine j_iload_n h dL_law_511 rfl 0 rfl ?_
  refine j_iconst h (v := 1) dL_law_512 (by decide) ?_
  refine j_iadd h dL_law_513 ?_
  refine j_sld hl (6 * k + 1) (nI_add _ 1) (by omega) hLs dL_law_514 ?_
  refine j_bI h (n := 1) (c_X8_brew l D cy ad _ _ _ hv.mi hv.y3) (wr := CW cy L _) rfl (xg_V (xr_30 7 rfl) (xr_30 8 rfl) (xr_30 9 rfl) (xr_1 5 rfl) (xr_30 10 rfl)) rfl rfl (by decide +kernel) ⟨Nat.le_of_ble_eq_true rfl, Nat.le_of_ble_eq_true rfl⟩ 0 rfl rfl rfl rfl rfl (Nat.le_of_ble_eq_true rfl) dL_law_515 ⟨by show 352 + 40 * k + 0 + 0 ≤ 600000; omega, by show 4654 + 8880 * k + 0 + 0 ≤ 7302250; omega⟩ (fun r2 v' hq2 => ?_)
  obtain ⟨w2, hw2, rfl, rfl, hm, -⟩ := hq2
  have cg : CHG G M X A Y B z w2 := by rw [hz, hw2]; exact C_brew hv.1 _
  refine j_icmp_eq h (tgt := 1290) dL_law_518 (by decide) (fun _ => ?_) (fun q => absurd cg.1 q)
  refine j_widen h (k := 352 + 40 * (k + 1)) (n := 4654 + 8880 * (k + 1)) (by show 352 + 40 * k + 0 + 0 ≤ _; omega) (by show 4654 + 8880 * k + 0 + 0 ≤ _; omega) ?_
  exact hx _ _ ⟨_, _, _, _, bb, _, _, t, n, rfl, rfl, hv.chg cg (by rw [hz]; unfold f_X7_brew; simp only [bd_x]) hg hm⟩
set_option maxRecDepth 100000 in
set_option maxHeartbeats 4000000 in
theorem lc_11 {l : Launch} {D : gD} {cy : Nat → ClassId} {J : JT va_W} {b Ls : Nat} {xs : Nat → Int32} {L : Nat → Nat → Nat} {ad : Nat → Nat} {k : Nat} {u : cS × cB} {v : mS} (hl : OKL l D cy J b Ls xs) (hLs : Ls ≤ 3072) (hk : 6 * k + 6 ≤ Ls) (hi : INV u v) (hx : NX cy L ad J b k) : J (CW cy L u ++ MW cy ad v) (352 + 40 * k, 4654 + 8880 * k) (lvL L ad b k) 523 [] := by
  have h := hl.ok
  obtain ⟨G, M, X, A, bb, Y, B, t, n, rfl, rfl, hv⟩ := hi
  refine j_aload_n h dL_law_523 rfl 2 rfl ?_
  refine j_aload_n h dL_law_524 rfl 1 rfl ?_
  refine j_iload_n h dL_law_525 rfl 0 rfl ?_
  refine j_iconst h (v := 1) dL_law_526 (by decide) ?_
  refine j_iadd h dL_law_527 ?_
  refine j_sld hl (6 * k + 1) (nI_add _ 1) (by omega) hLs dL_law_528 ?_
  refine j_fI h (n := 1) (c_X7_tea l D cy L _ _ _ _ M _ hv.gi hv.k6 hv.f2) (wr := MW cy ad _) rfl (xg_V (xr_30 11 rfl) (xr_30 12 rfl) (xr_30 13 rfl) (xr_1 2 rfl) (xr_30 14 rfl)) rfl rfl (by decide +kernel) ⟨Nat.le_of_ble_eq_true rfl, Nat.le_of_ble_eq_true rfl⟩ (330 + 0) (ml_get 0) rfl rfl rfl rfl (Nat.le_of_ble_eq_true rfl) dL_law_529 ⟨by show 352 + 40 * k + 0 ≤ 600000; omega, by show 4654 + 8880 * k + 0 ≤ 7302250; omega⟩ (fun r u' hq => ?_)
  obtain ⟨z, hz, rfl, rfl, hg⟩ := hq
  refine j_aload_n h dL_law_532 rfl 3 rfl ?_
  refine j_aload_n h dL_law_533 rfl 1 rfl ?_
  refine j_iload_n h dL_law_534 rfl 0 rfl ?_
  refine j_iconst h (v := 1) dL_law_535 (by decide) ?_
  refine j_iadd h dL_law_536 ?_
  refine j_sld hl (6 * k + 1) (nI_add _ 1) (by omega) hLs dL_law_537 ?_
  refine j_bI h (n := 1) (c_X8_tea l D cy ad _ _ _ hv.mi hv.y3) (wr := CW cy L _) rfl (xg_V (xr_30 21 rfl) (xr_30 22 rfl) (xr_30 23 rfl) (xr_1 5 rfl) (xr_31 0 rfl)) rfl rfl (by decide +kernel) ⟨Nat.le_of_ble_eq_true rfl, Nat.le_of_ble_eq_true rfl⟩ 0 rfl rfl rfl rfl rfl (Nat.le_of_ble_eq_true rfl) dL_law_538 ⟨by show 352 + 40 * k + 0 + 0 ≤ 600000; omega, by show 4654 + 8880 * k + 0 + 0 ≤ 7302250; omega⟩ (fun r2 v' hq2 => ?_)
  obtain ⟨w2, hw2, rfl, rfl, hm, -⟩ := hq2
  have cg : CHG G M X A Y B z w2 := by rw [hz, hw2]; exact C_tea hv.1 _
  refine j_icmp_eq h (tgt := 1290) dL_law_541 (by decide) (fun _ => ?_) (fun q => absurd cg.1 q)
  refine j_widen h (k := 352 + 40 * (k + 1)) (n := 4654 + 8880 * (k + 1)) (by show 352 + 40 * k + 0 + 0 ≤ _; omega) (by show 4654 + 8880 * k + 0 + 0 ≤ _; omega) ?_
  exact hx _ _ ⟨_, _, _, _, bb, _, _, t, n, rfl, rfl, hv.chg cg (by rw [hz]; unfold f_X7_tea; simp only [bd_x]) hg hm⟩
set_option maxRecDepth 100000 in
set_option maxHeartbeats 4000000 in
theorem lc_12 {l : Launch} {D : gD} {cy : Nat → ClassId} {J : JT va_W} {b Ls : Nat} {xs : Nat → Int32} {L : Nat → Nat → Nat} {ad : Nat → Nat} {k : Nat} {u : cS × cB} {v : mS} (hl : OKL l D cy J b Ls xs) (hLs : Ls ≤ 3072) (hk : 6 * k + 6 ≤ Ls) (hi : INV u v) (hx : NX cy L ad J b k) : J (CW cy L u ++ MW cy ad v) (352 + 40 * k, 4654 + 8880 * k) (lvL L ad b k) 546 [] := by
  have h := hl.ok
  obtain ⟨G, M, X, A, bb, Y, B, t, n, rfl, rfl, hv⟩ := hi
  refine j_aload_n h dL_law_546 rfl 2 rfl ?_
  refine j_aload_n h dL_law_547 rfl 1 rfl ?_
  refine j_iload_n h dL_law_548 rfl 0 rfl ?_
  refine j_iconst h (v := 1) dL_law_549 (by decide) ?_
  refine j_iadd h dL_law_550 ?_
  refine j_sld hl (6 * k + 1) (nI_add _ 1) (by omega) hLs dL_law_551 ?_
  refine j_fI h (n := 1) (c_X7_hour l D cy L _ _ _ _ M _ hv.gi hv.k6 hv.f2) (wr := MW cy ad _) rfl (xg_V (xr_31 5 rfl) (xr_31 6 rfl) (xr_31 7 rfl) (xr_1 2 rfl) (xr_31 8 rfl)) rfl rfl (by decide +kernel) ⟨Nat.le_of_ble_eq_true rfl, Nat.le_of_ble_eq_true rfl⟩ (330 + 0) (ml_get 0) rfl rfl rfl rfl (Nat.le_of_ble_eq_true rfl) dL_law_552 ⟨by show 352 + 40 * k + 0 ≤ 600000; omega, by show 4654 + 8880 * k + 0 ≤ 7302250; omega⟩ (fun r u' hq => ?_)
  obtain ⟨z, hz, rfl, rfl, hg⟩ := hq
  refine j_aload_n h dL_law_555 rfl 3 rfl ?_
  refine j_aload_n h dL_law_556 rfl 1 rfl ?_
  refine j_iload_n h dL_law_557 rfl 0 rfl ?_
  refine j_iconst h (v := 1) dL_law_558 (by decide) ?_
  refine j_iadd h dL_law_559 ?_
  refine j_sld hl (6 * k + 1) (nI_add _ 1) (by omega) hLs dL_law_560 ?_
  refine j_bI h (n := 1) (c_X8_hour l D cy ad _ _ _ hv.mi hv.y3) (wr := CW cy L _) rfl (xg_V (xr_32 3 rfl) (xr_32 4 rfl) (xr_32 5 rfl) (xr_1 5 rfl) (xr_32 6 rfl)) rfl rfl (by decide +kernel) ⟨Nat.le_of_ble_eq_true rfl, Nat.le_of_ble_eq_true rfl⟩ 0 rfl rfl rfl rfl rfl (Nat.le_of_ble_eq_true rfl) dL_law_561 ⟨by show 352 + 40 * k + 0 + 0 ≤ 600000; omega, by show 4654 + 8880 * k + 0 + 0 ≤ 7302250; omega⟩ (fun r2 v' hq2 => ?_)
  obtain ⟨w2, hw2, rfl, rfl, hm, -⟩ := hq2
  have cg : CHG G M X A Y B z w2 := by rw [hz, hw2]; exact C_hour hv.1 _
  refine j_icmp_eq h (tgt := 1290) dL_law_564 (by decide) (fun _ => ?_) (fun q => absurd cg.1 q)
  refine j_widen h (k := 352 + 40 * (k + 1)) (n := 4654 + 8880 * (k + 1)) (by show 352 + 40 * k + 0 + 0 ≤ _; omega) (by show 4654 + 8880 * k + 0 + 0 ≤ _; omega) ?_
  exact hx _ _ ⟨_, _, _, _, bb, _, _, t, n, rfl, rfl, hv.chg cg (by rw [hz]; unfold f_X7_hour; simp only [bd_x]) hg hm⟩
set_option maxRecDepth 100000 in
set_option maxHeartbeats 4000000 in
theorem lc_13 {l : Launch} {D : gD} {cy : Nat → ClassId} {J : JT va_W} {b Ls : Nat} {xs : Nat → Int32} {L : Nat → Nat → Nat} {ad : Nat → Nat} {k : Nat} {u : cS × cB} {v : mS} (hl : OKL l D cy J b Ls xs) (hLs : Ls ≤ 3072) (hk : 6 * k + 6 ≤ Ls) (hi : INV u v) (hx : NX cy L ad J b k) : J (CW cy L u ++ MW cy ad v) (352 + 40 * k, 4654 + 8880 * k) (lvL L ad b k) 569 [] := by
  have h := hl.ok
  obtain ⟨G, M, X, A, bb, Y, B, t, n, rfl, rfl, hv⟩ := hi
  refine j_aload_n h dL_law_569 rfl 2 rfl ?_
  refine j_fI h (n := 0) (c_X7_script l D cy L _ _ _ _ M hv.gi hv.k6 hv.f2 hv.gf hv.inp) (wr := MW cy ad _) rfl (xg_V (xr_32 19 rfl) (xr_32 20 rfl) (xr_32 21 rfl) (xr_1 2 rfl) (xr_32 22 rfl)) rfl rfl (by decide +kernel) ⟨Nat.le_of_ble_eq_true rfl, Nat.le_of_ble_eq_true rfl⟩ (330 + 0) (ml_get 0) rfl rfl rfl rfl (Nat.le_of_ble_eq_true rfl) dL_law_570 ⟨by show 352 + 40 * k + 0 ≤ 600000; omega, by show 4654 + 8880 * k + 0 ≤ 7302250; omega⟩ (fun r u' hq => ?_)
  obtain ⟨a1, f1, z, rfl, rfl, rfl, q3, hg⟩ := hq
  refine j_aload_n h dL_law_573 rfl 3 rfl ?_
  refine j_bI h (n := 0) (c_X8_script2 l D cy ad _ _ hv.mi hv.y3 hv.y9) (wr := CW cy L _) rfl (xg_V (xr_38 8 rfl) (xr_38 9 rfl) (xr_38 10 rfl) (xr_1 5 rfl) (xr_38 11 rfl)) rfl rfl (by decide +kernel) ⟨Nat.le_of_ble_eq_true rfl, Nat.le_of_ble_eq_true rfl⟩ 0 rfl rfl rfl rfl rfl (Nat.le_of_ble_eq_true rfl) dL_law_574 ⟨by show 352 + 40 * k + 0 + 0 ≤ 600000; omega, by show 4654 + 8880 * k + 0 + 0 ≤ 7302250; omega⟩ (fun r2 v' hq2 => ?_)
  obtain ⟨w2, rfl, rfl, rfl, hm⟩ := hq2
  obtain ⟨i1, i2⟩ := hv.scr (a1 := a1) q3 hg hm
  refine j_icmp_eq h (tgt := 1290) dL_law_577 (by decide) (fun _ => ?_) (fun q => absurd i1 q)
  refine j_widen h (k := 352 + 40 * (k + 1)) (n := 4654 + 8880 * (k + 1)) (by show 352 + 40 * k + 0 + 0 ≤ _; omega) (by show 4654 + 8880 * k + 0 + 0 ≤ _; omega) ?_
  exact hx _ _ i2
set_option maxRecDepth 100000 in
set_option maxHeartbeats 4000000 in
theorem lc_14 {l : Launch} {D : gD} {cy : Nat → ClassId} {J : JT va_W} {b Ls : Nat} {xs : Nat → Int32} {L : Nat → Nat → Nat} {ad : Nat → Nat} {k : Nat} {u : cS × cB} {v : mS} (hl : OKL l D cy J b Ls xs) (hLs : Ls ≤ 3072) (hk : 6 * k + 6 ≤ Ls) (hi : INV u v) (hx : NX cy L ad J b k) : J (CW cy L u ++ MW cy ad v) (352 + 40 * k, 4654 + 8880 * k) (lvL L ad b k) 582 [] := by
  have h := hl.ok
  obtain ⟨G, M, X, A, bb, Y, B, t, n, rfl, rfl, hv⟩ := hi
  refine j_aload_n h dL_law_582 rfl 2 rfl ?_
  refine j_fI h (n := 0) (c_X7_fault l D cy L _ _ _ _ M) (wr := MW cy ad _) rfl (xg_V (xr_39 15 rfl) (xr_39 16 rfl) (xr_39 17 rfl) (xr_1 2 rfl) (xr_39 18 rfl)) rfl rfl (by decide +kernel) ⟨Nat.le_of_ble_eq_true rfl, Nat.le_of_ble_eq_true rfl⟩ (330 + 0) (ml_get 0) rfl rfl rfl rfl (Nat.le_of_ble_eq_true rfl) dL_law_583 ⟨by show 352 + 40 * k + 0 ≤ 600000; omega, by show 4654 + 8880 * k + 0 ≤ 7302250; omega⟩ (fun r u' hq => ?_)
  obtain ⟨rfl, rfl⟩ := hq
  refine j_aload_n h dL_law_586 rfl 3 rfl ?_
  refine j_bI h (n := 0) (c_X8_fault l D cy ad _ _) (wr := CW cy L _) rfl (xg_V (xr_39 19 rfl) (xr_39 20 rfl) (xr_39 21 rfl) (xr_1 5 rfl) (xr_39 22 rfl)) rfl rfl (by decide +kernel) ⟨Nat.le_of_ble_eq_true rfl, Nat.le_of_ble_eq_true rfl⟩ 0 rfl rfl rfl rfl rfl (Nat.le_of_ble_eq_true rfl) dL_law_587 ⟨by show 352 + 40 * k + 0 + 0 ≤ 600000; omega, by show 4654 + 8880 * k + 0 + 0 ≤ 7302250; omega⟩ (fun r2 v' hq2 => ?_)
  obtain ⟨rfl, rfl⟩ := hq2
  refine j_icmp_eq h (tgt := 1290) dL_law_590 (by decide) (fun _ => ?_) (fun q => absurd hv.1.2.2.2.2 q)
  refine j_widen h (k := 352 + 40 * (k + 1)) (n := 4654 + 8880 * (k + 1)) (by show 352 + 40 * k + 0 + 0 ≤ _; omega) (by show 4654 + 8880 * k + 0 + 0 ≤ _; omega) ?_
  exact hx _ _ ⟨G, M, X, A, bb, Y, B, t, n, rfl, rfl, hv⟩
set_option maxRecDepth 100000 in
set_option maxHeartbeats 4000000 in
theorem lc_15 {l : Launch} {D : gD} {cy : Nat → ClassId} {J : JT va_W} {b Ls : Nat} {xs : Nat → Int32} {L : Nat → Nat → Nat} {ad : Nat → Nat} {k : Nat} {u : cS × cB} {v : mS} (hl : OKL l D cy J b Ls xs) (hLs : Ls ≤ 3072) (hk : 6 * k + 6 ≤ Ls) (hi : INV u v) (hx : NX cy L ad J b k) : J (CW cy L u ++ MW cy ad v) (352 + 40 * k, 4654 + 8880 * k) (lvL L ad b k) 595 [] := by
  have h := hl.ok
  obtain ⟨G, M, X, A, bb, Y, B, t, n, rfl, rfl, hv⟩ := hi
  refine j_aload_n h dL_law_595 rfl 2 rfl ?_
  refine j_aload_n h dL_law_596 rfl 1 rfl ?_
  refine j_iload_n h dL_law_597 rfl 0 rfl ?_
  refine j_iconst h (v := 1) dL_law_598 (by decide) ?_
  refine j_iadd h dL_law_599 ?_
  refine j_sld hl (6 * k + 1) (nI_add _ 1) (by omega) hLs dL_law_600 ?_
  refine j_aload_n h dL_law_601 rfl 1 rfl ?_
  refine j_iload_n h dL_law_602 rfl 0 rfl ?_
  refine j_iconst h (v := 2) dL_law_603 (by decide) ?_
  refine j_iadd h dL_law_604 ?_
  refine j_sld hl (6 * k + 2) (nI_add _ 2) (by omega) hLs dL_law_605 ?_
  by_cases cb : (xs (6 * k + 2)) = 0
  · refine j_if_eq h (tgt := 613) dL_law_606 (by decide) (fun _ => ?_) (fun c => absurd cb c)
    refine j_iconst h (v := 0) dL_law_613 (by decide) ?_
    refine j_fI h (n := 2) (c_X7_reason l D cy L _ _ _ _ M _ _ hv.k6) (wr := MW cy ad _) rfl (xg_V (xr_39 23 rfl) (xr_40 0 rfl) (xr_40 1 rfl) (xr_1 2 rfl) (xr_40 2 rfl)) rfl rfl (by decide +kernel) ⟨Nat.le_of_ble_eq_true rfl, Nat.le_of_ble_eq_true rfl⟩ (330 + 0) (ml_get 0) rfl rfl rfl rfl (Nat.le_of_ble_eq_true rfl) dL_law_614 ⟨by show 352 + 40 * k + 0 ≤ 600000; omega, by show 4654 + 8880 * k + 0 ≤ 7302250; omega⟩ (fun r u' hq => ?_)
    obtain ⟨rfl, rfl⟩ := hq
    refine j_aload_n h dL_law_617 rfl 3 rfl ?_
    refine j_aload_n h dL_law_618 rfl 1 rfl ?_
    refine j_iload_n h dL_law_619 rfl 0 rfl ?_
    refine j_iconst h (v := 1) dL_law_620 (by decide) ?_
    refine j_iadd h dL_law_621 ?_
    refine j_sld hl (6 * k + 1) (nI_add _ 1) (by omega) hLs dL_law_622 ?_
    refine j_aload_n h dL_law_623 rfl 1 rfl ?_
    refine j_iload_n h dL_law_624 rfl 0 rfl ?_
    refine j_iconst h (v := 2) dL_law_625 (by decide) ?_
    refine j_iadd h dL_law_626 ?_
    refine j_sld hl (6 * k + 2) (nI_add _ 2) (by omega) hLs dL_law_627 ?_
    refine j_if_eq h (tgt := 635) dL_law_628 (by decide) (fun _ => ?_) (fun c => absurd cb c)
    refine j_iconst h (v := 0) dL_law_635 (by decide) ?_
    refine j_bI h (n := 2) (c_X8_reason l D cy ad _ _ _ _ hv.y16) (wr := CW cy L _) rfl (xg_V (xr_40 7 rfl) (xr_40 8 rfl) (xr_40 9 rfl) (xr_1 5 rfl) (xr_40 10 rfl)) rfl rfl (by decide +kernel) ⟨Nat.le_of_ble_eq_true rfl, Nat.le_of_ble_eq_true rfl⟩ 0 rfl rfl rfl rfl rfl (Nat.le_of_ble_eq_true rfl) dL_law_636 ⟨by show 352 + 40 * k + 0 + 0 ≤ 600000; omega, by show 4654 + 8880 * k + 0 + 0 ≤ 7302250; omega⟩ (fun r2 v' hq2 => ?_)
    obtain ⟨rfl, rfl⟩ := hq2
    refine j_icmp_eq h (tgt := 1290) dL_law_639 (by decide) (fun _ => ?_) (fun q => absurd (Q_reason (M := M) hv.rs _ _).symm q)
    refine j_widen h (k := 352 + 40 * (k + 1)) (n := 4654 + 8880 * (k + 1)) (by show 352 + 40 * k + 0 + 0 ≤ _; omega) (by show 4654 + 8880 * k + 0 + 0 ≤ _; omega) ?_
    exact hx _ _ ⟨G, M, X, A, bb, Y, B, t, n, rfl, rfl, hv⟩
  · refine j_if_eq h (tgt := 613) dL_law_606 (by decide) (fun c => absurd c cb) (fun _ => ?_)
    refine j_iconst h (v := 1) dL_law_609 (by decide) ?_
    refine j_goto h (tgt := 614) dL_law_610 (by decide) ?_
    refine j_fI h (n := 2) (c_X7_reason l D cy L _ _ _ _ M _ _ hv.k6) (wr := MW cy ad _) rfl (xg_V (xr_39 23 rfl) (xr_40 0 rfl) (xr_40 1 rfl) (xr_1 2 rfl) (xr_40 2 rfl)) rfl rfl (by decide +kernel) ⟨Nat.le_of_ble_eq_true rfl, Nat.le_of_ble_eq_true rfl⟩ (330 + 0) (ml_get 0) rfl rfl rfl rfl (Nat.le_of_ble_eq_true rfl) dL_law_614 ⟨by show 352 + 40 * k + 0 ≤ 600000; omega, by show 4654 + 8880 * k + 0 ≤ 7302250; omega⟩ (fun r u' hq => ?_)
    obtain ⟨rfl, rfl⟩ := hq
    refine j_aload_n h dL_law_617 rfl 3 rfl ?_
    refine j_aload_n h dL_law_618 rfl 1 rfl ?_
    refine j_iload_n h dL_law_619 rfl 0 rfl ?_
    refine j_iconst h (v := 1) dL_law_620 (by decide) ?_
    refine j_iadd h dL_law_621 ?_
    refine j_sld hl (6 * k + 1) (nI_add _ 1) (by omega) hLs dL_law_622 ?_
    refine j_aload_n h dL_law_623 rfl 1 rfl ?_
    refine j_iload_n h dL_law_624 rfl 0 rfl ?_
    refine j_iconst h (v := 2) dL_law_625 (by decide) ?_
    refine j_iadd h dL_law_626 ?_
    refine j_sld hl (6 * k + 2) (nI_add _ 2) (by omega) hLs dL_law_627 ?_
    refine j_if_eq h (tgt := 635) dL_law_628 (by decide) (fun c => absurd c cb) (fun _ => ?_)
    refine j_iconst h (v := 1) dL_law_631 (by decide) ?_
    refine j_goto h (tgt := 636) dL_law_632 (by decide) ?_
    refine j_bI h (n := 2) (c_X8_reason l D cy ad _ _ _ _ hv.y16) (wr := CW cy L _) rfl (xg_V (xr_40 7 rfl) (xr_40 8 rfl) (xr_40 9 rfl) (xr_1 5 rfl) (xr_40 10 rfl)) rfl rfl (by decide +kernel) ⟨Nat.le_of_ble_eq_true rfl, Nat.le_of_ble_eq_true rfl⟩ 0 rfl rfl rfl rfl rfl (Nat.le_of_ble_eq_true rfl) dL_law_636 ⟨by show 352 + 40 * k + 0 + 0 ≤ 600000; omega, by show 4654 + 8880 * k + 0 + 0 ≤ 7302250; omega⟩ (fun r2 v' hq2 => ?_)
    obtain ⟨rfl, rfl⟩ := hq2
    refine j_icmp_eq h (tgt := 1290) dL_law_639 (by decide) (fun _ => ?_) (fun q => absurd (Q_reason (M := M) hv.rs _ _).symm q)
    refine j_widen h (k := 352 + 40 * (k + 1)) (n := 4654 + 8880 * (k + 1)) (by show 352 + 40 * k + 0 + 0 ≤ _; omega) (by show 4654 + 8880 * k + 0 + 0 ≤ _; omega) ?_
    exact hx _ _ ⟨G, M, X, A, bb, Y, B, t, n, rfl, rfl, hv⟩
set_option maxRecDepth 100000 in
set_option maxHeartbeats 4000000 in
theorem lc_16 {l : Launch} {D : gD} {cy : Nat → ClassId} {J : JT va_W} {b Ls : Nat} {xs : Nat → Int32} {L : Nat → Nat → Nat} {ad : Nat → Nat} {k : Nat} {u : cS × cB} {v : mS} (hl : OKL l D cy J b Ls xs) (hLs : Ls ≤ 3072) (hk : 6 * k + 6 ≤ Ls) (hi : INV u v) (hx : NX cy L ad J b k) : J (CW cy L u ++ MW cy ad v) (352 + 40 * k, 4654 + 8880 * k) (lvL L ad b k) 644 [] := by
  have h := hl.ok
  obtain ⟨G, M, X, A, bb, Y, B, t, n, rfl, rfl, hv⟩ := hi
  refine j_aload_n h dL_law_644 rfl 2 rfl ?_
  refine j_aload_n h dL_law_645 rfl 1 rfl ?_
  refine j_iload_n h dL_law_646 rfl 0 rfl ?_
  refine j_iconst h (v := 1) dL_law_647 (by decide) ?_
  refine j_iadd h dL_law_648 ?_
  refine j_sld hl (6 * k + 1) (nI_add _ 1) (by omega) hLs dL_law_649 ?_
  refine j_aload_n h dL_law_650 rfl 1 rfl ?_
  refine j_iload_n h dL_law_651 rfl 0 rfl ?_
  refine j_iconst h (v := 2) dL_law_652 (by decide) ?_
  refine j_iadd h dL_law_653 ?_
  refine j_sld hl (6 * k + 2) (nI_add _ 2) (by omega) hLs dL_law_654 ?_
  refine j_fI h (n := 2) (c_X7_rinkOf l D cy L _ _ _ _ M _ _ hv.gi) (wr := MW cy ad _) rfl (xg_V (xr_40 11 rfl) (xr_40 12 rfl) (xr_40 13 rfl) (xr_1 2 rfl) (xr_40 14 rfl)) rfl rfl (by decide +kernel) ⟨Nat.le_of_ble_eq_true rfl, Nat.le_of_ble_eq_true rfl⟩ (330 + 0) (ml_get 0) rfl rfl rfl rfl (Nat.le_of_ble_eq_true rfl) dL_law_655 ⟨by show 352 + 40 * k + 0 ≤ 600000; omega, by show 4654 + 8880 * k + 0 ≤ 7302250; omega⟩ (fun r u' hq => ?_)
  obtain ⟨rfl, rfl⟩ := hq
  refine j_aload_n h dL_law_658 rfl 3 rfl ?_
  refine j_aload_n h dL_law_659 rfl 1 rfl ?_
  refine j_iload_n h dL_law_660 rfl 0 rfl ?_
  refine j_iconst h (v := 1) dL_law_661 (by decide) ?_
  refine j_iadd h dL_law_662 ?_
  refine j_sld hl (6 * k + 1) (nI_add _ 1) (by omega) hLs dL_law_663 ?_
  refine j_aload_n h dL_law_664 rfl 1 rfl ?_
  refine j_iload_n h dL_law_665 rfl 0 rfl ?_
  refine j_iconst h (v := 2) dL_law_666 (by decide) ?_
  refine j_iadd h dL_law_667 ?_
  refine j_sld hl (6 * k + 2) (nI_add _ 2) (by omega) hLs dL_law_668 ?_
  refine j_bI h (n := 2) (c_X8_rinkOf l D cy ad _ _ _ _ hv.mi) (wr := CW cy L _) rfl (xg_V (xr_40 22 rfl) (xr_40 23 rfl) (xr_41 0 rfl) (xr_1 5 rfl) (xr_41 1 rfl)) rfl rfl (by decide +kernel) ⟨Nat.le_of_ble_eq_true rfl, Nat.le_of_ble_eq_true rfl⟩ 0 rfl rfl rfl rfl rfl (Nat.le_of_ble_eq_true rfl) dL_law_669 ⟨by show 352 + 40 * k + 0 + 0 ≤ 600000; omega, by show 4654 + 8880 * k + 0 + 0 ≤ 7302250; omega⟩ (fun r2 v' hq2 => ?_)
  obtain ⟨rfl, rfl⟩ := hq2
  refine j_icmp_eq h (tgt := 1290) dL_law_672 (by decide) (fun _ => ?_) (fun q => absurd (Q_rinkOf (X1 := X) (A1 := A) hv.gr _ _).symm q)
  refine j_widen h (k := 352 + 40 * (k + 1)) (n := 4654 + 8880 * (k + 1)) (by show 352 + 40 * k + 0 + 0 ≤ _; omega) (by show 4654 + 8880 * k + 0 + 0 ≤ _; omega) ?_
  exact hx _ _ ⟨G, M, X, A, bb, Y, B, t, n, rfl, rfl, hv⟩
set_option maxRecDepth 100000 in
set_option maxHeartbeats 4000000 in
theorem lc_17 {l : Launch} {D : gD} {cy : Nat → ClassId} {J : JT va_W} {b Ls : Nat} {xs : Nat → Int32} {L : Nat → Nat → Nat} {ad : Nat → Nat} {k : Nat} {u : cS × cB} {v : mS} (hl : OKL l D cy J b Ls xs) (hLs : Ls ≤ 3072) (hk : 6 * k + 6 ≤ Ls) (hi : INV u v) (hx : NX cy L ad J b k) : J (CW cy L u ++ MW cy ad v) (352 + 40 * k, 4654 + 8880 * k) (lvL L ad b k) 677 [] := by
  have h := hl.ok
  obtain ⟨G, M, X, A, bb, Y, B, t, n, rfl, rfl, hv⟩ := hi
  refine j_aload_n h dL_law_677 rfl 2 rfl ?_
  refine j_aload_n h dL_law_678 rfl 1 rfl ?_
  refine j_iload_n h dL_law_679 rfl 0 rfl ?_
  refine j_iconst h (v := 1) dL_law_680 (by decide) ?_
  refine j_iadd h dL_law_681 ?_
  refine j_sld hl (6 * k + 1) (nI_add _ 1) (by omega) hLs dL_law_682 ?_
  refine j_aload_n h dL_law_683 rfl 1 rfl ?_
  refine j_iload_n h dL_law_684 rfl 0 rfl ?_
  refine j_iconst h (v := 2) dL_law_685 (by decide) ?_
  refine j_iadd h dL_law_686 ?_
  refine j_sld hl (6 * k + 2) (nI_add _ 2) (by omega) hLs dL_law_687 ?_
  refine j_fI h (n := 2) (c_X7_woodOf l D cy L _ _ _ _ M _ _ hv.gi) (wr := MW cy ad _) rfl (xg_V (xr_41 6 rfl) (xr_41 7 rfl) (xr_41 8 rfl) (xr_1 2 rfl) (xr_41 9 rfl)) rfl rfl (by decide +kernel) ⟨Nat.le_of_ble_eq_true rfl, Nat.le_of_ble_eq_true rfl⟩ (330 + 0) (ml_get 0) rfl rfl rfl rfl (Nat.le_of_ble_eq_true rfl) dL_law_688 ⟨by show 352 + 40 * k + 0 ≤ 600000; omega, by show 4654 + 8880 * k + 0 ≤ 7302250; omega⟩ (fun r u' hq => ?_)
  obtain ⟨rfl, rfl⟩ := hq
  refine j_aload_n h dL_law_691 rfl 3 rfl ?_
  refine j_aload_n h dL_law_692 rfl 1 rfl ?_
  refine j_iload_n h dL_law_693 rfl 0 rfl ?_
  refine j_iconst h (v := 1) dL_law_694 (by decide) ?_
  refine j_iadd h dL_law_695 ?_
  refine j_sld hl (6 * k + 1) (nI_add _ 1) (by omega) hLs dL_law_696 ?_
  refine j_aload_n h dL_law_697 rfl 1 rfl ?_
  refine j_iload_n h dL_law_698 rfl 0 rfl ?_
  refine j_iconst h (v := 2) dL_law_699 (by decide) ?_
  refine j_iadd h dL_law_700 ?_
  refine j_sld hl (6 * k + 2) (nI_add _ 2) (by omega) hLs dL_law_701 ?_
  refine j_bI h (n := 2) (c_X8_woodOf l D cy ad _ _ _ _ hv.mi) (wr := CW cy L _) rfl (xg_V (xr_41 11 rfl) (xr_41 12 rfl) (xr_41 13 rfl) (xr_1 5 rfl) (xr_41 14 rfl)) rfl rfl (by decide +kernel) ⟨Nat.le_of_ble_eq_true rfl, Nat.le_of_ble_eq_true rfl⟩ 0 rfl rfl rfl rfl rfl (Nat.le_of_ble_eq_true rfl) dL_law_702 ⟨by show 352 + 40 * k + 0 + 0 ≤ 600000; omega, by show 4654 + 8880 * k + 0 + 0 ≤ 7302250; omega⟩ (fun r2 v' hq2 => ?_)
  obtain ⟨rfl, rfl⟩ := hq2
  refine j_icmp_eq h (tgt := 1290) dL_law_705 (by decide) (fun _ => ?_) (fun q => absurd (Q_woodOf (X1 := X) (A1 := A) hv.gr _ _).symm q)
  refine j_widen h (k := 352 + 40 * (k + 1)) (n := 4654 + 8880 * (k + 1)) (by show 352 + 40 * k + 0 + 0 ≤ _; omega) (by show 4654 + 8880 * k + 0 + 0 ≤ _; omega) ?_
  exact hx _ _ ⟨G, M, X, A, bb, Y, B, t, n, rfl, rfl, hv⟩
set_option maxRecDepth 100000 in
set_option maxHeartbeats 4000000 in
theorem lc_18 {l : Launch} {D : gD} {cy : Nat → ClassId} {J : JT va_W} {b Ls : Nat} {xs : Nat → Int32} {L : Nat → Nat → Nat} {ad : Nat → Nat} {k : Nat} {u : cS × cB} {v : mS} (hl : OKL l D cy J b Ls xs) (hLs : Ls ≤ 3072) (hk : 6 * k + 6 ≤ Ls) (hi : INV u v) (hx : NX cy L ad J b k) : J (CW cy L u ++ MW cy ad v) (352 + 40 * k, 4654 + 8880 * k) (lvL L ad b k) 710 [] := by
  have h := hl.ok
  obtain ⟨G, M, X, A, bb, Y, B, t, n, rfl, rfl, hv⟩ := hi
  refine j_aload_n h dL_law_710 rfl 2 rfl ?_
  refine j_aload_n h dL_law_711 rfl 1 rfl ?_
  refine j_iload_n h dL_law_712 rfl 0 rfl ?_
  refine j_iconst h (v := 1) dL_law_713 (by decide) ?_
  refine j_iadd h dL_law_714 ?_
  refine j_sld hl (6 * k + 1) (nI_add _ 1) (by omega) hLs dL_law_715 ?_
  refine j_aload_n h dL_law_716 rfl 1 rfl ?_
  refine j_iload_n h dL_law_717 rfl 0 rfl ?_
  refine j_iconst h (v := 2) dL_law_718 (by decide) ?_
  refine j_iadd h dL_law_719 ?_
  refine j_sld hl (6 * k + 2) (nI_add _ 2) (by omega) hLs dL_law_720 ?_
  refine j_fI h (n := 2) (c_X7_clubOf l D cy L _ _ _ _ M _ _ hv.gi) (wr := MW cy ad _) rfl (xg_V (xr_41 15 rfl) (xr_41 16 rfl) (xr_41 17 rfl) (xr_1 2 rfl) (xr_41 18 rfl)) rfl rfl (by decide +kernel) ⟨Nat.le_of_ble_eq_true rfl, Nat.le_of_ble_eq_true rfl⟩ (330 + 0) (ml_get 0) rfl rfl rfl rfl (Nat.le_of_ble_eq_true rfl) dL_law_721 ⟨by show 352 + 40 * k + 0 ≤ 600000; omega, by show 4654 + 8880 * k + 0 ≤ 7302250; omega⟩ (fun r u' hq => ?_)
  obtain ⟨rfl, rfl⟩ := hq
  refine j_aload_n h dL_law_724 rfl 3 rfl ?_
  refine j_aload_n h dL_law_725 rfl 1 rfl ?_
  refine j_iload_n h dL_law_726 rfl 0 rfl ?_
  refine j_iconst h (v := 1) dL_law_727 (by decide) ?_
  refine j_iadd h dL_law_728 ?_
  refine j_sld hl (6 * k + 1) (nI_add _ 1) (by omega) hLs dL_law_729 ?_
  refine j_aload_n h dL_law_730 rfl 1 rfl ?_
  refine j_iload_n h dL_law_731 rfl 0 rfl ?_
  refine j_iconst h (v := 2) dL_law_732 (by decide) ?_
  refine j_iadd h dL_law_733 ?_
  refine j_sld hl (6 * k + 2) (nI_add _ 2) (by omega) hLs dL_law_734 ?_
  refine j_bI h (n := 2) (c_X8_clubOf l D cy ad _ _ _ _ hv.mi) (wr := CW cy L _) rfl (xg_V (xr_42 3 rfl) (xr_42 4 rfl) (xr_42 5 rfl) (xr_1 5 rfl) (xr_42 6 rfl)) rfl rfl (by decide +kernel) ⟨Nat.le_of_ble_eq_true rfl, Nat.le_of_ble_eq_true rfl⟩ 0 rfl rfl rfl rfl rfl (Nat.le_of_ble_eq_true rfl) dL_law_735 ⟨by show 352 + 40 * k + 0 + 0 ≤ 600000; omega, by show 4654 + 8880 * k + 0 + 0 ≤ 7302250; omega⟩ (fun r2 v' hq2 => ?_)
  obtain ⟨rfl, rfl⟩ := hq2
  refine j_icmp_eq h (tgt := 1290) dL_law_738 (by decide) (fun _ => ?_) (fun q => absurd (Q_clubOf (X1 := X) (A1 := A) hv.gr _ _).symm q)
  refine j_widen h (k := 352 + 40 * (k + 1)) (n := 4654 + 8880 * (k + 1)) (by show 352 + 40 * k + 0 + 0 ≤ _; omega) (by show 4654 + 8880 * k + 0 + 0 ≤ _; omega) ?_
  exact hx _ _ ⟨G, M, X, A, bb, Y, B, t, n, rfl, rfl, hv⟩
set_option maxRecDepth 100000 in
set_option maxHeartbeats 4000000 in
theorem lc_19 {l : Launch} {D : gD} {cy : Nat → ClassId} {J : JT va_W} {b Ls : Nat} {xs : Nat → Int32} {L : Nat → Nat → Nat} {ad : Nat → Nat} {k : Nat} {u : cS × cB} {v : mS} (hl : OKL l D cy J b Ls xs) (hLs : Ls ≤ 3072) (hk : 6 * k + 6 ≤ Ls) (hi : INV u v) (hx : NX cy L ad J b k) : J (CW cy L u ++ MW cy ad v) (352 + 40 * k, 4654 + 8880 * k) (lvL L ad b k) 743 [] := by
  have h := hl.ok
  obtain ⟨G, M, X, A, bb, Y, B, t, n, rfl, rfl, hv⟩ := hi
  refine j_aload_n h dL_law_743 rfl 2 rfl ?_
  refine j_aload_n h dL_law_744 rfl 1 rfl ?_
  refine j_iload_n h dL_law_745 rfl 0 rfl ?_
  refine j_iconst h (v := 1) dL_law_746 (by decide) ?_
  refine j_iadd h dL_law_747 ?_
  refine j_sld hl (6 * k + 1) (nI_add _ 1) (by omega) hLs dL_law_748 ?_
  refine j_fI h (n := 1) (c_X7_rinkAt l D cy L _ _ _ _ M _ hv.gi) (wr := MW cy ad _) rfl (xg_V (xr_42 11 rfl) (xr_42 12 rfl) (xr_42 13 rfl) (xr_1 2 rfl) (xr_42 14 rfl)) rfl rfl (by decide +kernel) ⟨Nat.le_of_ble_eq_true rfl, Nat.le_of_ble_eq_true rfl⟩ (330 + 0) (ml_get 0) rfl rfl rfl rfl (Nat.le_of_ble_eq_true rfl) dL_law_749 ⟨by show 352 + 40 * k + 0 ≤ 600000; omega, by show 4654 + 8880 * k + 0 ≤ 7302250; omega⟩ (fun r u' hq => ?_)
  obtain ⟨rfl, rfl⟩ := hq
  refine j_aload_n h dL_law_752 rfl 3 rfl ?_
  refine j_aload_n h dL_law_753 rfl 1 rfl ?_
  refine j_iload_n h dL_law_754 rfl 0 rfl ?_
  refine j_iconst h (v := 1) dL_law_755 (by decide) ?_
  refine j_iadd h dL_law_756 ?_
  refine j_sld hl (6 * k + 1) (nI_add _ 1) (by omega) hLs dL_law_757 ?_
  refine j_bI h (n := 1) (c_X8_rinkAt l D cy ad _ _ _ hv.mi) (wr := CW cy L _) rfl (xg_V (xr_42 19 rfl) (xr_42 20 rfl) (xr_42 21 rfl) (xr_1 5 rfl) (xr_42 22 rfl)) rfl rfl (by decide +kernel) ⟨Nat.le_of_ble_eq_true rfl, Nat.le_of_ble_eq_true rfl⟩ 0 rfl rfl rfl rfl rfl (Nat.le_of_ble_eq_true rfl) dL_law_758 ⟨by show 352 + 40 * k + 0 + 0 ≤ 600000; omega, by show 4654 + 8880 * k + 0 + 0 ≤ 7302250; omega⟩ (fun r2 v' hq2 => ?_)
  obtain ⟨rfl, rfl⟩ := hq2
  refine j_icmp_eq h (tgt := 1290) dL_law_761 (by decide) (fun _ => ?_) (fun q => absurd (Q_rinkAt (X1 := X) (A1 := A) hv.gr _).symm q)
  refine j_widen h (k := 352 + 40 * (k + 1)) (n := 4654 + 8880 * (k + 1)) (by show 352 + 40 * k + 0 + 0 ≤ _; omega) (by show 4654 + 8880 * k + 0 + 0 ≤ _; omega) ?_
  exact hx _ _ ⟨G, M, X, A, bb, Y, B, t, n, rfl, rfl, hv⟩
set_option maxRecDepth 100000 in
set_option maxHeartbeats 4000000 in
theorem lc_20 {l : Launch} {D : gD} {cy : Nat → ClassId} {J : JT va_W} {b Ls : Nat} {xs : Nat → Int32} {L : Nat → Nat → Nat} {ad : Nat → Nat} {k : Nat} {u : cS × cB} {v : mS} (hl : OKL l D cy J b Ls xs) (hLs : Ls ≤ 3072) (hk : 6 * k + 6 ≤ Ls) (hi : INV u v) (hx : NX cy L ad J b k) : J (CW cy L u ++ MW cy ad v) (352 + 40 * k, 4654 + 8880 * k) (lvL L ad b k) 766 [] := by
  have h := hl.ok
  obtain ⟨G, M, X, A, bb, Y, B, t, n, rfl, rfl, hv⟩ := hi
  refine j_aload_n h dL_law_766 rfl 2 rfl ?_
  refine j_aload_n h dL_law_767 rfl 1 rfl ?_
  refine j_iload_n h dL_law_768 rfl 0 rfl ?_
  refine j_iconst h (v := 1) dL_law_769 (by decide) ?_
  refine j_iadd h dL_law_770 ?_
  refine j_sld hl (6 * k + 1) (nI_add _ 1) (by omega) hLs dL_law_771 ?_
  refine j_aload_n h dL_law_772 rfl 1 rfl ?_
  refine j_iload_n h dL_law_773 rfl 0 rfl ?_
  refine j_iconst h (v := 2) dL_law_774 (by decide) ?_
  refine j_iadd h dL_law_775 ?_
  refine j_sld hl (6 * k + 2) (nI_add _ 2) (by omega) hLs dL_law_776 ?_
  refine j_fI h (n := 2) (c_X7_nearest l D cy L _ _ _ _ M _ _ hv.gi) (wr := MW cy ad _) rfl (xg_V (xr_42 23 rfl) (xr_43 0 rfl) (xr_43 1 rfl) (xr_1 2 rfl) (xr_43 2 rfl)) rfl rfl (by decide +kernel) ⟨Nat.le_of_ble_eq_true rfl, Nat.le_of_ble_eq_true rfl⟩ (330 + 0) (ml_get 0) rfl rfl rfl rfl (Nat.le_of_ble_eq_true rfl) dL_law_777 ⟨by show 352 + 40 * k + 0 ≤ 600000; omega, by show 4654 + 8880 * k + 0 ≤ 7302250; omega⟩ (fun r u' hq => ?_)
  obtain ⟨rfl, rfl⟩ := hq
  refine j_aload_n h dL_law_780 rfl 3 rfl ?_
  refine j_aload_n h dL_law_781 rfl 1 rfl ?_
  refine j_iload_n h dL_law_782 rfl 0 rfl ?_
  refine j_iconst h (v := 1) dL_law_783 (by decide) ?_
  refine j_iadd h dL_law_784 ?_
  refine j_sld hl (6 * k + 1) (nI_add _ 1) (by omega) hLs dL_law_785 ?_
  refine j_aload_n h dL_law_786 rfl 1 rfl ?_
  refine j_iload_n h dL_law_787 rfl 0 rfl ?_
  refine j_iconst h (v := 2) dL_law_788 (by decide) ?_
  refine j_iadd h dL_law_789 ?_
  refine j_sld hl (6 * k + 2) (nI_add _ 2) (by omega) hLs dL_law_790 ?_
  refine j_bI h (n := 2) (c_X8_nearest l D cy ad _ _ _ _ hv.mi) (wr := CW cy L _) rfl (xg_V (xr_43 11 rfl) (xr_43 12 rfl) (xr_43 13 rfl) (xr_1 5 rfl) (xr_43 14 rfl)) rfl rfl (by decide +kernel) ⟨Nat.le_of_ble_eq_true rfl, Nat.le_of_ble_eq_true rfl⟩ 0 rfl rfl rfl rfl rfl (Nat.le_of_ble_eq_true rfl) dL_law_791 ⟨by show 352 + 40 * k + 0 + 0 ≤ 600000; omega, by show 4654 + 8880 * k + 0 + 0 ≤ 7302250; omega⟩ (fun r2 v' hq2 => ?_)
  obtain ⟨rfl, rfl⟩ := hq2
  refine j_icmp_eq h (tgt := 1290) dL_law_794 (by decide) (fun _ => ?_) (fun q => absurd (Q_nearest (X1 := X) (A1 := A) hv.gr _ _).symm q)
  refine j_widen h (k := 352 + 40 * (k + 1)) (n := 4654 + 8880 * (k + 1)) (by show 352 + 40 * k + 0 + 0 ≤ _; omega) (by show 4654 + 8880 * k + 0 + 0 ≤ _; omega) ?_
  exact hx _ _ ⟨G, M, X, A, bb, Y, B, t, n, rfl, rfl, hv⟩
set_option maxRecDepth 100000 in
set_option maxHeartbeats 4000000 in
theorem lc_21 {l : Launch} {D : gD} {cy : Nat → ClassId} {J : JT va_W} {b Ls : Nat} {xs : Nat → Int32} {L : Nat → Nat → Nat} {ad : Nat → Nat} {k : Nat} {u : cS × cB} {v : mS} (hl : OKL l D cy J b Ls xs) (hLs : Ls ≤ 3072) (hk : 6 * k + 6 ≤ Ls) (hi : INV u v) (hx : NX cy L ad J b k) : J (CW cy L u ++ MW cy ad v) (352 + 40 * k, 4654 + 8880 * k) (lvL L ad b k) 799 [] := by
  have h := hl.ok
  obtain ⟨G, M, X, A, bb, Y, B, t, n, rfl, rfl, hv⟩ := hi
  refine j_aload_n h dL_law_799 rfl 2 rfl ?_
  refine j_aload_n h dL_law_800 rfl 1 rfl ?_
  refine j_iload_n h dL_law_801 rfl 0 rfl ?_
  refine j_iconst h (v := 1) dL_law_802 (by decide) ?_
  refine j_iadd h dL_law_803 ?_
  refine j_sld hl (6 * k + 1) (nI_add _ 1) (by omega) hLs dL_law_804 ?_
  refine j_aload_n h dL_law_805 rfl 1 rfl ?_
  refine j_iload_n h dL_law_806 rfl 0 rfl ?_
  refine j_iconst h (v := 2) dL_law_807 (by decide) ?_
  refine j_iadd h dL_law_808 ?_
  refine j_sld hl (6 * k + 2) (nI_add _ 2) (by omega) hLs dL_law_809 ?_
  by_cases cb : (xs (6 * k + 2)) = 0
  · refine j_if_eq h (tgt := 817) dL_law_810 (by decide) (fun _ => ?_) (fun c => absurd cb c)
    refine j_iconst h (v := 0) dL_law_817 (by decide) ?_
    refine j_fI h (n := 2) (c_X7_shots l D cy L _ _ _ _ M _ _ hv.gi) (wr := MW cy ad _) rfl (xg_V (xr_43 19 rfl) (xr_43 20 rfl) (xr_43 21 rfl) (xr_1 2 rfl) (xr_43 22 rfl)) rfl rfl (by decide +kernel) ⟨Nat.le_of_ble_eq_true rfl, Nat.le_of_ble_eq_true rfl⟩ (330 + 0) (ml_get 0) rfl rfl rfl rfl (Nat.le_of_ble_eq_true rfl) dL_law_818 ⟨by show 352 + 40 * k + 0 ≤ 600000; omega, by show 4654 + 8880 * k + 0 ≤ 7302250; omega⟩ (fun r u' hq => ?_)
    obtain ⟨rfl, rfl⟩ := hq
    refine j_aload_n h dL_law_821 rfl 3 rfl ?_
    refine j_aload_n h dL_law_822 rfl 1 rfl ?_
    refine j_iload_n h dL_law_823 rfl 0 rfl ?_
    refine j_iconst h (v := 1) dL_law_824 (by decide) ?_
    refine j_iadd h dL_law_825 ?_
    refine j_sld hl (6 * k + 1) (nI_add _ 1) (by omega) hLs dL_law_826 ?_
    refine j_aload_n h dL_law_827 rfl 1 rfl ?_
    refine j_iload_n h dL_law_828 rfl 0 rfl ?_
    refine j_iconst h (v := 2) dL_law_829 (by decide) ?_
    refine j_iadd h dL_law_830 ?_
    refine j_sld hl (6 * k + 2) (nI_add _ 2) (by omega) hLs dL_law_831 ?_
    refine j_if_eq h (tgt := 839) dL_law_832 (by decide) (fun _ => ?_) (fun c => absurd cb c)
    refine j_iconst h (v := 0) dL_law_839 (by decide) ?_
    refine j_bI h (n := 2) (c_X8_shots l D cy ad _ _ _ _ hv.mi) (wr := CW cy L _) rfl (xg_V (xr_44 9 rfl) (xr_44 10 rfl) (xr_44 11 rfl) (xr_1 5 rfl) (xr_44 12 rfl)) rfl rfl (by decide +kernel) ⟨Nat.le_of_ble_eq_true rfl, Nat.le_of_ble_eq_true rfl⟩ 0 rfl rfl rfl rfl rfl (Nat.le_of_ble_eq_true rfl) dL_law_840 ⟨by show 352 + 40 * k + 0 + 0 ≤ 600000; omega, by show 4654 + 8880 * k + 0 + 0 ≤ 7302250; omega⟩ (fun r2 v' hq2 => ?_)
    obtain ⟨rfl, rfl⟩ := hq2
    refine j_icmp_eq h (tgt := 1290) dL_law_843 (by decide) (fun _ => ?_) (fun q => absurd (Q_shots (X1 := X) (A1 := A) hv.gr _ _).symm q)
    refine j_widen h (k := 352 + 40 * (k + 1)) (n := 4654 + 8880 * (k + 1)) (by show 352 + 40 * k + 0 + 0 ≤ _; omega) (by show 4654 + 8880 * k + 0 + 0 ≤ _; omega) ?_
    exact hx _ _ ⟨G, M, X, A, bb, Y, B, t, n, rfl, rfl, hv⟩
  · refine j_if_eq h (tgt := 817) dL_law_810 (by decide) (fun c => absurd c cb) (fun _ => ?_)
    refine j_iconst h (v := 1) dL_law_813 (by decide) ?_
    refine j_goto h (tgt := 818) dL_law_814 (by decide) ?_
    refine j_fI h (n := 2) (c_X7_shots l D cy L _ _ _ _ M _ _ hv.gi) (wr := MW cy ad _) rfl (xg_V (xr_43 19 rfl) (xr_43 20 rfl) (xr_43 21 rfl) (xr_1 2 rfl) (xr_43 22 rfl)) rfl rfl (by decide +kernel) ⟨Nat.le_of_ble_eq_true rfl, Nat.le_of_ble_eq_true rfl⟩ (330 + 0) (ml_get 0) rfl rfl rfl rfl (Nat.le_of_ble_eq_true rfl) dL_law_818 ⟨by show 352 + 40 * k + 0 ≤ 600000; omega, by show 4654 + 8880 * k + 0 ≤ 7302250; omega⟩ (fun r u' hq => ?_)
    obtain ⟨rfl, rfl⟩ := hq
    refine j_aload_n h dL_law_821 rfl 3 rfl ?_
    refine j_aload_n h dL_law_822 rfl 1 rfl ?_
    refine j_iload_n h dL_law_823 rfl 0 rfl ?_
    refine j_iconst h (v := 1) dL_law_824 (by decide) ?_
    refine j_iadd h dL_law_825 ?_
    refine j_sld hl (6 * k + 1) (nI_add _ 1) (by omega) hLs dL_law_826 ?_
    refine j_aload_n h dL_law_827 rfl 1 rfl ?_
    refine j_iload_n h dL_law_828 rfl 0 rfl ?_
    refine j_iconst h (v := 2) dL_law_829 (by decide) ?_
    refine j_iadd h dL_law_830 ?_
    refine j_sld hl (6 * k + 2) (nI_add _ 2) (by omega) hLs dL_law_831 ?_
    refine j_if_eq h (tgt := 839) dL_law_832 (by decide) (fun c => absurd c cb) (fun _ => ?_)
    refine j_iconst h (v := 1) dL_law_835 (by decide) ?_
    refine j_goto h (tgt := 840) dL_law_836 (by decide) ?_
    refine j_bI h (n := 2) (c_X8_shots l D cy ad _ _ _ _ hv.mi) (wr := CW cy L _) rfl (xg_V (xr_44 9 rfl) (xr_44 10 rfl) (xr_44 11 rfl) (xr_1 5 rfl) (xr_44 12 rfl)) rfl rfl (by decide +kernel) ⟨Nat.le_of_ble_eq_true rfl, Nat.le_of_ble_eq_true rfl⟩ 0 rfl rfl rfl rfl rfl (Nat.le_of_ble_eq_true rfl) dL_law_840 ⟨by show 352 + 40 * k + 0 + 0 ≤ 600000; omega, by show 4654 + 8880 * k + 0 + 0 ≤ 7302250; omega⟩ (fun r2 v' hq2 => ?_)
    obtain ⟨rfl, rfl⟩ := hq2
    refine j_icmp_eq h (tgt := 1290) dL_law_843 (by decide) (fun _ => ?_) (fun q => absurd (Q_shots (X1 := X) (A1 := A) hv.gr _ _).symm q)
    refine j_widen h (k := 352 + 40 * (k + 1)) (n := 4654 + 8880 * (k + 1)) (by show 352 + 40 * k + 0 + 0 ≤ _; omega) (by show 4654 + 8880 * k + 0 + 0 ≤ _; omega) ?_
    exact hx _ _ ⟨G, M, X, A, bb, Y, B, t, n, rfl, rfl, hv⟩
set_option maxRecDepth 100000 in
set_option maxHeartbeats 4000000 in
theorem lc_22 {l : Launch} {D : gD} {cy : Nat → ClassId} {J : JT va_W} {b Ls : Nat} {xs : Nat → Int32} {L : Nat → Nat → Nat} {ad : Nat → Nat} {k : Nat} {u : cS × cB} {v : mS} (hl : OKL l D cy J b Ls xs) (hLs : Ls ≤ 3072) (hk : 6 * k + 6 ≤ Ls) (hi : INV u v) (hx : NX cy L ad J b k) : J (CW cy L u ++ MW cy ad v) (352 + 40 * k, 4654 + 8880 * k) (lvL L ad b k) 848 [] := by
  have h := hl.ok
  obtain ⟨G, M, X, A, bb, Y, B, t, n, rfl, rfl, hv⟩ := hi
  refine j_aload_n h dL_law_848 rfl 2 rfl ?_
  refine j_aload_n h dL_law_849 rfl 1 rfl ?_
  refine j_iload_n h dL_law_850 rfl 0 rfl ?_
  refine j_iconst h (v := 1) dL_law_851 (by decide) ?_
  refine j_iadd h dL_law_852 ?_
  refine j_sld hl (6 * k + 1) (nI_add _ 1) (by omega) hLs dL_law_853 ?_
  refine j_aload_n h dL_law_854 rfl 1 rfl ?_
  refine j_iload_n h dL_law_855 rfl 0 rfl ?_
  refine j_iconst h (v := 2) dL_law_856 (by decide) ?_
  refine j_iadd h dL_law_857 ?_
  refine j_sld hl (6 * k + 2) (nI_add _ 2) (by omega) hLs dL_law_858 ?_
  refine j_aload_n h dL_law_859 rfl 1 rfl ?_
  refine j_iload_n h dL_law_860 rfl 0 rfl ?_
  refine j_iconst h (v := 3) dL_law_861 (by decide) ?_
  refine j_iadd h dL_law_862 ?_
  refine j_sld hl (6 * k + 3) (nI_add _ 3) (by omega) hLs dL_law_863 ?_
  refine j_aload_n h dL_law_864 rfl 1 rfl ?_
  refine j_iload_n h dL_law_865 rfl 0 rfl ?_
  refine j_iconst h (v := 4) dL_law_866 (by decide) ?_
  refine j_iadd h dL_law_867 ?_
  refine j_sld hl (6 * k + 4) (nI_add _ 4) (by omega) hLs dL_law_868 ?_
  refine j_aload_n h dL_law_869 rfl 1 rfl ?_
  refine j_iload_n h dL_law_870 rfl 0 rfl ?_
  refine j_iconst h (v := 5) dL_law_871 (by decide) ?_
  refine j_iadd h dL_law_872 ?_
  refine j_sld hl (6 * k + 5) (nI_add _ 5) (by omega) hLs dL_law_873 ?_
  by_cases cb : (xs (6 * k + 5)) = 0
  · refine j_if_eq h (tgt := 881) dL_law_874 (by decide) (fun _ => ?_) (fun c => absurd cb c)
    refine j_iconst h (v := 0) dL_law_881 (by decide) ?_
    refine j_fI h (n := 5) (c_X7_would l D cy L _ _ _ _ M _ _ _ _ _ hv.gi) (wr := MW cy ad _) rfl (xg_V (xr_44 13 rfl) (xr_44 14 rfl) (xr_44 15 rfl) (xr_1 2 rfl) (xr_44 16 rfl)) rfl rfl (by decide +kernel) ⟨Nat.le_of_ble_eq_true rfl, Nat.le_of_ble_eq_true rfl⟩ (330 + 0) (ml_get 0) rfl rfl rfl rfl (Nat.le_of_ble_eq_true rfl) dL_law_882 ⟨by show 352 + 40 * k + 0 ≤ 600000; omega, by show 4654 + 8880 * k + 0 ≤ 7302250; omega⟩ (fun r u' hq => ?_)
    obtain ⟨rfl, rfl⟩ := hq
    refine j_aload_n h dL_law_885 rfl 3 rfl ?_
    refine j_aload_n h dL_law_886 rfl 1 rfl ?_
    refine j_iload_n h dL_law_887 rfl 0 rfl ?_
    refine j_iconst h (v := 1) dL_law_888 (by decide) ?_
    refine j_iadd h dL_law_889 ?_
    refine j_sld hl (6 * k + 1) (nI_add _ 1) (by omega) hLs dL_law_890 ?_
    refine j_aload_n h dL_law_891 rfl 1 rfl ?_
    refine j_iload_n h dL_law_892 rfl 0 rfl ?_
    refine j_iconst h (v := 2) dL_law_893 (by decide) ?_
    refine j_iadd h dL_law_894 ?_
    refine j_sld hl (6 * k + 2) (nI_add _ 2) (by omega) hLs dL_law_895 ?_
    refine j_aload_n h dL_law_896 rfl 1 rfl ?_
    refine j_iload_n h dL_law_897 rfl 0 rfl ?_
    refine j_iconst h (v := 3) dL_law_898 (by decide) ?_
    refine j_iadd h dL_law_899 ?_
    refine j_sld hl (6 * k + 3) (nI_add _ 3) (by omega) hLs dL_law_900 ?_
    refine j_aload_n h dL_law_901 rfl 1 rfl ?_
    refine j_iload_n h dL_law_902 rfl 0 rfl ?_
    refine j_iconst h (v := 4) dL_law_903 (by decide) ?_
    refine j_iadd h dL_law_904 ?_
    refine j_sld hl (6 * k + 4) (nI_add _ 4) (by omega) hLs dL_law_905 ?_
    refine j_aload_n h dL_law_906 rfl 1 rfl ?_
    refine j_iload_n h dL_law_907 rfl 0 rfl ?_
    refine j_iconst h (v := 5) dL_law_908 (by decide) ?_
    refine j_iadd h dL_law_909 ?_
    refine j_sld hl (6 * k + 5) (nI_add _ 5) (by omega) hLs dL_law_910 ?_
    refine j_if_eq h (tgt := 918) dL_law_911 (by decide) (fun _ => ?_) (fun c => absurd cb c)
    refine j_iconst h (v := 0) dL_law_918 (by decide) ?_
    refine j_bI h (n := 5) (c_X8_would l D cy ad _ _ _ _ _ _ _ hv.mi) (wr := CW cy L _) rfl (xg_V (xr_44 17 rfl) (xr_44 18 rfl) (xr_44 19 rfl) (xr_1 5 rfl) (xr_44 20 rfl)) rfl rfl (by decide +kernel) ⟨Nat.le_of_ble_eq_true rfl, Nat.le_of_ble_eq_true rfl⟩ 0 rfl rfl rfl rfl rfl (Nat.le_of_ble_eq_true rfl) dL_law_919 ⟨by show 352 + 40 * k + 0 + 0 ≤ 600000; omega, by show 4654 + 8880 * k + 0 + 0 ≤ 7302250; omega⟩ (fun r2 v' hq2 => ?_)
    obtain ⟨rfl, rfl⟩ := hq2
    refine j_icmp_eq h (tgt := 1290) dL_law_922 (by decide) (fun _ => ?_) (fun q => absurd (Q_would (X1 := X) (A1 := A) hv.gr _ _ _ _ _).symm q)
    refine j_widen h (k := 352 + 40 * (k + 1)) (n := 4654 + 8880 * (k + 1)) (by show 352 + 40 * k + 0 + 0 ≤ _; omega) (by show 4654 + 8880 * k + 0 + 0 ≤ _; omega) ?_
    exact hx _ _ ⟨G, M, X, A, bb, Y, B, t, n, rfl, rfl, hv⟩
  · refine j_if_eq h (tgt := 881) dL_law_874 (by decide) (fun c => absurd c cb) (fun _ => ?_)
    refine j_iconst h (v := 1) dL_law_877 (by decide) ?_
    refine j_goto h (tgt := 882) dL_law_878 (by decide) ?_
    refine j_fI h (n := 5) (c_X7_would l D cy L _ _ _ _ M _ _ _ _ _ hv.gi) (wr := MW cy ad _) rfl (xg_V (xr_44 13 rfl) (xr_44 14 rfl) (xr_44 15 rfl) (xr_1 2 rfl) (xr_44 16 rfl)) rfl rfl (by decide +kernel) ⟨Nat.le_of_ble_eq_true rfl, Nat.le_of_ble_eq_true rfl⟩ (330 + 0) (ml_get 0) rfl rfl rfl rfl (Nat.le_of_ble_eq_true rfl) dL_law_882 ⟨by show 352 + 40 * k + 0 ≤ 600000; omega, by show 4654 + 8880 * k + 0 ≤ 7302250; omega⟩ (fun r u' hq => ?_)
    obtain ⟨rfl, rfl⟩ := hq
    refine j_aload_n h dL_law_885 rfl 3 rfl ?_
    refine j_aload_n h dL_law_886 rfl 1 rfl ?_
    refine j_iload_n h dL_law_887 rfl 0 rfl ?_
    refine j_iconst h (v := 1) dL_law_888 (by decide) ?_
    refine j_iadd h dL_law_889 ?_
    refine j_sld hl (6 * k + 1) (nI_add _ 1) (by omega) hLs dL_law_890 ?_
    refine j_aload_n h dL_law_891 rfl 1 rfl ?_
    refine j_iload_n h dL_law_892 rfl 0 rfl ?_
    refine j_iconst h (v := 2) dL_law_893 (by decide) ?_
    refine j_iadd h dL_law_894 ?_
    refine j_sld hl (6 * k + 2) (nI_add _ 2) (by omega) hLs dL_law_895 ?_
    refine j_aload_n h dL_law_896 rfl 1 rfl ?_
    refine j_iload_n h dL_law_897 rfl 0 rfl ?_
    refine j_iconst h (v := 3) dL_law_898 (by decide) ?_
    refine j_iadd h dL_law_899 ?_
    refine j_sld hl (6 * k + 3) (nI_add _ 3) (by omega) hLs dL_law_900 ?_
    refine j_aload_n h dL_law_901 rfl 1 rfl ?_
    refine j_iload_n h dL_law_902 rfl 0 rfl ?_
    refine j_iconst h (v := 4) dL_law_903 (by decide) ?_
    refine j_iadd h dL_law_904 ?_
    refine j_sld hl (6 * k + 4) (nI_add _ 4) (by omega) hLs dL_law_905 ?_
    refine j_aload_n h dL_law_906 rfl 1 rfl ?_
    refine j_iload_n h dL_law_907 rfl 0 rfl ?_
    refine j_iconst h (v := 5) dL_law_908 (by decide) ?_
    refine j_iadd h dL_law_909 ?_
    refine j_sld hl (6 * k + 5) (nI_add _ 5) (by omega) hLs dL_law_910 ?_
    refine j_if_eq h (tgt := 918) dL_law_911 (by decide) (fun c => absurd c cb) (fun _ => ?_)
    refine j_iconst h (v := 1) dL_law_914 (by decide) ?_
    refine j_goto h (tgt := 919) dL_law_915 (by decide) ?_
    refine j_bI h (n := 5) (c_X8_would l D cy ad _ _ _ _ _ _ _ hv.mi) (wr := CW cy L _) rfl (xg_V (xr_44 17 rfl) (xr_44 18 rfl) (xr_44 19 rfl) (xr_1 5 rfl) (xr_44 20 rfl)) rfl rfl (by decide +kernel) ⟨Nat.le_of_ble_eq_true rfl, Nat.le_of_ble_eq_true rfl⟩ 0 rfl rfl rfl rfl rfl (Nat.le_of_ble_eq_true rfl) dL_law_919 ⟨by show 352 + 40 * k + 0 + 0 ≤ 600000; omega, by show 4654 + 8880 * k + 0 + 0 ≤ 7302250; omega⟩ (fun r2 v' hq2 => ?_)
    obtain ⟨rfl, rfl⟩ := hq2
    refine j_icmp_eq h (tgt := 1290) dL_law_922 (by decide) (fun _ => ?_) (fun q => absurd (Q_would (X1 := X) (A1 := A) hv.gr _ _ _ _ _).symm q)
    refine j_widen h (k := 352 + 40 * (k + 1)) (n := 4654 + 8880 * (k + 1)) (by show 352 + 40 * k + 0 + 0 ≤ _; omega) (by show 4654 + 8880 * k + 0 + 0 ≤ _; omega) ?_
    exact hx _ _ ⟨G, M, X, A, bb, Y, B, t, n, rfl, rfl, hv⟩
set_option maxRecDepth 100000 in
set_option maxHeartbeats 4000000 in
theorem lc_23 {l : Launch} {D : gD} {cy : Nat → ClassId} {J : JT va_W} {b Ls : Nat} {xs : Nat → Int32} {L : Nat → Nat → Nat} {ad : Nat → Nat} {k : Nat} {u : cS × cB} {v : mS} (hl : OKL l D cy J b Ls xs) (hLs : Ls ≤ 3072) (hk : 6 * k + 6 ≤ Ls) (hi : INV u v) (hx : NX cy L ad J b k) : J (CW cy L u ++ MW cy ad v) (352 + 40 * k, 4654 + 8880 * k) (lvL L ad b k) 927 [] := by
  have h := hl.ok
  obtain ⟨G, M, X, A, bb, Y, B, t, n, rfl, rfl, hv⟩ := hi
  refine j_aload_n h dL_law_927 rfl 2 rfl ?_
  refine j_aload_n h dL_law_928 rfl 1 rfl ?_
  refine j_iload_n h dL_law_929 rfl 0 rfl ?_
  refine j_iconst h (v := 1) dL_law_930 (by decide) ?_
  refine j_iadd h dL_law_931 ?_
  refine j_sld hl (6 * k + 1) (nI_add _ 1) (by omega) hLs dL_law_932 ?_
  refine j_aload_n h dL_law_933 rfl 1 rfl ?_
  refine j_iload_n h dL_law_934 rfl 0 rfl ?_
  refine j_iconst h (v := 2) dL_law_935 (by decide) ?_
  refine j_iadd h dL_law_936 ?_
  refine j_sld hl (6 * k + 2) (nI_add _ 2) (by omega) hLs dL_law_937 ?_
  refine j_aload_n h dL_law_938 rfl 1 rfl ?_
  refine j_iload_n h dL_law_939 rfl 0 rfl ?_
  refine j_iconst h (v := 3) dL_law_940 (by decide) ?_
  refine j_iadd h dL_law_941 ?_
  refine j_sld hl (6 * k + 3) (nI_add _ 3) (by omega) hLs dL_law_942 ?_
  refine j_aload_n h dL_law_943 rfl 1 rfl ?_
  refine j_iload_n h dL_law_944 rfl 0 rfl ?_
  refine j_iconst h (v := 4) dL_law_945 (by decide) ?_
  refine j_iadd h dL_law_946 ?_
  refine j_sld hl (6 * k + 4) (nI_add _ 4) (by omega) hLs dL_law_947 ?_
  by_cases cb : (xs (6 * k + 4)) = 0
  · refine j_if_eq h (tgt := 955) dL_law_948 (by decide) (fun _ => ?_) (fun c => absurd cb c)
    refine j_iconst h (v := 0) dL_law_955 (by decide) ?_
    refine j_fI h (n := 4) (c_X7_bestStrength l D cy L _ _ _ _ M _ _ _ _ hv.gi) (wr := MW cy ad _) rfl (xg_V (xr_44 21 rfl) (xr_44 22 rfl) (xr_44 23 rfl) (xr_1 2 rfl) (xr_45 0 rfl)) rfl rfl (by decide +kernel) ⟨Nat.le_of_ble_eq_true rfl, Nat.le_of_ble_eq_true rfl⟩ (330 + 0) (ml_get 0) rfl rfl rfl rfl (Nat.le_of_ble_eq_true rfl) dL_law_956 ⟨by show 352 + 40 * k + 0 ≤ 600000; omega, by show 4654 + 8880 * k + 0 ≤ 7302250; omega⟩ (fun r u' hq => ?_)
    obtain ⟨rfl, rfl⟩ := hq
    refine j_aload_n h dL_law_959 rfl 3 rfl ?_
    refine j_aload_n h dL_law_960 rfl 1 rfl ?_
    refine j_iload_n h dL_law_961 rfl 0 rfl ?_
    refine j_iconst h (v := 1) dL_law_962 (by decide) ?_
    refine j_iadd h dL_law_963 ?_
    refine j_sld hl (6 * k + 1) (nI_add _ 1) (by omega) hLs dL_law_964 ?_
    refine j_aload_n h dL_law_965 rfl 1 rfl ?_
    refine j_iload_n h dL_law_966 rfl 0 rfl ?_
    refine j_iconst h (v := 2) dL_law_967 (by decide) ?_
    refine j_iadd h dL_law_968 ?_
    refine j_sld hl (6 * k + 2) (nI_add _ 2) (by omega) hLs dL_law_969 ?_
    refine j_aload_n h dL_law_970 rfl 1 rfl ?_
    refine j_iload_n h dL_law_971 rfl 0 rfl ?_
    refine j_iconst h (v := 3) dL_law_972 (by decide) ?_
    refine j_iadd h dL_law_973 ?_
    refine j_sld hl (6 * k + 3) (nI_add _ 3) (by omega) hLs dL_law_974 ?_
    refine j_aload_n h dL_law_975 rfl 1 rfl ?_
    refine j_iload_n h dL_law_976 rfl 0 rfl ?_
    refine j_iconst h (v := 4) dL_law_977 (by decide) ?_
    refine j_iadd h dL_law_978 ?_
    refine j_sld hl (6 * k + 4) (nI_add _ 4) (by omega) hLs dL_law_979 ?_
    refine j_if_eq h (tgt := 987) dL_law_980 (by decide) (fun _ => ?_) (fun c => absurd cb c)
    refine j_iconst h (v := 0) dL_law_987 (by decide) ?_
    refine j_bI h (n := 4) (c_X8_bestStrength l D cy ad _ _ _ _ _ _ hv.mi) (wr := CW cy L _) rfl (xg_V (xr_45 2 rfl) (xr_45 3 rfl) (xr_45 4 rfl) (xr_1 5 rfl) (xr_45 5 rfl)) rfl rfl (by decide +kernel) ⟨Nat.le_of_ble_eq_true rfl, Nat.le_of_ble_eq_true rfl⟩ 0 rfl rfl rfl rfl rfl (Nat.le_of_ble_eq_true rfl) dL_law_988 ⟨by show 352 + 40 * k + 0 + 0 ≤ 600000; omega, by show 4654 + 8880 * k + 0 + 0 ≤ 7302250; omega⟩ (fun r2 v' hq2 => ?_)
    obtain ⟨rfl, rfl⟩ := hq2
    refine j_icmp_eq h (tgt := 1290) dL_law_991 (by decide) (fun _ => ?_) (fun q => absurd (Q_bestStrength (X1 := X) (A1 := A) hv.gr _ _ _ _).symm q)
    refine j_widen h (k := 352 + 40 * (k + 1)) (n := 4654 + 8880 * (k + 1)) (by show 352 + 40 * k + 0 + 0 ≤ _; omega) (by show 4654 + 8880 * k + 0 + 0 ≤ _; omega) ?_
    exact hx _ _ ⟨G, M, X, A, bb, Y, B, t, n, rfl, rfl, hv⟩
  · refine j_if_eq h (tgt := 955) dL_law_948 (by decide) (fun c => absurd c cb) (fun _ => ?_)
    refine j_iconst h (v := 1) dL_law_951 (by decide) ?_
    refine j_goto h (tgt := 956) dL_law_952 (by decide) ?_
    refine j_fI h (n := 4) (c_X7_bestStrength l D cy L _ _ _ _ M _ _ _ _ hv.gi) (wr := MW cy ad _) rfl (xg_V (xr_44 21 rfl) (xr_44 22 rfl) (xr_44 23 rfl) (xr_1 2 rfl) (xr_45 0 rfl)) rfl rfl (by decide +kernel) ⟨Nat.le_of_ble_eq_true rfl, Nat.le_of_ble_eq_true rfl⟩ (330 + 0) (ml_get 0) rfl rfl rfl rfl (Nat.le_of_ble_eq_true rfl) dL_law_956 ⟨by show 352 + 40 * k + 0 ≤ 600000; omega, by show 4654 + 8880 * k + 0 ≤ 7302250; omega⟩ (fun r u' hq => ?_)
    obtain ⟨rfl, rfl⟩ := hq
    refine j_aload_n h dL_law_959 rfl 3 rfl ?_
    refine j_aload_n h dL_law_960 rfl 1 rfl ?_
    refine j_iload_n h dL_law_961 rfl 0 rfl ?_
    refine j_iconst h (v := 1) dL_law_962 (by decide) ?_
    refine j_iadd h dL_law_963 ?_
    refine j_sld hl (6 * k + 1) (nI_add _ 1) (by omega) hLs dL_law_964 ?_
    refine j_aload_n h dL_law_965 rfl 1 rfl ?_
    refine j_iload_n h dL_law_966 rfl 0 rfl ?_
    refine j_iconst h (v := 2) dL_law_967 (by decide) ?_
    refine j_iadd h dL_law_968 ?_
    refine j_sld hl (6 * k + 2) (nI_add _ 2) (by omega) hLs dL_law_969 ?_
    refine j_aload_n h dL_law_970 rfl 1 rfl ?_
    refine j_iload_n h dL_law_971 rfl 0 rfl ?_
    refine j_iconst h (v := 3) dL_law_972 (by decide) ?_
    refine j_iadd h dL_law_973 ?_
    refine j_sld hl (6 * k + 3) (nI_add _ 3) (by omega) hLs dL_law_974 ?_
    refine j_aload_n h dL_law_975 rfl 1 rfl ?_
    refine j_iload_n h dL_law_976 rfl 0 rfl ?_
    refine j_iconst h (v := 4) dL_law_977 (by decide) ?_
    refine j_iadd h dL_law_978 ?_
    refine j_sld hl (6 * k + 4) (nI_add _ 4) (by omega) hLs dL_law_979 ?_
    refine j_if_eq h (tgt := 987) dL_law_980 (by decide) (fun c => absurd c cb) (fun _ => ?_)
    refine j_iconst h (v := 1) dL_law_983 (by decide) ?_
    refine j_goto h (tgt := 988) dL_law_984 (by decide) ?_
    refine j_bI h (n := 4) (c_X8_bestStrength l D cy ad _ _ _ _ _ _ hv.mi) (wr := CW cy L _) rfl (xg_V (xr_45 2 rfl) (xr_45 3 rfl) (xr_45 4 rfl) (xr_1 5 rfl) (xr_45 5 rfl)) rfl rfl (by decide +kernel) ⟨Nat.le_of_ble_eq_true rfl, Nat.le_of_ble_eq_true rfl⟩ 0 rfl rfl rfl rfl rfl (Nat.le_of_ble_eq_true rfl) dL_law_988 ⟨by show 352 + 40 * k + 0 + 0 ≤ 600000; omega, by show 4654 + 8880 * k + 0 + 0 ≤ 7302250; omega⟩ (fun r2 v' hq2 => ?_)
    obtain ⟨rfl, rfl⟩ := hq2
    refine j_icmp_eq h (tgt := 1290) dL_law_991 (by decide) (fun _ => ?_) (fun q => absurd (Q_bestStrength (X1 := X) (A1 := A) hv.gr _ _ _ _).symm q)
    refine j_widen h (k := 352 + 40 * (k + 1)) (n := 4654 + 8880 * (k + 1)) (by show 352 + 40 * k + 0 + 0 ≤ _; omega) (by show 4654 + 8880 * k + 0 + 0 ≤ _; omega) ?_
    exact hx _ _ ⟨G, M, X, A, bb, Y, B, t, n, rfl, rfl, hv⟩
set_option maxRecDepth 100000 in
set_option maxHeartbeats 4000000 in
theorem lc_24 {l : Launch} {D : gD} {cy : Nat → ClassId} {J : JT va_W} {b Ls : Nat} {xs : Nat → Int32} {L : Nat → Nat → Nat} {ad : Nat → Nat} {k : Nat} {u : cS × cB} {v : mS} (hl : OKL l D cy J b Ls xs) (hLs : Ls ≤ 3072) (hk : 6 * k + 6 ≤ Ls) (hi : INV u v) (hx : NX cy L ad J b k) : J (CW cy L u ++ MW cy ad v) (352 + 40 * k, 4654 + 8880 * k) (lvL L ad b k) 996 [] := by
  have h := hl.ok
  obtain ⟨G, M, X, A, bb, Y, B, t, n, rfl, rfl, hv⟩ := hi
  refine j_aload_n h dL_law_996 rfl 2 rfl ?_
  refine j_aload_n h dL_law_997 rfl 1 rfl ?_
  refine j_iload_n h dL_law_998 rfl 0 rfl ?_
  refine j_iconst h (v := 1) dL_law_999 (by decide) ?_
  refine j_iadd h dL_law_1000 ?_
  refine j_sld hl (6 * k + 1) (nI_add _ 1) (by omega) hLs dL_law_1001 ?_
  refine j_aload_n h dL_law_1002 rfl 1 rfl ?_
  refine j_iload_n h dL_law_1003 rfl 0 rfl ?_
  refine j_iconst h (v := 2) dL_law_1004 (by decide) ?_
  refine j_iadd h dL_law_1005 ?_
  refine j_sld hl (6 * k + 2) (nI_add _ 2) (by omega) hLs dL_law_1006 ?_
  refine j_fI h (n := 2) (c_X7_wetIn l D cy L _ _ _ _ M _ _ hv.gi) (wr := MW cy ad _) rfl (xg_V (xr_45 6 rfl) (xr_45 7 rfl) (xr_45 8 rfl) (xr_1 2 rfl) (xr_45 9 rfl)) rfl rfl (by decide +kernel) ⟨Nat.le_of_ble_eq_true rfl, Nat.le_of_ble_eq_true rfl⟩ (330 + 0) (ml_get 0) rfl rfl rfl rfl (Nat.le_of_ble_eq_true rfl) dL_law_1007 ⟨by show 352 + 40 * k + 0 ≤ 600000; omega, by show 4654 + 8880 * k + 0 ≤ 7302250; omega⟩ (fun r u' hq => ?_)
  obtain ⟨rfl, rfl⟩ := hq
  refine j_aload_n h dL_law_1010 rfl 3 rfl ?_
  refine j_aload_n h dL_law_1011 rfl 1 rfl ?_
  refine j_iload_n h dL_law_1012 rfl 0 rfl ?_
  refine j_iconst h (v := 1) dL_law_1013 (by decide) ?_
  refine j_iadd h dL_law_1014 ?_
  refine j_sld hl (6 * k + 1) (nI_add _ 1) (by omega) hLs dL_law_1015 ?_
  refine j_aload_n h dL_law_1016 rfl 1 rfl ?_
  refine j_iload_n h dL_law_1017 rfl 0 rfl ?_
  refine j_iconst h (v := 2) dL_law_1018 (by decide) ?_
  refine j_iadd h dL_law_1019 ?_
  refine j_sld hl (6 * k + 2) (nI_add _ 2) (by omega) hLs dL_law_1020 ?_
  refine j_bI h (n := 2) (c_X8_wetIn l D cy ad _ _ _ _ hv.mi) (wr := CW cy L _) rfl (xg_V (xr_45 14 rfl) (xr_45 15 rfl) (xr_45 16 rfl) (xr_1 5 rfl) (xr_45 17 rfl)) rfl rfl (by decide +kernel) ⟨Nat.le_of_ble_eq_true rfl, Nat.le_of_ble_eq_true rfl⟩ 0 rfl rfl rfl rfl rfl (Nat.le_of_ble_eq_true rfl) dL_law_1021 ⟨by show 352 + 40 * k + 0 + 0 ≤ 600000; omega, by show 4654 + 8880 * k + 0 + 0 ≤ 7302250; omega⟩ (fun r2 v' hq2 => ?_)
  obtain ⟨rfl, rfl⟩ := hq2
  refine j_icmp_eq h (tgt := 1290) dL_law_1024 (by decide) (fun _ => ?_) (fun q => absurd (Q_wetIn (X1 := X) (A1 := A) hv.gr _ _).symm q)
  refine j_widen h (k := 352 + 40 * (k + 1)) (n := 4654 + 8880 * (k + 1)) (by show 352 + 40 * k + 0 + 0 ≤ _; omega) (by show 4654 + 8880 * k + 0 + 0 ≤ _; omega) ?_
  exact hx _ _ ⟨G, M, X, A, bb, Y, B, t, n, rfl, rfl, hv⟩
set_option maxRecDepth 100000 in
set_option maxHeartbeats 4000000 in
theorem lc_25 {l : Launch} {D : gD} {cy : Nat → ClassId} {J : JT va_W} {b Ls : Nat} {xs : Nat → Int32} {L : Nat → Nat → Nat} {ad : Nat → Nat} {k : Nat} {u : cS × cB} {v : mS} (hl : OKL l D cy J b Ls xs) (hLs : Ls ≤ 3072) (hk : 6 * k + 6 ≤ Ls) (hi : INV u v) (hx : NX cy L ad J b k) : J (CW cy L u ++ MW cy ad v) (352 + 40 * k, 4654 + 8880 * k) (lvL L ad b k) 1029 [] := by
  have h := hl.ok
  obtain ⟨G, M, X, A, bb, Y, B, t, n, rfl, rfl, hv⟩ := hi
  refine j_aload_n h dL_law_1029 rfl 2 rfl ?_
  refine j_aload_n h dL_law_1030 rfl 1 rfl ?_
  refine j_iload_n h dL_law_1031 rfl 0 rfl ?_
  refine j_iconst h (v := 1) dL_law_1032 (by decide) ?_
  refine j_iadd h dL_law_1033 ?_
  refine j_sld hl (6 * k + 1) (nI_add _ 1) (by omega) hLs dL_law_1034 ?_
  refine j_aload_n h dL_law_1035 rfl 1 rfl ?_
  refine j_iload_n h dL_law_1036 rfl 0 rfl ?_
  refine j_iconst h (v := 2) dL_law_1037 (by decide) ?_
  refine j_iadd h dL_law_1038 ?_
  refine j_sld hl (6 * k + 2) (nI_add _ 2) (by omega) hLs dL_law_1039 ?_
  refine j_fI h (n := 2) (c_X7_castsIn l D cy L _ _ _ _ M _ _ hv.gi) (wr := MW cy ad _) rfl (xg_V (xr_45 22 rfl) (xr_45 23 rfl) (xr_46 0 rfl) (xr_1 2 rfl) (xr_46 1 rfl)) rfl rfl (by decide +kernel) ⟨Nat.le_of_ble_eq_true rfl, Nat.le_of_ble_eq_true rfl⟩ (330 + 0) (ml_get 0) rfl rfl rfl rfl (Nat.le_of_ble_eq_true rfl) dL_law_1040 ⟨by show 352 + 40 * k + 0 ≤ 600000; omega, by show 4654 + 8880 * k + 0 ≤ 7302250; omega⟩ (fun r u' hq => ?_)
  obtain ⟨rfl, rfl⟩ := hq
  refine j_aload_n h dL_law_1043 rfl 3 rfl ?_
  refine j_aload_n h dL_law_1044 rfl 1 rfl ?_
  refine j_iload_n h dL_law_1045 rfl 0 rfl ?_
  refine j_iconst h (v := 1) dL_law_1046 (by decide) ?_
  refine j_iadd h dL_law_1047 ?_
  refine j_sld hl (6 * k + 1) (nI_add _ 1) (by omega) hLs dL_law_1048 ?_
  refine j_aload_n h dL_law_1049 rfl 1 rfl ?_
  refine j_iload_n h dL_law_1050 rfl 0 rfl ?_
  refine j_iconst h (v := 2) dL_law_1051 (by decide) ?_
  refine j_iadd h dL_law_1052 ?_
  refine j_sld hl (6 * k + 2) (nI_add _ 2) (by omega) hLs dL_law_1053 ?_
  refine j_bI h (n := 2) (c_X8_castsIn l D cy ad _ _ _ _ hv.mi) (wr := CW cy L _) rfl (xg_V (xr_46 6 rfl) (xr_46 7 rfl) (xr_46 8 rfl) (xr_1 5 rfl) (xr_46 9 rfl)) rfl rfl (by decide +kernel) ⟨Nat.le_of_ble_eq_true rfl, Nat.le_of_ble_eq_true rfl⟩ 0 rfl rfl rfl rfl rfl (Nat.le_of_ble_eq_true rfl) dL_law_1054 ⟨by show 352 + 40 * k + 0 + 0 ≤ 600000; omega, by show 4654 + 8880 * k + 0 + 0 ≤ 7302250; omega⟩ (fun r2 v' hq2 => ?_)
  obtain ⟨rfl, rfl⟩ := hq2
  refine j_icmp_eq h (tgt := 1290) dL_law_1057 (by decide) (fun _ => ?_) (fun q => absurd (Q_castsIn (X1 := X) (A1 := A) hv.gr _ _).symm q)
  refine j_widen h (k := 352 + 40 * (k + 1)) (n := 4654 + 8880 * (k + 1)) (by show 352 + 40 * k + 0 + 0 ≤ _; omega) (by show 4654 + 8880 * k + 0 + 0 ≤ _; omega) ?_
  exact hx _ _ ⟨G, M, X, A, bb, Y, B, t, n, rfl, rfl, hv⟩
set_option maxRecDepth 100000 in
set_option maxHeartbeats 4000000 in
theorem lc_26 {l : Launch} {D : gD} {cy : Nat → ClassId} {J : JT va_W} {b Ls : Nat} {xs : Nat → Int32} {L : Nat → Nat → Nat} {ad : Nat → Nat} {k : Nat} {u : cS × cB} {v : mS} (hl : OKL l D cy J b Ls xs) (hLs : Ls ≤ 3072) (hk : 6 * k + 6 ≤ Ls) (hi : INV u v) (hx : NX cy L ad J b k) : J (CW cy L u ++ MW cy ad v) (352 + 40 * k, 4654 + 8880 * k) (lvL L ad b k) 1062 [] := by
  have h := hl.ok
  obtain ⟨G, M, X, A, bb, Y, B, t, n, rfl, rfl, hv⟩ := hi
  refine j_aload_n h dL_law_1062 rfl 2 rfl ?_
  refine j_aload_n h dL_law_1063 rfl 1 rfl ?_
  refine j_iload_n h dL_law_1064 rfl 0 rfl ?_
  refine j_iconst h (v := 1) dL_law_1065 (by decide) ?_
  refine j_iadd h dL_law_1066 ?_
  refine j_sld hl (6 * k + 1) (nI_add _ 1) (by omega) hLs dL_law_1067 ?_
  refine j_fI h (n := 1) (c_X7_dryIn l D cy L _ _ _ _ M _ hv.gi) (wr := MW cy ad _) rfl (xg_V (xr_46 10 rfl) (xr_46 11 rfl) (xr_46 12 rfl) (xr_1 2 rfl) (xr_46 13 rfl)) rfl rfl (by decide +kernel) ⟨Nat.le_of_ble_eq_true rfl, Nat.le_of_ble_eq_true rfl⟩ (330 + 0) (ml_get 0) rfl rfl rfl rfl (Nat.le_of_ble_eq_true rfl) dL_law_1068 ⟨by show 352 + 40 * k + 0 ≤ 600000; omega, by show 4654 + 8880 * k + 0 ≤ 7302250; omega⟩ (fun r u' hq => ?_)
  obtain ⟨rfl, rfl⟩ := hq
  refine j_aload_n h dL_law_1071 rfl 3 rfl ?_
  refine j_aload_n h dL_law_1072 rfl 1 rfl ?_
  refine j_iload_n h dL_law_1073 rfl 0 rfl ?_
  refine j_iconst h (v := 1) dL_law_1074 (by decide) ?_
  refine j_iadd h dL_law_1075 ?_
  refine j_sld hl (6 * k + 1) (nI_add _ 1) (by omega) hLs dL_law_1076 ?_
  refine j_bI h (n := 1) (c_X8_dryIn l D cy ad _ _ _ hv.mi) (wr := CW cy L _) rfl (xg_V (xr_46 14 rfl) (xr_46 15 rfl) (xr_46 16 rfl) (xr_1 5 rfl) (xr_46 17 rfl)) rfl rfl (by decide +kernel) ⟨Nat.le_of_ble_eq_true rfl, Nat.le_of_ble_eq_true rfl⟩ 0 rfl rfl rfl rfl rfl (Nat.le_of_ble_eq_true rfl) dL_law_1077 ⟨by show 352 + 40 * k + 0 + 0 ≤ 600000; omega, by show 4654 + 8880 * k + 0 + 0 ≤ 7302250; omega⟩ (fun r2 v' hq2 => ?_)
  obtain ⟨rfl, rfl⟩ := hq2
  refine j_icmp_eq h (tgt := 1290) dL_law_1080 (by decide) (fun _ => ?_) (fun q => absurd (Q_dryIn (X1 := X) (A1 := A) hv.gr _).symm q)
  refine j_widen h (k := 352 + 40 * (k + 1)) (n := 4654 + 8880 * (k + 1)) (by show 352 + 40 * k + 0 + 0 ≤ _; omega) (by show 4654 + 8880 * k + 0 + 0 ≤ _; omega) ?_
  exact hx _ _ ⟨G, M, X, A, bb, Y, B, t, n, rfl, rfl, hv⟩
set_option maxRecDepth 100000 in
set_option maxHeartbeats 4000000 in
theorem lc_27 {l : Launch} {D : gD} {cy : Nat → ClassId} {J : JT va_W} {b Ls : Nat} {xs : Nat → Int32} {L : Nat → Nat → Nat} {ad : Nat → Nat} {k : Nat} {u : cS × cB} {v : mS} (hl : OKL l D cy J b Ls xs) (hLs : Ls ≤ 3072) (hk : 6 * k + 6 ≤ Ls) (hi : INV u v) (hx : NX cy L ad J b k) : J (CW cy L u ++ MW cy ad v) (352 + 40 * k, 4654 + 8880 * k) (lvL L ad b k) 1085 [] := by
  have h := hl.ok
  obtain ⟨G, M, X, A, bb, Y, B, t, n, rfl, rfl, hv⟩ := hi
  refine j_aload_n h dL_law_1085 rfl 2 rfl ?_
  refine j_fI h (n := 0) (c_X7_leader l D cy L _ _ _ _ M) (wr := MW cy ad _) rfl (xg_V (xr_46 18 rfl) (xr_46 19 rfl) (xr_46 20 rfl) (xr_1 2 rfl) (xr_46 21 rfl)) rfl rfl (by decide +kernel) ⟨Nat.le_of_ble_eq_true rfl, Nat.le_of_ble_eq_true rfl⟩ (330 + 0) (ml_get 0) rfl rfl rfl rfl (Nat.le_of_ble_eq_true rfl) dL_law_1086 ⟨by show 352 + 40 * k + 0 ≤ 600000; omega, by show 4654 + 8880 * k + 0 ≤ 7302250; omega⟩ (fun r u' hq => ?_)
  obtain ⟨rfl, rfl⟩ := hq
  refine j_aload_n h dL_law_1089 rfl 3 rfl ?_
  refine j_bI h (n := 0) (c_X8_leader l D cy ad _ _) (wr := CW cy L _) rfl (xg_V (xr_46 22 rfl) (xr_46 23 rfl) (xr_47 0 rfl) (xr_1 5 rfl) (xr_47 1 rfl)) rfl rfl (by decide +kernel) ⟨Nat.le_of_ble_eq_true rfl, Nat.le_of_ble_eq_true rfl⟩ 0 rfl rfl rfl rfl rfl (Nat.le_of_ble_eq_true rfl) dL_law_1090 ⟨by show 352 + 40 * k + 0 + 0 ≤ 600000; omega, by show 4654 + 8880 * k + 0 + 0 ≤ 7302250; omega⟩ (fun r2 v' hq2 => ?_)
  obtain ⟨rfl, rfl⟩ := hq2
  refine j_icmp_eq h (tgt := 1290) dL_law_1093 (by decide) (fun _ => ?_) (fun q => absurd (Q_leader (X1 := X) (A1 := A) hv.gr).symm q)
  refine j_widen h (k := 352 + 40 * (k + 1)) (n := 4654 + 8880 * (k + 1)) (by show 352 + 40 * k + 0 + 0 ≤ _; omega) (by show 4654 + 8880 * k + 0 + 0 ≤ _; omega) ?_
  exact hx _ _ ⟨G, M, X, A, bb, Y, B, t, n, rfl, rfl, hv⟩
set_option maxRecDepth 100000 in
set_option maxHeartbeats 4000000 in
theorem lc_28 {l : Launch} {D : gD} {cy : Nat → ClassId} {J : JT va_W} {b Ls : Nat} {xs : Nat → Int32} {L : Nat → Nat → Nat} {ad : Nat → Nat} {k : Nat} {u : cS × cB} {v : mS} (hl : OKL l D cy J b Ls xs) (hLs : Ls ≤ 3072) (hk : 6 * k + 6 ≤ Ls) (hi : INV u v) (hx : NX cy L ad J b k) : J (CW cy L u ++ MW cy ad v) (352 + 40 * k, 4654 + 8880 * k) (lvL L ad b k) 1098 [] := by
  have h := hl.ok
  obtain ⟨G, M, X, A, bb, Y, B, t, n, rfl, rfl, hv⟩ := hi
  obtain ⟨nl, e8, hLn⟩ := hv.2.2.2.2.2.2.2.2.2
  refine j_aload_n h dL_law_1098 rfl 2 rfl ?_
  refine j_aload_n h dL_law_1099 rfl 1 rfl ?_
  refine j_iload_n h dL_law_1100 rfl 0 rfl ?_
  refine j_iconst h (v := 1) dL_law_1101 (by decide) ?_
  refine j_iadd h dL_law_1102 ?_
  refine j_sld hl (6 * k + 1) (nI_add _ 1) (by omega) hLs dL_law_1103 ?_
  refine j_fI h (n := 1) (c_X7_describe2 l D cy L _ _ _ _ M _ nl e8 hLn hv.gi (dsc_r hv.gr) (dsc_w hv.gr) (lying_8 hv.gr)) (wr := MW cy ad _) rfl (xg_V (xr_47 2 rfl) (xr_47 3 rfl) (xr_47 4 rfl) (xr_1 2 rfl) (xr_47 5 rfl)) rfl rfl (by decide +kernel) ⟨Nat.le_of_ble_eq_true rfl, Nat.le_of_ble_eq_true rfl⟩ (330 + 0) (ml_get 0) rfl rfl rfl rfl (Nat.le_of_ble_eq_true rfl) dL_law_1104 ⟨by show 352 + 40 * k + 40 ≤ 600000; omega, by show 4654 + 8880 * k + 8880 ≤ 7302250; omega⟩ (fun r u' hq => ?_)
  obtain ⟨z, hz, rfl, hq⟩ := hq
  refine j_aload_n h dL_law_1107 rfl 3 rfl ?_
  refine j_aload_n h dL_law_1108 rfl 1 rfl ?_
  refine j_iload_n h dL_law_1109 rfl 0 rfl ?_
  refine j_iconst h (v := 1) dL_law_1110 (by decide) ?_
  refine j_iadd h dL_law_1111 ?_
  refine j_sld hl (6 * k + 1) (nI_add _ 1) (by omega) hLs dL_law_1112 ?_
  refine j_bI h (n := 1) (c_X8_describe l D cy ad _ _ M _ hv.gr hv.mi) (wr := CW cy L _) rfl (xg_V (xr_50 6 rfl) (xr_50 7 rfl) (xr_50 8 rfl) (xr_1 5 rfl) (xr_50 9 rfl)) rfl rfl (by decide +kernel) ⟨Nat.le_of_ble_eq_true rfl, Nat.le_of_ble_eq_true rfl⟩ 0 rfl rfl rfl rfl rfl (Nat.le_of_ble_eq_true rfl) dL_law_1113 ⟨by show 352 + 40 * k + 40 + 0 ≤ 600000; omega, by show 4654 + 8880 * k + 8880 + 0 ≤ 7302250; omega⟩ (fun r2 v' hq2 => ?_)
  obtain ⟨rfl, hq2⟩ := hq2
  rw [hz] at hq ⊢
  refine j_icmp_eq h (tgt := 1290) dL_law_1116 (by decide) (fun _ => ?_) (fun q => absurd rfl q)
  refine j_widen h (k := 352 + 40 * (k + 1)) (n := 4654 + 8880 * (k + 1)) (by show 352 + 40 * k + 40 + 0 ≤ _; omega) (by show 4654 + 8880 * k + 8880 + 0 ≤ _; omega) ?_
  rcases hq with ⟨e1, e0, rfl⟩ | ⟨e0, X9, A9, b9, rfl, hL⟩
  · rcases hq2 with ⟨-, -, rfl⟩ | ⟨Y9, B9, rfl, hW, hT, e9⟩
    · exact hx _ _ ⟨G, M, X, A, bb, Y, B, t, n, rfl, rfl, hv⟩
    · exact absurd e0 e9
  · rcases hq2 with ⟨-, e9, rfl⟩ | ⟨Y9, B9, rfl, hW, hT, -⟩
    · exact absurd e9 e0
    · exact hx _ _ (hv.line hL hW hT)
set_option maxRecDepth 100000 in
set_option maxHeartbeats 4000000 in
theorem lc_29 {l : Launch} {D : gD} {cy : Nat → ClassId} {J : JT va_W} {b Ls : Nat} {xs : Nat → Int32} {L : Nat → Nat → Nat} {ad : Nat → Nat} {k : Nat} {u : cS × cB} {v : mS} (hl : OKL l D cy J b Ls xs) (hLs : Ls ≤ 3072) (hk : 6 * k + 6 ≤ Ls) (hi : INV u v) (hx : NX cy L ad J b k) : J (CW cy L u ++ MW cy ad v) (352 + 40 * k, 4654 + 8880 * k) (lvL L ad b k) 1121 [] := by
  have h := hl.ok
  obtain ⟨G, M, X, A, bb, Y, B, t, n, rfl, rfl, hv⟩ := hi
  obtain ⟨nl, e8, hLn⟩ := hv.2.2.2.2.2.2.2.2.2
  refine j_aload_n h dL_law_1121 rfl 2 rfl ?_
  refine j_aload_n h dL_law_1122 rfl 1 rfl ?_
  refine j_iload_n h dL_law_1123 rfl 0 rfl ?_
  refine j_iconst h (v := 1) dL_law_1124 (by decide) ?_
  refine j_iadd h dL_law_1125 ?_
  refine j_sld hl (6 * k + 1) (nI_add _ 1) (by omega) hLs dL_law_1126 ?_
  refine j_fI h (n := 1) (c_X7_written l D cy L _ _ _ _ M _ e8 hLn) (wr := MW cy ad _) rfl (xg_V (xr_50 21 rfl) (xr_50 22 rfl) (xr_50 23 rfl) (xr_1 2 rfl) (xr_51 0 rfl)) rfl rfl (by decide +kernel) ⟨Nat.le_of_ble_eq_true rfl, Nat.le_of_ble_eq_true rfl⟩ (330 + 0) (ml_get 0) rfl rfl rfl rfl (Nat.le_of_ble_eq_true rfl) dL_law_1127 ⟨by show 352 + 40 * k + 0 ≤ 600000; omega, by show 4654 + 8880 * k + 0 ≤ 7302250; omega⟩ (fun r u' hq => ?_)
  obtain ⟨rfl, rfl⟩ := hq
  refine j_aload_n h dL_law_1130 rfl 3 rfl ?_
  refine j_aload_n h dL_law_1131 rfl 1 rfl ?_
  refine j_iload_n h dL_law_1132 rfl 0 rfl ?_
  refine j_iconst h (v := 1) dL_law_1133 (by decide) ?_
  refine j_iadd h dL_law_1134 ?_
  refine j_sld hl (6 * k + 1) (nI_add _ 1) (by omega) hLs dL_law_1135 ?_
  refine j_bI h (n := 1) (c_X8_written l D cy ad _ _ _ hv.y7) (wr := CW cy L _) rfl (xg_V (xr_51 2 rfl) (xr_51 3 rfl) (xr_51 4 rfl) (xr_1 5 rfl) (xr_51 5 rfl)) rfl rfl (by decide +kernel) ⟨Nat.le_of_ble_eq_true rfl, Nat.le_of_ble_eq_true rfl⟩ 0 rfl rfl rfl rfl rfl (Nat.le_of_ble_eq_true rfl) dL_law_1136 ⟨by show 352 + 40 * k + 0 + 0 ≤ 600000; omega, by show 4654 + 8880 * k + 0 + 0 ≤ 7302250; omega⟩ (fun r2 v' hq2 => ?_)
  obtain ⟨rfl, rfl⟩ := hq2
  refine j_icmp_eq h (tgt := 1290) dL_law_1139 (by decide) (fun _ => ?_) (fun q => absurd (Q_written hv.2.2.1 _).symm q)
  refine j_widen h (k := 352 + 40 * (k + 1)) (n := 4654 + 8880 * (k + 1)) (by show 352 + 40 * k + 0 + 0 ≤ _; omega) (by show 4654 + 8880 * k + 0 + 0 ≤ _; omega) ?_
  exact hx _ _ ⟨G, M, X, A, bb, Y, B, t, n, rfl, rfl, hv⟩
set_option maxRecDepth 100000 in
set_option maxHeartbeats 4000000 in
theorem lc_30 {l : Launch} {D : gD} {cy : Nat → ClassId} {J : JT va_W} {b Ls : Nat} {xs : Nat → Int32} {L : Nat → Nat → Nat} {ad : Nat → Nat} {k : Nat} {u : cS × cB} {v : mS} (hl : OKL l D cy J b Ls xs) (hLs : Ls ≤ 3072) (hk : 6 * k + 6 ≤ Ls) (hi : INV u v) (hx : NX cy L ad J b k) : J (CW cy L u ++ MW cy ad v) (352 + 40 * k, 4654 + 8880 * k) (lvL L ad b k) 1144 [] := by
  have h := hl.ok
  obtain ⟨G, M, X, A, bb, Y, B, t, n, rfl, rfl, hv⟩ := hi
  refine j_aload_n h dL_law_1144 rfl 2 rfl ?_
  refine j_fF h (n := 0) (c_X7_meanWet l D cy L _ _ _ _ M hv.gi) (wr := MW cy ad _) rfl (xg_V (xr_51 6 rfl) (xr_51 7 rfl) (xr_51 8 rfl) (xr_1 2 rfl) (xr_51 9 rfl)) rfl rfl (by decide +kernel) ⟨Nat.le_of_ble_eq_true rfl, Nat.le_of_ble_eq_true rfl⟩ (330 + 0) (ml_get 0) rfl rfl rfl rfl (Nat.le_of_ble_eq_true rfl) dL_law_1145 ⟨by show 352 + 40 * k + 0 ≤ 600000; omega, by show 4654 + 8880 * k + 0 ≤ 7302250; omega⟩ (fun r u' hq => ?_)
  obtain ⟨rfl, rfl⟩ := hq
  refine j_f2d h dL_law_1148 (n_f2d mw_n) ?_
  refine j_dstore h (lv' := [(4, _), (3, _), (0, _), (1, _), (2, _)]) dL_law_1149 (by decide) rfl ?_
  refine j_aload_n h dL_law_1151 rfl 4 rfl ?_
  refine j_bF h (n := 0) (c_X8_meanWet l D cy ad _ _ hv.mi) (wr := CW cy L _) rfl (xg_V (xr_51 14 rfl) (xr_51 15 rfl) (xr_51 16 rfl) (xr_1 5 rfl) (xr_51 17 rfl)) rfl rfl (by decide +kernel) ⟨Nat.le_of_ble_eq_true rfl, Nat.le_of_ble_eq_true rfl⟩ 0 rfl rfl rfl rfl rfl (Nat.le_of_ble_eq_true rfl) dL_law_1152 ⟨by show 352 + 40 * k + 0 + 0 ≤ 600000; omega, by show 4654 + 8880 * k + 0 + 0 ≤ 7302250; omega⟩ (fun r2 v' hq2 => ?_)
  obtain ⟨rfl, rfl⟩ := hq2
  rw [Q_meanWet (X1 := X) (A1 := A) hv.gr]
  refine j_f2d h dL_law_1155 (n_f2d mw_n) ?_
  refine j_dstore h (lv' := [(6, _), (4, _), (3, _), (0, _), (1, _), (2, _)]) dL_law_1156 (by decide) rfl ?_
  generalize FP.f2d (f_X7_meanWet M X A) = dv
  refine j_dload h dL_law_1158 1 rfl ?_
  refine j_dload h dL_law_1160 0 rfl ?_
  refine j_dcmp h dL_law_1162 ?_
  refine j_if_eq h (tgt := 1184) dL_law_1163 (by decide) (fun c => ?_) (fun c => ?_)
  · refine j_goto h (tgt := 1290) dL_law_1184 (by decide) ?_
    refine j_sub h [2, 3, 4, 5] rfl ?_
    refine j_widen h (k := 352 + 40 * (k + 1)) (n := 4654 + 8880 * (k + 1)) (by show 352 + 40 * k + 0 + 0 ≤ _; omega) (by show 4654 + 8880 * k + 0 + 0 ≤ _; omega) ?_
    exact hx _ _ ⟨G, M, X, A, bb, Y, B, t, n, rfl, rfl, hv⟩
  · refine j_dload h dL_law_1166 1 rfl ?_
    refine j_dload h dL_law_1168 1 rfl ?_
    refine j_dcmp h dL_law_1170 ?_
    refine j_if_eq h (tgt := 1182) dL_law_1171 (by decide) (fun c2 => absurd c2 c) (fun _ => ?_)
    refine j_dload h dL_law_1174 0 rfl ?_
    refine j_dload h dL_law_1176 0 rfl ?_
    refine j_dcmp h dL_law_1178 ?_
    refine j_if_ne h (tgt := 1184) dL_law_1179 (by decide) (fun _ => ?_) (fun c2 => absurd c2 c)
    refine j_goto h (tgt := 1290) dL_law_1184 (by decide) ?_
    refine j_sub h [2, 3, 4, 5] rfl ?_
    refine j_widen h (k := 352 + 40 * (k + 1)) (n := 4654 + 8880 * (k + 1)) (by show 352 + 40 * k + 0 + 0 ≤ _; omega) (by show 4654 + 8880 * k + 0 + 0 ≤ _; omega) ?_
    exact hx _ _ ⟨G, M, X, A, bb, Y, B, t, n, rfl, rfl, hv⟩
set_option maxRecDepth 100000 in
set_option maxHeartbeats 4000000 in
theorem lc_31 {l : Launch} {D : gD} {cy : Nat → ClassId} {J : JT va_W} {b Ls : Nat} {xs : Nat → Int32} {L : Nat → Nat → Nat} {ad : Nat → Nat} {k : Nat} {u : cS × cB} {v : mS} (hl : OKL l D cy J b Ls xs) (hLs : Ls ≤ 3072) (hk : 6 * k + 6 ≤ Ls) (hi : INV u v) (hx : NX cy L ad J b k) : J (CW cy L u ++ MW cy ad v) (352 + 40 * k, 4654 + 8880 * k) (lvL L ad b k) 1187 [] := by
  have h := hl.ok
  obtain ⟨G, M, X, A, bb, Y, B, t, n, rfl, rfl, hv⟩ := hi
  refine j_aload_n h dL_law_1187 rfl 2 rfl ?_
  refine j_fD h (n := 0) (c_X7_winShare l D cy L _ _ _ _ M hv.gi) (wr := MW cy ad _) rfl (xg_V (xr_51 18 rfl) (xr_51 19 rfl) (xr_51 20 rfl) (xr_1 2 rfl) (xr_51 21 rfl)) rfl rfl (by decide +kernel) ⟨Nat.le_of_ble_eq_true rfl, Nat.le_of_ble_eq_true rfl⟩ (330 + 0) (ml_get 0) rfl rfl rfl rfl (Nat.le_of_ble_eq_true rfl) dL_law_1188 ⟨by show 352 + 40 * k + 0 ≤ 600000; omega, by show 4654 + 8880 * k + 0 ≤ 7302250; omega⟩ (fun r u' hq => ?_)
  obtain ⟨rfl, rfl⟩ := hq
  refine j_dstore h (lv' := [(4, _), (3, _), (0, _), (1, _), (2, _)]) dL_law_1191 (by decide) rfl ?_
  refine j_aload_n h dL_law_1193 rfl 4 rfl ?_
  refine j_bD h (n := 0) (c_X8_winShare l D cy ad _ _ hv.mi) (wr := CW cy L _) rfl (xg_V (xr_52 3 rfl) (xr_52 4 rfl) (xr_52 5 rfl) (xr_1 5 rfl) (xr_52 6 rfl)) rfl rfl (by decide +kernel) ⟨Nat.le_of_ble_eq_true rfl, Nat.le_of_ble_eq_true rfl⟩ 0 rfl rfl rfl rfl rfl (Nat.le_of_ble_eq_true rfl) dL_law_1194 ⟨by show 352 + 40 * k + 0 + 0 ≤ 600000; omega, by show 4654 + 8880 * k + 0 + 0 ≤ 7302250; omega⟩ (fun r2 v' hq2 => ?_)
  obtain ⟨rfl, rfl⟩ := hq2
  rw [Q_winShare (X1 := X) (A1 := A) hv.gr]
  refine j_dstore h (lv' := [(6, _), (4, _), (3, _), (0, _), (1, _), (2, _)]) dL_law_1197 (by decide) rfl ?_
  generalize f_X7_winShare M X A = dv
  refine j_dload h dL_law_1199 1 rfl ?_
  refine j_dload h dL_law_1201 0 rfl ?_
  refine j_dcmp h dL_law_1203 ?_
  refine j_if_eq h (tgt := 1225) dL_law_1204 (by decide) (fun c => ?_) (fun c => ?_)
  · refine j_goto h (tgt := 1290) dL_law_1225 (by decide) ?_
    refine j_sub h [2, 3, 4, 5] rfl ?_
    refine j_widen h (k := 352 + 40 * (k + 1)) (n := 4654 + 8880 * (k + 1)) (by show 352 + 40 * k + 0 + 0 ≤ _; omega) (by show 4654 + 8880 * k + 0 + 0 ≤ _; omega) ?_
    exact hx _ _ ⟨G, M, X, A, bb, Y, B, t, n, rfl, rfl, hv⟩
  · refine j_dload h dL_law_1207 1 rfl ?_
    refine j_dload h dL_law_1209 1 rfl ?_
    refine j_dcmp h dL_law_1211 ?_
    refine j_if_eq h (tgt := 1223) dL_law_1212 (by decide) (fun c2 => absurd c2 c) (fun _ => ?_)
    refine j_dload h dL_law_1215 0 rfl ?_
    refine j_dload h dL_law_1217 0 rfl ?_
    refine j_dcmp h dL_law_1219 ?_
    refine j_if_ne h (tgt := 1225) dL_law_1220 (by decide) (fun _ => ?_) (fun c2 => absurd c2 c)
    refine j_goto h (tgt := 1290) dL_law_1225 (by decide) ?_
    refine j_sub h [2, 3, 4, 5] rfl ?_
    refine j_widen h (k := 352 + 40 * (k + 1)) (n := 4654 + 8880 * (k + 1)) (by show 352 + 40 * k + 0 + 0 ≤ _; omega) (by show 4654 + 8880 * k + 0 + 0 ≤ _; omega) ?_
    exact hx _ _ ⟨G, M, X, A, bb, Y, B, t, n, rfl, rfl, hv⟩
set_option maxRecDepth 100000 in
set_option maxHeartbeats 4000000 in
theorem lc_32 {l : Launch} {D : gD} {cy : Nat → ClassId} {J : JT va_W} {b Ls : Nat} {xs : Nat → Int32} {L : Nat → Nat → Nat} {ad : Nat → Nat} {k : Nat} {u : cS × cB} {v : mS} (hl : OKL l D cy J b Ls xs) (hLs : Ls ≤ 3072) (hk : 6 * k + 6 ≤ Ls) (hi : INV u v) (hx : NX cy L ad J b k) : J (CW cy L u ++ MW cy ad v) (352 + 40 * k, 4654 + 8880 * k) (lvL L ad b k) 1228 [] := by
  have h := hl.ok
  obtain ⟨G, M, X, A, bb, Y, B, t, n, rfl, rfl, hv⟩ := hi
  refine j_aload_n h dL_law_1228 rfl 2 rfl ?_
  refine j_aload_n h dL_law_1229 rfl 1 rfl ?_
  refine j_iload_n h dL_law_1230 rfl 0 rfl ?_
  refine j_iconst h (v := 1) dL_law_1231 (by decide) ?_
  refine j_iadd h dL_law_1232 ?_
  refine j_sld hl (6 * k + 1) (nI_add _ 1) (by omega) hLs dL_law_1233 ?_
  refine j_fI h (n := 1) (c_X7_account l D cy L _ _ _ _ M _ hv.gi) (wr := MW cy ad _) rfl (xg_V (xr_52 11 rfl) (xr_52 12 rfl) (xr_52 13 rfl) (xr_1 2 rfl) (xr_52 14 rfl)) rfl rfl (by decide +kernel) ⟨Nat.le_of_ble_eq_true rfl, Nat.le_of_ble_eq_true rfl⟩ (330 + 0) (ml_get 0) rfl rfl rfl rfl (Nat.le_of_ble_eq_true rfl) dL_law_1234 ⟨by show 352 + 40 * k + 0 ≤ 600000; omega, by show 4654 + 8880 * k + 0 ≤ 7302250; omega⟩ (fun r u' hq => ?_)
  obtain ⟨rfl, rfl⟩ := hq
  refine j_aload_n h dL_law_1237 rfl 3 rfl ?_
  refine j_aload_n h dL_law_1238 rfl 1 rfl ?_
  refine j_iload_n h dL_law_1239 rfl 0 rfl ?_
  refine j_iconst h (v := 1) dL_law_1240 (by decide) ?_
  refine j_iadd h dL_law_1241 ?_
  refine j_sld hl (6 * k + 1) (nI_add _ 1) (by omega) hLs dL_law_1242 ?_
  refine j_bI h (n := 1) (c_X8_account l D cy ad _ _ _ hv.mi) (wr := CW cy L _) rfl (xg_V (xr_53 8 rfl) (xr_53 9 rfl) (xr_53 10 rfl) (xr_1 5 rfl) (xr_53 11 rfl)) rfl rfl (by decide +kernel) ⟨Nat.le_of_ble_eq_true rfl, Nat.le_of_ble_eq_true rfl⟩ 0 rfl rfl rfl rfl rfl (Nat.le_of_ble_eq_true rfl) dL_law_1243 ⟨by show 352 + 40 * k + 0 + 0 ≤ 600000; omega, by show 4654 + 8880 * k + 0 + 0 ≤ 7302250; omega⟩ (fun r2 v' hq2 => ?_)
  obtain ⟨rfl, rfl⟩ := hq2
  refine j_icmp_eq h (tgt := 1290) dL_law_1246 (by decide) (fun _ => ?_) (fun q => absurd (Q_account hv.gr (hv.2.1.2.2.1.trans hv.x7.symm) (acc_3 hv) _).symm q)
  refine j_widen h (k := 352 + 40 * (k + 1)) (n := 4654 + 8880 * (k + 1)) (by show 352 + 40 * k + 0 + 0 ≤ _; omega) (by show 4654 + 8880 * k + 0 + 0 ≤ _; omega) ?_
  exact hx _ _ ⟨G, M, X, A, bb, Y, B, t, n, rfl, rfl, hv⟩
set_option maxRecDepth 100000 in
set_option maxHeartbeats 4000000 in
theorem lc_33 {l : Launch} {D : gD} {cy : Nat → ClassId} {J : JT va_W} {b Ls : Nat} {xs : Nat → Int32} {L : Nat → Nat → Nat} {ad : Nat → Nat} {k : Nat} {u : cS × cB} {v : mS} (hl : OKL l D cy J b Ls xs) (hLs : Ls ≤ 3072) (hk : 6 * k + 6 ≤ Ls) (hi : INV u v) (hx : NX cy L ad J b k) : J (CW cy L u ++ MW cy ad v) (352 + 40 * k, 4654 + 8880 * k) (lvL L ad b k) 1251 [] := by
  have h := hl.ok
  obtain ⟨G, M, X, A, bb, Y, B, t, n, rfl, rfl, hv⟩ := hi
  refine j_aload_n h dL_law_1251 rfl 2 rfl ?_
  refine j_fI h (n := 0) (c_X7_undo l D cy L _ _ _ _ M hv.f2 hv.gb) (wr := MW cy ad _) rfl (xg_V (xr_53 12 rfl) (xr_53 13 rfl) (xr_53 14 rfl) (xr_1 2 rfl) (xr_53 15 rfl)) rfl rfl (by decide +kernel) ⟨Nat.le_of_ble_eq_true rfl, Nat.le_of_ble_eq_true rfl⟩ (330 + 0) (ml_get 0) rfl rfl rfl rfl (Nat.le_of_ble_eq_true rfl) dL_law_1252 ⟨by show 352 + 40 * k + 0 ≤ 600000; omega, by show 4654 + 8880 * k + 0 ≤ 7302250; omega⟩ (fun r u' hq => ?_)
  obtain ⟨z, rfl, rfl, rfl⟩ := hq
  refine j_aload_n h dL_law_1255 rfl 3 rfl ?_
  refine j_bI h (n := 0) (c_X8_undo l D cy ad _ _ hv.y3) (wr := CW cy L _) rfl (xg_V (xr_53 20 rfl) (xr_53 21 rfl) (xr_53 22 rfl) (xr_1 5 rfl) (xr_53 23 rfl)) rfl rfl (by decide +kernel) ⟨Nat.le_of_ble_eq_true rfl, Nat.le_of_ble_eq_true rfl⟩ 0 rfl rfl rfl rfl rfl (Nat.le_of_ble_eq_true rfl) dL_law_1256 ⟨by show 352 + 40 * k + 0 + 0 ≤ 600000; omega, by show 4654 + 8880 * k + 0 + 0 ≤ 7302250; omega⟩ (fun r2 v' hq2 => ?_)
  obtain ⟨w2, rfl, rfl, rfl⟩ := hq2
  have cg := C_undo hv.1
  refine j_icmp_eq h (tgt := 1290) dL_law_1259 (by decide) (fun _ => ?_) (fun q => absurd cg.1 q)
  refine j_widen h (k := 352 + 40 * (k + 1)) (n := 4654 + 8880 * (k + 1)) (by show 352 + 40 * k + 0 + 0 ≤ _; omega) (by show 4654 + 8880 * k + 0 + 0 ≤ _; omega) ?_
  exact hx _ _ ⟨_, _, _, _, bb, _, _, t, n, rfl, rfl, hv.chh cg (gi_undo hv) (M_undo hv.2.2.2.2.2.2.1 hv.2.2.2.2.2.1)⟩
set_option maxRecDepth 100000 in
set_option maxHeartbeats 4000000 in
theorem lc_34 {l : Launch} {D : gD} {cy : Nat → ClassId} {J : JT va_W} {b Ls : Nat} {xs : Nat → Int32} {L : Nat → Nat → Nat} {ad : Nat → Nat} {k : Nat} {u : cS × cB} {v : mS} (hl : OKL l D cy J b Ls xs) (hLs : Ls ≤ 3072) (hk : 6 * k + 6 ≤ Ls) (hi : INV u v) (hx : NX cy L ad J b k) : J (CW cy L u ++ MW cy ad v) (352 + 40 * k, 4654 + 8880 * k) (lvL L ad b k) 1264 [] := by
  have h := hl.ok
  obtain ⟨G, M, X, A, bb, Y, B, t, n, rfl, rfl, hv⟩ := hi
  refine j_aload_n h dL_law_1264 rfl 2 rfl ?_
  refine j_fI h (n := 0) (c_X7_save l D cy L _ _ _ _ M hv.gi) (wr := MW cy ad _) rfl (xg_V (xr_54 0 rfl) (xr_54 1 rfl) (xr_54 2 rfl) (xr_1 2 rfl) (xr_54 3 rfl)) rfl rfl (by decide +kernel) ⟨Nat.le_of_ble_eq_true rfl, Nat.le_of_ble_eq_true rfl⟩ (330 + 0) (ml_get 0) rfl rfl rfl rfl (Nat.le_of_ble_eq_true rfl) dL_law_1265 ⟨by show 352 + 40 * k + 0 ≤ 600000; omega, by show 4654 + 8880 * k + 0 ≤ 7302250; omega⟩ (fun r u' hq => ?_)
  obtain ⟨z, rfl, rfl, rfl⟩ := hq
  refine j_aload_n h dL_law_1268 rfl 3 rfl ?_
  refine j_bI h (n := 0) (c_X8_save l D cy ad _ _) (wr := CW cy L _) rfl (xg_V (xr_54 5 rfl) (xr_54 6 rfl) (xr_54 7 rfl) (xr_1 5 rfl) (xr_54 8 rfl)) rfl rfl (by decide +kernel) ⟨Nat.le_of_ble_eq_true rfl, Nat.le_of_ble_eq_true rfl⟩ 0 rfl rfl rfl rfl rfl (Nat.le_of_ble_eq_true rfl) dL_law_1269 ⟨by show 352 + 40 * k + 0 + 0 ≤ 600000; omega, by show 4654 + 8880 * k + 0 + 0 ≤ 7302250; omega⟩ (fun r2 v' hq2 => ?_)
  obtain ⟨w2, rfl, rfl, rfl⟩ := hq2
  obtain ⟨i1, i2⟩ := hv.save
  refine j_icmp_eq h (tgt := 1290) dL_law_1272 (by decide) (fun _ => ?_) (fun q => absurd i1 q)
  refine j_widen h (k := 352 + 40 * (k + 1)) (n := 4654 + 8880 * (k + 1)) (by show 352 + 40 * k + 0 + 0 ≤ _; omega) (by show 4654 + 8880 * k + 0 + 0 ≤ _; omega) ?_
  exact hx _ _ ⟨_, _, _, _, bb, _, _, t, n, rfl, rfl, i2⟩
set_option maxRecDepth 100000 in
set_option maxHeartbeats 4000000 in
theorem lc_35 {l : Launch} {D : gD} {cy : Nat → ClassId} {J : JT va_W} {b Ls : Nat} {xs : Nat → Int32} {L : Nat → Nat → Nat} {ad : Nat → Nat} {k : Nat} {u : cS × cB} {v : mS} (hl : OKL l D cy J b Ls xs) (hLs : Ls ≤ 3072) (hk : 6 * k + 6 ≤ Ls) (hi : INV u v) (hx : NX cy L ad J b k) : J (CW cy L u ++ MW cy ad v) (352 + 40 * k, 4654 + 8880 * k) (lvL L ad b k) 1277 [] := by
  have h := hl.ok
  obtain ⟨G, M, X, A, bb, Y, B, t, n, rfl, rfl, hv⟩ := hi
  refine j_aload_n h dL_law_1277 rfl 2 rfl ?_
  refine j_fI h (n := 0) (c_X7_restore l D cy L _ _ _ _ M (hv.gs (Nat.le_refl _) (by decide))) (wr := MW cy ad _) rfl (xg_V (xr_54 10 rfl) (xr_54 11 rfl) (xr_54 12 rfl) (xr_1 2 rfl) (xr_54 13 rfl)) rfl rfl (by decide +kernel) ⟨Nat.le_of_ble_eq_true rfl, Nat.le_of_ble_eq_true rfl⟩ (330 + 0) (ml_get 0) rfl rfl rfl rfl (Nat.le_of_ble_eq_true rfl) dL_law_1278 ⟨by show 352 + 40 * k + 0 ≤ 600000; omega, by show 4654 + 8880 * k + 0 ≤ 7302250; omega⟩ (fun r u' hq => ?_)
  obtain ⟨z, rfl, rfl, rfl⟩ := hq
  refine j_aload_n h dL_law_1281 rfl 3 rfl ?_
  refine j_bI h (n := 0) (c_X8_restore l D cy ad _ _) (wr := CW cy L _) rfl (xg_V (xr_54 14 rfl) (xr_54 15 rfl) (xr_54 16 rfl) (xr_1 5 rfl) (xr_54 17 rfl)) rfl rfl (by decide +kernel) ⟨Nat.le_of_ble_eq_true rfl, Nat.le_of_ble_eq_true rfl⟩ 0 rfl rfl rfl rfl rfl (Nat.le_of_ble_eq_true rfl) dL_law_1282 ⟨by show 352 + 40 * k + 0 + 0 ≤ 600000; omega, by show 4654 + 8880 * k + 0 + 0 ≤ 7302250; omega⟩ (fun r2 v' hq2 => ?_)
  obtain ⟨w2, rfl, rfl, rfl⟩ := hq2
  have cg := C_restore hv.1
  refine j_icmp_eq h (tgt := 1290) dL_law_1285 (by decide) (fun _ => ?_) (fun q => absurd cg.1 q)
  refine j_widen h (k := 352 + 40 * (k + 1)) (n := 4654 + 8880 * (k + 1)) (by show 352 + 40 * k + 0 + 0 ≤ _; omega) (by show 4654 + 8880 * k + 0 + 0 ≤ _; omega) ?_
  exact hx _ _ ⟨_, _, _, _, bb, _, _, t, n, rfl, rfl, hv.chh cg (gi_restore hv) (M_restore hv.2.2.2.2.2.2.1 hv.2.2.2.2.2.1)⟩

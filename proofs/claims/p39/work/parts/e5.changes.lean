set_option maxRecDepth 100000
section CG
variable {l : Launch} {D : gD} {cy : Nat → ClassId} {J : JT va_W} {L : Nat → Nat → Nat} {G : Nat → gM} {M : gM} {X : Nat → Int32} {A : Nat → Nat → Int32} {b : cB} {hh : Nat → gM} {n0 : Nat} {sv : Option gM} {t : Nat → Nat} {x r3 : Int32}
theorem cg_0 (h : OKJ l D cy wI J cL_changes 4 yL_changes rm_L_changes) (hR : RtWZ D (CW cy L) J cL_changes (STEP M hh n0 sv) 24 4480) (hO : OBx G M X A b hh n0 sv t 0) : J ([] ++ CW cy L ((va_up G 0 M, X, A), b)) (0, 0) [(2, .int r3), (0, .ref (L 11 0)), (1, .int x)] 92 [] := by
  refine j_aload_n h dL_changes_92 rfl 1 rfl ?_
  refine j_iload_n h dL_changes_93 rfl 2 rfl ?_
  refine j_iconst h (v := 4) dL_changes_94 (by decide) ?_
  refine j_ishr h dL_changes_95 ?_
  refine j_bipush h (v := 30) dL_changes_96 (by decide) ?_
  refine k_some h rfl (by decide) ⟨Nat.le_of_ble_eq_true rfl, Nat.le_of_ble_eq_true rfl⟩ (Nat.le_of_ble_eq_true rfl) ⟨Nat.le_of_ble_eq_true rfl, Nat.le_of_ble_eq_true rfl⟩ dL_changes_98 ?_
  refine j_iload_n h dL_changes_101 rfl 2 rfl ?_
  refine j_bipush h (v := 6) dL_changes_102 (by decide) ?_
  refine j_ishr h dL_changes_104 ?_
  refine j_bipush h (v := 31) dL_changes_105 (by decide) ?_
  refine k_some h rfl (by decide) ⟨Nat.le_of_ble_eq_true rfl, Nat.le_of_ble_eq_true rfl⟩ (Nat.le_of_ble_eq_true rfl) ⟨Nat.le_of_ble_eq_true rfl, Nat.le_of_ble_eq_true rfl⟩ dL_changes_107 ?_
  refine o_rink h rfl hO ⟨Nat.le_of_ble_eq_true rfl, Nat.le_of_ble_eq_true rfl⟩ (Nat.le_of_ble_eq_true rfl) ⟨by decide, by decide⟩ dL_changes_110 (fun z hz hS => ?_)
  refine j_if_lt h (tgt := 120) dL_changes_113 (by decide) (fun c => ?_) (fun c => ?_)
  · skip
    refine j_iconst h (v := 0) dL_changes_120 (by decide) ?_
    refine j_widen h (k := 24) (n := 4480) (by decide) (by decide) ?_
    exact hR _ ((va_up z.2.1 0 z.2.2.1, z.2.2.2.1, z.2.2.2.2), b) _ _ _ dL_changes_121 (Or.inl rfl) (STEP.no hS (RES.lt hS c) (fun a q => vp_nc q)) (fun H hP => hP) (fun A hD => hD)
  · skip
    refine j_iconst h (v := 1) dL_changes_116 (by decide) ?_
    refine j_goto h (tgt := 121) dL_changes_117 (by decide) ?_
    refine j_widen h (k := 24) (n := 4480) (by decide) (by decide) ?_
    exact hR _ ((va_up z.2.1 0 z.2.2.1, z.2.2.2.1, z.2.2.2.2), b) _ _ _ dL_changes_121 (Or.inr rfl) (STEP.yes hS (fun q => c (CODE_lt q))) (fun H hP => hP) (fun A hD => hD)
theorem cg_1 (h : OKJ l D cy wI J cL_changes 4 yL_changes rm_L_changes) (hR : RtWZ D (CW cy L) J cL_changes (STEP M hh n0 sv) 24 4480) (hO : OBx G M X A b hh n0 sv t 0) : J ([] ++ CW cy L ((va_up G 0 M, X, A), b)) (0, 0) [(2, .int r3), (0, .ref (L 11 0)), (1, .int x)] 122 [] := by
  refine j_aload_n h dL_changes_122 rfl 1 rfl ?_
  refine j_iload_n h dL_changes_123 rfl 2 rfl ?_
  refine j_iconst h (v := 4) dL_changes_124 (by decide) ?_
  refine j_ishr h dL_changes_125 ?_
  refine j_iconst h (v := 3) dL_changes_126 (by decide) ?_
  refine k_some h rfl (by decide) ⟨Nat.le_of_ble_eq_true rfl, Nat.le_of_ble_eq_true rfl⟩ (Nat.le_of_ble_eq_true rfl) ⟨Nat.le_of_ble_eq_true rfl, Nat.le_of_ble_eq_true rfl⟩ dL_changes_127 ?_
  refine j_iload_n h dL_changes_130 rfl 2 rfl ?_
  refine j_bipush h (v := 6) dL_changes_131 (by decide) ?_
  refine j_ishr h dL_changes_133 ?_
  refine j_bipush h (v := 11) dL_changes_134 (by decide) ?_
  refine k_some h rfl (by decide) ⟨Nat.le_of_ble_eq_true rfl, Nat.le_of_ble_eq_true rfl⟩ (Nat.le_of_ble_eq_true rfl) ⟨Nat.le_of_ble_eq_true rfl, Nat.le_of_ble_eq_true rfl⟩ dL_changes_136 ?_
  refine o_wood h rfl hO ⟨Nat.le_of_ble_eq_true rfl, Nat.le_of_ble_eq_true rfl⟩ (Nat.le_of_ble_eq_true rfl) ⟨by decide, by decide⟩ dL_changes_139 (fun z hz hS => ?_)
  refine j_if_lt h (tgt := 149) dL_changes_142 (by decide) (fun c => ?_) (fun c => ?_)
  · skip
    refine j_iconst h (v := 0) dL_changes_149 (by decide) ?_
    refine j_widen h (k := 24) (n := 4480) (by decide) (by decide) ?_
    exact hR _ ((va_up z.2.1 0 z.2.2.1, z.2.2.2.1, z.2.2.2.2), b) _ _ _ dL_changes_150 (Or.inl rfl) (STEP.no hS (RES.lt hS c) (fun a q => vp_nc q)) (fun H hP => hP) (fun A hD => hD)
  · skip
    refine j_iconst h (v := 1) dL_changes_145 (by decide) ?_
    refine j_goto h (tgt := 150) dL_changes_146 (by decide) ?_
    refine j_widen h (k := 24) (n := 4480) (by decide) (by decide) ?_
    exact hR _ ((va_up z.2.1 0 z.2.2.1, z.2.2.2.1, z.2.2.2.2), b) _ _ _ dL_changes_150 (Or.inr rfl) (STEP.yes hS (fun q => c (CODE_lt q))) (fun H hP => hP) (fun A hD => hD)
theorem cg_2 (h : OKJ l D cy wI J cL_changes 4 yL_changes rm_L_changes) (hR : RtWZ D (CW cy L) J cL_changes (STEP M hh n0 sv) 24 4480) (hO : OBx G M X A b hh n0 sv t 0) : J ([] ++ CW cy L ((va_up G 0 M, X, A), b)) (0, 0) [(2, .int r3), (0, .ref (L 11 0)), (1, .int x)] 151 [] := by
  refine j_aload_n h dL_changes_151 rfl 1 rfl ?_
  refine j_iload_n h dL_changes_152 rfl 0 rfl ?_
  refine j_bipush h (v := 19) dL_changes_153 (by decide) ?_
  refine j_iload_n h dL_changes_155 rfl 2 rfl ?_
  refine j_bipush h (v := 6) dL_changes_156 (by decide) ?_
  refine j_ishr h dL_changes_158 ?_
  refine j_bipush h (v := 23) dL_changes_159 (by decide) ?_
  refine k_some h rfl (by decide) ⟨Nat.le_of_ble_eq_true rfl, Nat.le_of_ble_eq_true rfl⟩ (Nat.le_of_ble_eq_true rfl) ⟨Nat.le_of_ble_eq_true rfl, Nat.le_of_ble_eq_true rfl⟩ dL_changes_161 ?_
  refine j_iadd h dL_changes_164 ?_
  refine o_begin h rfl hO ⟨Nat.le_of_ble_eq_true rfl, Nat.le_of_ble_eq_true rfl⟩ (Nat.le_of_ble_eq_true rfl) ⟨by decide, by decide⟩ dL_changes_165 (fun z hz hS => ?_)
  refine j_if_lt h (tgt := 175) dL_changes_168 (by decide) (fun c => ?_) (fun c => ?_)
  · skip
    refine j_iconst h (v := 0) dL_changes_175 (by decide) ?_
    refine j_widen h (k := 24) (n := 4480) (by decide) (by decide) ?_
    exact hR _ ((va_up z.2.1 0 z.2.2.1, z.2.2.2.1, z.2.2.2.2), b) _ _ _ dL_changes_176 (Or.inl rfl) (STEP.no hS (RES.lt hS c) (fun a q => vp_nc q)) (fun H hP => hP) (fun A hD => hD)
  · skip
    refine j_iconst h (v := 1) dL_changes_171 (by decide) ?_
    refine j_goto h (tgt := 176) dL_changes_172 (by decide) ?_
    refine j_widen h (k := 24) (n := 4480) (by decide) (by decide) ?_
    exact hR _ ((va_up z.2.1 0 z.2.2.1, z.2.2.2.1, z.2.2.2.2), b) _ _ _ dL_changes_176 (Or.inr rfl) (STEP.yes hS (fun q => c (CODE_lt q))) (fun H hP => hP) (fun A hD => hD)
theorem cg_7 (h : OKJ l D cy wI J cL_changes 4 yL_changes rm_L_changes) (hR : RtWZ D (CW cy L) J cL_changes (STEP M hh n0 sv) 24 4480) (hO : OBx G M X A b hh n0 sv t 0) : J ([] ++ CW cy L ((va_up G 0 M, X, A), b)) (0, 0) [(2, .int r3), (0, .ref (L 11 0)), (1, .int x)] 244 [] := by
  refine j_aload_n h dL_changes_244 rfl 1 rfl ?_
  refine j_iload_n h dL_changes_245 rfl 0 rfl ?_
  refine o_close h rfl hO ⟨Nat.le_of_ble_eq_true rfl, Nat.le_of_ble_eq_true rfl⟩ (Nat.le_of_ble_eq_true rfl) ⟨by decide, by decide⟩ dL_changes_246 (fun z hz hS => ?_)
  refine j_if_lt h (tgt := 256) dL_changes_249 (by decide) (fun c => ?_) (fun c => ?_)
  · skip
    refine j_iconst h (v := 0) dL_changes_256 (by decide) ?_
    refine j_widen h (k := 24) (n := 4480) (by decide) (by decide) ?_
    exact hR _ ((va_up z.2.1 0 z.2.2.1, z.2.2.2.1, z.2.2.2.2), b) _ _ _ dL_changes_257 (Or.inl rfl) (STEP.no hS (RES.lt hS c) (fun a q => vp_nc q)) (fun H hP => hP) (fun A hD => hD)
  · skip
    refine j_iconst h (v := 1) dL_changes_252 (by decide) ?_
    refine j_goto h (tgt := 257) dL_changes_253 (by decide) ?_
    refine j_widen h (k := 24) (n := 4480) (by decide) (by decide) ?_
    exact hR _ ((va_up z.2.1 0 z.2.2.1, z.2.2.2.1, z.2.2.2.2), b) _ _ _ dL_changes_257 (Or.inr rfl) (STEP.yes hS (fun q => c (CODE_lt q))) (fun H hP => hP) (fun A hD => hD)
theorem cg_8 (h : OKJ l D cy wI J cL_changes 4 yL_changes rm_L_changes) (hR : RtWZ D (CW cy L) J cL_changes (STEP M hh n0 sv) 24 4480) (hO : OBx G M X A b hh n0 sv t 0) : J ([] ++ CW cy L ((va_up G 0 M, X, A), b)) (0, 0) [(2, .int r3), (0, .ref (L 11 0)), (1, .int x)] 258 [] := by
  refine j_aload_n h dL_changes_258 rfl 1 rfl ?_
  refine j_iload_n h dL_changes_259 rfl 0 rfl ?_
  refine o_sweep h rfl hO ⟨Nat.le_of_ble_eq_true rfl, Nat.le_of_ble_eq_true rfl⟩ (Nat.le_of_ble_eq_true rfl) ⟨by decide, by decide⟩ dL_changes_260 (fun z hz hS => ?_)
  refine j_if_lt h (tgt := 270) dL_changes_263 (by decide) (fun c => ?_) (fun c => ?_)
  · skip
    refine j_iconst h (v := 0) dL_changes_270 (by decide) ?_
    refine j_widen h (k := 24) (n := 4480) (by decide) (by decide) ?_
    exact hR _ ((va_up z.2.1 0 z.2.2.1, z.2.2.2.1, z.2.2.2.2), b) _ _ _ dL_changes_271 (Or.inl rfl) (STEP.no hS (RES.lt hS c) (fun a q => vp_nc q)) (fun H hP => hP) (fun A hD => hD)
  · skip
    refine j_iconst h (v := 1) dL_changes_266 (by decide) ?_
    refine j_goto h (tgt := 271) dL_changes_267 (by decide) ?_
    refine j_widen h (k := 24) (n := 4480) (by decide) (by decide) ?_
    exact hR _ ((va_up z.2.1 0 z.2.2.1, z.2.2.2.1, z.2.2.2.2), b) _ _ _ dL_changes_271 (Or.inr rfl) (STEP.yes hS (fun q => c (CODE_lt q))) (fun H hP => hP) (fun A hD => hD)
theorem cg_9 (h : OKJ l D cy wI J cL_changes 4 yL_changes rm_L_changes) (hR : RtWZ D (CW cy L) J cL_changes (STEP M hh n0 sv) 24 4480) (hO : OBx G M X A b hh n0 sv t 0) : J ([] ++ CW cy L ((va_up G 0 M, X, A), b)) (0, 0) [(2, .int r3), (0, .ref (L 11 0)), (1, .int x)] 272 [] := by
  refine j_aload_n h dL_changes_272 rfl 1 rfl ?_
  refine j_iload_n h dL_changes_273 rfl 2 rfl ?_
  refine j_iconst h (v := 4) dL_changes_274 (by decide) ?_
  refine j_ishr h dL_changes_275 ?_
  refine j_bipush h (v := 11) dL_changes_276 (by decide) ?_
  refine k_some h rfl (by decide) ⟨Nat.le_of_ble_eq_true rfl, Nat.le_of_ble_eq_true rfl⟩ (Nat.le_of_ble_eq_true rfl) ⟨Nat.le_of_ble_eq_true rfl, Nat.le_of_ble_eq_true rfl⟩ dL_changes_278 ?_
  refine o_rain h rfl hO ⟨Nat.le_of_ble_eq_true rfl, Nat.le_of_ble_eq_true rfl⟩ (Nat.le_of_ble_eq_true rfl) ⟨by decide, by decide⟩ dL_changes_281 (fun z hz hS => ?_)
  refine j_if_lt h (tgt := 291) dL_changes_284 (by decide) (fun c => ?_) (fun c => ?_)
  · skip
    refine j_iconst h (v := 0) dL_changes_291 (by decide) ?_
    refine j_widen h (k := 24) (n := 4480) (by decide) (by decide) ?_
    exact hR _ ((va_up z.2.1 0 z.2.2.1, z.2.2.2.1, z.2.2.2.2), b) _ _ _ dL_changes_292 (Or.inl rfl) (STEP.no hS (RES.lt hS c) (fun a q => vp_nc q)) (fun H hP => hP) (fun A hD => hD)
  · skip
    refine j_iconst h (v := 1) dL_changes_287 (by decide) ?_
    refine j_goto h (tgt := 292) dL_changes_288 (by decide) ?_
    refine j_widen h (k := 24) (n := 4480) (by decide) (by decide) ?_
    exact hR _ ((va_up z.2.1 0 z.2.2.1, z.2.2.2.1, z.2.2.2.2), b) _ _ _ dL_changes_292 (Or.inr rfl) (STEP.yes hS (fun q => c (CODE_lt q))) (fun H hP => hP) (fun A hD => hD)
theorem cg_10 (h : OKJ l D cy wI J cL_changes 4 yL_changes rm_L_changes) (hR : RtWZ D (CW cy L) J cL_changes (STEP M hh n0 sv) 24 4480) (hO : OBx G M X A b hh n0 sv t 0) : J ([] ++ CW cy L ((va_up G 0 M, X, A), b)) (0, 0) [(2, .int r3), (0, .ref (L 11 0)), (1, .int x)] 293 [] := by
  refine j_aload_n h dL_changes_293 rfl 1 rfl ?_
  refine j_iload_n h dL_changes_294 rfl 2 rfl ?_
  refine j_iconst h (v := 4) dL_changes_295 (by decide) ?_
  refine j_ishr h dL_changes_296 ?_
  refine j_bipush h (v := 11) dL_changes_297 (by decide) ?_
  refine k_some h rfl (by decide) ⟨Nat.le_of_ble_eq_true rfl, Nat.le_of_ble_eq_true rfl⟩ (Nat.le_of_ble_eq_true rfl) ⟨Nat.le_of_ble_eq_true rfl, Nat.le_of_ble_eq_true rfl⟩ dL_changes_299 ?_
  refine o_sun h rfl hO ⟨Nat.le_of_ble_eq_true rfl, Nat.le_of_ble_eq_true rfl⟩ (Nat.le_of_ble_eq_true rfl) ⟨by decide, by decide⟩ dL_changes_302 (fun z hz hS => ?_)
  refine j_if_lt h (tgt := 312) dL_changes_305 (by decide) (fun c => ?_) (fun c => ?_)
  · skip
    refine j_iconst h (v := 0) dL_changes_312 (by decide) ?_
    refine j_widen h (k := 24) (n := 4480) (by decide) (by decide) ?_
    exact hR _ ((va_up z.2.1 0 z.2.2.1, z.2.2.2.1, z.2.2.2.2), b) _ _ _ dL_changes_313 (Or.inl rfl) (STEP.no hS (RES.lt hS c) (fun a q => vp_nc q)) (fun H hP => hP) (fun A hD => hD)
  · skip
    refine j_iconst h (v := 1) dL_changes_308 (by decide) ?_
    refine j_goto h (tgt := 313) dL_changes_309 (by decide) ?_
    refine j_widen h (k := 24) (n := 4480) (by decide) (by decide) ?_
    exact hR _ ((va_up z.2.1 0 z.2.2.1, z.2.2.2.1, z.2.2.2.2), b) _ _ _ dL_changes_313 (Or.inr rfl) (STEP.yes hS (fun q => c (CODE_lt q))) (fun H hP => hP) (fun A hD => hD)
theorem cg_11 (h : OKJ l D cy wI J cL_changes 4 yL_changes rm_L_changes) (hR : RtWZ D (CW cy L) J cL_changes (STEP M hh n0 sv) 24 4480) (hO : OBx G M X A b hh n0 sv t 0) : J ([] ++ CW cy L ((va_up G 0 M, X, A), b)) (0, 0) [(2, .int r3), (0, .ref (L 11 0)), (1, .int x)] 314 [] := by
  refine j_aload_n h dL_changes_314 rfl 1 rfl ?_
  refine j_iload_n h dL_changes_315 rfl 2 rfl ?_
  refine j_iconst h (v := 4) dL_changes_316 (by decide) ?_
  refine j_ishr h dL_changes_317 ?_
  refine j_bipush h (v := 22) dL_changes_318 (by decide) ?_
  refine k_some h rfl (by decide) ⟨Nat.le_of_ble_eq_true rfl, Nat.le_of_ble_eq_true rfl⟩ (Nat.le_of_ble_eq_true rfl) ⟨Nat.le_of_ble_eq_true rfl, Nat.le_of_ble_eq_true rfl⟩ dL_changes_320 ?_
  refine o_brew h rfl hO ⟨Nat.le_of_ble_eq_true rfl, Nat.le_of_ble_eq_true rfl⟩ (Nat.le_of_ble_eq_true rfl) ⟨by decide, by decide⟩ dL_changes_323 (fun z hz hS => ?_)
  refine j_if_lt h (tgt := 333) dL_changes_326 (by decide) (fun c => ?_) (fun c => ?_)
  · skip
    refine j_iconst h (v := 0) dL_changes_333 (by decide) ?_
    refine j_widen h (k := 24) (n := 4480) (by decide) (by decide) ?_
    exact hR _ ((va_up z.2.1 0 z.2.2.1, z.2.2.2.1, z.2.2.2.2), b) _ _ _ dL_changes_334 (Or.inl rfl) (STEP.no hS (RES.lt hS c) (fun a q => vp_nc q)) (fun H hP => hP) (fun A hD => hD)
  · skip
    refine j_iconst h (v := 1) dL_changes_329 (by decide) ?_
    refine j_goto h (tgt := 334) dL_changes_330 (by decide) ?_
    refine j_widen h (k := 24) (n := 4480) (by decide) (by decide) ?_
    exact hR _ ((va_up z.2.1 0 z.2.2.1, z.2.2.2.1, z.2.2.2.2), b) _ _ _ dL_changes_334 (Or.inr rfl) (STEP.yes hS (fun q => c (CODE_lt q))) (fun H hP => hP) (fun A hD => hD)
theorem cg_12 (h : OKJ l D cy wI J cL_changes 4 yL_changes rm_L_changes) (hR : RtWZ D (CW cy L) J cL_changes (STEP M hh n0 sv) 24 4480) (hO : OBx G M X A b hh n0 sv t 0) : J ([] ++ CW cy L ((va_up G 0 M, X, A), b)) (0, 0) [(2, .int r3), (0, .ref (L 11 0)), (1, .int x)] 335 [] := by
  refine j_aload_n h dL_changes_335 rfl 1 rfl ?_
  refine j_iload_n h dL_changes_336 rfl 2 rfl ?_
  refine j_iconst h (v := 4) dL_changes_337 (by decide) ?_
  refine j_ishr h dL_changes_338 ?_
  refine j_iconst h (v := 3) dL_changes_339 (by decide) ?_
  refine k_some h rfl (by decide) ⟨Nat.le_of_ble_eq_true rfl, Nat.le_of_ble_eq_true rfl⟩ (Nat.le_of_ble_eq_true rfl) ⟨Nat.le_of_ble_eq_true rfl, Nat.le_of_ble_eq_true rfl⟩ dL_changes_340 ?_
  refine o_tea h rfl hO ⟨Nat.le_of_ble_eq_true rfl, Nat.le_of_ble_eq_true rfl⟩ (Nat.le_of_ble_eq_true rfl) ⟨by decide, by decide⟩ dL_changes_343 (fun z hz hS => ?_)
  refine j_if_lt h (tgt := 353) dL_changes_346 (by decide) (fun c => ?_) (fun c => ?_)
  · skip
    refine j_iconst h (v := 0) dL_changes_353 (by decide) ?_
    refine j_widen h (k := 24) (n := 4480) (by decide) (by decide) ?_
    exact hR _ ((va_up z.2.1 0 z.2.2.1, z.2.2.2.1, z.2.2.2.2), b) _ _ _ dL_changes_354 (Or.inl rfl) (STEP.no hS (RES.lt hS c) (fun a q => vp_nc q)) (fun H hP => hP) (fun A hD => hD)
  · skip
    refine j_iconst h (v := 1) dL_changes_349 (by decide) ?_
    refine j_goto h (tgt := 354) dL_changes_350 (by decide) ?_
    refine j_widen h (k := 24) (n := 4480) (by decide) (by decide) ?_
    exact hR _ ((va_up z.2.1 0 z.2.2.1, z.2.2.2.1, z.2.2.2.2), b) _ _ _ dL_changes_354 (Or.inr rfl) (STEP.yes hS (fun q => c (CODE_lt q))) (fun H hP => hP) (fun A hD => hD)
theorem cg_13 (h : OKJ l D cy wI J cL_changes 4 yL_changes rm_L_changes) (hR : RtWZ D (CW cy L) J cL_changes (STEP M hh n0 sv) 24 4480) (hO : OBx G M X A b hh n0 sv t 0) : J ([] ++ CW cy L ((va_up G 0 M, X, A), b)) (0, 0) [(2, .int r3), (0, .ref (L 11 0)), (1, .int x)] 355 [] := by
  refine j_aload_n h dL_changes_355 rfl 1 rfl ?_
  refine j_iload_n h dL_changes_356 rfl 2 rfl ?_
  refine j_iconst h (v := 4) dL_changes_357 (by decide) ?_
  refine j_ishr h dL_changes_358 ?_
  refine j_bipush h (v := 26) dL_changes_359 (by decide) ?_
  refine k_some h rfl (by decide) ⟨Nat.le_of_ble_eq_true rfl, Nat.le_of_ble_eq_true rfl⟩ (Nat.le_of_ble_eq_true rfl) ⟨Nat.le_of_ble_eq_true rfl, Nat.le_of_ble_eq_true rfl⟩ dL_changes_361 ?_
  refine o_hour h rfl hO ⟨Nat.le_of_ble_eq_true rfl, Nat.le_of_ble_eq_true rfl⟩ (Nat.le_of_ble_eq_true rfl) ⟨by decide, by decide⟩ dL_changes_364 (fun z hz hS => ?_)
  refine j_if_lt h (tgt := 374) dL_changes_367 (by decide) (fun c => ?_) (fun c => ?_)
  · skip
    refine j_iconst h (v := 0) dL_changes_374 (by decide) ?_
    refine j_widen h (k := 24) (n := 4480) (by decide) (by decide) ?_
    exact hR _ ((va_up z.2.1 0 z.2.2.1, z.2.2.2.1, z.2.2.2.2), b) _ _ _ dL_changes_375 (Or.inl rfl) (STEP.no hS (RES.lt hS c) (fun a q => vp_nc q)) (fun H hP => hP) (fun A hD => hD)
  · skip
    refine j_iconst h (v := 1) dL_changes_370 (by decide) ?_
    refine j_goto h (tgt := 375) dL_changes_371 (by decide) ?_
    refine j_widen h (k := 24) (n := 4480) (by decide) (by decide) ?_
    exact hR _ ((va_up z.2.1 0 z.2.2.1, z.2.2.2.1, z.2.2.2.2), b) _ _ _ dL_changes_375 (Or.inr rfl) (STEP.yes hS (fun q => c (CODE_lt q))) (fun H hP => hP) (fun A hD => hD)
theorem cg_4 (h : OKJ l D cy wI J cL_changes 4 yL_changes rm_L_changes) (hR : RtWZ D (CW cy L) J cL_changes (STEP M hh n0 sv) 24 4480) (hO : OBx G M X A b hh n0 sv t 0) (hz : ¬ M.1 4 + 1 = 0) : J ([] ++ CW cy L ((va_up G 0 M, X, A), b)) (0, 0) [(2, .int r3), (0, .ref (L 11 0)), (1, .int x)] 177 [] := by
  refine j_aload_n h dL_changes_177 rfl 1 rfl ?_
  refine j_iload_n h dL_changes_178 rfl 0 rfl ?_
  refine j_iload_n h dL_changes_179 rfl 2 rfl ?_
  refine j_iconst h (v := 5) dL_changes_180 (by decide) ?_
  refine j_ishr h dL_changes_181 ?_
  refine j_aload_n h dL_changes_182 rfl 1 rfl ?_
  refine j_iconst h (v := 4) dL_changes_183 (by decide) ?_
  refine g_account h rfl hO ⟨Nat.le_of_ble_eq_true rfl, Nat.le_of_ble_eq_true rfl⟩ (Nat.le_of_ble_eq_true rfl) ⟨Nat.le_of_ble_eq_true rfl, Nat.le_of_ble_eq_true rfl⟩ dL_changes_184 ?_
  rw [show (f_X7_account M X A 4 : Int32) = M.1 4 from rfl]
  refine j_iconst h (v := 1) dL_changes_187 (by decide) ?_
  refine j_iadd h dL_changes_188 ?_
  refine k_some h rfl hz ⟨Nat.le_of_ble_eq_true rfl, Nat.le_of_ble_eq_true rfl⟩ (Nat.le_of_ble_eq_true rfl) ⟨Nat.le_of_ble_eq_true rfl, Nat.le_of_ble_eq_true rfl⟩ dL_changes_189 ?_
  refine j_iload_n h dL_changes_192 rfl 2 rfl ?_
  refine j_bipush h (v := 8) dL_changes_193 (by decide) ?_
  refine j_ishr h dL_changes_195 ?_
  refine j_bipush h (v := 30) dL_changes_196 (by decide) ?_
  refine k_some h rfl (by decide) ⟨Nat.le_of_ble_eq_true rfl, Nat.le_of_ble_eq_true rfl⟩ (Nat.le_of_ble_eq_true rfl) ⟨Nat.le_of_ble_eq_true rfl, Nat.le_of_ble_eq_true rfl⟩ dL_changes_198 ?_
  refine j_iload_n h dL_changes_201 rfl 2 rfl ?_
  refine j_bipush h (v := 6) dL_changes_202 (by decide) ?_
  refine j_ishr h dL_changes_204 ?_
  refine j_bipush h (v := 22) dL_changes_205 (by decide) ?_
  refine k_some h rfl (by decide) ⟨Nat.le_of_ble_eq_true rfl, Nat.le_of_ble_eq_true rfl⟩ (Nat.le_of_ble_eq_true rfl) ⟨Nat.le_of_ble_eq_true rfl, Nat.le_of_ble_eq_true rfl⟩ dL_changes_207 ?_
  refine j_iload_n h dL_changes_210 rfl 2 rfl ?_
  refine j_bipush h (v := 7) dL_changes_211 (by decide) ?_
  refine j_ishr h dL_changes_213 ?_
  refine j_iconst h (v := 1) dL_changes_214 (by decide) ?_
  refine j_iand h dL_changes_215 ?_
  have K : ∀ v : Int32, J ([] ++ CW cy L ((va_up G 0 M, X, A), b)) (0, 0) [(2, .int r3), (0, .ref (L 11 0)), (1, .int x)] 224 (.int v :: [.int (sm (x >>> (6 &&& 31)) 22), .int (sm (x >>> (8 &&& 31)) 30), .int (sm (x >>> (5 &&& 31)) ((M.1 4) + 1)), .int r3, .ref (L 11 0)]) := ?_
  · refine j_if_ne h (tgt := 223) dL_changes_216 (by decide) (fun _ => ?_) (fun _ => ?_)
    · refine j_iconst h (v := 0) dL_changes_223 (by decide) ?_
      exact K 0
    · refine j_iconst h (v := 1) dL_changes_219 (by decide) ?_
      refine j_goto h (tgt := 224) dL_changes_220 (by decide) ?_
      exact K 1
  intro v
  refine o_bowl h rfl hO ⟨Nat.le_of_ble_eq_true rfl, Nat.le_of_ble_eq_true rfl⟩ (Nat.le_of_ble_eq_true rfl) ⟨by decide, by decide⟩ dL_changes_224 (fun z hz hS => ?_)
  refine j_istore_n h (lv' := [(3, _), (2, _), (0, _), (1, _)]) dL_changes_227 rfl (by decide) rfl ?_
  refine j_iload_n h dL_changes_228 rfl 0 rfl ?_
  refine j_if_ge h (tgt := 238) dL_changes_229 (by decide) (fun c => ?_) (fun c => ?_)
  · have hn : ¬ CODE z.1 := fun q => absurd (CODE_lt q) (Int32.not_lt.mpr c)
    refine j_iconst h (v := 1) dL_changes_238 (by decide) ?_
    refine j_goto h (tgt := 243) dL_changes_239 (by decide) ?_
    refine j_widen h (k := 24) (n := 4480) (by decide) (by decide) ?_
    exact hR _ ((va_up z.2.1 0 z.2.2.1, z.2.2.2.1, z.2.2.2.2), b) _ _ _ dL_changes_243 (Or.inr rfl) (STEP.yes hS hn) (fun H hP => hP) (fun A hD => hD)
  · skip
    refine j_iload_n h dL_changes_232 rfl 0 rfl ?_
    refine j_bipush h (v := (-4)) dL_changes_233 (by decide) ?_
    refine j_icmp_ne h (tgt := 242) dL_changes_235 (by decide) (fun c2 => ?_) (fun c2 => ?_)
    · have hc : CODE z.1 := hS.2.elim (fun q => q.1) (fun q => q.1.elim (fun e => absurd e c2) (fun e => absurd (Int32.not_lt.mp (vin0 e)) c))
      refine j_iconst h (v := 0) dL_changes_242 (by decide) ?_
      refine j_widen h (k := 24) (n := 4480) (by decide) (by decide) ?_
      exact hR _ ((va_up z.2.1 0 z.2.2.1, z.2.2.2.1, z.2.2.2.2), b) _ _ _ dL_changes_243 (Or.inl rfl) (STEP.no hS hc (fun a q => q.elim (fun e q => CODE_4 q e) (fun e => vp_nc e))) (fun H hP => hP) (fun A hD => hD)
    · have c3 : z.1 = -4 := c2
      refine j_iconst h (v := 1) dL_changes_238 (by decide) ?_
      refine j_goto h (tgt := 243) dL_changes_239 (by decide) ?_
      refine j_widen h (k := 24) (n := 4480) (by decide) (by decide) ?_
      exact hR _ ((va_up z.2.1 0 z.2.2.1, z.2.2.2.1, z.2.2.2.2), b) _ _ _ dL_changes_243 (Or.inr rfl) (STEP.yes hS (fun q => CODE_4 q c3)) (fun H hP => hP) (fun A hD => hD)
theorem cg_d (h : OKJ l D cy wI J cL_changes 4 yL_changes rm_L_changes) (hR : RtWZ D (CW cy L) J cL_changes (STEP M hh n0 sv) 24 4480) (hO : OBx G M X A b hh n0 sv t 0) : J ([] ++ CW cy L ((va_up G 0 M, X, A), b)) (0, 0) [(2, .int r3), (0, .ref (L 11 0)), (1, .int x)] 376 [] := by
  show J (CW cy L ((va_up G 0 M, X, A), b)) (0, 0) [(2, .int r3), (0, .ref (L 11 0)), (1, .int x)] 376 []
  refine j_aload_n h dL_changes_376 rfl 1 rfl ?_
  refine j_iload_n h dL_changes_377 rfl 2 rfl ?_
  refine j_bipush h (v := 6) dL_changes_378 (by decide) ?_
  refine j_ishr h dL_changes_380 ?_
  refine j_iconst h (v := 1) dL_changes_381 (by decide) ?_
  refine j_iand h dL_changes_382 ?_
  refine j_if_ne h (tgt := 431) dL_changes_383 (by decide) (fun c => ?_) (fun c => ?_)
  · skip
    refine t_new h rfl ⟨Nat.le_of_ble_eq_true rfl, Nat.le_of_ble_eq_true rfl⟩ (Nat.le_of_ble_eq_true rfl) ⟨by decide, by decide⟩ dL_changes_431 dL_changes_434 dL_changes_435 (fun p a0 => ?_)
    have hC0 : ∀ j, j < 0 → CH ((fun _ => 0 : Nat → Int32) j) := fun j hj => absurd hj (Nat.not_lt_zero _)
    have hF0 : sb_Fit (fun _ => 0) := fun _ => rfl
    refine j_ldcS h (i := 11) (tx := "c") rfl dL_changes_438 ?_
    refine t_str h rfl (i := 11) (by decide) (by decide) (by decide) hF0 hC0 ⟨Nat.le_of_ble_eq_true rfl, Nat.le_of_ble_eq_true rfl⟩ (Nat.le_of_ble_eq_true rfl) ⟨by decide, by decide⟩ dL_changes_440 (fun a1 f1 hF1 hC1 => ?_)
    refine j_iload_n h dL_changes_443 rfl 2 rfl ?_
    refine j_iconst h (v := 3) dL_changes_444 (by decide) ?_
    refine j_ishr h dL_changes_445 ?_
    refine j_iconst h (v := 4) dL_changes_446 (by decide) ?_
    refine k_some h rfl (by decide) ⟨Nat.le_of_ble_eq_true rfl, Nat.le_of_ble_eq_true rfl⟩ (Nat.le_of_ble_eq_true rfl) ⟨Nat.le_of_ble_eq_true rfl, Nat.le_of_ble_eq_true rfl⟩ dL_changes_447 ?_
    obtain ⟨v1, hv1, ev1⟩ := sm_k (x >>> (3 &&& 31)) (n := 4) (by decide) (by decide)
    rw [show (sm (x >>> (3 &&& 31)) 4 : Int32) = nI v1 from ev1]
    refine t_int1 h rfl (show v1 < 10 by omega) (by decide) hF1 hC1 ⟨Nat.le_of_ble_eq_true rfl, Nat.le_of_ble_eq_true rfl⟩ (Nat.le_of_ble_eq_true rfl) ⟨by decide, by decide⟩ dL_changes_450 (fun a2 f2 hF2 hC2 => ?_)
    refine j_ldcS h (i := 12) (tx := ";e") rfl dL_changes_453 ?_
    refine t_str h rfl (i := 12) (by decide) (by decide) (by decide) hF2 hC2 ⟨Nat.le_of_ble_eq_true rfl, Nat.le_of_ble_eq_true rfl⟩ (Nat.le_of_ble_eq_true rfl) ⟨by decide, by decide⟩ dL_changes_455 (fun a3 f3 hF3 hC3 => ?_)
    refine j_iload_n h dL_changes_458 rfl 2 rfl ?_
    refine j_iconst h (v := 5) dL_changes_459 (by decide) ?_
    refine j_ishr h dL_changes_460 ?_
    refine j_iconst h (v := 4) dL_changes_461 (by decide) ?_
    refine k_some h rfl (by decide) ⟨Nat.le_of_ble_eq_true rfl, Nat.le_of_ble_eq_true rfl⟩ (Nat.le_of_ble_eq_true rfl) ⟨Nat.le_of_ble_eq_true rfl, Nat.le_of_ble_eq_true rfl⟩ dL_changes_462 ?_
    obtain ⟨v2, hv2, ev2⟩ := sm_k (x >>> (5 &&& 31)) (n := 4) (by decide) (by decide)
    rw [show (sm (x >>> (5 &&& 31)) 4 : Int32) = nI v2 from ev2]
    refine t_int1 h rfl (show v2 < 10 by omega) (by decide) hF3 hC3 ⟨Nat.le_of_ble_eq_true rfl, Nat.le_of_ble_eq_true rfl⟩ (Nat.le_of_ble_eq_true rfl) ⟨by decide, by decide⟩ dL_changes_465 (fun a4 f4 hF4 hC4 => ?_)
    refine j_ldcS h (i := 13) (tx := ":") rfl dL_changes_468 ?_
    refine t_str h rfl (i := 13) (by decide) (by decide) (by decide) hF4 hC4 ⟨Nat.le_of_ble_eq_true rfl, Nat.le_of_ble_eq_true rfl⟩ (Nat.le_of_ble_eq_true rfl) ⟨by decide, by decide⟩ dL_changes_470 (fun a5 f5 hF5 hC5 => ?_)
    refine j_bipush h (v := 19) dL_changes_473 (by decide) ?_
    refine j_iload_n h dL_changes_475 rfl 2 rfl ?_
    refine j_iconst h (v := 4) dL_changes_476 (by decide) ?_
    refine j_ishr h dL_changes_477 ?_
    refine j_bipush h (v := 23) dL_changes_478 (by decide) ?_
    refine k_some h rfl (by decide) ⟨Nat.le_of_ble_eq_true rfl, Nat.le_of_ble_eq_true rfl⟩ (Nat.le_of_ble_eq_true rfl) ⟨Nat.le_of_ble_eq_true rfl, Nat.le_of_ble_eq_true rfl⟩ dL_changes_480 ?_
    obtain ⟨v3, hv3, ev3⟩ := sm_k (x >>> (4 &&& 31)) (n := 23) (by decide) (by decide)
    rw [show (sm (x >>> (4 &&& 31)) 23 : Int32) = nI v3 from ev3]
    refine j_iadd h dL_changes_483 ?_
    rw [show (19 + (nI v3) : Int32) = nI (19 + v3) from (nI_add 19 v3)]
    refine t_int2 h rfl (show 10 ≤ 19 + v3 by omega) (by omega) (by decide) hF5 hC5 ⟨Nat.le_of_ble_eq_true rfl, Nat.le_of_ble_eq_true rfl⟩ (Nat.le_of_ble_eq_true rfl) ⟨by decide, by decide⟩ dL_changes_484 (fun a6 f6 hF6 hC6 => ?_)
    refine t_done h rfl (by decide) hF6 hC6 ⟨Nat.le_of_ble_eq_true rfl, Nat.le_of_ble_eq_true rfl⟩ (Nat.le_of_ble_eq_true rfl) ⟨by decide, by decide⟩ dL_changes_487 (fun s r g hC => ?_)
    exact cg_read h hR hO (by decide) hC
  · skip
    refine t_new h rfl ⟨Nat.le_of_ble_eq_true rfl, Nat.le_of_ble_eq_true rfl⟩ (Nat.le_of_ble_eq_true rfl) ⟨by decide, by decide⟩ dL_changes_386 dL_changes_389 dL_changes_390 (fun p a0 => ?_)
    have hC0 : ∀ j, j < 0 → CH ((fun _ => 0 : Nat → Int32) j) := fun j hj => absurd hj (Nat.not_lt_zero _)
    have hF0 : sb_Fit (fun _ => 0) := fun _ => rfl
    refine j_ldcS h (i := 9) (tx := "r") rfl dL_changes_393 ?_
    refine t_str h rfl (i := 9) (by decide) (by decide) (by decide) hF0 hC0 ⟨Nat.le_of_ble_eq_true rfl, Nat.le_of_ble_eq_true rfl⟩ (Nat.le_of_ble_eq_true rfl) ⟨by decide, by decide⟩ dL_changes_395 (fun a1 f1 hF1 hC1 => ?_)
    refine j_iload_n h dL_changes_398 rfl 2 rfl ?_
    refine j_iconst h (v := 3) dL_changes_399 (by decide) ?_
    refine j_ishr h dL_changes_400 ?_
    refine j_bipush h (v := 10) dL_changes_401 (by decide) ?_
    refine k_some h rfl (by decide) ⟨Nat.le_of_ble_eq_true rfl, Nat.le_of_ble_eq_true rfl⟩ (Nat.le_of_ble_eq_true rfl) ⟨Nat.le_of_ble_eq_true rfl, Nat.le_of_ble_eq_true rfl⟩ dL_changes_403 ?_
    obtain ⟨v1, hv1, ev1⟩ := sm_k (x >>> (3 &&& 31)) (n := 10) (by decide) (by decide)
    rw [show (sm (x >>> (3 &&& 31)) 10 : Int32) = nI v1 from ev1]
    refine t_int1 h rfl hv1 (by decide) hF1 hC1 ⟨Nat.le_of_ble_eq_true rfl, Nat.le_of_ble_eq_true rfl⟩ (Nat.le_of_ble_eq_true rfl) ⟨by decide, by decide⟩ dL_changes_406 (fun a2 f2 hF2 hC2 => ?_)
    refine j_ldcS h (i := 10) (tx := ";h") rfl dL_changes_409 ?_
    refine t_str h rfl (i := 10) (by decide) (by decide) (by decide) hF2 hC2 ⟨Nat.le_of_ble_eq_true rfl, Nat.le_of_ble_eq_true rfl⟩ (Nat.le_of_ble_eq_true rfl) ⟨by decide, by decide⟩ dL_changes_411 (fun a3 f3 hF3 hC3 => ?_)
    refine j_iload_n h dL_changes_414 rfl 2 rfl ?_
    refine j_iconst h (v := 5) dL_changes_415 (by decide) ?_
    refine j_ishr h dL_changes_416 ?_
    refine j_bipush h (v := 9) dL_changes_417 (by decide) ?_
    refine k_some h rfl (by decide) ⟨Nat.le_of_ble_eq_true rfl, Nat.le_of_ble_eq_true rfl⟩ (Nat.le_of_ble_eq_true rfl) ⟨Nat.le_of_ble_eq_true rfl, Nat.le_of_ble_eq_true rfl⟩ dL_changes_419 ?_
    obtain ⟨v2, hv2, ev2⟩ := sm_k (x >>> (5 &&& 31)) (n := 9) (by decide) (by decide)
    rw [show (sm (x >>> (5 &&& 31)) 9 : Int32) = nI v2 from ev2]
    refine t_int1 h rfl (show v2 < 10 by omega) (by decide) hF3 hC3 ⟨Nat.le_of_ble_eq_true rfl, Nat.le_of_ble_eq_true rfl⟩ (Nat.le_of_ble_eq_true rfl) ⟨by decide, by decide⟩ dL_changes_422 (fun a4 f4 hF4 hC4 => ?_)
    refine t_done h rfl (by decide) hF4 hC4 ⟨Nat.le_of_ble_eq_true rfl, Nat.le_of_ble_eq_true rfl⟩ (Nat.le_of_ble_eq_true rfl) ⟨by decide, by decide⟩ dL_changes_425 (fun s r g hC => ?_)
    refine j_goto h (tgt := 490) dL_changes_428 (by decide) ?_
    exact cg_read h hR hO (by decide) hC
end CG
theorem c_L_changes (l : Launch) (D : gD) (cy : Nat → ClassId) {L : Nat → Nat → Nat} {G : Nat → gM} {M : gM} {X : Nat → Int32} {A : Nat → Nat → Int32} {b : cB} {hh : Nat → gM} {n0 : Nat} {sv : Option gM} {t : Nat → Nat} (hO : OBx G M X A b hh n0 sv t 0) (x : Int32) : CtI l D cy (CW cy L) yL_changes cL_changes 4 (some .boolean) rm_L_changes [.ref (L 11 0), .int x] ((va_up G 0 M, X, A), b) (STEP M hh n0 sv) 24 4480 := by
  refine m_entWZ cL_changes 4 (by decide) (Nat.le_of_ble_eq_true rfl) (fun J h hR => ?_)
  show J ([] ++ CW cy L ((va_up G 0 M, X, A), b)) (0, 0) [(0, .ref (L 11 0)), (1, .int x)] 0 []
  obtain ⟨f, hGR⟩ := hO.ok
  obtain ⟨N, hN, e3⟩ := vp_in_of hGR.v3 (by decide)
  obtain ⟨N4, hN4, e4⟩ := vp_in_of hGR.v4 (by decide)
  have z3 : ¬ M.1 3 + 1 = 0 := by
    rw [e3, nI_1]; exact fun c => absurd ((nI_eq (a := N + 1) (b := 0) (by omega) (by decide)).mp c) (by omega)
  have z4 : ¬ M.1 4 + 1 = 0 := by
    rw [e4, nI_1]; exact fun c => absurd ((nI_eq (a := N4 + 1) (b := 0) (by omega) (by decide)).mp c) (by omega)
  refine j_iload_n h dL_changes_0 rfl 1 rfl ?_
  refine j_iconst h (v := 4) dL_changes_1 (by decide) ?_
  refine j_ishr h dL_changes_2 ?_
  refine j_aload_n h dL_changes_3 rfl 0 rfl ?_
  refine j_iconst h (v := 3) dL_changes_4 (by decide) ?_
  refine g_account h rfl hO ⟨Nat.le_of_ble_eq_true rfl, Nat.le_of_ble_eq_true rfl⟩ (Nat.le_of_ble_eq_true rfl) ⟨Nat.le_of_ble_eq_true rfl, Nat.le_of_ble_eq_true rfl⟩ dL_changes_5 ?_
  rw [show (f_X7_account M X A 3 : Int32) = M.1 3 from rfl]
  refine j_iconst h (v := 1) dL_changes_8 (by decide) ?_
  refine j_iadd h dL_changes_9 ?_
  refine k_some h rfl z3 ⟨Nat.le_of_ble_eq_true rfl, Nat.le_of_ble_eq_true rfl⟩ (Nat.le_of_ble_eq_true rfl) ⟨Nat.le_of_ble_eq_true rfl, Nat.le_of_ble_eq_true rfl⟩ dL_changes_10 ?_
  refine j_istore_n h (lv' := [(2, _), (0, _), (1, _)]) dL_changes_13 rfl (by decide) rfl ?_
  refine j_iload_n h dL_changes_14 rfl 2 rfl ?_
  refine j_bipush h (v := 15) dL_changes_15 (by decide) ?_
  refine k_some h rfl (by decide) ⟨Nat.le_of_ble_eq_true rfl, Nat.le_of_ble_eq_true rfl⟩ (Nat.le_of_ble_eq_true rfl) ⟨Nat.le_of_ble_eq_true rfl, Nat.le_of_ble_eq_true rfl⟩ dL_changes_17 ?_
  obtain ⟨v, hv, ev⟩ := sm_k x (n := 15) (by decide) (by decide)
  rw [show (sm x 15 : Int32) = nI v from ev]
  rcases (show v = 0 ∨ v = 1 ∨ v = 2 ∨ v = 3 ∨ v = 4 ∨ v = 5 ∨ v = 6 ∨ v = 7 ∨ v = 8 ∨ v = 9 ∨ v = 10 ∨ v = 11 ∨ v = 12 ∨ v = 13 ∨ v = 14 by omega) with rfl | rfl | rfl | rfl | rfl | rfl | rfl | rfl | rfl | rfl | rfl | rfl | rfl | rfl | rfl
  · refine j_tableIn h (tgt := 92) dL_changes_20 (by decide) (by decide) rfl (by decide) ?_
    exact cg_0 h hR hO
  · refine j_tableIn h (tgt := 122) dL_changes_20 (by decide) (by decide) rfl (by decide) ?_
    exact cg_1 h hR hO
  · refine j_tableIn h (tgt := 151) dL_changes_20 (by decide) (by decide) rfl (by decide) ?_
    exact cg_2 h hR hO
  · refine j_tableIn h (tgt := 151) dL_changes_20 (by decide) (by decide) rfl (by decide) ?_
    exact cg_2 h hR hO
  · refine j_tableIn h (tgt := 177) dL_changes_20 (by decide) (by decide) rfl (by decide) ?_
    exact cg_4 h hR hO z4
  · refine j_tableIn h (tgt := 177) dL_changes_20 (by decide) (by decide) rfl (by decide) ?_
    exact cg_4 h hR hO z4
  · refine j_tableIn h (tgt := 177) dL_changes_20 (by decide) (by decide) rfl (by decide) ?_
    exact cg_4 h hR hO z4
  · refine j_tableIn h (tgt := 244) dL_changes_20 (by decide) (by decide) rfl (by decide) ?_
    exact cg_7 h hR hO
  · refine j_tableIn h (tgt := 258) dL_changes_20 (by decide) (by decide) rfl (by decide) ?_
    exact cg_8 h hR hO
  · refine j_tableIn h (tgt := 272) dL_changes_20 (by decide) (by decide) rfl (by decide) ?_
    exact cg_9 h hR hO
  · refine j_tableIn h (tgt := 293) dL_changes_20 (by decide) (by decide) rfl (by decide) ?_
    exact cg_10 h hR hO
  · refine j_tableIn h (tgt := 314) dL_changes_20 (by decide) (by decide) rfl (by decide) ?_
    exact cg_11 h hR hO
  · refine j_tableIn h (tgt := 335) dL_changes_20 (by decide) (by decide) rfl (by decide) ?_
    exact cg_12 h hR hO
  · refine j_tableIn h (tgt := 355) dL_changes_20 (by decide) (by decide) rfl (by decide) ?_
    exact cg_13 h hR hO
  · refine j_tableOut h (tgt := 376) dL_changes_20 (by decide) (by decide) ?_
    exact cg_d h hR hO

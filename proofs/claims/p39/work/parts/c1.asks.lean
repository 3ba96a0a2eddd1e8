/-! ===== asks: the sum of all that is asked ===== -/
theorem xnle {a b : Nat} (h : b < a) (ha : a < 2 ^ 31) : ¬ nI a ≤ nI b := by
  rw [Int32.le_iff_toInt_le, nI_toInt ha, nI_toInt (by omega)]; omega
def ak1 (Q : QS) : Nat → Nat → Int64 → Int64
  | 0, _, s => s
  | n + 1, k, s => ak1 Q n (k + 1) (31 * s + (Q.2.2.1 (nI k)).toInt64)
def ak2 (Q : QS) (r : Int32) : Nat → Nat → Int64 → Int64
  | 0, _, s => s
  | n + 1, k, s => ak2 Q r n (k + 1) (31 * s + (Q.2.2.2.1 r (nI k)).toInt64)
def ak3 (Q : QS) (r c : Int32) : Nat → Nat → Int64 → Int64
  | 0, _, s => s
  | n + 1, k, s => ak3 Q r c n (k + 1) (31 * (31 * (31 * s + (Q.2.2.2.2.1 r (nI k)).toInt64) + (Q.2.2.2.2.2.1 r (nI k) c 13 1).toInt64) + (Q.2.2.2.2.2.2.1 r (nI k) c 0).toInt64)
def ak4 (T : List Nat) : Nat → Nat → Int64 → Int64
  | 0, _, s => s
  | n + 1, k, s => ak4 T n (k + 1) (31 * s + (nI (T.getD k 0)).toInt64)
def ak5s (Q : QS) (r : Int32) (s : Int64) : Int64 := 31 * (31 * (31 * (31 * (31 * s + (Q.2.2.2.2.2.2.2.1 r 1).toInt64) + (Q.2.2.2.2.2.2.2.1 r 0).toInt64) + (Q.2.2.2.2.2.2.2.2.1 r 9).toInt64) + (Q.2.2.2.2.2.2.2.2.2.1 r 9).toInt64) + (Q.2.2.2.2.2.2.2.2.2.2.1 r).toInt64
def ak5 (Q : QS) : Nat → Nat → Int64 → Int64
  | 0, _, s => s
  | n + 1, k, s => ak5 Q n (k + 1) (ak4 (Q.2.2.2.2.2.2.2.2.2.2.2.1 (nI k)).2 (Q.2.2.2.2.2.2.2.2.2.2.2.1 (nI k)).2.length 0 (ak5s Q (nI k) (ak3 Q (nI k) (Q.2.2.2.1 (nI k) 0 + 1) 2 0 (ak2 Q (nI k) 9 0 s))))
def ak6 (Q : QS) (w : Int32) : Nat → Nat → Int64 → Int64
  | 0, _, s => s
  | n + 1, k, s => ak6 Q w n (k + 1) (31 * s + (Q.2.2.2.2.2.2.2.2.2.2.2.2.1 w (nI k)).toInt64)
def ak7 (Q : QS) : Nat → Nat → Int64 → Int64
  | 0, _, s => s
  | n + 1, k, s => ak7 Q n (k + 1) (ak6 Q (nI k) 8 0 s)
def ak8 (Q : QS) (c : Int32) : Nat → Nat → Int64 → Int64
  | 0, _, s => s
  | n + 1, k, s => ak8 Q c n (k + 1) (31 * s + (Q.2.2.2.2.2.2.2.2.2.2.2.2.2.1 c (nI k)).toInt64)
def ak9 (Q : QS) : Nat → Nat → Int64 → Int64
  | 0, _, s => s
  | n + 1, k, s => ak9 Q n (k + 1) (ak8 Q (nI k) 6 0 s)
/-- all that is asked -/
def ask (Q : QS) : Int64 := 31 * (31 * ak9 Q 2 0 (ak7 Q (Q.2.2.1 4).toNatClampNeg 0 (ak5 Q (Q.2.2.1 3).toNatClampNeg 0 (ak1 Q 13 0 (31 * Q.1.toInt64 + Q.2.1.toInt32.toInt64)))) + (Q.2.2.2.2.2.2.2.2.2.2.2.2.2.2.1 0).toInt64) + Q.2.2.2.2.2.2.2.2.2.2.2.2.2.2.2.toInt64
theorem is_rk {M : gM} {N k : Nat} (e : M.1 3 = nI N) (hk : k < N) (hN : N < 2 ^ 31) : ¬ f_X1_isRink M (nI k) = 0 := by
  unfold f_X1_isRink
  rw [if_neg (Int32.not_lt.mpr (nI_pos' (by omega))), e, if_neg (xnle hk hN)]
  decide
theorem acc3 {M : gM} : f_X7_account M x0 a0 3 = M.1 3 := rfl
theorem acc4 {M : gM} : f_X7_account M x0 a0 4 = M.1 4 := rfl
abbrev rm_L_asks : Room := { frames := 8, cells := 160, slots := 35520, locals := 250 }
section CA
variable {l : Launch} {D : gD} {cy : Nat → ClassId} {J : JT va_W} {q : Nat × Nat} {L : Nat → Nat → Nat} {wr : va_W} {G : Nat → gM} {M : gM} {X : Nat → Int32} {A : Nat → Nat → Int32} {b : cB} {hh : Nat → gM} {n0 : Nat} {sv : Option gM} {t : Nat → Nat} {k0 : Nat}
set_option maxRecDepth 100000
theorem h13k {k : Nat} (h : k < 13) : ¬ nI k = 13 := fun q => by
  have := congrArg Int32.toNatClampNeg q
  rw [nI_clamp (by omega)] at this
  exact absurd this (by show ¬ k = 13; omega)
theorem h14k {k : Nat} (h : k < 13) : ¬ nI k = 14 := fun q => by
  have := congrArg Int32.toNatClampNeg q
  rw [nI_clamp (by omega)] at this
  exact absurd this (by show ¬ k = 14; omega)
theorem al1 (h : OKJ l D cy wI J cL_asks 7 yL_asks rm_L_asks) (hO : OBx G M X A b hh n0 sv t k0) (hq : q.1 ≤ 160 ∧ q.2 ≤ 35520) : ∀ m k s, m + k = 13 → J (wr ++ CW cy L ((va_up G 0 M, X, A), b)) q [(3, .int (nI 13)), (1, .long (ak1 (qs M) m k s)), (0, .ref (L 11 0))] 48 [] → J (wr ++ CW cy L ((va_up G 0 M, X, A), b)) q [(3, .int (nI k)), (1, .long s), (0, .ref (L 11 0))] 23 [] := by
  intro m
  induction m with
  | zero =>
    intro k s hk K
    obtain rfl : k = 13 := by omega
    refine j_iload_n h dL_asks_23 rfl 0 rfl ?_
    refine j_bipush h (v := 13) dL_asks_24 (by decide) ?_
    refine j_icmp_ge h (tgt := 48) dL_asks_26 (by decide) (fun _ => ?_) (fun c => absurd (Int32.le_refl _) c)
    exact K
  | succ m ih =>
    intro k s hk K
    refine j_iload_n h dL_asks_23 rfl 0 rfl ?_
    refine j_bipush h (v := 13) dL_asks_24 (by decide) ?_
    refine j_icmp_ge h (tgt := 48) dL_asks_26 (by decide) (fun c => absurd (show nI 13 ≤ nI k from c) (xnle (by omega) (by decide))) (fun _ => ?_)
    refine j_ldc2 h (v := 31) (xr_38 16 rfl) dL_asks_29 ?_
    refine j_lload_n h dL_asks_32 rfl 1 rfl ?_
    refine j_lmul h dL_asks_33 ?_
    refine j_aload_n h dL_asks_34 rfl 2 rfl ?_
    refine j_iload_n h dL_asks_35 rfl 0 rfl ?_
    refine g_account h rfl hO ⟨Nat.le_of_ble_eq_true rfl, Nat.le_of_ble_eq_true rfl⟩ (Nat.le_of_ble_eq_true rfl) hq dL_asks_36 ?_
    rw [in_account (h13k (by omega)) (h14k (by omega))]
    refine j_i2l h dL_asks_39 ?_
    refine j_ladd h dL_asks_40 ?_
    refine j_lstore_n h (lv' := [(1, _), (3, _), (0, _)]) dL_asks_41 rfl (by decide) rfl ?_
    refine j_iinc h (v := nI (k + 1)) (lv' := [(3, _), (1, _), (0, _)]) dL_asks_42 (k := 1) rfl (nI_1 k) (by decide) rfl ?_
    refine j_goto h (tgt := 23) dL_asks_45 (by decide) ?_
    exact ih (k + 1) _ (by omega) K
theorem al2 (h : OKJ l D cy wI J cL_asks 7 yL_asks rm_L_asks) (hO : OBx G M X A b hh n0 sv t k0) (hq : q.1 ≤ 160 ∧ q.2 ≤ 35520) {r : Int32} : ∀ m k s, m + k = 9 → J (wr ++ CW cy L ((va_up G 0 M, X, A), b)) q [(4, .int (nI 9)), (1, .long (ak2 (qs M) r m k s)), (3, .int r), (0, .ref (L 11 0))] 90 [] → J (wr ++ CW cy L ((va_up G 0 M, X, A), b)) q [(4, .int (nI k)), (1, .long s), (3, .int r), (0, .ref (L 11 0))] 62 [] := by
  intro m
  induction m with
  | zero =>
    intro k s hk K
    obtain rfl : k = 9 := by omega
    refine j_iload h dL_asks_62 0 rfl ?_
    refine j_bipush h (v := 9) dL_asks_64 (by decide) ?_
    refine j_icmp_ge h (tgt := 90) dL_asks_66 (by decide) (fun _ => ?_) (fun c => absurd (Int32.le_refl _) c)
    exact K
  | succ m ih =>
    intro k s hk K
    refine j_iload h dL_asks_62 0 rfl ?_
    refine j_bipush h (v := 9) dL_asks_64 (by decide) ?_
    refine j_icmp_ge h (tgt := 90) dL_asks_66 (by decide) (fun c => absurd (show nI 9 ≤ nI k from c) (xnle (by omega) (by decide))) (fun _ => ?_)
    refine j_ldc2 h (v := 31) (xr_38 16 rfl) dL_asks_69 ?_
    refine j_lload_n h dL_asks_72 rfl 1 rfl ?_
    refine j_lmul h dL_asks_73 ?_
    refine j_aload_n h dL_asks_74 rfl 3 rfl ?_
    refine j_iload_n h dL_asks_75 rfl 2 rfl ?_
    refine j_iload h dL_asks_76 0 rfl ?_
    refine g_rinkOf h rfl hO ⟨Nat.le_of_ble_eq_true rfl, Nat.le_of_ble_eq_true rfl⟩ (Nat.le_of_ble_eq_true rfl) hq dL_asks_78 ?_
    refine j_i2l h dL_asks_81 ?_
    refine j_ladd h dL_asks_82 ?_
    refine j_lstore_n h (lv' := [(1, _), (4, _), (3, _), (0, _)]) dL_asks_83 rfl (by decide) rfl ?_
    refine j_iinc h (v := nI (k + 1)) (lv' := [(4, _), (1, _), (3, _), (0, _)]) dL_asks_84 (k := 1) rfl (nI_1 k) (by decide) rfl ?_
    refine j_goto h (tgt := 62) dL_asks_87 (by decide) ?_
    exact ih (k + 1) _ (by omega) K
theorem al3 (h : OKJ l D cy wI J cL_asks 7 yL_asks rm_L_asks) (hO : OBx G M X A b hh n0 sv t k0) (hq : q.1 ≤ 160 ∧ q.2 ≤ 35520) {r c : Int32} : ∀ m k s, m + k = 2 → J (wr ++ CW cy L ((va_up G 0 M, X, A), b)) q [(5, .int (nI 2)), (1, .long (ak3 (qs M) r c m k s)), (4, .int c), (3, .int r), (0, .ref (L 11 0))] 164 [] → J (wr ++ CW cy L ((va_up G 0 M, X, A), b)) q [(5, .int (nI k)), (1, .long s), (4, .int c), (3, .int r), (0, .ref (L 11 0))] 103 [] := by
  intro m
  induction m with
  | zero =>
    intro k s hk K
    obtain rfl : k = 2 := by omega
    refine j_iload h dL_asks_103 0 rfl ?_
    refine j_iconst h (v := 2) dL_asks_105 (by decide) ?_
    refine j_icmp_ge h (tgt := 164) dL_asks_106 (by decide) (fun _ => ?_) (fun c => absurd (Int32.le_refl _) c)
    exact K
  | succ m ih =>
    intro k s hk K
    refine j_iload h dL_asks_103 0 rfl ?_
    refine j_iconst h (v := 2) dL_asks_105 (by decide) ?_
    refine j_icmp_ge h (tgt := 164) dL_asks_106 (by decide) (fun c => absurd (show nI 2 ≤ nI k from c) (xnle (by omega) (by decide))) (fun _ => ?_)
    refine j_ldc2 h (v := 31) (xr_38 16 rfl) dL_asks_109 ?_
    refine j_ldc2 h (v := 31) (xr_38 16 rfl) dL_asks_112 ?_
    refine j_ldc2 h (v := 31) (xr_38 16 rfl) dL_asks_115 ?_
    refine j_lload_n h dL_asks_118 rfl 1 rfl ?_
    refine j_lmul h dL_asks_119 ?_
    refine j_aload_n h dL_asks_120 rfl 4 rfl ?_
    refine j_iload_n h dL_asks_121 rfl 3 rfl ?_
    refine j_iload h dL_asks_122 0 rfl ?_
    refine g_nearest h rfl hO ⟨Nat.le_of_ble_eq_true rfl, Nat.le_of_ble_eq_true rfl⟩ (Nat.le_of_ble_eq_true rfl) hq dL_asks_124 ?_
    refine j_i2l h dL_asks_127 ?_
    refine j_ladd h dL_asks_128 ?_
    refine j_lmul h dL_asks_129 ?_
    refine j_aload_n h dL_asks_130 rfl 4 rfl ?_
    refine j_iload_n h dL_asks_131 rfl 3 rfl ?_
    refine j_iload h dL_asks_132 0 rfl ?_
    refine j_iload h dL_asks_134 2 rfl ?_
    refine j_bipush h (v := 13) dL_asks_136 (by decide) ?_
    refine j_iconst h (v := 1) dL_asks_138 (by decide) ?_
    refine g_would h rfl hO ⟨Nat.le_of_ble_eq_true rfl, Nat.le_of_ble_eq_true rfl⟩ (Nat.le_of_ble_eq_true rfl) hq dL_asks_139 ?_
    refine j_i2l h dL_asks_142 ?_
    refine j_ladd h dL_asks_143 ?_
    refine j_lmul h dL_asks_144 ?_
    refine j_aload_n h dL_asks_145 rfl 4 rfl ?_
    refine j_iload_n h dL_asks_146 rfl 3 rfl ?_
    refine j_iload h dL_asks_147 0 rfl ?_
    refine j_iload h dL_asks_149 2 rfl ?_
    refine j_iconst h (v := 0) dL_asks_151 (by decide) ?_
    refine g_bestStrength h rfl hO ⟨Nat.le_of_ble_eq_true rfl, Nat.le_of_ble_eq_true rfl⟩ (Nat.le_of_ble_eq_true rfl) hq dL_asks_152 ?_
    refine j_i2l h dL_asks_155 ?_
    refine j_ladd h dL_asks_156 ?_
    refine j_lstore_n h (lv' := [(1, _), (5, _), (4, _), (3, _), (0, _)]) dL_asks_157 rfl (by decide) rfl ?_
    refine j_iinc h (v := nI (k + 1)) (lv' := [(5, _), (1, _), (4, _), (3, _), (0, _)]) dL_asks_158 (k := 1) rfl (nI_1 k) (by decide) rfl ?_
    refine j_goto h (tgt := 103) dL_asks_161 (by decide) ?_
    exact ih (k + 1) _ (by omega) K
theorem al6 (h : OKJ l D cy wI J cL_asks 7 yL_asks rm_L_asks) (hO : OBx G M X A b hh n0 sv t k0) (hq : q.1 ≤ 160 ∧ q.2 ≤ 35520) {w : Int32} : ∀ m k s, m + k = 8 → J (wr ++ CW cy L ((va_up G 0 M, X, A), b)) q [(4, .int (nI 8)), (1, .long (ak6 (qs M) w m k s)), (3, .int w), (0, .ref (L 11 0))] 312 [] → J (wr ++ CW cy L ((va_up G 0 M, X, A), b)) q [(4, .int (nI k)), (1, .long s), (3, .int w), (0, .ref (L 11 0))] 284 [] := by
  intro m
  induction m with
  | zero =>
    intro k s hk K
    obtain rfl : k = 8 := by omega
    refine j_iload h dL_asks_284 0 rfl ?_
    refine j_bipush h (v := 8) dL_asks_286 (by decide) ?_
    refine j_icmp_ge h (tgt := 312) dL_asks_288 (by decide) (fun _ => ?_) (fun c => absurd (Int32.le_refl _) c)
    exact K
  | succ m ih =>
    intro k s hk K
    refine j_iload h dL_asks_284 0 rfl ?_
    refine j_bipush h (v := 8) dL_asks_286 (by decide) ?_
    refine j_icmp_ge h (tgt := 312) dL_asks_288 (by decide) (fun c => absurd (show nI 8 ≤ nI k from c) (xnle (by omega) (by decide))) (fun _ => ?_)
    refine j_ldc2 h (v := 31) (xr_38 16 rfl) dL_asks_291 ?_
    refine j_lload_n h dL_asks_294 rfl 1 rfl ?_
    refine j_lmul h dL_asks_295 ?_
    refine j_aload_n h dL_asks_296 rfl 3 rfl ?_
    refine j_iload_n h dL_asks_297 rfl 2 rfl ?_
    refine j_iload h dL_asks_298 0 rfl ?_
    refine g_woodOf h rfl hO ⟨Nat.le_of_ble_eq_true rfl, Nat.le_of_ble_eq_true rfl⟩ (Nat.le_of_ble_eq_true rfl) hq dL_asks_300 ?_
    refine j_i2l h dL_asks_303 ?_
    refine j_ladd h dL_asks_304 ?_
    refine j_lstore_n h (lv' := [(1, _), (4, _), (3, _), (0, _)]) dL_asks_305 rfl (by decide) rfl ?_
    refine j_iinc h (v := nI (k + 1)) (lv' := [(4, _), (1, _), (3, _), (0, _)]) dL_asks_306 (k := 1) rfl (nI_1 k) (by decide) rfl ?_
    refine j_goto h (tgt := 284) dL_asks_309 (by decide) ?_
    exact ih (k + 1) _ (by omega) K
theorem al8 (h : OKJ l D cy wI J cL_asks 7 yL_asks rm_L_asks) (hO : OBx G M X A b hh n0 sv t k0) (hq : q.1 ≤ 160 ∧ q.2 ≤ 35520) {c : Int32} : ∀ m k s, m + k = 6 → J (wr ++ CW cy L ((va_up G 0 M, X, A), b)) q [(4, .int (nI 6)), (1, .long (ak8 (qs M) c m k s)), (3, .int c), (0, .ref (L 11 0))] 356 [] → J (wr ++ CW cy L ((va_up G 0 M, X, A), b)) q [(4, .int (nI k)), (1, .long s), (3, .int c), (0, .ref (L 11 0))] 328 [] := by
  intro m
  induction m with
  | zero =>
    intro k s hk K
    obtain rfl : k = 6 := by omega
    refine j_iload h dL_asks_328 0 rfl ?_
    refine j_bipush h (v := 6) dL_asks_330 (by decide) ?_
    refine j_icmp_ge h (tgt := 356) dL_asks_332 (by decide) (fun _ => ?_) (fun c => absurd (Int32.le_refl _) c)
    exact K
  | succ m ih =>
    intro k s hk K
    refine j_iload h dL_asks_328 0 rfl ?_
    refine j_bipush h (v := 6) dL_asks_330 (by decide) ?_
    refine j_icmp_ge h (tgt := 356) dL_asks_332 (by decide) (fun c => absurd (show nI 6 ≤ nI k from c) (xnle (by omega) (by decide))) (fun _ => ?_)
    refine j_ldc2 h (v := 31) (xr_38 16 rfl) dL_asks_335 ?_
    refine j_lload_n h dL_asks_338 rfl 1 rfl ?_
    refine j_lmul h dL_asks_339 ?_
    refine j_aload_n h dL_asks_340 rfl 3 rfl ?_
    refine j_iload_n h dL_asks_341 rfl 2 rfl ?_
    refine j_iload h dL_asks_342 0 rfl ?_
    refine g_clubOf h rfl hO ⟨Nat.le_of_ble_eq_true rfl, Nat.le_of_ble_eq_true rfl⟩ (Nat.le_of_ble_eq_true rfl) hq dL_asks_344 ?_
    refine j_i2l h dL_asks_347 ?_
    refine j_ladd h dL_asks_348 ?_
    refine j_lstore_n h (lv' := [(1, _), (4, _), (3, _), (0, _)]) dL_asks_349 rfl (by decide) rfl ?_
    refine j_iinc h (v := nI (k + 1)) (lv' := [(4, _), (1, _), (3, _), (0, _)]) dL_asks_350 (k := 1) rfl (nI_1 k) (by decide) rfl ?_
    refine j_goto h (tgt := 328) dL_asks_353 (by decide) ?_
    exact ih (k + 1) _ (by omega) K
theorem al4 (h : OKJ l D cy wI J cL_asks 7 yL_asks rm_L_asks) (hO : OBx G M X A b hh n0 sv t k0) (hq : q.1 ≤ 160 ∧ q.2 ≤ 35520) {X0 : Nat → Int32} {A0 : Nat → Nat → Int32} {b0 : cB} {T : List Nat} (hL : LK X0 A0 b0 T X A b) (hT : T.length ≤ 110) {r c : Int32} : ∀ m k s, m + k = T.length → J (wr ++ CW cy L ((va_up G 0 M, X, A), b)) q [(6, .int (nI T.length)), (1, .long (ak4 T m k s)), (5, .int (nI T.length)), (4, .int c), (3, .int r), (0, .ref (L 11 0))] 264 [] → J (wr ++ CW cy L ((va_up G 0 M, X, A), b)) q [(6, .int (nI k)), (1, .long s), (5, .int (nI T.length)), (4, .int c), (3, .int r), (0, .ref (L 11 0))] 237 [] := by
  have hO' := hO
  obtain ⟨-, -, -, -, -, -, nl, hnl, e8, hln⟩ := hO'
  intro m
  induction m with
  | zero =>
    intro k s hk K
    obtain rfl : k = T.length := by omega
    refine j_iload h dL_asks_237 0 rfl ?_
    refine j_iload h dL_asks_239 2 rfl ?_
    refine j_icmp_ge h (tgt := 264) dL_asks_241 (by decide) (fun _ => ?_) (fun c => absurd (Int32.le_refl _) c)
    exact K
  | succ m ih =>
    intro k s hk K
    refine j_iload h dL_asks_237 0 rfl ?_
    refine j_iload h dL_asks_239 2 rfl ?_
    refine j_icmp_ge h (tgt := 264) dL_asks_241 (by decide) (fun c => absurd c (xnle (by omega) (by omega))) (fun _ => ?_)
    refine j_ldc2 h (v := 31) (xr_38 16 rfl) dL_asks_244 ?_
    refine j_lload_n h dL_asks_247 rfl 1 rfl ?_
    refine j_lmul h dL_asks_248 ?_
    refine j_aload_n h dL_asks_249 rfl 5 rfl ?_
    refine j_iload h dL_asks_250 0 rfl ?_
    refine g_written h rfl hO ⟨Nat.le_of_ble_eq_true rfl, Nat.le_of_ble_eq_true rfl⟩ (Nat.le_of_ble_eq_true rfl) hq e8 hln dL_asks_252 ?_
    rw [written_at hL hT (show k < 200 by omega), if_pos (show k < T.length by omega)]
    refine j_i2l h dL_asks_255 ?_
    refine j_ladd h dL_asks_256 ?_
    refine j_lstore_n h (lv' := [(1, _), (6, _), (5, _), (4, _), (3, _), (0, _)]) dL_asks_257 rfl (by decide) rfl ?_
    refine j_iinc h (v := nI (k + 1)) (lv' := [(6, _), (1, _), (5, _), (4, _), (3, _), (0, _)]) dL_asks_258 (k := 1) rfl (nI_1 k) (by decide) rfl ?_
    refine j_goto h (tgt := 237) dL_asks_261 (by decide) ?_
    exact ih (k + 1) _ (by omega) K
theorem al7 (h : OKJ l D cy wI J cL_asks 7 yL_asks rm_L_asks) (hO : OBx G M X A b hh n0 sv t k0) (hq : q.1 ≤ 160 ∧ q.2 ≤ 35520) {N : Nat} (e4 : M.1 4 = nI N) (hN : N ≤ 16) : ∀ m k s, m + k = N → J (wr ++ CW cy L ((va_up G 0 M, X, A), b)) q [(3, .int (nI N)), (1, .long (ak7 (qs M) m k s)), (0, .ref (L 11 0))] 318 [] → J (wr ++ CW cy L ((va_up G 0 M, X, A), b)) q [(3, .int (nI k)), (1, .long s), (0, .ref (L 11 0))] 272 [] := by
  intro m
  induction m with
  | zero =>
    intro k s hk K
    obtain rfl : k = N := by omega
    refine j_iload_n h dL_asks_272 rfl 0 rfl ?_
    refine j_aload_n h dL_asks_273 rfl 2 rfl ?_
    refine j_iconst h (v := 4) dL_asks_274 (by decide) ?_
    refine g_account h rfl hO ⟨Nat.le_of_ble_eq_true rfl, Nat.le_of_ble_eq_true rfl⟩ (Nat.le_of_ble_eq_true rfl) hq dL_asks_275 ?_
    rw [show f_X7_account M X A 4 = nI k from e4]
    refine j_icmp_ge h (tgt := 318) dL_asks_278 (by decide) (fun _ => ?_) (fun c => absurd (Int32.le_refl _) c)
    exact K
  | succ m ih =>
    intro k s hk K
    refine j_iload_n h dL_asks_272 rfl 0 rfl ?_
    refine j_aload_n h dL_asks_273 rfl 2 rfl ?_
    refine j_iconst h (v := 4) dL_asks_274 (by decide) ?_
    refine g_account h rfl hO ⟨Nat.le_of_ble_eq_true rfl, Nat.le_of_ble_eq_true rfl⟩ (Nat.le_of_ble_eq_true rfl) hq dL_asks_275 ?_
    rw [show f_X7_account M X A 4 = nI N from e4]
    refine j_icmp_ge h (tgt := 318) dL_asks_278 (by decide) (fun c => absurd (show nI N ≤ nI k from c) (xnle (by omega) (by omega))) (fun _ => ?_)
    refine j_iconst h (v := 0) dL_asks_281 (by decide) ?_
    refine j_istore h (lv' := [(4, _), (3, _), (1, _), (0, _)]) dL_asks_282 (by decide) rfl ?_
    refine j_sub h [0, 2, 1, 3] rfl ?_
    refine al6 h hO hq 8 0 s rfl ?_
    refine j_sub h [2, 1, 3] rfl ?_
    refine j_iinc h (v := nI (k + 1)) (lv' := [(3, _), (1, _), (0, _)]) dL_asks_312 (k := 0) rfl (nI_1 k) (by decide) rfl ?_
    refine j_goto h (tgt := 272) dL_asks_315 (by decide) ?_
    exact ih (k + 1) _ (by omega) K
theorem al9 (h : OKJ l D cy wI J cL_asks 7 yL_asks rm_L_asks) (hO : OBx G M X A b hh n0 sv t k0) (hq : q.1 ≤ 160 ∧ q.2 ≤ 35520) : ∀ m k s, m + k = 2 → J (wr ++ CW cy L ((va_up G 0 M, X, A), b)) q [(3, .int (nI 2)), (1, .long (ak9 (qs M) m k s)), (0, .ref (L 11 0))] 362 [] → J (wr ++ CW cy L ((va_up G 0 M, X, A), b)) q [(3, .int (nI k)), (1, .long s), (0, .ref (L 11 0))] 320 [] := by
  intro m
  induction m with
  | zero =>
    intro k s hk K
    obtain rfl : k = 2 := by omega
    refine j_iload_n h dL_asks_320 rfl 0 rfl ?_
    refine j_iconst h (v := 2) dL_asks_321 (by decide) ?_
    refine j_icmp_ge h (tgt := 362) dL_asks_322 (by decide) (fun _ => ?_) (fun c => absurd (Int32.le_refl _) c)
    exact K
  | succ m ih =>
    intro k s hk K
    refine j_iload_n h dL_asks_320 rfl 0 rfl ?_
    refine j_iconst h (v := 2) dL_asks_321 (by decide) ?_
    refine j_icmp_ge h (tgt := 362) dL_asks_322 (by decide) (fun c => absurd (show nI 2 ≤ nI k from c) (xnle (by omega) (by omega))) (fun _ => ?_)
    refine j_iconst h (v := 0) dL_asks_325 (by decide) ?_
    refine j_istore h (lv' := [(4, _), (3, _), (1, _), (0, _)]) dL_asks_326 (by decide) rfl ?_
    refine j_sub h [0, 2, 1, 3] rfl ?_
    refine al8 h hO hq 6 0 s rfl ?_
    refine j_sub h [2, 1, 3] rfl ?_
    refine j_iinc h (v := nI (k + 1)) (lv' := [(3, _), (1, _), (0, _)]) dL_asks_356 (k := 0) rfl (nI_1 k) (by decide) rfl ?_
    refine j_goto h (tgt := 320) dL_asks_359 (by decide) ?_
    exact ih (k + 1) _ (by omega) K
theorem al5 (h : OKJ l D cy wI J cL_asks 7 yL_asks rm_L_asks) {N : Nat} (e3 : M.1 3 = nI N) (hN : N ≤ 4) {s9 : Int64} {X0 : Nat → Int32} {A0 : Nat → Nat → Int32} (K : ∀ X A b, OBx G M X A b hh n0 sv t k0 → (∀ i, i ≠ 8 → i ≠ 10 → X i = X0 i) → (∀ i, i ≠ 5 → A i = A0 i) → J (wr ++ CW cy L ((va_up G 0 M, X, A), b)) (40 * N, 8880 * N) [(3, .int (nI N)), (1, .long s9), (0, .ref (L 11 0))] 270 []) : ∀ m k s X A b, m + k = N → OBx G M X A b hh n0 sv t k0 → (∀ i, i ≠ 8 → i ≠ 10 → X i = X0 i) → (∀ i, i ≠ 5 → A i = A0 i) → s9 = ak5 (qs M) m k s → J (wr ++ CW cy L ((va_up G 0 M, X, A), b)) (40 * k, 8880 * k) [(3, .int (nI k)), (1, .long s), (0, .ref (L 11 0))] 50 [] := by
  intro m
  induction m with
  | zero =>
    intro k s X A b hk hO hX hA hs
    obtain rfl : k = N := by omega
    have hq : (40 * k, 8880 * k).1 ≤ 160 ∧ (40 * k, 8880 * k).2 ≤ 35520 := ⟨by show 40 * k ≤ 160; omega, by show 8880 * k ≤ 35520; omega⟩
    refine j_iload_n h dL_asks_50 rfl 0 rfl ?_
    refine j_aload_n h dL_asks_51 rfl 2 rfl ?_
    refine j_iconst h (v := 3) dL_asks_52 (by decide) ?_
    refine g_account h rfl hO ⟨Nat.le_of_ble_eq_true rfl, Nat.le_of_ble_eq_true rfl⟩ (Nat.le_of_ble_eq_true rfl) hq dL_asks_53 ?_
    rw [show f_X7_account M X A 3 = nI k from e3]
    refine j_icmp_ge h (tgt := 270) dL_asks_56 (by decide) (fun _ => ?_) (fun c => absurd (Int32.le_refl _) c)
    subst hs
    exact K X A b hO hX hA
  | succ m ih =>
    intro k s X A b hk hO hX hA hs
    have hq : (40 * k, 8880 * k).1 ≤ 160 ∧ (40 * k, 8880 * k).2 ≤ 35520 := ⟨by show 40 * k ≤ 160; omega, by show 8880 * k ≤ 35520; omega⟩
    refine j_iload_n h dL_asks_50 rfl 0 rfl ?_
    refine j_aload_n h dL_asks_51 rfl 2 rfl ?_
    refine j_iconst h (v := 3) dL_asks_52 (by decide) ?_
    refine g_account h rfl hO ⟨Nat.le_of_ble_eq_true rfl, Nat.le_of_ble_eq_true rfl⟩ (Nat.le_of_ble_eq_true rfl) hq dL_asks_53 ?_
    rw [show f_X7_account M X A 3 = nI N from e3]
    refine j_icmp_ge h (tgt := 270) dL_asks_56 (by decide) (fun c => absurd (show nI N ≤ nI k from c) (xnle (by omega) (by omega))) (fun _ => ?_)
    refine j_iconst h (v := 0) dL_asks_59 (by decide) ?_
    refine j_istore h (lv' := [(4, _), (3, _), (1, _), (0, _)]) dL_asks_60 (by decide) rfl ?_
    refine j_sub h [0, 2, 1, 3] rfl ?_
    refine al2 h hO hq 9 0 s rfl ?_
    refine j_aload_n h dL_asks_90 rfl 3 rfl ?_
    refine j_iload_n h dL_asks_91 rfl 2 rfl ?_
    refine j_iconst h (v := 0) dL_asks_92 (by decide) ?_
    refine g_rinkOf h rfl hO ⟨Nat.le_of_ble_eq_true rfl, Nat.le_of_ble_eq_true rfl⟩ (Nat.le_of_ble_eq_true rfl) hq dL_asks_93 ?_
    refine j_iconst h (v := 1) dL_asks_96 (by decide) ?_
    refine j_iadd h dL_asks_97 ?_
    refine j_istore h (lv' := [(4, _), (1, _), (3, _), (0, _)]) dL_asks_98 (by decide) rfl ?_
    refine j_iconst h (v := 0) dL_asks_100 (by decide) ?_
    refine j_istore h (lv' := [(5, _), (4, _), (1, _), (3, _), (0, _)]) dL_asks_101 (by decide) rfl ?_
    refine j_sub h [0, 2, 1, 3, 4] rfl ?_
    refine al3 h hO hq 2 0 _ rfl ?_
    refine j_ldc2 h (v := 31) (xr_38 16 rfl) dL_asks_164 ?_
    refine j_ldc2 h (v := 31) (xr_38 16 rfl) dL_asks_167 ?_
    refine j_ldc2 h (v := 31) (xr_38 16 rfl) dL_asks_170 ?_
    refine j_ldc2 h (v := 31) (xr_38 16 rfl) dL_asks_173 ?_
    refine j_ldc2 h (v := 31) (xr_38 16 rfl) dL_asks_176 ?_
    refine j_lload_n h dL_asks_179 rfl 1 rfl ?_
    refine j_lmul h dL_asks_180 ?_
    refine j_aload_n h dL_asks_181 rfl 4 rfl ?_
    refine j_iload_n h dL_asks_182 rfl 3 rfl ?_
    refine j_iconst h (v := 1) dL_asks_183 (by decide) ?_
    refine g_shots10 h rfl hO ⟨Nat.le_of_ble_eq_true rfl, Nat.le_of_ble_eq_true rfl⟩ (Nat.le_of_ble_eq_true rfl) (Nat.le_of_ble_eq_true rfl) hq dL_asks_184 ?_
    refine j_i2l h dL_asks_187 ?_
    refine j_ladd h dL_asks_188 ?_
    refine j_lmul h dL_asks_189 ?_
    refine j_aload_n h dL_asks_190 rfl 4 rfl ?_
    refine j_iload_n h dL_asks_191 rfl 3 rfl ?_
    refine j_iconst h (v := 0) dL_asks_192 (by decide) ?_
    refine g_shots h rfl hO ⟨Nat.le_of_ble_eq_true rfl, Nat.le_of_ble_eq_true rfl⟩ (Nat.le_of_ble_eq_true rfl) hq dL_asks_193 ?_
    refine j_i2l h dL_asks_196 ?_
    refine j_ladd h dL_asks_197 ?_
    refine j_lmul h dL_asks_198 ?_
    refine j_aload_n h dL_asks_199 rfl 4 rfl ?_
    refine j_iload_n h dL_asks_200 rfl 3 rfl ?_
    refine j_bipush h (v := 9) dL_asks_201 (by decide) ?_
    refine g_wetIn h rfl hO ⟨Nat.le_of_ble_eq_true rfl, Nat.le_of_ble_eq_true rfl⟩ (Nat.le_of_ble_eq_true rfl) hq dL_asks_203 ?_
    refine j_i2l h dL_asks_206 ?_
    refine j_ladd h dL_asks_207 ?_
    refine j_lmul h dL_asks_208 ?_
    refine j_aload_n h dL_asks_209 rfl 4 rfl ?_
    refine j_iload_n h dL_asks_210 rfl 3 rfl ?_
    refine j_bipush h (v := 9) dL_asks_211 (by decide) ?_
    refine g_castsIn h rfl hO ⟨Nat.le_of_ble_eq_true rfl, Nat.le_of_ble_eq_true rfl⟩ (Nat.le_of_ble_eq_true rfl) hq dL_asks_213 ?_
    refine j_i2l h dL_asks_216 ?_
    refine j_ladd h dL_asks_217 ?_
    refine j_lmul h dL_asks_218 ?_
    refine j_aload_n h dL_asks_219 rfl 4 rfl ?_
    refine j_iload_n h dL_asks_220 rfl 3 rfl ?_
    refine g_dryIn h rfl hO ⟨Nat.le_of_ble_eq_true rfl, Nat.le_of_ble_eq_true rfl⟩ (Nat.le_of_ble_eq_true rfl) hq dL_asks_221 ?_
    refine j_i2l h dL_asks_224 ?_
    refine j_ladd h dL_asks_225 ?_
    refine j_lstore_n h (lv' := [(1, _), (5, _), (4, _), (3, _), (0, _)]) dL_asks_226 rfl (by decide) rfl ?_
    refine j_aload_n h dL_asks_227 rfl 4 rfl ?_
    refine j_iload_n h dL_asks_228 rfl 3 rfl ?_
    refine g_describe h rfl hO ⟨Nat.le_of_ble_eq_true rfl, Nat.le_of_ble_eq_true rfl⟩ (Nat.le_of_ble_eq_true rfl) ⟨by show 40 * k + 40 ≤ 160; omega, by show 8880 * k + 8880 ≤ 35520; omega⟩ dL_asks_229 (fun X1 A1 b1 hO1 hx1 ha1 hL1 => ?_)
    obtain ⟨f, hGR⟩ := hO.ok
    obtain ⟨d1, d2, -⟩ := desc_both hGR (nI k)
    have hrk : ¬ f_X1_isRink M (nI k) = 0 := is_rk e3 (by omega) (by omega)
    rw [d2 hrk]
    have hLK := hL1 hrk
    have hq1 : (40 * k + 40, 8880 * k + 8880).1 ≤ 160 ∧ (40 * k + 40, 8880 * k + 8880).2 ≤ 35520 := ⟨by show 40 * k + 40 ≤ 160; omega, by show 8880 * k + 8880 ≤ 35520; omega⟩
    refine j_istore h (lv' := [(5, _), (1, _), (4, _), (3, _), (0, _)]) dL_asks_232 (by decide) rfl ?_
    refine j_iconst h (v := 0) dL_asks_234 (by decide) ?_
    refine j_istore h (lv' := [(6, _), (5, _), (1, _), (4, _), (3, _), (0, _)]) dL_asks_235 (by decide) rfl ?_
    refine j_sub h [0, 2, 1, 3, 4, 5] rfl ?_
    refine al4 h hO1 hq1 hLK d1 _ 0 _ (Nat.add_zero _) ?_
    refine j_sub h [4, 1, 5] rfl ?_
    refine j_iinc h (v := nI (k + 1)) (lv' := [(3, _), (1, _), (0, _)]) dL_asks_264 (k := 0) rfl (nI_1 k) (by decide) rfl ?_
    refine j_goto h (tgt := 50) dL_asks_267 (by decide) ?_
    exact ih (k + 1) _ X1 A1 b1 (by omega) hO1 (fun i u v => (hx1 i u v).trans (hX i u v)) (fun i u => (ha1 i u).trans (hA i u)) hs
end CA
set_option maxRecDepth 100000 in
theorem c_L_asks (l : Launch) (D : gD) (cy : Nat → ClassId) {L : Nat → Nat → Nat} {G : Nat → gM} {M : gM} {X : Nat → Int32} {A : Nat → Nat → Int32} {b : cB} {hh : Nat → gM} {n0 : Nat} {sv : Option gM} {t : Nat → Nat} {k0 : Nat} (hO : OBx G M X A b hh n0 sv t k0) : CtL l D cy (CW cy L) yL_asks cL_asks 7 (some .long) rm_L_asks [.ref (L 11 0)] ((va_up G 0 M, X, A), b) (fun r u => r = ask (qs M) ∧ ∃ X1 A1 b1, u = ((va_up G 0 M, X1, A1), b1) ∧ OBx G M X1 A1 b1 hh n0 sv t k0 ∧ (∀ i, i ≠ 8 → i ≠ 10 → X1 i = X i) ∧ (∀ i, i ≠ 5 → A1 i = A i)) 160 35520 := by
  refine m_entWL cL_asks 7 (by decide) (Nat.le_of_ble_eq_true rfl) (fun J h hR => ?_)
  show J ([] ++ CW cy L ((va_up G 0 M, X, A), b)) (0, 0) [(0, .ref (L 11 0))] 0 []
  have hq : (0, 0).1 ≤ 160 ∧ (0, 0).2 ≤ 35520 := ⟨Nat.zero_le _, Nat.zero_le _⟩
  obtain ⟨f, hGR⟩ := hO.ok
  obtain ⟨N, hN, e3⟩ := vp_in_of hGR.v3 (by decide)
  obtain ⟨N4, hN4, e4⟩ := vp_in_of hGR.v4 (by decide)
  refine j_ldc2 h (v := 31) (xr_38 16 rfl) dL_asks_0 ?_
  refine j_aload_n h dL_asks_3 rfl 0 rfl ?_
  refine g_winShare h rfl hO ⟨Nat.le_of_ble_eq_true rfl, Nat.le_of_ble_eq_true rfl⟩ (Nat.le_of_ble_eq_true rfl) hq dL_asks_4 ?_
  refine k_dbits h rfl ws_n ⟨Nat.le_of_ble_eq_true rfl, Nat.le_of_ble_eq_true rfl⟩ (Nat.le_of_ble_eq_true rfl) hq dL_asks_7 ?_
  refine j_lmul h dL_asks_10 ?_
  refine j_aload_n h dL_asks_11 rfl 0 rfl ?_
  refine g_meanWet h rfl hO ⟨Nat.le_of_ble_eq_true rfl, Nat.le_of_ble_eq_true rfl⟩ (Nat.le_of_ble_eq_true rfl) hq dL_asks_12 ?_
  refine k_fbits h rfl mw_n ⟨Nat.le_of_ble_eq_true rfl, Nat.le_of_ble_eq_true rfl⟩ (Nat.le_of_ble_eq_true rfl) hq dL_asks_15 ?_
  refine j_i2l h dL_asks_18 ?_
  refine j_ladd h dL_asks_19 ?_
  refine j_lstore_n h (lv' := [(1, _), (0, _)]) dL_asks_20 rfl (by decide) rfl ?_
  refine j_iconst h (v := 0) dL_asks_21 (by decide) ?_
  refine j_istore_n h (lv' := [(3, _), (1, _), (0, _)]) dL_asks_22 rfl (by decide) rfl ?_
  refine al1 h hO hq 13 0 _ rfl ?_
  refine j_sub h [1, 2] rfl ?_
  refine j_iconst h (v := 0) dL_asks_48 (by decide) ?_
  refine j_istore_n h (lv' := [(3, _), (1, _), (0, _)]) dL_asks_49 rfl (by decide) rfl ?_
  refine al5 h e3 (by omega) (s9 := ak5 (qs M) N 0 (ak1 (qs M) 13 0 (31 * (f_X7_winShare M x0 a0).toInt64 + (f_X7_meanWet M x0 a0).toInt32.toInt64))) (fun X1 A1 b1 hO1 hX1 hA1 => ?_) N 0 _ X A b (Nat.add_zero _) hO (fun _ _ _ => rfl) (fun _ _ => rfl) rfl
  have hq1 : (40 * N, 8880 * N).1 ≤ 160 ∧ (40 * N, 8880 * N).2 ≤ 35520 := ⟨by show 40 * N ≤ 160; omega, by show 8880 * N ≤ 35520; omega⟩
  refine j_iconst h (v := 0) dL_asks_270 (by decide) ?_
  refine j_istore_n h (lv' := [(3, _), (1, _), (0, _)]) dL_asks_271 rfl (by decide) rfl ?_
  refine al7 h hO1 hq1 e4 (by omega) N4 0 _ (Nat.add_zero _) ?_
  refine j_iconst h (v := 0) dL_asks_318 (by decide) ?_
  refine j_istore_n h (lv' := [(3, _), (1, _), (0, _)]) dL_asks_319 rfl (by decide) rfl ?_
  refine al9 h hO1 hq1 2 0 _ rfl ?_
  refine j_ldc2 h (v := 31) (xr_38 16 rfl) dL_asks_362 ?_
  refine j_ldc2 h (v := 31) (xr_38 16 rfl) dL_asks_365 ?_
  refine j_lload_n h dL_asks_368 rfl 1 rfl ?_
  refine j_lmul h dL_asks_369 ?_
  refine j_aload_n h dL_asks_370 rfl 2 rfl ?_
  refine j_iconst h (v := 0) dL_asks_371 (by decide) ?_
  refine g_rinkAt h rfl hO1 ⟨Nat.le_of_ble_eq_true rfl, Nat.le_of_ble_eq_true rfl⟩ (Nat.le_of_ble_eq_true rfl) hq1 dL_asks_372 ?_
  refine j_i2l h dL_asks_375 ?_
  refine j_ladd h dL_asks_376 ?_
  refine j_lmul h dL_asks_377 ?_
  refine j_aload_n h dL_asks_378 rfl 2 rfl ?_
  refine g_leader h rfl hO1 ⟨Nat.le_of_ble_eq_true rfl, Nat.le_of_ble_eq_true rfl⟩ (Nat.le_of_ble_eq_true rfl) hq1 dL_asks_379 ?_
  refine j_i2l h dL_asks_382 ?_
  refine j_ladd h dL_asks_383 ?_
  refine j_widen h (k := 160) (n := 35520) hq1.1 hq1.2 ?_
  refine hR _ ((va_up G 0 M, X1, A1), b1) _ _ _ dL_asks_384 ⟨?_, X1, A1, b1, rfl, hO1, hX1, hA1⟩ (fun H hP => hP) (fun A hD => hD)
  show _ = 31 * (31 * ak9 (qs M) 2 0 (ak7 (qs M) (M.1 4).toNatClampNeg 0 (ak5 (qs M) (M.1 3).toNatClampNeg 0 _)) + _) + _
  rw [e3, e4, nI_clamp (by omega), nI_clamp (by omega)]
  rfl

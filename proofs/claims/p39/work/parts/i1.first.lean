/-! ===== the law's first object ===== -/
set_option maxRecDepth 100000
abbrev rm_L_law : Room := { frames := 15, cells := 659866, slots := 7122651, locals := 612 }
theorem scr_sp {G : Nat → gM} {M : gM} {X : Nat → Int32} {A : Nat → Nat → Int32} {b : cB} {hh : Nat → gM} {n : Nat} {sv : Option gM} {t : Nat → Nat} {a1 : Nat} {f1 : Nat → Int32} (hO : OBx G M X A b hh n sv t 60) (ht : ∀ j, j < 60 → t j = 32 + j) (q3 : sb_Fit f1) : ∀ z, z = f_X7_script G M X A f1 → GI z.2.2.1 → z.1 = -2 ∧ z.2.2.1 = M ∧ z.2.2.2.1 1 = 0 ∧ OBx z.2.1 M z.2.2.2.1 z.2.2.2.2 (a1, b.2.1, b.2.2) hh n sv (fun j => 32 + j) 0 := by
  intro z hz hg
  have hO3 := OBx.txt (t' := fun j => 32 + j) hO ht
  have hP := P_script hO3 (a1 := a1) q3 (by rw [← hz]; exact hg) z hz
  obtain ⟨⟨Y, B, hRL, hRT⟩, -⟩ := hO3
  have pa : (pA (fun j => 32 + j) 60 31 0).1 = false ∧ (pA (fun j => 32 + j) 60 31 0).2.1 = 0 := by decide +kernel
  obtain ⟨y1, y2, -, -, y5, -, -⟩ := (scr_cls hRL hRT f1).2.1 pa.1
  rw [← hz] at y1 y2 y5
  rw [pa.2] at y5
  refine ⟨y1, y2, y5, ?_⟩
  rcases hP with ⟨-, -, q⟩ | ⟨q, -⟩
  · rw [y2] at q; exact q
  · exact absurd (by rw [y1]; decide) (vin0 q)
theorem ap_t {k j : Nat} : (if j = k then 32 + k else 32 + j) = 32 + j := by
  by_cases e : j = k
  · rw [if_pos e, e]
  · rw [if_neg e]
theorem acc13 {M : gM} {X : Nat → Int32} {A : Nat → Nat → Int32} : f_X7_account M X A 13 = X 7 := rfl
theorem acc14 {M : gM} {X : Nat → Int32} {A : Nat → Nat → Int32} : f_X7_account M X A 14 = X 3 := rfl
theorem i2c60 : ∀ k, k < 60 → ((32 + nI k : Int32).toUInt32 % 65536).toInt32 = nI (32 + k) := by decide +kernel
theorem div8 : ∀ k, k < 16 → nI k / 8 = nI (k / 8) := by decide +kernel
theorem tri : ∀ k, k < 4 → (3 : Int32) * nI k = nI (3 * k) := by decide +kernel
theorem ck_nine : Op.cmpValue (FP.fcmp (f_X7_meanWet (sN 39) x0 a0) 1091567616) .l = 0 := by decide +kernel
theorem isR_same {M N : gM} {f : Nat → Int32} (h : GR M f) (g : GR N f) : f_X1_isRink M 1 = f_X1_isRink N 1 := by
  unfold f_X1_isRink
  rw [← h.1.2.2.2.1, ← g.1.2.2.2.1]
theorem lw_acc {M N : gM} {X : Nat → Int32} {A : Nat → Nat → Int32} (s : SAME M N) {p c : Int32} (h13 : ¬ p = 13) (h14 : ¬ p = 14) (e : f_X7_account N x0 a0 p = c) : f_X7_account M X A p = c := by rw [in_account h13 h14, sq_account s, e]
section LE
variable {l : Launch} {D : gD} {cy : Nat → ClassId} {J : JT va_W} {L : Nat → Nat → Nat} {sv : Option gM} {n : Nat} {t : Nat → Nat} {k0 : Nat}
theorem e_app (h : OKJ l D cy wI J cL_law 11 yL_law rm_L_law) {qc qs : Nat} (hqc : qc + 60 ≤ 659866) (hqs : qs + 13320 ≤ 7122651) (K : ∀ (G : Nat → gM) (M : gM) (X : Nat → Int32) (A : Nat → Nat → Int32) (b : cB) (hh : Nat → gM), OBx G M X A b hh 1 sv (fun j => 32 + j) 60 → SAME M (sN 1) → J ([] ++ CW cy L ((va_up G 0 M, X, A), b)) (qc + 1 * 60, qs + 222 * 60) [(2, .int (nI 60)), (1, .ref (L 11 0)), (0, .ref D.2.2.2.1)] 85 []) : ∀ d k, d + k = 60 → ∀ (G : Nat → gM) (M : gM) (X : Nat → Int32) (A : Nat → Nat → Int32) (b : cB) (hh : Nat → gM), OBx G M X A b hh 1 sv (fun j => 32 + j) k → SAME M (sN 1) → J ([] ++ CW cy L ((va_up G 0 M, X, A), b)) (qc + 1 * k, qs + 222 * k) [(2, .int (nI k)), (1, .ref (L 11 0)), (0, .ref D.2.2.2.1)] 56 [] := by
  intro d
  induction d with
  | zero =>
    intro k hk G M X A b hh hO hs
    obtain rfl : k = 60 := by omega
    refine j_iload_n h dL_law_56 rfl 0 rfl ?_
    refine j_bipush h (v := 60) dL_law_57 (by decide) ?_
    refine j_icmp_ge h (tgt := 85) dL_law_59 (by decide) (fun _ => ?_) (fun c => absurd (Int32.le_refl _) c)
    exact K _ _ _ _ _ _ hO hs
  | succ d ih =>
    intro k hk G M X A b hh hO hs
    refine j_iload_n h dL_law_56 rfl 0 rfl ?_
    refine j_bipush h (v := 60) dL_law_57 (by decide) ?_
    refine j_icmp_ge h (tgt := 85) dL_law_59 (by decide) (fun c => absurd c (xnle (a := 60) (b := k) (by omega) (by decide))) (fun _ => ?_)
    refine j_aload_n h dL_law_62 rfl 1 rfl ?_
    refine j_bipush h (v := 32) dL_law_63 (by decide) ?_
    refine j_iload_n h dL_law_65 rfl 0 rfl ?_
    refine j_iadd h dL_law_66 ?_
    refine j_i2c h (v := ((32 + (nI k)).toUInt32 % 65536).toInt32) dL_law_67 rfl ?_
    rw [show (((32 + (nI k)).toUInt32 % 65536).toInt32 : Int32) = nI (32 + k) from i2c60 k (by omega)]
    refine o_append (wr := []) h rfl hO (ch := 32 + k) rfl (by omega) (by omega) (by omega) ⟨Nat.le_of_ble_eq_true rfl, Nat.le_of_ble_eq_true rfl⟩ (Nat.le_of_ble_eq_true rfl) ⟨by show (qc + 1 * k) + 1 ≤ 659866; omega, by show (qs + 222 * k) + 222 ≤ 7122651; omega⟩ dL_law_68 (fun X1 A1 b1 hO1 hx1 ha1 => ?_)
    have hO2 := OBx.txt (t' := fun j => 32 + j) hO1 (fun j hj => ap_t)
    clear hO hO1 hx1 ha1
    have hO := hO2; clear hO2
    refine j_iload_n h dL_law_71 rfl 0 rfl ?_
    refine j_iconst h (v := 1) dL_law_72 (by decide) ?_
    refine j_iadd h dL_law_73 ?_
    rw [show ((nI k) + 1 : Int32) = nI (k + 1) from nI_1 k]
    refine j_icmp_eq h (tgt := 79) dL_law_74 (by decide) (fun _ => ?_) (fun c => absurd rfl c)
    refine j_iinc h (v := nI (k + 1)) (lv' := [(2, _), (1, _), (0, _)]) dL_law_79 (k := 0) rfl (nI_1 k) (by decide) rfl ?_
    refine j_goto h (tgt := 56) dL_law_82 (by decide) ?_
    refine j_widen h (k := qc + 1 * (k + 1)) (n := qs + 222 * (k + 1)) (by show (qc + 1 * k) + 1 ≤ _; omega) (by show (qs + 222 * k) + 222 ≤ _; omega) ?_
    exact ih (k + 1) (by omega) _ _ _ _ _ _ hO hs
theorem e_scr (h : OKJ l D cy wI J cL_law 11 yL_law rm_L_law) {qc qs : Nat} (hqc : qc + 1 ≤ 659866) (hqs : qs + 222 ≤ 7122651) (K : ∀ (G : Nat → gM) (M : gM) (X : Nat → Int32) (A : Nat → Nat → Int32) (b : cB) (hh : Nat → gM), OBx G M X A b hh 1 sv (fun j => 32 + j) 0 → SAME M (sN 1) → J ([] ++ CW cy L ((va_up G 0 M, X, A), b)) (qc + 1, qs + 222) [(2, .int (nI 0)), (1, .ref (L 11 0)), (0, .ref D.2.2.2.1)] 125 []) : ∀ (G : Nat → gM) (M : gM) (X : Nat → Int32) (A : Nat → Nat → Int32) (b : cB) (hh : Nat → gM), OBx G M X A b hh 1 sv (fun j => 32 + j) 60 → SAME M (sN 1) → J ([] ++ CW cy L ((va_up G 0 M, X, A), b)) (qc, qs) [(2, .int (nI 60)), (1, .ref (L 11 0)), (0, .ref D.2.2.2.1)] 85 [] := by
  intro G M X A b hh hO hs
  refine j_aload_n h dL_law_85 rfl 1 rfl ?_
  refine j_bipush h (v := 104) dL_law_86 (by decide) ?_
  refine o_appendBad (wr := []) h rfl hO (Or.inr (Or.inr (Nat.le_refl _))) ⟨Nat.le_of_ble_eq_true rfl, Nat.le_of_ble_eq_true rfl⟩ (Nat.le_of_ble_eq_true rfl) ⟨by show qc + 1 ≤ 659866; omega, by show qs + 222 ≤ 7122651; omega⟩ dL_law_88 ?_
  refine j_bipush h (v := (-2)) dL_law_91 (by decide) ?_
  refine j_icmp_ne h (tgt := 121) dL_law_93 (by decide) (fun c => absurd rfl c) (fun _ => ?_)
  refine j_aload_n h dL_law_96 rfl 1 rfl ?_
  refine o_script (wr := []) h rfl hO ⟨Nat.le_of_ble_eq_true rfl, Nat.le_of_ble_eq_true rfl⟩ (Nat.le_of_ble_eq_true rfl) ⟨by show qc + 1 ≤ 659866; omega, by show qs + 222 ≤ 7122651; omega⟩ dL_law_97 (fun a1 f1 z hz hf1 hg => ?_)
  obtain ⟨y1, y2, y5, hO1⟩ := scr_sp (a1 := a1) hO (fun j _ => rfl) hf1 z hz hg
  rw [y1, y2]
  clear hz hg hO y1 y2
  generalize z.2.1 = G at hO1 ⊢; generalize z.2.2.2.1 = X at hO1 y5 ⊢; generalize z.2.2.2.2 = A at hO1 ⊢
  have hO := hO1; clear hO1
  refine j_bipush h (v := (-2)) dL_law_100 (by decide) ?_
  refine j_icmp_ne h (tgt := 121) dL_law_102 (by decide) (fun c => absurd rfl c) (fun _ => ?_)
  refine j_aload_n h dL_law_105 rfl 1 rfl ?_
  refine g_fault (wr := []) h rfl hO ⟨Nat.le_of_ble_eq_true rfl, Nat.le_of_ble_eq_true rfl⟩ (Nat.le_of_ble_eq_true rfl) ⟨by show qc + 1 ≤ 659866; omega, by show qs + 222 ≤ 7122651; omega⟩ dL_law_106 ?_
  rw [y5]
  refine j_if_ne h (tgt := 121) dL_law_109 (by decide) (fun c => absurd rfl c) (fun _ => ?_)
  refine j_aload_n h dL_law_112 rfl 1 rfl ?_
  refine j_bipush h (v := 13) dL_law_113 (by decide) ?_
  refine g_account (wr := []) h rfl hO ⟨Nat.le_of_ble_eq_true rfl, Nat.le_of_ble_eq_true rfl⟩ (Nat.le_of_ble_eq_true rfl) ⟨by show qc + 1 ≤ 659866; omega, by show qs + 222 ≤ 7122651; omega⟩ dL_law_115 ?_
  rw [acc13, hO.x7]
  refine j_if_eq h (tgt := 123) dL_law_118 (by decide) (fun _ => ?_) (fun c => absurd rfl c)
  refine j_iconst h (v := 0) dL_law_123 (by decide) ?_
  refine j_istore_n h (lv' := [(2, _), (1, _), (0, _)]) dL_law_124 rfl (by decide) rfl ?_
  refine j_widen h (k := qc + 1) (n := qs + 222) (by show qc + 1 ≤ _; omega) (by show qs + 222 ≤ _; omega) ?_
  exact K _ _ _ _ _ _ hO hs
theorem e_rink (h : OKJ l D cy wI J cL_law 11 yL_law rm_L_law) {qc qs : Nat} (hqc : qc + 0 ≤ 659866) (hqs : qs + 0 ≤ 7122651) (K : ∀ (G : Nat → gM) (M : gM) (X : Nat → Int32) (A : Nat → Nat → Int32) (b : cB) (hh : Nat → gM), OBx G M X A b hh (min 8 (1 + 4)) sv (fun j => 32 + j) 0 → SAME M (sN (1 + 4)) → J ([] ++ CW cy L ((va_up G 0 M, X, A), b)) (qc, qs) [(2, .int (nI 4)), (1, .ref (L 11 0)), (0, .ref D.2.2.2.1)] 164 []) : ∀ d k, d + k = 4 → ∀ (G : Nat → gM) (M : gM) (X : Nat → Int32) (A : Nat → Nat → Int32) (b : cB) (hh : Nat → gM), OBx G M X A b hh (min 8 (1 + k)) sv (fun j => 32 + j) 0 → SAME M (sN (1 + k)) → J ([] ++ CW cy L ((va_up G 0 M, X, A), b)) (qc, qs) [(2, .int (nI k)), (1, .ref (L 11 0)), (0, .ref D.2.2.2.1)] 125 [] := by
  intro d
  induction d with
  | zero =>
    intro k hk G M X A b hh hO hs
    obtain rfl : k = 4 := by omega
    refine j_iload_n h dL_law_125 rfl 0 rfl ?_
    refine j_iconst h (v := 4) dL_law_126 (by decide) ?_
    refine j_icmp_ge h (tgt := 164) dL_law_127 (by decide) (fun _ => ?_) (fun c => absurd (Int32.le_refl _) c)
    exact K _ _ _ _ _ _ hO hs
  | succ d ih =>
    intro k hk G M X A b hh hO hs
    refine j_iload_n h dL_law_125 rfl 0 rfl ?_
    refine j_iconst h (v := 4) dL_law_126 (by decide) ?_
    refine j_icmp_ge h (tgt := 164) dL_law_127 (by decide) (fun c => absurd c (xnle (a := 4) (b := k) (by omega) (by decide))) (fun _ => ?_)
    refine j_aload_n h dL_law_130 rfl 1 rfl ?_
    refine j_iconst h (v := 3) dL_law_131 (by decide) ?_
    refine j_iload_n h dL_law_132 rfl 0 rfl ?_
    refine j_imul h dL_law_133 ?_
    rw [show (3 * (nI k) : Int32) = nI (3 * k) from tri k (by omega)]
    have Kr : J ([] ++ CW cy L ((va_up G 0 M, X, A), b)) (qc, qs) [(2, .int (nI k)), (1, .ref (L 11 0)), (0, .ref D.2.2.2.1)] 149 [.int (nI (if k = 3 then 18 else 3 * k + 2)), .int (nI (3 * k)), .ref (L 11 0)] := ?_
    · by_cases ck : k = 3
      · subst ck
        refine j_iload_n h dL_law_134 rfl 0 rfl ?_
        refine j_iconst h (v := 3) dL_law_135 (by decide) ?_
        refine j_icmp_ne h (tgt := 144) dL_law_136 (by decide) (fun c => absurd rfl c) (fun _ => ?_)
        refine j_bipush h (v := 18) dL_law_139 (by decide) ?_
        refine j_goto h (tgt := 149) dL_law_141 (by decide) ?_
        exact Kr
      · have e3 : ¬ nI k = nI 3 := fun c => ck ((nI_eq (by omega) (by decide)).mp c)
        refine j_iload_n h dL_law_134 rfl 0 rfl ?_
        refine j_iconst h (v := 3) dL_law_135 (by decide) ?_
        refine j_icmp_ne h (tgt := 144) dL_law_136 (by decide) (fun _ => ?_) (fun c => absurd c e3)
        refine j_iconst h (v := 3) dL_law_144 (by decide) ?_
        refine j_iload_n h dL_law_145 rfl 0 rfl ?_
        refine j_imul h dL_law_146 ?_
        rw [show (3 * (nI k) : Int32) = nI (3 * k) from tri k (by omega)]
        refine j_iconst h (v := 2) dL_law_147 (by decide) ?_
        refine j_iadd h dL_law_148 ?_
        rw [show ((nI (3 * k)) + 2 : Int32) = nI (3 * k + 2) from nI_add _ 2]
        rw [if_neg ck] at Kr
        exact Kr
    refine o_rink (wr := []) h rfl hO ⟨Nat.le_of_ble_eq_true rfl, Nat.le_of_ble_eq_true rfl⟩ (Nat.le_of_ble_eq_true rfl) ⟨by show qc ≤ 659866; omega, by show qs ≤ 7122651; omega⟩ dL_law_149 (fun z hz hS => ?_)
    have hst := st_rink hO hs _ _ (ck_rinks k (by omega))
    rw [← hz] at hst
    obtain ⟨hz1, hs1, -⟩ := hst
    rcases hS.2 with ⟨cc, -⟩ | ⟨-, hO1, -⟩
    · rw [hz1] at cc; exact absurd (CODE_lt cc) (xnlt (b := 0) (by omega) (by omega))
    rw [hz1]
    clear hz1 hz hS hs hO
    generalize z.2.1 = G at hO1 hs1 ⊢; generalize z.2.2.1 = M at hO1 hs1 ⊢; generalize z.2.2.2.1 = X at hO1 hs1 ⊢; generalize z.2.2.2.2 = A at hO1 hs1 ⊢
    generalize pu _ _ = hh at hO1
    have hO := hO1; have hs := hs1; clear hO1 hs1
    refine j_iload_n h dL_law_152 rfl 0 rfl ?_
    refine j_icmp_eq h (tgt := 158) dL_law_153 (by decide) (fun _ => ?_) (fun c => absurd rfl c)
    refine j_iinc h (v := nI (k + 1)) (lv' := [(2, _), (1, _), (0, _)]) dL_law_158 (k := 0) rfl (nI_1 k) (by decide) rfl ?_
    refine j_goto h (tgt := 125) dL_law_161 (by decide) ?_
    rw [show min 8 ((min 8 (1 + k)) + 1) = (min 8 (1 + (k + 1))) from by omega] at hO
    exact ih (k + 1) (by omega) _ _ _ _ _ _ hO hs
theorem e_wood (h : OKJ l D cy wI J cL_law 11 yL_law rm_L_law) {qc qs : Nat} (hqc : qc + 0 ≤ 659866) (hqs : qs + 0 ≤ 7122651) (K : ∀ (G : Nat → gM) (M : gM) (X : Nat → Int32) (A : Nat → Nat → Int32) (b : cB) (hh : Nat → gM), OBx G M X A b hh (min 8 (5 + 16)) sv (fun j => 32 + j) 0 → SAME M (sN (5 + 16)) → J ([] ++ CW cy L ((va_up G 0 M, X, A), b)) (qc, qs) [(2, .int (nI 16)), (1, .ref (L 11 0)), (0, .ref D.2.2.2.1)] 193 []) : ∀ d k, d + k = 16 → ∀ (G : Nat → gM) (M : gM) (X : Nat → Int32) (A : Nat → Nat → Int32) (b : cB) (hh : Nat → gM), OBx G M X A b hh (min 8 (5 + k)) sv (fun j => 32 + j) 0 → SAME M (sN (5 + k)) → J ([] ++ CW cy L ((va_up G 0 M, X, A), b)) (qc, qs) [(2, .int (nI k)), (1, .ref (L 11 0)), (0, .ref D.2.2.2.1)] 166 [] := by
  intro d
  induction d with
  | zero =>
    intro k hk G M X A b hh hO hs
    obtain rfl : k = 16 := by omega
    refine j_iload_n h dL_law_166 rfl 0 rfl ?_
    refine j_bipush h (v := 16) dL_law_167 (by decide) ?_
    refine j_icmp_ge h (tgt := 193) dL_law_169 (by decide) (fun _ => ?_) (fun c => absurd (Int32.le_refl _) c)
    exact K _ _ _ _ _ _ hO hs
  | succ d ih =>
    intro k hk G M X A b hh hO hs
    refine j_iload_n h dL_law_166 rfl 0 rfl ?_
    refine j_bipush h (v := 16) dL_law_167 (by decide) ?_
    refine j_icmp_ge h (tgt := 193) dL_law_169 (by decide) (fun c => absurd c (xnle (a := 16) (b := k) (by omega) (by decide))) (fun _ => ?_)
    refine j_aload_n h dL_law_172 rfl 1 rfl ?_
    refine j_iload_n h dL_law_173 rfl 0 rfl ?_
    refine j_bipush h (v := 8) dL_law_174 (by decide) ?_
    refine j_idiv h dL_law_176 (by decide) ?_
    rw [div8 k (by omega)]
    refine j_iconst h (v := 0) dL_law_177 (by decide) ?_
    refine o_wood (wr := []) h rfl hO ⟨Nat.le_of_ble_eq_true rfl, Nat.le_of_ble_eq_true rfl⟩ (Nat.le_of_ble_eq_true rfl) ⟨by show qc ≤ 659866; omega, by show qs ≤ 7122651; omega⟩ dL_law_178 (fun z hz hS => ?_)
    have hst := st_wood hO hs _ _ (ck_woods k (by omega))
    rw [← hz] at hst
    obtain ⟨hz1, hs1, -⟩ := hst
    rcases hS.2 with ⟨cc, -⟩ | ⟨-, hO1, -⟩
    · rw [hz1] at cc; exact absurd (CODE_lt cc) (xnlt (b := 0) (by omega) (by omega))
    rw [hz1]
    clear hz1 hz hS hs hO
    generalize z.2.1 = G at hO1 hs1 ⊢; generalize z.2.2.1 = M at hO1 hs1 ⊢; generalize z.2.2.2.1 = X at hO1 hs1 ⊢; generalize z.2.2.2.2 = A at hO1 hs1 ⊢
    generalize pu _ _ = hh at hO1
    have hO := hO1; have hs := hs1; clear hO1 hs1
    refine j_iload_n h dL_law_181 rfl 0 rfl ?_
    refine j_icmp_eq h (tgt := 187) dL_law_182 (by decide) (fun _ => ?_) (fun c => absurd rfl c)
    refine j_iinc h (v := nI (k + 1)) (lv' := [(2, _), (1, _), (0, _)]) dL_law_187 (k := 0) rfl (nI_1 k) (by decide) rfl ?_
    refine j_goto h (tgt := 166) dL_law_190 (by decide) ?_
    rw [show min 8 ((min 8 (5 + k)) + 1) = (min 8 (5 + (k + 1))) from by omega] at hO
    exact ih (k + 1) (by omega) _ _ _ _ _ _ hO hs
theorem e_ref1 (h : OKJ l D cy wI J cL_law 11 yL_law rm_L_law) {qc qs : Nat} (hqc : qc + 2 ≤ 659866) (hqs : qs + 4 ≤ 7122651) (K : ∀ (G : Nat → gM) (M : gM) (X : Nat → Int32) (A : Nat → Nat → Int32) (b : cB) (hh : Nat → gM), OBx G M X A b hh 8 sv (fun j => 32 + j) 0 → SAME M (sN 21) → J ([] ++ CW cy L ((va_up G 0 M, X, A), b)) (qc + 2, qs + 4) [(2, .int (nI 0)), (1, .ref (L 11 0)), (0, .ref D.2.2.2.1)] 269 []) : ∀ (G : Nat → gM) (M : gM) (X : Nat → Int32) (A : Nat → Nat → Int32) (b : cB) (hh : Nat → gM), OBx G M X A b hh 8 sv (fun j => 32 + j) 0 → SAME M (sN 21) → J ([] ++ CW cy L ((va_up G 0 M, X, A), b)) (qc, qs) [(2, .int (nI 16)), (1, .ref (L 11 0)), (0, .ref D.2.2.2.1)] 193 [] := by
  intro G M X A b hh hO hs
  refine j_aload_n h dL_law_193 rfl 1 rfl ?_
  refine j_bipush h (v := 20) dL_law_194 (by decide) ?_
  refine j_bipush h (v := 22) dL_law_196 (by decide) ?_
  refine o_rink (wr := []) h rfl hO ⟨Nat.le_of_ble_eq_true rfl, Nat.le_of_ble_eq_true rfl⟩ (Nat.le_of_ble_eq_true rfl) ⟨by show qc ≤ 659866; omega, by show qs ≤ 7122651; omega⟩ dL_law_198 (fun z hz hS => ?_)
  have hst := st_rink hO hs 20 22 ck_r_rink
  rw [← hz] at hst
  obtain ⟨hz1, -, hre⟩ := hst
  rcases hS.2.symm with ⟨cc, -⟩ | ⟨-, hzM, hO1, -⟩
  · rw [hz1] at cc; exact absurd (by decide) (vin0 cc)
  have hr1 := fun a b => (hre a b).trans (rr_rink a b)
  rw [hz1, hzM]
  have hq := re_1 (N := sN 21) (X := X) (A := A) (p := 1) (q := 4)
  simp only [← hr1] at hq
  clear hz1 hz hS hre hr1 hzM hO
  generalize z.2.1 = G at hO1 ⊢; generalize z.2.2.2.1 = X at hO1 hq ⊢; generalize z.2.2.2.2 = A at hO1 hq ⊢
  have hO := hO1; clear hO1
  refine j_bipush h (v := (-3)) dL_law_201 (by decide) ?_
  refine j_icmp_ne h (tgt := 265) dL_law_203 (by decide) (fun c => absurd rfl c) (fun _ => ?_)
  refine j_aload_n h dL_law_206 rfl 1 rfl ?_
  refine j_iconst h (v := 2) dL_law_207 (by decide) ?_
  refine j_newi h (xr_1 3 rfl) (N := 2) (by decide) (by decide) (by decide) (by show qc + 1 ≤ 659866; omega) (by show qs + 2 ≤ 7122651; omega) dL_law_208 (fun ra => ?_)
  refine j_pm h (w := [(ra, .inl (cy 0, 2, .inl (fun _ => 0)))] ++ CW cy L ((va_up G 0 M, X, A), b)) List.perm_append_comm ?_
  refine j_dup h dL_law_210 rfl ?_
  refine j_iconst h (v := 0) dL_law_211 (by decide) ?_
  refine j_iconst h (v := 1) dL_law_212 (by decide) ?_
  refine j_iastE h 0 rfl 0 rfl (by decide) (by decide) dL_law_213 (u' := [(ra, .inl (cy 0, 2, .inl (upd (fun _ => 0) 0 1)))] ++ CW cy L ((va_up G 0 M, X, A), b)) rfl ?_
  refine j_dup h dL_law_214 rfl ?_
  refine j_iconst h (v := 1) dL_law_215 (by decide) ?_
  refine j_iconst h (v := 4) dL_law_216 (by decide) ?_
  refine j_iastE h 0 rfl 1 rfl (by decide) (by decide) dL_law_217 (u' := [(ra, .inl (cy 0, 2, .inl (upd (upd (fun _ => 0) 0 1) 1 4)))] ++ CW cy L ((va_up G 0 M, X, A), b)) rfl ?_
  refine j_bS h (n := 2) (c_L_are l D cy hO (a := ra) (m := 1) (f := (upd (upd (fun _ => 0) 0 1) 1 4)) (by decide) (fun k hk => match k, hk with | 0, _ => ⟨hq.1, hq.2.1⟩) hq.2.2) (wr := []) (List.nil_append _).symm (xg_S (xr_30 0 rfl) (xr_30 1 rfl) (xr_30 2 rfl) (xr_30 3 rfl)) rfl rfl (by decide +kernel) ⟨Nat.le_of_ble_eq_true rfl, Nat.le_of_ble_eq_true rfl⟩ rfl rfl (Nat.le_of_ble_eq_true rfl) dL_law_218 ⟨by show qc + 1 ≤ 659866; omega, by show qs + 2 ≤ 7122651; omega⟩ (fun rr v hv => ?_)
  obtain ⟨rfl, rfl⟩ := hv
  rw [List.nil_append]
  refine j_drop h (a := [(ra, .inl (cy 0, 2, .inl (upd (upd (fun _ => 0) 0 1) 1 4)))]) ?_
  clear hq
  refine j_if_eq h (tgt := 265) dL_law_221 (by decide) (fun c => absurd c (by decide)) (fun _ => ?_)
  refine j_aload_n h dL_law_224 rfl 1 rfl ?_
  refine j_iconst h (v := 0) dL_law_225 (by decide) ?_
  refine j_iconst h (v := 0) dL_law_226 (by decide) ?_
  refine o_wood (wr := []) h rfl hO ⟨Nat.le_of_ble_eq_true rfl, Nat.le_of_ble_eq_true rfl⟩ (Nat.le_of_ble_eq_true rfl) ⟨by show qc + 1 ≤ 659866; omega, by show qs + 2 ≤ 7122651; omega⟩ dL_law_227 (fun z hz hS => ?_)
  have hst := st_wood hO hs 0 0 ck_r_wood
  rw [← hz] at hst
  obtain ⟨hz1, -, hre⟩ := hst
  rcases hS.2.symm with ⟨cc, -⟩ | ⟨-, hzM, hO1, -⟩
  · rw [hz1] at cc; exact absurd (by decide) (vin0 cc)
  have hr1 := fun a b => (hre a b).trans (rr_wood a b)
  rw [hz1, hzM]
  have hq := re_1 (N := sN 21) (X := X) (A := A) (p := 1) (q := 16)
  simp only [← hr1] at hq
  clear hz1 hz hS hre hr1 hzM hO
  generalize z.2.1 = G at hO1 ⊢; generalize z.2.2.2.1 = X at hO1 hq ⊢; generalize z.2.2.2.2 = A at hO1 hq ⊢
  have hO := hO1; clear hO1
  refine j_bipush h (v := (-3)) dL_law_230 (by decide) ?_
  refine j_icmp_ne h (tgt := 265) dL_law_232 (by decide) (fun c => absurd rfl c) (fun _ => ?_)
  refine j_aload_n h dL_law_235 rfl 1 rfl ?_
  refine j_iconst h (v := 2) dL_law_236 (by decide) ?_
  refine j_newi h (xr_1 3 rfl) (N := 2) (by decide) (by decide) (by decide) (by show qc + 1 + 1 ≤ 659866; omega) (by show qs + 2 + 2 ≤ 7122651; omega) dL_law_237 (fun ra => ?_)
  refine j_pm h (w := [(ra, .inl (cy 0, 2, .inl (fun _ => 0)))] ++ CW cy L ((va_up G 0 M, X, A), b)) List.perm_append_comm ?_
  refine j_dup h dL_law_239 rfl ?_
  refine j_iconst h (v := 0) dL_law_240 (by decide) ?_
  refine j_iconst h (v := 1) dL_law_241 (by decide) ?_
  refine j_iastE h 0 rfl 0 rfl (by decide) (by decide) dL_law_242 (u' := [(ra, .inl (cy 0, 2, .inl (upd (fun _ => 0) 0 1)))] ++ CW cy L ((va_up G 0 M, X, A), b)) rfl ?_
  refine j_dup h dL_law_243 rfl ?_
  refine j_iconst h (v := 1) dL_law_244 (by decide) ?_
  refine j_bipush h (v := 16) dL_law_245 (by decide) ?_
  refine j_iastE h 0 rfl 1 rfl (by decide) (by decide) dL_law_247 (u' := [(ra, .inl (cy 0, 2, .inl (upd (upd (fun _ => 0) 0 1) 1 16)))] ++ CW cy L ((va_up G 0 M, X, A), b)) rfl ?_
  refine j_bS h (n := 2) (c_L_are l D cy hO (a := ra) (m := 1) (f := (upd (upd (fun _ => 0) 0 1) 1 16)) (by decide) (fun k hk => match k, hk with | 0, _ => ⟨hq.1, hq.2.1⟩) hq.2.2) (wr := []) (List.nil_append _).symm (xg_S (xr_30 0 rfl) (xr_30 1 rfl) (xr_30 2 rfl) (xr_30 3 rfl)) rfl rfl (by decide +kernel) ⟨Nat.le_of_ble_eq_true rfl, Nat.le_of_ble_eq_true rfl⟩ rfl rfl (Nat.le_of_ble_eq_true rfl) dL_law_248 ⟨by show qc + 1 + 1 ≤ 659866; omega, by show qs + 2 + 2 ≤ 7122651; omega⟩ (fun rr v hv => ?_)
  obtain ⟨rfl, rfl⟩ := hv
  rw [List.nil_append]
  refine j_drop h (a := [(ra, .inl (cy 0, 2, .inl (upd (upd (fun _ => 0) 0 1) 1 16)))]) ?_
  clear hq
  refine j_if_eq h (tgt := 265) dL_law_251 (by decide) (fun c => absurd c (by decide)) (fun _ => ?_)
  refine j_aload_n h dL_law_254 rfl 1 rfl ?_
  refine j_bipush h (v := 14) dL_law_255 (by decide) ?_
  refine g_account (wr := []) h rfl hO ⟨Nat.le_of_ble_eq_true rfl, Nat.le_of_ble_eq_true rfl⟩ (Nat.le_of_ble_eq_true rfl) ⟨by show qc + 1 + 1 ≤ 659866; omega, by show qs + 2 + 2 ≤ 7122651; omega⟩ dL_law_257 ?_
  rw [acc14, hO.x3]
  refine j_bipush h (v := 8) dL_law_260 (by decide) ?_
  refine j_icmp_eq h (tgt := 267) dL_law_262 (by decide) (fun _ => ?_) (fun c => absurd rfl c)
  refine j_iconst h (v := 0) dL_law_267 (by decide) ?_
  refine j_istore_n h (lv' := [(2, _), (1, _), (0, _)]) dL_law_268 rfl (by decide) rfl ?_
  refine j_widen h (k := qc + 2) (n := qs + 4) (by show qc + 1 + 1 ≤ _; omega) (by show qs + 2 + 2 ≤ _; omega) ?_
  exact K _ _ _ _ _ _ hO hs
theorem e_tea (h : OKJ l D cy wI J cL_law 11 yL_law rm_L_law) {qc qs : Nat} (hqc : qc + 0 ≤ 659866) (hqs : qs + 0 ≤ 7122651) (K : ∀ (G : Nat → gM) (M : gM) (X : Nat → Int32) (A : Nat → Nat → Int32) (b : cB) (hh : Nat → gM), OBx G M X A b hh 8 sv (fun j => 32 + j) 0 → SAME M (sN (21 + 10)) → J ([] ++ CW cy L ((va_up G 0 M, X, A), b)) (qc, qs) [(2, .int (nI 10)), (1, .ref (L 11 0)), (0, .ref D.2.2.2.1)] 294 []) : ∀ d k, d + k = 10 → ∀ (G : Nat → gM) (M : gM) (X : Nat → Int32) (A : Nat → Nat → Int32) (b : cB) (hh : Nat → gM), OBx G M X A b hh 8 sv (fun j => 32 + j) 0 → SAME M (sN (21 + k)) → J ([] ++ CW cy L ((va_up G 0 M, X, A), b)) (qc, qs) [(2, .int (nI k)), (1, .ref (L 11 0)), (0, .ref D.2.2.2.1)] 269 [] := by
  intro d
  induction d with
  | zero =>
    intro k hk G M X A b hh hO hs
    obtain rfl : k = 10 := by omega
    refine j_iload_n h dL_law_269 rfl 0 rfl ?_
    refine j_bipush h (v := 10) dL_law_270 (by decide) ?_
    refine j_icmp_ge h (tgt := 294) dL_law_272 (by decide) (fun _ => ?_) (fun c => absurd (Int32.le_refl _) c)
    exact K _ _ _ _ _ _ hO hs
  | succ d ih =>
    intro k hk G M X A b hh hO hs
    refine j_iload_n h dL_law_269 rfl 0 rfl ?_
    refine j_bipush h (v := 10) dL_law_270 (by decide) ?_
    refine j_icmp_ge h (tgt := 294) dL_law_272 (by decide) (fun c => absurd c (xnle (a := 10) (b := k) (by omega) (by decide))) (fun _ => ?_)
    refine j_aload_n h dL_law_275 rfl 1 rfl ?_
    refine j_iconst h (v := 0) dL_law_276 (by decide) ?_
    refine o_tea (wr := []) h rfl hO ⟨Nat.le_of_ble_eq_true rfl, Nat.le_of_ble_eq_true rfl⟩ (Nat.le_of_ble_eq_true rfl) ⟨by show qc ≤ 659866; omega, by show qs ≤ 7122651; omega⟩ dL_law_277 (fun z hz hS => ?_)
    have hst := st_tea hO hs _ (ck_teas k (by omega))
    rw [← hz] at hst
    obtain ⟨hz1, hs1, -⟩ := hst
    rcases hS.2 with ⟨cc, -⟩ | ⟨-, hO1, -⟩
    · rw [hz1] at cc; exact absurd (CODE_lt cc) (xnlt (b := 0) (by omega) (by omega))
    rw [hz1]
    clear hz1 hz hS hs hO
    generalize z.2.1 = G at hO1 hs1 ⊢; generalize z.2.2.1 = M at hO1 hs1 ⊢; generalize z.2.2.2.1 = X at hO1 hs1 ⊢; generalize z.2.2.2.2 = A at hO1 hs1 ⊢
    generalize pu _ _ = hh at hO1
    have hO := hO1; have hs := hs1; clear hO1 hs1
    refine j_iload_n h dL_law_280 rfl 0 rfl ?_
    refine j_iconst h (v := 1) dL_law_281 (by decide) ?_
    refine j_iadd h dL_law_282 ?_
    rw [show ((nI k) + 1 : Int32) = nI (k + 1) from nI_1 k]
    refine j_icmp_eq h (tgt := 288) dL_law_283 (by decide) (fun _ => ?_) (fun c => absurd rfl c)
    refine j_iinc h (v := nI (k + 1)) (lv' := [(2, _), (1, _), (0, _)]) dL_law_288 (k := 0) rfl (nI_1 k) (by decide) rfl ?_
    refine j_goto h (tgt := 269) dL_law_291 (by decide) ?_
    exact ih (k + 1) (by omega) _ _ _ _ _ _ hO hs
theorem e_tea2 (h : OKJ l D cy wI J cL_law 11 yL_law rm_L_law) {qc qs : Nat} (hqc : qc + 2 ≤ 659866) (hqs : qs + 4 ≤ 7122651) (K : ∀ (G : Nat → gM) (M : gM) (X : Nat → Int32) (A : Nat → Nat → Int32) (b : cB) (hh : Nat → gM), OBx G M X A b hh 8 sv (fun j => 32 + j) 0 → SAME M (sN 36) → J ([] ++ CW cy L ((va_up G 0 M, X, A), b)) (qc + 2, qs + 4) [(2, .int (nI 10)), (1, .ref (L 11 0)), (0, .ref D.2.2.2.1)] 427 []) : ∀ (G : Nat → gM) (M : gM) (X : Nat → Int32) (A : Nat → Nat → Int32) (b : cB) (hh : Nat → gM), OBx G M X A b hh 8 sv (fun j => 32 + j) 0 → SAME M (sN 31) → J ([] ++ CW cy L ((va_up G 0 M, X, A), b)) (qc, qs) [(2, .int (nI 10)), (1, .ref (L 11 0)), (0, .ref D.2.2.2.1)] 294 [] := by
  intro G M X A b hh hO hs
  refine j_aload_n h dL_law_294 rfl 1 rfl ?_
  refine j_iconst h (v := 0) dL_law_295 (by decide) ?_
  refine o_tea (wr := []) h rfl hO ⟨Nat.le_of_ble_eq_true rfl, Nat.le_of_ble_eq_true rfl⟩ (Nat.le_of_ble_eq_true rfl) ⟨by show qc ≤ 659866; omega, by show qs ≤ 7122651; omega⟩ dL_law_296 (fun z hz hS => ?_)
  have hst := st_tea hO hs 0 ck_r_tea0
  rw [← hz] at hst
  obtain ⟨hz1, -, hre⟩ := hst
  rcases hS.2.symm with ⟨cc, -⟩ | ⟨-, hzM, hO1, -⟩
  · rw [hz1] at cc; exact absurd (by decide) (vin0 cc)
  have hr1 := fun a b => (hre a b).trans (rr_tea0 a b)
  rw [hz1, hzM]
  have hq := re_1 (N := sN 31) (X := X) (A := A) (p := 11) (q := 0)
  simp only [← hr1] at hq
  clear hz1 hz hS hre hr1 hzM hO
  generalize z.2.1 = G at hO1 ⊢; generalize z.2.2.2.1 = X at hO1 hq ⊢; generalize z.2.2.2.2 = A at hO1 hq ⊢
  have hO := hO1; clear hO1
  refine j_bipush h (v := (-3)) dL_law_299 (by decide) ?_
  refine j_icmp_ne h (tgt := 425) dL_law_301 (by decide) (fun c => absurd rfl c) (fun _ => ?_)
  refine j_aload_n h dL_law_304 rfl 1 rfl ?_
  refine j_iconst h (v := 2) dL_law_305 (by decide) ?_
  refine j_newi h (xr_1 3 rfl) (N := 2) (by decide) (by decide) (by decide) (by show qc + 1 ≤ 659866; omega) (by show qs + 2 ≤ 7122651; omega) dL_law_306 (fun ra => ?_)
  refine j_pm h (w := [(ra, .inl (cy 0, 2, .inl (fun _ => 0)))] ++ CW cy L ((va_up G 0 M, X, A), b)) List.perm_append_comm ?_
  refine j_dup h dL_law_308 rfl ?_
  refine j_iconst h (v := 0) dL_law_309 (by decide) ?_
  refine j_bipush h (v := 11) dL_law_310 (by decide) ?_
  refine j_iastE h 0 rfl 0 rfl (by decide) (by decide) dL_law_312 (u' := [(ra, .inl (cy 0, 2, .inl (upd (fun _ => 0) 0 11)))] ++ CW cy L ((va_up G 0 M, X, A), b)) rfl ?_
  refine j_dup h dL_law_313 rfl ?_
  refine j_iconst h (v := 1) dL_law_314 (by decide) ?_
  refine j_iconst h (v := 0) dL_law_315 (by decide) ?_
  refine j_iastE h 0 rfl 1 rfl (by decide) (by decide) dL_law_316 (u' := [(ra, .inl (cy 0, 2, .inl (upd (upd (fun _ => 0) 0 11) 1 0)))] ++ CW cy L ((va_up G 0 M, X, A), b)) rfl ?_
  refine j_bS h (n := 2) (c_L_are l D cy hO (a := ra) (m := 1) (f := (upd (upd (fun _ => 0) 0 11) 1 0)) (by decide) (fun k hk => match k, hk with | 0, _ => ⟨hq.1, hq.2.1⟩) hq.2.2) (wr := []) (List.nil_append _).symm (xg_S (xr_30 0 rfl) (xr_30 1 rfl) (xr_30 2 rfl) (xr_30 3 rfl)) rfl rfl (by decide +kernel) ⟨Nat.le_of_ble_eq_true rfl, Nat.le_of_ble_eq_true rfl⟩ rfl rfl (Nat.le_of_ble_eq_true rfl) dL_law_317 ⟨by show qc + 1 ≤ 659866; omega, by show qs + 2 ≤ 7122651; omega⟩ (fun rr v hv => ?_)
  obtain ⟨rfl, rfl⟩ := hv
  rw [List.nil_append]
  refine j_drop h (a := [(ra, .inl (cy 0, 2, .inl (upd (upd (fun _ => 0) 0 11) 1 0)))]) ?_
  clear hq
  refine j_if_eq h (tgt := 425) dL_law_320 (by decide) (fun c => absurd c (by decide)) (fun _ => ?_)
  refine j_aload_n h dL_law_323 rfl 1 rfl ?_
  refine j_iconst h (v := 1) dL_law_324 (by decide) ?_
  refine o_tea (wr := []) h rfl hO ⟨Nat.le_of_ble_eq_true rfl, Nat.le_of_ble_eq_true rfl⟩ (Nat.le_of_ble_eq_true rfl) ⟨by show qc + 1 ≤ 659866; omega, by show qs + 2 ≤ 7122651; omega⟩ dL_law_325 (fun z hz hS => ?_)
  have hst := st_tea hO hs _ ck_tea1
  rw [← hz] at hst
  obtain ⟨hz1, hs1, -⟩ := hst
  rcases hS.2 with ⟨cc, -⟩ | ⟨-, hO1, -⟩
  · rw [hz1] at cc; exact absurd (CODE_lt cc) (by decide)
  rw [hz1]
  clear hz1 hz hS hs hO
  generalize z.2.1 = G at hO1 hs1 ⊢; generalize z.2.2.1 = M at hO1 hs1 ⊢; generalize z.2.2.2.1 = X at hO1 hs1 ⊢; generalize z.2.2.2.2 = A at hO1 hs1 ⊢
  generalize pu _ _ = hh at hO1
  have hO := hO1; have hs := hs1; clear hO1 hs1
  refine j_iconst h (v := 1) dL_law_328 (by decide) ?_
  refine j_icmp_ne h (tgt := 425) dL_law_329 (by decide) (fun c => absurd rfl c) (fun _ => ?_)
  refine j_aload_n h dL_law_332 rfl 1 rfl ?_
  refine j_iconst h (v := 1) dL_law_333 (by decide) ?_
  refine o_tea (wr := []) h rfl hO ⟨Nat.le_of_ble_eq_true rfl, Nat.le_of_ble_eq_true rfl⟩ (Nat.le_of_ble_eq_true rfl) ⟨by show qc + 1 ≤ 659866; omega, by show qs + 2 ≤ 7122651; omega⟩ dL_law_334 (fun z hz hS => ?_)
  have hst := st_tea hO hs _ ck_tea2
  rw [← hz] at hst
  obtain ⟨hz1, hs1, -⟩ := hst
  rcases hS.2 with ⟨cc, -⟩ | ⟨-, hO1, -⟩
  · rw [hz1] at cc; exact absurd (CODE_lt cc) (by decide)
  rw [hz1]
  clear hz1 hz hS hs hO
  generalize z.2.1 = G at hO1 hs1 ⊢; generalize z.2.2.1 = M at hO1 hs1 ⊢; generalize z.2.2.2.1 = X at hO1 hs1 ⊢; generalize z.2.2.2.2 = A at hO1 hs1 ⊢
  generalize pu _ _ = hh at hO1
  have hO := hO1; have hs := hs1; clear hO1 hs1
  refine j_iconst h (v := 2) dL_law_337 (by decide) ?_
  refine j_icmp_ne h (tgt := 425) dL_law_338 (by decide) (fun c => absurd rfl c) (fun _ => ?_)
  refine j_aload_n h dL_law_341 rfl 1 rfl ?_
  refine j_iconst h (v := 1) dL_law_342 (by decide) ?_
  refine o_tea (wr := []) h rfl hO ⟨Nat.le_of_ble_eq_true rfl, Nat.le_of_ble_eq_true rfl⟩ (Nat.le_of_ble_eq_true rfl) ⟨by show qc + 1 ≤ 659866; omega, by show qs + 2 ≤ 7122651; omega⟩ dL_law_343 (fun z hz hS => ?_)
  have hst := st_tea hO hs 1 ck_r_tea1
  rw [← hz] at hst
  obtain ⟨hz1, -, hre⟩ := hst
  rcases hS.2.symm with ⟨cc, -⟩ | ⟨-, hzM, hO1, -⟩
  · rw [hz1] at cc; exact absurd (by decide) (vin0 cc)
  have hr1 := fun a b => (hre a b).trans (rr_tea1 a b)
  rw [hz1, hzM]
  have hq := re_1 (N := sN 33) (X := X) (A := A) (p := 10) (q := 1)
  simp only [← hr1] at hq
  clear hz1 hz hS hre hr1 hzM hO
  generalize z.2.1 = G at hO1 ⊢; generalize z.2.2.2.1 = X at hO1 hq ⊢; generalize z.2.2.2.2 = A at hO1 hq ⊢
  have hO := hO1; clear hO1
  refine j_bipush h (v := (-3)) dL_law_346 (by decide) ?_
  refine j_icmp_ne h (tgt := 425) dL_law_348 (by decide) (fun c => absurd rfl c) (fun _ => ?_)
  refine j_aload_n h dL_law_351 rfl 1 rfl ?_
  refine j_iconst h (v := 2) dL_law_352 (by decide) ?_
  refine j_newi h (xr_1 3 rfl) (N := 2) (by decide) (by decide) (by decide) (by show qc + 1 + 1 ≤ 659866; omega) (by show qs + 2 + 2 ≤ 7122651; omega) dL_law_353 (fun ra => ?_)
  refine j_pm h (w := [(ra, .inl (cy 0, 2, .inl (fun _ => 0)))] ++ CW cy L ((va_up G 0 M, X, A), b)) List.perm_append_comm ?_
  refine j_dup h dL_law_355 rfl ?_
  refine j_iconst h (v := 0) dL_law_356 (by decide) ?_
  refine j_bipush h (v := 10) dL_law_357 (by decide) ?_
  refine j_iastE h 0 rfl 0 rfl (by decide) (by decide) dL_law_359 (u' := [(ra, .inl (cy 0, 2, .inl (upd (fun _ => 0) 0 10)))] ++ CW cy L ((va_up G 0 M, X, A), b)) rfl ?_
  refine j_dup h dL_law_360 rfl ?_
  refine j_iconst h (v := 1) dL_law_361 (by decide) ?_
  refine j_iconst h (v := 1) dL_law_362 (by decide) ?_
  refine j_iastE h 0 rfl 1 rfl (by decide) (by decide) dL_law_363 (u' := [(ra, .inl (cy 0, 2, .inl (upd (upd (fun _ => 0) 0 10) 1 1)))] ++ CW cy L ((va_up G 0 M, X, A), b)) rfl ?_
  refine j_bS h (n := 2) (c_L_are l D cy hO (a := ra) (m := 1) (f := (upd (upd (fun _ => 0) 0 10) 1 1)) (by decide) (fun k hk => match k, hk with | 0, _ => ⟨hq.1, hq.2.1⟩) hq.2.2) (wr := []) (List.nil_append _).symm (xg_S (xr_30 0 rfl) (xr_30 1 rfl) (xr_30 2 rfl) (xr_30 3 rfl)) rfl rfl (by decide +kernel) ⟨Nat.le_of_ble_eq_true rfl, Nat.le_of_ble_eq_true rfl⟩ rfl rfl (Nat.le_of_ble_eq_true rfl) dL_law_364 ⟨by show qc + 1 + 1 ≤ 659866; omega, by show qs + 2 + 2 ≤ 7122651; omega⟩ (fun rr v hv => ?_)
  obtain ⟨rfl, rfl⟩ := hv
  rw [List.nil_append]
  refine j_drop h (a := [(ra, .inl (cy 0, 2, .inl (upd (upd (fun _ => 0) 0 10) 1 1)))]) ?_
  clear hq
  refine j_if_eq h (tgt := 425) dL_law_367 (by decide) (fun c => absurd c (by decide)) (fun _ => ?_)
  refine j_aload_n h dL_law_370 rfl 1 rfl ?_
  refine j_bipush h (v := 9) dL_law_371 (by decide) ?_
  refine g_account (wr := []) h rfl hO ⟨Nat.le_of_ble_eq_true rfl, Nat.le_of_ble_eq_true rfl⟩ (Nat.le_of_ble_eq_true rfl) ⟨by show qc + 1 + 1 ≤ 659866; omega, by show qs + 2 + 2 ≤ 7122651; omega⟩ dL_law_373 ?_
  rw [lw_acc hs (p := 9) (c := 12) (by decide) (by decide) (by decide +kernel)]
  refine j_bipush h (v := 12) dL_law_376 (by decide) ?_
  refine j_icmp_ne h (tgt := 425) dL_law_378 (by decide) (fun c => absurd rfl c) (fun _ => ?_)
  refine j_aload_n h dL_law_381 rfl 1 rfl ?_
  refine j_iconst h (v := 1) dL_law_382 (by decide) ?_
  refine j_iconst h (v := 2) dL_law_383 (by decide) ?_
  refine g_clubOf (wr := []) h rfl hO ⟨Nat.le_of_ble_eq_true rfl, Nat.le_of_ble_eq_true rfl⟩ (Nat.le_of_ble_eq_true rfl) ⟨by show qc + 1 + 1 ≤ 659866; omega, by show qs + 2 + 2 ≤ 7122651; omega⟩ dL_law_384 ?_
  rw [sq_clubOf hs, show f_X7_clubOf (sN 33) x0 a0 1 2 = 8 by decide +kernel]
  refine j_bipush h (v := 8) dL_law_387 (by decide) ?_
  refine j_icmp_ne h (tgt := 425) dL_law_389 (by decide) (fun c => absurd rfl c) (fun _ => ?_)
  refine j_aload_n h dL_law_392 rfl 1 rfl ?_
  refine j_bipush h (v := 20) dL_law_393 (by decide) ?_
  refine o_brew (wr := []) h rfl hO ⟨Nat.le_of_ble_eq_true rfl, Nat.le_of_ble_eq_true rfl⟩ (Nat.le_of_ble_eq_true rfl) ⟨by show qc + 1 + 1 ≤ 659866; omega, by show qs + 2 + 2 ≤ 7122651; omega⟩ dL_law_395 (fun z hz hS => ?_)
  have hst := st_brew hO hs _ ck_brew1
  rw [← hz] at hst
  obtain ⟨hz1, hs1, -⟩ := hst
  rcases hS.2 with ⟨cc, -⟩ | ⟨-, hO1, -⟩
  · rw [hz1] at cc; exact absurd (CODE_lt cc) (by decide)
  rw [hz1]
  clear hz1 hz hS hs hO
  generalize z.2.1 = G at hO1 hs1 ⊢; generalize z.2.2.1 = M at hO1 hs1 ⊢; generalize z.2.2.2.1 = X at hO1 hs1 ⊢; generalize z.2.2.2.2 = A at hO1 hs1 ⊢
  generalize pu _ _ = hh at hO1
  have hO := hO1; have hs := hs1; clear hO1 hs1
  refine j_bipush h (v := 20) dL_law_398 (by decide) ?_
  refine j_icmp_ne h (tgt := 425) dL_law_400 (by decide) (fun c => absurd rfl c) (fun _ => ?_)
  refine j_aload_n h dL_law_403 rfl 1 rfl ?_
  refine j_bipush h (v := 20) dL_law_404 (by decide) ?_
  refine o_brew (wr := []) h rfl hO ⟨Nat.le_of_ble_eq_true rfl, Nat.le_of_ble_eq_true rfl⟩ (Nat.le_of_ble_eq_true rfl) ⟨by show qc + 1 + 1 ≤ 659866; omega, by show qs + 2 + 2 ≤ 7122651; omega⟩ dL_law_406 (fun z hz hS => ?_)
  have hst := st_brew hO hs _ ck_brew2
  rw [← hz] at hst
  obtain ⟨hz1, hs1, -⟩ := hst
  rcases hS.2 with ⟨cc, -⟩ | ⟨-, hO1, -⟩
  · rw [hz1] at cc; exact absurd (CODE_lt cc) (by decide)
  rw [hz1]
  clear hz1 hz hS hs hO
  generalize z.2.1 = G at hO1 hs1 ⊢; generalize z.2.2.1 = M at hO1 hs1 ⊢; generalize z.2.2.2.1 = X at hO1 hs1 ⊢; generalize z.2.2.2.2 = A at hO1 hs1 ⊢
  generalize pu _ _ = hh at hO1
  have hO := hO1; have hs := hs1; clear hO1 hs1
  refine j_bipush h (v := 40) dL_law_409 (by decide) ?_
  refine j_icmp_ne h (tgt := 425) dL_law_411 (by decide) (fun c => absurd rfl c) (fun _ => ?_)
  refine j_aload_n h dL_law_414 rfl 1 rfl ?_
  refine j_bipush h (v := 20) dL_law_415 (by decide) ?_
  refine o_brew (wr := []) h rfl hO ⟨Nat.le_of_ble_eq_true rfl, Nat.le_of_ble_eq_true rfl⟩ (Nat.le_of_ble_eq_true rfl) ⟨by show qc + 1 + 1 ≤ 659866; omega, by show qs + 2 + 2 ≤ 7122651; omega⟩ dL_law_417 (fun z hz hS => ?_)
  have hst := st_brew hO hs _ ck_brew3
  rw [← hz] at hst
  obtain ⟨hz1, hs1, -⟩ := hst
  rcases hS.2 with ⟨cc, -⟩ | ⟨-, hO1, -⟩
  · rw [hz1] at cc; exact absurd (CODE_lt cc) (by decide)
  rw [hz1]
  clear hz1 hz hS hs hO
  generalize z.2.1 = G at hO1 hs1 ⊢; generalize z.2.2.1 = M at hO1 hs1 ⊢; generalize z.2.2.2.1 = X at hO1 hs1 ⊢; generalize z.2.2.2.2 = A at hO1 hs1 ⊢
  generalize pu _ _ = hh at hO1
  have hO := hO1; have hs := hs1; clear hO1 hs1
  refine j_bipush h (v := 40) dL_law_420 (by decide) ?_
  refine j_icmp_eq h (tgt := 427) dL_law_422 (by decide) (fun _ => ?_) (fun c => absurd rfl c)
  refine j_widen h (k := qc + 2) (n := qs + 4) (by show qc + 1 + 1 ≤ _; omega) (by show qs + 2 + 2 ≤ _; omega) ?_
  exact K _ _ _ _ _ _ hO hs
theorem e_wet (h : OKJ l D cy wI J cL_law 11 yL_law rm_L_law) {qc qs : Nat} (hqc : qc + 1 ≤ 659866) (hqs : qs + 4 ≤ 7122651) (K : ∀ (G : Nat → gM) (M : gM) (X : Nat → Int32) (A : Nat → Nat → Int32) (b : cB) (hh : Nat → gM), OBx G M X A b hh 8 sv (fun j => 32 + j) 0 → SAME M (sN 40) → J ([] ++ CW cy L ((va_up G 0 M, X, A), b)) (qc + 1, qs + 4) [(2, .int (nI 10)), (1, .ref (L 11 0)), (0, .ref D.2.2.2.1)] 560 []) : ∀ (G : Nat → gM) (M : gM) (X : Nat → Int32) (A : Nat → Nat → Int32) (b : cB) (hh : Nat → gM), OBx G M X A b hh 8 sv (fun j => 32 + j) 0 → SAME M (sN 36) → J ([] ++ CW cy L ((va_up G 0 M, X, A), b)) (qc, qs) [(2, .int (nI 10)), (1, .ref (L 11 0)), (0, .ref D.2.2.2.1)] 427 [] := by
  intro G M X A b hh hO hs
  refine j_aload_n h dL_law_427 rfl 1 rfl ?_
  refine j_bipush h (v := 9) dL_law_428 (by decide) ?_
  refine o_rain (wr := []) h rfl hO ⟨Nat.le_of_ble_eq_true rfl, Nat.le_of_ble_eq_true rfl⟩ (Nat.le_of_ble_eq_true rfl) ⟨by show qc ≤ 659866; omega, by show qs ≤ 7122651; omega⟩ dL_law_430 (fun z hz hS => ?_)
  have hst := st_rain hO hs _ ck_rain9
  rw [← hz] at hst
  obtain ⟨hz1, hs1, -⟩ := hst
  rcases hS.2 with ⟨cc, -⟩ | ⟨-, hO1, -⟩
  · rw [hz1] at cc; exact absurd (CODE_lt cc) (by decide)
  rw [hz1]
  clear hz1 hz hS hs hO
  generalize z.2.1 = G at hO1 hs1 ⊢; generalize z.2.2.1 = M at hO1 hs1 ⊢; generalize z.2.2.2.1 = X at hO1 hs1 ⊢; generalize z.2.2.2.2 = A at hO1 hs1 ⊢
  generalize pu _ _ = hh at hO1
  have hO := hO1; have hs := hs1; clear hO1 hs1
  refine j_iconst h (v := 1) dL_law_433 (by decide) ?_
  refine j_icmp_ne h (tgt := 748) dL_law_434 (by decide) (fun c => absurd rfl c) (fun _ => ?_)
  refine j_aload_n h dL_law_437 rfl 1 rfl ?_
  refine j_iconst h (v := 0) dL_law_438 (by decide) ?_
  refine o_sun (wr := []) h rfl hO ⟨Nat.le_of_ble_eq_true rfl, Nat.le_of_ble_eq_true rfl⟩ (Nat.le_of_ble_eq_true rfl) ⟨by show qc ≤ 659866; omega, by show qs ≤ 7122651; omega⟩ dL_law_439 (fun z hz hS => ?_)
  have hst := st_sun hO hs _ ck_sun0
  rw [← hz] at hst
  obtain ⟨hz1, hs1, -⟩ := hst
  rcases hS.2 with ⟨cc, -⟩ | ⟨-, hO1, -⟩
  · rw [hz1] at cc; exact absurd (CODE_lt cc) (by decide)
  rw [hz1]
  clear hz1 hz hS hs hO
  generalize z.2.1 = G at hO1 hs1 ⊢; generalize z.2.2.1 = M at hO1 hs1 ⊢; generalize z.2.2.2.1 = X at hO1 hs1 ⊢; generalize z.2.2.2.2 = A at hO1 hs1 ⊢
  generalize pu _ _ = hh at hO1
  have hO := hO1; have hs := hs1; clear hO1 hs1
  refine j_iconst h (v := 2) dL_law_442 (by decide) ?_
  refine j_icmp_ne h (tgt := 748) dL_law_443 (by decide) (fun c => absurd rfl c) (fun _ => ?_)
  refine j_aload_n h dL_law_446 rfl 1 rfl ?_
  refine j_iconst h (v := 1) dL_law_447 (by decide) ?_
  refine o_hour (wr := []) h rfl hO ⟨Nat.le_of_ble_eq_true rfl, Nat.le_of_ble_eq_true rfl⟩ (Nat.le_of_ble_eq_true rfl) ⟨by show qc ≤ 659866; omega, by show qs ≤ 7122651; omega⟩ dL_law_448 (fun z hz hS => ?_)
  have hst := st_hour hO hs _ ck_hour1
  rw [← hz] at hst
  obtain ⟨hz1, hs1, -⟩ := hst
  rcases hS.2 with ⟨cc, -⟩ | ⟨-, hO1, -⟩
  · rw [hz1] at cc; exact absurd (CODE_lt cc) (by decide)
  rw [hz1]
  clear hz1 hz hS hs hO
  generalize z.2.1 = G at hO1 hs1 ⊢; generalize z.2.2.1 = M at hO1 hs1 ⊢; generalize z.2.2.2.1 = X at hO1 hs1 ⊢; generalize z.2.2.2.2 = A at hO1 hs1 ⊢
  generalize pu _ _ = hh at hO1
  have hO := hO1; have hs := hs1; clear hO1 hs1
  refine j_iconst h (v := 4) dL_law_451 (by decide) ?_
  refine j_icmp_ne h (tgt := 748) dL_law_452 (by decide) (fun c => absurd rfl c) (fun _ => ?_)
  refine j_aload_n h dL_law_455 rfl 1 rfl ?_
  refine g_meanWet (wr := []) h rfl hO ⟨Nat.le_of_ble_eq_true rfl, Nat.le_of_ble_eq_true rfl⟩ (Nat.le_of_ble_eq_true rfl) ⟨by show qc ≤ 659866; omega, by show qs ≤ 7122651; omega⟩ dL_law_456 ?_
  rw [sq_meanWet hs]
  refine j_ldcf h (v := 1091567616) (xr_1 4 rfl) dL_law_459 ?_
  refine j_fcmp h dL_law_461 ?_
  rw [ck_nine]
  refine j_if_ne h (tgt := 748) dL_law_462 (by decide) (fun c => absurd rfl c) (fun _ => ?_)
  refine j_aload_n h dL_law_465 rfl 1 rfl ?_
  refine j_iconst h (v := 0) dL_law_466 (by decide) ?_
  refine j_iconst h (v := 1) dL_law_467 (by decide) ?_
  refine g_wetIn (wr := []) h rfl hO ⟨Nat.le_of_ble_eq_true rfl, Nat.le_of_ble_eq_true rfl⟩ (Nat.le_of_ble_eq_true rfl) ⟨by show qc ≤ 659866; omega, by show qs ≤ 7122651; omega⟩ dL_law_468 ?_
  rw [sq_wetIn hs, show f_X7_wetIn (sN 39) x0 a0 0 1 = 18 by decide +kernel]
  refine j_bipush h (v := 18) dL_law_471 (by decide) ?_
  refine j_icmp_ne h (tgt := 748) dL_law_473 (by decide) (fun c => absurd rfl c) (fun _ => ?_)
  refine j_aload_n h dL_law_476 rfl 1 rfl ?_
  refine j_iconst h (v := 0) dL_law_477 (by decide) ?_
  refine j_bipush h (v := 40) dL_law_478 (by decide) ?_
  refine g_castsIn (wr := []) h rfl hO ⟨Nat.le_of_ble_eq_true rfl, Nat.le_of_ble_eq_true rfl⟩ (Nat.le_of_ble_eq_true rfl) ⟨by show qc ≤ 659866; omega, by show qs ≤ 7122651; omega⟩ dL_law_480 ?_
  rw [sq_castsIn hs, show f_X7_castsIn (sN 39) x0 a0 0 40 = 9 by decide +kernel]
  refine j_bipush h (v := 9) dL_law_483 (by decide) ?_
  refine j_icmp_ne h (tgt := 748) dL_law_485 (by decide) (fun c => absurd rfl c) (fun _ => ?_)
  refine j_aload_n h dL_law_488 rfl 1 rfl ?_
  refine j_iconst h (v := 0) dL_law_489 (by decide) ?_
  refine g_dryIn (wr := []) h rfl hO ⟨Nat.le_of_ble_eq_true rfl, Nat.le_of_ble_eq_true rfl⟩ (Nat.le_of_ble_eq_true rfl) ⟨by show qc ≤ 659866; omega, by show qs ≤ 7122651; omega⟩ dL_law_490 ?_
  rw [sq_dryIn hs, show f_X7_dryIn (sN 39) x0 a0 0 = (-4) by decide +kernel]
  refine j_bipush h (v := (-4)) dL_law_493 (by decide) ?_
  refine j_icmp_ne h (tgt := 748) dL_law_495 (by decide) (fun c => absurd rfl c) (fun _ => ?_)
  refine j_aload_n h dL_law_498 rfl 1 rfl ?_
  refine j_bipush h (v := 8) dL_law_499 (by decide) ?_
  refine o_hour (wr := []) h rfl hO ⟨Nat.le_of_ble_eq_true rfl, Nat.le_of_ble_eq_true rfl⟩ (Nat.le_of_ble_eq_true rfl) ⟨by show qc ≤ 659866; omega, by show qs ≤ 7122651; omega⟩ dL_law_501 (fun z hz hS => ?_)
  have hst := st_hour hO hs _ ck_hour8
  rw [← hz] at hst
  obtain ⟨hz1, hs1, -⟩ := hst
  rcases hS.2 with ⟨cc, -⟩ | ⟨-, hO1, -⟩
  · rw [hz1] at cc; exact absurd (CODE_lt cc) (by decide)
  rw [hz1]
  clear hz1 hz hS hs hO
  generalize z.2.1 = G at hO1 hs1 ⊢; generalize z.2.2.1 = M at hO1 hs1 ⊢; generalize z.2.2.2.1 = X at hO1 hs1 ⊢; generalize z.2.2.2.2 = A at hO1 hs1 ⊢
  generalize pu _ _ = hh at hO1
  have hO := hO1; have hs := hs1; clear hO1 hs1
  refine j_bipush h (v := 36) dL_law_504 (by decide) ?_
  refine j_icmp_ne h (tgt := 748) dL_law_506 (by decide) (fun c => absurd rfl c) (fun _ => ?_)
  refine j_aload_n h dL_law_509 rfl 1 rfl ?_
  refine j_iconst h (v := 0) dL_law_510 (by decide) ?_
  refine j_iconst h (v := 2) dL_law_511 (by decide) ?_
  refine g_rinkOf (wr := []) h rfl hO ⟨Nat.le_of_ble_eq_true rfl, Nat.le_of_ble_eq_true rfl⟩ (Nat.le_of_ble_eq_true rfl) ⟨by show qc ≤ 659866; omega, by show qs ≤ 7122651; omega⟩ dL_law_512 ?_
  rw [sq_rinkOf hs, show f_X7_rinkOf (sN 40) x0 a0 0 2 = 20 by decide +kernel]
  refine j_bipush h (v := 20) dL_law_515 (by decide) ?_
  refine j_icmp_ne h (tgt := 748) dL_law_517 (by decide) (fun c => absurd rfl c) (fun _ => ?_)
  refine j_aload_n h dL_law_520 rfl 1 rfl ?_
  refine j_iconst h (v := 1) dL_law_521 (by decide) ?_
  refine j_bipush h (v := 20) dL_law_522 (by decide) ?_
  refine o_begin (wr := []) h rfl hO ⟨Nat.le_of_ble_eq_true rfl, Nat.le_of_ble_eq_true rfl⟩ (Nat.le_of_ble_eq_true rfl) ⟨by show qc ≤ 659866; omega, by show qs ≤ 7122651; omega⟩ dL_law_524 (fun z hz hS => ?_)
  have hst := st_begin hO hs 1 20 ck_r_begin1
  rw [← hz] at hst
  obtain ⟨hz1, -, hre⟩ := hst
  rcases hS.2.symm with ⟨cc, -⟩ | ⟨-, hzM, hO1, -⟩
  · rw [hz1] at cc; exact absurd (by decide) (vin0 cc)
  have hr1 := fun a b => (hre a b).trans (rr_begin1 a b)
  rw [hz1, hzM]
  have hq := re_2 (N := sN 40) (X := X) (A := A) (p := 20) (q := (-1))
  simp only [← hr1] at hq
  clear hz1 hz hS hre hr1 hzM hO
  generalize z.2.1 = G at hO1 ⊢; generalize z.2.2.2.1 = X at hO1 hq ⊢; generalize z.2.2.2.2 = A at hO1 hq ⊢
  have hO := hO1; clear hO1
  refine j_bipush h (v := (-3)) dL_law_527 (by decide) ?_
  refine j_icmp_ne h (tgt := 748) dL_law_529 (by decide) (fun c => absurd rfl c) (fun _ => ?_)
  refine j_aload_n h dL_law_532 rfl 1 rfl ?_
  refine j_iconst h (v := 4) dL_law_533 (by decide) ?_
  refine j_newi h (xr_1 3 rfl) (N := 4) (by decide) (by decide) (by decide) (by show qc + 1 ≤ 659866; omega) (by show qs + 4 ≤ 7122651; omega) dL_law_534 (fun ra => ?_)
  refine j_pm h (w := [(ra, .inl (cy 0, 4, .inl (fun _ => 0)))] ++ CW cy L ((va_up G 0 M, X, A), b)) List.perm_append_comm ?_
  refine j_dup h dL_law_536 rfl ?_
  refine j_iconst h (v := 0) dL_law_537 (by decide) ?_
  refine j_iconst h (v := 3) dL_law_538 (by decide) ?_
  refine j_iastE h 0 rfl 0 rfl (by decide) (by decide) dL_law_539 (u' := [(ra, .inl (cy 0, 4, .inl (upd (fun _ => 0) 0 3)))] ++ CW cy L ((va_up G 0 M, X, A), b)) rfl ?_
  refine j_dup h dL_law_540 rfl ?_
  refine j_iconst h (v := 1) dL_law_541 (by decide) ?_
  refine j_bipush h (v := 20) dL_law_542 (by decide) ?_
  refine j_iastE h 0 rfl 1 rfl (by decide) (by decide) dL_law_544 (u' := [(ra, .inl (cy 0, 4, .inl (upd (upd (fun _ => 0) 0 3) 1 20)))] ++ CW cy L ((va_up G 0 M, X, A), b)) rfl ?_
  refine j_dup h dL_law_545 rfl ?_
  refine j_iconst h (v := 2) dL_law_546 (by decide) ?_
  refine j_bipush h (v := 13) dL_law_547 (by decide) ?_
  refine j_iastE h 0 rfl 2 rfl (by decide) (by decide) dL_law_549 (u' := [(ra, .inl (cy 0, 4, .inl (upd (upd (upd (fun _ => 0) 0 3) 1 20) 2 13)))] ++ CW cy L ((va_up G 0 M, X, A), b)) rfl ?_
  refine j_dup h dL_law_550 rfl ?_
  refine j_iconst h (v := 3) dL_law_551 (by decide) ?_
  refine j_iconst h (v := (-1)) dL_law_552 (by decide) ?_
  refine j_iastE h 0 rfl 3 rfl (by decide) (by decide) dL_law_553 (u' := [(ra, .inl (cy 0, 4, .inl (upd (upd (upd (upd (fun _ => 0) 0 3) 1 20) 2 13) 3 (-1))))] ++ CW cy L ((va_up G 0 M, X, A), b)) rfl ?_
  refine j_bS h (n := 2) (c_L_are l D cy hO (a := ra) (m := 2) (f := (upd (upd (upd (upd (fun _ => 0) 0 3) 1 20) 2 13) 3 (-1))) (by decide) (fun k hk => match k, hk with | 0, _ => ⟨hq.1, hq.2.1⟩ | 1, _ => ⟨hq.2.2.1, hq.2.2.2.1⟩) hq.2.2.2.2) (wr := []) (List.nil_append _).symm (xg_S (xr_30 0 rfl) (xr_30 1 rfl) (xr_30 2 rfl) (xr_30 3 rfl)) rfl rfl (by decide +kernel) ⟨Nat.le_of_ble_eq_true rfl, Nat.le_of_ble_eq_true rfl⟩ rfl rfl (Nat.le_of_ble_eq_true rfl) dL_law_554 ⟨by show qc + 1 ≤ 659866; omega, by show qs + 4 ≤ 7122651; omega⟩ (fun rr v hv => ?_)
  obtain ⟨rfl, rfl⟩ := hv
  rw [List.nil_append]
  refine j_drop h (a := [(ra, .inl (cy 0, 4, .inl (upd (upd (upd (upd (fun _ => 0) 0 3) 1 20) 2 13) 3 (-1))))]) ?_
  clear hq
  refine j_if_eq h (tgt := 748) dL_law_557 (by decide) (fun c => absurd c (by decide)) (fun _ => ?_)
  refine j_widen h (k := qc + 1) (n := qs + 4) (by show qc + 1 ≤ _; omega) (by show qs + 4 ≤ _; omega) ?_
  exact K _ _ _ _ _ _ hO hs
theorem e_swp (h : OKJ l D cy wI J cL_law 11 yL_law rm_L_law) {qc qs : Nat} (hqc : qc + 1 ≤ 659866) (hqs : qs + 2 ≤ 7122651) (K : ∀ (G : Nat → gM) (M : gM) (X : Nat → Int32) (A : Nat → Nat → Int32) (b : cB) (hh : Nat → gM), OBx G M X A b hh 8 sv (fun j => 32 + j) 0 → SAME M (sN 41) → J ([] ++ CW cy L ((va_up G 0 M, X, A), b)) (qc + 1, qs + 2) [(2, .int (nI 10)), (1, .ref (L 11 0)), (0, .ref D.2.2.2.1)] 640 []) : ∀ (G : Nat → gM) (M : gM) (X : Nat → Int32) (A : Nat → Nat → Int32) (b : cB) (hh : Nat → gM), OBx G M X A b hh 8 sv (fun j => 32 + j) 0 → SAME M (sN 40) → J ([] ++ CW cy L ((va_up G 0 M, X, A), b)) (qc, qs) [(2, .int (nI 10)), (1, .ref (L 11 0)), (0, .ref D.2.2.2.1)] 560 [] := by
  intro G M X A b hh hO hs
  refine j_aload_n h dL_law_560 rfl 1 rfl ?_
  refine j_iconst h (v := 0) dL_law_561 (by decide) ?_
  refine o_sweep (wr := []) h rfl hO ⟨Nat.le_of_ble_eq_true rfl, Nat.le_of_ble_eq_true rfl⟩ (Nat.le_of_ble_eq_true rfl) ⟨by show qc ≤ 659866; omega, by show qs ≤ 7122651; omega⟩ dL_law_562 (fun z hz hS => ?_)
  have hst := st_sweep hO hs _ ck_sweep
  rw [← hz] at hst
  obtain ⟨hz1, hs1, -⟩ := hst
  rcases hS.2 with ⟨cc, -⟩ | ⟨-, hO1, -⟩
  · rw [hz1] at cc; exact absurd (CODE_lt cc) (by decide)
  rw [hz1]
  clear hz1 hz hS hs hO
  generalize z.2.1 = G at hO1 hs1 ⊢; generalize z.2.2.1 = M at hO1 hs1 ⊢; generalize z.2.2.2.1 = X at hO1 hs1 ⊢; generalize z.2.2.2.2 = A at hO1 hs1 ⊢
  generalize pu _ _ = hh at hO1
  have hO := hO1; have hs := hs1; clear hO1 hs1
  refine j_bipush h (v := 9) dL_law_565 (by decide) ?_
  refine j_icmp_ne h (tgt := 748) dL_law_567 (by decide) (fun c => absurd rfl c) (fun _ => ?_)
  refine j_aload_n h dL_law_570 rfl 1 rfl ?_
  refine j_bipush h (v := 8) dL_law_571 (by decide) ?_
  refine g_account (wr := []) h rfl hO ⟨Nat.le_of_ble_eq_true rfl, Nat.le_of_ble_eq_true rfl⟩ (Nat.le_of_ble_eq_true rfl) ⟨by show qc ≤ 659866; omega, by show qs ≤ 7122651; omega⟩ dL_law_573 ?_
  rw [lw_acc hs (p := 8) (c := 37) (by decide) (by decide) (by decide +kernel)]
  refine j_bipush h (v := 37) dL_law_576 (by decide) ?_
  refine j_icmp_ne h (tgt := 748) dL_law_578 (by decide) (fun c => absurd rfl c) (fun _ => ?_)
  refine j_aload_n h dL_law_581 rfl 1 rfl ?_
  refine j_iconst h (v := 0) dL_law_582 (by decide) ?_
  refine o_sweep (wr := []) h rfl hO ⟨Nat.le_of_ble_eq_true rfl, Nat.le_of_ble_eq_true rfl⟩ (Nat.le_of_ble_eq_true rfl) ⟨by show qc ≤ 659866; omega, by show qs ≤ 7122651; omega⟩ dL_law_583 (fun z hz hS => ?_)
  have hst := st_sweep hO hs 0 ck_r_sweep
  rw [← hz] at hst
  obtain ⟨hz1, -, hre⟩ := hst
  rcases hS.2.symm with ⟨cc, -⟩ | ⟨-, hzM, hO1, -⟩
  · rw [hz1] at cc; exact absurd (by decide) (vin0 cc)
  have hr1 := fun a b => (hre a b).trans (rr_sweep a b)
  rw [hz1, hzM]
  have hq := re_1 (N := sN 41) (X := X) (A := A) (p := 9) (q := 0)
  simp only [← hr1] at hq
  clear hz1 hz hS hre hr1 hzM hO
  generalize z.2.1 = G at hO1 ⊢; generalize z.2.2.2.1 = X at hO1 hq ⊢; generalize z.2.2.2.2 = A at hO1 hq ⊢
  have hO := hO1; clear hO1
  refine j_bipush h (v := (-3)) dL_law_586 (by decide) ?_
  refine j_icmp_ne h (tgt := 748) dL_law_588 (by decide) (fun c => absurd rfl c) (fun _ => ?_)
  refine j_aload_n h dL_law_591 rfl 1 rfl ?_
  refine j_iconst h (v := 2) dL_law_592 (by decide) ?_
  refine j_newi h (xr_1 3 rfl) (N := 2) (by decide) (by decide) (by decide) (by show qc + 1 ≤ 659866; omega) (by show qs + 2 ≤ 7122651; omega) dL_law_593 (fun ra => ?_)
  refine j_pm h (w := [(ra, .inl (cy 0, 2, .inl (fun _ => 0)))] ++ CW cy L ((va_up G 0 M, X, A), b)) List.perm_append_comm ?_
  refine j_dup h dL_law_595 rfl ?_
  refine j_iconst h (v := 0) dL_law_596 (by decide) ?_
  refine j_bipush h (v := 9) dL_law_597 (by decide) ?_
  refine j_iastE h 0 rfl 0 rfl (by decide) (by decide) dL_law_599 (u' := [(ra, .inl (cy 0, 2, .inl (upd (fun _ => 0) 0 9)))] ++ CW cy L ((va_up G 0 M, X, A), b)) rfl ?_
  refine j_dup h dL_law_600 rfl ?_
  refine j_iconst h (v := 1) dL_law_601 (by decide) ?_
  refine j_iconst h (v := 0) dL_law_602 (by decide) ?_
  refine j_iastE h 0 rfl 1 rfl (by decide) (by decide) dL_law_603 (u' := [(ra, .inl (cy 0, 2, .inl (upd (upd (fun _ => 0) 0 9) 1 0)))] ++ CW cy L ((va_up G 0 M, X, A), b)) rfl ?_
  refine j_bS h (n := 2) (c_L_are l D cy hO (a := ra) (m := 1) (f := (upd (upd (fun _ => 0) 0 9) 1 0)) (by decide) (fun k hk => match k, hk with | 0, _ => ⟨hq.1, hq.2.1⟩) hq.2.2) (wr := []) (List.nil_append _).symm (xg_S (xr_30 0 rfl) (xr_30 1 rfl) (xr_30 2 rfl) (xr_30 3 rfl)) rfl rfl (by decide +kernel) ⟨Nat.le_of_ble_eq_true rfl, Nat.le_of_ble_eq_true rfl⟩ rfl rfl (Nat.le_of_ble_eq_true rfl) dL_law_604 ⟨by show qc + 1 ≤ 659866; omega, by show qs + 2 ≤ 7122651; omega⟩ (fun rr v hv => ?_)
  obtain ⟨rfl, rfl⟩ := hv
  rw [List.nil_append]
  refine j_drop h (a := [(ra, .inl (cy 0, 2, .inl (upd (upd (fun _ => 0) 0 9) 1 0)))]) ?_
  clear hq
  refine j_if_eq h (tgt := 748) dL_law_607 (by decide) (fun c => absurd c (by decide)) (fun _ => ?_)
  refine j_aload_n h dL_law_610 rfl 1 rfl ?_
  refine j_iconst h (v := 0) dL_law_611 (by decide) ?_
  refine j_iconst h (v := 0) dL_law_612 (by decide) ?_
  refine j_iconst h (v := 1) dL_law_613 (by decide) ?_
  refine j_iconst h (v := 1) dL_law_614 (by decide) ?_
  refine j_iconst h (v := 1) dL_law_615 (by decide) ?_
  refine g_would (wr := []) h rfl hO ⟨Nat.le_of_ble_eq_true rfl, Nat.le_of_ble_eq_true rfl⟩ (Nat.le_of_ble_eq_true rfl) ⟨by show qc + 1 ≤ 659866; omega, by show qs + 2 ≤ 7122651; omega⟩ dL_law_616 ?_
  rw [sq_would hs, show f_X7_would (sN 41) x0 a0 0 0 1 1 1 = 100 by decide +kernel]
  refine j_bipush h (v := 100) dL_law_619 (by decide) ?_
  refine j_icmp_ne h (tgt := 748) dL_law_621 (by decide) (fun c => absurd rfl c) (fun _ => ?_)
  refine j_aload_n h dL_law_624 rfl 1 rfl ?_
  refine j_iconst h (v := 1) dL_law_625 (by decide) ?_
  refine j_iconst h (v := 0) dL_law_626 (by decide) ?_
  refine j_iconst h (v := 4) dL_law_627 (by decide) ?_
  refine j_bipush h (v := 20) dL_law_628 (by decide) ?_
  refine j_iconst h (v := 1) dL_law_630 (by decide) ?_
  refine g_would (wr := []) h rfl hO ⟨Nat.le_of_ble_eq_true rfl, Nat.le_of_ble_eq_true rfl⟩ (Nat.le_of_ble_eq_true rfl) ⟨by show qc + 1 ≤ 659866; omega, by show qs + 2 ≤ 7122651; omega⟩ dL_law_631 ?_
  rw [sq_would hs, show f_X7_would (sN 41) x0 a0 1 0 4 20 1 = 425 by decide +kernel]
  refine j_sipush h (v := 425) dL_law_634 (by decide) ?_
  refine j_icmp_ne h (tgt := 748) dL_law_637 (by decide) (fun c => absurd rfl c) (fun _ => ?_)
  refine j_widen h (k := qc + 1) (n := qs + 2) (by show qc + 1 ≤ _; omega) (by show qs + 2 ≤ _; omega) ?_
  exact K _ _ _ _ _ _ hO hs
theorem e_dry (h : OKJ l D cy wI J cL_law 11 yL_law rm_L_law) {qc qs : Nat} (hqc : qc + 41 ≤ 659866) (hqs : qs + 8884 ≤ 7122651) (K : ∀ (G : Nat → gM) (M : gM) (X : Nat → Int32) (A : Nat → Nat → Int32) (b : cB) (hh : Nat → gM), OBx G M X A b hh 8 sv (fun j => 32 + j) 0 → SAME M (sN 45) → J ([] ++ CW cy L ((va_up G 0 M, X, A), b)) (qc + 41, qs + 8884) [(2, .int (nI 10)), (1, .ref (L 11 0)), (0, .ref D.2.2.2.1)] 750 []) : ∀ (G : Nat → gM) (M : gM) (X : Nat → Int32) (A : Nat → Nat → Int32) (b : cB) (hh : Nat → gM), OBx G M X A b hh 8 sv (fun j => 32 + j) 0 → SAME M (sN 41) → J ([] ++ CW cy L ((va_up G 0 M, X, A), b)) (qc, qs) [(2, .int (nI 10)), (1, .ref (L 11 0)), (0, .ref D.2.2.2.1)] 640 [] := by
  intro G M X A b hh hO hs
  refine j_aload_n h dL_law_640 rfl 1 rfl ?_
  refine j_iconst h (v := 0) dL_law_641 (by decide) ?_
  refine o_rain (wr := []) h rfl hO ⟨Nat.le_of_ble_eq_true rfl, Nat.le_of_ble_eq_true rfl⟩ (Nat.le_of_ble_eq_true rfl) ⟨by show qc ≤ 659866; omega, by show qs ≤ 7122651; omega⟩ dL_law_642 (fun z hz hS => ?_)
  have hst := st_rain hO hs _ ck_rain0
  rw [← hz] at hst
  obtain ⟨hz1, hs1, -⟩ := hst
  rcases hS.2 with ⟨cc, -⟩ | ⟨-, hO1, -⟩
  · rw [hz1] at cc; exact absurd (CODE_lt cc) (by decide)
  rw [hz1]
  clear hz1 hz hS hs hO
  generalize z.2.1 = G at hO1 hs1 ⊢; generalize z.2.2.1 = M at hO1 hs1 ⊢; generalize z.2.2.2.1 = X at hO1 hs1 ⊢; generalize z.2.2.2.2 = A at hO1 hs1 ⊢
  generalize pu _ _ = hh at hO1
  have hO := hO1; have hs := hs1; clear hO1 hs1
  refine j_bipush h (v := 9) dL_law_645 (by decide) ?_
  refine j_icmp_ne h (tgt := 748) dL_law_647 (by decide) (fun c => absurd rfl c) (fun _ => ?_)
  refine j_aload_n h dL_law_650 rfl 1 rfl ?_
  refine j_bipush h (v := 9) dL_law_651 (by decide) ?_
  refine o_sun (wr := []) h rfl hO ⟨Nat.le_of_ble_eq_true rfl, Nat.le_of_ble_eq_true rfl⟩ (Nat.le_of_ble_eq_true rfl) ⟨by show qc ≤ 659866; omega, by show qs ≤ 7122651; omega⟩ dL_law_653 (fun z hz hS => ?_)
  have hst := st_sun hO hs _ ck_sun9
  rw [← hz] at hst
  obtain ⟨hz1, hs1, -⟩ := hst
  rcases hS.2 with ⟨cc, -⟩ | ⟨-, hO1, -⟩
  · rw [hz1] at cc; exact absurd (CODE_lt cc) (by decide)
  rw [hz1]
  clear hz1 hz hS hs hO
  generalize z.2.1 = G at hO1 hs1 ⊢; generalize z.2.2.1 = M at hO1 hs1 ⊢; generalize z.2.2.2.1 = X at hO1 hs1 ⊢; generalize z.2.2.2.2 = A at hO1 hs1 ⊢
  generalize pu _ _ = hh at hO1
  have hO := hO1; have hs := hs1; clear hO1 hs1
  refine j_if_ne h (tgt := 748) dL_law_656 (by decide) (fun c => absurd rfl c) (fun _ => ?_)
  refine j_aload_n h dL_law_659 rfl 1 rfl ?_
  refine j_iconst h (v := 0) dL_law_660 (by decide) ?_
  refine g_dryIn (wr := []) h rfl hO ⟨Nat.le_of_ble_eq_true rfl, Nat.le_of_ble_eq_true rfl⟩ (Nat.le_of_ble_eq_true rfl) ⟨by show qc ≤ 659866; omega, by show qs ≤ 7122651; omega⟩ dL_law_661 ?_
  rw [sq_dryIn hs, show f_X7_dryIn (sN 43) x0 a0 0 = 2 by decide +kernel]
  refine j_iconst h (v := 2) dL_law_664 (by decide) ?_
  refine j_icmp_ne h (tgt := 748) dL_law_665 (by decide) (fun c => absurd rfl c) (fun _ => ?_)
  refine j_aload_n h dL_law_668 rfl 1 rfl ?_
  refine j_iconst h (v := 1) dL_law_669 (by decide) ?_
  refine j_bipush h (v := 20) dL_law_670 (by decide) ?_
  refine o_begin (wr := []) h rfl hO ⟨Nat.le_of_ble_eq_true rfl, Nat.le_of_ble_eq_true rfl⟩ (Nat.le_of_ble_eq_true rfl) ⟨by show qc ≤ 659866; omega, by show qs ≤ 7122651; omega⟩ dL_law_672 (fun z hz hS => ?_)
  have hst := st_begin hO hs 1 20 ck_r_begin2
  rw [← hz] at hst
  obtain ⟨hz1, -, hre⟩ := hst
  rcases hS.2.symm with ⟨cc, -⟩ | ⟨-, hzM, hO1, -⟩
  · rw [hz1] at cc; exact absurd (by decide) (vin0 cc)
  have hr1 := fun a b => (hre a b).trans (rr_begin2 a b)
  rw [hz1, hzM]
  have hq := re_2 (N := sN 43) (X := X) (A := A) (p := 20) (q := 2)
  simp only [← hr1] at hq
  clear hz1 hz hS hre hr1 hzM hO
  generalize z.2.1 = G at hO1 ⊢; generalize z.2.2.2.1 = X at hO1 hq ⊢; generalize z.2.2.2.2 = A at hO1 hq ⊢
  have hO := hO1; clear hO1
  refine j_bipush h (v := (-3)) dL_law_675 (by decide) ?_
  refine j_icmp_ne h (tgt := 748) dL_law_677 (by decide) (fun c => absurd rfl c) (fun _ => ?_)
  refine j_aload_n h dL_law_680 rfl 1 rfl ?_
  refine j_iconst h (v := 4) dL_law_681 (by decide) ?_
  refine j_newi h (xr_1 3 rfl) (N := 4) (by decide) (by decide) (by decide) (by show qc + 1 ≤ 659866; omega) (by show qs + 4 ≤ 7122651; omega) dL_law_682 (fun ra => ?_)
  refine j_pm h (w := [(ra, .inl (cy 0, 4, .inl (fun _ => 0)))] ++ CW cy L ((va_up G 0 M, X, A), b)) List.perm_append_comm ?_
  refine j_dup h dL_law_684 rfl ?_
  refine j_iconst h (v := 0) dL_law_685 (by decide) ?_
  refine j_iconst h (v := 3) dL_law_686 (by decide) ?_
  refine j_iastE h 0 rfl 0 rfl (by decide) (by decide) dL_law_687 (u' := [(ra, .inl (cy 0, 4, .inl (upd (fun _ => 0) 0 3)))] ++ CW cy L ((va_up G 0 M, X, A), b)) rfl ?_
  refine j_dup h dL_law_688 rfl ?_
  refine j_iconst h (v := 1) dL_law_689 (by decide) ?_
  refine j_bipush h (v := 20) dL_law_690 (by decide) ?_
  refine j_iastE h 0 rfl 1 rfl (by decide) (by decide) dL_law_692 (u' := [(ra, .inl (cy 0, 4, .inl (upd (upd (fun _ => 0) 0 3) 1 20)))] ++ CW cy L ((va_up G 0 M, X, A), b)) rfl ?_
  refine j_dup h dL_law_693 rfl ?_
  refine j_iconst h (v := 2) dL_law_694 (by decide) ?_
  refine j_bipush h (v := 13) dL_law_695 (by decide) ?_
  refine j_iastE h 0 rfl 2 rfl (by decide) (by decide) dL_law_697 (u' := [(ra, .inl (cy 0, 4, .inl (upd (upd (upd (fun _ => 0) 0 3) 1 20) 2 13)))] ++ CW cy L ((va_up G 0 M, X, A), b)) rfl ?_
  refine j_dup h dL_law_698 rfl ?_
  refine j_iconst h (v := 3) dL_law_699 (by decide) ?_
  refine j_iconst h (v := 2) dL_law_700 (by decide) ?_
  refine j_iastE h 0 rfl 3 rfl (by decide) (by decide) dL_law_701 (u' := [(ra, .inl (cy 0, 4, .inl (upd (upd (upd (upd (fun _ => 0) 0 3) 1 20) 2 13) 3 2)))] ++ CW cy L ((va_up G 0 M, X, A), b)) rfl ?_
  refine j_bS h (n := 2) (c_L_are l D cy hO (a := ra) (m := 2) (f := (upd (upd (upd (upd (fun _ => 0) 0 3) 1 20) 2 13) 3 2)) (by decide) (fun k hk => match k, hk with | 0, _ => ⟨hq.1, hq.2.1⟩ | 1, _ => ⟨hq.2.2.1, hq.2.2.2.1⟩) hq.2.2.2.2) (wr := []) (List.nil_append _).symm (xg_S (xr_30 0 rfl) (xr_30 1 rfl) (xr_30 2 rfl) (xr_30 3 rfl)) rfl rfl (by decide +kernel) ⟨Nat.le_of_ble_eq_true rfl, Nat.le_of_ble_eq_true rfl⟩ rfl rfl (Nat.le_of_ble_eq_true rfl) dL_law_702 ⟨by show qc + 1 ≤ 659866; omega, by show qs + 4 ≤ 7122651; omega⟩ (fun rr v hv => ?_)
  obtain ⟨rfl, rfl⟩ := hv
  rw [List.nil_append]
  refine j_drop h (a := [(ra, .inl (cy 0, 4, .inl (upd (upd (upd (upd (fun _ => 0) 0 3) 1 20) 2 13) 3 2)))]) ?_
  clear hq
  refine j_if_eq h (tgt := 748) dL_law_705 (by decide) (fun c => absurd c (by decide)) (fun _ => ?_)
  refine j_aload_n h dL_law_708 rfl 1 rfl ?_
  refine j_iconst h (v := 2) dL_law_709 (by decide) ?_
  refine o_hour (wr := []) h rfl hO ⟨Nat.le_of_ble_eq_true rfl, Nat.le_of_ble_eq_true rfl⟩ (Nat.le_of_ble_eq_true rfl) ⟨by show qc + 1 ≤ 659866; omega, by show qs + 4 ≤ 7122651; omega⟩ dL_law_710 (fun z hz hS => ?_)
  have hst := st_hour hO hs _ ck_hour2
  rw [← hz] at hst
  obtain ⟨hz1, hs1, -⟩ := hst
  rcases hS.2 with ⟨cc, -⟩ | ⟨-, hO1, -⟩
  · rw [hz1] at cc; exact absurd (CODE_lt cc) (by decide)
  rw [hz1]
  clear hz1 hz hS hs hO
  generalize z.2.1 = G at hO1 hs1 ⊢; generalize z.2.2.1 = M at hO1 hs1 ⊢; generalize z.2.2.2.1 = X at hO1 hs1 ⊢; generalize z.2.2.2.2 = A at hO1 hs1 ⊢
  generalize pu _ _ = hh at hO1
  have hO := hO1; have hs := hs1; clear hO1 hs1
  refine j_bipush h (v := 28) dL_law_713 (by decide) ?_
  refine j_icmp_ne h (tgt := 748) dL_law_715 (by decide) (fun c => absurd rfl c) (fun _ => ?_)
  refine j_aload_n h dL_law_718 rfl 1 rfl ?_
  refine j_iconst h (v := 1) dL_law_719 (by decide) ?_
  refine j_iconst h (v := 2) dL_law_720 (by decide) ?_
  refine g_rinkOf (wr := []) h rfl hO ⟨Nat.le_of_ble_eq_true rfl, Nat.le_of_ble_eq_true rfl⟩ (Nat.le_of_ble_eq_true rfl) ⟨by show qc + 1 ≤ 659866; omega, by show qs + 4 ≤ 7122651; omega⟩ dL_law_721 ?_
  rw [sq_rinkOf hs, show f_X7_rinkOf (sN 44) x0 a0 1 2 = 2 by decide +kernel]
  refine j_iconst h (v := 2) dL_law_724 (by decide) ?_
  refine j_icmp_ne h (tgt := 748) dL_law_725 (by decide) (fun c => absurd rfl c) (fun _ => ?_)
  refine j_aload_n h dL_law_728 rfl 1 rfl ?_
  refine j_iconst h (v := 1) dL_law_729 (by decide) ?_
  refine j_bipush h (v := 20) dL_law_730 (by decide) ?_
  refine o_begin (wr := []) h rfl hO ⟨Nat.le_of_ble_eq_true rfl, Nat.le_of_ble_eq_true rfl⟩ (Nat.le_of_ble_eq_true rfl) ⟨by show qc + 1 ≤ 659866; omega, by show qs + 4 ≤ 7122651; omega⟩ dL_law_732 (fun z hz hS => ?_)
  have hst := st_begin hO hs _ _ ck_begin
  rw [← hz] at hst
  obtain ⟨hz1, hs1, -⟩ := hst
  rcases hS.2 with ⟨cc, -⟩ | ⟨-, hO1, -⟩
  · rw [hz1] at cc; exact absurd (CODE_lt cc) (by decide)
  rw [hz1]
  clear hz1 hz hS hs hO
  generalize z.2.1 = G at hO1 hs1 ⊢; generalize z.2.2.1 = M at hO1 hs1 ⊢; generalize z.2.2.2.1 = X at hO1 hs1 ⊢; generalize z.2.2.2.2 = A at hO1 hs1 ⊢
  generalize pu _ _ = hh at hO1
  have hO := hO1; have hs := hs1; clear hO1 hs1
  refine j_if_ne h (tgt := 748) dL_law_735 (by decide) (fun c => absurd rfl c) (fun _ => ?_)
  refine j_aload_n h dL_law_738 rfl 1 rfl ?_
  refine j_iconst h (v := 1) dL_law_739 (by decide) ?_
  refine j_ldcS h (i := 16) (tx := "3-5: wet 2 j20") rfl dL_law_740 ?_
  refine j_bS h (n := 3) (c_L_isLine l D cy hO (by obtain ⟨f, g1, g2⟩ := hs; exact fun c => absurd ((isR_same g1 g2).symm.trans c) (by decide +kernel)) (by rw [sq_describe hs]; decide +kernel)) (wr := []) rfl (xg_S (xr_33 21 rfl) (xr_33 22 rfl) (xr_30 2 rfl) (xr_33 23 rfl)) rfl rfl (by decide +kernel) ⟨Nat.le_of_ble_eq_true rfl, Nat.le_of_ble_eq_true rfl⟩ rfl rfl (Nat.le_of_ble_eq_true rfl) dL_law_742 ⟨by show qc + 1 + 40 ≤ 659866; omega, by show qs + 4 + 8880 ≤ 7122651; omega⟩ (fun rr v hv => ?_)
  obtain ⟨X1, A1, b1, rfl, hO1, -, -, rfl⟩ := hv
  clear hO; have hO := hO1; clear hO1
  refine j_if_ne h (tgt := 750) dL_law_745 (by decide) (fun _ => ?_) (fun c => absurd c (by decide))
  refine j_widen h (k := qc + 41) (n := qs + 8884) (by show qc + 1 + 40 ≤ _; omega) (by show qs + 4 + 8880 ≤ _; omega) ?_
  exact K _ _ _ _ _ _ hO hs
end LE

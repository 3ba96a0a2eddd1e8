/-! ===== are, reads, isLine ===== -/
set_option maxRecDepth 100000
abbrev rm_L_are : Room := { frames := 2, cells := 0, slots := 0, locals := 60 }
theorem half {m : Nat} (h : m ≤ 100) : nI (2 * m) / 2 = nI m := by
  have h2 : ∀ m : Nat, m < 101 → nI (2 * m) / 2 = nI m := by decide +kernel
  exact h2 m (by omega)
theorem dbl {k : Nat} : (2 : Int32) * nI k = nI (2 * k) := by
  rw [show (2 : Int32) = nI 2 from rfl]
  exact (Int32.ofNat_mul 2 k).symm
theorem dbl1 {k : Nat} : (2 : Int32) * nI k + 1 = nI (2 * k + 1) := by rw [dbl]; exact nI_1 _
section CB
variable {l : Launch} {D : gD} {cy : Nat → ClassId} {J : JT va_W} {q : Nat × Nat} {L : Nat → Nat → Nat} {wr : va_W} {G : Nat → gM} {M : gM} {X : Nat → Int32} {A : Nat → Nat → Int32} {b : cB} {hh : Nat → gM} {n0 : Nat} {sv : Option gM} {t : Nat → Nat} {k0 : Nat}
theorem ar_l (h : OKJ l D cy wI J cL_are 3 yL_are rm_L_are) (hO : OBx G M X A b hh n0 sv t k0) {a m : Nat} {f : Nat → Int32} (hm : m ≤ 50) (h1 : ∀ k, k < m → f_X7_reason M X A (nI k) 0 = f (2 * k) ∧ f_X7_reason M X A (nI k) 1 = f (2 * k + 1)) : ∀ d k, d + k = m → J ([(a, .inl (cy 0, 2 * m, .inl f))] ++ CW cy L ((va_up G 0 M, X, A), b)) (0, 0) [(2, .int (nI m)), (0, .ref (L 11 0)), (1, .ref a)] 48 [] → J ([(a, .inl (cy 0, 2 * m, .inl f))] ++ CW cy L ((va_up G 0 M, X, A), b)) (0, 0) [(2, .int (nI k)), (0, .ref (L 11 0)), (1, .ref a)] 2 [] := by
  have hq : (0, 0).1 ≤ 0 ∧ (0, 0).2 ≤ 0 := ⟨Nat.le_refl _, Nat.le_refl _⟩
  intro d
  induction d with
  | zero =>
    intro k hk K
    obtain rfl : k = m := by omega
    refine j_iload_n h dL_are_2 rfl 0 rfl ?_
    refine j_aload_n h dL_are_3 rfl 2 rfl ?_
    refine j_alen h 0 0 rfl rfl (v := nI (2 * k)) rfl dL_are_4 ?_
    refine j_iconst h (v := 2) dL_are_5 (by decide) ?_
    refine j_idiv h dL_are_6 (by decide) ?_
    rw [half (by omega)]
    refine j_icmp_ge h (tgt := 48) dL_are_7 (by decide) (fun _ => ?_) (fun c => absurd (Int32.le_refl _) c)
    exact K
  | succ d ih =>
    intro k hk K
    obtain ⟨e1, e2⟩ := h1 k (by omega)
    refine j_iload_n h dL_are_2 rfl 0 rfl ?_
    refine j_aload_n h dL_are_3 rfl 2 rfl ?_
    refine j_alen h 0 0 rfl rfl (v := nI (2 * m)) rfl dL_are_4 ?_
    refine j_iconst h (v := 2) dL_are_5 (by decide) ?_
    refine j_idiv h dL_are_6 (by decide) ?_
    rw [half (by omega)]
    refine j_icmp_ge h (tgt := 48) dL_are_7 (by decide) (fun c => absurd c (xnle (by omega) (by omega))) (fun _ => ?_)
    refine j_aload_n h dL_are_10 rfl 1 rfl ?_
    refine j_iload_n h dL_are_11 rfl 0 rfl ?_
    refine j_iconst h (v := 0) dL_are_12 (by decide) ?_
    refine g_reason h rfl hO ⟨Nat.le_of_ble_eq_true rfl, Nat.le_of_ble_eq_true rfl⟩ (Nat.le_of_ble_eq_true rfl) hq dL_are_13 ?_
    refine j_aload_n h dL_are_16 rfl 2 rfl ?_
    refine j_iconst h (v := 2) dL_are_17 (by decide) ?_
    refine j_iload_n h dL_are_18 rfl 0 rfl ?_
    refine j_imul h dL_are_19 ?_
    refine j_ialdE h 0 rfl (2 * k) dbl (by omega) (by omega) dL_are_20 ?_
    refine j_icmp_ne h (tgt := 40) dL_are_21 (by decide) (fun c => absurd e1 c) (fun _ => ?_)
    refine j_aload_n h dL_are_24 rfl 1 rfl ?_
    refine j_iload_n h dL_are_25 rfl 0 rfl ?_
    refine j_iconst h (v := 1) dL_are_26 (by decide) ?_
    refine g_reason h rfl hO ⟨Nat.le_of_ble_eq_true rfl, Nat.le_of_ble_eq_true rfl⟩ (Nat.le_of_ble_eq_true rfl) hq dL_are_27 ?_
    refine j_aload_n h dL_are_30 rfl 2 rfl ?_
    refine j_iconst h (v := 2) dL_are_31 (by decide) ?_
    refine j_iload_n h dL_are_32 rfl 0 rfl ?_
    refine j_imul h dL_are_33 ?_
    refine j_iconst h (v := 1) dL_are_34 (by decide) ?_
    refine j_iadd h dL_are_35 ?_
    refine j_ialdE h 0 rfl (2 * k + 1) dbl1 (by omega) (by omega) dL_are_36 ?_
    refine j_icmp_eq h (tgt := 42) dL_are_37 (by decide) (fun _ => ?_) (fun c => absurd e2 c)
    refine j_iinc h (v := nI (k + 1)) (lv' := [(2, _), (0, _), (1, _)]) dL_are_42 (k := 0) rfl (nI_1 k) (by decide) rfl ?_
    refine j_goto h (tgt := 2) dL_are_45 (by decide) ?_
    exact ih (k + 1) (by omega) K
end CB
theorem rs_neg {M : gM} {X : Nat → Int32} {A : Nat → Nat → Int32} : f_X7_reason M X A (-1) 1 = -2 := by
  unfold f_X7_reason
  rw [if_neg (by decide)]
theorem c_L_are (l : Launch) (D : gD) (cy : Nat → ClassId) {L : Nat → Nat → Nat} {G : Nat → gM} {M : gM} {X : Nat → Int32} {A : Nat → Nat → Int32} {b : cB} {hh : Nat → gM} {n0 : Nat} {sv : Option gM} {t : Nat → Nat} {k0 : Nat} (hO : OBx G M X A b hh n0 sv t k0) {a m : Nat} {f : Nat → Int32} (hm : m ≤ 50) (h1 : ∀ k, k < m → f_X7_reason M X A (nI k) 0 = f (2 * k) ∧ f_X7_reason M X A (nI k) 1 = f (2 * k + 1)) (h2 : f_X7_reason M X A (nI m) 0 = -4) : CtI l D cy (fun u : cS × cB => [(a, .inl (cy 0, 2 * m, .inl f))] ++ CW cy L u) yL_are cL_are 3 (some .boolean) rm_L_are [.ref (L 11 0), .ref a] ((va_up G 0 M, X, A), b) (fun r u => r = 1 ∧ u = ((va_up G 0 M, X, A), b)) 0 0 := by
  refine m_entWZ cL_are 3 (by decide) (Nat.le_of_ble_eq_true rfl) (fun J h hR => ?_)
  show J ([(a, .inl (cy 0, 2 * m, .inl f))] ++ CW cy L ((va_up G 0 M, X, A), b)) (0, 0) [(0, .ref (L 11 0)), (1, .ref a)] 0 []
  have hq : (0, 0).1 ≤ 0 ∧ (0, 0).2 ≤ 0 := ⟨Nat.le_refl _, Nat.le_refl _⟩
  refine j_iconst h (v := 0) dL_are_0 (by decide) ?_
  refine j_istore_n h (lv' := [(2, _), (0, _), (1, _)]) dL_are_1 rfl (by decide) rfl ?_
  refine ar_l h hO hm h1 m 0 (Nat.add_zero _) ?_
  refine j_aload_n h dL_are_48 rfl 1 rfl ?_
  refine j_aload_n h dL_are_49 rfl 2 rfl ?_
  refine j_alen h 0 0 rfl rfl (v := nI (2 * m)) rfl dL_are_50 ?_
  refine j_iconst h (v := 2) dL_are_51 (by decide) ?_
  refine j_idiv h dL_are_52 (by decide) ?_
  rw [half (by omega)]
  refine j_iconst h (v := 0) dL_are_53 (by decide) ?_
  refine g_reason h rfl hO ⟨Nat.le_of_ble_eq_true rfl, Nat.le_of_ble_eq_true rfl⟩ (Nat.le_of_ble_eq_true rfl) hq dL_are_54 ?_
  refine j_bipush h (v := (-4)) dL_are_57 (by decide) ?_
  refine j_icmp_ne h (tgt := 77) dL_are_59 (by decide) (fun c => absurd h2 c) (fun _ => ?_)
  refine j_aload_n h dL_are_62 rfl 1 rfl ?_
  refine j_iconst h (v := (-1)) dL_are_63 (by decide) ?_
  refine j_iconst h (v := 1) dL_are_64 (by decide) ?_
  refine g_reason h rfl hO ⟨Nat.le_of_ble_eq_true rfl, Nat.le_of_ble_eq_true rfl⟩ (Nat.le_of_ble_eq_true rfl) hq dL_are_65 ?_
  refine j_bipush h (v := (-2)) dL_are_68 (by decide) ?_
  refine j_icmp_ne h (tgt := 77) dL_are_70 (by decide) (fun c => absurd rs_neg c) (fun _ => ?_)
  refine j_iconst h (v := 1) dL_are_73 (by decide) ?_
  refine j_goto h (tgt := 78) dL_are_74 (by decide) ?_
  exact hR _ _ _ _ _ dL_are_78 (Or.inr rfl) ⟨rfl, rfl⟩ (fun H hP => hP) (fun A hD => hD)
abbrev rm_L_reads : Room := { frames := 11, cells := 20, slots := 4440, locals := 380 }
section CRk
variable {l : Launch} {D : gD} {cy : Nat → ClassId} {J : JT va_W} {q : Nat × Nat} {L : Nat → Nat → Nat} {wr : va_W} {G : Nat → gM} {M : gM} {X : Nat → Int32} {A : Nat → Nat → Int32} {b : cB} {hh : Nat → gM} {n0 : Nat} {sv : Option gM} {t : Nat → Nat} {k0 : Nat}
theorem rl_k (h : OKJ l D cy wI J cL_reads 3 yL_reads rm_L_reads) {i : Nat} (hi : i < 17) {tt : Nat → Nat} (hL : lenS.getD i 0 ≤ 20) (hT : ∀ j, j < lenS.getD i 0 → chS i j = nI (tt j) ∧ 32 ≤ tt j ∧ tt j ≤ 126) {X0 : Nat → Int32} {A0 : Nat → Nat → Int32} (K : ∀ t X A b, (∀ j, j < lenS.getD i 0 → t j = tt j) → OBx G M X A b hh n0 sv t (lenS.getD i 0) → (∀ i, i ≠ 7 → X i = X0 i) → (∀ i, i ≠ 4 → A i = A0 i) → J ([] ++ CW cy L ((va_up G 0 M, X, A), b)) (lenS.getD i 0, 222 * (lenS.getD i 0)) [(2, .int (nI (lenS.getD i 0))), (0, .ref (L 11 0)), (1, .ref (D.2.1 i))] 35 []) : ∀ d k t X A b, d + k = lenS.getD i 0 → (∀ j, j < k → t j = tt j) → OBx G M X A b hh n0 sv t k → (∀ i, i ≠ 7 → X i = X0 i) → (∀ i, i ≠ 4 → A i = A0 i) → J ([] ++ CW cy L ((va_up G 0 M, X, A), b)) (k, 222 * k) [(2, .int (nI k)), (0, .ref (L 11 0)), (1, .ref (D.2.1 i))] 2 [] := by
  intro d
  induction d with
  | zero =>
    intro k t X A b hk ht hO hX hA
    obtain rfl : k = lenS.getD i 0 := by omega
    refine j_iload_n h dL_reads_2 rfl 0 rfl ?_
    refine j_aload_n h dL_reads_3 rfl 2 rfl ?_
    refine ks_len h rfl hi ⟨Nat.le_of_ble_eq_true rfl, Nat.le_of_ble_eq_true rfl⟩ (Nat.le_of_ble_eq_true rfl) ⟨by show lenS.getD i 0 ≤ 20; omega, by show 222 * lenS.getD i 0 ≤ 4440; omega⟩ dL_reads_4 ?_
    refine j_icmp_ge h (tgt := 35) dL_reads_7 (by decide) (fun _ => ?_) (fun c => absurd (Int32.le_refl _) c)
    exact K t X A b ht hO hX hA
  | succ d ih =>
    intro k t X A b hk ht hO hX hA
    obtain ⟨e1, e2, e3⟩ := hT k (by omega)
    refine j_iload_n h dL_reads_2 rfl 0 rfl ?_
    refine j_aload_n h dL_reads_3 rfl 2 rfl ?_
    refine ks_len h rfl hi ⟨Nat.le_of_ble_eq_true rfl, Nat.le_of_ble_eq_true rfl⟩ (Nat.le_of_ble_eq_true rfl) ⟨by show k ≤ 20; omega, by show 222 * k ≤ 4440; omega⟩ dL_reads_4 ?_
    refine j_icmp_ge h (tgt := 35) dL_reads_7 (by decide) (fun c => absurd c (xnle (by omega) (by omega))) (fun _ => ?_)
    refine j_aload_n h dL_reads_10 rfl 1 rfl ?_
    refine j_aload_n h dL_reads_11 rfl 2 rfl ?_
    refine j_iload_n h dL_reads_12 rfl 0 rfl ?_
    refine ks_chr h rfl hi (j := k) (by omega) ⟨Nat.le_of_ble_eq_true rfl, Nat.le_of_ble_eq_true rfl⟩ (Nat.le_of_ble_eq_true rfl) ⟨by show k ≤ 20; omega, by show 222 * k ≤ 4440; omega⟩ dL_reads_13 ?_
    rw [e1]
    refine o_append h rfl hO (ch := tt k) rfl e2 e3 (by omega) ⟨Nat.le_of_ble_eq_true rfl, Nat.le_of_ble_eq_true rfl⟩ (Nat.le_of_ble_eq_true rfl) ⟨by show k + 1 ≤ 20; omega, by show 222 * k + 222 ≤ 4440; omega⟩ dL_reads_16 (fun X1 A1 b1 hO1 hx1 ha1 => ?_)
    refine j_iload_n h dL_reads_19 rfl 0 rfl ?_
    refine j_iconst h (v := 1) dL_reads_20 (by decide) ?_
    refine j_iadd h dL_reads_21 ?_
    rw [show ((nI k) + 1 : Int32) = nI (k + 1) from nI_1 k]
    refine j_icmp_eq h (tgt := 29) dL_reads_22 (by decide) (fun _ => ?_) (fun c => absurd rfl c)
    refine j_iinc h (v := nI (k + 1)) (lv' := [(2, _), (0, _), (1, _)]) dL_reads_29 (k := 0) rfl (nI_1 k) (by decide) rfl ?_
    refine j_goto h (tgt := 2) dL_reads_32 (by decide) ?_
    refine j_widen h (k := k + 1) (n := 222 * (k + 1)) (Nat.le_refl _) (by show 222 * k + 222 ≤ _; omega) ?_
    exact ih (k + 1) _ X1 A1 b1 (by omega) (fun j hj => by
      by_cases e : j = k
      · rw [if_pos e, e]
      · rw [if_neg e]; exact ht j (by omega)) hO1 (fun i u => (hx1 i u).trans (hX i u)) (fun i u => (ha1 i u).trans (hA i u))
end CRk
theorem c_L_readsK (l : Launch) (D : gD) (cy : Nat → ClassId) {L : Nat → Nat → Nat} {G : Nat → gM} {M : gM} {X : Nat → Int32} {A : Nat → Nat → Int32} {b : cB} {hh : Nat → gM} {n0 : Nat} {sv : Option gM} {t : Nat → Nat} (hO : OBx G M X A b hh n0 sv t 0) {i : Nat} (hi : i < 17) {tt : Nat → Nat} (hL : lenS.getD i 0 ≤ 20) (hT : ∀ j, j < lenS.getD i 0 → chS i j = nI (tt j) ∧ 32 ≤ tt j ∧ tt j ≤ 126) : CtI l D cy (CW cy L) yL_reads cL_reads 3 (some .int) rm_L_reads [.ref (L 11 0), .ref (D.2.1 i)] ((va_up G 0 M, X, A), b) (fun r u => ∃ (t1 : Nat → Nat) (X1 : Nat → Int32) (A1 : Nat → Nat → Int32) (b1 : cB) (a1 : Nat) (f1 : Nat → Int32) (z : Int32 × (Nat → gM) × gM × (Nat → Int32) × (Nat → Nat → Int32)), (∀ j, j < lenS.getD i 0 → t1 j = tt j) ∧ OBx G M X1 A1 b1 hh n0 sv t1 (lenS.getD i 0) ∧ (∀ i, i ≠ 7 → X1 i = X i) ∧ (∀ i, i ≠ 4 → A1 i = A i) ∧ z = f_X7_script G M X1 A1 f1 ∧ sb_Fit f1 ∧ GI z.2.2.1 ∧ r = z.1 ∧ u = ((va_up z.2.1 0 z.2.2.1, z.2.2.2.1, z.2.2.2.2), (a1, b1.2.1, b1.2.2))) 20 4440 := by
  refine m_entWI cL_reads 3 (by decide) (Nat.le_of_ble_eq_true rfl) (fun J h hR => ?_)
  show J ([] ++ CW cy L ((va_up G 0 M, X, A), b)) (0, 0) [(0, .ref (L 11 0)), (1, .ref (D.2.1 i))] 0 []
  refine j_iconst h (v := 0) dL_reads_0 (by decide) ?_
  refine j_istore_n h (lv' := [(2, _), (0, _), (1, _)]) dL_reads_1 rfl (by decide) rfl ?_
  refine rl_k h hi hL hT (X0 := X) (A0 := A) (fun t1 X1 A1 b1 ht hO1 hX hA => ?_) (lenS.getD i 0) 0 t X A b (Nat.add_zero _) (fun j hj => absurd hj (Nat.not_lt_zero _)) hO (fun _ _ => rfl) (fun _ _ => rfl)
  refine j_aload_n h dL_reads_35 rfl 1 rfl ?_
  refine o_script h rfl hO1 ⟨Nat.le_of_ble_eq_true rfl, Nat.le_of_ble_eq_true rfl⟩ (Nat.le_of_ble_eq_true rfl) ⟨by show lenS.getD i 0 ≤ 20; omega, by show 222 * (lenS.getD i 0) ≤ 4440; omega⟩ dL_reads_36 (fun a1 f1 z hz hf1 hg => ?_)
  refine j_widen h (k := 20) (n := 4440) (by show lenS.getD i 0 ≤ 20; omega) (by show 222 * (lenS.getD i 0) ≤ 4440; omega) ?_
  exact hR _ ((va_up z.2.1 0 z.2.2.1, z.2.2.2.1, z.2.2.2.2), (a1, b1.2.1, b1.2.2)) _ _ _ dL_reads_39 ⟨t1, X1, A1, b1, a1, f1, z, ht, hO1, hX, hA, hz, hf1, hg, rfl, rfl⟩ (fun H hP => hP) (fun A hD => hD)
section CRw
variable {l : Launch} {D : gD} {cy : Nat → ClassId} {J : JT va_W} {q : Nat × Nat} {L : Nat → Nat → Nat} {wr : va_W} {G : Nat → gM} {M : gM} {X : Nat → Int32} {A : Nat → Nat → Int32} {b : cB} {hh : Nat → gM} {n0 : Nat} {sv : Option gM} {t : Nat → Nat} {k0 : Nat}
theorem rl_w (h : OKJ l D cy wI J cL_reads 3 yL_reads rm_L_reads) {x v n : Nat} {ha hz : Value} {f : Nat → Int32} {tt : Nat → Nat} (hL : n ≤ 20) (hT : ∀ j, j < n → f j &&& 255 = nI (tt j) ∧ 32 ≤ tt j ∧ tt j ≤ 126) {X0 : Nat → Int32} {A0 : Nat → Nat → Int32} (K : ∀ t X A b, (∀ j, j < n → t j = tt j) → OBx G M X A b hh n0 sv t (n) → (∀ i, i ≠ 7 → X i = X0 i) → (∀ i, i ≠ 4 → A i = A0 i) → J ([(x, .inr (9, [.ref v, .int 0, ha, hz])), (v, .inl (cy 5, n, .inl f))] ++ CW cy L ((va_up G 0 M, X, A), b)) (n, 222 * (n)) [(2, .int (nI (n))), (0, .ref (L 11 0)), (1, .ref (x))] 35 []) : ∀ d k t X A b, d + k = n → (∀ j, j < k → t j = tt j) → OBx G M X A b hh n0 sv t k → (∀ i, i ≠ 7 → X i = X0 i) → (∀ i, i ≠ 4 → A i = A0 i) → J ([(x, .inr (9, [.ref v, .int 0, ha, hz])), (v, .inl (cy 5, n, .inl f))] ++ CW cy L ((va_up G 0 M, X, A), b)) (k, 222 * k) [(2, .int (nI k)), (0, .ref (L 11 0)), (1, .ref (x))] 2 [] := by
  intro d
  induction d with
  | zero =>
    intro k t X A b hk ht hO hX hA
    obtain rfl : k = n := by omega
    refine j_iload_n h dL_reads_2 rfl 0 rfl ?_
    refine j_aload_n h dL_reads_3 rfl 2 rfl ?_
    refine kw_len h rfl (p0 := 0) (p1 := 1) rfl rfl (by omega) ⟨Nat.le_of_ble_eq_true rfl, Nat.le_of_ble_eq_true rfl⟩ (Nat.le_of_ble_eq_true rfl) ⟨by show k ≤ 20; omega, by show 222 * k ≤ 4440; omega⟩ dL_reads_4 ?_
    refine j_icmp_ge h (tgt := 35) dL_reads_7 (by decide) (fun _ => ?_) (fun c => absurd (Int32.le_refl _) c)
    exact K t X A b ht hO hX hA
  | succ d ih =>
    intro k t X A b hk ht hO hX hA
    obtain ⟨e1, e2, e3⟩ := hT k (by omega)
    refine j_iload_n h dL_reads_2 rfl 0 rfl ?_
    refine j_aload_n h dL_reads_3 rfl 2 rfl ?_
    refine kw_len h rfl (p0 := 0) (p1 := 1) rfl rfl (by omega) ⟨Nat.le_of_ble_eq_true rfl, Nat.le_of_ble_eq_true rfl⟩ (Nat.le_of_ble_eq_true rfl) ⟨by show k ≤ 20; omega, by show 222 * k ≤ 4440; omega⟩ dL_reads_4 ?_
    refine j_icmp_ge h (tgt := 35) dL_reads_7 (by decide) (fun c => absurd c (xnle (by omega) (by omega))) (fun _ => ?_)
    refine j_aload_n h dL_reads_10 rfl 1 rfl ?_
    refine j_aload_n h dL_reads_11 rfl 2 rfl ?_
    refine j_iload_n h dL_reads_12 rfl 0 rfl ?_
    refine kw_chr h rfl (p0 := 0) (p1 := 1) rfl rfl (by omega) (j := k) (by omega) (by rw [e1]; exact (sb_byte _ (by omega)).2.1) ⟨Nat.le_of_ble_eq_true rfl, Nat.le_of_ble_eq_true rfl⟩ (Nat.le_of_ble_eq_true rfl) ⟨by show k ≤ 20; omega, by show 222 * k ≤ 4440; omega⟩ dL_reads_13 ?_
    rw [e1]
    refine o_append h rfl hO (ch := tt k) rfl e2 e3 (by omega) ⟨Nat.le_of_ble_eq_true rfl, Nat.le_of_ble_eq_true rfl⟩ (Nat.le_of_ble_eq_true rfl) ⟨by show k + 1 ≤ 20; omega, by show 222 * k + 222 ≤ 4440; omega⟩ dL_reads_16 (fun X1 A1 b1 hO1 hx1 ha1 => ?_)
    refine j_iload_n h dL_reads_19 rfl 0 rfl ?_
    refine j_iconst h (v := 1) dL_reads_20 (by decide) ?_
    refine j_iadd h dL_reads_21 ?_
    rw [show ((nI k) + 1 : Int32) = nI (k + 1) from nI_1 k]
    refine j_icmp_eq h (tgt := 29) dL_reads_22 (by decide) (fun _ => ?_) (fun c => absurd rfl c)
    refine j_iinc h (v := nI (k + 1)) (lv' := [(2, _), (0, _), (1, _)]) dL_reads_29 (k := 0) rfl (nI_1 k) (by decide) rfl ?_
    refine j_goto h (tgt := 2) dL_reads_32 (by decide) ?_
    refine j_widen h (k := k + 1) (n := 222 * (k + 1)) (Nat.le_refl _) (by show 222 * k + 222 ≤ _; omega) ?_
    exact ih (k + 1) _ X1 A1 b1 (by omega) (fun j hj => by
      by_cases e : j = k
      · rw [if_pos e, e]
      · rw [if_neg e]; exact ht j (by omega)) hO1 (fun i u => (hx1 i u).trans (hX i u)) (fun i u => (ha1 i u).trans (hA i u))
end CRw
theorem c_L_readsW (l : Launch) (D : gD) (cy : Nat → ClassId) {L : Nat → Nat → Nat} {G : Nat → gM} {M : gM} {X : Nat → Int32} {A : Nat → Nat → Int32} {b : cB} {hh : Nat → gM} {n0 : Nat} {sv : Option gM} {t : Nat → Nat} (hO : OBx G M X A b hh n0 sv t 0) {x v n : Nat} {ha hz : Value} {f : Nat → Int32} {tt : Nat → Nat} (hL : n ≤ 20) (hT : ∀ j, j < n → f j &&& 255 = nI (tt j) ∧ 32 ≤ tt j ∧ tt j ≤ 126) : CtI l D cy (fun u : cS × cB => [(x, .inr (9, [.ref v, .int 0, ha, hz])), (v, .inl (cy 5, n, .inl f))] ++ CW cy L u) yL_reads cL_reads 3 (some .int) rm_L_reads [.ref (L 11 0), .ref (x)] ((va_up G 0 M, X, A), b) (fun r u => ∃ (t1 : Nat → Nat) (X1 : Nat → Int32) (A1 : Nat → Nat → Int32) (b1 : cB) (a1 : Nat) (f1 : Nat → Int32) (z : Int32 × (Nat → gM) × gM × (Nat → Int32) × (Nat → Nat → Int32)), (∀ j, j < n → t1 j = tt j) ∧ OBx G M X1 A1 b1 hh n0 sv t1 (n) ∧ (∀ i, i ≠ 7 → X1 i = X i) ∧ (∀ i, i ≠ 4 → A1 i = A i) ∧ z = f_X7_script G M X1 A1 f1 ∧ sb_Fit f1 ∧ GI z.2.2.1 ∧ r = z.1 ∧ u = ((va_up z.2.1 0 z.2.2.1, z.2.2.2.1, z.2.2.2.2), (a1, b1.2.1, b1.2.2))) 20 4440 := by
  refine m_entWI cL_reads 3 (by decide) (Nat.le_of_ble_eq_true rfl) (fun J h hR => ?_)
  show J ([(x, .inr (9, [.ref v, .int 0, ha, hz])), (v, .inl (cy 5, n, .inl f))] ++ CW cy L ((va_up G 0 M, X, A), b)) (0, 0) [(0, .ref (L 11 0)), (1, .ref (x))] 0 []
  refine j_iconst h (v := 0) dL_reads_0 (by decide) ?_
  refine j_istore_n h (lv' := [(2, _), (0, _), (1, _)]) dL_reads_1 rfl (by decide) rfl ?_
  refine rl_w h hL hT (X0 := X) (A0 := A) (fun t1 X1 A1 b1 ht hO1 hX hA => ?_) (n) 0 t X A b (Nat.add_zero _) (fun j hj => absurd hj (Nat.not_lt_zero _)) hO (fun _ _ => rfl) (fun _ _ => rfl)
  refine j_aload_n h dL_reads_35 rfl 1 rfl ?_
  refine o_script h rfl hO1 ⟨Nat.le_of_ble_eq_true rfl, Nat.le_of_ble_eq_true rfl⟩ (Nat.le_of_ble_eq_true rfl) ⟨by show n ≤ 20; omega, by show 222 * (n) ≤ 4440; omega⟩ dL_reads_36 (fun a1 f1 z hz hf1 hg => ?_)
  refine j_widen h (k := 20) (n := 4440) (by show n ≤ 20; omega) (by show 222 * (n) ≤ 4440; omega) ?_
  exact hR _ ((va_up z.2.1 0 z.2.2.1, z.2.2.2.1, z.2.2.2.2), (a1, b1.2.1, b1.2.2)) _ _ _ dL_reads_39 ⟨t1, X1, A1, b1, a1, f1, z, ht, hO1, hX, hA, hz, hf1, hg, rfl, rfl⟩ (fun H hP => hP) (fun A hD => hD)

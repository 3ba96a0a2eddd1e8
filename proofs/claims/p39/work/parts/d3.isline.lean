/-! ===== isLine ===== -/
set_option maxRecDepth 100000
abbrev rm_L_isLine : Room := { frames := 8, cells := 40, slots := 8880, locals := 224 }
def lineW : List Nat := [51, 45, 53, 58, 32, 119, 101, 116, 32, 50, 32, 106, 50, 48]
theorem lineW_ch : ∀ j : Nat, j < 14 → chS 16 j = nI (lineW.getD j 0) := by decide +kernel
section CI
variable {l : Launch} {D : gD} {cy : Nat → ClassId} {J : JT va_W} {L : Nat → Nat → Nat} {G : Nat → gM} {M : gM} {X : Nat → Int32} {A : Nat → Nat → Int32} {b : cB} {hh : Nat → gM} {n0 : Nat} {sv : Option gM} {t : Nat → Nat} {k0 : Nat}
theorem il_l (h : OKJ l D cy wI J cL_isLine 4 yL_isLine rm_L_isLine) (hO : OBx G M X A b hh n0 sv t k0) {nl : Nat} (e8 : X 8 = nI nl) (hln : TX nl b.2.2.2 (A 5)) (hw : ∀ i, i < 200 → f_X7_written X A (nI i) = if i < lineW.length then nI (lineW.getD i 0) else -1) (K : J ([] ++ CW cy L ((va_up G 0 M, X, A), b)) (40, 8880) [(3, .int (nI 14)), (0, .ref (L 11 0)), (1, .int 1), (2, .ref (D.2.1 16))] 45 []) : ∀ d k, d + k = 14 → J ([] ++ CW cy L ((va_up G 0 M, X, A), b)) (40, 8880) [(3, .int (nI k)), (0, .ref (L 11 0)), (1, .int 1), (2, .ref (D.2.1 16))] 16 [] := by
  intro d
  induction d with
  | zero =>
    intro k hk
    obtain rfl : k = 14 := by omega
    refine j_iload_n h dL_isLine_16 rfl 0 rfl ?_
    refine j_aload_n h dL_isLine_17 rfl 3 rfl ?_
    refine ks_len h rfl (by decide : 16 < 17) ⟨Nat.le_of_ble_eq_true rfl, Nat.le_of_ble_eq_true rfl⟩ (Nat.le_of_ble_eq_true rfl) ⟨Nat.le_refl _, Nat.le_refl _⟩ dL_isLine_18 ?_
    rw [show lenS.getD 16 0 = 14 from rfl]
    refine j_icmp_ge h (tgt := 45) dL_isLine_21 (by decide) (fun _ => ?_) (fun c => absurd (Int32.le_refl _) c)
    exact K
  | succ d ih =>
    intro k hk
    refine j_iload_n h dL_isLine_16 rfl 0 rfl ?_
    refine j_aload_n h dL_isLine_17 rfl 3 rfl ?_
    refine ks_len h rfl (by decide : 16 < 17) ⟨Nat.le_of_ble_eq_true rfl, Nat.le_of_ble_eq_true rfl⟩ (Nat.le_of_ble_eq_true rfl) ⟨Nat.le_refl _, Nat.le_refl _⟩ dL_isLine_18 ?_
    rw [show lenS.getD 16 0 = 14 from rfl]
    refine j_icmp_ge h (tgt := 45) dL_isLine_21 (by decide) (fun c => absurd c (xnle (by omega) (by omega))) (fun _ => ?_)
    refine j_aload_n h dL_isLine_24 rfl 1 rfl ?_
    refine j_iload_n h dL_isLine_25 rfl 0 rfl ?_
    refine g_written h rfl hO ⟨Nat.le_of_ble_eq_true rfl, Nat.le_of_ble_eq_true rfl⟩ (Nat.le_of_ble_eq_true rfl) ⟨Nat.le_refl _, Nat.le_refl _⟩ e8 hln dL_isLine_26 ?_
    rw [show f_X7_written X A (nI (k)) = nI (lineW.getD k 0) from (hw k (by omega)).trans (if_pos (show k < 14 by omega))]
    refine j_aload_n h dL_isLine_29 rfl 3 rfl ?_
    refine j_iload_n h dL_isLine_30 rfl 0 rfl ?_
    refine ks_chr h rfl (by decide : 16 < 17) (j := k) (show k < 14 by omega) ⟨Nat.le_of_ble_eq_true rfl, Nat.le_of_ble_eq_true rfl⟩ (Nat.le_of_ble_eq_true rfl) ⟨Nat.le_refl _, Nat.le_refl _⟩ dL_isLine_31 ?_
    rw [lineW_ch k (by omega)]
    refine j_icmp_eq h (tgt := 39) dL_isLine_34 (by decide) (fun _ => ?_) (fun c => absurd rfl c)
    refine j_iinc h (v := nI (k + 1)) (lv' := [(3, _), (0, _), (1, _), (2, _)]) dL_isLine_39 (k := 0) rfl (nI_1 k) (by decide) rfl ?_
    refine j_goto h (tgt := 16) dL_isLine_42 (by decide) ?_
    exact ih (k + 1) (by omega)
end CI
theorem c_L_isLine (l : Launch) (D : gD) (cy : Nat → ClassId) {L : Nat → Nat → Nat} {G : Nat → gM} {M : gM} {X : Nat → Int32} {A : Nat → Nat → Int32} {b : cB} {hh : Nat → gM} {n0 : Nat} {sv : Option gM} {t : Nat → Nat} {k0 : Nat} (hO : OBx G M X A b hh n0 sv t k0) (hr : ¬ f_X1_isRink M 1 = 0) (hT : (f_X7_describe M 1).2 = lineW) : CtI l D cy (CW cy L) yL_isLine cL_isLine 4 (some .boolean) rm_L_isLine [.ref (L 11 0), .int 1, .ref (D.2.1 16)] ((va_up G 0 M, X, A), b) (fun r u => ∃ (X' : Nat → Int32) (A' : Nat → Nat → Int32) (b' : cB), r = 1 ∧ OBx G M X' A' b' hh n0 sv t k0 ∧ (∀ i, i ≠ 8 → i ≠ 10 → X' i = X i) ∧ (∀ i, i ≠ 5 → A' i = A i) ∧ u = ((va_up G 0 M, X', A'), b')) 40 8880 := by
  refine m_entWZ cL_isLine 4 (by decide) (Nat.le_of_ble_eq_true rfl) (fun J h hR => ?_)
  show J ([] ++ CW cy L ((va_up G 0 M, X, A), b)) (0, 0) [(0, .ref (L 11 0)), (1, .int 1), (2, .ref (D.2.1 16))] 0 []
  obtain ⟨f, hGR⟩ := hO.ok
  have hd := (desc_both hGR 1).2.1 hr
  rw [hT] at hd
  refine j_aload_n h dL_isLine_0 rfl 0 rfl ?_
  refine j_iload_n h dL_isLine_1 rfl 1 rfl ?_
  refine g_describe h rfl hO ⟨Nat.le_of_ble_eq_true rfl, Nat.le_of_ble_eq_true rfl⟩ (Nat.le_of_ble_eq_true rfl) ⟨Nat.le_refl _, Nat.le_refl _⟩ dL_isLine_2 (fun X' A' b' hO' hx ha hl => ?_)
  rw [show (f_X7_describe M 1).1 = nI 14 from hd]
  have hw := fun i (hi : i < 200) => written_at (hT ▸ hl hr) (by decide : lineW.length ≤ 110) hi
  have hO2 := hO'
  obtain ⟨-, -, -, -, -, -, nl, hnl, e8, hln⟩ := hO2
  refine j_aload_n h dL_isLine_5 rfl 2 rfl ?_
  refine ks_len h rfl (by decide : 16 < 17) ⟨Nat.le_of_ble_eq_true rfl, Nat.le_of_ble_eq_true rfl⟩ (Nat.le_of_ble_eq_true rfl) ⟨Nat.le_refl _, Nat.le_refl _⟩ dL_isLine_6 ?_
  rw [show lenS.getD 16 0 = 14 from rfl]
  refine j_icmp_eq h (tgt := 14) dL_isLine_9 (by decide) (fun _ => ?_) (fun c => absurd rfl c)
  refine j_iconst h (v := 0) dL_isLine_14 (by decide) ?_
  refine j_istore_n h (lv' := [(3, _), (0, _), (1, _), (2, _)]) dL_isLine_15 rfl (by decide) rfl ?_
  refine il_l h hO' e8 hln hw ?_ 14 0 rfl
  refine j_aload_n h dL_isLine_45 rfl 1 rfl ?_
  refine j_aload_n h dL_isLine_46 rfl 3 rfl ?_
  refine ks_len h rfl (by decide : 16 < 17) ⟨Nat.le_of_ble_eq_true rfl, Nat.le_of_ble_eq_true rfl⟩ (Nat.le_of_ble_eq_true rfl) ⟨Nat.le_refl _, Nat.le_refl _⟩ dL_isLine_47 ?_
  rw [show lenS.getD 16 0 = 14 from rfl]
  refine g_written h rfl hO' ⟨Nat.le_of_ble_eq_true rfl, Nat.le_of_ble_eq_true rfl⟩ (Nat.le_of_ble_eq_true rfl) ⟨Nat.le_refl _, Nat.le_refl _⟩ e8 hln dL_isLine_50 ?_
  rw [show f_X7_written X' A' (nI (14)) = -1 from (hw 14 (by omega)).trans (if_neg (by decide))]
  refine j_iconst h (v := (-1)) dL_isLine_53 (by decide) ?_
  refine j_icmp_ne h (tgt := 61) dL_isLine_54 (by decide) (fun c => absurd rfl c) (fun _ => ?_)
  refine j_iconst h (v := 1) dL_isLine_57 (by decide) ?_
  refine j_goto h (tgt := 62) dL_isLine_58 (by decide) ?_
  exact hR _ ((va_up G 0 M, X', A'), b') _ _ _ dL_isLine_62 (Or.inr rfl) ⟨X', A', b', rfl, hO', hx, ha, rfl⟩ (fun H hP => hP) (fun A hD => hD)

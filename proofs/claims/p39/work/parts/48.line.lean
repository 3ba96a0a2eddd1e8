/-! ===== the class's two StringBuilders ===== -/
def putI (G : Nat → gM) (X : Nat → Int32) (A : Nat → Nat → Int32) (b : cB) (v : sbV) : cS × cB := ((G, upd (upd X 9 v.1) 7 v.2.1, fun k => if k = 4 then v.2.2.2.2 else A k), (v.2.2.1, v.2.2.2.1, b.2.2))
def putL (G : Nat → gM) (X : Nat → Int32) (A : Nat → Nat → Int32) (b : cB) (v : sbV) : cS × cB := ((G, upd (upd X 10 v.1) 8 v.2.1, fun k => if k = 5 then v.2.2.2.2 else A k), (b.1, b.2.1, v.2.2.1, v.2.2.2.1))
theorem lensI {cy : Nat → ClassId} {L : Nat → Nat → Nat} (G : Nat → gM) (X : Nat → Int32) (A : Nat → Nat → Int32) (b : cB) : SBL cy (CW cy L) (L 11 9) (330 + 9) (330 + 11) (putI G X A b) := by
  refine ⟨by decide, fun v => (ml_get 9).trans rfl, fun v => (ml_get 11).trans rfl, fun v v' => ?_⟩
  unfold CW
  rw [List.set_append_right _ _ (by rw [glw_len]; omega), glw_len, Nat.add_sub_cancel_left, List.set_append_right _ _ (by rw [glw_len]; omega), glw_len, Nat.add_sub_cancel_left]
  rfl
theorem lensL {cy : Nat → ClassId} {L : Nat → Nat → Nat} (G : Nat → gM) (X : Nat → Int32) (A : Nat → Nat → Int32) (b : cB) : SBL cy (CW cy L) (L 11 10) (330 + 10) (330 + 12) (putL G X A b) := by
  refine ⟨by decide, fun v => (ml_get 10).trans rfl, fun v => (ml_get 12).trans rfl, fun v v' => ?_⟩
  unfold CW
  rw [List.set_append_right _ _ (by rw [glw_len]; omega), glw_len, Nat.add_sub_cancel_left, List.set_append_right _ _ (by rw [glw_len]; omega), glw_len, Nat.add_sub_cancel_left]
  rfl
theorem lensI_eq {cy : Nat → ClassId} {L : Nat → Nat → Nat} {G : Nat → gM} {X : Nat → Int32} {A : Nat → Nat → Int32} {b : cB} {n : Int32} (hn : X 7 = n) : CW cy L ((G, X, A), b) = CW cy L (putI G X A b (X 9, n, b.1, b.2.1, A 4)) := by
  subst hn
  rfl
theorem lensL_eq {cy : Nat → ClassId} {L : Nat → Nat → Nat} {G : Nat → gM} {X : Nat → Int32} {A : Nat → Nat → Int32} {b : cB} {n : Int32} (hn : X 8 = n) : CW cy L ((G, X, A), b) = CW cy L (putL G X A b (X 10, n, b.2.2.1, b.2.2.2, A 5)) := by
  subst hn
  rfl
/-- a text in its bytes -/
def TX (n m : Nat) (f : Nat → Int32) : Prop := n ≤ m ∧ m ≤ 32766 ∧ sb_Fit f ∧ ∃ t : Nat → Nat, sb_Lat t n f
theorem TX.c {n m : Nat} {f : Nat → Int32} (h : TX n m f) {i : Nat} (hi : i < n) : ((f i &&& 255).toUInt32 % 65536).toInt32 = f i &&& 255 := by
  obtain ⟨t, ht⟩ := h.2.2.2
  obtain ⟨h1, h2⟩ := ht i hi
  obtain ⟨b1, b2, -⟩ := sb_byte _ h1
  rw [h2, b1, b2]
def f_X7_written (X : Nat → Int32) (A : Nat → Nat → Int32) (p1 : Int32) : Int32 := if p1 < 0 then -1 else if p1 < X 8 then A 5 p1.toNatClampNeg &&& 255 else -1

theorem lt_nat {p : Int32} {n m : Nat} (hn : n ≤ m) (hm : m ≤ 32766) (h0 : ¬ p < 0) (h : p < nI n) : p.toNatClampNeg < n := by
  obtain ⟨j, hj, rfl⟩ := nI_of h0
  rw [Int32.lt_iff_toInt_lt, nI_toInt hj, nI_toInt (by omega)] at h
  rw [nI_clamp hj]
  omega
theorem eq_nat {p : Int32} (h0 : ¬ p < 0) : p = nI p.toNatClampNeg := by
  obtain ⟨j, hj, rfl⟩ := nI_of h0
  rw [nI_clamp hj]
abbrev rm_X7_written : Room := { frames := 4, cells := 0, slots := 0, locals := 88 }
theorem c_X7_written (l : Launch) (D : gD) (cy : Nat → ClassId) (L : Nat → Nat → Nat) (G : Nat → gM) (X : Nat → Int32) (A : Nat → Nat → Int32) (b : cB) (M : gM) (p1 : Int32) {n : Nat} (hn : X 8 = nI n) (hT : TX n b.2.2.2 (A 5)) : CtI l D cy (CW cy L) yX7_written cX7_written 2 (some .int) rm_X7_written [.ref (L 11 0), .int p1] (((va_up G 0 M, X, A), b)) (fun rv u => rv = f_X7_written X A p1 ∧ u = ((va_up G 0 M, X, A), b)) 0 0 := by
  refine m_entI cX7_written 2 (by decide) (Nat.le_of_ble_eq_true rfl) (fun J h hR => ?_)
  show J (((va_up G 0 M, X, A), b)) (0, 0) [(0, .ref (L 11 0)), (1, .int p1)] 0 []
  refine j_iload_n h dX7_written_0 rfl 1 rfl ?_
  refine j_if_lt h (tgt := 15) dX7_written_1 (by decide) (fun c1 => ?_) (fun c1 => ?_)
  · refine j_iconst h (v := (-1)) dX7_written_15 (by decide) ?_
    exact hR _ _ _ _ dX7_written_16 ⟨Eq.symm (if_pos c1), rfl⟩
  · refine j_world h (u' := putL (va_up G 0 M) X A b (X 10, nI n, b.2.2.1, b.2.2.2, A 5)) (lensL_eq hn) ?_
    refine j_iload_n h dX7_written_4 rfl 1 rfl ?_
    refine j_aload_n h dX7_written_5 rfl 0 rfl ?_
    refine j_get h inlX7 (330 + 0) (ml_get 0) rfl 8 (by decide) (xr_2 15 rfl) rfl (v := .ref (L 11 10)) rfl dX7_written_6 ?_
    refine j_callI h (n := 0) (c_J4_length_8abf5 l D cy (lensL (va_up G 0 M) X A b) (X 10) (nI n) b.2.2.1 b.2.2.2 (A 5)) (xg_V (xr_12 6 rfl) (xr_12 7 rfl) (xr_12 8 rfl) (xr_2 4 rfl) (xr_12 9 rfl)) rfl rfl (by decide +kernel) ⟨Nat.le_of_ble_eq_true rfl, Nat.le_of_ble_eq_true rfl⟩ (330 + 10) ((lensL (va_up G 0 M) X A b).2.1 _) rfl rfl rfl rfl (Nat.le_of_ble_eq_true rfl) dX7_written_9 ⟨by decide, by decide⟩ (fun r u' hq => ?_)
    obtain ⟨rfl, rfl⟩ := hq
    refine j_icmp_lt h (tgt := 17) dX7_written_12 (by decide) (fun c2 => ?_) (fun c2 => ?_)
    · obtain ⟨i, hi, rfl⟩ : ∃ i, i < n ∧ p1 = nI i := ⟨p1.toNatClampNeg, lt_nat hT.1 hT.2.1 c1 c2, eq_nat c1⟩
      refine j_aload_n h dX7_written_17 rfl 0 rfl ?_
      refine j_get h inlX7 (330 + 0) (ml_get 0) rfl 8 (by decide) (xr_2 15 rfl) rfl (v := .ref (L 11 10)) rfl dX7_written_18 ?_
      refine j_iload_n h dX7_written_21 rfl 1 rfl ?_
      refine j_callI h (n := 1) (c_J4_charAt_5068e l D cy (lensL (va_up G 0 M) X A b) (X 10) b.2.2.1 (A 5) hi hT.1 (by have := hT.2.1; omega) (hT.c hi)) (xg_V (xr_37 17 rfl) (xr_17 12 rfl) (xr_17 13 rfl) (xr_2 4 rfl) (xr_17 14 rfl)) rfl rfl (by decide +kernel) ⟨Nat.le_of_ble_eq_true rfl, Nat.le_of_ble_eq_true rfl⟩ (330 + 10) ((lensL (va_up G 0 M) X A b).2.1 _) rfl rfl rfl rfl (Nat.le_of_ble_eq_true rfl) dX7_written_22 ⟨by decide, by decide⟩ (fun r u' hq => ?_)
      obtain ⟨rfl, rfl⟩ := hq
      refine j_world h (u' := ((va_up G 0 M, X, A), b)) (lensL_eq hn).symm ?_
      exact hR _ _ _ _ dX7_written_25 ⟨by rw [f_X7_written, if_neg c1, hn, if_pos c2, nI_clamp (by have := hT.1; have := hT.2.1; omega)], rfl⟩
    · refine j_iconst h (v := (-1)) dX7_written_15 (by decide) ?_
      refine j_world h (u' := ((va_up G 0 M, X, A), b)) (lensL_eq hn).symm ?_
      exact hR _ _ _ _ dX7_written_16 ⟨by rw [f_X7_written, if_neg c1, hn, if_neg c2], rfl⟩

abbrev rm_X7_append (n m : Nat) : Room := { frames := 6, cells := kE (n + 1) m, slots := sE (n + 1) m, locals := 150 }
theorem c_X7_append (l : Launch) (D : gD) (cy : Nat → ClassId) (L : Nat → Nat → Nat) (G : Nat → gM) (X : Nat → Int32) (A : Nat → Nat → Int32) (b : cB) (M : gM) (p1 : Int32) {n : Nat} (hn : X 7 = nI n) (hT : TX n b.2.1 (A 4)) : CtI l D cy (CW cy L) yX7_append cX7_append 2 (some .int) (rm_X7_append n b.2.1) [.ref (L 11 0), .int p1] (((va_up G 0 M, X, A), b)) (fun rv u => (rv = -2 ∧ (p1 < 32 ∨ 126 < p1 ∨ 60 ≤ n) ∧ u = ((va_up G 0 M, X, A), b)) ∨ ∃ ch : Nat, p1 = nI ch ∧ 32 ≤ ch ∧ ch ≤ 126 ∧ n < 60 ∧ rv = nI (n + 1) ∧ ∃ (a1 : Nat) (f1 : Nat → Int32), u = putI (va_up G 0 M) X A b (X 9, nI (n + 1), a1, sb_cap (n + 1) b.2.1, f1) ∧ (∀ j, j < n → f1 j = A 4 j) ∧ f1 n = sb_b ch ∧ sb_Fit f1) (kE (n + 1) b.2.1) (sE (n + 1) b.2.1) := by
  refine m_entI cX7_append 2 (by decide) (Nat.le_of_ble_eq_true rfl) (fun J h hR => ?_)
  show J (((va_up G 0 M, X, A), b)) (0, 0) [(0, .ref (L 11 0)), (1, .int p1)] 0 []
  refine j_iload_n h dX7_append_0 rfl 1 rfl ?_
  refine j_bipush h (v := 32) dX7_append_1 (by decide) ?_
  refine j_icmp_lt h (tgt := 24) dX7_append_3 (by decide) (fun c1 => ?_) (fun c1 => ?_)
  · refine j_bipush h (v := (-2)) dX7_append_24 (by decide) ?_
    refine j_widen h (k := kE (n + 1) b.2.1) (n := sE (n + 1) b.2.1) (Nat.zero_le _) (Nat.zero_le _) ?_
    exact hR _ _ _ _ dX7_append_26 (Or.inl ⟨rfl, Or.inl c1, rfl⟩)
  · refine j_iload_n h dX7_append_6 rfl 1 rfl ?_
    refine j_bipush h (v := 126) dX7_append_7 (by decide) ?_
    refine j_icmp_gt h (tgt := 24) dX7_append_9 (by decide) (fun c2 => ?_) (fun c2 => ?_)
    · refine j_bipush h (v := (-2)) dX7_append_24 (by decide) ?_
      refine j_widen h (k := kE (n + 1) b.2.1) (n := sE (n + 1) b.2.1) (Nat.zero_le _) (Nat.zero_le _) ?_
      exact hR _ _ _ _ dX7_append_26 (Or.inl ⟨rfl, Or.inr (Or.inl c2), rfl⟩)
    · refine j_world h (u' := putI (va_up G 0 M) X A b (X 9, nI n, b.1, b.2.1, A 4)) (lensI_eq hn) ?_
      refine j_aload_n h dX7_append_12 rfl 0 rfl ?_
      refine j_get h inlX7 (330 + 0) (ml_get 0) rfl 4 (by decide) (xr_2 5 rfl) rfl (v := .ref (L 11 9)) rfl dX7_append_13 ?_
      refine j_callI h (n := 0) (c_J4_length_8abf5 l D cy (lensI (va_up G 0 M) X A b) (X 9) (nI n) b.1 b.2.1 (A 4)) (xg_V (xr_12 6 rfl) (xr_12 7 rfl) (xr_12 8 rfl) (xr_2 4 rfl) (xr_12 9 rfl)) rfl rfl (by decide +kernel) ⟨Nat.le_of_ble_eq_true rfl, Nat.le_of_ble_eq_true rfl⟩ (330 + 9) ((lensI (va_up G 0 M) X A b).2.1 _) rfl rfl rfl rfl (Nat.le_of_ble_eq_true rfl) dX7_append_16 ⟨Nat.zero_le _, Nat.zero_le _⟩ (fun r u' hq => ?_)
      obtain ⟨rfl, rfl⟩ := hq
      refine j_bipush h (v := 60) dX7_append_19 (by decide) ?_
      refine j_icmp_lt h (tgt := 27) dX7_append_21 (by decide) (fun c3 => ?_) (fun c3 => ?_)
      · obtain ⟨ch, hch, rfl⟩ := nI_of (x := p1) (fun z => c1 (Int32.lt_trans z (by decide)))
        have g1 : 32 ≤ ch := Nat.le_of_not_lt fun z => c1 (nI_lt (a := ch) (b := 32) z (by decide))
        have g2 : ch ≤ 126 := Nat.le_of_not_lt fun z => c2 (nI_lt (a := 126) (b := ch) z hch)
        have g3 : n < 60 := Nat.lt_of_not_le fun z => absurd c3 (nI_nlt (a := n) (b := 60) z (by have := hT.1; have := hT.2.1; omega))
        refine j_aload_n h dX7_append_27 rfl 0 rfl ?_
        refine j_get h inlX7 (330 + 0) (ml_get 0) rfl 4 (by decide) (xr_2 5 rfl) rfl (v := .ref (L 11 9)) rfl dX7_append_28 ?_
        refine j_iload_n h dX7_append_31 rfl 1 rfl ?_
        refine j_callA h (n := 1) (c_J4_append_cf468 l D cy (lensI (va_up G 0 M) X A b) (X 9) b.1 (m := b.2.1) (f := A 4) (ch := ch) (by omega) hT.1 hT.2.1 hT.2.2.1) (xg_V (xr_12 20 rfl) (xr_12 21 rfl) (xr_12 22 rfl) (xr_2 4 rfl) (xr_12 23 rfl)) rfl rfl (by decide +kernel) ⟨Nat.le_of_ble_eq_true rfl, Nat.le_of_ble_eq_true rfl⟩ (330 + 9) ((lensI (va_up G 0 M) X A b).2.1 _) rfl rfl rfl rfl (Nat.le_of_ble_eq_true rfl) dX7_append_32 ⟨by show 0 + 0 + kE (n + 1) b.2.1 ≤ kE (n + 1) b.2.1; omega, by show 0 + 0 + sE (n + 1) b.2.1 ≤ sE (n + 1) b.2.1; omega⟩ (fun r u' hq => ?_)
        obtain ⟨rfl, a1, f1, rfl, q1, q2, q3⟩ := hq
        refine j_pop h dX7_append_35 rfl ?_
        refine j_aload_n h dX7_append_36 rfl 0 rfl ?_
        refine j_get h inlX7 (330 + 0) (ml_get 0) rfl 4 (by decide) (xr_2 5 rfl) rfl (v := .ref (L 11 9)) rfl dX7_append_37 ?_
        refine j_callI h (n := 0) (c_J4_length_8abf5 l D cy (lensI (va_up G 0 M) X A b) (X 9) (nI (n + 1)) a1 (sb_cap (n + 1) b.2.1) f1) (xg_V (xr_12 6 rfl) (xr_12 7 rfl) (xr_12 8 rfl) (xr_2 4 rfl) (xr_12 9 rfl)) rfl rfl (by decide +kernel) ⟨Nat.le_of_ble_eq_true rfl, Nat.le_of_ble_eq_true rfl⟩ (330 + 9) ((lensI (va_up G 0 M) X A b).2.1 _) rfl rfl rfl rfl (Nat.le_of_ble_eq_true rfl) dX7_append_40 ⟨by show 0 + 0 + kE (n + 1) b.2.1 + 0 ≤ kE (n + 1) b.2.1; omega, by show 0 + 0 + sE (n + 1) b.2.1 + 0 ≤ sE (n + 1) b.2.1; omega⟩ (fun r u' hq => ?_)
        obtain ⟨rfl, rfl⟩ := hq
        refine j_widen h (k := kE (n + 1) b.2.1) (n := sE (n + 1) b.2.1) (by show 0 + 0 + kE (n + 1) b.2.1 + 0 ≤ kE (n + 1) b.2.1; omega) (by show 0 + 0 + sE (n + 1) b.2.1 + 0 ≤ sE (n + 1) b.2.1; omega) ?_
        exact hR _ _ _ _ dX7_append_43 (Or.inr ⟨ch, rfl, g1, g2, g3, rfl, a1, f1, rfl, q1, q2, q3⟩)
      · refine j_world h (u' := ((va_up G 0 M, X, A), b)) (lensI_eq hn).symm ?_
        refine j_bipush h (v := (-2)) dX7_append_24 (by decide) ?_
        refine j_widen h (k := kE (n + 1) b.2.1) (n := sE (n + 1) b.2.1) (Nat.zero_le _) (Nat.zero_le _) ?_
        exact hR _ _ _ _ dX7_append_26 (Or.inl ⟨rfl, Or.inr (Or.inr (Nat.le_of_not_lt fun z => c3 (nI_lt (a := n) (b := 60) z (by decide)))), rfl⟩)


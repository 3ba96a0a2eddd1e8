theorem upd_self (X : Nat → Int32) (k : Nat) : upd X k (X k) = X := funext fun j => by
  by_cases e : j = k
  · rw [e, upd_eq]
  · rw [upd_ne _ _ e]
theorem putI_eq (G : Nat → gM) (X : Nat → Int32) (A : Nat → Nat → Int32) (b : cB) : putI G X A b (X 9, X 7, b.1, b.2.1, A 4) = ((G, X, A), b) := by
  have h1 : upd (upd X 9 (X 9)) 7 (X 7) = X := by rw [upd_self, upd_self]
  have h2 : (fun k => if k = 4 then A 4 else A k) = A := funext fun k => by
    by_cases e : k = 4
    · rw [if_pos e, e]
    · rw [if_neg e]
  show ((G, upd (upd X 9 (X 9)) 7 (X 7), fun k => if k = 4 then A 4 else A k), (b.1, b.2.1, b.2.2)) = _
  rw [h1, h2]
theorem c_I_length (l : Launch) (D : gD) (cy : Nat → ClassId) (L : Nat → Nat → Nat) (G : Nat → gM) (X : Nat → Int32) (A : Nat → Nat → Int32) (b : cB) (M : gM) : CtI l D cy (CW cy L) yJ4_length_8abf5 cJ4_length_8abf5 1 (some .int) rm_J4_length_8abf5 [.ref (L 11 9)] ((va_up G 0 M, X, A), b) (fun r u' => r = X 7 ∧ u' = ((va_up G 0 M, X, A), b)) 0 0 := by
  have h := c_J4_length_8abf5 l D cy (lensI (cy := cy) (L := L) (va_up G 0 M) X A b) (X 9) (X 7) b.1 b.2.1 (A 4)
  rw [putI_eq] at h
  exact h
theorem c_I_charAt (l : Launch) (D : gD) (cy : Nat → ClassId) (L : Nat → Nat → Nat) (G : Nat → gM) (X : Nat → Int32) (A : Nat → Nat → Int32) (b : cB) (M : gM) {n : Nat} (hn : X 7 = nI n) (hT : TX n b.2.1 (A 4)) (p1 : Int32) (h0 : ¬ p1 < 0) (h1 : p1 < X 7) : CtI l D cy (CW cy L) yJ4_charAt_5068e cJ4_charAt_5068e 2 (some .char) rm_J4_charAt_5068e [.ref (L 11 9), .int p1] ((va_up G 0 M, X, A), b) (fun r u' => r = A 4 p1.toNatClampNeg &&& 255 ∧ u' = ((va_up G 0 M, X, A), b)) 0 0 := by
  have hi := lt_nat hT.1 hT.2.1 h0 (hn ▸ h1)
  have h := c_J4_charAt_5068e l D cy (lensI (cy := cy) (L := L) (va_up G 0 M) X A b) (X 9) b.1 (A 4) hi hT.1 (by have := hT.2.1; omega) (hT.c hi)
  rw [← hn, putI_eq, ← eq_nat h0] at h
  exact h
def f_X2_isKept (M : gM) (X : Nat → Int32) (A : Nat → Nat → Int32) (p1 : Int32) : Int32 :=
  if p1 = 100 then
    1
  else
    if p1 = 110 then
      1
    else
      if p1 = 43 then
        1
      else
        0
abbrev rm_X2_isKept : Room := { frames := 0, cells := 0, slots := 0, locals := 0 }
set_option maxRecDepth 100000 in
set_option maxHeartbeats 4000000 in
theorem c_X2_isKept (l : Launch) (D : gD) (cy : Nat → ClassId) (L : Nat → Nat → Nat) (G : Nat → gM) (X : Nat → Int32) (A : Nat → Nat → Int32) (b : cB) (M : gM) (p1 : Int32)  : CtI l D cy (CW cy L) yX2_isKept cX2_isKept 1 (some .boolean) rm_X2_isKept [.int p1] ((va_up G 0 M, X, A), b) (fun rv u => rv = f_X2_isKept M X A p1 ∧ u = ((va_up G 0 M, X, A), b) ∧ (rv = 0 ∨ rv = 1)) 0 0 := by
  refine m_entZ cX2_isKept 1 (by decide) (Nat.le_of_ble_eq_true rfl) (fun J h hR => ?_)
  show J ((va_up G 0 M, X, A), b) (0, 0) [(0, .int p1)] 0 []
  refine j_iload_n h dX2_isKept_0 rfl 0 rfl ?_
  refine j_bipush h (v := 100) dX2_isKept_1 (by decide) ?_
  refine j_icmp_eq h (tgt := 18) dX2_isKept_3 (by decide) (fun c1 => ?_) (fun c1 => ?_)
  · refine j_iconst h (v := 1) dX2_isKept_18 (by decide) ?_
    refine j_goto h (tgt := 23) dX2_isKept_19 (by decide) ?_
    exact hR _ _ _ _ dX2_isKept_23 (Or.inr rfl) ⟨Eq.symm ((ite_p c1 rfl)), rfl, (Or.inr rfl)⟩
  · refine j_iload_n h dX2_isKept_6 rfl 0 rfl ?_
    refine j_bipush h (v := 110) dX2_isKept_7 (by decide) ?_
    refine j_icmp_eq h (tgt := 18) dX2_isKept_9 (by decide) (fun c2 => ?_) (fun c2 => ?_)
    · refine j_iconst h (v := 1) dX2_isKept_18 (by decide) ?_
      refine j_goto h (tgt := 23) dX2_isKept_19 (by decide) ?_
      exact hR _ _ _ _ dX2_isKept_23 (Or.inr rfl) ⟨Eq.symm ((ite_n c1 (ite_p c2 rfl))), rfl, (Or.inr rfl)⟩
    · refine j_iload_n h dX2_isKept_12 rfl 0 rfl ?_
      refine j_bipush h (v := 43) dX2_isKept_13 (by decide) ?_
      refine j_icmp_ne h (tgt := 22) dX2_isKept_15 (by decide) (fun c3 => ?_) (fun c3 => ?_)
      · refine j_iconst h (v := 0) dX2_isKept_22 (by decide) ?_
        exact hR _ _ _ _ dX2_isKept_23 (Or.inl rfl) ⟨Eq.symm ((ite_n c1 (ite_n c2 (ite_n c3 rfl)))), rfl, (Or.inl rfl)⟩
      · refine j_iconst h (v := 1) dX2_isKept_18 (by decide) ?_
        refine j_goto h (tgt := 23) dX2_isKept_19 (by decide) ?_
        exact hR _ _ _ _ dX2_isKept_23 (Or.inr rfl) ⟨Eq.symm ((ite_n c1 (ite_n c2 (ite_p c3 rfl)))), rfl, (Or.inr rfl)⟩

def f_X2_isDigit (M : gM) (X : Nat → Int32) (A : Nat → Nat → Int32) (p1 : Int32) : Int32 :=
  if p1 < 48 then
    0
  else
    if 57 < p1 then
      0
    else
      1
abbrev rm_X2_isDigit : Room := { frames := 0, cells := 0, slots := 0, locals := 0 }
set_option maxRecDepth 100000 in
set_option maxHeartbeats 4000000 in
theorem c_X2_isDigit (l : Launch) (D : gD) (cy : Nat → ClassId) (L : Nat → Nat → Nat) (G : Nat → gM) (X : Nat → Int32) (A : Nat → Nat → Int32) (b : cB) (M : gM) (p1 : Int32)  : CtI l D cy (CW cy L) yX2_isDigit cX2_isDigit 1 (some .boolean) rm_X2_isDigit [.int p1] ((va_up G 0 M, X, A), b) (fun rv u => rv = f_X2_isDigit M X A p1 ∧ u = ((va_up G 0 M, X, A), b) ∧ (rv = 0 ∨ rv = 1)) 0 0 := by
  refine m_entZ cX2_isDigit 1 (by decide) (Nat.le_of_ble_eq_true rfl) (fun J h hR => ?_)
  show J ((va_up G 0 M, X, A), b) (0, 0) [(0, .int p1)] 0 []
  refine j_iload_n h dX2_isDigit_0 rfl 0 rfl ?_
  refine j_bipush h (v := 48) dX2_isDigit_1 (by decide) ?_
  refine j_icmp_lt h (tgt := 16) dX2_isDigit_3 (by decide) (fun c1 => ?_) (fun c1 => ?_)
  · refine j_iconst h (v := 0) dX2_isDigit_16 (by decide) ?_
    exact hR _ _ _ _ dX2_isDigit_17 (Or.inl rfl) ⟨Eq.symm ((ite_p c1 rfl)), rfl, (Or.inl rfl)⟩
  · refine j_iload_n h dX2_isDigit_6 rfl 0 rfl ?_
    refine j_bipush h (v := 57) dX2_isDigit_7 (by decide) ?_
    refine j_icmp_gt h (tgt := 16) dX2_isDigit_9 (by decide) (fun c2 => ?_) (fun c2 => ?_)
    · refine j_iconst h (v := 0) dX2_isDigit_16 (by decide) ?_
      exact hR _ _ _ _ dX2_isDigit_17 (Or.inl rfl) ⟨Eq.symm ((ite_n c1 (ite_p c2 rfl))), rfl, (Or.inl rfl)⟩
    · refine j_iconst h (v := 1) dX2_isDigit_12 (by decide) ?_
      refine j_goto h (tgt := 17) dX2_isDigit_13 (by decide) ?_
      exact hR _ _ _ _ dX2_isDigit_17 (Or.inr rfl) ⟨Eq.symm ((ite_n c1 (ite_n c2 rfl))), rfl, (Or.inr rfl)⟩

def f_X2_number (M : gM) (X : Nat → Int32) (A : Nat → Nat → Int32) (p1 : Int32) (p2 : Int32) : Int32 :=
  (A 1 ((p1.toNatClampNeg * 5) + p2.toNatClampNeg))
abbrev rm_X2_number : Room := { frames := 0, cells := 0, slots := 0, locals := 0 }
set_option maxRecDepth 100000 in
set_option maxHeartbeats 4000000 in
theorem c_X2_number (l : Launch) (D : gD) (cy : Nat → ClassId) (L : Nat → Nat → Nat) (G : Nat → gM) (X : Nat → Int32) (A : Nat → Nat → Int32) (b : cB) (M : gM) (p1 : Int32) (p2 : Int32) (v1 : vp_in p1 30) (v2 : vp_in p2 5) : CtI l D cy (CW cy L) yX2_number cX2_number 3 (some .int) rm_X2_number [.ref (L 11 3), .int p1, .int p2] ((va_up G 0 M, X, A), b) (fun rv u => rv = f_X2_number M X A p1 p2 ∧ u = ((va_up G 0 M, X, A), b)) 0 0 := by
  refine m_entI cX2_number 3 (by decide) (Nat.le_of_ble_eq_true rfl) (fun J h hR => ?_)
  show J ((va_up G 0 M, X, A), b) (0, 0) [(0, .ref (L 11 3)), (1, .int p1), (2, .int p2)] 0 []
  have b1 : p1.toNatClampNeg < 30 := vp_lt v1
  have e1 : p1 = nI p1.toNatClampNeg := vp_nI v1 (by decide)
  have b2 : p2.toNatClampNeg < 5 := vp_lt v2
  have e2 : p2 = nI p2.toNatClampNeg := vp_nI v2 (by decide)
  refine j_aload_n h dX2_number_0 rfl 0 rfl ?_
  refine j_get h inlX2 (330 + 3) (ml_get 3) rfl 1 (by decide) (xr_5 20 rfl) rfl (v := .ref (L 11 5)) rfl dX2_number_1 ?_
  refine j_iload_n h dX2_number_4 rfl 1 rfl ?_
  refine j_iconst h (v := 5) dX2_number_5 (by decide) ?_
  refine j_imul h dX2_number_6 ?_
  refine j_iload_n h dX2_number_7 rfl 2 rfl ?_
  refine j_iadd h dX2_number_8 ?_
  refine j_ialdE h (330 + 5) (ml_get 5) ((p1.toNatClampNeg * 5) + p2.toNatClampNeg) (nx_add (nx_mul e1 rfl) e2) (by omega) (by decide) dX2_number_9 ?_
  exact hR _ _ _ _ dX2_number_10 ⟨Eq.symm (rfl), rfl⟩

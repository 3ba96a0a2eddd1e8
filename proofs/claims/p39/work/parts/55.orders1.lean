theorem upd_self (X : Nat → Int32) (k : Nat) : upd X k (X k) = X := funext fun j => by
  by_cases e : j = k
  · rw [e, upd_eq]
  · rw [upd_ne _ _ e]
theorem putI_eq (G : Nat → gM) (X : Nat → Int32) (A : Nat → Nat → Int32) (b : cB) : putI G X A b (X 9, X 7, b.1, b.2.1, A 4) = ((G, X, A), b) := by
  have h1 : upd (upd X 9 (X 9)) 7 (X 7) = X := by rw [upd_self, upd_self]
  have h2 : (fun k => if k = 4 then A 4 else A k) = A := funext fun k => by
    by_cases e : k = 4
    · rw [if_pos e, e]
    · rw [if_neg e]
  show ((G, upd (upd X 9 (X 9)) 7 (X 7), fun k => if k = 4 then A 4 else A k), (b.1, b.2.1, b.2.2)) = _
  rw [h1, h2]
theorem c_I_length (l : Launch) (D : gD) (cy : Nat → ClassId) (L : Nat → Nat → Nat) (G : Nat → gM) (X : Nat → Int32) (A : Nat → Nat → Int32) (b : cB) (M : gM) : CtI l D cy (CW cy L) yJ4_length_8abf5 cJ4_length_8abf5 1 (some .int) rm_J4_length_8abf5 [.ref (L 11 9)] ((va_up G 0 M, X, A), b) (fun r u' => r = X 7 ∧ u' = ((va_up G 0 M, X, A), b)) 0 0 := by
  have h := c_J4_length_8abf5 l D cy (lensI (cy := cy) (L := L) (va_up G 0 M) X A b) (X 9) (X 7) b.1 b.2.1 (A 4)
  rw [putI_eq] at h
  exact h
theorem c_I_charAt (l : Launch) (D : gD) (cy : Nat → ClassId) (L : Nat → Nat → Nat) (G : Nat → gM) (X : Nat → Int32) (A : Nat → Nat → Int32) (b : cB) (M : gM) {n : Nat} (hn : X 7 = nI n) (hT : TX n b.2.1 (A 4)) (p1 : Int32) (h0 : ¬ p1 < 0) (h1 : p1 < X 7) : CtI l D cy (CW cy L) yJ4_charAt_5068e cJ4_charAt_5068e 2 (some .char) rm_J4_charAt_5068e [.ref (L 11 9), .int p1] ((va_up G 0 M, X, A), b) (fun r u' => r = A 4 p1.toNatClampNeg &&& 255 ∧ u' = ((va_up G 0 M, X, A), b)) 0 0 := by
  have hi := lt_nat hT.1 hT.2.1 h0 (hn ▸ h1)
  have h := c_J4_charAt_5068e l D cy (lensI (cy := cy) (L := L) (va_up G 0 M) X A b) (X 9) b.1 (A 4) hi hT.1 (by have := hT.2.1; omega) (hT.c hi)
  rw [← hn, putI_eq, ← eq_nat h0] at h
  exact h
def f_X2_isKept (M : gM) (X : Nat → Int32) (A : Nat → Nat → Int32) (p1 : Int32) : Int32 :=
  if p1 = 100 then
    1
  else
    if p1 = 110 then
      1
    else
      if p1 = 43 then
        1
      else
        0
abbrev rm_X2_isKept : Room := { frames := 0, cells := 0, slots := 0, locals := 0 }
set_option maxRecDepth 100000 in
set_option maxHeartbeats 4000000 in
theorem c_X2_isKept (l : Launch) (D : gD) (cy : Nat → ClassId) (L : Nat → Nat → Nat) (G : Nat → gM) (X : Nat → Int32) (A : Nat → Nat → Int32) (b : cB) (M : gM) (p1 : Int32)  : CtI l D cy (CW cy L) yX2_isKept cX2_isKept 1 (some .boolean) rm_X2_isKept [.int p1] ((va_up G 0 M, X, A), b) (fun rv u => rv = f_X2_isKept M X A p1 ∧ u = ((va_up G 0 M, X, A), b) ∧ (rv = 0 ∨ rv = 1)) 0 0 := by
  refine m_entZ cX2_isKept 1 (by decide) (Nat.le_of_ble_eq_true rfl) (fun J h hR => ?_)
  show J ((va_up G 0 M, X, A), b) (0, 0) [(0, .int p1)] 0 []
  refine j_iload_n h dX2_isKept_0 rfl 0 rfl ?_
  refine j_bipush h (v := 100) dX2_isKept_1 (by decide) ?_
  refine j_icmp_eq h (tgt := 18) dX2_isKept_3 (by decide) (fun c1 => ?_) (fun c1 => ?_)
  · refine j_iconst h (v := 1) dX2_isKept_18 (by decide) ?_
    refine j_goto h (tgt := 23) dX2_isKept_19 (by decide) ?_
    exact hR _ _ _ _ dX2_isKept_23 (Or.inr rfl) ⟨Eq.symm ((ite_p c1 rfl)), rfl, (Or.inr rfl)⟩
  · refine j_iload_n h dX2_isKept_6 rfl 0 rfl ?_
    refine j_bipush h (v := 110) dX2_isKept_7 (by decide) ?_
    refine j_icmp_eq h (tgt := 18) dX2_isKept_9 (by decide) (fun c2 => ?_) (fun c2 => ?_)
    · refine j_iconst h (v := 1) dX2_isKept_18 (by decide) ?_
      refine j_goto h (tgt := 23) dX2_isKept_19 (by decide) ?_
      exact hR _ _ _ _ dX2_isKept_23 (Or.inr rfl) ⟨Eq.symm ((ite_n c1 (ite_p c2 rfl))), rfl, (Or.inr rfl)⟩
    · refine j_iload_n h dX2_isKept_12 rfl 0 rfl ?_
      refine j_bipush h (v := 43) dX2_isKept_13 (by decide) ?_
      refine j_icmp_ne h (tgt := 22) dX2_isKept_15 (by decide) (fun c3 => ?_) (fun c3 => ?_)
      · refine j_iconst h (v := 0) dX2_isKept_22 (by decide) ?_
        exact hR _ _ _ _ dX2_isKept_23 (Or.inl rfl) ⟨Eq.symm ((ite_n c1 (ite_n c2 (ite_n c3 rfl)))), rfl, (Or.inl rfl)⟩
      · refine j_iconst h (v := 1) dX2_isKept_18 (by decide) ?_
        refine j_goto h (tgt := 23) dX2_isKept_19 (by decide) ?_
        exact hR _ _ _ _ dX2_isKept_23 (Or.inr rfl) ⟨Eq.symm ((ite_n c1 (ite_n c2 (ite_p c3 rfl)))), rfl, (Or.inr rfl)⟩

def f_X2_isDigit (M : gM) (X : Nat → Int32) (A : Nat → Nat → Int32) (p1 : Int32) : Int32 :=
  if p1 < 48 then
    0
  else
    if 57 < p1 then
      0
    else
      1
abbrev rm_X2_isDigit : Room := { frames := 0, cells := 0, slots := 0, locals := 0 }
set_option maxRecDepth 100000 in
set_option maxHeartbeats 4000000 in
theorem c_X2_isDigit (l : Launch) (D : gD) (cy : Nat → ClassId) (L : Nat → Nat → Nat) (G : Nat → gM) (X : Nat → Int32) (A : Nat → Nat → Int32) (b : cB) (M : gM) (p1 : Int32)  : CtI l D cy (CW cy L) yX2_isDigit cX2_isDigit 1 (some .boolean) rm_X2_isDigit [.int p1] ((va_up G 0 M, X, A), b) (fun rv u => rv = f_X2_isDigit M X A p1 ∧ u = ((va_up G 0 M, X, A), b) ∧ (rv = 0 ∨ rv = 1)) 0 0 := by
  refine m_entZ cX2_isDigit 1 (by decide) (Nat.le_of_ble_eq_true rfl) (fun J h hR => ?_)
  show J ((va_up G 0 M, X, A), b) (0, 0) [(0, .int p1)] 0 []
  refine j_iload_n h dX2_isDigit_0 rfl 0 rfl ?_
  refine j_bipush h (v := 48) dX2_isDigit_1 (by decide) ?_
  refine j_icmp_lt h (tgt := 16) dX2_isDigit_3 (by decide) (fun c1 => ?_) (fun c1 => ?_)
  · refine j_iconst h (v := 0) dX2_isDigit_16 (by decide) ?_
    exact hR _ _ _ _ dX2_isDigit_17 (Or.inl rfl) ⟨Eq.symm ((ite_p c1 rfl)), rfl, (Or.inl rfl)⟩
  · refine j_iload_n h dX2_isDigit_6 rfl 0 rfl ?_
    refine j_bipush h (v := 57) dX2_isDigit_7 (by decide) ?_
    refine j_icmp_gt h (tgt := 16) dX2_isDigit_9 (by decide) (fun c2 => ?_) (fun c2 => ?_)
    · refine j_iconst h (v := 0) dX2_isDigit_16 (by decide) ?_
      exact hR _ _ _ _ dX2_isDigit_17 (Or.inl rfl) ⟨Eq.symm ((ite_n c1 (ite_p c2 rfl))), rfl, (Or.inl rfl)⟩
    · refine j_iconst h (v := 1) dX2_isDigit_12 (by decide) ?_
      refine j_goto h (tgt := 17) dX2_isDigit_13 (by decide) ?_
      exact hR _ _ _ _ dX2_isDigit_17 (Or.inr rfl) ⟨Eq.symm ((ite_n c1 (ite_n c2 rfl))), rfl, (Or.inr rfl)⟩

def f_X2_number (M : gM) (X : Nat → Int32) (A : Nat → Nat → Int32) (p1 : Int32) (p2 : Int32) : Int32 :=
  (A 1 ((p1.toNatClampNeg * 5) + p2.toNatClampNeg))
abbrev rm_X2_number : Room := { frames := 0, cells := 0, slots := 0, locals := 0 }
set_option maxRecDepth 100000 in
set_option maxHeartbeats 4000000 in
theorem c_X2_number (l : Launch) (D : gD) (cy : Nat → ClassId) (L : Nat → Nat → Nat) (G : Nat → gM) (X : Nat → Int32) (A : Nat → Nat → Int32) (b : cB) (M : gM) (p1 : Int32) (p2 : Int32) (v1 : vp_in p1 30) (v2 : vp_in p2 5) : CtI l D cy (CW cy L) yX2_number cX2_number 3 (some .int) rm_X2_number [.ref (L 11 3), .int p1, .int p2] ((va_up G 0 M, X, A), b) (fun rv u => rv = f_X2_number M X A p1 p2 ∧ u = ((va_up G 0 M, X, A), b)) 0 0 := by
  refine m_entI cX2_number 3 (by decide) (Nat.le_of_ble_eq_true rfl) (fun J h hR => ?_)
  show J ((va_up G 0 M, X, A), b) (0, 0) [(0, .ref (L 11 3)), (1, .int p1), (2, .int p2)] 0 []
  have b1 : p1.toNatClampNeg < 30 := vp_lt v1
  have e1 : p1 = nI p1.toNatClampNeg := vp_nI v1 (by decide)
  have b2 : p2.toNatClampNeg < 5 := vp_lt v2
  have e2 : p2 = nI p2.toNatClampNeg := vp_nI v2 (by decide)
  refine j_aload_n h dX2_number_0 rfl 0 rfl ?_
  refine j_get h inlX2 (330 + 3) (ml_get 3) rfl 1 (by decide) (xr_5 23 rfl) rfl (v := .ref (L 11 5)) rfl dX2_number_1 ?_
  refine j_iload_n h dX2_number_4 rfl 1 rfl ?_
  refine j_iconst h (v := 5) dX2_number_5 (by decide) ?_
  refine j_imul h dX2_number_6 ?_
  refine j_iload_n h dX2_number_7 rfl 2 rfl ?_
  refine j_iadd h dX2_number_8 ?_
  refine j_ialdE h (330 + 5) (ml_get 5) ((p1.toNatClampNeg * 5) + p2.toNatClampNeg) (nx_add (nx_mul e1 rfl) e2) (by omega) (by decide) dX2_number_9 ?_
  exact hR _ _ _ _ dX2_number_10 ⟨Eq.symm (rfl), rfl⟩

/-- the reading's place, the text and its bytes go together -/
def RD (X : Nat → Int32) (A : Nat → Nat → Int32) (b : cB) : Prop := X 7 = nI (X 7).toNatClampNeg ∧ TX (X 7).toNatClampNeg b.2.1 (A 4) ∧ ¬ X 5 < 0
theorem RD.s {X : Nat → Int32} {A : Nat → Nat → Int32} {b : cB} (h : RD X A b) (c : X 5 < X 7) : RD (upd X 5 (X 5 + 1)) A b := by
  refine ⟨?_, ?_, ?_⟩
  · rw [upd_ne _ _ (by omega)]; exact h.1
  · rw [upd_ne _ _ (by omega)]; exact h.2.1
  · obtain ⟨j, hj, e⟩ := nI_of h.2.2
    have h1 := h.2.1.1
    have h2 := h.2.1.2.1
    have h3 := lt_nat h1 h2 h.2.2 (h.1 ▸ c)
    rw [upd_eq, e]
    rw [e, nI_clamp hj] at h3
    rw [nI_1]
    exact nI_pos (by omega)
def f_X2_readSign (M : gM) (X : Nat → Int32) (A : Nat → Nat → Int32) (p2 : Int32) : Int32 × (Nat → Int32) :=
  bd ((X 7)) fun z1 =>
  if z1 ≤ (X 5) then
    (0, X)
  else
    bd (((A 4 (X 5).toNatClampNeg) &&& 255)) fun z3 =>
    if z3 = p2 then
      (1, upd X 5 ((X 5) + 1))
    else
      (0, X)
abbrev rm_X2_readSign : Room := { frames := 5, cells := 0, slots := 0, locals := 221 }
set_option maxRecDepth 100000 in
set_option maxHeartbeats 4000000 in
theorem c_X2_readSign (l : Launch) (D : gD) (cy : Nat → ClassId) (L : Nat → Nat → Nat) (G : Nat → gM) (X : Nat → Int32) (A : Nat → Nat → Int32) (b : cB) (M : gM) (p2 : Int32) (hD0 : RD X A b) : CtI l D cy (CW cy L) yX2_readSign cX2_readSign 3 (some .boolean) rm_X2_readSign [.ref (L 11 3), .ref (L 11 9), .int p2] ((va_up G 0 M, X, A), b) (fun rv u => ∃ z : Int32 × ((Nat → Int32)), z = f_X2_readSign M X A p2 ∧ rv = z.1 ∧ u = ((va_up G 0 M, z.2, A), b) ∧ (rv = 0 ∨ rv = 1) ∧ RD z.2 A b) 0 0 := by
  refine m_entZ cX2_readSign 3 (by decide) (Nat.le_of_ble_eq_true rfl) (fun J h hR => ?_)
  show J ((va_up G 0 M, X, A), b) (0, 0) [(0, .ref (L 11 3)), (1, .ref (L 11 9)), (2, .int p2)] 0 []
  refine j_aload_n h dX2_readSign_0 rfl 0 rfl ?_
  refine j_get h inlX2 (330 + 3) (ml_get 3) rfl 3 (by decide) (xr_17 5 rfl) rfl (v := .int (X 5)) rfl dX2_readSign_1 ?_
  refine j_aload_n h dX2_readSign_4 rfl 1 rfl ?_
  refine j_callI h (n := 0) (c_I_length l D cy L _ _ _ _ _) (xg_V (xr_17 10 rfl) (xr_12 7 rfl) (xr_12 8 rfl) (xr_2 4 rfl) (xr_12 9 rfl)) rfl rfl (by decide +kernel) ⟨Nat.le_of_ble_eq_true rfl, Nat.le_of_ble_eq_true rfl⟩ (330 + 9) (ml_get 9) rfl rfl rfl rfl (Nat.le_of_ble_eq_true rfl) dX2_readSign_5 ⟨by decide, by decide⟩ (fun z1 u' hq => ?_)
  obtain ⟨hz1, rfl⟩ := hq
  refine j_icmp_ge h (tgt := 23) dX2_readSign_8 (by decide) (fun c2 => ?_) (fun c2 => ?_)
  · refine j_iconst h (v := 0) dX2_readSign_23 (by decide) ?_
    exact hR _ _ _ _ dX2_readSign_24 (Or.inl rfl) ⟨(_, _), Eq.symm ((bd_eq hz1 (ite_p c2 rfl))), rfl, rfl, (Or.inl rfl), hD0⟩
  · refine j_aload_n h dX2_readSign_11 rfl 1 rfl ?_
    refine j_aload_n h dX2_readSign_12 rfl 0 rfl ?_
    refine j_get h inlX2 (330 + 3) (ml_get 3) rfl 3 (by decide) (xr_17 5 rfl) rfl (v := .int (X 5)) rfl dX2_readSign_13 ?_
    refine j_callI h (n := 1) (c_I_charAt l D cy L _ _ _ _ _ hD0.1 hD0.2.1 _ hD0.2.2 (hz1 ▸ Int32.not_le.mp c2)) (xg_V (xr_17 11 rfl) (xr_17 12 rfl) (xr_17 13 rfl) (xr_2 4 rfl) (xr_17 14 rfl)) rfl rfl (by decide +kernel) ⟨Nat.le_of_ble_eq_true rfl, Nat.le_of_ble_eq_true rfl⟩ (330 + 9) (ml_get 9) rfl rfl rfl rfl (Nat.le_of_ble_eq_true rfl) dX2_readSign_16 ⟨by decide, by decide⟩ (fun z3 u' hq => ?_)
    obtain ⟨hz3, rfl⟩ := hq
    refine j_iload_n h dX2_readSign_19 rfl 2 rfl ?_
    refine j_icmp_eq h (tgt := 25) dX2_readSign_20 (by decide) (fun c4 => ?_) (fun c4 => ?_)
    · refine j_aload_n h dX2_readSign_25 rfl 0 rfl ?_
      refine j_dup h dX2_readSign_26 rfl ?_
      refine j_get h inlX2 (330 + 3) (ml_get 3) rfl 3 (by decide) (xr_17 5 rfl) rfl (v := .int (X 5)) rfl dX2_readSign_27 ?_
      refine j_iconst h (v := 1) dX2_readSign_30 (by decide) ?_
      refine j_iadd h dX2_readSign_31 ?_
      refine j_put h inlX2 tyX2 tyX2_ok nmX2 (330 + 3) (ml_get 3) rfl 3 (by decide) (xr_17 5 rfl) rfl rfl rfl rfl (Nat.le_of_ble_eq_true rfl) dX2_readSign_32 (u' := ((va_up G 0 M, upd X 5 ((X 5) + 1), A), b)) (ml_set rfl rfl) ?_
      refine j_iconst h (v := 1) dX2_readSign_35 (by decide) ?_
      exact hR _ _ _ _ dX2_readSign_36 (Or.inr rfl) ⟨(_, _), Eq.symm ((bd_eq hz1 (ite_n c2 (bd_eq hz3 (ite_p c4 rfl))))), rfl, rfl, (Or.inr rfl), (hD0.s (hz1 ▸ Int32.not_le.mp c2))⟩
    · refine j_iconst h (v := 0) dX2_readSign_23 (by decide) ?_
      exact hR _ _ _ _ dX2_readSign_24 (Or.inl rfl) ⟨(_, _), Eq.symm ((bd_eq hz1 (ite_n c2 (bd_eq hz3 (ite_n c4 rfl))))), rfl, rfl, (Or.inl rfl), hD0⟩

theorem RD.a {X : Nat → Int32} {A : Nat → Nat → Int32} {b : cB} {i : Nat} {v : Int32} (h : RD X A b) : RD X (up2 A 1 i v) b := by
  have e : up2 A 1 i v 4 = A 4 := up2_ne _ _ _ (by omega)
  exact ⟨h.1, by rw [e]; exact h.2.1, h.2.2⟩
def f_X2_readSide (M : gM) (X : Nat → Int32) (A : Nat → Nat → Int32) (p2 : Int32) : Int32 × (Nat → Int32) × (Nat → Nat → Int32) :=
  bd (f_X2_readSign M X A 43) fun z1 =>
  if z1.1 = 0 then
    bd (f_X2_readSign M z1.2 (up2 A 1 p2.toNatClampNeg 0) 45) fun z3 =>
    (z3.1, (z3.2, up2 A 1 p2.toNatClampNeg 0))
  else
    (1, (z1.2, up2 A 1 p2.toNatClampNeg 1))
abbrev rm_X2_readSide : Room := { frames := 6, cells := 0, slots := 0, locals := 243 }
set_option maxRecDepth 100000 in
set_option maxHeartbeats 4000000 in
theorem c_X2_readSide (l : Launch) (D : gD) (cy : Nat → ClassId) (L : Nat → Nat → Nat) (G : Nat → gM) (X : Nat → Int32) (A : Nat → Nat → Int32) (b : cB) (M : gM) (p2 : Int32) (v2 : vp_in p2 150) (hD0 : RD X A b) : CtI l D cy (CW cy L) yX2_readSide cX2_readSide 3 (some .boolean) rm_X2_readSide [.ref (L 11 3), .ref (L 11 9), .int p2] ((va_up G 0 M, X, A), b) (fun rv u => ∃ z : Int32 × ((Nat → Int32) × (Nat → Nat → Int32)), z = f_X2_readSide M X A p2 ∧ rv = z.1 ∧ u = ((va_up G 0 M, z.2.1, z.2.2), b) ∧ (rv = 0 ∨ rv = 1) ∧ RD z.2.1 z.2.2 b) 0 0 := by
  refine m_entZ cX2_readSide 3 (by decide) (Nat.le_of_ble_eq_true rfl) (fun J h hR => ?_)
  show J ((va_up G 0 M, X, A), b) (0, 0) [(0, .ref (L 11 3)), (1, .ref (L 11 9)), (2, .int p2)] 0 []
  have b2 : p2.toNatClampNeg < 150 := vp_lt v2
  have e2 : p2 = nI p2.toNatClampNeg := vp_nI v2 (by decide)
  refine j_aload_n h dX2_readSide_0 rfl 0 rfl ?_
  refine j_aload_n h dX2_readSide_1 rfl 1 rfl ?_
  refine j_bipush h (v := 43) dX2_readSide_2 (by decide) ?_
  refine j_callI h (n := 2) (c_X2_readSign l D cy L _ _ _ _ _ _ hD0) (xg_V (xr_20 1 rfl) (xr_20 2 rfl) (xr_20 3 rfl) (xr_2 8 rfl) (xr_20 4 rfl)) rfl rfl (by decide +kernel) ⟨Nat.le_of_ble_eq_true rfl, Nat.le_of_ble_eq_true rfl⟩ (330 + 3) (ml_get 3) rfl rfl rfl rfl (Nat.le_of_ble_eq_true rfl) dX2_readSide_4 ⟨by decide, by decide⟩ (fun r u' hq => ?_)
  obtain ⟨z1, hz1, rfl, rfl, bz1, qz1_0⟩ := hq
  refine j_if_eq h (tgt := 19) dX2_readSide_7 (by decide) (fun c2 => ?_) (fun c2 => ?_)
  · refine j_aload_n h dX2_readSide_19 rfl 0 rfl ?_
    refine j_get h inlX2 (330 + 3) (ml_get 3) rfl 1 (by decide) (xr_5 23 rfl) rfl (v := .ref (L 11 5)) rfl dX2_readSide_20 ?_
    refine j_iload_n h dX2_readSide_23 rfl 2 rfl ?_
    refine j_iconst h (v := 0) dX2_readSide_24 (by decide) ?_
    refine j_iastE h (330 + 5) (ml_get 5) p2.toNatClampNeg e2 (by omega) (by decide) dX2_readSide_25 (u' := ((va_up G 0 M, z1.2, up2 A 1 p2.toNatClampNeg 0), b)) (ml_set rfl rfl) ?_
    refine j_aload_n h dX2_readSide_26 rfl 0 rfl ?_
    refine j_aload_n h dX2_readSide_27 rfl 1 rfl ?_
    refine j_bipush h (v := 45) dX2_readSide_28 (by decide) ?_
    refine j_callI h (n := 2) (c_X2_readSign l D cy L _ _ _ _ _ _ (RD.a qz1_0)) (xg_V (xr_20 1 rfl) (xr_20 2 rfl) (xr_20 3 rfl) (xr_2 8 rfl) (xr_20 4 rfl)) rfl rfl (by decide +kernel) ⟨Nat.le_of_ble_eq_true rfl, Nat.le_of_ble_eq_true rfl⟩ (330 + 3) (ml_get 3) rfl rfl rfl rfl (Nat.le_of_ble_eq_true rfl) dX2_readSide_30 ⟨by decide, by decide⟩ (fun r u' hq => ?_)
    obtain ⟨z3, hz3, rfl, rfl, bz3, qz3_0⟩ := hq
    exact hR _ _ _ _ dX2_readSide_33 bz3 ⟨(_, _), Eq.symm ((bd_eq hz1 (ite_p c2 (bd_eq hz3 rfl)))), rfl, rfl, bz3, qz3_0⟩
  · refine j_aload_n h dX2_readSide_10 rfl 0 rfl ?_
    refine j_get h inlX2 (330 + 3) (ml_get 3) rfl 1 (by decide) (xr_5 23 rfl) rfl (v := .ref (L 11 5)) rfl dX2_readSide_11 ?_
    refine j_iload_n h dX2_readSide_14 rfl 2 rfl ?_
    refine j_iconst h (v := 1) dX2_readSide_15 (by decide) ?_
    refine j_iastE h (330 + 5) (ml_get 5) p2.toNatClampNeg e2 (by omega) (by decide) dX2_readSide_16 (u' := ((va_up G 0 M, z1.2, up2 A 1 p2.toNatClampNeg 1), b)) (ml_set rfl rfl) ?_
    refine j_iconst h (v := 1) dX2_readSide_17 (by decide) ?_
    exact hR _ _ _ _ dX2_readSide_18 (Or.inr rfl) ⟨(_, _), Eq.symm ((bd_eq hz1 (ite_n c2 rfl))), rfl, rfl, (Or.inr rfl), (RD.a qz1_0)⟩

def f_X2_readDigits_l6 (M : gM) (A : Nat → Nat → Int32) (p2 : Int32) (p3 : Int32) : Nat → Int32 → Int32 → (Nat → Int32) → Int32 × Int32 × (Nat → Int32)
  | 0, x, y, Xk => (x, y, Xk)
  | n + 1, x, y, Xk =>
    if p2 ≤ x then
      (x, y, Xk)
    else
      bd ((Xk 7)) fun z2 =>
      if z2 ≤ (Xk 5) then
        (x, y, Xk)
      else
        bd (((A 4 (Xk 5).toNatClampNeg) &&& 255)) fun z4 =>
        bd (f_X2_isDigit M Xk A z4) fun z5 =>
        if z5 = 0 then
          (x, y, Xk)
        else
          bd (((A 4 (Xk 5).toNatClampNeg) &&& 255)) fun z7 =>
          f_X2_readDigits_l6 M A p2 p3 n (x + 1) (((10 * y) + z7) - 48) (upd Xk 5 ((Xk 5) + 1))
def f_X2_readDigits (M : gM) (X : Nat → Int32) (A : Nat → Nat → Int32) (p2 : Int32) (p3 : Int32) : Int32 × (Nat → Int32) × (Nat → Nat → Int32) :=
  bd (f_X2_readDigits_l6 M A p2 p3 3 0 0 X) fun z8 =>
  if z8.1 ≤ 0 then
    (0, (z8.2.2, up2 A 1 p3.toNatClampNeg z8.2.1))
  else
    (1, (z8.2.2, up2 A 1 p3.toNatClampNeg z8.2.1))
abbrev rm_X2_readDigits : Room := { frames := 5, cells := 0, slots := 0, locals := 221 }
set_option maxRecDepth 100000 in
set_option maxHeartbeats 4000000 in
theorem c_X2_readDigits (l : Launch) (D : gD) (cy : Nat → ClassId) (L : Nat → Nat → Nat) (G : Nat → gM) (X : Nat → Int32) (A : Nat → Nat → Int32) (b : cB) (M : gM) (p2 : Int32) (p3 : Int32) (v3 : vp_in p3 150) (hM : p2 ≤ nI 2) (hD0 : RD X A b) : CtI l D cy (CW cy L) yX2_readDigits cX2_readDigits 6 (some .boolean) rm_X2_readDigits [.ref (L 11 3), .ref (L 11 9), .int p2, .int p3] ((va_up G 0 M, X, A), b) (fun rv u => ∃ z : Int32 × ((Nat → Int32) × (Nat → Nat → Int32)), z = f_X2_readDigits M X A p2 p3 ∧ rv = z.1 ∧ u = ((va_up G 0 M, z.2.1, z.2.2), b) ∧ (rv = 0 ∨ rv = 1) ∧ RD z.2.1 z.2.2 b) 0 0 := by
  refine m_entZ cX2_readDigits 6 (by decide) (Nat.le_of_ble_eq_true rfl) (fun J h hR => ?_)
  show J ((va_up G 0 M, X, A), b) (0, 0) [(0, .ref (L 11 3)), (1, .ref (L 11 9)), (2, .int p2), (3, .int p3)] 0 []
  have b3 : p3.toNatClampNeg < 150 := vp_lt v3
  have e3 : p3 = nI p3.toNatClampNeg := vp_nI v3 (by decide)
  refine j_iconst h (v := 0) dX2_readDigits_0 (by decide) ?_
  refine j_istore h (lv' := [(4, _), (0, _), (1, _), (2, _), (3, _)]) dX2_readDigits_1 (by decide) rfl ?_
  refine j_iconst h (v := 0) dX2_readDigits_3 (by decide) ?_
  refine j_istore h (lv' := [(5, _), (4, _), (0, _), (1, _), (2, _), (3, _)]) dX2_readDigits_4 (by decide) rfl ?_
  have lp6 : ∀ (n : Nat) (x : Int32) (y : Int32) (Xk : Nat → Int32), (3 : Int) ≤ x.toInt + (n : Int) ∧ 0 ≤ x.toInt ∧ x.toInt ≤ 2 → RD Xk A b → (∀ z : Int32 × Int32 × (Nat → Int32), z = f_X2_readDigits_l6 M A p2 p3 n x y Xk → RD z.2.2 A b → J ((va_up G 0 M, z.2.2, A), b) (0, 0) [(0, .ref (L 11 3)), (1, .ref (L 11 9)), (2, .int p2), (3, .int p3), (4, .int z.2.1), (5, .int z.1)] 72 []) → J ((va_up G 0 M, Xk, A), b) (0, 0) [(0, .ref (L 11 3)), (1, .ref (L 11 9)), (2, .int p2), (3, .int p3), (4, .int y), (5, .int x)] 6 [] := by
    intro n
    induction n with
    | zero => intro x y Xk hx hDk hf; exact absurd hx dg_zero
    | succ n ih =>
      intro x y Xk hx hDk hf
      refine j_iload h dX2_readDigits_6 5 rfl ?_
      refine j_iload_n h dX2_readDigits_8 rfl 2 rfl ?_
      refine j_icmp_ge h (tgt := 72) dX2_readDigits_9 (by decide) (fun c1 => ?_) (fun c1 => ?_)
      · refine j_sub h [0, 1, 2, 3, 4, 5] rfl ?_
        exact hf (_, _, _) (Eq.symm ((ite_p c1 rfl))) hDk
      · refine j_aload_n h dX2_readDigits_12 rfl 0 rfl ?_
        refine j_get h inlX2 (330 + 3) (ml_get 3) rfl 3 (by decide) (xr_17 5 rfl) rfl (v := .int (Xk 5)) rfl dX2_readDigits_13 ?_
        refine j_aload_n h dX2_readDigits_16 rfl 1 rfl ?_
        refine j_callI h (n := 0) (c_I_length l D cy L _ _ _ _ _) (xg_V (xr_17 10 rfl) (xr_12 7 rfl) (xr_12 8 rfl) (xr_2 4 rfl) (xr_12 9 rfl)) rfl rfl (by decide +kernel) ⟨Nat.le_of_ble_eq_true rfl, Nat.le_of_ble_eq_true rfl⟩ (330 + 9) (ml_get 9) rfl rfl rfl rfl (Nat.le_of_ble_eq_true rfl) dX2_readDigits_17 ⟨by decide, by decide⟩ (fun z2 u' hq => ?_)
        obtain ⟨hz2, rfl⟩ := hq
        refine j_icmp_ge h (tgt := 72) dX2_readDigits_20 (by decide) (fun c3 => ?_) (fun c3 => ?_)
        · refine j_sub h [0, 1, 2, 3, 4, 5] rfl ?_
          exact hf (_, _, _) (Eq.symm ((ite_n c1 (bd_eq hz2 (ite_p c3 rfl))))) hDk
        · refine j_aload_n h dX2_readDigits_23 rfl 1 rfl ?_
          refine j_aload_n h dX2_readDigits_24 rfl 0 rfl ?_
          refine j_get h inlX2 (330 + 3) (ml_get 3) rfl 3 (by decide) (xr_17 5 rfl) rfl (v := .int (Xk 5)) rfl dX2_readDigits_25 ?_
          refine j_callI h (n := 1) (c_I_charAt l D cy L _ _ _ _ _ hDk.1 hDk.2.1 _ hDk.2.2 (hz2 ▸ Int32.not_le.mp c3)) (xg_V (xr_17 11 rfl) (xr_17 12 rfl) (xr_17 13 rfl) (xr_2 4 rfl) (xr_17 14 rfl)) rfl rfl (by decide +kernel) ⟨Nat.le_of_ble_eq_true rfl, Nat.le_of_ble_eq_true rfl⟩ (330 + 9) (ml_get 9) rfl rfl rfl rfl (Nat.le_of_ble_eq_true rfl) dX2_readDigits_28 ⟨by decide, by decide⟩ (fun z4 u' hq => ?_)
          obtain ⟨hz4, rfl⟩ := hq
          refine j_callS h (n := 1) (c_X2_isDigit l D cy L _ _ _ _ _ _) (xg_S (xr_19 18 rfl) (xr_19 19 rfl) (xr_2 8 rfl) (xr_19 20 rfl)) rfl rfl (by decide +kernel) ⟨Nat.le_of_ble_eq_true rfl, Nat.le_of_ble_eq_true rfl⟩  rfl rfl (Nat.le_of_ble_eq_true rfl) dX2_readDigits_31 ⟨by decide, by decide⟩ (fun z5 u' hq => ?_)
          obtain ⟨hz5, rfl, bz5⟩ := hq
          refine j_if_eq h (tgt := 72) dX2_readDigits_34 (by decide) (fun c6 => ?_) (fun c6 => ?_)
          · refine j_sub h [0, 1, 2, 3, 4, 5] rfl ?_
            exact hf (_, _, _) (Eq.symm ((ite_n c1 (bd_eq hz2 (ite_n c3 (bd_eq hz4 (bd_eq hz5 (ite_p c6 rfl)))))))) hDk
          · refine j_bipush h (v := 10) dX2_readDigits_37 (by decide) ?_
            refine j_iload h dX2_readDigits_39 4 rfl ?_
            refine j_imul h dX2_readDigits_41 ?_
            refine j_aload_n h dX2_readDigits_42 rfl 1 rfl ?_
            refine j_aload_n h dX2_readDigits_43 rfl 0 rfl ?_
            refine j_get h inlX2 (330 + 3) (ml_get 3) rfl 3 (by decide) (xr_17 5 rfl) rfl (v := .int (Xk 5)) rfl dX2_readDigits_44 ?_
            refine j_callI h (n := 1) (c_I_charAt l D cy L _ _ _ _ _ hDk.1 hDk.2.1 _ hDk.2.2 (hz2 ▸ Int32.not_le.mp c3)) (xg_V (xr_17 11 rfl) (xr_17 12 rfl) (xr_17 13 rfl) (xr_2 4 rfl) (xr_17 14 rfl)) rfl rfl (by decide +kernel) ⟨Nat.le_of_ble_eq_true rfl, Nat.le_of_ble_eq_true rfl⟩ (330 + 9) (ml_get 9) rfl rfl rfl rfl (Nat.le_of_ble_eq_true rfl) dX2_readDigits_47 ⟨by decide, by decide⟩ (fun z7 u' hq => ?_)
            obtain ⟨hz7, rfl⟩ := hq
            refine j_iadd h dX2_readDigits_50 ?_
            refine j_bipush h (v := 48) dX2_readDigits_51 (by decide) ?_
            refine j_isub h dX2_readDigits_53 ?_
            refine j_istore h (lv' := [(4, _), (0, _), (1, _), (2, _), (3, _), (5, _)]) dX2_readDigits_54 (by decide) rfl ?_
            refine j_aload_n h dX2_readDigits_56 rfl 1 rfl ?_
            refine j_dup h dX2_readDigits_57 rfl ?_
            refine j_get h inlX2 (330 + 3) (ml_get 3) rfl 3 (by decide) (xr_17 5 rfl) rfl (v := .int (Xk 5)) rfl dX2_readDigits_58 ?_
            refine j_iconst h (v := 1) dX2_readDigits_61 (by decide) ?_
            refine j_iadd h dX2_readDigits_62 ?_
            refine j_put h inlX2 tyX2 tyX2_ok nmX2 (330 + 3) (ml_get 3) rfl 3 (by decide) (xr_17 5 rfl) rfl rfl rfl rfl (Nat.le_of_ble_eq_true rfl) dX2_readDigits_63 (u' := ((va_up G 0 M, upd Xk 5 ((Xk 5) + 1), A), b)) (ml_set rfl rfl) ?_
            refine j_iinc h (v := x + 1) (lv' := [(5, _), (4, _), (0, _), (1, _), (2, _), (3, _)]) dX2_readDigits_66 (k := 5) rfl rfl (by decide) rfl ?_
            refine j_goto h (tgt := 6) dX2_readDigits_69 (by decide) ?_
            refine j_sub h [2, 3, 4, 5, 1, 0] rfl ?_
            exact ih _ _ _ (dg_back hx hM c1) (hDk.s (hz2 ▸ Int32.not_le.mp c3)) (fun z hz hp => hf z (hz.trans (Eq.symm ((ite_n c1 (bd_eq hz2 (ite_n c3 (bd_eq hz4 (bd_eq hz5 (ite_n c6 (bd_eq hz7 rfl)))))))))) hp)
  refine j_sub h [2, 3, 4, 5, 1, 0] rfl ?_
  refine lp6 3 _ _ _ ⟨by decide, by decide, by decide⟩ hD0 (fun z8 hz8 hpz8 => ?_)
  refine j_aload_n h dX2_readDigits_72 rfl 0 rfl ?_
  refine j_get h inlX2 (330 + 3) (ml_get 3) rfl 1 (by decide) (xr_5 23 rfl) rfl (v := .ref (L 11 5)) rfl dX2_readDigits_73 ?_
  refine j_iload_n h dX2_readDigits_76 rfl 3 rfl ?_
  refine j_iload h dX2_readDigits_77 4 rfl ?_
  refine j_iastE h (330 + 5) (ml_get 5) p3.toNatClampNeg e3 (by omega) (by decide) dX2_readDigits_79 (u' := ((va_up G 0 M, z8.2.2, up2 A 1 p3.toNatClampNeg z8.2.1), b)) (ml_set rfl rfl) ?_
  refine j_iload h dX2_readDigits_80 5 rfl ?_
  refine j_if_le h (tgt := 89) dX2_readDigits_82 (by decide) (fun c9 => ?_) (fun c9 => ?_)
  · refine j_iconst h (v := 0) dX2_readDigits_89 (by decide) ?_
    exact hR _ _ _ _ dX2_readDigits_90 (Or.inl rfl) ⟨(_, _), Eq.symm ((bd_eq hz8 (ite_p c9 rfl))), rfl, rfl, (Or.inl rfl), (RD.a hpz8)⟩
  · refine j_iconst h (v := 1) dX2_readDigits_85 (by decide) ?_
    refine j_goto h (tgt := 90) dX2_readDigits_86 (by decide) ?_
    exact hR _ _ _ _ dX2_readDigits_90 (Or.inr rfl) ⟨(_, _), Eq.symm ((bd_eq hz8 (ite_n c9 rfl))), rfl, rfl, (Or.inr rfl), (RD.a hpz8)⟩

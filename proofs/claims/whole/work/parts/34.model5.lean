/-- where the reading stands in the text -/
def TI (X : Nat → Int32) : Prop := vp_in (X 9) 61 ∧ vp_in (X 10) 61 ∧ X 10 ≤ X 9
theorem TI.lt2 {X : Nat → Int32} (h : TI X) (c : ¬ X 9 ≤ X 10) : vp_in (X 10) 60 := by
  obtain ⟨h1, h2, h3⟩ := h
  obtain ⟨a, ha, ea⟩ := vp_in_of h1 (by decide)
  obtain ⟨i, hi, ei⟩ := vp_in_of h2 (by decide)
  rw [ea, ei] at c
  rw [ei]
  have : ¬ a ≤ i := fun q => c (nI_le q (by omega))
  exact vp_in_nI (by omega) (by decide)
theorem TI.ne {X : Nat → Int32} (h : TI X) (c : ¬ X 10 = X 9) : ¬ X 9 ≤ X 10 := fun q => c (Int32.le_antisymm h.2.2 q)
theorem TI.lt {X : Nat → Int32} (h : TI X) (c : ¬ X 10 = X 9) : vp_in (X 10) 60 := h.lt2 (h.ne c)
theorem TI.next2 {X : Nat → Int32} (h : TI X) (c : ¬ X 9 ≤ X 10) : TI (upd X 10 (X 10 + 1)) := by
  obtain ⟨h1, h2, h3⟩ := h
  obtain ⟨a, ha, ea⟩ := vp_in_of h1 (by decide)
  obtain ⟨i, hi, ei⟩ := vp_in_of h2 (by decide)
  rw [ea, ei] at c
  have hc : ¬ a ≤ i := fun q => c (nI_le q (by omega))
  refine ⟨?_, ?_, ?_⟩
  · rw [upd_ne _ _ (by omega)]; exact h1
  · rw [upd_eq, ei, nI_1]; exact vp_in_nI (by omega) (by decide)
  · rw [upd_eq, upd_ne _ _ (by omega), ea, ei, nI_1]; exact nI_le (by omega) (by omega)
theorem TI.next {X : Nat → Int32} (h : TI X) (c : ¬ X 10 = X 9) : TI (upd X 10 (X 10 + 1)) := h.next2 (h.ne c)
theorem TI.o {X : Nat → Int32} {k : Nat} {v : Int32} (h : TI X) (h9 : k ≠ 9) (h10 : k ≠ 10) : TI (upd X k v) := by
  obtain ⟨h1, h2, h3⟩ := h
  refine ⟨?_, ?_, ?_⟩
  · rw [upd_ne _ _ (by omega)]; exact h1
  · rw [upd_ne _ _ (by omega)]; exact h2
  · rw [upd_ne _ _ (by omega), upd_ne _ _ (by omega)]; exact h3
theorem TI.on {X : Nat → Int32} {k : Nat} {v : Int32} (h : TI X) (c : ¬ X 10 = X 9) (h9 : k ≠ 9) (h10 : k ≠ 10) : TI (upd (upd X k v) 10 ((upd X k v) 10 + 1)) := TI.next (TI.o h h9 h10) (by rw [upd_ne _ _ (by omega), upd_ne _ _ (by omega)]; exact c)
/-- but for the reading's own three nothing has changed of the numbers, and it has not gone back -/
def FY (X0 X : Nat → Int32) : Prop := (∀ k, k ≠ 10 → k ≠ 11 → k ≠ 13 → X k = X0 k) ∧ (X0 10).toNatClampNeg ≤ (X 10).toNatClampNeg
theorem FY.rf {X : Nat → Int32} : FY X X := ⟨fun _ _ _ _ => rfl, Nat.le_refl _⟩
theorem FY.tr {X Y Z : Nat → Int32} (h : FY X Y) (g : FY Y Z) : FY X Z := ⟨fun k a b c => (g.1 k a b c).trans (h.1 k a b c), Nat.le_trans h.2 g.2⟩
theorem FY.o {X0 X : Nat → Int32} {k : Nat} {v : Int32} (h : FY X0 X) (hk : k = 11 ∨ k = 13) : FY X0 (upd X k v) := ⟨fun i a b c => by rw [upd_ne _ _ (by omega)]; exact h.1 i a b c, by rw [upd_ne _ _ (by omega)]; exact h.2⟩
theorem at_s {X : Nat → Int32} (h : vp_in (X 10) 60) : (X 10 + 1).toNatClampNeg = (X 10).toNatClampNeg + 1 := by
  obtain ⟨j, hj, e⟩ := vp_in_of h (by decide)
  rw [e, nI_1, nI_clamp (by omega), nI_clamp (by omega)]
theorem FY.nx {X0 X : Nat → Int32} (h : FY X0 X) (hv : vp_in (X 10) 60) : FY X0 (upd X 10 (X 10 + 1)) := ⟨fun i a b c => by rw [upd_ne _ _ a]; exact h.1 i a b c, by rw [upd_eq, at_s hv]; exact Nat.le_succ_of_le h.2⟩
theorem FY.on {X : Nat → Int32} {k : Nat} {v : Int32} (hv : vp_in (X 10) 60) (hk : k = 11 ∨ k = 13) : FY X (upd (upd X k v) 10 ((upd X k v) 10 + 1)) := FY.nx (FY.o FY.rf hk) (by rw [upd_ne _ _ (by omega)]; exact hv)
theorem dg_zero {x : Int32} (h : (3 : Int) ≤ x.toInt + ((0 : Nat) : Int) ∧ 0 ≤ x.toInt ∧ x.toInt ≤ 2) : False := by omega
theorem dg_back {x y : Int32} {n : Nat} (h : (3 : Int) ≤ x.toInt + ((n + 1 : Nat) : Int) ∧ 0 ≤ x.toInt ∧ x.toInt ≤ 2) (hy : y ≤ nI 2) (c : ¬ y ≤ x) : (3 : Int) ≤ (x + 1).toInt + ((n : Nat) : Int) ∧ 0 ≤ (x + 1).toInt ∧ (x + 1).toInt ≤ 2 := by
  have h1 := Int32.le_iff_toInt_le.mp hy
  have h2 : ¬ y.toInt ≤ x.toInt := fun q => c (Int32.le_iff_toInt_le.mpr q)
  rw [nI_toInt (by decide)] at h1
  have hx : ¬ x < 0 := fun q => by have := Int32.lt_iff_toInt_lt.mp q; rw [Int32.toInt_zero] at this; omega
  obtain ⟨j, hj, rfl⟩ := nI_of hx
  rw [nI_toInt hj] at h h2
  rw [nI_1, nI_toInt (by omega)]
  omega
theorem z_nar {v : Int32} (h : v = 0 ∨ v = 1) : narrow .boolean (.int v) = .int v := by rcases h with rfl | rfl <;> rfl
theorem z_fit {v : Int32} (h : v = 0 ∨ v = 1) : fits .boolean (.int v) = true := by rcases h with rfl | rfl <;> rfl
theorem c_nar {v : Int32} (h : ∃ q : Nat, q < 128 ∧ v = nI q) : narrow .char (.int v) = .int v := by
  obtain ⟨q, hq, rfl⟩ := h
  exact (pk_charN (by omega)).1
theorem c_fit {v : Int32} (h : ∃ q : Nat, q < 128 ∧ v = nI q) : fits .char (.int v) = true := by
  obtain ⟨q, hq, rfl⟩ := h
  exact (pk_charN (by omega)).2

def f_X8_isNext (X : Nat → Int32) (A : Nat → Nat → Int32) (p1 : Int32) : Int32 × (Nat → Int32) :=
  if (X 10) = (X 9) then
    (0, X)
  else
    if (A 5 ((X 10).toNatClampNeg)) = p1 then
      (1, upd X 10 ((X 10) + 1))
    else
      (0, X)
abbrev rm_X8_isNext : Room := { frames := 0, cells := 0, slots := 0, locals := 0 }
set_option maxRecDepth 100000 in
set_option maxHeartbeats 4000000 in
theorem c_X8_isNext (l : Launch) (D : gD) (cy : Nat → ClassId) (ad : Nat → Nat) (X : Nat → Int32) (A : Nat → Nat → Int32) (p1 : Int32) (hT : TI X) : CtI l D cy (MW cy ad) yX8_isNext cX8_isNext 2 (some .boolean) rm_X8_isNext [.ref (ad 0), .int p1] (X, A) (fun rv u => ∃ z : Int32 × ((Nat → Int32)), z = f_X8_isNext X A p1 ∧ rv = z.1 ∧ u = (z.2, A) ∧ (rv = 0 ∨ rv = 1)) 0 0 := by
  refine m_entZ cX8_isNext 2 (by decide) (Nat.le_of_ble_eq_true rfl) (fun J h hR => ?_)
  show J (X, A) (0, 0) [(0, .ref (ad 0)), (1, .int p1)] 0 []
  refine j_aload_n h dX8_isNext_0 rfl 0 rfl ?_
  refine j_get h inlX8 0 rfl rfl 10 (by decide) (xr_38 12 rfl) rfl (v := .int (X 10)) rfl dX8_isNext_1 ?_
  refine j_aload_n h dX8_isNext_4 rfl 0 rfl ?_
  refine j_get h inlX8 0 rfl rfl 9 (by decide) (xr_12 12 rfl) rfl (v := .int (X 9)) rfl dX8_isNext_5 ?_
  refine j_icmp_eq h (tgt := 24) dX8_isNext_8 (by decide) (fun c1 => ?_) (fun c1 => ?_)
  · refine j_iconst h (v := 0) dX8_isNext_24 (by decide) ?_
    exact hR _ _ _ _ dX8_isNext_25 (Or.inl rfl) ⟨(_, _), Eq.symm ((ite_p c1 rfl)), rfl, rfl, (Or.inl rfl)⟩
  · have vat : vp_in (X 10) 60 := hT.lt c1
    have bat : (X 10).toNatClampNeg < 60 := vp_lt vat
    have eat : X 10 = nI (X 10).toNatClampNeg := vp_nI vat (by decide)
    refine j_aload_n h dX8_isNext_11 rfl 0 rfl ?_
    refine j_get h inlX8 0 rfl rfl 8 (by decide) (xr_6 13 rfl) rfl (v := .ref (ad 6)) rfl dX8_isNext_12 ?_
    refine j_aload_n h dX8_isNext_15 rfl 0 rfl ?_
    refine j_get h inlX8 0 rfl rfl 10 (by decide) (xr_38 12 rfl) rfl (v := .int (X 10)) rfl dX8_isNext_16 ?_
    refine j_caldE h 6 rfl ((X 10).toNatClampNeg) eat (by omega) (by decide) dX8_isNext_19 ?_
    refine j_iload_n h dX8_isNext_20 rfl 1 rfl ?_
    refine j_icmp_eq h (tgt := 26) dX8_isNext_21 (by decide) (fun c2 => ?_) (fun c2 => ?_)
    · refine j_aload_n h dX8_isNext_26 rfl 0 rfl ?_
      refine j_dup h dX8_isNext_27 rfl ?_
      refine j_get h inlX8 0 rfl rfl 10 (by decide) (xr_38 12 rfl) rfl (v := .int (X 10)) rfl dX8_isNext_28 ?_
      refine j_iconst h (v := 1) dX8_isNext_31 (by decide) ?_
      refine j_iadd h dX8_isNext_32 ?_
      refine j_put h inlX8 tyX8 tyX8_ok nmX8 0 rfl rfl 10 (by decide) (xr_38 12 rfl) rfl rfl rfl rfl (Nat.le_of_ble_eq_true rfl) dX8_isNext_33 (u' := (upd X 10 ((X 10) + 1), A)) rfl ?_
      refine j_iconst h (v := 1) dX8_isNext_36 (by decide) ?_
      exact hR _ _ _ _ dX8_isNext_37 (Or.inr rfl) ⟨(_, _), Eq.symm ((ite_n c1 (ite_p c2 rfl))), rfl, rfl, (Or.inr rfl)⟩
    · refine j_iconst h (v := 0) dX8_isNext_24 (by decide) ?_
      exact hR _ _ _ _ dX8_isNext_25 (Or.inl rfl) ⟨(_, _), Eq.symm ((ite_n c1 (ite_n c2 rfl))), rfl, rfl, (Or.inl rfl)⟩

theorem TI_nx {X : Nat → Int32} {A : Nat → Nat → Int32} {p : Int32} {z : Int32 × (Nat → Int32)} (h : TI X) (hz : z = f_X8_isNext X A p) : TI z.2 := by
  unfold f_X8_isNext at hz
  split at hz
  · rw [hz]; exact h
  · rename_i c
    split at hz
    · rw [hz]; exact h.next c
    · rw [hz]; exact h

theorem FY_nx {X : Nat → Int32} {A : Nat → Nat → Int32} {p : Int32} {z : Int32 × (Nat → Int32)} (h : TI X) (hz : z = f_X8_isNext X A p) : FY X z.2 ∧ (¬ z.1 = 0 → (X 10).toNatClampNeg + 1 ≤ (z.2 10).toNatClampNeg) := by
  unfold f_X8_isNext at hz
  split at hz
  · rw [hz]; exact ⟨FY.rf, fun q => absurd rfl q⟩
  · rename_i c
    split at hz
    · rw [hz]
      refine ⟨FY.rf.nx (h.lt c), fun _ => ?_⟩
      show _ ≤ (upd X 10 (X 10 + 1) 10).toNatClampNeg
      rw [upd_eq, at_s (h.lt c)]
      exact Nat.le_refl _
    · rw [hz]; exact ⟨FY.rf, fun q => absurd rfl q⟩

def f_X8_digits_l9 (p1 : Int32) (p2 : Int32) : Nat → Int32 → (Nat → Int32) → (Nat → Nat → Int32) → Int32 × (Nat → Int32) × (Nat → Nat → Int32)
  | 0, x, Xk, Ak => (x, Xk, Ak)
  | n + 1, x, Xk, Ak =>
    if p2 ≤ x then
      (x, Xk, Ak)
    else
      if (Xk 9) ≤ (Xk 10) then
        (x, Xk, Ak)
      else
        bd (f_X8_in Xk Ak (Ak 5 ((Xk 10).toNatClampNeg)) 48 57) fun z3 =>
        if z3 = 0 then
          (x, Xk, Ak)
        else
          f_X8_digits_l9 p1 p2 n (x + 1) (upd Xk 10 ((Xk 10) + 1)) (up2 Ak 6 p1.toNatClampNeg (((10 * (Ak 6 p1.toNatClampNeg)) + (Ak 5 ((Xk 10).toNatClampNeg))) - 48))
def f_X8_digits (X : Nat → Int32) (A : Nat → Nat → Int32) (p1 : Int32) (p2 : Int32) : Int32 × (Nat → Int32) × (Nat → Nat → Int32) :=
  bd (f_X8_digits_l9 p1 p2 3 0 X (up2 A 6 p1.toNatClampNeg 0)) fun z5 =>
  if z5.1 ≤ 0 then
    (0, (z5.2.1, z5.2.2))
  else
    (1, (z5.2.1, z5.2.2))
abbrev rm_X8_digits : Room := { frames := 1, cells := 0, slots := 0, locals := 22 }
set_option maxRecDepth 100000 in
set_option maxHeartbeats 4000000 in
theorem c_X8_digits (l : Launch) (D : gD) (cy : Nat → ClassId) (ad : Nat → Nat) (X : Nat → Int32) (A : Nat → Nat → Int32) (p1 : Int32) (p2 : Int32) (v1 : vp_in p1 4) (hT : TI X) (hM : p2 ≤ nI 2) (hI : MI A) : CtI l D cy (MW cy ad) yX8_digits cX8_digits 4 (some .boolean) rm_X8_digits [.ref (ad 0), .int p1, .int p2] (X, A) (fun rv u => ∃ z : Int32 × ((Nat → Int32) × (Nat → Nat → Int32)), z = f_X8_digits X A p1 p2 ∧ rv = z.1 ∧ u = z.2 ∧ (rv = 0 ∨ rv = 1) ∧ TI (z.2.1) ∧ MI (z.2.2) ∧ FY X (z.2.1)) 0 0 := by
  refine m_entZ cX8_digits 4 (by decide) (Nat.le_of_ble_eq_true rfl) (fun J h hR => ?_)
  show J (X, A) (0, 0) [(0, .ref (ad 0)), (1, .int p1), (2, .int p2)] 0 []
  have b1 : p1.toNatClampNeg < 4 := vp_lt v1
  have e1 : p1 = nI p1.toNatClampNeg := vp_nI v1 (by decide)
  refine j_iconst h (v := 0) dX8_digits_0 (by decide) ?_
  refine j_istore_n h (lv' := [(3, _), (0, _), (1, _), (2, _)]) dX8_digits_1 rfl (by decide) rfl ?_
  refine j_aload_n h dX8_digits_2 rfl 1 rfl ?_
  refine j_get h inlX8 0 rfl rfl 12 (by decide) (xr_6 14 rfl) rfl (v := .ref (ad 7)) rfl dX8_digits_3 ?_
  refine j_iload_n h dX8_digits_6 rfl 2 rfl ?_
  refine j_iconst h (v := 0) dX8_digits_7 (by decide) ?_
  refine j_iastE h 7 rfl p1.toNatClampNeg e1 (by omega) (by decide) dX8_digits_8 (u' := (X, up2 A 6 p1.toNatClampNeg 0)) rfl ?_
  have lp9 : ∀ (n : Nat) (x : Int32) (Xk : Nat → Int32) (Ak : Nat → Nat → Int32), (3 : Int) ≤ x.toInt + (n : Int) ∧ 0 ≤ x.toInt ∧ x.toInt ≤ 2 → TI Xk → MI Ak → FY X Xk → (∀ z : Int32 × (Nat → Int32) × (Nat → Nat → Int32), z = f_X8_digits_l9 p1 p2 n x Xk Ak → (TI z.2.1 ∧ MI z.2.2 ∧ FY X z.2.1) → J (z.2.1, z.2.2) (0, 0) [(0, .ref (ad 0)), (1, .int p1), (2, .int p2), (3, .int z.1)] 85 []) → J (Xk, Ak) (0, 0) [(0, .ref (ad 0)), (1, .int p1), (2, .int p2), (3, .int x)] 9 [] := by
    intro n
    induction n with
    | zero => intro x Xk Ak hx hTk hMk hFk hf; exact absurd hx dg_zero
    | succ n ih =>
      intro x Xk Ak hx hTk hMk hFk hf
      refine j_iload_n h dX8_digits_9 rfl 3 rfl ?_
      refine j_iload_n h dX8_digits_10 rfl 2 rfl ?_
      refine j_icmp_ge h (tgt := 85) dX8_digits_11 (by decide) (fun c1 => ?_) (fun c1 => ?_)
      · refine j_sub h [0, 1, 2, 3] rfl ?_
        exact hf (_, _, _) (Eq.symm ((ite_p c1 rfl))) ⟨hTk, hMk, hFk⟩
      · refine j_aload_n h dX8_digits_14 rfl 0 rfl ?_
        refine j_get h inlX8 0 rfl rfl 10 (by decide) (xr_38 12 rfl) rfl (v := .int (Xk 10)) rfl dX8_digits_15 ?_
        refine j_aload_n h dX8_digits_18 rfl 0 rfl ?_
        refine j_get h inlX8 0 rfl rfl 9 (by decide) (xr_12 12 rfl) rfl (v := .int (Xk 9)) rfl dX8_digits_19 ?_
        refine j_icmp_ge h (tgt := 85) dX8_digits_22 (by decide) (fun c2 => ?_) (fun c2 => ?_)
        · refine j_sub h [0, 1, 2, 3] rfl ?_
          exact hf (_, _, _) (Eq.symm ((ite_n c1 (ite_p c2 rfl)))) ⟨hTk, hMk, hFk⟩
        · have vat : vp_in (Xk 10) 60 := hTk.lt2 c2
          have bat : (Xk 10).toNatClampNeg < 60 := vp_lt vat
          have eat : Xk 10 = nI (Xk 10).toNatClampNeg := vp_nI vat (by decide)
          refine j_aload_n h dX8_digits_25 rfl 0 rfl ?_
          refine j_get h inlX8 0 rfl rfl 8 (by decide) (xr_6 13 rfl) rfl (v := .ref (ad 6)) rfl dX8_digits_26 ?_
          refine j_aload_n h dX8_digits_29 rfl 0 rfl ?_
          refine j_get h inlX8 0 rfl rfl 10 (by decide) (xr_38 12 rfl) rfl (v := .int (Xk 10)) rfl dX8_digits_30 ?_
          refine j_caldE h 6 rfl ((Xk 10).toNatClampNeg) eat (by omega) (by decide) dX8_digits_33 ?_
          refine j_bipush h (v := 48) dX8_digits_34 (by decide) ?_
          refine j_bipush h (v := 57) dX8_digits_36 (by decide) ?_
          refine j_callS h (n := 3) (c_X8_in l D cy ad _ _ _ _ _) (xg_S (xr_12 13 rfl) (xr_12 14 rfl) (xr_1 5 rfl) (xr_12 15 rfl)) rfl rfl (by decide +kernel) ⟨Nat.le_of_ble_eq_true rfl, Nat.le_of_ble_eq_true rfl⟩  rfl rfl (Nat.le_of_ble_eq_true rfl) dX8_digits_38 ⟨by decide, by decide⟩ (fun z3 u' hq => ?_)
          obtain ⟨hz3, rfl, bz3⟩ := hq
          refine j_if_eq h (tgt := 85) dX8_digits_41 (by decide) (fun c4 => ?_) (fun c4 => ?_)
          · refine j_sub h [0, 1, 2, 3] rfl ?_
            exact hf (_, _, _) (Eq.symm ((ite_n c1 (ite_n c2 (bd_eq hz3 (ite_p c4 rfl)))))) ⟨hTk, hMk, hFk⟩
          · refine j_aload_n h dX8_digits_44 rfl 0 rfl ?_
            refine j_get h inlX8 0 rfl rfl 12 (by decide) (xr_6 14 rfl) rfl (v := .ref (ad 7)) rfl dX8_digits_45 ?_
            refine j_iload_n h dX8_digits_48 rfl 1 rfl ?_
            refine j_bipush h (v := 10) dX8_digits_49 (by decide) ?_
            refine j_aload_n h dX8_digits_51 rfl 0 rfl ?_
            refine j_get h inlX8 0 rfl rfl 12 (by decide) (xr_6 14 rfl) rfl (v := .ref (ad 7)) rfl dX8_digits_52 ?_
            refine j_iload_n h dX8_digits_55 rfl 1 rfl ?_
            refine j_ialdE h 7 rfl p1.toNatClampNeg e1 (by omega) (by decide) dX8_digits_56 ?_
            refine j_imul h dX8_digits_57 ?_
            refine j_aload_n h dX8_digits_58 rfl 0 rfl ?_
            refine j_get h inlX8 0 rfl rfl 8 (by decide) (xr_6 13 rfl) rfl (v := .ref (ad 6)) rfl dX8_digits_59 ?_
            refine j_aload_n h dX8_digits_62 rfl 0 rfl ?_
            refine j_dup h dX8_digits_63 rfl ?_
            refine j_get h inlX8 0 rfl rfl 10 (by decide) (xr_38 12 rfl) rfl (v := .int (Xk 10)) rfl dX8_digits_64 ?_
            refine j_dup_x1 h dX8_digits_67 rfl rfl ?_
            refine j_iconst h (v := 1) dX8_digits_68 (by decide) ?_
            refine j_iadd h dX8_digits_69 ?_
            refine j_put h inlX8 tyX8 tyX8_ok nmX8 0 rfl rfl 10 (by decide) (xr_38 12 rfl) rfl rfl rfl rfl (Nat.le_of_ble_eq_true rfl) dX8_digits_70 (u' := (upd Xk 10 ((Xk 10) + 1), Ak)) rfl ?_
            refine j_caldE h 6 rfl ((Xk 10).toNatClampNeg) eat (by omega) (by decide) dX8_digits_73 ?_
            refine j_iadd h dX8_digits_74 ?_
            refine j_bipush h (v := 48) dX8_digits_75 (by decide) ?_
            refine j_isub h dX8_digits_77 ?_
            refine j_iastE h 7 rfl p1.toNatClampNeg e1 (by omega) (by decide) dX8_digits_78 (u' := (upd Xk 10 ((Xk 10) + 1), up2 Ak 6 p1.toNatClampNeg (((10 * (Ak 6 p1.toNatClampNeg)) + (Ak 5 ((Xk 10).toNatClampNeg))) - 48))) rfl ?_
            refine j_iinc h (v := x + 1) (lv' := [(3, _), (0, _), (1, _), (2, _)]) dX8_digits_79 (k := 3) rfl rfl (by decide) rfl ?_
            refine j_goto h (tgt := 9) dX8_digits_82 (by decide) ?_
            refine j_sub h [1, 2, 3, 0] rfl ?_
            exact ih _ _ _ (dg_back hx hM c1) (hTk.next2 c2) (MI_ne hMk (by decide) (by decide)) (FY.nx hFk vat) (fun z hz hp => hf z (hz.trans (Eq.symm ((ite_n c1 (ite_n c2 (bd_eq hz3 (ite_n c4 rfl))))))) hp)
  refine j_sub h [1, 2, 3, 0] rfl ?_
  refine lp9 3 _ _ _ ⟨by decide, by decide, by decide⟩ hT (MI_ne hI (by decide) (by decide)) FY.rf (fun z5 hz5 hpz5 => ?_)
  refine j_iload_n h dX8_digits_85 rfl 3 rfl ?_
  refine j_if_le h (tgt := 93) dX8_digits_86 (by decide) (fun c6 => ?_) (fun c6 => ?_)
  · refine j_iconst h (v := 0) dX8_digits_93 (by decide) ?_
    exact hR _ _ _ _ dX8_digits_94 (Or.inl rfl) ⟨(_, _), Eq.symm ((bd_eq hz5 (ite_p c6 rfl))), rfl, rfl, (Or.inl rfl), hpz5.1, hpz5.2.1, hpz5.2.2⟩
  · refine j_iconst h (v := 1) dX8_digits_89 (by decide) ?_
    refine j_goto h (tgt := 94) dX8_digits_90 (by decide) ?_
    exact hR _ _ _ _ dX8_digits_94 (Or.inr rfl) ⟨(_, _), Eq.symm ((bd_eq hz5 (ite_n c6 rfl))), rfl, rfl, (Or.inr rfl), hpz5.1, hpz5.2.1, hpz5.2.2⟩

def f_X8_side (X : Nat → Int32) (A : Nat → Nat → Int32) : Int32 × (Nat → Int32) :=
  bd (f_X8_isNext X A 43) fun z1 =>
  if ((upd z1.2 13 z1.1) 13) = 0 then
    bd (f_X8_isNext (upd z1.2 13 z1.1) A 45) fun z3 =>
    if z3.1 = 0 then
      (0, z3.2)
    else
      (1, z3.2)
  else
    (1, upd z1.2 13 z1.1)
abbrev rm_X8_side : Room := { frames := 1, cells := 0, slots := 0, locals := 21 }
set_option maxRecDepth 100000 in
set_option maxHeartbeats 4000000 in
theorem c_X8_side (l : Launch) (D : gD) (cy : Nat → ClassId) (ad : Nat → Nat) (X : Nat → Int32) (A : Nat → Nat → Int32) (hT : TI X) : CtI l D cy (MW cy ad) yX8_side cX8_side 1 (some .boolean) rm_X8_side [.ref (ad 0)] (X, A) (fun rv u => ∃ z : Int32 × ((Nat → Int32)), z = f_X8_side X A ∧ rv = z.1 ∧ u = (z.2, A) ∧ (rv = 0 ∨ rv = 1) ∧ TI (z.2) ∧ FY X (z.2)) 0 0 := by
  refine m_entZ cX8_side 1 (by decide) (Nat.le_of_ble_eq_true rfl) (fun J h hR => ?_)
  show J (X, A) (0, 0) [(0, .ref (ad 0))] 0 []
  refine j_aload_n h dX8_side_0 rfl 0 rfl ?_
  refine j_aload_n h dX8_side_1 rfl 0 rfl ?_
  refine j_bipush h (v := 43) dX8_side_2 (by decide) ?_
  refine j_callI h (n := 1) (c_X8_isNext l D cy ad _ _ _ hT) (xg_V (xr_38 22 rfl) (xr_38 23 rfl) (xr_39 0 rfl) (xr_1 5 rfl) (xr_39 1 rfl)) rfl rfl (by decide +kernel) ⟨Nat.le_of_ble_eq_true rfl, Nat.le_of_ble_eq_true rfl⟩ 0 rfl rfl rfl rfl rfl (Nat.le_of_ble_eq_true rfl) dX8_side_4 ⟨by decide, by decide⟩ (fun r u' hq => ?_)
  obtain ⟨z1, hz1, rfl, rfl, bz1⟩ := hq
  have hTz1 : TI z1.2 := TI_nx hT hz1
  have hFz1 := FY_nx hT hz1
  refine j_put h inlX8 tyX8 tyX8_ok nmX8 0 rfl rfl 13 (by decide) (xr_39 6 rfl) rfl rfl (z_nar bz1) (z_fit bz1) (Nat.le_of_ble_eq_true rfl) dX8_side_7 (u' := (upd z1.2 13 z1.1, A)) rfl ?_
  refine j_aload_n h dX8_side_10 rfl 0 rfl ?_
  refine j_get h inlX8 0 rfl rfl 13 (by decide) (xr_39 6 rfl) rfl (v := .int ((upd z1.2 13 z1.1) 13)) rfl dX8_side_11 ?_
  refine j_if_ne h (tgt := 26) dX8_side_14 (by decide) (fun c2 => ?_) (fun c2 => ?_)
  · refine j_iconst h (v := 1) dX8_side_26 (by decide) ?_
    refine j_goto h (tgt := 31) dX8_side_27 (by decide) ?_
    exact hR _ _ _ _ dX8_side_31 (Or.inr rfl) ⟨(_, _), Eq.symm ((bd_eq hz1 (ite_n c2 rfl))), rfl, rfl, (Or.inr rfl), (TI.o hTz1 (by decide) (by decide)), (FY.o (FY.tr FY.rf hFz1.1) (by decide))⟩
  · refine j_aload_n h dX8_side_17 rfl 0 rfl ?_
    refine j_bipush h (v := 45) dX8_side_18 (by decide) ?_
    refine j_callI h (n := 1) (c_X8_isNext l D cy ad _ _ _ (TI.o hTz1 (by decide) (by decide))) (xg_V (xr_38 22 rfl) (xr_38 23 rfl) (xr_39 0 rfl) (xr_1 5 rfl) (xr_39 1 rfl)) rfl rfl (by decide +kernel) ⟨Nat.le_of_ble_eq_true rfl, Nat.le_of_ble_eq_true rfl⟩ 0 rfl rfl rfl rfl rfl (Nat.le_of_ble_eq_true rfl) dX8_side_20 ⟨by decide, by decide⟩ (fun r u' hq => ?_)
    obtain ⟨z3, hz3, rfl, rfl, bz3⟩ := hq
    have hTz3 : TI z3.2 := TI_nx (TI.o hTz1 (by decide) (by decide)) hz3
    have hFz3 := FY_nx (TI.o hTz1 (by decide) (by decide)) hz3
    refine j_if_eq h (tgt := 30) dX8_side_23 (by decide) (fun c4 => ?_) (fun c4 => ?_)
    · refine j_iconst h (v := 0) dX8_side_30 (by decide) ?_
      exact hR _ _ _ _ dX8_side_31 (Or.inl rfl) ⟨(_, _), Eq.symm ((bd_eq hz1 (ite_p c2 (bd_eq hz3 (ite_p c4 rfl))))), rfl, rfl, (Or.inl rfl), hTz3, (FY.tr (FY.o (FY.tr FY.rf hFz1.1) (by decide)) hFz3.1)⟩
    · refine j_iconst h (v := 1) dX8_side_26 (by decide) ?_
      refine j_goto h (tgt := 31) dX8_side_27 (by decide) ?_
      exact hR _ _ _ _ dX8_side_31 (Or.inr rfl) ⟨(_, _), Eq.symm ((bd_eq hz1 (ite_p c2 (bd_eq hz3 (ite_n c4 rfl))))), rfl, rfl, (Or.inr rfl), hTz3, (FY.tr (FY.o (FY.tr FY.rf hFz1.1) (by decide)) hFz3.1)⟩

def f_X8_isOrder (X : Nat → Int32) (A : Nat → Nat → Int32) : Int32 × (Nat → Int32) × (Nat → Nat → Int32) :=
  if (X 10) = (X 9) then
    (0, (X, A))
  else
    if ((upd X 11 (A 5 ((X 10).toNatClampNeg))) 11) = 98 then
      bd (f_X8_digits (upd (upd X 11 (A 5 ((X 10).toNatClampNeg))) 10 (((upd X 11 (A 5 ((X 10).toNatClampNeg))) 10) + 1)) A 0 1) fun z3 =>
      if z3.1 = 0 then
        (0, (z3.2.1, z3.2.2))
      else
        bd (f_X8_isNext z3.2.1 z3.2.2 44) fun z5 =>
        if z5.1 = 0 then
          (0, (z5.2, z3.2.2))
        else
          bd (f_X8_digits z5.2 z3.2.2 1 2) fun z7 =>
          if z7.1 = 0 then
            (0, (z7.2.1, z7.2.2))
          else
            bd (f_X8_isNext z7.2.1 z7.2.2 64) fun z9 =>
            if z9.1 = 0 then
              (0, (z9.2, z7.2.2))
            else
              bd (f_X8_digits z9.2 z7.2.2 2 2) fun z11 =>
              if z11.1 = 0 then
                (0, (z11.2.1, z11.2.2))
              else
                bd (f_X8_isNext z11.2.1 z11.2.2 42) fun z13 =>
                if z13.1 = 0 then
                  (0, (z13.2, z11.2.2))
                else
                  bd (f_X8_digits z13.2 z11.2.2 3 2) fun z15 =>
                  if z15.1 = 0 then
                    (0, (z15.2.1, z15.2.2))
                  else
                    bd (f_X8_side z15.2.1 z15.2.2) fun z17 =>
                    if z17.1 = 0 then
                      (0, (z17.2, z15.2.2))
                    else
                      (1, (z17.2, z15.2.2))
    else
      if ((upd X 11 (A 5 ((X 10).toNatClampNeg))) 11) = 99 then
        bd (f_X8_digits (upd (upd X 11 (A 5 ((X 10).toNatClampNeg))) 10 (((upd X 11 (A 5 ((X 10).toNatClampNeg))) 10) + 1)) A 0 1) fun z20 =>
        (z20.1, (z20.2.1, z20.2.2))
      else
        if ((upd X 11 (A 5 ((X 10).toNatClampNeg))) 11) = 100 then
          (0, (upd X 11 (A 5 ((X 10).toNatClampNeg)), A))
        else
          if ((upd X 11 (A 5 ((X 10).toNatClampNeg))) 11) = 101 then
            bd (f_X8_digits (upd (upd X 11 (A 5 ((X 10).toNatClampNeg))) 10 (((upd X 11 (A 5 ((X 10).toNatClampNeg))) 10) + 1)) A 0 1) fun z23 =>
            if z23.1 = 0 then
              (0, (z23.2.1, z23.2.2))
            else
              bd (f_X8_isNext z23.2.1 z23.2.2 58) fun z25 =>
              if z25.1 = 0 then
                (0, (z25.2, z23.2.2))
              else
                bd (f_X8_digits z25.2 z23.2.2 1 2) fun z27 =>
                if z27.1 = 0 then
                  (0, (z27.2.1, z27.2.2))
                else
                  (1, (z27.2.1, z27.2.2))
          else
            if ((upd X 11 (A 5 ((X 10).toNatClampNeg))) 11) = 102 then
              (0, (upd X 11 (A 5 ((X 10).toNatClampNeg)), A))
            else
              if ((upd X 11 (A 5 ((X 10).toNatClampNeg))) 11) = 103 then
                (0, (upd X 11 (A 5 ((X 10).toNatClampNeg)), A))
              else
                if ((upd X 11 (A 5 ((X 10).toNatClampNeg))) 11) = 104 then
                  bd (f_X8_digits (upd (upd X 11 (A 5 ((X 10).toNatClampNeg))) 10 (((upd X 11 (A 5 ((X 10).toNatClampNeg))) 10) + 1)) A 0 2) fun z32 =>
                  (z32.1, (z32.2.1, z32.2.2))
                else
                  if ((upd X 11 (A 5 ((X 10).toNatClampNeg))) 11) = 105 then
                    (0, (upd X 11 (A 5 ((X 10).toNatClampNeg)), A))
                  else
                    if ((upd X 11 (A 5 ((X 10).toNatClampNeg))) 11) = 106 then
                      (0, (upd X 11 (A 5 ((X 10).toNatClampNeg)), A))
                    else
                      if ((upd X 11 (A 5 ((X 10).toNatClampNeg))) 11) = 107 then
                        (0, (upd X 11 (A 5 ((X 10).toNatClampNeg)), A))
                      else
                        if ((upd X 11 (A 5 ((X 10).toNatClampNeg))) 11) = 108 then
                          (0, (upd X 11 (A 5 ((X 10).toNatClampNeg)), A))
                        else
                          if ((upd X 11 (A 5 ((X 10).toNatClampNeg))) 11) = 109 then
                            (0, (upd X 11 (A 5 ((X 10).toNatClampNeg)), A))
                          else
                            if ((upd X 11 (A 5 ((X 10).toNatClampNeg))) 11) = 110 then
                              (0, (upd X 11 (A 5 ((X 10).toNatClampNeg)), A))
                            else
                              if ((upd X 11 (A 5 ((X 10).toNatClampNeg))) 11) = 111 then
                                (0, (upd X 11 (A 5 ((X 10).toNatClampNeg)), A))
                              else
                                if ((upd X 11 (A 5 ((X 10).toNatClampNeg))) 11) = 112 then
                                  (0, (upd X 11 (A 5 ((X 10).toNatClampNeg)), A))
                                else
                                  if ((upd X 11 (A 5 ((X 10).toNatClampNeg))) 11) = 113 then
                                    (0, (upd X 11 (A 5 ((X 10).toNatClampNeg)), A))
                                  else
                                    if ((upd X 11 (A 5 ((X 10).toNatClampNeg))) 11) = 114 then
                                      bd (f_X8_digits (upd (upd X 11 (A 5 ((X 10).toNatClampNeg))) 10 (((upd X 11 (A 5 ((X 10).toNatClampNeg))) 10) + 1)) A 0 1) fun z43 =>
                                      (z43.1, (z43.2.1, z43.2.2))
                                    else
                                      if ((upd X 11 (A 5 ((X 10).toNatClampNeg))) 11) = 115 then
                                        bd (f_X8_digits (upd (upd X 11 (A 5 ((X 10).toNatClampNeg))) 10 (((upd X 11 (A 5 ((X 10).toNatClampNeg))) 10) + 1)) A 0 1) fun z45 =>
                                        (z45.1, (z45.2.1, z45.2.2))
                                      else
                                        if ((upd X 11 (A 5 ((X 10).toNatClampNeg))) 11) = 116 then
                                          bd (f_X8_digits (upd (upd X 11 (A 5 ((X 10).toNatClampNeg))) 10 (((upd X 11 (A 5 ((X 10).toNatClampNeg))) 10) + 1)) A 0 1) fun z47 =>
                                          (z47.1, (z47.2.1, z47.2.2))
                                        else
                                          if ((upd X 11 (A 5 ((X 10).toNatClampNeg))) 11) = 117 then
                                            (0, (upd X 11 (A 5 ((X 10).toNatClampNeg)), A))
                                          else
                                            if ((upd X 11 (A 5 ((X 10).toNatClampNeg))) 11) = 118 then
                                              (0, (upd X 11 (A 5 ((X 10).toNatClampNeg)), A))
                                            else
                                              if ((upd X 11 (A 5 ((X 10).toNatClampNeg))) 11) = 119 then
                                                bd (f_X8_digits (upd (upd X 11 (A 5 ((X 10).toNatClampNeg))) 10 (((upd X 11 (A 5 ((X 10).toNatClampNeg))) 10) + 1)) A 0 1) fun z51 =>
                                                (z51.1, (z51.2.1, z51.2.2))
                                              else
                                                (0, (upd X 11 (A 5 ((X 10).toNatClampNeg)), A))
abbrev rm_X8_isOrder : Room := { frames := 2, cells := 0, slots := 0, locals := 45 }
set_option maxRecDepth 100000 in
set_option maxHeartbeats 4000000 in
theorem c_X8_isOrder (l : Launch) (D : gD) (cy : Nat → ClassId) (ad : Nat → Nat) (X : Nat → Int32) (A : Nat → Nat → Int32) (hT : TI X) (hI : MI A) : CtI l D cy (MW cy ad) yX8_isOrder cX8_isOrder 1 (some .boolean) rm_X8_isOrder [.ref (ad 0)] (X, A) (fun rv u => ∃ z : Int32 × ((Nat → Int32) × (Nat → Nat → Int32)), z = f_X8_isOrder X A ∧ rv = z.1 ∧ u = z.2 ∧ (rv = 0 ∨ rv = 1) ∧ TI (z.2.1) ∧ MI (z.2.2) ∧ FY X (z.2.1)) 0 0 := by
  refine m_entZ cX8_isOrder 1 (by decide) (Nat.le_of_ble_eq_true rfl) (fun J h hR => ?_)
  show J (X, A) (0, 0) [(0, .ref (ad 0))] 0 []
  refine j_aload_n h dX8_isOrder_0 rfl 0 rfl ?_
  refine j_get h inlX8 0 rfl rfl 10 (by decide) (xr_38 12 rfl) rfl (v := .int (X 10)) rfl dX8_isOrder_1 ?_
  refine j_aload_n h dX8_isOrder_4 rfl 0 rfl ?_
  refine j_get h inlX8 0 rfl rfl 9 (by decide) (xr_12 12 rfl) rfl (v := .int (X 9)) rfl dX8_isOrder_5 ?_
  refine j_icmp_ne h (tgt := 13) dX8_isOrder_8 (by decide) (fun c1 => ?_) (fun c1 => ?_)
  · have vat : vp_in (X 10) 60 := hT.lt c1
    have bat : (X 10).toNatClampNeg < 60 := vp_lt vat
    have eat : X 10 = nI (X 10).toNatClampNeg := vp_nI vat (by decide)
    refine j_aload_n h dX8_isOrder_13 rfl 0 rfl ?_
    refine j_aload_n h dX8_isOrder_14 rfl 0 rfl ?_
    refine j_get h inlX8 0 rfl rfl 8 (by decide) (xr_6 13 rfl) rfl (v := .ref (ad 6)) rfl dX8_isOrder_15 ?_
    refine j_aload_n h dX8_isOrder_18 rfl 0 rfl ?_
    refine j_get h inlX8 0 rfl rfl 10 (by decide) (xr_38 12 rfl) rfl (v := .int (X 10)) rfl dX8_isOrder_19 ?_
    refine j_caldE h 6 rfl ((X 10).toNatClampNeg) eat (by omega) (by decide) dX8_isOrder_22 ?_
    refine j_put h inlX8 tyX8 tyX8_ok nmX8 0 rfl rfl 11 (by decide) (xr_38 17 rfl) rfl rfl (c_nar (hI.2.2.2.2 _ bat)) (c_fit (hI.2.2.2.2 _ bat)) (Nat.le_of_ble_eq_true rfl) dX8_isOrder_23 (u' := (upd X 11 (A 5 ((X 10).toNatClampNeg)), A)) rfl ?_
    refine j_aload_n h dX8_isOrder_26 rfl 0 rfl ?_
    refine j_get h inlX8 0 rfl rfl 11 (by decide) (xr_38 17 rfl) rfl (v := .int ((upd X 11 (A 5 ((X 10).toNatClampNeg))) 11)) rfl dX8_isOrder_27 ?_
    by_cases c2 : ((upd X 11 (A 5 ((X 10).toNatClampNeg))) 11) = 98
    · refine j_tableIn h (tgt := 175) dX8_isOrder_30 (by rw [c2]; decide) (by rw [c2]; decide) (by rw [c2]; rfl) (by decide) ?_
      refine j_aload_n h dX8_isOrder_175 rfl 0 rfl ?_
      refine j_dup h dX8_isOrder_176 rfl ?_
      refine j_get h inlX8 0 rfl rfl 10 (by decide) (xr_38 12 rfl) rfl (v := .int ((upd X 11 (A 5 ((X 10).toNatClampNeg))) 10)) rfl dX8_isOrder_177 ?_
      refine j_iconst h (v := 1) dX8_isOrder_180 (by decide) ?_
      refine j_iadd h dX8_isOrder_181 ?_
      refine j_put h inlX8 tyX8 tyX8_ok nmX8 0 rfl rfl 10 (by decide) (xr_38 12 rfl) rfl rfl rfl rfl (Nat.le_of_ble_eq_true rfl) dX8_isOrder_182 (u' := (upd (upd X 11 (A 5 ((X 10).toNatClampNeg))) 10 (((upd X 11 (A 5 ((X 10).toNatClampNeg))) 10) + 1), A)) rfl ?_
      refine j_aload_n h dX8_isOrder_185 rfl 0 rfl ?_
      refine j_iconst h (v := 0) dX8_isOrder_186 (by decide) ?_
      refine j_iconst h (v := 1) dX8_isOrder_187 (by decide) ?_
      refine j_callI h (n := 2) (c_X8_digits l D cy ad _ _ _ _ (vp_in_nI (by decide) (by decide)) (TI.on hT c1 (by decide) (by decide)) (by decide) hI) (xg_V (xr_38 18 rfl) (xr_38 19 rfl) (xr_38 20 rfl) (xr_1 5 rfl) (xr_38 21 rfl)) rfl rfl (by decide +kernel) ⟨Nat.le_of_ble_eq_true rfl, Nat.le_of_ble_eq_true rfl⟩ 0 rfl rfl rfl rfl rfl (Nat.le_of_ble_eq_true rfl) dX8_isOrder_188 ⟨by decide, by decide⟩ (fun r u' hq => ?_)
      obtain ⟨z3, hz3, rfl, rfl, bz3, qz3_0, qz3_1, qz3_2⟩ := hq
      refine j_if_eq h (tgt := 259) dX8_isOrder_191 (by decide) (fun c4 => ?_) (fun c4 => ?_)
      · refine j_iconst h (v := 0) dX8_isOrder_259 (by decide) ?_
        exact hR _ _ _ _ dX8_isOrder_260 (Or.inl rfl) ⟨(_, _), Eq.symm ((ite_n c1 (ite_p c2 (bd_eq hz3 (ite_p c4 rfl))))), rfl, rfl, (Or.inl rfl), qz3_0, qz3_1, (FY.tr (FY.on vat (by decide)) qz3_2)⟩
      · refine j_aload_n h dX8_isOrder_194 rfl 0 rfl ?_
        refine j_bipush h (v := 44) dX8_isOrder_195 (by decide) ?_
        refine j_callI h (n := 1) (c_X8_isNext l D cy ad _ _ _ qz3_0) (xg_V (xr_38 22 rfl) (xr_38 23 rfl) (xr_39 0 rfl) (xr_1 5 rfl) (xr_39 1 rfl)) rfl rfl (by decide +kernel) ⟨Nat.le_of_ble_eq_true rfl, Nat.le_of_ble_eq_true rfl⟩ 0 rfl rfl rfl rfl rfl (Nat.le_of_ble_eq_true rfl) dX8_isOrder_197 ⟨by decide, by decide⟩ (fun r u' hq => ?_)
        obtain ⟨z5, hz5, rfl, rfl, bz5⟩ := hq
        have hTz5 : TI z5.2 := TI_nx qz3_0 hz5
        have hFz5 := FY_nx qz3_0 hz5
        refine j_if_eq h (tgt := 259) dX8_isOrder_200 (by decide) (fun c6 => ?_) (fun c6 => ?_)
        · refine j_iconst h (v := 0) dX8_isOrder_259 (by decide) ?_
          exact hR _ _ _ _ dX8_isOrder_260 (Or.inl rfl) ⟨(_, _), Eq.symm ((ite_n c1 (ite_p c2 (bd_eq hz3 (ite_n c4 (bd_eq hz5 (ite_p c6 rfl))))))), rfl, rfl, (Or.inl rfl), hTz5, qz3_1, (FY.tr (FY.tr (FY.on vat (by decide)) qz3_2) hFz5.1)⟩
        · refine j_aload_n h dX8_isOrder_203 rfl 0 rfl ?_
          refine j_iconst h (v := 1) dX8_isOrder_204 (by decide) ?_
          refine j_iconst h (v := 2) dX8_isOrder_205 (by decide) ?_
          refine j_callI h (n := 2) (c_X8_digits l D cy ad _ _ _ _ (vp_in_nI (by decide) (by decide)) hTz5 (by decide) qz3_1) (xg_V (xr_38 18 rfl) (xr_38 19 rfl) (xr_38 20 rfl) (xr_1 5 rfl) (xr_38 21 rfl)) rfl rfl (by decide +kernel) ⟨Nat.le_of_ble_eq_true rfl, Nat.le_of_ble_eq_true rfl⟩ 0 rfl rfl rfl rfl rfl (Nat.le_of_ble_eq_true rfl) dX8_isOrder_206 ⟨by decide, by decide⟩ (fun r u' hq => ?_)
          obtain ⟨z7, hz7, rfl, rfl, bz7, qz7_0, qz7_1, qz7_2⟩ := hq
          refine j_if_eq h (tgt := 259) dX8_isOrder_209 (by decide) (fun c8 => ?_) (fun c8 => ?_)
          · refine j_iconst h (v := 0) dX8_isOrder_259 (by decide) ?_
            exact hR _ _ _ _ dX8_isOrder_260 (Or.inl rfl) ⟨(_, _), Eq.symm ((ite_n c1 (ite_p c2 (bd_eq hz3 (ite_n c4 (bd_eq hz5 (ite_n c6 (bd_eq hz7 (ite_p c8 rfl))))))))), rfl, rfl, (Or.inl rfl), qz7_0, qz7_1, (FY.tr (FY.tr (FY.tr (FY.on vat (by decide)) qz3_2) hFz5.1) qz7_2)⟩
          · refine j_aload_n h dX8_isOrder_212 rfl 0 rfl ?_
            refine j_bipush h (v := 64) dX8_isOrder_213 (by decide) ?_
            refine j_callI h (n := 1) (c_X8_isNext l D cy ad _ _ _ qz7_0) (xg_V (xr_38 22 rfl) (xr_38 23 rfl) (xr_39 0 rfl) (xr_1 5 rfl) (xr_39 1 rfl)) rfl rfl (by decide +kernel) ⟨Nat.le_of_ble_eq_true rfl, Nat.le_of_ble_eq_true rfl⟩ 0 rfl rfl rfl rfl rfl (Nat.le_of_ble_eq_true rfl) dX8_isOrder_215 ⟨by decide, by decide⟩ (fun r u' hq => ?_)
            obtain ⟨z9, hz9, rfl, rfl, bz9⟩ := hq
            have hTz9 : TI z9.2 := TI_nx qz7_0 hz9
            have hFz9 := FY_nx qz7_0 hz9
            refine j_if_eq h (tgt := 259) dX8_isOrder_218 (by decide) (fun c10 => ?_) (fun c10 => ?_)
            · refine j_iconst h (v := 0) dX8_isOrder_259 (by decide) ?_
              exact hR _ _ _ _ dX8_isOrder_260 (Or.inl rfl) ⟨(_, _), Eq.symm ((ite_n c1 (ite_p c2 (bd_eq hz3 (ite_n c4 (bd_eq hz5 (ite_n c6 (bd_eq hz7 (ite_n c8 (bd_eq hz9 (ite_p c10 rfl))))))))))), rfl, rfl, (Or.inl rfl), hTz9, qz7_1, (FY.tr (FY.tr (FY.tr (FY.tr (FY.on vat (by decide)) qz3_2) hFz5.1) qz7_2) hFz9.1)⟩
            · refine j_aload_n h dX8_isOrder_221 rfl 0 rfl ?_
              refine j_iconst h (v := 2) dX8_isOrder_222 (by decide) ?_
              refine j_iconst h (v := 2) dX8_isOrder_223 (by decide) ?_
              refine j_callI h (n := 2) (c_X8_digits l D cy ad _ _ _ _ (vp_in_nI (by decide) (by decide)) hTz9 (by decide) qz7_1) (xg_V (xr_38 18 rfl) (xr_38 19 rfl) (xr_38 20 rfl) (xr_1 5 rfl) (xr_38 21 rfl)) rfl rfl (by decide +kernel) ⟨Nat.le_of_ble_eq_true rfl, Nat.le_of_ble_eq_true rfl⟩ 0 rfl rfl rfl rfl rfl (Nat.le_of_ble_eq_true rfl) dX8_isOrder_224 ⟨by decide, by decide⟩ (fun r u' hq => ?_)
              obtain ⟨z11, hz11, rfl, rfl, bz11, qz11_0, qz11_1, qz11_2⟩ := hq
              refine j_if_eq h (tgt := 259) dX8_isOrder_227 (by decide) (fun c12 => ?_) (fun c12 => ?_)
              · refine j_iconst h (v := 0) dX8_isOrder_259 (by decide) ?_
                exact hR _ _ _ _ dX8_isOrder_260 (Or.inl rfl) ⟨(_, _), Eq.symm ((ite_n c1 (ite_p c2 (bd_eq hz3 (ite_n c4 (bd_eq hz5 (ite_n c6 (bd_eq hz7 (ite_n c8 (bd_eq hz9 (ite_n c10 (bd_eq hz11 (ite_p c12 rfl))))))))))))), rfl, rfl, (Or.inl rfl), qz11_0, qz11_1, (FY.tr (FY.tr (FY.tr (FY.tr (FY.tr (FY.on vat (by decide)) qz3_2) hFz5.1) qz7_2) hFz9.1) qz11_2)⟩
              · refine j_aload_n h dX8_isOrder_230 rfl 0 rfl ?_
                refine j_bipush h (v := 42) dX8_isOrder_231 (by decide) ?_
                refine j_callI h (n := 1) (c_X8_isNext l D cy ad _ _ _ qz11_0) (xg_V (xr_38 22 rfl) (xr_38 23 rfl) (xr_39 0 rfl) (xr_1 5 rfl) (xr_39 1 rfl)) rfl rfl (by decide +kernel) ⟨Nat.le_of_ble_eq_true rfl, Nat.le_of_ble_eq_true rfl⟩ 0 rfl rfl rfl rfl rfl (Nat.le_of_ble_eq_true rfl) dX8_isOrder_233 ⟨by decide, by decide⟩ (fun r u' hq => ?_)
                obtain ⟨z13, hz13, rfl, rfl, bz13⟩ := hq
                have hTz13 : TI z13.2 := TI_nx qz11_0 hz13
                have hFz13 := FY_nx qz11_0 hz13
                refine j_if_eq h (tgt := 259) dX8_isOrder_236 (by decide) (fun c14 => ?_) (fun c14 => ?_)
                · refine j_iconst h (v := 0) dX8_isOrder_259 (by decide) ?_
                  exact hR _ _ _ _ dX8_isOrder_260 (Or.inl rfl) ⟨(_, _), Eq.symm ((ite_n c1 (ite_p c2 (bd_eq hz3 (ite_n c4 (bd_eq hz5 (ite_n c6 (bd_eq hz7 (ite_n c8 (bd_eq hz9 (ite_n c10 (bd_eq hz11 (ite_n c12 (bd_eq hz13 (ite_p c14 rfl))))))))))))))), rfl, rfl, (Or.inl rfl), hTz13, qz11_1, (FY.tr (FY.tr (FY.tr (FY.tr (FY.tr (FY.tr (FY.on vat (by decide)) qz3_2) hFz5.1) qz7_2) hFz9.1) qz11_2) hFz13.1)⟩
                · refine j_aload_n h dX8_isOrder_239 rfl 0 rfl ?_
                  refine j_iconst h (v := 3) dX8_isOrder_240 (by decide) ?_
                  refine j_iconst h (v := 2) dX8_isOrder_241 (by decide) ?_
                  refine j_callI h (n := 2) (c_X8_digits l D cy ad _ _ _ _ (vp_in_nI (by decide) (by decide)) hTz13 (by decide) qz11_1) (xg_V (xr_38 18 rfl) (xr_38 19 rfl) (xr_38 20 rfl) (xr_1 5 rfl) (xr_38 21 rfl)) rfl rfl (by decide +kernel) ⟨Nat.le_of_ble_eq_true rfl, Nat.le_of_ble_eq_true rfl⟩ 0 rfl rfl rfl rfl rfl (Nat.le_of_ble_eq_true rfl) dX8_isOrder_242 ⟨by decide, by decide⟩ (fun r u' hq => ?_)
                  obtain ⟨z15, hz15, rfl, rfl, bz15, qz15_0, qz15_1, qz15_2⟩ := hq
                  refine j_if_eq h (tgt := 259) dX8_isOrder_245 (by decide) (fun c16 => ?_) (fun c16 => ?_)
                  · refine j_iconst h (v := 0) dX8_isOrder_259 (by decide) ?_
                    exact hR _ _ _ _ dX8_isOrder_260 (Or.inl rfl) ⟨(_, _), Eq.symm ((ite_n c1 (ite_p c2 (bd_eq hz3 (ite_n c4 (bd_eq hz5 (ite_n c6 (bd_eq hz7 (ite_n c8 (bd_eq hz9 (ite_n c10 (bd_eq hz11 (ite_n c12 (bd_eq hz13 (ite_n c14 (bd_eq hz15 (ite_p c16 rfl))))))))))))))))), rfl, rfl, (Or.inl rfl), qz15_0, qz15_1, (FY.tr (FY.tr (FY.tr (FY.tr (FY.tr (FY.tr (FY.tr (FY.on vat (by decide)) qz3_2) hFz5.1) qz7_2) hFz9.1) qz11_2) hFz13.1) qz15_2)⟩
                  · refine j_aload_n h dX8_isOrder_248 rfl 0 rfl ?_
                    refine j_callI h (n := 0) (c_X8_side l D cy ad _ _ qz15_0) (xg_V (xr_39 2 rfl) (xr_39 3 rfl) (xr_39 4 rfl) (xr_1 5 rfl) (xr_39 5 rfl)) rfl rfl (by decide +kernel) ⟨Nat.le_of_ble_eq_true rfl, Nat.le_of_ble_eq_true rfl⟩ 0 rfl rfl rfl rfl rfl (Nat.le_of_ble_eq_true rfl) dX8_isOrder_249 ⟨by decide, by decide⟩ (fun r u' hq => ?_)
                    obtain ⟨z17, hz17, rfl, rfl, bz17, qz17_0, qz17_1⟩ := hq
                    refine j_if_eq h (tgt := 259) dX8_isOrder_252 (by decide) (fun c18 => ?_) (fun c18 => ?_)
                    · refine j_iconst h (v := 0) dX8_isOrder_259 (by decide) ?_
                      exact hR _ _ _ _ dX8_isOrder_260 (Or.inl rfl) ⟨(_, _), Eq.symm ((ite_n c1 (ite_p c2 (bd_eq hz3 (ite_n c4 (bd_eq hz5 (ite_n c6 (bd_eq hz7 (ite_n c8 (bd_eq hz9 (ite_n c10 (bd_eq hz11 (ite_n c12 (bd_eq hz13 (ite_n c14 (bd_eq hz15 (ite_n c16 (bd_eq hz17 (ite_p c18 rfl))))))))))))))))))), rfl, rfl, (Or.inl rfl), qz17_0, qz15_1, (FY.tr (FY.tr (FY.tr (FY.tr (FY.tr (FY.tr (FY.tr (FY.tr (FY.on vat (by decide)) qz3_2) hFz5.1) qz7_2) hFz9.1) qz11_2) hFz13.1) qz15_2) qz17_1)⟩
                    · refine j_iconst h (v := 1) dX8_isOrder_255 (by decide) ?_
                      refine j_goto h (tgt := 260) dX8_isOrder_256 (by decide) ?_
                      exact hR _ _ _ _ dX8_isOrder_260 (Or.inr rfl) ⟨(_, _), Eq.symm ((ite_n c1 (ite_p c2 (bd_eq hz3 (ite_n c4 (bd_eq hz5 (ite_n c6 (bd_eq hz7 (ite_n c8 (bd_eq hz9 (ite_n c10 (bd_eq hz11 (ite_n c12 (bd_eq hz13 (ite_n c14 (bd_eq hz15 (ite_n c16 (bd_eq hz17 (ite_n c18 rfl))))))))))))))))))), rfl, rfl, (Or.inr rfl), qz17_0, qz15_1, (FY.tr (FY.tr (FY.tr (FY.tr (FY.tr (FY.tr (FY.tr (FY.tr (FY.on vat (by decide)) qz3_2) hFz5.1) qz7_2) hFz9.1) qz11_2) hFz13.1) qz15_2) qz17_1)⟩
    by_cases c19 : ((upd X 11 (A 5 ((X 10).toNatClampNeg))) 11) = 99
    · refine j_tableIn h (tgt := 261) dX8_isOrder_30 (by rw [c19]; decide) (by rw [c19]; decide) (by rw [c19]; rfl) (by decide) ?_
      refine j_aload_n h dX8_isOrder_261 rfl 0 rfl ?_
      refine j_dup h dX8_isOrder_262 rfl ?_
      refine j_get h inlX8 0 rfl rfl 10 (by decide) (xr_38 12 rfl) rfl (v := .int ((upd X 11 (A 5 ((X 10).toNatClampNeg))) 10)) rfl dX8_isOrder_263 ?_
      refine j_iconst h (v := 1) dX8_isOrder_266 (by decide) ?_
      refine j_iadd h dX8_isOrder_267 ?_
      refine j_put h inlX8 tyX8 tyX8_ok nmX8 0 rfl rfl 10 (by decide) (xr_38 12 rfl) rfl rfl rfl rfl (Nat.le_of_ble_eq_true rfl) dX8_isOrder_268 (u' := (upd (upd X 11 (A 5 ((X 10).toNatClampNeg))) 10 (((upd X 11 (A 5 ((X 10).toNatClampNeg))) 10) + 1), A)) rfl ?_
      refine j_aload_n h dX8_isOrder_271 rfl 0 rfl ?_
      refine j_iconst h (v := 0) dX8_isOrder_272 (by decide) ?_
      refine j_iconst h (v := 1) dX8_isOrder_273 (by decide) ?_
      refine j_callI h (n := 2) (c_X8_digits l D cy ad _ _ _ _ (vp_in_nI (by decide) (by decide)) (TI.on hT c1 (by decide) (by decide)) (by decide) hI) (xg_V (xr_38 18 rfl) (xr_38 19 rfl) (xr_38 20 rfl) (xr_1 5 rfl) (xr_38 21 rfl)) rfl rfl (by decide +kernel) ⟨Nat.le_of_ble_eq_true rfl, Nat.le_of_ble_eq_true rfl⟩ 0 rfl rfl rfl rfl rfl (Nat.le_of_ble_eq_true rfl) dX8_isOrder_274 ⟨by decide, by decide⟩ (fun r u' hq => ?_)
      obtain ⟨z20, hz20, rfl, rfl, bz20, qz20_0, qz20_1, qz20_2⟩ := hq
      exact hR _ _ _ _ dX8_isOrder_277 bz20 ⟨(_, _), Eq.symm ((ite_n c1 (ite_n c2 (ite_p c19 (bd_eq hz20 rfl))))), rfl, rfl, bz20, qz20_0, qz20_1, (FY.tr (FY.on vat (by decide)) qz20_2)⟩
    by_cases c21 : ((upd X 11 (A 5 ((X 10).toNatClampNeg))) 11) = 100
    · refine j_tableIn h (tgt := 295) dX8_isOrder_30 (by rw [c21]; decide) (by rw [c21]; decide) (by rw [c21]; rfl) (by decide) ?_
      refine j_iconst h (v := 0) dX8_isOrder_295 (by decide) ?_
      exact hR _ _ _ _ dX8_isOrder_296 (Or.inl rfl) ⟨(_, _), Eq.symm ((ite_n c1 (ite_n c2 (ite_n c19 (ite_p c21 rfl))))), rfl, rfl, (Or.inl rfl), (TI.o hT (by decide) (by decide)), hI, (FY.o FY.rf (by decide))⟩
    by_cases c22 : ((upd X 11 (A 5 ((X 10).toNatClampNeg))) 11) = 101
    · refine j_tableIn h (tgt := 132) dX8_isOrder_30 (by rw [c22]; decide) (by rw [c22]; decide) (by rw [c22]; rfl) (by decide) ?_
      refine j_aload_n h dX8_isOrder_132 rfl 0 rfl ?_
      refine j_dup h dX8_isOrder_133 rfl ?_
      refine j_get h inlX8 0 rfl rfl 10 (by decide) (xr_38 12 rfl) rfl (v := .int ((upd X 11 (A 5 ((X 10).toNatClampNeg))) 10)) rfl dX8_isOrder_134 ?_
      refine j_iconst h (v := 1) dX8_isOrder_137 (by decide) ?_
      refine j_iadd h dX8_isOrder_138 ?_
      refine j_put h inlX8 tyX8 tyX8_ok nmX8 0 rfl rfl 10 (by decide) (xr_38 12 rfl) rfl rfl rfl rfl (Nat.le_of_ble_eq_true rfl) dX8_isOrder_139 (u' := (upd (upd X 11 (A 5 ((X 10).toNatClampNeg))) 10 (((upd X 11 (A 5 ((X 10).toNatClampNeg))) 10) + 1), A)) rfl ?_
      refine j_aload_n h dX8_isOrder_142 rfl 0 rfl ?_
      refine j_iconst h (v := 0) dX8_isOrder_143 (by decide) ?_
      refine j_iconst h (v := 1) dX8_isOrder_144 (by decide) ?_
      refine j_callI h (n := 2) (c_X8_digits l D cy ad _ _ _ _ (vp_in_nI (by decide) (by decide)) (TI.on hT c1 (by decide) (by decide)) (by decide) hI) (xg_V (xr_38 18 rfl) (xr_38 19 rfl) (xr_38 20 rfl) (xr_1 5 rfl) (xr_38 21 rfl)) rfl rfl (by decide +kernel) ⟨Nat.le_of_ble_eq_true rfl, Nat.le_of_ble_eq_true rfl⟩ 0 rfl rfl rfl rfl rfl (Nat.le_of_ble_eq_true rfl) dX8_isOrder_145 ⟨by decide, by decide⟩ (fun r u' hq => ?_)
      obtain ⟨z23, hz23, rfl, rfl, bz23, qz23_0, qz23_1, qz23_2⟩ := hq
      refine j_if_eq h (tgt := 173) dX8_isOrder_148 (by decide) (fun c24 => ?_) (fun c24 => ?_)
      · refine j_iconst h (v := 0) dX8_isOrder_173 (by decide) ?_
        exact hR _ _ _ _ dX8_isOrder_174 (Or.inl rfl) ⟨(_, _), Eq.symm ((ite_n c1 (ite_n c2 (ite_n c19 (ite_n c21 (ite_p c22 (bd_eq hz23 (ite_p c24 rfl)))))))), rfl, rfl, (Or.inl rfl), qz23_0, qz23_1, (FY.tr (FY.on vat (by decide)) qz23_2)⟩
      · refine j_aload_n h dX8_isOrder_151 rfl 0 rfl ?_
        refine j_bipush h (v := 58) dX8_isOrder_152 (by decide) ?_
        refine j_callI h (n := 1) (c_X8_isNext l D cy ad _ _ _ qz23_0) (xg_V (xr_38 22 rfl) (xr_38 23 rfl) (xr_39 0 rfl) (xr_1 5 rfl) (xr_39 1 rfl)) rfl rfl (by decide +kernel) ⟨Nat.le_of_ble_eq_true rfl, Nat.le_of_ble_eq_true rfl⟩ 0 rfl rfl rfl rfl rfl (Nat.le_of_ble_eq_true rfl) dX8_isOrder_154 ⟨by decide, by decide⟩ (fun r u' hq => ?_)
        obtain ⟨z25, hz25, rfl, rfl, bz25⟩ := hq
        have hTz25 : TI z25.2 := TI_nx qz23_0 hz25
        have hFz25 := FY_nx qz23_0 hz25
        refine j_if_eq h (tgt := 173) dX8_isOrder_157 (by decide) (fun c26 => ?_) (fun c26 => ?_)
        · refine j_iconst h (v := 0) dX8_isOrder_173 (by decide) ?_
          exact hR _ _ _ _ dX8_isOrder_174 (Or.inl rfl) ⟨(_, _), Eq.symm ((ite_n c1 (ite_n c2 (ite_n c19 (ite_n c21 (ite_p c22 (bd_eq hz23 (ite_n c24 (bd_eq hz25 (ite_p c26 rfl)))))))))), rfl, rfl, (Or.inl rfl), hTz25, qz23_1, (FY.tr (FY.tr (FY.on vat (by decide)) qz23_2) hFz25.1)⟩
        · refine j_aload_n h dX8_isOrder_160 rfl 0 rfl ?_
          refine j_iconst h (v := 1) dX8_isOrder_161 (by decide) ?_
          refine j_iconst h (v := 2) dX8_isOrder_162 (by decide) ?_
          refine j_callI h (n := 2) (c_X8_digits l D cy ad _ _ _ _ (vp_in_nI (by decide) (by decide)) hTz25 (by decide) qz23_1) (xg_V (xr_38 18 rfl) (xr_38 19 rfl) (xr_38 20 rfl) (xr_1 5 rfl) (xr_38 21 rfl)) rfl rfl (by decide +kernel) ⟨Nat.le_of_ble_eq_true rfl, Nat.le_of_ble_eq_true rfl⟩ 0 rfl rfl rfl rfl rfl (Nat.le_of_ble_eq_true rfl) dX8_isOrder_163 ⟨by decide, by decide⟩ (fun r u' hq => ?_)
          obtain ⟨z27, hz27, rfl, rfl, bz27, qz27_0, qz27_1, qz27_2⟩ := hq
          refine j_if_eq h (tgt := 173) dX8_isOrder_166 (by decide) (fun c28 => ?_) (fun c28 => ?_)
          · refine j_iconst h (v := 0) dX8_isOrder_173 (by decide) ?_
            exact hR _ _ _ _ dX8_isOrder_174 (Or.inl rfl) ⟨(_, _), Eq.symm ((ite_n c1 (ite_n c2 (ite_n c19 (ite_n c21 (ite_p c22 (bd_eq hz23 (ite_n c24 (bd_eq hz25 (ite_n c26 (bd_eq hz27 (ite_p c28 rfl)))))))))))), rfl, rfl, (Or.inl rfl), qz27_0, qz27_1, (FY.tr (FY.tr (FY.tr (FY.on vat (by decide)) qz23_2) hFz25.1) qz27_2)⟩
          · refine j_iconst h (v := 1) dX8_isOrder_169 (by decide) ?_
            refine j_goto h (tgt := 174) dX8_isOrder_170 (by decide) ?_
            exact hR _ _ _ _ dX8_isOrder_174 (Or.inr rfl) ⟨(_, _), Eq.symm ((ite_n c1 (ite_n c2 (ite_n c19 (ite_n c21 (ite_p c22 (bd_eq hz23 (ite_n c24 (bd_eq hz25 (ite_n c26 (bd_eq hz27 (ite_n c28 rfl)))))))))))), rfl, rfl, (Or.inr rfl), qz27_0, qz27_1, (FY.tr (FY.tr (FY.tr (FY.on vat (by decide)) qz23_2) hFz25.1) qz27_2)⟩
    by_cases c29 : ((upd X 11 (A 5 ((X 10).toNatClampNeg))) 11) = 102
    · refine j_tableIn h (tgt := 295) dX8_isOrder_30 (by rw [c29]; decide) (by rw [c29]; decide) (by rw [c29]; rfl) (by decide) ?_
      refine j_iconst h (v := 0) dX8_isOrder_295 (by decide) ?_
      exact hR _ _ _ _ dX8_isOrder_296 (Or.inl rfl) ⟨(_, _), Eq.symm ((ite_n c1 (ite_n c2 (ite_n c19 (ite_n c21 (ite_n c22 (ite_p c29 rfl))))))), rfl, rfl, (Or.inl rfl), (TI.o hT (by decide) (by decide)), hI, (FY.o FY.rf (by decide))⟩
    by_cases c30 : ((upd X 11 (A 5 ((X 10).toNatClampNeg))) 11) = 103
    · refine j_tableIn h (tgt := 295) dX8_isOrder_30 (by rw [c30]; decide) (by rw [c30]; decide) (by rw [c30]; rfl) (by decide) ?_
      refine j_iconst h (v := 0) dX8_isOrder_295 (by decide) ?_
      exact hR _ _ _ _ dX8_isOrder_296 (Or.inl rfl) ⟨(_, _), Eq.symm ((ite_n c1 (ite_n c2 (ite_n c19 (ite_n c21 (ite_n c22 (ite_n c29 (ite_p c30 rfl)))))))), rfl, rfl, (Or.inl rfl), (TI.o hT (by decide) (by decide)), hI, (FY.o FY.rf (by decide))⟩
    by_cases c31 : ((upd X 11 (A 5 ((X 10).toNatClampNeg))) 11) = 104
    · refine j_tableIn h (tgt := 278) dX8_isOrder_30 (by rw [c31]; decide) (by rw [c31]; decide) (by rw [c31]; rfl) (by decide) ?_
      refine j_aload_n h dX8_isOrder_278 rfl 0 rfl ?_
      refine j_dup h dX8_isOrder_279 rfl ?_
      refine j_get h inlX8 0 rfl rfl 10 (by decide) (xr_38 12 rfl) rfl (v := .int ((upd X 11 (A 5 ((X 10).toNatClampNeg))) 10)) rfl dX8_isOrder_280 ?_
      refine j_iconst h (v := 1) dX8_isOrder_283 (by decide) ?_
      refine j_iadd h dX8_isOrder_284 ?_
      refine j_put h inlX8 tyX8 tyX8_ok nmX8 0 rfl rfl 10 (by decide) (xr_38 12 rfl) rfl rfl rfl rfl (Nat.le_of_ble_eq_true rfl) dX8_isOrder_285 (u' := (upd (upd X 11 (A 5 ((X 10).toNatClampNeg))) 10 (((upd X 11 (A 5 ((X 10).toNatClampNeg))) 10) + 1), A)) rfl ?_
      refine j_aload_n h dX8_isOrder_288 rfl 0 rfl ?_
      refine j_iconst h (v := 0) dX8_isOrder_289 (by decide) ?_
      refine j_iconst h (v := 2) dX8_isOrder_290 (by decide) ?_
      refine j_callI h (n := 2) (c_X8_digits l D cy ad _ _ _ _ (vp_in_nI (by decide) (by decide)) (TI.on hT c1 (by decide) (by decide)) (by decide) hI) (xg_V (xr_38 18 rfl) (xr_38 19 rfl) (xr_38 20 rfl) (xr_1 5 rfl) (xr_38 21 rfl)) rfl rfl (by decide +kernel) ⟨Nat.le_of_ble_eq_true rfl, Nat.le_of_ble_eq_true rfl⟩ 0 rfl rfl rfl rfl rfl (Nat.le_of_ble_eq_true rfl) dX8_isOrder_291 ⟨by decide, by decide⟩ (fun r u' hq => ?_)
      obtain ⟨z32, hz32, rfl, rfl, bz32, qz32_0, qz32_1, qz32_2⟩ := hq
      exact hR _ _ _ _ dX8_isOrder_294 bz32 ⟨(_, _), Eq.symm ((ite_n c1 (ite_n c2 (ite_n c19 (ite_n c21 (ite_n c22 (ite_n c29 (ite_n c30 (ite_p c31 (bd_eq hz32 rfl)))))))))), rfl, rfl, bz32, qz32_0, qz32_1, (FY.tr (FY.on vat (by decide)) qz32_2)⟩
    by_cases c33 : ((upd X 11 (A 5 ((X 10).toNatClampNeg))) 11) = 105
    · refine j_tableIn h (tgt := 295) dX8_isOrder_30 (by rw [c33]; decide) (by rw [c33]; decide) (by rw [c33]; rfl) (by decide) ?_
      refine j_iconst h (v := 0) dX8_isOrder_295 (by decide) ?_
      exact hR _ _ _ _ dX8_isOrder_296 (Or.inl rfl) ⟨(_, _), Eq.symm ((ite_n c1 (ite_n c2 (ite_n c19 (ite_n c21 (ite_n c22 (ite_n c29 (ite_n c30 (ite_n c31 (ite_p c33 rfl)))))))))), rfl, rfl, (Or.inl rfl), (TI.o hT (by decide) (by decide)), hI, (FY.o FY.rf (by decide))⟩
    by_cases c34 : ((upd X 11 (A 5 ((X 10).toNatClampNeg))) 11) = 106
    · refine j_tableIn h (tgt := 295) dX8_isOrder_30 (by rw [c34]; decide) (by rw [c34]; decide) (by rw [c34]; rfl) (by decide) ?_
      refine j_iconst h (v := 0) dX8_isOrder_295 (by decide) ?_
      exact hR _ _ _ _ dX8_isOrder_296 (Or.inl rfl) ⟨(_, _), Eq.symm ((ite_n c1 (ite_n c2 (ite_n c19 (ite_n c21 (ite_n c22 (ite_n c29 (ite_n c30 (ite_n c31 (ite_n c33 (ite_p c34 rfl))))))))))), rfl, rfl, (Or.inl rfl), (TI.o hT (by decide) (by decide)), hI, (FY.o FY.rf (by decide))⟩
    by_cases c35 : ((upd X 11 (A 5 ((X 10).toNatClampNeg))) 11) = 107
    · refine j_tableIn h (tgt := 295) dX8_isOrder_30 (by rw [c35]; decide) (by rw [c35]; decide) (by rw [c35]; rfl) (by decide) ?_
      refine j_iconst h (v := 0) dX8_isOrder_295 (by decide) ?_
      exact hR _ _ _ _ dX8_isOrder_296 (Or.inl rfl) ⟨(_, _), Eq.symm ((ite_n c1 (ite_n c2 (ite_n c19 (ite_n c21 (ite_n c22 (ite_n c29 (ite_n c30 (ite_n c31 (ite_n c33 (ite_n c34 (ite_p c35 rfl)))))))))))), rfl, rfl, (Or.inl rfl), (TI.o hT (by decide) (by decide)), hI, (FY.o FY.rf (by decide))⟩
    by_cases c36 : ((upd X 11 (A 5 ((X 10).toNatClampNeg))) 11) = 108
    · refine j_tableIn h (tgt := 295) dX8_isOrder_30 (by rw [c36]; decide) (by rw [c36]; decide) (by rw [c36]; rfl) (by decide) ?_
      refine j_iconst h (v := 0) dX8_isOrder_295 (by decide) ?_
      exact hR _ _ _ _ dX8_isOrder_296 (Or.inl rfl) ⟨(_, _), Eq.symm ((ite_n c1 (ite_n c2 (ite_n c19 (ite_n c21 (ite_n c22 (ite_n c29 (ite_n c30 (ite_n c31 (ite_n c33 (ite_n c34 (ite_n c35 (ite_p c36 rfl))))))))))))), rfl, rfl, (Or.inl rfl), (TI.o hT (by decide) (by decide)), hI, (FY.o FY.rf (by decide))⟩
    by_cases c37 : ((upd X 11 (A 5 ((X 10).toNatClampNeg))) 11) = 109
    · refine j_tableIn h (tgt := 295) dX8_isOrder_30 (by rw [c37]; decide) (by rw [c37]; decide) (by rw [c37]; rfl) (by decide) ?_
      refine j_iconst h (v := 0) dX8_isOrder_295 (by decide) ?_
      exact hR _ _ _ _ dX8_isOrder_296 (Or.inl rfl) ⟨(_, _), Eq.symm ((ite_n c1 (ite_n c2 (ite_n c19 (ite_n c21 (ite_n c22 (ite_n c29 (ite_n c30 (ite_n c31 (ite_n c33 (ite_n c34 (ite_n c35 (ite_n c36 (ite_p c37 rfl)))))))))))))), rfl, rfl, (Or.inl rfl), (TI.o hT (by decide) (by decide)), hI, (FY.o FY.rf (by decide))⟩
    by_cases c38 : ((upd X 11 (A 5 ((X 10).toNatClampNeg))) 11) = 110
    · refine j_tableIn h (tgt := 295) dX8_isOrder_30 (by rw [c38]; decide) (by rw [c38]; decide) (by rw [c38]; rfl) (by decide) ?_
      refine j_iconst h (v := 0) dX8_isOrder_295 (by decide) ?_
      exact hR _ _ _ _ dX8_isOrder_296 (Or.inl rfl) ⟨(_, _), Eq.symm ((ite_n c1 (ite_n c2 (ite_n c19 (ite_n c21 (ite_n c22 (ite_n c29 (ite_n c30 (ite_n c31 (ite_n c33 (ite_n c34 (ite_n c35 (ite_n c36 (ite_n c37 (ite_p c38 rfl))))))))))))))), rfl, rfl, (Or.inl rfl), (TI.o hT (by decide) (by decide)), hI, (FY.o FY.rf (by decide))⟩
    by_cases c39 : ((upd X 11 (A 5 ((X 10).toNatClampNeg))) 11) = 111
    · refine j_tableIn h (tgt := 295) dX8_isOrder_30 (by rw [c39]; decide) (by rw [c39]; decide) (by rw [c39]; rfl) (by decide) ?_
      refine j_iconst h (v := 0) dX8_isOrder_295 (by decide) ?_
      exact hR _ _ _ _ dX8_isOrder_296 (Or.inl rfl) ⟨(_, _), Eq.symm ((ite_n c1 (ite_n c2 (ite_n c19 (ite_n c21 (ite_n c22 (ite_n c29 (ite_n c30 (ite_n c31 (ite_n c33 (ite_n c34 (ite_n c35 (ite_n c36 (ite_n c37 (ite_n c38 (ite_p c39 rfl)))))))))))))))), rfl, rfl, (Or.inl rfl), (TI.o hT (by decide) (by decide)), hI, (FY.o FY.rf (by decide))⟩
    by_cases c40 : ((upd X 11 (A 5 ((X 10).toNatClampNeg))) 11) = 112
    · refine j_tableIn h (tgt := 295) dX8_isOrder_30 (by rw [c40]; decide) (by rw [c40]; decide) (by rw [c40]; rfl) (by decide) ?_
      refine j_iconst h (v := 0) dX8_isOrder_295 (by decide) ?_
      exact hR _ _ _ _ dX8_isOrder_296 (Or.inl rfl) ⟨(_, _), Eq.symm ((ite_n c1 (ite_n c2 (ite_n c19 (ite_n c21 (ite_n c22 (ite_n c29 (ite_n c30 (ite_n c31 (ite_n c33 (ite_n c34 (ite_n c35 (ite_n c36 (ite_n c37 (ite_n c38 (ite_n c39 (ite_p c40 rfl))))))))))))))))), rfl, rfl, (Or.inl rfl), (TI.o hT (by decide) (by decide)), hI, (FY.o FY.rf (by decide))⟩
    by_cases c41 : ((upd X 11 (A 5 ((X 10).toNatClampNeg))) 11) = 113
    · refine j_tableIn h (tgt := 295) dX8_isOrder_30 (by rw [c41]; decide) (by rw [c41]; decide) (by rw [c41]; rfl) (by decide) ?_
      refine j_iconst h (v := 0) dX8_isOrder_295 (by decide) ?_
      exact hR _ _ _ _ dX8_isOrder_296 (Or.inl rfl) ⟨(_, _), Eq.symm ((ite_n c1 (ite_n c2 (ite_n c19 (ite_n c21 (ite_n c22 (ite_n c29 (ite_n c30 (ite_n c31 (ite_n c33 (ite_n c34 (ite_n c35 (ite_n c36 (ite_n c37 (ite_n c38 (ite_n c39 (ite_n c40 (ite_p c41 rfl)))))))))))))))))), rfl, rfl, (Or.inl rfl), (TI.o hT (by decide) (by decide)), hI, (FY.o FY.rf (by decide))⟩
    by_cases c42 : ((upd X 11 (A 5 ((X 10).toNatClampNeg))) 11) = 114
    · refine j_tableIn h (tgt := 261) dX8_isOrder_30 (by rw [c42]; decide) (by rw [c42]; decide) (by rw [c42]; rfl) (by decide) ?_
      refine j_aload_n h dX8_isOrder_261 rfl 0 rfl ?_
      refine j_dup h dX8_isOrder_262 rfl ?_
      refine j_get h inlX8 0 rfl rfl 10 (by decide) (xr_38 12 rfl) rfl (v := .int ((upd X 11 (A 5 ((X 10).toNatClampNeg))) 10)) rfl dX8_isOrder_263 ?_
      refine j_iconst h (v := 1) dX8_isOrder_266 (by decide) ?_
      refine j_iadd h dX8_isOrder_267 ?_
      refine j_put h inlX8 tyX8 tyX8_ok nmX8 0 rfl rfl 10 (by decide) (xr_38 12 rfl) rfl rfl rfl rfl (Nat.le_of_ble_eq_true rfl) dX8_isOrder_268 (u' := (upd (upd X 11 (A 5 ((X 10).toNatClampNeg))) 10 (((upd X 11 (A 5 ((X 10).toNatClampNeg))) 10) + 1), A)) rfl ?_
      refine j_aload_n h dX8_isOrder_271 rfl 0 rfl ?_
      refine j_iconst h (v := 0) dX8_isOrder_272 (by decide) ?_
      refine j_iconst h (v := 1) dX8_isOrder_273 (by decide) ?_
      refine j_callI h (n := 2) (c_X8_digits l D cy ad _ _ _ _ (vp_in_nI (by decide) (by decide)) (TI.on hT c1 (by decide) (by decide)) (by decide) hI) (xg_V (xr_38 18 rfl) (xr_38 19 rfl) (xr_38 20 rfl) (xr_1 5 rfl) (xr_38 21 rfl)) rfl rfl (by decide +kernel) ⟨Nat.le_of_ble_eq_true rfl, Nat.le_of_ble_eq_true rfl⟩ 0 rfl rfl rfl rfl rfl (Nat.le_of_ble_eq_true rfl) dX8_isOrder_274 ⟨by decide, by decide⟩ (fun r u' hq => ?_)
      obtain ⟨z43, hz43, rfl, rfl, bz43, qz43_0, qz43_1, qz43_2⟩ := hq
      exact hR _ _ _ _ dX8_isOrder_277 bz43 ⟨(_, _), Eq.symm ((ite_n c1 (ite_n c2 (ite_n c19 (ite_n c21 (ite_n c22 (ite_n c29 (ite_n c30 (ite_n c31 (ite_n c33 (ite_n c34 (ite_n c35 (ite_n c36 (ite_n c37 (ite_n c38 (ite_n c39 (ite_n c40 (ite_n c41 (ite_p c42 (bd_eq hz43 rfl)))))))))))))))))))), rfl, rfl, bz43, qz43_0, qz43_1, (FY.tr (FY.on vat (by decide)) qz43_2)⟩
    by_cases c44 : ((upd X 11 (A 5 ((X 10).toNatClampNeg))) 11) = 115
    · refine j_tableIn h (tgt := 261) dX8_isOrder_30 (by rw [c44]; decide) (by rw [c44]; decide) (by rw [c44]; rfl) (by decide) ?_
      refine j_aload_n h dX8_isOrder_261 rfl 0 rfl ?_
      refine j_dup h dX8_isOrder_262 rfl ?_
      refine j_get h inlX8 0 rfl rfl 10 (by decide) (xr_38 12 rfl) rfl (v := .int ((upd X 11 (A 5 ((X 10).toNatClampNeg))) 10)) rfl dX8_isOrder_263 ?_
      refine j_iconst h (v := 1) dX8_isOrder_266 (by decide) ?_
      refine j_iadd h dX8_isOrder_267 ?_
      refine j_put h inlX8 tyX8 tyX8_ok nmX8 0 rfl rfl 10 (by decide) (xr_38 12 rfl) rfl rfl rfl rfl (Nat.le_of_ble_eq_true rfl) dX8_isOrder_268 (u' := (upd (upd X 11 (A 5 ((X 10).toNatClampNeg))) 10 (((upd X 11 (A 5 ((X 10).toNatClampNeg))) 10) + 1), A)) rfl ?_
      refine j_aload_n h dX8_isOrder_271 rfl 0 rfl ?_
      refine j_iconst h (v := 0) dX8_isOrder_272 (by decide) ?_
      refine j_iconst h (v := 1) dX8_isOrder_273 (by decide) ?_
      refine j_callI h (n := 2) (c_X8_digits l D cy ad _ _ _ _ (vp_in_nI (by decide) (by decide)) (TI.on hT c1 (by decide) (by decide)) (by decide) hI) (xg_V (xr_38 18 rfl) (xr_38 19 rfl) (xr_38 20 rfl) (xr_1 5 rfl) (xr_38 21 rfl)) rfl rfl (by decide +kernel) ⟨Nat.le_of_ble_eq_true rfl, Nat.le_of_ble_eq_true rfl⟩ 0 rfl rfl rfl rfl rfl (Nat.le_of_ble_eq_true rfl) dX8_isOrder_274 ⟨by decide, by decide⟩ (fun r u' hq => ?_)
      obtain ⟨z45, hz45, rfl, rfl, bz45, qz45_0, qz45_1, qz45_2⟩ := hq
      exact hR _ _ _ _ dX8_isOrder_277 bz45 ⟨(_, _), Eq.symm ((ite_n c1 (ite_n c2 (ite_n c19 (ite_n c21 (ite_n c22 (ite_n c29 (ite_n c30 (ite_n c31 (ite_n c33 (ite_n c34 (ite_n c35 (ite_n c36 (ite_n c37 (ite_n c38 (ite_n c39 (ite_n c40 (ite_n c41 (ite_n c42 (ite_p c44 (bd_eq hz45 rfl))))))))))))))))))))), rfl, rfl, bz45, qz45_0, qz45_1, (FY.tr (FY.on vat (by decide)) qz45_2)⟩
    by_cases c46 : ((upd X 11 (A 5 ((X 10).toNatClampNeg))) 11) = 116
    · refine j_tableIn h (tgt := 261) dX8_isOrder_30 (by rw [c46]; decide) (by rw [c46]; decide) (by rw [c46]; rfl) (by decide) ?_
      refine j_aload_n h dX8_isOrder_261 rfl 0 rfl ?_
      refine j_dup h dX8_isOrder_262 rfl ?_
      refine j_get h inlX8 0 rfl rfl 10 (by decide) (xr_38 12 rfl) rfl (v := .int ((upd X 11 (A 5 ((X 10).toNatClampNeg))) 10)) rfl dX8_isOrder_263 ?_
      refine j_iconst h (v := 1) dX8_isOrder_266 (by decide) ?_
      refine j_iadd h dX8_isOrder_267 ?_
      refine j_put h inlX8 tyX8 tyX8_ok nmX8 0 rfl rfl 10 (by decide) (xr_38 12 rfl) rfl rfl rfl rfl (Nat.le_of_ble_eq_true rfl) dX8_isOrder_268 (u' := (upd (upd X 11 (A 5 ((X 10).toNatClampNeg))) 10 (((upd X 11 (A 5 ((X 10).toNatClampNeg))) 10) + 1), A)) rfl ?_
      refine j_aload_n h dX8_isOrder_271 rfl 0 rfl ?_
      refine j_iconst h (v := 0) dX8_isOrder_272 (by decide) ?_
      refine j_iconst h (v := 1) dX8_isOrder_273 (by decide) ?_
      refine j_callI h (n := 2) (c_X8_digits l D cy ad _ _ _ _ (vp_in_nI (by decide) (by decide)) (TI.on hT c1 (by decide) (by decide)) (by decide) hI) (xg_V (xr_38 18 rfl) (xr_38 19 rfl) (xr_38 20 rfl) (xr_1 5 rfl) (xr_38 21 rfl)) rfl rfl (by decide +kernel) ⟨Nat.le_of_ble_eq_true rfl, Nat.le_of_ble_eq_true rfl⟩ 0 rfl rfl rfl rfl rfl (Nat.le_of_ble_eq_true rfl) dX8_isOrder_274 ⟨by decide, by decide⟩ (fun r u' hq => ?_)
      obtain ⟨z47, hz47, rfl, rfl, bz47, qz47_0, qz47_1, qz47_2⟩ := hq
      exact hR _ _ _ _ dX8_isOrder_277 bz47 ⟨(_, _), Eq.symm ((ite_n c1 (ite_n c2 (ite_n c19 (ite_n c21 (ite_n c22 (ite_n c29 (ite_n c30 (ite_n c31 (ite_n c33 (ite_n c34 (ite_n c35 (ite_n c36 (ite_n c37 (ite_n c38 (ite_n c39 (ite_n c40 (ite_n c41 (ite_n c42 (ite_n c44 (ite_p c46 (bd_eq hz47 rfl)))))))))))))))))))))), rfl, rfl, bz47, qz47_0, qz47_1, (FY.tr (FY.on vat (by decide)) qz47_2)⟩
    by_cases c48 : ((upd X 11 (A 5 ((X 10).toNatClampNeg))) 11) = 117
    · refine j_tableIn h (tgt := 295) dX8_isOrder_30 (by rw [c48]; decide) (by rw [c48]; decide) (by rw [c48]; rfl) (by decide) ?_
      refine j_iconst h (v := 0) dX8_isOrder_295 (by decide) ?_
      exact hR _ _ _ _ dX8_isOrder_296 (Or.inl rfl) ⟨(_, _), Eq.symm ((ite_n c1 (ite_n c2 (ite_n c19 (ite_n c21 (ite_n c22 (ite_n c29 (ite_n c30 (ite_n c31 (ite_n c33 (ite_n c34 (ite_n c35 (ite_n c36 (ite_n c37 (ite_n c38 (ite_n c39 (ite_n c40 (ite_n c41 (ite_n c42 (ite_n c44 (ite_n c46 (ite_p c48 rfl)))))))))))))))))))))), rfl, rfl, (Or.inl rfl), (TI.o hT (by decide) (by decide)), hI, (FY.o FY.rf (by decide))⟩
    by_cases c49 : ((upd X 11 (A 5 ((X 10).toNatClampNeg))) 11) = 118
    · refine j_tableIn h (tgt := 295) dX8_isOrder_30 (by rw [c49]; decide) (by rw [c49]; decide) (by rw [c49]; rfl) (by decide) ?_
      refine j_iconst h (v := 0) dX8_isOrder_295 (by decide) ?_
      exact hR _ _ _ _ dX8_isOrder_296 (Or.inl rfl) ⟨(_, _), Eq.symm ((ite_n c1 (ite_n c2 (ite_n c19 (ite_n c21 (ite_n c22 (ite_n c29 (ite_n c30 (ite_n c31 (ite_n c33 (ite_n c34 (ite_n c35 (ite_n c36 (ite_n c37 (ite_n c38 (ite_n c39 (ite_n c40 (ite_n c41 (ite_n c42 (ite_n c44 (ite_n c46 (ite_n c48 (ite_p c49 rfl))))))))))))))))))))))), rfl, rfl, (Or.inl rfl), (TI.o hT (by decide) (by decide)), hI, (FY.o FY.rf (by decide))⟩
    by_cases c50 : ((upd X 11 (A 5 ((X 10).toNatClampNeg))) 11) = 119
    · refine j_tableIn h (tgt := 261) dX8_isOrder_30 (by rw [c50]; decide) (by rw [c50]; decide) (by rw [c50]; rfl) (by decide) ?_
      refine j_aload_n h dX8_isOrder_261 rfl 0 rfl ?_
      refine j_dup h dX8_isOrder_262 rfl ?_
      refine j_get h inlX8 0 rfl rfl 10 (by decide) (xr_38 12 rfl) rfl (v := .int ((upd X 11 (A 5 ((X 10).toNatClampNeg))) 10)) rfl dX8_isOrder_263 ?_
      refine j_iconst h (v := 1) dX8_isOrder_266 (by decide) ?_
      refine j_iadd h dX8_isOrder_267 ?_
      refine j_put h inlX8 tyX8 tyX8_ok nmX8 0 rfl rfl 10 (by decide) (xr_38 12 rfl) rfl rfl rfl rfl (Nat.le_of_ble_eq_true rfl) dX8_isOrder_268 (u' := (upd (upd X 11 (A 5 ((X 10).toNatClampNeg))) 10 (((upd X 11 (A 5 ((X 10).toNatClampNeg))) 10) + 1), A)) rfl ?_
      refine j_aload_n h dX8_isOrder_271 rfl 0 rfl ?_
      refine j_iconst h (v := 0) dX8_isOrder_272 (by decide) ?_
      refine j_iconst h (v := 1) dX8_isOrder_273 (by decide) ?_
      refine j_callI h (n := 2) (c_X8_digits l D cy ad _ _ _ _ (vp_in_nI (by decide) (by decide)) (TI.on hT c1 (by decide) (by decide)) (by decide) hI) (xg_V (xr_38 18 rfl) (xr_38 19 rfl) (xr_38 20 rfl) (xr_1 5 rfl) (xr_38 21 rfl)) rfl rfl (by decide +kernel) ⟨Nat.le_of_ble_eq_true rfl, Nat.le_of_ble_eq_true rfl⟩ 0 rfl rfl rfl rfl rfl (Nat.le_of_ble_eq_true rfl) dX8_isOrder_274 ⟨by decide, by decide⟩ (fun r u' hq => ?_)
      obtain ⟨z51, hz51, rfl, rfl, bz51, qz51_0, qz51_1, qz51_2⟩ := hq
      exact hR _ _ _ _ dX8_isOrder_277 bz51 ⟨(_, _), Eq.symm ((ite_n c1 (ite_n c2 (ite_n c19 (ite_n c21 (ite_n c22 (ite_n c29 (ite_n c30 (ite_n c31 (ite_n c33 (ite_n c34 (ite_n c35 (ite_n c36 (ite_n c37 (ite_n c38 (ite_n c39 (ite_n c40 (ite_n c41 (ite_n c42 (ite_n c44 (ite_n c46 (ite_n c48 (ite_n c49 (ite_p c50 (bd_eq hz51 rfl))))))))))))))))))))))))), rfl, rfl, bz51, qz51_0, qz51_1, (FY.tr (FY.on vat (by decide)) qz51_2)⟩
    refine j_tableOut h (tgt := 295) dX8_isOrder_30 (sw_out98_22 ((upd X 11 (A 5 ((X 10).toNatClampNeg))) 11) c2 c19 c21 c22 c29 c30 c31 c33 c34 c35 c36 c37 c38 c39 c40 c41 c42 c44 c46 c48 c49 c50) (by decide) ?_
    refine j_iconst h (v := 0) dX8_isOrder_295 (by decide) ?_
    exact hR _ _ _ _ dX8_isOrder_296 (Or.inl rfl) ⟨(_, _), Eq.symm ((ite_n c1 (ite_n c2 (ite_n c19 (ite_n c21 (ite_n c22 (ite_n c29 (ite_n c30 (ite_n c31 (ite_n c33 (ite_n c34 (ite_n c35 (ite_n c36 (ite_n c37 (ite_n c38 (ite_n c39 (ite_n c40 (ite_n c41 (ite_n c42 (ite_n c44 (ite_n c46 (ite_n c48 (ite_n c49 (ite_n c50 rfl)))))))))))))))))))))))), rfl, rfl, (Or.inl rfl), (TI.o hT (by decide) (by decide)), hI, (FY.o FY.rf (by decide))⟩
  · refine j_iconst h (v := 0) dX8_isOrder_11 (by decide) ?_
    exact hR _ _ _ _ dX8_isOrder_12 (Or.inl rfl) ⟨(_, _), Eq.symm ((ite_p c1 rfl)), rfl, rfl, (Or.inl rfl), hT, hI, FY.rf⟩

theorem MI_st {X : Nat → Int32} {A : Nat → Nat → Int32} {p q : Int32} {z : Int32 × (Nat → Int32) × (Nat → Nat → Int32)} (h : MI A) (v : vp_in p 3) (hz : z = f_X8_sets X A p q) : MI z.2.2 := by
  have b := vp_lt v
  rw [hz]
  unfold f_X8_sets
  dsimp only [bd]
  split
  · exact h
  · exact MI_up h (by omega) (by omega) (by omega)
theorem r3_st {X : Nat → Int32} {A : Nat → Nat → Int32} {p q : Int32} {z : Int32 × (Nat → Int32) × (Nat → Nat → Int32)} (hz : z = f_X8_sets X A p q) : z.1 = -3 → vp_in (z.2.1 16) 3 := by
  rw [hz]
  unfold f_X8_sets
  dsimp only [bd]
  split
  · exact fun q => absurd (show (-2 : Int32) = -3 from q) (by decide)
  · exact fun q => absurd (show (0 : Int32) = -3 from q) (by decide)

theorem FX_st {X : Nat → Int32} {A : Nat → Nat → Int32} {p q : Int32} {z : Int32 × (Nat → Int32) × (Nat → Nat → Int32)} (hz : z = f_X8_sets X A p q) : FX X z.2.1 := by
  rw [hz]
  unfold f_X8_sets
  dsimp only [bd]
  split
  · exact FX.rf
  · exact FX_do rfl

def f_X8_carries (X : Nat → Int32) (A : Nat → Nat → Int32) : Int32 × (Nat → Int32) × (Nat → Nat → Int32) :=
  if (X 11) = 98 then
    bd (f_X8_bowls X A (A 6 0) (A 6 1) (A 6 2) (A 6 3) (X 13)) fun z2 =>
    (z2.1, (z2.2.1, z2.2.2))
  else
    if (X 11) = 99 then
      bd (f_X8_closes X A (A 6 0)) fun z4 =>
      (z4.1, (z4.2.1, z4.2.2))
    else
      if (X 11) = 100 then
        bd (f_X8_passes X A (A 6 0)) fun z6 =>
        (z6.1, (z6.2.1, z6.2.2))
      else
        if (X 11) = 101 then
          bd (f_X8_starts X A (A 6 0) (A 6 1)) fun z8 =>
          (z8.1, (z8.2.1, z8.2.2))
        else
          if (X 11) = 102 then
            bd (f_X8_passes X A (A 6 0)) fun z10 =>
            (z10.1, (z10.2.1, z10.2.2))
          else
            if (X 11) = 103 then
              bd (f_X8_passes X A (A 6 0)) fun z12 =>
              (z12.1, (z12.2.1, z12.2.2))
            else
              if (X 11) = 104 then
                bd (f_X8_passes X A (A 6 0)) fun z14 =>
                (z14.1, (z14.2.1, z14.2.2))
              else
                if (X 11) = 105 then
                  bd (f_X8_passes X A (A 6 0)) fun z16 =>
                  (z16.1, (z16.2.1, z16.2.2))
                else
                  if (X 11) = 106 then
                    bd (f_X8_passes X A (A 6 0)) fun z18 =>
                    (z18.1, (z18.2.1, z18.2.2))
                  else
                    if (X 11) = 107 then
                      bd (f_X8_passes X A (A 6 0)) fun z20 =>
                      (z20.1, (z20.2.1, z20.2.2))
                    else
                      if (X 11) = 108 then
                        bd (f_X8_passes X A (A 6 0)) fun z22 =>
                        (z22.1, (z22.2.1, z22.2.2))
                      else
                        if (X 11) = 109 then
                          bd (f_X8_passes X A (A 6 0)) fun z24 =>
                          (z24.1, (z24.2.1, z24.2.2))
                        else
                          if (X 11) = 110 then
                            bd (f_X8_passes X A (A 6 0)) fun z26 =>
                            (z26.1, (z26.2.1, z26.2.2))
                          else
                            if (X 11) = 111 then
                              bd (f_X8_passes X A (A 6 0)) fun z28 =>
                              (z28.1, (z28.2.1, z28.2.2))
                            else
                              if (X 11) = 112 then
                                bd (f_X8_passes X A (A 6 0)) fun z30 =>
                                (z30.1, (z30.2.1, z30.2.2))
                              else
                                if (X 11) = 113 then
                                  bd (f_X8_passes X A (A 6 0)) fun z32 =>
                                  (z32.1, (z32.2.1, z32.2.2))
                                else
                                  if (X 11) = 114 then
                                    bd (f_X8_sets X A 1 (A 6 0)) fun z34 =>
                                    (z34.1, (z34.2.1, z34.2.2))
                                  else
                                    if (X 11) = 115 then
                                      bd (f_X8_sets X A 2 (A 6 0)) fun z36 =>
                                      (z36.1, (z36.2.1, z36.2.2))
                                    else
                                      if (X 11) = 116 then
                                        bd (f_X8_drinks X A (A 6 0)) fun z38 =>
                                        (z38.1, (z38.2.1, z38.2.2))
                                      else
                                        if (X 11) = 117 then
                                          bd (f_X8_passes X A (A 6 0)) fun z40 =>
                                          (z40.1, (z40.2.1, z40.2.2))
                                        else
                                          if (X 11) = 118 then
                                            bd (f_X8_passes X A (A 6 0)) fun z42 =>
                                            (z42.1, (z42.2.1, z42.2.2))
                                          else
                                            if (X 11) = 119 then
                                              bd (f_X8_sweeps X A (A 6 0)) fun z44 =>
                                              (z44.1, (z44.2.1, z44.2.2))
                                            else
                                              bd (f_X8_passes X A (A 6 0)) fun z45 =>
                                              (z45.1, (z45.2.1, z45.2.2))
abbrev rm_X8_carries : Room := { frames := 6, cells := 0, slots := 0, locals := 142 }
set_option maxRecDepth 100000 in
set_option maxHeartbeats 4000000 in
theorem c_X8_carries (l : Launch) (D : gD) (cy : Nat → ClassId) (ad : Nat → Nat) (X : Nat → Int32) (A : Nat → Nat → Int32) (hI : MI A) : CtI l D cy (MW cy ad) yX8_carries cX8_carries 1 (some .int) rm_X8_carries [.ref (ad 0)] (X, A) (fun rv u => ∃ z : Int32 × ((Nat → Int32) × (Nat → Nat → Int32)), z = f_X8_carries X A ∧ rv = z.1 ∧ u = z.2 ∧ MI (z.2.2) ∧ (rv = -3 → vp_in ((z.2.1) 16) 3) ∧ FX X (z.2.1)) 0 0 := by
  refine m_entI cX8_carries 1 (by decide) (Nat.le_of_ble_eq_true rfl) (fun J h hR => ?_)
  show J (X, A) (0, 0) [(0, .ref (ad 0))] 0 []
  refine j_aload_n h dX8_carries_0 rfl 0 rfl ?_
  refine j_get h inlX8 0 rfl rfl 11 (by decide) (xr_38 17 rfl) rfl (v := .int (X 11)) rfl dX8_carries_1 ?_
  by_cases c1 : (X 11) = 98
  · refine j_tableIn h (tgt := 125) dX8_carries_4 (by rw [c1]; decide) (by rw [c1]; decide) (by rw [c1]; rfl) (by decide) ?_
    refine j_aload_n h dX8_carries_125 rfl 0 rfl ?_
    refine j_aload_n h dX8_carries_126 rfl 0 rfl ?_
    refine j_get h inlX8 0 rfl rfl 12 (by decide) (xr_6 14 rfl) rfl (v := .ref (ad 7)) rfl dX8_carries_127 ?_
    refine j_iconst h (v := 0) dX8_carries_130 (by decide) ?_
    refine j_ialdE h 7 rfl 0 rfl (by decide) (by decide) dX8_carries_131 ?_
    refine j_aload_n h dX8_carries_132 rfl 0 rfl ?_
    refine j_get h inlX8 0 rfl rfl 12 (by decide) (xr_6 14 rfl) rfl (v := .ref (ad 7)) rfl dX8_carries_133 ?_
    refine j_iconst h (v := 1) dX8_carries_136 (by decide) ?_
    refine j_ialdE h 7 rfl 1 rfl (by decide) (by decide) dX8_carries_137 ?_
    refine j_aload_n h dX8_carries_138 rfl 0 rfl ?_
    refine j_get h inlX8 0 rfl rfl 12 (by decide) (xr_6 14 rfl) rfl (v := .ref (ad 7)) rfl dX8_carries_139 ?_
    refine j_iconst h (v := 2) dX8_carries_142 (by decide) ?_
    refine j_ialdE h 7 rfl 2 rfl (by decide) (by decide) dX8_carries_143 ?_
    refine j_aload_n h dX8_carries_144 rfl 0 rfl ?_
    refine j_get h inlX8 0 rfl rfl 12 (by decide) (xr_6 14 rfl) rfl (v := .ref (ad 7)) rfl dX8_carries_145 ?_
    refine j_iconst h (v := 3) dX8_carries_148 (by decide) ?_
    refine j_ialdE h 7 rfl 3 rfl (by decide) (by decide) dX8_carries_149 ?_
    refine j_aload_n h dX8_carries_150 rfl 0 rfl ?_
    refine j_get h inlX8 0 rfl rfl 13 (by decide) (xr_39 6 rfl) rfl (v := .int (X 13)) rfl dX8_carries_151 ?_
    refine j_callI h (n := 5) (c_X8_bowls l D cy ad _ _ _ _ _ _ _ hI) (xg_V (xr_23 16 rfl) (xr_23 17 rfl) (xr_23 18 rfl) (xr_1 5 rfl) (xr_23 19 rfl)) rfl rfl (by decide +kernel) ⟨Nat.le_of_ble_eq_true rfl, Nat.le_of_ble_eq_true rfl⟩ 0 rfl rfl rfl rfl rfl (Nat.le_of_ble_eq_true rfl) dX8_carries_154 ⟨by decide, by decide⟩ (fun r u' hq => ?_)
    obtain ⟨z2, hz2, rfl, rfl, qz2_0, qz2_1, qz2_2⟩ := hq
    exact hR _ _ _ _ dX8_carries_157 ⟨(_, _), Eq.symm ((ite_p c1 (bd_eq hz2 rfl))), rfl, rfl, qz2_0, qz2_1, (FX.tr FX.rf qz2_2)⟩
  by_cases c3 : (X 11) = 99
  · refine j_tableIn h (tgt := 158) dX8_carries_4 (by rw [c3]; decide) (by rw [c3]; decide) (by rw [c3]; rfl) (by decide) ?_
    refine j_aload_n h dX8_carries_158 rfl 0 rfl ?_
    refine j_aload_n h dX8_carries_159 rfl 0 rfl ?_
    refine j_get h inlX8 0 rfl rfl 12 (by decide) (xr_6 14 rfl) rfl (v := .ref (ad 7)) rfl dX8_carries_160 ?_
    refine j_iconst h (v := 0) dX8_carries_163 (by decide) ?_
    refine j_ialdE h 7 rfl 0 rfl (by decide) (by decide) dX8_carries_164 ?_
    refine j_callI h (n := 1) (c_X8_closes l D cy ad _ _ _ hI) (xg_V (xr_26 21 rfl) (xr_26 22 rfl) (xr_26 23 rfl) (xr_1 5 rfl) (xr_27 0 rfl)) rfl rfl (by decide +kernel) ⟨Nat.le_of_ble_eq_true rfl, Nat.le_of_ble_eq_true rfl⟩ 0 rfl rfl rfl rfl rfl (Nat.le_of_ble_eq_true rfl) dX8_carries_165 ⟨by decide, by decide⟩ (fun r u' hq => ?_)
    obtain ⟨z4, hz4, rfl, rfl, qz4_0, qz4_1, qz4_2⟩ := hq
    exact hR _ _ _ _ dX8_carries_168 ⟨(_, _), Eq.symm ((ite_n c1 (ite_p c3 (bd_eq hz4 rfl)))), rfl, rfl, qz4_0, qz4_1, (FX.tr FX.rf qz4_2)⟩
  by_cases c5 : (X 11) = 100
  · refine j_tableIn h (tgt := 215) dX8_carries_4 (by rw [c5]; decide) (by rw [c5]; decide) (by rw [c5]; rfl) (by decide) ?_
    refine j_aload_n h dX8_carries_215 rfl 0 rfl ?_
    refine j_aload_n h dX8_carries_216 rfl 0 rfl ?_
    refine j_get h inlX8 0 rfl rfl 12 (by decide) (xr_6 14 rfl) rfl (v := .ref (ad 7)) rfl dX8_carries_217 ?_
    refine j_iconst h (v := 0) dX8_carries_220 (by decide) ?_
    refine j_ialdE h 7 rfl 0 rfl (by decide) (by decide) dX8_carries_221 ?_
    refine j_callI h (n := 1) (c_X8_passes l D cy ad _ _ _ hI) (xg_V (xr_32 7 rfl) (xr_32 8 rfl) (xr_32 9 rfl) (xr_1 5 rfl) (xr_32 10 rfl)) rfl rfl (by decide +kernel) ⟨Nat.le_of_ble_eq_true rfl, Nat.le_of_ble_eq_true rfl⟩ 0 rfl rfl rfl rfl rfl (Nat.le_of_ble_eq_true rfl) dX8_carries_222 ⟨by decide, by decide⟩ (fun r u' hq => ?_)
    obtain ⟨z6, hz6, rfl, rfl, qz6_0, qz6_1, qz6_2⟩ := hq
    exact hR _ _ _ _ dX8_carries_225 ⟨(_, _), Eq.symm ((ite_n c1 (ite_n c3 (ite_p c5 (bd_eq hz6 rfl))))), rfl, rfl, qz6_0, qz6_1, (FX.tr FX.rf qz6_2)⟩
  by_cases c7 : (X 11) = 101
  · refine j_tableIn h (tgt := 108) dX8_carries_4 (by rw [c7]; decide) (by rw [c7]; decide) (by rw [c7]; rfl) (by decide) ?_
    refine j_aload_n h dX8_carries_108 rfl 0 rfl ?_
    refine j_aload_n h dX8_carries_109 rfl 0 rfl ?_
    refine j_get h inlX8 0 rfl rfl 12 (by decide) (xr_6 14 rfl) rfl (v := .ref (ad 7)) rfl dX8_carries_110 ?_
    refine j_iconst h (v := 0) dX8_carries_113 (by decide) ?_
    refine j_ialdE h 7 rfl 0 rfl (by decide) (by decide) dX8_carries_114 ?_
    refine j_aload_n h dX8_carries_115 rfl 0 rfl ?_
    refine j_get h inlX8 0 rfl rfl 12 (by decide) (xr_6 14 rfl) rfl (v := .ref (ad 7)) rfl dX8_carries_116 ?_
    refine j_iconst h (v := 1) dX8_carries_119 (by decide) ?_
    refine j_ialdE h 7 rfl 1 rfl (by decide) (by decide) dX8_carries_120 ?_
    refine j_callI h (n := 2) (c_X8_starts l D cy ad _ _ _ _ hI) (xg_V (xr_19 22 rfl) (xr_19 23 rfl) (xr_20 0 rfl) (xr_1 5 rfl) (xr_20 1 rfl)) rfl rfl (by decide +kernel) ⟨Nat.le_of_ble_eq_true rfl, Nat.le_of_ble_eq_true rfl⟩ 0 rfl rfl rfl rfl rfl (Nat.le_of_ble_eq_true rfl) dX8_carries_121 ⟨by decide, by decide⟩ (fun r u' hq => ?_)
    obtain ⟨z8, hz8, rfl, rfl, qz8_0, qz8_1, qz8_2⟩ := hq
    exact hR _ _ _ _ dX8_carries_124 ⟨(_, _), Eq.symm ((ite_n c1 (ite_n c3 (ite_n c5 (ite_p c7 (bd_eq hz8 rfl)))))), rfl, rfl, qz8_0, qz8_1, (FX.tr FX.rf qz8_2)⟩
  by_cases c9 : (X 11) = 102
  · refine j_tableIn h (tgt := 215) dX8_carries_4 (by rw [c9]; decide) (by rw [c9]; decide) (by rw [c9]; rfl) (by decide) ?_
    refine j_aload_n h dX8_carries_215 rfl 0 rfl ?_
    refine j_aload_n h dX8_carries_216 rfl 0 rfl ?_
    refine j_get h inlX8 0 rfl rfl 12 (by decide) (xr_6 14 rfl) rfl (v := .ref (ad 7)) rfl dX8_carries_217 ?_
    refine j_iconst h (v := 0) dX8_carries_220 (by decide) ?_
    refine j_ialdE h 7 rfl 0 rfl (by decide) (by decide) dX8_carries_221 ?_
    refine j_callI h (n := 1) (c_X8_passes l D cy ad _ _ _ hI) (xg_V (xr_32 7 rfl) (xr_32 8 rfl) (xr_32 9 rfl) (xr_1 5 rfl) (xr_32 10 rfl)) rfl rfl (by decide +kernel) ⟨Nat.le_of_ble_eq_true rfl, Nat.le_of_ble_eq_true rfl⟩ 0 rfl rfl rfl rfl rfl (Nat.le_of_ble_eq_true rfl) dX8_carries_222 ⟨by decide, by decide⟩ (fun r u' hq => ?_)
    obtain ⟨z10, hz10, rfl, rfl, qz10_0, qz10_1, qz10_2⟩ := hq
    exact hR _ _ _ _ dX8_carries_225 ⟨(_, _), Eq.symm ((ite_n c1 (ite_n c3 (ite_n c5 (ite_n c7 (ite_p c9 (bd_eq hz10 rfl))))))), rfl, rfl, qz10_0, qz10_1, (FX.tr FX.rf qz10_2)⟩
  by_cases c11 : (X 11) = 103
  · refine j_tableIn h (tgt := 215) dX8_carries_4 (by rw [c11]; decide) (by rw [c11]; decide) (by rw [c11]; rfl) (by decide) ?_
    refine j_aload_n h dX8_carries_215 rfl 0 rfl ?_
    refine j_aload_n h dX8_carries_216 rfl 0 rfl ?_
    refine j_get h inlX8 0 rfl rfl 12 (by decide) (xr_6 14 rfl) rfl (v := .ref (ad 7)) rfl dX8_carries_217 ?_
    refine j_iconst h (v := 0) dX8_carries_220 (by decide) ?_
    refine j_ialdE h 7 rfl 0 rfl (by decide) (by decide) dX8_carries_221 ?_
    refine j_callI h (n := 1) (c_X8_passes l D cy ad _ _ _ hI) (xg_V (xr_32 7 rfl) (xr_32 8 rfl) (xr_32 9 rfl) (xr_1 5 rfl) (xr_32 10 rfl)) rfl rfl (by decide +kernel) ⟨Nat.le_of_ble_eq_true rfl, Nat.le_of_ble_eq_true rfl⟩ 0 rfl rfl rfl rfl rfl (Nat.le_of_ble_eq_true rfl) dX8_carries_222 ⟨by decide, by decide⟩ (fun r u' hq => ?_)
    obtain ⟨z12, hz12, rfl, rfl, qz12_0, qz12_1, qz12_2⟩ := hq
    exact hR _ _ _ _ dX8_carries_225 ⟨(_, _), Eq.symm ((ite_n c1 (ite_n c3 (ite_n c5 (ite_n c7 (ite_n c9 (ite_p c11 (bd_eq hz12 rfl)))))))), rfl, rfl, qz12_0, qz12_1, (FX.tr FX.rf qz12_2)⟩
  by_cases c13 : (X 11) = 104
  · refine j_tableIn h (tgt := 215) dX8_carries_4 (by rw [c13]; decide) (by rw [c13]; decide) (by rw [c13]; rfl) (by decide) ?_
    refine j_aload_n h dX8_carries_215 rfl 0 rfl ?_
    refine j_aload_n h dX8_carries_216 rfl 0 rfl ?_
    refine j_get h inlX8 0 rfl rfl 12 (by decide) (xr_6 14 rfl) rfl (v := .ref (ad 7)) rfl dX8_carries_217 ?_
    refine j_iconst h (v := 0) dX8_carries_220 (by decide) ?_
    refine j_ialdE h 7 rfl 0 rfl (by decide) (by decide) dX8_carries_221 ?_
    refine j_callI h (n := 1) (c_X8_passes l D cy ad _ _ _ hI) (xg_V (xr_32 7 rfl) (xr_32 8 rfl) (xr_32 9 rfl) (xr_1 5 rfl) (xr_32 10 rfl)) rfl rfl (by decide +kernel) ⟨Nat.le_of_ble_eq_true rfl, Nat.le_of_ble_eq_true rfl⟩ 0 rfl rfl rfl rfl rfl (Nat.le_of_ble_eq_true rfl) dX8_carries_222 ⟨by decide, by decide⟩ (fun r u' hq => ?_)
    obtain ⟨z14, hz14, rfl, rfl, qz14_0, qz14_1, qz14_2⟩ := hq
    exact hR _ _ _ _ dX8_carries_225 ⟨(_, _), Eq.symm ((ite_n c1 (ite_n c3 (ite_n c5 (ite_n c7 (ite_n c9 (ite_n c11 (ite_p c13 (bd_eq hz14 rfl))))))))), rfl, rfl, qz14_0, qz14_1, (FX.tr FX.rf qz14_2)⟩
  by_cases c15 : (X 11) = 105
  · refine j_tableIn h (tgt := 215) dX8_carries_4 (by rw [c15]; decide) (by rw [c15]; decide) (by rw [c15]; rfl) (by decide) ?_
    refine j_aload_n h dX8_carries_215 rfl 0 rfl ?_
    refine j_aload_n h dX8_carries_216 rfl 0 rfl ?_
    refine j_get h inlX8 0 rfl rfl 12 (by decide) (xr_6 14 rfl) rfl (v := .ref (ad 7)) rfl dX8_carries_217 ?_
    refine j_iconst h (v := 0) dX8_carries_220 (by decide) ?_
    refine j_ialdE h 7 rfl 0 rfl (by decide) (by decide) dX8_carries_221 ?_
    refine j_callI h (n := 1) (c_X8_passes l D cy ad _ _ _ hI) (xg_V (xr_32 7 rfl) (xr_32 8 rfl) (xr_32 9 rfl) (xr_1 5 rfl) (xr_32 10 rfl)) rfl rfl (by decide +kernel) ⟨Nat.le_of_ble_eq_true rfl, Nat.le_of_ble_eq_true rfl⟩ 0 rfl rfl rfl rfl rfl (Nat.le_of_ble_eq_true rfl) dX8_carries_222 ⟨by decide, by decide⟩ (fun r u' hq => ?_)
    obtain ⟨z16, hz16, rfl, rfl, qz16_0, qz16_1, qz16_2⟩ := hq
    exact hR _ _ _ _ dX8_carries_225 ⟨(_, _), Eq.symm ((ite_n c1 (ite_n c3 (ite_n c5 (ite_n c7 (ite_n c9 (ite_n c11 (ite_n c13 (ite_p c15 (bd_eq hz16 rfl)))))))))), rfl, rfl, qz16_0, qz16_1, (FX.tr FX.rf qz16_2)⟩
  by_cases c17 : (X 11) = 106
  · refine j_tableIn h (tgt := 215) dX8_carries_4 (by rw [c17]; decide) (by rw [c17]; decide) (by rw [c17]; rfl) (by decide) ?_
    refine j_aload_n h dX8_carries_215 rfl 0 rfl ?_
    refine j_aload_n h dX8_carries_216 rfl 0 rfl ?_
    refine j_get h inlX8 0 rfl rfl 12 (by decide) (xr_6 14 rfl) rfl (v := .ref (ad 7)) rfl dX8_carries_217 ?_
    refine j_iconst h (v := 0) dX8_carries_220 (by decide) ?_
    refine j_ialdE h 7 rfl 0 rfl (by decide) (by decide) dX8_carries_221 ?_
    refine j_callI h (n := 1) (c_X8_passes l D cy ad _ _ _ hI) (xg_V (xr_32 7 rfl) (xr_32 8 rfl) (xr_32 9 rfl) (xr_1 5 rfl) (xr_32 10 rfl)) rfl rfl (by decide +kernel) ⟨Nat.le_of_ble_eq_true rfl, Nat.le_of_ble_eq_true rfl⟩ 0 rfl rfl rfl rfl rfl (Nat.le_of_ble_eq_true rfl) dX8_carries_222 ⟨by decide, by decide⟩ (fun r u' hq => ?_)
    obtain ⟨z18, hz18, rfl, rfl, qz18_0, qz18_1, qz18_2⟩ := hq
    exact hR _ _ _ _ dX8_carries_225 ⟨(_, _), Eq.symm ((ite_n c1 (ite_n c3 (ite_n c5 (ite_n c7 (ite_n c9 (ite_n c11 (ite_n c13 (ite_n c15 (ite_p c17 (bd_eq hz18 rfl))))))))))), rfl, rfl, qz18_0, qz18_1, (FX.tr FX.rf qz18_2)⟩
  by_cases c19 : (X 11) = 107
  · refine j_tableIn h (tgt := 215) dX8_carries_4 (by rw [c19]; decide) (by rw [c19]; decide) (by rw [c19]; rfl) (by decide) ?_
    refine j_aload_n h dX8_carries_215 rfl 0 rfl ?_
    refine j_aload_n h dX8_carries_216 rfl 0 rfl ?_
    refine j_get h inlX8 0 rfl rfl 12 (by decide) (xr_6 14 rfl) rfl (v := .ref (ad 7)) rfl dX8_carries_217 ?_
    refine j_iconst h (v := 0) dX8_carries_220 (by decide) ?_
    refine j_ialdE h 7 rfl 0 rfl (by decide) (by decide) dX8_carries_221 ?_
    refine j_callI h (n := 1) (c_X8_passes l D cy ad _ _ _ hI) (xg_V (xr_32 7 rfl) (xr_32 8 rfl) (xr_32 9 rfl) (xr_1 5 rfl) (xr_32 10 rfl)) rfl rfl (by decide +kernel) ⟨Nat.le_of_ble_eq_true rfl, Nat.le_of_ble_eq_true rfl⟩ 0 rfl rfl rfl rfl rfl (Nat.le_of_ble_eq_true rfl) dX8_carries_222 ⟨by decide, by decide⟩ (fun r u' hq => ?_)
    obtain ⟨z20, hz20, rfl, rfl, qz20_0, qz20_1, qz20_2⟩ := hq
    exact hR _ _ _ _ dX8_carries_225 ⟨(_, _), Eq.symm ((ite_n c1 (ite_n c3 (ite_n c5 (ite_n c7 (ite_n c9 (ite_n c11 (ite_n c13 (ite_n c15 (ite_n c17 (ite_p c19 (bd_eq hz20 rfl)))))))))))), rfl, rfl, qz20_0, qz20_1, (FX.tr FX.rf qz20_2)⟩
  by_cases c21 : (X 11) = 108
  · refine j_tableIn h (tgt := 215) dX8_carries_4 (by rw [c21]; decide) (by rw [c21]; decide) (by rw [c21]; rfl) (by decide) ?_
    refine j_aload_n h dX8_carries_215 rfl 0 rfl ?_
    refine j_aload_n h dX8_carries_216 rfl 0 rfl ?_
    refine j_get h inlX8 0 rfl rfl 12 (by decide) (xr_6 14 rfl) rfl (v := .ref (ad 7)) rfl dX8_carries_217 ?_
    refine j_iconst h (v := 0) dX8_carries_220 (by decide) ?_
    refine j_ialdE h 7 rfl 0 rfl (by decide) (by decide) dX8_carries_221 ?_
    refine j_callI h (n := 1) (c_X8_passes l D cy ad _ _ _ hI) (xg_V (xr_32 7 rfl) (xr_32 8 rfl) (xr_32 9 rfl) (xr_1 5 rfl) (xr_32 10 rfl)) rfl rfl (by decide +kernel) ⟨Nat.le_of_ble_eq_true rfl, Nat.le_of_ble_eq_true rfl⟩ 0 rfl rfl rfl rfl rfl (Nat.le_of_ble_eq_true rfl) dX8_carries_222 ⟨by decide, by decide⟩ (fun r u' hq => ?_)
    obtain ⟨z22, hz22, rfl, rfl, qz22_0, qz22_1, qz22_2⟩ := hq
    exact hR _ _ _ _ dX8_carries_225 ⟨(_, _), Eq.symm ((ite_n c1 (ite_n c3 (ite_n c5 (ite_n c7 (ite_n c9 (ite_n c11 (ite_n c13 (ite_n c15 (ite_n c17 (ite_n c19 (ite_p c21 (bd_eq hz22 rfl))))))))))))), rfl, rfl, qz22_0, qz22_1, (FX.tr FX.rf qz22_2)⟩
  by_cases c23 : (X 11) = 109
  · refine j_tableIn h (tgt := 215) dX8_carries_4 (by rw [c23]; decide) (by rw [c23]; decide) (by rw [c23]; rfl) (by decide) ?_
    refine j_aload_n h dX8_carries_215 rfl 0 rfl ?_
    refine j_aload_n h dX8_carries_216 rfl 0 rfl ?_
    refine j_get h inlX8 0 rfl rfl 12 (by decide) (xr_6 14 rfl) rfl (v := .ref (ad 7)) rfl dX8_carries_217 ?_
    refine j_iconst h (v := 0) dX8_carries_220 (by decide) ?_
    refine j_ialdE h 7 rfl 0 rfl (by decide) (by decide) dX8_carries_221 ?_
    refine j_callI h (n := 1) (c_X8_passes l D cy ad _ _ _ hI) (xg_V (xr_32 7 rfl) (xr_32 8 rfl) (xr_32 9 rfl) (xr_1 5 rfl) (xr_32 10 rfl)) rfl rfl (by decide +kernel) ⟨Nat.le_of_ble_eq_true rfl, Nat.le_of_ble_eq_true rfl⟩ 0 rfl rfl rfl rfl rfl (Nat.le_of_ble_eq_true rfl) dX8_carries_222 ⟨by decide, by decide⟩ (fun r u' hq => ?_)
    obtain ⟨z24, hz24, rfl, rfl, qz24_0, qz24_1, qz24_2⟩ := hq
    exact hR _ _ _ _ dX8_carries_225 ⟨(_, _), Eq.symm ((ite_n c1 (ite_n c3 (ite_n c5 (ite_n c7 (ite_n c9 (ite_n c11 (ite_n c13 (ite_n c15 (ite_n c17 (ite_n c19 (ite_n c21 (ite_p c23 (bd_eq hz24 rfl)))))))))))))), rfl, rfl, qz24_0, qz24_1, (FX.tr FX.rf qz24_2)⟩
  by_cases c25 : (X 11) = 110
  · refine j_tableIn h (tgt := 215) dX8_carries_4 (by rw [c25]; decide) (by rw [c25]; decide) (by rw [c25]; rfl) (by decide) ?_
    refine j_aload_n h dX8_carries_215 rfl 0 rfl ?_
    refine j_aload_n h dX8_carries_216 rfl 0 rfl ?_
    refine j_get h inlX8 0 rfl rfl 12 (by decide) (xr_6 14 rfl) rfl (v := .ref (ad 7)) rfl dX8_carries_217 ?_
    refine j_iconst h (v := 0) dX8_carries_220 (by decide) ?_
    refine j_ialdE h 7 rfl 0 rfl (by decide) (by decide) dX8_carries_221 ?_
    refine j_callI h (n := 1) (c_X8_passes l D cy ad _ _ _ hI) (xg_V (xr_32 7 rfl) (xr_32 8 rfl) (xr_32 9 rfl) (xr_1 5 rfl) (xr_32 10 rfl)) rfl rfl (by decide +kernel) ⟨Nat.le_of_ble_eq_true rfl, Nat.le_of_ble_eq_true rfl⟩ 0 rfl rfl rfl rfl rfl (Nat.le_of_ble_eq_true rfl) dX8_carries_222 ⟨by decide, by decide⟩ (fun r u' hq => ?_)
    obtain ⟨z26, hz26, rfl, rfl, qz26_0, qz26_1, qz26_2⟩ := hq
    exact hR _ _ _ _ dX8_carries_225 ⟨(_, _), Eq.symm ((ite_n c1 (ite_n c3 (ite_n c5 (ite_n c7 (ite_n c9 (ite_n c11 (ite_n c13 (ite_n c15 (ite_n c17 (ite_n c19 (ite_n c21 (ite_n c23 (ite_p c25 (bd_eq hz26 rfl))))))))))))))), rfl, rfl, qz26_0, qz26_1, (FX.tr FX.rf qz26_2)⟩
  by_cases c27 : (X 11) = 111
  · refine j_tableIn h (tgt := 215) dX8_carries_4 (by rw [c27]; decide) (by rw [c27]; decide) (by rw [c27]; rfl) (by decide) ?_
    refine j_aload_n h dX8_carries_215 rfl 0 rfl ?_
    refine j_aload_n h dX8_carries_216 rfl 0 rfl ?_
    refine j_get h inlX8 0 rfl rfl 12 (by decide) (xr_6 14 rfl) rfl (v := .ref (ad 7)) rfl dX8_carries_217 ?_
    refine j_iconst h (v := 0) dX8_carries_220 (by decide) ?_
    refine j_ialdE h 7 rfl 0 rfl (by decide) (by decide) dX8_carries_221 ?_
    refine j_callI h (n := 1) (c_X8_passes l D cy ad _ _ _ hI) (xg_V (xr_32 7 rfl) (xr_32 8 rfl) (xr_32 9 rfl) (xr_1 5 rfl) (xr_32 10 rfl)) rfl rfl (by decide +kernel) ⟨Nat.le_of_ble_eq_true rfl, Nat.le_of_ble_eq_true rfl⟩ 0 rfl rfl rfl rfl rfl (Nat.le_of_ble_eq_true rfl) dX8_carries_222 ⟨by decide, by decide⟩ (fun r u' hq => ?_)
    obtain ⟨z28, hz28, rfl, rfl, qz28_0, qz28_1, qz28_2⟩ := hq
    exact hR _ _ _ _ dX8_carries_225 ⟨(_, _), Eq.symm ((ite_n c1 (ite_n c3 (ite_n c5 (ite_n c7 (ite_n c9 (ite_n c11 (ite_n c13 (ite_n c15 (ite_n c17 (ite_n c19 (ite_n c21 (ite_n c23 (ite_n c25 (ite_p c27 (bd_eq hz28 rfl)))))))))))))))), rfl, rfl, qz28_0, qz28_1, (FX.tr FX.rf qz28_2)⟩
  by_cases c29 : (X 11) = 112
  · refine j_tableIn h (tgt := 215) dX8_carries_4 (by rw [c29]; decide) (by rw [c29]; decide) (by rw [c29]; rfl) (by decide) ?_
    refine j_aload_n h dX8_carries_215 rfl 0 rfl ?_
    refine j_aload_n h dX8_carries_216 rfl 0 rfl ?_
    refine j_get h inlX8 0 rfl rfl 12 (by decide) (xr_6 14 rfl) rfl (v := .ref (ad 7)) rfl dX8_carries_217 ?_
    refine j_iconst h (v := 0) dX8_carries_220 (by decide) ?_
    refine j_ialdE h 7 rfl 0 rfl (by decide) (by decide) dX8_carries_221 ?_
    refine j_callI h (n := 1) (c_X8_passes l D cy ad _ _ _ hI) (xg_V (xr_32 7 rfl) (xr_32 8 rfl) (xr_32 9 rfl) (xr_1 5 rfl) (xr_32 10 rfl)) rfl rfl (by decide +kernel) ⟨Nat.le_of_ble_eq_true rfl, Nat.le_of_ble_eq_true rfl⟩ 0 rfl rfl rfl rfl rfl (Nat.le_of_ble_eq_true rfl) dX8_carries_222 ⟨by decide, by decide⟩ (fun r u' hq => ?_)
    obtain ⟨z30, hz30, rfl, rfl, qz30_0, qz30_1, qz30_2⟩ := hq
    exact hR _ _ _ _ dX8_carries_225 ⟨(_, _), Eq.symm ((ite_n c1 (ite_n c3 (ite_n c5 (ite_n c7 (ite_n c9 (ite_n c11 (ite_n c13 (ite_n c15 (ite_n c17 (ite_n c19 (ite_n c21 (ite_n c23 (ite_n c25 (ite_n c27 (ite_p c29 (bd_eq hz30 rfl))))))))))))))))), rfl, rfl, qz30_0, qz30_1, (FX.tr FX.rf qz30_2)⟩
  by_cases c31 : (X 11) = 113
  · refine j_tableIn h (tgt := 215) dX8_carries_4 (by rw [c31]; decide) (by rw [c31]; decide) (by rw [c31]; rfl) (by decide) ?_
    refine j_aload_n h dX8_carries_215 rfl 0 rfl ?_
    refine j_aload_n h dX8_carries_216 rfl 0 rfl ?_
    refine j_get h inlX8 0 rfl rfl 12 (by decide) (xr_6 14 rfl) rfl (v := .ref (ad 7)) rfl dX8_carries_217 ?_
    refine j_iconst h (v := 0) dX8_carries_220 (by decide) ?_
    refine j_ialdE h 7 rfl 0 rfl (by decide) (by decide) dX8_carries_221 ?_
    refine j_callI h (n := 1) (c_X8_passes l D cy ad _ _ _ hI) (xg_V (xr_32 7 rfl) (xr_32 8 rfl) (xr_32 9 rfl) (xr_1 5 rfl) (xr_32 10 rfl)) rfl rfl (by decide +kernel) ⟨Nat.le_of_ble_eq_true rfl, Nat.le_of_ble_eq_true rfl⟩ 0 rfl rfl rfl rfl rfl (Nat.le_of_ble_eq_true rfl) dX8_carries_222 ⟨by decide, by decide⟩ (fun r u' hq => ?_)
    obtain ⟨z32, hz32, rfl, rfl, qz32_0, qz32_1, qz32_2⟩ := hq
    exact hR _ _ _ _ dX8_carries_225 ⟨(_, _), Eq.symm ((ite_n c1 (ite_n c3 (ite_n c5 (ite_n c7 (ite_n c9 (ite_n c11 (ite_n c13 (ite_n c15 (ite_n c17 (ite_n c19 (ite_n c21 (ite_n c23 (ite_n c25 (ite_n c27 (ite_n c29 (ite_p c31 (bd_eq hz32 rfl)))))))))))))))))), rfl, rfl, qz32_0, qz32_1, (FX.tr FX.rf qz32_2)⟩
  by_cases c33 : (X 11) = 114
  · refine j_tableIn h (tgt := 180) dX8_carries_4 (by rw [c33]; decide) (by rw [c33]; decide) (by rw [c33]; rfl) (by decide) ?_
    refine j_aload_n h dX8_carries_180 rfl 0 rfl ?_
    refine j_iconst h (v := 1) dX8_carries_181 (by decide) ?_
    refine j_aload_n h dX8_carries_182 rfl 0 rfl ?_
    refine j_get h inlX8 0 rfl rfl 12 (by decide) (xr_6 14 rfl) rfl (v := .ref (ad 7)) rfl dX8_carries_183 ?_
    refine j_iconst h (v := 0) dX8_carries_186 (by decide) ?_
    refine j_ialdE h 7 rfl 0 rfl (by decide) (by decide) dX8_carries_187 ?_
    refine j_callI h (n := 2) (c_X8_sets l D cy ad _ _ _ _ (vp_in_nI (by decide) (by decide))) (xg_V (xr_29 5 rfl) (xr_29 6 rfl) (xr_29 7 rfl) (xr_1 5 rfl) (xr_29 8 rfl)) rfl rfl (by decide +kernel) ⟨Nat.le_of_ble_eq_true rfl, Nat.le_of_ble_eq_true rfl⟩ 0 rfl rfl rfl rfl rfl (Nat.le_of_ble_eq_true rfl) dX8_carries_188 ⟨by decide, by decide⟩ (fun r u' hq => ?_)
    obtain ⟨z34, hz34, rfl, rfl⟩ := hq
    have hIz34 : MI z34.2.2 := MI_st hI (vp_in_nI (by decide) (by decide)) hz34
    have qz34_1 := r3_st hz34
    exact hR _ _ _ _ dX8_carries_191 ⟨(_, _), Eq.symm ((ite_n c1 (ite_n c3 (ite_n c5 (ite_n c7 (ite_n c9 (ite_n c11 (ite_n c13 (ite_n c15 (ite_n c17 (ite_n c19 (ite_n c21 (ite_n c23 (ite_n c25 (ite_n c27 (ite_n c29 (ite_n c31 (ite_p c33 (bd_eq hz34 rfl))))))))))))))))))), rfl, rfl, hIz34, qz34_1, (FX.tr FX.rf (FX_st hz34))⟩
  by_cases c35 : (X 11) = 115
  · refine j_tableIn h (tgt := 192) dX8_carries_4 (by rw [c35]; decide) (by rw [c35]; decide) (by rw [c35]; rfl) (by decide) ?_
    refine j_aload_n h dX8_carries_192 rfl 0 rfl ?_
    refine j_iconst h (v := 2) dX8_carries_193 (by decide) ?_
    refine j_aload_n h dX8_carries_194 rfl 0 rfl ?_
    refine j_get h inlX8 0 rfl rfl 12 (by decide) (xr_6 14 rfl) rfl (v := .ref (ad 7)) rfl dX8_carries_195 ?_
    refine j_iconst h (v := 0) dX8_carries_198 (by decide) ?_
    refine j_ialdE h 7 rfl 0 rfl (by decide) (by decide) dX8_carries_199 ?_
    refine j_callI h (n := 2) (c_X8_sets l D cy ad _ _ _ _ (vp_in_nI (by decide) (by decide))) (xg_V (xr_29 5 rfl) (xr_29 6 rfl) (xr_29 7 rfl) (xr_1 5 rfl) (xr_29 8 rfl)) rfl rfl (by decide +kernel) ⟨Nat.le_of_ble_eq_true rfl, Nat.le_of_ble_eq_true rfl⟩ 0 rfl rfl rfl rfl rfl (Nat.le_of_ble_eq_true rfl) dX8_carries_200 ⟨by decide, by decide⟩ (fun r u' hq => ?_)
    obtain ⟨z36, hz36, rfl, rfl⟩ := hq
    have hIz36 : MI z36.2.2 := MI_st hI (vp_in_nI (by decide) (by decide)) hz36
    have qz36_1 := r3_st hz36
    exact hR _ _ _ _ dX8_carries_203 ⟨(_, _), Eq.symm ((ite_n c1 (ite_n c3 (ite_n c5 (ite_n c7 (ite_n c9 (ite_n c11 (ite_n c13 (ite_n c15 (ite_n c17 (ite_n c19 (ite_n c21 (ite_n c23 (ite_n c25 (ite_n c27 (ite_n c29 (ite_n c31 (ite_n c33 (ite_p c35 (bd_eq hz36 rfl)))))))))))))))))))), rfl, rfl, hIz36, qz36_1, (FX.tr FX.rf (FX_st hz36))⟩
  by_cases c37 : (X 11) = 116
  · refine j_tableIn h (tgt := 204) dX8_carries_4 (by rw [c37]; decide) (by rw [c37]; decide) (by rw [c37]; rfl) (by decide) ?_
    refine j_aload_n h dX8_carries_204 rfl 0 rfl ?_
    refine j_aload_n h dX8_carries_205 rfl 0 rfl ?_
    refine j_get h inlX8 0 rfl rfl 12 (by decide) (xr_6 14 rfl) rfl (v := .ref (ad 7)) rfl dX8_carries_206 ?_
    refine j_iconst h (v := 0) dX8_carries_209 (by decide) ?_
    refine j_ialdE h 7 rfl 0 rfl (by decide) (by decide) dX8_carries_210 ?_
    refine j_callI h (n := 1) (c_X8_drinks l D cy ad _ _ _ hI) (xg_V (xr_31 1 rfl) (xr_31 2 rfl) (xr_31 3 rfl) (xr_1 5 rfl) (xr_31 4 rfl)) rfl rfl (by decide +kernel) ⟨Nat.le_of_ble_eq_true rfl, Nat.le_of_ble_eq_true rfl⟩ 0 rfl rfl rfl rfl rfl (Nat.le_of_ble_eq_true rfl) dX8_carries_211 ⟨by decide, by decide⟩ (fun r u' hq => ?_)
    obtain ⟨z38, hz38, rfl, rfl, qz38_0, qz38_1, qz38_2⟩ := hq
    exact hR _ _ _ _ dX8_carries_214 ⟨(_, _), Eq.symm ((ite_n c1 (ite_n c3 (ite_n c5 (ite_n c7 (ite_n c9 (ite_n c11 (ite_n c13 (ite_n c15 (ite_n c17 (ite_n c19 (ite_n c21 (ite_n c23 (ite_n c25 (ite_n c27 (ite_n c29 (ite_n c31 (ite_n c33 (ite_n c35 (ite_p c37 (bd_eq hz38 rfl))))))))))))))))))))), rfl, rfl, qz38_0, qz38_1, (FX.tr FX.rf qz38_2)⟩
  by_cases c39 : (X 11) = 117
  · refine j_tableIn h (tgt := 215) dX8_carries_4 (by rw [c39]; decide) (by rw [c39]; decide) (by rw [c39]; rfl) (by decide) ?_
    refine j_aload_n h dX8_carries_215 rfl 0 rfl ?_
    refine j_aload_n h dX8_carries_216 rfl 0 rfl ?_
    refine j_get h inlX8 0 rfl rfl 12 (by decide) (xr_6 14 rfl) rfl (v := .ref (ad 7)) rfl dX8_carries_217 ?_
    refine j_iconst h (v := 0) dX8_carries_220 (by decide) ?_
    refine j_ialdE h 7 rfl 0 rfl (by decide) (by decide) dX8_carries_221 ?_
    refine j_callI h (n := 1) (c_X8_passes l D cy ad _ _ _ hI) (xg_V (xr_32 7 rfl) (xr_32 8 rfl) (xr_32 9 rfl) (xr_1 5 rfl) (xr_32 10 rfl)) rfl rfl (by decide +kernel) ⟨Nat.le_of_ble_eq_true rfl, Nat.le_of_ble_eq_true rfl⟩ 0 rfl rfl rfl rfl rfl (Nat.le_of_ble_eq_true rfl) dX8_carries_222 ⟨by decide, by decide⟩ (fun r u' hq => ?_)
    obtain ⟨z40, hz40, rfl, rfl, qz40_0, qz40_1, qz40_2⟩ := hq
    exact hR _ _ _ _ dX8_carries_225 ⟨(_, _), Eq.symm ((ite_n c1 (ite_n c3 (ite_n c5 (ite_n c7 (ite_n c9 (ite_n c11 (ite_n c13 (ite_n c15 (ite_n c17 (ite_n c19 (ite_n c21 (ite_n c23 (ite_n c25 (ite_n c27 (ite_n c29 (ite_n c31 (ite_n c33 (ite_n c35 (ite_n c37 (ite_p c39 (bd_eq hz40 rfl)))))))))))))))))))))), rfl, rfl, qz40_0, qz40_1, (FX.tr FX.rf qz40_2)⟩
  by_cases c41 : (X 11) = 118
  · refine j_tableIn h (tgt := 215) dX8_carries_4 (by rw [c41]; decide) (by rw [c41]; decide) (by rw [c41]; rfl) (by decide) ?_
    refine j_aload_n h dX8_carries_215 rfl 0 rfl ?_
    refine j_aload_n h dX8_carries_216 rfl 0 rfl ?_
    refine j_get h inlX8 0 rfl rfl 12 (by decide) (xr_6 14 rfl) rfl (v := .ref (ad 7)) rfl dX8_carries_217 ?_
    refine j_iconst h (v := 0) dX8_carries_220 (by decide) ?_
    refine j_ialdE h 7 rfl 0 rfl (by decide) (by decide) dX8_carries_221 ?_
    refine j_callI h (n := 1) (c_X8_passes l D cy ad _ _ _ hI) (xg_V (xr_32 7 rfl) (xr_32 8 rfl) (xr_32 9 rfl) (xr_1 5 rfl) (xr_32 10 rfl)) rfl rfl (by decide +kernel) ⟨Nat.le_of_ble_eq_true rfl, Nat.le_of_ble_eq_true rfl⟩ 0 rfl rfl rfl rfl rfl (Nat.le_of_ble_eq_true rfl) dX8_carries_222 ⟨by decide, by decide⟩ (fun r u' hq => ?_)
    obtain ⟨z42, hz42, rfl, rfl, qz42_0, qz42_1, qz42_2⟩ := hq
    exact hR _ _ _ _ dX8_carries_225 ⟨(_, _), Eq.symm ((ite_n c1 (ite_n c3 (ite_n c5 (ite_n c7 (ite_n c9 (ite_n c11 (ite_n c13 (ite_n c15 (ite_n c17 (ite_n c19 (ite_n c21 (ite_n c23 (ite_n c25 (ite_n c27 (ite_n c29 (ite_n c31 (ite_n c33 (ite_n c35 (ite_n c37 (ite_n c39 (ite_p c41 (bd_eq hz42 rfl))))))))))))))))))))))), rfl, rfl, qz42_0, qz42_1, (FX.tr FX.rf qz42_2)⟩
  by_cases c43 : (X 11) = 119
  · refine j_tableIn h (tgt := 169) dX8_carries_4 (by rw [c43]; decide) (by rw [c43]; decide) (by rw [c43]; rfl) (by decide) ?_
    refine j_aload_n h dX8_carries_169 rfl 0 rfl ?_
    refine j_aload_n h dX8_carries_170 rfl 0 rfl ?_
    refine j_get h inlX8 0 rfl rfl 12 (by decide) (xr_6 14 rfl) rfl (v := .ref (ad 7)) rfl dX8_carries_171 ?_
    refine j_iconst h (v := 0) dX8_carries_174 (by decide) ?_
    refine j_ialdE h 7 rfl 0 rfl (by decide) (by decide) dX8_carries_175 ?_
    refine j_callI h (n := 1) (c_X8_sweeps l D cy ad _ _ _ hI) (xg_V (xr_28 9 rfl) (xr_28 10 rfl) (xr_28 11 rfl) (xr_1 5 rfl) (xr_28 12 rfl)) rfl rfl (by decide +kernel) ⟨Nat.le_of_ble_eq_true rfl, Nat.le_of_ble_eq_true rfl⟩ 0 rfl rfl rfl rfl rfl (Nat.le_of_ble_eq_true rfl) dX8_carries_176 ⟨by decide, by decide⟩ (fun r u' hq => ?_)
    obtain ⟨z44, hz44, rfl, rfl, qz44_0, qz44_1, qz44_2⟩ := hq
    exact hR _ _ _ _ dX8_carries_179 ⟨(_, _), Eq.symm ((ite_n c1 (ite_n c3 (ite_n c5 (ite_n c7 (ite_n c9 (ite_n c11 (ite_n c13 (ite_n c15 (ite_n c17 (ite_n c19 (ite_n c21 (ite_n c23 (ite_n c25 (ite_n c27 (ite_n c29 (ite_n c31 (ite_n c33 (ite_n c35 (ite_n c37 (ite_n c39 (ite_n c41 (ite_p c43 (bd_eq hz44 rfl)))))))))))))))))))))))), rfl, rfl, qz44_0, qz44_1, (FX.tr FX.rf qz44_2)⟩
  refine j_tableOut h (tgt := 215) dX8_carries_4 (sw_out98_22 (X 11) c1 c3 c5 c7 c9 c11 c13 c15 c17 c19 c21 c23 c25 c27 c29 c31 c33 c35 c37 c39 c41 c43) (by decide) ?_
  refine j_aload_n h dX8_carries_215 rfl 0 rfl ?_
  refine j_aload_n h dX8_carries_216 rfl 0 rfl ?_
  refine j_get h inlX8 0 rfl rfl 12 (by decide) (xr_6 14 rfl) rfl (v := .ref (ad 7)) rfl dX8_carries_217 ?_
  refine j_iconst h (v := 0) dX8_carries_220 (by decide) ?_
  refine j_ialdE h 7 rfl 0 rfl (by decide) (by decide) dX8_carries_221 ?_
  refine j_callI h (n := 1) (c_X8_passes l D cy ad _ _ _ hI) (xg_V (xr_32 7 rfl) (xr_32 8 rfl) (xr_32 9 rfl) (xr_1 5 rfl) (xr_32 10 rfl)) rfl rfl (by decide +kernel) ⟨Nat.le_of_ble_eq_true rfl, Nat.le_of_ble_eq_true rfl⟩ 0 rfl rfl rfl rfl rfl (Nat.le_of_ble_eq_true rfl) dX8_carries_222 ⟨by decide, by decide⟩ (fun r u' hq => ?_)
  obtain ⟨z45, hz45, rfl, rfl, qz45_0, qz45_1, qz45_2⟩ := hq
  exact hR _ _ _ _ dX8_carries_225 ⟨(_, _), Eq.symm ((ite_n c1 (ite_n c3 (ite_n c5 (ite_n c7 (ite_n c9 (ite_n c11 (ite_n c13 (ite_n c15 (ite_n c17 (ite_n c19 (ite_n c21 (ite_n c23 (ite_n c25 (ite_n c27 (ite_n c29 (ite_n c31 (ite_n c33 (ite_n c35 (ite_n c37 (ite_n c39 (ite_n c41 (ite_n c43 (bd_eq hz45 rfl)))))))))))))))))))))))), rfl, rfl, qz45_0, qz45_1, (FX.tr FX.rf qz45_2)⟩

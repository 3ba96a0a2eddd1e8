/-- where the reading stands in the text -/
def TI (X : Nat → Int32) : Prop := vp_in (X 9) 61 ∧ vp_in (X 10) 61 ∧ X 10 ≤ X 9
theorem TI.lt2 {X : Nat → Int32} (h : TI X) (c : ¬ X 9 ≤ X 10) : vp_in (X 10) 60 := by
  obtain ⟨h1, h2, h3⟩ := h
  obtain ⟨a, ha, ea⟩ := vp_in_of h1 (by decide)
  obtain ⟨i, hi, ei⟩ := vp_in_of h2 (by decide)
  rw [ea, ei] at c
  rw [ei]
  have : ¬ a ≤ i := fun q => c (nI_le q (by omega))
  exact vp_in_nI (by omega) (by decide)
theorem TI.ne {X : Nat → Int32} (h : TI X) (c : ¬ X 10 = X 9) : ¬ X 9 ≤ X 10 := fun q => c (Int32.le_antisymm h.2.2 q)
theorem TI.lt {X : Nat → Int32} (h : TI X) (c : ¬ X 10 = X 9) : vp_in (X 10) 60 := h.lt2 (h.ne c)
theorem TI.next2 {X : Nat → Int32} (h : TI X) (c : ¬ X 9 ≤ X 10) : TI (upd X 10 (X 10 + 1)) := by
  obtain ⟨h1, h2, h3⟩ := h
  obtain ⟨a, ha, ea⟩ := vp_in_of h1 (by decide)
  obtain ⟨i, hi, ei⟩ := vp_in_of h2 (by decide)
  rw [ea, ei] at c
  have hc : ¬ a ≤ i := fun q => c (nI_le q (by omega))
  refine ⟨?_, ?_, ?_⟩
  · rw [upd_ne _ _ (by omega)]; exact h1
  · rw [upd_eq, ei, nI_1]; exact vp_in_nI (by omega) (by decide)
  · rw [upd_eq, upd_ne _ _ (by omega), ea, ei, nI_1]; exact nI_le (by omega) (by omega)
theorem TI.next {X : Nat → Int32} (h : TI X) (c : ¬ X 10 = X 9) : TI (upd X 10 (X 10 + 1)) := h.next2 (h.ne c)
theorem TI.o {X : Nat → Int32} {k : Nat} {v : Int32} (h : TI X) (h9 : k ≠ 9) (h10 : k ≠ 10) : TI (upd X k v) := by
  obtain ⟨h1, h2, h3⟩ := h
  refine ⟨?_, ?_, ?_⟩
  · rw [upd_ne _ _ (by omega)]; exact h1
  · rw [upd_ne _ _ (by omega)]; exact h2
  · rw [upd_ne _ _ (by omega), upd_ne _ _ (by omega)]; exact h3
theorem dg_zero {x : Int32} (h : (3 : Int) ≤ x.toInt + ((0 : Nat) : Int) ∧ 0 ≤ x.toInt ∧ x.toInt ≤ 2) : False := by omega
theorem dg_back {x y : Int32} {n : Nat} (h : (3 : Int) ≤ x.toInt + ((n + 1 : Nat) : Int) ∧ 0 ≤ x.toInt ∧ x.toInt ≤ 2) (hy : y ≤ nI 2) (c : ¬ y ≤ x) : (3 : Int) ≤ (x + 1).toInt + ((n : Nat) : Int) ∧ 0 ≤ (x + 1).toInt ∧ (x + 1).toInt ≤ 2 := by
  have h1 := Int32.le_iff_toInt_le.mp hy
  have h2 : ¬ y.toInt ≤ x.toInt := fun q => c (Int32.le_iff_toInt_le.mpr q)
  rw [nI_toInt (by decide)] at h1
  have hx : ¬ x < 0 := fun q => by have := Int32.lt_iff_toInt_lt.mp q; rw [Int32.toInt_zero] at this; omega
  obtain ⟨j, hj, rfl⟩ := nI_of hx
  rw [nI_toInt hj] at h h2
  rw [nI_1, nI_toInt (by omega)]
  omega
theorem z_nar {v : Int32} (h : v = 0 ∨ v = 1) : narrow .boolean (.int v) = .int v := by rcases h with rfl | rfl <;> rfl
theorem z_fit {v : Int32} (h : v = 0 ∨ v = 1) : fits .boolean (.int v) = true := by rcases h with rfl | rfl <;> rfl
theorem c_nar {v : Int32} (h : ∃ q : Nat, q < 128 ∧ v = nI q) : narrow .char (.int v) = .int v := by
  obtain ⟨q, hq, rfl⟩ := h
  exact (pk_charN (by omega)).1
theorem c_fit {v : Int32} (h : ∃ q : Nat, q < 128 ∧ v = nI q) : fits .char (.int v) = true := by
  obtain ⟨q, hq, rfl⟩ := h
  exact (pk_charN (by omega)).2
/-- the text's characters -/
def CI (A : Nat → Nat → Int32) : Prop := ∀ j, j < 60 → ∃ q : Nat, q < 128 ∧ A 5 j = nI q

def f_X8_isNext (X : Nat → Int32) (A : Nat → Nat → Int32) (p1 : Int32) : Int32 × (Nat → Int32) :=
  if (X 10) = (X 9) then
    (0, X)
  else
    if (A 5 ((X 10).toNatClampNeg)) = p1 then
      (1, upd X 10 ((X 10) + 1))
    else
      (0, X)
abbrev rm_X8_isNext : Room := { frames := 0, cells := 0, slots := 0, locals := 0 }
set_option maxRecDepth 100000 in
set_option maxHeartbeats 4000000 in
theorem c_X8_isNext (l : Launch) (D : va_G) (cy : Nat → ClassId) (ad : Nat → Nat) (X : Nat → Int32) (A : Nat → Nat → Int32) (p1 : Int32) (hT : TI X) : CtI l D cy (MW cy ad) yX8_isNext cX8_isNext 2 (some .boolean) rm_X8_isNext [.ref (ad 0), .int p1] (X, A) (fun rv u => ∃ z : Int32 × ((Nat → Int32)), z = f_X8_isNext X A p1 ∧ rv = z.1 ∧ u = (z.2, A) ∧ (rv = 0 ∨ rv = 1)) 0 0 := by
  refine m_entZ cX8_isNext 2 (by decide) (Nat.le_of_ble_eq_true rfl) (fun J h hR => ?_)
  show J (X, A) (0, 0) [(0, .ref (ad 0)), (1, .int p1)] 0 []
  refine j_aload_n h dX8_isNext_0 rfl 0 rfl ?_
  refine j_get h inlX8 0 rfl rfl 10 (by decide) (xr_38 12 rfl) rfl (v := .int (X 10)) rfl dX8_isNext_1 ?_
  refine j_aload_n h dX8_isNext_4 rfl 0 rfl ?_
  refine j_get h inlX8 0 rfl rfl 9 (by decide) (xr_12 12 rfl) rfl (v := .int (X 9)) rfl dX8_isNext_5 ?_
  refine j_icmp_eq h (tgt := 24) dX8_isNext_8 (by decide) (fun c1 => ?_) (fun c1 => ?_)
  · refine j_iconst h (v := 0) dX8_isNext_24 (by decide) ?_
    exact hR _ _ _ _ dX8_isNext_25 (Or.inl rfl) ⟨(_, _), (((if_pos c1).trans rfl)).symm, rfl, rfl, (Or.inl rfl)⟩
  · have vat : vp_in (X 10) 60 := hT.lt c1
    have bat : (X 10).toNatClampNeg < 60 := vp_lt vat
    have eat : X 10 = nI (X 10).toNatClampNeg := vp_nI vat (by decide)
    refine j_aload_n h dX8_isNext_11 rfl 0 rfl ?_
    refine j_get h inlX8 0 rfl rfl 8 (by decide) (xr_6 13 rfl) rfl (v := .ref (ad 6)) rfl dX8_isNext_12 ?_
    refine j_aload_n h dX8_isNext_15 rfl 0 rfl ?_
    refine j_get h inlX8 0 rfl rfl 10 (by decide) (xr_38 12 rfl) rfl (v := .int (X 10)) rfl dX8_isNext_16 ?_
    refine j_caldE h 6 rfl ((X 10).toNatClampNeg) eat (by omega) (by decide) dX8_isNext_19 ?_
    refine j_iload_n h dX8_isNext_20 rfl 1 rfl ?_
    refine j_icmp_eq h (tgt := 26) dX8_isNext_21 (by decide) (fun c2 => ?_) (fun c2 => ?_)
    · refine j_aload_n h dX8_isNext_26 rfl 0 rfl ?_
      refine j_dup h dX8_isNext_27 rfl ?_
      refine j_get h inlX8 0 rfl rfl 10 (by decide) (xr_38 12 rfl) rfl (v := .int (X 10)) rfl dX8_isNext_28 ?_
      refine j_iconst h (v := 1) dX8_isNext_31 (by decide) ?_
      refine j_iadd h dX8_isNext_32 ?_
      refine j_put h inlX8 tyX8 tyX8_ok nmX8 0 rfl rfl 10 (by decide) (xr_38 12 rfl) rfl rfl rfl rfl (Nat.le_of_ble_eq_true rfl) dX8_isNext_33 (u' := (upd X 10 ((X 10) + 1), A)) rfl ?_
      refine j_iconst h (v := 1) dX8_isNext_36 (by decide) ?_
      exact hR _ _ _ _ dX8_isNext_37 (Or.inr rfl) ⟨(_, _), (((if_neg c1).trans ((if_pos c2).trans rfl))).symm, rfl, rfl, (Or.inr rfl)⟩
    · refine j_iconst h (v := 0) dX8_isNext_24 (by decide) ?_
      exact hR _ _ _ _ dX8_isNext_25 (Or.inl rfl) ⟨(_, _), (((if_neg c1).trans ((if_neg c2).trans rfl))).symm, rfl, rfl, (Or.inl rfl)⟩

theorem TI_nx {X : Nat → Int32} {A : Nat → Nat → Int32} {p : Int32} {z : Int32 × (Nat → Int32)} (h : TI X) (hz : z = f_X8_isNext X A p) : TI z.2 := by
  unfold f_X8_isNext at hz
  split at hz
  · rw [hz]; exact h
  · rename_i c
    split at hz
    · rw [hz]; exact h.next c
    · rw [hz]; exact h

def f_X8_digits_l9 (p1 : Int32) (p2 : Int32) : Nat → Int32 → (Nat → Int32) → (Nat → Nat → Int32) → Int32 × (Nat → Int32) × (Nat → Nat → Int32)
  | 0, x, Xk, Ak => (x, Xk, Ak)
  | n + 1, x, Xk, Ak =>
    if p2 ≤ x then
      (x, Xk, Ak)
    else
      if (Xk 9) ≤ (Xk 10) then
        (x, Xk, Ak)
      else
        let z3 := f_X8_in Xk Ak (Ak 5 ((Xk 10).toNatClampNeg)) 48 57
        if z3 = 0 then
          (x, Xk, Ak)
        else
          f_X8_digits_l9 p1 p2 n (x + 1) (upd Xk 10 ((Xk 10) + 1)) (up2 Ak 6 p1.toNatClampNeg (((10 * (Ak 6 p1.toNatClampNeg)) + (Ak 5 ((Xk 10).toNatClampNeg))) - 48))
def f_X8_digits (X : Nat → Int32) (A : Nat → Nat → Int32) (p1 : Int32) (p2 : Int32) : Int32 × (Nat → Int32) × (Nat → Nat → Int32) :=
  let z5 := f_X8_digits_l9 p1 p2 3 0 X (up2 A 6 p1.toNatClampNeg 0)
  if z5.1 ≤ 0 then
    (0, (z5.2.1, z5.2.2))
  else
    (1, (z5.2.1, z5.2.2))
abbrev rm_X8_digits : Room := { frames := 1, cells := 0, slots := 0, locals := 22 }
set_option maxRecDepth 100000 in
set_option maxHeartbeats 4000000 in
theorem c_X8_digits (l : Launch) (D : va_G) (cy : Nat → ClassId) (ad : Nat → Nat) (X : Nat → Int32) (A : Nat → Nat → Int32) (p1 : Int32) (p2 : Int32) (v1 : vp_in p1 4) (hT : TI X) (hM : p2 ≤ nI 2) : CtI l D cy (MW cy ad) yX8_digits cX8_digits 4 (some .boolean) rm_X8_digits [.ref (ad 0), .int p1, .int p2] (X, A) (fun rv u => ∃ z : Int32 × ((Nat → Int32) × (Nat → Nat → Int32)), z = f_X8_digits X A p1 p2 ∧ rv = z.1 ∧ u = z.2 ∧ (rv = 0 ∨ rv = 1)) 0 0 := by
  refine m_entZ cX8_digits 4 (by decide) (Nat.le_of_ble_eq_true rfl) (fun J h hR => ?_)
  show J (X, A) (0, 0) [(0, .ref (ad 0)), (1, .int p1), (2, .int p2)] 0 []
  have b1 : p1.toNatClampNeg < 4 := vp_lt v1
  have e1 : p1 = nI p1.toNatClampNeg := vp_nI v1 (by decide)
  refine j_iconst h (v := 0) dX8_digits_0 (by decide) ?_
  refine j_istore_n h (lv' := [(3, _), (0, _), (1, _), (2, _)]) dX8_digits_1 rfl (by decide) rfl ?_
  refine j_aload_n h dX8_digits_2 rfl 1 rfl ?_
  refine j_get h inlX8 0 rfl rfl 12 (by decide) (xr_6 14 rfl) rfl (v := .ref (ad 7)) rfl dX8_digits_3 ?_
  refine j_iload_n h dX8_digits_6 rfl 2 rfl ?_
  refine j_iconst h (v := 0) dX8_digits_7 (by decide) ?_
  refine j_iastE h 7 rfl p1.toNatClampNeg e1 (by omega) (by decide) dX8_digits_8 (u' := (X, up2 A 6 p1.toNatClampNeg 0)) rfl ?_
  have lp9 : ∀ (n : Nat) (x : Int32) (Xk : Nat → Int32) (Ak : Nat → Nat → Int32), (3 : Int) ≤ x.toInt + (n : Int) ∧ 0 ≤ x.toInt ∧ x.toInt ≤ 2 → TI Xk → (∀ z : Int32 × (Nat → Int32) × (Nat → Nat → Int32), z = f_X8_digits_l9 p1 p2 n x Xk Ak → J (z.2.1, z.2.2) (0, 0) [(0, .ref (ad 0)), (1, .int p1), (2, .int p2), (3, .int z.1)] 85 []) → J (Xk, Ak) (0, 0) [(0, .ref (ad 0)), (1, .int p1), (2, .int p2), (3, .int x)] 9 [] := by
    intro n
    induction n with
    | zero => intro x Xk Ak hx hTk hf; exact absurd hx dg_zero
    | succ n ih =>
      intro x Xk Ak hx hTk hf
      refine j_iload_n h dX8_digits_9 rfl 3 rfl ?_
      refine j_iload_n h dX8_digits_10 rfl 2 rfl ?_
      refine j_icmp_ge h (tgt := 85) dX8_digits_11 (by decide) (fun c1 => ?_) (fun c1 => ?_)
      · refine j_sub h [0, 1, 2, 3] rfl ?_
        exact hf (_, _, _) (Eq.symm (((if_pos c1).trans rfl)))
      · refine j_aload_n h dX8_digits_14 rfl 0 rfl ?_
        refine j_get h inlX8 0 rfl rfl 10 (by decide) (xr_38 12 rfl) rfl (v := .int (Xk 10)) rfl dX8_digits_15 ?_
        refine j_aload_n h dX8_digits_18 rfl 0 rfl ?_
        refine j_get h inlX8 0 rfl rfl 9 (by decide) (xr_12 12 rfl) rfl (v := .int (Xk 9)) rfl dX8_digits_19 ?_
        refine j_icmp_ge h (tgt := 85) dX8_digits_22 (by decide) (fun c2 => ?_) (fun c2 => ?_)
        · refine j_sub h [0, 1, 2, 3] rfl ?_
          exact hf (_, _, _) (Eq.symm (((if_neg c1).trans ((if_pos c2).trans rfl))))
        · have vat : vp_in (Xk 10) 60 := hTk.lt2 c2
          have bat : (Xk 10).toNatClampNeg < 60 := vp_lt vat
          have eat : Xk 10 = nI (Xk 10).toNatClampNeg := vp_nI vat (by decide)
          refine j_aload_n h dX8_digits_25 rfl 0 rfl ?_
          refine j_get h inlX8 0 rfl rfl 8 (by decide) (xr_6 13 rfl) rfl (v := .ref (ad 6)) rfl dX8_digits_26 ?_
          refine j_aload_n h dX8_digits_29 rfl 0 rfl ?_
          refine j_get h inlX8 0 rfl rfl 10 (by decide) (xr_38 12 rfl) rfl (v := .int (Xk 10)) rfl dX8_digits_30 ?_
          refine j_caldE h 6 rfl ((Xk 10).toNatClampNeg) eat (by omega) (by decide) dX8_digits_33 ?_
          refine j_bipush h (v := 48) dX8_digits_34 (by decide) ?_
          refine j_bipush h (v := 57) dX8_digits_36 (by decide) ?_
          refine j_callS h (n := 3) (c_X8_in l D cy ad _ _ _ _ _) (xg_S (xr_12 13 rfl) (xr_12 14 rfl) (xr_1 5 rfl) (xr_12 15 rfl)) rfl rfl (by decide +kernel) ⟨Nat.le_of_ble_eq_true rfl, Nat.le_of_ble_eq_true rfl⟩  rfl rfl (Nat.le_of_ble_eq_true rfl) dX8_digits_38 ⟨by decide, by decide⟩ (fun z3 u' hq => ?_)
          obtain ⟨hz3, rfl, bz3⟩ := hq
          refine j_if_eq h (tgt := 85) dX8_digits_41 (by decide) (fun c4 => ?_) (fun c4 => ?_)
          · refine j_sub h [0, 1, 2, 3] rfl ?_
            subst hz3
            exact hf (_, _, _) (Eq.symm (((if_neg c1).trans ((if_neg c2).trans ((if_pos c4).trans rfl)))))
          · refine j_aload_n h dX8_digits_44 rfl 0 rfl ?_
            refine j_get h inlX8 0 rfl rfl 12 (by decide) (xr_6 14 rfl) rfl (v := .ref (ad 7)) rfl dX8_digits_45 ?_
            refine j_iload_n h dX8_digits_48 rfl 1 rfl ?_
            refine j_bipush h (v := 10) dX8_digits_49 (by decide) ?_
            refine j_aload_n h dX8_digits_51 rfl 0 rfl ?_
            refine j_get h inlX8 0 rfl rfl 12 (by decide) (xr_6 14 rfl) rfl (v := .ref (ad 7)) rfl dX8_digits_52 ?_
            refine j_iload_n h dX8_digits_55 rfl 1 rfl ?_
            refine j_ialdE h 7 rfl p1.toNatClampNeg e1 (by omega) (by decide) dX8_digits_56 ?_
            refine j_imul h dX8_digits_57 ?_
            refine j_aload_n h dX8_digits_58 rfl 0 rfl ?_
            refine j_get h inlX8 0 rfl rfl 8 (by decide) (xr_6 13 rfl) rfl (v := .ref (ad 6)) rfl dX8_digits_59 ?_
            refine j_aload_n h dX8_digits_62 rfl 0 rfl ?_
            refine j_dup h dX8_digits_63 rfl ?_
            refine j_get h inlX8 0 rfl rfl 10 (by decide) (xr_38 12 rfl) rfl (v := .int (Xk 10)) rfl dX8_digits_64 ?_
            refine j_dup_x1 h dX8_digits_67 rfl rfl ?_
            refine j_iconst h (v := 1) dX8_digits_68 (by decide) ?_
            refine j_iadd h dX8_digits_69 ?_
            refine j_put h inlX8 tyX8 tyX8_ok nmX8 0 rfl rfl 10 (by decide) (xr_38 12 rfl) rfl rfl rfl rfl (Nat.le_of_ble_eq_true rfl) dX8_digits_70 (u' := (upd Xk 10 ((Xk 10) + 1), Ak)) rfl ?_
            refine j_caldE h 6 rfl ((Xk 10).toNatClampNeg) eat (by omega) (by decide) dX8_digits_73 ?_
            refine j_iadd h dX8_digits_74 ?_
            refine j_bipush h (v := 48) dX8_digits_75 (by decide) ?_
            refine j_isub h dX8_digits_77 ?_
            refine j_iastE h 7 rfl p1.toNatClampNeg e1 (by omega) (by decide) dX8_digits_78 (u' := (upd Xk 10 ((Xk 10) + 1), up2 Ak 6 p1.toNatClampNeg (((10 * (Ak 6 p1.toNatClampNeg)) + (Ak 5 ((Xk 10).toNatClampNeg))) - 48))) rfl ?_
            refine j_iinc h (v := x + 1) (lv' := [(3, _), (0, _), (1, _), (2, _)]) dX8_digits_79 (k := 3) rfl rfl (by decide) rfl ?_
            refine j_goto h (tgt := 9) dX8_digits_82 (by decide) ?_
            refine j_sub h [1, 2, 3, 0] rfl ?_
            subst hz3
            exact ih _ _ _ (dg_back hx hM c1) (hTk.next2 c2) (fun z hz => hf z (hz.trans (Eq.symm (((if_neg c1).trans ((if_neg c2).trans ((if_neg c4).trans rfl)))))))
  refine j_sub h [1, 2, 3, 0] rfl ?_
  refine lp9 3 _ _ _ ⟨by decide, by decide, by decide⟩ hT (fun z5 hz5 => ?_)
  refine j_iload_n h dX8_digits_85 rfl 3 rfl ?_
  refine j_if_le h (tgt := 93) dX8_digits_86 (by decide) (fun c6 => ?_) (fun c6 => ?_)
  · refine j_iconst h (v := 0) dX8_digits_93 (by decide) ?_
    subst hz5
    exact hR _ _ _ _ dX8_digits_94 (Or.inl rfl) ⟨(_, _), (((if_pos c6).trans rfl)).symm, rfl, rfl, (Or.inl rfl)⟩
  · refine j_iconst h (v := 1) dX8_digits_89 (by decide) ?_
    refine j_goto h (tgt := 94) dX8_digits_90 (by decide) ?_
    subst hz5
    exact hR _ _ _ _ dX8_digits_94 (Or.inr rfl) ⟨(_, _), (((if_neg c6).trans rfl)).symm, rfl, rfl, (Or.inr rfl)⟩

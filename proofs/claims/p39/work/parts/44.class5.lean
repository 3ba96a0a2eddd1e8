def f_X7_meanWet (M : gM) (X : Nat → Int32) (A : Nat → Nat → Int32) : UInt32 :=
  if (M.1 3) = 0 then
    FP.fconst0
  else
    bd (f_X1_allWet M) fun z2 =>
    (FP.fdiv (FP.i2f z2) (FP.i2f (M.1 3)))
abbrev rm_X7_meanWet : Room := { frames := 1, cells := 0, slots := 0, locals := 22 }
set_option maxRecDepth 100000 in
set_option maxHeartbeats 4000000 in
theorem c_X7_meanWet (l : Launch) (D : gD) (cy : Nat → ClassId) (L : Nat → Nat → Nat) (G : Nat → gM) (X : Nat → Int32) (A : Nat → Nat → Int32) (b : cB) (M : gM) (hG : GI M) : CtF l D cy (CW cy L) yX7_meanWet cX7_meanWet 1 (some .float) rm_X7_meanWet [.ref (L 11 0)] ((va_up G 0 M, X, A), b) (fun rv u => rv = f_X7_meanWet M X A ∧ u = ((va_up G 0 M, X, A), b)) 0 0 := by
  refine m_entF cX7_meanWet 1 (by decide) (Nat.le_of_ble_eq_true rfl) (fun J h hR => ?_)
  show J ((va_up G 0 M, X, A), b) (0, 0) [(0, .ref (L 11 0))] 0 []
  refine j_aload_n h dX7_meanWet_0 rfl 0 rfl ?_
  refine j_get h inlX7 (330 + 0) (ml_get 0) rfl 0 (by decide) (xr_1 19 rfl) rfl (v := .ref (L 0 0)) rfl dX7_meanWet_1 ?_
  refine j_get h inlX1 (30 * 0 + 0) (at_G (by decide)) rfl 3 (by decide) (xr_11 0 rfl) rfl (v := .int (M.1 3)) rfl dX7_meanWet_4 ?_
  refine j_if_ne h (tgt := 12) dX7_meanWet_7 (by decide) (fun c1 => ?_) (fun c1 => ?_)
  · refine j_aload_n h dX7_meanWet_12 rfl 0 rfl ?_
    refine j_get h inlX7 (330 + 0) (ml_get 0) rfl 0 (by decide) (xr_1 19 rfl) rfl (v := .ref (L 0 0)) rfl dX7_meanWet_13 ?_
    refine j_callI h (n := 0) (c_X1_allWet l D cy L _ _ _ _ _ (by decide) (hG).r) (xg_V (xr_31 22 rfl) (xr_31 23 rfl) (xr_32 0 rfl) (xr_1 18 rfl) (xr_32 1 rfl)) rfl rfl (by decide +kernel) ⟨Nat.le_of_ble_eq_true rfl, Nat.le_of_ble_eq_true rfl⟩ (30 * 0 + 0) (at_G (by decide)) rfl rfl rfl rfl (Nat.le_of_ble_eq_true rfl) dX7_meanWet_16 ⟨by decide, by decide⟩ (fun z2 u' hq => ?_)
    obtain ⟨hz2, rfl⟩ := hq
    refine j_i2f h dX7_meanWet_19 ?_
    refine j_aload_n h dX7_meanWet_20 rfl 0 rfl ?_
    refine j_get h inlX7 (330 + 0) (ml_get 0) rfl 0 (by decide) (xr_1 19 rfl) rfl (v := .ref (L 0 0)) rfl dX7_meanWet_21 ?_
    refine j_get h inlX1 (30 * 0 + 0) (at_G (by decide)) rfl 3 (by decide) (xr_11 0 rfl) rfl (v := .int (M.1 3)) rfl dX7_meanWet_24 ?_
    refine j_i2f h dX7_meanWet_27 ?_
    refine j_fdiv h dX7_meanWet_28 (n32 _ _ c1) ?_
    exact hR _ _ _ _ dX7_meanWet_29 ⟨Eq.symm ((ite_n c1 (bd_eq hz2 rfl))), rfl⟩
  · refine j_fconst0 h dX7_meanWet_10 ?_
    exact hR _ _ _ _ dX7_meanWet_11 ⟨Eq.symm ((ite_p c1 rfl)), rfl⟩

def f_X7_winShare (M : gM) (X : Nat → Int32) (A : Nat → Nat → Int32) : UInt64 :=
  bd (f_X1_endsClosed M) fun z1 =>
  if z1 = 0 then
    FP.dconst0
  else
    (FP.ddiv (FP.i2d ((M.2.2.2 0 1) + (M.2.2.2 1 1))) (FP.i2d z1))
abbrev rm_X7_winShare : Room := { frames := 1, cells := 0, slots := 0, locals := 22 }
set_option maxRecDepth 100000 in
set_option maxHeartbeats 4000000 in
theorem c_X7_winShare (l : Launch) (D : gD) (cy : Nat → ClassId) (L : Nat → Nat → Nat) (G : Nat → gM) (X : Nat → Int32) (A : Nat → Nat → Int32) (b : cB) (M : gM) (hG : GI M) : CtD l D cy (CW cy L) yX7_winShare cX7_winShare 2 (some .double) rm_X7_winShare [.ref (L 11 0)] ((va_up G 0 M, X, A), b) (fun rv u => rv = f_X7_winShare M X A ∧ u = ((va_up G 0 M, X, A), b)) 0 0 := by
  refine m_entD cX7_winShare 2 (by decide) (Nat.le_of_ble_eq_true rfl) (fun J h hR => ?_)
  show J ((va_up G 0 M, X, A), b) (0, 0) [(0, .ref (L 11 0))] 0 []
  refine j_aload_n h dX7_winShare_0 rfl 0 rfl ?_
  refine j_get h inlX7 (330 + 0) (ml_get 0) rfl 0 (by decide) (xr_1 19 rfl) rfl (v := .ref (L 0 0)) rfl dX7_winShare_1 ?_
  refine j_callI h (n := 0) (c_X1_endsClosed l D cy L _ _ _ _ _ (by decide) (hG).r) (xg_V (xr_11 10 rfl) (xr_11 11 rfl) (xr_11 12 rfl) (xr_1 18 rfl) (xr_11 13 rfl)) rfl rfl (by decide +kernel) ⟨Nat.le_of_ble_eq_true rfl, Nat.le_of_ble_eq_true rfl⟩ (30 * 0 + 0) (at_G (by decide)) rfl rfl rfl rfl (Nat.le_of_ble_eq_true rfl) dX7_winShare_4 ⟨by decide, by decide⟩ (fun z1 u' hq => ?_)
  obtain ⟨hz1, rfl⟩ := hq
  refine j_istore_n h (lv' := [(1, _), (0, _)]) dX7_winShare_7 rfl (by decide) rfl ?_
  refine j_iload_n h dX7_winShare_8 rfl 0 rfl ?_
  refine j_if_ne h (tgt := 14) dX7_winShare_9 (by decide) (fun c2 => ?_) (fun c2 => ?_)
  · refine j_aload_n h dX7_winShare_14 rfl 1 rfl ?_
    refine j_get h inlX7 (330 + 0) (ml_get 0) rfl 0 (by decide) (xr_1 19 rfl) rfl (v := .ref (L 0 0)) rfl dX7_winShare_15 ?_
    refine j_get h inlX1 (30 * 0 + 0) (at_G (by decide)) rfl 2 (by decide) (xr_24 19 rfl) rfl (v := .ref (L 0 3)) rfl dX7_winShare_18 ?_
    refine j_iconst h (v := 0) dX7_winShare_21 (by decide) ?_
    refine j_aaldE h (30 * 0 + 3) 3 (at_Ca (by decide)) rfl 0 rfl (by decide) (by decide) dX7_winShare_22 ?_
    refine j_get h inlX0 (30 * 0 + (28 + 0)) (at_C (by decide) (by omega)) rfl 1 (by decide) (xr_24 21 rfl) rfl (v := .int (M.2.2.2 0 1)) rfl dX7_winShare_23 ?_
    refine j_aload_n h dX7_winShare_26 rfl 1 rfl ?_
    refine j_get h inlX7 (330 + 0) (ml_get 0) rfl 0 (by decide) (xr_1 19 rfl) rfl (v := .ref (L 0 0)) rfl dX7_winShare_27 ?_
    refine j_get h inlX1 (30 * 0 + 0) (at_G (by decide)) rfl 2 (by decide) (xr_24 19 rfl) rfl (v := .ref (L 0 3)) rfl dX7_winShare_30 ?_
    refine j_iconst h (v := 1) dX7_winShare_33 (by decide) ?_
    refine j_aaldE h (30 * 0 + 3) 3 (at_Ca (by decide)) rfl 1 rfl (by decide) (by decide) dX7_winShare_34 ?_
    refine j_get h inlX0 (30 * 0 + (28 + 1)) (at_C (by decide) (by omega)) rfl 1 (by decide) (xr_24 21 rfl) rfl (v := .int (M.2.2.2 1 1)) rfl dX7_winShare_35 ?_
    refine j_iadd h dX7_winShare_38 ?_
    refine j_i2d h dX7_winShare_39 ?_
    refine j_iload_n h dX7_winShare_40 rfl 0 rfl ?_
    refine j_i2d h dX7_winShare_41 ?_
    refine j_ddiv h dX7_winShare_42 (n64 _ _ c2) ?_
    exact hR _ _ _ _ dX7_winShare_43 ⟨Eq.symm ((bd_eq hz1 (ite_n c2 rfl))), rfl⟩
  · refine j_dconst0 h dX7_winShare_12 ?_
    exact hR _ _ _ _ dX7_winShare_13 ⟨Eq.symm ((bd_eq hz1 (ite_p c2 rfl))), rfl⟩

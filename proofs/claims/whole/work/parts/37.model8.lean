def f_X8_meanWet_l17 (X : Nat → Int32) (A : Nat → Nat → Int32) : Nat → Nat → Int32 → Int32
  | 0, _, sum => sum
  | n + 1, k, sum =>
    if (A 0 3) ≤ (nI k) then
      sum
    else
      bd (f_X8_ofRink X A (nI k) 2) fun z3 =>
      f_X8_meanWet_l17 X A n (k + 1) (sum + z3)
def f_X8_meanWet (X : Nat → Int32) (A : Nat → Nat → Int32) : UInt32 :=
  if (A 0 3) = 0 then
    FP.fconst0
  else
    bd (f_X8_meanWet_l17 X A 5 0 0) fun z4 =>
    (FP.fdiv (FP.i2f z4) (FP.i2f (A 0 3)))
abbrev rm_X8_meanWet : Room := { frames := 1, cells := 0, slots := 0, locals := 22 }
set_option maxRecDepth 100000 in
set_option maxHeartbeats 4000000 in
theorem c_X8_meanWet (l : Launch) (D : gD) (cy : Nat → ClassId) (ad : Nat → Nat) (X : Nat → Int32) (A : Nat → Nat → Int32) (hI : MI A) : CtF l D cy (MW cy ad) yX8_meanWet cX8_meanWet 4 (some .float) rm_X8_meanWet [.ref (ad 0)] (X, A) (fun rv u => rv = f_X8_meanWet X A ∧ u = (X, A)) 0 0 := by
  refine m_entF cX8_meanWet 4 (by decide) (Nat.le_of_ble_eq_true rfl) (fun J h hR => ?_)
  show J (X, A) (0, 0) [(0, .ref (ad 0))] 0 []
  refine j_aload_n h dX8_meanWet_0 rfl 0 rfl ?_
  refine j_get h inlX8 0 rfl rfl 0 (by decide) (xr_6 7 rfl) rfl (v := .ref (ad 1)) rfl dX8_meanWet_1 ?_
  refine j_iconst h (v := 3) dX8_meanWet_4 (by decide) ?_
  refine j_ialdE h 1 rfl 3 rfl (by decide) (by decide) dX8_meanWet_5 ?_
  refine j_istore_n h (lv' := [(1, _), (0, _)]) dX8_meanWet_6 rfl (by decide) rfl ?_
  refine j_iload_n h dX8_meanWet_7 rfl 0 rfl ?_
  refine j_if_ne h (tgt := 13) dX8_meanWet_8 (by decide) (fun c1 => ?_) (fun c1 => ?_)
  · refine j_iconst h (v := 0) dX8_meanWet_13 (by decide) ?_
    refine j_istore_n h (lv' := [(2, _), (1, _), (0, _)]) dX8_meanWet_14 rfl (by decide) rfl ?_
    refine j_iconst h (v := 0) dX8_meanWet_15 (by decide) ?_
    refine j_istore_n h (lv' := [(3, _), (2, _), (1, _), (0, _)]) dX8_meanWet_16 rfl (by decide) rfl ?_
    have lp17 : ∀ (n k : Nat) (sum : Int32), n + k = 5 → k ≤ 4 → (∀ z : Int32, z = f_X8_meanWet_l17 X A n k sum → J (X, A) (0, 0) [(0, .ref (ad 0)), (1, .int (A 0 3)), (2, .int z)] 37 []) → J (X, A) (0, 0) [(0, .ref (ad 0)), (1, .int (A 0 3)), (2, .int sum), (3, .int (nI k))] 17 [] := by
      intro n
      induction n with
      | zero => intro k sum hn hk hf; omega
      | succ n ih =>
        intro k sum hn hk hf
        refine j_iload_n h dX8_meanWet_17 rfl 3 rfl ?_
        refine j_iload_n h dX8_meanWet_18 rfl 1 rfl ?_
        refine j_icmp_ge h (tgt := 37) dX8_meanWet_19 (by decide) (fun c2 => ?_) (fun c2 => ?_)
        · refine j_sub h [0, 1, 2] rfl ?_
          exact hf _ (Eq.symm ((ite_p c2 rfl)))
        · have hk1 : k < 4 := cnt_lt (by decide) hk hI.r c2
          refine j_iload_n h dX8_meanWet_22 rfl 2 rfl ?_
          refine j_aload_n h dX8_meanWet_23 rfl 0 rfl ?_
          refine j_iload_n h dX8_meanWet_24 rfl 3 rfl ?_
          refine j_iconst h (v := 2) dX8_meanWet_25 (by decide) ?_
          refine j_callI h (n := 2) (c_X8_ofRink l D cy ad _ _ _ _ (vp_in_nI (by omega) (by decide)) (vp_in_nI (by decide) (by decide))) (xg_V (xr_16 15 rfl) (xr_16 16 rfl) (xr_16 17 rfl) (xr_1 5 rfl) (xr_16 18 rfl)) rfl rfl (by decide +kernel) ⟨Nat.le_of_ble_eq_true rfl, Nat.le_of_ble_eq_true rfl⟩ 0 rfl rfl rfl rfl rfl (Nat.le_of_ble_eq_true rfl) dX8_meanWet_26 ⟨by decide, by decide⟩ (fun z3 u' hq => ?_)
          obtain ⟨hz3, rfl⟩ := hq
          refine j_iadd h dX8_meanWet_29 ?_
          refine j_istore_n h (lv' := [(2, _), (0, _), (1, _), (3, _)]) dX8_meanWet_30 rfl (by decide) rfl ?_
          refine j_iinc h (v := nI (k + 1)) (lv' := [(3, _), (2, _), (0, _), (1, _)]) dX8_meanWet_31 (k := 3) rfl (nI_1 k) (by decide) rfl ?_
          refine j_goto h (tgt := 17) dX8_meanWet_34 (by decide) ?_
          refine j_sub h [2, 3, 1, 0] rfl ?_
          exact ih (k + 1) _ (by omega) (by omega) (fun z hz => hf z (hz.trans (Eq.symm ((ite_n c2 (bd_eq hz3 rfl))))))
    refine j_sub h [3, 2, 1, 0] rfl ?_
    refine lp17 5 0 _ (by omega) (by omega) (fun z4 hz4 => ?_)
    refine j_iload_n h dX8_meanWet_37 rfl 2 rfl ?_
    refine j_i2f h dX8_meanWet_38 ?_
    refine j_iload_n h dX8_meanWet_39 rfl 1 rfl ?_
    refine j_i2f h dX8_meanWet_40 ?_
    refine j_fdiv h dX8_meanWet_41 (n32 _ _ c1) ?_
    exact hR _ _ _ _ dX8_meanWet_42 ⟨Eq.symm ((ite_n c1 (bd_eq hz4 rfl))), rfl⟩
  · refine j_fconst0 h dX8_meanWet_11 ?_
    exact hR _ _ _ _ dX8_meanWet_12 ⟨Eq.symm ((ite_p c1 rfl)), rfl⟩

def f_X8_winShare (X : Nat → Int32) (A : Nat → Nat → Int32) : UInt64 :=
  bd (f_X8_closed X A) fun z1 =>
  if z1 = 0 then
    FP.dconst0
  else
    (FP.ddiv (FP.i2d ((A 0 10) + (A 0 14))) (FP.i2d z1))
abbrev rm_X8_winShare : Room := { frames := 2, cells := 0, slots := 0, locals := 44 }
set_option maxRecDepth 100000 in
set_option maxHeartbeats 4000000 in
theorem c_X8_winShare (l : Launch) (D : gD) (cy : Nat → ClassId) (ad : Nat → Nat) (X : Nat → Int32) (A : Nat → Nat → Int32) (hI : MI A) : CtD l D cy (MW cy ad) yX8_winShare cX8_winShare 2 (some .double) rm_X8_winShare [.ref (ad 0)] (X, A) (fun rv u => rv = f_X8_winShare X A ∧ u = (X, A)) 0 0 := by
  refine m_entD cX8_winShare 2 (by decide) (Nat.le_of_ble_eq_true rfl) (fun J h hR => ?_)
  show J (X, A) (0, 0) [(0, .ref (ad 0))] 0 []
  refine j_aload_n h dX8_winShare_0 rfl 0 rfl ?_
  refine j_callI h (n := 0) (c_X8_closed l D cy ad _ _ hI) (xg_V (xr_52 7 rfl) (xr_52 8 rfl) (xr_52 9 rfl) (xr_1 5 rfl) (xr_52 10 rfl)) rfl rfl (by decide +kernel) ⟨Nat.le_of_ble_eq_true rfl, Nat.le_of_ble_eq_true rfl⟩ 0 rfl rfl rfl rfl rfl (Nat.le_of_ble_eq_true rfl) dX8_winShare_1 ⟨by decide, by decide⟩ (fun z1 u' hq => ?_)
  obtain ⟨hz1, rfl⟩ := hq
  refine j_istore_n h (lv' := [(1, _), (0, _)]) dX8_winShare_4 rfl (by decide) rfl ?_
  refine j_iload_n h dX8_winShare_5 rfl 0 rfl ?_
  refine j_if_ne h (tgt := 13) dX8_winShare_6 (by decide) (fun c2 => ?_) (fun c2 => ?_)
  · refine j_aload_n h dX8_winShare_13 rfl 1 rfl ?_
    refine j_get h inlX8 0 rfl rfl 0 (by decide) (xr_6 7 rfl) rfl (v := .ref (ad 1)) rfl dX8_winShare_14 ?_
    refine j_bipush h (v := 10) dX8_winShare_17 (by decide) ?_
    refine j_ialdE h 1 rfl 10 rfl (by decide) (by decide) dX8_winShare_19 ?_
    refine j_aload_n h dX8_winShare_20 rfl 1 rfl ?_
    refine j_get h inlX8 0 rfl rfl 0 (by decide) (xr_6 7 rfl) rfl (v := .ref (ad 1)) rfl dX8_winShare_21 ?_
    refine j_bipush h (v := 14) dX8_winShare_24 (by decide) ?_
    refine j_ialdE h 1 rfl 14 rfl (by decide) (by decide) dX8_winShare_26 ?_
    refine j_iadd h dX8_winShare_27 ?_
    refine j_i2d h dX8_winShare_28 ?_
    refine j_iload_n h dX8_winShare_29 rfl 0 rfl ?_
    refine j_i2d h dX8_winShare_30 ?_
    refine j_ddiv h dX8_winShare_31 (n64 _ _ c2) ?_
    exact hR _ _ _ _ dX8_winShare_32 ⟨Eq.symm ((bd_eq hz1 (ite_n c2 rfl))), rfl⟩
  · refine j_dconst0 h dX8_winShare_9 ?_
    refine j_goto h (tgt := 32) dX8_winShare_10 (by decide) ?_
    exact hR _ _ _ _ dX8_winShare_32 ⟨Eq.symm ((bd_eq hz1 (ite_p c2 rfl))), rfl⟩

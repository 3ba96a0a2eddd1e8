theorem inM_le {X : Nat → Int32} {A : Nat → Nat → Int32} {p z a c : Int32} (hz : z = f_X8_in X A p a c) (h : ¬ z = 0) : p ≤ c := by
  unfold f_X8_in at hz
  split at hz
  · exact absurd hz h
  · split at hz
    · exact absurd hz h
    · rename_i h1 h2
      exact Int32.not_lt.mp h2
theorem inM_2 {X : Nat → Int32} {A : Nat → Nat → Int32} {p z : Int32} (hz : z = f_X8_in X A p 0 1) (h : ¬ z = 0) : vp_in p 2 := inM_in (X := X) (A := A) (c := 2) (by decide) (vp_in_nI (n := 2) (by decide) (by decide)) hz h
theorem le_of_vp {c : Int32} {N : Nat} (hN : N + 1 < 2 ^ 31) (h : vp_in c (N + 1)) : c ≤ nI N := by
  obtain ⟨j, hj, rfl⟩ := vp_in_of h hN
  exact nI_le (by omega) (by omega)

def f_X8_nearest (X : Nat → Int32) (A : Nat → Nat → Int32) (p1 : Int32) (p2 : Int32) : Int32 :=
  bd (f_X8_isRink X A p1) fun z1 =>
  if z1 = 0 then
    (-1)
  else
    bd (f_X8_atPlace X A p1 p2) fun z3 =>
    z3
abbrev rm_X8_nearest : Room := { frames := 4, cells := 0, slots := 0, locals := 93 }
set_option maxRecDepth 100000 in
set_option maxHeartbeats 4000000 in
theorem c_X8_nearest (l : Launch) (D : gD) (cy : Nat → ClassId) (ad : Nat → Nat) (X : Nat → Int32) (A : Nat → Nat → Int32) (p1 : Int32) (p2 : Int32) (hI : MI A) : CtI l D cy (MW cy ad) yX8_nearest cX8_nearest 3 (some .int) rm_X8_nearest [.ref (ad 0), .int p1, .int p2] (X, A) (fun rv u => rv = f_X8_nearest X A p1 p2 ∧ u = (X, A)) 0 0 := by
  refine m_entI cX8_nearest 3 (by decide) (Nat.le_of_ble_eq_true rfl) (fun J h hR => ?_)
  show J (X, A) (0, 0) [(0, .ref (ad 0)), (1, .int p1), (2, .int p2)] 0 []
  refine j_aload_n h dX8_nearest_0 rfl 0 rfl ?_
  refine j_iload_n h dX8_nearest_1 rfl 1 rfl ?_
  refine j_callI h (n := 1) (c_X8_isRink l D cy ad _ _ _) (xg_V (xr_20 2 rfl) (xr_20 3 rfl) (xr_20 4 rfl) (xr_1 5 rfl) (xr_20 5 rfl)) rfl rfl (by decide +kernel) ⟨Nat.le_of_ble_eq_true rfl, Nat.le_of_ble_eq_true rfl⟩ 0 rfl rfl rfl rfl rfl (Nat.le_of_ble_eq_true rfl) dX8_nearest_2 ⟨by decide, by decide⟩ (fun z1 u' hq => ?_)
  obtain ⟨hz1, rfl, bz1⟩ := hq
  refine j_if_eq h (tgt := 17) dX8_nearest_5 (by decide) (fun c2 => ?_) (fun c2 => ?_)
  · refine j_iconst h (v := (-1)) dX8_nearest_17 (by decide) ?_
    exact hR _ _ _ _ dX8_nearest_18 ⟨Eq.symm ((bd_eq hz1 (ite_p c2 rfl))), rfl⟩
  · have vp1 : vp_in p1 4 := isRinkM_in hI hz1 c2
    have bp1 : p1.toNatClampNeg < 4 := vp_lt vp1
    have ep1 : p1 = nI p1.toNatClampNeg := vp_nI vp1 (by decide)
    refine j_aload_n h dX8_nearest_8 rfl 0 rfl ?_
    refine j_iload_n h dX8_nearest_9 rfl 1 rfl ?_
    refine j_iload_n h dX8_nearest_10 rfl 2 rfl ?_
    refine j_callI h (n := 2) (c_X8_atPlace l D cy ad _ _ _ _ hI) (xg_V (xr_43 15 rfl) (xr_43 16 rfl) (xr_43 17 rfl) (xr_1 5 rfl) (xr_43 18 rfl)) rfl rfl (by decide +kernel) ⟨Nat.le_of_ble_eq_true rfl, Nat.le_of_ble_eq_true rfl⟩ 0 rfl rfl rfl rfl rfl (Nat.le_of_ble_eq_true rfl) dX8_nearest_11 ⟨by decide, by decide⟩ (fun z3 u' hq => ?_)
    obtain ⟨hz3, rfl⟩ := hq
    refine j_goto h (tgt := 18) dX8_nearest_14 (by decide) ?_
    exact hR _ _ _ _ dX8_nearest_18 ⟨Eq.symm ((bd_eq hz1 (ite_n c2 (bd_eq hz3 rfl)))), rfl⟩

def f_X8_shots (X : Nat → Int32) (A : Nat → Nat → Int32) (p1 : Int32) (p2 : Int32) : Int32 :=
  bd (f_X8_isRink X A p1) fun z1 =>
  if z1 = 0 then
    (-1)
  else
    bd (f_X8_ofRink X A p1 4) fun z3 =>
    if z3 = 0 then
      (-4)
    else
      bd (f_X8_counted X A p1) fun z5 =>
      z5
abbrev rm_X8_shots : Room := { frames := 5, cells := 0, slots := 0, locals := 118 }
set_option maxRecDepth 100000 in
set_option maxHeartbeats 4000000 in
theorem c_X8_shots (l : Launch) (D : gD) (cy : Nat → ClassId) (ad : Nat → Nat) (X : Nat → Int32) (A : Nat → Nat → Int32) (p1 : Int32) (p2 : Int32) (hI : MI A) : CtI l D cy (MW cy ad) yX8_shots cX8_shots 3 (some .int) rm_X8_shots [.ref (ad 0), .int p1, .int p2] (X, A) (fun rv u => rv = f_X8_shots X A p1 p2 ∧ u = (X, A)) 0 0 := by
  refine m_entI cX8_shots 3 (by decide) (Nat.le_of_ble_eq_true rfl) (fun J h hR => ?_)
  show J (X, A) (0, 0) [(0, .ref (ad 0)), (1, .int p1), (2, .int p2)] 0 []
  refine j_aload_n h dX8_shots_0 rfl 0 rfl ?_
  refine j_iload_n h dX8_shots_1 rfl 1 rfl ?_
  refine j_callI h (n := 1) (c_X8_isRink l D cy ad _ _ _) (xg_V (xr_20 2 rfl) (xr_20 3 rfl) (xr_20 4 rfl) (xr_1 5 rfl) (xr_20 5 rfl)) rfl rfl (by decide +kernel) ⟨Nat.le_of_ble_eq_true rfl, Nat.le_of_ble_eq_true rfl⟩ 0 rfl rfl rfl rfl rfl (Nat.le_of_ble_eq_true rfl) dX8_shots_2 ⟨by decide, by decide⟩ (fun z1 u' hq => ?_)
  obtain ⟨hz1, rfl, bz1⟩ := hq
  refine j_if_ne h (tgt := 10) dX8_shots_5 (by decide) (fun c2 => ?_) (fun c2 => ?_)
  · have vp1 : vp_in p1 4 := isRinkM_in hI hz1 c2
    have bp1 : p1.toNatClampNeg < 4 := vp_lt vp1
    have ep1 : p1 = nI p1.toNatClampNeg := vp_nI vp1 (by decide)
    refine j_aload_n h dX8_shots_10 rfl 0 rfl ?_
    refine j_iload_n h dX8_shots_11 rfl 1 rfl ?_
    refine j_iconst h (v := 4) dX8_shots_12 (by decide) ?_
    refine j_callI h (n := 2) (c_X8_ofRink l D cy ad _ _ _ _ (vp_of (j := p1.toNatClampNeg) ep1 (by omega) (by decide)) (vp_in_nI (by decide) (by decide))) (xg_V (xr_16 15 rfl) (xr_16 16 rfl) (xr_16 17 rfl) (xr_1 5 rfl) (xr_16 18 rfl)) rfl rfl (by decide +kernel) ⟨Nat.le_of_ble_eq_true rfl, Nat.le_of_ble_eq_true rfl⟩ 0 rfl rfl rfl rfl rfl (Nat.le_of_ble_eq_true rfl) dX8_shots_13 ⟨by decide, by decide⟩ (fun z3 u' hq => ?_)
    obtain ⟨hz3, rfl⟩ := hq
    refine j_if_ne h (tgt := 24) dX8_shots_16 (by decide) (fun c4 => ?_) (fun c4 => ?_)
    · refine j_aload_n h dX8_shots_24 rfl 0 rfl ?_
      refine j_iload_n h dX8_shots_25 rfl 1 rfl ?_
      refine j_callI h (n := 1) (c_X8_counted l D cy ad _ _ _ hI) (xg_V (xr_27 1 rfl) (xr_27 2 rfl) (xr_27 3 rfl) (xr_1 5 rfl) (xr_27 4 rfl)) rfl rfl (by decide +kernel) ⟨Nat.le_of_ble_eq_true rfl, Nat.le_of_ble_eq_true rfl⟩ 0 rfl rfl rfl rfl rfl (Nat.le_of_ble_eq_true rfl) dX8_shots_26 ⟨by decide, by decide⟩ (fun z5 u' hq => ?_)
      obtain ⟨hz5, rfl⟩ := hq
      exact hR _ _ _ _ dX8_shots_29 ⟨Eq.symm ((bd_eq hz1 (ite_n c2 (bd_eq hz3 (ite_n c4 (bd_eq hz5 rfl)))))), rfl⟩
    · refine j_bipush h (v := (-4)) dX8_shots_19 (by decide) ?_
      refine j_goto h (tgt := 29) dX8_shots_21 (by decide) ?_
      exact hR _ _ _ _ dX8_shots_29 ⟨Eq.symm ((bd_eq hz1 (ite_n c2 (bd_eq hz3 (ite_p c4 rfl))))), rfl⟩
  · refine j_iconst h (v := (-1)) dX8_shots_8 (by decide) ?_
    exact hR _ _ _ _ dX8_shots_9 ⟨Eq.symm ((bd_eq hz1 (ite_p c2 rfl))), rfl⟩

def f_X8_would (X : Nat → Int32) (A : Nat → Nat → Int32) (p1 : Int32) (p2 : Int32) (p3 : Int32) (p4 : Int32) (p5 : Int32) : Int32 :=
  bd (f_X8_isRink X A p1) fun z1 =>
  if z1 = 0 then
    (-1)
  else
    bd (f_X8_isWood X A p2) fun z3 =>
    if z3 = 0 then
      (-1)
    else
      bd (f_X8_isBad X A p1 p3) fun z5 =>
      if z5 = 0 then
        bd (f_X8_in X A p4 1 20) fun z7 =>
        if z7 = 0 then
          (-2)
        else
          bd (f_X8_columnOf X A p2 p3 p4 p5) fun z9 =>
          bd (f_X8_lengthOf X A p1 p2 z9 p4) fun z10 =>
          if 0 ≤ z10 then
            ((100 * z9) + z10)
          else
            (-4)
      else
        (-2)
abbrev rm_X8_would : Room := { frames := 3, cells := 0, slots := 0, locals := 72 }
set_option maxRecDepth 100000 in
set_option maxHeartbeats 4000000 in
theorem c_X8_would (l : Launch) (D : gD) (cy : Nat → ClassId) (ad : Nat → Nat) (X : Nat → Int32) (A : Nat → Nat → Int32) (p1 : Int32) (p2 : Int32) (p3 : Int32) (p4 : Int32) (p5 : Int32) (hI : MI A) : CtI l D cy (MW cy ad) yX8_would cX8_would 8 (some .int) rm_X8_would [.ref (ad 0), .int p1, .int p2, .int p3, .int p4, .int p5] (X, A) (fun rv u => rv = f_X8_would X A p1 p2 p3 p4 p5 ∧ u = (X, A)) 0 0 := by
  refine m_entI cX8_would 8 (by decide) (Nat.le_of_ble_eq_true rfl) (fun J h hR => ?_)
  show J (X, A) (0, 0) [(0, .ref (ad 0)), (1, .int p1), (2, .int p2), (3, .int p3), (4, .int p4), (5, .int p5)] 0 []
  refine j_aload_n h dX8_would_0 rfl 0 rfl ?_
  refine j_iload_n h dX8_would_1 rfl 1 rfl ?_
  refine j_callI h (n := 1) (c_X8_isRink l D cy ad _ _ _) (xg_V (xr_20 2 rfl) (xr_20 3 rfl) (xr_20 4 rfl) (xr_1 5 rfl) (xr_20 5 rfl)) rfl rfl (by decide +kernel) ⟨Nat.le_of_ble_eq_true rfl, Nat.le_of_ble_eq_true rfl⟩ 0 rfl rfl rfl rfl rfl (Nat.le_of_ble_eq_true rfl) dX8_would_2 ⟨by decide, by decide⟩ (fun z1 u' hq => ?_)
  obtain ⟨hz1, rfl, bz1⟩ := hq
  refine j_if_eq h (tgt := 16) dX8_would_5 (by decide) (fun c2 => ?_) (fun c2 => ?_)
  · refine j_iconst h (v := (-1)) dX8_would_16 (by decide) ?_
    exact hR _ _ _ _ dX8_would_17 ⟨Eq.symm ((bd_eq hz1 (ite_p c2 rfl))), rfl⟩
  · have vp1 : vp_in p1 4 := isRinkM_in hI hz1 c2
    have bp1 : p1.toNatClampNeg < 4 := vp_lt vp1
    have ep1 : p1 = nI p1.toNatClampNeg := vp_nI vp1 (by decide)
    refine j_aload_n h dX8_would_8 rfl 0 rfl ?_
    refine j_iload_n h dX8_would_9 rfl 2 rfl ?_
    refine j_callI h (n := 1) (c_X8_isWood l D cy ad _ _ _) (xg_V (xr_23 20 rfl) (xr_23 21 rfl) (xr_23 22 rfl) (xr_1 5 rfl) (xr_23 23 rfl)) rfl rfl (by decide +kernel) ⟨Nat.le_of_ble_eq_true rfl, Nat.le_of_ble_eq_true rfl⟩ 0 rfl rfl rfl rfl rfl (Nat.le_of_ble_eq_true rfl) dX8_would_10 ⟨by decide, by decide⟩ (fun z3 u' hq => ?_)
    obtain ⟨hz3, rfl, bz3⟩ := hq
    refine j_if_ne h (tgt := 18) dX8_would_13 (by decide) (fun c4 => ?_) (fun c4 => ?_)
    · have vp2 : vp_in p2 16 := isWoodM_in hI hz3 c4
      have bp2 : p2.toNatClampNeg < 16 := vp_lt vp2
      have ep2 : p2 = nI p2.toNatClampNeg := vp_nI vp2 (by decide)
      refine j_aload_n h dX8_would_18 rfl 0 rfl ?_
      refine j_iload_n h dX8_would_19 rfl 1 rfl ?_
      refine j_iload_n h dX8_would_20 rfl 3 rfl ?_
      refine j_callI h (n := 2) (c_X8_isBad l D cy ad _ _ _ _ (vp_of (j := p1.toNatClampNeg) ep1 (by omega) (by decide))) (xg_V (xr_24 0 rfl) (xr_24 1 rfl) (xr_24 2 rfl) (xr_1 5 rfl) (xr_24 3 rfl)) rfl rfl (by decide +kernel) ⟨Nat.le_of_ble_eq_true rfl, Nat.le_of_ble_eq_true rfl⟩ 0 rfl rfl rfl rfl rfl (Nat.le_of_ble_eq_true rfl) dX8_would_21 ⟨by decide, by decide⟩ (fun z5 u' hq => ?_)
      obtain ⟨hz5, rfl, bz5⟩ := hq
      refine j_if_ne h (tgt := 38) dX8_would_24 (by decide) (fun c6 => ?_) (fun c6 => ?_)
      · refine j_bipush h (v := (-2)) dX8_would_38 (by decide) ?_
        exact hR _ _ _ _ dX8_would_40 ⟨Eq.symm ((bd_eq hz1 (ite_n c2 (bd_eq hz3 (ite_n c4 (bd_eq hz5 (ite_n c6 rfl))))))), rfl⟩
      · refine j_iload h dX8_would_27 4 rfl ?_
        refine j_iconst h (v := 1) dX8_would_29 (by decide) ?_
        refine j_bipush h (v := 20) dX8_would_30 (by decide) ?_
        refine j_callS h (n := 3) (c_X8_in l D cy ad _ _ _ _ _) (xg_S (xr_12 13 rfl) (xr_12 14 rfl) (xr_1 5 rfl) (xr_12 15 rfl)) rfl rfl (by decide +kernel) ⟨Nat.le_of_ble_eq_true rfl, Nat.le_of_ble_eq_true rfl⟩  rfl rfl (Nat.le_of_ble_eq_true rfl) dX8_would_32 ⟨by decide, by decide⟩ (fun z7 u' hq => ?_)
        obtain ⟨hz7, rfl, bz7⟩ := hq
        refine j_if_ne h (tgt := 41) dX8_would_35 (by decide) (fun c8 => ?_) (fun c8 => ?_)
        · refine j_aload_n h dX8_would_41 rfl 0 rfl ?_
          refine j_iload_n h dX8_would_42 rfl 2 rfl ?_
          refine j_iload_n h dX8_would_43 rfl 3 rfl ?_
          refine j_iload h dX8_would_44 4 rfl ?_
          refine j_iload h dX8_would_46 5 rfl ?_
          refine j_callI h (n := 4) (c_X8_columnOf l D cy ad _ _ _ _ _ _ (vp_of (j := p2.toNatClampNeg) ep2 (by omega) (by decide))) (xg_V (xr_24 8 rfl) (xr_24 9 rfl) (xr_24 10 rfl) (xr_1 5 rfl) (xr_24 11 rfl)) rfl rfl (by decide +kernel) ⟨Nat.le_of_ble_eq_true rfl, Nat.le_of_ble_eq_true rfl⟩ 0 rfl rfl rfl rfl rfl (Nat.le_of_ble_eq_true rfl) dX8_would_48 ⟨by decide, by decide⟩ (fun z9 u' hq => ?_)
          obtain ⟨hz9, rfl⟩ := hq
          refine j_istore h (lv' := [(6, _), (0, _), (1, _), (2, _), (3, _), (4, _), (5, _)]) dX8_would_51 (by decide) rfl ?_
          refine j_aload_n h dX8_would_53 rfl 1 rfl ?_
          refine j_iload_n h dX8_would_54 rfl 2 rfl ?_
          refine j_iload_n h dX8_would_55 rfl 3 rfl ?_
          refine j_iload h dX8_would_56 0 rfl ?_
          refine j_iload h dX8_would_58 5 rfl ?_
          refine j_callI h (n := 4) (c_X8_lengthOf l D cy ad _ _ _ _ _ _ (vp_of (j := p1.toNatClampNeg) ep1 (by omega) (by decide)) hI) (xg_V (xr_24 12 rfl) (xr_24 13 rfl) (xr_24 14 rfl) (xr_1 5 rfl) (xr_24 15 rfl)) rfl rfl (by decide +kernel) ⟨Nat.le_of_ble_eq_true rfl, Nat.le_of_ble_eq_true rfl⟩ 0 rfl rfl rfl rfl rfl (Nat.le_of_ble_eq_true rfl) dX8_would_60 ⟨by decide, by decide⟩ (fun z10 u' hq => ?_)
          obtain ⟨hz10, rfl⟩ := hq
          refine j_istore h (lv' := [(7, _), (6, _), (0, _), (1, _), (2, _), (3, _), (4, _), (5, _)]) dX8_would_63 (by decide) rfl ?_
          refine j_iload h dX8_would_65 0 rfl ?_
          refine j_if_ge h (tgt := 75) dX8_would_67 (by decide) (fun c11 => ?_) (fun c11 => ?_)
          · refine j_bipush h (v := 100) dX8_would_75 (by decide) ?_
            refine j_iload h dX8_would_77 1 rfl ?_
            refine j_imul h dX8_would_79 ?_
            refine j_iload h dX8_would_80 0 rfl ?_
            refine j_iadd h dX8_would_82 ?_
            exact hR _ _ _ _ dX8_would_83 ⟨Eq.symm ((bd_eq hz1 (ite_n c2 (bd_eq hz3 (ite_n c4 (bd_eq hz5 (ite_p c6 (bd_eq hz7 (ite_n c8 (bd_eq hz9 (bd_eq hz10 (ite_p c11 rfl)))))))))))), rfl⟩
          · refine j_bipush h (v := (-4)) dX8_would_70 (by decide) ?_
            refine j_goto h (tgt := 83) dX8_would_72 (by decide) ?_
            exact hR _ _ _ _ dX8_would_83 ⟨Eq.symm ((bd_eq hz1 (ite_n c2 (bd_eq hz3 (ite_n c4 (bd_eq hz5 (ite_p c6 (bd_eq hz7 (ite_n c8 (bd_eq hz9 (bd_eq hz10 (ite_n c11 rfl)))))))))))), rfl⟩
        · refine j_bipush h (v := (-2)) dX8_would_38 (by decide) ?_
          exact hR _ _ _ _ dX8_would_40 ⟨Eq.symm ((bd_eq hz1 (ite_n c2 (bd_eq hz3 (ite_n c4 (bd_eq hz5 (ite_p c6 (bd_eq hz7 (ite_p c8 rfl))))))))), rfl⟩
    · refine j_iconst h (v := (-1)) dX8_would_16 (by decide) ?_
      exact hR _ _ _ _ dX8_would_17 ⟨Eq.symm ((bd_eq hz1 (ite_n c2 (bd_eq hz3 (ite_p c4 rfl))))), rfl⟩

def f_X8_bestStrength_l41 (X : Nat → Int32) (A : Nat → Nat → Int32) (p1 : Int32) (p2 : Int32) (p3 : Int32) (p4 : Int32) : Nat → Nat → Int32 → Int32 → Int32 × Int32
  | 0, _, best, least => (best, least)
  | n + 1, k, best, least =>
    if 20 < (nI k) then
      (best, least)
    else
      bd (f_X8_ofRink X A p1 4) fun z8 =>
      if z8 ≤ 0 then
        (best, least)
      else
        bd (f_X8_columnOf X A p2 p3 (nI k) p4) fun z10 =>
        bd (f_X8_lengthOf X A p1 p2 z10 (nI k)) fun z11 =>
        if z11 < 0 then
          f_X8_bestStrength_l41 X A p1 p2 p3 p4 n (k + 1) best least
        else
          bd (f_X8_square X A p1 z10 z11) fun z13 =>
          if z13 < least then
            bd (f_X8_square X A p1 z10 z11) fun z15 =>
            f_X8_bestStrength_l41 X A p1 p2 p3 p4 n (k + 1) (nI k) z15
          else
            f_X8_bestStrength_l41 X A p1 p2 p3 p4 n (k + 1) best least
def f_X8_bestStrength (X : Nat → Int32) (A : Nat → Nat → Int32) (p1 : Int32) (p2 : Int32) (p3 : Int32) (p4 : Int32) : Int32 :=
  bd (f_X8_isRink X A p1) fun z1 =>
  if z1 = 0 then
    (-1)
  else
    bd (f_X8_isWood X A p2) fun z3 =>
    if z3 = 0 then
      (-1)
    else
      bd (f_X8_isBad X A p1 p3) fun z5 =>
      if z5 = 0 then
        bd (f_X8_bestStrength_l41 X A p1 p2 p3 p4 21 1 (-4) 2147483647) fun z16 =>
        z16.1
      else
        (-2)
abbrev rm_X8_bestStrength : Room := { frames := 3, cells := 0, slots := 0, locals := 72 }
set_option maxRecDepth 100000 in
set_option maxHeartbeats 4000000 in
theorem c_X8_bestStrength (l : Launch) (D : gD) (cy : Nat → ClassId) (ad : Nat → Nat) (X : Nat → Int32) (A : Nat → Nat → Int32) (p1 : Int32) (p2 : Int32) (p3 : Int32) (p4 : Int32) (hI : MI A) : CtI l D cy (MW cy ad) yX8_bestStrength cX8_bestStrength 10 (some .int) rm_X8_bestStrength [.ref (ad 0), .int p1, .int p2, .int p3, .int p4] (X, A) (fun rv u => rv = f_X8_bestStrength X A p1 p2 p3 p4 ∧ u = (X, A)) 0 0 := by
  refine m_entI cX8_bestStrength 10 (by decide) (Nat.le_of_ble_eq_true rfl) (fun J h hR => ?_)
  show J (X, A) (0, 0) [(0, .ref (ad 0)), (1, .int p1), (2, .int p2), (3, .int p3), (4, .int p4)] 0 []
  refine j_aload_n h dX8_bestStrength_0 rfl 0 rfl ?_
  refine j_iload_n h dX8_bestStrength_1 rfl 1 rfl ?_
  refine j_callI h (n := 1) (c_X8_isRink l D cy ad _ _ _) (xg_V (xr_20 2 rfl) (xr_20 3 rfl) (xr_20 4 rfl) (xr_1 5 rfl) (xr_20 5 rfl)) rfl rfl (by decide +kernel) ⟨Nat.le_of_ble_eq_true rfl, Nat.le_of_ble_eq_true rfl⟩ 0 rfl rfl rfl rfl rfl (Nat.le_of_ble_eq_true rfl) dX8_bestStrength_2 ⟨by decide, by decide⟩ (fun z1 u' hq => ?_)
  obtain ⟨hz1, rfl, bz1⟩ := hq
  refine j_if_eq h (tgt := 16) dX8_bestStrength_5 (by decide) (fun c2 => ?_) (fun c2 => ?_)
  · refine j_iconst h (v := (-1)) dX8_bestStrength_16 (by decide) ?_
    exact hR _ _ _ _ dX8_bestStrength_17 ⟨Eq.symm ((bd_eq hz1 (ite_p c2 rfl))), rfl⟩
  · have vp1 : vp_in p1 4 := isRinkM_in hI hz1 c2
    have bp1 : p1.toNatClampNeg < 4 := vp_lt vp1
    have ep1 : p1 = nI p1.toNatClampNeg := vp_nI vp1 (by decide)
    refine j_aload_n h dX8_bestStrength_8 rfl 0 rfl ?_
    refine j_iload_n h dX8_bestStrength_9 rfl 2 rfl ?_
    refine j_callI h (n := 1) (c_X8_isWood l D cy ad _ _ _) (xg_V (xr_23 20 rfl) (xr_23 21 rfl) (xr_23 22 rfl) (xr_1 5 rfl) (xr_23 23 rfl)) rfl rfl (by decide +kernel) ⟨Nat.le_of_ble_eq_true rfl, Nat.le_of_ble_eq_true rfl⟩ 0 rfl rfl rfl rfl rfl (Nat.le_of_ble_eq_true rfl) dX8_bestStrength_10 ⟨by decide, by decide⟩ (fun z3 u' hq => ?_)
    obtain ⟨hz3, rfl, bz3⟩ := hq
    refine j_if_ne h (tgt := 18) dX8_bestStrength_13 (by decide) (fun c4 => ?_) (fun c4 => ?_)
    · have vp2 : vp_in p2 16 := isWoodM_in hI hz3 c4
      have bp2 : p2.toNatClampNeg < 16 := vp_lt vp2
      have ep2 : p2 = nI p2.toNatClampNeg := vp_nI vp2 (by decide)
      refine j_aload_n h dX8_bestStrength_18 rfl 0 rfl ?_
      refine j_iload_n h dX8_bestStrength_19 rfl 1 rfl ?_
      refine j_iload_n h dX8_bestStrength_20 rfl 3 rfl ?_
      refine j_callI h (n := 2) (c_X8_isBad l D cy ad _ _ _ _ (vp_of (j := p1.toNatClampNeg) ep1 (by omega) (by decide))) (xg_V (xr_24 0 rfl) (xr_24 1 rfl) (xr_24 2 rfl) (xr_1 5 rfl) (xr_24 3 rfl)) rfl rfl (by decide +kernel) ⟨Nat.le_of_ble_eq_true rfl, Nat.le_of_ble_eq_true rfl⟩ 0 rfl rfl rfl rfl rfl (Nat.le_of_ble_eq_true rfl) dX8_bestStrength_21 ⟨by decide, by decide⟩ (fun z5 u' hq => ?_)
      obtain ⟨hz5, rfl, bz5⟩ := hq
      refine j_if_eq h (tgt := 30) dX8_bestStrength_24 (by decide) (fun c6 => ?_) (fun c6 => ?_)
      · refine j_bipush h (v := (-4)) dX8_bestStrength_30 (by decide) ?_
        refine j_istore h (lv' := [(5, _), (0, _), (1, _), (2, _), (3, _), (4, _)]) dX8_bestStrength_32 (by decide) rfl ?_
        refine j_ldc h (xr_27 9 rfl) dX8_bestStrength_34 ?_
        refine j_istore h (lv' := [(6, _), (5, _), (0, _), (1, _), (2, _), (3, _), (4, _)]) dX8_bestStrength_36 (by decide) rfl ?_
        refine j_iconst h (v := 1) dX8_bestStrength_38 (by decide) ?_
        refine j_istore h (lv' := [(7, _), (6, _), (5, _), (0, _), (1, _), (2, _), (3, _), (4, _)]) dX8_bestStrength_39 (by decide) rfl ?_
        have lp41 : ∀ (n k : Nat) (best : Int32) (least : Int32), n + k = 22 → k ≤ 21 → (∀ z : Int32 × Int32, z = f_X8_bestStrength_l41 X A p1 p2 p3 p4 n k best least → J (X, A) (0, 0) [(0, .ref (ad 0)), (1, .int p1), (2, .int p2), (3, .int p3), (4, .int p4), (5, .int z.1), (6, .int z.2)] 124 []) → J (X, A) (0, 0) [(0, .ref (ad 0)), (1, .int p1), (2, .int p2), (3, .int p3), (4, .int p4), (5, .int best), (6, .int least), (7, .int (nI k))] 41 [] := by
          intro n
          induction n with
          | zero => intro k best least hn hk hf; omega
          | succ n ih =>
            intro k best least hn hk hf
            refine j_iload h dX8_bestStrength_41 7 rfl ?_
            refine j_bipush h (v := 20) dX8_bestStrength_43 (by decide) ?_
            refine j_icmp_gt h (tgt := 124) dX8_bestStrength_45 (by decide) (fun c7 => ?_) (fun c7 => ?_)
            · refine j_sub h [0, 1, 2, 3, 4, 5, 6] rfl ?_
              exact hf (_, _) (Eq.symm ((ite_p c7 rfl)))
            · have hk1 : k < 21 := gt_lt (by decide) hk c7
              refine j_aload_n h dX8_bestStrength_48 rfl 0 rfl ?_
              refine j_iload_n h dX8_bestStrength_49 rfl 1 rfl ?_
              refine j_iconst h (v := 4) dX8_bestStrength_50 (by decide) ?_
              refine j_callI h (n := 2) (c_X8_ofRink l D cy ad _ _ _ _ (vp_of (j := p1.toNatClampNeg) ep1 (by omega) (by decide)) (vp_in_nI (by decide) (by decide))) (xg_V (xr_16 15 rfl) (xr_16 16 rfl) (xr_16 17 rfl) (xr_1 5 rfl) (xr_16 18 rfl)) rfl rfl (by decide +kernel) ⟨Nat.le_of_ble_eq_true rfl, Nat.le_of_ble_eq_true rfl⟩ 0 rfl rfl rfl rfl rfl (Nat.le_of_ble_eq_true rfl) dX8_bestStrength_51 ⟨by decide, by decide⟩ (fun z8 u' hq => ?_)
              obtain ⟨hz8, rfl⟩ := hq
              refine j_if_le h (tgt := 124) dX8_bestStrength_54 (by decide) (fun c9 => ?_) (fun c9 => ?_)
              · refine j_sub h [0, 1, 2, 3, 4, 5, 6] rfl ?_
                exact hf (_, _) (Eq.symm ((ite_n c7 (bd_eq hz8 (ite_p c9 rfl)))))
              · refine j_aload_n h dX8_bestStrength_57 rfl 0 rfl ?_
                refine j_iload_n h dX8_bestStrength_58 rfl 2 rfl ?_
                refine j_iload_n h dX8_bestStrength_59 rfl 3 rfl ?_
                refine j_iload h dX8_bestStrength_60 7 rfl ?_
                refine j_iload h dX8_bestStrength_62 4 rfl ?_
                refine j_callI h (n := 4) (c_X8_columnOf l D cy ad _ _ _ _ _ _ (vp_of (j := p2.toNatClampNeg) ep2 (by omega) (by decide))) (xg_V (xr_24 8 rfl) (xr_24 9 rfl) (xr_24 10 rfl) (xr_1 5 rfl) (xr_24 11 rfl)) rfl rfl (by decide +kernel) ⟨Nat.le_of_ble_eq_true rfl, Nat.le_of_ble_eq_true rfl⟩ 0 rfl rfl rfl rfl rfl (Nat.le_of_ble_eq_true rfl) dX8_bestStrength_64 ⟨by decide, by decide⟩ (fun z10 u' hq => ?_)
                obtain ⟨hz10, rfl⟩ := hq
                refine j_istore h (lv' := [(8, _), (0, _), (1, _), (2, _), (3, _), (4, _), (5, _), (6, _), (7, _)]) dX8_bestStrength_67 (by decide) rfl ?_
                refine j_aload_n h dX8_bestStrength_69 rfl 1 rfl ?_
                refine j_iload_n h dX8_bestStrength_70 rfl 2 rfl ?_
                refine j_iload_n h dX8_bestStrength_71 rfl 3 rfl ?_
                refine j_iload h dX8_bestStrength_72 0 rfl ?_
                refine j_iload h dX8_bestStrength_74 8 rfl ?_
                refine j_callI h (n := 4) (c_X8_lengthOf l D cy ad _ _ _ _ _ _ (vp_of (j := p1.toNatClampNeg) ep1 (by omega) (by decide)) hI) (xg_V (xr_24 12 rfl) (xr_24 13 rfl) (xr_24 14 rfl) (xr_1 5 rfl) (xr_24 15 rfl)) rfl rfl (by decide +kernel) ⟨Nat.le_of_ble_eq_true rfl, Nat.le_of_ble_eq_true rfl⟩ 0 rfl rfl rfl rfl rfl (Nat.le_of_ble_eq_true rfl) dX8_bestStrength_76 ⟨by decide, by decide⟩ (fun z11 u' hq => ?_)
                obtain ⟨hz11, rfl⟩ := hq
                refine j_istore h (lv' := [(9, _), (8, _), (0, _), (1, _), (2, _), (3, _), (4, _), (5, _), (6, _), (7, _)]) dX8_bestStrength_79 (by decide) rfl ?_
                refine j_iload h dX8_bestStrength_81 0 rfl ?_
                refine j_if_lt h (tgt := 118) dX8_bestStrength_83 (by decide) (fun c12 => ?_) (fun c12 => ?_)
                · refine j_iinc h (v := nI (k + 1)) (lv' := [(7, _), (9, _), (8, _), (0, _), (1, _), (2, _), (3, _), (4, _), (5, _), (6, _)]) dX8_bestStrength_118 (k := 9) rfl (nI_1 k) (by decide) rfl ?_
                  refine j_goto h (tgt := 41) dX8_bestStrength_121 (by decide) ?_
                  refine j_sub h [3, 4, 5, 6, 7, 8, 9, 0] rfl ?_
                  exact ih (k + 1) _ _ (by omega) (by omega) (fun z hz => hf z (hz.trans (Eq.symm ((ite_n c7 (bd_eq hz8 (ite_n c9 (bd_eq hz10 (bd_eq hz11 (ite_p c12 rfl))))))))))
                · refine j_aload_n h dX8_bestStrength_86 rfl 2 rfl ?_
                  refine j_iload_n h dX8_bestStrength_87 rfl 3 rfl ?_
                  refine j_iload h dX8_bestStrength_88 1 rfl ?_
                  refine j_iload h dX8_bestStrength_90 0 rfl ?_
                  refine j_callI h (n := 3) (c_X8_square l D cy ad _ _ _ _ _ (vp_of (j := p1.toNatClampNeg) ep1 (by omega) (by decide))) (xg_V (xr_25 0 rfl) (xr_25 1 rfl) (xr_25 2 rfl) (xr_1 5 rfl) (xr_25 3 rfl)) rfl rfl (by decide +kernel) ⟨Nat.le_of_ble_eq_true rfl, Nat.le_of_ble_eq_true rfl⟩ 0 rfl rfl rfl rfl rfl (Nat.le_of_ble_eq_true rfl) dX8_bestStrength_92 ⟨by decide, by decide⟩ (fun z13 u' hq => ?_)
                  obtain ⟨hz13, rfl⟩ := hq
                  refine j_iload h dX8_bestStrength_95 8 rfl ?_
                  refine j_icmp_lt h (tgt := 103) dX8_bestStrength_97 (by decide) (fun c14 => ?_) (fun c14 => ?_)
                  · refine j_aload_n h dX8_bestStrength_103 rfl 2 rfl ?_
                    refine j_iload_n h dX8_bestStrength_104 rfl 3 rfl ?_
                    refine j_iload h dX8_bestStrength_105 1 rfl ?_
                    refine j_iload h dX8_bestStrength_107 0 rfl ?_
                    refine j_callI h (n := 3) (c_X8_square l D cy ad _ _ _ _ _ (vp_of (j := p1.toNatClampNeg) ep1 (by omega) (by decide))) (xg_V (xr_25 0 rfl) (xr_25 1 rfl) (xr_25 2 rfl) (xr_1 5 rfl) (xr_25 3 rfl)) rfl rfl (by decide +kernel) ⟨Nat.le_of_ble_eq_true rfl, Nat.le_of_ble_eq_true rfl⟩ 0 rfl rfl rfl rfl rfl (Nat.le_of_ble_eq_true rfl) dX8_bestStrength_109 ⟨by decide, by decide⟩ (fun z15 u' hq => ?_)
                    obtain ⟨hz15, rfl⟩ := hq
                    refine j_istore h (lv' := [(6, _), (9, _), (8, _), (0, _), (1, _), (2, _), (3, _), (4, _), (5, _), (7, _)]) dX8_bestStrength_112 (by decide) rfl ?_
                    refine j_iload h dX8_bestStrength_114 9 rfl ?_
                    refine j_istore h (lv' := [(5, _), (6, _), (9, _), (8, _), (0, _), (1, _), (2, _), (3, _), (4, _), (7, _)]) dX8_bestStrength_116 (by decide) rfl ?_
                    refine j_iinc h (v := nI (k + 1)) (lv' := [(7, _), (5, _), (6, _), (9, _), (8, _), (0, _), (1, _), (2, _), (3, _), (4, _)]) dX8_bestStrength_118 (k := 9) rfl (nI_1 k) (by decide) rfl ?_
                    refine j_goto h (tgt := 41) dX8_bestStrength_121 (by decide) ?_
                    refine j_sub h [5, 6, 7, 8, 9, 1, 2, 0] rfl ?_
                    exact ih (k + 1) _ _ (by omega) (by omega) (fun z hz => hf z (hz.trans (Eq.symm ((ite_n c7 (bd_eq hz8 (ite_n c9 (bd_eq hz10 (bd_eq hz11 (ite_n c12 (bd_eq hz13 (ite_p c14 (bd_eq hz15 rfl)))))))))))))
                  · refine j_goto h (tgt := 118) dX8_bestStrength_100 (by decide) ?_
                    refine j_iinc h (v := nI (k + 1)) (lv' := [(7, _), (9, _), (8, _), (0, _), (1, _), (2, _), (3, _), (4, _), (5, _), (6, _)]) dX8_bestStrength_118 (k := 9) rfl (nI_1 k) (by decide) rfl ?_
                    refine j_goto h (tgt := 41) dX8_bestStrength_121 (by decide) ?_
                    refine j_sub h [3, 4, 5, 6, 7, 8, 9, 0] rfl ?_
                    exact ih (k + 1) _ _ (by omega) (by omega) (fun z hz => hf z (hz.trans (Eq.symm ((ite_n c7 (bd_eq hz8 (ite_n c9 (bd_eq hz10 (bd_eq hz11 (ite_n c12 (bd_eq hz13 (ite_n c14 rfl))))))))))))
        refine j_sub h [3, 4, 5, 6, 7, 2, 1, 0] rfl ?_
        refine lp41 21 1 _ _ (by omega) (by omega) (fun z16 hz16 => ?_)
        refine j_iload h dX8_bestStrength_124 5 rfl ?_
        exact hR _ _ _ _ dX8_bestStrength_126 ⟨Eq.symm ((bd_eq hz1 (ite_n c2 (bd_eq hz3 (ite_n c4 (bd_eq hz5 (ite_p c6 (bd_eq hz16 rfl)))))))), rfl⟩
      · refine j_bipush h (v := (-2)) dX8_bestStrength_27 (by decide) ?_
        exact hR _ _ _ _ dX8_bestStrength_29 ⟨Eq.symm ((bd_eq hz1 (ite_n c2 (bd_eq hz3 (ite_n c4 (bd_eq hz5 (ite_n c6 rfl))))))), rfl⟩
    · refine j_iconst h (v := (-1)) dX8_bestStrength_16 (by decide) ?_
      exact hR _ _ _ _ dX8_bestStrength_17 ⟨Eq.symm ((bd_eq hz1 (ite_n c2 (bd_eq hz3 (ite_p c4 rfl))))), rfl⟩

def f_X8_ahead_l42 (X : Nat → Int32) (A : Nat → Nat → Int32) (p1 : Int32) (p2 : Int32) (p3 : Int32) : Nat → Nat → Int32 → Int32 → Int32 × Int32
  | 0, _, wet, casts => (wet, casts)
  | n + 1, k, wet, casts =>
    if p2 ≤ (nI k) then
      (wet, casts)
    else
      bd (f_X8_changed X A wet) fun z8 =>
      bd (f_X8_castsAfter X A p1 z8 casts) fun z9 =>
      f_X8_ahead_l42 X A p1 p2 p3 n (k + 1) z8 z9
def f_X8_ahead (X : Nat → Int32) (A : Nat → Nat → Int32) (p1 : Int32) (p2 : Int32) (p3 : Int32) : Int32 :=
  bd (f_X8_isRink X A p1) fun z1 =>
  if z1 = 0 then
    (-1)
  else
    bd (f_X8_in X A p2 0 40) fun z3 =>
    if z3 = 0 then
      (-2)
    else
      bd (f_X8_ofRink X A p1 2) fun z5 =>
      bd (f_X8_ofRink X A p1 3) fun z6 =>
      bd (f_X8_ahead_l42 X A p1 p2 p3 41 0 z5 z6) fun z10 =>
      if p3 = 0 then
        z10.1
      else
        z10.2
abbrev rm_X8_ahead : Room := { frames := 2, cells := 0, slots := 0, locals := 45 }
set_option maxRecDepth 100000 in
set_option maxHeartbeats 4000000 in
theorem c_X8_ahead (l : Launch) (D : gD) (cy : Nat → ClassId) (ad : Nat → Nat) (X : Nat → Int32) (A : Nat → Nat → Int32) (p1 : Int32) (p2 : Int32) (p3 : Int32) (hI : MI A) : CtI l D cy (MW cy ad) yX8_ahead cX8_ahead 7 (some .int) rm_X8_ahead [.ref (ad 0), .int p1, .int p2, .int p3] (X, A) (fun rv u => rv = f_X8_ahead X A p1 p2 p3 ∧ u = (X, A)) 0 0 := by
  refine m_entI cX8_ahead 7 (by decide) (Nat.le_of_ble_eq_true rfl) (fun J h hR => ?_)
  show J (X, A) (0, 0) [(0, .ref (ad 0)), (1, .int p1), (2, .int p2), (3, .int p3)] 0 []
  refine j_aload_n h dX8_ahead_0 rfl 0 rfl ?_
  refine j_iload_n h dX8_ahead_1 rfl 1 rfl ?_
  refine j_callI h (n := 1) (c_X8_isRink l D cy ad _ _ _) (xg_V (xr_20 2 rfl) (xr_20 3 rfl) (xr_20 4 rfl) (xr_1 5 rfl) (xr_20 5 rfl)) rfl rfl (by decide +kernel) ⟨Nat.le_of_ble_eq_true rfl, Nat.le_of_ble_eq_true rfl⟩ 0 rfl rfl rfl rfl rfl (Nat.le_of_ble_eq_true rfl) dX8_ahead_2 ⟨by decide, by decide⟩ (fun z1 u' hq => ?_)
  obtain ⟨hz1, rfl, bz1⟩ := hq
  refine j_if_ne h (tgt := 10) dX8_ahead_5 (by decide) (fun c2 => ?_) (fun c2 => ?_)
  · have vp1 : vp_in p1 4 := isRinkM_in hI hz1 c2
    have bp1 : p1.toNatClampNeg < 4 := vp_lt vp1
    have ep1 : p1 = nI p1.toNatClampNeg := vp_nI vp1 (by decide)
    refine j_iload_n h dX8_ahead_10 rfl 2 rfl ?_
    refine j_iconst h (v := 0) dX8_ahead_11 (by decide) ?_
    refine j_bipush h (v := 40) dX8_ahead_12 (by decide) ?_
    refine j_callS h (n := 3) (c_X8_in l D cy ad _ _ _ _ _) (xg_S (xr_12 13 rfl) (xr_12 14 rfl) (xr_1 5 rfl) (xr_12 15 rfl)) rfl rfl (by decide +kernel) ⟨Nat.le_of_ble_eq_true rfl, Nat.le_of_ble_eq_true rfl⟩  rfl rfl (Nat.le_of_ble_eq_true rfl) dX8_ahead_14 ⟨by decide, by decide⟩ (fun z3 u' hq => ?_)
    obtain ⟨hz3, rfl, bz3⟩ := hq
    refine j_if_ne h (tgt := 23) dX8_ahead_17 (by decide) (fun c4 => ?_) (fun c4 => ?_)
    · have hh : p2 ≤ nI 40 := inM_le hz3 c4
      refine j_aload_n h dX8_ahead_23 rfl 0 rfl ?_
      refine j_iload_n h dX8_ahead_24 rfl 1 rfl ?_
      refine j_iconst h (v := 2) dX8_ahead_25 (by decide) ?_
      refine j_callI h (n := 2) (c_X8_ofRink l D cy ad _ _ _ _ (vp_of (j := p1.toNatClampNeg) ep1 (by omega) (by decide)) (vp_in_nI (by decide) (by decide))) (xg_V (xr_16 15 rfl) (xr_16 16 rfl) (xr_16 17 rfl) (xr_1 5 rfl) (xr_16 18 rfl)) rfl rfl (by decide +kernel) ⟨Nat.le_of_ble_eq_true rfl, Nat.le_of_ble_eq_true rfl⟩ 0 rfl rfl rfl rfl rfl (Nat.le_of_ble_eq_true rfl) dX8_ahead_26 ⟨by decide, by decide⟩ (fun z5 u' hq => ?_)
      obtain ⟨hz5, rfl⟩ := hq
      refine j_istore h (lv' := [(4, _), (0, _), (1, _), (2, _), (3, _)]) dX8_ahead_29 (by decide) rfl ?_
      refine j_aload_n h dX8_ahead_31 rfl 1 rfl ?_
      refine j_iload_n h dX8_ahead_32 rfl 2 rfl ?_
      refine j_iconst h (v := 3) dX8_ahead_33 (by decide) ?_
      refine j_callI h (n := 2) (c_X8_ofRink l D cy ad _ _ _ _ (vp_of (j := p1.toNatClampNeg) ep1 (by omega) (by decide)) (vp_in_nI (by decide) (by decide))) (xg_V (xr_16 15 rfl) (xr_16 16 rfl) (xr_16 17 rfl) (xr_1 5 rfl) (xr_16 18 rfl)) rfl rfl (by decide +kernel) ⟨Nat.le_of_ble_eq_true rfl, Nat.le_of_ble_eq_true rfl⟩ 0 rfl rfl rfl rfl rfl (Nat.le_of_ble_eq_true rfl) dX8_ahead_34 ⟨by decide, by decide⟩ (fun z6 u' hq => ?_)
      obtain ⟨hz6, rfl⟩ := hq
      refine j_istore h (lv' := [(5, _), (4, _), (0, _), (1, _), (2, _), (3, _)]) dX8_ahead_37 (by decide) rfl ?_
      refine j_iconst h (v := 0) dX8_ahead_39 (by decide) ?_
      refine j_istore h (lv' := [(6, _), (5, _), (4, _), (0, _), (1, _), (2, _), (3, _)]) dX8_ahead_40 (by decide) rfl ?_
      have lp42 : ∀ (n k : Nat) (wet : Int32) (casts : Int32), n + k = 41 → k ≤ 40 → (∀ z : Int32 × Int32, z = f_X8_ahead_l42 X A p1 p2 p3 n k wet casts → J (X, A) (0, 0) [(0, .ref (ad 0)), (1, .int p1), (2, .int p2), (3, .int p3), (4, .int z.1), (5, .int z.2)] 73 []) → J (X, A) (0, 0) [(0, .ref (ad 0)), (1, .int p1), (2, .int p2), (3, .int p3), (4, .int wet), (5, .int casts), (6, .int (nI k))] 42 [] := by
        intro n
        induction n with
        | zero => intro k wet casts hn hk hf; omega
        | succ n ih =>
          intro k wet casts hn hk hf
          refine j_iload h dX8_ahead_42 6 rfl ?_
          refine j_iload_n h dX8_ahead_44 rfl 2 rfl ?_
          refine j_icmp_ge h (tgt := 73) dX8_ahead_45 (by decide) (fun c7 => ?_) (fun c7 => ?_)
          · refine j_sub h [0, 1, 2, 3, 4, 5] rfl ?_
            exact hf (_, _) (Eq.symm ((ite_p c7 rfl)))
          · have hk1 : k < 40 := cnt_lt (by decide) hk hh c7
            refine j_aload_n h dX8_ahead_48 rfl 0 rfl ?_
            refine j_iload h dX8_ahead_49 4 rfl ?_
            refine j_callI h (n := 1) (c_X8_changed l D cy ad _ _ _) (xg_V (xr_20 10 rfl) (xr_20 11 rfl) (xr_20 12 rfl) (xr_1 5 rfl) (xr_20 13 rfl)) rfl rfl (by decide +kernel) ⟨Nat.le_of_ble_eq_true rfl, Nat.le_of_ble_eq_true rfl⟩ 0 rfl rfl rfl rfl rfl (Nat.le_of_ble_eq_true rfl) dX8_ahead_51 ⟨by decide, by decide⟩ (fun z8 u' hq => ?_)
            obtain ⟨hz8, rfl⟩ := hq
            refine j_istore h (lv' := [(4, _), (0, _), (1, _), (2, _), (3, _), (5, _), (6, _)]) dX8_ahead_54 (by decide) rfl ?_
            refine j_aload_n h dX8_ahead_56 rfl 1 rfl ?_
            refine j_iload_n h dX8_ahead_57 rfl 2 rfl ?_
            refine j_iload h dX8_ahead_58 0 rfl ?_
            refine j_iload h dX8_ahead_60 5 rfl ?_
            refine j_callI h (n := 3) (c_X8_castsAfter l D cy ad _ _ _ _ _ (vp_of (j := p1.toNatClampNeg) ep1 (by omega) (by decide))) (xg_V (xr_32 11 rfl) (xr_32 12 rfl) (xr_32 13 rfl) (xr_1 5 rfl) (xr_32 14 rfl)) rfl rfl (by decide +kernel) ⟨Nat.le_of_ble_eq_true rfl, Nat.le_of_ble_eq_true rfl⟩ 0 rfl rfl rfl rfl rfl (Nat.le_of_ble_eq_true rfl) dX8_ahead_62 ⟨by decide, by decide⟩ (fun z9 u' hq => ?_)
            obtain ⟨hz9, rfl⟩ := hq
            refine j_istore h (lv' := [(5, _), (4, _), (0, _), (1, _), (2, _), (3, _), (6, _)]) dX8_ahead_65 (by decide) rfl ?_
            refine j_iinc h (v := nI (k + 1)) (lv' := [(6, _), (5, _), (4, _), (0, _), (1, _), (2, _), (3, _)]) dX8_ahead_67 (k := 6) rfl (nI_1 k) (by decide) rfl ?_
            refine j_goto h (tgt := 42) dX8_ahead_70 (by decide) ?_
            refine j_sub h [3, 4, 5, 6, 2, 1, 0] rfl ?_
            exact ih (k + 1) _ _ (by omega) (by omega) (fun z hz => hf z (hz.trans (Eq.symm ((ite_n c7 (bd_eq hz8 (bd_eq hz9 rfl)))))))
      refine j_sub h [3, 4, 5, 6, 2, 1, 0] rfl ?_
      refine lp42 41 0 _ _ (by omega) (by omega) (fun z10 hz10 => ?_)
      refine j_iload_n h dX8_ahead_73 rfl 3 rfl ?_
      refine j_if_eq h (tgt := 82) dX8_ahead_74 (by decide) (fun c11 => ?_) (fun c11 => ?_)
      · refine j_iload h dX8_ahead_82 4 rfl ?_
        exact hR _ _ _ _ dX8_ahead_84 ⟨Eq.symm ((bd_eq hz1 (ite_n c2 (bd_eq hz3 (ite_n c4 (bd_eq hz5 (bd_eq hz6 (bd_eq hz10 (ite_p c11 rfl))))))))), rfl⟩
      · refine j_iload h dX8_ahead_77 5 rfl ?_
        refine j_goto h (tgt := 84) dX8_ahead_79 (by decide) ?_
        exact hR _ _ _ _ dX8_ahead_84 ⟨Eq.symm ((bd_eq hz1 (ite_n c2 (bd_eq hz3 (ite_n c4 (bd_eq hz5 (bd_eq hz6 (bd_eq hz10 (ite_n c11 rfl))))))))), rfl⟩
    · refine j_bipush h (v := (-2)) dX8_ahead_20 (by decide) ?_
      exact hR _ _ _ _ dX8_ahead_22 ⟨Eq.symm ((bd_eq hz1 (ite_n c2 (bd_eq hz3 (ite_p c4 rfl))))), rfl⟩
  · refine j_iconst h (v := (-1)) dX8_ahead_8 (by decide) ?_
    exact hR _ _ _ _ dX8_ahead_9 ⟨Eq.symm ((bd_eq hz1 (ite_p c2 rfl))), rfl⟩

def f_X8_wetIn (X : Nat → Int32) (A : Nat → Nat → Int32) (p1 : Int32) (p2 : Int32) : Int32 :=
  bd (f_X8_ahead X A p1 p2 0) fun z1 =>
  z1
abbrev rm_X8_wetIn : Room := { frames := 3, cells := 0, slots := 0, locals := 71 }
set_option maxRecDepth 100000 in
set_option maxHeartbeats 4000000 in
theorem c_X8_wetIn (l : Launch) (D : gD) (cy : Nat → ClassId) (ad : Nat → Nat) (X : Nat → Int32) (A : Nat → Nat → Int32) (p1 : Int32) (p2 : Int32) (hI : MI A) : CtI l D cy (MW cy ad) yX8_wetIn cX8_wetIn 3 (some .int) rm_X8_wetIn [.ref (ad 0), .int p1, .int p2] (X, A) (fun rv u => rv = f_X8_wetIn X A p1 p2 ∧ u = (X, A)) 0 0 := by
  refine m_entI cX8_wetIn 3 (by decide) (Nat.le_of_ble_eq_true rfl) (fun J h hR => ?_)
  show J (X, A) (0, 0) [(0, .ref (ad 0)), (1, .int p1), (2, .int p2)] 0 []
  refine j_aload_n h dX8_wetIn_0 rfl 0 rfl ?_
  refine j_iload_n h dX8_wetIn_1 rfl 1 rfl ?_
  refine j_iload_n h dX8_wetIn_2 rfl 2 rfl ?_
  refine j_iconst h (v := 0) dX8_wetIn_3 (by decide) ?_
  refine j_callI h (n := 3) (c_X8_ahead l D cy ad _ _ _ _ _ hI) (xg_V (xr_45 18 rfl) (xr_45 19 rfl) (xr_45 20 rfl) (xr_1 5 rfl) (xr_45 21 rfl)) rfl rfl (by decide +kernel) ⟨Nat.le_of_ble_eq_true rfl, Nat.le_of_ble_eq_true rfl⟩ 0 rfl rfl rfl rfl rfl (Nat.le_of_ble_eq_true rfl) dX8_wetIn_4 ⟨by decide, by decide⟩ (fun z1 u' hq => ?_)
  obtain ⟨hz1, rfl⟩ := hq
  exact hR _ _ _ _ dX8_wetIn_7 ⟨Eq.symm ((bd_eq hz1 rfl)), rfl⟩

def f_X8_castsIn (X : Nat → Int32) (A : Nat → Nat → Int32) (p1 : Int32) (p2 : Int32) : Int32 :=
  bd (f_X8_ahead X A p1 p2 1) fun z1 =>
  z1
abbrev rm_X8_castsIn : Room := { frames := 3, cells := 0, slots := 0, locals := 71 }
set_option maxRecDepth 100000 in
set_option maxHeartbeats 4000000 in
theorem c_X8_castsIn (l : Launch) (D : gD) (cy : Nat → ClassId) (ad : Nat → Nat) (X : Nat → Int32) (A : Nat → Nat → Int32) (p1 : Int32) (p2 : Int32) (hI : MI A) : CtI l D cy (MW cy ad) yX8_castsIn cX8_castsIn 3 (some .int) rm_X8_castsIn [.ref (ad 0), .int p1, .int p2] (X, A) (fun rv u => rv = f_X8_castsIn X A p1 p2 ∧ u = (X, A)) 0 0 := by
  refine m_entI cX8_castsIn 3 (by decide) (Nat.le_of_ble_eq_true rfl) (fun J h hR => ?_)
  show J (X, A) (0, 0) [(0, .ref (ad 0)), (1, .int p1), (2, .int p2)] 0 []
  refine j_aload_n h dX8_castsIn_0 rfl 0 rfl ?_
  refine j_iload_n h dX8_castsIn_1 rfl 1 rfl ?_
  refine j_iload_n h dX8_castsIn_2 rfl 2 rfl ?_
  refine j_iconst h (v := 1) dX8_castsIn_3 (by decide) ?_
  refine j_callI h (n := 3) (c_X8_ahead l D cy ad _ _ _ _ _ hI) (xg_V (xr_45 18 rfl) (xr_45 19 rfl) (xr_45 20 rfl) (xr_1 5 rfl) (xr_45 21 rfl)) rfl rfl (by decide +kernel) ⟨Nat.le_of_ble_eq_true rfl, Nat.le_of_ble_eq_true rfl⟩ 0 rfl rfl rfl rfl rfl (Nat.le_of_ble_eq_true rfl) dX8_castsIn_4 ⟨by decide, by decide⟩ (fun z1 u' hq => ?_)
  obtain ⟨hz1, rfl⟩ := hq
  exact hR _ _ _ _ dX8_castsIn_7 ⟨Eq.symm ((bd_eq hz1 rfl)), rfl⟩

def f_X8_dryIn (X : Nat → Int32) (A : Nat → Nat → Int32) (p1 : Int32) : Int32 :=
  bd (f_X8_isRink X A p1) fun z1 =>
  if z1 = 0 then
    (-1)
  else
    bd (f_X8_hoursToDry X A p1) fun z3 =>
    if 0 ≤ z3 then
      z3
    else
      (-4)
abbrev rm_X8_dryIn : Room := { frames := 3, cells := 0, slots := 0, locals := 65 }
set_option maxRecDepth 100000 in
set_option maxHeartbeats 4000000 in
theorem c_X8_dryIn (l : Launch) (D : gD) (cy : Nat → ClassId) (ad : Nat → Nat) (X : Nat → Int32) (A : Nat → Nat → Int32) (p1 : Int32) (hI : MI A) : CtI l D cy (MW cy ad) yX8_dryIn cX8_dryIn 3 (some .int) rm_X8_dryIn [.ref (ad 0), .int p1] (X, A) (fun rv u => rv = f_X8_dryIn X A p1 ∧ u = (X, A)) 0 0 := by
  refine m_entI cX8_dryIn 3 (by decide) (Nat.le_of_ble_eq_true rfl) (fun J h hR => ?_)
  show J (X, A) (0, 0) [(0, .ref (ad 0)), (1, .int p1)] 0 []
  refine j_aload_n h dX8_dryIn_0 rfl 0 rfl ?_
  refine j_iload_n h dX8_dryIn_1 rfl 1 rfl ?_
  refine j_callI h (n := 1) (c_X8_isRink l D cy ad _ _ _) (xg_V (xr_20 2 rfl) (xr_20 3 rfl) (xr_20 4 rfl) (xr_1 5 rfl) (xr_20 5 rfl)) rfl rfl (by decide +kernel) ⟨Nat.le_of_ble_eq_true rfl, Nat.le_of_ble_eq_true rfl⟩ 0 rfl rfl rfl rfl rfl (Nat.le_of_ble_eq_true rfl) dX8_dryIn_2 ⟨by decide, by decide⟩ (fun z1 u' hq => ?_)
  obtain ⟨hz1, rfl, bz1⟩ := hq
  refine j_if_ne h (tgt := 10) dX8_dryIn_5 (by decide) (fun c2 => ?_) (fun c2 => ?_)
  · have vp1 : vp_in p1 4 := isRinkM_in hI hz1 c2
    have bp1 : p1.toNatClampNeg < 4 := vp_lt vp1
    have ep1 : p1 = nI p1.toNatClampNeg := vp_nI vp1 (by decide)
    refine j_aload_n h dX8_dryIn_10 rfl 0 rfl ?_
    refine j_iload_n h dX8_dryIn_11 rfl 1 rfl ?_
    refine j_callI h (n := 1) (c_X8_hoursToDry l D cy ad _ _ _ (vp_of (j := p1.toNatClampNeg) ep1 (by omega) (by decide))) (xg_V (xr_20 6 rfl) (xr_20 7 rfl) (xr_20 8 rfl) (xr_1 5 rfl) (xr_20 9 rfl)) rfl rfl (by decide +kernel) ⟨Nat.le_of_ble_eq_true rfl, Nat.le_of_ble_eq_true rfl⟩ 0 rfl rfl rfl rfl rfl (Nat.le_of_ble_eq_true rfl) dX8_dryIn_12 ⟨by decide, by decide⟩ (fun z3 u' hq => ?_)
    obtain ⟨hz3, rfl⟩ := hq
    refine j_istore_n h (lv' := [(2, _), (0, _), (1, _)]) dX8_dryIn_15 rfl (by decide) rfl ?_
    refine j_iload_n h dX8_dryIn_16 rfl 0 rfl ?_
    refine j_if_ge h (tgt := 25) dX8_dryIn_17 (by decide) (fun c4 => ?_) (fun c4 => ?_)
    · refine j_iload_n h dX8_dryIn_25 rfl 0 rfl ?_
      exact hR _ _ _ _ dX8_dryIn_26 ⟨Eq.symm ((bd_eq hz1 (ite_n c2 (bd_eq hz3 (ite_p c4 rfl))))), rfl⟩
    · refine j_bipush h (v := (-4)) dX8_dryIn_20 (by decide) ?_
      refine j_goto h (tgt := 26) dX8_dryIn_22 (by decide) ?_
      exact hR _ _ _ _ dX8_dryIn_26 ⟨Eq.symm ((bd_eq hz1 (ite_n c2 (bd_eq hz3 (ite_n c4 rfl))))), rfl⟩
  · refine j_iconst h (v := (-1)) dX8_dryIn_8 (by decide) ?_
    exact hR _ _ _ _ dX8_dryIn_9 ⟨Eq.symm ((bd_eq hz1 (ite_p c2 rfl))), rfl⟩

def f_X8_leader_l2 (X : Nat → Int32) (A : Nat → Nat → Int32) : Nat → Nat → Int32
  | 0, _ => 0
  | n + 1, k =>
    if 2 ≤ (nI k) then
      (-4)
    else
      if (A 0 (9 + k)) = (A 0 (13 + k)) then
        f_X8_leader_l2 X A n (k + 1) 
      else
        if (A 0 (9 + k)) ≤ (A 0 (13 + k)) then
          1
        else
          0
def f_X8_leader (X : Nat → Int32) (A : Nat → Nat → Int32) : Int32 :=
  f_X8_leader_l2 X A 3 0 
abbrev rm_X8_leader : Room := { frames := 0, cells := 0, slots := 0, locals := 0 }
set_option maxRecDepth 100000 in
set_option maxHeartbeats 4000000 in
theorem c_X8_leader (l : Launch) (D : gD) (cy : Nat → ClassId) (ad : Nat → Nat) (X : Nat → Int32) (A : Nat → Nat → Int32)  : CtI l D cy (MW cy ad) yX8_leader cX8_leader 2 (some .int) rm_X8_leader [.ref (ad 0)] (X, A) (fun rv u => rv = f_X8_leader X A ∧ u = (X, A)) 0 0 := by
  refine m_entI cX8_leader 2 (by decide) (Nat.le_of_ble_eq_true rfl) (fun J h hR => ?_)
  show J (X, A) (0, 0) [(0, .ref (ad 0))] 0 []
  refine j_iconst h (v := 0) dX8_leader_0 (by decide) ?_
  refine j_istore_n h (lv' := [(1, _), (0, _)]) dX8_leader_1 rfl (by decide) rfl ?_
  have lp2 : ∀ (n k : Nat) , n + k = 3 → k ≤ 2 → f_X8_leader X A = f_X8_leader_l2 X A n k  → J (X, A) (0, 0) [(0, .ref (ad 0)), (1, .int (nI k))] 2 [] := by
    intro n
    induction n with
    | zero => intro k  hn hk hf; omega
    | succ n ih =>
      intro k  hn hk hf
      refine j_iload_n h dX8_leader_2 rfl 1 rfl ?_
      refine j_iconst h (v := 2) dX8_leader_3 (by decide) ?_
      refine j_icmp_ge h (tgt := 61) dX8_leader_4 (by decide) (fun c1 => ?_) (fun c1 => ?_)
      · refine j_bipush h (v := (-4)) dX8_leader_61 (by decide) ?_
        exact hR _ _ _ _ dX8_leader_63 ⟨Eq.symm (hf.trans ((ite_p c1 rfl))), rfl⟩
      · have hk1 : k < 2 := cnt_lt (by decide) hk (by decide : (2 : Int32) ≤ nI 2) c1
        refine j_aload_n h dX8_leader_7 rfl 0 rfl ?_
        refine j_get h inlX8 0 rfl rfl 0 (by decide) (xr_6 7 rfl) rfl (v := .ref (ad 1)) rfl dX8_leader_8 ?_
        refine j_bipush h (v := 9) dX8_leader_11 (by decide) ?_
        refine j_iload_n h dX8_leader_13 rfl 1 rfl ?_
        refine j_iadd h dX8_leader_14 ?_
        refine j_ialdE h 1 rfl (9 + k) (nx_add rfl rfl) (by omega) (by decide) dX8_leader_15 ?_
        refine j_aload_n h dX8_leader_16 rfl 0 rfl ?_
        refine j_get h inlX8 0 rfl rfl 0 (by decide) (xr_6 7 rfl) rfl (v := .ref (ad 1)) rfl dX8_leader_17 ?_
        refine j_bipush h (v := 13) dX8_leader_20 (by decide) ?_
        refine j_iload_n h dX8_leader_22 rfl 1 rfl ?_
        refine j_iadd h dX8_leader_23 ?_
        refine j_ialdE h 1 rfl (13 + k) (nx_add rfl rfl) (by omega) (by decide) dX8_leader_24 ?_
        refine j_icmp_eq h (tgt := 55) dX8_leader_25 (by decide) (fun c2 => ?_) (fun c2 => ?_)
        · refine j_iinc h (v := nI (k + 1)) (lv' := [(1, _), (0, _)]) dX8_leader_55 (k := 1) rfl (nI_1 k) (by decide) rfl ?_
          refine j_goto h (tgt := 2) dX8_leader_58 (by decide) ?_
          refine j_sub h [1, 0] rfl ?_
          exact ih (k + 1)  (by omega) (by omega) (hf.trans ((ite_n c1 (ite_p c2 rfl))))
        · refine j_aload_n h dX8_leader_28 rfl 0 rfl ?_
          refine j_get h inlX8 0 rfl rfl 0 (by decide) (xr_6 7 rfl) rfl (v := .ref (ad 1)) rfl dX8_leader_29 ?_
          refine j_bipush h (v := 9) dX8_leader_32 (by decide) ?_
          refine j_iload_n h dX8_leader_34 rfl 1 rfl ?_
          refine j_iadd h dX8_leader_35 ?_
          refine j_ialdE h 1 rfl (9 + k) (nx_add rfl rfl) (by omega) (by decide) dX8_leader_36 ?_
          refine j_aload_n h dX8_leader_37 rfl 0 rfl ?_
          refine j_get h inlX8 0 rfl rfl 0 (by decide) (xr_6 7 rfl) rfl (v := .ref (ad 1)) rfl dX8_leader_38 ?_
          refine j_bipush h (v := 13) dX8_leader_41 (by decide) ?_
          refine j_iload_n h dX8_leader_43 rfl 1 rfl ?_
          refine j_iadd h dX8_leader_44 ?_
          refine j_ialdE h 1 rfl (13 + k) (nx_add rfl rfl) (by omega) (by decide) dX8_leader_45 ?_
          refine j_icmp_le h (tgt := 53) dX8_leader_46 (by decide) (fun c3 => ?_) (fun c3 => ?_)
          · refine j_iconst h (v := 1) dX8_leader_53 (by decide) ?_
            exact hR _ _ _ _ dX8_leader_54 ⟨Eq.symm (hf.trans ((ite_n c1 (ite_n c2 (ite_p c3 rfl))))), rfl⟩
          · refine j_iconst h (v := 0) dX8_leader_49 (by decide) ?_
            refine j_goto h (tgt := 54) dX8_leader_50 (by decide) ?_
            exact hR _ _ _ _ dX8_leader_54 ⟨Eq.symm (hf.trans ((ite_n c1 (ite_n c2 (ite_n c3 rfl))))), rfl⟩
  refine j_sub h [1, 0] rfl ?_
  exact lp2 3 0  (by omega) (by omega) (rfl)

def f_X8_fault (X : Nat → Int32) (A : Nat → Nat → Int32) : Int32 :=
  (X 14)
abbrev rm_X8_fault : Room := { frames := 0, cells := 0, slots := 0, locals := 0 }
set_option maxRecDepth 100000 in
set_option maxHeartbeats 4000000 in
theorem c_X8_fault (l : Launch) (D : gD) (cy : Nat → ClassId) (ad : Nat → Nat) (X : Nat → Int32) (A : Nat → Nat → Int32)  : CtI l D cy (MW cy ad) yX8_fault cX8_fault 1 (some .int) rm_X8_fault [.ref (ad 0)] (X, A) (fun rv u => rv = f_X8_fault X A ∧ u = (X, A)) 0 0 := by
  refine m_entI cX8_fault 1 (by decide) (Nat.le_of_ble_eq_true rfl) (fun J h hR => ?_)
  show J (X, A) (0, 0) [(0, .ref (ad 0))] 0 []
  refine j_aload_n h dX8_fault_0 rfl 0 rfl ?_
  refine j_get h inlX8 0 rfl rfl 14 (by decide) (xr_6 15 rfl) rfl (v := .int (X 14)) rfl dX8_fault_1 ?_
  exact hR _ _ _ _ dX8_fault_4 ⟨Eq.symm (rfl), rfl⟩

def f_X8_written (X : Nat → Int32) (A : Nat → Nat → Int32) (p1 : Int32) : Int32 :=
  bd (f_X8_in X A p1 0 ((X 7) - 1)) fun z1 =>
  if z1 = 0 then
    (-1)
  else
    (A 4 p1.toNatClampNeg)
abbrev rm_X8_written : Room := { frames := 1, cells := 0, slots := 0, locals := 22 }
set_option maxRecDepth 100000 in
set_option maxHeartbeats 4000000 in
theorem c_X8_written (l : Launch) (D : gD) (cy : Nat → ClassId) (ad : Nat → Nat) (X : Nat → Int32) (A : Nat → Nat → Int32) (p1 : Int32) (hL : vp_in (X 7) 111) : CtI l D cy (MW cy ad) yX8_written cX8_written 2 (some .int) rm_X8_written [.ref (ad 0), .int p1] (X, A) (fun rv u => rv = f_X8_written X A p1 ∧ u = (X, A)) 0 0 := by
  refine m_entI cX8_written 2 (by decide) (Nat.le_of_ble_eq_true rfl) (fun J h hR => ?_)
  show J (X, A) (0, 0) [(0, .ref (ad 0)), (1, .int p1)] 0 []
  refine j_iload_n h dX8_written_0 rfl 1 rfl ?_
  refine j_iconst h (v := 0) dX8_written_1 (by decide) ?_
  refine j_aload_n h dX8_written_2 rfl 0 rfl ?_
  refine j_get h inlX8 0 rfl rfl 7 (by decide) (xr_50 10 rfl) rfl (v := .int (X 7)) rfl dX8_written_3 ?_
  refine j_iconst h (v := 1) dX8_written_6 (by decide) ?_
  refine j_isub h dX8_written_7 ?_
  refine j_callS h (n := 3) (c_X8_in l D cy ad _ _ _ _ _) (xg_S (xr_12 13 rfl) (xr_12 14 rfl) (xr_1 5 rfl) (xr_12 15 rfl)) rfl rfl (by decide +kernel) ⟨Nat.le_of_ble_eq_true rfl, Nat.le_of_ble_eq_true rfl⟩  rfl rfl (Nat.le_of_ble_eq_true rfl) dX8_written_8 ⟨by decide, by decide⟩ (fun z1 u' hq => ?_)
  obtain ⟨hz1, rfl, bz1⟩ := hq
  refine j_if_eq h (tgt := 23) dX8_written_11 (by decide) (fun c2 => ?_) (fun c2 => ?_)
  · refine j_iconst h (v := (-1)) dX8_written_23 (by decide) ?_
    exact hR _ _ _ _ dX8_written_24 ⟨Eq.symm ((bd_eq hz1 (ite_p c2 rfl))), rfl⟩
  · have vp1 : vp_in p1 110 := inM_in (X := X) (A := A) (by decide) hL hz1 c2
    have bp1 : p1.toNatClampNeg < 110 := vp_lt vp1
    have ep1 : p1 = nI p1.toNatClampNeg := vp_nI vp1 (by decide)
    refine j_aload_n h dX8_written_14 rfl 0 rfl ?_
    refine j_get h inlX8 0 rfl rfl 6 (by decide) (xr_6 11 rfl) rfl (v := .ref (ad 5)) rfl dX8_written_15 ?_
    refine j_iload_n h dX8_written_18 rfl 1 rfl ?_
    refine j_ialdE h 5 rfl p1.toNatClampNeg ep1 (by omega) (by decide) dX8_written_19 ?_
    refine j_goto h (tgt := 24) dX8_written_20 (by decide) ?_
    exact hR _ _ _ _ dX8_written_24 ⟨Eq.symm ((bd_eq hz1 (ite_n c2 rfl))), rfl⟩

def f_X8_reason (X : Nat → Int32) (A : Nat → Nat → Int32) (p1 : Int32) (p2 : Int32) : Int32 :=
  if 0 ≤ p1 then
    if (X 16) ≤ p1 then
      (-4)
    else
      if p2 = 0 then
        (A 7 ((2 * p1.toNatClampNeg) + 0))
      else
        (A 7 ((2 * p1.toNatClampNeg) + 1))
  else
    (-2)
abbrev rm_X8_reason : Room := { frames := 0, cells := 0, slots := 0, locals := 0 }
set_option maxRecDepth 100000 in
set_option maxHeartbeats 4000000 in
theorem c_X8_reason (l : Launch) (D : gD) (cy : Nat → ClassId) (ad : Nat → Nat) (X : Nat → Int32) (A : Nat → Nat → Int32) (p1 : Int32) (p2 : Int32) (hDp : vp_in (X 16) 4) : CtI l D cy (MW cy ad) yX8_reason cX8_reason 3 (some .int) rm_X8_reason [.ref (ad 0), .int p1, .int p2] (X, A) (fun rv u => rv = f_X8_reason X A p1 p2 ∧ u = (X, A)) 0 0 := by
  refine m_entI cX8_reason 3 (by decide) (Nat.le_of_ble_eq_true rfl) (fun J h hR => ?_)
  show J (X, A) (0, 0) [(0, .ref (ad 0)), (1, .int p1), (2, .int p2)] 0 []
  refine j_iload_n h dX8_reason_0 rfl 1 rfl ?_
  refine j_if_ge h (tgt := 7) dX8_reason_1 (by decide) (fun c1 => ?_) (fun c1 => ?_)
  · refine j_iload_n h dX8_reason_7 rfl 1 rfl ?_
    refine j_aload_n h dX8_reason_8 rfl 0 rfl ?_
    refine j_get h inlX8 0 rfl rfl 16 (by decide) (xr_16 14 rfl) rfl (v := .int (X 16)) rfl dX8_reason_9 ?_
    refine j_icmp_ge h (tgt := 36) dX8_reason_12 (by decide) (fun c2 => ?_) (fun c2 => ?_)
    · refine j_bipush h (v := (-4)) dX8_reason_36 (by decide) ?_
      exact hR _ _ _ _ dX8_reason_38 ⟨Eq.symm ((ite_p c1 (ite_p c2 rfl))), rfl⟩
    · have vp1 : vp_in p1 3 := in_cnt (by decide) (le_of_vp (by decide) hDp) (Int32.not_lt.mpr c1) (Int32.not_le.mp c2)
      have bp1 : p1.toNatClampNeg < 3 := vp_lt vp1
      have ep1 : p1 = nI p1.toNatClampNeg := vp_nI vp1 (by decide)
      refine j_aload_n h dX8_reason_15 rfl 0 rfl ?_
      refine j_get h inlX8 0 rfl rfl 15 (by decide) (xr_6 16 rfl) rfl (v := .ref (ad 8)) rfl dX8_reason_16 ?_
      refine j_iconst h (v := 2) dX8_reason_19 (by decide) ?_
      refine j_iload_n h dX8_reason_20 rfl 1 rfl ?_
      refine j_imul h dX8_reason_21 ?_
      refine j_iload_n h dX8_reason_22 rfl 2 rfl ?_
      refine j_if_eq h (tgt := 30) dX8_reason_23 (by decide) (fun c3 => ?_) (fun c3 => ?_)
      · refine j_iconst h (v := 0) dX8_reason_30 (by decide) ?_
        refine j_iadd h dX8_reason_31 ?_
        refine j_ialdE h 8 rfl ((2 * p1.toNatClampNeg) + 0) (nx_add (nx_mul rfl ep1) rfl) (by omega) (by decide) dX8_reason_32 ?_
        refine j_goto h (tgt := 38) dX8_reason_33 (by decide) ?_
        exact hR _ _ _ _ dX8_reason_38 ⟨Eq.symm ((ite_p c1 (ite_n c2 (ite_p c3 rfl)))), rfl⟩
      · refine j_iconst h (v := 1) dX8_reason_26 (by decide) ?_
        refine j_goto h (tgt := 31) dX8_reason_27 (by decide) ?_
        refine j_iadd h dX8_reason_31 ?_
        refine j_ialdE h 8 rfl ((2 * p1.toNatClampNeg) + 1) (nx_add (nx_mul rfl ep1) rfl) (by omega) (by decide) dX8_reason_32 ?_
        refine j_goto h (tgt := 38) dX8_reason_33 (by decide) ?_
        exact hR _ _ _ _ dX8_reason_38 ⟨Eq.symm ((ite_p c1 (ite_n c2 (ite_n c3 rfl)))), rfl⟩
  · refine j_bipush h (v := (-2)) dX8_reason_4 (by decide) ?_
    exact hR _ _ _ _ dX8_reason_6 ⟨Eq.symm ((ite_n c1 rfl)), rfl⟩

def f_X8_rinkOf (X : Nat → Int32) (A : Nat → Nat → Int32) (p1 : Int32) (p2 : Int32) : Int32 :=
  bd (f_X8_isRink X A p1) fun z1 =>
  if z1 = 0 then
    (-1)
  else
    if p2 = 0 then
      bd (f_X8_ofRink X A p1 p2) fun z4 =>
      z4
    else
      if p2 = 1 then
        bd (f_X8_ofRink X A p1 p2) fun z6 =>
        z6
      else
        if p2 = 2 then
          bd (f_X8_ofRink X A p1 p2) fun z8 =>
          z8
        else
          if p2 = 3 then
            bd (f_X8_ofRink X A p1 p2) fun z10 =>
            z10
          else
            if p2 = 4 then
              bd (f_X8_ofRink X A p1 p2) fun z12 =>
              z12
            else
              if p2 = 5 then
                bd (f_X8_ofRink X A p1 p2) fun z14 =>
                z14
              else
                if p2 = 6 then
                  bd (f_X8_countOn X A p1 1) fun z16 =>
                  z16
                else
                  if p2 = 7 then
                    bd (f_X8_countOn X A p1 2) fun z18 =>
                    z18
                  else
                    if p2 = 8 then
                      bd (f_X8_ofRink X A p1 9) fun z20 =>
                      z20
                    else
                      (-2)
abbrev rm_X8_rinkOf : Room := { frames := 2, cells := 0, slots := 0, locals := 46 }
set_option maxRecDepth 100000 in
set_option maxHeartbeats 4000000 in
theorem c_X8_rinkOf (l : Launch) (D : gD) (cy : Nat → ClassId) (ad : Nat → Nat) (X : Nat → Int32) (A : Nat → Nat → Int32) (p1 : Int32) (p2 : Int32) (hI : MI A) : CtI l D cy (MW cy ad) yX8_rinkOf cX8_rinkOf 3 (some .int) rm_X8_rinkOf [.ref (ad 0), .int p1, .int p2] (X, A) (fun rv u => rv = f_X8_rinkOf X A p1 p2 ∧ u = (X, A)) 0 0 := by
  refine m_entI cX8_rinkOf 3 (by decide) (Nat.le_of_ble_eq_true rfl) (fun J h hR => ?_)
  show J (X, A) (0, 0) [(0, .ref (ad 0)), (1, .int p1), (2, .int p2)] 0 []
  refine j_aload_n h dX8_rinkOf_0 rfl 0 rfl ?_
  refine j_iload_n h dX8_rinkOf_1 rfl 1 rfl ?_
  refine j_callI h (n := 1) (c_X8_isRink l D cy ad _ _ _) (xg_V (xr_20 2 rfl) (xr_20 3 rfl) (xr_20 4 rfl) (xr_1 5 rfl) (xr_20 5 rfl)) rfl rfl (by decide +kernel) ⟨Nat.le_of_ble_eq_true rfl, Nat.le_of_ble_eq_true rfl⟩ 0 rfl rfl rfl rfl rfl (Nat.le_of_ble_eq_true rfl) dX8_rinkOf_2 ⟨by decide, by decide⟩ (fun z1 u' hq => ?_)
  obtain ⟨hz1, rfl, bz1⟩ := hq
  refine j_if_ne h (tgt := 10) dX8_rinkOf_5 (by decide) (fun c2 => ?_) (fun c2 => ?_)
  · have vp1 : vp_in p1 4 := isRinkM_in hI hz1 c2
    have bp1 : p1.toNatClampNeg < 4 := vp_lt vp1
    have ep1 : p1 = nI p1.toNatClampNeg := vp_nI vp1 (by decide)
    refine j_iload_n h dX8_rinkOf_10 rfl 2 rfl ?_
    by_cases c3 : p2 = 0
    · refine j_tableIn h (tgt := 60) dX8_rinkOf_11 (by rw [c3]; decide) (by rw [c3]; decide) (by rw [c3]; rfl) (by decide) ?_
      refine j_aload_n h dX8_rinkOf_60 rfl 0 rfl ?_
      refine j_iload_n h dX8_rinkOf_61 rfl 1 rfl ?_
      refine j_iload_n h dX8_rinkOf_62 rfl 2 rfl ?_
      refine j_callI h (n := 2) (c_X8_ofRink l D cy ad _ _ _ _ (vp_of (j := p1.toNatClampNeg) ep1 (by omega) (by decide)) (vp_of (j := 0) c3 (by decide) (by decide))) (xg_V (xr_16 15 rfl) (xr_16 16 rfl) (xr_16 17 rfl) (xr_1 5 rfl) (xr_16 18 rfl)) rfl rfl (by decide +kernel) ⟨Nat.le_of_ble_eq_true rfl, Nat.le_of_ble_eq_true rfl⟩ 0 rfl rfl rfl rfl rfl (Nat.le_of_ble_eq_true rfl) dX8_rinkOf_63 ⟨by decide, by decide⟩ (fun z4 u' hq => ?_)
      obtain ⟨hz4, rfl⟩ := hq
      exact hR _ _ _ _ dX8_rinkOf_66 ⟨Eq.symm ((bd_eq hz1 (ite_n c2 (ite_p c3 (bd_eq hz4 rfl))))), rfl⟩
    by_cases c5 : p2 = 1
    · refine j_tableIn h (tgt := 60) dX8_rinkOf_11 (by rw [c5]; decide) (by rw [c5]; decide) (by rw [c5]; rfl) (by decide) ?_
      refine j_aload_n h dX8_rinkOf_60 rfl 0 rfl ?_
      refine j_iload_n h dX8_rinkOf_61 rfl 1 rfl ?_
      refine j_iload_n h dX8_rinkOf_62 rfl 2 rfl ?_
      refine j_callI h (n := 2) (c_X8_ofRink l D cy ad _ _ _ _ (vp_of (j := p1.toNatClampNeg) ep1 (by omega) (by decide)) (vp_of (j := 1) c5 (by decide) (by decide))) (xg_V (xr_16 15 rfl) (xr_16 16 rfl) (xr_16 17 rfl) (xr_1 5 rfl) (xr_16 18 rfl)) rfl rfl (by decide +kernel) ⟨Nat.le_of_ble_eq_true rfl, Nat.le_of_ble_eq_true rfl⟩ 0 rfl rfl rfl rfl rfl (Nat.le_of_ble_eq_true rfl) dX8_rinkOf_63 ⟨by decide, by decide⟩ (fun z6 u' hq => ?_)
      obtain ⟨hz6, rfl⟩ := hq
      exact hR _ _ _ _ dX8_rinkOf_66 ⟨Eq.symm ((bd_eq hz1 (ite_n c2 (ite_n c3 (ite_p c5 (bd_eq hz6 rfl)))))), rfl⟩
    by_cases c7 : p2 = 2
    · refine j_tableIn h (tgt := 60) dX8_rinkOf_11 (by rw [c7]; decide) (by rw [c7]; decide) (by rw [c7]; rfl) (by decide) ?_
      refine j_aload_n h dX8_rinkOf_60 rfl 0 rfl ?_
      refine j_iload_n h dX8_rinkOf_61 rfl 1 rfl ?_
      refine j_iload_n h dX8_rinkOf_62 rfl 2 rfl ?_
      refine j_callI h (n := 2) (c_X8_ofRink l D cy ad _ _ _ _ (vp_of (j := p1.toNatClampNeg) ep1 (by omega) (by decide)) (vp_of (j := 2) c7 (by decide) (by decide))) (xg_V (xr_16 15 rfl) (xr_16 16 rfl) (xr_16 17 rfl) (xr_1 5 rfl) (xr_16 18 rfl)) rfl rfl (by decide +kernel) ⟨Nat.le_of_ble_eq_true rfl, Nat.le_of_ble_eq_true rfl⟩ 0 rfl rfl rfl rfl rfl (Nat.le_of_ble_eq_true rfl) dX8_rinkOf_63 ⟨by decide, by decide⟩ (fun z8 u' hq => ?_)
      obtain ⟨hz8, rfl⟩ := hq
      exact hR _ _ _ _ dX8_rinkOf_66 ⟨Eq.symm ((bd_eq hz1 (ite_n c2 (ite_n c3 (ite_n c5 (ite_p c7 (bd_eq hz8 rfl))))))), rfl⟩
    by_cases c9 : p2 = 3
    · refine j_tableIn h (tgt := 60) dX8_rinkOf_11 (by rw [c9]; decide) (by rw [c9]; decide) (by rw [c9]; rfl) (by decide) ?_
      refine j_aload_n h dX8_rinkOf_60 rfl 0 rfl ?_
      refine j_iload_n h dX8_rinkOf_61 rfl 1 rfl ?_
      refine j_iload_n h dX8_rinkOf_62 rfl 2 rfl ?_
      refine j_callI h (n := 2) (c_X8_ofRink l D cy ad _ _ _ _ (vp_of (j := p1.toNatClampNeg) ep1 (by omega) (by decide)) (vp_of (j := 3) c9 (by decide) (by decide))) (xg_V (xr_16 15 rfl) (xr_16 16 rfl) (xr_16 17 rfl) (xr_1 5 rfl) (xr_16 18 rfl)) rfl rfl (by decide +kernel) ⟨Nat.le_of_ble_eq_true rfl, Nat.le_of_ble_eq_true rfl⟩ 0 rfl rfl rfl rfl rfl (Nat.le_of_ble_eq_true rfl) dX8_rinkOf_63 ⟨by decide, by decide⟩ (fun z10 u' hq => ?_)
      obtain ⟨hz10, rfl⟩ := hq
      exact hR _ _ _ _ dX8_rinkOf_66 ⟨Eq.symm ((bd_eq hz1 (ite_n c2 (ite_n c3 (ite_n c5 (ite_n c7 (ite_p c9 (bd_eq hz10 rfl)))))))), rfl⟩
    by_cases c11 : p2 = 4
    · refine j_tableIn h (tgt := 60) dX8_rinkOf_11 (by rw [c11]; decide) (by rw [c11]; decide) (by rw [c11]; rfl) (by decide) ?_
      refine j_aload_n h dX8_rinkOf_60 rfl 0 rfl ?_
      refine j_iload_n h dX8_rinkOf_61 rfl 1 rfl ?_
      refine j_iload_n h dX8_rinkOf_62 rfl 2 rfl ?_
      refine j_callI h (n := 2) (c_X8_ofRink l D cy ad _ _ _ _ (vp_of (j := p1.toNatClampNeg) ep1 (by omega) (by decide)) (vp_of (j := 4) c11 (by decide) (by decide))) (xg_V (xr_16 15 rfl) (xr_16 16 rfl) (xr_16 17 rfl) (xr_1 5 rfl) (xr_16 18 rfl)) rfl rfl (by decide +kernel) ⟨Nat.le_of_ble_eq_true rfl, Nat.le_of_ble_eq_true rfl⟩ 0 rfl rfl rfl rfl rfl (Nat.le_of_ble_eq_true rfl) dX8_rinkOf_63 ⟨by decide, by decide⟩ (fun z12 u' hq => ?_)
      obtain ⟨hz12, rfl⟩ := hq
      exact hR _ _ _ _ dX8_rinkOf_66 ⟨Eq.symm ((bd_eq hz1 (ite_n c2 (ite_n c3 (ite_n c5 (ite_n c7 (ite_n c9 (ite_p c11 (bd_eq hz12 rfl))))))))), rfl⟩
    by_cases c13 : p2 = 5
    · refine j_tableIn h (tgt := 60) dX8_rinkOf_11 (by rw [c13]; decide) (by rw [c13]; decide) (by rw [c13]; rfl) (by decide) ?_
      refine j_aload_n h dX8_rinkOf_60 rfl 0 rfl ?_
      refine j_iload_n h dX8_rinkOf_61 rfl 1 rfl ?_
      refine j_iload_n h dX8_rinkOf_62 rfl 2 rfl ?_
      refine j_callI h (n := 2) (c_X8_ofRink l D cy ad _ _ _ _ (vp_of (j := p1.toNatClampNeg) ep1 (by omega) (by decide)) (vp_of (j := 5) c13 (by decide) (by decide))) (xg_V (xr_16 15 rfl) (xr_16 16 rfl) (xr_16 17 rfl) (xr_1 5 rfl) (xr_16 18 rfl)) rfl rfl (by decide +kernel) ⟨Nat.le_of_ble_eq_true rfl, Nat.le_of_ble_eq_true rfl⟩ 0 rfl rfl rfl rfl rfl (Nat.le_of_ble_eq_true rfl) dX8_rinkOf_63 ⟨by decide, by decide⟩ (fun z14 u' hq => ?_)
      obtain ⟨hz14, rfl⟩ := hq
      exact hR _ _ _ _ dX8_rinkOf_66 ⟨Eq.symm ((bd_eq hz1 (ite_n c2 (ite_n c3 (ite_n c5 (ite_n c7 (ite_n c9 (ite_n c11 (ite_p c13 (bd_eq hz14 rfl)))))))))), rfl⟩
    by_cases c15 : p2 = 6
    · refine j_tableIn h (tgt := 67) dX8_rinkOf_11 (by rw [c15]; decide) (by rw [c15]; decide) (by rw [c15]; rfl) (by decide) ?_
      refine j_aload_n h dX8_rinkOf_67 rfl 0 rfl ?_
      refine j_iload_n h dX8_rinkOf_68 rfl 1 rfl ?_
      refine j_iconst h (v := 1) dX8_rinkOf_69 (by decide) ?_
      refine j_callI h (n := 2) (c_X8_countOn l D cy ad _ _ _ _ hI) (xg_V (xr_41 2 rfl) (xr_41 3 rfl) (xr_41 4 rfl) (xr_1 5 rfl) (xr_41 5 rfl)) rfl rfl (by decide +kernel) ⟨Nat.le_of_ble_eq_true rfl, Nat.le_of_ble_eq_true rfl⟩ 0 rfl rfl rfl rfl rfl (Nat.le_of_ble_eq_true rfl) dX8_rinkOf_70 ⟨by decide, by decide⟩ (fun z16 u' hq => ?_)
      obtain ⟨hz16, rfl⟩ := hq
      exact hR _ _ _ _ dX8_rinkOf_73 ⟨Eq.symm ((bd_eq hz1 (ite_n c2 (ite_n c3 (ite_n c5 (ite_n c7 (ite_n c9 (ite_n c11 (ite_n c13 (ite_p c15 (bd_eq hz16 rfl))))))))))), rfl⟩
    by_cases c17 : p2 = 7
    · refine j_tableIn h (tgt := 74) dX8_rinkOf_11 (by rw [c17]; decide) (by rw [c17]; decide) (by rw [c17]; rfl) (by decide) ?_
      refine j_aload_n h dX8_rinkOf_74 rfl 0 rfl ?_
      refine j_iload_n h dX8_rinkOf_75 rfl 1 rfl ?_
      refine j_iconst h (v := 2) dX8_rinkOf_76 (by decide) ?_
      refine j_callI h (n := 2) (c_X8_countOn l D cy ad _ _ _ _ hI) (xg_V (xr_41 2 rfl) (xr_41 3 rfl) (xr_41 4 rfl) (xr_1 5 rfl) (xr_41 5 rfl)) rfl rfl (by decide +kernel) ⟨Nat.le_of_ble_eq_true rfl, Nat.le_of_ble_eq_true rfl⟩ 0 rfl rfl rfl rfl rfl (Nat.le_of_ble_eq_true rfl) dX8_rinkOf_77 ⟨by decide, by decide⟩ (fun z18 u' hq => ?_)
      obtain ⟨hz18, rfl⟩ := hq
      exact hR _ _ _ _ dX8_rinkOf_80 ⟨Eq.symm ((bd_eq hz1 (ite_n c2 (ite_n c3 (ite_n c5 (ite_n c7 (ite_n c9 (ite_n c11 (ite_n c13 (ite_n c15 (ite_p c17 (bd_eq hz18 rfl)))))))))))), rfl⟩
    by_cases c19 : p2 = 8
    · refine j_tableIn h (tgt := 81) dX8_rinkOf_11 (by rw [c19]; decide) (by rw [c19]; decide) (by rw [c19]; rfl) (by decide) ?_
      refine j_aload_n h dX8_rinkOf_81 rfl 0 rfl ?_
      refine j_iload_n h dX8_rinkOf_82 rfl 1 rfl ?_
      refine j_bipush h (v := 9) dX8_rinkOf_83 (by decide) ?_
      refine j_callI h (n := 2) (c_X8_ofRink l D cy ad _ _ _ _ (vp_of (j := p1.toNatClampNeg) ep1 (by omega) (by decide)) (vp_in_nI (by decide) (by decide))) (xg_V (xr_16 15 rfl) (xr_16 16 rfl) (xr_16 17 rfl) (xr_1 5 rfl) (xr_16 18 rfl)) rfl rfl (by decide +kernel) ⟨Nat.le_of_ble_eq_true rfl, Nat.le_of_ble_eq_true rfl⟩ 0 rfl rfl rfl rfl rfl (Nat.le_of_ble_eq_true rfl) dX8_rinkOf_85 ⟨by decide, by decide⟩ (fun z20 u' hq => ?_)
      obtain ⟨hz20, rfl⟩ := hq
      exact hR _ _ _ _ dX8_rinkOf_88 ⟨Eq.symm ((bd_eq hz1 (ite_n c2 (ite_n c3 (ite_n c5 (ite_n c7 (ite_n c9 (ite_n c11 (ite_n c13 (ite_n c15 (ite_n c17 (ite_p c19 (bd_eq hz20 rfl))))))))))))), rfl⟩
    refine j_tableOut h (tgt := 89) dX8_rinkOf_11 (sw_out9 p2 c3 c5 c7 c9 c11 c13 c15 c17 c19) (by decide) ?_
    refine j_bipush h (v := (-2)) dX8_rinkOf_89 (by decide) ?_
    exact hR _ _ _ _ dX8_rinkOf_91 ⟨Eq.symm ((bd_eq hz1 (ite_n c2 (ite_n c3 (ite_n c5 (ite_n c7 (ite_n c9 (ite_n c11 (ite_n c13 (ite_n c15 (ite_n c17 (ite_n c19 rfl)))))))))))), rfl⟩
  · refine j_iconst h (v := (-1)) dX8_rinkOf_8 (by decide) ?_
    exact hR _ _ _ _ dX8_rinkOf_9 ⟨Eq.symm ((bd_eq hz1 (ite_p c2 rfl))), rfl⟩

def f_X8_woodOf (X : Nat → Int32) (A : Nat → Nat → Int32) (p1 : Int32) (p2 : Int32) : Int32 :=
  bd (f_X8_isWood X A p1) fun z1 =>
  if z1 = 0 then
    (-1)
  else
    bd (f_X8_ofWood X A p1 2) fun z3 =>
    if p2 = 0 then
      bd (f_X8_ofWood X A p1 p2) fun z5 =>
      z5
    else
      if p2 = 1 then
        bd (f_X8_ofWood X A p1 p2) fun z7 =>
        z7
      else
        if p2 = 2 then
          bd (f_X8_ofWood X A p1 p2) fun z9 =>
          z9
        else
          if p2 = 3 then
            if z3 = 0 then
              (-4)
            else
              bd (f_X8_ofWood X A p1 3) fun z12 =>
              z12
          else
            if p2 = 4 then
              if z3 = 1 then
                bd (f_X8_ofWood X A p1 4) fun z15 =>
                z15
              else
                (-4)
            else
              if p2 = 5 then
                if z3 = 1 then
                  bd (f_X8_ofWood X A p1 5) fun z18 =>
                  z18
                else
                  (-4)
              else
                if p2 = 6 then
                  if z3 = 1 then
                    bd (f_X8_distance X A p1) fun z21 =>
                    z21
                  else
                    (-4)
                else
                  if p2 = 7 then
                    bd (f_X8_ofWood X A p1 6) fun z23 =>
                    z23
                  else
                    (-2)
abbrev rm_X8_woodOf : Room := { frames := 3, cells := 0, slots := 0, locals := 68 }
set_option maxRecDepth 100000 in
set_option maxHeartbeats 4000000 in
theorem c_X8_woodOf (l : Launch) (D : gD) (cy : Nat → ClassId) (ad : Nat → Nat) (X : Nat → Int32) (A : Nat → Nat → Int32) (p1 : Int32) (p2 : Int32) (hI : MI A) : CtI l D cy (MW cy ad) yX8_woodOf cX8_woodOf 4 (some .int) rm_X8_woodOf [.ref (ad 0), .int p1, .int p2] (X, A) (fun rv u => rv = f_X8_woodOf X A p1 p2 ∧ u = (X, A)) 0 0 := by
  refine m_entI cX8_woodOf 4 (by decide) (Nat.le_of_ble_eq_true rfl) (fun J h hR => ?_)
  show J (X, A) (0, 0) [(0, .ref (ad 0)), (1, .int p1), (2, .int p2)] 0 []
  refine j_aload_n h dX8_woodOf_0 rfl 0 rfl ?_
  refine j_iload_n h dX8_woodOf_1 rfl 1 rfl ?_
  refine j_callI h (n := 1) (c_X8_isWood l D cy ad _ _ _) (xg_V (xr_23 20 rfl) (xr_23 21 rfl) (xr_23 22 rfl) (xr_1 5 rfl) (xr_23 23 rfl)) rfl rfl (by decide +kernel) ⟨Nat.le_of_ble_eq_true rfl, Nat.le_of_ble_eq_true rfl⟩ 0 rfl rfl rfl rfl rfl (Nat.le_of_ble_eq_true rfl) dX8_woodOf_2 ⟨by decide, by decide⟩ (fun z1 u' hq => ?_)
  obtain ⟨hz1, rfl, bz1⟩ := hq
  refine j_if_ne h (tgt := 10) dX8_woodOf_5 (by decide) (fun c2 => ?_) (fun c2 => ?_)
  · have vp1 : vp_in p1 16 := isWoodM_in hI hz1 c2
    have bp1 : p1.toNatClampNeg < 16 := vp_lt vp1
    have ep1 : p1 = nI p1.toNatClampNeg := vp_nI vp1 (by decide)
    refine j_aload_n h dX8_woodOf_10 rfl 0 rfl ?_
    refine j_iload_n h dX8_woodOf_11 rfl 1 rfl ?_
    refine j_iconst h (v := 2) dX8_woodOf_12 (by decide) ?_
    refine j_callI h (n := 2) (c_X8_ofWood l D cy ad _ _ _ _ (vp_of (j := p1.toNatClampNeg) ep1 (by omega) (by decide)) (vp_in_nI (by decide) (by decide))) (xg_V (xr_24 4 rfl) (xr_24 5 rfl) (xr_24 6 rfl) (xr_1 5 rfl) (xr_24 7 rfl)) rfl rfl (by decide +kernel) ⟨Nat.le_of_ble_eq_true rfl, Nat.le_of_ble_eq_true rfl⟩ 0 rfl rfl rfl rfl rfl (Nat.le_of_ble_eq_true rfl) dX8_woodOf_13 ⟨by decide, by decide⟩ (fun z3 u' hq => ?_)
    obtain ⟨hz3, rfl⟩ := hq
    refine j_istore_n h (lv' := [(3, _), (0, _), (1, _), (2, _)]) dX8_woodOf_16 rfl (by decide) rfl ?_
    refine j_iload_n h dX8_woodOf_17 rfl 3 rfl ?_
    by_cases c4 : p2 = 0
    · refine j_tableIn h (tgt := 64) dX8_woodOf_18 (by rw [c4]; decide) (by rw [c4]; decide) (by rw [c4]; rfl) (by decide) ?_
      refine j_aload_n h dX8_woodOf_64 rfl 1 rfl ?_
      refine j_iload_n h dX8_woodOf_65 rfl 2 rfl ?_
      refine j_iload_n h dX8_woodOf_66 rfl 3 rfl ?_
      refine j_callI h (n := 2) (c_X8_ofWood l D cy ad _ _ _ _ (vp_of (j := p1.toNatClampNeg) ep1 (by omega) (by decide)) (vp_of (j := 0) c4 (by decide) (by decide))) (xg_V (xr_24 4 rfl) (xr_24 5 rfl) (xr_24 6 rfl) (xr_1 5 rfl) (xr_24 7 rfl)) rfl rfl (by decide +kernel) ⟨Nat.le_of_ble_eq_true rfl, Nat.le_of_ble_eq_true rfl⟩ 0 rfl rfl rfl rfl rfl (Nat.le_of_ble_eq_true rfl) dX8_woodOf_67 ⟨by decide, by decide⟩ (fun z5 u' hq => ?_)
      obtain ⟨hz5, rfl⟩ := hq
      exact hR _ _ _ _ dX8_woodOf_70 ⟨Eq.symm ((bd_eq hz1 (ite_n c2 (bd_eq hz3 (ite_p c4 (bd_eq hz5 rfl)))))), rfl⟩
    by_cases c6 : p2 = 1
    · refine j_tableIn h (tgt := 64) dX8_woodOf_18 (by rw [c6]; decide) (by rw [c6]; decide) (by rw [c6]; rfl) (by decide) ?_
      refine j_aload_n h dX8_woodOf_64 rfl 1 rfl ?_
      refine j_iload_n h dX8_woodOf_65 rfl 2 rfl ?_
      refine j_iload_n h dX8_woodOf_66 rfl 3 rfl ?_
      refine j_callI h (n := 2) (c_X8_ofWood l D cy ad _ _ _ _ (vp_of (j := p1.toNatClampNeg) ep1 (by omega) (by decide)) (vp_of (j := 1) c6 (by decide) (by decide))) (xg_V (xr_24 4 rfl) (xr_24 5 rfl) (xr_24 6 rfl) (xr_1 5 rfl) (xr_24 7 rfl)) rfl rfl (by decide +kernel) ⟨Nat.le_of_ble_eq_true rfl, Nat.le_of_ble_eq_true rfl⟩ 0 rfl rfl rfl rfl rfl (Nat.le_of_ble_eq_true rfl) dX8_woodOf_67 ⟨by decide, by decide⟩ (fun z7 u' hq => ?_)
      obtain ⟨hz7, rfl⟩ := hq
      exact hR _ _ _ _ dX8_woodOf_70 ⟨Eq.symm ((bd_eq hz1 (ite_n c2 (bd_eq hz3 (ite_n c4 (ite_p c6 (bd_eq hz7 rfl))))))), rfl⟩
    by_cases c8 : p2 = 2
    · refine j_tableIn h (tgt := 64) dX8_woodOf_18 (by rw [c8]; decide) (by rw [c8]; decide) (by rw [c8]; rfl) (by decide) ?_
      refine j_aload_n h dX8_woodOf_64 rfl 1 rfl ?_
      refine j_iload_n h dX8_woodOf_65 rfl 2 rfl ?_
      refine j_iload_n h dX8_woodOf_66 rfl 3 rfl ?_
      refine j_callI h (n := 2) (c_X8_ofWood l D cy ad _ _ _ _ (vp_of (j := p1.toNatClampNeg) ep1 (by omega) (by decide)) (vp_of (j := 2) c8 (by decide) (by decide))) (xg_V (xr_24 4 rfl) (xr_24 5 rfl) (xr_24 6 rfl) (xr_1 5 rfl) (xr_24 7 rfl)) rfl rfl (by decide +kernel) ⟨Nat.le_of_ble_eq_true rfl, Nat.le_of_ble_eq_true rfl⟩ 0 rfl rfl rfl rfl rfl (Nat.le_of_ble_eq_true rfl) dX8_woodOf_67 ⟨by decide, by decide⟩ (fun z9 u' hq => ?_)
      obtain ⟨hz9, rfl⟩ := hq
      exact hR _ _ _ _ dX8_woodOf_70 ⟨Eq.symm ((bd_eq hz1 (ite_n c2 (bd_eq hz3 (ite_n c4 (ite_n c6 (ite_p c8 (bd_eq hz9 rfl)))))))), rfl⟩
    by_cases c10 : p2 = 3
    · refine j_tableIn h (tgt := 71) dX8_woodOf_18 (by rw [c10]; decide) (by rw [c10]; decide) (by rw [c10]; rfl) (by decide) ?_
      refine j_iload_n h dX8_woodOf_71 rfl 0 rfl ?_
      refine j_if_ne h (tgt := 80) dX8_woodOf_72 (by decide) (fun c11 => ?_) (fun c11 => ?_)
      · refine j_aload_n h dX8_woodOf_80 rfl 1 rfl ?_
        refine j_iload_n h dX8_woodOf_81 rfl 2 rfl ?_
        refine j_iconst h (v := 3) dX8_woodOf_82 (by decide) ?_
        refine j_callI h (n := 2) (c_X8_ofWood l D cy ad _ _ _ _ (vp_of (j := p1.toNatClampNeg) ep1 (by omega) (by decide)) (vp_in_nI (by decide) (by decide))) (xg_V (xr_24 4 rfl) (xr_24 5 rfl) (xr_24 6 rfl) (xr_1 5 rfl) (xr_24 7 rfl)) rfl rfl (by decide +kernel) ⟨Nat.le_of_ble_eq_true rfl, Nat.le_of_ble_eq_true rfl⟩ 0 rfl rfl rfl rfl rfl (Nat.le_of_ble_eq_true rfl) dX8_woodOf_83 ⟨by decide, by decide⟩ (fun z12 u' hq => ?_)
        obtain ⟨hz12, rfl⟩ := hq
        exact hR _ _ _ _ dX8_woodOf_86 ⟨Eq.symm ((bd_eq hz1 (ite_n c2 (bd_eq hz3 (ite_n c4 (ite_n c6 (ite_n c8 (ite_p c10 (ite_n c11 (bd_eq hz12 rfl)))))))))), rfl⟩
      · refine j_bipush h (v := (-4)) dX8_woodOf_75 (by decide) ?_
        refine j_goto h (tgt := 86) dX8_woodOf_77 (by decide) ?_
        exact hR _ _ _ _ dX8_woodOf_86 ⟨Eq.symm ((bd_eq hz1 (ite_n c2 (bd_eq hz3 (ite_n c4 (ite_n c6 (ite_n c8 (ite_p c10 (ite_p c11 rfl))))))))), rfl⟩
    by_cases c13 : p2 = 4
    · refine j_tableIn h (tgt := 87) dX8_woodOf_18 (by rw [c13]; decide) (by rw [c13]; decide) (by rw [c13]; rfl) (by decide) ?_
      refine j_iload_n h dX8_woodOf_87 rfl 0 rfl ?_
      refine j_iconst h (v := 1) dX8_woodOf_88 (by decide) ?_
      refine j_icmp_ne h (tgt := 101) dX8_woodOf_89 (by decide) (fun c14 => ?_) (fun c14 => ?_)
      · refine j_bipush h (v := (-4)) dX8_woodOf_101 (by decide) ?_
        exact hR _ _ _ _ dX8_woodOf_103 ⟨Eq.symm ((bd_eq hz1 (ite_n c2 (bd_eq hz3 (ite_n c4 (ite_n c6 (ite_n c8 (ite_n c10 (ite_p c13 (ite_n c14 rfl)))))))))), rfl⟩
      · refine j_aload_n h dX8_woodOf_92 rfl 1 rfl ?_
        refine j_iload_n h dX8_woodOf_93 rfl 2 rfl ?_
        refine j_iconst h (v := 4) dX8_woodOf_94 (by decide) ?_
        refine j_callI h (n := 2) (c_X8_ofWood l D cy ad _ _ _ _ (vp_of (j := p1.toNatClampNeg) ep1 (by omega) (by decide)) (vp_in_nI (by decide) (by decide))) (xg_V (xr_24 4 rfl) (xr_24 5 rfl) (xr_24 6 rfl) (xr_1 5 rfl) (xr_24 7 rfl)) rfl rfl (by decide +kernel) ⟨Nat.le_of_ble_eq_true rfl, Nat.le_of_ble_eq_true rfl⟩ 0 rfl rfl rfl rfl rfl (Nat.le_of_ble_eq_true rfl) dX8_woodOf_95 ⟨by decide, by decide⟩ (fun z15 u' hq => ?_)
        obtain ⟨hz15, rfl⟩ := hq
        refine j_goto h (tgt := 103) dX8_woodOf_98 (by decide) ?_
        exact hR _ _ _ _ dX8_woodOf_103 ⟨Eq.symm ((bd_eq hz1 (ite_n c2 (bd_eq hz3 (ite_n c4 (ite_n c6 (ite_n c8 (ite_n c10 (ite_p c13 (ite_p c14 (bd_eq hz15 rfl))))))))))), rfl⟩
    by_cases c16 : p2 = 5
    · refine j_tableIn h (tgt := 104) dX8_woodOf_18 (by rw [c16]; decide) (by rw [c16]; decide) (by rw [c16]; rfl) (by decide) ?_
      refine j_iload_n h dX8_woodOf_104 rfl 0 rfl ?_
      refine j_iconst h (v := 1) dX8_woodOf_105 (by decide) ?_
      refine j_icmp_ne h (tgt := 118) dX8_woodOf_106 (by decide) (fun c17 => ?_) (fun c17 => ?_)
      · refine j_bipush h (v := (-4)) dX8_woodOf_118 (by decide) ?_
        exact hR _ _ _ _ dX8_woodOf_120 ⟨Eq.symm ((bd_eq hz1 (ite_n c2 (bd_eq hz3 (ite_n c4 (ite_n c6 (ite_n c8 (ite_n c10 (ite_n c13 (ite_p c16 (ite_n c17 rfl))))))))))), rfl⟩
      · refine j_aload_n h dX8_woodOf_109 rfl 1 rfl ?_
        refine j_iload_n h dX8_woodOf_110 rfl 2 rfl ?_
        refine j_iconst h (v := 5) dX8_woodOf_111 (by decide) ?_
        refine j_callI h (n := 2) (c_X8_ofWood l D cy ad _ _ _ _ (vp_of (j := p1.toNatClampNeg) ep1 (by omega) (by decide)) (vp_in_nI (by decide) (by decide))) (xg_V (xr_24 4 rfl) (xr_24 5 rfl) (xr_24 6 rfl) (xr_1 5 rfl) (xr_24 7 rfl)) rfl rfl (by decide +kernel) ⟨Nat.le_of_ble_eq_true rfl, Nat.le_of_ble_eq_true rfl⟩ 0 rfl rfl rfl rfl rfl (Nat.le_of_ble_eq_true rfl) dX8_woodOf_112 ⟨by decide, by decide⟩ (fun z18 u' hq => ?_)
        obtain ⟨hz18, rfl⟩ := hq
        refine j_goto h (tgt := 120) dX8_woodOf_115 (by decide) ?_
        exact hR _ _ _ _ dX8_woodOf_120 ⟨Eq.symm ((bd_eq hz1 (ite_n c2 (bd_eq hz3 (ite_n c4 (ite_n c6 (ite_n c8 (ite_n c10 (ite_n c13 (ite_p c16 (ite_p c17 (bd_eq hz18 rfl)))))))))))), rfl⟩
    by_cases c19 : p2 = 6
    · refine j_tableIn h (tgt := 121) dX8_woodOf_18 (by rw [c19]; decide) (by rw [c19]; decide) (by rw [c19]; rfl) (by decide) ?_
      refine j_iload_n h dX8_woodOf_121 rfl 0 rfl ?_
      refine j_iconst h (v := 1) dX8_woodOf_122 (by decide) ?_
      refine j_icmp_ne h (tgt := 134) dX8_woodOf_123 (by decide) (fun c20 => ?_) (fun c20 => ?_)
      · refine j_bipush h (v := (-4)) dX8_woodOf_134 (by decide) ?_
        exact hR _ _ _ _ dX8_woodOf_136 ⟨Eq.symm ((bd_eq hz1 (ite_n c2 (bd_eq hz3 (ite_n c4 (ite_n c6 (ite_n c8 (ite_n c10 (ite_n c13 (ite_n c16 (ite_p c19 (ite_n c20 rfl)))))))))))), rfl⟩
      · refine j_aload_n h dX8_woodOf_126 rfl 1 rfl ?_
        refine j_iload_n h dX8_woodOf_127 rfl 2 rfl ?_
        refine j_callI h (n := 1) (c_X8_distance l D cy ad _ _ _ (vp_of (j := p1.toNatClampNeg) ep1 (by omega) (by decide)) hI) (xg_V (xr_24 20 rfl) (xr_24 21 rfl) (xr_24 22 rfl) (xr_1 5 rfl) (xr_24 23 rfl)) rfl rfl (by decide +kernel) ⟨Nat.le_of_ble_eq_true rfl, Nat.le_of_ble_eq_true rfl⟩ 0 rfl rfl rfl rfl rfl (Nat.le_of_ble_eq_true rfl) dX8_woodOf_128 ⟨by decide, by decide⟩ (fun z21 u' hq => ?_)
        obtain ⟨hz21, rfl⟩ := hq
        refine j_goto h (tgt := 136) dX8_woodOf_131 (by decide) ?_
        exact hR _ _ _ _ dX8_woodOf_136 ⟨Eq.symm ((bd_eq hz1 (ite_n c2 (bd_eq hz3 (ite_n c4 (ite_n c6 (ite_n c8 (ite_n c10 (ite_n c13 (ite_n c16 (ite_p c19 (ite_p c20 (bd_eq hz21 rfl))))))))))))), rfl⟩
    by_cases c22 : p2 = 7
    · refine j_tableIn h (tgt := 137) dX8_woodOf_18 (by rw [c22]; decide) (by rw [c22]; decide) (by rw [c22]; rfl) (by decide) ?_
      refine j_aload_n h dX8_woodOf_137 rfl 1 rfl ?_
      refine j_iload_n h dX8_woodOf_138 rfl 2 rfl ?_
      refine j_bipush h (v := 6) dX8_woodOf_139 (by decide) ?_
      refine j_callI h (n := 2) (c_X8_ofWood l D cy ad _ _ _ _ (vp_of (j := p1.toNatClampNeg) ep1 (by omega) (by decide)) (vp_in_nI (by decide) (by decide))) (xg_V (xr_24 4 rfl) (xr_24 5 rfl) (xr_24 6 rfl) (xr_1 5 rfl) (xr_24 7 rfl)) rfl rfl (by decide +kernel) ⟨Nat.le_of_ble_eq_true rfl, Nat.le_of_ble_eq_true rfl⟩ 0 rfl rfl rfl rfl rfl (Nat.le_of_ble_eq_true rfl) dX8_woodOf_141 ⟨by decide, by decide⟩ (fun z23 u' hq => ?_)
      obtain ⟨hz23, rfl⟩ := hq
      exact hR _ _ _ _ dX8_woodOf_144 ⟨Eq.symm ((bd_eq hz1 (ite_n c2 (bd_eq hz3 (ite_n c4 (ite_n c6 (ite_n c8 (ite_n c10 (ite_n c13 (ite_n c16 (ite_n c19 (ite_p c22 (bd_eq hz23 rfl))))))))))))), rfl⟩
    refine j_tableOut h (tgt := 145) dX8_woodOf_18 (sw_out8 p2 c4 c6 c8 c10 c13 c16 c19 c22) (by decide) ?_
    refine j_bipush h (v := (-2)) dX8_woodOf_145 (by decide) ?_
    exact hR _ _ _ _ dX8_woodOf_147 ⟨Eq.symm ((bd_eq hz1 (ite_n c2 (bd_eq hz3 (ite_n c4 (ite_n c6 (ite_n c8 (ite_n c10 (ite_n c13 (ite_n c16 (ite_n c19 (ite_n c22 rfl)))))))))))), rfl⟩
  · refine j_iconst h (v := (-1)) dX8_woodOf_8 (by decide) ?_
    exact hR _ _ _ _ dX8_woodOf_9 ⟨Eq.symm ((bd_eq hz1 (ite_p c2 rfl))), rfl⟩

def f_X8_clubOf (X : Nat → Int32) (A : Nat → Nat → Int32) (p1 : Int32) (p2 : Int32) : Int32 :=
  bd (f_X8_in X A p1 0 1) fun z1 =>
  if z1 = 0 then
    (-1)
  else
    if p2 = 0 then
      (A 0 ((9 + (4 * p1.toNatClampNeg)) + 0))
    else
      if p2 = 1 then
        (A 0 ((9 + (4 * p1.toNatClampNeg)) + 1))
      else
        if p2 = 2 then
          (A 0 ((9 + (4 * p1.toNatClampNeg)) + 2))
        else
          if p2 = 3 then
            (A 0 ((9 + (4 * p1.toNatClampNeg)) + 3))
          else
            if p2 = 4 then
              bd (f_X8_woodsOf X A p1 0) fun z8 =>
              z8
            else
              if p2 = 5 then
                bd (f_X8_woodsOf X A p1 1) fun z10 =>
                z10
              else
                (-2)
abbrev rm_X8_clubOf : Room := { frames := 2, cells := 0, slots := 0, locals := 46 }
set_option maxRecDepth 100000 in
set_option maxHeartbeats 4000000 in
theorem c_X8_clubOf (l : Launch) (D : gD) (cy : Nat → ClassId) (ad : Nat → Nat) (X : Nat → Int32) (A : Nat → Nat → Int32) (p1 : Int32) (p2 : Int32) (hI : MI A) : CtI l D cy (MW cy ad) yX8_clubOf cX8_clubOf 3 (some .int) rm_X8_clubOf [.ref (ad 0), .int p1, .int p2] (X, A) (fun rv u => rv = f_X8_clubOf X A p1 p2 ∧ u = (X, A)) 0 0 := by
  refine m_entI cX8_clubOf 3 (by decide) (Nat.le_of_ble_eq_true rfl) (fun J h hR => ?_)
  show J (X, A) (0, 0) [(0, .ref (ad 0)), (1, .int p1), (2, .int p2)] 0 []
  refine j_iload_n h dX8_clubOf_0 rfl 1 rfl ?_
  refine j_iconst h (v := 0) dX8_clubOf_1 (by decide) ?_
  refine j_iconst h (v := 1) dX8_clubOf_2 (by decide) ?_
  refine j_callS h (n := 3) (c_X8_in l D cy ad _ _ _ _ _) (xg_S (xr_12 13 rfl) (xr_12 14 rfl) (xr_1 5 rfl) (xr_12 15 rfl)) rfl rfl (by decide +kernel) ⟨Nat.le_of_ble_eq_true rfl, Nat.le_of_ble_eq_true rfl⟩  rfl rfl (Nat.le_of_ble_eq_true rfl) dX8_clubOf_3 ⟨by decide, by decide⟩ (fun z1 u' hq => ?_)
  obtain ⟨hz1, rfl, bz1⟩ := hq
  refine j_if_ne h (tgt := 11) dX8_clubOf_6 (by decide) (fun c2 => ?_) (fun c2 => ?_)
  · have vp1 : vp_in p1 2 := inM_2 hz1 c2
    have bp1 : p1.toNatClampNeg < 2 := vp_lt vp1
    have ep1 : p1 = nI p1.toNatClampNeg := vp_nI vp1 (by decide)
    refine j_iload_n h dX8_clubOf_11 rfl 2 rfl ?_
    by_cases c3 : p2 = 0
    · refine j_tableIn h (tgt := 52) dX8_clubOf_12 (by rw [c3]; decide) (by rw [c3]; decide) (by rw [c3]; rfl) (by decide) ?_
      refine j_aload_n h dX8_clubOf_52 rfl 0 rfl ?_
      refine j_get h inlX8 0 rfl rfl 0 (by decide) (xr_6 7 rfl) rfl (v := .ref (ad 1)) rfl dX8_clubOf_53 ?_
      refine j_bipush h (v := 9) dX8_clubOf_56 (by decide) ?_
      refine j_iconst h (v := 4) dX8_clubOf_58 (by decide) ?_
      refine j_iload_n h dX8_clubOf_59 rfl 1 rfl ?_
      refine j_imul h dX8_clubOf_60 ?_
      refine j_iadd h dX8_clubOf_61 ?_
      refine j_iload_n h dX8_clubOf_62 rfl 2 rfl ?_
      refine j_iadd h dX8_clubOf_63 ?_
      refine j_ialdE h 1 rfl ((9 + (4 * p1.toNatClampNeg)) + 0) (nx_add (nx_add rfl (nx_mul rfl ep1)) c3) (by omega) (by decide) dX8_clubOf_64 ?_
      exact hR _ _ _ _ dX8_clubOf_65 ⟨Eq.symm ((bd_eq hz1 (ite_n c2 (ite_p c3 rfl)))), rfl⟩
    by_cases c4 : p2 = 1
    · refine j_tableIn h (tgt := 52) dX8_clubOf_12 (by rw [c4]; decide) (by rw [c4]; decide) (by rw [c4]; rfl) (by decide) ?_
      refine j_aload_n h dX8_clubOf_52 rfl 0 rfl ?_
      refine j_get h inlX8 0 rfl rfl 0 (by decide) (xr_6 7 rfl) rfl (v := .ref (ad 1)) rfl dX8_clubOf_53 ?_
      refine j_bipush h (v := 9) dX8_clubOf_56 (by decide) ?_
      refine j_iconst h (v := 4) dX8_clubOf_58 (by decide) ?_
      refine j_iload_n h dX8_clubOf_59 rfl 1 rfl ?_
      refine j_imul h dX8_clubOf_60 ?_
      refine j_iadd h dX8_clubOf_61 ?_
      refine j_iload_n h dX8_clubOf_62 rfl 2 rfl ?_
      refine j_iadd h dX8_clubOf_63 ?_
      refine j_ialdE h 1 rfl ((9 + (4 * p1.toNatClampNeg)) + 1) (nx_add (nx_add rfl (nx_mul rfl ep1)) c4) (by omega) (by decide) dX8_clubOf_64 ?_
      exact hR _ _ _ _ dX8_clubOf_65 ⟨Eq.symm ((bd_eq hz1 (ite_n c2 (ite_n c3 (ite_p c4 rfl))))), rfl⟩
    by_cases c5 : p2 = 2
    · refine j_tableIn h (tgt := 52) dX8_clubOf_12 (by rw [c5]; decide) (by rw [c5]; decide) (by rw [c5]; rfl) (by decide) ?_
      refine j_aload_n h dX8_clubOf_52 rfl 0 rfl ?_
      refine j_get h inlX8 0 rfl rfl 0 (by decide) (xr_6 7 rfl) rfl (v := .ref (ad 1)) rfl dX8_clubOf_53 ?_
      refine j_bipush h (v := 9) dX8_clubOf_56 (by decide) ?_
      refine j_iconst h (v := 4) dX8_clubOf_58 (by decide) ?_
      refine j_iload_n h dX8_clubOf_59 rfl 1 rfl ?_
      refine j_imul h dX8_clubOf_60 ?_
      refine j_iadd h dX8_clubOf_61 ?_
      refine j_iload_n h dX8_clubOf_62 rfl 2 rfl ?_
      refine j_iadd h dX8_clubOf_63 ?_
      refine j_ialdE h 1 rfl ((9 + (4 * p1.toNatClampNeg)) + 2) (nx_add (nx_add rfl (nx_mul rfl ep1)) c5) (by omega) (by decide) dX8_clubOf_64 ?_
      exact hR _ _ _ _ dX8_clubOf_65 ⟨Eq.symm ((bd_eq hz1 (ite_n c2 (ite_n c3 (ite_n c4 (ite_p c5 rfl)))))), rfl⟩
    by_cases c6 : p2 = 3
    · refine j_tableIn h (tgt := 52) dX8_clubOf_12 (by rw [c6]; decide) (by rw [c6]; decide) (by rw [c6]; rfl) (by decide) ?_
      refine j_aload_n h dX8_clubOf_52 rfl 0 rfl ?_
      refine j_get h inlX8 0 rfl rfl 0 (by decide) (xr_6 7 rfl) rfl (v := .ref (ad 1)) rfl dX8_clubOf_53 ?_
      refine j_bipush h (v := 9) dX8_clubOf_56 (by decide) ?_
      refine j_iconst h (v := 4) dX8_clubOf_58 (by decide) ?_
      refine j_iload_n h dX8_clubOf_59 rfl 1 rfl ?_
      refine j_imul h dX8_clubOf_60 ?_
      refine j_iadd h dX8_clubOf_61 ?_
      refine j_iload_n h dX8_clubOf_62 rfl 2 rfl ?_
      refine j_iadd h dX8_clubOf_63 ?_
      refine j_ialdE h 1 rfl ((9 + (4 * p1.toNatClampNeg)) + 3) (nx_add (nx_add rfl (nx_mul rfl ep1)) c6) (by omega) (by decide) dX8_clubOf_64 ?_
      exact hR _ _ _ _ dX8_clubOf_65 ⟨Eq.symm ((bd_eq hz1 (ite_n c2 (ite_n c3 (ite_n c4 (ite_n c5 (ite_p c6 rfl))))))), rfl⟩
    by_cases c7 : p2 = 4
    · refine j_tableIn h (tgt := 66) dX8_clubOf_12 (by rw [c7]; decide) (by rw [c7]; decide) (by rw [c7]; rfl) (by decide) ?_
      refine j_aload_n h dX8_clubOf_66 rfl 0 rfl ?_
      refine j_iload_n h dX8_clubOf_67 rfl 1 rfl ?_
      refine j_iconst h (v := 0) dX8_clubOf_68 (by decide) ?_
      refine j_callI h (n := 2) (c_X8_woodsOf l D cy ad _ _ _ _ hI) (xg_V (xr_42 7 rfl) (xr_42 8 rfl) (xr_42 9 rfl) (xr_1 5 rfl) (xr_42 10 rfl)) rfl rfl (by decide +kernel) ⟨Nat.le_of_ble_eq_true rfl, Nat.le_of_ble_eq_true rfl⟩ 0 rfl rfl rfl rfl rfl (Nat.le_of_ble_eq_true rfl) dX8_clubOf_69 ⟨by decide, by decide⟩ (fun z8 u' hq => ?_)
      obtain ⟨hz8, rfl⟩ := hq
      exact hR _ _ _ _ dX8_clubOf_72 ⟨Eq.symm ((bd_eq hz1 (ite_n c2 (ite_n c3 (ite_n c4 (ite_n c5 (ite_n c6 (ite_p c7 (bd_eq hz8 rfl))))))))), rfl⟩
    by_cases c9 : p2 = 5
    · refine j_tableIn h (tgt := 73) dX8_clubOf_12 (by rw [c9]; decide) (by rw [c9]; decide) (by rw [c9]; rfl) (by decide) ?_
      refine j_aload_n h dX8_clubOf_73 rfl 0 rfl ?_
      refine j_iload_n h dX8_clubOf_74 rfl 1 rfl ?_
      refine j_iconst h (v := 1) dX8_clubOf_75 (by decide) ?_
      refine j_callI h (n := 2) (c_X8_woodsOf l D cy ad _ _ _ _ hI) (xg_V (xr_42 7 rfl) (xr_42 8 rfl) (xr_42 9 rfl) (xr_1 5 rfl) (xr_42 10 rfl)) rfl rfl (by decide +kernel) ⟨Nat.le_of_ble_eq_true rfl, Nat.le_of_ble_eq_true rfl⟩ 0 rfl rfl rfl rfl rfl (Nat.le_of_ble_eq_true rfl) dX8_clubOf_76 ⟨by decide, by decide⟩ (fun z10 u' hq => ?_)
      obtain ⟨hz10, rfl⟩ := hq
      exact hR _ _ _ _ dX8_clubOf_79 ⟨Eq.symm ((bd_eq hz1 (ite_n c2 (ite_n c3 (ite_n c4 (ite_n c5 (ite_n c6 (ite_n c7 (ite_p c9 (bd_eq hz10 rfl)))))))))), rfl⟩
    refine j_tableOut h (tgt := 80) dX8_clubOf_12 (sw_out6 p2 c3 c4 c5 c6 c7 c9) (by decide) ?_
    refine j_bipush h (v := (-2)) dX8_clubOf_80 (by decide) ?_
    exact hR _ _ _ _ dX8_clubOf_82 ⟨Eq.symm ((bd_eq hz1 (ite_n c2 (ite_n c3 (ite_n c4 (ite_n c5 (ite_n c6 (ite_n c7 (ite_n c9 rfl))))))))), rfl⟩
  · refine j_iconst h (v := (-1)) dX8_clubOf_9 (by decide) ?_
    exact hR _ _ _ _ dX8_clubOf_10 ⟨Eq.symm ((bd_eq hz1 (ite_p c2 rfl))), rfl⟩

def f_X8_account_l85 (X : Nat → Int32) (A : Nat → Nat → Int32) (p1 : Int32) : Nat → Nat → Int32 → Int32
  | 0, _, n0 => n0
  | n + 1, k, n0 =>
    if (A 0 3) ≤ (nI k) then
      n0
    else
      bd (f_X8_ofRink X A (nI k) 4) fun z8 =>
      if z8 ≤ 0 then
        f_X8_account_l85 X A p1 n (k + 1) n0
      else
        f_X8_account_l85 X A p1 n (k + 1) (n0 + 1)
def f_X8_account (X : Nat → Int32) (A : Nat → Nat → Int32) (p1 : Int32) : Int32 :=
  if p1 = 0 then
    (A 0 0)
  else
    if p1 = 1 then
      (A 0 1)
    else
      if p1 = 2 then
        (A 0 2)
      else
        if p1 = 3 then
          (A 0 3)
        else
          if p1 = 4 then
            (A 0 4)
          else
            if p1 = 5 then
              bd (f_X8_account_l85 X A p1 5 0 0) fun z10 =>
              z10
            else
              if p1 = 6 then
                bd (f_X8_closed X A) fun z12 =>
                z12
              else
                if p1 = 7 then
                  (A 0 5)
                else
                  if p1 = 8 then
                    (A 0 6)
                  else
                    if p1 = 9 then
                      (A 0 7)
                    else
                      if p1 = 10 then
                        bd (f_X8_allCasts X A) fun z17 =>
                        z17
                      else
                        if p1 = 11 then
                          (A 0 8)
                        else
                          if p1 = 12 then
                            bd (f_X8_woodsOf X A 0 1) fun z20 =>
                            bd (f_X8_woodsOf X A 1 1) fun z21 =>
                            (z20 + z21)
                          else
                            if p1 = 13 then
                              (X 9)
                            else
                              if p1 = 14 then
                                (X 3)
                              else
                                (-2)
abbrev rm_X8_account : Room := { frames := 2, cells := 0, slots := 0, locals := 46 }
set_option maxRecDepth 100000 in
set_option maxHeartbeats 4000000 in
theorem c_X8_account (l : Launch) (D : gD) (cy : Nat → ClassId) (ad : Nat → Nat) (X : Nat → Int32) (A : Nat → Nat → Int32) (p1 : Int32) (hI : MI A) : CtI l D cy (MW cy ad) yX8_account cX8_account 4 (some .int) rm_X8_account [.ref (ad 0), .int p1] (X, A) (fun rv u => rv = f_X8_account X A p1 ∧ u = (X, A)) 0 0 := by
  refine m_entI cX8_account 4 (by decide) (Nat.le_of_ble_eq_true rfl) (fun J h hR => ?_)
  show J (X, A) (0, 0) [(0, .ref (ad 0)), (1, .int p1)] 0 []
  refine j_iconst h (v := 0) dX8_account_0 (by decide) ?_
  refine j_istore_n h (lv' := [(2, _), (0, _), (1, _)]) dX8_account_1 rfl (by decide) rfl ?_
  refine j_iload_n h dX8_account_2 rfl 2 rfl ?_
  by_cases c1 : p1 = 0
  · refine j_tableIn h (tgt := 76) dX8_account_3 (by rw [c1]; decide) (by rw [c1]; decide) (by rw [c1]; rfl) (by decide) ?_
    refine j_aload_n h dX8_account_76 rfl 1 rfl ?_
    refine j_get h inlX8 0 rfl rfl 0 (by decide) (xr_6 7 rfl) rfl (v := .ref (ad 1)) rfl dX8_account_77 ?_
    refine j_iload_n h dX8_account_80 rfl 2 rfl ?_
    refine j_ialdE h 1 rfl 0 c1 (by decide) (by decide) dX8_account_81 ?_
    exact hR _ _ _ _ dX8_account_82 ⟨Eq.symm ((ite_p c1 rfl)), rfl⟩
  by_cases c2 : p1 = 1
  · refine j_tableIn h (tgt := 76) dX8_account_3 (by rw [c2]; decide) (by rw [c2]; decide) (by rw [c2]; rfl) (by decide) ?_
    refine j_aload_n h dX8_account_76 rfl 1 rfl ?_
    refine j_get h inlX8 0 rfl rfl 0 (by decide) (xr_6 7 rfl) rfl (v := .ref (ad 1)) rfl dX8_account_77 ?_
    refine j_iload_n h dX8_account_80 rfl 2 rfl ?_
    refine j_ialdE h 1 rfl 1 c2 (by decide) (by decide) dX8_account_81 ?_
    exact hR _ _ _ _ dX8_account_82 ⟨Eq.symm ((ite_n c1 (ite_p c2 rfl))), rfl⟩
  by_cases c3 : p1 = 2
  · refine j_tableIn h (tgt := 76) dX8_account_3 (by rw [c3]; decide) (by rw [c3]; decide) (by rw [c3]; rfl) (by decide) ?_
    refine j_aload_n h dX8_account_76 rfl 1 rfl ?_
    refine j_get h inlX8 0 rfl rfl 0 (by decide) (xr_6 7 rfl) rfl (v := .ref (ad 1)) rfl dX8_account_77 ?_
    refine j_iload_n h dX8_account_80 rfl 2 rfl ?_
    refine j_ialdE h 1 rfl 2 c3 (by decide) (by decide) dX8_account_81 ?_
    exact hR _ _ _ _ dX8_account_82 ⟨Eq.symm ((ite_n c1 (ite_n c2 (ite_p c3 rfl)))), rfl⟩
  by_cases c4 : p1 = 3
  · refine j_tableIn h (tgt := 76) dX8_account_3 (by rw [c4]; decide) (by rw [c4]; decide) (by rw [c4]; rfl) (by decide) ?_
    refine j_aload_n h dX8_account_76 rfl 1 rfl ?_
    refine j_get h inlX8 0 rfl rfl 0 (by decide) (xr_6 7 rfl) rfl (v := .ref (ad 1)) rfl dX8_account_77 ?_
    refine j_iload_n h dX8_account_80 rfl 2 rfl ?_
    refine j_ialdE h 1 rfl 3 c4 (by decide) (by decide) dX8_account_81 ?_
    exact hR _ _ _ _ dX8_account_82 ⟨Eq.symm ((ite_n c1 (ite_n c2 (ite_n c3 (ite_p c4 rfl))))), rfl⟩
  by_cases c5 : p1 = 4
  · refine j_tableIn h (tgt := 76) dX8_account_3 (by rw [c5]; decide) (by rw [c5]; decide) (by rw [c5]; rfl) (by decide) ?_
    refine j_aload_n h dX8_account_76 rfl 1 rfl ?_
    refine j_get h inlX8 0 rfl rfl 0 (by decide) (xr_6 7 rfl) rfl (v := .ref (ad 1)) rfl dX8_account_77 ?_
    refine j_iload_n h dX8_account_80 rfl 2 rfl ?_
    refine j_ialdE h 1 rfl 4 c5 (by decide) (by decide) dX8_account_81 ?_
    exact hR _ _ _ _ dX8_account_82 ⟨Eq.symm ((ite_n c1 (ite_n c2 (ite_n c3 (ite_n c4 (ite_p c5 rfl)))))), rfl⟩
  by_cases c6 : p1 = 5
  · refine j_tableIn h (tgt := 83) dX8_account_3 (by rw [c6]; decide) (by rw [c6]; decide) (by rw [c6]; rfl) (by decide) ?_
    refine j_iconst h (v := 0) dX8_account_83 (by decide) ?_
    refine j_istore_n h (lv' := [(3, _), (2, _), (0, _), (1, _)]) dX8_account_84 rfl (by decide) rfl ?_
    have lp85 : ∀ (n k : Nat) (n0 : Int32), n + k = 5 → k ≤ 4 → (∀ z : Int32, z = f_X8_account_l85 X A p1 n k n0 → J (X, A) (0, 0) [(0, .ref (ad 0)), (1, .int p1), (2, .int z)] 113 []) → J (X, A) (0, 0) [(0, .ref (ad 0)), (1, .int p1), (2, .int n0), (3, .int (nI k))] 85 [] := by
      intro n
      induction n with
      | zero => intro k n0 hn hk hf; omega
      | succ n ih =>
        intro k n0 hn hk hf
        refine j_iload_n h dX8_account_85 rfl 3 rfl ?_
        refine j_aload_n h dX8_account_86 rfl 0 rfl ?_
        refine j_get h inlX8 0 rfl rfl 0 (by decide) (xr_6 7 rfl) rfl (v := .ref (ad 1)) rfl dX8_account_87 ?_
        refine j_iconst h (v := 3) dX8_account_90 (by decide) ?_
        refine j_ialdE h 1 rfl 3 rfl (by decide) (by decide) dX8_account_91 ?_
        refine j_icmp_ge h (tgt := 113) dX8_account_92 (by decide) (fun c7 => ?_) (fun c7 => ?_)
        · refine j_sub h [0, 1, 2] rfl ?_
          exact hf _ (Eq.symm ((ite_p c7 rfl)))
        · have hk1 : k < 4 := cnt_lt (by decide) hk hI.r c7
          refine j_aload_n h dX8_account_95 rfl 0 rfl ?_
          refine j_iload_n h dX8_account_96 rfl 3 rfl ?_
          refine j_iconst h (v := 4) dX8_account_97 (by decide) ?_
          refine j_callI h (n := 2) (c_X8_ofRink l D cy ad _ _ _ _ (vp_in_nI (by omega) (by decide)) (vp_in_nI (by decide) (by decide))) (xg_V (xr_16 15 rfl) (xr_16 16 rfl) (xr_16 17 rfl) (xr_1 5 rfl) (xr_16 18 rfl)) rfl rfl (by decide +kernel) ⟨Nat.le_of_ble_eq_true rfl, Nat.le_of_ble_eq_true rfl⟩ 0 rfl rfl rfl rfl rfl (Nat.le_of_ble_eq_true rfl) dX8_account_98 ⟨by decide, by decide⟩ (fun z8 u' hq => ?_)
          obtain ⟨hz8, rfl⟩ := hq
          refine j_if_le h (tgt := 107) dX8_account_101 (by decide) (fun c9 => ?_) (fun c9 => ?_)
          · refine j_iinc h (v := nI (k + 1)) (lv' := [(3, _), (0, _), (1, _), (2, _)]) dX8_account_107 (k := 3) rfl (nI_1 k) (by decide) rfl ?_
            refine j_goto h (tgt := 85) dX8_account_110 (by decide) ?_
            refine j_sub h [1, 2, 3, 0] rfl ?_
            exact ih (k + 1) _ (by omega) (by omega) (fun z hz => hf z (hz.trans (Eq.symm ((ite_n c7 (bd_eq hz8 (ite_p c9 rfl)))))))
          · refine j_iinc h (v := n0 + 1) (lv' := [(2, _), (0, _), (1, _), (3, _)]) dX8_account_104 (k := 2) rfl rfl (by decide) rfl ?_
            refine j_iinc h (v := nI (k + 1)) (lv' := [(3, _), (2, _), (0, _), (1, _)]) dX8_account_107 (k := 3) rfl (nI_1 k) (by decide) rfl ?_
            refine j_goto h (tgt := 85) dX8_account_110 (by decide) ?_
            refine j_sub h [2, 3, 1, 0] rfl ?_
            exact ih (k + 1) _ (by omega) (by omega) (fun z hz => hf z (hz.trans (Eq.symm ((ite_n c7 (bd_eq hz8 (ite_n c9 rfl)))))))
    refine j_sub h [2, 3, 1, 0] rfl ?_
    refine lp85 5 0 _ (by omega) (by omega) (fun z10 hz10 => ?_)
    refine j_iload_n h dX8_account_113 rfl 2 rfl ?_
    exact hR _ _ _ _ dX8_account_114 ⟨Eq.symm ((ite_n c1 (ite_n c2 (ite_n c3 (ite_n c4 (ite_n c5 (ite_p c6 (bd_eq hz10 rfl)))))))), rfl⟩
  by_cases c11 : p1 = 6
  · refine j_tableIn h (tgt := 115) dX8_account_3 (by rw [c11]; decide) (by rw [c11]; decide) (by rw [c11]; rfl) (by decide) ?_
    refine j_aload_n h dX8_account_115 rfl 1 rfl ?_
    refine j_callI h (n := 0) (c_X8_closed l D cy ad _ _ hI) (xg_V (xr_52 7 rfl) (xr_52 8 rfl) (xr_52 9 rfl) (xr_1 5 rfl) (xr_52 10 rfl)) rfl rfl (by decide +kernel) ⟨Nat.le_of_ble_eq_true rfl, Nat.le_of_ble_eq_true rfl⟩ 0 rfl rfl rfl rfl rfl (Nat.le_of_ble_eq_true rfl) dX8_account_116 ⟨by decide, by decide⟩ (fun z12 u' hq => ?_)
    obtain ⟨hz12, rfl⟩ := hq
    exact hR _ _ _ _ dX8_account_119 ⟨Eq.symm ((ite_n c1 (ite_n c2 (ite_n c3 (ite_n c4 (ite_n c5 (ite_n c6 (ite_p c11 (bd_eq hz12 rfl))))))))), rfl⟩
  by_cases c13 : p1 = 7
  · refine j_tableIn h (tgt := 120) dX8_account_3 (by rw [c13]; decide) (by rw [c13]; decide) (by rw [c13]; rfl) (by decide) ?_
    refine j_aload_n h dX8_account_120 rfl 1 rfl ?_
    refine j_get h inlX8 0 rfl rfl 0 (by decide) (xr_6 7 rfl) rfl (v := .ref (ad 1)) rfl dX8_account_121 ?_
    refine j_iconst h (v := 5) dX8_account_124 (by decide) ?_
    refine j_ialdE h 1 rfl 5 rfl (by decide) (by decide) dX8_account_125 ?_
    exact hR _ _ _ _ dX8_account_126 ⟨Eq.symm ((ite_n c1 (ite_n c2 (ite_n c3 (ite_n c4 (ite_n c5 (ite_n c6 (ite_n c11 (ite_p c13 rfl))))))))), rfl⟩
  by_cases c14 : p1 = 8
  · refine j_tableIn h (tgt := 127) dX8_account_3 (by rw [c14]; decide) (by rw [c14]; decide) (by rw [c14]; rfl) (by decide) ?_
    refine j_aload_n h dX8_account_127 rfl 1 rfl ?_
    refine j_get h inlX8 0 rfl rfl 0 (by decide) (xr_6 7 rfl) rfl (v := .ref (ad 1)) rfl dX8_account_128 ?_
    refine j_bipush h (v := 6) dX8_account_131 (by decide) ?_
    refine j_ialdE h 1 rfl 6 rfl (by decide) (by decide) dX8_account_133 ?_
    exact hR _ _ _ _ dX8_account_134 ⟨Eq.symm ((ite_n c1 (ite_n c2 (ite_n c3 (ite_n c4 (ite_n c5 (ite_n c6 (ite_n c11 (ite_n c13 (ite_p c14 rfl)))))))))), rfl⟩
  by_cases c15 : p1 = 9
  · refine j_tableIn h (tgt := 135) dX8_account_3 (by rw [c15]; decide) (by rw [c15]; decide) (by rw [c15]; rfl) (by decide) ?_
    refine j_aload_n h dX8_account_135 rfl 1 rfl ?_
    refine j_get h inlX8 0 rfl rfl 0 (by decide) (xr_6 7 rfl) rfl (v := .ref (ad 1)) rfl dX8_account_136 ?_
    refine j_bipush h (v := 7) dX8_account_139 (by decide) ?_
    refine j_ialdE h 1 rfl 7 rfl (by decide) (by decide) dX8_account_141 ?_
    exact hR _ _ _ _ dX8_account_142 ⟨Eq.symm ((ite_n c1 (ite_n c2 (ite_n c3 (ite_n c4 (ite_n c5 (ite_n c6 (ite_n c11 (ite_n c13 (ite_n c14 (ite_p c15 rfl))))))))))), rfl⟩
  by_cases c16 : p1 = 10
  · refine j_tableIn h (tgt := 143) dX8_account_3 (by rw [c16]; decide) (by rw [c16]; decide) (by rw [c16]; rfl) (by decide) ?_
    refine j_aload_n h dX8_account_143 rfl 1 rfl ?_
    refine j_callI h (n := 0) (c_X8_allCasts l D cy ad _ _ hI) (xg_V (xr_32 15 rfl) (xr_32 16 rfl) (xr_32 17 rfl) (xr_1 5 rfl) (xr_32 18 rfl)) rfl rfl (by decide +kernel) ⟨Nat.le_of_ble_eq_true rfl, Nat.le_of_ble_eq_true rfl⟩ 0 rfl rfl rfl rfl rfl (Nat.le_of_ble_eq_true rfl) dX8_account_144 ⟨by decide, by decide⟩ (fun z17 u' hq => ?_)
    obtain ⟨hz17, rfl⟩ := hq
    exact hR _ _ _ _ dX8_account_147 ⟨Eq.symm ((ite_n c1 (ite_n c2 (ite_n c3 (ite_n c4 (ite_n c5 (ite_n c6 (ite_n c11 (ite_n c13 (ite_n c14 (ite_n c15 (ite_p c16 (bd_eq hz17 rfl))))))))))))), rfl⟩
  by_cases c18 : p1 = 11
  · refine j_tableIn h (tgt := 148) dX8_account_3 (by rw [c18]; decide) (by rw [c18]; decide) (by rw [c18]; rfl) (by decide) ?_
    refine j_aload_n h dX8_account_148 rfl 1 rfl ?_
    refine j_get h inlX8 0 rfl rfl 0 (by decide) (xr_6 7 rfl) rfl (v := .ref (ad 1)) rfl dX8_account_149 ?_
    refine j_bipush h (v := 8) dX8_account_152 (by decide) ?_
    refine j_ialdE h 1 rfl 8 rfl (by decide) (by decide) dX8_account_154 ?_
    exact hR _ _ _ _ dX8_account_155 ⟨Eq.symm ((ite_n c1 (ite_n c2 (ite_n c3 (ite_n c4 (ite_n c5 (ite_n c6 (ite_n c11 (ite_n c13 (ite_n c14 (ite_n c15 (ite_n c16 (ite_p c18 rfl))))))))))))), rfl⟩
  by_cases c19 : p1 = 12
  · refine j_tableIn h (tgt := 156) dX8_account_3 (by rw [c19]; decide) (by rw [c19]; decide) (by rw [c19]; rfl) (by decide) ?_
    refine j_aload_n h dX8_account_156 rfl 1 rfl ?_
    refine j_iconst h (v := 0) dX8_account_157 (by decide) ?_
    refine j_iconst h (v := 1) dX8_account_158 (by decide) ?_
    refine j_callI h (n := 2) (c_X8_woodsOf l D cy ad _ _ _ _ hI) (xg_V (xr_42 7 rfl) (xr_42 8 rfl) (xr_42 9 rfl) (xr_1 5 rfl) (xr_42 10 rfl)) rfl rfl (by decide +kernel) ⟨Nat.le_of_ble_eq_true rfl, Nat.le_of_ble_eq_true rfl⟩ 0 rfl rfl rfl rfl rfl (Nat.le_of_ble_eq_true rfl) dX8_account_159 ⟨by decide, by decide⟩ (fun z20 u' hq => ?_)
    obtain ⟨hz20, rfl⟩ := hq
    refine j_aload_n h dX8_account_162 rfl 1 rfl ?_
    refine j_iconst h (v := 1) dX8_account_163 (by decide) ?_
    refine j_iconst h (v := 1) dX8_account_164 (by decide) ?_
    refine j_callI h (n := 2) (c_X8_woodsOf l D cy ad _ _ _ _ hI) (xg_V (xr_42 7 rfl) (xr_42 8 rfl) (xr_42 9 rfl) (xr_1 5 rfl) (xr_42 10 rfl)) rfl rfl (by decide +kernel) ⟨Nat.le_of_ble_eq_true rfl, Nat.le_of_ble_eq_true rfl⟩ 0 rfl rfl rfl rfl rfl (Nat.le_of_ble_eq_true rfl) dX8_account_165 ⟨by decide, by decide⟩ (fun z21 u' hq => ?_)
    obtain ⟨hz21, rfl⟩ := hq
    refine j_iadd h dX8_account_168 ?_
    exact hR _ _ _ _ dX8_account_169 ⟨Eq.symm ((ite_n c1 (ite_n c2 (ite_n c3 (ite_n c4 (ite_n c5 (ite_n c6 (ite_n c11 (ite_n c13 (ite_n c14 (ite_n c15 (ite_n c16 (ite_n c18 (ite_p c19 (bd_eq hz20 (bd_eq hz21 rfl)))))))))))))))), rfl⟩
  by_cases c22 : p1 = 13
  · refine j_tableIn h (tgt := 170) dX8_account_3 (by rw [c22]; decide) (by rw [c22]; decide) (by rw [c22]; rfl) (by decide) ?_
    refine j_aload_n h dX8_account_170 rfl 1 rfl ?_
    refine j_get h inlX8 0 rfl rfl 9 (by decide) (xr_12 12 rfl) rfl (v := .int (X 9)) rfl dX8_account_171 ?_
    exact hR _ _ _ _ dX8_account_174 ⟨Eq.symm ((ite_n c1 (ite_n c2 (ite_n c3 (ite_n c4 (ite_n c5 (ite_n c6 (ite_n c11 (ite_n c13 (ite_n c14 (ite_n c15 (ite_n c16 (ite_n c18 (ite_n c19 (ite_p c22 rfl))))))))))))))), rfl⟩
  by_cases c23 : p1 = 14
  · refine j_tableIn h (tgt := 175) dX8_account_3 (by rw [c23]; decide) (by rw [c23]; decide) (by rw [c23]; rfl) (by decide) ?_
    refine j_aload_n h dX8_account_175 rfl 1 rfl ?_
    refine j_get h inlX8 0 rfl rfl 3 (by decide) (xr_7 12 rfl) rfl (v := .int (X 3)) rfl dX8_account_176 ?_
    exact hR _ _ _ _ dX8_account_179 ⟨Eq.symm ((ite_n c1 (ite_n c2 (ite_n c3 (ite_n c4 (ite_n c5 (ite_n c6 (ite_n c11 (ite_n c13 (ite_n c14 (ite_n c15 (ite_n c16 (ite_n c18 (ite_n c19 (ite_n c22 (ite_p c23 rfl)))))))))))))))), rfl⟩
  refine j_tableOut h (tgt := 180) dX8_account_3 (sw_out15 p1 c1 c2 c3 c4 c5 c6 c11 c13 c14 c15 c16 c18 c19 c22 c23) (by decide) ?_
  refine j_bipush h (v := (-2)) dX8_account_180 (by decide) ?_
  exact hR _ _ _ _ dX8_account_182 ⟨Eq.symm ((ite_n c1 (ite_n c2 (ite_n c3 (ite_n c4 (ite_n c5 (ite_n c6 (ite_n c11 (ite_n c13 (ite_n c14 (ite_n c15 (ite_n c16 (ite_n c18 (ite_n c19 (ite_n c22 (ite_n c23 rfl)))))))))))))))), rfl⟩

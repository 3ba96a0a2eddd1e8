def f_X7_rinkOf (M : gM) (X : Nat → Int32) (A : Nat → Nat → Int32) (p1 : Int32) (p2 : Int32) : Int32 :=
  bd (f_X1_isRink M p1) fun z1 =>
  if z1 = 0 then
    (-1)
  else
    if p2 = 0 then
      (M.2.1 p1.toNatClampNeg 0)
    else
      if p2 = 1 then
        (M.2.1 p1.toNatClampNeg 1)
      else
        if p2 = 2 then
          (M.2.1 p1.toNatClampNeg 2)
        else
          if p2 = 3 then
            (M.2.1 p1.toNatClampNeg 3)
          else
            if p2 = 4 then
              (M.2.1 p1.toNatClampNeg 4)
            else
              if p2 = 5 then
                (M.2.1 p1.toNatClampNeg 6)
              else
                if p2 = 6 then
                  bd (f_X1_woodsOn M p1 1) fun z10 =>
                  z10
                else
                  if p2 = 7 then
                    bd (f_X1_woodsOn M p1 2) fun z12 =>
                    z12
                  else
                    if p2 = 8 then
                      (M.2.1 p1.toNatClampNeg 7)
                    else
                      (-2)
abbrev rm_X7_rinkOf : Room := { frames := 1, cells := 0, slots := 0, locals := 24 }
set_option maxRecDepth 100000 in
set_option maxHeartbeats 4000000 in
theorem c_X7_rinkOf (l : Launch) (D : gD) (cy : Nat → ClassId) (L : Nat → Nat → Nat) (G : Nat → gM) (X : Nat → Int32) (A : Nat → Nat → Int32) (b : cB) (M : gM) (p1 : Int32) (p2 : Int32) (hG : GI M) : CtI l D cy (CW cy L) yX7_rinkOf cX7_rinkOf 4 (some .int) rm_X7_rinkOf [.ref (L 11 0), .int p1, .int p2] ((va_up G 0 M, X, A), b) (fun rv u => rv = f_X7_rinkOf M X A p1 p2 ∧ u = ((va_up G 0 M, X, A), b)) 0 0 := by
  refine m_entI cX7_rinkOf 4 (by decide) (Nat.le_of_ble_eq_true rfl) (fun J h hR => ?_)
  show J ((va_up G 0 M, X, A), b) (0, 0) [(0, .ref (L 11 0)), (1, .int p1), (2, .int p2)] 0 []
  refine j_aload_n h dX7_rinkOf_0 rfl 0 rfl ?_
  refine j_get h inlX7 (330 + 0) (ml_get 0) rfl 0 (by decide) (xr_1 19 rfl) rfl (v := .ref (L 0 0)) rfl dX7_rinkOf_1 ?_
  refine j_iload_n h dX7_rinkOf_4 rfl 1 rfl ?_
  refine j_callI h (n := 1) (c_X1_isRink l D cy L _ _ _ _ _ (by decide) _) (xg_V (xr_21 6 rfl) (xr_21 7 rfl) (xr_21 8 rfl) (xr_1 18 rfl) (xr_21 9 rfl)) rfl rfl (by decide +kernel) ⟨Nat.le_of_ble_eq_true rfl, Nat.le_of_ble_eq_true rfl⟩ (30 * 0 + 0) (at_G (by decide)) rfl rfl rfl rfl (Nat.le_of_ble_eq_true rfl) dX7_rinkOf_5 ⟨by decide, by decide⟩ (fun z1 u' hq => ?_)
  obtain ⟨hz1, rfl, bz1⟩ := hq
  refine j_if_ne h (tgt := 13) dX7_rinkOf_8 (by decide) (fun c2 => ?_) (fun c2 => ?_)
  · have vp1 : vp_in (p1) 4 := isRink_in (hG).r hz1 c2
    have bp1 : (p1).toNatClampNeg < 4 := vp_lt vp1
    have ep1 : p1 = nI (p1).toNatClampNeg := vp_nI vp1 (by decide)
    refine j_aload_n h dX7_rinkOf_13 rfl 0 rfl ?_
    refine j_get h inlX7 (330 + 0) (ml_get 0) rfl 0 (by decide) (xr_1 19 rfl) rfl (v := .ref (L 0 0)) rfl dX7_rinkOf_14 ?_
    refine j_get h inlX1 (30 * 0 + 0) (at_G (by decide)) rfl 0 (by decide) (xr_21 2 rfl) rfl (v := .ref (L 0 1)) rfl dX7_rinkOf_17 ?_
    refine j_iload_n h dX7_rinkOf_20 rfl 1 rfl ?_
    refine j_aaldE h (30 * 0 + 1) 1 (at_Ra (by decide)) rfl p1.toNatClampNeg ep1 (by omega) (by decide) dX7_rinkOf_21 ?_
    refine j_astore_n h (lv' := [(3, _), (0, _), (1, _), (2, _)]) dX7_rinkOf_22 rfl (by decide) rfl ?_
    refine j_iload_n h dX7_rinkOf_23 rfl 3 rfl ?_
    by_cases c3 : p2 = 0
    · refine j_tableIn h (tgt := 76) dX7_rinkOf_24 (by rw [c3]; decide) (by rw [c3]; decide) (by rw [c3]; rfl) (by decide) ?_
      refine j_aload_n h dX7_rinkOf_76 rfl 0 rfl ?_
      refine j_get h inlX5 (30 * 0 + (4 + p1.toNatClampNeg)) (at_R (by decide) (by omega)) rfl 0 (by decide) (xr_33 2 rfl) rfl (v := .int (M.2.1 p1.toNatClampNeg 0)) rfl dX7_rinkOf_77 ?_
      exact hR _ _ _ _ dX7_rinkOf_80 ⟨Eq.symm ((bd_eq hz1 (ite_n c2 (ite_p c3 rfl)))), rfl⟩
    by_cases c4 : p2 = 1
    · refine j_tableIn h (tgt := 81) dX7_rinkOf_24 (by rw [c4]; decide) (by rw [c4]; decide) (by rw [c4]; rfl) (by decide) ?_
      refine j_aload_n h dX7_rinkOf_81 rfl 0 rfl ?_
      refine j_get h inlX5 (30 * 0 + (4 + p1.toNatClampNeg)) (at_R (by decide) (by omega)) rfl 1 (by decide) (xr_33 3 rfl) rfl (v := .int (M.2.1 p1.toNatClampNeg 1)) rfl dX7_rinkOf_82 ?_
      exact hR _ _ _ _ dX7_rinkOf_85 ⟨Eq.symm ((bd_eq hz1 (ite_n c2 (ite_n c3 (ite_p c4 rfl))))), rfl⟩
    by_cases c5 : p2 = 2
    · refine j_tableIn h (tgt := 86) dX7_rinkOf_24 (by rw [c5]; decide) (by rw [c5]; decide) (by rw [c5]; rfl) (by decide) ?_
      refine j_aload_n h dX7_rinkOf_86 rfl 0 rfl ?_
      refine j_get h inlX5 (30 * 0 + (4 + p1.toNatClampNeg)) (at_R (by decide) (by omega)) rfl 2 (by decide) (xr_21 4 rfl) rfl (v := .int (M.2.1 p1.toNatClampNeg 2)) rfl dX7_rinkOf_87 ?_
      exact hR _ _ _ _ dX7_rinkOf_90 ⟨Eq.symm ((bd_eq hz1 (ite_n c2 (ite_n c3 (ite_n c4 (ite_p c5 rfl)))))), rfl⟩
    by_cases c6 : p2 = 3
    · refine j_tableIn h (tgt := 91) dX7_rinkOf_24 (by rw [c6]; decide) (by rw [c6]; decide) (by rw [c6]; rfl) (by decide) ?_
      refine j_aload_n h dX7_rinkOf_91 rfl 0 rfl ?_
      refine j_get h inlX5 (30 * 0 + (4 + p1.toNatClampNeg)) (at_R (by decide) (by omega)) rfl 3 (by decide) (xr_26 2 rfl) rfl (v := .int (M.2.1 p1.toNatClampNeg 3)) rfl dX7_rinkOf_92 ?_
      exact hR _ _ _ _ dX7_rinkOf_95 ⟨Eq.symm ((bd_eq hz1 (ite_n c2 (ite_n c3 (ite_n c4 (ite_n c5 (ite_p c6 rfl))))))), rfl⟩
    by_cases c7 : p2 = 4
    · refine j_tableIn h (tgt := 96) dX7_rinkOf_24 (by rw [c7]; decide) (by rw [c7]; decide) (by rw [c7]; rfl) (by decide) ?_
      refine j_aload_n h dX7_rinkOf_96 rfl 0 rfl ?_
      refine j_get h inlX5 (30 * 0 + (4 + p1.toNatClampNeg)) (at_R (by decide) (by omega)) rfl 4 (by decide) (xr_21 3 rfl) rfl (v := .int (M.2.1 p1.toNatClampNeg 4)) rfl dX7_rinkOf_97 ?_
      exact hR _ _ _ _ dX7_rinkOf_100 ⟨Eq.symm ((bd_eq hz1 (ite_n c2 (ite_n c3 (ite_n c4 (ite_n c5 (ite_n c6 (ite_p c7 rfl)))))))), rfl⟩
    by_cases c8 : p2 = 5
    · refine j_tableIn h (tgt := 101) dX7_rinkOf_24 (by rw [c8]; decide) (by rw [c8]; decide) (by rw [c8]; rfl) (by decide) ?_
      refine j_aload_n h dX7_rinkOf_101 rfl 0 rfl ?_
      refine j_get h inlX5 (30 * 0 + (4 + p1.toNatClampNeg)) (at_R (by decide) (by omega)) rfl 6 (by decide) (xr_21 5 rfl) rfl (v := .int (M.2.1 p1.toNatClampNeg 6)) rfl dX7_rinkOf_102 ?_
      exact hR _ _ _ _ dX7_rinkOf_105 ⟨Eq.symm ((bd_eq hz1 (ite_n c2 (ite_n c3 (ite_n c4 (ite_n c5 (ite_n c6 (ite_n c7 (ite_p c8 rfl))))))))), rfl⟩
    by_cases c9 : p2 = 6
    · refine j_tableIn h (tgt := 106) dX7_rinkOf_24 (by rw [c9]; decide) (by rw [c9]; decide) (by rw [c9]; rfl) (by decide) ?_
      refine j_aload_n h dX7_rinkOf_106 rfl 1 rfl ?_
      refine j_get h inlX7 (330 + 0) (ml_get 0) rfl 0 (by decide) (xr_1 19 rfl) rfl (v := .ref (L 0 0)) rfl dX7_rinkOf_107 ?_
      refine j_iload_n h dX7_rinkOf_110 rfl 2 rfl ?_
      refine j_iconst h (v := 1) dX7_rinkOf_111 (by decide) ?_
      refine j_callI h (n := 2) (c_X1_woodsOn l D cy L _ _ _ _ _ (by decide) _ _ (hG).w) (xg_V (xr_33 5 rfl) (xr_33 6 rfl) (xr_33 7 rfl) (xr_1 18 rfl) (xr_33 8 rfl)) rfl rfl (by decide +kernel) ⟨Nat.le_of_ble_eq_true rfl, Nat.le_of_ble_eq_true rfl⟩ (30 * 0 + 0) (at_G (by decide)) rfl rfl rfl rfl (Nat.le_of_ble_eq_true rfl) dX7_rinkOf_112 ⟨by decide, by decide⟩ (fun z10 u' hq => ?_)
      obtain ⟨hz10, rfl⟩ := hq
      exact hR _ _ _ _ dX7_rinkOf_115 ⟨Eq.symm ((bd_eq hz1 (ite_n c2 (ite_n c3 (ite_n c4 (ite_n c5 (ite_n c6 (ite_n c7 (ite_n c8 (ite_p c9 (bd_eq hz10 rfl))))))))))), rfl⟩
    by_cases c11 : p2 = 7
    · refine j_tableIn h (tgt := 116) dX7_rinkOf_24 (by rw [c11]; decide) (by rw [c11]; decide) (by rw [c11]; rfl) (by decide) ?_
      refine j_aload_n h dX7_rinkOf_116 rfl 1 rfl ?_
      refine j_get h inlX7 (330 + 0) (ml_get 0) rfl 0 (by decide) (xr_1 19 rfl) rfl (v := .ref (L 0 0)) rfl dX7_rinkOf_117 ?_
      refine j_iload_n h dX7_rinkOf_120 rfl 2 rfl ?_
      refine j_iconst h (v := 2) dX7_rinkOf_121 (by decide) ?_
      refine j_callI h (n := 2) (c_X1_woodsOn l D cy L _ _ _ _ _ (by decide) _ _ (hG).w) (xg_V (xr_33 5 rfl) (xr_33 6 rfl) (xr_33 7 rfl) (xr_1 18 rfl) (xr_33 8 rfl)) rfl rfl (by decide +kernel) ⟨Nat.le_of_ble_eq_true rfl, Nat.le_of_ble_eq_true rfl⟩ (30 * 0 + 0) (at_G (by decide)) rfl rfl rfl rfl (Nat.le_of_ble_eq_true rfl) dX7_rinkOf_122 ⟨by decide, by decide⟩ (fun z12 u' hq => ?_)
      obtain ⟨hz12, rfl⟩ := hq
      exact hR _ _ _ _ dX7_rinkOf_125 ⟨Eq.symm ((bd_eq hz1 (ite_n c2 (ite_n c3 (ite_n c4 (ite_n c5 (ite_n c6 (ite_n c7 (ite_n c8 (ite_n c9 (ite_p c11 (bd_eq hz12 rfl)))))))))))), rfl⟩
    by_cases c13 : p2 = 8
    · refine j_tableIn h (tgt := 126) dX7_rinkOf_24 (by rw [c13]; decide) (by rw [c13]; decide) (by rw [c13]; rfl) (by decide) ?_
      refine j_aload_n h dX7_rinkOf_126 rfl 0 rfl ?_
      refine j_get h inlX5 (30 * 0 + (4 + p1.toNatClampNeg)) (at_R (by decide) (by omega)) rfl 7 (by decide) (xr_33 4 rfl) rfl (v := .int (M.2.1 p1.toNatClampNeg 7)) rfl dX7_rinkOf_127 ?_
      exact hR _ _ _ _ dX7_rinkOf_130 ⟨Eq.symm ((bd_eq hz1 (ite_n c2 (ite_n c3 (ite_n c4 (ite_n c5 (ite_n c6 (ite_n c7 (ite_n c8 (ite_n c9 (ite_n c11 (ite_p c13 rfl)))))))))))), rfl⟩
    refine j_tableOut h (tgt := 131) dX7_rinkOf_24 (sw_out9 p2 c3 c4 c5 c6 c7 c8 c9 c11 c13) (by decide) ?_
    refine j_bipush h (v := (-2)) dX7_rinkOf_131 (by decide) ?_
    exact hR _ _ _ _ dX7_rinkOf_133 ⟨Eq.symm ((bd_eq hz1 (ite_n c2 (ite_n c3 (ite_n c4 (ite_n c5 (ite_n c6 (ite_n c7 (ite_n c8 (ite_n c9 (ite_n c11 (ite_n c13 rfl)))))))))))), rfl⟩
  · refine j_iconst h (v := (-1)) dX7_rinkOf_11 (by decide) ?_
    exact hR _ _ _ _ dX7_rinkOf_12 ⟨Eq.symm ((bd_eq hz1 (ite_p c2 rfl))), rfl⟩

def f_X7_woodOf (M : gM) (X : Nat → Int32) (A : Nat → Nat → Int32) (p1 : Int32) (p2 : Int32) : Int32 :=
  bd (f_X1_isWood M p1) fun z1 =>
  if z1 = 0 then
    (-1)
  else
    if (M.2.2.1 p1.toNatClampNeg 2) = 1 then
      if p2 = 0 then
        (M.2.2.1 p1.toNatClampNeg 0)
      else
        if p2 = 1 then
          (M.2.2.1 p1.toNatClampNeg 1)
        else
          if p2 = 2 then
            (M.2.2.1 p1.toNatClampNeg 2)
          else
            if p2 = 3 then
              if (M.2.2.1 p1.toNatClampNeg 2) = 0 then
                (-4)
              else
                (M.2.2.1 p1.toNatClampNeg 3)
            else
              if p2 = 4 then
                (M.2.2.1 p1.toNatClampNeg 4)
              else
                if p2 = 5 then
                  (M.2.2.1 p1.toNatClampNeg 5)
                else
                  if p2 = 6 then
                    (M.2.2.1 p1.toNatClampNeg 6)
                  else
                    if p2 = 7 then
                      (M.2.2.1 p1.toNatClampNeg 7)
                    else
                      (-2)
    else
      if p2 = 0 then
        (M.2.2.1 p1.toNatClampNeg 0)
      else
        if p2 = 1 then
          (M.2.2.1 p1.toNatClampNeg 1)
        else
          if p2 = 2 then
            (M.2.2.1 p1.toNatClampNeg 2)
          else
            if p2 = 3 then
              if (M.2.2.1 p1.toNatClampNeg 2) = 0 then
                (-4)
              else
                (M.2.2.1 p1.toNatClampNeg 3)
            else
              if p2 = 4 then
                (-4)
              else
                if p2 = 5 then
                  (-4)
                else
                  if p2 = 6 then
                    (-4)
                  else
                    if p2 = 7 then
                      (M.2.2.1 p1.toNatClampNeg 7)
                    else
                      (-2)
abbrev rm_X7_woodOf : Room := { frames := 1, cells := 0, slots := 0, locals := 21 }
set_option maxRecDepth 100000 in
set_option maxHeartbeats 4000000 in
theorem c_X7_woodOf (l : Launch) (D : gD) (cy : Nat → ClassId) (L : Nat → Nat → Nat) (G : Nat → gM) (X : Nat → Int32) (A : Nat → Nat → Int32) (b : cB) (M : gM) (p1 : Int32) (p2 : Int32) (hG : GI M) : CtI l D cy (CW cy L) yX7_woodOf cX7_woodOf 5 (some .int) rm_X7_woodOf [.ref (L 11 0), .int p1, .int p2] ((va_up G 0 M, X, A), b) (fun rv u => rv = f_X7_woodOf M X A p1 p2 ∧ u = ((va_up G 0 M, X, A), b)) 0 0 := by
  refine m_entI cX7_woodOf 5 (by decide) (Nat.le_of_ble_eq_true rfl) (fun J h hR => ?_)
  show J ((va_up G 0 M, X, A), b) (0, 0) [(0, .ref (L 11 0)), (1, .int p1), (2, .int p2)] 0 []
  refine j_aload_n h dX7_woodOf_0 rfl 0 rfl ?_
  refine j_get h inlX7 (330 + 0) (ml_get 0) rfl 0 (by decide) (xr_1 19 rfl) rfl (v := .ref (L 0 0)) rfl dX7_woodOf_1 ?_
  refine j_iload_n h dX7_woodOf_4 rfl 1 rfl ?_
  refine j_callI h (n := 1) (c_X1_isWood l D cy L _ _ _ _ _ (by decide) _) (xg_V (xr_23 1 rfl) (xr_23 2 rfl) (xr_23 3 rfl) (xr_1 18 rfl) (xr_23 4 rfl)) rfl rfl (by decide +kernel) ⟨Nat.le_of_ble_eq_true rfl, Nat.le_of_ble_eq_true rfl⟩ (30 * 0 + 0) (at_G (by decide)) rfl rfl rfl rfl (Nat.le_of_ble_eq_true rfl) dX7_woodOf_5 ⟨by decide, by decide⟩ (fun z1 u' hq => ?_)
  obtain ⟨hz1, rfl, bz1⟩ := hq
  refine j_if_ne h (tgt := 13) dX7_woodOf_8 (by decide) (fun c2 => ?_) (fun c2 => ?_)
  · have vp1 : vp_in (p1) 16 := isWood_in (hG).w hz1 c2
    have bp1 : (p1).toNatClampNeg < 16 := vp_lt vp1
    have ep1 : p1 = nI (p1).toNatClampNeg := vp_nI vp1 (by decide)
    refine j_aload_n h dX7_woodOf_13 rfl 0 rfl ?_
    refine j_get h inlX7 (330 + 0) (ml_get 0) rfl 0 (by decide) (xr_1 19 rfl) rfl (v := .ref (L 0 0)) rfl dX7_woodOf_14 ?_
    refine j_get h inlX1 (30 * 0 + 0) (at_G (by decide)) rfl 1 (by decide) (xr_22 16 rfl) rfl (v := .ref (L 0 2)) rfl dX7_woodOf_17 ?_
    refine j_iload_n h dX7_woodOf_20 rfl 1 rfl ?_
    refine j_aaldE h (30 * 0 + 2) 2 (at_Wa (by decide)) rfl p1.toNatClampNeg ep1 (by omega) (by decide) dX7_woodOf_21 ?_
    refine j_astore_n h (lv' := [(3, _), (0, _), (1, _), (2, _)]) dX7_woodOf_22 rfl (by decide) rfl ?_
    refine j_aload_n h dX7_woodOf_23 rfl 0 rfl ?_
    refine j_get h inlX6 (30 * 0 + (12 + p1.toNatClampNeg)) (at_W (by decide) (by omega)) rfl 2 (by decide) (xr_22 21 rfl) rfl (v := .int (M.2.2.1 p1.toNatClampNeg 2)) rfl dX7_woodOf_24 ?_
    refine j_iconst h (v := 1) dX7_woodOf_27 (by decide) ?_
    refine j_icmp_ne h (tgt := 35) dX7_woodOf_28 (by decide) (fun c3 => ?_) (fun c3 => ?_)
    · refine j_iconst h (v := 0) dX7_woodOf_35 (by decide) ?_
      refine j_istore h (lv' := [(4, _), (3, _), (0, _), (1, _), (2, _)]) dX7_woodOf_36 (by decide) rfl ?_
      refine j_iload_n h dX7_woodOf_38 rfl 4 rfl ?_
      by_cases c4 : p2 = 0
      · refine j_tableIn h (tgt := 84) dX7_woodOf_39 (by rw [c4]; decide) (by rw [c4]; decide) (by rw [c4]; rfl) (by decide) ?_
        refine j_aload_n h dX7_woodOf_84 rfl 1 rfl ?_
        refine j_get h inlX6 (30 * 0 + (12 + p1.toNatClampNeg)) (at_W (by decide) (by omega)) rfl 0 (by decide) (xr_22 18 rfl) rfl (v := .int (M.2.2.1 p1.toNatClampNeg 0)) rfl dX7_woodOf_85 ?_
        exact hR _ _ _ _ dX7_woodOf_88 ⟨Eq.symm ((bd_eq hz1 (ite_n c2 (ite_n c3 (ite_p c4 rfl))))), rfl⟩
      by_cases c5 : p2 = 1
      · refine j_tableIn h (tgt := 89) dX7_woodOf_39 (by rw [c5]; decide) (by rw [c5]; decide) (by rw [c5]; rfl) (by decide) ?_
        refine j_aload_n h dX7_woodOf_89 rfl 1 rfl ?_
        refine j_get h inlX6 (30 * 0 + (12 + p1.toNatClampNeg)) (at_W (by decide) (by omega)) rfl 1 (by decide) (xr_41 0 rfl) rfl (v := .int (M.2.2.1 p1.toNatClampNeg 1)) rfl dX7_woodOf_90 ?_
        exact hR _ _ _ _ dX7_woodOf_93 ⟨Eq.symm ((bd_eq hz1 (ite_n c2 (ite_n c3 (ite_n c4 (ite_p c5 rfl)))))), rfl⟩
      by_cases c6 : p2 = 2
      · refine j_tableIn h (tgt := 94) dX7_woodOf_39 (by rw [c6]; decide) (by rw [c6]; decide) (by rw [c6]; rfl) (by decide) ?_
        refine j_aload_n h dX7_woodOf_94 rfl 1 rfl ?_
        refine j_get h inlX6 (30 * 0 + (12 + p1.toNatClampNeg)) (at_W (by decide) (by omega)) rfl 2 (by decide) (xr_22 21 rfl) rfl (v := .int (M.2.2.1 p1.toNatClampNeg 2)) rfl dX7_woodOf_95 ?_
        exact hR _ _ _ _ dX7_woodOf_98 ⟨Eq.symm ((bd_eq hz1 (ite_n c2 (ite_n c3 (ite_n c4 (ite_n c5 (ite_p c6 rfl))))))), rfl⟩
      by_cases c7 : p2 = 3
      · refine j_tableIn h (tgt := 99) dX7_woodOf_39 (by rw [c7]; decide) (by rw [c7]; decide) (by rw [c7]; rfl) (by decide) ?_
        refine j_aload_n h dX7_woodOf_99 rfl 1 rfl ?_
        refine j_get h inlX6 (30 * 0 + (12 + p1.toNatClampNeg)) (at_W (by decide) (by omega)) rfl 2 (by decide) (xr_22 21 rfl) rfl (v := .int (M.2.2.1 p1.toNatClampNeg 2)) rfl dX7_woodOf_100 ?_
        refine j_if_ne h (tgt := 111) dX7_woodOf_103 (by decide) (fun c8 => ?_) (fun c8 => ?_)
        · refine j_aload_n h dX7_woodOf_111 rfl 1 rfl ?_
          refine j_get h inlX6 (30 * 0 + (12 + p1.toNatClampNeg)) (at_W (by decide) (by omega)) rfl 3 (by decide) (xr_22 20 rfl) rfl (v := .int (M.2.2.1 p1.toNatClampNeg 3)) rfl dX7_woodOf_112 ?_
          exact hR _ _ _ _ dX7_woodOf_115 ⟨Eq.symm ((bd_eq hz1 (ite_n c2 (ite_n c3 (ite_n c4 (ite_n c5 (ite_n c6 (ite_p c7 (ite_n c8 rfl))))))))), rfl⟩
        · refine j_bipush h (v := (-4)) dX7_woodOf_106 (by decide) ?_
          refine j_goto h (tgt := 115) dX7_woodOf_108 (by decide) ?_
          exact hR _ _ _ _ dX7_woodOf_115 ⟨Eq.symm ((bd_eq hz1 (ite_n c2 (ite_n c3 (ite_n c4 (ite_n c5 (ite_n c6 (ite_p c7 (ite_p c8 rfl))))))))), rfl⟩
      by_cases c9 : p2 = 4
      · refine j_tableIn h (tgt := 116) dX7_woodOf_39 (by rw [c9]; decide) (by rw [c9]; decide) (by rw [c9]; rfl) (by decide) ?_
        refine j_iload h dX7_woodOf_116 0 rfl ?_
        refine j_if_eq h (tgt := 128) dX7_woodOf_118 (by decide) (fun _ => ?_) (fun c10 => by first | exact absurd c10 (by decide) | exact absurd (by decide) c10)
        refine j_bipush h (v := (-4)) dX7_woodOf_128 (by decide) ?_
        exact hR _ _ _ _ dX7_woodOf_130 ⟨Eq.symm ((bd_eq hz1 (ite_n c2 (ite_n c3 (ite_n c4 (ite_n c5 (ite_n c6 (ite_n c7 (ite_p c9 rfl))))))))), rfl⟩
      by_cases c11 : p2 = 5
      · refine j_tableIn h (tgt := 131) dX7_woodOf_39 (by rw [c11]; decide) (by rw [c11]; decide) (by rw [c11]; rfl) (by decide) ?_
        refine j_iload h dX7_woodOf_131 0 rfl ?_
        refine j_if_eq h (tgt := 143) dX7_woodOf_133 (by decide) (fun _ => ?_) (fun c12 => by first | exact absurd c12 (by decide) | exact absurd (by decide) c12)
        refine j_bipush h (v := (-4)) dX7_woodOf_143 (by decide) ?_
        exact hR _ _ _ _ dX7_woodOf_145 ⟨Eq.symm ((bd_eq hz1 (ite_n c2 (ite_n c3 (ite_n c4 (ite_n c5 (ite_n c6 (ite_n c7 (ite_n c9 (ite_p c11 rfl)))))))))), rfl⟩
      by_cases c13 : p2 = 6
      · refine j_tableIn h (tgt := 146) dX7_woodOf_39 (by rw [c13]; decide) (by rw [c13]; decide) (by rw [c13]; rfl) (by decide) ?_
        refine j_iload h dX7_woodOf_146 0 rfl ?_
        refine j_if_eq h (tgt := 158) dX7_woodOf_148 (by decide) (fun _ => ?_) (fun c14 => by first | exact absurd c14 (by decide) | exact absurd (by decide) c14)
        refine j_bipush h (v := (-4)) dX7_woodOf_158 (by decide) ?_
        exact hR _ _ _ _ dX7_woodOf_160 ⟨Eq.symm ((bd_eq hz1 (ite_n c2 (ite_n c3 (ite_n c4 (ite_n c5 (ite_n c6 (ite_n c7 (ite_n c9 (ite_n c11 (ite_p c13 rfl))))))))))), rfl⟩
      by_cases c15 : p2 = 7
      · refine j_tableIn h (tgt := 161) dX7_woodOf_39 (by rw [c15]; decide) (by rw [c15]; decide) (by rw [c15]; rfl) (by decide) ?_
        refine j_aload_n h dX7_woodOf_161 rfl 1 rfl ?_
        refine j_get h inlX6 (30 * 0 + (12 + p1.toNatClampNeg)) (at_W (by decide) (by omega)) rfl 7 (by decide) (xr_22 19 rfl) rfl (v := .int (M.2.2.1 p1.toNatClampNeg 7)) rfl dX7_woodOf_162 ?_
        exact hR _ _ _ _ dX7_woodOf_165 ⟨Eq.symm ((bd_eq hz1 (ite_n c2 (ite_n c3 (ite_n c4 (ite_n c5 (ite_n c6 (ite_n c7 (ite_n c9 (ite_n c11 (ite_n c13 (ite_p c15 rfl)))))))))))), rfl⟩
      refine j_tableOut h (tgt := 166) dX7_woodOf_39 (sw_out8 p2 c4 c5 c6 c7 c9 c11 c13 c15) (by decide) ?_
      refine j_bipush h (v := (-2)) dX7_woodOf_166 (by decide) ?_
      exact hR _ _ _ _ dX7_woodOf_168 ⟨Eq.symm ((bd_eq hz1 (ite_n c2 (ite_n c3 (ite_n c4 (ite_n c5 (ite_n c6 (ite_n c7 (ite_n c9 (ite_n c11 (ite_n c13 (ite_n c15 rfl)))))))))))), rfl⟩
    · refine j_iconst h (v := 1) dX7_woodOf_31 (by decide) ?_
      refine j_goto h (tgt := 36) dX7_woodOf_32 (by decide) ?_
      refine j_istore h (lv' := [(4, _), (3, _), (0, _), (1, _), (2, _)]) dX7_woodOf_36 (by decide) rfl ?_
      refine j_iload_n h dX7_woodOf_38 rfl 4 rfl ?_
      by_cases c16 : p2 = 0
      · refine j_tableIn h (tgt := 84) dX7_woodOf_39 (by rw [c16]; decide) (by rw [c16]; decide) (by rw [c16]; rfl) (by decide) ?_
        refine j_aload_n h dX7_woodOf_84 rfl 1 rfl ?_
        refine j_get h inlX6 (30 * 0 + (12 + p1.toNatClampNeg)) (at_W (by decide) (by omega)) rfl 0 (by decide) (xr_22 18 rfl) rfl (v := .int (M.2.2.1 p1.toNatClampNeg 0)) rfl dX7_woodOf_85 ?_
        exact hR _ _ _ _ dX7_woodOf_88 ⟨Eq.symm ((bd_eq hz1 (ite_n c2 (ite_p c3 (ite_p c16 rfl))))), rfl⟩
      by_cases c17 : p2 = 1
      · refine j_tableIn h (tgt := 89) dX7_woodOf_39 (by rw [c17]; decide) (by rw [c17]; decide) (by rw [c17]; rfl) (by decide) ?_
        refine j_aload_n h dX7_woodOf_89 rfl 1 rfl ?_
        refine j_get h inlX6 (30 * 0 + (12 + p1.toNatClampNeg)) (at_W (by decide) (by omega)) rfl 1 (by decide) (xr_41 0 rfl) rfl (v := .int (M.2.2.1 p1.toNatClampNeg 1)) rfl dX7_woodOf_90 ?_
        exact hR _ _ _ _ dX7_woodOf_93 ⟨Eq.symm ((bd_eq hz1 (ite_n c2 (ite_p c3 (ite_n c16 (ite_p c17 rfl)))))), rfl⟩
      by_cases c18 : p2 = 2
      · refine j_tableIn h (tgt := 94) dX7_woodOf_39 (by rw [c18]; decide) (by rw [c18]; decide) (by rw [c18]; rfl) (by decide) ?_
        refine j_aload_n h dX7_woodOf_94 rfl 1 rfl ?_
        refine j_get h inlX6 (30 * 0 + (12 + p1.toNatClampNeg)) (at_W (by decide) (by omega)) rfl 2 (by decide) (xr_22 21 rfl) rfl (v := .int (M.2.2.1 p1.toNatClampNeg 2)) rfl dX7_woodOf_95 ?_
        exact hR _ _ _ _ dX7_woodOf_98 ⟨Eq.symm ((bd_eq hz1 (ite_n c2 (ite_p c3 (ite_n c16 (ite_n c17 (ite_p c18 rfl))))))), rfl⟩
      by_cases c19 : p2 = 3
      · refine j_tableIn h (tgt := 99) dX7_woodOf_39 (by rw [c19]; decide) (by rw [c19]; decide) (by rw [c19]; rfl) (by decide) ?_
        refine j_aload_n h dX7_woodOf_99 rfl 1 rfl ?_
        refine j_get h inlX6 (30 * 0 + (12 + p1.toNatClampNeg)) (at_W (by decide) (by omega)) rfl 2 (by decide) (xr_22 21 rfl) rfl (v := .int (M.2.2.1 p1.toNatClampNeg 2)) rfl dX7_woodOf_100 ?_
        refine j_if_ne h (tgt := 111) dX7_woodOf_103 (by decide) (fun c20 => ?_) (fun c20 => ?_)
        · refine j_aload_n h dX7_woodOf_111 rfl 1 rfl ?_
          refine j_get h inlX6 (30 * 0 + (12 + p1.toNatClampNeg)) (at_W (by decide) (by omega)) rfl 3 (by decide) (xr_22 20 rfl) rfl (v := .int (M.2.2.1 p1.toNatClampNeg 3)) rfl dX7_woodOf_112 ?_
          exact hR _ _ _ _ dX7_woodOf_115 ⟨Eq.symm ((bd_eq hz1 (ite_n c2 (ite_p c3 (ite_n c16 (ite_n c17 (ite_n c18 (ite_p c19 (ite_n c20 rfl))))))))), rfl⟩
        · refine j_bipush h (v := (-4)) dX7_woodOf_106 (by decide) ?_
          refine j_goto h (tgt := 115) dX7_woodOf_108 (by decide) ?_
          exact hR _ _ _ _ dX7_woodOf_115 ⟨Eq.symm ((bd_eq hz1 (ite_n c2 (ite_p c3 (ite_n c16 (ite_n c17 (ite_n c18 (ite_p c19 (ite_p c20 rfl))))))))), rfl⟩
      by_cases c21 : p2 = 4
      · refine j_tableIn h (tgt := 116) dX7_woodOf_39 (by rw [c21]; decide) (by rw [c21]; decide) (by rw [c21]; rfl) (by decide) ?_
        refine j_iload h dX7_woodOf_116 0 rfl ?_
        refine j_if_eq h (tgt := 128) dX7_woodOf_118 (by decide) (fun c22 => by first | exact absurd c22 (by decide) | exact absurd (by decide) c22) (fun _ => ?_)
        refine j_aload_n h dX7_woodOf_121 rfl 1 rfl ?_
        refine j_get h inlX6 (30 * 0 + (12 + p1.toNatClampNeg)) (at_W (by decide) (by omega)) rfl 4 (by decide) (xr_22 22 rfl) rfl (v := .int (M.2.2.1 p1.toNatClampNeg 4)) rfl dX7_woodOf_122 ?_
        refine j_goto h (tgt := 130) dX7_woodOf_125 (by decide) ?_
        exact hR _ _ _ _ dX7_woodOf_130 ⟨Eq.symm ((bd_eq hz1 (ite_n c2 (ite_p c3 (ite_n c16 (ite_n c17 (ite_n c18 (ite_n c19 (ite_p c21 rfl))))))))), rfl⟩
      by_cases c23 : p2 = 5
      · refine j_tableIn h (tgt := 131) dX7_woodOf_39 (by rw [c23]; decide) (by rw [c23]; decide) (by rw [c23]; rfl) (by decide) ?_
        refine j_iload h dX7_woodOf_131 0 rfl ?_
        refine j_if_eq h (tgt := 143) dX7_woodOf_133 (by decide) (fun c24 => by first | exact absurd c24 (by decide) | exact absurd (by decide) c24) (fun _ => ?_)
        refine j_aload_n h dX7_woodOf_136 rfl 1 rfl ?_
        refine j_get h inlX6 (30 * 0 + (12 + p1.toNatClampNeg)) (at_W (by decide) (by omega)) rfl 5 (by decide) (xr_22 23 rfl) rfl (v := .int (M.2.2.1 p1.toNatClampNeg 5)) rfl dX7_woodOf_137 ?_
        refine j_goto h (tgt := 145) dX7_woodOf_140 (by decide) ?_
        exact hR _ _ _ _ dX7_woodOf_145 ⟨Eq.symm ((bd_eq hz1 (ite_n c2 (ite_p c3 (ite_n c16 (ite_n c17 (ite_n c18 (ite_n c19 (ite_n c21 (ite_p c23 rfl)))))))))), rfl⟩
      by_cases c25 : p2 = 6
      · refine j_tableIn h (tgt := 146) dX7_woodOf_39 (by rw [c25]; decide) (by rw [c25]; decide) (by rw [c25]; rfl) (by decide) ?_
        refine j_iload h dX7_woodOf_146 0 rfl ?_
        refine j_if_eq h (tgt := 158) dX7_woodOf_148 (by decide) (fun c26 => by first | exact absurd c26 (by decide) | exact absurd (by decide) c26) (fun _ => ?_)
        refine j_aload_n h dX7_woodOf_151 rfl 1 rfl ?_
        refine j_get h inlX6 (30 * 0 + (12 + p1.toNatClampNeg)) (at_W (by decide) (by omega)) rfl 6 (by decide) (xr_23 0 rfl) rfl (v := .int (M.2.2.1 p1.toNatClampNeg 6)) rfl dX7_woodOf_152 ?_
        refine j_goto h (tgt := 160) dX7_woodOf_155 (by decide) ?_
        exact hR _ _ _ _ dX7_woodOf_160 ⟨Eq.symm ((bd_eq hz1 (ite_n c2 (ite_p c3 (ite_n c16 (ite_n c17 (ite_n c18 (ite_n c19 (ite_n c21 (ite_n c23 (ite_p c25 rfl))))))))))), rfl⟩
      by_cases c27 : p2 = 7
      · refine j_tableIn h (tgt := 161) dX7_woodOf_39 (by rw [c27]; decide) (by rw [c27]; decide) (by rw [c27]; rfl) (by decide) ?_
        refine j_aload_n h dX7_woodOf_161 rfl 1 rfl ?_
        refine j_get h inlX6 (30 * 0 + (12 + p1.toNatClampNeg)) (at_W (by decide) (by omega)) rfl 7 (by decide) (xr_22 19 rfl) rfl (v := .int (M.2.2.1 p1.toNatClampNeg 7)) rfl dX7_woodOf_162 ?_
        exact hR _ _ _ _ dX7_woodOf_165 ⟨Eq.symm ((bd_eq hz1 (ite_n c2 (ite_p c3 (ite_n c16 (ite_n c17 (ite_n c18 (ite_n c19 (ite_n c21 (ite_n c23 (ite_n c25 (ite_p c27 rfl)))))))))))), rfl⟩
      refine j_tableOut h (tgt := 166) dX7_woodOf_39 (sw_out8 p2 c16 c17 c18 c19 c21 c23 c25 c27) (by decide) ?_
      refine j_bipush h (v := (-2)) dX7_woodOf_166 (by decide) ?_
      exact hR _ _ _ _ dX7_woodOf_168 ⟨Eq.symm ((bd_eq hz1 (ite_n c2 (ite_p c3 (ite_n c16 (ite_n c17 (ite_n c18 (ite_n c19 (ite_n c21 (ite_n c23 (ite_n c25 (ite_n c27 rfl)))))))))))), rfl⟩
  · refine j_iconst h (v := (-1)) dX7_woodOf_11 (by decide) ?_
    exact hR _ _ _ _ dX7_woodOf_12 ⟨Eq.symm ((bd_eq hz1 (ite_p c2 rfl))), rfl⟩

def f_X7_clubOf (M : gM) (X : Nat → Int32) (A : Nat → Nat → Int32) (p1 : Int32) (p2 : Int32) : Int32 :=
  bd (f_X7_isClub M X A p1) fun z1 =>
  if z1 = 0 then
    (-1)
  else
    if p2 = 0 then
      (M.2.2.2 p1.toNatClampNeg 0)
    else
      if p2 = 1 then
        (M.2.2.2 p1.toNatClampNeg 1)
      else
        if p2 = 2 then
          (M.2.2.2 p1.toNatClampNeg 2)
        else
          if p2 = 3 then
            (M.2.2.2 p1.toNatClampNeg 3)
          else
            if p2 = 4 then
              bd (f_X1_woodsOfClub M p1) fun z8 =>
              z8
            else
              if p2 = 5 then
                bd (f_X1_woodsOfClubInShed M p1) fun z10 =>
                z10
              else
                (-2)
abbrev rm_X7_clubOf : Room := { frames := 1, cells := 0, slots := 0, locals := 23 }
set_option maxRecDepth 100000 in
set_option maxHeartbeats 4000000 in
theorem c_X7_clubOf (l : Launch) (D : gD) (cy : Nat → ClassId) (L : Nat → Nat → Nat) (G : Nat → gM) (X : Nat → Int32) (A : Nat → Nat → Int32) (b : cB) (M : gM) (p1 : Int32) (p2 : Int32) (hG : GI M) : CtI l D cy (CW cy L) yX7_clubOf cX7_clubOf 4 (some .int) rm_X7_clubOf [.ref (L 11 0), .int p1, .int p2] ((va_up G 0 M, X, A), b) (fun rv u => rv = f_X7_clubOf M X A p1 p2 ∧ u = ((va_up G 0 M, X, A), b)) 0 0 := by
  refine m_entI cX7_clubOf 4 (by decide) (Nat.le_of_ble_eq_true rfl) (fun J h hR => ?_)
  show J ((va_up G 0 M, X, A), b) (0, 0) [(0, .ref (L 11 0)), (1, .int p1), (2, .int p2)] 0 []
  refine j_iload_n h dX7_clubOf_0 rfl 1 rfl ?_
  refine j_callS h (n := 1) (c_X7_isClub l D cy L _ _ _ _ _ _) (xg_S (xr_27 0 rfl) (xr_27 1 rfl) (xr_1 2 rfl) (xr_27 2 rfl)) rfl rfl (by decide +kernel) ⟨Nat.le_of_ble_eq_true rfl, Nat.le_of_ble_eq_true rfl⟩  rfl rfl (Nat.le_of_ble_eq_true rfl) dX7_clubOf_1 ⟨by decide, by decide⟩ (fun z1 u' hq => ?_)
  obtain ⟨hz1, rfl, bz1⟩ := hq
  refine j_if_ne h (tgt := 9) dX7_clubOf_4 (by decide) (fun c2 => ?_) (fun c2 => ?_)
  · have vp1 : vp_in (p1) 2 := isClub_in hz1 c2
    have bp1 : (p1).toNatClampNeg < 2 := vp_lt vp1
    have ep1 : p1 = nI (p1).toNatClampNeg := vp_nI vp1 (by decide)
    refine j_aload_n h dX7_clubOf_9 rfl 0 rfl ?_
    refine j_get h inlX7 (330 + 0) (ml_get 0) rfl 0 (by decide) (xr_1 19 rfl) rfl (v := .ref (L 0 0)) rfl dX7_clubOf_10 ?_
    refine j_get h inlX1 (30 * 0 + 0) (at_G (by decide)) rfl 2 (by decide) (xr_24 19 rfl) rfl (v := .ref (L 0 3)) rfl dX7_clubOf_13 ?_
    refine j_iload_n h dX7_clubOf_16 rfl 1 rfl ?_
    refine j_aaldE h (30 * 0 + 3) 3 (at_Ca (by decide)) rfl p1.toNatClampNeg ep1 (by omega) (by decide) dX7_clubOf_17 ?_
    refine j_astore_n h (lv' := [(3, _), (0, _), (1, _), (2, _)]) dX7_clubOf_18 rfl (by decide) rfl ?_
    refine j_iload_n h dX7_clubOf_19 rfl 3 rfl ?_
    by_cases c3 : p2 = 0
    · refine j_tableIn h (tgt := 60) dX7_clubOf_20 (by rw [c3]; decide) (by rw [c3]; decide) (by rw [c3]; rfl) (by decide) ?_
      refine j_aload_n h dX7_clubOf_60 rfl 0 rfl ?_
      refine j_get h inlX0 (30 * 0 + (28 + p1.toNatClampNeg)) (at_C (by decide) (by omega)) rfl 0 (by decide) (xr_24 20 rfl) rfl (v := .int (M.2.2.2 p1.toNatClampNeg 0)) rfl dX7_clubOf_61 ?_
      exact hR _ _ _ _ dX7_clubOf_64 ⟨Eq.symm ((bd_eq hz1 (ite_n c2 (ite_p c3 rfl)))), rfl⟩
    by_cases c4 : p2 = 1
    · refine j_tableIn h (tgt := 65) dX7_clubOf_20 (by rw [c4]; decide) (by rw [c4]; decide) (by rw [c4]; rfl) (by decide) ?_
      refine j_aload_n h dX7_clubOf_65 rfl 0 rfl ?_
      refine j_get h inlX0 (30 * 0 + (28 + p1.toNatClampNeg)) (at_C (by decide) (by omega)) rfl 1 (by decide) (xr_24 21 rfl) rfl (v := .int (M.2.2.2 p1.toNatClampNeg 1)) rfl dX7_clubOf_66 ?_
      exact hR _ _ _ _ dX7_clubOf_69 ⟨Eq.symm ((bd_eq hz1 (ite_n c2 (ite_n c3 (ite_p c4 rfl))))), rfl⟩
    by_cases c5 : p2 = 2
    · refine j_tableIn h (tgt := 70) dX7_clubOf_20 (by rw [c5]; decide) (by rw [c5]; decide) (by rw [c5]; rfl) (by decide) ?_
      refine j_aload_n h dX7_clubOf_70 rfl 0 rfl ?_
      refine j_get h inlX0 (30 * 0 + (28 + p1.toNatClampNeg)) (at_C (by decide) (by omega)) rfl 2 (by decide) (xr_26 22 rfl) rfl (v := .int (M.2.2.2 p1.toNatClampNeg 2)) rfl dX7_clubOf_71 ?_
      exact hR _ _ _ _ dX7_clubOf_74 ⟨Eq.symm ((bd_eq hz1 (ite_n c2 (ite_n c3 (ite_n c4 (ite_p c5 rfl)))))), rfl⟩
    by_cases c6 : p2 = 3
    · refine j_tableIn h (tgt := 75) dX7_clubOf_20 (by rw [c6]; decide) (by rw [c6]; decide) (by rw [c6]; rfl) (by decide) ?_
      refine j_aload_n h dX7_clubOf_75 rfl 0 rfl ?_
      refine j_get h inlX0 (30 * 0 + (28 + p1.toNatClampNeg)) (at_C (by decide) (by omega)) rfl 3 (by decide) (xr_26 23 rfl) rfl (v := .int (M.2.2.2 p1.toNatClampNeg 3)) rfl dX7_clubOf_76 ?_
      exact hR _ _ _ _ dX7_clubOf_79 ⟨Eq.symm ((bd_eq hz1 (ite_n c2 (ite_n c3 (ite_n c4 (ite_n c5 (ite_p c6 rfl))))))), rfl⟩
    by_cases c7 : p2 = 4
    · refine j_tableIn h (tgt := 80) dX7_clubOf_20 (by rw [c7]; decide) (by rw [c7]; decide) (by rw [c7]; rfl) (by decide) ?_
      refine j_aload_n h dX7_clubOf_80 rfl 1 rfl ?_
      refine j_get h inlX7 (330 + 0) (ml_get 0) rfl 0 (by decide) (xr_1 19 rfl) rfl (v := .ref (L 0 0)) rfl dX7_clubOf_81 ?_
      refine j_iload_n h dX7_clubOf_84 rfl 2 rfl ?_
      refine j_callI h (n := 1) (c_X1_woodsOfClub l D cy L _ _ _ _ _ (by decide) _ (hG).w) (xg_V (xr_30 20 rfl) (xr_30 21 rfl) (xr_30 22 rfl) (xr_1 18 rfl) (xr_30 23 rfl)) rfl rfl (by decide +kernel) ⟨Nat.le_of_ble_eq_true rfl, Nat.le_of_ble_eq_true rfl⟩ (30 * 0 + 0) (at_G (by decide)) rfl rfl rfl rfl (Nat.le_of_ble_eq_true rfl) dX7_clubOf_85 ⟨by decide, by decide⟩ (fun z8 u' hq => ?_)
      obtain ⟨hz8, rfl⟩ := hq
      exact hR _ _ _ _ dX7_clubOf_88 ⟨Eq.symm ((bd_eq hz1 (ite_n c2 (ite_n c3 (ite_n c4 (ite_n c5 (ite_n c6 (ite_p c7 (bd_eq hz8 rfl))))))))), rfl⟩
    by_cases c9 : p2 = 5
    · refine j_tableIn h (tgt := 89) dX7_clubOf_20 (by rw [c9]; decide) (by rw [c9]; decide) (by rw [c9]; rfl) (by decide) ?_
      refine j_aload_n h dX7_clubOf_89 rfl 1 rfl ?_
      refine j_get h inlX7 (330 + 0) (ml_get 0) rfl 0 (by decide) (xr_1 19 rfl) rfl (v := .ref (L 0 0)) rfl dX7_clubOf_90 ?_
      refine j_iload_n h dX7_clubOf_93 rfl 2 rfl ?_
      refine j_callI h (n := 1) (c_X1_woodsOfClubInShed l D cy L _ _ _ _ _ (by decide) _ (hG).w) (xg_V (xr_31 0 rfl) (xr_12 1 rfl) (xr_12 2 rfl) (xr_1 18 rfl) (xr_12 3 rfl)) rfl rfl (by decide +kernel) ⟨Nat.le_of_ble_eq_true rfl, Nat.le_of_ble_eq_true rfl⟩ (30 * 0 + 0) (at_G (by decide)) rfl rfl rfl rfl (Nat.le_of_ble_eq_true rfl) dX7_clubOf_94 ⟨by decide, by decide⟩ (fun z10 u' hq => ?_)
      obtain ⟨hz10, rfl⟩ := hq
      exact hR _ _ _ _ dX7_clubOf_97 ⟨Eq.symm ((bd_eq hz1 (ite_n c2 (ite_n c3 (ite_n c4 (ite_n c5 (ite_n c6 (ite_n c7 (ite_p c9 (bd_eq hz10 rfl)))))))))), rfl⟩
    refine j_tableOut h (tgt := 98) dX7_clubOf_20 (sw_out6 p2 c3 c4 c5 c6 c7 c9) (by decide) ?_
    refine j_bipush h (v := (-2)) dX7_clubOf_98 (by decide) ?_
    exact hR _ _ _ _ dX7_clubOf_100 ⟨Eq.symm ((bd_eq hz1 (ite_n c2 (ite_n c3 (ite_n c4 (ite_n c5 (ite_n c6 (ite_n c7 (ite_n c9 rfl))))))))), rfl⟩
  · refine j_iconst h (v := (-1)) dX7_clubOf_7 (by decide) ?_
    exact hR _ _ _ _ dX7_clubOf_8 ⟨Eq.symm ((bd_eq hz1 (ite_p c2 rfl))), rfl⟩

def f_X7_rinkAt (M : gM) (X : Nat → Int32) (A : Nat → Nat → Int32) (p1 : Int32) : Int32 :=
  bd (f_X1_rinkInOrder M p1) fun z1 =>
  z1
abbrev rm_X7_rinkAt : Room := { frames := 1, cells := 0, slots := 0, locals := 24 }
set_option maxRecDepth 100000 in
set_option maxHeartbeats 4000000 in
theorem c_X7_rinkAt (l : Launch) (D : gD) (cy : Nat → ClassId) (L : Nat → Nat → Nat) (G : Nat → gM) (X : Nat → Int32) (A : Nat → Nat → Int32) (b : cB) (M : gM) (p1 : Int32) (hG : GI M) : CtI l D cy (CW cy L) yX7_rinkAt cX7_rinkAt 2 (some .int) rm_X7_rinkAt [.ref (L 11 0), .int p1] ((va_up G 0 M, X, A), b) (fun rv u => rv = f_X7_rinkAt M X A p1 ∧ u = ((va_up G 0 M, X, A), b)) 0 0 := by
  refine m_entI cX7_rinkAt 2 (by decide) (Nat.le_of_ble_eq_true rfl) (fun J h hR => ?_)
  show J ((va_up G 0 M, X, A), b) (0, 0) [(0, .ref (L 11 0)), (1, .int p1)] 0 []
  refine j_aload_n h dX7_rinkAt_0 rfl 0 rfl ?_
  refine j_get h inlX7 (330 + 0) (ml_get 0) rfl 0 (by decide) (xr_1 19 rfl) rfl (v := .ref (L 0 0)) rfl dX7_rinkAt_1 ?_
  refine j_iload_n h dX7_rinkAt_4 rfl 1 rfl ?_
  refine j_callI h (n := 1) (c_X1_rinkInOrder l D cy L _ _ _ _ _ (by decide) _ (hG).r) (xg_V (xr_41 5 rfl) (xr_41 6 rfl) (xr_41 7 rfl) (xr_1 18 rfl) (xr_41 8 rfl)) rfl rfl (by decide +kernel) ⟨Nat.le_of_ble_eq_true rfl, Nat.le_of_ble_eq_true rfl⟩ (30 * 0 + 0) (at_G (by decide)) rfl rfl rfl rfl (Nat.le_of_ble_eq_true rfl) dX7_rinkAt_5 ⟨by decide, by decide⟩ (fun z1 u' hq => ?_)
  obtain ⟨hz1, rfl⟩ := hq
  exact hR _ _ _ _ dX7_rinkAt_8 ⟨Eq.symm ((bd_eq hz1 rfl)), rfl⟩

def f_X7_nearest (M : gM) (X : Nat → Int32) (A : Nat → Nat → Int32) (p1 : Int32) (p2 : Int32) : Int32 :=
  bd (f_X1_isRink M p1) fun z1 =>
  if z1 = 0 then
    (-1)
  else
    bd (f_X1_woodInOrder M p1 p2) fun z3 =>
    z3
abbrev rm_X7_nearest : Room := { frames := 3, cells := 0, slots := 0, locals := 71 }
set_option maxRecDepth 100000 in
set_option maxHeartbeats 4000000 in
theorem c_X7_nearest (l : Launch) (D : gD) (cy : Nat → ClassId) (L : Nat → Nat → Nat) (G : Nat → gM) (X : Nat → Int32) (A : Nat → Nat → Int32) (b : cB) (M : gM) (p1 : Int32) (p2 : Int32) (hG : GI M) : CtI l D cy (CW cy L) yX7_nearest cX7_nearest 3 (some .int) rm_X7_nearest [.ref (L 11 0), .int p1, .int p2] ((va_up G 0 M, X, A), b) (fun rv u => rv = f_X7_nearest M X A p1 p2 ∧ u = ((va_up G 0 M, X, A), b)) 0 0 := by
  refine m_entI cX7_nearest 3 (by decide) (Nat.le_of_ble_eq_true rfl) (fun J h hR => ?_)
  show J ((va_up G 0 M, X, A), b) (0, 0) [(0, .ref (L 11 0)), (1, .int p1), (2, .int p2)] 0 []
  refine j_aload_n h dX7_nearest_0 rfl 0 rfl ?_
  refine j_get h inlX7 (330 + 0) (ml_get 0) rfl 0 (by decide) (xr_1 19 rfl) rfl (v := .ref (L 0 0)) rfl dX7_nearest_1 ?_
  refine j_iload_n h dX7_nearest_4 rfl 1 rfl ?_
  refine j_callI h (n := 1) (c_X1_isRink l D cy L _ _ _ _ _ (by decide) _) (xg_V (xr_21 6 rfl) (xr_21 7 rfl) (xr_21 8 rfl) (xr_1 18 rfl) (xr_21 9 rfl)) rfl rfl (by decide +kernel) ⟨Nat.le_of_ble_eq_true rfl, Nat.le_of_ble_eq_true rfl⟩ (30 * 0 + 0) (at_G (by decide)) rfl rfl rfl rfl (Nat.le_of_ble_eq_true rfl) dX7_nearest_5 ⟨by decide, by decide⟩ (fun z1 u' hq => ?_)
  obtain ⟨hz1, rfl, bz1⟩ := hq
  refine j_if_ne h (tgt := 13) dX7_nearest_8 (by decide) (fun c2 => ?_) (fun c2 => ?_)
  · have vp1 : vp_in (p1) 4 := isRink_in (hG).r hz1 c2
    have bp1 : (p1).toNatClampNeg < 4 := vp_lt vp1
    have ep1 : p1 = nI (p1).toNatClampNeg := vp_nI vp1 (by decide)
    refine j_aload_n h dX7_nearest_13 rfl 0 rfl ?_
    refine j_get h inlX7 (330 + 0) (ml_get 0) rfl 0 (by decide) (xr_1 19 rfl) rfl (v := .ref (L 0 0)) rfl dX7_nearest_14 ?_
    refine j_iload_n h dX7_nearest_17 rfl 1 rfl ?_
    refine j_iload_n h dX7_nearest_18 rfl 2 rfl ?_
    refine j_callI h (n := 2) (c_X1_woodInOrder l D cy L _ _ _ _ _ (by decide) _ _ (hG).w) (xg_V (xr_37 0 rfl) (xr_37 1 rfl) (xr_37 2 rfl) (xr_1 18 rfl) (xr_37 3 rfl)) rfl rfl (by decide +kernel) ⟨Nat.le_of_ble_eq_true rfl, Nat.le_of_ble_eq_true rfl⟩ (30 * 0 + 0) (at_G (by decide)) rfl rfl rfl rfl (Nat.le_of_ble_eq_true rfl) dX7_nearest_19 ⟨by decide, by decide⟩ (fun z3 u' hq => ?_)
    obtain ⟨hz3, rfl⟩ := hq
    exact hR _ _ _ _ dX7_nearest_22 ⟨Eq.symm ((bd_eq hz1 (ite_n c2 (bd_eq hz3 rfl)))), rfl⟩
  · refine j_iconst h (v := (-1)) dX7_nearest_11 (by decide) ?_
    exact hR _ _ _ _ dX7_nearest_12 ⟨Eq.symm ((bd_eq hz1 (ite_p c2 rfl))), rfl⟩

def f_X7_shots (M : gM) (X : Nat → Int32) (A : Nat → Nat → Int32) (p1 : Int32) (p2 : Int32) : Int32 :=
  bd (f_X1_isRink M p1) fun z1 =>
  if z1 = 0 then
    (-1)
  else
    bd (f_X5_isPlayed M p1.toNatClampNeg) fun z3 =>
    if z3 = 0 then
      (-4)
    else
      if p2 = 0 then
        bd (f_X1_countShots M p1) fun z6 =>
        z6
      else
        bd (f_X1_countShotsInOrder M p1) fun z7 =>
        z7
abbrev rm_X7_shots : Room := { frames := 4, cells := 0, slots := 0, locals := 97 }
set_option maxRecDepth 100000 in
set_option maxHeartbeats 4000000 in
theorem c_X7_shots (l : Launch) (D : gD) (cy : Nat → ClassId) (L : Nat → Nat → Nat) (G : Nat → gM) (X : Nat → Int32) (A : Nat → Nat → Int32) (b : cB) (M : gM) (p1 : Int32) (p2 : Int32) (hG : GI M) : CtI l D cy (CW cy L) yX7_shots cX7_shots 3 (some .int) rm_X7_shots [.ref (L 11 0), .int p1, .int p2] ((va_up G 0 M, X, A), b) (fun rv u => rv = f_X7_shots M X A p1 p2 ∧ u = ((va_up G 0 M, X, A), b)) 0 0 := by
  refine m_entI cX7_shots 3 (by decide) (Nat.le_of_ble_eq_true rfl) (fun J h hR => ?_)
  show J ((va_up G 0 M, X, A), b) (0, 0) [(0, .ref (L 11 0)), (1, .int p1), (2, .int p2)] 0 []
  refine j_aload_n h dX7_shots_0 rfl 0 rfl ?_
  refine j_get h inlX7 (330 + 0) (ml_get 0) rfl 0 (by decide) (xr_1 19 rfl) rfl (v := .ref (L 0 0)) rfl dX7_shots_1 ?_
  refine j_iload_n h dX7_shots_4 rfl 1 rfl ?_
  refine j_callI h (n := 1) (c_X1_isRink l D cy L _ _ _ _ _ (by decide) _) (xg_V (xr_21 6 rfl) (xr_21 7 rfl) (xr_21 8 rfl) (xr_1 18 rfl) (xr_21 9 rfl)) rfl rfl (by decide +kernel) ⟨Nat.le_of_ble_eq_true rfl, Nat.le_of_ble_eq_true rfl⟩ (30 * 0 + 0) (at_G (by decide)) rfl rfl rfl rfl (Nat.le_of_ble_eq_true rfl) dX7_shots_5 ⟨by decide, by decide⟩ (fun z1 u' hq => ?_)
  obtain ⟨hz1, rfl, bz1⟩ := hq
  refine j_if_ne h (tgt := 13) dX7_shots_8 (by decide) (fun c2 => ?_) (fun c2 => ?_)
  · have vp1 : vp_in (p1) 4 := isRink_in (hG).r hz1 c2
    have bp1 : (p1).toNatClampNeg < 4 := vp_lt vp1
    have ep1 : p1 = nI (p1).toNatClampNeg := vp_nI vp1 (by decide)
    refine j_aload_n h dX7_shots_13 rfl 0 rfl ?_
    refine j_get h inlX7 (330 + 0) (ml_get 0) rfl 0 (by decide) (xr_1 19 rfl) rfl (v := .ref (L 0 0)) rfl dX7_shots_14 ?_
    refine j_get h inlX1 (30 * 0 + 0) (at_G (by decide)) rfl 0 (by decide) (xr_21 2 rfl) rfl (v := .ref (L 0 1)) rfl dX7_shots_17 ?_
    refine j_iload_n h dX7_shots_20 rfl 1 rfl ?_
    refine j_aaldE h (30 * 0 + 1) 1 (at_Ra (by decide)) rfl p1.toNatClampNeg ep1 (by omega) (by decide) dX7_shots_21 ?_
    refine j_callI h (n := 0) (c_X5_isPlayed l D cy L _ _ _ _ _ (by decide) (by omega)) (xg_V (xr_21 10 rfl) (xr_9 23 rfl) (xr_10 0 rfl) (xr_2 23 rfl) (xr_10 1 rfl)) rfl rfl (by decide +kernel) ⟨Nat.le_of_ble_eq_true rfl, Nat.le_of_ble_eq_true rfl⟩ (30 * 0 + (4 + p1.toNatClampNeg)) (at_R (by decide) (by omega)) rfl rfl rfl rfl (Nat.le_of_ble_eq_true rfl) dX7_shots_22 ⟨by decide, by decide⟩ (fun z3 u' hq => ?_)
    obtain ⟨hz3, rfl, bz3⟩ := hq
    refine j_if_ne h (tgt := 31) dX7_shots_25 (by decide) (fun c4 => ?_) (fun c4 => ?_)
    · refine j_iload_n h dX7_shots_31 rfl 2 rfl ?_
      refine j_if_eq h (tgt := 46) dX7_shots_32 (by decide) (fun c5 => ?_) (fun c5 => ?_)
      · refine j_aload_n h dX7_shots_46 rfl 0 rfl ?_
        refine j_get h inlX7 (330 + 0) (ml_get 0) rfl 0 (by decide) (xr_1 19 rfl) rfl (v := .ref (L 0 0)) rfl dX7_shots_47 ?_
        refine j_iload_n h dX7_shots_50 rfl 1 rfl ?_
        refine j_callI h (n := 1) (c_X1_countShots l D cy L _ _ _ _ _ (by decide) _ (hG).w) (xg_V (xr_24 23 rfl) (xr_25 0 rfl) (xr_25 1 rfl) (xr_1 18 rfl) (xr_25 2 rfl)) rfl rfl (by decide +kernel) ⟨Nat.le_of_ble_eq_true rfl, Nat.le_of_ble_eq_true rfl⟩ (30 * 0 + 0) (at_G (by decide)) rfl rfl rfl rfl (Nat.le_of_ble_eq_true rfl) dX7_shots_51 ⟨by decide, by decide⟩ (fun z6 u' hq => ?_)
        obtain ⟨hz6, rfl⟩ := hq
        exact hR _ _ _ _ dX7_shots_54 ⟨Eq.symm ((bd_eq hz1 (ite_n c2 (bd_eq hz3 (ite_n c4 (ite_p c5 (bd_eq hz6 rfl))))))), rfl⟩
      · refine j_aload_n h dX7_shots_35 rfl 0 rfl ?_
        refine j_get h inlX7 (330 + 0) (ml_get 0) rfl 0 (by decide) (xr_1 19 rfl) rfl (v := .ref (L 0 0)) rfl dX7_shots_36 ?_
        refine j_iload_n h dX7_shots_39 rfl 1 rfl ?_
        refine j_callI h (n := 1) (c_X1_countShotsInOrder l D cy L _ _ _ _ _ (by decide) _ (hG).w) (xg_V (xr_40 10 rfl) (xr_40 11 rfl) (xr_40 12 rfl) (xr_1 18 rfl) (xr_40 13 rfl)) rfl rfl (by decide +kernel) ⟨Nat.le_of_ble_eq_true rfl, Nat.le_of_ble_eq_true rfl⟩ (30 * 0 + 0) (at_G (by decide)) rfl rfl rfl rfl (Nat.le_of_ble_eq_true rfl) dX7_shots_40 ⟨by decide, by decide⟩ (fun z7 u' hq => ?_)
        obtain ⟨hz7, rfl⟩ := hq
        refine j_goto h (tgt := 54) dX7_shots_43 (by decide) ?_
        exact hR _ _ _ _ dX7_shots_54 ⟨Eq.symm ((bd_eq hz1 (ite_n c2 (bd_eq hz3 (ite_n c4 (ite_n c5 (bd_eq hz7 rfl))))))), rfl⟩
    · refine j_bipush h (v := (-4)) dX7_shots_28 (by decide) ?_
      exact hR _ _ _ _ dX7_shots_30 ⟨Eq.symm ((bd_eq hz1 (ite_n c2 (bd_eq hz3 (ite_p c4 rfl))))), rfl⟩
  · refine j_iconst h (v := (-1)) dX7_shots_11 (by decide) ?_
    exact hR _ _ _ _ dX7_shots_12 ⟨Eq.symm ((bd_eq hz1 (ite_p c2 rfl))), rfl⟩

def f_X7_would (M : gM) (X : Nat → Int32) (A : Nat → Nat → Int32) (p1 : Int32) (p2 : Int32) (p3 : Int32) (p4 : Int32) (p5 : Int32) : Int32 :=
  bd (f_X1_isRink M p1) fun z1 =>
  if z1 = 0 then
    (-1)
  else
    bd (f_X1_isWood M p2) fun z3 =>
    if z3 = 0 then
      (-1)
    else
      bd (f_X5_holds M p1.toNatClampNeg p3) fun z5 =>
      if z5 = 0 then
        (-2)
      else
        bd (f_X7_isStrength M X A p4) fun z7 =>
        if z7 = 0 then
          (-2)
        else
          bd (f_X1_landing M p1 p2 p3 p4 p5) fun z9 =>
          z9
abbrev rm_X7_would : Room := { frames := 3, cells := 0, slots := 0, locals := 77 }
set_option maxRecDepth 100000 in
set_option maxHeartbeats 4000000 in
theorem c_X7_would (l : Launch) (D : gD) (cy : Nat → ClassId) (L : Nat → Nat → Nat) (G : Nat → gM) (X : Nat → Int32) (A : Nat → Nat → Int32) (b : cB) (M : gM) (p1 : Int32) (p2 : Int32) (p3 : Int32) (p4 : Int32) (p5 : Int32) (hG : GI M) : CtI l D cy (CW cy L) yX7_would cX7_would 6 (some .int) rm_X7_would [.ref (L 11 0), .int p1, .int p2, .int p3, .int p4, .int p5] ((va_up G 0 M, X, A), b) (fun rv u => rv = f_X7_would M X A p1 p2 p3 p4 p5 ∧ u = ((va_up G 0 M, X, A), b)) 0 0 := by
  refine m_entI cX7_would 6 (by decide) (Nat.le_of_ble_eq_true rfl) (fun J h hR => ?_)
  show J ((va_up G 0 M, X, A), b) (0, 0) [(0, .ref (L 11 0)), (1, .int p1), (2, .int p2), (3, .int p3), (4, .int p4), (5, .int p5)] 0 []
  refine j_aload_n h dX7_would_0 rfl 0 rfl ?_
  refine j_get h inlX7 (330 + 0) (ml_get 0) rfl 0 (by decide) (xr_1 19 rfl) rfl (v := .ref (L 0 0)) rfl dX7_would_1 ?_
  refine j_iload_n h dX7_would_4 rfl 1 rfl ?_
  refine j_callI h (n := 1) (c_X1_isRink l D cy L _ _ _ _ _ (by decide) _) (xg_V (xr_21 6 rfl) (xr_21 7 rfl) (xr_21 8 rfl) (xr_1 18 rfl) (xr_21 9 rfl)) rfl rfl (by decide +kernel) ⟨Nat.le_of_ble_eq_true rfl, Nat.le_of_ble_eq_true rfl⟩ (30 * 0 + 0) (at_G (by decide)) rfl rfl rfl rfl (Nat.le_of_ble_eq_true rfl) dX7_would_5 ⟨by decide, by decide⟩ (fun z1 u' hq => ?_)
  obtain ⟨hz1, rfl, bz1⟩ := hq
  refine j_if_eq h (tgt := 22) dX7_would_8 (by decide) (fun c2 => ?_) (fun c2 => ?_)
  · refine j_iconst h (v := (-1)) dX7_would_22 (by decide) ?_
    exact hR _ _ _ _ dX7_would_23 ⟨Eq.symm ((bd_eq hz1 (ite_p c2 rfl))), rfl⟩
  · have vp1 : vp_in (p1) 4 := isRink_in (hG).r hz1 c2
    have bp1 : (p1).toNatClampNeg < 4 := vp_lt vp1
    have ep1 : p1 = nI (p1).toNatClampNeg := vp_nI vp1 (by decide)
    refine j_aload_n h dX7_would_11 rfl 0 rfl ?_
    refine j_get h inlX7 (330 + 0) (ml_get 0) rfl 0 (by decide) (xr_1 19 rfl) rfl (v := .ref (L 0 0)) rfl dX7_would_12 ?_
    refine j_iload_n h dX7_would_15 rfl 2 rfl ?_
    refine j_callI h (n := 1) (c_X1_isWood l D cy L _ _ _ _ _ (by decide) _) (xg_V (xr_23 1 rfl) (xr_23 2 rfl) (xr_23 3 rfl) (xr_1 18 rfl) (xr_23 4 rfl)) rfl rfl (by decide +kernel) ⟨Nat.le_of_ble_eq_true rfl, Nat.le_of_ble_eq_true rfl⟩ (30 * 0 + 0) (at_G (by decide)) rfl rfl rfl rfl (Nat.le_of_ble_eq_true rfl) dX7_would_16 ⟨by decide, by decide⟩ (fun z3 u' hq => ?_)
    obtain ⟨hz3, rfl, bz3⟩ := hq
    refine j_if_ne h (tgt := 24) dX7_would_19 (by decide) (fun c4 => ?_) (fun c4 => ?_)
    · have vp2 : vp_in (p2) 16 := isWood_in (hG).w hz3 c4
      have bp2 : (p2).toNatClampNeg < 16 := vp_lt vp2
      have ep2 : p2 = nI (p2).toNatClampNeg := vp_nI vp2 (by decide)
      refine j_aload_n h dX7_would_24 rfl 0 rfl ?_
      refine j_get h inlX7 (330 + 0) (ml_get 0) rfl 0 (by decide) (xr_1 19 rfl) rfl (v := .ref (L 0 0)) rfl dX7_would_25 ?_
      refine j_get h inlX1 (30 * 0 + 0) (at_G (by decide)) rfl 0 (by decide) (xr_21 2 rfl) rfl (v := .ref (L 0 1)) rfl dX7_would_28 ?_
      refine j_iload_n h dX7_would_31 rfl 1 rfl ?_
      refine j_aaldE h (30 * 0 + 1) 1 (at_Ra (by decide)) rfl p1.toNatClampNeg ep1 (by omega) (by decide) dX7_would_32 ?_
      refine j_iload_n h dX7_would_33 rfl 3 rfl ?_
      refine j_callI h (n := 1) (c_X5_holds l D cy L _ _ _ _ _ (by decide) (by omega) _) (xg_V (xr_23 5 rfl) (xr_23 6 rfl) (xr_23 7 rfl) (xr_2 23 rfl) (xr_23 8 rfl)) rfl rfl (by decide +kernel) ⟨Nat.le_of_ble_eq_true rfl, Nat.le_of_ble_eq_true rfl⟩ (30 * 0 + (4 + p1.toNatClampNeg)) (at_R (by decide) (by omega)) rfl rfl rfl rfl (Nat.le_of_ble_eq_true rfl) dX7_would_34 ⟨by decide, by decide⟩ (fun z5 u' hq => ?_)
      obtain ⟨hz5, rfl, bz5⟩ := hq
      refine j_if_eq h (tgt := 48) dX7_would_37 (by decide) (fun c6 => ?_) (fun c6 => ?_)
      · refine j_bipush h (v := (-2)) dX7_would_48 (by decide) ?_
        exact hR _ _ _ _ dX7_would_50 ⟨Eq.symm ((bd_eq hz1 (ite_n c2 (bd_eq hz3 (ite_n c4 (bd_eq hz5 (ite_p c6 rfl))))))), rfl⟩
      · refine j_iload h dX7_would_40 4 rfl ?_
        refine j_callS h (n := 1) (c_X7_isStrength l D cy L _ _ _ _ _ _) (xg_S (xr_23 9 rfl) (xr_23 10 rfl) (xr_1 2 rfl) (xr_23 11 rfl)) rfl rfl (by decide +kernel) ⟨Nat.le_of_ble_eq_true rfl, Nat.le_of_ble_eq_true rfl⟩  rfl rfl (Nat.le_of_ble_eq_true rfl) dX7_would_42 ⟨by decide, by decide⟩ (fun z7 u' hq => ?_)
        obtain ⟨hz7, rfl, bz7⟩ := hq
        refine j_if_ne h (tgt := 51) dX7_would_45 (by decide) (fun c8 => ?_) (fun c8 => ?_)
        · refine j_aload_n h dX7_would_51 rfl 0 rfl ?_
          refine j_get h inlX7 (330 + 0) (ml_get 0) rfl 0 (by decide) (xr_1 19 rfl) rfl (v := .ref (L 0 0)) rfl dX7_would_52 ?_
          refine j_iload_n h dX7_would_55 rfl 1 rfl ?_
          refine j_iload_n h dX7_would_56 rfl 2 rfl ?_
          refine j_iload_n h dX7_would_57 rfl 3 rfl ?_
          refine j_iload h dX7_would_58 4 rfl ?_
          refine j_iload h dX7_would_60 5 rfl ?_
          refine j_callI h (n := 5) (c_X1_landing l D cy L _ _ _ _ _ (by decide) _ _ _ _ _ (vp_of (j := p1.toNatClampNeg) ep1 (by omega) (by decide)) (vp_of (j := p2.toNatClampNeg) ep2 (by omega) (by decide)) (hG).w) (xg_V (xr_23 16 rfl) (xr_23 17 rfl) (xr_23 18 rfl) (xr_1 18 rfl) (xr_23 19 rfl)) rfl rfl (by decide +kernel) ⟨Nat.le_of_ble_eq_true rfl, Nat.le_of_ble_eq_true rfl⟩ (30 * 0 + 0) (at_G (by decide)) rfl rfl rfl rfl (Nat.le_of_ble_eq_true rfl) dX7_would_62 ⟨by decide, by decide⟩ (fun z9 u' hq => ?_)
          obtain ⟨hz9, rfl⟩ := hq
          exact hR _ _ _ _ dX7_would_65 ⟨Eq.symm ((bd_eq hz1 (ite_n c2 (bd_eq hz3 (ite_n c4 (bd_eq hz5 (ite_n c6 (bd_eq hz7 (ite_n c8 (bd_eq hz9 rfl)))))))))), rfl⟩
        · refine j_bipush h (v := (-2)) dX7_would_48 (by decide) ?_
          exact hR _ _ _ _ dX7_would_50 ⟨Eq.symm ((bd_eq hz1 (ite_n c2 (bd_eq hz3 (ite_n c4 (bd_eq hz5 (ite_n c6 (bd_eq hz7 (ite_p c8 rfl))))))))), rfl⟩
    · refine j_iconst h (v := (-1)) dX7_would_22 (by decide) ?_
      exact hR _ _ _ _ dX7_would_23 ⟨Eq.symm ((bd_eq hz1 (ite_n c2 (bd_eq hz3 (ite_p c4 rfl))))), rfl⟩

def f_X7_bestStrength_l70 (M : gM) (X : Nat → Int32) (A : Nat → Nat → Int32) (p1 : Int32) (p2 : Int32) (p3 : Int32) (p4 : Int32) : Nat → Nat → Int32 → Int32 → Int32 × Int32
  | 0, _, best, least => (best, least)
  | n + 1, k, best, least =>
    if 20 < (nI k) then
      (best, least)
    else
      bd (f_X1_landing M p1 p2 p3 (nI k) p4) fun z10 =>
      if z10 = (-4) then
        f_X7_bestStrength_l70 M X A p1 p2 p3 p4 n (k + 1) best least
      else
        bd (f_X5_distance M p1.toNatClampNeg (z10 / 100) (z10 - z10 / 100 * 100)) fun z12 =>
        if least ≤ z12 then
          f_X7_bestStrength_l70 M X A p1 p2 p3 p4 n (k + 1) best least
        else
          f_X7_bestStrength_l70 M X A p1 p2 p3 p4 n (k + 1) (nI k) z12
def f_X7_bestStrength (M : gM) (X : Nat → Int32) (A : Nat → Nat → Int32) (p1 : Int32) (p2 : Int32) (p3 : Int32) (p4 : Int32) : Int32 :=
  bd (f_X1_isRink M p1) fun z1 =>
  if z1 = 0 then
    (-1)
  else
    bd (f_X1_isWood M p2) fun z3 =>
    if z3 = 0 then
      (-1)
    else
      bd (f_X5_holds M p1.toNatClampNeg p3) fun z5 =>
      if z5 = 0 then
        (-2)
      else
        bd (f_X5_isPlayed M p1.toNatClampNeg) fun z7 =>
        if z7 = 0 then
          (-4)
        else
          bd (f_X7_bestStrength_l70 M X A p1 p2 p3 p4 21 1 (-4) 1000000) fun z14 =>
          z14.1
abbrev rm_X7_bestStrength : Room := { frames := 3, cells := 0, slots := 0, locals := 77 }
set_option maxRecDepth 100000 in
set_option maxHeartbeats 4000000 in
theorem c_X7_bestStrength (l : Launch) (D : gD) (cy : Nat → ClassId) (L : Nat → Nat → Nat) (G : Nat → gM) (X : Nat → Int32) (A : Nat → Nat → Int32) (b : cB) (M : gM) (p1 : Int32) (p2 : Int32) (p3 : Int32) (p4 : Int32) (hG : GI M) : CtI l D cy (CW cy L) yX7_bestStrength cX7_bestStrength 11 (some .int) rm_X7_bestStrength [.ref (L 11 0), .int p1, .int p2, .int p3, .int p4] ((va_up G 0 M, X, A), b) (fun rv u => rv = f_X7_bestStrength M X A p1 p2 p3 p4 ∧ u = ((va_up G 0 M, X, A), b)) 0 0 := by
  refine m_entI cX7_bestStrength 11 (by decide) (Nat.le_of_ble_eq_true rfl) (fun J h hR => ?_)
  show J ((va_up G 0 M, X, A), b) (0, 0) [(0, .ref (L 11 0)), (1, .int p1), (2, .int p2), (3, .int p3), (4, .int p4)] 0 []
  refine j_aload_n h dX7_bestStrength_0 rfl 0 rfl ?_
  refine j_get h inlX7 (330 + 0) (ml_get 0) rfl 0 (by decide) (xr_1 19 rfl) rfl (v := .ref (L 0 0)) rfl dX7_bestStrength_1 ?_
  refine j_iload_n h dX7_bestStrength_4 rfl 1 rfl ?_
  refine j_callI h (n := 1) (c_X1_isRink l D cy L _ _ _ _ _ (by decide) _) (xg_V (xr_21 6 rfl) (xr_21 7 rfl) (xr_21 8 rfl) (xr_1 18 rfl) (xr_21 9 rfl)) rfl rfl (by decide +kernel) ⟨Nat.le_of_ble_eq_true rfl, Nat.le_of_ble_eq_true rfl⟩ (30 * 0 + 0) (at_G (by decide)) rfl rfl rfl rfl (Nat.le_of_ble_eq_true rfl) dX7_bestStrength_5 ⟨by decide, by decide⟩ (fun z1 u' hq => ?_)
  obtain ⟨hz1, rfl, bz1⟩ := hq
  refine j_if_eq h (tgt := 22) dX7_bestStrength_8 (by decide) (fun c2 => ?_) (fun c2 => ?_)
  · refine j_iconst h (v := (-1)) dX7_bestStrength_22 (by decide) ?_
    exact hR _ _ _ _ dX7_bestStrength_23 ⟨Eq.symm ((bd_eq hz1 (ite_p c2 rfl))), rfl⟩
  · have vp1 : vp_in (p1) 4 := isRink_in (hG).r hz1 c2
    have bp1 : (p1).toNatClampNeg < 4 := vp_lt vp1
    have ep1 : p1 = nI (p1).toNatClampNeg := vp_nI vp1 (by decide)
    refine j_aload_n h dX7_bestStrength_11 rfl 0 rfl ?_
    refine j_get h inlX7 (330 + 0) (ml_get 0) rfl 0 (by decide) (xr_1 19 rfl) rfl (v := .ref (L 0 0)) rfl dX7_bestStrength_12 ?_
    refine j_iload_n h dX7_bestStrength_15 rfl 2 rfl ?_
    refine j_callI h (n := 1) (c_X1_isWood l D cy L _ _ _ _ _ (by decide) _) (xg_V (xr_23 1 rfl) (xr_23 2 rfl) (xr_23 3 rfl) (xr_1 18 rfl) (xr_23 4 rfl)) rfl rfl (by decide +kernel) ⟨Nat.le_of_ble_eq_true rfl, Nat.le_of_ble_eq_true rfl⟩ (30 * 0 + 0) (at_G (by decide)) rfl rfl rfl rfl (Nat.le_of_ble_eq_true rfl) dX7_bestStrength_16 ⟨by decide, by decide⟩ (fun z3 u' hq => ?_)
    obtain ⟨hz3, rfl, bz3⟩ := hq
    refine j_if_ne h (tgt := 24) dX7_bestStrength_19 (by decide) (fun c4 => ?_) (fun c4 => ?_)
    · have vp2 : vp_in (p2) 16 := isWood_in (hG).w hz3 c4
      have bp2 : (p2).toNatClampNeg < 16 := vp_lt vp2
      have ep2 : p2 = nI (p2).toNatClampNeg := vp_nI vp2 (by decide)
      refine j_aload_n h dX7_bestStrength_24 rfl 0 rfl ?_
      refine j_get h inlX7 (330 + 0) (ml_get 0) rfl 0 (by decide) (xr_1 19 rfl) rfl (v := .ref (L 0 0)) rfl dX7_bestStrength_25 ?_
      refine j_get h inlX1 (30 * 0 + 0) (at_G (by decide)) rfl 0 (by decide) (xr_21 2 rfl) rfl (v := .ref (L 0 1)) rfl dX7_bestStrength_28 ?_
      refine j_iload_n h dX7_bestStrength_31 rfl 1 rfl ?_
      refine j_aaldE h (30 * 0 + 1) 1 (at_Ra (by decide)) rfl p1.toNatClampNeg ep1 (by omega) (by decide) dX7_bestStrength_32 ?_
      refine j_astore h (lv' := [(5, _), (0, _), (1, _), (2, _), (3, _), (4, _)]) dX7_bestStrength_33 (by decide) rfl ?_
      refine j_aload h dX7_bestStrength_35 0 rfl ?_
      refine j_iload_n h dX7_bestStrength_37 rfl 4 rfl ?_
      refine j_callI h (n := 1) (c_X5_holds l D cy L _ _ _ _ _ (by decide) (by omega) _) (xg_V (xr_23 5 rfl) (xr_23 6 rfl) (xr_23 7 rfl) (xr_2 23 rfl) (xr_23 8 rfl)) rfl rfl (by decide +kernel) ⟨Nat.le_of_ble_eq_true rfl, Nat.le_of_ble_eq_true rfl⟩ (30 * 0 + (4 + p1.toNatClampNeg)) (at_R (by decide) (by omega)) rfl rfl rfl rfl (Nat.le_of_ble_eq_true rfl) dX7_bestStrength_38 ⟨by decide, by decide⟩ (fun z5 u' hq => ?_)
      obtain ⟨hz5, rfl, bz5⟩ := hq
      refine j_if_ne h (tgt := 47) dX7_bestStrength_41 (by decide) (fun c6 => ?_) (fun c6 => ?_)
      · refine j_aload h dX7_bestStrength_47 0 rfl ?_
        refine j_callI h (n := 0) (c_X5_isPlayed l D cy L _ _ _ _ _ (by decide) (by omega)) (xg_V (xr_21 10 rfl) (xr_9 23 rfl) (xr_10 0 rfl) (xr_2 23 rfl) (xr_10 1 rfl)) rfl rfl (by decide +kernel) ⟨Nat.le_of_ble_eq_true rfl, Nat.le_of_ble_eq_true rfl⟩ (30 * 0 + (4 + p1.toNatClampNeg)) (at_R (by decide) (by omega)) rfl rfl rfl rfl (Nat.le_of_ble_eq_true rfl) dX7_bestStrength_49 ⟨by decide, by decide⟩ (fun z7 u' hq => ?_)
        obtain ⟨hz7, rfl, bz7⟩ := hq
        refine j_if_ne h (tgt := 58) dX7_bestStrength_52 (by decide) (fun c8 => ?_) (fun c8 => ?_)
        · refine j_bipush h (v := (-4)) dX7_bestStrength_58 (by decide) ?_
          refine j_istore h (lv' := [(6, _), (5, _), (0, _), (1, _), (2, _), (3, _), (4, _)]) dX7_bestStrength_60 (by decide) rfl ?_
          refine j_ldcw h (xr_40 5 rfl) dX7_bestStrength_62 ?_
          refine j_istore h (lv' := [(7, _), (6, _), (5, _), (0, _), (1, _), (2, _), (3, _), (4, _)]) dX7_bestStrength_65 (by decide) rfl ?_
          refine j_iconst h (v := 1) dX7_bestStrength_67 (by decide) ?_
          refine j_istore h (lv' := [(8, _), (7, _), (6, _), (5, _), (0, _), (1, _), (2, _), (3, _), (4, _)]) dX7_bestStrength_68 (by decide) rfl ?_
          have lp70 : ∀ (n k : Nat) (best : Int32) (least : Int32), n + k = 22 → k ≤ 21 → (∀ z : Int32 × Int32, z = f_X7_bestStrength_l70 M X A p1 p2 p3 p4 n k best least → J ((va_up G 0 M, X, A), b) (0, 0) [(0, .ref (L 11 0)), (1, .int p1), (2, .int p2), (3, .int p3), (4, .int p4), (5, .ref (L 0 (4 + p1.toNatClampNeg))), (6, .int z.1), (7, .int z.2)] 138 []) → J ((va_up G 0 M, X, A), b) (0, 0) [(0, .ref (L 11 0)), (1, .int p1), (2, .int p2), (3, .int p3), (4, .int p4), (5, .ref (L 0 (4 + p1.toNatClampNeg))), (6, .int best), (7, .int least), (8, .int (nI k))] 70 [] := by
            intro n
            induction n with
            | zero => intro k best least hn hk hf; omega
            | succ n ih =>
              intro k best least hn hk hf
              refine j_iload h dX7_bestStrength_70 8 rfl ?_
              refine j_bipush h (v := 20) dX7_bestStrength_72 (by decide) ?_
              refine j_icmp_gt h (tgt := 138) dX7_bestStrength_74 (by decide) (fun c9 => ?_) (fun c9 => ?_)
              · refine j_sub h [0, 1, 2, 3, 4, 5, 6, 7] rfl ?_
                exact hf (_, _) (Eq.symm ((ite_p c9 rfl)))
              · have hk1 : k < 21 := gt_lt (by decide) hk c9
                refine j_aload_n h dX7_bestStrength_77 rfl 0 rfl ?_
                refine j_get h inlX7 (330 + 0) (ml_get 0) rfl 0 (by decide) (xr_1 19 rfl) rfl (v := .ref (L 0 0)) rfl dX7_bestStrength_78 ?_
                refine j_iload_n h dX7_bestStrength_81 rfl 1 rfl ?_
                refine j_iload_n h dX7_bestStrength_82 rfl 2 rfl ?_
                refine j_iload_n h dX7_bestStrength_83 rfl 3 rfl ?_
                refine j_iload h dX7_bestStrength_84 8 rfl ?_
                refine j_iload h dX7_bestStrength_86 4 rfl ?_
                refine j_callI h (n := 5) (c_X1_landing l D cy L _ _ _ _ _ (by decide) _ _ _ _ _ (vp_of (j := p1.toNatClampNeg) ep1 (by omega) (by decide)) (vp_of (j := p2.toNatClampNeg) ep2 (by omega) (by decide)) (hG).w) (xg_V (xr_23 16 rfl) (xr_23 17 rfl) (xr_23 18 rfl) (xr_1 18 rfl) (xr_23 19 rfl)) rfl rfl (by decide +kernel) ⟨Nat.le_of_ble_eq_true rfl, Nat.le_of_ble_eq_true rfl⟩ (30 * 0 + 0) (at_G (by decide)) rfl rfl rfl rfl (Nat.le_of_ble_eq_true rfl) dX7_bestStrength_88 ⟨by decide, by decide⟩ (fun z10 u' hq => ?_)
                obtain ⟨hz10, rfl⟩ := hq
                refine j_istore h (lv' := [(9, _), (0, _), (1, _), (2, _), (3, _), (4, _), (5, _), (6, _), (7, _), (8, _)]) dX7_bestStrength_91 (by decide) rfl ?_
                refine j_iload h dX7_bestStrength_93 0 rfl ?_
                refine j_bipush h (v := (-4)) dX7_bestStrength_95 (by decide) ?_
                refine j_icmp_eq h (tgt := 132) dX7_bestStrength_97 (by decide) (fun c11 => ?_) (fun c11 => ?_)
                · refine j_iinc h (v := nI (k + 1)) (lv' := [(8, _), (9, _), (0, _), (1, _), (2, _), (3, _), (4, _), (5, _), (6, _), (7, _)]) dX7_bestStrength_132 (k := 9) rfl (nI_1 k) (by decide) rfl ?_
                  refine j_goto h (tgt := 70) dX7_bestStrength_135 (by decide) ?_
                  refine j_sub h [2, 3, 4, 5, 6, 7, 8, 9, 0] rfl ?_
                  exact ih (k + 1) _ _ (by omega) (by omega) (fun z hz => hf z (hz.trans (Eq.symm ((ite_n c9 (bd_eq hz10 (ite_p c11 rfl)))))))
                · refine j_aload h dX7_bestStrength_100 6 rfl ?_
                  refine j_iload h dX7_bestStrength_102 0 rfl ?_
                  refine j_bipush h (v := 100) dX7_bestStrength_104 (by decide) ?_
                  refine j_idiv h dX7_bestStrength_106 (by decide) ?_
                  refine j_iload h dX7_bestStrength_107 0 rfl ?_
                  refine j_bipush h (v := 100) dX7_bestStrength_109 (by decide) ?_
                  refine j_irem h dX7_bestStrength_111 (by decide) ?_
                  refine j_callI h (n := 2) (c_X5_distance l D cy L _ _ _ _ _ (by decide) (by omega) _ _) (xg_V (xr_24 11 rfl) (xr_24 12 rfl) (xr_24 13 rfl) (xr_2 23 rfl) (xr_24 14 rfl)) rfl rfl (by decide +kernel) ⟨Nat.le_of_ble_eq_true rfl, Nat.le_of_ble_eq_true rfl⟩ (30 * 0 + (4 + p1.toNatClampNeg)) (at_R (by decide) (by omega)) rfl rfl rfl rfl (Nat.le_of_ble_eq_true rfl) dX7_bestStrength_112 ⟨by decide, by decide⟩ (fun z12 u' hq => ?_)
                  obtain ⟨hz12, rfl⟩ := hq
                  refine j_istore h (lv' := [(10, _), (9, _), (0, _), (1, _), (2, _), (3, _), (4, _), (5, _), (6, _), (7, _), (8, _)]) dX7_bestStrength_115 (by decide) rfl ?_
                  refine j_iload h dX7_bestStrength_117 0 rfl ?_
                  refine j_iload h dX7_bestStrength_119 9 rfl ?_
                  refine j_icmp_ge h (tgt := 132) dX7_bestStrength_121 (by decide) (fun c13 => ?_) (fun c13 => ?_)
                  · refine j_iinc h (v := nI (k + 1)) (lv' := [(8, _), (10, _), (9, _), (0, _), (1, _), (2, _), (3, _), (4, _), (5, _), (6, _), (7, _)]) dX7_bestStrength_132 (k := 10) rfl (nI_1 k) (by decide) rfl ?_
                    refine j_goto h (tgt := 70) dX7_bestStrength_135 (by decide) ?_
                    refine j_sub h [3, 4, 5, 6, 7, 8, 9, 10, 0] rfl ?_
                    exact ih (k + 1) _ _ (by omega) (by omega) (fun z hz => hf z (hz.trans (Eq.symm ((ite_n c9 (bd_eq hz10 (ite_n c11 (bd_eq hz12 (ite_p c13 rfl)))))))))
                  · refine j_iload h dX7_bestStrength_124 0 rfl ?_
                    refine j_istore h (lv' := [(7, _), (10, _), (9, _), (0, _), (1, _), (2, _), (3, _), (4, _), (5, _), (6, _), (8, _)]) dX7_bestStrength_126 (by decide) rfl ?_
                    refine j_iload h dX7_bestStrength_128 10 rfl ?_
                    refine j_istore h (lv' := [(6, _), (7, _), (10, _), (9, _), (0, _), (1, _), (2, _), (3, _), (4, _), (5, _), (8, _)]) dX7_bestStrength_130 (by decide) rfl ?_
                    refine j_iinc h (v := nI (k + 1)) (lv' := [(8, _), (6, _), (7, _), (10, _), (9, _), (0, _), (1, _), (2, _), (3, _), (4, _), (5, _)]) dX7_bestStrength_132 (k := 10) rfl (nI_1 k) (by decide) rfl ?_
                    refine j_goto h (tgt := 70) dX7_bestStrength_135 (by decide) ?_
                    refine j_sub h [5, 6, 7, 8, 9, 10, 1, 2, 0] rfl ?_
                    exact ih (k + 1) _ _ (by omega) (by omega) (fun z hz => hf z (hz.trans (Eq.symm ((ite_n c9 (bd_eq hz10 (ite_n c11 (bd_eq hz12 (ite_n c13 rfl)))))))))
          refine j_sub h [4, 5, 6, 7, 8, 3, 2, 1, 0] rfl ?_
          refine lp70 21 1 _ _ (by omega) (by omega) (fun z14 hz14 => ?_)
          refine j_iload h dX7_bestStrength_138 6 rfl ?_
          exact hR _ _ _ _ dX7_bestStrength_140 ⟨Eq.symm ((bd_eq hz1 (ite_n c2 (bd_eq hz3 (ite_n c4 (bd_eq hz5 (ite_n c6 (bd_eq hz7 (ite_n c8 (bd_eq hz14 rfl)))))))))), rfl⟩
        · refine j_bipush h (v := (-4)) dX7_bestStrength_55 (by decide) ?_
          exact hR _ _ _ _ dX7_bestStrength_57 ⟨Eq.symm ((bd_eq hz1 (ite_n c2 (bd_eq hz3 (ite_n c4 (bd_eq hz5 (ite_n c6 (bd_eq hz7 (ite_p c8 rfl))))))))), rfl⟩
      · refine j_bipush h (v := (-2)) dX7_bestStrength_44 (by decide) ?_
        exact hR _ _ _ _ dX7_bestStrength_46 ⟨Eq.symm ((bd_eq hz1 (ite_n c2 (bd_eq hz3 (ite_n c4 (bd_eq hz5 (ite_p c6 rfl))))))), rfl⟩
    · refine j_iconst h (v := (-1)) dX7_bestStrength_22 (by decide) ?_
      exact hR _ _ _ _ dX7_bestStrength_23 ⟨Eq.symm ((bd_eq hz1 (ite_n c2 (bd_eq hz3 (ite_p c4 rfl))))), rfl⟩

def f_X7_wetIn (M : gM) (X : Nat → Int32) (A : Nat → Nat → Int32) (p1 : Int32) (p2 : Int32) : Int32 :=
  bd (f_X1_isRink M p1) fun z1 =>
  if z1 = 0 then
    (-1)
  else
    if p2 < 0 then
      (-2)
    else
      if p2 ≤ 40 then
        bd (f_X1_wetAhead M p1 p2) fun z5 =>
        z5
      else
        (-2)
abbrev rm_X7_wetIn : Room := { frames := 3, cells := 0, slots := 0, locals := 66 }
set_option maxRecDepth 100000 in
set_option maxHeartbeats 4000000 in
theorem c_X7_wetIn (l : Launch) (D : gD) (cy : Nat → ClassId) (L : Nat → Nat → Nat) (G : Nat → gM) (X : Nat → Int32) (A : Nat → Nat → Int32) (b : cB) (M : gM) (p1 : Int32) (p2 : Int32) (hG : GI M) : CtI l D cy (CW cy L) yX7_wetIn cX7_wetIn 3 (some .int) rm_X7_wetIn [.ref (L 11 0), .int p1, .int p2] ((va_up G 0 M, X, A), b) (fun rv u => rv = f_X7_wetIn M X A p1 p2 ∧ u = ((va_up G 0 M, X, A), b)) 0 0 := by
  refine m_entI cX7_wetIn 3 (by decide) (Nat.le_of_ble_eq_true rfl) (fun J h hR => ?_)
  show J ((va_up G 0 M, X, A), b) (0, 0) [(0, .ref (L 11 0)), (1, .int p1), (2, .int p2)] 0 []
  refine j_aload_n h dX7_wetIn_0 rfl 0 rfl ?_
  refine j_get h inlX7 (330 + 0) (ml_get 0) rfl 0 (by decide) (xr_1 19 rfl) rfl (v := .ref (L 0 0)) rfl dX7_wetIn_1 ?_
  refine j_iload_n h dX7_wetIn_4 rfl 1 rfl ?_
  refine j_callI h (n := 1) (c_X1_isRink l D cy L _ _ _ _ _ (by decide) _) (xg_V (xr_21 6 rfl) (xr_21 7 rfl) (xr_21 8 rfl) (xr_1 18 rfl) (xr_21 9 rfl)) rfl rfl (by decide +kernel) ⟨Nat.le_of_ble_eq_true rfl, Nat.le_of_ble_eq_true rfl⟩ (30 * 0 + 0) (at_G (by decide)) rfl rfl rfl rfl (Nat.le_of_ble_eq_true rfl) dX7_wetIn_5 ⟨by decide, by decide⟩ (fun z1 u' hq => ?_)
  obtain ⟨hz1, rfl, bz1⟩ := hq
  refine j_if_ne h (tgt := 13) dX7_wetIn_8 (by decide) (fun c2 => ?_) (fun c2 => ?_)
  · have vp1 : vp_in (p1) 4 := isRink_in (hG).r hz1 c2
    have bp1 : (p1).toNatClampNeg < 4 := vp_lt vp1
    have ep1 : p1 = nI (p1).toNatClampNeg := vp_nI vp1 (by decide)
    refine j_iload_n h dX7_wetIn_13 rfl 2 rfl ?_
    refine j_if_lt h (tgt := 23) dX7_wetIn_14 (by decide) (fun c3 => ?_) (fun c3 => ?_)
    · refine j_bipush h (v := (-2)) dX7_wetIn_23 (by decide) ?_
      exact hR _ _ _ _ dX7_wetIn_25 ⟨Eq.symm ((bd_eq hz1 (ite_n c2 (ite_p c3 rfl)))), rfl⟩
    · refine j_iload_n h dX7_wetIn_17 rfl 2 rfl ?_
      refine j_bipush h (v := 40) dX7_wetIn_18 (by decide) ?_
      refine j_icmp_le h (tgt := 26) dX7_wetIn_20 (by decide) (fun c4 => ?_) (fun c4 => ?_)
      · have hh : p2 ≤ nI 40 := c4
        refine j_aload_n h dX7_wetIn_26 rfl 0 rfl ?_
        refine j_get h inlX7 (330 + 0) (ml_get 0) rfl 0 (by decide) (xr_1 19 rfl) rfl (v := .ref (L 0 0)) rfl dX7_wetIn_27 ?_
        refine j_iload_n h dX7_wetIn_30 rfl 1 rfl ?_
        refine j_iload_n h dX7_wetIn_31 rfl 2 rfl ?_
        refine j_callI h (n := 2) (c_X1_wetAhead l D cy L _ _ _ _ _ (by decide) _ _ (vp_of (j := p1.toNatClampNeg) ep1 (by omega) (by decide)) hh) (xg_V (xr_32 6 rfl) (xr_32 7 rfl) (xr_32 8 rfl) (xr_1 18 rfl) (xr_32 9 rfl)) rfl rfl (by decide +kernel) ⟨Nat.le_of_ble_eq_true rfl, Nat.le_of_ble_eq_true rfl⟩ (30 * 0 + 0) (at_G (by decide)) rfl rfl rfl rfl (Nat.le_of_ble_eq_true rfl) dX7_wetIn_32 ⟨by decide, by decide⟩ (fun z5 u' hq => ?_)
        obtain ⟨hz5, rfl⟩ := hq
        exact hR _ _ _ _ dX7_wetIn_35 ⟨Eq.symm ((bd_eq hz1 (ite_n c2 (ite_n c3 (ite_p c4 (bd_eq hz5 rfl)))))), rfl⟩
      · refine j_bipush h (v := (-2)) dX7_wetIn_23 (by decide) ?_
        exact hR _ _ _ _ dX7_wetIn_25 ⟨Eq.symm ((bd_eq hz1 (ite_n c2 (ite_n c3 (ite_n c4 rfl))))), rfl⟩
  · refine j_iconst h (v := (-1)) dX7_wetIn_11 (by decide) ?_
    exact hR _ _ _ _ dX7_wetIn_12 ⟨Eq.symm ((bd_eq hz1 (ite_p c2 rfl))), rfl⟩

def f_X7_castsIn (M : gM) (X : Nat → Int32) (A : Nat → Nat → Int32) (p1 : Int32) (p2 : Int32) : Int32 :=
  bd (f_X1_isRink M p1) fun z1 =>
  if z1 = 0 then
    (-1)
  else
    if p2 < 0 then
      (-2)
    else
      if p2 ≤ 40 then
        bd (f_X1_castsAhead M p1 p2) fun z5 =>
        z5
      else
        (-2)
abbrev rm_X7_castsIn : Room := { frames := 3, cells := 0, slots := 0, locals := 68 }
set_option maxRecDepth 100000 in
set_option maxHeartbeats 4000000 in
theorem c_X7_castsIn (l : Launch) (D : gD) (cy : Nat → ClassId) (L : Nat → Nat → Nat) (G : Nat → gM) (X : Nat → Int32) (A : Nat → Nat → Int32) (b : cB) (M : gM) (p1 : Int32) (p2 : Int32) (hG : GI M) : CtI l D cy (CW cy L) yX7_castsIn cX7_castsIn 3 (some .int) rm_X7_castsIn [.ref (L 11 0), .int p1, .int p2] ((va_up G 0 M, X, A), b) (fun rv u => rv = f_X7_castsIn M X A p1 p2 ∧ u = ((va_up G 0 M, X, A), b)) 0 0 := by
  refine m_entI cX7_castsIn 3 (by decide) (Nat.le_of_ble_eq_true rfl) (fun J h hR => ?_)
  show J ((va_up G 0 M, X, A), b) (0, 0) [(0, .ref (L 11 0)), (1, .int p1), (2, .int p2)] 0 []
  refine j_aload_n h dX7_castsIn_0 rfl 0 rfl ?_
  refine j_get h inlX7 (330 + 0) (ml_get 0) rfl 0 (by decide) (xr_1 19 rfl) rfl (v := .ref (L 0 0)) rfl dX7_castsIn_1 ?_
  refine j_iload_n h dX7_castsIn_4 rfl 1 rfl ?_
  refine j_callI h (n := 1) (c_X1_isRink l D cy L _ _ _ _ _ (by decide) _) (xg_V (xr_21 6 rfl) (xr_21 7 rfl) (xr_21 8 rfl) (xr_1 18 rfl) (xr_21 9 rfl)) rfl rfl (by decide +kernel) ⟨Nat.le_of_ble_eq_true rfl, Nat.le_of_ble_eq_true rfl⟩ (30 * 0 + 0) (at_G (by decide)) rfl rfl rfl rfl (Nat.le_of_ble_eq_true rfl) dX7_castsIn_5 ⟨by decide, by decide⟩ (fun z1 u' hq => ?_)
  obtain ⟨hz1, rfl, bz1⟩ := hq
  refine j_if_ne h (tgt := 13) dX7_castsIn_8 (by decide) (fun c2 => ?_) (fun c2 => ?_)
  · have vp1 : vp_in (p1) 4 := isRink_in (hG).r hz1 c2
    have bp1 : (p1).toNatClampNeg < 4 := vp_lt vp1
    have ep1 : p1 = nI (p1).toNatClampNeg := vp_nI vp1 (by decide)
    refine j_iload_n h dX7_castsIn_13 rfl 2 rfl ?_
    refine j_if_lt h (tgt := 23) dX7_castsIn_14 (by decide) (fun c3 => ?_) (fun c3 => ?_)
    · refine j_bipush h (v := (-2)) dX7_castsIn_23 (by decide) ?_
      exact hR _ _ _ _ dX7_castsIn_25 ⟨Eq.symm ((bd_eq hz1 (ite_n c2 (ite_p c3 rfl)))), rfl⟩
    · refine j_iload_n h dX7_castsIn_17 rfl 2 rfl ?_
      refine j_bipush h (v := 40) dX7_castsIn_18 (by decide) ?_
      refine j_icmp_le h (tgt := 26) dX7_castsIn_20 (by decide) (fun c4 => ?_) (fun c4 => ?_)
      · have hh : p2 ≤ nI 40 := c4
        refine j_aload_n h dX7_castsIn_26 rfl 0 rfl ?_
        refine j_get h inlX7 (330 + 0) (ml_get 0) rfl 0 (by decide) (xr_1 19 rfl) rfl (v := .ref (L 0 0)) rfl dX7_castsIn_27 ?_
        refine j_iload_n h dX7_castsIn_30 rfl 1 rfl ?_
        refine j_iload_n h dX7_castsIn_31 rfl 2 rfl ?_
        refine j_callI h (n := 2) (c_X1_castsAhead l D cy L _ _ _ _ _ (by decide) _ _ (vp_of (j := p1.toNatClampNeg) ep1 (by omega) (by decide)) hh) (xg_V (xr_32 14 rfl) (xr_32 15 rfl) (xr_32 16 rfl) (xr_1 18 rfl) (xr_32 17 rfl)) rfl rfl (by decide +kernel) ⟨Nat.le_of_ble_eq_true rfl, Nat.le_of_ble_eq_true rfl⟩ (30 * 0 + 0) (at_G (by decide)) rfl rfl rfl rfl (Nat.le_of_ble_eq_true rfl) dX7_castsIn_32 ⟨by decide, by decide⟩ (fun z5 u' hq => ?_)
        obtain ⟨hz5, rfl⟩ := hq
        exact hR _ _ _ _ dX7_castsIn_35 ⟨Eq.symm ((bd_eq hz1 (ite_n c2 (ite_n c3 (ite_p c4 (bd_eq hz5 rfl)))))), rfl⟩
      · refine j_bipush h (v := (-2)) dX7_castsIn_23 (by decide) ?_
        exact hR _ _ _ _ dX7_castsIn_25 ⟨Eq.symm ((bd_eq hz1 (ite_n c2 (ite_n c3 (ite_n c4 rfl))))), rfl⟩
  · refine j_iconst h (v := (-1)) dX7_castsIn_11 (by decide) ?_
    exact hR _ _ _ _ dX7_castsIn_12 ⟨Eq.symm ((bd_eq hz1 (ite_p c2 rfl))), rfl⟩

def f_X7_dryIn (M : gM) (X : Nat → Int32) (A : Nat → Nat → Int32) (p1 : Int32) : Int32 :=
  bd (f_X1_isRink M p1) fun z1 =>
  if z1 = 0 then
    (-1)
  else
    bd (f_X1_hoursUntilDry M p1) fun z3 =>
    if z3 = (-1) then
      (-4)
    else
      z3
abbrev rm_X7_dryIn : Room := { frames := 3, cells := 0, slots := 0, locals := 65 }
set_option maxRecDepth 100000 in
set_option maxHeartbeats 4000000 in
theorem c_X7_dryIn (l : Launch) (D : gD) (cy : Nat → ClassId) (L : Nat → Nat → Nat) (G : Nat → gM) (X : Nat → Int32) (A : Nat → Nat → Int32) (b : cB) (M : gM) (p1 : Int32) (hG : GI M) : CtI l D cy (CW cy L) yX7_dryIn cX7_dryIn 3 (some .int) rm_X7_dryIn [.ref (L 11 0), .int p1] ((va_up G 0 M, X, A), b) (fun rv u => rv = f_X7_dryIn M X A p1 ∧ u = ((va_up G 0 M, X, A), b)) 0 0 := by
  refine m_entI cX7_dryIn 3 (by decide) (Nat.le_of_ble_eq_true rfl) (fun J h hR => ?_)
  show J ((va_up G 0 M, X, A), b) (0, 0) [(0, .ref (L 11 0)), (1, .int p1)] 0 []
  refine j_aload_n h dX7_dryIn_0 rfl 0 rfl ?_
  refine j_get h inlX7 (330 + 0) (ml_get 0) rfl 0 (by decide) (xr_1 19 rfl) rfl (v := .ref (L 0 0)) rfl dX7_dryIn_1 ?_
  refine j_iload_n h dX7_dryIn_4 rfl 1 rfl ?_
  refine j_callI h (n := 1) (c_X1_isRink l D cy L _ _ _ _ _ (by decide) _) (xg_V (xr_21 6 rfl) (xr_21 7 rfl) (xr_21 8 rfl) (xr_1 18 rfl) (xr_21 9 rfl)) rfl rfl (by decide +kernel) ⟨Nat.le_of_ble_eq_true rfl, Nat.le_of_ble_eq_true rfl⟩ (30 * 0 + 0) (at_G (by decide)) rfl rfl rfl rfl (Nat.le_of_ble_eq_true rfl) dX7_dryIn_5 ⟨by decide, by decide⟩ (fun z1 u' hq => ?_)
  obtain ⟨hz1, rfl, bz1⟩ := hq
  refine j_if_ne h (tgt := 13) dX7_dryIn_8 (by decide) (fun c2 => ?_) (fun c2 => ?_)
  · have vp1 : vp_in (p1) 4 := isRink_in (hG).r hz1 c2
    have bp1 : (p1).toNatClampNeg < 4 := vp_lt vp1
    have ep1 : p1 = nI (p1).toNatClampNeg := vp_nI vp1 (by decide)
    refine j_aload_n h dX7_dryIn_13 rfl 0 rfl ?_
    refine j_get h inlX7 (330 + 0) (ml_get 0) rfl 0 (by decide) (xr_1 19 rfl) rfl (v := .ref (L 0 0)) rfl dX7_dryIn_14 ?_
    refine j_iload_n h dX7_dryIn_17 rfl 1 rfl ?_
    refine j_callI h (n := 1) (c_X1_hoursUntilDry l D cy L _ _ _ _ _ (by decide) _ (vp_of (j := p1.toNatClampNeg) ep1 (by omega) (by decide))) (xg_V (xr_22 0 rfl) (xr_22 1 rfl) (xr_22 2 rfl) (xr_1 18 rfl) (xr_22 3 rfl)) rfl rfl (by decide +kernel) ⟨Nat.le_of_ble_eq_true rfl, Nat.le_of_ble_eq_true rfl⟩ (30 * 0 + 0) (at_G (by decide)) rfl rfl rfl rfl (Nat.le_of_ble_eq_true rfl) dX7_dryIn_18 ⟨by decide, by decide⟩ (fun z3 u' hq => ?_)
    obtain ⟨hz3, rfl⟩ := hq
    refine j_istore_n h (lv' := [(2, _), (0, _), (1, _)]) dX7_dryIn_21 rfl (by decide) rfl ?_
    refine j_iload_n h dX7_dryIn_22 rfl 0 rfl ?_
    refine j_iconst h (v := (-1)) dX7_dryIn_23 (by decide) ?_
    refine j_icmp_ne h (tgt := 32) dX7_dryIn_24 (by decide) (fun c4 => ?_) (fun c4 => ?_)
    · refine j_iload_n h dX7_dryIn_32 rfl 0 rfl ?_
      exact hR _ _ _ _ dX7_dryIn_33 ⟨Eq.symm ((bd_eq hz1 (ite_n c2 (bd_eq hz3 (ite_n c4 rfl))))), rfl⟩
    · refine j_bipush h (v := (-4)) dX7_dryIn_27 (by decide) ?_
      refine j_goto h (tgt := 33) dX7_dryIn_29 (by decide) ?_
      exact hR _ _ _ _ dX7_dryIn_33 ⟨Eq.symm ((bd_eq hz1 (ite_n c2 (bd_eq hz3 (ite_p c4 rfl))))), rfl⟩
  · refine j_iconst h (v := (-1)) dX7_dryIn_11 (by decide) ?_
    exact hR _ _ _ _ dX7_dryIn_12 ⟨Eq.symm ((bd_eq hz1 (ite_p c2 rfl))), rfl⟩

def f_X7_leader (M : gM) (X : Nat → Int32) (A : Nat → Nat → Int32) : Int32 :=
  if (M.2.2.2 0 0) = (M.2.2.2 1 0) then
    if (M.2.2.2 0 1) = (M.2.2.2 1 1) then
      (-4)
    else
      if (M.2.2.2 0 1) ≤ (M.2.2.2 1 1) then
        1
      else
        0
  else
    if (M.2.2.2 0 0) ≤ (M.2.2.2 1 0) then
      1
    else
      0
abbrev rm_X7_leader : Room := { frames := 0, cells := 0, slots := 0, locals := 0 }
set_option maxRecDepth 100000 in
set_option maxHeartbeats 4000000 in
theorem c_X7_leader (l : Launch) (D : gD) (cy : Nat → ClassId) (L : Nat → Nat → Nat) (G : Nat → gM) (X : Nat → Int32) (A : Nat → Nat → Int32) (b : cB) (M : gM)  : CtI l D cy (CW cy L) yX7_leader cX7_leader 3 (some .int) rm_X7_leader [.ref (L 11 0)] ((va_up G 0 M, X, A), b) (fun rv u => rv = f_X7_leader M X A ∧ u = ((va_up G 0 M, X, A), b)) 0 0 := by
  refine m_entI cX7_leader 3 (by decide) (Nat.le_of_ble_eq_true rfl) (fun J h hR => ?_)
  show J ((va_up G 0 M, X, A), b) (0, 0) [(0, .ref (L 11 0))] 0 []
  refine j_aload_n h dX7_leader_0 rfl 0 rfl ?_
  refine j_get h inlX7 (330 + 0) (ml_get 0) rfl 0 (by decide) (xr_1 19 rfl) rfl (v := .ref (L 0 0)) rfl dX7_leader_1 ?_
  refine j_get h inlX1 (30 * 0 + 0) (at_G (by decide)) rfl 2 (by decide) (xr_24 19 rfl) rfl (v := .ref (L 0 3)) rfl dX7_leader_4 ?_
  refine j_iconst h (v := 0) dX7_leader_7 (by decide) ?_
  refine j_aaldE h (30 * 0 + 3) 3 (at_Ca (by decide)) rfl 0 rfl (by decide) (by decide) dX7_leader_8 ?_
  refine j_astore_n h (lv' := [(1, _), (0, _)]) dX7_leader_9 rfl (by decide) rfl ?_
  refine j_aload_n h dX7_leader_10 rfl 1 rfl ?_
  refine j_get h inlX7 (330 + 0) (ml_get 0) rfl 0 (by decide) (xr_1 19 rfl) rfl (v := .ref (L 0 0)) rfl dX7_leader_11 ?_
  refine j_get h inlX1 (30 * 0 + 0) (at_G (by decide)) rfl 2 (by decide) (xr_24 19 rfl) rfl (v := .ref (L 0 3)) rfl dX7_leader_14 ?_
  refine j_iconst h (v := 1) dX7_leader_17 (by decide) ?_
  refine j_aaldE h (30 * 0 + 3) 3 (at_Ca (by decide)) rfl 1 rfl (by decide) (by decide) dX7_leader_18 ?_
  refine j_astore_n h (lv' := [(2, _), (1, _), (0, _)]) dX7_leader_19 rfl (by decide) rfl ?_
  refine j_aload_n h dX7_leader_20 rfl 1 rfl ?_
  refine j_get h inlX0 (30 * 0 + (28 + 0)) (at_C (by decide) (by omega)) rfl 0 (by decide) (xr_24 20 rfl) rfl (v := .int (M.2.2.2 0 0)) rfl dX7_leader_21 ?_
  refine j_aload_n h dX7_leader_24 rfl 0 rfl ?_
  refine j_get h inlX0 (30 * 0 + (28 + 1)) (at_C (by decide) (by omega)) rfl 0 (by decide) (xr_24 20 rfl) rfl (v := .int (M.2.2.2 1 0)) rfl dX7_leader_25 ?_
  refine j_icmp_eq h (tgt := 48) dX7_leader_28 (by decide) (fun c1 => ?_) (fun c1 => ?_)
  · refine j_aload_n h dX7_leader_48 rfl 1 rfl ?_
    refine j_get h inlX0 (30 * 0 + (28 + 0)) (at_C (by decide) (by omega)) rfl 1 (by decide) (xr_24 21 rfl) rfl (v := .int (M.2.2.2 0 1)) rfl dX7_leader_49 ?_
    refine j_aload_n h dX7_leader_52 rfl 0 rfl ?_
    refine j_get h inlX0 (30 * 0 + (28 + 1)) (at_C (by decide) (by omega)) rfl 1 (by decide) (xr_24 21 rfl) rfl (v := .int (M.2.2.2 1 1)) rfl dX7_leader_53 ?_
    refine j_icmp_eq h (tgt := 76) dX7_leader_56 (by decide) (fun c2 => ?_) (fun c2 => ?_)
    · refine j_bipush h (v := (-4)) dX7_leader_76 (by decide) ?_
      exact hR _ _ _ _ dX7_leader_78 ⟨Eq.symm ((ite_p c1 (ite_p c2 rfl))), rfl⟩
    · refine j_aload_n h dX7_leader_59 rfl 1 rfl ?_
      refine j_get h inlX0 (30 * 0 + (28 + 0)) (at_C (by decide) (by omega)) rfl 1 (by decide) (xr_24 21 rfl) rfl (v := .int (M.2.2.2 0 1)) rfl dX7_leader_60 ?_
      refine j_aload_n h dX7_leader_63 rfl 0 rfl ?_
      refine j_get h inlX0 (30 * 0 + (28 + 1)) (at_C (by decide) (by omega)) rfl 1 (by decide) (xr_24 21 rfl) rfl (v := .int (M.2.2.2 1 1)) rfl dX7_leader_64 ?_
      refine j_icmp_le h (tgt := 74) dX7_leader_67 (by decide) (fun c3 => ?_) (fun c3 => ?_)
      · refine j_iconst h (v := 1) dX7_leader_74 (by decide) ?_
        exact hR _ _ _ _ dX7_leader_75 ⟨Eq.symm ((ite_p c1 (ite_n c2 (ite_p c3 rfl)))), rfl⟩
      · refine j_iconst h (v := 0) dX7_leader_70 (by decide) ?_
        refine j_goto h (tgt := 75) dX7_leader_71 (by decide) ?_
        exact hR _ _ _ _ dX7_leader_75 ⟨Eq.symm ((ite_p c1 (ite_n c2 (ite_n c3 rfl)))), rfl⟩
  · refine j_aload_n h dX7_leader_31 rfl 1 rfl ?_
    refine j_get h inlX0 (30 * 0 + (28 + 0)) (at_C (by decide) (by omega)) rfl 0 (by decide) (xr_24 20 rfl) rfl (v := .int (M.2.2.2 0 0)) rfl dX7_leader_32 ?_
    refine j_aload_n h dX7_leader_35 rfl 0 rfl ?_
    refine j_get h inlX0 (30 * 0 + (28 + 1)) (at_C (by decide) (by omega)) rfl 0 (by decide) (xr_24 20 rfl) rfl (v := .int (M.2.2.2 1 0)) rfl dX7_leader_36 ?_
    refine j_icmp_le h (tgt := 46) dX7_leader_39 (by decide) (fun c4 => ?_) (fun c4 => ?_)
    · refine j_iconst h (v := 1) dX7_leader_46 (by decide) ?_
      exact hR _ _ _ _ dX7_leader_47 ⟨Eq.symm ((ite_n c1 (ite_p c4 rfl))), rfl⟩
    · refine j_iconst h (v := 0) dX7_leader_42 (by decide) ?_
      refine j_goto h (tgt := 47) dX7_leader_43 (by decide) ?_
      exact hR _ _ _ _ dX7_leader_47 ⟨Eq.symm ((ite_n c1 (ite_n c4 rfl))), rfl⟩

def f_X7_reason (M : gM) (X : Nat → Int32) (A : Nat → Nat → Int32) (p1 : Int32) (p2 : Int32) : Int32 :=
  if 0 ≤ p1 then
    bd (f_X4_tell M X A p1 p2) fun z2 =>
    z2
  else
    (-2)
abbrev rm_X7_reason : Room := { frames := 1, cells := 0, slots := 0, locals := 23 }
set_option maxRecDepth 100000 in
set_option maxHeartbeats 4000000 in
theorem c_X7_reason (l : Launch) (D : gD) (cy : Nat → ClassId) (L : Nat → Nat → Nat) (G : Nat → gM) (X : Nat → Int32) (A : Nat → Nat → Int32) (b : cB) (M : gM) (p1 : Int32) (p2 : Int32) (hK : vp_in (X 6) 4) : CtI l D cy (CW cy L) yX7_reason cX7_reason 3 (some .int) rm_X7_reason [.ref (L 11 0), .int p1, .int p2] ((va_up G 0 M, X, A), b) (fun rv u => rv = f_X7_reason M X A p1 p2 ∧ u = ((va_up G 0 M, X, A), b)) 0 0 := by
  refine m_entI cX7_reason 3 (by decide) (Nat.le_of_ble_eq_true rfl) (fun J h hR => ?_)
  show J ((va_up G 0 M, X, A), b) (0, 0) [(0, .ref (L 11 0)), (1, .int p1), (2, .int p2)] 0 []
  refine j_iload_n h dX7_reason_0 rfl 1 rfl ?_
  refine j_if_ge h (tgt := 7) dX7_reason_1 (by decide) (fun c1 => ?_) (fun c1 => ?_)
  · refine j_aload_n h dX7_reason_7 rfl 0 rfl ?_
    refine j_get h inlX7 (330 + 0) (ml_get 0) rfl 7 (by decide) (xr_2 14 rfl) rfl (v := .ref (L 11 6)) rfl dX7_reason_8 ?_
    refine j_iload_n h dX7_reason_11 rfl 1 rfl ?_
    refine j_iload_n h dX7_reason_12 rfl 2 rfl ?_
    refine j_callI h (n := 2) (c_X4_tell l D cy L _ _ _ _ _ _ _ hK (Int32.not_lt.mpr c1)) (xg_V (xr_30 8 rfl) (xr_30 9 rfl) (xr_30 10 rfl) (xr_2 13 rfl) (xr_30 11 rfl)) rfl rfl (by decide +kernel) ⟨Nat.le_of_ble_eq_true rfl, Nat.le_of_ble_eq_true rfl⟩ (330 + 6) (ml_get 6) rfl rfl rfl rfl (Nat.le_of_ble_eq_true rfl) dX7_reason_13 ⟨by decide, by decide⟩ (fun z2 u' hq => ?_)
    obtain ⟨hz2, rfl⟩ := hq
    exact hR _ _ _ _ dX7_reason_16 ⟨Eq.symm ((ite_p c1 (bd_eq hz2 rfl))), rfl⟩
  · refine j_bipush h (v := (-2)) dX7_reason_4 (by decide) ?_
    exact hR _ _ _ _ dX7_reason_6 ⟨Eq.symm ((ite_n c1 rfl)), rfl⟩

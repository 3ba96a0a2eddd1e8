theorem GI_X5 {M z : gM} (h : GI M) {r : Nat} {a b : Int32} (hz : z = f_X5_lay M r a b) : GI z := by rw [hz]; exact GI_of h rfl rfl fun _ => rfl
theorem GI_se {M z : gM} (h : GI M) {r : Nat} {a : Int32} (hz : z = f_X5_startEnd M r a) : GI z := by rw [hz]; exact GI_of h rfl rfl fun _ => rfl
theorem GI_fe {M z : gM} (h : GI M) {r : Nat} (hz : z = f_X5_finishEnd M r) : GI z := by rw [hz]; exact GI_of h rfl rfl fun _ => rfl
theorem GI_dr {M z : gM} (h : GI M) {a : Int32} (hz : z = f_X1_drink M a) : GI z := by rw [hz]; exact GI_of h rfl rfl fun _ => rfl
theorem GI_mk {M z : gM} (h : GI M) {w : Nat} {a b : Int32} (ha : vp_in a 2) (hz : z = f_X6_make M w a b) : GI z := by
  have e : z.2.2.1 w 0 = a := by
    rw [hz]
    unfold f_X6_make
    show up2 _ _ _ _ _ _ = _
    simp [sw, up2, upd]
  have e2 : ∀ i, i ≠ w → z.2.2.1 i = M.2.2.1 i := by
    intro i hi
    rw [hz]
    unfold f_X6_make
    simp [sw, up2, hi]
  refine ⟨by rw [hz]; exact h.1, by rw [hz]; exact h.2.1, fun i hi => ?_⟩
  by_cases q : i = w
  · rw [q, e]; exact ha
  · rw [e2 i q]; exact h.2.2 i hi
theorem GI_bw_l {p1 : Int32} : ∀ n k M, GI M → GI (f_X1_bringWoodsToShed_l2 p1 n k M) := by
  intro n
  induction n with
  | zero => intro k M h; exact h
  | succ n ih =>
    intro k M h
    unfold f_X1_bringWoodsToShed_l2
    split
    · exact h
    · split
      · exact ih _ _ (GI_sw h (by decide))
      · exact ih _ _ h
theorem GI_bw {M z : gM} (h : GI M) {a : Int32} (hz : z = f_X1_bringWoodsToShed M a) : GI z := by
  rw [hz]
  unfold f_X1_bringWoodsToShed
  dsimp only [bd]
  exact GI_bw_l 17 0 M h
theorem GI_ph_l : ∀ n k M, GI M → GI (f_X1_passHour_l2 n k M) := by
  intro n
  induction n with
  | zero => intro k M h; exact h
  | succ n ih =>
    intro k M h
    unfold f_X1_passHour_l2
    dsimp only [bd]
    split
    · exact h
    · exact ih _ _ (GI_of h rfl rfl fun _ => rfl)
theorem GI_ph {M z : gM} (h : GI M) (hz : z = f_X1_passHour M) : GI z := by
  rw [hz]
  unfold f_X1_passHour
  dsimp only [bd]
  exact GI_sg (GI_ph_l 5 0 M h) (by decide) (by decide)

def f_X7_layRink (M : gM) (X : Nat → Int32) (A : Nat → Nat → Int32) (p1 : Int32) (p2 : Int32) : Int32 × gM × (Nat → Int32) × (Nat → Nat → Int32) :=
  if p1 < 0 then
    ((-2), (M, X, A))
  else
    if 29 < p1 then
      ((-2), (M, X, A))
    else
      if p2 < 0 then
        ((-2), (M, X, A))
      else
        if p2 ≤ 29 then
          if ((p2 - p1) + 1) < 3 then
            ((-2), (M, X, A))
          else
            if ((p2 - p1) + 1) ≤ 10 then
              if (M.1 3) < 4 then
                bd (f_X1_lowestRinkWithin M p1 p2) fun z8 =>
                if z8 = (-1) then
                  bd (f_X5_lay M ((M.1 3).toNatClampNeg) p1 p2) fun z10 =>
                  (M.1 3, (sg z10 3 ((z10.1 3) + 1), X, A))
                else
                  bd (f_X7_refuse M X A 2 z8) fun z11 =>
                  (z11.1, (M, z11.2.1, z11.2.2))
              else
                bd (f_X7_refuse M X A 1 4) fun z12 =>
                (z12.1, (M, z12.2.1, z12.2.2))
            else
              ((-2), (M, X, A))
        else
          ((-2), (M, X, A))
abbrev rm_X7_layRink : Room := { frames := 2, cells := 0, slots := 0, locals := 44 }
set_option maxRecDepth 100000 in
set_option maxHeartbeats 4000000 in
theorem c_X7_layRink (l : Launch) (D : gD) (cy : Nat → ClassId) (L : Nat → Nat → Nat) (G : Nat → gM) (X : Nat → Int32) (A : Nat → Nat → Int32) (b : cB) (M : gM) (p1 : Int32) (p2 : Int32) (hG : GI M) (hK : vp_in (X 6) 4) : CtI l D cy (CW cy L) yX7_layRink cX7_layRink 6 (some .int) rm_X7_layRink [.ref (L 11 0), .int p1, .int p2] ((va_up G 0 M, X, A), b) (fun rv u => ∃ z : Int32 × (gM × (Nat → Int32) × (Nat → Nat → Int32)), z = f_X7_layRink M X A p1 p2 ∧ rv = z.1 ∧ u = ((va_up G 0 z.2.1, z.2.2.1, z.2.2.2), b) ∧ GI z.2.1 ∧ vp_in (z.2.2.1 6) 4 ∧ FC X z.2.2.1) 0 0 := by
  refine m_entI cX7_layRink 6 (by decide) (Nat.le_of_ble_eq_true rfl) (fun J h hR => ?_)
  show J ((va_up G 0 M, X, A), b) (0, 0) [(0, .ref (L 11 0)), (1, .int p1), (2, .int p2)] 0 []
  refine j_iload_n h dX7_layRink_0 rfl 1 rfl ?_
  refine j_if_lt h (tgt := 20) dX7_layRink_1 (by decide) (fun c1 => ?_) (fun c1 => ?_)
  · refine j_bipush h (v := (-2)) dX7_layRink_20 (by decide) ?_
    exact hR _ _ _ _ dX7_layRink_22 ⟨(_, _), Eq.symm ((ite_p c1 rfl)), rfl, rfl, hG, hK, FC.rf⟩
  · refine j_iload_n h dX7_layRink_4 rfl 1 rfl ?_
    refine j_bipush h (v := 29) dX7_layRink_5 (by decide) ?_
    refine j_icmp_gt h (tgt := 20) dX7_layRink_7 (by decide) (fun c2 => ?_) (fun c2 => ?_)
    · refine j_bipush h (v := (-2)) dX7_layRink_20 (by decide) ?_
      exact hR _ _ _ _ dX7_layRink_22 ⟨(_, _), Eq.symm ((ite_n c1 (ite_p c2 rfl))), rfl, rfl, hG, hK, FC.rf⟩
    · refine j_iload_n h dX7_layRink_10 rfl 2 rfl ?_
      refine j_if_lt h (tgt := 20) dX7_layRink_11 (by decide) (fun c3 => ?_) (fun c3 => ?_)
      · refine j_bipush h (v := (-2)) dX7_layRink_20 (by decide) ?_
        exact hR _ _ _ _ dX7_layRink_22 ⟨(_, _), Eq.symm ((ite_n c1 (ite_n c2 (ite_p c3 rfl)))), rfl, rfl, hG, hK, FC.rf⟩
      · refine j_iload_n h dX7_layRink_14 rfl 2 rfl ?_
        refine j_bipush h (v := 29) dX7_layRink_15 (by decide) ?_
        refine j_icmp_le h (tgt := 23) dX7_layRink_17 (by decide) (fun c4 => ?_) (fun c4 => ?_)
        · refine j_iload_n h dX7_layRink_23 rfl 2 rfl ?_
          refine j_iload_n h dX7_layRink_24 rfl 1 rfl ?_
          refine j_isub h dX7_layRink_25 ?_
          refine j_iconst h (v := 1) dX7_layRink_26 (by decide) ?_
          refine j_iadd h dX7_layRink_27 ?_
          refine j_istore_n h (lv' := [(3, _), (0, _), (1, _), (2, _)]) dX7_layRink_28 rfl (by decide) rfl ?_
          refine j_iload_n h dX7_layRink_29 rfl 0 rfl ?_
          refine j_iconst h (v := 3) dX7_layRink_30 (by decide) ?_
          refine j_icmp_lt h (tgt := 40) dX7_layRink_31 (by decide) (fun c5 => ?_) (fun c5 => ?_)
          · refine j_bipush h (v := (-2)) dX7_layRink_40 (by decide) ?_
            exact hR _ _ _ _ dX7_layRink_42 ⟨(_, _), Eq.symm ((ite_n c1 (ite_n c2 (ite_n c3 (ite_p c4 (ite_p c5 rfl)))))), rfl, rfl, hG, hK, FC.rf⟩
          · refine j_iload_n h dX7_layRink_34 rfl 0 rfl ?_
            refine j_bipush h (v := 10) dX7_layRink_35 (by decide) ?_
            refine j_icmp_le h (tgt := 43) dX7_layRink_37 (by decide) (fun c6 => ?_) (fun c6 => ?_)
            · refine j_aload_n h dX7_layRink_43 rfl 1 rfl ?_
              refine j_get h inlX7 (330 + 0) (ml_get 0) rfl 0 (by decide) (xr_1 19 rfl) rfl (v := .ref (L 0 0)) rfl dX7_layRink_44 ?_
              refine j_get h inlX1 (30 * 0 + 0) (at_G (by decide)) rfl 3 (by decide) (xr_11 0 rfl) rfl (v := .int (M.1 3)) rfl dX7_layRink_47 ?_
              refine j_iconst h (v := 4) dX7_layRink_50 (by decide) ?_
              refine j_icmp_lt h (tgt := 61) dX7_layRink_51 (by decide) (fun c7 => ?_) (fun c7 => ?_)
              · have vnr : vp_in (M.1 3) 4 := lt_cnt (N := 4) (by decide) hG.1 c7
                have bnr : (M.1 3).toNatClampNeg < 4 := vp_lt vnr
                have enr : M.1 3 = nI (M.1 3).toNatClampNeg := vp_nI vnr (by decide)
                refine j_aload_n h dX7_layRink_61 rfl 1 rfl ?_
                refine j_get h inlX7 (330 + 0) (ml_get 0) rfl 0 (by decide) (xr_1 19 rfl) rfl (v := .ref (L 0 0)) rfl dX7_layRink_62 ?_
                refine j_iload_n h dX7_layRink_65 rfl 2 rfl ?_
                refine j_iload_n h dX7_layRink_66 rfl 3 rfl ?_
                refine j_callI h (n := 2) (c_X1_lowestRinkWithin l D cy L _ _ _ _ _ (by decide) _ _ (hG).r) (xg_V (xr_29 2 rfl) (xr_29 3 rfl) (xr_29 4 rfl) (xr_1 18 rfl) (xr_29 5 rfl)) rfl rfl (by decide +kernel) ⟨Nat.le_of_ble_eq_true rfl, Nat.le_of_ble_eq_true rfl⟩ (30 * 0 + 0) (at_G (by decide)) rfl rfl rfl rfl (Nat.le_of_ble_eq_true rfl) dX7_layRink_67 ⟨by decide, by decide⟩ (fun z8 u' hq => ?_)
                obtain ⟨hz8, rfl⟩ := hq
                refine j_istore h (lv' := [(4, _), (3, _), (0, _), (1, _), (2, _)]) dX7_layRink_70 (by decide) rfl ?_
                refine j_iload h dX7_layRink_72 0 rfl ?_
                refine j_iconst h (v := (-1)) dX7_layRink_74 (by decide) ?_
                refine j_icmp_eq h (tgt := 86) dX7_layRink_75 (by decide) (fun c9 => ?_) (fun c9 => ?_)
                · refine j_aload_n h dX7_layRink_86 rfl 2 rfl ?_
                  refine j_get h inlX7 (330 + 0) (ml_get 0) rfl 0 (by decide) (xr_1 19 rfl) rfl (v := .ref (L 0 0)) rfl dX7_layRink_87 ?_
                  refine j_get h inlX1 (30 * 0 + 0) (at_G (by decide)) rfl 3 (by decide) (xr_11 0 rfl) rfl (v := .int (M.1 3)) rfl dX7_layRink_90 ?_
                  refine j_istore h (lv' := [(5, _), (4, _), (3, _), (0, _), (1, _), (2, _)]) dX7_layRink_93 (by decide) rfl ?_
                  refine j_aload_n h dX7_layRink_95 rfl 3 rfl ?_
                  refine j_get h inlX7 (330 + 0) (ml_get 0) rfl 0 (by decide) (xr_1 19 rfl) rfl (v := .ref (L 0 0)) rfl dX7_layRink_96 ?_
                  refine j_get h inlX1 (30 * 0 + 0) (at_G (by decide)) rfl 0 (by decide) (xr_21 2 rfl) rfl (v := .ref (L 0 1)) rfl dX7_layRink_99 ?_
                  refine j_iload h dX7_layRink_102 0 rfl ?_
                  refine j_aaldE h (30 * 0 + 1) 1 (at_Ra (by decide)) rfl ((M.1 3).toNatClampNeg) enr (by omega) (by decide) dX7_layRink_104 ?_
                  refine j_iload_n h dX7_layRink_105 rfl 4 rfl ?_
                  refine j_iload_n h dX7_layRink_106 rfl 5 rfl ?_
                  refine j_callV h (n := 2) (c_X5_lay l D cy L _ _ _ _ _ (by decide) (by omega) _ _) (xg_V (xr_29 8 rfl) (xr_29 9 rfl) (xr_29 10 rfl) (xr_2 23 rfl) (xr_29 11 rfl)) rfl rfl (by decide +kernel) ⟨Nat.le_of_ble_eq_true rfl, Nat.le_of_ble_eq_true rfl⟩ (30 * 0 + (4 + ((M.1 3).toNatClampNeg))) (at_R (by decide) (by omega)) rfl rfl rfl rfl (Nat.le_of_ble_eq_true rfl) dX7_layRink_107 ⟨by decide, by decide⟩ (fun u' hq => ?_)
                  obtain ⟨z10, hz10, rfl⟩ := hq
                  have hGz10 : GI z10 := GI_X5 hG hz10
                  refine j_aload_n h dX7_layRink_110 rfl 3 rfl ?_
                  refine j_get h inlX7 (330 + 0) (ml_get 0) rfl 0 (by decide) (xr_1 19 rfl) rfl (v := .ref (L 0 0)) rfl dX7_layRink_111 ?_
                  refine j_dup h dX7_layRink_114 rfl ?_
                  refine j_get h inlX1 (30 * 0 + 0) (at_G (by decide)) rfl 3 (by decide) (xr_11 0 rfl) rfl (v := .int (z10.1 3)) rfl dX7_layRink_115 ?_
                  refine j_iconst h (v := 1) dX7_layRink_118 (by decide) ?_
                  refine j_iadd h dX7_layRink_119 ?_
                  refine j_put h inlX1 tyX1 tyX1_ok nmX1 (30 * 0 + 0) (at_G (by decide)) rfl 3 (by decide) (xr_11 0 rfl) rfl rfl rfl rfl (Nat.le_of_ble_eq_true rfl) dX7_layRink_120 (to_G (by decide) (by decide) (by decide)) ?_
                  refine j_iload h dX7_layRink_123 0 rfl ?_
                  exact hR _ _ _ _ dX7_layRink_125 ⟨(_, _), Eq.symm ((ite_n c1 (ite_n c2 (ite_n c3 (ite_p c4 (ite_n c5 (ite_p c6 (ite_p c7 (bd_eq hz8 (ite_p c9 (bd_eq hz10 rfl))))))))))), rfl, rfl, (GI_3 hGz10 (vp_succ (by decide) (by rw [hz10]; exact vnr))), hK, FC.rf⟩
                · refine j_aload_n h dX7_layRink_78 rfl 2 rfl ?_
                  refine j_iconst h (v := 2) dX7_layRink_79 (by decide) ?_
                  refine j_iload h dX7_layRink_80 0 rfl ?_
                  refine j_callI h (n := 2) (c_X7_refuse l D cy L _ _ _ _ _ _ _ hK) (xg_V (xr_21 11 rfl) (xr_21 12 rfl) (xr_21 13 rfl) (xr_1 2 rfl) (xr_21 14 rfl)) rfl rfl (by decide +kernel) ⟨Nat.le_of_ble_eq_true rfl, Nat.le_of_ble_eq_true rfl⟩ (330 + 0) (ml_get 0) rfl rfl rfl rfl (Nat.le_of_ble_eq_true rfl) dX7_layRink_82 ⟨by decide, by decide⟩ (fun r u' hq => ?_)
                  obtain ⟨z11, hz11, rfl, rfl, qz11_0, qz11_1⟩ := hq
                  exact hR _ _ _ _ dX7_layRink_85 ⟨(_, _), Eq.symm ((ite_n c1 (ite_n c2 (ite_n c3 (ite_p c4 (ite_n c5 (ite_p c6 (ite_p c7 (bd_eq hz8 (ite_n c9 (bd_eq hz11 rfl))))))))))), rfl, rfl, hG, qz11_0, (FC.tr FC.rf qz11_1)⟩
              · refine j_aload_n h dX7_layRink_54 rfl 1 rfl ?_
                refine j_iconst h (v := 1) dX7_layRink_55 (by decide) ?_
                refine j_iconst h (v := 4) dX7_layRink_56 (by decide) ?_
                refine j_callI h (n := 2) (c_X7_refuse l D cy L _ _ _ _ _ _ _ hK) (xg_V (xr_21 11 rfl) (xr_21 12 rfl) (xr_21 13 rfl) (xr_1 2 rfl) (xr_21 14 rfl)) rfl rfl (by decide +kernel) ⟨Nat.le_of_ble_eq_true rfl, Nat.le_of_ble_eq_true rfl⟩ (330 + 0) (ml_get 0) rfl rfl rfl rfl (Nat.le_of_ble_eq_true rfl) dX7_layRink_57 ⟨by decide, by decide⟩ (fun r u' hq => ?_)
                obtain ⟨z12, hz12, rfl, rfl, qz12_0, qz12_1⟩ := hq
                exact hR _ _ _ _ dX7_layRink_60 ⟨(_, _), Eq.symm ((ite_n c1 (ite_n c2 (ite_n c3 (ite_p c4 (ite_n c5 (ite_p c6 (ite_n c7 (bd_eq hz12 rfl))))))))), rfl, rfl, hG, qz12_0, (FC.tr FC.rf qz12_1)⟩
            · refine j_bipush h (v := (-2)) dX7_layRink_40 (by decide) ?_
              exact hR _ _ _ _ dX7_layRink_42 ⟨(_, _), Eq.symm ((ite_n c1 (ite_n c2 (ite_n c3 (ite_p c4 (ite_n c5 (ite_n c6 rfl))))))), rfl, rfl, hG, hK, FC.rf⟩
        · refine j_bipush h (v := (-2)) dX7_layRink_20 (by decide) ?_
          exact hR _ _ _ _ dX7_layRink_22 ⟨(_, _), Eq.symm ((ite_n c1 (ite_n c2 (ite_n c3 (ite_n c4 rfl))))), rfl, rfl, hG, hK, FC.rf⟩

theorem isClub_in {M : gM} {X : Nat → Int32} {A : Nat → Nat → Int32} {p z : Int32} (hz : z = f_X7_isClub M X A p) (h : ¬ z = 0) : vp_in p 2 := by
  unfold f_X7_isClub at hz
  split at hz
  · exact absurd hz h
  · split at hz
    · exact absurd hz h
    · rename_i h1 h2
      exact in_cnt (N := 2) (by decide) (c := 2) (by decide) h1 (Int32.not_le.mp h2)

def f_X7_addWood (M : gM) (X : Nat → Int32) (A : Nat → Nat → Int32) (p1 : Int32) (p2 : Int32) : Int32 × gM × (Nat → Int32) × (Nat → Nat → Int32) :=
  bd (f_X7_isClub M X A p1) fun z1 =>
  if z1 = 0 then
    ((-1), (M, X, A))
  else
    if p2 < 0 then
      ((-2), (M, X, A))
    else
      if p2 ≤ 9 then
        if (M.1 4) < 16 then
          bd (f_X6_make M ((M.1 4).toNatClampNeg) p1 p2) fun z6 =>
          (M.1 4, (sg z6 4 ((z6.1 4) + 1), X, A))
        else
          bd (f_X7_refuse M X A 1 16) fun z7 =>
          (z7.1, (M, z7.2.1, z7.2.2))
      else
        ((-2), (M, X, A))
abbrev rm_X7_addWood : Room := { frames := 2, cells := 0, slots := 0, locals := 44 }
set_option maxRecDepth 100000 in
set_option maxHeartbeats 4000000 in
theorem c_X7_addWood (l : Launch) (D : gD) (cy : Nat → ClassId) (L : Nat → Nat → Nat) (G : Nat → gM) (X : Nat → Int32) (A : Nat → Nat → Int32) (b : cB) (M : gM) (p1 : Int32) (p2 : Int32) (hG : GI M) (hK : vp_in (X 6) 4) : CtI l D cy (CW cy L) yX7_addWood cX7_addWood 4 (some .int) rm_X7_addWood [.ref (L 11 0), .int p1, .int p2] ((va_up G 0 M, X, A), b) (fun rv u => ∃ z : Int32 × (gM × (Nat → Int32) × (Nat → Nat → Int32)), z = f_X7_addWood M X A p1 p2 ∧ rv = z.1 ∧ u = ((va_up G 0 z.2.1, z.2.2.1, z.2.2.2), b) ∧ GI z.2.1 ∧ vp_in (z.2.2.1 6) 4 ∧ FC X z.2.2.1) 0 0 := by
  refine m_entI cX7_addWood 4 (by decide) (Nat.le_of_ble_eq_true rfl) (fun J h hR => ?_)
  show J ((va_up G 0 M, X, A), b) (0, 0) [(0, .ref (L 11 0)), (1, .int p1), (2, .int p2)] 0 []
  refine j_iload_n h dX7_addWood_0 rfl 1 rfl ?_
  refine j_callS h (n := 1) (c_X7_isClub l D cy L _ _ _ _ _ _) (xg_S (xr_27 0 rfl) (xr_27 1 rfl) (xr_1 2 rfl) (xr_27 2 rfl)) rfl rfl (by decide +kernel) ⟨Nat.le_of_ble_eq_true rfl, Nat.le_of_ble_eq_true rfl⟩  rfl rfl (Nat.le_of_ble_eq_true rfl) dX7_addWood_1 ⟨by decide, by decide⟩ (fun z1 u' hq => ?_)
  obtain ⟨hz1, rfl, bz1⟩ := hq
  refine j_if_ne h (tgt := 9) dX7_addWood_4 (by decide) (fun c2 => ?_) (fun c2 => ?_)
  · have vp1 : vp_in (p1) 2 := isClub_in hz1 c2
    have bp1 : (p1).toNatClampNeg < 2 := vp_lt vp1
    have ep1 : p1 = nI (p1).toNatClampNeg := vp_nI vp1 (by decide)
    refine j_iload_n h dX7_addWood_9 rfl 2 rfl ?_
    refine j_if_lt h (tgt := 19) dX7_addWood_10 (by decide) (fun c3 => ?_) (fun c3 => ?_)
    · refine j_bipush h (v := (-2)) dX7_addWood_19 (by decide) ?_
      exact hR _ _ _ _ dX7_addWood_21 ⟨(_, _), Eq.symm ((bd_eq hz1 (ite_n c2 (ite_p c3 rfl)))), rfl, rfl, hG, hK, FC.rf⟩
    · refine j_iload_n h dX7_addWood_13 rfl 2 rfl ?_
      refine j_bipush h (v := 9) dX7_addWood_14 (by decide) ?_
      refine j_icmp_le h (tgt := 22) dX7_addWood_16 (by decide) (fun c4 => ?_) (fun c4 => ?_)
      · refine j_aload_n h dX7_addWood_22 rfl 0 rfl ?_
        refine j_get h inlX7 (330 + 0) (ml_get 0) rfl 0 (by decide) (xr_1 19 rfl) rfl (v := .ref (L 0 0)) rfl dX7_addWood_23 ?_
        refine j_get h inlX1 (30 * 0 + 0) (at_G (by decide)) rfl 4 (by decide) (xr_11 1 rfl) rfl (v := .int (M.1 4)) rfl dX7_addWood_26 ?_
        refine j_bipush h (v := 16) dX7_addWood_29 (by decide) ?_
        refine j_icmp_lt h (tgt := 42) dX7_addWood_31 (by decide) (fun c5 => ?_) (fun c5 => ?_)
        · have vnw : vp_in (M.1 4) 16 := lt_cnt (N := 16) (by decide) hG.2.1 c5
          have bnw : (M.1 4).toNatClampNeg < 16 := vp_lt vnw
          have enw : M.1 4 = nI (M.1 4).toNatClampNeg := vp_nI vnw (by decide)
          refine j_aload_n h dX7_addWood_42 rfl 0 rfl ?_
          refine j_get h inlX7 (330 + 0) (ml_get 0) rfl 0 (by decide) (xr_1 19 rfl) rfl (v := .ref (L 0 0)) rfl dX7_addWood_43 ?_
          refine j_get h inlX1 (30 * 0 + 0) (at_G (by decide)) rfl 4 (by decide) (xr_11 1 rfl) rfl (v := .int (M.1 4)) rfl dX7_addWood_46 ?_
          refine j_istore_n h (lv' := [(3, _), (0, _), (1, _), (2, _)]) dX7_addWood_49 rfl (by decide) rfl ?_
          refine j_aload_n h dX7_addWood_50 rfl 1 rfl ?_
          refine j_get h inlX7 (330 + 0) (ml_get 0) rfl 0 (by decide) (xr_1 19 rfl) rfl (v := .ref (L 0 0)) rfl dX7_addWood_51 ?_
          refine j_get h inlX1 (30 * 0 + 0) (at_G (by decide)) rfl 1 (by decide) (xr_22 16 rfl) rfl (v := .ref (L 0 2)) rfl dX7_addWood_54 ?_
          refine j_iload_n h dX7_addWood_57 rfl 0 rfl ?_
          refine j_aaldE h (30 * 0 + 2) 2 (at_Wa (by decide)) rfl ((M.1 4).toNatClampNeg) enw (by omega) (by decide) dX7_addWood_58 ?_
          refine j_iload_n h dX7_addWood_59 rfl 2 rfl ?_
          refine j_iload_n h dX7_addWood_60 rfl 3 rfl ?_
          refine j_callV h (n := 2) (c_X6_make l D cy L _ _ _ _ _ (by decide) (by omega) _ _) (xg_V (xr_29 20 rfl) (xr_29 21 rfl) (xr_29 22 rfl) (xr_3 3 rfl) (xr_29 23 rfl)) rfl rfl (by decide +kernel) ⟨Nat.le_of_ble_eq_true rfl, Nat.le_of_ble_eq_true rfl⟩ (30 * 0 + (12 + ((M.1 4).toNatClampNeg))) (at_W (by decide) (by omega)) rfl rfl rfl rfl (Nat.le_of_ble_eq_true rfl) dX7_addWood_61 ⟨by decide, by decide⟩ (fun u' hq => ?_)
          obtain ⟨z6, hz6, rfl⟩ := hq
          have hGz6 : GI z6 := GI_mk hG vp1 hz6
          refine j_aload_n h dX7_addWood_64 rfl 1 rfl ?_
          refine j_get h inlX7 (330 + 0) (ml_get 0) rfl 0 (by decide) (xr_1 19 rfl) rfl (v := .ref (L 0 0)) rfl dX7_addWood_65 ?_
          refine j_dup h dX7_addWood_68 rfl ?_
          refine j_get h inlX1 (30 * 0 + 0) (at_G (by decide)) rfl 4 (by decide) (xr_11 1 rfl) rfl (v := .int (z6.1 4)) rfl dX7_addWood_69 ?_
          refine j_iconst h (v := 1) dX7_addWood_72 (by decide) ?_
          refine j_iadd h dX7_addWood_73 ?_
          refine j_put h inlX1 tyX1 tyX1_ok nmX1 (30 * 0 + 0) (at_G (by decide)) rfl 4 (by decide) (xr_11 1 rfl) rfl rfl rfl rfl (Nat.le_of_ble_eq_true rfl) dX7_addWood_74 (to_G (by decide) (by decide) (by decide)) ?_
          refine j_iload_n h dX7_addWood_77 rfl 0 rfl ?_
          exact hR _ _ _ _ dX7_addWood_78 ⟨(_, _), Eq.symm ((bd_eq hz1 (ite_n c2 (ite_n c3 (ite_p c4 (ite_p c5 (bd_eq hz6 rfl))))))), rfl, rfl, (GI_4 hGz6 (vp_succ (by decide) (by rw [hz6]; exact vnw))), hK, FC.rf⟩
        · refine j_aload_n h dX7_addWood_34 rfl 0 rfl ?_
          refine j_iconst h (v := 1) dX7_addWood_35 (by decide) ?_
          refine j_bipush h (v := 16) dX7_addWood_36 (by decide) ?_
          refine j_callI h (n := 2) (c_X7_refuse l D cy L _ _ _ _ _ _ _ hK) (xg_V (xr_21 11 rfl) (xr_21 12 rfl) (xr_21 13 rfl) (xr_1 2 rfl) (xr_21 14 rfl)) rfl rfl (by decide +kernel) ⟨Nat.le_of_ble_eq_true rfl, Nat.le_of_ble_eq_true rfl⟩ (330 + 0) (ml_get 0) rfl rfl rfl rfl (Nat.le_of_ble_eq_true rfl) dX7_addWood_38 ⟨by decide, by decide⟩ (fun r u' hq => ?_)
          obtain ⟨z7, hz7, rfl, rfl, qz7_0, qz7_1⟩ := hq
          exact hR _ _ _ _ dX7_addWood_41 ⟨(_, _), Eq.symm ((bd_eq hz1 (ite_n c2 (ite_n c3 (ite_p c4 (ite_n c5 (bd_eq hz7 rfl))))))), rfl, rfl, hG, qz7_0, (FC.tr FC.rf qz7_1)⟩
      · refine j_bipush h (v := (-2)) dX7_addWood_19 (by decide) ?_
        exact hR _ _ _ _ dX7_addWood_21 ⟨(_, _), Eq.symm ((bd_eq hz1 (ite_n c2 (ite_n c3 (ite_n c4 rfl))))), rfl, rfl, hG, hK, FC.rf⟩
  · refine j_iconst h (v := (-1)) dX7_addWood_7 (by decide) ?_
    exact hR _ _ _ _ dX7_addWood_8 ⟨(_, _), Eq.symm ((bd_eq hz1 (ite_p c2 rfl))), rfl, rfl, hG, hK, FC.rf⟩

def f_X7_beginEnd (M : gM) (X : Nat → Int32) (A : Nat → Nat → Int32) (p1 : Int32) (p2 : Int32) : Int32 × gM × (Nat → Int32) × (Nat → Nat → Int32) :=
  bd (f_X1_isRink M p1) fun z1 =>
  if z1 = 0 then
    ((-1), (M, X, A))
  else
    if p2 < 20 then
      ((-2), (M, X, A))
    else
      if p2 ≤ 40 then
        bd (f_X5_isPlayed M p1.toNatClampNeg) fun z5 =>
        if z5 = 0 then
          if (M.2.1 p1.toNatClampNeg 2) < 8 then
            bd (f_X5_startEnd M p1.toNatClampNeg p2) fun z8 =>
            (z8.2.1 p1.toNatClampNeg 6, (z8, X, A))
          else
            bd (f_X1_hoursUntilDry M p1) fun z9 =>
            bd (f_X7_refuseWetRink M X A (M.2.1 p1.toNatClampNeg 2) z9) fun z10 =>
            (z10.1, (M, z10.2.1, z10.2.2))
        else
          bd (f_X7_refuse M X A 4 (M.2.1 p1.toNatClampNeg 4)) fun z11 =>
          (z11.1, (M, z11.2.1, z11.2.2))
      else
        ((-2), (M, X, A))
abbrev rm_X7_beginEnd : Room := { frames := 3, cells := 0, slots := 0, locals := 65 }
set_option maxRecDepth 100000 in
set_option maxHeartbeats 4000000 in
theorem c_X7_beginEnd (l : Launch) (D : gD) (cy : Nat → ClassId) (L : Nat → Nat → Nat) (G : Nat → gM) (X : Nat → Int32) (A : Nat → Nat → Int32) (b : cB) (M : gM) (p1 : Int32) (p2 : Int32) (hG : GI M) (hK : vp_in (X 6) 4) : CtI l D cy (CW cy L) yX7_beginEnd cX7_beginEnd 4 (some .int) rm_X7_beginEnd [.ref (L 11 0), .int p1, .int p2] ((va_up G 0 M, X, A), b) (fun rv u => ∃ z : Int32 × (gM × (Nat → Int32) × (Nat → Nat → Int32)), z = f_X7_beginEnd M X A p1 p2 ∧ rv = z.1 ∧ u = ((va_up G 0 z.2.1, z.2.2.1, z.2.2.2), b) ∧ GI z.2.1 ∧ vp_in (z.2.2.1 6) 4 ∧ FC X z.2.2.1) 0 0 := by
  refine m_entI cX7_beginEnd 4 (by decide) (Nat.le_of_ble_eq_true rfl) (fun J h hR => ?_)
  show J ((va_up G 0 M, X, A), b) (0, 0) [(0, .ref (L 11 0)), (1, .int p1), (2, .int p2)] 0 []
  refine j_aload_n h dX7_beginEnd_0 rfl 0 rfl ?_
  refine j_get h inlX7 (330 + 0) (ml_get 0) rfl 0 (by decide) (xr_1 19 rfl) rfl (v := .ref (L 0 0)) rfl dX7_beginEnd_1 ?_
  refine j_iload_n h dX7_beginEnd_4 rfl 1 rfl ?_
  refine j_callI h (n := 1) (c_X1_isRink l D cy L _ _ _ _ _ (by decide) _) (xg_V (xr_21 6 rfl) (xr_21 7 rfl) (xr_21 8 rfl) (xr_1 18 rfl) (xr_21 9 rfl)) rfl rfl (by decide +kernel) ⟨Nat.le_of_ble_eq_true rfl, Nat.le_of_ble_eq_true rfl⟩ (30 * 0 + 0) (at_G (by decide)) rfl rfl rfl rfl (Nat.le_of_ble_eq_true rfl) dX7_beginEnd_5 ⟨by decide, by decide⟩ (fun z1 u' hq => ?_)
  obtain ⟨hz1, rfl, bz1⟩ := hq
  refine j_if_ne h (tgt := 13) dX7_beginEnd_8 (by decide) (fun c2 => ?_) (fun c2 => ?_)
  · have vp1 : vp_in (p1) 4 := isRink_in (hG).r hz1 c2
    have bp1 : (p1).toNatClampNeg < 4 := vp_lt vp1
    have ep1 : p1 = nI (p1).toNatClampNeg := vp_nI vp1 (by decide)
    refine j_iload_n h dX7_beginEnd_13 rfl 2 rfl ?_
    refine j_bipush h (v := 20) dX7_beginEnd_14 (by decide) ?_
    refine j_icmp_lt h (tgt := 25) dX7_beginEnd_16 (by decide) (fun c3 => ?_) (fun c3 => ?_)
    · refine j_bipush h (v := (-2)) dX7_beginEnd_25 (by decide) ?_
      exact hR _ _ _ _ dX7_beginEnd_27 ⟨(_, _), Eq.symm ((bd_eq hz1 (ite_n c2 (ite_p c3 rfl)))), rfl, rfl, hG, hK, FC.rf⟩
    · refine j_iload_n h dX7_beginEnd_19 rfl 2 rfl ?_
      refine j_bipush h (v := 40) dX7_beginEnd_20 (by decide) ?_
      refine j_icmp_le h (tgt := 28) dX7_beginEnd_22 (by decide) (fun c4 => ?_) (fun c4 => ?_)
      · refine j_aload_n h dX7_beginEnd_28 rfl 0 rfl ?_
        refine j_get h inlX7 (330 + 0) (ml_get 0) rfl 0 (by decide) (xr_1 19 rfl) rfl (v := .ref (L 0 0)) rfl dX7_beginEnd_29 ?_
        refine j_get h inlX1 (30 * 0 + 0) (at_G (by decide)) rfl 0 (by decide) (xr_21 2 rfl) rfl (v := .ref (L 0 1)) rfl dX7_beginEnd_32 ?_
        refine j_iload_n h dX7_beginEnd_35 rfl 1 rfl ?_
        refine j_aaldE h (30 * 0 + 1) 1 (at_Ra (by decide)) rfl p1.toNatClampNeg ep1 (by omega) (by decide) dX7_beginEnd_36 ?_
        refine j_astore_n h (lv' := [(3, _), (0, _), (1, _), (2, _)]) dX7_beginEnd_37 rfl (by decide) rfl ?_
        refine j_aload_n h dX7_beginEnd_38 rfl 0 rfl ?_
        refine j_callI h (n := 0) (c_X5_isPlayed l D cy L _ _ _ _ _ (by decide) (by omega)) (xg_V (xr_21 10 rfl) (xr_9 23 rfl) (xr_10 0 rfl) (xr_2 23 rfl) (xr_10 1 rfl)) rfl rfl (by decide +kernel) ⟨Nat.le_of_ble_eq_true rfl, Nat.le_of_ble_eq_true rfl⟩ (30 * 0 + (4 + p1.toNatClampNeg)) (at_R (by decide) (by omega)) rfl rfl rfl rfl (Nat.le_of_ble_eq_true rfl) dX7_beginEnd_39 ⟨by decide, by decide⟩ (fun z5 u' hq => ?_)
        obtain ⟨hz5, rfl, bz5⟩ := hq
        refine j_if_eq h (tgt := 55) dX7_beginEnd_42 (by decide) (fun c6 => ?_) (fun c6 => ?_)
        · refine j_aload_n h dX7_beginEnd_55 rfl 0 rfl ?_
          refine j_get h inlX5 (30 * 0 + (4 + p1.toNatClampNeg)) (at_R (by decide) (by omega)) rfl 2 (by decide) (xr_21 4 rfl) rfl (v := .int (M.2.1 p1.toNatClampNeg 2)) rfl dX7_beginEnd_56 ?_
          refine j_bipush h (v := 8) dX7_beginEnd_59 (by decide) ?_
          refine j_icmp_lt h (tgt := 81) dX7_beginEnd_61 (by decide) (fun c7 => ?_) (fun c7 => ?_)
          · refine j_aload_n h dX7_beginEnd_81 rfl 0 rfl ?_
            refine j_iload_n h dX7_beginEnd_82 rfl 3 rfl ?_
            refine j_callV h (n := 1) (c_X5_startEnd l D cy L _ _ _ _ _ (by decide) (by omega) _) (xg_V (xr_22 8 rfl) (xr_22 9 rfl) (xr_22 10 rfl) (xr_2 23 rfl) (xr_22 11 rfl)) rfl rfl (by decide +kernel) ⟨Nat.le_of_ble_eq_true rfl, Nat.le_of_ble_eq_true rfl⟩ (30 * 0 + (4 + p1.toNatClampNeg)) (at_R (by decide) (by omega)) rfl rfl rfl rfl (Nat.le_of_ble_eq_true rfl) dX7_beginEnd_83 ⟨by decide, by decide⟩ (fun u' hq => ?_)
            obtain ⟨z8, hz8, rfl⟩ := hq
            have hGz8 : GI z8 := GI_se hG hz8
            refine j_aload_n h dX7_beginEnd_86 rfl 0 rfl ?_
            refine j_get h inlX5 (30 * 0 + (4 + p1.toNatClampNeg)) (at_R (by decide) (by omega)) rfl 6 (by decide) (xr_21 5 rfl) rfl (v := .int (z8.2.1 p1.toNatClampNeg 6)) rfl dX7_beginEnd_87 ?_
            exact hR _ _ _ _ dX7_beginEnd_90 ⟨(_, _), Eq.symm ((bd_eq hz1 (ite_n c2 (ite_n c3 (ite_p c4 (bd_eq hz5 (ite_p c6 (ite_p c7 (bd_eq hz8 rfl))))))))), rfl, rfl, hGz8, hK, FC.rf⟩
          · refine j_aload_n h dX7_beginEnd_64 rfl 1 rfl ?_
            refine j_aload_n h dX7_beginEnd_65 rfl 0 rfl ?_
            refine j_get h inlX5 (30 * 0 + (4 + p1.toNatClampNeg)) (at_R (by decide) (by omega)) rfl 2 (by decide) (xr_21 4 rfl) rfl (v := .int (M.2.1 p1.toNatClampNeg 2)) rfl dX7_beginEnd_66 ?_
            refine j_aload_n h dX7_beginEnd_69 rfl 1 rfl ?_
            refine j_get h inlX7 (330 + 0) (ml_get 0) rfl 0 (by decide) (xr_1 19 rfl) rfl (v := .ref (L 0 0)) rfl dX7_beginEnd_70 ?_
            refine j_iload_n h dX7_beginEnd_73 rfl 2 rfl ?_
            refine j_callI h (n := 1) (c_X1_hoursUntilDry l D cy L _ _ _ _ _ (by decide) _ (vp_of (j := p1.toNatClampNeg) ep1 (by omega) (by decide))) (xg_V (xr_22 0 rfl) (xr_22 1 rfl) (xr_22 2 rfl) (xr_1 18 rfl) (xr_22 3 rfl)) rfl rfl (by decide +kernel) ⟨Nat.le_of_ble_eq_true rfl, Nat.le_of_ble_eq_true rfl⟩ (30 * 0 + 0) (at_G (by decide)) rfl rfl rfl rfl (Nat.le_of_ble_eq_true rfl) dX7_beginEnd_74 ⟨by decide, by decide⟩ (fun z9 u' hq => ?_)
            obtain ⟨hz9, rfl⟩ := hq
            refine j_callI h (n := 2) (c_X7_refuseWetRink l D cy L _ _ _ _ _ _ _ hK) (xg_V (xr_22 4 rfl) (xr_22 5 rfl) (xr_22 6 rfl) (xr_1 2 rfl) (xr_22 7 rfl)) rfl rfl (by decide +kernel) ⟨Nat.le_of_ble_eq_true rfl, Nat.le_of_ble_eq_true rfl⟩ (330 + 0) (ml_get 0) rfl rfl rfl rfl (Nat.le_of_ble_eq_true rfl) dX7_beginEnd_77 ⟨by decide, by decide⟩ (fun r u' hq => ?_)
            obtain ⟨z10, hz10, rfl, rfl, qz10_0, qz10_1⟩ := hq
            exact hR _ _ _ _ dX7_beginEnd_80 ⟨(_, _), Eq.symm ((bd_eq hz1 (ite_n c2 (ite_n c3 (ite_p c4 (bd_eq hz5 (ite_p c6 (ite_n c7 (bd_eq hz9 (bd_eq hz10 rfl)))))))))), rfl, rfl, hG, qz10_0, (FC.tr FC.rf qz10_1)⟩
        · refine j_aload_n h dX7_beginEnd_45 rfl 1 rfl ?_
          refine j_iconst h (v := 4) dX7_beginEnd_46 (by decide) ?_
          refine j_aload_n h dX7_beginEnd_47 rfl 0 rfl ?_
          refine j_get h inlX5 (30 * 0 + (4 + p1.toNatClampNeg)) (at_R (by decide) (by omega)) rfl 4 (by decide) (xr_21 3 rfl) rfl (v := .int (M.2.1 p1.toNatClampNeg 4)) rfl dX7_beginEnd_48 ?_
          refine j_callI h (n := 2) (c_X7_refuse l D cy L _ _ _ _ _ _ _ hK) (xg_V (xr_21 11 rfl) (xr_21 12 rfl) (xr_21 13 rfl) (xr_1 2 rfl) (xr_21 14 rfl)) rfl rfl (by decide +kernel) ⟨Nat.le_of_ble_eq_true rfl, Nat.le_of_ble_eq_true rfl⟩ (330 + 0) (ml_get 0) rfl rfl rfl rfl (Nat.le_of_ble_eq_true rfl) dX7_beginEnd_51 ⟨by decide, by decide⟩ (fun r u' hq => ?_)
          obtain ⟨z11, hz11, rfl, rfl, qz11_0, qz11_1⟩ := hq
          exact hR _ _ _ _ dX7_beginEnd_54 ⟨(_, _), Eq.symm ((bd_eq hz1 (ite_n c2 (ite_n c3 (ite_p c4 (bd_eq hz5 (ite_n c6 (bd_eq hz11 rfl)))))))), rfl, rfl, hG, qz11_0, (FC.tr FC.rf qz11_1)⟩
      · refine j_bipush h (v := (-2)) dX7_beginEnd_25 (by decide) ?_
        exact hR _ _ _ _ dX7_beginEnd_27 ⟨(_, _), Eq.symm ((bd_eq hz1 (ite_n c2 (ite_n c3 (ite_n c4 rfl))))), rfl, rfl, hG, hK, FC.rf⟩
  · refine j_iconst h (v := (-1)) dX7_beginEnd_11 (by decide) ?_
    exact hR _ _ _ _ dX7_beginEnd_12 ⟨(_, _), Eq.symm ((bd_eq hz1 (ite_p c2 rfl))), rfl, rfl, hG, hK, FC.rf⟩

def f_X7_isBowlRefused (M : gM) (X : Nat → Int32) (A : Nat → Nat → Int32) (p1 : Int32) (p2 : Int32) : Int32 × (Nat → Int32) × (Nat → Nat → Int32) :=
  bd (f_X5_isPlayed M p1.toNatClampNeg) fun z1 =>
  if z1 = 0 then
    bd (f_X7_refuse M X A 5 p1) fun z13 =>
    if z13.1 = (-3) then
      (1, (z13.2.1, z13.2.2))
    else
      (0, (z13.2.1, z13.2.2))
  else
    if (M.2.2.1 p2.toNatClampNeg 2) = 0 then
      if (M.2.1 p1.toNatClampNeg (8 + (M.2.2.1 p2.toNatClampNeg 0).toNatClampNeg)) < 4 then
        if (M.2.1 p1.toNatClampNeg 6) = (M.2.2.1 p2.toNatClampNeg 0) then
          (0, (X, A))
        else
          bd (f_X7_refuse M X A 6 (M.2.1 p1.toNatClampNeg 6)) fun z7 =>
          if z7.1 = (-3) then
            (1, (z7.2.1, z7.2.2))
          else
            (0, (z7.2.1, z7.2.2))
      else
        bd (f_X7_refuse M X A 8 4) fun z9 =>
        if z9.1 = (-3) then
          (1, (z9.2.1, z9.2.2))
        else
          (0, (z9.2.1, z9.2.2))
    else
      bd (f_X7_refuse M X A 7 (M.2.2.1 p2.toNatClampNeg 3)) fun z11 =>
      if z11.1 = (-3) then
        (1, (z11.2.1, z11.2.2))
      else
        (0, (z11.2.1, z11.2.2))
abbrev rm_X7_isBowlRefused : Room := { frames := 2, cells := 0, slots := 0, locals := 44 }
set_option maxRecDepth 100000 in
set_option maxHeartbeats 4000000 in
theorem c_X7_isBowlRefused (l : Launch) (D : gD) (cy : Nat → ClassId) (L : Nat → Nat → Nat) (G : Nat → gM) (X : Nat → Int32) (A : Nat → Nat → Int32) (b : cB) (M : gM) (p1 : Int32) (p2 : Int32) (v1 : vp_in p1 4) (v2 : vp_in p2 16) (hG : GI M) (hK : vp_in (X 6) 4) : CtI l D cy (CW cy L) yX7_isBowlRefused cX7_isBowlRefused 6 (some .boolean) rm_X7_isBowlRefused [.ref (L 11 0), .int p1, .int p2] ((va_up G 0 M, X, A), b) (fun rv u => ∃ z : Int32 × ((Nat → Int32) × (Nat → Nat → Int32)), z = f_X7_isBowlRefused M X A p1 p2 ∧ rv = z.1 ∧ u = ((va_up G 0 M, z.2.1, z.2.2), b) ∧ (rv = 0 ∨ rv = 1) ∧ vp_in (z.2.1 6) 4 ∧ FC X z.2.1) 0 0 := by
  refine m_entZ cX7_isBowlRefused 6 (by decide) (Nat.le_of_ble_eq_true rfl) (fun J h hR => ?_)
  show J ((va_up G 0 M, X, A), b) (0, 0) [(0, .ref (L 11 0)), (1, .int p1), (2, .int p2)] 0 []
  have b1 : p1.toNatClampNeg < 4 := vp_lt v1
  have e1 : p1 = nI p1.toNatClampNeg := vp_nI v1 (by decide)
  have b2 : p2.toNatClampNeg < 16 := vp_lt v2
  have e2 : p2 = nI p2.toNatClampNeg := vp_nI v2 (by decide)
  have vcl : vp_in (M.2.2.1 p2.toNatClampNeg 0) 2 := clubC_in hG v2
  have bcl : (M.2.2.1 p2.toNatClampNeg 0).toNatClampNeg < 2 := vp_lt vcl
  have ecl : M.2.2.1 p2.toNatClampNeg 0 = nI (M.2.2.1 p2.toNatClampNeg 0).toNatClampNeg := vp_nI vcl (by decide)
  refine j_aload_n h dX7_isBowlRefused_0 rfl 0 rfl ?_
  refine j_get h inlX7 (330 + 0) (ml_get 0) rfl 0 (by decide) (xr_1 19 rfl) rfl (v := .ref (L 0 0)) rfl dX7_isBowlRefused_1 ?_
  refine j_get h inlX1 (30 * 0 + 0) (at_G (by decide)) rfl 0 (by decide) (xr_21 2 rfl) rfl (v := .ref (L 0 1)) rfl dX7_isBowlRefused_4 ?_
  refine j_iload_n h dX7_isBowlRefused_7 rfl 1 rfl ?_
  refine j_aaldE h (30 * 0 + 1) 1 (at_Ra (by decide)) rfl p1.toNatClampNeg e1 (by omega) (by decide) dX7_isBowlRefused_8 ?_
  refine j_astore_n h (lv' := [(3, _), (0, _), (1, _), (2, _)]) dX7_isBowlRefused_9 rfl (by decide) rfl ?_
  refine j_aload_n h dX7_isBowlRefused_10 rfl 1 rfl ?_
  refine j_get h inlX7 (330 + 0) (ml_get 0) rfl 0 (by decide) (xr_1 19 rfl) rfl (v := .ref (L 0 0)) rfl dX7_isBowlRefused_11 ?_
  refine j_get h inlX1 (30 * 0 + 0) (at_G (by decide)) rfl 1 (by decide) (xr_22 16 rfl) rfl (v := .ref (L 0 2)) rfl dX7_isBowlRefused_14 ?_
  refine j_iload_n h dX7_isBowlRefused_17 rfl 3 rfl ?_
  refine j_aaldE h (30 * 0 + 2) 2 (at_Wa (by decide)) rfl p2.toNatClampNeg e2 (by omega) (by decide) dX7_isBowlRefused_18 ?_
  refine j_astore h (lv' := [(4, _), (3, _), (0, _), (1, _), (2, _)]) dX7_isBowlRefused_19 (by decide) rfl ?_
  refine j_iconst h (v := 0) dX7_isBowlRefused_21 (by decide) ?_
  refine j_istore h (lv' := [(5, _), (4, _), (3, _), (0, _), (1, _), (2, _)]) dX7_isBowlRefused_22 (by decide) rfl ?_
  refine j_aload_n h dX7_isBowlRefused_24 rfl 2 rfl ?_
  refine j_callI h (n := 0) (c_X5_isPlayed l D cy L _ _ _ _ _ (by decide) (by omega)) (xg_V (xr_21 10 rfl) (xr_9 23 rfl) (xr_10 0 rfl) (xr_2 23 rfl) (xr_10 1 rfl)) rfl rfl (by decide +kernel) ⟨Nat.le_of_ble_eq_true rfl, Nat.le_of_ble_eq_true rfl⟩ (30 * 0 + (4 + p1.toNatClampNeg)) (at_R (by decide) (by omega)) rfl rfl rfl rfl (Nat.le_of_ble_eq_true rfl) dX7_isBowlRefused_25 ⟨by decide, by decide⟩ (fun z1 u' hq => ?_)
  obtain ⟨hz1, rfl, bz1⟩ := hq
  refine j_if_ne h (tgt := 42) dX7_isBowlRefused_28 (by decide) (fun c2 => ?_) (fun c2 => ?_)
  · refine j_aload h dX7_isBowlRefused_42 1 rfl ?_
    refine j_get h inlX6 (30 * 0 + (12 + p2.toNatClampNeg)) (at_W (by decide) (by omega)) rfl 2 (by decide) (xr_22 21 rfl) rfl (v := .int (M.2.2.1 p2.toNatClampNeg 2)) rfl dX7_isBowlRefused_44 ?_
    refine j_if_eq h (tgt := 66) dX7_isBowlRefused_47 (by decide) (fun c3 => ?_) (fun c3 => ?_)
    · refine j_aload_n h dX7_isBowlRefused_66 rfl 2 rfl ?_
      refine j_get h inlX5 (30 * 0 + (4 + p1.toNatClampNeg)) (at_R (by decide) (by omega)) rfl 8 (by decide) (xr_22 17 rfl) rfl (v := .ref (L 0 (8 + p1.toNatClampNeg))) rfl dX7_isBowlRefused_67 ?_
      refine j_aload h dX7_isBowlRefused_70 1 rfl ?_
      refine j_get h inlX6 (30 * 0 + (12 + p2.toNatClampNeg)) (at_W (by decide) (by omega)) rfl 0 (by decide) (xr_22 18 rfl) rfl (v := .int (M.2.2.1 p2.toNatClampNeg 0)) rfl dX7_isBowlRefused_72 ?_
      refine j_ialdE h (30 * 0 + (8 + p1.toNatClampNeg)) (at_B (by decide) (by omega)) ((M.2.2.1 p2.toNatClampNeg 0).toNatClampNeg) ecl (by omega) (by decide) dX7_isBowlRefused_75 ?_
      refine j_iconst h (v := 4) dX7_isBowlRefused_76 (by decide) ?_
      refine j_icmp_lt h (tgt := 92) dX7_isBowlRefused_77 (by decide) (fun c4 => ?_) (fun c4 => ?_)
      · refine j_aload_n h dX7_isBowlRefused_92 rfl 2 rfl ?_
        refine j_get h inlX5 (30 * 0 + (4 + p1.toNatClampNeg)) (at_R (by decide) (by omega)) rfl 6 (by decide) (xr_21 5 rfl) rfl (v := .int (M.2.1 p1.toNatClampNeg 6)) rfl dX7_isBowlRefused_93 ?_
        refine j_aload h dX7_isBowlRefused_96 1 rfl ?_
        refine j_get h inlX6 (30 * 0 + (12 + p2.toNatClampNeg)) (at_W (by decide) (by omega)) rfl 0 (by decide) (xr_22 18 rfl) rfl (v := .int (M.2.2.1 p2.toNatClampNeg 0)) rfl dX7_isBowlRefused_98 ?_
        refine j_icmp_eq h (tgt := 116) dX7_isBowlRefused_101 (by decide) (fun c5 => ?_) (fun c5 => ?_)
        · refine j_iload h dX7_isBowlRefused_116 0 rfl ?_
          refine j_bipush h (v := (-3)) dX7_isBowlRefused_118 (by decide) ?_
          refine j_icmp_ne h (tgt := 127) dX7_isBowlRefused_120 (by decide) (fun _ => ?_) (fun c6 => by first | exact absurd c6 (by decide) | exact absurd (by decide) c6)
          refine j_iconst h (v := 0) dX7_isBowlRefused_127 (by decide) ?_
          exact hR _ _ _ _ dX7_isBowlRefused_128 (Or.inl rfl) ⟨(_, _), Eq.symm ((bd_eq hz1 (ite_n c2 (ite_p c3 (ite_p c4 (ite_p c5 rfl)))))), rfl, rfl, (Or.inl rfl), hK, FC.rf⟩
        · refine j_aload_n h dX7_isBowlRefused_104 rfl 3 rfl ?_
          refine j_bipush h (v := 6) dX7_isBowlRefused_105 (by decide) ?_
          refine j_aload_n h dX7_isBowlRefused_107 rfl 2 rfl ?_
          refine j_get h inlX5 (30 * 0 + (4 + p1.toNatClampNeg)) (at_R (by decide) (by omega)) rfl 6 (by decide) (xr_21 5 rfl) rfl (v := .int (M.2.1 p1.toNatClampNeg 6)) rfl dX7_isBowlRefused_108 ?_
          refine j_callI h (n := 2) (c_X7_refuse l D cy L _ _ _ _ _ _ _ hK) (xg_V (xr_21 11 rfl) (xr_21 12 rfl) (xr_21 13 rfl) (xr_1 2 rfl) (xr_21 14 rfl)) rfl rfl (by decide +kernel) ⟨Nat.le_of_ble_eq_true rfl, Nat.le_of_ble_eq_true rfl⟩ (330 + 0) (ml_get 0) rfl rfl rfl rfl (Nat.le_of_ble_eq_true rfl) dX7_isBowlRefused_111 ⟨by decide, by decide⟩ (fun r u' hq => ?_)
          obtain ⟨z7, hz7, rfl, rfl, qz7_0, qz7_1⟩ := hq
          refine j_istore h (lv' := [(5, _), (4, _), (3, _), (0, _), (1, _), (2, _)]) dX7_isBowlRefused_114 (by decide) rfl ?_
          refine j_iload h dX7_isBowlRefused_116 0 rfl ?_
          refine j_bipush h (v := (-3)) dX7_isBowlRefused_118 (by decide) ?_
          refine j_icmp_ne h (tgt := 127) dX7_isBowlRefused_120 (by decide) (fun c8 => ?_) (fun c8 => ?_)
          · refine j_iconst h (v := 0) dX7_isBowlRefused_127 (by decide) ?_
            exact hR _ _ _ _ dX7_isBowlRefused_128 (Or.inl rfl) ⟨(_, _), Eq.symm ((bd_eq hz1 (ite_n c2 (ite_p c3 (ite_p c4 (ite_n c5 (bd_eq hz7 (ite_n c8 rfl)))))))), rfl, rfl, (Or.inl rfl), qz7_0, (FC.tr FC.rf qz7_1)⟩
          · refine j_iconst h (v := 1) dX7_isBowlRefused_123 (by decide) ?_
            refine j_goto h (tgt := 128) dX7_isBowlRefused_124 (by decide) ?_
            exact hR _ _ _ _ dX7_isBowlRefused_128 (Or.inr rfl) ⟨(_, _), Eq.symm ((bd_eq hz1 (ite_n c2 (ite_p c3 (ite_p c4 (ite_n c5 (bd_eq hz7 (ite_p c8 rfl)))))))), rfl, rfl, (Or.inr rfl), qz7_0, (FC.tr FC.rf qz7_1)⟩
      · refine j_aload_n h dX7_isBowlRefused_80 rfl 3 rfl ?_
        refine j_bipush h (v := 8) dX7_isBowlRefused_81 (by decide) ?_
        refine j_iconst h (v := 4) dX7_isBowlRefused_83 (by decide) ?_
        refine j_callI h (n := 2) (c_X7_refuse l D cy L _ _ _ _ _ _ _ hK) (xg_V (xr_21 11 rfl) (xr_21 12 rfl) (xr_21 13 rfl) (xr_1 2 rfl) (xr_21 14 rfl)) rfl rfl (by decide +kernel) ⟨Nat.le_of_ble_eq_true rfl, Nat.le_of_ble_eq_true rfl⟩ (330 + 0) (ml_get 0) rfl rfl rfl rfl (Nat.le_of_ble_eq_true rfl) dX7_isBowlRefused_84 ⟨by decide, by decide⟩ (fun r u' hq => ?_)
        obtain ⟨z9, hz9, rfl, rfl, qz9_0, qz9_1⟩ := hq
        refine j_istore h (lv' := [(5, _), (4, _), (3, _), (0, _), (1, _), (2, _)]) dX7_isBowlRefused_87 (by decide) rfl ?_
        refine j_goto h (tgt := 116) dX7_isBowlRefused_89 (by decide) ?_
        refine j_iload h dX7_isBowlRefused_116 0 rfl ?_
        refine j_bipush h (v := (-3)) dX7_isBowlRefused_118 (by decide) ?_
        refine j_icmp_ne h (tgt := 127) dX7_isBowlRefused_120 (by decide) (fun c10 => ?_) (fun c10 => ?_)
        · refine j_iconst h (v := 0) dX7_isBowlRefused_127 (by decide) ?_
          exact hR _ _ _ _ dX7_isBowlRefused_128 (Or.inl rfl) ⟨(_, _), Eq.symm ((bd_eq hz1 (ite_n c2 (ite_p c3 (ite_n c4 (bd_eq hz9 (ite_n c10 rfl))))))), rfl, rfl, (Or.inl rfl), qz9_0, (FC.tr FC.rf qz9_1)⟩
        · refine j_iconst h (v := 1) dX7_isBowlRefused_123 (by decide) ?_
          refine j_goto h (tgt := 128) dX7_isBowlRefused_124 (by decide) ?_
          exact hR _ _ _ _ dX7_isBowlRefused_128 (Or.inr rfl) ⟨(_, _), Eq.symm ((bd_eq hz1 (ite_n c2 (ite_p c3 (ite_n c4 (bd_eq hz9 (ite_p c10 rfl))))))), rfl, rfl, (Or.inr rfl), qz9_0, (FC.tr FC.rf qz9_1)⟩
    · refine j_aload_n h dX7_isBowlRefused_50 rfl 3 rfl ?_
      refine j_bipush h (v := 7) dX7_isBowlRefused_51 (by decide) ?_
      refine j_aload h dX7_isBowlRefused_53 1 rfl ?_
      refine j_get h inlX6 (30 * 0 + (12 + p2.toNatClampNeg)) (at_W (by decide) (by omega)) rfl 3 (by decide) (xr_22 20 rfl) rfl (v := .int (M.2.2.1 p2.toNatClampNeg 3)) rfl dX7_isBowlRefused_55 ?_
      refine j_callI h (n := 2) (c_X7_refuse l D cy L _ _ _ _ _ _ _ hK) (xg_V (xr_21 11 rfl) (xr_21 12 rfl) (xr_21 13 rfl) (xr_1 2 rfl) (xr_21 14 rfl)) rfl rfl (by decide +kernel) ⟨Nat.le_of_ble_eq_true rfl, Nat.le_of_ble_eq_true rfl⟩ (330 + 0) (ml_get 0) rfl rfl rfl rfl (Nat.le_of_ble_eq_true rfl) dX7_isBowlRefused_58 ⟨by decide, by decide⟩ (fun r u' hq => ?_)
      obtain ⟨z11, hz11, rfl, rfl, qz11_0, qz11_1⟩ := hq
      refine j_istore h (lv' := [(5, _), (4, _), (3, _), (0, _), (1, _), (2, _)]) dX7_isBowlRefused_61 (by decide) rfl ?_
      refine j_goto h (tgt := 116) dX7_isBowlRefused_63 (by decide) ?_
      refine j_iload h dX7_isBowlRefused_116 0 rfl ?_
      refine j_bipush h (v := (-3)) dX7_isBowlRefused_118 (by decide) ?_
      refine j_icmp_ne h (tgt := 127) dX7_isBowlRefused_120 (by decide) (fun c12 => ?_) (fun c12 => ?_)
      · refine j_iconst h (v := 0) dX7_isBowlRefused_127 (by decide) ?_
        exact hR _ _ _ _ dX7_isBowlRefused_128 (Or.inl rfl) ⟨(_, _), Eq.symm ((bd_eq hz1 (ite_n c2 (ite_n c3 (bd_eq hz11 (ite_n c12 rfl)))))), rfl, rfl, (Or.inl rfl), qz11_0, (FC.tr FC.rf qz11_1)⟩
      · refine j_iconst h (v := 1) dX7_isBowlRefused_123 (by decide) ?_
        refine j_goto h (tgt := 128) dX7_isBowlRefused_124 (by decide) ?_
        exact hR _ _ _ _ dX7_isBowlRefused_128 (Or.inr rfl) ⟨(_, _), Eq.symm ((bd_eq hz1 (ite_n c2 (ite_n c3 (bd_eq hz11 (ite_p c12 rfl)))))), rfl, rfl, (Or.inr rfl), qz11_0, (FC.tr FC.rf qz11_1)⟩
  · refine j_aload_n h dX7_isBowlRefused_31 rfl 3 rfl ?_
    refine j_iconst h (v := 5) dX7_isBowlRefused_32 (by decide) ?_
    refine j_iload_n h dX7_isBowlRefused_33 rfl 4 rfl ?_
    refine j_callI h (n := 2) (c_X7_refuse l D cy L _ _ _ _ _ _ _ hK) (xg_V (xr_21 11 rfl) (xr_21 12 rfl) (xr_21 13 rfl) (xr_1 2 rfl) (xr_21 14 rfl)) rfl rfl (by decide +kernel) ⟨Nat.le_of_ble_eq_true rfl, Nat.le_of_ble_eq_true rfl⟩ (330 + 0) (ml_get 0) rfl rfl rfl rfl (Nat.le_of_ble_eq_true rfl) dX7_isBowlRefused_34 ⟨by decide, by decide⟩ (fun r u' hq => ?_)
    obtain ⟨z13, hz13, rfl, rfl, qz13_0, qz13_1⟩ := hq
    refine j_istore h (lv' := [(5, _), (4, _), (3, _), (0, _), (1, _), (2, _)]) dX7_isBowlRefused_37 (by decide) rfl ?_
    refine j_goto h (tgt := 116) dX7_isBowlRefused_39 (by decide) ?_
    refine j_iload h dX7_isBowlRefused_116 0 rfl ?_
    refine j_bipush h (v := (-3)) dX7_isBowlRefused_118 (by decide) ?_
    refine j_icmp_ne h (tgt := 127) dX7_isBowlRefused_120 (by decide) (fun c14 => ?_) (fun c14 => ?_)
    · refine j_iconst h (v := 0) dX7_isBowlRefused_127 (by decide) ?_
      exact hR _ _ _ _ dX7_isBowlRefused_128 (Or.inl rfl) ⟨(_, _), Eq.symm ((bd_eq hz1 (ite_p c2 (bd_eq hz13 (ite_n c14 rfl))))), rfl, rfl, (Or.inl rfl), qz13_0, (FC.tr FC.rf qz13_1)⟩
    · refine j_iconst h (v := 1) dX7_isBowlRefused_123 (by decide) ?_
      refine j_goto h (tgt := 128) dX7_isBowlRefused_124 (by decide) ?_
      exact hR _ _ _ _ dX7_isBowlRefused_128 (Or.inr rfl) ⟨(_, _), Eq.symm ((bd_eq hz1 (ite_p c2 (bd_eq hz13 (ite_p c14 rfl))))), rfl, rfl, (Or.inr rfl), qz13_0, (FC.tr FC.rf qz13_1)⟩

def f_X7_bowlWood (M : gM) (X : Nat → Int32) (A : Nat → Nat → Int32) (p1 : Int32) (p2 : Int32) (p3 : Int32) (p4 : Int32) (p5 : Int32) : Int32 × gM × (Nat → Int32) × (Nat → Nat → Int32) :=
  bd (f_X1_isRink M p1) fun z1 =>
  if z1 = 0 then
    ((-1), (M, X, A))
  else
    bd (f_X1_isWood M p2) fun z3 =>
    if z3 = 0 then
      ((-1), (M, X, A))
    else
      bd (f_X5_holds M p1.toNatClampNeg p3) fun z5 =>
      if z5 = 0 then
        ((-2), (M, X, A))
      else
        bd (f_X7_isStrength M X A p4) fun z7 =>
        if z7 = 0 then
          ((-2), (M, X, A))
        else
          bd (f_X7_isBowlRefused M X A p1 p2) fun z9 =>
          if z9.1 = 0 then
            bd (f_X1_landing M p1 p2 p3 p4 p5) fun z11 =>
            bd (f_X7_otherClub (sr M p1.toNatClampNeg (8 + (M.2.2.1 p2.toNatClampNeg 0).toNatClampNeg) ((M.2.1 p1.toNatClampNeg (8 + (M.2.2.1 p2.toNatClampNeg 0).toNatClampNeg)) + 1)) z9.2.1 z9.2.2 ((sr M p1.toNatClampNeg (8 + (M.2.2.1 p2.toNatClampNeg 0).toNatClampNeg) ((M.2.1 p1.toNatClampNeg (8 + (M.2.2.1 p2.toNatClampNeg 0).toNatClampNeg)) + 1)).2.1 p1.toNatClampNeg 6)) fun z12 =>
            if z11 = (-4) then
              ((-4), (sw (sw (sw (sr (sr M p1.toNatClampNeg (8 + (M.2.2.1 p2.toNatClampNeg 0).toNatClampNeg) ((M.2.1 p1.toNatClampNeg (8 + (M.2.2.1 p2.toNatClampNeg 0).toNatClampNeg)) + 1)) p1.toNatClampNeg 6 z12) p2.toNatClampNeg 7 (((sr (sr M p1.toNatClampNeg (8 + (M.2.2.1 p2.toNatClampNeg 0).toNatClampNeg) ((M.2.1 p1.toNatClampNeg (8 + (M.2.2.1 p2.toNatClampNeg 0).toNatClampNeg)) + 1)) p1.toNatClampNeg 6 z12).2.2.1 p2.toNatClampNeg 7) + 1)) p2.toNatClampNeg 3 p1) p2.toNatClampNeg 2 2, z9.2.1, z9.2.2))
            else
              bd (f_X5_distance (sw (sw (sw (sw (sw (sr (sr M p1.toNatClampNeg (8 + (M.2.2.1 p2.toNatClampNeg 0).toNatClampNeg) ((M.2.1 p1.toNatClampNeg (8 + (M.2.2.1 p2.toNatClampNeg 0).toNatClampNeg)) + 1)) p1.toNatClampNeg 6 z12) p2.toNatClampNeg 7 (((sr (sr M p1.toNatClampNeg (8 + (M.2.2.1 p2.toNatClampNeg 0).toNatClampNeg) ((M.2.1 p1.toNatClampNeg (8 + (M.2.2.1 p2.toNatClampNeg 0).toNatClampNeg)) + 1)) p1.toNatClampNeg 6 z12).2.2.1 p2.toNatClampNeg 7) + 1)) p2.toNatClampNeg 3 p1) p2.toNatClampNeg 2 1) p2.toNatClampNeg 4 (z11 / 100)) p2.toNatClampNeg 5 (z11 - z11 / 100 * 100)) p1.toNatClampNeg ((sw (sw (sw (sw (sw (sr (sr M p1.toNatClampNeg (8 + (M.2.2.1 p2.toNatClampNeg 0).toNatClampNeg) ((M.2.1 p1.toNatClampNeg (8 + (M.2.2.1 p2.toNatClampNeg 0).toNatClampNeg)) + 1)) p1.toNatClampNeg 6 z12) p2.toNatClampNeg 7 (((sr (sr M p1.toNatClampNeg (8 + (M.2.2.1 p2.toNatClampNeg 0).toNatClampNeg) ((M.2.1 p1.toNatClampNeg (8 + (M.2.2.1 p2.toNatClampNeg 0).toNatClampNeg)) + 1)) p1.toNatClampNeg 6 z12).2.2.1 p2.toNatClampNeg 7) + 1)) p2.toNatClampNeg 3 p1) p2.toNatClampNeg 2 1) p2.toNatClampNeg 4 (z11 / 100)) p2.toNatClampNeg 5 (z11 - z11 / 100 * 100)).2.2.1 p2.toNatClampNeg 4) ((sw (sw (sw (sw (sw (sr (sr M p1.toNatClampNeg (8 + (M.2.2.1 p2.toNatClampNeg 0).toNatClampNeg) ((M.2.1 p1.toNatClampNeg (8 + (M.2.2.1 p2.toNatClampNeg 0).toNatClampNeg)) + 1)) p1.toNatClampNeg 6 z12) p2.toNatClampNeg 7 (((sr (sr M p1.toNatClampNeg (8 + (M.2.2.1 p2.toNatClampNeg 0).toNatClampNeg) ((M.2.1 p1.toNatClampNeg (8 + (M.2.2.1 p2.toNatClampNeg 0).toNatClampNeg)) + 1)) p1.toNatClampNeg 6 z12).2.2.1 p2.toNatClampNeg 7) + 1)) p2.toNatClampNeg 3 p1) p2.toNatClampNeg 2 1) p2.toNatClampNeg 4 (z11 / 100)) p2.toNatClampNeg 5 (z11 - z11 / 100 * 100)).2.2.1 p2.toNatClampNeg 5)) fun z14 =>
              ((sw (sw (sw (sw (sw (sw (sr (sr M p1.toNatClampNeg (8 + (M.2.2.1 p2.toNatClampNeg 0).toNatClampNeg) ((M.2.1 p1.toNatClampNeg (8 + (M.2.2.1 p2.toNatClampNeg 0).toNatClampNeg)) + 1)) p1.toNatClampNeg 6 z12) p2.toNatClampNeg 7 (((sr (sr M p1.toNatClampNeg (8 + (M.2.2.1 p2.toNatClampNeg 0).toNatClampNeg) ((M.2.1 p1.toNatClampNeg (8 + (M.2.2.1 p2.toNatClampNeg 0).toNatClampNeg)) + 1)) p1.toNatClampNeg 6 z12).2.2.1 p2.toNatClampNeg 7) + 1)) p2.toNatClampNeg 3 p1) p2.toNatClampNeg 2 1) p2.toNatClampNeg 4 (z11 / 100)) p2.toNatClampNeg 5 (z11 - z11 / 100 * 100)) p2.toNatClampNeg 6 z14).2.2.1 p2.toNatClampNeg 6, (sw (sw (sw (sw (sw (sw (sr (sr M p1.toNatClampNeg (8 + (M.2.2.1 p2.toNatClampNeg 0).toNatClampNeg) ((M.2.1 p1.toNatClampNeg (8 + (M.2.2.1 p2.toNatClampNeg 0).toNatClampNeg)) + 1)) p1.toNatClampNeg 6 z12) p2.toNatClampNeg 7 (((sr (sr M p1.toNatClampNeg (8 + (M.2.2.1 p2.toNatClampNeg 0).toNatClampNeg) ((M.2.1 p1.toNatClampNeg (8 + (M.2.2.1 p2.toNatClampNeg 0).toNatClampNeg)) + 1)) p1.toNatClampNeg 6 z12).2.2.1 p2.toNatClampNeg 7) + 1)) p2.toNatClampNeg 3 p1) p2.toNatClampNeg 2 1) p2.toNatClampNeg 4 (z11 / 100)) p2.toNatClampNeg 5 (z11 - z11 / 100 * 100)) p2.toNatClampNeg 6 z14, z9.2.1, z9.2.2))
          else
            ((-3), (M, z9.2.1, z9.2.2))
abbrev rm_X7_bowlWood : Room := { frames := 3, cells := 0, slots := 0, locals := 77 }
set_option maxRecDepth 100000 in
set_option maxHeartbeats 4000000 in
theorem c_X7_bowlWood (l : Launch) (D : gD) (cy : Nat → ClassId) (L : Nat → Nat → Nat) (G : Nat → gM) (X : Nat → Int32) (A : Nat → Nat → Int32) (b : cB) (M : gM) (p1 : Int32) (p2 : Int32) (p3 : Int32) (p4 : Int32) (p5 : Int32) (hG : GI M) (hK : vp_in (X 6) 4) : CtI l D cy (CW cy L) yX7_bowlWood cX7_bowlWood 9 (some .int) rm_X7_bowlWood [.ref (L 11 0), .int p1, .int p2, .int p3, .int p4, .int p5] ((va_up G 0 M, X, A), b) (fun rv u => ∃ z : Int32 × (gM × (Nat → Int32) × (Nat → Nat → Int32)), z = f_X7_bowlWood M X A p1 p2 p3 p4 p5 ∧ rv = z.1 ∧ u = ((va_up G 0 z.2.1, z.2.2.1, z.2.2.2), b) ∧ GI z.2.1 ∧ vp_in (z.2.2.1 6) 4 ∧ FC X z.2.2.1) 0 0 := by
  refine m_entI cX7_bowlWood 9 (by decide) (Nat.le_of_ble_eq_true rfl) (fun J h hR => ?_)
  show J ((va_up G 0 M, X, A), b) (0, 0) [(0, .ref (L 11 0)), (1, .int p1), (2, .int p2), (3, .int p3), (4, .int p4), (5, .int p5)] 0 []
  refine j_aload_n h dX7_bowlWood_0 rfl 0 rfl ?_
  refine j_get h inlX7 (330 + 0) (ml_get 0) rfl 0 (by decide) (xr_1 19 rfl) rfl (v := .ref (L 0 0)) rfl dX7_bowlWood_1 ?_
  refine j_iload_n h dX7_bowlWood_4 rfl 1 rfl ?_
  refine j_callI h (n := 1) (c_X1_isRink l D cy L _ _ _ _ _ (by decide) _) (xg_V (xr_21 6 rfl) (xr_21 7 rfl) (xr_21 8 rfl) (xr_1 18 rfl) (xr_21 9 rfl)) rfl rfl (by decide +kernel) ⟨Nat.le_of_ble_eq_true rfl, Nat.le_of_ble_eq_true rfl⟩ (30 * 0 + 0) (at_G (by decide)) rfl rfl rfl rfl (Nat.le_of_ble_eq_true rfl) dX7_bowlWood_5 ⟨by decide, by decide⟩ (fun z1 u' hq => ?_)
  obtain ⟨hz1, rfl, bz1⟩ := hq
  refine j_if_eq h (tgt := 22) dX7_bowlWood_8 (by decide) (fun c2 => ?_) (fun c2 => ?_)
  · refine j_iconst h (v := (-1)) dX7_bowlWood_22 (by decide) ?_
    exact hR _ _ _ _ dX7_bowlWood_23 ⟨(_, _), Eq.symm ((bd_eq hz1 (ite_p c2 rfl))), rfl, rfl, hG, hK, FC.rf⟩
  · have vp1 : vp_in (p1) 4 := isRink_in (hG).r hz1 c2
    have bp1 : (p1).toNatClampNeg < 4 := vp_lt vp1
    have ep1 : p1 = nI (p1).toNatClampNeg := vp_nI vp1 (by decide)
    refine j_aload_n h dX7_bowlWood_11 rfl 0 rfl ?_
    refine j_get h inlX7 (330 + 0) (ml_get 0) rfl 0 (by decide) (xr_1 19 rfl) rfl (v := .ref (L 0 0)) rfl dX7_bowlWood_12 ?_
    refine j_iload_n h dX7_bowlWood_15 rfl 2 rfl ?_
    refine j_callI h (n := 1) (c_X1_isWood l D cy L _ _ _ _ _ (by decide) _) (xg_V (xr_23 1 rfl) (xr_23 2 rfl) (xr_23 3 rfl) (xr_1 18 rfl) (xr_23 4 rfl)) rfl rfl (by decide +kernel) ⟨Nat.le_of_ble_eq_true rfl, Nat.le_of_ble_eq_true rfl⟩ (30 * 0 + 0) (at_G (by decide)) rfl rfl rfl rfl (Nat.le_of_ble_eq_true rfl) dX7_bowlWood_16 ⟨by decide, by decide⟩ (fun z3 u' hq => ?_)
    obtain ⟨hz3, rfl, bz3⟩ := hq
    refine j_if_ne h (tgt := 24) dX7_bowlWood_19 (by decide) (fun c4 => ?_) (fun c4 => ?_)
    · have vp2 : vp_in (p2) 16 := isWood_in (hG).w hz3 c4
      have bp2 : (p2).toNatClampNeg < 16 := vp_lt vp2
      have ep2 : p2 = nI (p2).toNatClampNeg := vp_nI vp2 (by decide)
      refine j_aload_n h dX7_bowlWood_24 rfl 0 rfl ?_
      refine j_get h inlX7 (330 + 0) (ml_get 0) rfl 0 (by decide) (xr_1 19 rfl) rfl (v := .ref (L 0 0)) rfl dX7_bowlWood_25 ?_
      refine j_get h inlX1 (30 * 0 + 0) (at_G (by decide)) rfl 0 (by decide) (xr_21 2 rfl) rfl (v := .ref (L 0 1)) rfl dX7_bowlWood_28 ?_
      refine j_iload_n h dX7_bowlWood_31 rfl 1 rfl ?_
      refine j_aaldE h (30 * 0 + 1) 1 (at_Ra (by decide)) rfl p1.toNatClampNeg ep1 (by omega) (by decide) dX7_bowlWood_32 ?_
      refine j_iload_n h dX7_bowlWood_33 rfl 3 rfl ?_
      refine j_callI h (n := 1) (c_X5_holds l D cy L _ _ _ _ _ (by decide) (by omega) _) (xg_V (xr_23 5 rfl) (xr_23 6 rfl) (xr_23 7 rfl) (xr_2 23 rfl) (xr_23 8 rfl)) rfl rfl (by decide +kernel) ⟨Nat.le_of_ble_eq_true rfl, Nat.le_of_ble_eq_true rfl⟩ (30 * 0 + (4 + p1.toNatClampNeg)) (at_R (by decide) (by omega)) rfl rfl rfl rfl (Nat.le_of_ble_eq_true rfl) dX7_bowlWood_34 ⟨by decide, by decide⟩ (fun z5 u' hq => ?_)
      obtain ⟨hz5, rfl, bz5⟩ := hq
      refine j_if_eq h (tgt := 48) dX7_bowlWood_37 (by decide) (fun c6 => ?_) (fun c6 => ?_)
      · refine j_bipush h (v := (-2)) dX7_bowlWood_48 (by decide) ?_
        exact hR _ _ _ _ dX7_bowlWood_50 ⟨(_, _), Eq.symm ((bd_eq hz1 (ite_n c2 (bd_eq hz3 (ite_n c4 (bd_eq hz5 (ite_p c6 rfl))))))), rfl, rfl, hG, hK, FC.rf⟩
      · refine j_iload h dX7_bowlWood_40 4 rfl ?_
        refine j_callS h (n := 1) (c_X7_isStrength l D cy L _ _ _ _ _ _) (xg_S (xr_23 9 rfl) (xr_23 10 rfl) (xr_1 2 rfl) (xr_23 11 rfl)) rfl rfl (by decide +kernel) ⟨Nat.le_of_ble_eq_true rfl, Nat.le_of_ble_eq_true rfl⟩  rfl rfl (Nat.le_of_ble_eq_true rfl) dX7_bowlWood_42 ⟨by decide, by decide⟩ (fun z7 u' hq => ?_)
        obtain ⟨hz7, rfl, bz7⟩ := hq
        refine j_if_ne h (tgt := 51) dX7_bowlWood_45 (by decide) (fun c8 => ?_) (fun c8 => ?_)
        · have vcl : vp_in (M.2.2.1 p2.toNatClampNeg 0) 2 := clubC_in hG vp2
          have bcl : (M.2.2.1 p2.toNatClampNeg 0).toNatClampNeg < 2 := vp_lt vcl
          have ecl : M.2.2.1 p2.toNatClampNeg 0 = nI (M.2.2.1 p2.toNatClampNeg 0).toNatClampNeg := vp_nI vcl (by decide)
          refine j_aload_n h dX7_bowlWood_51 rfl 0 rfl ?_
          refine j_iload_n h dX7_bowlWood_52 rfl 1 rfl ?_
          refine j_iload_n h dX7_bowlWood_53 rfl 2 rfl ?_
          refine j_callI h (n := 2) (c_X7_isBowlRefused l D cy L _ _ _ _ _ _ _ (vp_of (j := p1.toNatClampNeg) ep1 (by omega) (by decide)) (vp_of (j := p2.toNatClampNeg) ep2 (by omega) (by decide)) hG hK) (xg_V (xr_23 12 rfl) (xr_23 13 rfl) (xr_23 14 rfl) (xr_1 2 rfl) (xr_23 15 rfl)) rfl rfl (by decide +kernel) ⟨Nat.le_of_ble_eq_true rfl, Nat.le_of_ble_eq_true rfl⟩ (330 + 0) (ml_get 0) rfl rfl rfl rfl (Nat.le_of_ble_eq_true rfl) dX7_bowlWood_54 ⟨by decide, by decide⟩ (fun r u' hq => ?_)
          obtain ⟨z9, hz9, rfl, rfl, bz9, qz9_0, qz9_1⟩ := hq
          refine j_if_eq h (tgt := 63) dX7_bowlWood_57 (by decide) (fun c10 => ?_) (fun c10 => ?_)
          · refine j_aload_n h dX7_bowlWood_63 rfl 0 rfl ?_
            refine j_get h inlX7 (330 + 0) (ml_get 0) rfl 0 (by decide) (xr_1 19 rfl) rfl (v := .ref (L 0 0)) rfl dX7_bowlWood_64 ?_
            refine j_get h inlX1 (30 * 0 + 0) (at_G (by decide)) rfl 0 (by decide) (xr_21 2 rfl) rfl (v := .ref (L 0 1)) rfl dX7_bowlWood_67 ?_
            refine j_iload_n h dX7_bowlWood_70 rfl 1 rfl ?_
            refine j_aaldE h (30 * 0 + 1) 1 (at_Ra (by decide)) rfl p1.toNatClampNeg ep1 (by omega) (by decide) dX7_bowlWood_71 ?_
            refine j_astore h (lv' := [(6, _), (0, _), (1, _), (2, _), (3, _), (4, _), (5, _)]) dX7_bowlWood_72 (by decide) rfl ?_
            refine j_aload_n h dX7_bowlWood_74 rfl 1 rfl ?_
            refine j_get h inlX7 (330 + 0) (ml_get 0) rfl 0 (by decide) (xr_1 19 rfl) rfl (v := .ref (L 0 0)) rfl dX7_bowlWood_75 ?_
            refine j_get h inlX1 (30 * 0 + 0) (at_G (by decide)) rfl 1 (by decide) (xr_22 16 rfl) rfl (v := .ref (L 0 2)) rfl dX7_bowlWood_78 ?_
            refine j_iload_n h dX7_bowlWood_81 rfl 3 rfl ?_
            refine j_aaldE h (30 * 0 + 2) 2 (at_Wa (by decide)) rfl p2.toNatClampNeg ep2 (by omega) (by decide) dX7_bowlWood_82 ?_
            refine j_astore h (lv' := [(7, _), (6, _), (0, _), (1, _), (2, _), (3, _), (4, _), (5, _)]) dX7_bowlWood_83 (by decide) rfl ?_
            refine j_aload_n h dX7_bowlWood_85 rfl 2 rfl ?_
            refine j_get h inlX7 (330 + 0) (ml_get 0) rfl 0 (by decide) (xr_1 19 rfl) rfl (v := .ref (L 0 0)) rfl dX7_bowlWood_86 ?_
            refine j_iload_n h dX7_bowlWood_89 rfl 3 rfl ?_
            refine j_iload_n h dX7_bowlWood_90 rfl 4 rfl ?_
            refine j_iload_n h dX7_bowlWood_91 rfl 5 rfl ?_
            refine j_iload h dX7_bowlWood_92 6 rfl ?_
            refine j_iload h dX7_bowlWood_94 7 rfl ?_
            refine j_callI h (n := 5) (c_X1_landing l D cy L _ _ _ _ _ (by decide) _ _ _ _ _ (vp_of (j := p1.toNatClampNeg) ep1 (by omega) (by decide)) (vp_of (j := p2.toNatClampNeg) ep2 (by omega) (by decide)) (hG).w) (xg_V (xr_23 16 rfl) (xr_23 17 rfl) (xr_23 18 rfl) (xr_1 18 rfl) (xr_23 19 rfl)) rfl rfl (by decide +kernel) ⟨Nat.le_of_ble_eq_true rfl, Nat.le_of_ble_eq_true rfl⟩ (30 * 0 + 0) (at_G (by decide)) rfl rfl rfl rfl (Nat.le_of_ble_eq_true rfl) dX7_bowlWood_96 ⟨by decide, by decide⟩ (fun z11 u' hq => ?_)
            obtain ⟨hz11, rfl⟩ := hq
            refine j_istore h (lv' := [(8, _), (7, _), (6, _), (0, _), (1, _), (2, _), (3, _), (4, _), (5, _)]) dX7_bowlWood_99 (by decide) rfl ?_
            refine j_aload h dX7_bowlWood_101 2 rfl ?_
            refine j_get h inlX5 (30 * 0 + (4 + p1.toNatClampNeg)) (at_R (by decide) (by omega)) rfl 8 (by decide) (xr_22 17 rfl) rfl (v := .ref (L 0 (8 + p1.toNatClampNeg))) rfl dX7_bowlWood_103 ?_
            refine j_aload h dX7_bowlWood_106 1 rfl ?_
            refine j_get h inlX6 (30 * 0 + (12 + p2.toNatClampNeg)) (at_W (by decide) (by omega)) rfl 0 (by decide) (xr_22 18 rfl) rfl (v := .int (M.2.2.1 p2.toNatClampNeg 0)) rfl dX7_bowlWood_108 ?_
            refine j_dup2 h dX7_bowlWood_111 rfl rfl ?_
            refine j_ialdE h (30 * 0 + (8 + p1.toNatClampNeg)) (at_B (by decide) (by omega)) ((M.2.2.1 p2.toNatClampNeg 0).toNatClampNeg) ecl (by omega) (by decide) dX7_bowlWood_112 ?_
            refine j_iconst h (v := 1) dX7_bowlWood_113 (by decide) ?_
            refine j_iadd h dX7_bowlWood_114 ?_
            refine j_iastE h (30 * 0 + (8 + p1.toNatClampNeg)) (at_B (by decide) (by omega)) ((M.2.2.1 p2.toNatClampNeg 0).toNatClampNeg) ecl (by omega) (by decide) dX7_bowlWood_115 (u' := ((va_up G 0 (sr M p1.toNatClampNeg (8 + (M.2.2.1 p2.toNatClampNeg 0).toNatClampNeg) ((M.2.1 p1.toNatClampNeg (8 + (M.2.2.1 p2.toNatClampNeg 0).toNatClampNeg)) + 1)), z9.2.1, z9.2.2), b)) (to_B (by decide) (by omega)) ?_
            refine j_aload h dX7_bowlWood_116 2 rfl ?_
            refine j_aload h dX7_bowlWood_118 2 rfl ?_
            refine j_get h inlX5 (30 * 0 + (4 + p1.toNatClampNeg)) (at_R (by decide) (by omega)) rfl 6 (by decide) (xr_21 5 rfl) rfl (v := .int ((sr M p1.toNatClampNeg (8 + (M.2.2.1 p2.toNatClampNeg 0).toNatClampNeg) ((M.2.1 p1.toNatClampNeg (8 + (M.2.2.1 p2.toNatClampNeg 0).toNatClampNeg)) + 1)).2.1 p1.toNatClampNeg 6)) rfl dX7_bowlWood_120 ?_
            refine j_callS h (n := 1) (c_X7_otherClub l D cy L _ _ _ _ _ _) (xg_S (xr_24 8 rfl) (xr_24 9 rfl) (xr_1 2 rfl) (xr_24 10 rfl)) rfl rfl (by decide +kernel) ⟨Nat.le_of_ble_eq_true rfl, Nat.le_of_ble_eq_true rfl⟩  rfl rfl (Nat.le_of_ble_eq_true rfl) dX7_bowlWood_123 ⟨by decide, by decide⟩ (fun z12 u' hq => ?_)
            obtain ⟨hz12, rfl⟩ := hq
            refine j_put h inlX5 tyX5 tyX5_ok nmX5 (30 * 0 + (4 + p1.toNatClampNeg)) (at_R (by decide) (by omega)) rfl 6 (by decide) (xr_21 5 rfl) rfl rfl rfl rfl (Nat.le_of_ble_eq_true rfl) dX7_bowlWood_126 (to_R (by decide) (by omega) (by decide)) ?_
            refine j_aload h dX7_bowlWood_129 1 rfl ?_
            refine j_dup h dX7_bowlWood_131 rfl ?_
            refine j_get h inlX6 (30 * 0 + (12 + p2.toNatClampNeg)) (at_W (by decide) (by omega)) rfl 7 (by decide) (xr_22 19 rfl) rfl (v := .int ((sr (sr M p1.toNatClampNeg (8 + (M.2.2.1 p2.toNatClampNeg 0).toNatClampNeg) ((M.2.1 p1.toNatClampNeg (8 + (M.2.2.1 p2.toNatClampNeg 0).toNatClampNeg)) + 1)) p1.toNatClampNeg 6 z12).2.2.1 p2.toNatClampNeg 7)) rfl dX7_bowlWood_132 ?_
            refine j_iconst h (v := 1) dX7_bowlWood_135 (by decide) ?_
            refine j_iadd h dX7_bowlWood_136 ?_
            refine j_put h inlX6 tyX6 tyX6_ok nmX6 (30 * 0 + (12 + p2.toNatClampNeg)) (at_W (by decide) (by omega)) rfl 7 (by decide) (xr_22 19 rfl) rfl rfl rfl rfl (Nat.le_of_ble_eq_true rfl) dX7_bowlWood_137 (to_W (by decide) (by omega) (by decide)) ?_
            refine j_aload h dX7_bowlWood_140 1 rfl ?_
            refine j_iload_n h dX7_bowlWood_142 rfl 4 rfl ?_
            refine j_put h inlX6 tyX6 tyX6_ok nmX6 (30 * 0 + (12 + p2.toNatClampNeg)) (at_W (by decide) (by omega)) rfl 3 (by decide) (xr_22 20 rfl) rfl rfl rfl rfl (Nat.le_of_ble_eq_true rfl) dX7_bowlWood_143 (to_W (by decide) (by omega) (by decide)) ?_
            refine j_iload h dX7_bowlWood_146 0 rfl ?_
            refine j_bipush h (v := (-4)) dX7_bowlWood_148 (by decide) ?_
            refine j_icmp_ne h (tgt := 162) dX7_bowlWood_150 (by decide) (fun c13 => ?_) (fun c13 => ?_)
            · refine j_aload h dX7_bowlWood_162 1 rfl ?_
              refine j_iconst h (v := 1) dX7_bowlWood_164 (by decide) ?_
              refine j_put h inlX6 tyX6 tyX6_ok nmX6 (30 * 0 + (12 + p2.toNatClampNeg)) (at_W (by decide) (by omega)) rfl 2 (by decide) (xr_22 21 rfl) rfl rfl rfl rfl (Nat.le_of_ble_eq_true rfl) dX7_bowlWood_165 (to_W (by decide) (by omega) (by decide)) ?_
              refine j_aload h dX7_bowlWood_168 1 rfl ?_
              refine j_iload h dX7_bowlWood_170 0 rfl ?_
              refine j_bipush h (v := 100) dX7_bowlWood_172 (by decide) ?_
              refine j_idiv h dX7_bowlWood_174 (by decide) ?_
              refine j_put h inlX6 tyX6 tyX6_ok nmX6 (30 * 0 + (12 + p2.toNatClampNeg)) (at_W (by decide) (by omega)) rfl 4 (by decide) (xr_22 22 rfl) rfl rfl rfl rfl (Nat.le_of_ble_eq_true rfl) dX7_bowlWood_175 (to_W (by decide) (by omega) (by decide)) ?_
              refine j_aload h dX7_bowlWood_178 1 rfl ?_
              refine j_iload h dX7_bowlWood_180 0 rfl ?_
              refine j_bipush h (v := 100) dX7_bowlWood_182 (by decide) ?_
              refine j_irem h dX7_bowlWood_184 (by decide) ?_
              refine j_put h inlX6 tyX6 tyX6_ok nmX6 (30 * 0 + (12 + p2.toNatClampNeg)) (at_W (by decide) (by omega)) rfl 5 (by decide) (xr_22 23 rfl) rfl rfl rfl rfl (Nat.le_of_ble_eq_true rfl) dX7_bowlWood_185 (to_W (by decide) (by omega) (by decide)) ?_
              refine j_aload h dX7_bowlWood_188 1 rfl ?_
              refine j_aload h dX7_bowlWood_190 2 rfl ?_
              refine j_aload h dX7_bowlWood_192 1 rfl ?_
              refine j_get h inlX6 (30 * 0 + (12 + p2.toNatClampNeg)) (at_W (by decide) (by omega)) rfl 4 (by decide) (xr_22 22 rfl) rfl (v := .int ((sw (sw (sw (sw (sw (sr (sr M p1.toNatClampNeg (8 + (M.2.2.1 p2.toNatClampNeg 0).toNatClampNeg) ((M.2.1 p1.toNatClampNeg (8 + (M.2.2.1 p2.toNatClampNeg 0).toNatClampNeg)) + 1)) p1.toNatClampNeg 6 z12) p2.toNatClampNeg 7 (((sr (sr M p1.toNatClampNeg (8 + (M.2.2.1 p2.toNatClampNeg 0).toNatClampNeg) ((M.2.1 p1.toNatClampNeg (8 + (M.2.2.1 p2.toNatClampNeg 0).toNatClampNeg)) + 1)) p1.toNatClampNeg 6 z12).2.2.1 p2.toNatClampNeg 7) + 1)) p2.toNatClampNeg 3 p1) p2.toNatClampNeg 2 1) p2.toNatClampNeg 4 (z11 / 100)) p2.toNatClampNeg 5 (z11 - z11 / 100 * 100)).2.2.1 p2.toNatClampNeg 4)) rfl dX7_bowlWood_194 ?_
              refine j_aload h dX7_bowlWood_197 1 rfl ?_
              refine j_get h inlX6 (30 * 0 + (12 + p2.toNatClampNeg)) (at_W (by decide) (by omega)) rfl 5 (by decide) (xr_22 23 rfl) rfl (v := .int ((sw (sw (sw (sw (sw (sr (sr M p1.toNatClampNeg (8 + (M.2.2.1 p2.toNatClampNeg 0).toNatClampNeg) ((M.2.1 p1.toNatClampNeg (8 + (M.2.2.1 p2.toNatClampNeg 0).toNatClampNeg)) + 1)) p1.toNatClampNeg 6 z12) p2.toNatClampNeg 7 (((sr (sr M p1.toNatClampNeg (8 + (M.2.2.1 p2.toNatClampNeg 0).toNatClampNeg) ((M.2.1 p1.toNatClampNeg (8 + (M.2.2.1 p2.toNatClampNeg 0).toNatClampNeg)) + 1)) p1.toNatClampNeg 6 z12).2.2.1 p2.toNatClampNeg 7) + 1)) p2.toNatClampNeg 3 p1) p2.toNatClampNeg 2 1) p2.toNatClampNeg 4 (z11 / 100)) p2.toNatClampNeg 5 (z11 - z11 / 100 * 100)).2.2.1 p2.toNatClampNeg 5)) rfl dX7_bowlWood_199 ?_
              refine j_callI h (n := 2) (c_X5_distance l D cy L _ _ _ _ _ (by decide) (by omega) _ _) (xg_V (xr_24 11 rfl) (xr_24 12 rfl) (xr_24 13 rfl) (xr_2 23 rfl) (xr_24 14 rfl)) rfl rfl (by decide +kernel) ⟨Nat.le_of_ble_eq_true rfl, Nat.le_of_ble_eq_true rfl⟩ (30 * 0 + (4 + p1.toNatClampNeg)) (at_R (by decide) (by omega)) rfl rfl rfl rfl (Nat.le_of_ble_eq_true rfl) dX7_bowlWood_202 ⟨by decide, by decide⟩ (fun z14 u' hq => ?_)
              obtain ⟨hz14, rfl⟩ := hq
              refine j_put h inlX6 tyX6 tyX6_ok nmX6 (30 * 0 + (12 + p2.toNatClampNeg)) (at_W (by decide) (by omega)) rfl 6 (by decide) (xr_23 0 rfl) rfl rfl rfl rfl (Nat.le_of_ble_eq_true rfl) dX7_bowlWood_205 (to_W (by decide) (by omega) (by decide)) ?_
              refine j_aload h dX7_bowlWood_208 1 rfl ?_
              refine j_get h inlX6 (30 * 0 + (12 + p2.toNatClampNeg)) (at_W (by decide) (by omega)) rfl 6 (by decide) (xr_23 0 rfl) rfl (v := .int ((sw (sw (sw (sw (sw (sw (sr (sr M p1.toNatClampNeg (8 + (M.2.2.1 p2.toNatClampNeg 0).toNatClampNeg) ((M.2.1 p1.toNatClampNeg (8 + (M.2.2.1 p2.toNatClampNeg 0).toNatClampNeg)) + 1)) p1.toNatClampNeg 6 z12) p2.toNatClampNeg 7 (((sr (sr M p1.toNatClampNeg (8 + (M.2.2.1 p2.toNatClampNeg 0).toNatClampNeg) ((M.2.1 p1.toNatClampNeg (8 + (M.2.2.1 p2.toNatClampNeg 0).toNatClampNeg)) + 1)) p1.toNatClampNeg 6 z12).2.2.1 p2.toNatClampNeg 7) + 1)) p2.toNatClampNeg 3 p1) p2.toNatClampNeg 2 1) p2.toNatClampNeg 4 (z11 / 100)) p2.toNatClampNeg 5 (z11 - z11 / 100 * 100)) p2.toNatClampNeg 6 z14).2.2.1 p2.toNatClampNeg 6)) rfl dX7_bowlWood_210 ?_
              exact hR _ _ _ _ dX7_bowlWood_213 ⟨(_, _), Eq.symm ((bd_eq hz1 (ite_n c2 (bd_eq hz3 (ite_n c4 (bd_eq hz5 (ite_n c6 (bd_eq hz7 (ite_n c8 (bd_eq hz9 (ite_p c10 (bd_eq hz11 (bd_eq hz12 (ite_n c13 (bd_eq hz14 rfl))))))))))))))), rfl, rfl, (GI_sw (GI_sw (GI_sw (GI_sw (GI_sw (GI_sw (GI_sr (GI_sr hG)) (by decide)) (by decide)) (by decide)) (by decide)) (by decide)) (by decide)), qz9_0, (FC.tr FC.rf qz9_1)⟩
            · refine j_aload h dX7_bowlWood_153 1 rfl ?_
              refine j_iconst h (v := 2) dX7_bowlWood_155 (by decide) ?_
              refine j_put h inlX6 tyX6 tyX6_ok nmX6 (30 * 0 + (12 + p2.toNatClampNeg)) (at_W (by decide) (by omega)) rfl 2 (by decide) (xr_22 21 rfl) rfl rfl rfl rfl (Nat.le_of_ble_eq_true rfl) dX7_bowlWood_156 (to_W (by decide) (by omega) (by decide)) ?_
              refine j_bipush h (v := (-4)) dX7_bowlWood_159 (by decide) ?_
              exact hR _ _ _ _ dX7_bowlWood_161 ⟨(_, _), Eq.symm ((bd_eq hz1 (ite_n c2 (bd_eq hz3 (ite_n c4 (bd_eq hz5 (ite_n c6 (bd_eq hz7 (ite_n c8 (bd_eq hz9 (ite_p c10 (bd_eq hz11 (bd_eq hz12 (ite_p c13 rfl)))))))))))))), rfl, rfl, (GI_sw (GI_sw (GI_sw (GI_sr (GI_sr hG)) (by decide)) (by decide)) (by decide)), qz9_0, (FC.tr FC.rf qz9_1)⟩
          · refine j_bipush h (v := (-3)) dX7_bowlWood_60 (by decide) ?_
            exact hR _ _ _ _ dX7_bowlWood_62 ⟨(_, _), Eq.symm ((bd_eq hz1 (ite_n c2 (bd_eq hz3 (ite_n c4 (bd_eq hz5 (ite_n c6 (bd_eq hz7 (ite_n c8 (bd_eq hz9 (ite_n c10 rfl))))))))))), rfl, rfl, hG, qz9_0, (FC.tr FC.rf qz9_1)⟩
        · refine j_bipush h (v := (-2)) dX7_bowlWood_48 (by decide) ?_
          exact hR _ _ _ _ dX7_bowlWood_50 ⟨(_, _), Eq.symm ((bd_eq hz1 (ite_n c2 (bd_eq hz3 (ite_n c4 (bd_eq hz5 (ite_n c6 (bd_eq hz7 (ite_p c8 rfl))))))))), rfl, rfl, hG, hK, FC.rf⟩
    · refine j_iconst h (v := (-1)) dX7_bowlWood_22 (by decide) ?_
      exact hR _ _ _ _ dX7_bowlWood_23 ⟨(_, _), Eq.symm ((bd_eq hz1 (ite_n c2 (bd_eq hz3 (ite_p c4 rfl))))), rfl, rfl, hG, hK, FC.rf⟩

def f_X7_closeEnd (M : gM) (X : Nat → Int32) (A : Nat → Nat → Int32) (p1 : Int32) : Int32 × gM × (Nat → Int32) × (Nat → Nat → Int32) :=
  bd (f_X1_isRink M p1) fun z1 =>
  if z1 = 0 then
    ((-1), (M, X, A))
  else
    bd (f_X5_isPlayed M p1.toNatClampNeg) fun z3 =>
    if z3 = 0 then
      bd (f_X7_refuse M X A 5 p1) fun z14 =>
      (z14.1, (M, z14.2.1, z14.2.2))
    else
      bd (f_X1_countShots M p1) fun z5 =>
      if z5 ≤ 0 then
        bd (f_X5_finishEnd M p1.toNatClampNeg) fun z7 =>
        bd (f_X1_bringWoodsToShed z7 p1) fun z8 =>
        (z5, (z8, X, A))
      else
        if z5 ≤ 10 then
          bd (f_X5_finishEnd (sr (sc (sc M 0 0 ((M.2.2.2 0 0) + (z5 - z5 / 10 * 10))) 0 1 (((sc M 0 0 ((M.2.2.2 0 0) + (z5 - z5 / 10 * 10))).2.2.2 0 1) + 1)) p1.toNatClampNeg 5 0) p1.toNatClampNeg) fun z10 =>
          bd (f_X1_bringWoodsToShed z10 p1) fun z11 =>
          (z5, (z11, X, A))
        else
          bd (f_X5_finishEnd (sr (sc (sc M 1 0 ((M.2.2.2 1 0) + (z5 - z5 / 10 * 10))) 1 1 (((sc M 1 0 ((M.2.2.2 1 0) + (z5 - z5 / 10 * 10))).2.2.2 1 1) + 1)) p1.toNatClampNeg 5 1) p1.toNatClampNeg) fun z12 =>
          bd (f_X1_bringWoodsToShed z12 p1) fun z13 =>
          (z5, (z13, X, A))
abbrev rm_X7_closeEnd : Room := { frames := 3, cells := 0, slots := 0, locals := 69 }
set_option maxRecDepth 100000 in
set_option maxHeartbeats 4000000 in
theorem c_X7_closeEnd (l : Launch) (D : gD) (cy : Nat → ClassId) (L : Nat → Nat → Nat) (G : Nat → gM) (X : Nat → Int32) (A : Nat → Nat → Int32) (b : cB) (M : gM) (p1 : Int32) (hG : GI M) (hK : vp_in (X 6) 4) : CtI l D cy (CW cy L) yX7_closeEnd cX7_closeEnd 5 (some .int) rm_X7_closeEnd [.ref (L 11 0), .int p1] ((va_up G 0 M, X, A), b) (fun rv u => ∃ z : Int32 × (gM × (Nat → Int32) × (Nat → Nat → Int32)), z = f_X7_closeEnd M X A p1 ∧ rv = z.1 ∧ u = ((va_up G 0 z.2.1, z.2.2.1, z.2.2.2), b) ∧ GI z.2.1 ∧ vp_in (z.2.2.1 6) 4 ∧ FC X z.2.2.1) 0 0 := by
  refine m_entI cX7_closeEnd 5 (by decide) (Nat.le_of_ble_eq_true rfl) (fun J h hR => ?_)
  show J ((va_up G 0 M, X, A), b) (0, 0) [(0, .ref (L 11 0)), (1, .int p1)] 0 []
  refine j_aload_n h dX7_closeEnd_0 rfl 0 rfl ?_
  refine j_get h inlX7 (330 + 0) (ml_get 0) rfl 0 (by decide) (xr_1 19 rfl) rfl (v := .ref (L 0 0)) rfl dX7_closeEnd_1 ?_
  refine j_iload_n h dX7_closeEnd_4 rfl 1 rfl ?_
  refine j_callI h (n := 1) (c_X1_isRink l D cy L _ _ _ _ _ (by decide) _) (xg_V (xr_21 6 rfl) (xr_21 7 rfl) (xr_21 8 rfl) (xr_1 18 rfl) (xr_21 9 rfl)) rfl rfl (by decide +kernel) ⟨Nat.le_of_ble_eq_true rfl, Nat.le_of_ble_eq_true rfl⟩ (30 * 0 + 0) (at_G (by decide)) rfl rfl rfl rfl (Nat.le_of_ble_eq_true rfl) dX7_closeEnd_5 ⟨by decide, by decide⟩ (fun z1 u' hq => ?_)
  obtain ⟨hz1, rfl, bz1⟩ := hq
  refine j_if_ne h (tgt := 13) dX7_closeEnd_8 (by decide) (fun c2 => ?_) (fun c2 => ?_)
  · have vp1 : vp_in (p1) 4 := isRink_in (hG).r hz1 c2
    have bp1 : (p1).toNatClampNeg < 4 := vp_lt vp1
    have ep1 : p1 = nI (p1).toNatClampNeg := vp_nI vp1 (by decide)
    refine j_aload_n h dX7_closeEnd_13 rfl 0 rfl ?_
    refine j_get h inlX7 (330 + 0) (ml_get 0) rfl 0 (by decide) (xr_1 19 rfl) rfl (v := .ref (L 0 0)) rfl dX7_closeEnd_14 ?_
    refine j_get h inlX1 (30 * 0 + 0) (at_G (by decide)) rfl 0 (by decide) (xr_21 2 rfl) rfl (v := .ref (L 0 1)) rfl dX7_closeEnd_17 ?_
    refine j_iload_n h dX7_closeEnd_20 rfl 1 rfl ?_
    refine j_aaldE h (30 * 0 + 1) 1 (at_Ra (by decide)) rfl p1.toNatClampNeg ep1 (by omega) (by decide) dX7_closeEnd_21 ?_
    refine j_astore_n h (lv' := [(2, _), (0, _), (1, _)]) dX7_closeEnd_22 rfl (by decide) rfl ?_
    refine j_aload_n h dX7_closeEnd_23 rfl 0 rfl ?_
    refine j_callI h (n := 0) (c_X5_isPlayed l D cy L _ _ _ _ _ (by decide) (by omega)) (xg_V (xr_21 10 rfl) (xr_9 23 rfl) (xr_10 0 rfl) (xr_2 23 rfl) (xr_10 1 rfl)) rfl rfl (by decide +kernel) ⟨Nat.le_of_ble_eq_true rfl, Nat.le_of_ble_eq_true rfl⟩ (30 * 0 + (4 + p1.toNatClampNeg)) (at_R (by decide) (by omega)) rfl rfl rfl rfl (Nat.le_of_ble_eq_true rfl) dX7_closeEnd_24 ⟨by decide, by decide⟩ (fun z3 u' hq => ?_)
    obtain ⟨hz3, rfl, bz3⟩ := hq
    refine j_if_ne h (tgt := 37) dX7_closeEnd_27 (by decide) (fun c4 => ?_) (fun c4 => ?_)
    · refine j_aload_n h dX7_closeEnd_37 rfl 1 rfl ?_
      refine j_get h inlX7 (330 + 0) (ml_get 0) rfl 0 (by decide) (xr_1 19 rfl) rfl (v := .ref (L 0 0)) rfl dX7_closeEnd_38 ?_
      refine j_iload_n h dX7_closeEnd_41 rfl 2 rfl ?_
      refine j_callI h (n := 1) (c_X1_countShots l D cy L _ _ _ _ _ (by decide) _ (hG).w) (xg_V (xr_24 23 rfl) (xr_25 0 rfl) (xr_25 1 rfl) (xr_1 18 rfl) (xr_25 2 rfl)) rfl rfl (by decide +kernel) ⟨Nat.le_of_ble_eq_true rfl, Nat.le_of_ble_eq_true rfl⟩ (30 * 0 + 0) (at_G (by decide)) rfl rfl rfl rfl (Nat.le_of_ble_eq_true rfl) dX7_closeEnd_42 ⟨by decide, by decide⟩ (fun z5 u' hq => ?_)
      obtain ⟨hz5, rfl⟩ := hq
      refine j_istore_n h (lv' := [(3, _), (2, _), (0, _), (1, _)]) dX7_closeEnd_45 rfl (by decide) rfl ?_
      refine j_iload_n h dX7_closeEnd_46 rfl 0 rfl ?_
      refine j_if_le h (tgt := 110) dX7_closeEnd_47 (by decide) (fun c6 => ?_) (fun c6 => ?_)
      · refine j_aload_n h dX7_closeEnd_110 rfl 1 rfl ?_
        refine j_callV h (n := 0) (c_X5_finishEnd l D cy L _ _ _ _ _ (by decide) (by omega)) (xg_V (xr_25 13 rfl) (xr_25 14 rfl) (xr_25 15 rfl) (xr_2 23 rfl) (xr_25 16 rfl)) rfl rfl (by decide +kernel) ⟨Nat.le_of_ble_eq_true rfl, Nat.le_of_ble_eq_true rfl⟩ (30 * 0 + (4 + p1.toNatClampNeg)) (at_R (by decide) (by omega)) rfl rfl rfl rfl (Nat.le_of_ble_eq_true rfl) dX7_closeEnd_111 ⟨by decide, by decide⟩ (fun u' hq => ?_)
        obtain ⟨z7, hz7, rfl⟩ := hq
        have hGz7 : GI z7 := GI_fe hG hz7
        refine j_aload_n h dX7_closeEnd_114 rfl 2 rfl ?_
        refine j_get h inlX7 (330 + 0) (ml_get 0) rfl 0 (by decide) (xr_1 19 rfl) rfl (v := .ref (L 0 0)) rfl dX7_closeEnd_115 ?_
        refine j_iload_n h dX7_closeEnd_118 rfl 3 rfl ?_
        refine j_callV h (n := 1) (c_X1_bringWoodsToShed l D cy L _ _ _ _ _ (by decide) _ (hGz7).w) (xg_V (xr_25 17 rfl) (xr_25 18 rfl) (xr_25 19 rfl) (xr_1 18 rfl) (xr_25 20 rfl)) rfl rfl (by decide +kernel) ⟨Nat.le_of_ble_eq_true rfl, Nat.le_of_ble_eq_true rfl⟩ (30 * 0 + 0) (at_G (by decide)) rfl rfl rfl rfl (Nat.le_of_ble_eq_true rfl) dX7_closeEnd_119 ⟨by decide, by decide⟩ (fun u' hq => ?_)
        obtain ⟨z8, hz8, rfl⟩ := hq
        have hGz8 : GI z8 := GI_bw hGz7 hz8
        refine j_iload_n h dX7_closeEnd_122 rfl 0 rfl ?_
        exact hR _ _ _ _ dX7_closeEnd_123 ⟨(_, _), Eq.symm ((bd_eq hz1 (ite_n c2 (bd_eq hz3 (ite_n c4 (bd_eq hz5 (ite_p c6 (bd_eq hz7 (bd_eq hz8 rfl))))))))), rfl, rfl, hGz8, hK, FC.rf⟩
      · refine j_iload_n h dX7_closeEnd_50 rfl 0 rfl ?_
        refine j_bipush h (v := 10) dX7_closeEnd_51 (by decide) ?_
        refine j_icmp_le h (tgt := 60) dX7_closeEnd_53 (by decide) (fun c9 => ?_) (fun c9 => ?_)
        · refine j_iconst h (v := 0) dX7_closeEnd_60 (by decide) ?_
          refine j_istore h (lv' := [(4, _), (3, _), (2, _), (0, _), (1, _)]) dX7_closeEnd_61 (by decide) rfl ?_
          refine j_aload_n h dX7_closeEnd_63 rfl 3 rfl ?_
          refine j_get h inlX7 (330 + 0) (ml_get 0) rfl 0 (by decide) (xr_1 19 rfl) rfl (v := .ref (L 0 0)) rfl dX7_closeEnd_64 ?_
          refine j_get h inlX1 (30 * 0 + 0) (at_G (by decide)) rfl 2 (by decide) (xr_24 19 rfl) rfl (v := .ref (L 0 3)) rfl dX7_closeEnd_67 ?_
          refine j_iload h dX7_closeEnd_70 0 rfl ?_
          refine j_aaldE h (30 * 0 + 3) 3 (at_Ca (by decide)) rfl 0 rfl (by decide) (by decide) dX7_closeEnd_72 ?_
          refine j_dup h dX7_closeEnd_73 rfl ?_
          refine j_get h inlX0 (30 * 0 + (28 + 0)) (at_C (by decide) (by omega)) rfl 0 (by decide) (xr_24 20 rfl) rfl (v := .int (M.2.2.2 0 0)) rfl dX7_closeEnd_74 ?_
          refine j_iload_n h dX7_closeEnd_77 rfl 1 rfl ?_
          refine j_bipush h (v := 10) dX7_closeEnd_78 (by decide) ?_
          refine j_irem h dX7_closeEnd_80 (by decide) ?_
          refine j_iadd h dX7_closeEnd_81 ?_
          refine j_put h inlX0 tyX0 tyX0_ok nmX0 (30 * 0 + (28 + 0)) (at_C (by decide) (by omega)) rfl 0 (by decide) (xr_24 20 rfl) rfl rfl rfl rfl (Nat.le_of_ble_eq_true rfl) dX7_closeEnd_82 (to_C (by decide) (by omega) (by decide)) ?_
          refine j_aload_n h dX7_closeEnd_85 rfl 3 rfl ?_
          refine j_get h inlX7 (330 + 0) (ml_get 0) rfl 0 (by decide) (xr_1 19 rfl) rfl (v := .ref (L 0 0)) rfl dX7_closeEnd_86 ?_
          refine j_get h inlX1 (30 * 0 + 0) (at_G (by decide)) rfl 2 (by decide) (xr_24 19 rfl) rfl (v := .ref (L 0 3)) rfl dX7_closeEnd_89 ?_
          refine j_iload h dX7_closeEnd_92 0 rfl ?_
          refine j_aaldE h (30 * 0 + 3) 3 (at_Ca (by decide)) rfl 0 rfl (by decide) (by decide) dX7_closeEnd_94 ?_
          refine j_dup h dX7_closeEnd_95 rfl ?_
          refine j_get h inlX0 (30 * 0 + (28 + 0)) (at_C (by decide) (by omega)) rfl 1 (by decide) (xr_24 21 rfl) rfl (v := .int ((sc M 0 0 ((M.2.2.2 0 0) + (z5 - z5 / 10 * 10))).2.2.2 0 1)) rfl dX7_closeEnd_96 ?_
          refine j_iconst h (v := 1) dX7_closeEnd_99 (by decide) ?_
          refine j_iadd h dX7_closeEnd_100 ?_
          refine j_put h inlX0 tyX0 tyX0_ok nmX0 (30 * 0 + (28 + 0)) (at_C (by decide) (by omega)) rfl 1 (by decide) (xr_24 21 rfl) rfl rfl rfl rfl (Nat.le_of_ble_eq_true rfl) dX7_closeEnd_101 (to_C (by decide) (by omega) (by decide)) ?_
          refine j_aload_n h dX7_closeEnd_104 rfl 2 rfl ?_
          refine j_iload h dX7_closeEnd_105 0 rfl ?_
          refine j_put h inlX5 tyX5 tyX5_ok nmX5 (30 * 0 + (4 + p1.toNatClampNeg)) (at_R (by decide) (by omega)) rfl 5 (by decide) (xr_24 22 rfl) rfl rfl rfl rfl (Nat.le_of_ble_eq_true rfl) dX7_closeEnd_107 (to_R (by decide) (by omega) (by decide)) ?_
          refine j_aload_n h dX7_closeEnd_110 rfl 2 rfl ?_
          refine j_callV h (n := 0) (c_X5_finishEnd l D cy L _ _ _ _ _ (by decide) (by omega)) (xg_V (xr_25 13 rfl) (xr_25 14 rfl) (xr_25 15 rfl) (xr_2 23 rfl) (xr_25 16 rfl)) rfl rfl (by decide +kernel) ⟨Nat.le_of_ble_eq_true rfl, Nat.le_of_ble_eq_true rfl⟩ (30 * 0 + (4 + p1.toNatClampNeg)) (at_R (by decide) (by omega)) rfl rfl rfl rfl (Nat.le_of_ble_eq_true rfl) dX7_closeEnd_111 ⟨by decide, by decide⟩ (fun u' hq => ?_)
          obtain ⟨z10, hz10, rfl⟩ := hq
          have hGz10 : GI z10 := GI_fe (GI_sr (GI_sc (GI_sc hG))) hz10
          refine j_aload_n h dX7_closeEnd_114 rfl 3 rfl ?_
          refine j_get h inlX7 (330 + 0) (ml_get 0) rfl 0 (by decide) (xr_1 19 rfl) rfl (v := .ref (L 0 0)) rfl dX7_closeEnd_115 ?_
          refine j_iload_n h dX7_closeEnd_118 rfl 4 rfl ?_
          refine j_callV h (n := 1) (c_X1_bringWoodsToShed l D cy L _ _ _ _ _ (by decide) _ (hGz10).w) (xg_V (xr_25 17 rfl) (xr_25 18 rfl) (xr_25 19 rfl) (xr_1 18 rfl) (xr_25 20 rfl)) rfl rfl (by decide +kernel) ⟨Nat.le_of_ble_eq_true rfl, Nat.le_of_ble_eq_true rfl⟩ (30 * 0 + 0) (at_G (by decide)) rfl rfl rfl rfl (Nat.le_of_ble_eq_true rfl) dX7_closeEnd_119 ⟨by decide, by decide⟩ (fun u' hq => ?_)
          obtain ⟨z11, hz11, rfl⟩ := hq
          have hGz11 : GI z11 := GI_bw hGz10 hz11
          refine j_iload_n h dX7_closeEnd_122 rfl 1 rfl ?_
          exact hR _ _ _ _ dX7_closeEnd_123 ⟨(_, _), Eq.symm ((bd_eq hz1 (ite_n c2 (bd_eq hz3 (ite_n c4 (bd_eq hz5 (ite_n c6 (ite_p c9 (bd_eq hz10 (bd_eq hz11 rfl)))))))))), rfl, rfl, hGz11, hK, FC.rf⟩
        · refine j_iconst h (v := 1) dX7_closeEnd_56 (by decide) ?_
          refine j_goto h (tgt := 61) dX7_closeEnd_57 (by decide) ?_
          refine j_istore h (lv' := [(4, _), (3, _), (2, _), (0, _), (1, _)]) dX7_closeEnd_61 (by decide) rfl ?_
          refine j_aload_n h dX7_closeEnd_63 rfl 3 rfl ?_
          refine j_get h inlX7 (330 + 0) (ml_get 0) rfl 0 (by decide) (xr_1 19 rfl) rfl (v := .ref (L 0 0)) rfl dX7_closeEnd_64 ?_
          refine j_get h inlX1 (30 * 0 + 0) (at_G (by decide)) rfl 2 (by decide) (xr_24 19 rfl) rfl (v := .ref (L 0 3)) rfl dX7_closeEnd_67 ?_
          refine j_iload h dX7_closeEnd_70 0 rfl ?_
          refine j_aaldE h (30 * 0 + 3) 3 (at_Ca (by decide)) rfl 1 rfl (by decide) (by decide) dX7_closeEnd_72 ?_
          refine j_dup h dX7_closeEnd_73 rfl ?_
          refine j_get h inlX0 (30 * 0 + (28 + 1)) (at_C (by decide) (by omega)) rfl 0 (by decide) (xr_24 20 rfl) rfl (v := .int (M.2.2.2 1 0)) rfl dX7_closeEnd_74 ?_
          refine j_iload_n h dX7_closeEnd_77 rfl 1 rfl ?_
          refine j_bipush h (v := 10) dX7_closeEnd_78 (by decide) ?_
          refine j_irem h dX7_closeEnd_80 (by decide) ?_
          refine j_iadd h dX7_closeEnd_81 ?_
          refine j_put h inlX0 tyX0 tyX0_ok nmX0 (30 * 0 + (28 + 1)) (at_C (by decide) (by omega)) rfl 0 (by decide) (xr_24 20 rfl) rfl rfl rfl rfl (Nat.le_of_ble_eq_true rfl) dX7_closeEnd_82 (to_C (by decide) (by omega) (by decide)) ?_
          refine j_aload_n h dX7_closeEnd_85 rfl 3 rfl ?_
          refine j_get h inlX7 (330 + 0) (ml_get 0) rfl 0 (by decide) (xr_1 19 rfl) rfl (v := .ref (L 0 0)) rfl dX7_closeEnd_86 ?_
          refine j_get h inlX1 (30 * 0 + 0) (at_G (by decide)) rfl 2 (by decide) (xr_24 19 rfl) rfl (v := .ref (L 0 3)) rfl dX7_closeEnd_89 ?_
          refine j_iload h dX7_closeEnd_92 0 rfl ?_
          refine j_aaldE h (30 * 0 + 3) 3 (at_Ca (by decide)) rfl 1 rfl (by decide) (by decide) dX7_closeEnd_94 ?_
          refine j_dup h dX7_closeEnd_95 rfl ?_
          refine j_get h inlX0 (30 * 0 + (28 + 1)) (at_C (by decide) (by omega)) rfl 1 (by decide) (xr_24 21 rfl) rfl (v := .int ((sc M 1 0 ((M.2.2.2 1 0) + (z5 - z5 / 10 * 10))).2.2.2 1 1)) rfl dX7_closeEnd_96 ?_
          refine j_iconst h (v := 1) dX7_closeEnd_99 (by decide) ?_
          refine j_iadd h dX7_closeEnd_100 ?_
          refine j_put h inlX0 tyX0 tyX0_ok nmX0 (30 * 0 + (28 + 1)) (at_C (by decide) (by omega)) rfl 1 (by decide) (xr_24 21 rfl) rfl rfl rfl rfl (Nat.le_of_ble_eq_true rfl) dX7_closeEnd_101 (to_C (by decide) (by omega) (by decide)) ?_
          refine j_aload_n h dX7_closeEnd_104 rfl 2 rfl ?_
          refine j_iload h dX7_closeEnd_105 0 rfl ?_
          refine j_put h inlX5 tyX5 tyX5_ok nmX5 (30 * 0 + (4 + p1.toNatClampNeg)) (at_R (by decide) (by omega)) rfl 5 (by decide) (xr_24 22 rfl) rfl rfl rfl rfl (Nat.le_of_ble_eq_true rfl) dX7_closeEnd_107 (to_R (by decide) (by omega) (by decide)) ?_
          refine j_aload_n h dX7_closeEnd_110 rfl 2 rfl ?_
          refine j_callV h (n := 0) (c_X5_finishEnd l D cy L _ _ _ _ _ (by decide) (by omega)) (xg_V (xr_25 13 rfl) (xr_25 14 rfl) (xr_25 15 rfl) (xr_2 23 rfl) (xr_25 16 rfl)) rfl rfl (by decide +kernel) ⟨Nat.le_of_ble_eq_true rfl, Nat.le_of_ble_eq_true rfl⟩ (30 * 0 + (4 + p1.toNatClampNeg)) (at_R (by decide) (by omega)) rfl rfl rfl rfl (Nat.le_of_ble_eq_true rfl) dX7_closeEnd_111 ⟨by decide, by decide⟩ (fun u' hq => ?_)
          obtain ⟨z12, hz12, rfl⟩ := hq
          have hGz12 : GI z12 := GI_fe (GI_sr (GI_sc (GI_sc hG))) hz12
          refine j_aload_n h dX7_closeEnd_114 rfl 3 rfl ?_
          refine j_get h inlX7 (330 + 0) (ml_get 0) rfl 0 (by decide) (xr_1 19 rfl) rfl (v := .ref (L 0 0)) rfl dX7_closeEnd_115 ?_
          refine j_iload_n h dX7_closeEnd_118 rfl 4 rfl ?_
          refine j_callV h (n := 1) (c_X1_bringWoodsToShed l D cy L _ _ _ _ _ (by decide) _ (hGz12).w) (xg_V (xr_25 17 rfl) (xr_25 18 rfl) (xr_25 19 rfl) (xr_1 18 rfl) (xr_25 20 rfl)) rfl rfl (by decide +kernel) ⟨Nat.le_of_ble_eq_true rfl, Nat.le_of_ble_eq_true rfl⟩ (30 * 0 + 0) (at_G (by decide)) rfl rfl rfl rfl (Nat.le_of_ble_eq_true rfl) dX7_closeEnd_119 ⟨by decide, by decide⟩ (fun u' hq => ?_)
          obtain ⟨z13, hz13, rfl⟩ := hq
          have hGz13 : GI z13 := GI_bw hGz12 hz13
          refine j_iload_n h dX7_closeEnd_122 rfl 1 rfl ?_
          exact hR _ _ _ _ dX7_closeEnd_123 ⟨(_, _), Eq.symm ((bd_eq hz1 (ite_n c2 (bd_eq hz3 (ite_n c4 (bd_eq hz5 (ite_n c6 (ite_n c9 (bd_eq hz12 (bd_eq hz13 rfl)))))))))), rfl, rfl, hGz13, hK, FC.rf⟩
    · refine j_aload_n h dX7_closeEnd_30 rfl 1 rfl ?_
      refine j_iconst h (v := 5) dX7_closeEnd_31 (by decide) ?_
      refine j_iload_n h dX7_closeEnd_32 rfl 2 rfl ?_
      refine j_callI h (n := 2) (c_X7_refuse l D cy L _ _ _ _ _ _ _ hK) (xg_V (xr_21 11 rfl) (xr_21 12 rfl) (xr_21 13 rfl) (xr_1 2 rfl) (xr_21 14 rfl)) rfl rfl (by decide +kernel) ⟨Nat.le_of_ble_eq_true rfl, Nat.le_of_ble_eq_true rfl⟩ (330 + 0) (ml_get 0) rfl rfl rfl rfl (Nat.le_of_ble_eq_true rfl) dX7_closeEnd_33 ⟨by decide, by decide⟩ (fun r u' hq => ?_)
      obtain ⟨z14, hz14, rfl, rfl, qz14_0, qz14_1⟩ := hq
      exact hR _ _ _ _ dX7_closeEnd_36 ⟨(_, _), Eq.symm ((bd_eq hz1 (ite_n c2 (bd_eq hz3 (ite_p c4 (bd_eq hz14 rfl)))))), rfl, rfl, hG, qz14_0, (FC.tr FC.rf qz14_1)⟩
  · refine j_iconst h (v := (-1)) dX7_closeEnd_11 (by decide) ?_
    exact hR _ _ _ _ dX7_closeEnd_12 ⟨(_, _), Eq.symm ((bd_eq hz1 (ite_p c2 rfl))), rfl, rfl, hG, hK, FC.rf⟩

def f_X7_sweepRink (M : gM) (X : Nat → Int32) (A : Nat → Nat → Int32) (p1 : Int32) : Int32 × gM × (Nat → Int32) × (Nat → Nat → Int32) :=
  bd (f_X1_isRink M p1) fun z1 =>
  if z1 = 0 then
    ((-1), (M, X, A))
  else
    if (M.2.1 p1.toNatClampNeg 3) = 0 then
      bd (f_X7_refuse M X A 9 p1) fun z7 =>
      (z7.1, (M, z7.2.1, z7.2.2))
    else
      if ((((M.2.1 p1.toNatClampNeg 3) + 3) - 1) / 3) ≤ (M.1 8) then
        bd (f_X1_drink M ((((M.2.1 p1.toNatClampNeg 3) + 3) - 1) / 3)) fun z5 =>
        (M.2.1 p1.toNatClampNeg 3, (sg (sr z5 p1.toNatClampNeg 3 0) 10 (((sr z5 p1.toNatClampNeg 3 0).1 10) + (M.2.1 p1.toNatClampNeg 3)), X, A))
      else
        bd (f_X7_refuse M X A 10 (((((M.2.1 p1.toNatClampNeg 3) + 3) - 1) / 3) - (M.1 8))) fun z6 =>
        (z6.1, (M, z6.2.1, z6.2.2))
abbrev rm_X7_sweepRink : Room := { frames := 2, cells := 0, slots := 0, locals := 44 }
set_option maxRecDepth 100000 in
set_option maxHeartbeats 4000000 in
theorem c_X7_sweepRink (l : Launch) (D : gD) (cy : Nat → ClassId) (L : Nat → Nat → Nat) (G : Nat → gM) (X : Nat → Int32) (A : Nat → Nat → Int32) (b : cB) (M : gM) (p1 : Int32) (hG : GI M) (hK : vp_in (X 6) 4) : CtI l D cy (CW cy L) yX7_sweepRink cX7_sweepRink 4 (some .int) rm_X7_sweepRink [.ref (L 11 0), .int p1] ((va_up G 0 M, X, A), b) (fun rv u => ∃ z : Int32 × (gM × (Nat → Int32) × (Nat → Nat → Int32)), z = f_X7_sweepRink M X A p1 ∧ rv = z.1 ∧ u = ((va_up G 0 z.2.1, z.2.2.1, z.2.2.2), b) ∧ GI z.2.1 ∧ vp_in (z.2.2.1 6) 4 ∧ FC X z.2.2.1) 0 0 := by
  refine m_entI cX7_sweepRink 4 (by decide) (Nat.le_of_ble_eq_true rfl) (fun J h hR => ?_)
  show J ((va_up G 0 M, X, A), b) (0, 0) [(0, .ref (L 11 0)), (1, .int p1)] 0 []
  refine j_aload_n h dX7_sweepRink_0 rfl 0 rfl ?_
  refine j_get h inlX7 (330 + 0) (ml_get 0) rfl 0 (by decide) (xr_1 19 rfl) rfl (v := .ref (L 0 0)) rfl dX7_sweepRink_1 ?_
  refine j_iload_n h dX7_sweepRink_4 rfl 1 rfl ?_
  refine j_callI h (n := 1) (c_X1_isRink l D cy L _ _ _ _ _ (by decide) _) (xg_V (xr_21 6 rfl) (xr_21 7 rfl) (xr_21 8 rfl) (xr_1 18 rfl) (xr_21 9 rfl)) rfl rfl (by decide +kernel) ⟨Nat.le_of_ble_eq_true rfl, Nat.le_of_ble_eq_true rfl⟩ (30 * 0 + 0) (at_G (by decide)) rfl rfl rfl rfl (Nat.le_of_ble_eq_true rfl) dX7_sweepRink_5 ⟨by decide, by decide⟩ (fun z1 u' hq => ?_)
  obtain ⟨hz1, rfl, bz1⟩ := hq
  refine j_if_ne h (tgt := 13) dX7_sweepRink_8 (by decide) (fun c2 => ?_) (fun c2 => ?_)
  · have vp1 : vp_in (p1) 4 := isRink_in (hG).r hz1 c2
    have bp1 : (p1).toNatClampNeg < 4 := vp_lt vp1
    have ep1 : p1 = nI (p1).toNatClampNeg := vp_nI vp1 (by decide)
    refine j_aload_n h dX7_sweepRink_13 rfl 0 rfl ?_
    refine j_get h inlX7 (330 + 0) (ml_get 0) rfl 0 (by decide) (xr_1 19 rfl) rfl (v := .ref (L 0 0)) rfl dX7_sweepRink_14 ?_
    refine j_get h inlX1 (30 * 0 + 0) (at_G (by decide)) rfl 0 (by decide) (xr_21 2 rfl) rfl (v := .ref (L 0 1)) rfl dX7_sweepRink_17 ?_
    refine j_iload_n h dX7_sweepRink_20 rfl 1 rfl ?_
    refine j_aaldE h (30 * 0 + 1) 1 (at_Ra (by decide)) rfl p1.toNatClampNeg ep1 (by omega) (by decide) dX7_sweepRink_21 ?_
    refine j_get h inlX5 (30 * 0 + (4 + p1.toNatClampNeg)) (at_R (by decide) (by omega)) rfl 3 (by decide) (xr_26 2 rfl) rfl (v := .int (M.2.1 p1.toNatClampNeg 3)) rfl dX7_sweepRink_22 ?_
    refine j_istore_n h (lv' := [(2, _), (0, _), (1, _)]) dX7_sweepRink_25 rfl (by decide) rfl ?_
    refine j_iload_n h dX7_sweepRink_26 rfl 0 rfl ?_
    refine j_if_ne h (tgt := 38) dX7_sweepRink_27 (by decide) (fun c3 => ?_) (fun c3 => ?_)
    · refine j_iload_n h dX7_sweepRink_38 rfl 0 rfl ?_
      refine j_iconst h (v := 3) dX7_sweepRink_39 (by decide) ?_
      refine j_iadd h dX7_sweepRink_40 ?_
      refine j_iconst h (v := 1) dX7_sweepRink_41 (by decide) ?_
      refine j_isub h dX7_sweepRink_42 ?_
      refine j_iconst h (v := 3) dX7_sweepRink_43 (by decide) ?_
      refine j_idiv h dX7_sweepRink_44 (by decide) ?_
      refine j_istore_n h (lv' := [(3, _), (2, _), (0, _), (1, _)]) dX7_sweepRink_45 rfl (by decide) rfl ?_
      refine j_iload_n h dX7_sweepRink_46 rfl 0 rfl ?_
      refine j_aload_n h dX7_sweepRink_47 rfl 2 rfl ?_
      refine j_get h inlX7 (330 + 0) (ml_get 0) rfl 0 (by decide) (xr_1 19 rfl) rfl (v := .ref (L 0 0)) rfl dX7_sweepRink_48 ?_
      refine j_get h inlX1 (30 * 0 + 0) (at_G (by decide)) rfl 8 (by decide) (xr_11 2 rfl) rfl (v := .int (M.1 8)) rfl dX7_sweepRink_51 ?_
      refine j_icmp_le h (tgt := 73) dX7_sweepRink_54 (by decide) (fun c4 => ?_) (fun c4 => ?_)
      · refine j_aload_n h dX7_sweepRink_73 rfl 2 rfl ?_
        refine j_get h inlX7 (330 + 0) (ml_get 0) rfl 0 (by decide) (xr_1 19 rfl) rfl (v := .ref (L 0 0)) rfl dX7_sweepRink_74 ?_
        refine j_iload_n h dX7_sweepRink_77 rfl 0 rfl ?_
        refine j_callV h (n := 1) (c_X1_drink l D cy L _ _ _ _ _ (by decide) _) (xg_V (xr_26 3 rfl) (xr_26 4 rfl) (xr_26 5 rfl) (xr_1 18 rfl) (xr_26 6 rfl)) rfl rfl (by decide +kernel) ⟨Nat.le_of_ble_eq_true rfl, Nat.le_of_ble_eq_true rfl⟩ (30 * 0 + 0) (at_G (by decide)) rfl rfl rfl rfl (Nat.le_of_ble_eq_true rfl) dX7_sweepRink_78 ⟨by decide, by decide⟩ (fun u' hq => ?_)
        obtain ⟨z5, hz5, rfl⟩ := hq
        have hGz5 : GI z5 := GI_dr hG hz5
        refine j_aload_n h dX7_sweepRink_81 rfl 2 rfl ?_
        refine j_get h inlX7 (330 + 0) (ml_get 0) rfl 0 (by decide) (xr_1 19 rfl) rfl (v := .ref (L 0 0)) rfl dX7_sweepRink_82 ?_
        refine j_get h inlX1 (30 * 0 + 0) (at_G (by decide)) rfl 0 (by decide) (xr_21 2 rfl) rfl (v := .ref (L 0 1)) rfl dX7_sweepRink_85 ?_
        refine j_iload_n h dX7_sweepRink_88 rfl 3 rfl ?_
        refine j_aaldE h (30 * 0 + 1) 1 (at_Ra (by decide)) rfl p1.toNatClampNeg ep1 (by omega) (by decide) dX7_sweepRink_89 ?_
        refine j_iconst h (v := 0) dX7_sweepRink_90 (by decide) ?_
        refine j_put h inlX5 tyX5 tyX5_ok nmX5 (30 * 0 + (4 + p1.toNatClampNeg)) (at_R (by decide) (by omega)) rfl 3 (by decide) (xr_26 2 rfl) rfl rfl rfl rfl (Nat.le_of_ble_eq_true rfl) dX7_sweepRink_91 (to_R (by decide) (by omega) (by decide)) ?_
        refine j_aload_n h dX7_sweepRink_94 rfl 2 rfl ?_
        refine j_get h inlX7 (330 + 0) (ml_get 0) rfl 0 (by decide) (xr_1 19 rfl) rfl (v := .ref (L 0 0)) rfl dX7_sweepRink_95 ?_
        refine j_dup h dX7_sweepRink_98 rfl ?_
        refine j_get h inlX1 (30 * 0 + 0) (at_G (by decide)) rfl 10 (by decide) (xr_11 4 rfl) rfl (v := .int ((sr z5 p1.toNatClampNeg 3 0).1 10)) rfl dX7_sweepRink_99 ?_
        refine j_iload_n h dX7_sweepRink_102 rfl 1 rfl ?_
        refine j_iadd h dX7_sweepRink_103 ?_
        refine j_put h inlX1 tyX1 tyX1_ok nmX1 (30 * 0 + 0) (at_G (by decide)) rfl 10 (by decide) (xr_11 4 rfl) rfl rfl rfl rfl (Nat.le_of_ble_eq_true rfl) dX7_sweepRink_104 (to_G (by decide) (by decide) (by decide)) ?_
        refine j_iload_n h dX7_sweepRink_107 rfl 1 rfl ?_
        exact hR _ _ _ _ dX7_sweepRink_108 ⟨(_, _), Eq.symm ((bd_eq hz1 (ite_n c2 (ite_n c3 (ite_p c4 (bd_eq hz5 rfl)))))), rfl, rfl, (GI_sg (GI_sr hGz5) (by decide) (by decide)), hK, FC.rf⟩
      · refine j_aload_n h dX7_sweepRink_57 rfl 2 rfl ?_
        refine j_bipush h (v := 10) dX7_sweepRink_58 (by decide) ?_
        refine j_iload_n h dX7_sweepRink_60 rfl 0 rfl ?_
        refine j_aload_n h dX7_sweepRink_61 rfl 2 rfl ?_
        refine j_get h inlX7 (330 + 0) (ml_get 0) rfl 0 (by decide) (xr_1 19 rfl) rfl (v := .ref (L 0 0)) rfl dX7_sweepRink_62 ?_
        refine j_get h inlX1 (30 * 0 + 0) (at_G (by decide)) rfl 8 (by decide) (xr_11 2 rfl) rfl (v := .int (M.1 8)) rfl dX7_sweepRink_65 ?_
        refine j_isub h dX7_sweepRink_68 ?_
        refine j_callI h (n := 2) (c_X7_refuse l D cy L _ _ _ _ _ _ _ hK) (xg_V (xr_21 11 rfl) (xr_21 12 rfl) (xr_21 13 rfl) (xr_1 2 rfl) (xr_21 14 rfl)) rfl rfl (by decide +kernel) ⟨Nat.le_of_ble_eq_true rfl, Nat.le_of_ble_eq_true rfl⟩ (330 + 0) (ml_get 0) rfl rfl rfl rfl (Nat.le_of_ble_eq_true rfl) dX7_sweepRink_69 ⟨by decide, by decide⟩ (fun r u' hq => ?_)
        obtain ⟨z6, hz6, rfl, rfl, qz6_0, qz6_1⟩ := hq
        exact hR _ _ _ _ dX7_sweepRink_72 ⟨(_, _), Eq.symm ((bd_eq hz1 (ite_n c2 (ite_n c3 (ite_n c4 (bd_eq hz6 rfl)))))), rfl, rfl, hG, qz6_0, (FC.tr FC.rf qz6_1)⟩
    · refine j_aload_n h dX7_sweepRink_30 rfl 1 rfl ?_
      refine j_bipush h (v := 9) dX7_sweepRink_31 (by decide) ?_
      refine j_iload_n h dX7_sweepRink_33 rfl 2 rfl ?_
      refine j_callI h (n := 2) (c_X7_refuse l D cy L _ _ _ _ _ _ _ hK) (xg_V (xr_21 11 rfl) (xr_21 12 rfl) (xr_21 13 rfl) (xr_1 2 rfl) (xr_21 14 rfl)) rfl rfl (by decide +kernel) ⟨Nat.le_of_ble_eq_true rfl, Nat.le_of_ble_eq_true rfl⟩ (330 + 0) (ml_get 0) rfl rfl rfl rfl (Nat.le_of_ble_eq_true rfl) dX7_sweepRink_34 ⟨by decide, by decide⟩ (fun r u' hq => ?_)
      obtain ⟨z7, hz7, rfl, rfl, qz7_0, qz7_1⟩ := hq
      exact hR _ _ _ _ dX7_sweepRink_37 ⟨(_, _), Eq.symm ((bd_eq hz1 (ite_n c2 (ite_p c3 (bd_eq hz7 rfl))))), rfl, rfl, hG, qz7_0, (FC.tr FC.rf qz7_1)⟩
  · refine j_iconst h (v := (-1)) dX7_sweepRink_11 (by decide) ?_
    exact hR _ _ _ _ dX7_sweepRink_12 ⟨(_, _), Eq.symm ((bd_eq hz1 (ite_p c2 rfl))), rfl, rfl, hG, hK, FC.rf⟩

def f_X7_setRain (M : gM) (X : Nat → Int32) (A : Nat → Nat → Int32) (p1 : Int32) : Int32 × gM × (Nat → Int32) × (Nat → Nat → Int32) :=
  bd (f_X7_isWeather M X A p1) fun z1 =>
  if z1 = 0 then
    ((-2), (M, X, A))
  else
    (M.1 6, (sg M 6 p1, X, A))
abbrev rm_X7_setRain : Room := { frames := 1, cells := 0, slots := 0, locals := 20 }
set_option maxRecDepth 100000 in
set_option maxHeartbeats 4000000 in
theorem c_X7_setRain (l : Launch) (D : gD) (cy : Nat → ClassId) (L : Nat → Nat → Nat) (G : Nat → gM) (X : Nat → Int32) (A : Nat → Nat → Int32) (b : cB) (M : gM) (p1 : Int32) (hG : GI M) (hK : vp_in (X 6) 4) : CtI l D cy (CW cy L) yX7_setRain cX7_setRain 3 (some .int) rm_X7_setRain [.ref (L 11 0), .int p1] ((va_up G 0 M, X, A), b) (fun rv u => ∃ z : Int32 × (gM × (Nat → Int32) × (Nat → Nat → Int32)), z = f_X7_setRain M X A p1 ∧ rv = z.1 ∧ u = ((va_up G 0 z.2.1, z.2.2.1, z.2.2.2), b) ∧ GI z.2.1 ∧ vp_in (z.2.2.1 6) 4 ∧ FC X z.2.2.1) 0 0 := by
  refine m_entI cX7_setRain 3 (by decide) (Nat.le_of_ble_eq_true rfl) (fun J h hR => ?_)
  show J ((va_up G 0 M, X, A), b) (0, 0) [(0, .ref (L 11 0)), (1, .int p1)] 0 []
  refine j_iload_n h dX7_setRain_0 rfl 1 rfl ?_
  refine j_callS h (n := 1) (c_X7_isWeather l D cy L _ _ _ _ _ _) (xg_S (xr_26 11 rfl) (xr_26 12 rfl) (xr_1 2 rfl) (xr_26 13 rfl)) rfl rfl (by decide +kernel) ⟨Nat.le_of_ble_eq_true rfl, Nat.le_of_ble_eq_true rfl⟩  rfl rfl (Nat.le_of_ble_eq_true rfl) dX7_setRain_1 ⟨by decide, by decide⟩ (fun z1 u' hq => ?_)
  obtain ⟨hz1, rfl, bz1⟩ := hq
  refine j_if_ne h (tgt := 10) dX7_setRain_4 (by decide) (fun c2 => ?_) (fun c2 => ?_)
  · refine j_aload_n h dX7_setRain_10 rfl 0 rfl ?_
    refine j_get h inlX7 (330 + 0) (ml_get 0) rfl 0 (by decide) (xr_1 19 rfl) rfl (v := .ref (L 0 0)) rfl dX7_setRain_11 ?_
    refine j_get h inlX1 (30 * 0 + 0) (at_G (by decide)) rfl 6 (by decide) (xr_10 22 rfl) rfl (v := .int (M.1 6)) rfl dX7_setRain_14 ?_
    refine j_istore_n h (lv' := [(2, _), (0, _), (1, _)]) dX7_setRain_17 rfl (by decide) rfl ?_
    refine j_aload_n h dX7_setRain_18 rfl 1 rfl ?_
    refine j_get h inlX7 (330 + 0) (ml_get 0) rfl 0 (by decide) (xr_1 19 rfl) rfl (v := .ref (L 0 0)) rfl dX7_setRain_19 ?_
    refine j_iload_n h dX7_setRain_22 rfl 2 rfl ?_
    refine j_put h inlX1 tyX1 tyX1_ok nmX1 (30 * 0 + 0) (at_G (by decide)) rfl 6 (by decide) (xr_10 22 rfl) rfl rfl rfl rfl (Nat.le_of_ble_eq_true rfl) dX7_setRain_23 (to_G (by decide) (by decide) (by decide)) ?_
    refine j_iload_n h dX7_setRain_26 rfl 0 rfl ?_
    exact hR _ _ _ _ dX7_setRain_27 ⟨(_, _), Eq.symm ((bd_eq hz1 (ite_n c2 rfl))), rfl, rfl, (GI_sg hG (by decide) (by decide)), hK, FC.rf⟩
  · refine j_bipush h (v := (-2)) dX7_setRain_7 (by decide) ?_
    exact hR _ _ _ _ dX7_setRain_9 ⟨(_, _), Eq.symm ((bd_eq hz1 (ite_p c2 rfl))), rfl, rfl, hG, hK, FC.rf⟩

def f_X7_setSun (M : gM) (X : Nat → Int32) (A : Nat → Nat → Int32) (p1 : Int32) : Int32 × gM × (Nat → Int32) × (Nat → Nat → Int32) :=
  bd (f_X7_isWeather M X A p1) fun z1 =>
  if z1 = 0 then
    ((-2), (M, X, A))
  else
    (M.1 7, (sg M 7 p1, X, A))
abbrev rm_X7_setSun : Room := { frames := 1, cells := 0, slots := 0, locals := 20 }
set_option maxRecDepth 100000 in
set_option maxHeartbeats 4000000 in
theorem c_X7_setSun (l : Launch) (D : gD) (cy : Nat → ClassId) (L : Nat → Nat → Nat) (G : Nat → gM) (X : Nat → Int32) (A : Nat → Nat → Int32) (b : cB) (M : gM) (p1 : Int32) (hG : GI M) (hK : vp_in (X 6) 4) : CtI l D cy (CW cy L) yX7_setSun cX7_setSun 3 (some .int) rm_X7_setSun [.ref (L 11 0), .int p1] ((va_up G 0 M, X, A), b) (fun rv u => ∃ z : Int32 × (gM × (Nat → Int32) × (Nat → Nat → Int32)), z = f_X7_setSun M X A p1 ∧ rv = z.1 ∧ u = ((va_up G 0 z.2.1, z.2.2.1, z.2.2.2), b) ∧ GI z.2.1 ∧ vp_in (z.2.2.1 6) 4 ∧ FC X z.2.2.1) 0 0 := by
  refine m_entI cX7_setSun 3 (by decide) (Nat.le_of_ble_eq_true rfl) (fun J h hR => ?_)
  show J ((va_up G 0 M, X, A), b) (0, 0) [(0, .ref (L 11 0)), (1, .int p1)] 0 []
  refine j_iload_n h dX7_setSun_0 rfl 1 rfl ?_
  refine j_callS h (n := 1) (c_X7_isWeather l D cy L _ _ _ _ _ _) (xg_S (xr_26 11 rfl) (xr_26 12 rfl) (xr_1 2 rfl) (xr_26 13 rfl)) rfl rfl (by decide +kernel) ⟨Nat.le_of_ble_eq_true rfl, Nat.le_of_ble_eq_true rfl⟩  rfl rfl (Nat.le_of_ble_eq_true rfl) dX7_setSun_1 ⟨by decide, by decide⟩ (fun z1 u' hq => ?_)
  obtain ⟨hz1, rfl, bz1⟩ := hq
  refine j_if_ne h (tgt := 10) dX7_setSun_4 (by decide) (fun c2 => ?_) (fun c2 => ?_)
  · refine j_aload_n h dX7_setSun_10 rfl 0 rfl ?_
    refine j_get h inlX7 (330 + 0) (ml_get 0) rfl 0 (by decide) (xr_1 19 rfl) rfl (v := .ref (L 0 0)) rfl dX7_setSun_11 ?_
    refine j_get h inlX1 (30 * 0 + 0) (at_G (by decide)) rfl 7 (by decide) (xr_10 23 rfl) rfl (v := .int (M.1 7)) rfl dX7_setSun_14 ?_
    refine j_istore_n h (lv' := [(2, _), (0, _), (1, _)]) dX7_setSun_17 rfl (by decide) rfl ?_
    refine j_aload_n h dX7_setSun_18 rfl 1 rfl ?_
    refine j_get h inlX7 (330 + 0) (ml_get 0) rfl 0 (by decide) (xr_1 19 rfl) rfl (v := .ref (L 0 0)) rfl dX7_setSun_19 ?_
    refine j_iload_n h dX7_setSun_22 rfl 2 rfl ?_
    refine j_put h inlX1 tyX1 tyX1_ok nmX1 (30 * 0 + 0) (at_G (by decide)) rfl 7 (by decide) (xr_10 23 rfl) rfl rfl rfl rfl (Nat.le_of_ble_eq_true rfl) dX7_setSun_23 (to_G (by decide) (by decide) (by decide)) ?_
    refine j_iload_n h dX7_setSun_26 rfl 0 rfl ?_
    exact hR _ _ _ _ dX7_setSun_27 ⟨(_, _), Eq.symm ((bd_eq hz1 (ite_n c2 rfl))), rfl, rfl, (GI_sg hG (by decide) (by decide)), hK, FC.rf⟩
  · refine j_bipush h (v := (-2)) dX7_setSun_7 (by decide) ?_
    exact hR _ _ _ _ dX7_setSun_9 ⟨(_, _), Eq.symm ((bd_eq hz1 (ite_p c2 rfl))), rfl, rfl, hG, hK, FC.rf⟩

def f_X7_brewCups (M : gM) (X : Nat → Int32) (A : Nat → Nat → Int32) (p1 : Int32) : Int32 × gM × (Nat → Int32) × (Nat → Nat → Int32) :=
  if p1 < 1 then
    ((-2), (M, X, A))
  else
    if p1 ≤ 20 then
      ((sg M 8 (if ((M.1 8) + p1) < 40 then ((M.1 8) + p1) else 40)).1 8, (sg M 8 (if ((M.1 8) + p1) < 40 then ((M.1 8) + p1) else 40), X, A))
    else
      ((-2), (M, X, A))
abbrev rm_X7_brewCups : Room := { frames := 1, cells := 0, slots := 0, locals := 21 }
set_option maxRecDepth 100000 in
set_option maxHeartbeats 4000000 in
theorem c_X7_brewCups (l : Launch) (D : gD) (cy : Nat → ClassId) (L : Nat → Nat → Nat) (G : Nat → gM) (X : Nat → Int32) (A : Nat → Nat → Int32) (b : cB) (M : gM) (p1 : Int32) (hG : GI M) (hK : vp_in (X 6) 4) : CtI l D cy (CW cy L) yX7_brewCups cX7_brewCups 2 (some .int) rm_X7_brewCups [.ref (L 11 0), .int p1] ((va_up G 0 M, X, A), b) (fun rv u => ∃ z : Int32 × (gM × (Nat → Int32) × (Nat → Nat → Int32)), z = f_X7_brewCups M X A p1 ∧ rv = z.1 ∧ u = ((va_up G 0 z.2.1, z.2.2.1, z.2.2.2), b) ∧ GI z.2.1 ∧ vp_in (z.2.2.1 6) 4 ∧ FC X z.2.2.1) 0 0 := by
  refine m_entI cX7_brewCups 2 (by decide) (Nat.le_of_ble_eq_true rfl) (fun J h hR => ?_)
  show J ((va_up G 0 M, X, A), b) (0, 0) [(0, .ref (L 11 0)), (1, .int p1)] 0 []
  refine j_iload_n h dX7_brewCups_0 rfl 1 rfl ?_
  refine j_iconst h (v := 1) dX7_brewCups_1 (by decide) ?_
  refine j_icmp_lt h (tgt := 11) dX7_brewCups_2 (by decide) (fun c1 => ?_) (fun c1 => ?_)
  · refine j_bipush h (v := (-2)) dX7_brewCups_11 (by decide) ?_
    exact hR _ _ _ _ dX7_brewCups_13 ⟨(_, _), Eq.symm ((ite_p c1 rfl)), rfl, rfl, hG, hK, FC.rf⟩
  · refine j_iload_n h dX7_brewCups_5 rfl 1 rfl ?_
    refine j_bipush h (v := 20) dX7_brewCups_6 (by decide) ?_
    refine j_icmp_le h (tgt := 14) dX7_brewCups_8 (by decide) (fun c2 => ?_) (fun c2 => ?_)
    · refine j_aload_n h dX7_brewCups_14 rfl 0 rfl ?_
      refine j_get h inlX7 (330 + 0) (ml_get 0) rfl 0 (by decide) (xr_1 19 rfl) rfl (v := .ref (L 0 0)) rfl dX7_brewCups_15 ?_
      refine j_bipush h (v := 40) dX7_brewCups_18 (by decide) ?_
      refine j_aload_n h dX7_brewCups_20 rfl 0 rfl ?_
      refine j_get h inlX7 (330 + 0) (ml_get 0) rfl 0 (by decide) (xr_1 19 rfl) rfl (v := .ref (L 0 0)) rfl dX7_brewCups_21 ?_
      refine j_get h inlX1 (30 * 0 + 0) (at_G (by decide)) rfl 8 (by decide) (xr_11 2 rfl) rfl (v := .int (M.1 8)) rfl dX7_brewCups_24 ?_
      refine j_iload_n h dX7_brewCups_27 rfl 1 rfl ?_
      refine j_iadd h dX7_brewCups_28 ?_
      refine j_mmin h (xr_31 9 rfl) (xr_1 7 rfl) (xr_1 8 rfl) (xr_1 9 rfl) (by decide) (Nat.le_of_ble_eq_true rfl) (by decide) (by decide) dX7_brewCups_29 ?_
      refine j_put h inlX1 tyX1 tyX1_ok nmX1 (30 * 0 + 0) (at_G (by decide)) rfl 8 (by decide) (xr_11 2 rfl) rfl rfl rfl rfl (Nat.le_of_ble_eq_true rfl) dX7_brewCups_32 (to_G (by decide) (by decide) (by decide)) ?_
      refine j_aload_n h dX7_brewCups_35 rfl 0 rfl ?_
      refine j_get h inlX7 (330 + 0) (ml_get 0) rfl 0 (by decide) (xr_1 19 rfl) rfl (v := .ref (L 0 0)) rfl dX7_brewCups_36 ?_
      refine j_get h inlX1 (30 * 0 + 0) (at_G (by decide)) rfl 8 (by decide) (xr_11 2 rfl) rfl (v := .int ((sg M 8 (if ((M.1 8) + p1) < 40 then ((M.1 8) + p1) else 40)).1 8)) rfl dX7_brewCups_39 ?_
      exact hR _ _ _ _ dX7_brewCups_42 ⟨(_, _), Eq.symm ((ite_n c1 (ite_p c2 rfl))), rfl, rfl, (GI_sg hG (by decide) (by decide)), hK, FC.rf⟩
    · refine j_bipush h (v := (-2)) dX7_brewCups_11 (by decide) ?_
      exact hR _ _ _ _ dX7_brewCups_13 ⟨(_, _), Eq.symm ((ite_n c1 (ite_n c2 rfl))), rfl, rfl, hG, hK, FC.rf⟩

def f_X7_giveTea (M : gM) (X : Nat → Int32) (A : Nat → Nat → Int32) (p1 : Int32) : Int32 × gM × (Nat → Int32) × (Nat → Nat → Int32) :=
  bd (f_X7_isClub M X A p1) fun z1 =>
  if z1 = 0 then
    ((-1), (M, X, A))
  else
    if 1 ≤ (M.1 8) then
      if 1 ≤ (M.2.2.2 p1.toNatClampNeg 2) then
        bd (f_X1_drink M 1) fun z5 =>
        ((sc (sc z5 p1.toNatClampNeg 2 ((z5.2.2.2 p1.toNatClampNeg 2) - 1)) p1.toNatClampNeg 3 (((sc z5 p1.toNatClampNeg 2 ((z5.2.2.2 p1.toNatClampNeg 2) - 1)).2.2.2 p1.toNatClampNeg 3) + 1)).2.2.2 p1.toNatClampNeg 3, (sc (sc z5 p1.toNatClampNeg 2 ((z5.2.2.2 p1.toNatClampNeg 2) - 1)) p1.toNatClampNeg 3 (((sc z5 p1.toNatClampNeg 2 ((z5.2.2.2 p1.toNatClampNeg 2) - 1)).2.2.2 p1.toNatClampNeg 3) + 1), X, A))
      else
        bd (f_X7_refuse M X A 11 p1) fun z6 =>
        (z6.1, (M, z6.2.1, z6.2.2))
    else
      bd (f_X7_refuse M X A 10 (1 - (M.1 8))) fun z7 =>
      (z7.1, (M, z7.2.1, z7.2.2))
abbrev rm_X7_giveTea : Room := { frames := 2, cells := 0, slots := 0, locals := 44 }
set_option maxRecDepth 100000 in
set_option maxHeartbeats 4000000 in
theorem c_X7_giveTea (l : Launch) (D : gD) (cy : Nat → ClassId) (L : Nat → Nat → Nat) (G : Nat → gM) (X : Nat → Int32) (A : Nat → Nat → Int32) (b : cB) (M : gM) (p1 : Int32) (hG : GI M) (hK : vp_in (X 6) 4) : CtI l D cy (CW cy L) yX7_giveTea cX7_giveTea 3 (some .int) rm_X7_giveTea [.ref (L 11 0), .int p1] ((va_up G 0 M, X, A), b) (fun rv u => ∃ z : Int32 × (gM × (Nat → Int32) × (Nat → Nat → Int32)), z = f_X7_giveTea M X A p1 ∧ rv = z.1 ∧ u = ((va_up G 0 z.2.1, z.2.2.1, z.2.2.2), b) ∧ GI z.2.1 ∧ vp_in (z.2.2.1 6) 4 ∧ FC X z.2.2.1) 0 0 := by
  refine m_entI cX7_giveTea 3 (by decide) (Nat.le_of_ble_eq_true rfl) (fun J h hR => ?_)
  show J ((va_up G 0 M, X, A), b) (0, 0) [(0, .ref (L 11 0)), (1, .int p1)] 0 []
  refine j_iload_n h dX7_giveTea_0 rfl 1 rfl ?_
  refine j_callS h (n := 1) (c_X7_isClub l D cy L _ _ _ _ _ _) (xg_S (xr_27 0 rfl) (xr_27 1 rfl) (xr_1 2 rfl) (xr_27 2 rfl)) rfl rfl (by decide +kernel) ⟨Nat.le_of_ble_eq_true rfl, Nat.le_of_ble_eq_true rfl⟩  rfl rfl (Nat.le_of_ble_eq_true rfl) dX7_giveTea_1 ⟨by decide, by decide⟩ (fun z1 u' hq => ?_)
  obtain ⟨hz1, rfl, bz1⟩ := hq
  refine j_if_ne h (tgt := 9) dX7_giveTea_4 (by decide) (fun c2 => ?_) (fun c2 => ?_)
  · have vp1 : vp_in (p1) 2 := isClub_in hz1 c2
    have bp1 : (p1).toNatClampNeg < 2 := vp_lt vp1
    have ep1 : p1 = nI (p1).toNatClampNeg := vp_nI vp1 (by decide)
    refine j_aload_n h dX7_giveTea_9 rfl 0 rfl ?_
    refine j_get h inlX7 (330 + 0) (ml_get 0) rfl 0 (by decide) (xr_1 19 rfl) rfl (v := .ref (L 0 0)) rfl dX7_giveTea_10 ?_
    refine j_get h inlX1 (30 * 0 + 0) (at_G (by decide)) rfl 8 (by decide) (xr_11 2 rfl) rfl (v := .int (M.1 8)) rfl dX7_giveTea_13 ?_
    refine j_iconst h (v := 1) dX7_giveTea_16 (by decide) ?_
    refine j_icmp_ge h (tgt := 36) dX7_giveTea_17 (by decide) (fun c3 => ?_) (fun c3 => ?_)
    · refine j_aload_n h dX7_giveTea_36 rfl 0 rfl ?_
      refine j_get h inlX7 (330 + 0) (ml_get 0) rfl 0 (by decide) (xr_1 19 rfl) rfl (v := .ref (L 0 0)) rfl dX7_giveTea_37 ?_
      refine j_get h inlX1 (30 * 0 + 0) (at_G (by decide)) rfl 2 (by decide) (xr_24 19 rfl) rfl (v := .ref (L 0 3)) rfl dX7_giveTea_40 ?_
      refine j_iload_n h dX7_giveTea_43 rfl 1 rfl ?_
      refine j_aaldE h (30 * 0 + 3) 3 (at_Ca (by decide)) rfl p1.toNatClampNeg ep1 (by omega) (by decide) dX7_giveTea_44 ?_
      refine j_astore_n h (lv' := [(2, _), (0, _), (1, _)]) dX7_giveTea_45 rfl (by decide) rfl ?_
      refine j_aload_n h dX7_giveTea_46 rfl 0 rfl ?_
      refine j_get h inlX0 (30 * 0 + (28 + p1.toNatClampNeg)) (at_C (by decide) (by omega)) rfl 2 (by decide) (xr_26 22 rfl) rfl (v := .int (M.2.2.2 p1.toNatClampNeg 2)) rfl dX7_giveTea_47 ?_
      refine j_iconst h (v := 1) dX7_giveTea_50 (by decide) ?_
      refine j_icmp_ge h (tgt := 62) dX7_giveTea_51 (by decide) (fun c4 => ?_) (fun c4 => ?_)
      · refine j_aload_n h dX7_giveTea_62 rfl 1 rfl ?_
        refine j_get h inlX7 (330 + 0) (ml_get 0) rfl 0 (by decide) (xr_1 19 rfl) rfl (v := .ref (L 0 0)) rfl dX7_giveTea_63 ?_
        refine j_iconst h (v := 1) dX7_giveTea_66 (by decide) ?_
        refine j_callV h (n := 1) (c_X1_drink l D cy L _ _ _ _ _ (by decide) _) (xg_V (xr_26 3 rfl) (xr_26 4 rfl) (xr_26 5 rfl) (xr_1 18 rfl) (xr_26 6 rfl)) rfl rfl (by decide +kernel) ⟨Nat.le_of_ble_eq_true rfl, Nat.le_of_ble_eq_true rfl⟩ (30 * 0 + 0) (at_G (by decide)) rfl rfl rfl rfl (Nat.le_of_ble_eq_true rfl) dX7_giveTea_67 ⟨by decide, by decide⟩ (fun u' hq => ?_)
        obtain ⟨z5, hz5, rfl⟩ := hq
        have hGz5 : GI z5 := GI_dr hG hz5
        refine j_aload_n h dX7_giveTea_70 rfl 0 rfl ?_
        refine j_dup h dX7_giveTea_71 rfl ?_
        refine j_get h inlX0 (30 * 0 + (28 + p1.toNatClampNeg)) (at_C (by decide) (by omega)) rfl 2 (by decide) (xr_26 22 rfl) rfl (v := .int (z5.2.2.2 p1.toNatClampNeg 2)) rfl dX7_giveTea_72 ?_
        refine j_iconst h (v := 1) dX7_giveTea_75 (by decide) ?_
        refine j_isub h dX7_giveTea_76 ?_
        refine j_put h inlX0 tyX0 tyX0_ok nmX0 (30 * 0 + (28 + p1.toNatClampNeg)) (at_C (by decide) (by omega)) rfl 2 (by decide) (xr_26 22 rfl) rfl rfl rfl rfl (Nat.le_of_ble_eq_true rfl) dX7_giveTea_77 (to_C (by decide) (by omega) (by decide)) ?_
        refine j_aload_n h dX7_giveTea_80 rfl 0 rfl ?_
        refine j_dup h dX7_giveTea_81 rfl ?_
        refine j_get h inlX0 (30 * 0 + (28 + p1.toNatClampNeg)) (at_C (by decide) (by omega)) rfl 3 (by decide) (xr_26 23 rfl) rfl (v := .int ((sc z5 p1.toNatClampNeg 2 ((z5.2.2.2 p1.toNatClampNeg 2) - 1)).2.2.2 p1.toNatClampNeg 3)) rfl dX7_giveTea_82 ?_
        refine j_iconst h (v := 1) dX7_giveTea_85 (by decide) ?_
        refine j_iadd h dX7_giveTea_86 ?_
        refine j_put h inlX0 tyX0 tyX0_ok nmX0 (30 * 0 + (28 + p1.toNatClampNeg)) (at_C (by decide) (by omega)) rfl 3 (by decide) (xr_26 23 rfl) rfl rfl rfl rfl (Nat.le_of_ble_eq_true rfl) dX7_giveTea_87 (to_C (by decide) (by omega) (by decide)) ?_
        refine j_aload_n h dX7_giveTea_90 rfl 0 rfl ?_
        refine j_get h inlX0 (30 * 0 + (28 + p1.toNatClampNeg)) (at_C (by decide) (by omega)) rfl 3 (by decide) (xr_26 23 rfl) rfl (v := .int ((sc (sc z5 p1.toNatClampNeg 2 ((z5.2.2.2 p1.toNatClampNeg 2) - 1)) p1.toNatClampNeg 3 (((sc z5 p1.toNatClampNeg 2 ((z5.2.2.2 p1.toNatClampNeg 2) - 1)).2.2.2 p1.toNatClampNeg 3) + 1)).2.2.2 p1.toNatClampNeg 3)) rfl dX7_giveTea_91 ?_
        exact hR _ _ _ _ dX7_giveTea_94 ⟨(_, _), Eq.symm ((bd_eq hz1 (ite_n c2 (ite_p c3 (ite_p c4 (bd_eq hz5 rfl)))))), rfl, rfl, (GI_sc (GI_sc hGz5)), hK, FC.rf⟩
      · refine j_aload_n h dX7_giveTea_54 rfl 1 rfl ?_
        refine j_bipush h (v := 11) dX7_giveTea_55 (by decide) ?_
        refine j_iload_n h dX7_giveTea_57 rfl 2 rfl ?_
        refine j_callI h (n := 2) (c_X7_refuse l D cy L _ _ _ _ _ _ _ hK) (xg_V (xr_21 11 rfl) (xr_21 12 rfl) (xr_21 13 rfl) (xr_1 2 rfl) (xr_21 14 rfl)) rfl rfl (by decide +kernel) ⟨Nat.le_of_ble_eq_true rfl, Nat.le_of_ble_eq_true rfl⟩ (330 + 0) (ml_get 0) rfl rfl rfl rfl (Nat.le_of_ble_eq_true rfl) dX7_giveTea_58 ⟨by decide, by decide⟩ (fun r u' hq => ?_)
        obtain ⟨z6, hz6, rfl, rfl, qz6_0, qz6_1⟩ := hq
        exact hR _ _ _ _ dX7_giveTea_61 ⟨(_, _), Eq.symm ((bd_eq hz1 (ite_n c2 (ite_p c3 (ite_n c4 (bd_eq hz6 rfl)))))), rfl, rfl, hG, qz6_0, (FC.tr FC.rf qz6_1)⟩
    · refine j_aload_n h dX7_giveTea_20 rfl 0 rfl ?_
      refine j_bipush h (v := 10) dX7_giveTea_21 (by decide) ?_
      refine j_iconst h (v := 1) dX7_giveTea_23 (by decide) ?_
      refine j_aload_n h dX7_giveTea_24 rfl 0 rfl ?_
      refine j_get h inlX7 (330 + 0) (ml_get 0) rfl 0 (by decide) (xr_1 19 rfl) rfl (v := .ref (L 0 0)) rfl dX7_giveTea_25 ?_
      refine j_get h inlX1 (30 * 0 + 0) (at_G (by decide)) rfl 8 (by decide) (xr_11 2 rfl) rfl (v := .int (M.1 8)) rfl dX7_giveTea_28 ?_
      refine j_isub h dX7_giveTea_31 ?_
      refine j_callI h (n := 2) (c_X7_refuse l D cy L _ _ _ _ _ _ _ hK) (xg_V (xr_21 11 rfl) (xr_21 12 rfl) (xr_21 13 rfl) (xr_1 2 rfl) (xr_21 14 rfl)) rfl rfl (by decide +kernel) ⟨Nat.le_of_ble_eq_true rfl, Nat.le_of_ble_eq_true rfl⟩ (330 + 0) (ml_get 0) rfl rfl rfl rfl (Nat.le_of_ble_eq_true rfl) dX7_giveTea_32 ⟨by decide, by decide⟩ (fun r u' hq => ?_)
      obtain ⟨z7, hz7, rfl, rfl, qz7_0, qz7_1⟩ := hq
      exact hR _ _ _ _ dX7_giveTea_35 ⟨(_, _), Eq.symm ((bd_eq hz1 (ite_n c2 (ite_n c3 (bd_eq hz7 rfl))))), rfl, rfl, hG, qz7_0, (FC.tr FC.rf qz7_1)⟩
  · refine j_iconst h (v := (-1)) dX7_giveTea_7 (by decide) ?_
    exact hR _ _ _ _ dX7_giveTea_8 ⟨(_, _), Eq.symm ((bd_eq hz1 (ite_p c2 rfl))), rfl, rfl, hG, hK, FC.rf⟩

def f_X7_passHours_l16 (X : Nat → Int32) (A : Nat → Nat → Int32) (p1 : Int32) : Nat → Nat → gM → gM
  | 0, _, Mk => Mk
  | n + 1, k, Mk =>
    if p1 ≤ (nI k) then
      Mk
    else
      bd (f_X1_passHour Mk) fun z4 =>
      f_X7_passHours_l16 X A p1 n (k + 1) z4
def f_X7_passHours (M : gM) (X : Nat → Int32) (A : Nat → Nat → Int32) (p1 : Int32) : Int32 × gM × (Nat → Int32) × (Nat → Nat → Int32) :=
  if p1 < 1 then
    ((-2), (M, X, A))
  else
    if p1 ≤ 24 then
      bd (f_X7_passHours_l16 X A p1 25 0 M) fun z5 =>
      bd (f_X1_allCasts z5) fun z6 =>
      (z6, (z5, X, A))
    else
      ((-2), (M, X, A))
abbrev rm_X7_passHours : Room := { frames := 3, cells := 0, slots := 0, locals := 65 }
set_option maxRecDepth 100000 in
set_option maxHeartbeats 4000000 in
theorem c_X7_passHours (l : Launch) (D : gD) (cy : Nat → ClassId) (L : Nat → Nat → Nat) (G : Nat → gM) (X : Nat → Int32) (A : Nat → Nat → Int32) (b : cB) (M : gM) (p1 : Int32) (hG : GI M) (hK : vp_in (X 6) 4) : CtI l D cy (CW cy L) yX7_passHours cX7_passHours 3 (some .int) rm_X7_passHours [.ref (L 11 0), .int p1] ((va_up G 0 M, X, A), b) (fun rv u => ∃ z : Int32 × (gM × (Nat → Int32) × (Nat → Nat → Int32)), z = f_X7_passHours M X A p1 ∧ rv = z.1 ∧ u = ((va_up G 0 z.2.1, z.2.2.1, z.2.2.2), b) ∧ GI z.2.1 ∧ vp_in (z.2.2.1 6) 4 ∧ FC X z.2.2.1) 0 0 := by
  refine m_entI cX7_passHours 3 (by decide) (Nat.le_of_ble_eq_true rfl) (fun J h hR => ?_)
  show J ((va_up G 0 M, X, A), b) (0, 0) [(0, .ref (L 11 0)), (1, .int p1)] 0 []
  refine j_iload_n h dX7_passHours_0 rfl 1 rfl ?_
  refine j_iconst h (v := 1) dX7_passHours_1 (by decide) ?_
  refine j_icmp_lt h (tgt := 11) dX7_passHours_2 (by decide) (fun c1 => ?_) (fun c1 => ?_)
  · refine j_bipush h (v := (-2)) dX7_passHours_11 (by decide) ?_
    exact hR _ _ _ _ dX7_passHours_13 ⟨(_, _), Eq.symm ((ite_p c1 rfl)), rfl, rfl, hG, hK, FC.rf⟩
  · refine j_iload_n h dX7_passHours_5 rfl 1 rfl ?_
    refine j_bipush h (v := 24) dX7_passHours_6 (by decide) ?_
    refine j_icmp_le h (tgt := 14) dX7_passHours_8 (by decide) (fun c2 => ?_) (fun c2 => ?_)
    · have hh : p1 ≤ nI 24 := c2
      refine j_iconst h (v := 0) dX7_passHours_14 (by decide) ?_
      refine j_istore_n h (lv' := [(2, _), (0, _), (1, _)]) dX7_passHours_15 rfl (by decide) rfl ?_
      have lp16 : ∀ (n k : Nat) (Mk : gM), n + k = 25 → k ≤ 24 → GI Mk → (∀ z : gM, z = f_X7_passHours_l16 X A p1 n k Mk → GI z → J ((va_up G 0 z, X, A), b) (0, 0) [(0, .ref (L 11 0)), (1, .int p1)] 34 []) → J ((va_up G 0 Mk, X, A), b) (0, 0) [(0, .ref (L 11 0)), (1, .int p1), (2, .int (nI k))] 16 [] := by
        intro n
        induction n with
        | zero => intro k Mk hn hk hGk hf; omega
        | succ n ih =>
          intro k Mk hn hk hGk hf
          refine j_iload_n h dX7_passHours_16 rfl 2 rfl ?_
          refine j_iload_n h dX7_passHours_17 rfl 1 rfl ?_
          refine j_icmp_ge h (tgt := 34) dX7_passHours_18 (by decide) (fun c3 => ?_) (fun c3 => ?_)
          · refine j_sub h [0, 1] rfl ?_
            exact hf _ (Eq.symm ((ite_p c3 rfl))) hGk
          · have hk1 : k < 24 := cnt_lt (by decide) hk hh c3
            refine j_aload_n h dX7_passHours_21 rfl 0 rfl ?_
            refine j_get h inlX7 (330 + 0) (ml_get 0) rfl 0 (by decide) (xr_1 19 rfl) rfl (v := .ref (L 0 0)) rfl dX7_passHours_22 ?_
            refine j_callV h (n := 0) (c_X1_passHour l D cy L _ _ _ _ _ (by decide) (hGk).r) (xg_V (xr_9 3 rfl) (xr_9 4 rfl) (xr_9 5 rfl) (xr_1 18 rfl) (xr_9 6 rfl)) rfl rfl (by decide +kernel) ⟨Nat.le_of_ble_eq_true rfl, Nat.le_of_ble_eq_true rfl⟩ (30 * 0 + 0) (at_G (by decide)) rfl rfl rfl rfl (Nat.le_of_ble_eq_true rfl) dX7_passHours_25 ⟨by decide, by decide⟩ (fun u' hq => ?_)
            obtain ⟨z4, hz4, rfl⟩ := hq
            have hGz4 : GI z4 := GI_ph hGk hz4
            refine j_iinc h (v := nI (k + 1)) (lv' := [(2, _), (0, _), (1, _)]) dX7_passHours_28 (k := 2) rfl (nI_1 k) (by decide) rfl ?_
            refine j_goto h (tgt := 16) dX7_passHours_31 (by decide) ?_
            refine j_sub h [1, 2, 0] rfl ?_
            exact ih (k + 1) _ (by omega) (by omega) hGz4 (fun z hz hp => hf z (hz.trans (Eq.symm ((ite_n c3 (bd_eq hz4 rfl))))) hp)
      refine j_sub h [1, 2, 0] rfl ?_
      refine lp16 25 0 _ (by omega) (by omega) hG (fun z5 hz5 hpz5 => ?_)
      refine j_aload_n h dX7_passHours_34 rfl 0 rfl ?_
      refine j_get h inlX7 (330 + 0) (ml_get 0) rfl 0 (by decide) (xr_1 19 rfl) rfl (v := .ref (L 0 0)) rfl dX7_passHours_35 ?_
      refine j_callI h (n := 0) (c_X1_allCasts l D cy L _ _ _ _ _ (by decide) (hpz5).r) (xg_V (xr_10 2 rfl) (xr_10 3 rfl) (xr_10 4 rfl) (xr_1 18 rfl) (xr_10 5 rfl)) rfl rfl (by decide +kernel) ⟨Nat.le_of_ble_eq_true rfl, Nat.le_of_ble_eq_true rfl⟩ (30 * 0 + 0) (at_G (by decide)) rfl rfl rfl rfl (Nat.le_of_ble_eq_true rfl) dX7_passHours_38 ⟨by decide, by decide⟩ (fun z6 u' hq => ?_)
      obtain ⟨hz6, rfl⟩ := hq
      exact hR _ _ _ _ dX7_passHours_41 ⟨(_, _), Eq.symm ((ite_n c1 (ite_p c2 (bd_eq hz5 (bd_eq hz6 rfl))))), rfl, rfl, hpz5, hK, FC.rf⟩
    · refine j_bipush h (v := (-2)) dX7_passHours_11 (by decide) ?_
      exact hR _ _ _ _ dX7_passHours_13 ⟨(_, _), Eq.symm ((ite_n c1 (ite_n c2 rfl))), rfl, rfl, hG, hK, FC.rf⟩

/-- nothing but the reasons has changed of the arrays -/
def FA (A0 A : Nat → Nat → Int32) : Prop := ∀ k, k ≠ 2 → k ≠ 3 → A k = A0 k
theorem FA.rf {A : Nat → Nat → Int32} : FA A A := fun _ _ _ => rfl
theorem FA.tr {A B C : Nat → Nat → Int32} (h : FA A B) (g : FA B C) : FA A C := fun k a b => (g k a b).trans (h k a b)
theorem FA.if {c : Prop} [Decidable c] {A : Nat → Nat → Int32} {x y : Int32 × gM × (Nat → Int32) × (Nat → Nat → Int32)} (hx : FA A x.2.2.2) (hy : FA A y.2.2.2) : FA A (if c then x else y).2.2.2 := by
  by_cases h : c
  · rw [if_pos h]; exact hx
  · rw [if_neg h]; exact hy
theorem FA.if2 {c : Prop} [Decidable c] {A : Nat → Nat → Int32} {x y : Int32 × (Nat → Int32) × (Nat → Nat → Int32)} (hx : FA A x.2.2) (hy : FA A y.2.2) : FA A (if c then x else y).2.2 := by
  by_cases h : c
  · rw [if_pos h]; exact hx
  · rw [if_neg h]; exact hy
theorem fa_put {M : gM} {X : Nat → Int32} {A : Nat → Nat → Int32} {p q : Int32} : FA A (f_X4_put M X A p q).2 := by
  intro k h2 h3
  unfold f_X4_put
  split
  · rfl
  · exact (up2_ne _ _ _ h3).trans (up2_ne _ _ _ h2)
theorem fa_refuse {M : gM} {X : Nat → Int32} {A : Nat → Nat → Int32} {p q : Int32} : FA A (f_X7_refuse M X A p q).2.2 := fa_put
theorem fa_refuseWetRink {M : gM} {X : Nat → Int32} {A : Nat → Nat → Int32} {p q : Int32} : FA A (f_X7_refuseWetRink M X A p q).2.2 := FA.tr fa_put fa_put
theorem fa_refuseScript {M : gM} {X : Nat → Int32} {A : Nat → Nat → Int32} {p q : Int32} : FA A (f_X7_refuseScript M X A p q).2.2 := by
  unfold f_X7_refuseScript
  dsimp only [bd]
  split
  · exact fa_put (M := M)
  · exact fa_put (M := M)
theorem fa_isBowlRefused {M : gM} {X : Nat → Int32} {A : Nat → Nat → Int32} {p q : Int32} : FA A (f_X7_isBowlRefused M X A p q).2.2 := by
  unfold f_X7_isBowlRefused
  dsimp only [bd]
  repeat' (with_reducible apply FA.if2)
  all_goals first | exact FA.rf | exact fa_refuse
theorem fa_beginEnd {M : gM} {X : Nat → Int32} {A : Nat → Nat → Int32} {p q : Int32} : FA A (f_X7_beginEnd M X A p q).2.2.2 := by
  unfold f_X7_beginEnd
  dsimp only [bd]
  repeat' (with_reducible apply FA.if)
  all_goals (with_reducible first | exact FA.rf | exact fa_refuse | exact fa_refuseWetRink | exact fa_isBowlRefused)
theorem fa_closeEnd {M : gM} {X : Nat → Int32} {A : Nat → Nat → Int32} {p : Int32} : FA A (f_X7_closeEnd M X A p).2.2.2 := by
  unfold f_X7_closeEnd
  dsimp only [bd]
  repeat' (with_reducible apply FA.if)
  all_goals (with_reducible first | exact FA.rf | exact fa_refuse | exact fa_refuseWetRink | exact fa_isBowlRefused)
theorem fa_sweepRink {M : gM} {X : Nat → Int32} {A : Nat → Nat → Int32} {p : Int32} : FA A (f_X7_sweepRink M X A p).2.2.2 := by
  unfold f_X7_sweepRink
  dsimp only [bd]
  repeat' (with_reducible apply FA.if)
  all_goals (with_reducible first | exact FA.rf | exact fa_refuse | exact fa_refuseWetRink | exact fa_isBowlRefused)
theorem fa_setRain {M : gM} {X : Nat → Int32} {A : Nat → Nat → Int32} {p : Int32} : FA A (f_X7_setRain M X A p).2.2.2 := by
  unfold f_X7_setRain
  dsimp only [bd]
  repeat' (with_reducible apply FA.if)
  all_goals (with_reducible first | exact FA.rf | exact fa_refuse | exact fa_refuseWetRink | exact fa_isBowlRefused)
theorem fa_setSun {M : gM} {X : Nat → Int32} {A : Nat → Nat → Int32} {p : Int32} : FA A (f_X7_setSun M X A p).2.2.2 := by
  unfold f_X7_setSun
  dsimp only [bd]
  repeat' (with_reducible apply FA.if)
  all_goals (with_reducible first | exact FA.rf | exact fa_refuse | exact fa_refuseWetRink | exact fa_isBowlRefused)
theorem fa_giveTea {M : gM} {X : Nat → Int32} {A : Nat → Nat → Int32} {p : Int32} : FA A (f_X7_giveTea M X A p).2.2.2 := by
  unfold f_X7_giveTea
  dsimp only [bd]
  repeat' (with_reducible apply FA.if)
  all_goals (with_reducible first | exact FA.rf | exact fa_refuse | exact fa_refuseWetRink | exact fa_isBowlRefused)
theorem fa_passHours {M : gM} {X : Nat → Int32} {A : Nat → Nat → Int32} {p : Int32} : FA A (f_X7_passHours M X A p).2.2.2 := by
  unfold f_X7_passHours
  dsimp only [bd]
  repeat' (with_reducible apply FA.if)
  all_goals (with_reducible first | exact FA.rf | exact fa_refuse | exact fa_refuseWetRink | exact fa_isBowlRefused)
theorem fa_bowlWood {M : gM} {X : Nat → Int32} {A : Nat → Nat → Int32} {p q r s t : Int32} : FA A (f_X7_bowlWood M X A p q r s t).2.2.2 := by
  unfold f_X7_bowlWood
  dsimp only [bd]
  repeat' (with_reducible apply FA.if)
  all_goals (with_reducible first | exact FA.rf | exact fa_refuse | exact fa_refuseWetRink | exact fa_isBowlRefused)
def f_X7_keepFault (M : gM) (X : Nat → Int32) (A : Nat → Nat → Int32) : Int32 × (Nat → Int32) :=
  ((-2), upd X 1 (X 5))
abbrev rm_X7_keepFault : Room := { frames := 0, cells := 0, slots := 0, locals := 0 }
set_option maxRecDepth 100000 in
set_option maxHeartbeats 4000000 in
theorem c_X7_keepFault (l : Launch) (D : gD) (cy : Nat → ClassId) (L : Nat → Nat → Nat) (G : Nat → gM) (X : Nat → Int32) (A : Nat → Nat → Int32) (b : cB) (M : gM)  : CtI l D cy (CW cy L) yX7_keepFault cX7_keepFault 1 (some .int) rm_X7_keepFault [.ref (L 11 0)] ((va_up G 0 M, X, A), b) (fun rv u => ∃ z : Int32 × ((Nat → Int32)), z = f_X7_keepFault M X A ∧ rv = z.1 ∧ u = ((va_up G 0 M, z.2, A), b)) 0 0 := by
  refine m_entI cX7_keepFault 1 (by decide) (Nat.le_of_ble_eq_true rfl) (fun J h hR => ?_)
  show J ((va_up G 0 M, X, A), b) (0, 0) [(0, .ref (L 11 0))] 0 []
  refine j_aload_n h dX7_keepFault_0 rfl 0 rfl ?_
  refine j_aload_n h dX7_keepFault_1 rfl 0 rfl ?_
  refine j_get h inlX7 (330 + 0) (ml_get 0) rfl 5 (by decide) (xr_2 9 rfl) rfl (v := .ref (L 11 3)) rfl dX7_keepFault_2 ?_
  refine j_get h inlX2 (330 + 3) (ml_get 3) rfl 3 (by decide) (xr_27 15 rfl) rfl (v := .int (X 5)) rfl dX7_keepFault_5 ?_
  refine j_put h inlX7 tyX7 tyX7_ok nmX7 (330 + 0) (ml_get 0) rfl 6 (by decide) (xr_2 10 rfl) rfl rfl rfl rfl (Nat.le_of_ble_eq_true rfl) dX7_keepFault_8 (u' := ((va_up G 0 M, upd X 1 (X 5), A), b)) (ml_set rfl rfl) ?_
  refine j_bipush h (v := (-2)) dX7_keepFault_11 (by decide) ?_
  exact hR _ _ _ _ dX7_keepFault_13 ⟨(_, _), Eq.symm (rfl), rfl, rfl⟩

def f_X7_carryOut (M : gM) (X : Nat → Int32) (A : Nat → Nat → Int32) (p1 : Int32) : Int32 × gM × (Nat → Int32) × (Nat → Nat → Int32) :=
  bd (f_X2_number M X A p1 0) fun z1 =>
  bd (f_X2_number M X A p1 1) fun z2 =>
  if (A 0 p1.toNatClampNeg) = 98 then
    bd (f_X2_number M X A p1 2) fun z4 =>
    bd (f_X2_number M X A p1 3) fun z5 =>
    bd (f_X2_number M X A p1 4) fun z6 =>
    if z6 = 1 then
      bd (f_X7_bowlWood M X A z1 z2 z4 z5 1) fun z9 =>
      (z9.1, (z9.2.1, z9.2.2.1, z9.2.2.2))
    else
      bd (f_X7_bowlWood M X A z1 z2 z4 z5 0) fun z8 =>
      (z8.1, (z8.2.1, z8.2.2.1, z8.2.2.2))
  else
    if (A 0 p1.toNatClampNeg) = 99 then
      bd (f_X7_closeEnd M X A z1) fun z11 =>
      (z11.1, (z11.2.1, z11.2.2.1, z11.2.2.2))
    else
      if (A 0 p1.toNatClampNeg) = 100 then
        bd (f_X7_passHours M X A z1) fun z13 =>
        (z13.1, (z13.2.1, z13.2.2.1, z13.2.2.2))
      else
        if (A 0 p1.toNatClampNeg) = 101 then
          bd (f_X7_beginEnd M X A z1 z2) fun z15 =>
          (z15.1, (z15.2.1, z15.2.2.1, z15.2.2.2))
        else
          if (A 0 p1.toNatClampNeg) = 102 then
            bd (f_X7_passHours M X A z1) fun z17 =>
            (z17.1, (z17.2.1, z17.2.2.1, z17.2.2.2))
          else
            if (A 0 p1.toNatClampNeg) = 103 then
              bd (f_X7_passHours M X A z1) fun z19 =>
              (z19.1, (z19.2.1, z19.2.2.1, z19.2.2.2))
            else
              if (A 0 p1.toNatClampNeg) = 104 then
                bd (f_X7_passHours M X A z1) fun z21 =>
                (z21.1, (z21.2.1, z21.2.2.1, z21.2.2.2))
              else
                if (A 0 p1.toNatClampNeg) = 105 then
                  bd (f_X7_passHours M X A z1) fun z23 =>
                  (z23.1, (z23.2.1, z23.2.2.1, z23.2.2.2))
                else
                  if (A 0 p1.toNatClampNeg) = 106 then
                    bd (f_X7_passHours M X A z1) fun z25 =>
                    (z25.1, (z25.2.1, z25.2.2.1, z25.2.2.2))
                  else
                    if (A 0 p1.toNatClampNeg) = 107 then
                      bd (f_X7_passHours M X A z1) fun z27 =>
                      (z27.1, (z27.2.1, z27.2.2.1, z27.2.2.2))
                    else
                      if (A 0 p1.toNatClampNeg) = 108 then
                        bd (f_X7_passHours M X A z1) fun z29 =>
                        (z29.1, (z29.2.1, z29.2.2.1, z29.2.2.2))
                      else
                        if (A 0 p1.toNatClampNeg) = 109 then
                          bd (f_X7_passHours M X A z1) fun z31 =>
                          (z31.1, (z31.2.1, z31.2.2.1, z31.2.2.2))
                        else
                          if (A 0 p1.toNatClampNeg) = 110 then
                            bd (f_X7_passHours M X A z1) fun z33 =>
                            (z33.1, (z33.2.1, z33.2.2.1, z33.2.2.2))
                          else
                            if (A 0 p1.toNatClampNeg) = 111 then
                              bd (f_X7_passHours M X A z1) fun z35 =>
                              (z35.1, (z35.2.1, z35.2.2.1, z35.2.2.2))
                            else
                              if (A 0 p1.toNatClampNeg) = 112 then
                                bd (f_X7_passHours M X A z1) fun z37 =>
                                (z37.1, (z37.2.1, z37.2.2.1, z37.2.2.2))
                              else
                                if (A 0 p1.toNatClampNeg) = 113 then
                                  bd (f_X7_passHours M X A z1) fun z39 =>
                                  (z39.1, (z39.2.1, z39.2.2.1, z39.2.2.2))
                                else
                                  if (A 0 p1.toNatClampNeg) = 114 then
                                    bd (f_X7_setRain M X A z1) fun z41 =>
                                    (z41.1, (z41.2.1, z41.2.2.1, z41.2.2.2))
                                  else
                                    if (A 0 p1.toNatClampNeg) = 115 then
                                      bd (f_X7_setSun M X A z1) fun z43 =>
                                      (z43.1, (z43.2.1, z43.2.2.1, z43.2.2.2))
                                    else
                                      if (A 0 p1.toNatClampNeg) = 116 then
                                        bd (f_X7_giveTea M X A z1) fun z45 =>
                                        (z45.1, (z45.2.1, z45.2.2.1, z45.2.2.2))
                                      else
                                        if (A 0 p1.toNatClampNeg) = 117 then
                                          bd (f_X7_passHours M X A z1) fun z47 =>
                                          (z47.1, (z47.2.1, z47.2.2.1, z47.2.2.2))
                                        else
                                          if (A 0 p1.toNatClampNeg) = 118 then
                                            bd (f_X7_passHours M X A z1) fun z49 =>
                                            (z49.1, (z49.2.1, z49.2.2.1, z49.2.2.2))
                                          else
                                            if (A 0 p1.toNatClampNeg) = 119 then
                                              bd (f_X7_sweepRink M X A z1) fun z51 =>
                                              (z51.1, (z51.2.1, z51.2.2.1, z51.2.2.2))
                                            else
                                              bd (f_X7_passHours M X A z1) fun z52 =>
                                              (z52.1, (z52.2.1, z52.2.2.1, z52.2.2.2))
abbrev rm_X7_carryOut : Room := { frames := 4, cells := 0, slots := 0, locals := 105 }
set_option maxRecDepth 100000 in
set_option maxHeartbeats 4000000 in
theorem c_X7_carryOut (l : Launch) (D : gD) (cy : Nat → ClassId) (L : Nat → Nat → Nat) (G : Nat → gM) (X : Nat → Int32) (A : Nat → Nat → Int32) (b : cB) (M : gM) (p1 : Int32) (v1 : vp_in p1 30) (hG : GI M) (hK : vp_in (X 6) 4) : CtI l D cy (CW cy L) yX7_carryOut cX7_carryOut 4 (some .int) rm_X7_carryOut [.ref (L 11 0), .int p1] ((va_up G 0 M, X, A), b) (fun rv u => ∃ z : Int32 × (gM × (Nat → Int32) × (Nat → Nat → Int32)), z = f_X7_carryOut M X A p1 ∧ rv = z.1 ∧ u = ((va_up G 0 z.2.1, z.2.2.1, z.2.2.2), b) ∧ GI z.2.1 ∧ vp_in (z.2.2.1 6) 4 ∧ FC X z.2.2.1) 0 0 := by
  refine m_entI cX7_carryOut 4 (by decide) (Nat.le_of_ble_eq_true rfl) (fun J h hR => ?_)
  show J ((va_up G 0 M, X, A), b) (0, 0) [(0, .ref (L 11 0)), (1, .int p1)] 0 []
  have b1 : p1.toNatClampNeg < 30 := vp_lt v1
  have e1 : p1 = nI p1.toNatClampNeg := vp_nI v1 (by decide)
  refine j_aload_n h dX7_carryOut_0 rfl 0 rfl ?_
  refine j_get h inlX7 (330 + 0) (ml_get 0) rfl 5 (by decide) (xr_2 9 rfl) rfl (v := .ref (L 11 3)) rfl dX7_carryOut_1 ?_
  refine j_iload_n h dX7_carryOut_4 rfl 1 rfl ?_
  refine j_iconst h (v := 0) dX7_carryOut_5 (by decide) ?_
  refine j_callI h (n := 2) (c_X2_number l D cy L _ _ _ _ _ _ _ (vp_of (j := p1.toNatClampNeg) e1 (by omega) (by decide)) (vp_in_nI (by decide) (by decide))) (xg_V (xr_20 18 rfl) (xr_20 19 rfl) (xr_20 20 rfl) (xr_2 8 rfl) (xr_20 21 rfl)) rfl rfl (by decide +kernel) ⟨Nat.le_of_ble_eq_true rfl, Nat.le_of_ble_eq_true rfl⟩ (330 + 3) (ml_get 3) rfl rfl rfl rfl (Nat.le_of_ble_eq_true rfl) dX7_carryOut_6 ⟨by decide, by decide⟩ (fun z1 u' hq => ?_)
  obtain ⟨hz1, rfl⟩ := hq
  refine j_istore_n h (lv' := [(2, _), (0, _), (1, _)]) dX7_carryOut_9 rfl (by decide) rfl ?_
  refine j_aload_n h dX7_carryOut_10 rfl 1 rfl ?_
  refine j_get h inlX7 (330 + 0) (ml_get 0) rfl 5 (by decide) (xr_2 9 rfl) rfl (v := .ref (L 11 3)) rfl dX7_carryOut_11 ?_
  refine j_iload_n h dX7_carryOut_14 rfl 2 rfl ?_
  refine j_iconst h (v := 1) dX7_carryOut_15 (by decide) ?_
  refine j_callI h (n := 2) (c_X2_number l D cy L _ _ _ _ _ _ _ (vp_of (j := p1.toNatClampNeg) e1 (by omega) (by decide)) (vp_in_nI (by decide) (by decide))) (xg_V (xr_20 18 rfl) (xr_20 19 rfl) (xr_20 20 rfl) (xr_2 8 rfl) (xr_20 21 rfl)) rfl rfl (by decide +kernel) ⟨Nat.le_of_ble_eq_true rfl, Nat.le_of_ble_eq_true rfl⟩ (330 + 3) (ml_get 3) rfl rfl rfl rfl (Nat.le_of_ble_eq_true rfl) dX7_carryOut_16 ⟨by decide, by decide⟩ (fun z2 u' hq => ?_)
  obtain ⟨hz2, rfl⟩ := hq
  refine j_istore_n h (lv' := [(3, _), (2, _), (0, _), (1, _)]) dX7_carryOut_19 rfl (by decide) rfl ?_
  refine j_aload_n h dX7_carryOut_20 rfl 2 rfl ?_
  refine j_get h inlX7 (330 + 0) (ml_get 0) rfl 5 (by decide) (xr_2 9 rfl) rfl (v := .ref (L 11 3)) rfl dX7_carryOut_21 ?_
  refine j_get h inlX2 (330 + 3) (ml_get 3) rfl 0 (by decide) (xr_20 17 rfl) rfl (v := .ref (L 11 4)) rfl dX7_carryOut_24 ?_
  refine j_iload_n h dX7_carryOut_27 rfl 3 rfl ?_
  refine j_ialdE h (330 + 4) (ml_get 4) p1.toNatClampNeg e1 (by omega) (by decide) dX7_carryOut_28 ?_
  by_cases c3 : (A 0 p1.toNatClampNeg) = 98
  · refine j_tableIn h (x := A 0 p1.toNatClampNeg) (tgt := 139) dX7_carryOut_29 (by rw [c3]; decide) (by rw [c3]; decide) (by rw [c3]; rfl) (by decide) ?_
    refine j_aload_n h dX7_carryOut_139 rfl 2 rfl ?_
    refine j_iload_n h dX7_carryOut_140 rfl 1 rfl ?_
    refine j_iload_n h dX7_carryOut_141 rfl 0 rfl ?_
    refine j_aload_n h dX7_carryOut_142 rfl 2 rfl ?_
    refine j_get h inlX7 (330 + 0) (ml_get 0) rfl 5 (by decide) (xr_2 9 rfl) rfl (v := .ref (L 11 3)) rfl dX7_carryOut_143 ?_
    refine j_iload_n h dX7_carryOut_146 rfl 3 rfl ?_
    refine j_iconst h (v := 2) dX7_carryOut_147 (by decide) ?_
    refine j_callI h (n := 2) (c_X2_number l D cy L _ _ _ _ _ _ _ (vp_of (j := p1.toNatClampNeg) e1 (by omega) (by decide)) (vp_in_nI (by decide) (by decide))) (xg_V (xr_20 18 rfl) (xr_20 19 rfl) (xr_20 20 rfl) (xr_2 8 rfl) (xr_20 21 rfl)) rfl rfl (by decide +kernel) ⟨Nat.le_of_ble_eq_true rfl, Nat.le_of_ble_eq_true rfl⟩ (330 + 3) (ml_get 3) rfl rfl rfl rfl (Nat.le_of_ble_eq_true rfl) dX7_carryOut_148 ⟨by decide, by decide⟩ (fun z4 u' hq => ?_)
    obtain ⟨hz4, rfl⟩ := hq
    refine j_aload_n h dX7_carryOut_151 rfl 2 rfl ?_
    refine j_get h inlX7 (330 + 0) (ml_get 0) rfl 5 (by decide) (xr_2 9 rfl) rfl (v := .ref (L 11 3)) rfl dX7_carryOut_152 ?_
    refine j_iload_n h dX7_carryOut_155 rfl 3 rfl ?_
    refine j_iconst h (v := 3) dX7_carryOut_156 (by decide) ?_
    refine j_callI h (n := 2) (c_X2_number l D cy L _ _ _ _ _ _ _ (vp_of (j := p1.toNatClampNeg) e1 (by omega) (by decide)) (vp_in_nI (by decide) (by decide))) (xg_V (xr_20 18 rfl) (xr_20 19 rfl) (xr_20 20 rfl) (xr_2 8 rfl) (xr_20 21 rfl)) rfl rfl (by decide +kernel) ⟨Nat.le_of_ble_eq_true rfl, Nat.le_of_ble_eq_true rfl⟩ (330 + 3) (ml_get 3) rfl rfl rfl rfl (Nat.le_of_ble_eq_true rfl) dX7_carryOut_157 ⟨by decide, by decide⟩ (fun z5 u' hq => ?_)
    obtain ⟨hz5, rfl⟩ := hq
    refine j_aload_n h dX7_carryOut_160 rfl 2 rfl ?_
    refine j_get h inlX7 (330 + 0) (ml_get 0) rfl 5 (by decide) (xr_2 9 rfl) rfl (v := .ref (L 11 3)) rfl dX7_carryOut_161 ?_
    refine j_iload_n h dX7_carryOut_164 rfl 3 rfl ?_
    refine j_iconst h (v := 4) dX7_carryOut_165 (by decide) ?_
    refine j_callI h (n := 2) (c_X2_number l D cy L _ _ _ _ _ _ _ (vp_of (j := p1.toNatClampNeg) e1 (by omega) (by decide)) (vp_in_nI (by decide) (by decide))) (xg_V (xr_20 18 rfl) (xr_20 19 rfl) (xr_20 20 rfl) (xr_2 8 rfl) (xr_20 21 rfl)) rfl rfl (by decide +kernel) ⟨Nat.le_of_ble_eq_true rfl, Nat.le_of_ble_eq_true rfl⟩ (330 + 3) (ml_get 3) rfl rfl rfl rfl (Nat.le_of_ble_eq_true rfl) dX7_carryOut_166 ⟨by decide, by decide⟩ (fun z6 u' hq => ?_)
    obtain ⟨hz6, rfl⟩ := hq
    refine j_iconst h (v := 1) dX7_carryOut_169 (by decide) ?_
    refine j_icmp_ne h (tgt := 177) dX7_carryOut_170 (by decide) (fun c7 => ?_) (fun c7 => ?_)
    · refine j_iconst h (v := 0) dX7_carryOut_177 (by decide) ?_
      refine j_callI h (n := 5) (c_X7_bowlWood l D cy L _ _ _ _ _ _ _ _ _ _ hG hK) (xg_V (xr_22 12 rfl) (xr_22 13 rfl) (xr_22 14 rfl) (xr_1 2 rfl) (xr_22 15 rfl)) rfl rfl (by decide +kernel) ⟨Nat.le_of_ble_eq_true rfl, Nat.le_of_ble_eq_true rfl⟩ (330 + 0) (ml_get 0) rfl rfl rfl rfl (Nat.le_of_ble_eq_true rfl) dX7_carryOut_178 ⟨by decide, by decide⟩ (fun r u' hq => ?_)
      obtain ⟨z8, hz8, rfl, rfl, qz8_0, qz8_1, qz8_2⟩ := hq
      exact hR _ _ _ _ dX7_carryOut_181 ⟨(_, _), Eq.symm ((bd_eq hz1 (bd_eq hz2 (ite_p c3 (bd_eq hz4 (bd_eq hz5 (bd_eq hz6 (ite_n c7 (bd_eq hz8 rfl))))))))), rfl, rfl, qz8_0, qz8_1, (FC.tr FC.rf qz8_2)⟩
    · refine j_iconst h (v := 1) dX7_carryOut_173 (by decide) ?_
      refine j_goto h (tgt := 178) dX7_carryOut_174 (by decide) ?_
      refine j_callI h (n := 5) (c_X7_bowlWood l D cy L _ _ _ _ _ _ _ _ _ _ hG hK) (xg_V (xr_22 12 rfl) (xr_22 13 rfl) (xr_22 14 rfl) (xr_1 2 rfl) (xr_22 15 rfl)) rfl rfl (by decide +kernel) ⟨Nat.le_of_ble_eq_true rfl, Nat.le_of_ble_eq_true rfl⟩ (330 + 0) (ml_get 0) rfl rfl rfl rfl (Nat.le_of_ble_eq_true rfl) dX7_carryOut_178 ⟨by decide, by decide⟩ (fun r u' hq => ?_)
      obtain ⟨z9, hz9, rfl, rfl, qz9_0, qz9_1, qz9_2⟩ := hq
      exact hR _ _ _ _ dX7_carryOut_181 ⟨(_, _), Eq.symm ((bd_eq hz1 (bd_eq hz2 (ite_p c3 (bd_eq hz4 (bd_eq hz5 (bd_eq hz6 (ite_p c7 (bd_eq hz9 rfl))))))))), rfl, rfl, qz9_0, qz9_1, (FC.tr FC.rf qz9_2)⟩
  by_cases c10 : (A 0 p1.toNatClampNeg) = 99
  · refine j_tableIn h (x := A 0 p1.toNatClampNeg) (tgt := 182) dX7_carryOut_29 (by rw [c10]; decide) (by rw [c10]; decide) (by rw [c10]; rfl) (by decide) ?_
    refine j_aload_n h dX7_carryOut_182 rfl 2 rfl ?_
    refine j_iload_n h dX7_carryOut_183 rfl 1 rfl ?_
    refine j_callI h (n := 1) (c_X7_closeEnd l D cy L _ _ _ _ _ _ hG hK) (xg_V (xr_24 15 rfl) (xr_24 16 rfl) (xr_24 17 rfl) (xr_1 2 rfl) (xr_24 18 rfl)) rfl rfl (by decide +kernel) ⟨Nat.le_of_ble_eq_true rfl, Nat.le_of_ble_eq_true rfl⟩ (330 + 0) (ml_get 0) rfl rfl rfl rfl (Nat.le_of_ble_eq_true rfl) dX7_carryOut_184 ⟨by decide, by decide⟩ (fun r u' hq => ?_)
    obtain ⟨z11, hz11, rfl, rfl, qz11_0, qz11_1, qz11_2⟩ := hq
    exact hR _ _ _ _ dX7_carryOut_187 ⟨(_, _), Eq.symm ((bd_eq hz1 (bd_eq hz2 (ite_n c3 (ite_p c10 (bd_eq hz11 rfl)))))), rfl, rfl, qz11_0, qz11_1, (FC.tr FC.rf qz11_2)⟩
  by_cases c12 : (A 0 p1.toNatClampNeg) = 100
  · refine j_tableIn h (x := A 0 p1.toNatClampNeg) (tgt := 212) dX7_carryOut_29 (by rw [c12]; decide) (by rw [c12]; decide) (by rw [c12]; rfl) (by decide) ?_
    refine j_aload_n h dX7_carryOut_212 rfl 2 rfl ?_
    refine j_iload_n h dX7_carryOut_213 rfl 1 rfl ?_
    refine j_callI h (n := 1) (c_X7_passHours l D cy L _ _ _ _ _ _ hG hK) (xg_V (xr_8 23 rfl) (xr_9 0 rfl) (xr_9 1 rfl) (xr_1 2 rfl) (xr_9 2 rfl)) rfl rfl (by decide +kernel) ⟨Nat.le_of_ble_eq_true rfl, Nat.le_of_ble_eq_true rfl⟩ (330 + 0) (ml_get 0) rfl rfl rfl rfl (Nat.le_of_ble_eq_true rfl) dX7_carryOut_214 ⟨by decide, by decide⟩ (fun r u' hq => ?_)
    obtain ⟨z13, hz13, rfl, rfl, qz13_0, qz13_1, qz13_2⟩ := hq
    exact hR _ _ _ _ dX7_carryOut_217 ⟨(_, _), Eq.symm ((bd_eq hz1 (bd_eq hz2 (ite_n c3 (ite_n c10 (ite_p c12 (bd_eq hz13 rfl))))))), rfl, rfl, qz13_0, qz13_1, (FC.tr FC.rf qz13_2)⟩
  by_cases c14 : (A 0 p1.toNatClampNeg) = 101
  · refine j_tableIn h (x := A 0 p1.toNatClampNeg) (tgt := 132) dX7_carryOut_29 (by rw [c14]; decide) (by rw [c14]; decide) (by rw [c14]; rfl) (by decide) ?_
    refine j_aload_n h dX7_carryOut_132 rfl 2 rfl ?_
    refine j_iload_n h dX7_carryOut_133 rfl 1 rfl ?_
    refine j_iload_n h dX7_carryOut_134 rfl 0 rfl ?_
    refine j_callI h (n := 2) (c_X7_beginEnd l D cy L _ _ _ _ _ _ _ hG hK) (xg_V (xr_20 22 rfl) (xr_20 23 rfl) (xr_21 0 rfl) (xr_1 2 rfl) (xr_21 1 rfl)) rfl rfl (by decide +kernel) ⟨Nat.le_of_ble_eq_true rfl, Nat.le_of_ble_eq_true rfl⟩ (330 + 0) (ml_get 0) rfl rfl rfl rfl (Nat.le_of_ble_eq_true rfl) dX7_carryOut_135 ⟨by decide, by decide⟩ (fun r u' hq => ?_)
    obtain ⟨z15, hz15, rfl, rfl, qz15_0, qz15_1, qz15_2⟩ := hq
    exact hR _ _ _ _ dX7_carryOut_138 ⟨(_, _), Eq.symm ((bd_eq hz1 (bd_eq hz2 (ite_n c3 (ite_n c10 (ite_n c12 (ite_p c14 (bd_eq hz15 rfl)))))))), rfl, rfl, qz15_0, qz15_1, (FC.tr FC.rf qz15_2)⟩
  by_cases c16 : (A 0 p1.toNatClampNeg) = 102
  · refine j_tableIn h (x := A 0 p1.toNatClampNeg) (tgt := 212) dX7_carryOut_29 (by rw [c16]; decide) (by rw [c16]; decide) (by rw [c16]; rfl) (by decide) ?_
    refine j_aload_n h dX7_carryOut_212 rfl 2 rfl ?_
    refine j_iload_n h dX7_carryOut_213 rfl 1 rfl ?_
    refine j_callI h (n := 1) (c_X7_passHours l D cy L _ _ _ _ _ _ hG hK) (xg_V (xr_8 23 rfl) (xr_9 0 rfl) (xr_9 1 rfl) (xr_1 2 rfl) (xr_9 2 rfl)) rfl rfl (by decide +kernel) ⟨Nat.le_of_ble_eq_true rfl, Nat.le_of_ble_eq_true rfl⟩ (330 + 0) (ml_get 0) rfl rfl rfl rfl (Nat.le_of_ble_eq_true rfl) dX7_carryOut_214 ⟨by decide, by decide⟩ (fun r u' hq => ?_)
    obtain ⟨z17, hz17, rfl, rfl, qz17_0, qz17_1, qz17_2⟩ := hq
    exact hR _ _ _ _ dX7_carryOut_217 ⟨(_, _), Eq.symm ((bd_eq hz1 (bd_eq hz2 (ite_n c3 (ite_n c10 (ite_n c12 (ite_n c14 (ite_p c16 (bd_eq hz17 rfl))))))))), rfl, rfl, qz17_0, qz17_1, (FC.tr FC.rf qz17_2)⟩
  by_cases c18 : (A 0 p1.toNatClampNeg) = 103
  · refine j_tableIn h (x := A 0 p1.toNatClampNeg) (tgt := 212) dX7_carryOut_29 (by rw [c18]; decide) (by rw [c18]; decide) (by rw [c18]; rfl) (by decide) ?_
    refine j_aload_n h dX7_carryOut_212 rfl 2 rfl ?_
    refine j_iload_n h dX7_carryOut_213 rfl 1 rfl ?_
    refine j_callI h (n := 1) (c_X7_passHours l D cy L _ _ _ _ _ _ hG hK) (xg_V (xr_8 23 rfl) (xr_9 0 rfl) (xr_9 1 rfl) (xr_1 2 rfl) (xr_9 2 rfl)) rfl rfl (by decide +kernel) ⟨Nat.le_of_ble_eq_true rfl, Nat.le_of_ble_eq_true rfl⟩ (330 + 0) (ml_get 0) rfl rfl rfl rfl (Nat.le_of_ble_eq_true rfl) dX7_carryOut_214 ⟨by decide, by decide⟩ (fun r u' hq => ?_)
    obtain ⟨z19, hz19, rfl, rfl, qz19_0, qz19_1, qz19_2⟩ := hq
    exact hR _ _ _ _ dX7_carryOut_217 ⟨(_, _), Eq.symm ((bd_eq hz1 (bd_eq hz2 (ite_n c3 (ite_n c10 (ite_n c12 (ite_n c14 (ite_n c16 (ite_p c18 (bd_eq hz19 rfl)))))))))), rfl, rfl, qz19_0, qz19_1, (FC.tr FC.rf qz19_2)⟩
  by_cases c20 : (A 0 p1.toNatClampNeg) = 104
  · refine j_tableIn h (x := A 0 p1.toNatClampNeg) (tgt := 212) dX7_carryOut_29 (by rw [c20]; decide) (by rw [c20]; decide) (by rw [c20]; rfl) (by decide) ?_
    refine j_aload_n h dX7_carryOut_212 rfl 2 rfl ?_
    refine j_iload_n h dX7_carryOut_213 rfl 1 rfl ?_
    refine j_callI h (n := 1) (c_X7_passHours l D cy L _ _ _ _ _ _ hG hK) (xg_V (xr_8 23 rfl) (xr_9 0 rfl) (xr_9 1 rfl) (xr_1 2 rfl) (xr_9 2 rfl)) rfl rfl (by decide +kernel) ⟨Nat.le_of_ble_eq_true rfl, Nat.le_of_ble_eq_true rfl⟩ (330 + 0) (ml_get 0) rfl rfl rfl rfl (Nat.le_of_ble_eq_true rfl) dX7_carryOut_214 ⟨by decide, by decide⟩ (fun r u' hq => ?_)
    obtain ⟨z21, hz21, rfl, rfl, qz21_0, qz21_1, qz21_2⟩ := hq
    exact hR _ _ _ _ dX7_carryOut_217 ⟨(_, _), Eq.symm ((bd_eq hz1 (bd_eq hz2 (ite_n c3 (ite_n c10 (ite_n c12 (ite_n c14 (ite_n c16 (ite_n c18 (ite_p c20 (bd_eq hz21 rfl))))))))))), rfl, rfl, qz21_0, qz21_1, (FC.tr FC.rf qz21_2)⟩
  by_cases c22 : (A 0 p1.toNatClampNeg) = 105
  · refine j_tableIn h (x := A 0 p1.toNatClampNeg) (tgt := 212) dX7_carryOut_29 (by rw [c22]; decide) (by rw [c22]; decide) (by rw [c22]; rfl) (by decide) ?_
    refine j_aload_n h dX7_carryOut_212 rfl 2 rfl ?_
    refine j_iload_n h dX7_carryOut_213 rfl 1 rfl ?_
    refine j_callI h (n := 1) (c_X7_passHours l D cy L _ _ _ _ _ _ hG hK) (xg_V (xr_8 23 rfl) (xr_9 0 rfl) (xr_9 1 rfl) (xr_1 2 rfl) (xr_9 2 rfl)) rfl rfl (by decide +kernel) ⟨Nat.le_of_ble_eq_true rfl, Nat.le_of_ble_eq_true rfl⟩ (330 + 0) (ml_get 0) rfl rfl rfl rfl (Nat.le_of_ble_eq_true rfl) dX7_carryOut_214 ⟨by decide, by decide⟩ (fun r u' hq => ?_)
    obtain ⟨z23, hz23, rfl, rfl, qz23_0, qz23_1, qz23_2⟩ := hq
    exact hR _ _ _ _ dX7_carryOut_217 ⟨(_, _), Eq.symm ((bd_eq hz1 (bd_eq hz2 (ite_n c3 (ite_n c10 (ite_n c12 (ite_n c14 (ite_n c16 (ite_n c18 (ite_n c20 (ite_p c22 (bd_eq hz23 rfl)))))))))))), rfl, rfl, qz23_0, qz23_1, (FC.tr FC.rf qz23_2)⟩
  by_cases c24 : (A 0 p1.toNatClampNeg) = 106
  · refine j_tableIn h (x := A 0 p1.toNatClampNeg) (tgt := 212) dX7_carryOut_29 (by rw [c24]; decide) (by rw [c24]; decide) (by rw [c24]; rfl) (by decide) ?_
    refine j_aload_n h dX7_carryOut_212 rfl 2 rfl ?_
    refine j_iload_n h dX7_carryOut_213 rfl 1 rfl ?_
    refine j_callI h (n := 1) (c_X7_passHours l D cy L _ _ _ _ _ _ hG hK) (xg_V (xr_8 23 rfl) (xr_9 0 rfl) (xr_9 1 rfl) (xr_1 2 rfl) (xr_9 2 rfl)) rfl rfl (by decide +kernel) ⟨Nat.le_of_ble_eq_true rfl, Nat.le_of_ble_eq_true rfl⟩ (330 + 0) (ml_get 0) rfl rfl rfl rfl (Nat.le_of_ble_eq_true rfl) dX7_carryOut_214 ⟨by decide, by decide⟩ (fun r u' hq => ?_)
    obtain ⟨z25, hz25, rfl, rfl, qz25_0, qz25_1, qz25_2⟩ := hq
    exact hR _ _ _ _ dX7_carryOut_217 ⟨(_, _), Eq.symm ((bd_eq hz1 (bd_eq hz2 (ite_n c3 (ite_n c10 (ite_n c12 (ite_n c14 (ite_n c16 (ite_n c18 (ite_n c20 (ite_n c22 (ite_p c24 (bd_eq hz25 rfl))))))))))))), rfl, rfl, qz25_0, qz25_1, (FC.tr FC.rf qz25_2)⟩
  by_cases c26 : (A 0 p1.toNatClampNeg) = 107
  · refine j_tableIn h (x := A 0 p1.toNatClampNeg) (tgt := 212) dX7_carryOut_29 (by rw [c26]; decide) (by rw [c26]; decide) (by rw [c26]; rfl) (by decide) ?_
    refine j_aload_n h dX7_carryOut_212 rfl 2 rfl ?_
    refine j_iload_n h dX7_carryOut_213 rfl 1 rfl ?_
    refine j_callI h (n := 1) (c_X7_passHours l D cy L _ _ _ _ _ _ hG hK) (xg_V (xr_8 23 rfl) (xr_9 0 rfl) (xr_9 1 rfl) (xr_1 2 rfl) (xr_9 2 rfl)) rfl rfl (by decide +kernel) ⟨Nat.le_of_ble_eq_true rfl, Nat.le_of_ble_eq_true rfl⟩ (330 + 0) (ml_get 0) rfl rfl rfl rfl (Nat.le_of_ble_eq_true rfl) dX7_carryOut_214 ⟨by decide, by decide⟩ (fun r u' hq => ?_)
    obtain ⟨z27, hz27, rfl, rfl, qz27_0, qz27_1, qz27_2⟩ := hq
    exact hR _ _ _ _ dX7_carryOut_217 ⟨(_, _), Eq.symm ((bd_eq hz1 (bd_eq hz2 (ite_n c3 (ite_n c10 (ite_n c12 (ite_n c14 (ite_n c16 (ite_n c18 (ite_n c20 (ite_n c22 (ite_n c24 (ite_p c26 (bd_eq hz27 rfl)))))))))))))), rfl, rfl, qz27_0, qz27_1, (FC.tr FC.rf qz27_2)⟩
  by_cases c28 : (A 0 p1.toNatClampNeg) = 108
  · refine j_tableIn h (x := A 0 p1.toNatClampNeg) (tgt := 212) dX7_carryOut_29 (by rw [c28]; decide) (by rw [c28]; decide) (by rw [c28]; rfl) (by decide) ?_
    refine j_aload_n h dX7_carryOut_212 rfl 2 rfl ?_
    refine j_iload_n h dX7_carryOut_213 rfl 1 rfl ?_
    refine j_callI h (n := 1) (c_X7_passHours l D cy L _ _ _ _ _ _ hG hK) (xg_V (xr_8 23 rfl) (xr_9 0 rfl) (xr_9 1 rfl) (xr_1 2 rfl) (xr_9 2 rfl)) rfl rfl (by decide +kernel) ⟨Nat.le_of_ble_eq_true rfl, Nat.le_of_ble_eq_true rfl⟩ (330 + 0) (ml_get 0) rfl rfl rfl rfl (Nat.le_of_ble_eq_true rfl) dX7_carryOut_214 ⟨by decide, by decide⟩ (fun r u' hq => ?_)
    obtain ⟨z29, hz29, rfl, rfl, qz29_0, qz29_1, qz29_2⟩ := hq
    exact hR _ _ _ _ dX7_carryOut_217 ⟨(_, _), Eq.symm ((bd_eq hz1 (bd_eq hz2 (ite_n c3 (ite_n c10 (ite_n c12 (ite_n c14 (ite_n c16 (ite_n c18 (ite_n c20 (ite_n c22 (ite_n c24 (ite_n c26 (ite_p c28 (bd_eq hz29 rfl))))))))))))))), rfl, rfl, qz29_0, qz29_1, (FC.tr FC.rf qz29_2)⟩
  by_cases c30 : (A 0 p1.toNatClampNeg) = 109
  · refine j_tableIn h (x := A 0 p1.toNatClampNeg) (tgt := 212) dX7_carryOut_29 (by rw [c30]; decide) (by rw [c30]; decide) (by rw [c30]; rfl) (by decide) ?_
    refine j_aload_n h dX7_carryOut_212 rfl 2 rfl ?_
    refine j_iload_n h dX7_carryOut_213 rfl 1 rfl ?_
    refine j_callI h (n := 1) (c_X7_passHours l D cy L _ _ _ _ _ _ hG hK) (xg_V (xr_8 23 rfl) (xr_9 0 rfl) (xr_9 1 rfl) (xr_1 2 rfl) (xr_9 2 rfl)) rfl rfl (by decide +kernel) ⟨Nat.le_of_ble_eq_true rfl, Nat.le_of_ble_eq_true rfl⟩ (330 + 0) (ml_get 0) rfl rfl rfl rfl (Nat.le_of_ble_eq_true rfl) dX7_carryOut_214 ⟨by decide, by decide⟩ (fun r u' hq => ?_)
    obtain ⟨z31, hz31, rfl, rfl, qz31_0, qz31_1, qz31_2⟩ := hq
    exact hR _ _ _ _ dX7_carryOut_217 ⟨(_, _), Eq.symm ((bd_eq hz1 (bd_eq hz2 (ite_n c3 (ite_n c10 (ite_n c12 (ite_n c14 (ite_n c16 (ite_n c18 (ite_n c20 (ite_n c22 (ite_n c24 (ite_n c26 (ite_n c28 (ite_p c30 (bd_eq hz31 rfl)))))))))))))))), rfl, rfl, qz31_0, qz31_1, (FC.tr FC.rf qz31_2)⟩
  by_cases c32 : (A 0 p1.toNatClampNeg) = 110
  · refine j_tableIn h (x := A 0 p1.toNatClampNeg) (tgt := 212) dX7_carryOut_29 (by rw [c32]; decide) (by rw [c32]; decide) (by rw [c32]; rfl) (by decide) ?_
    refine j_aload_n h dX7_carryOut_212 rfl 2 rfl ?_
    refine j_iload_n h dX7_carryOut_213 rfl 1 rfl ?_
    refine j_callI h (n := 1) (c_X7_passHours l D cy L _ _ _ _ _ _ hG hK) (xg_V (xr_8 23 rfl) (xr_9 0 rfl) (xr_9 1 rfl) (xr_1 2 rfl) (xr_9 2 rfl)) rfl rfl (by decide +kernel) ⟨Nat.le_of_ble_eq_true rfl, Nat.le_of_ble_eq_true rfl⟩ (330 + 0) (ml_get 0) rfl rfl rfl rfl (Nat.le_of_ble_eq_true rfl) dX7_carryOut_214 ⟨by decide, by decide⟩ (fun r u' hq => ?_)
    obtain ⟨z33, hz33, rfl, rfl, qz33_0, qz33_1, qz33_2⟩ := hq
    exact hR _ _ _ _ dX7_carryOut_217 ⟨(_, _), Eq.symm ((bd_eq hz1 (bd_eq hz2 (ite_n c3 (ite_n c10 (ite_n c12 (ite_n c14 (ite_n c16 (ite_n c18 (ite_n c20 (ite_n c22 (ite_n c24 (ite_n c26 (ite_n c28 (ite_n c30 (ite_p c32 (bd_eq hz33 rfl))))))))))))))))), rfl, rfl, qz33_0, qz33_1, (FC.tr FC.rf qz33_2)⟩
  by_cases c34 : (A 0 p1.toNatClampNeg) = 111
  · refine j_tableIn h (x := A 0 p1.toNatClampNeg) (tgt := 212) dX7_carryOut_29 (by rw [c34]; decide) (by rw [c34]; decide) (by rw [c34]; rfl) (by decide) ?_
    refine j_aload_n h dX7_carryOut_212 rfl 2 rfl ?_
    refine j_iload_n h dX7_carryOut_213 rfl 1 rfl ?_
    refine j_callI h (n := 1) (c_X7_passHours l D cy L _ _ _ _ _ _ hG hK) (xg_V (xr_8 23 rfl) (xr_9 0 rfl) (xr_9 1 rfl) (xr_1 2 rfl) (xr_9 2 rfl)) rfl rfl (by decide +kernel) ⟨Nat.le_of_ble_eq_true rfl, Nat.le_of_ble_eq_true rfl⟩ (330 + 0) (ml_get 0) rfl rfl rfl rfl (Nat.le_of_ble_eq_true rfl) dX7_carryOut_214 ⟨by decide, by decide⟩ (fun r u' hq => ?_)
    obtain ⟨z35, hz35, rfl, rfl, qz35_0, qz35_1, qz35_2⟩ := hq
    exact hR _ _ _ _ dX7_carryOut_217 ⟨(_, _), Eq.symm ((bd_eq hz1 (bd_eq hz2 (ite_n c3 (ite_n c10 (ite_n c12 (ite_n c14 (ite_n c16 (ite_n c18 (ite_n c20 (ite_n c22 (ite_n c24 (ite_n c26 (ite_n c28 (ite_n c30 (ite_n c32 (ite_p c34 (bd_eq hz35 rfl)))))))))))))))))), rfl, rfl, qz35_0, qz35_1, (FC.tr FC.rf qz35_2)⟩
  by_cases c36 : (A 0 p1.toNatClampNeg) = 112
  · refine j_tableIn h (x := A 0 p1.toNatClampNeg) (tgt := 212) dX7_carryOut_29 (by rw [c36]; decide) (by rw [c36]; decide) (by rw [c36]; rfl) (by decide) ?_
    refine j_aload_n h dX7_carryOut_212 rfl 2 rfl ?_
    refine j_iload_n h dX7_carryOut_213 rfl 1 rfl ?_
    refine j_callI h (n := 1) (c_X7_passHours l D cy L _ _ _ _ _ _ hG hK) (xg_V (xr_8 23 rfl) (xr_9 0 rfl) (xr_9 1 rfl) (xr_1 2 rfl) (xr_9 2 rfl)) rfl rfl (by decide +kernel) ⟨Nat.le_of_ble_eq_true rfl, Nat.le_of_ble_eq_true rfl⟩ (330 + 0) (ml_get 0) rfl rfl rfl rfl (Nat.le_of_ble_eq_true rfl) dX7_carryOut_214 ⟨by decide, by decide⟩ (fun r u' hq => ?_)
    obtain ⟨z37, hz37, rfl, rfl, qz37_0, qz37_1, qz37_2⟩ := hq
    exact hR _ _ _ _ dX7_carryOut_217 ⟨(_, _), Eq.symm ((bd_eq hz1 (bd_eq hz2 (ite_n c3 (ite_n c10 (ite_n c12 (ite_n c14 (ite_n c16 (ite_n c18 (ite_n c20 (ite_n c22 (ite_n c24 (ite_n c26 (ite_n c28 (ite_n c30 (ite_n c32 (ite_n c34 (ite_p c36 (bd_eq hz37 rfl))))))))))))))))))), rfl, rfl, qz37_0, qz37_1, (FC.tr FC.rf qz37_2)⟩
  by_cases c38 : (A 0 p1.toNatClampNeg) = 113
  · refine j_tableIn h (x := A 0 p1.toNatClampNeg) (tgt := 212) dX7_carryOut_29 (by rw [c38]; decide) (by rw [c38]; decide) (by rw [c38]; rfl) (by decide) ?_
    refine j_aload_n h dX7_carryOut_212 rfl 2 rfl ?_
    refine j_iload_n h dX7_carryOut_213 rfl 1 rfl ?_
    refine j_callI h (n := 1) (c_X7_passHours l D cy L _ _ _ _ _ _ hG hK) (xg_V (xr_8 23 rfl) (xr_9 0 rfl) (xr_9 1 rfl) (xr_1 2 rfl) (xr_9 2 rfl)) rfl rfl (by decide +kernel) ⟨Nat.le_of_ble_eq_true rfl, Nat.le_of_ble_eq_true rfl⟩ (330 + 0) (ml_get 0) rfl rfl rfl rfl (Nat.le_of_ble_eq_true rfl) dX7_carryOut_214 ⟨by decide, by decide⟩ (fun r u' hq => ?_)
    obtain ⟨z39, hz39, rfl, rfl, qz39_0, qz39_1, qz39_2⟩ := hq
    exact hR _ _ _ _ dX7_carryOut_217 ⟨(_, _), Eq.symm ((bd_eq hz1 (bd_eq hz2 (ite_n c3 (ite_n c10 (ite_n c12 (ite_n c14 (ite_n c16 (ite_n c18 (ite_n c20 (ite_n c22 (ite_n c24 (ite_n c26 (ite_n c28 (ite_n c30 (ite_n c32 (ite_n c34 (ite_n c36 (ite_p c38 (bd_eq hz39 rfl)))))))))))))))))))), rfl, rfl, qz39_0, qz39_1, (FC.tr FC.rf qz39_2)⟩
  by_cases c40 : (A 0 p1.toNatClampNeg) = 114
  · refine j_tableIn h (x := A 0 p1.toNatClampNeg) (tgt := 194) dX7_carryOut_29 (by rw [c40]; decide) (by rw [c40]; decide) (by rw [c40]; rfl) (by decide) ?_
    refine j_aload_n h dX7_carryOut_194 rfl 2 rfl ?_
    refine j_iload_n h dX7_carryOut_195 rfl 1 rfl ?_
    refine j_callI h (n := 1) (c_X7_setRain l D cy L _ _ _ _ _ _ hG hK) (xg_V (xr_26 7 rfl) (xr_26 8 rfl) (xr_26 9 rfl) (xr_1 2 rfl) (xr_26 10 rfl)) rfl rfl (by decide +kernel) ⟨Nat.le_of_ble_eq_true rfl, Nat.le_of_ble_eq_true rfl⟩ (330 + 0) (ml_get 0) rfl rfl rfl rfl (Nat.le_of_ble_eq_true rfl) dX7_carryOut_196 ⟨by decide, by decide⟩ (fun r u' hq => ?_)
    obtain ⟨z41, hz41, rfl, rfl, qz41_0, qz41_1, qz41_2⟩ := hq
    exact hR _ _ _ _ dX7_carryOut_199 ⟨(_, _), Eq.symm ((bd_eq hz1 (bd_eq hz2 (ite_n c3 (ite_n c10 (ite_n c12 (ite_n c14 (ite_n c16 (ite_n c18 (ite_n c20 (ite_n c22 (ite_n c24 (ite_n c26 (ite_n c28 (ite_n c30 (ite_n c32 (ite_n c34 (ite_n c36 (ite_n c38 (ite_p c40 (bd_eq hz41 rfl))))))))))))))))))))), rfl, rfl, qz41_0, qz41_1, (FC.tr FC.rf qz41_2)⟩
  by_cases c42 : (A 0 p1.toNatClampNeg) = 115
  · refine j_tableIn h (x := A 0 p1.toNatClampNeg) (tgt := 200) dX7_carryOut_29 (by rw [c42]; decide) (by rw [c42]; decide) (by rw [c42]; rfl) (by decide) ?_
    refine j_aload_n h dX7_carryOut_200 rfl 2 rfl ?_
    refine j_iload_n h dX7_carryOut_201 rfl 1 rfl ?_
    refine j_callI h (n := 1) (c_X7_setSun l D cy L _ _ _ _ _ _ hG hK) (xg_V (xr_26 14 rfl) (xr_26 15 rfl) (xr_26 16 rfl) (xr_1 2 rfl) (xr_26 17 rfl)) rfl rfl (by decide +kernel) ⟨Nat.le_of_ble_eq_true rfl, Nat.le_of_ble_eq_true rfl⟩ (330 + 0) (ml_get 0) rfl rfl rfl rfl (Nat.le_of_ble_eq_true rfl) dX7_carryOut_202 ⟨by decide, by decide⟩ (fun r u' hq => ?_)
    obtain ⟨z43, hz43, rfl, rfl, qz43_0, qz43_1, qz43_2⟩ := hq
    exact hR _ _ _ _ dX7_carryOut_205 ⟨(_, _), Eq.symm ((bd_eq hz1 (bd_eq hz2 (ite_n c3 (ite_n c10 (ite_n c12 (ite_n c14 (ite_n c16 (ite_n c18 (ite_n c20 (ite_n c22 (ite_n c24 (ite_n c26 (ite_n c28 (ite_n c30 (ite_n c32 (ite_n c34 (ite_n c36 (ite_n c38 (ite_n c40 (ite_p c42 (bd_eq hz43 rfl)))))))))))))))))))))), rfl, rfl, qz43_0, qz43_1, (FC.tr FC.rf qz43_2)⟩
  by_cases c44 : (A 0 p1.toNatClampNeg) = 116
  · refine j_tableIn h (x := A 0 p1.toNatClampNeg) (tgt := 206) dX7_carryOut_29 (by rw [c44]; decide) (by rw [c44]; decide) (by rw [c44]; rfl) (by decide) ?_
    refine j_aload_n h dX7_carryOut_206 rfl 2 rfl ?_
    refine j_iload_n h dX7_carryOut_207 rfl 1 rfl ?_
    refine j_callI h (n := 1) (c_X7_giveTea l D cy L _ _ _ _ _ _ hG hK) (xg_V (xr_26 18 rfl) (xr_26 19 rfl) (xr_26 20 rfl) (xr_1 2 rfl) (xr_26 21 rfl)) rfl rfl (by decide +kernel) ⟨Nat.le_of_ble_eq_true rfl, Nat.le_of_ble_eq_true rfl⟩ (330 + 0) (ml_get 0) rfl rfl rfl rfl (Nat.le_of_ble_eq_true rfl) dX7_carryOut_208 ⟨by decide, by decide⟩ (fun r u' hq => ?_)
    obtain ⟨z45, hz45, rfl, rfl, qz45_0, qz45_1, qz45_2⟩ := hq
    exact hR _ _ _ _ dX7_carryOut_211 ⟨(_, _), Eq.symm ((bd_eq hz1 (bd_eq hz2 (ite_n c3 (ite_n c10 (ite_n c12 (ite_n c14 (ite_n c16 (ite_n c18 (ite_n c20 (ite_n c22 (ite_n c24 (ite_n c26 (ite_n c28 (ite_n c30 (ite_n c32 (ite_n c34 (ite_n c36 (ite_n c38 (ite_n c40 (ite_n c42 (ite_p c44 (bd_eq hz45 rfl))))))))))))))))))))))), rfl, rfl, qz45_0, qz45_1, (FC.tr FC.rf qz45_2)⟩
  by_cases c46 : (A 0 p1.toNatClampNeg) = 117
  · refine j_tableIn h (x := A 0 p1.toNatClampNeg) (tgt := 212) dX7_carryOut_29 (by rw [c46]; decide) (by rw [c46]; decide) (by rw [c46]; rfl) (by decide) ?_
    refine j_aload_n h dX7_carryOut_212 rfl 2 rfl ?_
    refine j_iload_n h dX7_carryOut_213 rfl 1 rfl ?_
    refine j_callI h (n := 1) (c_X7_passHours l D cy L _ _ _ _ _ _ hG hK) (xg_V (xr_8 23 rfl) (xr_9 0 rfl) (xr_9 1 rfl) (xr_1 2 rfl) (xr_9 2 rfl)) rfl rfl (by decide +kernel) ⟨Nat.le_of_ble_eq_true rfl, Nat.le_of_ble_eq_true rfl⟩ (330 + 0) (ml_get 0) rfl rfl rfl rfl (Nat.le_of_ble_eq_true rfl) dX7_carryOut_214 ⟨by decide, by decide⟩ (fun r u' hq => ?_)
    obtain ⟨z47, hz47, rfl, rfl, qz47_0, qz47_1, qz47_2⟩ := hq
    exact hR _ _ _ _ dX7_carryOut_217 ⟨(_, _), Eq.symm ((bd_eq hz1 (bd_eq hz2 (ite_n c3 (ite_n c10 (ite_n c12 (ite_n c14 (ite_n c16 (ite_n c18 (ite_n c20 (ite_n c22 (ite_n c24 (ite_n c26 (ite_n c28 (ite_n c30 (ite_n c32 (ite_n c34 (ite_n c36 (ite_n c38 (ite_n c40 (ite_n c42 (ite_n c44 (ite_p c46 (bd_eq hz47 rfl)))))))))))))))))))))))), rfl, rfl, qz47_0, qz47_1, (FC.tr FC.rf qz47_2)⟩
  by_cases c48 : (A 0 p1.toNatClampNeg) = 118
  · refine j_tableIn h (x := A 0 p1.toNatClampNeg) (tgt := 212) dX7_carryOut_29 (by rw [c48]; decide) (by rw [c48]; decide) (by rw [c48]; rfl) (by decide) ?_
    refine j_aload_n h dX7_carryOut_212 rfl 2 rfl ?_
    refine j_iload_n h dX7_carryOut_213 rfl 1 rfl ?_
    refine j_callI h (n := 1) (c_X7_passHours l D cy L _ _ _ _ _ _ hG hK) (xg_V (xr_8 23 rfl) (xr_9 0 rfl) (xr_9 1 rfl) (xr_1 2 rfl) (xr_9 2 rfl)) rfl rfl (by decide +kernel) ⟨Nat.le_of_ble_eq_true rfl, Nat.le_of_ble_eq_true rfl⟩ (330 + 0) (ml_get 0) rfl rfl rfl rfl (Nat.le_of_ble_eq_true rfl) dX7_carryOut_214 ⟨by decide, by decide⟩ (fun r u' hq => ?_)
    obtain ⟨z49, hz49, rfl, rfl, qz49_0, qz49_1, qz49_2⟩ := hq
    exact hR _ _ _ _ dX7_carryOut_217 ⟨(_, _), Eq.symm ((bd_eq hz1 (bd_eq hz2 (ite_n c3 (ite_n c10 (ite_n c12 (ite_n c14 (ite_n c16 (ite_n c18 (ite_n c20 (ite_n c22 (ite_n c24 (ite_n c26 (ite_n c28 (ite_n c30 (ite_n c32 (ite_n c34 (ite_n c36 (ite_n c38 (ite_n c40 (ite_n c42 (ite_n c44 (ite_n c46 (ite_p c48 (bd_eq hz49 rfl))))))))))))))))))))))))), rfl, rfl, qz49_0, qz49_1, (FC.tr FC.rf qz49_2)⟩
  by_cases c50 : (A 0 p1.toNatClampNeg) = 119
  · refine j_tableIn h (x := A 0 p1.toNatClampNeg) (tgt := 188) dX7_carryOut_29 (by rw [c50]; decide) (by rw [c50]; decide) (by rw [c50]; rfl) (by decide) ?_
    refine j_aload_n h dX7_carryOut_188 rfl 2 rfl ?_
    refine j_iload_n h dX7_carryOut_189 rfl 1 rfl ?_
    refine j_callI h (n := 1) (c_X7_sweepRink l D cy L _ _ _ _ _ _ hG hK) (xg_V (xr_25 22 rfl) (xr_25 23 rfl) (xr_26 0 rfl) (xr_1 2 rfl) (xr_26 1 rfl)) rfl rfl (by decide +kernel) ⟨Nat.le_of_ble_eq_true rfl, Nat.le_of_ble_eq_true rfl⟩ (330 + 0) (ml_get 0) rfl rfl rfl rfl (Nat.le_of_ble_eq_true rfl) dX7_carryOut_190 ⟨by decide, by decide⟩ (fun r u' hq => ?_)
    obtain ⟨z51, hz51, rfl, rfl, qz51_0, qz51_1, qz51_2⟩ := hq
    exact hR _ _ _ _ dX7_carryOut_193 ⟨(_, _), Eq.symm ((bd_eq hz1 (bd_eq hz2 (ite_n c3 (ite_n c10 (ite_n c12 (ite_n c14 (ite_n c16 (ite_n c18 (ite_n c20 (ite_n c22 (ite_n c24 (ite_n c26 (ite_n c28 (ite_n c30 (ite_n c32 (ite_n c34 (ite_n c36 (ite_n c38 (ite_n c40 (ite_n c42 (ite_n c44 (ite_n c46 (ite_n c48 (ite_p c50 (bd_eq hz51 rfl)))))))))))))))))))))))))), rfl, rfl, qz51_0, qz51_1, (FC.tr FC.rf qz51_2)⟩
  refine j_tableOut h (tgt := 212) dX7_carryOut_29 (sw_out98_22 (A 0 p1.toNatClampNeg) c3 c10 c12 c14 c16 c18 c20 c22 c24 c26 c28 c30 c32 c34 c36 c38 c40 c42 c44 c46 c48 c50) (by decide) ?_
  refine j_aload_n h dX7_carryOut_212 rfl 2 rfl ?_
  refine j_iload_n h dX7_carryOut_213 rfl 1 rfl ?_
  refine j_callI h (n := 1) (c_X7_passHours l D cy L _ _ _ _ _ _ hG hK) (xg_V (xr_8 23 rfl) (xr_9 0 rfl) (xr_9 1 rfl) (xr_1 2 rfl) (xr_9 2 rfl)) rfl rfl (by decide +kernel) ⟨Nat.le_of_ble_eq_true rfl, Nat.le_of_ble_eq_true rfl⟩ (330 + 0) (ml_get 0) rfl rfl rfl rfl (Nat.le_of_ble_eq_true rfl) dX7_carryOut_214 ⟨by decide, by decide⟩ (fun r u' hq => ?_)
  obtain ⟨z52, hz52, rfl, rfl, qz52_0, qz52_1, qz52_2⟩ := hq
  exact hR _ _ _ _ dX7_carryOut_217 ⟨(_, _), Eq.symm ((bd_eq hz1 (bd_eq hz2 (ite_n c3 (ite_n c10 (ite_n c12 (ite_n c14 (ite_n c16 (ite_n c18 (ite_n c20 (ite_n c22 (ite_n c24 (ite_n c26 (ite_n c28 (ite_n c30 (ite_n c32 (ite_n c34 (ite_n c36 (ite_n c38 (ite_n c40 (ite_n c42 (ite_n c44 (ite_n c46 (ite_n c48 (ite_n c50 (bd_eq hz52 rfl)))))))))))))))))))))))))), rfl, rfl, qz52_0, qz52_1, (FC.tr FC.rf qz52_2)⟩

theorem fa_carryOut {M : gM} {X : Nat → Int32} {A : Nat → Nat → Int32} {p : Int32} : FA A (f_X7_carryOut M X A p).2.2.2 := by
  unfold f_X7_carryOut
  dsimp only [bd]
  repeat' (with_reducible apply FA.if)
  all_goals (with_reducible first | exact fa_beginEnd | exact fa_bowlWood | exact fa_closeEnd | exact fa_sweepRink | exact fa_setRain | exact fa_setSun | exact fa_giveTea | exact fa_passHours)
theorem FC.k {X X0 : Nat → Int32} {k N : Nat} (h : FC X0 X) (hk : k ≠ 6) (hv : vp_in (X0 k) N) : vp_in (X k) N := (h k hk).symm ▸ hv
theorem GI_pb {G : Nat → gM} {M z : gM} {X X0 : Nat → Int32} {A : Nat → Nat → Int32} (h : GI M) (hG : GI (G (2 + (X0 2).toNatClampNeg))) (hF : FC X0 X) (hz : z = f_X3_putBack G M X A) : GI z := by
  unfold f_X3_putBack at hz
  dsimp only [bd] at hz
  refine GI_bc (N := G (2 + (X 2).toNatClampNeg)) h ?_ hz
  rw [hF 2 (by decide)]; exact hG
def f_X7_carryOutOrders_l2 (G : Nat → gM) : Nat → Nat → gM → (Nat → Int32) → (Nat → Nat → Int32) → Int32 × gM × (Nat → Int32) × (Nat → Nat → Int32)
  | 0, _, Mk, Xk, Ak => (0, (Mk, Xk, Ak))
  | n + 1, k, Mk, Xk, Ak =>
    if (Xk 4) ≤ (nI k) then
      (Xk 4, (Mk, Xk, Ak))
    else
      bd (f_X7_carryOut Mk Xk Ak (nI k)) fun z2 =>
      bd (f_X7_isCode z2.2.1 z2.2.2.1 z2.2.2.2 z2.1) fun z3 =>
      if z3 = 0 then
        f_X7_carryOutOrders_l2 G n (k + 1) z2.2.1 z2.2.2.1 z2.2.2.2
      else
        bd (f_X3_putBack G z2.2.1 z2.2.2.1 z2.2.2.2) fun z5 =>
        bd (f_X7_refuseScript z5 z2.2.2.1 z2.2.2.2 (nI k) z2.1) fun z6 =>
        (z6.1, (z5, z6.2.1, z6.2.2))
def f_X7_carryOutOrders (G : Nat → gM) (M : gM) (X : Nat → Int32) (A : Nat → Nat → Int32) : Int32 × gM × (Nat → Int32) × (Nat → Nat → Int32) :=
  f_X7_carryOutOrders_l2 G 31 0 M X A
abbrev rm_X7_carryOutOrders : Room := { frames := 5, cells := 0, slots := 0, locals := 128 }
set_option maxRecDepth 100000 in
set_option maxHeartbeats 4000000 in
theorem c_X7_carryOutOrders (l : Launch) (D : gD) (cy : Nat → ClassId) (L : Nat → Nat → Nat) (G : Nat → gM) (X : Nat → Int32) (A : Nat → Nat → Int32) (b : cB) (M : gM) (hG : GI M) (hK : vp_in (X 6) 4) (hF : vp_in (X 2) 9) (hO : vp_in (X 4) 31) (hGf : GI (G (2 + (X 2).toNatClampNeg))) : CtI l D cy (CW cy L) yX7_carryOutOrders cX7_carryOutOrders 3 (some .int) rm_X7_carryOutOrders [.ref (L 11 0)] ((va_up G 0 M, X, A), b) (fun rv u => ∃ z : Int32 × (gM × (Nat → Int32) × (Nat → Nat → Int32)), z = f_X7_carryOutOrders G M X A ∧ rv = z.1 ∧ u = ((va_up G 0 z.2.1, z.2.2.1, z.2.2.2), b) ∧ GI z.2.1 ∧ vp_in (z.2.2.1 6) 4 ∧ FC X z.2.2.1) 0 0 := by
  refine m_entI cX7_carryOutOrders 3 (by decide) (Nat.le_of_ble_eq_true rfl) (fun J h hR => ?_)
  show J ((va_up G 0 M, X, A), b) (0, 0) [(0, .ref (L 11 0))] 0 []
  refine j_iconst h (v := 0) dX7_carryOutOrders_0 (by decide) ?_
  refine j_istore_n h (lv' := [(1, _), (0, _)]) dX7_carryOutOrders_1 rfl (by decide) rfl ?_
  have lp2 : ∀ (n k : Nat) (Mk : gM) (Xk : Nat → Int32) (Ak : Nat → Nat → Int32), n + k = 31 → k ≤ 30 → GI Mk → vp_in (Xk 6) 4 → FC X Xk → f_X7_carryOutOrders G M X A = f_X7_carryOutOrders_l2 G n k Mk Xk Ak → J ((va_up G 0 Mk, Xk, Ak), b) (0, 0) [(0, .ref (L 11 0)), (1, .int (nI k))] 2 [] := by
    intro n
    induction n with
    | zero => intro k Mk Xk Ak hn hk hGk hKk hFk hf; omega
    | succ n ih =>
      intro k Mk Xk Ak hn hk hGk hKk hFk hf
      refine j_iload_n h dX7_carryOutOrders_2 rfl 1 rfl ?_
      refine j_aload_n h dX7_carryOutOrders_3 rfl 0 rfl ?_
      refine j_get h inlX7 (330 + 0) (ml_get 0) rfl 5 (by decide) (xr_2 9 rfl) rfl (v := .ref (L 11 3)) rfl dX7_carryOutOrders_4 ?_
      refine j_get h inlX2 (330 + 3) (ml_get 3) rfl 2 (by decide) (xr_20 12 rfl) rfl (v := .int (Xk 4)) rfl dX7_carryOutOrders_7 ?_
      refine j_icmp_ge h (tgt := 50) dX7_carryOutOrders_10 (by decide) (fun c1 => ?_) (fun c1 => ?_)
      · refine j_aload_n h dX7_carryOutOrders_50 rfl 0 rfl ?_
        refine j_get h inlX7 (330 + 0) (ml_get 0) rfl 5 (by decide) (xr_2 9 rfl) rfl (v := .ref (L 11 3)) rfl dX7_carryOutOrders_51 ?_
        refine j_get h inlX2 (330 + 3) (ml_get 3) rfl 2 (by decide) (xr_20 12 rfl) rfl (v := .int (Xk 4)) rfl dX7_carryOutOrders_54 ?_
        exact hR _ _ _ _ dX7_carryOutOrders_57 ⟨(_, _), Eq.symm (hf.trans ((ite_p c1 rfl))), rfl, rfl, hGk, hKk, hFk⟩
      · have hk1 : k < 30 := cnt_lt (N := 30) (by decide) hk (le_of_vp (N := 30) (by decide) (FC.k hFk (by decide) hO)) c1
        refine j_aload_n h dX7_carryOutOrders_13 rfl 0 rfl ?_
        refine j_iload_n h dX7_carryOutOrders_14 rfl 1 rfl ?_
        refine j_callI h (n := 1) (c_X7_carryOut l D cy L _ _ _ _ _ _ (vp_in_nI (by omega) (by decide)) hGk hKk) (xg_V (xr_20 13 rfl) (xr_20 14 rfl) (xr_20 15 rfl) (xr_1 2 rfl) (xr_20 16 rfl)) rfl rfl (by decide +kernel) ⟨Nat.le_of_ble_eq_true rfl, Nat.le_of_ble_eq_true rfl⟩ (330 + 0) (ml_get 0) rfl rfl rfl rfl (Nat.le_of_ble_eq_true rfl) dX7_carryOutOrders_15 ⟨by decide, by decide⟩ (fun r u' hq => ?_)
        obtain ⟨z2, hz2, rfl, rfl, qz2_0, qz2_1, qz2_2⟩ := hq
        refine j_istore_n h (lv' := [(2, _), (0, _), (1, _)]) dX7_carryOutOrders_18 rfl (by decide) rfl ?_
        refine j_iload_n h dX7_carryOutOrders_19 rfl 0 rfl ?_
        refine j_callS h (n := 1) (c_X7_isCode l D cy L _ _ _ _ _ _) (xg_S (xr_10 10 rfl) (xr_10 11 rfl) (xr_1 2 rfl) (xr_10 12 rfl)) rfl rfl (by decide +kernel) ⟨Nat.le_of_ble_eq_true rfl, Nat.le_of_ble_eq_true rfl⟩  rfl rfl (Nat.le_of_ble_eq_true rfl) dX7_carryOutOrders_20 ⟨by decide, by decide⟩ (fun z3 u' hq => ?_)
        obtain ⟨hz3, rfl, bz3⟩ := hq
        refine j_if_eq h (tgt := 44) dX7_carryOutOrders_23 (by decide) (fun c4 => ?_) (fun c4 => ?_)
        · refine j_iinc h (v := nI (k + 1)) (lv' := [(1, _), (2, _), (0, _)]) dX7_carryOutOrders_44 (k := 2) rfl (nI_1 k) (by decide) rfl ?_
          refine j_goto h (tgt := 2) dX7_carryOutOrders_47 (by decide) ?_
          refine j_sub h [2, 0] rfl ?_
          exact ih (k + 1) _ _ _ (by omega) (by omega) qz2_0 qz2_1 (FC.tr hFk qz2_2) (hf.trans ((ite_n c1 (bd_eq hz2 (bd_eq hz3 (ite_p c4 rfl))))))
        · refine j_aload_n h dX7_carryOutOrders_26 rfl 1 rfl ?_
          refine j_get h inlX7 (330 + 0) (ml_get 0) rfl 3 (by decide) (xr_2 1 rfl) rfl (v := .ref (L 11 1)) rfl dX7_carryOutOrders_27 ?_
          refine j_aload_n h dX7_carryOutOrders_30 rfl 1 rfl ?_
          refine j_get h inlX7 (330 + 0) (ml_get 0) rfl 0 (by decide) (xr_1 19 rfl) rfl (v := .ref (L 0 0)) rfl dX7_carryOutOrders_31 ?_
          refine j_callV h (n := 1) (c_X3_putBack l D cy L _ _ _ _ _ (FC.k (FC.tr hFk qz2_2) (by decide) hF) (by rw [(FC.tr hFk qz2_2) 2 (by decide)]; exact hGf)) (xg_V (xr_27 3 rfl) (xr_27 4 rfl) (xr_27 5 rfl) (xr_2 0 rfl) (xr_27 6 rfl)) rfl rfl (by decide +kernel) ⟨Nat.le_of_ble_eq_true rfl, Nat.le_of_ble_eq_true rfl⟩ (330 + 1) (ml_get 1) rfl rfl rfl rfl (Nat.le_of_ble_eq_true rfl) dX7_carryOutOrders_34 ⟨by decide, by decide⟩ (fun u' hq => ?_)
          obtain ⟨z5, hz5, rfl⟩ := hq
          have hGz5 : GI z5 := GI_pb qz2_0 hGf (FC.tr hFk qz2_2) hz5
          refine j_aload_n h dX7_carryOutOrders_37 rfl 1 rfl ?_
          refine j_iload_n h dX7_carryOutOrders_38 rfl 2 rfl ?_
          refine j_iload_n h dX7_carryOutOrders_39 rfl 0 rfl ?_
          refine j_callI h (n := 2) (c_X7_refuseScript l D cy L _ _ _ _ _ _ _ qz2_1) (xg_V (xr_27 7 rfl) (xr_27 8 rfl) (xr_27 9 rfl) (xr_1 2 rfl) (xr_27 10 rfl)) rfl rfl (by decide +kernel) ⟨Nat.le_of_ble_eq_true rfl, Nat.le_of_ble_eq_true rfl⟩ (330 + 0) (ml_get 0) rfl rfl rfl rfl (Nat.le_of_ble_eq_true rfl) dX7_carryOutOrders_40 ⟨by decide, by decide⟩ (fun r u' hq => ?_)
          obtain ⟨z6, hz6, rfl, rfl, qz6_0, qz6_1⟩ := hq
          exact hR _ _ _ _ dX7_carryOutOrders_43 ⟨(_, _), Eq.symm (hf.trans ((ite_n c1 (bd_eq hz2 (bd_eq hz3 (ite_n c4 (bd_eq hz5 (bd_eq hz6 rfl)))))))), rfl, rfl, hGz5, qz6_0, (FC.tr (FC.tr hFk qz2_2) qz6_1)⟩
  refine j_sub h [1, 0] rfl ?_
  exact lp2 31 0 _ _ _ (by omega) (by omega) hG hK FC.rf (rfl)

theorem GI_nt {G z : Nat → gM} {M : gM} {X : Nat → Int32} {A : Nat → Nat → Int32} (hM : GI M) (hG : GI (G (2 + (X 2).toNatClampNeg))) (hz : z = f_X3_note G M X A) : GI (z (2 + (X 2).toNatClampNeg)) := by
  have e : z (2 + (X 2).toNatClampNeg) = f_X1_become (G (2 + (X 2).toNatClampNeg)) M := by
    rw [hz]; exact va_up_self _ _ _
  exact GI_bc hG hM e
theorem FO.k {X X0 : Nat → Int32} {k N : Nat} (h : FO X0 X) (h4 : k ≠ 4) (h5 : k ≠ 5) (hv : vp_in (X0 k) N) : vp_in (X k) N := (h k h4 h5).symm ▸ hv
theorem IN.of {X X1 : Nat → Int32} {A A1 : Nat → Nat → Int32} {b : cB} (h : IN X A b) (h7 : X1 7 = X 7) (h4 : A1 4 = A 4) : IN X1 A1 b := ⟨by rw [h7]; exact h.1, by rw [h7, h4]; exact h.2⟩
theorem RD.in {X : Nat → Int32} {A : Nat → Nat → Int32} {b : cB} (h : RD X A b) : IN X A b := ⟨h.1, h.2.1⟩
theorem kf_7 {M : gM} {X z : Nat → Int32} {A : Nat → Nat → Int32} {v : Int32 × (Nat → Int32)} (hz : v = f_X7_keepFault M X A) : v.2 7 = X 7 := by
  rw [hz]; exact upd_ne X (k := 1) (a := 7) (X 5) (by decide)
theorem fa_carryOutOrders_l {G : Nat → gM} : ∀ n k M X A, FA A (f_X7_carryOutOrders_l2 G n k M X A).2.2.2 := by
  intro n
  induction n with
  | zero => intro k M X A; exact FA.rf
  | succ n ih =>
    intro k M X A
    unfold f_X7_carryOutOrders_l2
    dsimp only [bd]
    split
    · exact FA.rf
    · split
      · exact FA.tr fa_carryOut (ih _ _ _ _)
      · exact FA.tr fa_carryOut fa_refuseScript
theorem fa_carryOutOrders {G : Nat → gM} {M : gM} {X : Nat → Int32} {A : Nat → Nat → Int32} {z : Int32 × gM × (Nat → Int32) × (Nat → Nat → Int32)} (hz : z = f_X7_carryOutOrders G M X A) : FA A z.2.2.2 := by
  rw [hz]; exact fa_carryOutOrders_l _ _ _ _ _
def f_X7_script (G : Nat → gM) (M : gM) (X : Nat → Int32) (A : Nat → Nat → Int32) (f1 : Nat → Int32) : Int32 × (Nat → gM) × gM × (Nat → Int32) × (Nat → Nat → Int32) :=
  bd (f_X3_note G M X A) fun z1 =>
  bd (f_X2_read M X A) fun z2 =>
  if z2.1 = 0 then
    bd (f_X7_keepFault M z2.2.1 z2.2.2) fun z4 =>
    bd (f_X7_settle M (upd (upd z4.2 9 (if (z4.2 7).toNatClampNeg ≤ 0 then z4.2 9 else 1)) 7 (nI 0)) (fun k => if k = 4 then f1 else z2.2.2 k) z4.1) fun z5 =>
    (z5.1, (z1, M, z5.2, (fun k => if k = 4 then f1 else z2.2.2 k)))
  else
    bd (f_X7_carryOutOrders z1 M z2.2.1 z2.2.2) fun z6 =>
    bd (f_X7_settle z6.2.1 (upd (upd z6.2.2.1 9 (if (z6.2.2.1 7).toNatClampNeg ≤ 0 then z6.2.2.1 9 else 1)) 7 (nI 0)) (fun k => if k = 4 then f1 else z6.2.2.2 k) z6.1) fun z7 =>
    (z7.1, (z1, z6.2.1, z7.2, (fun k => if k = 4 then f1 else z6.2.2.2 k)))
abbrev rm_X7_script : Room := { frames := 10, cells := 0, slots := 0, locals := 350 }
set_option maxRecDepth 100000 in
set_option maxHeartbeats 4000000 in
theorem c_X7_script (l : Launch) (D : gD) (cy : Nat → ClassId) (L : Nat → Nat → Nat) (G : Nat → gM) (X : Nat → Int32) (A : Nat → Nat → Int32) (b : cB) (M : gM) (hG : GI M) (hK : vp_in (X 6) 4) (hF : vp_in (X 2) 9) (hGf : GI (G (2 + (X 2).toNatClampNeg))) (hI0 : IN X A b) : CtI l D cy (CW cy L) yX7_script cX7_script 2 (some .int) rm_X7_script [.ref (L 11 0)] ((va_up G 0 M, X, A), b) (fun rv u => ∃ (a1 : Nat) (f1 : Nat → Int32) (z : Int32 × ((Nat → gM) × gM × (Nat → Int32) × (Nat → Nat → Int32))), z = f_X7_script G M X A f1 ∧ rv = z.1 ∧ u = ((va_up z.2.1 0 z.2.2.1, z.2.2.2.1, z.2.2.2.2), (a1, b.2.1, b.2.2)) ∧ sb_Fit f1 ∧ GI z.2.2.1) 0 0 := by
  refine m_entI cX7_script 2 (by decide) (Nat.le_of_ble_eq_true rfl) (fun J h hR => ?_)
  show J ((va_up G 0 M, X, A), b) (0, 0) [(0, .ref (L 11 0))] 0 []
  refine j_aload_n h dX7_script_0 rfl 0 rfl ?_
  refine j_get h inlX7 (330 + 0) (ml_get 0) rfl 3 (by decide) (xr_2 1 rfl) rfl (v := .ref (L 11 1)) rfl dX7_script_1 ?_
  refine j_aload_n h dX7_script_4 rfl 0 rfl ?_
  refine j_get h inlX7 (330 + 0) (ml_get 0) rfl 0 (by decide) (xr_1 19 rfl) rfl (v := .ref (L 0 0)) rfl dX7_script_5 ?_
  refine j_callV h (n := 1) (c_X3_note l D cy L _ _ _ _ _ hF hG) (xg_V (xr_8 19 rfl) (xr_8 20 rfl) (xr_8 21 rfl) (xr_2 0 rfl) (xr_8 22 rfl)) rfl rfl (by decide +kernel) ⟨Nat.le_of_ble_eq_true rfl, Nat.le_of_ble_eq_true rfl⟩ (330 + 1) (ml_get 1) rfl rfl rfl rfl (Nat.le_of_ble_eq_true rfl) dX7_script_8 ⟨by decide, by decide⟩ (fun u' hq => ?_)
  obtain ⟨z1, hz1, rfl⟩ := hq
  refine j_aload_n h dX7_script_11 rfl 0 rfl ?_
  refine j_get h inlX7 (330 + 0) (ml_get 0) rfl 5 (by decide) (xr_2 9 rfl) rfl (v := .ref (L 11 3)) rfl dX7_script_12 ?_
  refine j_aload_n h dX7_script_15 rfl 0 rfl ?_
  refine j_get h inlX7 (330 + 0) (ml_get 0) rfl 4 (by decide) (xr_2 5 rfl) rfl (v := .ref (L 11 9)) rfl dX7_script_16 ?_
  refine j_callI h (n := 1) (c_X2_read l D cy L _ _ _ _ _ hI0) (xg_V (xr_17 0 rfl) (xr_17 1 rfl) (xr_17 2 rfl) (xr_2 8 rfl) (xr_17 3 rfl)) rfl rfl (by decide +kernel) ⟨Nat.le_of_ble_eq_true rfl, Nat.le_of_ble_eq_true rfl⟩ (330 + 3) (ml_get 3) rfl rfl rfl rfl (Nat.le_of_ble_eq_true rfl) dX7_script_19 ⟨by decide, by decide⟩ (fun r u' hq => ?_)
  obtain ⟨z2, hz2, rfl, rfl, bz2, qz2_0, qz2_1, qz2_2⟩ := hq
  refine j_if_eq h (tgt := 32) dX7_script_22 (by decide) (fun c3 => ?_) (fun c3 => ?_)
  · refine j_aload_n h dX7_script_32 rfl 0 rfl ?_
    refine j_callI h (n := 0) (c_X7_keepFault l D cy L _ _ _ _ _) (xg_V (xr_27 11 rfl) (xr_27 12 rfl) (xr_27 13 rfl) (xr_1 2 rfl) (xr_27 14 rfl)) rfl rfl (by decide +kernel) ⟨Nat.le_of_ble_eq_true rfl, Nat.le_of_ble_eq_true rfl⟩ (330 + 0) (ml_get 0) rfl rfl rfl rfl (Nat.le_of_ble_eq_true rfl) dX7_script_33 ⟨by decide, by decide⟩ (fun r u' hq => ?_)
    obtain ⟨z4, hz4, rfl, rfl⟩ := hq
    refine j_istore_n h (lv' := [(1, _), (0, _)]) dX7_script_36 rfl (by decide) rfl ?_
    refine j_aload_n h dX7_script_37 rfl 1 rfl ?_
    refine j_get h inlX7 (330 + 0) (ml_get 0) rfl 4 (by decide) (xr_2 5 rfl) rfl (v := .ref (L 11 9)) rfl dX7_script_38 ?_
    refine j_iconst h (v := 0) dX7_script_41 (by decide) ?_
    have hIN : IN z4.2 z2.2.2 b := (IN.of qz2_0.in (kf_7 (z := fun _ => 0) hz4) rfl)
    refine j_world h (u' := putI (va_up z1 0 M) z4.2 z2.2.2 b (z4.2 9, nI (z4.2 7).toNatClampNeg, b.1, b.2.1, z2.2.2 4)) (lensI_eq hIN.1) ?_
    refine j_callV h (n := 1) (c_J4_setLength_d00df l D cy (lensI (va_up z1 0 M) z4.2 z2.2.2 b) (z4.2 9) b.1 (k := 0) (Nat.zero_le _) hIN.2.1 hIN.2.2.1 hIN.2.2.2.1) (xg_V (xr_27 16 rfl) (xr_27 17 rfl) (xr_27 18 rfl) (xr_2 4 rfl) (xr_27 19 rfl)) rfl rfl (by decide +kernel) ⟨Nat.le_of_ble_eq_true rfl, Nat.le_of_ble_eq_true rfl⟩ (330 + 9) ((lensI (va_up z1 0 M) z4.2 z2.2.2 b).2.1 _) rfl rfl rfl rfl (Nat.le_of_ble_eq_true rfl) dX7_script_42 ⟨by decide, by decide⟩ (fun u' hq => ?_)
    obtain ⟨a1, f1, rfl, -, hf1⟩ := hq
    refine j_world h (u' := ((va_up z1 0 M, upd (upd z4.2 9 (if (z4.2 7).toNatClampNeg ≤ 0 then z4.2 9 else 1)) 7 (nI 0), (fun k => if k = 4 then f1 else z2.2.2 k)), (a1, b.2.1, b.2.2))) rfl ?_
    refine j_aload_n h dX7_script_45 rfl 1 rfl ?_
    refine j_iload_n h dX7_script_46 rfl 0 rfl ?_
    refine j_callI h (n := 1) (c_X7_settle l D cy L _ _ _ _ _ _) (xg_V (xr_10 6 rfl) (xr_10 7 rfl) (xr_10 8 rfl) (xr_1 2 rfl) (xr_10 9 rfl)) rfl rfl (by decide +kernel) ⟨Nat.le_of_ble_eq_true rfl, Nat.le_of_ble_eq_true rfl⟩ (330 + 0) (ml_get 0) rfl rfl rfl rfl (Nat.le_of_ble_eq_true rfl) dX7_script_47 ⟨by decide, by decide⟩ (fun r u' hq => ?_)
    obtain ⟨z5, hz5, rfl, rfl⟩ := hq
    exact hR _ _ _ _ dX7_script_50 ⟨a1, f1, (_, _), Eq.symm ((bd_eq hz1 (bd_eq hz2 (ite_p c3 (bd_eq hz4 (bd_eq hz5 rfl)))))), rfl, rfl, hf1, hG⟩
  · refine j_aload_n h dX7_script_25 rfl 0 rfl ?_
    refine j_callI h (n := 0) (c_X7_carryOutOrders l D cy L _ _ _ _ _ hG (FO.k qz2_2 (by decide) (by decide) hK) (FO.k qz2_2 (by decide) (by decide) hF) qz2_1 (by rw [qz2_2 2 (by decide) (by decide)]; exact (GI_nt hG hGf hz1))) (xg_V (xr_20 8 rfl) (xr_20 9 rfl) (xr_20 10 rfl) (xr_1 2 rfl) (xr_20 11 rfl)) rfl rfl (by decide +kernel) ⟨Nat.le_of_ble_eq_true rfl, Nat.le_of_ble_eq_true rfl⟩ (330 + 0) (ml_get 0) rfl rfl rfl rfl (Nat.le_of_ble_eq_true rfl) dX7_script_26 ⟨by decide, by decide⟩ (fun r u' hq => ?_)
    obtain ⟨z6, hz6, rfl, rfl, qz6_0, qz6_1, qz6_2⟩ := hq
    refine j_goto h (tgt := 36) dX7_script_29 (by decide) ?_
    refine j_istore_n h (lv' := [(1, _), (0, _)]) dX7_script_36 rfl (by decide) rfl ?_
    refine j_aload_n h dX7_script_37 rfl 1 rfl ?_
    refine j_get h inlX7 (330 + 0) (ml_get 0) rfl 4 (by decide) (xr_2 5 rfl) rfl (v := .ref (L 11 9)) rfl dX7_script_38 ?_
    refine j_iconst h (v := 0) dX7_script_41 (by decide) ?_
    have hIN : IN z6.2.2.1 z6.2.2.2 b := (IN.of qz2_0.in (qz6_2 7 (by decide)) (fa_carryOutOrders hz6 4 (by decide) (by decide)))
    refine j_world h (u' := putI (va_up z1 0 z6.2.1) z6.2.2.1 z6.2.2.2 b (z6.2.2.1 9, nI (z6.2.2.1 7).toNatClampNeg, b.1, b.2.1, z6.2.2.2 4)) (lensI_eq hIN.1) ?_
    refine j_callV h (n := 1) (c_J4_setLength_d00df l D cy (lensI (va_up z1 0 z6.2.1) z6.2.2.1 z6.2.2.2 b) (z6.2.2.1 9) b.1 (k := 0) (Nat.zero_le _) hIN.2.1 hIN.2.2.1 hIN.2.2.2.1) (xg_V (xr_27 16 rfl) (xr_27 17 rfl) (xr_27 18 rfl) (xr_2 4 rfl) (xr_27 19 rfl)) rfl rfl (by decide +kernel) ⟨Nat.le_of_ble_eq_true rfl, Nat.le_of_ble_eq_true rfl⟩ (330 + 9) ((lensI (va_up z1 0 z6.2.1) z6.2.2.1 z6.2.2.2 b).2.1 _) rfl rfl rfl rfl (Nat.le_of_ble_eq_true rfl) dX7_script_42 ⟨by decide, by decide⟩ (fun u' hq => ?_)
    obtain ⟨a1, f1, rfl, -, hf1⟩ := hq
    refine j_world h (u' := ((va_up z1 0 z6.2.1, upd (upd z6.2.2.1 9 (if (z6.2.2.1 7).toNatClampNeg ≤ 0 then z6.2.2.1 9 else 1)) 7 (nI 0), (fun k => if k = 4 then f1 else z6.2.2.2 k)), (a1, b.2.1, b.2.2))) rfl ?_
    refine j_aload_n h dX7_script_45 rfl 1 rfl ?_
    refine j_iload_n h dX7_script_46 rfl 0 rfl ?_
    refine j_callI h (n := 1) (c_X7_settle l D cy L _ _ _ _ _ _) (xg_V (xr_10 6 rfl) (xr_10 7 rfl) (xr_10 8 rfl) (xr_1 2 rfl) (xr_10 9 rfl)) rfl rfl (by decide +kernel) ⟨Nat.le_of_ble_eq_true rfl, Nat.le_of_ble_eq_true rfl⟩ (330 + 0) (ml_get 0) rfl rfl rfl rfl (Nat.le_of_ble_eq_true rfl) dX7_script_47 ⟨by decide, by decide⟩ (fun r u' hq => ?_)
    obtain ⟨z7, hz7, rfl, rfl⟩ := hq
    exact hR _ _ _ _ dX7_script_50 ⟨a1, f1, (_, _), Eq.symm ((bd_eq hz1 (bd_eq hz2 (ite_n c3 (bd_eq hz6 (bd_eq hz7 rfl)))))), rfl, rfl, hf1, qz6_0⟩

theorem lk_ne {x c : Int32} {n : Int} (h : ¬ x = c) (hc : c.toInt = n) : ¬ n = x.toInt := fun e => h (Int32.toInt_inj.mp (e.symm.trans hc.symm))
-- what the readings leave of the numbers
theorem fr_readSign {M : gM} {X : Nat → Int32} {A : Nat → Nat → Int32} {p : Int32} {k : Nat} (hk : k ≠ 5) : (f_X2_readSign M X A p).2 k = X k := by
  unfold f_X2_readSign
  dsimp only [bd]
  split
  · rfl
  · split
    · exact upd_ne _ _ hk
    · rfl
theorem fr_readSide {M : gM} {X : Nat → Int32} {A : Nat → Nat → Int32} {p : Int32} {k : Nat} (hk : k ≠ 5) : (f_X2_readSide M X A p).2.1 k = X k := by
  unfold f_X2_readSide
  dsimp only [bd]
  split
  · exact (fr_readSign hk).trans (fr_readSign hk)
  · exact fr_readSign hk
theorem fr_readDigits_l {M : gM} {A : Nat → Nat → Int32} {p q : Int32} {k : Nat} (hk : k ≠ 5) : ∀ n x y X, (f_X2_readDigits_l6 M A p q n x y X).2.2 k = X k := by
  intro n
  induction n with
  | zero => intro x y X; rfl
  | succ n ih =>
    intro x y X
    unfold f_X2_readDigits_l6
    dsimp only [bd]
    split
    · rfl
    · split
      · rfl
      · split
        · rfl
        · exact (ih _ _ _).trans (upd_ne _ _ hk)
theorem fr_readDigits {M : gM} {X : Nat → Int32} {A : Nat → Nat → Int32} {p q : Int32} {k : Nat} (hk : k ≠ 5) : (f_X2_readDigits M X A p q).2.1 k = X k := by
  unfold f_X2_readDigits
  dsimp only [bd]
  split
  · exact fr_readDigits_l hk _ _ _ _
  · exact fr_readDigits_l hk _ _ _ _
def f_X2_readPart (M : gM) (X : Nat → Int32) (A : Nat → Nat → Int32) (p2 : Int32) (p3 : Int32) : Int32 × (Nat → Int32) × (Nat → Nat → Int32) :=
  if p2 = 43 then
    bd (f_X2_readSide M X A p3) fun z2 =>
    (z2.1, (z2.2.1, z2.2.2))
  else
    if p2 = 100 then
      bd (f_X2_readDigits M X A 1 p3) fun z4 =>
      (z4.1, (z4.2.1, z4.2.2))
    else
      if p2 = 110 then
        bd (f_X2_readDigits M X A 2 p3) fun z6 =>
        (z6.1, (z6.2.1, z6.2.2))
      else
        bd (f_X2_readSign M X A p2) fun z7 =>
        (z7.1, (z7.2, A))
abbrev rm_X2_readPart : Room := { frames := 7, cells := 0, slots := 0, locals := 265 }
set_option maxRecDepth 100000 in
set_option maxHeartbeats 4000000 in
theorem c_X2_readPart (l : Launch) (D : gD) (cy : Nat → ClassId) (L : Nat → Nat → Nat) (G : Nat → gM) (X : Nat → Int32) (A : Nat → Nat → Int32) (b : cB) (M : gM) (p2 : Int32) (p3 : Int32) (v3 : vp_in p3 150) (hD0 : RD X A b) : CtI l D cy (CW cy L) yX2_readPart cX2_readPart 4 (some .boolean) rm_X2_readPart [.ref (L 11 3), .ref (L 11 9), .int p2, .int p3] ((va_up G 0 M, X, A), b) (fun rv u => ∃ z : Int32 × ((Nat → Int32) × (Nat → Nat → Int32)), z = f_X2_readPart M X A p2 p3 ∧ rv = z.1 ∧ u = ((va_up G 0 M, z.2.1, z.2.2), b) ∧ (rv = 0 ∨ rv = 1) ∧ RD z.2.1 z.2.2 b) 0 0 := by
  refine m_entZ cX2_readPart 4 (by decide) (Nat.le_of_ble_eq_true rfl) (fun J h hR => ?_)
  show J ((va_up G 0 M, X, A), b) (0, 0) [(0, .ref (L 11 3)), (1, .ref (L 11 9)), (2, .int p2), (3, .int p3)] 0 []
  have b3 : p3.toNatClampNeg < 150 := vp_lt v3
  have e3 : p3 = nI p3.toNatClampNeg := vp_nI v3 (by decide)
  refine j_iload_n h dX2_readPart_0 rfl 2 rfl ?_
  by_cases c1 : p2 = 43
  · refine j_lookup h (off := 51) (tgt := 52) dX2_readPart_1 (by decide) (by rw [c1]; first | done | rfl) (by decide) ?_
    refine j_aload_n h dX2_readPart_52 rfl 0 rfl ?_
    refine j_aload_n h dX2_readPart_53 rfl 1 rfl ?_
    refine j_iload_n h dX2_readPart_54 rfl 3 rfl ?_
    refine j_callI h (n := 2) (c_X2_readSide l D cy L _ _ _ _ _ _ (vp_of (j := p3.toNatClampNeg) e3 (by omega) (by decide)) hD0) (xg_V (xr_19 21 rfl) (xr_19 22 rfl) (xr_19 23 rfl) (xr_2 8 rfl) (xr_20 0 rfl)) rfl rfl (by decide +kernel) ⟨Nat.le_of_ble_eq_true rfl, Nat.le_of_ble_eq_true rfl⟩ (330 + 3) (ml_get 3) rfl rfl rfl rfl (Nat.le_of_ble_eq_true rfl) dX2_readPart_55 ⟨by decide, by decide⟩ (fun r u' hq => ?_)
    obtain ⟨z2, hz2, rfl, rfl, bz2, qz2_0⟩ := hq
    exact hR _ _ _ _ dX2_readPart_58 bz2 ⟨(_, _), Eq.symm ((ite_p c1 (bd_eq hz2 rfl))), rfl, rfl, bz2, qz2_0⟩
  by_cases c3 : p2 = 100
  · refine j_lookup h (off := 35) (tgt := 36) dX2_readPart_1 (by decide) (by rw [c3]; first | done | rfl) (by decide) ?_
    refine j_aload_n h dX2_readPart_36 rfl 0 rfl ?_
    refine j_aload_n h dX2_readPart_37 rfl 1 rfl ?_
    refine j_iconst h (v := 1) dX2_readPart_38 (by decide) ?_
    refine j_iload_n h dX2_readPart_39 rfl 3 rfl ?_
    refine j_callI h (n := 3) (c_X2_readDigits l D cy L _ _ _ _ _ _ _ (vp_of (j := p3.toNatClampNeg) e3 (by omega) (by decide)) (by decide) hD0) (xg_V (xr_19 14 rfl) (xr_19 15 rfl) (xr_19 16 rfl) (xr_2 8 rfl) (xr_19 17 rfl)) rfl rfl (by decide +kernel) ⟨Nat.le_of_ble_eq_true rfl, Nat.le_of_ble_eq_true rfl⟩ (330 + 3) (ml_get 3) rfl rfl rfl rfl (Nat.le_of_ble_eq_true rfl) dX2_readPart_40 ⟨by decide, by decide⟩ (fun r u' hq => ?_)
    obtain ⟨z4, hz4, rfl, rfl, bz4, qz4_0⟩ := hq
    exact hR _ _ _ _ dX2_readPart_43 bz4 ⟨(_, _), Eq.symm ((ite_n c1 (ite_p c3 (bd_eq hz4 rfl)))), rfl, rfl, bz4, qz4_0⟩
  by_cases c5 : p2 = 110
  · refine j_lookup h (off := 43) (tgt := 44) dX2_readPart_1 (by decide) (by rw [c5]; first | done | rfl) (by decide) ?_
    refine j_aload_n h dX2_readPart_44 rfl 0 rfl ?_
    refine j_aload_n h dX2_readPart_45 rfl 1 rfl ?_
    refine j_iconst h (v := 2) dX2_readPart_46 (by decide) ?_
    refine j_iload_n h dX2_readPart_47 rfl 3 rfl ?_
    refine j_callI h (n := 3) (c_X2_readDigits l D cy L _ _ _ _ _ _ _ (vp_of (j := p3.toNatClampNeg) e3 (by omega) (by decide)) (by decide) hD0) (xg_V (xr_19 14 rfl) (xr_19 15 rfl) (xr_19 16 rfl) (xr_2 8 rfl) (xr_19 17 rfl)) rfl rfl (by decide +kernel) ⟨Nat.le_of_ble_eq_true rfl, Nat.le_of_ble_eq_true rfl⟩ (330 + 3) (ml_get 3) rfl rfl rfl rfl (Nat.le_of_ble_eq_true rfl) dX2_readPart_48 ⟨by decide, by decide⟩ (fun r u' hq => ?_)
    obtain ⟨z6, hz6, rfl, rfl, bz6, qz6_0⟩ := hq
    exact hR _ _ _ _ dX2_readPart_51 bz6 ⟨(_, _), Eq.symm ((ite_n c1 (ite_n c3 (ite_p c5 (bd_eq hz6 rfl))))), rfl, rfl, bz6, qz6_0⟩
  refine j_lookup h (off := 58) (tgt := 59) dX2_readPart_1 (by decide) ((if_neg (lk_ne c1 rfl)).trans ((if_neg (lk_ne c3 rfl)).trans ((if_neg (lk_ne c5 rfl)).trans rfl))) (by decide) ?_
  refine j_aload_n h dX2_readPart_59 rfl 0 rfl ?_
  refine j_aload_n h dX2_readPart_60 rfl 1 rfl ?_
  refine j_iload_n h dX2_readPart_61 rfl 2 rfl ?_
  refine j_callI h (n := 2) (c_X2_readSign l D cy L _ _ _ _ _ _ hD0) (xg_V (xr_20 1 rfl) (xr_20 2 rfl) (xr_20 3 rfl) (xr_2 8 rfl) (xr_20 4 rfl)) rfl rfl (by decide +kernel) ⟨Nat.le_of_ble_eq_true rfl, Nat.le_of_ble_eq_true rfl⟩ (330 + 3) (ml_get 3) rfl rfl rfl rfl (Nat.le_of_ble_eq_true rfl) dX2_readPart_62 ⟨by decide, by decide⟩ (fun r u' hq => ?_)
  obtain ⟨z7, hz7, rfl, rfl, bz7, qz7_0⟩ := hq
  exact hR _ _ _ _ dX2_readPart_65 bz7 ⟨(_, _), Eq.symm ((ite_n c1 (ite_n c3 (ite_n c5 (bd_eq hz7 rfl))))), rfl, rfl, bz7, qz7_0⟩

theorem fr_readPart {M : gM} {X : Nat → Int32} {A : Nat → Nat → Int32} {p q : Int32} {k : Nat} (hk : k ≠ 5) : (f_X2_readPart M X A p q).2.1 k = X k := by
  unfold f_X2_readPart
  dsimp only [bd]
  split
  · exact fr_readSide hk
  · split
    · exact fr_readDigits hk
    · split
      · exact fr_readDigits hk
      · exact fr_readSign hk
def f_X2_formOf (M : gM) (X : Nat → Int32) (A : Nat → Nat → Int32) (p1 : Int32) : Nat :=
  if p1 = 98 then
    1
  else
    if p1 = 99 then
      2
    else
      if p1 = 100 then
        4
      else
        if p1 = 101 then
          0
        else
          if p1 = 102 then
            4
          else
            if p1 = 103 then
              4
            else
              if p1 = 104 then
                3
              else
                if p1 = 105 then
                  4
                else
                  if p1 = 106 then
                    4
                  else
                    if p1 = 107 then
                      4
                    else
                      if p1 = 108 then
                        4
                      else
                        if p1 = 109 then
                          4
                        else
                          if p1 = 110 then
                            4
                          else
                            if p1 = 111 then
                              4
                            else
                              if p1 = 112 then
                                4
                              else
                                if p1 = 113 then
                                  4
                                else
                                  if p1 = 114 then
                                    2
                                  else
                                    if p1 = 115 then
                                      2
                                    else
                                      if p1 = 116 then
                                        2
                                      else
                                        if p1 = 117 then
                                          4
                                        else
                                          if p1 = 118 then
                                            4
                                          else
                                            if p1 = 119 then
                                              2
                                            else
                                              4
abbrev rm_X2_formOf : Room := { frames := 0, cells := 0, slots := 0, locals := 0 }
set_option maxRecDepth 100000 in
set_option maxHeartbeats 4000000 in
theorem c_X2_formOf (l : Launch) (D : gD) (cy : Nat → ClassId) (L : Nat → Nat → Nat) (G : Nat → gM) (X : Nat → Int32) (A : Nat → Nat → Int32) (b : cB) (M : gM) (p1 : Int32)  : CtA l D cy (CW cy L) yX2_formOf cX2_formOf 1 (some (.object "java/lang/String")) rm_X2_formOf [.int p1] ((va_up G 0 M, X, A), b) (fun rv u => ∃ z : Nat, z = f_X2_formOf M X A p1 ∧ rv = D.2.1 z ∧ u = ((va_up G 0 M, X, A), b)) 0 0 := by
  refine m_entA cX2_formOf 1 (by decide) (Nat.le_of_ble_eq_true rfl) (fun J h hR => ?_)
  show J ((va_up G 0 M, X, A), b) (0, 0) [(0, .int p1)] 0 []
  refine j_iload_n h dX2_formOf_0 rfl 0 rfl ?_
  by_cases c1 : p1 = 98
  · refine j_tableIn h (tgt := 107) dX2_formOf_1 (by rw [c1]; decide) (by rw [c1]; decide) (by rw [c1]; rfl) (by decide) ?_
    refine j_ldcS h (i := 1) rfl dX2_formOf_107 ?_
    exact hR _ _ _ _ dX2_formOf_109 ⟨_, Eq.symm ((ite_p c1 rfl)), rfl, rfl⟩
  by_cases c2 : p1 = 99
  · refine j_tableIn h (tgt := 110) dX2_formOf_1 (by rw [c2]; decide) (by rw [c2]; decide) (by rw [c2]; rfl) (by decide) ?_
    refine j_ldcS h (i := 2) rfl dX2_formOf_110 ?_
    exact hR _ _ _ _ dX2_formOf_112 ⟨_, Eq.symm ((ite_n c1 (ite_p c2 rfl))), rfl, rfl⟩
  by_cases c3 : p1 = 100
  · refine j_tableIn h (tgt := 116) dX2_formOf_1 (by rw [c3]; decide) (by rw [c3]; decide) (by rw [c3]; rfl) (by decide) ?_
    refine j_ldcS h (i := 4) rfl dX2_formOf_116 ?_
    exact hR _ _ _ _ dX2_formOf_118 ⟨_, Eq.symm ((ite_n c1 (ite_n c2 (ite_p c3 rfl)))), rfl, rfl⟩
  by_cases c4 : p1 = 101
  · refine j_tableIn h (tgt := 104) dX2_formOf_1 (by rw [c4]; decide) (by rw [c4]; decide) (by rw [c4]; rfl) (by decide) ?_
    refine j_ldcS h (i := 0) rfl dX2_formOf_104 ?_
    exact hR _ _ _ _ dX2_formOf_106 ⟨_, Eq.symm ((ite_n c1 (ite_n c2 (ite_n c3 (ite_p c4 rfl))))), rfl, rfl⟩
  by_cases c5 : p1 = 102
  · refine j_tableIn h (tgt := 116) dX2_formOf_1 (by rw [c5]; decide) (by rw [c5]; decide) (by rw [c5]; rfl) (by decide) ?_
    refine j_ldcS h (i := 4) rfl dX2_formOf_116 ?_
    exact hR _ _ _ _ dX2_formOf_118 ⟨_, Eq.symm ((ite_n c1 (ite_n c2 (ite_n c3 (ite_n c4 (ite_p c5 rfl)))))), rfl, rfl⟩
  by_cases c6 : p1 = 103
  · refine j_tableIn h (tgt := 116) dX2_formOf_1 (by rw [c6]; decide) (by rw [c6]; decide) (by rw [c6]; rfl) (by decide) ?_
    refine j_ldcS h (i := 4) rfl dX2_formOf_116 ?_
    exact hR _ _ _ _ dX2_formOf_118 ⟨_, Eq.symm ((ite_n c1 (ite_n c2 (ite_n c3 (ite_n c4 (ite_n c5 (ite_p c6 rfl))))))), rfl, rfl⟩
  by_cases c7 : p1 = 104
  · refine j_tableIn h (tgt := 113) dX2_formOf_1 (by rw [c7]; decide) (by rw [c7]; decide) (by rw [c7]; rfl) (by decide) ?_
    refine j_ldcS h (i := 3) rfl dX2_formOf_113 ?_
    exact hR _ _ _ _ dX2_formOf_115 ⟨_, Eq.symm ((ite_n c1 (ite_n c2 (ite_n c3 (ite_n c4 (ite_n c5 (ite_n c6 (ite_p c7 rfl)))))))), rfl, rfl⟩
  by_cases c8 : p1 = 105
  · refine j_tableIn h (tgt := 116) dX2_formOf_1 (by rw [c8]; decide) (by rw [c8]; decide) (by rw [c8]; rfl) (by decide) ?_
    refine j_ldcS h (i := 4) rfl dX2_formOf_116 ?_
    exact hR _ _ _ _ dX2_formOf_118 ⟨_, Eq.symm ((ite_n c1 (ite_n c2 (ite_n c3 (ite_n c4 (ite_n c5 (ite_n c6 (ite_n c7 (ite_p c8 rfl))))))))), rfl, rfl⟩
  by_cases c9 : p1 = 106
  · refine j_tableIn h (tgt := 116) dX2_formOf_1 (by rw [c9]; decide) (by rw [c9]; decide) (by rw [c9]; rfl) (by decide) ?_
    refine j_ldcS h (i := 4) rfl dX2_formOf_116 ?_
    exact hR _ _ _ _ dX2_formOf_118 ⟨_, Eq.symm ((ite_n c1 (ite_n c2 (ite_n c3 (ite_n c4 (ite_n c5 (ite_n c6 (ite_n c7 (ite_n c8 (ite_p c9 rfl)))))))))), rfl, rfl⟩
  by_cases c10 : p1 = 107
  · refine j_tableIn h (tgt := 116) dX2_formOf_1 (by rw [c10]; decide) (by rw [c10]; decide) (by rw [c10]; rfl) (by decide) ?_
    refine j_ldcS h (i := 4) rfl dX2_formOf_116 ?_
    exact hR _ _ _ _ dX2_formOf_118 ⟨_, Eq.symm ((ite_n c1 (ite_n c2 (ite_n c3 (ite_n c4 (ite_n c5 (ite_n c6 (ite_n c7 (ite_n c8 (ite_n c9 (ite_p c10 rfl))))))))))), rfl, rfl⟩
  by_cases c11 : p1 = 108
  · refine j_tableIn h (tgt := 116) dX2_formOf_1 (by rw [c11]; decide) (by rw [c11]; decide) (by rw [c11]; rfl) (by decide) ?_
    refine j_ldcS h (i := 4) rfl dX2_formOf_116 ?_
    exact hR _ _ _ _ dX2_formOf_118 ⟨_, Eq.symm ((ite_n c1 (ite_n c2 (ite_n c3 (ite_n c4 (ite_n c5 (ite_n c6 (ite_n c7 (ite_n c8 (ite_n c9 (ite_n c10 (ite_p c11 rfl)))))))))))), rfl, rfl⟩
  by_cases c12 : p1 = 109
  · refine j_tableIn h (tgt := 116) dX2_formOf_1 (by rw [c12]; decide) (by rw [c12]; decide) (by rw [c12]; rfl) (by decide) ?_
    refine j_ldcS h (i := 4) rfl dX2_formOf_116 ?_
    exact hR _ _ _ _ dX2_formOf_118 ⟨_, Eq.symm ((ite_n c1 (ite_n c2 (ite_n c3 (ite_n c4 (ite_n c5 (ite_n c6 (ite_n c7 (ite_n c8 (ite_n c9 (ite_n c10 (ite_n c11 (ite_p c12 rfl))))))))))))), rfl, rfl⟩
  by_cases c13 : p1 = 110
  · refine j_tableIn h (tgt := 116) dX2_formOf_1 (by rw [c13]; decide) (by rw [c13]; decide) (by rw [c13]; rfl) (by decide) ?_
    refine j_ldcS h (i := 4) rfl dX2_formOf_116 ?_
    exact hR _ _ _ _ dX2_formOf_118 ⟨_, Eq.symm ((ite_n c1 (ite_n c2 (ite_n c3 (ite_n c4 (ite_n c5 (ite_n c6 (ite_n c7 (ite_n c8 (ite_n c9 (ite_n c10 (ite_n c11 (ite_n c12 (ite_p c13 rfl)))))))))))))), rfl, rfl⟩
  by_cases c14 : p1 = 111
  · refine j_tableIn h (tgt := 116) dX2_formOf_1 (by rw [c14]; decide) (by rw [c14]; decide) (by rw [c14]; rfl) (by decide) ?_
    refine j_ldcS h (i := 4) rfl dX2_formOf_116 ?_
    exact hR _ _ _ _ dX2_formOf_118 ⟨_, Eq.symm ((ite_n c1 (ite_n c2 (ite_n c3 (ite_n c4 (ite_n c5 (ite_n c6 (ite_n c7 (ite_n c8 (ite_n c9 (ite_n c10 (ite_n c11 (ite_n c12 (ite_n c13 (ite_p c14 rfl))))))))))))))), rfl, rfl⟩
  by_cases c15 : p1 = 112
  · refine j_tableIn h (tgt := 116) dX2_formOf_1 (by rw [c15]; decide) (by rw [c15]; decide) (by rw [c15]; rfl) (by decide) ?_
    refine j_ldcS h (i := 4) rfl dX2_formOf_116 ?_
    exact hR _ _ _ _ dX2_formOf_118 ⟨_, Eq.symm ((ite_n c1 (ite_n c2 (ite_n c3 (ite_n c4 (ite_n c5 (ite_n c6 (ite_n c7 (ite_n c8 (ite_n c9 (ite_n c10 (ite_n c11 (ite_n c12 (ite_n c13 (ite_n c14 (ite_p c15 rfl)))))))))))))))), rfl, rfl⟩
  by_cases c16 : p1 = 113
  · refine j_tableIn h (tgt := 116) dX2_formOf_1 (by rw [c16]; decide) (by rw [c16]; decide) (by rw [c16]; rfl) (by decide) ?_
    refine j_ldcS h (i := 4) rfl dX2_formOf_116 ?_
    exact hR _ _ _ _ dX2_formOf_118 ⟨_, Eq.symm ((ite_n c1 (ite_n c2 (ite_n c3 (ite_n c4 (ite_n c5 (ite_n c6 (ite_n c7 (ite_n c8 (ite_n c9 (ite_n c10 (ite_n c11 (ite_n c12 (ite_n c13 (ite_n c14 (ite_n c15 (ite_p c16 rfl))))))))))))))))), rfl, rfl⟩
  by_cases c17 : p1 = 114
  · refine j_tableIn h (tgt := 110) dX2_formOf_1 (by rw [c17]; decide) (by rw [c17]; decide) (by rw [c17]; rfl) (by decide) ?_
    refine j_ldcS h (i := 2) rfl dX2_formOf_110 ?_
    exact hR _ _ _ _ dX2_formOf_112 ⟨_, Eq.symm ((ite_n c1 (ite_n c2 (ite_n c3 (ite_n c4 (ite_n c5 (ite_n c6 (ite_n c7 (ite_n c8 (ite_n c9 (ite_n c10 (ite_n c11 (ite_n c12 (ite_n c13 (ite_n c14 (ite_n c15 (ite_n c16 (ite_p c17 rfl)))))))))))))))))), rfl, rfl⟩
  by_cases c18 : p1 = 115
  · refine j_tableIn h (tgt := 110) dX2_formOf_1 (by rw [c18]; decide) (by rw [c18]; decide) (by rw [c18]; rfl) (by decide) ?_
    refine j_ldcS h (i := 2) rfl dX2_formOf_110 ?_
    exact hR _ _ _ _ dX2_formOf_112 ⟨_, Eq.symm ((ite_n c1 (ite_n c2 (ite_n c3 (ite_n c4 (ite_n c5 (ite_n c6 (ite_n c7 (ite_n c8 (ite_n c9 (ite_n c10 (ite_n c11 (ite_n c12 (ite_n c13 (ite_n c14 (ite_n c15 (ite_n c16 (ite_n c17 (ite_p c18 rfl))))))))))))))))))), rfl, rfl⟩
  by_cases c19 : p1 = 116
  · refine j_tableIn h (tgt := 110) dX2_formOf_1 (by rw [c19]; decide) (by rw [c19]; decide) (by rw [c19]; rfl) (by decide) ?_
    refine j_ldcS h (i := 2) rfl dX2_formOf_110 ?_
    exact hR _ _ _ _ dX2_formOf_112 ⟨_, Eq.symm ((ite_n c1 (ite_n c2 (ite_n c3 (ite_n c4 (ite_n c5 (ite_n c6 (ite_n c7 (ite_n c8 (ite_n c9 (ite_n c10 (ite_n c11 (ite_n c12 (ite_n c13 (ite_n c14 (ite_n c15 (ite_n c16 (ite_n c17 (ite_n c18 (ite_p c19 rfl)))))))))))))))))))), rfl, rfl⟩
  by_cases c20 : p1 = 117
  · refine j_tableIn h (tgt := 116) dX2_formOf_1 (by rw [c20]; decide) (by rw [c20]; decide) (by rw [c20]; rfl) (by decide) ?_
    refine j_ldcS h (i := 4) rfl dX2_formOf_116 ?_
    exact hR _ _ _ _ dX2_formOf_118 ⟨_, Eq.symm ((ite_n c1 (ite_n c2 (ite_n c3 (ite_n c4 (ite_n c5 (ite_n c6 (ite_n c7 (ite_n c8 (ite_n c9 (ite_n c10 (ite_n c11 (ite_n c12 (ite_n c13 (ite_n c14 (ite_n c15 (ite_n c16 (ite_n c17 (ite_n c18 (ite_n c19 (ite_p c20 rfl))))))))))))))))))))), rfl, rfl⟩
  by_cases c21 : p1 = 118
  · refine j_tableIn h (tgt := 116) dX2_formOf_1 (by rw [c21]; decide) (by rw [c21]; decide) (by rw [c21]; rfl) (by decide) ?_
    refine j_ldcS h (i := 4) rfl dX2_formOf_116 ?_
    exact hR _ _ _ _ dX2_formOf_118 ⟨_, Eq.symm ((ite_n c1 (ite_n c2 (ite_n c3 (ite_n c4 (ite_n c5 (ite_n c6 (ite_n c7 (ite_n c8 (ite_n c9 (ite_n c10 (ite_n c11 (ite_n c12 (ite_n c13 (ite_n c14 (ite_n c15 (ite_n c16 (ite_n c17 (ite_n c18 (ite_n c19 (ite_n c20 (ite_p c21 rfl)))))))))))))))))))))), rfl, rfl⟩
  by_cases c22 : p1 = 119
  · refine j_tableIn h (tgt := 110) dX2_formOf_1 (by rw [c22]; decide) (by rw [c22]; decide) (by rw [c22]; rfl) (by decide) ?_
    refine j_ldcS h (i := 2) rfl dX2_formOf_110 ?_
    exact hR _ _ _ _ dX2_formOf_112 ⟨_, Eq.symm ((ite_n c1 (ite_n c2 (ite_n c3 (ite_n c4 (ite_n c5 (ite_n c6 (ite_n c7 (ite_n c8 (ite_n c9 (ite_n c10 (ite_n c11 (ite_n c12 (ite_n c13 (ite_n c14 (ite_n c15 (ite_n c16 (ite_n c17 (ite_n c18 (ite_n c19 (ite_n c20 (ite_n c21 (ite_p c22 rfl))))))))))))))))))))))), rfl, rfl⟩
  refine j_tableOut h (tgt := 116) dX2_formOf_1 (sw_out98_22 p1 c1 c2 c3 c4 c5 c6 c7 c8 c9 c10 c11 c12 c13 c14 c15 c16 c17 c18 c19 c20 c21 c22) (by decide) ?_
  refine j_ldcS h (i := 4) rfl dX2_formOf_116 ?_
  exact hR _ _ _ _ dX2_formOf_118 ⟨_, Eq.symm ((ite_n c1 (ite_n c2 (ite_n c3 (ite_n c4 (ite_n c5 (ite_n c6 (ite_n c7 (ite_n c8 (ite_n c9 (ite_n c10 (ite_n c11 (ite_n c12 (ite_n c13 (ite_n c14 (ite_n c15 (ite_n c16 (ite_n c17 (ite_n c18 (ite_n c19 (ite_n c20 (ite_n c21 (ite_n c22 rfl))))))))))))))))))))))), rfl, rfl⟩

theorem il_lt {c : Prop} [Decidable c] {a b n : Nat} (ha : a < n) (hb : b < n) : (if c then a else b) < n := by
  by_cases h : c
  · rw [if_pos h]; exact ha
  · rw [if_neg h]; exact hb
theorem fo_lt {M : gM} {X : Nat → Int32} {A : Nat → Nat → Int32} {p : Int32} {z : Nat} (hz : z = f_X2_formOf M X A p) : z < 5 := by
  have h : f_X2_formOf M X A p < 5 := by
    unfold f_X2_formOf
    (repeat' apply il_lt) <;> decide
  rw [hz]; exact h
/-- how many of the first letters of a form are kept -/
def kp (i : Nat) : Nat → Nat
  | 0 => 0
  | k + 1 => kp i k + if chS i k = 100 ∨ chS i k = 110 ∨ chS i k = 43 then 1 else 0
theorem kp_le {i k : Nat} (hi : i < 5) (hk : k < lenS.getD i 0) : kp i k ≤ 4 := by
  have h : ∀ i, i < 5 → ∀ k, k < lenS.getD i 0 → kp i k ≤ 4 := by decide +kernel
  exact h i hi k hk
theorem kp_1 {M : gM} {X : Nat → Int32} {A : Nat → Nat → Int32} {i k n : Nat} {t c z : Int32} (hc : c = chS i k) (hz : z = f_X2_isKept M X A c) (h0 : ¬ z = 0) (ht : t = nI (n + kp i k)) : t + 1 = nI (n + kp i (k + 1)) := by
  have e : chS i k = 100 ∨ chS i k = 110 ∨ chS i k = 43 := by
    unfold f_X2_isKept at hz
    subst hc
    split at hz
    · rename_i q; exact Or.inl q
    · split at hz
      · rename_i q; exact Or.inr (Or.inl q)
      · split at hz
        · rename_i q; exact Or.inr (Or.inr q)
        · exact absurd hz h0
  rw [show kp i (k + 1) = kp i k + 1 from congrArg (kp i k + ·) (if_pos e), ht, nI_1, Nat.add_assoc]
theorem kp_0 {M : gM} {X : Nat → Int32} {A : Nat → Nat → Int32} {i k n : Nat} {t c z : Int32} (hc : c = chS i k) (hz : z = f_X2_isKept M X A c) (h0 : z = 0) (ht : t = nI (n + kp i k)) : t = nI (n + kp i (k + 1)) := by
  have e : ¬ (chS i k = 100 ∨ chS i k = 110 ∨ chS i k = 43) := by
    unfold f_X2_isKept at hz
    subst hc
    split at hz
    · rw [h0] at hz; exact absurd hz (by decide)
    · split at hz
      · rw [h0] at hz; exact absurd hz (by decide)
      · split at hz
        · rw [h0] at hz; exact absurd hz (by decide)
        · rename_i a b c; exact fun q => q.elim a (fun q => q.elim b c)
  rw [show kp i (k + 1) = kp i k + 0 from congrArg (kp i k + ·) (if_neg e), ht, Nat.add_zero]
theorem lenS_8 {i : Nat} (hi : i < 5) : lenS.getD i 0 ≤ 8 := by
  have h : ∀ i, i < 5 → lenS.getD i 0 ≤ 8 := by decide +kernel
  exact h i hi
theorem len_lt {z : Int32} {i k : Nat} (hz : z = nI (lenS.getD i 0)) (hi : i < 5) (hk : k ≤ 8) (c : ¬ z ≤ nI k) : k < lenS.getD i 0 := by
  have h := lenS_8 hi
  rcases Nat.lt_or_ge k (lenS.getD i 0) with q | q
  · exact q
  · refine absurd ?_ c
    rw [hz, Int32.le_iff_toInt_le, nI_toInt (by omega), nI_toInt (by omega)]
    omega
theorem RD.a0 {X : Nat → Int32} {A : Nat → Nat → Int32} {b : cB} {i : Nat} {v : Int32} (h : RD X A b) : RD X (up2 A 0 i v) b := by
  have e : up2 A 0 i v 4 = A 4 := up2_ne _ _ _ (by omega)
  exact ⟨h.1, by rw [e]; exact h.2.1, h.2.2⟩
def f_X2_readOrder_l64 (M : gM) (p2 : Int32) (z4 : Nat) : Nat → Nat → Int32 → (Nat → Int32) → (Nat → Nat → Int32) → Int32 × (Nat → Int32) × (Nat → Nat → Int32)
  | 0, _, t, Xk, Ak => (0, (Xk, Ak))
  | n + 1, k, t, Xk, Ak =>
    bd (nI (lenS.getD z4 0)) fun z7 =>
    if z7 ≤ (nI k) then
      (1, (Xk, Ak))
    else
      bd (chS z4 k) fun z9 =>
      bd (f_X2_readPart M Xk Ak z9 t) fun z10 =>
      if z10.1 = 0 then
        (0, (z10.2.1, z10.2.2))
      else
        bd (f_X2_isKept M z10.2.1 z10.2.2 z9) fun z12 =>
        if z12 = 0 then
          f_X2_readOrder_l64 M p2 z4 n (k + 1) t z10.2.1 z10.2.2
        else
          f_X2_readOrder_l64 M p2 z4 n (k + 1) (t + 1) z10.2.1 z10.2.2
def f_X2_readOrder (M : gM) (X : Nat → Int32) (A : Nat → Nat → Int32) (p2 : Int32) : Int32 × (Nat → Int32) × (Nat → Nat → Int32) :=
  bd ((X 7)) fun z1 =>
  if (X 5) < z1 then
    bd (((A 4 (X 5).toNatClampNeg) &&& 255)) fun z3 =>
    bd (f_X2_formOf M X (up2 A 0 p2.toNatClampNeg z3) ((up2 A 0 p2.toNatClampNeg z3) 0 p2.toNatClampNeg)) fun z4 =>
    bd ((if nI (lenS.getD z4 0) = 0 then (1 : Int32) else 0)) fun z5 =>
    if z5 = 0 then
      f_X2_readOrder_l64 M p2 z4 9 0 (p2 * 5) (upd X 5 ((X 5) + 1)) (up2 A 0 p2.toNatClampNeg z3)
    else
      (0, (X, up2 A 0 p2.toNatClampNeg z3))
  else
    (0, (X, A))
abbrev rm_X2_readOrder : Room := { frames := 8, cells := 0, slots := 0, locals := 288 }
set_option maxRecDepth 100000 in
set_option maxHeartbeats 4000000 in
theorem c_X2_readOrder (l : Launch) (D : gD) (cy : Nat → ClassId) (L : Nat → Nat → Nat) (G : Nat → gM) (X : Nat → Int32) (A : Nat → Nat → Int32) (b : cB) (M : gM) (p2 : Int32) (v2 : vp_in p2 30) (hD0 : RD X A b) : CtI l D cy (CW cy L) yX2_readOrder cX2_readOrder 7 (some .boolean) rm_X2_readOrder [.ref (L 11 3), .ref (L 11 9), .int p2] ((va_up G 0 M, X, A), b) (fun rv u => ∃ z : Int32 × ((Nat → Int32) × (Nat → Nat → Int32)), z = f_X2_readOrder M X A p2 ∧ rv = z.1 ∧ u = ((va_up G 0 M, z.2.1, z.2.2), b) ∧ (rv = 0 ∨ rv = 1) ∧ RD z.2.1 z.2.2 b) 0 0 := by
  refine m_entZ cX2_readOrder 7 (by decide) (Nat.le_of_ble_eq_true rfl) (fun J h hR => ?_)
  show J ((va_up G 0 M, X, A), b) (0, 0) [(0, .ref (L 11 3)), (1, .ref (L 11 9)), (2, .int p2)] 0 []
  have b2 : p2.toNatClampNeg < 30 := vp_lt v2
  have e2 : p2 = nI p2.toNatClampNeg := vp_nI v2 (by decide)
  refine j_aload_n h dX2_readOrder_0 rfl 0 rfl ?_
  refine j_get h inlX2 (330 + 3) (ml_get 3) rfl 3 (by decide) (xr_17 5 rfl) rfl (v := .int (X 5)) rfl dX2_readOrder_1 ?_
  refine j_aload_n h dX2_readOrder_4 rfl 1 rfl ?_
  refine j_callI h (n := 0) (c_I_length l D cy L _ _ _ _ _) (xg_V (xr_17 10 rfl) (xr_12 7 rfl) (xr_12 8 rfl) (xr_2 4 rfl) (xr_12 9 rfl)) rfl rfl (by decide +kernel) ⟨Nat.le_of_ble_eq_true rfl, Nat.le_of_ble_eq_true rfl⟩ (330 + 9) (ml_get 9) rfl rfl rfl rfl (Nat.le_of_ble_eq_true rfl) dX2_readOrder_5 ⟨by decide, by decide⟩ (fun z1 u' hq => ?_)
  obtain ⟨hz1, rfl⟩ := hq
  refine j_icmp_lt h (tgt := 13) dX2_readOrder_8 (by decide) (fun c2 => ?_) (fun c2 => ?_)
  · refine j_aload_n h dX2_readOrder_13 rfl 0 rfl ?_
    refine j_get h inlX2 (330 + 3) (ml_get 3) rfl 0 (by decide) (xr_5 22 rfl) rfl (v := .ref (L 11 4)) rfl dX2_readOrder_14 ?_
    refine j_iload_n h dX2_readOrder_17 rfl 2 rfl ?_
    refine j_aload_n h dX2_readOrder_18 rfl 1 rfl ?_
    refine j_aload_n h dX2_readOrder_19 rfl 0 rfl ?_
    refine j_get h inlX2 (330 + 3) (ml_get 3) rfl 3 (by decide) (xr_17 5 rfl) rfl (v := .int (X 5)) rfl dX2_readOrder_20 ?_
    refine j_callI h (n := 1) (c_I_charAt l D cy L _ _ _ _ _ hD0.1 hD0.2.1 _ hD0.2.2 (hz1 ▸ c2)) (xg_V (xr_17 11 rfl) (xr_17 12 rfl) (xr_17 13 rfl) (xr_2 4 rfl) (xr_17 14 rfl)) rfl rfl (by decide +kernel) ⟨Nat.le_of_ble_eq_true rfl, Nat.le_of_ble_eq_true rfl⟩ (330 + 9) (ml_get 9) rfl rfl rfl rfl (Nat.le_of_ble_eq_true rfl) dX2_readOrder_23 ⟨by decide, by decide⟩ (fun z3 u' hq => ?_)
    obtain ⟨hz3, rfl⟩ := hq
    refine j_iastE h (330 + 4) (ml_get 4) p2.toNatClampNeg e2 (by omega) (by decide) dX2_readOrder_26 (u' := ((va_up G 0 M, X, up2 A 0 p2.toNatClampNeg z3), b)) (ml_set rfl rfl) ?_
    refine j_aload_n h dX2_readOrder_27 rfl 0 rfl ?_
    refine j_get h inlX2 (330 + 3) (ml_get 3) rfl 0 (by decide) (xr_5 22 rfl) rfl (v := .ref (L 11 4)) rfl dX2_readOrder_28 ?_
    refine j_iload_n h dX2_readOrder_31 rfl 2 rfl ?_
    refine j_ialdE h (330 + 4) (ml_get 4) p2.toNatClampNeg e2 (by omega) (by decide) dX2_readOrder_32 ?_
    refine j_callSA h (n := 1) (c_X2_formOf l D cy L _ _ _ _ _ _) (xg_S (xr_18 0 rfl) (xr_18 1 rfl) (xr_2 8 rfl) (xr_18 2 rfl)) rfl rfl (by decide +kernel) ⟨Nat.le_of_ble_eq_true rfl, Nat.le_of_ble_eq_true rfl⟩ rfl rfl (Nat.le_of_ble_eq_true rfl) dX2_readOrder_33 ⟨by decide, by decide⟩ (fun r u' hq => ?_)
    obtain ⟨z4, hz4, rfl, rfl⟩ := hq
    have hf5 : z4 < 5 := fo_lt hz4
    refine j_astore_n h (lv' := [(3, _), (0, _), (1, _), (2, _)]) dX2_readOrder_36 rfl (by decide) rfl ?_
    refine j_aload_n h dX2_readOrder_37 rfl 0 rfl ?_
    refine j_kI h (n := 0) (c_J0_isEmpty_aae02 l D cy _ (by omega)) (xg_V (xr_18 3 rfl) (xr_18 4 rfl) (xr_18 5 rfl) (xr_15 19 rfl) (xr_18 6 rfl)) rfl rfl (by decide +kernel) ⟨Nat.le_of_ble_eq_true rfl, Nat.le_of_ble_eq_true rfl⟩ rfl (by omega) rfl rfl rfl (Nat.le_of_ble_eq_true rfl) dX2_readOrder_38 ⟨by decide, by decide⟩ (fun z5 u' hq => ?_)
    obtain ⟨hz5, rfl⟩ := hq
    refine j_if_eq h (tgt := 46) dX2_readOrder_41 (by decide) (fun c6 => ?_) (fun c6 => ?_)
    · refine j_aload_n h dX2_readOrder_46 rfl 1 rfl ?_
      refine j_dup h dX2_readOrder_47 rfl ?_
      refine j_get h inlX2 (330 + 3) (ml_get 3) rfl 3 (by decide) (xr_17 5 rfl) rfl (v := .int (X 5)) rfl dX2_readOrder_48 ?_
      refine j_iconst h (v := 1) dX2_readOrder_51 (by decide) ?_
      refine j_iadd h dX2_readOrder_52 ?_
      refine j_put h inlX2 tyX2 tyX2_ok nmX2 (330 + 3) (ml_get 3) rfl 3 (by decide) (xr_17 5 rfl) rfl rfl rfl rfl (Nat.le_of_ble_eq_true rfl) dX2_readOrder_53 (u' := ((va_up G 0 M, upd X 5 ((X 5) + 1), up2 A 0 p2.toNatClampNeg z3), b)) (ml_set rfl rfl) ?_
      refine j_iload_n h dX2_readOrder_56 rfl 3 rfl ?_
      refine j_iconst h (v := 5) dX2_readOrder_57 (by decide) ?_
      refine j_imul h dX2_readOrder_58 ?_
      refine j_istore h (lv' := [(4, _), (3, _), (0, _), (1, _), (2, _)]) dX2_readOrder_59 (by decide) rfl ?_
      refine j_iconst h (v := 0) dX2_readOrder_61 (by decide) ?_
      refine j_istore h (lv' := [(5, _), (4, _), (3, _), (0, _), (1, _), (2, _)]) dX2_readOrder_62 (by decide) rfl ?_
      have lp64 : ∀ (n k : Nat) (t : Int32) (Xk : Nat → Int32) (Ak : Nat → Nat → Int32), n + k = 9 → k ≤ 8 → t = nI (p2.toNatClampNeg * 5 + kp z4 k) → RD Xk Ak b → f_X2_readOrder M X A p2 = f_X2_readOrder_l64 M p2 z4 n k t Xk Ak → J ((va_up G 0 M, Xk, Ak), b) (0, 0) [(0, .ref (L 11 3)), (1, .ref (L 11 9)), (2, .int p2), (3, .ref (D.2.1 z4)), (4, .int t), (5, .int (nI k))] 64 [] := by
        intro n
        induction n with
        | zero => intro k t Xk Ak hn hk ht hDk hf; omega
        | succ n ih =>
          intro k t Xk Ak hn hk ht hDk hf
          refine j_iload h dX2_readOrder_64 5 rfl ?_
          refine j_aload_n h dX2_readOrder_66 rfl 3 rfl ?_
          refine j_kI h (n := 0) (c_J0_length_8abf5 l D cy _ (by omega)) (xg_V (xr_18 8 rfl) (xr_18 9 rfl) (xr_18 10 rfl) (xr_15 19 rfl) (xr_18 11 rfl)) rfl rfl (by decide +kernel) ⟨Nat.le_of_ble_eq_true rfl, Nat.le_of_ble_eq_true rfl⟩ rfl (by omega) rfl rfl rfl (Nat.le_of_ble_eq_true rfl) dX2_readOrder_67 ⟨by decide, by decide⟩ (fun z7 u' hq => ?_)
          obtain ⟨hz7, rfl⟩ := hq
          refine j_icmp_ge h (tgt := 112) dX2_readOrder_70 (by decide) (fun c8 => ?_) (fun c8 => ?_)
          · refine j_iconst h (v := 1) dX2_readOrder_112 (by decide) ?_
            exact hR _ _ _ _ dX2_readOrder_113 (Or.inr rfl) ⟨(_, _), Eq.symm (hf.trans ((bd_eq hz7 (ite_p c8 rfl)))), rfl, rfl, (Or.inr rfl), hDk⟩
          · have hk1 : k < lenS.getD z4 0 := len_lt hz7 (by omega) hk c8
            have hkp : kp z4 k ≤ 4 := kp_le hf5 hk1
            have hl8 : lenS.getD z4 0 ≤ 8 := lenS_8 (by omega)
            refine j_aload_n h dX2_readOrder_73 rfl 3 rfl ?_
            refine j_iload h dX2_readOrder_74 5 rfl ?_
            refine j_kI h (n := 1) (c_J0_charAt_5068e l D cy _ (by omega) hk1) (xg_V (xr_18 18 rfl) (xr_18 19 rfl) (xr_18 20 rfl) (xr_15 19 rfl) (xr_18 21 rfl)) rfl rfl (by decide +kernel) ⟨Nat.le_of_ble_eq_true rfl, Nat.le_of_ble_eq_true rfl⟩ rfl (by omega) rfl rfl rfl (Nat.le_of_ble_eq_true rfl) dX2_readOrder_76 ⟨by decide, by decide⟩ (fun z9 u' hq => ?_)
            obtain ⟨hz9, rfl⟩ := hq
            refine j_istore h (lv' := [(6, _), (0, _), (1, _), (2, _), (3, _), (4, _), (5, _)]) dX2_readOrder_79 (by decide) rfl ?_
            refine j_aload_n h dX2_readOrder_81 rfl 1 rfl ?_
            refine j_aload_n h dX2_readOrder_82 rfl 2 rfl ?_
            refine j_iload h dX2_readOrder_83 0 rfl ?_
            refine j_iload h dX2_readOrder_85 5 rfl ?_
            refine j_callI h (n := 3) (c_X2_readPart l D cy L _ _ _ _ _ _ _ (vp_of (j := p2.toNatClampNeg * 5 + kp z4 k) ht (by omega) (by decide)) hDk) (xg_V (xr_19 10 rfl) (xr_19 11 rfl) (xr_19 12 rfl) (xr_2 8 rfl) (xr_19 13 rfl)) rfl rfl (by decide +kernel) ⟨Nat.le_of_ble_eq_true rfl, Nat.le_of_ble_eq_true rfl⟩ (330 + 3) (ml_get 3) rfl rfl rfl rfl (Nat.le_of_ble_eq_true rfl) dX2_readOrder_87 ⟨by decide, by decide⟩ (fun r u' hq => ?_)
            obtain ⟨z10, hz10, rfl, rfl, bz10, qz10_0⟩ := hq
            refine j_if_ne h (tgt := 95) dX2_readOrder_90 (by decide) (fun c11 => ?_) (fun c11 => ?_)
            · refine j_iload h dX2_readOrder_95 0 rfl ?_
              refine j_callS h (n := 1) (c_X2_isKept l D cy L _ _ _ _ _ _) (xg_S (xr_20 5 rfl) (xr_20 6 rfl) (xr_2 8 rfl) (xr_20 7 rfl)) rfl rfl (by decide +kernel) ⟨Nat.le_of_ble_eq_true rfl, Nat.le_of_ble_eq_true rfl⟩  rfl rfl (Nat.le_of_ble_eq_true rfl) dX2_readOrder_97 ⟨by decide, by decide⟩ (fun z12 u' hq => ?_)
              obtain ⟨hz12, rfl, bz12⟩ := hq
              refine j_if_eq h (tgt := 106) dX2_readOrder_100 (by decide) (fun c13 => ?_) (fun c13 => ?_)
              · refine j_iinc h (v := nI (k + 1)) (lv' := [(5, _), (6, _), (0, _), (1, _), (2, _), (3, _), (4, _)]) dX2_readOrder_106 (k := 6) rfl (nI_1 k) (by decide) rfl ?_
                refine j_goto h (tgt := 64) dX2_readOrder_109 (by decide) ?_
                refine j_sub h [2, 3, 4, 5, 6, 0] rfl ?_
                exact ih (k + 1) _ _ _ (by omega) (by omega) (kp_0 hz9 hz12 c13 ht) qz10_0 (hf.trans ((bd_eq hz7 (ite_n c8 (bd_eq hz9 (bd_eq hz10 (ite_n c11 (bd_eq hz12 (ite_p c13 rfl)))))))))
              · refine j_iinc h (v := t + 1) (lv' := [(4, _), (6, _), (0, _), (1, _), (2, _), (3, _), (5, _)]) dX2_readOrder_103 (k := 5) rfl rfl (by decide) rfl ?_
                refine j_iinc h (v := nI (k + 1)) (lv' := [(5, _), (4, _), (6, _), (0, _), (1, _), (2, _), (3, _)]) dX2_readOrder_106 (k := 6) rfl (nI_1 k) (by decide) rfl ?_
                refine j_goto h (tgt := 64) dX2_readOrder_109 (by decide) ?_
                refine j_sub h [3, 4, 5, 6, 1, 0] rfl ?_
                exact ih (k + 1) _ _ _ (by omega) (by omega) (kp_1 hz9 hz12 c13 ht) qz10_0 (hf.trans ((bd_eq hz7 (ite_n c8 (bd_eq hz9 (bd_eq hz10 (ite_n c11 (bd_eq hz12 (ite_n c13 rfl)))))))))
            · refine j_iconst h (v := 0) dX2_readOrder_93 (by decide) ?_
              exact hR _ _ _ _ dX2_readOrder_94 (Or.inl rfl) ⟨(_, _), Eq.symm (hf.trans ((bd_eq hz7 (ite_n c8 (bd_eq hz9 (bd_eq hz10 (ite_p c11 rfl))))))), rfl, rfl, (Or.inl rfl), qz10_0⟩
      refine j_sub h [3, 4, 5, 2, 1, 0] rfl ?_
      exact lp64 9 0 _ _ _ (by omega) (by omega) (nx_mul e2 rfl) ((RD.a0 hD0).s (hz1 ▸ c2)) ((bd_eq hz1 (ite_p c2 (bd_eq hz3 (bd_eq hz4 (bd_eq hz5 (ite_p c6 rfl)))))))
    · refine j_iconst h (v := 0) dX2_readOrder_44 (by decide) ?_
      exact hR _ _ _ _ dX2_readOrder_45 (Or.inl rfl) ⟨(_, _), Eq.symm ((bd_eq hz1 (ite_p c2 (bd_eq hz3 (bd_eq hz4 (bd_eq hz5 (ite_n c6 rfl))))))), rfl, rfl, (Or.inl rfl), (RD.a0 hD0)⟩
  · refine j_iconst h (v := 0) dX2_readOrder_11 (by decide) ?_
    exact hR _ _ _ _ dX2_readOrder_12 (Or.inl rfl) ⟨(_, _), Eq.symm ((bd_eq hz1 (ite_n c2 rfl))), rfl, rfl, (Or.inl rfl), hD0⟩

theorem fr_readOrder_l {M : gM} {p : Int32} {z j : Nat} (hj : j ≠ 5) : ∀ n k t X A, (f_X2_readOrder_l64 M p z n k t X A).1 = 0 ∧ n = 0 ∨ (f_X2_readOrder_l64 M p z n k t X A).2.1 j = X j := by
  intro n
  induction n with
  | zero => intro k t X A; exact Or.inl ⟨rfl, rfl⟩
  | succ n ih =>
    intro k t X A
    refine Or.inr ?_
    unfold f_X2_readOrder_l64
    dsimp only [bd]
    have e : ∀ a b c d, (f_X2_readOrder_l64 M p z n a b c d).2.1 j = c j := by
      intro a b c d
      rcases ih a b c d with ⟨_, q⟩ | q
      · subst q; rfl
      · exact q
    split
    · rfl
    · split
      · exact fr_readPart hj
      · split
        · exact (e _ _ _ _).trans (fr_readPart hj)
        · exact (e _ _ _ _).trans (fr_readPart hj)
theorem fr_readOrder {M : gM} {X : Nat → Int32} {A : Nat → Nat → Int32} {p : Int32} {j : Nat} (hj : j ≠ 5) : (f_X2_readOrder M X A p).2.1 j = X j := by
  unfold f_X2_readOrder
  dsimp only [bd]
  split
  · split
    · rw [if_neg (by decide)]
    · rw [if_pos rfl]
      rcases fr_readOrder_l (M := M) (p := p) (z := f_X2_formOf M X (up2 A 0 p.toNatClampNeg (A 4 (X 5).toNatClampNeg &&& 255)) (up2 A 0 p.toNatClampNeg (A 4 (X 5).toNatClampNeg &&& 255) 0 p.toNatClampNeg)) hj 9 0 (p * 5) (upd X 5 (X 5 + 1)) (up2 A 0 p.toNatClampNeg (A 4 (X 5).toNatClampNeg &&& 255)) with ⟨_, q⟩ | q
      · exact absurd q (by omega)
      · exact q.trans (upd_ne _ _ hj)
  · rfl
theorem RD.u4 {X : Nat → Int32} {A : Nat → Nat → Int32} {b : cB} {v : Int32} (h : RD X A b) : RD (upd X 4 v) A b := by
  refine ⟨?_, ?_, ?_⟩
  · rw [upd_ne _ _ (by omega)]; exact h.1
  · rw [upd_ne _ _ (by omega)]; exact h.2.1
  · rw [upd_ne _ _ (by omega)]; exact h.2.2
/-- the input's text -/
def IN (X : Nat → Int32) (A : Nat → Nat → Int32) (b : cB) : Prop := X 7 = nI (X 7).toNatClampNeg ∧ TX (X 7).toNatClampNeg b.2.1 (A 4)
theorem IN.rd {X : Nat → Int32} {A : Nat → Nat → Int32} {b : cB} {v : Int32} (h : IN X A b) : RD (upd (upd X 4 v) 5 0) A b := by
  refine ⟨?_, ?_, ?_⟩
  · rw [upd_ne _ _ (by omega), upd_ne _ _ (by omega)]; exact h.1
  · rw [upd_ne _ _ (by omega), upd_ne _ _ (by omega)]; exact h.2
  · rw [upd_eq]; decide
/-- nothing but the orders' count and place has changed of the numbers -/
def FO (X0 X : Nat → Int32) : Prop := ∀ k, k ≠ 4 → k ≠ 5 → X k = X0 k
theorem ro_4 {M : gM} {X : Nat → Int32} {A : Nat → Nat → Int32} {p v : Int32} {z : Int32 × (Nat → Int32) × (Nat → Nat → Int32)} (hz : z = f_X2_readOrder M X A p) (h : X 4 = v) : z.2.1 4 = v := by
  rw [hz]; exact (fr_readOrder (by decide)).trans h
theorem ro_F {M : gM} {X X0 : Nat → Int32} {A : Nat → Nat → Int32} {p : Int32} {z : Int32 × (Nat → Int32) × (Nat → Nat → Int32)} (hz : z = f_X2_readOrder M X A p) (h : FO X0 X) : FO X0 z.2.1 := fun k h4 h5 => by
  rw [hz]; exact (fr_readOrder h5).trans (h k h4 h5)
theorem rs_4 {M : gM} {X : Nat → Int32} {A : Nat → Nat → Int32} {p v : Int32} {z : Int32 × (Nat → Int32)} (hz : z = f_X2_readSign M X A p) (h : X 4 = v) : z.2 4 = v := by
  rw [hz]; exact (fr_readSign (by decide)).trans h
theorem rs_F {M : gM} {X X0 : Nat → Int32} {A : Nat → Nat → Int32} {p : Int32} {z : Int32 × (Nat → Int32)} (hz : z = f_X2_readSign M X A p) (h : FO X0 X) : FO X0 z.2 := fun k h4 h5 => by
  rw [hz]; exact (fr_readSign h5).trans (h k h4 h5)
theorem in_eq {x : Int32} {k N : Nat} (h : x = nI k) (hk : k < N) (hN : N < 2 ^ 31) : vp_in x N := h ▸ vp_in_nI hk hN
theorem FO.u {X X0 : Nat → Int32} {v : Int32} (h : FO X0 X) : FO X0 (upd X 4 v) := fun k h4 h5 => (upd_ne _ _ h4).trans (h k h4 h5)
theorem FO.st {X : Nat → Int32} {v w : Int32} : FO X (upd (upd X 4 v) 5 w) := fun k h4 h5 => (upd_ne _ _ h5).trans (upd_ne _ _ h4)
theorem c4_s {X : Nat → Int32} {v : Int32} {k : Nat} (h : v = nI k) : upd X 4 (v + 1) 4 = nI (k + 1) := by
  rw [upd_eq, h, nI_1]
def f_X2_read_l12 (M : gM) : Nat → Nat → (Nat → Int32) → (Nat → Nat → Int32) → Int32 × (Nat → Int32) × (Nat → Nat → Int32)
  | 0, _, Xk, Ak => (0, (Xk, Ak))
  | n + 1, k, Xk, Ak =>
    if 30 ≤ (nI k) then
      (0, (Xk, Ak))
    else
      bd (f_X2_readOrder M Xk Ak (nI k)) fun z2 =>
      if z2.1 = 0 then
        (0, (z2.2.1, z2.2.2))
      else
        bd (((upd z2.2.1 4 ((z2.2.1 4) + 1)) 7)) fun z4 =>
        if ((upd z2.2.1 4 ((z2.2.1 4) + 1)) 5) = z4 then
          (1, (upd z2.2.1 4 ((z2.2.1 4) + 1), z2.2.2))
        else
          bd (f_X2_readSign M (upd z2.2.1 4 ((z2.2.1 4) + 1)) z2.2.2 59) fun z6 =>
          if z6.1 = 0 then
            (0, (z6.2, z2.2.2))
          else
            f_X2_read_l12 M n (k + 1) z6.2 z2.2.2
def f_X2_read (M : gM) (X : Nat → Int32) (A : Nat → Nat → Int32) : Int32 × (Nat → Int32) × (Nat → Nat → Int32) :=
  f_X2_read_l12 M 31 0 (upd (upd X 4 0) 5 0) A
abbrev rm_X2_read : Room := { frames := 9, cells := 0, slots := 0, locals := 314 }
set_option maxRecDepth 100000 in
set_option maxHeartbeats 4000000 in
theorem c_X2_read (l : Launch) (D : gD) (cy : Nat → ClassId) (L : Nat → Nat → Nat) (G : Nat → gM) (X : Nat → Int32) (A : Nat → Nat → Int32) (b : cB) (M : gM) (hI0 : IN X A b) : CtI l D cy (CW cy L) yX2_read cX2_read 3 (some .boolean) rm_X2_read [.ref (L 11 3), .ref (L 11 9)] ((va_up G 0 M, X, A), b) (fun rv u => ∃ z : Int32 × ((Nat → Int32) × (Nat → Nat → Int32)), z = f_X2_read M X A ∧ rv = z.1 ∧ u = ((va_up G 0 M, z.2.1, z.2.2), b) ∧ (rv = 0 ∨ rv = 1) ∧ RD z.2.1 z.2.2 b ∧ vp_in (z.2.1 4) 31 ∧ FO X z.2.1) 0 0 := by
  refine m_entZ cX2_read 3 (by decide) (Nat.le_of_ble_eq_true rfl) (fun J h hR => ?_)
  show J ((va_up G 0 M, X, A), b) (0, 0) [(0, .ref (L 11 3)), (1, .ref (L 11 9))] 0 []
  refine j_aload_n h dX2_read_0 rfl 0 rfl ?_
  refine j_iconst h (v := 0) dX2_read_1 (by decide) ?_
  refine j_put h inlX2 tyX2 tyX2_ok nmX2 (330 + 3) (ml_get 3) rfl 2 (by decide) (xr_17 4 rfl) rfl rfl rfl rfl (Nat.le_of_ble_eq_true rfl) dX2_read_2 (u' := ((va_up G 0 M, upd X 4 0, A), b)) (ml_set rfl rfl) ?_
  refine j_aload_n h dX2_read_5 rfl 0 rfl ?_
  refine j_iconst h (v := 0) dX2_read_6 (by decide) ?_
  refine j_put h inlX2 tyX2 tyX2_ok nmX2 (330 + 3) (ml_get 3) rfl 3 (by decide) (xr_17 5 rfl) rfl rfl rfl rfl (Nat.le_of_ble_eq_true rfl) dX2_read_7 (u' := ((va_up G 0 M, upd (upd X 4 0) 5 0, A), b)) (ml_set rfl rfl) ?_
  refine j_iconst h (v := 0) dX2_read_10 (by decide) ?_
  refine j_istore_n h (lv' := [(2, _), (0, _), (1, _)]) dX2_read_11 rfl (by decide) rfl ?_
  have lp12 : ∀ (n k : Nat) (Xk : Nat → Int32) (Ak : Nat → Nat → Int32), n + k = 31 → k ≤ 30 → RD Xk Ak b → Xk 4 = nI k → FO X Xk → f_X2_read M X A = f_X2_read_l12 M n k Xk Ak → J ((va_up G 0 M, Xk, Ak), b) (0, 0) [(0, .ref (L 11 3)), (1, .ref (L 11 9)), (2, .int (nI k))] 12 [] := by
    intro n
    induction n with
    | zero => intro k Xk Ak hn hk hDk hc4 hFO hf; omega
    | succ n ih =>
      intro k Xk Ak hn hk hDk hc4 hFO hf
      refine j_iload_n h dX2_read_12 rfl 2 rfl ?_
      refine j_bipush h (v := 30) dX2_read_13 (by decide) ?_
      refine j_icmp_ge h (tgt := 70) dX2_read_15 (by decide) (fun c1 => ?_) (fun c1 => ?_)
      · refine j_iconst h (v := 0) dX2_read_70 (by decide) ?_
        exact hR _ _ _ _ dX2_read_71 (Or.inl rfl) ⟨(_, _), Eq.symm (hf.trans ((ite_p c1 rfl))), rfl, rfl, (Or.inl rfl), hDk, (in_eq hc4 (by omega) (by decide)), hFO⟩
      · have hk1 : k < 30 := cnt_lt (c := 30) (by decide) hk (by decide) c1
        refine j_aload_n h dX2_read_18 rfl 0 rfl ?_
        refine j_aload_n h dX2_read_19 rfl 1 rfl ?_
        refine j_iload_n h dX2_read_20 rfl 2 rfl ?_
        refine j_callI h (n := 2) (c_X2_readOrder l D cy L _ _ _ _ _ _ (vp_in_nI (by omega) (by decide)) hDk) (xg_V (xr_17 6 rfl) (xr_17 7 rfl) (xr_17 8 rfl) (xr_2 8 rfl) (xr_17 9 rfl)) rfl rfl (by decide +kernel) ⟨Nat.le_of_ble_eq_true rfl, Nat.le_of_ble_eq_true rfl⟩ (330 + 3) (ml_get 3) rfl rfl rfl rfl (Nat.le_of_ble_eq_true rfl) dX2_read_21 ⟨by decide, by decide⟩ (fun r u' hq => ?_)
        obtain ⟨z2, hz2, rfl, rfl, bz2, qz2_0⟩ := hq
        refine j_if_ne h (tgt := 29) dX2_read_24 (by decide) (fun c3 => ?_) (fun c3 => ?_)
        · refine j_aload_n h dX2_read_29 rfl 0 rfl ?_
          refine j_dup h dX2_read_30 rfl ?_
          refine j_get h inlX2 (330 + 3) (ml_get 3) rfl 2 (by decide) (xr_17 4 rfl) rfl (v := .int (z2.2.1 4)) rfl dX2_read_31 ?_
          refine j_iconst h (v := 1) dX2_read_34 (by decide) ?_
          refine j_iadd h dX2_read_35 ?_
          refine j_put h inlX2 tyX2 tyX2_ok nmX2 (330 + 3) (ml_get 3) rfl 2 (by decide) (xr_17 4 rfl) rfl rfl rfl rfl (Nat.le_of_ble_eq_true rfl) dX2_read_36 (u' := ((va_up G 0 M, upd z2.2.1 4 ((z2.2.1 4) + 1), z2.2.2), b)) (ml_set rfl rfl) ?_
          refine j_aload_n h dX2_read_39 rfl 0 rfl ?_
          refine j_get h inlX2 (330 + 3) (ml_get 3) rfl 3 (by decide) (xr_17 5 rfl) rfl (v := .int ((upd z2.2.1 4 ((z2.2.1 4) + 1)) 5)) rfl dX2_read_40 ?_
          refine j_aload_n h dX2_read_43 rfl 1 rfl ?_
          refine j_callI h (n := 0) (c_I_length l D cy L _ _ _ _ _) (xg_V (xr_17 10 rfl) (xr_12 7 rfl) (xr_12 8 rfl) (xr_2 4 rfl) (xr_12 9 rfl)) rfl rfl (by decide +kernel) ⟨Nat.le_of_ble_eq_true rfl, Nat.le_of_ble_eq_true rfl⟩ (330 + 9) (ml_get 9) rfl rfl rfl rfl (Nat.le_of_ble_eq_true rfl) dX2_read_44 ⟨by decide, by decide⟩ (fun z4 u' hq => ?_)
          obtain ⟨hz4, rfl⟩ := hq
          refine j_icmp_ne h (tgt := 52) dX2_read_47 (by decide) (fun c5 => ?_) (fun c5 => ?_)
          · refine j_aload_n h dX2_read_52 rfl 0 rfl ?_
            refine j_aload_n h dX2_read_53 rfl 1 rfl ?_
            refine j_bipush h (v := 59) dX2_read_54 (by decide) ?_
            refine j_callI h (n := 2) (c_X2_readSign l D cy L _ _ _ _ _ _ (RD.u4 qz2_0)) (xg_V (xr_20 1 rfl) (xr_20 2 rfl) (xr_20 3 rfl) (xr_2 8 rfl) (xr_20 4 rfl)) rfl rfl (by decide +kernel) ⟨Nat.le_of_ble_eq_true rfl, Nat.le_of_ble_eq_true rfl⟩ (330 + 3) (ml_get 3) rfl rfl rfl rfl (Nat.le_of_ble_eq_true rfl) dX2_read_56 ⟨by decide, by decide⟩ (fun r u' hq => ?_)
            obtain ⟨z6, hz6, rfl, rfl, bz6, qz6_0⟩ := hq
            refine j_if_ne h (tgt := 64) dX2_read_59 (by decide) (fun c7 => ?_) (fun c7 => ?_)
            · refine j_iinc h (v := nI (k + 1)) (lv' := [(2, _), (0, _), (1, _)]) dX2_read_64 (k := 2) rfl (nI_1 k) (by decide) rfl ?_
              refine j_goto h (tgt := 12) dX2_read_67 (by decide) ?_
              refine j_sub h [1, 2, 0] rfl ?_
              exact ih (k + 1) _ _ (by omega) (by omega) qz6_0 (rs_4 (z := z6) hz6 (c4_s (X := z2.2.1) (ro_4 (z := z2) hz2 hc4))) (rs_F (z := z6) hz6 (FO.u (ro_F (z := z2) hz2 hFO))) (hf.trans ((ite_n c1 (bd_eq hz2 (ite_n c3 (bd_eq hz4 (ite_n c5 (bd_eq hz6 (ite_n c7 rfl)))))))))
            · refine j_iconst h (v := 0) dX2_read_62 (by decide) ?_
              exact hR _ _ _ _ dX2_read_63 (Or.inl rfl) ⟨(_, _), Eq.symm (hf.trans ((ite_n c1 (bd_eq hz2 (ite_n c3 (bd_eq hz4 (ite_n c5 (bd_eq hz6 (ite_p c7 rfl))))))))), rfl, rfl, (Or.inl rfl), qz6_0, (in_eq (rs_4 (z := z6) hz6 (c4_s (X := z2.2.1) (ro_4 (z := z2) hz2 hc4))) (by omega) (by decide)), (rs_F (z := z6) hz6 (FO.u (ro_F (z := z2) hz2 hFO)))⟩
          · refine j_iconst h (v := 1) dX2_read_50 (by decide) ?_
            exact hR _ _ _ _ dX2_read_51 (Or.inr rfl) ⟨(_, _), Eq.symm (hf.trans ((ite_n c1 (bd_eq hz2 (ite_n c3 (bd_eq hz4 (ite_p c5 rfl))))))), rfl, rfl, (Or.inr rfl), (RD.u4 qz2_0), (in_eq (c4_s (X := z2.2.1) (ro_4 (z := z2) hz2 hc4)) (by omega) (by decide)), (FO.u (ro_F (z := z2) hz2 hFO))⟩
        · refine j_iconst h (v := 0) dX2_read_27 (by decide) ?_
          exact hR _ _ _ _ dX2_read_28 (Or.inl rfl) ⟨(_, _), Eq.symm (hf.trans ((ite_n c1 (bd_eq hz2 (ite_p c3 rfl))))), rfl, rfl, (Or.inl rfl), qz2_0, (in_eq (ro_4 (z := z2) hz2 hc4) (by omega) (by decide)), (ro_F (z := z2) hz2 hFO)⟩
  refine j_sub h [1, 2, 0] rfl ?_
  exact lp12 31 0 _ _ (by omega) (by omega) hI0.rd rfl FO.st (rfl)

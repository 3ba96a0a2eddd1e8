def f_X7_account (M : gM) (X : Nat → Int32) (A : Nat → Nat → Int32) (p1 : Int32) : Int32 :=
  if p1 = 0 then
    (M.1 5)
  else
    if p1 = 1 then
      (M.1 6)
    else
      if p1 = 2 then
        (M.1 7)
      else
        if p1 = 3 then
          (M.1 3)
        else
          if p1 = 4 then
            (M.1 4)
          else
            if p1 = 5 then
              bd (f_X1_endsPlayed M) fun z7 =>
              z7
            else
              if p1 = 6 then
                bd (f_X1_endsClosed M) fun z9 =>
                z9
              else
                if p1 = 7 then
                  bd (f_X1_woodsBowled M) fun z11 =>
                  z11
                else
                  if p1 = 8 then
                    (M.1 8)
                  else
                    if p1 = 9 then
                      (M.1 9)
                    else
                      if p1 = 10 then
                        bd (f_X1_allCasts M) fun z15 =>
                        z15
                      else
                        if p1 = 11 then
                          (M.1 10)
                        else
                          if p1 = 12 then
                            bd (f_X1_woodsInShed M) fun z18 =>
                            z18
                          else
                            if p1 = 13 then
                              bd ((X 7)) fun z20 =>
                              z20
                            else
                              if p1 = 14 then
                                (X 3)
                              else
                                (-2)
abbrev rm_X7_account : Room := { frames := 2, cells := 0, slots := 0, locals := 43 }
set_option maxRecDepth 100000 in
set_option maxHeartbeats 4000000 in
theorem c_X7_account (l : Launch) (D : gD) (cy : Nat → ClassId) (L : Nat → Nat → Nat) (G : Nat → gM) (X : Nat → Int32) (A : Nat → Nat → Int32) (b : cB) (M : gM) (p1 : Int32) (hG : GI M) : CtI l D cy (CW cy L) yX7_account cX7_account 2 (some .int) rm_X7_account [.ref (L 11 0), .int p1] ((va_up G 0 M, X, A), b) (fun rv u => rv = f_X7_account M X A p1 ∧ u = ((va_up G 0 M, X, A), b)) 0 0 := by
  refine m_entI cX7_account 2 (by decide) (Nat.le_of_ble_eq_true rfl) (fun J h hR => ?_)
  show J ((va_up G 0 M, X, A), b) (0, 0) [(0, .ref (L 11 0)), (1, .int p1)] 0 []
  refine j_iload_n h dX7_account_0 rfl 1 rfl ?_
  by_cases c1 : p1 = 0
  · refine j_tableIn h (tgt := 76) dX7_account_1 (by rw [c1]; decide) (by rw [c1]; decide) (by rw [c1]; rfl) (by decide) ?_
    refine j_aload_n h dX7_account_76 rfl 0 rfl ?_
    refine j_get h inlX7 (330 + 0) (ml_get 0) rfl 0 (by decide) (xr_1 19 rfl) rfl (v := .ref (L 0 0)) rfl dX7_account_77 ?_
    refine j_get h inlX1 (30 * 0 + 0) (at_G (by decide)) rfl 5 (by decide) (xr_8 5 rfl) rfl (v := .int (M.1 5)) rfl dX7_account_80 ?_
    exact hR _ _ _ _ dX7_account_83 ⟨Eq.symm ((ite_p c1 rfl)), rfl⟩
  by_cases c2 : p1 = 1
  · refine j_tableIn h (tgt := 84) dX7_account_1 (by rw [c2]; decide) (by rw [c2]; decide) (by rw [c2]; rfl) (by decide) ?_
    refine j_aload_n h dX7_account_84 rfl 0 rfl ?_
    refine j_get h inlX7 (330 + 0) (ml_get 0) rfl 0 (by decide) (xr_1 19 rfl) rfl (v := .ref (L 0 0)) rfl dX7_account_85 ?_
    refine j_get h inlX1 (30 * 0 + 0) (at_G (by decide)) rfl 6 (by decide) (xr_10 22 rfl) rfl (v := .int (M.1 6)) rfl dX7_account_88 ?_
    exact hR _ _ _ _ dX7_account_91 ⟨Eq.symm ((ite_n c1 (ite_p c2 rfl))), rfl⟩
  by_cases c3 : p1 = 2
  · refine j_tableIn h (tgt := 92) dX7_account_1 (by rw [c3]; decide) (by rw [c3]; decide) (by rw [c3]; rfl) (by decide) ?_
    refine j_aload_n h dX7_account_92 rfl 0 rfl ?_
    refine j_get h inlX7 (330 + 0) (ml_get 0) rfl 0 (by decide) (xr_1 19 rfl) rfl (v := .ref (L 0 0)) rfl dX7_account_93 ?_
    refine j_get h inlX1 (30 * 0 + 0) (at_G (by decide)) rfl 7 (by decide) (xr_10 23 rfl) rfl (v := .int (M.1 7)) rfl dX7_account_96 ?_
    exact hR _ _ _ _ dX7_account_99 ⟨Eq.symm ((ite_n c1 (ite_n c2 (ite_p c3 rfl)))), rfl⟩
  by_cases c4 : p1 = 3
  · refine j_tableIn h (tgt := 100) dX7_account_1 (by rw [c4]; decide) (by rw [c4]; decide) (by rw [c4]; rfl) (by decide) ?_
    refine j_aload_n h dX7_account_100 rfl 0 rfl ?_
    refine j_get h inlX7 (330 + 0) (ml_get 0) rfl 0 (by decide) (xr_1 19 rfl) rfl (v := .ref (L 0 0)) rfl dX7_account_101 ?_
    refine j_get h inlX1 (30 * 0 + 0) (at_G (by decide)) rfl 3 (by decide) (xr_11 0 rfl) rfl (v := .int (M.1 3)) rfl dX7_account_104 ?_
    exact hR _ _ _ _ dX7_account_107 ⟨Eq.symm ((ite_n c1 (ite_n c2 (ite_n c3 (ite_p c4 rfl))))), rfl⟩
  by_cases c5 : p1 = 4
  · refine j_tableIn h (tgt := 108) dX7_account_1 (by rw [c5]; decide) (by rw [c5]; decide) (by rw [c5]; rfl) (by decide) ?_
    refine j_aload_n h dX7_account_108 rfl 0 rfl ?_
    refine j_get h inlX7 (330 + 0) (ml_get 0) rfl 0 (by decide) (xr_1 19 rfl) rfl (v := .ref (L 0 0)) rfl dX7_account_109 ?_
    refine j_get h inlX1 (30 * 0 + 0) (at_G (by decide)) rfl 4 (by decide) (xr_11 1 rfl) rfl (v := .int (M.1 4)) rfl dX7_account_112 ?_
    exact hR _ _ _ _ dX7_account_115 ⟨Eq.symm ((ite_n c1 (ite_n c2 (ite_n c3 (ite_n c4 (ite_p c5 rfl)))))), rfl⟩
  by_cases c6 : p1 = 5
  · refine j_tableIn h (tgt := 116) dX7_account_1 (by rw [c6]; decide) (by rw [c6]; decide) (by rw [c6]; rfl) (by decide) ?_
    refine j_aload_n h dX7_account_116 rfl 0 rfl ?_
    refine j_get h inlX7 (330 + 0) (ml_get 0) rfl 0 (by decide) (xr_1 19 rfl) rfl (v := .ref (L 0 0)) rfl dX7_account_117 ?_
    refine j_callI h (n := 0) (c_X1_endsPlayed l D cy L _ _ _ _ _ (by decide) (hG).r) (xg_V (xr_11 5 rfl) (xr_11 6 rfl) (xr_11 7 rfl) (xr_1 18 rfl) (xr_11 8 rfl)) rfl rfl (by decide +kernel) ⟨Nat.le_of_ble_eq_true rfl, Nat.le_of_ble_eq_true rfl⟩ (30 * 0 + 0) (at_G (by decide)) rfl rfl rfl rfl (Nat.le_of_ble_eq_true rfl) dX7_account_120 ⟨by decide, by decide⟩ (fun z7 u' hq => ?_)
    obtain ⟨hz7, rfl⟩ := hq
    exact hR _ _ _ _ dX7_account_123 ⟨Eq.symm ((ite_n c1 (ite_n c2 (ite_n c3 (ite_n c4 (ite_n c5 (ite_p c6 (bd_eq hz7 rfl)))))))), rfl⟩
  by_cases c8 : p1 = 6
  · refine j_tableIn h (tgt := 124) dX7_account_1 (by rw [c8]; decide) (by rw [c8]; decide) (by rw [c8]; rfl) (by decide) ?_
    refine j_aload_n h dX7_account_124 rfl 0 rfl ?_
    refine j_get h inlX7 (330 + 0) (ml_get 0) rfl 0 (by decide) (xr_1 19 rfl) rfl (v := .ref (L 0 0)) rfl dX7_account_125 ?_
    refine j_callI h (n := 0) (c_X1_endsClosed l D cy L _ _ _ _ _ (by decide) (hG).r) (xg_V (xr_11 10 rfl) (xr_11 11 rfl) (xr_11 12 rfl) (xr_1 18 rfl) (xr_11 13 rfl)) rfl rfl (by decide +kernel) ⟨Nat.le_of_ble_eq_true rfl, Nat.le_of_ble_eq_true rfl⟩ (30 * 0 + 0) (at_G (by decide)) rfl rfl rfl rfl (Nat.le_of_ble_eq_true rfl) dX7_account_128 ⟨by decide, by decide⟩ (fun z9 u' hq => ?_)
    obtain ⟨hz9, rfl⟩ := hq
    exact hR _ _ _ _ dX7_account_131 ⟨Eq.symm ((ite_n c1 (ite_n c2 (ite_n c3 (ite_n c4 (ite_n c5 (ite_n c6 (ite_p c8 (bd_eq hz9 rfl))))))))), rfl⟩
  by_cases c10 : p1 = 7
  · refine j_tableIn h (tgt := 132) dX7_account_1 (by rw [c10]; decide) (by rw [c10]; decide) (by rw [c10]; rfl) (by decide) ?_
    refine j_aload_n h dX7_account_132 rfl 0 rfl ?_
    refine j_get h inlX7 (330 + 0) (ml_get 0) rfl 0 (by decide) (xr_1 19 rfl) rfl (v := .ref (L 0 0)) rfl dX7_account_133 ?_
    refine j_callI h (n := 0) (c_X1_woodsBowled l D cy L _ _ _ _ _ (by decide) (hG).w) (xg_V (xr_11 15 rfl) (xr_11 16 rfl) (xr_11 17 rfl) (xr_1 18 rfl) (xr_11 18 rfl)) rfl rfl (by decide +kernel) ⟨Nat.le_of_ble_eq_true rfl, Nat.le_of_ble_eq_true rfl⟩ (30 * 0 + 0) (at_G (by decide)) rfl rfl rfl rfl (Nat.le_of_ble_eq_true rfl) dX7_account_136 ⟨by decide, by decide⟩ (fun z11 u' hq => ?_)
    obtain ⟨hz11, rfl⟩ := hq
    exact hR _ _ _ _ dX7_account_139 ⟨Eq.symm ((ite_n c1 (ite_n c2 (ite_n c3 (ite_n c4 (ite_n c5 (ite_n c6 (ite_n c8 (ite_p c10 (bd_eq hz11 rfl)))))))))), rfl⟩
  by_cases c12 : p1 = 8
  · refine j_tableIn h (tgt := 140) dX7_account_1 (by rw [c12]; decide) (by rw [c12]; decide) (by rw [c12]; rfl) (by decide) ?_
    refine j_aload_n h dX7_account_140 rfl 0 rfl ?_
    refine j_get h inlX7 (330 + 0) (ml_get 0) rfl 0 (by decide) (xr_1 19 rfl) rfl (v := .ref (L 0 0)) rfl dX7_account_141 ?_
    refine j_get h inlX1 (30 * 0 + 0) (at_G (by decide)) rfl 8 (by decide) (xr_11 2 rfl) rfl (v := .int (M.1 8)) rfl dX7_account_144 ?_
    exact hR _ _ _ _ dX7_account_147 ⟨Eq.symm ((ite_n c1 (ite_n c2 (ite_n c3 (ite_n c4 (ite_n c5 (ite_n c6 (ite_n c8 (ite_n c10 (ite_p c12 rfl)))))))))), rfl⟩
  by_cases c13 : p1 = 9
  · refine j_tableIn h (tgt := 148) dX7_account_1 (by rw [c13]; decide) (by rw [c13]; decide) (by rw [c13]; rfl) (by decide) ?_
    refine j_aload_n h dX7_account_148 rfl 0 rfl ?_
    refine j_get h inlX7 (330 + 0) (ml_get 0) rfl 0 (by decide) (xr_1 19 rfl) rfl (v := .ref (L 0 0)) rfl dX7_account_149 ?_
    refine j_get h inlX1 (30 * 0 + 0) (at_G (by decide)) rfl 9 (by decide) (xr_11 3 rfl) rfl (v := .int (M.1 9)) rfl dX7_account_152 ?_
    exact hR _ _ _ _ dX7_account_155 ⟨Eq.symm ((ite_n c1 (ite_n c2 (ite_n c3 (ite_n c4 (ite_n c5 (ite_n c6 (ite_n c8 (ite_n c10 (ite_n c12 (ite_p c13 rfl))))))))))), rfl⟩
  by_cases c14 : p1 = 10
  · refine j_tableIn h (tgt := 156) dX7_account_1 (by rw [c14]; decide) (by rw [c14]; decide) (by rw [c14]; rfl) (by decide) ?_
    refine j_aload_n h dX7_account_156 rfl 0 rfl ?_
    refine j_get h inlX7 (330 + 0) (ml_get 0) rfl 0 (by decide) (xr_1 19 rfl) rfl (v := .ref (L 0 0)) rfl dX7_account_157 ?_
    refine j_callI h (n := 0) (c_X1_allCasts l D cy L _ _ _ _ _ (by decide) (hG).r) (xg_V (xr_10 2 rfl) (xr_10 3 rfl) (xr_10 4 rfl) (xr_1 18 rfl) (xr_10 5 rfl)) rfl rfl (by decide +kernel) ⟨Nat.le_of_ble_eq_true rfl, Nat.le_of_ble_eq_true rfl⟩ (30 * 0 + 0) (at_G (by decide)) rfl rfl rfl rfl (Nat.le_of_ble_eq_true rfl) dX7_account_160 ⟨by decide, by decide⟩ (fun z15 u' hq => ?_)
    obtain ⟨hz15, rfl⟩ := hq
    exact hR _ _ _ _ dX7_account_163 ⟨Eq.symm ((ite_n c1 (ite_n c2 (ite_n c3 (ite_n c4 (ite_n c5 (ite_n c6 (ite_n c8 (ite_n c10 (ite_n c12 (ite_n c13 (ite_p c14 (bd_eq hz15 rfl))))))))))))), rfl⟩
  by_cases c16 : p1 = 11
  · refine j_tableIn h (tgt := 164) dX7_account_1 (by rw [c16]; decide) (by rw [c16]; decide) (by rw [c16]; rfl) (by decide) ?_
    refine j_aload_n h dX7_account_164 rfl 0 rfl ?_
    refine j_get h inlX7 (330 + 0) (ml_get 0) rfl 0 (by decide) (xr_1 19 rfl) rfl (v := .ref (L 0 0)) rfl dX7_account_165 ?_
    refine j_get h inlX1 (30 * 0 + 0) (at_G (by decide)) rfl 10 (by decide) (xr_11 4 rfl) rfl (v := .int (M.1 10)) rfl dX7_account_168 ?_
    exact hR _ _ _ _ dX7_account_171 ⟨Eq.symm ((ite_n c1 (ite_n c2 (ite_n c3 (ite_n c4 (ite_n c5 (ite_n c6 (ite_n c8 (ite_n c10 (ite_n c12 (ite_n c13 (ite_n c14 (ite_p c16 rfl))))))))))))), rfl⟩
  by_cases c17 : p1 = 12
  · refine j_tableIn h (tgt := 172) dX7_account_1 (by rw [c17]; decide) (by rw [c17]; decide) (by rw [c17]; rfl) (by decide) ?_
    refine j_aload_n h dX7_account_172 rfl 0 rfl ?_
    refine j_get h inlX7 (330 + 0) (ml_get 0) rfl 0 (by decide) (xr_1 19 rfl) rfl (v := .ref (L 0 0)) rfl dX7_account_173 ?_
    refine j_callI h (n := 0) (c_X1_woodsInShed l D cy L _ _ _ _ _ (by decide) (hG).w) (xg_V (xr_11 20 rfl) (xr_11 21 rfl) (xr_11 22 rfl) (xr_1 18 rfl) (xr_11 23 rfl)) rfl rfl (by decide +kernel) ⟨Nat.le_of_ble_eq_true rfl, Nat.le_of_ble_eq_true rfl⟩ (30 * 0 + 0) (at_G (by decide)) rfl rfl rfl rfl (Nat.le_of_ble_eq_true rfl) dX7_account_176 ⟨by decide, by decide⟩ (fun z18 u' hq => ?_)
    obtain ⟨hz18, rfl⟩ := hq
    exact hR _ _ _ _ dX7_account_179 ⟨Eq.symm ((ite_n c1 (ite_n c2 (ite_n c3 (ite_n c4 (ite_n c5 (ite_n c6 (ite_n c8 (ite_n c10 (ite_n c12 (ite_n c13 (ite_n c14 (ite_n c16 (ite_p c17 (bd_eq hz18 rfl))))))))))))))), rfl⟩
  by_cases c19 : p1 = 13
  · refine j_tableIn h (tgt := 180) dX7_account_1 (by rw [c19]; decide) (by rw [c19]; decide) (by rw [c19]; rfl) (by decide) ?_
    refine j_aload_n h dX7_account_180 rfl 0 rfl ?_
    refine j_get h inlX7 (330 + 0) (ml_get 0) rfl 4 (by decide) (xr_2 5 rfl) rfl (v := .ref (L 11 9)) rfl dX7_account_181 ?_
    refine j_callI h (n := 0) (c_I_length l D cy L _ _ _ _ _) (xg_V (xr_12 6 rfl) (xr_12 7 rfl) (xr_12 8 rfl) (xr_2 4 rfl) (xr_12 9 rfl)) rfl rfl (by decide +kernel) ⟨Nat.le_of_ble_eq_true rfl, Nat.le_of_ble_eq_true rfl⟩ (330 + 9) (ml_get 9) rfl rfl rfl rfl (Nat.le_of_ble_eq_true rfl) dX7_account_184 ⟨by decide, by decide⟩ (fun z20 u' hq => ?_)
    obtain ⟨hz20, rfl⟩ := hq
    exact hR _ _ _ _ dX7_account_187 ⟨Eq.symm ((ite_n c1 (ite_n c2 (ite_n c3 (ite_n c4 (ite_n c5 (ite_n c6 (ite_n c8 (ite_n c10 (ite_n c12 (ite_n c13 (ite_n c14 (ite_n c16 (ite_n c17 (ite_p c19 (bd_eq hz20 rfl)))))))))))))))), rfl⟩
  by_cases c21 : p1 = 14
  · refine j_tableIn h (tgt := 188) dX7_account_1 (by rw [c21]; decide) (by rw [c21]; decide) (by rw [c21]; rfl) (by decide) ?_
    refine j_aload_n h dX7_account_188 rfl 0 rfl ?_
    refine j_get h inlX7 (330 + 0) (ml_get 0) rfl 3 (by decide) (xr_2 1 rfl) rfl (v := .ref (L 11 1)) rfl dX7_account_189 ?_
    refine j_get h inlX3 (330 + 1) (ml_get 1) rfl 2 (by decide) (xr_6 10 rfl) rfl (v := .int (X 3)) rfl dX7_account_192 ?_
    exact hR _ _ _ _ dX7_account_195 ⟨Eq.symm ((ite_n c1 (ite_n c2 (ite_n c3 (ite_n c4 (ite_n c5 (ite_n c6 (ite_n c8 (ite_n c10 (ite_n c12 (ite_n c13 (ite_n c14 (ite_n c16 (ite_n c17 (ite_n c19 (ite_p c21 rfl)))))))))))))))), rfl⟩
  refine j_tableOut h (tgt := 196) dX7_account_1 (sw_out15 p1 c1 c2 c3 c4 c5 c6 c8 c10 c12 c13 c14 c16 c17 c19 c21) (by decide) ?_
  refine j_bipush h (v := (-2)) dX7_account_196 (by decide) ?_
  exact hR _ _ _ _ dX7_account_198 ⟨Eq.symm ((ite_n c1 (ite_n c2 (ite_n c3 (ite_n c4 (ite_n c5 (ite_n c6 (ite_n c8 (ite_n c10 (ite_n c12 (ite_n c13 (ite_n c14 (ite_n c16 (ite_n c17 (ite_n c19 (ite_n c21 rfl)))))))))))))))), rfl⟩

theorem isWood_lt {M : gM} {p z : Int32} (hz : z = f_X1_isWood M p) (h : ¬ z = 0) : p < M.1 4 := by
  unfold f_X1_isWood at hz
  split at hz
  · exact absurd hz h
  · split at hz
    · exact absurd hz h
    · rename_i h1 h2
      exact Int32.not_le.mp h2
theorem isRink_lt {M : gM} {p z : Int32} (hz : z = f_X1_isRink M p) (h : ¬ z = 0) : p < M.1 3 := by
  unfold f_X1_isRink at hz
  split at hz
  · exact absurd hz h
  · split at hz
    · exact absurd hz h
    · rename_i h1 h2
      exact Int32.not_le.mp h2
def f_X7_writeWood (M : gM) (p1 : Int32) (T : List Nat) : List Nat :=
  bd (f_X1_isWood M p1) fun z1 =>
  if z1 = 0 then
    T
  else
    ((((T ++ [32]) ++ digs p1.toNatClampNeg) ++ [47]) ++ digs ((M.2.2.1 p1.toNatClampNeg 6).toNatClampNeg))
abbrev rm_X7_writeWood : Room := { frames := 6, cells := 4, slots := 888, locals := 160 }
set_option maxRecDepth 100000 in
set_option maxHeartbeats 4000000 in
theorem c_X7_writeWood (l : Launch) (D : gD) (cy : Nat → ClassId) (L : Nat → Nat → Nat) (G : Nat → gM) (X : Nat → Int32) (A : Nat → Nat → Int32) (b : cB) (M : gM) (p1 : Int32) (T : List Nat) (X0 : Nat → Int32) (A0 : Nat → Nat → Int32) (b0 : cB) (hL : LK X0 A0 b0 T X A b) (hB : T.length ≤ 102) (hG : GI M) (hDs : ∀ w : Nat, w < 16 → nI w < M.1 4 → ¬ M.2.2.1 w 6 < 0 ∧ M.2.2.1 w 6 < nI 10000) : CtV l D cy (CW cy L) yX7_writeWood cX7_writeWood 2 none rm_X7_writeWood [.ref (L 11 0), .int p1] ((va_up G 0 M, X, A), b) (fun u => ∃ z : List Nat, z = f_X7_writeWood M p1 T ∧ ∃ (X9 : Nat → Int32) (A9 : Nat → Nat → Int32) (b9 : cB), u = ((va_up G 0 M, X9, A9), b9) ∧ LK X0 A0 b0 z X9 A9 b9 ∧ z.length ≤ T.length + 8) 4 888 := by
  refine m_entV cX7_writeWood 2 (by decide) (Nat.le_of_ble_eq_true rfl) (fun J h hR => ?_)
  show J ((va_up G 0 M, X, A), b) (0, 0) [(0, .ref (L 11 0)), (1, .int p1)] 0 []
  have hBs : T.length ≤ T.length + 0 := Nat.le_refl _
  refine j_aload_n h dX7_writeWood_0 rfl 0 rfl ?_
  refine j_get h inlX7 (330 + 0) (ml_get 0) rfl 0 (by decide) (xr_1 19 rfl) rfl (v := .ref (L 0 0)) rfl dX7_writeWood_1 ?_
  refine j_iload_n h dX7_writeWood_4 rfl 1 rfl ?_
  refine j_callI h (n := 1) (c_X1_isWood l D cy L _ _ _ _ _ (by decide) _) (xg_V (xr_23 1 rfl) (xr_23 2 rfl) (xr_23 3 rfl) (xr_1 18 rfl) (xr_23 4 rfl)) rfl rfl (by decide +kernel) ⟨Nat.le_of_ble_eq_true rfl, Nat.le_of_ble_eq_true rfl⟩ (30 * 0 + 0) (at_G (by decide)) rfl rfl rfl rfl (Nat.le_of_ble_eq_true rfl) dX7_writeWood_5 ⟨by decide, by decide⟩ (fun z1 u' hq => ?_)
  obtain ⟨hz1, rfl, bz1⟩ := hq
  refine j_if_eq h (tgt := 45) dX7_writeWood_8 (by decide) (fun c2 => ?_) (fun c2 => ?_)
  · refine j_widen h (k := 4) (n := 888) (by show 0 ≤ 4; omega) (by show 0 ≤ 888; omega) ?_
    exact hR _ _ _ dX7_writeWood_45 ⟨_, Eq.symm ((bd_eq hz1 (ite_p c2 rfl))), _, _, _, rfl, hL, by omega⟩
  · have vp1 : vp_in (p1) 16 := isWood_in (hG).w hz1 c2
    have bp1 : (p1).toNatClampNeg < 16 := vp_lt vp1
    have ep1 : p1 = nI (p1).toNatClampNeg := vp_nI vp1 (by decide)
    have hw4 : p1 < M.1 4 := isWood_lt hz1 c2
    have hd6 := hDs p1.toNatClampNeg bp1 (ep1 ▸ hw4)
    have hd7 := (digs_n hd6.1 hd6.2 (by decide)).2
    refine j_aload_n h dX7_writeWood_11 rfl 0 rfl ?_
    refine j_get h inlX7 (330 + 0) (ml_get 0) rfl 8 (by decide) (xr_2 15 rfl) rfl (v := .ref (L 11 10)) rfl dX7_writeWood_12 ?_
    refine j_bipush h (v := 32) dX7_writeWood_15 (by decide) ?_
    refine j_world h (u' := putL (va_up G 0 M) X A b (X 10, nI T.length, b.2.2.1, b.2.2.2, A 5)) (lensL_eq hL.2.2.2.2.1) ?_
    have hc3 := c_J4_append_cf468 l D cy (lensL (cy := cy) (L := L) (va_up G 0 M) X A b) (X 10) (n := T.length) b.2.2.1 (m := b.2.2.2) (f := A 5) (ch := 32) (by decide) hL.2.2.2.2.2.1 hL.2.2.2.2.2.2.1 hL.2.2.2.2.2.2.2.1
    have hq3 : (T.length + 1) ≤ 110 := by have := hBs; omega
    refine j_callA h (n := 1) hc3 (xg_V (xr_12 20 rfl) (xr_12 21 rfl) (xr_12 22 rfl) (xr_2 4 rfl) (xr_12 23 rfl)) rfl rfl (by decide +kernel) ⟨Nat.le_of_ble_eq_true rfl, Nat.le_of_ble_eq_true rfl⟩ (330 + 10) ((lensL (va_up G 0 M) X A b).2.1 _) rfl rfl rfl rfl (Nat.le_of_ble_eq_true rfl) dX7_writeWood_17 ⟨by have := kE_le (T.length + 1) b.2.2.2; show 0 + kE (T.length + 1) b.2.2.2 ≤ 4; omega, by have := sE_le (m := b.2.2.2) hq3; show 0 + sE (T.length + 1) b.2.2.2 ≤ 888; omega⟩ (fun r u' hq => ?_)
    obtain ⟨rfl, a3, f3, rfl, g3a, g3b, g3c⟩ := hq
    refine j_widen h (k := 1) (n := 222) (by have := kE_le (T.length + 1) b.2.2.2; show 0 + kE (T.length + 1) b.2.2.2 ≤ 1; omega) (by have := sE_le (m := b.2.2.2) hq3; show 0 + sE (T.length + 1) b.2.2.2 ≤ 222; omega) ?_
    obtain ⟨X3, A3, b3, e3, hL3⟩ := LK.ch (G := (va_up G 0 M)) hL (c := 32) (by decide) hq3 g3a g3b g3c
    refine j_world h (congrArg _ e3) ?_
    have hB3 : (T ++ [32]).length ≤ T.length + 0 + 1 := by rw [List.length_append, List.length_singleton]; have := hBs; omega
    refine j_iload_n h dX7_writeWood_20 rfl 1 rfl ?_
    refine j_world h (u' := putL (va_up G 0 M) X3 A3 b3 (X3 10, nI (T ++ [32]).length, b3.2.2.1, b3.2.2.2, A3 5)) (lensL_eq hL3.2.2.2.2.1) ?_
    have hc4 := c_J4_append_bf812 l D cy (lensL (cy := cy) (L := L) (va_up G 0 M) X3 A3 b3) (X3 10) (n := (T ++ [32]).length) b3.2.2.1 (m := b3.2.2.2) (f := A3 5) (v := p1.toNatClampNeg) (by omega) hL3.2.2.2.2.2.1 hL3.2.2.2.2.2.2.1 hL3.2.2.2.2.2.2.2.1
    rw [← show p1 = nI p1.toNatClampNeg from ep1] at hc4
    have hq4 : ((T ++ [32]).length + sb_dg p1.toNatClampNeg) ≤ 110 := by have hx := dg_2 (v := p1.toNatClampNeg) (by omega); have := hB3; omega
    refine j_callA h (n := 1) hc4 (xg_V (xr_34 4 rfl) (xr_34 5 rfl) (xr_34 6 rfl) (xr_2 4 rfl) (xr_34 7 rfl)) rfl rfl (by decide +kernel) ⟨Nat.le_of_ble_eq_true rfl, Nat.le_of_ble_eq_true rfl⟩ (330 + 10) ((lensL (va_up G 0 M) X3 A3 b3).2.1 _) rfl rfl rfl rfl (Nat.le_of_ble_eq_true rfl) dX7_writeWood_21 ⟨by have := kE_le ((T ++ [32]).length + sb_dg p1.toNatClampNeg) b3.2.2.2; show 1 + kE ((T ++ [32]).length + sb_dg p1.toNatClampNeg) b3.2.2.2 ≤ 4; omega, by have := sE_le (m := b3.2.2.2) hq4; show 222 + sE ((T ++ [32]).length + sb_dg p1.toNatClampNeg) b3.2.2.2 ≤ 888; omega⟩ (fun r u' hq => ?_)
    obtain ⟨rfl, a4, f4, rfl, g4a, g4b, g4c⟩ := hq
    refine j_widen h (k := 2) (n := 444) (by have := kE_le ((T ++ [32]).length + sb_dg p1.toNatClampNeg) b3.2.2.2; show 1 + kE ((T ++ [32]).length + sb_dg p1.toNatClampNeg) b3.2.2.2 ≤ 2; omega) (by have := sE_le (m := b3.2.2.2) hq4; show 222 + sE ((T ++ [32]).length + sb_dg p1.toNatClampNeg) b3.2.2.2 ≤ 444; omega) ?_
    obtain ⟨X4, A4, b4, e4, hL4⟩ := LK.int (G := (va_up G 0 M)) hL3 hq4 g4a g4b g4c
    refine j_world h (congrArg _ e4) ?_
    have hB4 : ((T ++ [32]) ++ digs p1.toNatClampNeg).length ≤ T.length + 0 + 1 + 2 := by rw [List.length_append, digs_len]; have hx := dg_2 (v := p1.toNatClampNeg) (by omega); have := hB3; omega
    refine j_bipush h (v := 47) dX7_writeWood_24 (by decide) ?_
    refine j_world h (u' := putL (va_up G 0 M) X4 A4 b4 (X4 10, nI ((T ++ [32]) ++ digs p1.toNatClampNeg).length, b4.2.2.1, b4.2.2.2, A4 5)) (lensL_eq hL4.2.2.2.2.1) ?_
    have hc5 := c_J4_append_cf468 l D cy (lensL (cy := cy) (L := L) (va_up G 0 M) X4 A4 b4) (X4 10) (n := ((T ++ [32]) ++ digs p1.toNatClampNeg).length) b4.2.2.1 (m := b4.2.2.2) (f := A4 5) (ch := 47) (by decide) hL4.2.2.2.2.2.1 hL4.2.2.2.2.2.2.1 hL4.2.2.2.2.2.2.2.1
    have hq5 : (((T ++ [32]) ++ digs p1.toNatClampNeg).length + 1) ≤ 110 := by have := hB4; omega
    refine j_callA h (n := 1) hc5 (xg_V (xr_12 20 rfl) (xr_12 21 rfl) (xr_12 22 rfl) (xr_2 4 rfl) (xr_12 23 rfl)) rfl rfl (by decide +kernel) ⟨Nat.le_of_ble_eq_true rfl, Nat.le_of_ble_eq_true rfl⟩ (330 + 10) ((lensL (va_up G 0 M) X4 A4 b4).2.1 _) rfl rfl rfl rfl (Nat.le_of_ble_eq_true rfl) dX7_writeWood_26 ⟨by have := kE_le (((T ++ [32]) ++ digs p1.toNatClampNeg).length + 1) b4.2.2.2; show 2 + kE (((T ++ [32]) ++ digs p1.toNatClampNeg).length + 1) b4.2.2.2 ≤ 4; omega, by have := sE_le (m := b4.2.2.2) hq5; show 444 + sE (((T ++ [32]) ++ digs p1.toNatClampNeg).length + 1) b4.2.2.2 ≤ 888; omega⟩ (fun r u' hq => ?_)
    obtain ⟨rfl, a5, f5, rfl, g5a, g5b, g5c⟩ := hq
    refine j_widen h (k := 3) (n := 666) (by have := kE_le (((T ++ [32]) ++ digs p1.toNatClampNeg).length + 1) b4.2.2.2; show 2 + kE (((T ++ [32]) ++ digs p1.toNatClampNeg).length + 1) b4.2.2.2 ≤ 3; omega) (by have := sE_le (m := b4.2.2.2) hq5; show 444 + sE (((T ++ [32]) ++ digs p1.toNatClampNeg).length + 1) b4.2.2.2 ≤ 666; omega) ?_
    obtain ⟨X5, A5, b5, e5, hL5⟩ := LK.ch (G := (va_up G 0 M)) hL4 (c := 47) (by decide) hq5 g5a g5b g5c
    refine j_world h (congrArg _ e5) ?_
    have hB5 : (((T ++ [32]) ++ digs p1.toNatClampNeg) ++ [47]).length ≤ T.length + 0 + 1 + 2 + 1 := by rw [List.length_append, List.length_singleton]; have := hB4; omega
    refine j_aload_n h dX7_writeWood_29 rfl 0 rfl ?_
    refine j_get h inlX7 (330 + 0) (ml_get 0) rfl 0 (by decide) (xr_1 19 rfl) rfl (v := .ref (L 0 0)) rfl dX7_writeWood_30 ?_
    refine j_get h inlX1 (30 * 0 + 0) (at_G (by decide)) rfl 1 (by decide) (xr_22 16 rfl) rfl (v := .ref (L 0 2)) rfl dX7_writeWood_33 ?_
    refine j_iload_n h dX7_writeWood_36 rfl 1 rfl ?_
    refine j_aaldE h (30 * 0 + 2) 2 (at_Wa (by decide)) rfl p1.toNatClampNeg ep1 (by omega) (by decide) dX7_writeWood_37 ?_
    refine j_get h inlX6 (30 * 0 + (12 + p1.toNatClampNeg)) (at_W (by decide) (by omega)) rfl 6 (by decide) (xr_23 0 rfl) rfl (v := .int (M.2.2.1 p1.toNatClampNeg 6)) rfl dX7_writeWood_38 ?_
    refine j_world h (u' := putL (va_up G 0 M) X5 A5 b5 (X5 10, nI (((T ++ [32]) ++ digs p1.toNatClampNeg) ++ [47]).length, b5.2.2.1, b5.2.2.2, A5 5)) (lensL_eq hL5.2.2.2.2.1) ?_
    have hc6 := c_J4_append_bf812 l D cy (lensL (cy := cy) (L := L) (va_up G 0 M) X5 A5 b5) (X5 10) (n := (((T ++ [32]) ++ digs p1.toNatClampNeg) ++ [47]).length) b5.2.2.1 (m := b5.2.2.2) (f := A5 5) (v := (M.2.2.1 p1.toNatClampNeg 6).toNatClampNeg) (by omega) hL5.2.2.2.2.2.1 hL5.2.2.2.2.2.2.1 hL5.2.2.2.2.2.2.2.1
    rw [← show M.2.2.1 p1.toNatClampNeg 6 = nI ((M.2.2.1 p1.toNatClampNeg 6).toNatClampNeg) from (digs_n hd6.1 hd6.2 (by decide)).1] at hc6
    have hq6 : ((((T ++ [32]) ++ digs p1.toNatClampNeg) ++ [47]).length + sb_dg ((M.2.2.1 p1.toNatClampNeg 6).toNatClampNeg)) ≤ 110 := by have hx := dg_4 (v := (M.2.2.1 p1.toNatClampNeg 6).toNatClampNeg) (by omega); have := hB5; omega
    refine j_callA h (n := 1) hc6 (xg_V (xr_34 4 rfl) (xr_34 5 rfl) (xr_34 6 rfl) (xr_2 4 rfl) (xr_34 7 rfl)) rfl rfl (by decide +kernel) ⟨Nat.le_of_ble_eq_true rfl, Nat.le_of_ble_eq_true rfl⟩ (330 + 10) ((lensL (va_up G 0 M) X5 A5 b5).2.1 _) rfl rfl rfl rfl (Nat.le_of_ble_eq_true rfl) dX7_writeWood_41 ⟨by have := kE_le ((((T ++ [32]) ++ digs p1.toNatClampNeg) ++ [47]).length + sb_dg ((M.2.2.1 p1.toNatClampNeg 6).toNatClampNeg)) b5.2.2.2; show 3 + kE ((((T ++ [32]) ++ digs p1.toNatClampNeg) ++ [47]).length + sb_dg ((M.2.2.1 p1.toNatClampNeg 6).toNatClampNeg)) b5.2.2.2 ≤ 4; omega, by have := sE_le (m := b5.2.2.2) hq6; show 666 + sE ((((T ++ [32]) ++ digs p1.toNatClampNeg) ++ [47]).length + sb_dg ((M.2.2.1 p1.toNatClampNeg 6).toNatClampNeg)) b5.2.2.2 ≤ 888; omega⟩ (fun r u' hq => ?_)
    obtain ⟨rfl, a6, f6, rfl, g6a, g6b, g6c⟩ := hq
    refine j_widen h (k := 4) (n := 888) (by have := kE_le ((((T ++ [32]) ++ digs p1.toNatClampNeg) ++ [47]).length + sb_dg ((M.2.2.1 p1.toNatClampNeg 6).toNatClampNeg)) b5.2.2.2; show 3 + kE ((((T ++ [32]) ++ digs p1.toNatClampNeg) ++ [47]).length + sb_dg ((M.2.2.1 p1.toNatClampNeg 6).toNatClampNeg)) b5.2.2.2 ≤ 4; omega) (by have := sE_le (m := b5.2.2.2) hq6; show 666 + sE ((((T ++ [32]) ++ digs p1.toNatClampNeg) ++ [47]).length + sb_dg ((M.2.2.1 p1.toNatClampNeg 6).toNatClampNeg)) b5.2.2.2 ≤ 888; omega) ?_
    obtain ⟨X6, A6, b6, e6, hL6⟩ := LK.int (G := (va_up G 0 M)) hL5 hq6 g6a g6b g6c
    refine j_world h (congrArg _ e6) ?_
    have hB6 : ((((T ++ [32]) ++ digs p1.toNatClampNeg) ++ [47]) ++ digs ((M.2.2.1 p1.toNatClampNeg 6).toNatClampNeg)).length ≤ T.length + 0 + 1 + 2 + 1 + 4 := by rw [List.length_append, digs_len]; have hx := dg_4 (v := (M.2.2.1 p1.toNatClampNeg 6).toNatClampNeg) (by omega); have := hB5; omega
    refine j_pop h dX7_writeWood_44 rfl ?_
    refine j_widen h (k := 4) (n := 888) (by show 4 ≤ 4; omega) (by show 888 ≤ 888; omega) ?_
    exact hR _ _ _ dX7_writeWood_45 ⟨_, Eq.symm ((bd_eq hz1 (ite_n c2 rfl))), _, _, _, rfl, hL6, by omega⟩

def f_X7_describe_l138 (M : gM) (p1 : Int32) (z13 : Int32) : Nat → Nat → List Nat → Int32 × List Nat
  | 0, _, Tk => (0, Tk)
  | n + 1, k, Tk =>
    if z13 ≤ (nI k) then
      (nI Tk.length, Tk)
    else
      bd (f_X1_woodInOrder M p1 (nI k)) fun z15 =>
      bd (f_X7_writeWood M z15 Tk) fun z16 =>
      f_X7_describe_l138 M p1 z13 n (k + 1) z16
def f_X7_describe (M : gM) (p1 : Int32) : Int32 × List Nat :=
  bd (f_X1_isRink M p1) fun z1 =>
  if z1 = 0 then
    ((-1), [])
  else
    if (M.2.1 p1.toNatClampNeg 2) = 0 then
      bd (f_X5_isPlayed M p1.toNatClampNeg) fun z24 =>
      if z24 = 0 then
        bd (f_X1_woodsOn M p1 1) fun z26 =>
        f_X7_describe_l138 M p1 z26 9 0 (((((([] : List Nat) ++ digs ((M.2.1 p1.toNatClampNeg 0).toNatClampNeg)) ++ [45]) ++ digs ((M.2.1 p1.toNatClampNeg 1).toNatClampNeg)) ++ strs 5) ++ strs 6)
      else
        bd (f_X1_woodsOn M p1 1) fun z32 =>
        f_X7_describe_l138 M p1 z32 9 0 (((((((([] : List Nat) ++ digs ((M.2.1 p1.toNatClampNeg 0).toNatClampNeg)) ++ [45]) ++ digs ((M.2.1 p1.toNatClampNeg 1).toNatClampNeg)) ++ strs 5) ++ strs 6) ++ strs 8) ++ digs ((M.2.1 p1.toNatClampNeg 4).toNatClampNeg))
    else
      bd (f_X5_isPlayed M p1.toNatClampNeg) fun z11 =>
      if z11 = 0 then
        bd (f_X1_woodsOn M p1 1) fun z13 =>
        f_X7_describe_l138 M p1 z13 9 0 ((((((([] : List Nat) ++ digs ((M.2.1 p1.toNatClampNeg 0).toNatClampNeg)) ++ [45]) ++ digs ((M.2.1 p1.toNatClampNeg 1).toNatClampNeg)) ++ strs 5) ++ strs 7) ++ digs ((M.2.1 p1.toNatClampNeg 2).toNatClampNeg))
      else
        bd (f_X1_woodsOn M p1 1) fun z19 =>
        f_X7_describe_l138 M p1 z19 9 0 ((((((((([] : List Nat) ++ digs ((M.2.1 p1.toNatClampNeg 0).toNatClampNeg)) ++ [45]) ++ digs ((M.2.1 p1.toNatClampNeg 1).toNatClampNeg)) ++ strs 5) ++ strs 7) ++ digs ((M.2.1 p1.toNatClampNeg 2).toNatClampNeg)) ++ strs 8) ++ digs ((M.2.1 p1.toNatClampNeg 4).toNatClampNeg))
abbrev rm_X7_describe : Room := { frames := 7, cells := 40, slots := 8880, locals := 200 }
set_option maxRecDepth 100000 in
set_option maxHeartbeats 4000000 in
theorem c_X7_describe (l : Launch) (D : gD) (cy : Nat → ClassId) (L : Nat → Nat → Nat) (G : Nat → gM) (X : Nat → Int32) (A : Nat → Nat → Int32) (b : cB) (M : gM) (p1 : Int32) (n0 : Nat) (hn0 : X 8 = nI n0) (hT0 : TX n0 b.2.2.2 (A 5)) (hG : GI M) (hRs : ∀ r : Nat, r < 4 → nI r < M.1 3 → ∀ f, f = 0 ∨ f = 1 ∨ f = 2 ∨ f = 4 → ¬ M.2.1 r f < 0 ∧ M.2.1 r f < nI 100) (hDs : ∀ w : Nat, w < 16 → nI w < M.1 4 → ¬ M.2.2.1 w 6 < 0 ∧ M.2.2.1 w 6 < nI 10000) (hW8 : f_X1_woodsOn M p1 1 ≤ nI 8) : CtI l D cy (CW cy L) yX7_describe cX7_describe 5 (some .int) rm_X7_describe [.ref (L 11 0), .int p1] ((va_up G 0 M, X, A), b) (fun rv u => ∃ z : Int32 × (List Nat), z = f_X7_describe M p1 ∧ rv = z.1 ∧ ((z.1 = -1 ∧ u = ((va_up G 0 M, X, A), b)) ∨ ∃ (X9 : Nat → Int32) (A9 : Nat → Nat → Int32) (b9 : cB), u = ((va_up G 0 M, X9, A9), b9) ∧ LK X A b z.2 X9 A9 b9)) 40 8880 := by
  refine m_entI cX7_describe 5 (by decide) (Nat.le_of_ble_eq_true rfl) (fun J h hR => ?_)
  show J ((va_up G 0 M, X, A), b) (0, 0) [(0, .ref (L 11 0)), (1, .int p1)] 0 []
  refine j_aload_n h dX7_describe_0 rfl 0 rfl ?_
  refine j_get h inlX7 (330 + 0) (ml_get 0) rfl 0 (by decide) (xr_1 19 rfl) rfl (v := .ref (L 0 0)) rfl dX7_describe_1 ?_
  refine j_iload_n h dX7_describe_4 rfl 1 rfl ?_
  refine j_callI h (n := 1) (c_X1_isRink l D cy L _ _ _ _ _ (by decide) _) (xg_V (xr_21 6 rfl) (xr_21 7 rfl) (xr_21 8 rfl) (xr_1 18 rfl) (xr_21 9 rfl)) rfl rfl (by decide +kernel) ⟨Nat.le_of_ble_eq_true rfl, Nat.le_of_ble_eq_true rfl⟩ (30 * 0 + 0) (at_G (by decide)) rfl rfl rfl rfl (Nat.le_of_ble_eq_true rfl) dX7_describe_5 ⟨by decide, by decide⟩ (fun z1 u' hq => ?_)
  obtain ⟨hz1, rfl, bz1⟩ := hq
  refine j_if_ne h (tgt := 13) dX7_describe_8 (by decide) (fun c2 => ?_) (fun c2 => ?_)
  · have vp1 : vp_in (p1) 4 := isRink_in (hG).r hz1 c2
    have bp1 : (p1).toNatClampNeg < 4 := vp_lt vp1
    have ep1 : p1 = nI (p1).toNatClampNeg := vp_nI vp1 (by decide)
    have hw4 : p1 < M.1 3 := isRink_lt hz1 c2
    have hrs := hRs p1.toNatClampNeg bp1 (ep1 ▸ hw4)
    have hf0 := digs_n (hrs 0 (Or.inl rfl)).1 (hrs 0 (Or.inl rfl)).2 (by decide)
    have hg0 := hf0.2
    have hf1 := digs_n (hrs 1 (Or.inr (Or.inl rfl))).1 (hrs 1 (Or.inr (Or.inl rfl))).2 (by decide)
    have hg1 := hf1.2
    have hf2 := digs_n (hrs 2 (Or.inr (Or.inr (Or.inl rfl)))).1 (hrs 2 (Or.inr (Or.inr (Or.inl rfl)))).2 (by decide)
    have hg2 := hf2.2
    have hf4 := digs_n (hrs 4 (Or.inr (Or.inr (Or.inr rfl)))).1 (hrs 4 (Or.inr (Or.inr (Or.inr rfl)))).2 (by decide)
    have hg4 := hf4.2
    refine j_aload_n h dX7_describe_13 rfl 0 rfl ?_
    refine j_get h inlX7 (330 + 0) (ml_get 0) rfl 0 (by decide) (xr_1 19 rfl) rfl (v := .ref (L 0 0)) rfl dX7_describe_14 ?_
    refine j_get h inlX1 (30 * 0 + 0) (at_G (by decide)) rfl 0 (by decide) (xr_21 2 rfl) rfl (v := .ref (L 0 1)) rfl dX7_describe_17 ?_
    refine j_iload_n h dX7_describe_20 rfl 1 rfl ?_
    refine j_aaldE h (30 * 0 + 1) 1 (at_Ra (by decide)) rfl p1.toNatClampNeg ep1 (by omega) (by decide) dX7_describe_21 ?_
    refine j_astore_n h (lv' := [(2, _), (0, _), (1, _)]) dX7_describe_22 rfl (by decide) rfl ?_
    refine j_aload_n h dX7_describe_23 rfl 1 rfl ?_
    refine j_get h inlX7 (330 + 0) (ml_get 0) rfl 8 (by decide) (xr_2 15 rfl) rfl (v := .ref (L 11 10)) rfl dX7_describe_24 ?_
    refine j_iconst h (v := 0) dX7_describe_27 (by decide) ?_
    refine j_world h (u' := putL (va_up G 0 M) X A b (X 10, nI n0, b.2.2.1, b.2.2.2, A 5)) (lensL_eq hn0) ?_
    refine j_callV h (n := 1) (c_J4_setLength_d00df l D cy (lensL (va_up G 0 M) X A b) (X 10) b.2.2.1 (k := 0) (Nat.zero_le _) hT0.1 hT0.2.1 hT0.2.2.1) (xg_V (xr_27 16 rfl) (xr_27 17 rfl) (xr_27 18 rfl) (xr_2 4 rfl) (xr_27 19 rfl)) rfl rfl (by decide +kernel) ⟨Nat.le_of_ble_eq_true rfl, Nat.le_of_ble_eq_true rfl⟩ (330 + 10) ((lensL (va_up G 0 M) X A b).2.1 _) rfl rfl rfl rfl (Nat.le_of_ble_eq_true rfl) dX7_describe_28 ⟨by decide, by decide⟩ (fun u' hq => ?_)
    obtain ⟨a3, f3, rfl, -, g3⟩ := hq
    obtain ⟨X3, A3, b3, e3, hL3⟩ := LK.clr (G := (va_up G 0 M)) (X := X) (A := A) (b := b) (ml := if n0 ≤ 0 then X 10 else 1) (a1 := a3) hT0.2.1 g3
    refine j_world h (congrArg _ e3) ?_
    have hB3 : ([] : List Nat).length ≤ 0 := Nat.le_refl _
    refine j_aload_n h dX7_describe_31 rfl 1 rfl ?_
    refine j_get h inlX7 (330 + 0) (ml_get 0) rfl 8 (by decide) (xr_2 15 rfl) rfl (v := .ref (L 11 10)) rfl dX7_describe_32 ?_
    refine j_aload_n h dX7_describe_35 rfl 0 rfl ?_
    refine j_get h inlX5 (30 * 0 + (4 + p1.toNatClampNeg)) (at_R (by decide) (by omega)) rfl 0 (by decide) (xr_33 2 rfl) rfl (v := .int (M.2.1 p1.toNatClampNeg 0)) rfl dX7_describe_36 ?_
    refine j_world h (u' := putL (va_up G 0 M) X3 A3 b3 (X3 10, nI ([] : List Nat).length, b3.2.2.1, b3.2.2.2, A3 5)) (lensL_eq hL3.2.2.2.2.1) ?_
    have hc4 := c_J4_append_bf812 l D cy (lensL (cy := cy) (L := L) (va_up G 0 M) X3 A3 b3) (X3 10) (n := ([] : List Nat).length) b3.2.2.1 (m := b3.2.2.2) (f := A3 5) (v := (M.2.1 p1.toNatClampNeg 0).toNatClampNeg) (by omega) hL3.2.2.2.2.2.1 hL3.2.2.2.2.2.2.1 hL3.2.2.2.2.2.2.2.1
    rw [← show M.2.1 p1.toNatClampNeg 0 = nI ((M.2.1 p1.toNatClampNeg 0).toNatClampNeg) from hf0.1] at hc4
    have hq4 : (([] : List Nat).length + sb_dg ((M.2.1 p1.toNatClampNeg 0).toNatClampNeg)) ≤ 110 := by have hx := dg_2 (v := (M.2.1 p1.toNatClampNeg 0).toNatClampNeg) (by omega); have := hB3; omega
    refine j_callA h (n := 1) hc4 (xg_V (xr_34 4 rfl) (xr_34 5 rfl) (xr_34 6 rfl) (xr_2 4 rfl) (xr_34 7 rfl)) rfl rfl (by decide +kernel) ⟨Nat.le_of_ble_eq_true rfl, Nat.le_of_ble_eq_true rfl⟩ (330 + 10) ((lensL (va_up G 0 M) X3 A3 b3).2.1 _) rfl rfl rfl rfl (Nat.le_of_ble_eq_true rfl) dX7_describe_39 ⟨by have := kE_le (([] : List Nat).length + sb_dg ((M.2.1 p1.toNatClampNeg 0).toNatClampNeg)) b3.2.2.2; show 0 + kE (([] : List Nat).length + sb_dg ((M.2.1 p1.toNatClampNeg 0).toNatClampNeg)) b3.2.2.2 ≤ 40; omega, by have := sE_le (m := b3.2.2.2) hq4; show 0 + sE (([] : List Nat).length + sb_dg ((M.2.1 p1.toNatClampNeg 0).toNatClampNeg)) b3.2.2.2 ≤ 8880; omega⟩ (fun r u' hq => ?_)
    obtain ⟨rfl, a4, f4, rfl, g4a, g4b, g4c⟩ := hq
    refine j_widen h (k := 1) (n := 222) (by have := kE_le (([] : List Nat).length + sb_dg ((M.2.1 p1.toNatClampNeg 0).toNatClampNeg)) b3.2.2.2; show 0 + kE (([] : List Nat).length + sb_dg ((M.2.1 p1.toNatClampNeg 0).toNatClampNeg)) b3.2.2.2 ≤ 1; omega) (by have := sE_le (m := b3.2.2.2) hq4; show 0 + sE (([] : List Nat).length + sb_dg ((M.2.1 p1.toNatClampNeg 0).toNatClampNeg)) b3.2.2.2 ≤ 222; omega) ?_
    obtain ⟨X4, A4, b4, e4, hL4⟩ := LK.int (G := (va_up G 0 M)) hL3 hq4 g4a g4b g4c
    refine j_world h (congrArg _ e4) ?_
    have hB4 : (([] : List Nat) ++ digs ((M.2.1 p1.toNatClampNeg 0).toNatClampNeg)).length ≤ 2 := by rw [List.length_append, digs_len]; have hx := dg_2 (v := (M.2.1 p1.toNatClampNeg 0).toNatClampNeg) (by omega); have := hB3; omega
    refine j_bipush h (v := 45) dX7_describe_42 (by decide) ?_
    refine j_world h (u' := putL (va_up G 0 M) X4 A4 b4 (X4 10, nI (([] : List Nat) ++ digs ((M.2.1 p1.toNatClampNeg 0).toNatClampNeg)).length, b4.2.2.1, b4.2.2.2, A4 5)) (lensL_eq hL4.2.2.2.2.1) ?_
    have hc5 := c_J4_append_cf468 l D cy (lensL (cy := cy) (L := L) (va_up G 0 M) X4 A4 b4) (X4 10) (n := (([] : List Nat) ++ digs ((M.2.1 p1.toNatClampNeg 0).toNatClampNeg)).length) b4.2.2.1 (m := b4.2.2.2) (f := A4 5) (ch := 45) (by decide) hL4.2.2.2.2.2.1 hL4.2.2.2.2.2.2.1 hL4.2.2.2.2.2.2.2.1
    have hq5 : ((([] : List Nat) ++ digs ((M.2.1 p1.toNatClampNeg 0).toNatClampNeg)).length + 1) ≤ 110 := by have := hB4; omega
    refine j_callA h (n := 1) hc5 (xg_V (xr_12 20 rfl) (xr_12 21 rfl) (xr_12 22 rfl) (xr_2 4 rfl) (xr_12 23 rfl)) rfl rfl (by decide +kernel) ⟨Nat.le_of_ble_eq_true rfl, Nat.le_of_ble_eq_true rfl⟩ (330 + 10) ((lensL (va_up G 0 M) X4 A4 b4).2.1 _) rfl rfl rfl rfl (Nat.le_of_ble_eq_true rfl) dX7_describe_44 ⟨by have := kE_le ((([] : List Nat) ++ digs ((M.2.1 p1.toNatClampNeg 0).toNatClampNeg)).length + 1) b4.2.2.2; show 1 + kE ((([] : List Nat) ++ digs ((M.2.1 p1.toNatClampNeg 0).toNatClampNeg)).length + 1) b4.2.2.2 ≤ 40; omega, by have := sE_le (m := b4.2.2.2) hq5; show 222 + sE ((([] : List Nat) ++ digs ((M.2.1 p1.toNatClampNeg 0).toNatClampNeg)).length + 1) b4.2.2.2 ≤ 8880; omega⟩ (fun r u' hq => ?_)
    obtain ⟨rfl, a5, f5, rfl, g5a, g5b, g5c⟩ := hq
    refine j_widen h (k := 2) (n := 444) (by have := kE_le ((([] : List Nat) ++ digs ((M.2.1 p1.toNatClampNeg 0).toNatClampNeg)).length + 1) b4.2.2.2; show 1 + kE ((([] : List Nat) ++ digs ((M.2.1 p1.toNatClampNeg 0).toNatClampNeg)).length + 1) b4.2.2.2 ≤ 2; omega) (by have := sE_le (m := b4.2.2.2) hq5; show 222 + sE ((([] : List Nat) ++ digs ((M.2.1 p1.toNatClampNeg 0).toNatClampNeg)).length + 1) b4.2.2.2 ≤ 444; omega) ?_
    obtain ⟨X5, A5, b5, e5, hL5⟩ := LK.ch (G := (va_up G 0 M)) hL4 (c := 45) (by decide) hq5 g5a g5b g5c
    refine j_world h (congrArg _ e5) ?_
    have hB5 : ((([] : List Nat) ++ digs ((M.2.1 p1.toNatClampNeg 0).toNatClampNeg)) ++ [45]).length ≤ 3 := by rw [List.length_append, List.length_singleton]; have := hB4; omega
    refine j_aload_n h dX7_describe_47 rfl 0 rfl ?_
    refine j_get h inlX5 (30 * 0 + (4 + p1.toNatClampNeg)) (at_R (by decide) (by omega)) rfl 1 (by decide) (xr_33 3 rfl) rfl (v := .int (M.2.1 p1.toNatClampNeg 1)) rfl dX7_describe_48 ?_
    refine j_world h (u' := putL (va_up G 0 M) X5 A5 b5 (X5 10, nI ((([] : List Nat) ++ digs ((M.2.1 p1.toNatClampNeg 0).toNatClampNeg)) ++ [45]).length, b5.2.2.1, b5.2.2.2, A5 5)) (lensL_eq hL5.2.2.2.2.1) ?_
    have hc6 := c_J4_append_bf812 l D cy (lensL (cy := cy) (L := L) (va_up G 0 M) X5 A5 b5) (X5 10) (n := ((([] : List Nat) ++ digs ((M.2.1 p1.toNatClampNeg 0).toNatClampNeg)) ++ [45]).length) b5.2.2.1 (m := b5.2.2.2) (f := A5 5) (v := (M.2.1 p1.toNatClampNeg 1).toNatClampNeg) (by omega) hL5.2.2.2.2.2.1 hL5.2.2.2.2.2.2.1 hL5.2.2.2.2.2.2.2.1
    rw [← show M.2.1 p1.toNatClampNeg 1 = nI ((M.2.1 p1.toNatClampNeg 1).toNatClampNeg) from hf1.1] at hc6
    have hq6 : (((([] : List Nat) ++ digs ((M.2.1 p1.toNatClampNeg 0).toNatClampNeg)) ++ [45]).length + sb_dg ((M.2.1 p1.toNatClampNeg 1).toNatClampNeg)) ≤ 110 := by have hx := dg_2 (v := (M.2.1 p1.toNatClampNeg 1).toNatClampNeg) (by omega); have := hB5; omega
    refine j_callA h (n := 1) hc6 (xg_V (xr_34 4 rfl) (xr_34 5 rfl) (xr_34 6 rfl) (xr_2 4 rfl) (xr_34 7 rfl)) rfl rfl (by decide +kernel) ⟨Nat.le_of_ble_eq_true rfl, Nat.le_of_ble_eq_true rfl⟩ (330 + 10) ((lensL (va_up G 0 M) X5 A5 b5).2.1 _) rfl rfl rfl rfl (Nat.le_of_ble_eq_true rfl) dX7_describe_51 ⟨by have := kE_le (((([] : List Nat) ++ digs ((M.2.1 p1.toNatClampNeg 0).toNatClampNeg)) ++ [45]).length + sb_dg ((M.2.1 p1.toNatClampNeg 1).toNatClampNeg)) b5.2.2.2; show 2 + kE (((([] : List Nat) ++ digs ((M.2.1 p1.toNatClampNeg 0).toNatClampNeg)) ++ [45]).length + sb_dg ((M.2.1 p1.toNatClampNeg 1).toNatClampNeg)) b5.2.2.2 ≤ 40; omega, by have := sE_le (m := b5.2.2.2) hq6; show 444 + sE (((([] : List Nat) ++ digs ((M.2.1 p1.toNatClampNeg 0).toNatClampNeg)) ++ [45]).length + sb_dg ((M.2.1 p1.toNatClampNeg 1).toNatClampNeg)) b5.2.2.2 ≤ 8880; omega⟩ (fun r u' hq => ?_)
    obtain ⟨rfl, a6, f6, rfl, g6a, g6b, g6c⟩ := hq
    refine j_widen h (k := 3) (n := 666) (by have := kE_le (((([] : List Nat) ++ digs ((M.2.1 p1.toNatClampNeg 0).toNatClampNeg)) ++ [45]).length + sb_dg ((M.2.1 p1.toNatClampNeg 1).toNatClampNeg)) b5.2.2.2; show 2 + kE (((([] : List Nat) ++ digs ((M.2.1 p1.toNatClampNeg 0).toNatClampNeg)) ++ [45]).length + sb_dg ((M.2.1 p1.toNatClampNeg 1).toNatClampNeg)) b5.2.2.2 ≤ 3; omega) (by have := sE_le (m := b5.2.2.2) hq6; show 444 + sE (((([] : List Nat) ++ digs ((M.2.1 p1.toNatClampNeg 0).toNatClampNeg)) ++ [45]).length + sb_dg ((M.2.1 p1.toNatClampNeg 1).toNatClampNeg)) b5.2.2.2 ≤ 666; omega) ?_
    obtain ⟨X6, A6, b6, e6, hL6⟩ := LK.int (G := (va_up G 0 M)) hL5 hq6 g6a g6b g6c
    refine j_world h (congrArg _ e6) ?_
    have hB6 : (((([] : List Nat) ++ digs ((M.2.1 p1.toNatClampNeg 0).toNatClampNeg)) ++ [45]) ++ digs ((M.2.1 p1.toNatClampNeg 1).toNatClampNeg)).length ≤ 5 := by rw [List.length_append, digs_len]; have hx := dg_2 (v := (M.2.1 p1.toNatClampNeg 1).toNatClampNeg) (by omega); have := hB5; omega
    refine j_ldcwS h (i := 5) rfl dX7_describe_54 ?_
    refine j_world h (u' := putL (va_up G 0 M) X6 A6 b6 (X6 10, nI (((([] : List Nat) ++ digs ((M.2.1 p1.toNatClampNeg 0).toNatClampNeg)) ++ [45]) ++ digs ((M.2.1 p1.toNatClampNeg 1).toNatClampNeg)).length, b6.2.2.1, b6.2.2.2, A6 5)) (lensL_eq hL6.2.2.2.2.1) ?_
    have hc7 := c_J4_append_15ec4 l D cy (lensL (cy := cy) (L := L) (va_up G 0 M) X6 A6 b6) (X6 10) (n := (((([] : List Nat) ++ digs ((M.2.1 p1.toNatClampNeg 0).toNatClampNeg)) ++ [45]) ++ digs ((M.2.1 p1.toNatClampNeg 1).toNatClampNeg)).length) b6.2.2.1 (m := b6.2.2.2) (f := A6 5) (i := 5) (by decide) hL6.2.2.2.2.2.1 hL6.2.2.2.2.2.2.1 hL6.2.2.2.2.2.2.2.1
    have hq7 : ((((([] : List Nat) ++ digs ((M.2.1 p1.toNatClampNeg 0).toNatClampNeg)) ++ [45]) ++ digs ((M.2.1 p1.toNatClampNeg 1).toNatClampNeg)).length + lenS.getD 5 0) ≤ 110 := by have hx : lenS.getD 5 0 = 2 := rfl; have := hB6; omega
    refine j_callA h (n := 1) hc7 (xg_V (xr_35 14 rfl) (xr_35 15 rfl) (xr_35 16 rfl) (xr_2 4 rfl) (xr_35 17 rfl)) rfl rfl (by decide +kernel) ⟨Nat.le_of_ble_eq_true rfl, Nat.le_of_ble_eq_true rfl⟩ (330 + 10) ((lensL (va_up G 0 M) X6 A6 b6).2.1 _) rfl rfl rfl rfl (Nat.le_of_ble_eq_true rfl) dX7_describe_57 ⟨by have := kE_le ((((([] : List Nat) ++ digs ((M.2.1 p1.toNatClampNeg 0).toNatClampNeg)) ++ [45]) ++ digs ((M.2.1 p1.toNatClampNeg 1).toNatClampNeg)).length + lenS.getD 5 0) b6.2.2.2; show 3 + kE ((((([] : List Nat) ++ digs ((M.2.1 p1.toNatClampNeg 0).toNatClampNeg)) ++ [45]) ++ digs ((M.2.1 p1.toNatClampNeg 1).toNatClampNeg)).length + lenS.getD 5 0) b6.2.2.2 ≤ 40; omega, by have := sE_le (m := b6.2.2.2) hq7; show 666 + sE ((((([] : List Nat) ++ digs ((M.2.1 p1.toNatClampNeg 0).toNatClampNeg)) ++ [45]) ++ digs ((M.2.1 p1.toNatClampNeg 1).toNatClampNeg)).length + lenS.getD 5 0) b6.2.2.2 ≤ 8880; omega⟩ (fun r u' hq => ?_)
    obtain ⟨rfl, a7, f7, rfl, g7a, g7b, g7c⟩ := hq
    refine j_widen h (k := 4) (n := 888) (by have := kE_le ((((([] : List Nat) ++ digs ((M.2.1 p1.toNatClampNeg 0).toNatClampNeg)) ++ [45]) ++ digs ((M.2.1 p1.toNatClampNeg 1).toNatClampNeg)).length + lenS.getD 5 0) b6.2.2.2; show 3 + kE ((((([] : List Nat) ++ digs ((M.2.1 p1.toNatClampNeg 0).toNatClampNeg)) ++ [45]) ++ digs ((M.2.1 p1.toNatClampNeg 1).toNatClampNeg)).length + lenS.getD 5 0) b6.2.2.2 ≤ 4; omega) (by have := sE_le (m := b6.2.2.2) hq7; show 666 + sE ((((([] : List Nat) ++ digs ((M.2.1 p1.toNatClampNeg 0).toNatClampNeg)) ++ [45]) ++ digs ((M.2.1 p1.toNatClampNeg 1).toNatClampNeg)).length + lenS.getD 5 0) b6.2.2.2 ≤ 888; omega) ?_
    obtain ⟨X7, A7, b7, e7, hL7⟩ := LK.str (G := (va_up G 0 M)) hL6 (i := 5) (by decide) hq7 g7a g7b g7c
    refine j_world h (congrArg _ e7) ?_
    have hB7 : ((((([] : List Nat) ++ digs ((M.2.1 p1.toNatClampNeg 0).toNatClampNeg)) ++ [45]) ++ digs ((M.2.1 p1.toNatClampNeg 1).toNatClampNeg)) ++ strs 5).length ≤ 7 := by rw [List.length_append, strs_len]; have hx : lenS.getD 5 0 = 2 := rfl; have := hB6; omega
    refine j_pop h dX7_describe_60 rfl ?_
    refine j_aload_n h dX7_describe_61 rfl 0 rfl ?_
    refine j_get h inlX5 (30 * 0 + (4 + p1.toNatClampNeg)) (at_R (by decide) (by omega)) rfl 2 (by decide) (xr_21 4 rfl) rfl (v := .int (M.2.1 p1.toNatClampNeg 2)) rfl dX7_describe_62 ?_
    refine j_if_ne h (tgt := 82) dX7_describe_65 (by decide) (fun c8 => ?_) (fun c8 => ?_)
    · refine j_aload_n h dX7_describe_82 rfl 1 rfl ?_
      refine j_get h inlX7 (330 + 0) (ml_get 0) rfl 8 (by decide) (xr_2 15 rfl) rfl (v := .ref (L 11 10)) rfl dX7_describe_83 ?_
      refine j_ldcwS h (i := 7) rfl dX7_describe_86 ?_
      refine j_world h (u' := putL (va_up G 0 M) X7 A7 b7 (X7 10, nI ((((([] : List Nat) ++ digs ((M.2.1 p1.toNatClampNeg 0).toNatClampNeg)) ++ [45]) ++ digs ((M.2.1 p1.toNatClampNeg 1).toNatClampNeg)) ++ strs 5).length, b7.2.2.1, b7.2.2.2, A7 5)) (lensL_eq hL7.2.2.2.2.1) ?_
      have hc9 := c_J4_append_15ec4 l D cy (lensL (cy := cy) (L := L) (va_up G 0 M) X7 A7 b7) (X7 10) (n := ((((([] : List Nat) ++ digs ((M.2.1 p1.toNatClampNeg 0).toNatClampNeg)) ++ [45]) ++ digs ((M.2.1 p1.toNatClampNeg 1).toNatClampNeg)) ++ strs 5).length) b7.2.2.1 (m := b7.2.2.2) (f := A7 5) (i := 7) (by decide) hL7.2.2.2.2.2.1 hL7.2.2.2.2.2.2.1 hL7.2.2.2.2.2.2.2.1
      have hq9 : (((((([] : List Nat) ++ digs ((M.2.1 p1.toNatClampNeg 0).toNatClampNeg)) ++ [45]) ++ digs ((M.2.1 p1.toNatClampNeg 1).toNatClampNeg)) ++ strs 5).length + lenS.getD 7 0) ≤ 110 := by have hx : lenS.getD 7 0 = 4 := rfl; have := hB7; omega
      refine j_callA h (n := 1) hc9 (xg_V (xr_35 14 rfl) (xr_35 15 rfl) (xr_35 16 rfl) (xr_2 4 rfl) (xr_35 17 rfl)) rfl rfl (by decide +kernel) ⟨Nat.le_of_ble_eq_true rfl, Nat.le_of_ble_eq_true rfl⟩ (330 + 10) ((lensL (va_up G 0 M) X7 A7 b7).2.1 _) rfl rfl rfl rfl (Nat.le_of_ble_eq_true rfl) dX7_describe_89 ⟨by have := kE_le (((((([] : List Nat) ++ digs ((M.2.1 p1.toNatClampNeg 0).toNatClampNeg)) ++ [45]) ++ digs ((M.2.1 p1.toNatClampNeg 1).toNatClampNeg)) ++ strs 5).length + lenS.getD 7 0) b7.2.2.2; show 4 + kE (((((([] : List Nat) ++ digs ((M.2.1 p1.toNatClampNeg 0).toNatClampNeg)) ++ [45]) ++ digs ((M.2.1 p1.toNatClampNeg 1).toNatClampNeg)) ++ strs 5).length + lenS.getD 7 0) b7.2.2.2 ≤ 40; omega, by have := sE_le (m := b7.2.2.2) hq9; show 888 + sE (((((([] : List Nat) ++ digs ((M.2.1 p1.toNatClampNeg 0).toNatClampNeg)) ++ [45]) ++ digs ((M.2.1 p1.toNatClampNeg 1).toNatClampNeg)) ++ strs 5).length + lenS.getD 7 0) b7.2.2.2 ≤ 8880; omega⟩ (fun r u' hq => ?_)
      obtain ⟨rfl, a9, f9, rfl, g9a, g9b, g9c⟩ := hq
      refine j_widen h (k := 5) (n := 1110) (by have := kE_le (((((([] : List Nat) ++ digs ((M.2.1 p1.toNatClampNeg 0).toNatClampNeg)) ++ [45]) ++ digs ((M.2.1 p1.toNatClampNeg 1).toNatClampNeg)) ++ strs 5).length + lenS.getD 7 0) b7.2.2.2; show 4 + kE (((((([] : List Nat) ++ digs ((M.2.1 p1.toNatClampNeg 0).toNatClampNeg)) ++ [45]) ++ digs ((M.2.1 p1.toNatClampNeg 1).toNatClampNeg)) ++ strs 5).length + lenS.getD 7 0) b7.2.2.2 ≤ 5; omega) (by have := sE_le (m := b7.2.2.2) hq9; show 888 + sE (((((([] : List Nat) ++ digs ((M.2.1 p1.toNatClampNeg 0).toNatClampNeg)) ++ [45]) ++ digs ((M.2.1 p1.toNatClampNeg 1).toNatClampNeg)) ++ strs 5).length + lenS.getD 7 0) b7.2.2.2 ≤ 1110; omega) ?_
      obtain ⟨X9, A9, b9, e9, hL9⟩ := LK.str (G := (va_up G 0 M)) hL7 (i := 7) (by decide) hq9 g9a g9b g9c
      refine j_world h (congrArg _ e9) ?_
      have hB9 : (((((([] : List Nat) ++ digs ((M.2.1 p1.toNatClampNeg 0).toNatClampNeg)) ++ [45]) ++ digs ((M.2.1 p1.toNatClampNeg 1).toNatClampNeg)) ++ strs 5) ++ strs 7).length ≤ 11 := by rw [List.length_append, strs_len]; have hx : lenS.getD 7 0 = 4 := rfl; have := hB7; omega
      refine j_aload_n h dX7_describe_92 rfl 0 rfl ?_
      refine j_get h inlX5 (30 * 0 + (4 + p1.toNatClampNeg)) (at_R (by decide) (by omega)) rfl 2 (by decide) (xr_21 4 rfl) rfl (v := .int (M.2.1 p1.toNatClampNeg 2)) rfl dX7_describe_93 ?_
      refine j_world h (u' := putL (va_up G 0 M) X9 A9 b9 (X9 10, nI (((((([] : List Nat) ++ digs ((M.2.1 p1.toNatClampNeg 0).toNatClampNeg)) ++ [45]) ++ digs ((M.2.1 p1.toNatClampNeg 1).toNatClampNeg)) ++ strs 5) ++ strs 7).length, b9.2.2.1, b9.2.2.2, A9 5)) (lensL_eq hL9.2.2.2.2.1) ?_
      have hc10 := c_J4_append_bf812 l D cy (lensL (cy := cy) (L := L) (va_up G 0 M) X9 A9 b9) (X9 10) (n := (((((([] : List Nat) ++ digs ((M.2.1 p1.toNatClampNeg 0).toNatClampNeg)) ++ [45]) ++ digs ((M.2.1 p1.toNatClampNeg 1).toNatClampNeg)) ++ strs 5) ++ strs 7).length) b9.2.2.1 (m := b9.2.2.2) (f := A9 5) (v := (M.2.1 p1.toNatClampNeg 2).toNatClampNeg) (by omega) hL9.2.2.2.2.2.1 hL9.2.2.2.2.2.2.1 hL9.2.2.2.2.2.2.2.1
      rw [← show M.2.1 p1.toNatClampNeg 2 = nI ((M.2.1 p1.toNatClampNeg 2).toNatClampNeg) from hf2.1] at hc10
      have hq10 : ((((((([] : List Nat) ++ digs ((M.2.1 p1.toNatClampNeg 0).toNatClampNeg)) ++ [45]) ++ digs ((M.2.1 p1.toNatClampNeg 1).toNatClampNeg)) ++ strs 5) ++ strs 7).length + sb_dg ((M.2.1 p1.toNatClampNeg 2).toNatClampNeg)) ≤ 110 := by have hx := dg_2 (v := (M.2.1 p1.toNatClampNeg 2).toNatClampNeg) (by omega); have := hB9; omega
      refine j_callA h (n := 1) hc10 (xg_V (xr_34 4 rfl) (xr_34 5 rfl) (xr_34 6 rfl) (xr_2 4 rfl) (xr_34 7 rfl)) rfl rfl (by decide +kernel) ⟨Nat.le_of_ble_eq_true rfl, Nat.le_of_ble_eq_true rfl⟩ (330 + 10) ((lensL (va_up G 0 M) X9 A9 b9).2.1 _) rfl rfl rfl rfl (Nat.le_of_ble_eq_true rfl) dX7_describe_96 ⟨by have := kE_le ((((((([] : List Nat) ++ digs ((M.2.1 p1.toNatClampNeg 0).toNatClampNeg)) ++ [45]) ++ digs ((M.2.1 p1.toNatClampNeg 1).toNatClampNeg)) ++ strs 5) ++ strs 7).length + sb_dg ((M.2.1 p1.toNatClampNeg 2).toNatClampNeg)) b9.2.2.2; show 5 + kE ((((((([] : List Nat) ++ digs ((M.2.1 p1.toNatClampNeg 0).toNatClampNeg)) ++ [45]) ++ digs ((M.2.1 p1.toNatClampNeg 1).toNatClampNeg)) ++ strs 5) ++ strs 7).length + sb_dg ((M.2.1 p1.toNatClampNeg 2).toNatClampNeg)) b9.2.2.2 ≤ 40; omega, by have := sE_le (m := b9.2.2.2) hq10; show 1110 + sE ((((((([] : List Nat) ++ digs ((M.2.1 p1.toNatClampNeg 0).toNatClampNeg)) ++ [45]) ++ digs ((M.2.1 p1.toNatClampNeg 1).toNatClampNeg)) ++ strs 5) ++ strs 7).length + sb_dg ((M.2.1 p1.toNatClampNeg 2).toNatClampNeg)) b9.2.2.2 ≤ 8880; omega⟩ (fun r u' hq => ?_)
      obtain ⟨rfl, a10, f10, rfl, g10a, g10b, g10c⟩ := hq
      refine j_widen h (k := 6) (n := 1332) (by have := kE_le ((((((([] : List Nat) ++ digs ((M.2.1 p1.toNatClampNeg 0).toNatClampNeg)) ++ [45]) ++ digs ((M.2.1 p1.toNatClampNeg 1).toNatClampNeg)) ++ strs 5) ++ strs 7).length + sb_dg ((M.2.1 p1.toNatClampNeg 2).toNatClampNeg)) b9.2.2.2; show 5 + kE ((((((([] : List Nat) ++ digs ((M.2.1 p1.toNatClampNeg 0).toNatClampNeg)) ++ [45]) ++ digs ((M.2.1 p1.toNatClampNeg 1).toNatClampNeg)) ++ strs 5) ++ strs 7).length + sb_dg ((M.2.1 p1.toNatClampNeg 2).toNatClampNeg)) b9.2.2.2 ≤ 6; omega) (by have := sE_le (m := b9.2.2.2) hq10; show 1110 + sE ((((((([] : List Nat) ++ digs ((M.2.1 p1.toNatClampNeg 0).toNatClampNeg)) ++ [45]) ++ digs ((M.2.1 p1.toNatClampNeg 1).toNatClampNeg)) ++ strs 5) ++ strs 7).length + sb_dg ((M.2.1 p1.toNatClampNeg 2).toNatClampNeg)) b9.2.2.2 ≤ 1332; omega) ?_
      obtain ⟨X10, A10, b10, e10, hL10⟩ := LK.int (G := (va_up G 0 M)) hL9 hq10 g10a g10b g10c
      refine j_world h (congrArg _ e10) ?_
      have hB10 : ((((((([] : List Nat) ++ digs ((M.2.1 p1.toNatClampNeg 0).toNatClampNeg)) ++ [45]) ++ digs ((M.2.1 p1.toNatClampNeg 1).toNatClampNeg)) ++ strs 5) ++ strs 7) ++ digs ((M.2.1 p1.toNatClampNeg 2).toNatClampNeg)).length ≤ 13 := by rw [List.length_append, digs_len]; have hx := dg_2 (v := (M.2.1 p1.toNatClampNeg 2).toNatClampNeg) (by omega); have := hB9; omega
      refine j_pop h dX7_describe_99 rfl ?_
      refine j_aload_n h dX7_describe_100 rfl 0 rfl ?_
      refine j_callI h (n := 0) (c_X5_isPlayed l D cy L _ _ _ _ _ (by decide) (by omega)) (xg_V (xr_21 10 rfl) (xr_9 23 rfl) (xr_10 0 rfl) (xr_2 23 rfl) (xr_10 1 rfl)) rfl rfl (by decide +kernel) ⟨Nat.le_of_ble_eq_true rfl, Nat.le_of_ble_eq_true rfl⟩ (30 * 0 + (4 + p1.toNatClampNeg)) (at_R (by decide) (by omega)) rfl rfl rfl rfl (Nat.le_of_ble_eq_true rfl) dX7_describe_101 ⟨by decide, by decide⟩ (fun z11 u' hq => ?_)
      obtain ⟨hz11, rfl, bz11⟩ := hq
      refine j_if_eq h (tgt := 125) dX7_describe_104 (by decide) (fun c12 => ?_) (fun c12 => ?_)
      · refine j_aload_n h dX7_describe_125 rfl 1 rfl ?_
        refine j_get h inlX7 (330 + 0) (ml_get 0) rfl 0 (by decide) (xr_1 19 rfl) rfl (v := .ref (L 0 0)) rfl dX7_describe_126 ?_
        refine j_iload_n h dX7_describe_129 rfl 2 rfl ?_
        refine j_iconst h (v := 1) dX7_describe_130 (by decide) ?_
        refine j_callI h (n := 2) (c_X1_woodsOn l D cy L _ _ _ _ _ (by decide) _ _ (hG).w) (xg_V (xr_33 5 rfl) (xr_33 6 rfl) (xr_33 7 rfl) (xr_1 18 rfl) (xr_33 8 rfl)) rfl rfl (by decide +kernel) ⟨Nat.le_of_ble_eq_true rfl, Nat.le_of_ble_eq_true rfl⟩ (30 * 0 + 0) (at_G (by decide)) rfl rfl rfl rfl (Nat.le_of_ble_eq_true rfl) dX7_describe_131 ⟨by decide, by decide⟩ (fun z13 u' hq => ?_)
        obtain ⟨hz13, rfl⟩ := hq
        have hly : z13 ≤ nI 8 := hz13 ▸ hW8
        refine j_widen h (k := 8 + 4 * 0) (n := 1776 + 888 * 0) (by show 6 + 0 ≤ 8; omega) (by show 1332 + 0 ≤ 1776; omega) ?_
        refine j_istore_n h (lv' := [(3, _), (2, _), (0, _), (1, _)]) dX7_describe_134 rfl (by decide) rfl ?_
        refine j_iconst h (v := 0) dX7_describe_135 (by decide) ?_
        refine j_istore h (lv' := [(4, _), (3, _), (2, _), (0, _), (1, _)]) dX7_describe_136 (by decide) rfl ?_
        have lp138 : ∀ (n k : Nat) (Tk : List Nat) (Xk : Nat → Int32) (Ak : Nat → Nat → Int32) (bk : cB), n + k = 9 → k ≤ 8 → LK X A b Tk Xk Ak bk → Tk.length ≤ 17 + 8 * k → f_X7_describe M p1 = f_X7_describe_l138 M p1 z13 n k Tk → J ((va_up G 0 M, Xk, Ak), bk) (8 + 4 * k, 1776 + 888 * k) [(0, .ref (L 11 0)), (1, .int p1), (2, .ref (L 0 (4 + p1.toNatClampNeg))), (3, .int z13), (4, .int (nI k))] 138 [] := by
          intro n
          induction n with
          | zero => intro k Tk Xk Ak bk hn hk hLk hBk hf; omega
          | succ n ih =>
            intro k Tk Xk Ak bk hn hk hLk hBk hf
            refine j_iload h dX7_describe_138 4 rfl ?_
            refine j_iload_n h dX7_describe_140 rfl 3 rfl ?_
            refine j_icmp_ge h (tgt := 164) dX7_describe_141 (by decide) (fun c14 => ?_) (fun c14 => ?_)
            · refine j_aload_n h dX7_describe_164 rfl 0 rfl ?_
              refine j_get h inlX7 (330 + 0) (ml_get 0) rfl 8 (by decide) (xr_2 15 rfl) rfl (v := .ref (L 11 10)) rfl dX7_describe_165 ?_
              refine j_world h (u' := putL (va_up G 0 M) Xk Ak bk (Xk 10, nI Tk.length, bk.2.2.1, bk.2.2.2, Ak 5)) (lensL_eq hLk.2.2.2.2.1) ?_
              refine j_callI h (n := 0) (c_J4_length_8abf5 l D cy (lensL (va_up G 0 M) Xk Ak bk) (Xk 10) (nI Tk.length) bk.2.2.1 bk.2.2.2 (Ak 5)) (xg_V (xr_12 6 rfl) (xr_12 7 rfl) (xr_12 8 rfl) (xr_2 4 rfl) (xr_12 9 rfl)) rfl rfl (by decide +kernel) ⟨Nat.le_of_ble_eq_true rfl, Nat.le_of_ble_eq_true rfl⟩ (330 + 10) ((lensL (va_up G 0 M) Xk Ak bk).2.1 _) rfl rfl rfl rfl (Nat.le_of_ble_eq_true rfl) dX7_describe_168 ⟨by show 8 + 4 * k + 0 ≤ 40; omega, by show 1776 + 888 * k + 0 ≤ 8880; omega⟩ (fun r u' hq => ?_)
              obtain ⟨rfl, rfl⟩ := hq
              refine j_world h (u' := ((va_up G 0 M, Xk, Ak), bk)) (lensL_eq hLk.2.2.2.2.1).symm ?_
              refine j_widen h (k := 40) (n := 8880) (by show 8 + 4 * k ≤ 40; omega) (by show 1776 + 888 * k ≤ 8880; omega) ?_
              exact hR _ _ _ _ dX7_describe_171 ⟨(_, _), Eq.symm (hf.trans ((ite_p c14 rfl))), rfl, Or.inr ⟨_, _, _, rfl, hLk⟩⟩
            · have hk1 : k < 8 := cnt_lt (by decide) hk hly c14
              refine j_aload_n h dX7_describe_144 rfl 0 rfl ?_
              refine j_aload_n h dX7_describe_145 rfl 0 rfl ?_
              refine j_get h inlX7 (330 + 0) (ml_get 0) rfl 0 (by decide) (xr_1 19 rfl) rfl (v := .ref (L 0 0)) rfl dX7_describe_146 ?_
              refine j_iload_n h dX7_describe_149 rfl 1 rfl ?_
              refine j_iload h dX7_describe_150 4 rfl ?_
              refine j_callI h (n := 2) (c_X1_woodInOrder l D cy L _ _ _ _ _ (by decide) _ _ (hG).w) (xg_V (xr_37 0 rfl) (xr_37 1 rfl) (xr_37 2 rfl) (xr_1 18 rfl) (xr_37 3 rfl)) rfl rfl (by decide +kernel) ⟨Nat.le_of_ble_eq_true rfl, Nat.le_of_ble_eq_true rfl⟩ (30 * 0 + 0) (at_G (by decide)) rfl rfl rfl rfl (Nat.le_of_ble_eq_true rfl) dX7_describe_152 ⟨by show 8 + 4 * k + 0 ≤ 40; omega, by show 1776 + 888 * k + 0 ≤ 8880; omega⟩ (fun z15 u' hq => ?_)
              obtain ⟨hz15, rfl⟩ := hq
              have hq16 : Tk.length ≤ 102 := by have := hBk; omega
              refine j_callV h (n := 1) (c_X7_writeWood l D cy L _ _ _ _ _ _ Tk _ _ _ hLk hq16 hG hDs) (xg_V (xr_37 8 rfl) (xr_37 9 rfl) (xr_37 10 rfl) (xr_1 2 rfl) (xr_37 11 rfl)) rfl rfl (by decide +kernel) ⟨Nat.le_of_ble_eq_true rfl, Nat.le_of_ble_eq_true rfl⟩ (330 + 0) (ml_get 0) rfl rfl rfl rfl (Nat.le_of_ble_eq_true rfl) dX7_describe_155 ⟨by show 8 + 4 * k + 0 + 4 ≤ 40; omega, by show 1776 + 888 * k + 0 + 888 ≤ 8880; omega⟩ (fun u' hq => ?_)
              obtain ⟨z16, hz16, X16, A16, b16, rfl, hL16, hl16⟩ := hq
              refine j_widen h (k := 8 + 4 * (k + 1)) (n := 1776 + 888 * (k + 1)) (by show 8 + 4 * k + 0 + 4 ≤ _; omega) (by show 1776 + 888 * k + 0 + 888 ≤ _; omega) ?_
              have hB16 : z16.length ≤ 17 + 8 * (k + 1) := by have := hBk; omega
              refine j_iinc h (v := nI (k + 1)) (lv' := [(4, _), (0, _), (1, _), (2, _), (3, _)]) dX7_describe_158 (k := 4) rfl (nI_1 k) (by decide) rfl ?_
              refine j_goto h (tgt := 138) dX7_describe_161 (by decide) ?_
              refine j_sub h [1, 2, 3, 4, 0] rfl ?_
              exact ih (k + 1) _ _ _ _ (by omega) (by omega) hL16 hB16 (hf.trans ((ite_n c14 (bd_eq hz15 (bd_eq hz16 rfl)))))
        refine j_sub h [3, 4, 2, 1, 0] rfl ?_
        exact lp138 9 0 _ _ _ _ (by omega) (by omega) hL10 (by have := hB10; omega) ((bd_eq hz1 (ite_n c2 (ite_n c8 (bd_eq hz11 (ite_p c12 (bd_eq hz13 rfl)))))))
      · refine j_aload_n h dX7_describe_107 rfl 1 rfl ?_
        refine j_get h inlX7 (330 + 0) (ml_get 0) rfl 8 (by decide) (xr_2 15 rfl) rfl (v := .ref (L 11 10)) rfl dX7_describe_108 ?_
        refine j_ldcwS h (i := 8) rfl dX7_describe_111 ?_
        refine j_world h (u' := putL (va_up G 0 M) X10 A10 b10 (X10 10, nI ((((((([] : List Nat) ++ digs ((M.2.1 p1.toNatClampNeg 0).toNatClampNeg)) ++ [45]) ++ digs ((M.2.1 p1.toNatClampNeg 1).toNatClampNeg)) ++ strs 5) ++ strs 7) ++ digs ((M.2.1 p1.toNatClampNeg 2).toNatClampNeg)).length, b10.2.2.1, b10.2.2.2, A10 5)) (lensL_eq hL10.2.2.2.2.1) ?_
        have hc17 := c_J4_append_15ec4 l D cy (lensL (cy := cy) (L := L) (va_up G 0 M) X10 A10 b10) (X10 10) (n := ((((((([] : List Nat) ++ digs ((M.2.1 p1.toNatClampNeg 0).toNatClampNeg)) ++ [45]) ++ digs ((M.2.1 p1.toNatClampNeg 1).toNatClampNeg)) ++ strs 5) ++ strs 7) ++ digs ((M.2.1 p1.toNatClampNeg 2).toNatClampNeg)).length) b10.2.2.1 (m := b10.2.2.2) (f := A10 5) (i := 8) (by decide) hL10.2.2.2.2.2.1 hL10.2.2.2.2.2.2.1 hL10.2.2.2.2.2.2.2.1
        have hq17 : (((((((([] : List Nat) ++ digs ((M.2.1 p1.toNatClampNeg 0).toNatClampNeg)) ++ [45]) ++ digs ((M.2.1 p1.toNatClampNeg 1).toNatClampNeg)) ++ strs 5) ++ strs 7) ++ digs ((M.2.1 p1.toNatClampNeg 2).toNatClampNeg)).length + lenS.getD 8 0) ≤ 110 := by have hx : lenS.getD 8 0 = 2 := rfl; have := hB10; omega
        refine j_callA h (n := 1) hc17 (xg_V (xr_35 14 rfl) (xr_35 15 rfl) (xr_35 16 rfl) (xr_2 4 rfl) (xr_35 17 rfl)) rfl rfl (by decide +kernel) ⟨Nat.le_of_ble_eq_true rfl, Nat.le_of_ble_eq_true rfl⟩ (330 + 10) ((lensL (va_up G 0 M) X10 A10 b10).2.1 _) rfl rfl rfl rfl (Nat.le_of_ble_eq_true rfl) dX7_describe_114 ⟨by have := kE_le (((((((([] : List Nat) ++ digs ((M.2.1 p1.toNatClampNeg 0).toNatClampNeg)) ++ [45]) ++ digs ((M.2.1 p1.toNatClampNeg 1).toNatClampNeg)) ++ strs 5) ++ strs 7) ++ digs ((M.2.1 p1.toNatClampNeg 2).toNatClampNeg)).length + lenS.getD 8 0) b10.2.2.2; show 6 + kE (((((((([] : List Nat) ++ digs ((M.2.1 p1.toNatClampNeg 0).toNatClampNeg)) ++ [45]) ++ digs ((M.2.1 p1.toNatClampNeg 1).toNatClampNeg)) ++ strs 5) ++ strs 7) ++ digs ((M.2.1 p1.toNatClampNeg 2).toNatClampNeg)).length + lenS.getD 8 0) b10.2.2.2 ≤ 40; omega, by have := sE_le (m := b10.2.2.2) hq17; show 1332 + sE (((((((([] : List Nat) ++ digs ((M.2.1 p1.toNatClampNeg 0).toNatClampNeg)) ++ [45]) ++ digs ((M.2.1 p1.toNatClampNeg 1).toNatClampNeg)) ++ strs 5) ++ strs 7) ++ digs ((M.2.1 p1.toNatClampNeg 2).toNatClampNeg)).length + lenS.getD 8 0) b10.2.2.2 ≤ 8880; omega⟩ (fun r u' hq => ?_)
        obtain ⟨rfl, a17, f17, rfl, g17a, g17b, g17c⟩ := hq
        refine j_widen h (k := 7) (n := 1554) (by have := kE_le (((((((([] : List Nat) ++ digs ((M.2.1 p1.toNatClampNeg 0).toNatClampNeg)) ++ [45]) ++ digs ((M.2.1 p1.toNatClampNeg 1).toNatClampNeg)) ++ strs 5) ++ strs 7) ++ digs ((M.2.1 p1.toNatClampNeg 2).toNatClampNeg)).length + lenS.getD 8 0) b10.2.2.2; show 6 + kE (((((((([] : List Nat) ++ digs ((M.2.1 p1.toNatClampNeg 0).toNatClampNeg)) ++ [45]) ++ digs ((M.2.1 p1.toNatClampNeg 1).toNatClampNeg)) ++ strs 5) ++ strs 7) ++ digs ((M.2.1 p1.toNatClampNeg 2).toNatClampNeg)).length + lenS.getD 8 0) b10.2.2.2 ≤ 7; omega) (by have := sE_le (m := b10.2.2.2) hq17; show 1332 + sE (((((((([] : List Nat) ++ digs ((M.2.1 p1.toNatClampNeg 0).toNatClampNeg)) ++ [45]) ++ digs ((M.2.1 p1.toNatClampNeg 1).toNatClampNeg)) ++ strs 5) ++ strs 7) ++ digs ((M.2.1 p1.toNatClampNeg 2).toNatClampNeg)).length + lenS.getD 8 0) b10.2.2.2 ≤ 1554; omega) ?_
        obtain ⟨X17, A17, b17, e17, hL17⟩ := LK.str (G := (va_up G 0 M)) hL10 (i := 8) (by decide) hq17 g17a g17b g17c
        refine j_world h (congrArg _ e17) ?_
        have hB17 : (((((((([] : List Nat) ++ digs ((M.2.1 p1.toNatClampNeg 0).toNatClampNeg)) ++ [45]) ++ digs ((M.2.1 p1.toNatClampNeg 1).toNatClampNeg)) ++ strs 5) ++ strs 7) ++ digs ((M.2.1 p1.toNatClampNeg 2).toNatClampNeg)) ++ strs 8).length ≤ 15 := by rw [List.length_append, strs_len]; have hx : lenS.getD 8 0 = 2 := rfl; have := hB10; omega
        refine j_aload_n h dX7_describe_117 rfl 0 rfl ?_
        refine j_get h inlX5 (30 * 0 + (4 + p1.toNatClampNeg)) (at_R (by decide) (by omega)) rfl 4 (by decide) (xr_21 3 rfl) rfl (v := .int (M.2.1 p1.toNatClampNeg 4)) rfl dX7_describe_118 ?_
        refine j_world h (u' := putL (va_up G 0 M) X17 A17 b17 (X17 10, nI (((((((([] : List Nat) ++ digs ((M.2.1 p1.toNatClampNeg 0).toNatClampNeg)) ++ [45]) ++ digs ((M.2.1 p1.toNatClampNeg 1).toNatClampNeg)) ++ strs 5) ++ strs 7) ++ digs ((M.2.1 p1.toNatClampNeg 2).toNatClampNeg)) ++ strs 8).length, b17.2.2.1, b17.2.2.2, A17 5)) (lensL_eq hL17.2.2.2.2.1) ?_
        have hc18 := c_J4_append_bf812 l D cy (lensL (cy := cy) (L := L) (va_up G 0 M) X17 A17 b17) (X17 10) (n := (((((((([] : List Nat) ++ digs ((M.2.1 p1.toNatClampNeg 0).toNatClampNeg)) ++ [45]) ++ digs ((M.2.1 p1.toNatClampNeg 1).toNatClampNeg)) ++ strs 5) ++ strs 7) ++ digs ((M.2.1 p1.toNatClampNeg 2).toNatClampNeg)) ++ strs 8).length) b17.2.2.1 (m := b17.2.2.2) (f := A17 5) (v := (M.2.1 p1.toNatClampNeg 4).toNatClampNeg) (by omega) hL17.2.2.2.2.2.1 hL17.2.2.2.2.2.2.1 hL17.2.2.2.2.2.2.2.1
        rw [← show M.2.1 p1.toNatClampNeg 4 = nI ((M.2.1 p1.toNatClampNeg 4).toNatClampNeg) from hf4.1] at hc18
        have hq18 : ((((((((([] : List Nat) ++ digs ((M.2.1 p1.toNatClampNeg 0).toNatClampNeg)) ++ [45]) ++ digs ((M.2.1 p1.toNatClampNeg 1).toNatClampNeg)) ++ strs 5) ++ strs 7) ++ digs ((M.2.1 p1.toNatClampNeg 2).toNatClampNeg)) ++ strs 8).length + sb_dg ((M.2.1 p1.toNatClampNeg 4).toNatClampNeg)) ≤ 110 := by have hx := dg_2 (v := (M.2.1 p1.toNatClampNeg 4).toNatClampNeg) (by omega); have := hB17; omega
        refine j_callA h (n := 1) hc18 (xg_V (xr_34 4 rfl) (xr_34 5 rfl) (xr_34 6 rfl) (xr_2 4 rfl) (xr_34 7 rfl)) rfl rfl (by decide +kernel) ⟨Nat.le_of_ble_eq_true rfl, Nat.le_of_ble_eq_true rfl⟩ (330 + 10) ((lensL (va_up G 0 M) X17 A17 b17).2.1 _) rfl rfl rfl rfl (Nat.le_of_ble_eq_true rfl) dX7_describe_121 ⟨by have := kE_le ((((((((([] : List Nat) ++ digs ((M.2.1 p1.toNatClampNeg 0).toNatClampNeg)) ++ [45]) ++ digs ((M.2.1 p1.toNatClampNeg 1).toNatClampNeg)) ++ strs 5) ++ strs 7) ++ digs ((M.2.1 p1.toNatClampNeg 2).toNatClampNeg)) ++ strs 8).length + sb_dg ((M.2.1 p1.toNatClampNeg 4).toNatClampNeg)) b17.2.2.2; show 7 + kE ((((((((([] : List Nat) ++ digs ((M.2.1 p1.toNatClampNeg 0).toNatClampNeg)) ++ [45]) ++ digs ((M.2.1 p1.toNatClampNeg 1).toNatClampNeg)) ++ strs 5) ++ strs 7) ++ digs ((M.2.1 p1.toNatClampNeg 2).toNatClampNeg)) ++ strs 8).length + sb_dg ((M.2.1 p1.toNatClampNeg 4).toNatClampNeg)) b17.2.2.2 ≤ 40; omega, by have := sE_le (m := b17.2.2.2) hq18; show 1554 + sE ((((((((([] : List Nat) ++ digs ((M.2.1 p1.toNatClampNeg 0).toNatClampNeg)) ++ [45]) ++ digs ((M.2.1 p1.toNatClampNeg 1).toNatClampNeg)) ++ strs 5) ++ strs 7) ++ digs ((M.2.1 p1.toNatClampNeg 2).toNatClampNeg)) ++ strs 8).length + sb_dg ((M.2.1 p1.toNatClampNeg 4).toNatClampNeg)) b17.2.2.2 ≤ 8880; omega⟩ (fun r u' hq => ?_)
        obtain ⟨rfl, a18, f18, rfl, g18a, g18b, g18c⟩ := hq
        refine j_widen h (k := 8) (n := 1776) (by have := kE_le ((((((((([] : List Nat) ++ digs ((M.2.1 p1.toNatClampNeg 0).toNatClampNeg)) ++ [45]) ++ digs ((M.2.1 p1.toNatClampNeg 1).toNatClampNeg)) ++ strs 5) ++ strs 7) ++ digs ((M.2.1 p1.toNatClampNeg 2).toNatClampNeg)) ++ strs 8).length + sb_dg ((M.2.1 p1.toNatClampNeg 4).toNatClampNeg)) b17.2.2.2; show 7 + kE ((((((((([] : List Nat) ++ digs ((M.2.1 p1.toNatClampNeg 0).toNatClampNeg)) ++ [45]) ++ digs ((M.2.1 p1.toNatClampNeg 1).toNatClampNeg)) ++ strs 5) ++ strs 7) ++ digs ((M.2.1 p1.toNatClampNeg 2).toNatClampNeg)) ++ strs 8).length + sb_dg ((M.2.1 p1.toNatClampNeg 4).toNatClampNeg)) b17.2.2.2 ≤ 8; omega) (by have := sE_le (m := b17.2.2.2) hq18; show 1554 + sE ((((((((([] : List Nat) ++ digs ((M.2.1 p1.toNatClampNeg 0).toNatClampNeg)) ++ [45]) ++ digs ((M.2.1 p1.toNatClampNeg 1).toNatClampNeg)) ++ strs 5) ++ strs 7) ++ digs ((M.2.1 p1.toNatClampNeg 2).toNatClampNeg)) ++ strs 8).length + sb_dg ((M.2.1 p1.toNatClampNeg 4).toNatClampNeg)) b17.2.2.2 ≤ 1776; omega) ?_
        obtain ⟨X18, A18, b18, e18, hL18⟩ := LK.int (G := (va_up G 0 M)) hL17 hq18 g18a g18b g18c
        refine j_world h (congrArg _ e18) ?_
        have hB18 : ((((((((([] : List Nat) ++ digs ((M.2.1 p1.toNatClampNeg 0).toNatClampNeg)) ++ [45]) ++ digs ((M.2.1 p1.toNatClampNeg 1).toNatClampNeg)) ++ strs 5) ++ strs 7) ++ digs ((M.2.1 p1.toNatClampNeg 2).toNatClampNeg)) ++ strs 8) ++ digs ((M.2.1 p1.toNatClampNeg 4).toNatClampNeg)).length ≤ 17 := by rw [List.length_append, digs_len]; have hx := dg_2 (v := (M.2.1 p1.toNatClampNeg 4).toNatClampNeg) (by omega); have := hB17; omega
        refine j_pop h dX7_describe_124 rfl ?_
        refine j_aload_n h dX7_describe_125 rfl 1 rfl ?_
        refine j_get h inlX7 (330 + 0) (ml_get 0) rfl 0 (by decide) (xr_1 19 rfl) rfl (v := .ref (L 0 0)) rfl dX7_describe_126 ?_
        refine j_iload_n h dX7_describe_129 rfl 2 rfl ?_
        refine j_iconst h (v := 1) dX7_describe_130 (by decide) ?_
        refine j_callI h (n := 2) (c_X1_woodsOn l D cy L _ _ _ _ _ (by decide) _ _ (hG).w) (xg_V (xr_33 5 rfl) (xr_33 6 rfl) (xr_33 7 rfl) (xr_1 18 rfl) (xr_33 8 rfl)) rfl rfl (by decide +kernel) ⟨Nat.le_of_ble_eq_true rfl, Nat.le_of_ble_eq_true rfl⟩ (30 * 0 + 0) (at_G (by decide)) rfl rfl rfl rfl (Nat.le_of_ble_eq_true rfl) dX7_describe_131 ⟨by decide, by decide⟩ (fun z19 u' hq => ?_)
        obtain ⟨hz19, rfl⟩ := hq
        have hly : z19 ≤ nI 8 := hz19 ▸ hW8
        refine j_widen h (k := 8 + 4 * 0) (n := 1776 + 888 * 0) (by show 8 + 0 ≤ 8; omega) (by show 1776 + 0 ≤ 1776; omega) ?_
        refine j_istore_n h (lv' := [(3, _), (2, _), (0, _), (1, _)]) dX7_describe_134 rfl (by decide) rfl ?_
        refine j_iconst h (v := 0) dX7_describe_135 (by decide) ?_
        refine j_istore h (lv' := [(4, _), (3, _), (2, _), (0, _), (1, _)]) dX7_describe_136 (by decide) rfl ?_
        have lp138 : ∀ (n k : Nat) (Tk : List Nat) (Xk : Nat → Int32) (Ak : Nat → Nat → Int32) (bk : cB), n + k = 9 → k ≤ 8 → LK X A b Tk Xk Ak bk → Tk.length ≤ 17 + 8 * k → f_X7_describe M p1 = f_X7_describe_l138 M p1 z19 n k Tk → J ((va_up G 0 M, Xk, Ak), bk) (8 + 4 * k, 1776 + 888 * k) [(0, .ref (L 11 0)), (1, .int p1), (2, .ref (L 0 (4 + p1.toNatClampNeg))), (3, .int z19), (4, .int (nI k))] 138 [] := by
          intro n
          induction n with
          | zero => intro k Tk Xk Ak bk hn hk hLk hBk hf; omega
          | succ n ih =>
            intro k Tk Xk Ak bk hn hk hLk hBk hf
            refine j_iload h dX7_describe_138 4 rfl ?_
            refine j_iload_n h dX7_describe_140 rfl 3 rfl ?_
            refine j_icmp_ge h (tgt := 164) dX7_describe_141 (by decide) (fun c20 => ?_) (fun c20 => ?_)
            · refine j_aload_n h dX7_describe_164 rfl 0 rfl ?_
              refine j_get h inlX7 (330 + 0) (ml_get 0) rfl 8 (by decide) (xr_2 15 rfl) rfl (v := .ref (L 11 10)) rfl dX7_describe_165 ?_
              refine j_world h (u' := putL (va_up G 0 M) Xk Ak bk (Xk 10, nI Tk.length, bk.2.2.1, bk.2.2.2, Ak 5)) (lensL_eq hLk.2.2.2.2.1) ?_
              refine j_callI h (n := 0) (c_J4_length_8abf5 l D cy (lensL (va_up G 0 M) Xk Ak bk) (Xk 10) (nI Tk.length) bk.2.2.1 bk.2.2.2 (Ak 5)) (xg_V (xr_12 6 rfl) (xr_12 7 rfl) (xr_12 8 rfl) (xr_2 4 rfl) (xr_12 9 rfl)) rfl rfl (by decide +kernel) ⟨Nat.le_of_ble_eq_true rfl, Nat.le_of_ble_eq_true rfl⟩ (330 + 10) ((lensL (va_up G 0 M) Xk Ak bk).2.1 _) rfl rfl rfl rfl (Nat.le_of_ble_eq_true rfl) dX7_describe_168 ⟨by show 8 + 4 * k + 0 ≤ 40; omega, by show 1776 + 888 * k + 0 ≤ 8880; omega⟩ (fun r u' hq => ?_)
              obtain ⟨rfl, rfl⟩ := hq
              refine j_world h (u' := ((va_up G 0 M, Xk, Ak), bk)) (lensL_eq hLk.2.2.2.2.1).symm ?_
              refine j_widen h (k := 40) (n := 8880) (by show 8 + 4 * k ≤ 40; omega) (by show 1776 + 888 * k ≤ 8880; omega) ?_
              exact hR _ _ _ _ dX7_describe_171 ⟨(_, _), Eq.symm (hf.trans ((ite_p c20 rfl))), rfl, Or.inr ⟨_, _, _, rfl, hLk⟩⟩
            · have hk1 : k < 8 := cnt_lt (by decide) hk hly c20
              refine j_aload_n h dX7_describe_144 rfl 0 rfl ?_
              refine j_aload_n h dX7_describe_145 rfl 0 rfl ?_
              refine j_get h inlX7 (330 + 0) (ml_get 0) rfl 0 (by decide) (xr_1 19 rfl) rfl (v := .ref (L 0 0)) rfl dX7_describe_146 ?_
              refine j_iload_n h dX7_describe_149 rfl 1 rfl ?_
              refine j_iload h dX7_describe_150 4 rfl ?_
              refine j_callI h (n := 2) (c_X1_woodInOrder l D cy L _ _ _ _ _ (by decide) _ _ (hG).w) (xg_V (xr_37 0 rfl) (xr_37 1 rfl) (xr_37 2 rfl) (xr_1 18 rfl) (xr_37 3 rfl)) rfl rfl (by decide +kernel) ⟨Nat.le_of_ble_eq_true rfl, Nat.le_of_ble_eq_true rfl⟩ (30 * 0 + 0) (at_G (by decide)) rfl rfl rfl rfl (Nat.le_of_ble_eq_true rfl) dX7_describe_152 ⟨by show 8 + 4 * k + 0 ≤ 40; omega, by show 1776 + 888 * k + 0 ≤ 8880; omega⟩ (fun z21 u' hq => ?_)
              obtain ⟨hz21, rfl⟩ := hq
              have hq22 : Tk.length ≤ 102 := by have := hBk; omega
              refine j_callV h (n := 1) (c_X7_writeWood l D cy L _ _ _ _ _ _ Tk _ _ _ hLk hq22 hG hDs) (xg_V (xr_37 8 rfl) (xr_37 9 rfl) (xr_37 10 rfl) (xr_1 2 rfl) (xr_37 11 rfl)) rfl rfl (by decide +kernel) ⟨Nat.le_of_ble_eq_true rfl, Nat.le_of_ble_eq_true rfl⟩ (330 + 0) (ml_get 0) rfl rfl rfl rfl (Nat.le_of_ble_eq_true rfl) dX7_describe_155 ⟨by show 8 + 4 * k + 0 + 4 ≤ 40; omega, by show 1776 + 888 * k + 0 + 888 ≤ 8880; omega⟩ (fun u' hq => ?_)
              obtain ⟨z22, hz22, X22, A22, b22, rfl, hL22, hl22⟩ := hq
              refine j_widen h (k := 8 + 4 * (k + 1)) (n := 1776 + 888 * (k + 1)) (by show 8 + 4 * k + 0 + 4 ≤ _; omega) (by show 1776 + 888 * k + 0 + 888 ≤ _; omega) ?_
              have hB22 : z22.length ≤ 17 + 8 * (k + 1) := by have := hBk; omega
              refine j_iinc h (v := nI (k + 1)) (lv' := [(4, _), (0, _), (1, _), (2, _), (3, _)]) dX7_describe_158 (k := 4) rfl (nI_1 k) (by decide) rfl ?_
              refine j_goto h (tgt := 138) dX7_describe_161 (by decide) ?_
              refine j_sub h [1, 2, 3, 4, 0] rfl ?_
              exact ih (k + 1) _ _ _ _ (by omega) (by omega) hL22 hB22 (hf.trans ((ite_n c20 (bd_eq hz21 (bd_eq hz22 rfl)))))
        refine j_sub h [3, 4, 2, 1, 0] rfl ?_
        exact lp138 9 0 _ _ _ _ (by omega) (by omega) hL18 (by have := hB18; omega) ((bd_eq hz1 (ite_n c2 (ite_n c8 (bd_eq hz11 (ite_n c12 (bd_eq hz19 rfl)))))))
    · refine j_aload_n h dX7_describe_68 rfl 1 rfl ?_
      refine j_get h inlX7 (330 + 0) (ml_get 0) rfl 8 (by decide) (xr_2 15 rfl) rfl (v := .ref (L 11 10)) rfl dX7_describe_69 ?_
      refine j_ldcwS h (i := 6) rfl dX7_describe_72 ?_
      refine j_world h (u' := putL (va_up G 0 M) X7 A7 b7 (X7 10, nI ((((([] : List Nat) ++ digs ((M.2.1 p1.toNatClampNeg 0).toNatClampNeg)) ++ [45]) ++ digs ((M.2.1 p1.toNatClampNeg 1).toNatClampNeg)) ++ strs 5).length, b7.2.2.1, b7.2.2.2, A7 5)) (lensL_eq hL7.2.2.2.2.1) ?_
      have hc23 := c_J4_append_15ec4 l D cy (lensL (cy := cy) (L := L) (va_up G 0 M) X7 A7 b7) (X7 10) (n := ((((([] : List Nat) ++ digs ((M.2.1 p1.toNatClampNeg 0).toNatClampNeg)) ++ [45]) ++ digs ((M.2.1 p1.toNatClampNeg 1).toNatClampNeg)) ++ strs 5).length) b7.2.2.1 (m := b7.2.2.2) (f := A7 5) (i := 6) (by decide) hL7.2.2.2.2.2.1 hL7.2.2.2.2.2.2.1 hL7.2.2.2.2.2.2.2.1
      have hq23 : (((((([] : List Nat) ++ digs ((M.2.1 p1.toNatClampNeg 0).toNatClampNeg)) ++ [45]) ++ digs ((M.2.1 p1.toNatClampNeg 1).toNatClampNeg)) ++ strs 5).length + lenS.getD 6 0) ≤ 110 := by have hx : lenS.getD 6 0 = 3 := rfl; have := hB7; omega
      refine j_callA h (n := 1) hc23 (xg_V (xr_35 14 rfl) (xr_35 15 rfl) (xr_35 16 rfl) (xr_2 4 rfl) (xr_35 17 rfl)) rfl rfl (by decide +kernel) ⟨Nat.le_of_ble_eq_true rfl, Nat.le_of_ble_eq_true rfl⟩ (330 + 10) ((lensL (va_up G 0 M) X7 A7 b7).2.1 _) rfl rfl rfl rfl (Nat.le_of_ble_eq_true rfl) dX7_describe_75 ⟨by have := kE_le (((((([] : List Nat) ++ digs ((M.2.1 p1.toNatClampNeg 0).toNatClampNeg)) ++ [45]) ++ digs ((M.2.1 p1.toNatClampNeg 1).toNatClampNeg)) ++ strs 5).length + lenS.getD 6 0) b7.2.2.2; show 4 + kE (((((([] : List Nat) ++ digs ((M.2.1 p1.toNatClampNeg 0).toNatClampNeg)) ++ [45]) ++ digs ((M.2.1 p1.toNatClampNeg 1).toNatClampNeg)) ++ strs 5).length + lenS.getD 6 0) b7.2.2.2 ≤ 40; omega, by have := sE_le (m := b7.2.2.2) hq23; show 888 + sE (((((([] : List Nat) ++ digs ((M.2.1 p1.toNatClampNeg 0).toNatClampNeg)) ++ [45]) ++ digs ((M.2.1 p1.toNatClampNeg 1).toNatClampNeg)) ++ strs 5).length + lenS.getD 6 0) b7.2.2.2 ≤ 8880; omega⟩ (fun r u' hq => ?_)
      obtain ⟨rfl, a23, f23, rfl, g23a, g23b, g23c⟩ := hq
      refine j_widen h (k := 5) (n := 1110) (by have := kE_le (((((([] : List Nat) ++ digs ((M.2.1 p1.toNatClampNeg 0).toNatClampNeg)) ++ [45]) ++ digs ((M.2.1 p1.toNatClampNeg 1).toNatClampNeg)) ++ strs 5).length + lenS.getD 6 0) b7.2.2.2; show 4 + kE (((((([] : List Nat) ++ digs ((M.2.1 p1.toNatClampNeg 0).toNatClampNeg)) ++ [45]) ++ digs ((M.2.1 p1.toNatClampNeg 1).toNatClampNeg)) ++ strs 5).length + lenS.getD 6 0) b7.2.2.2 ≤ 5; omega) (by have := sE_le (m := b7.2.2.2) hq23; show 888 + sE (((((([] : List Nat) ++ digs ((M.2.1 p1.toNatClampNeg 0).toNatClampNeg)) ++ [45]) ++ digs ((M.2.1 p1.toNatClampNeg 1).toNatClampNeg)) ++ strs 5).length + lenS.getD 6 0) b7.2.2.2 ≤ 1110; omega) ?_
      obtain ⟨X23, A23, b23, e23, hL23⟩ := LK.str (G := (va_up G 0 M)) hL7 (i := 6) (by decide) hq23 g23a g23b g23c
      refine j_world h (congrArg _ e23) ?_
      have hB23 : (((((([] : List Nat) ++ digs ((M.2.1 p1.toNatClampNeg 0).toNatClampNeg)) ++ [45]) ++ digs ((M.2.1 p1.toNatClampNeg 1).toNatClampNeg)) ++ strs 5) ++ strs 6).length ≤ 10 := by rw [List.length_append, strs_len]; have hx : lenS.getD 6 0 = 3 := rfl; have := hB7; omega
      refine j_pop h dX7_describe_78 rfl ?_
      refine j_goto h (tgt := 100) dX7_describe_79 (by decide) ?_
      refine j_aload_n h dX7_describe_100 rfl 0 rfl ?_
      refine j_callI h (n := 0) (c_X5_isPlayed l D cy L _ _ _ _ _ (by decide) (by omega)) (xg_V (xr_21 10 rfl) (xr_9 23 rfl) (xr_10 0 rfl) (xr_2 23 rfl) (xr_10 1 rfl)) rfl rfl (by decide +kernel) ⟨Nat.le_of_ble_eq_true rfl, Nat.le_of_ble_eq_true rfl⟩ (30 * 0 + (4 + p1.toNatClampNeg)) (at_R (by decide) (by omega)) rfl rfl rfl rfl (Nat.le_of_ble_eq_true rfl) dX7_describe_101 ⟨by decide, by decide⟩ (fun z24 u' hq => ?_)
      obtain ⟨hz24, rfl, bz24⟩ := hq
      refine j_if_eq h (tgt := 125) dX7_describe_104 (by decide) (fun c25 => ?_) (fun c25 => ?_)
      · refine j_aload_n h dX7_describe_125 rfl 1 rfl ?_
        refine j_get h inlX7 (330 + 0) (ml_get 0) rfl 0 (by decide) (xr_1 19 rfl) rfl (v := .ref (L 0 0)) rfl dX7_describe_126 ?_
        refine j_iload_n h dX7_describe_129 rfl 2 rfl ?_
        refine j_iconst h (v := 1) dX7_describe_130 (by decide) ?_
        refine j_callI h (n := 2) (c_X1_woodsOn l D cy L _ _ _ _ _ (by decide) _ _ (hG).w) (xg_V (xr_33 5 rfl) (xr_33 6 rfl) (xr_33 7 rfl) (xr_1 18 rfl) (xr_33 8 rfl)) rfl rfl (by decide +kernel) ⟨Nat.le_of_ble_eq_true rfl, Nat.le_of_ble_eq_true rfl⟩ (30 * 0 + 0) (at_G (by decide)) rfl rfl rfl rfl (Nat.le_of_ble_eq_true rfl) dX7_describe_131 ⟨by decide, by decide⟩ (fun z26 u' hq => ?_)
        obtain ⟨hz26, rfl⟩ := hq
        have hly : z26 ≤ nI 8 := hz26 ▸ hW8
        refine j_widen h (k := 8 + 4 * 0) (n := 1776 + 888 * 0) (by show 5 + 0 ≤ 8; omega) (by show 1110 + 0 ≤ 1776; omega) ?_
        refine j_istore_n h (lv' := [(3, _), (2, _), (0, _), (1, _)]) dX7_describe_134 rfl (by decide) rfl ?_
        refine j_iconst h (v := 0) dX7_describe_135 (by decide) ?_
        refine j_istore h (lv' := [(4, _), (3, _), (2, _), (0, _), (1, _)]) dX7_describe_136 (by decide) rfl ?_
        have lp138 : ∀ (n k : Nat) (Tk : List Nat) (Xk : Nat → Int32) (Ak : Nat → Nat → Int32) (bk : cB), n + k = 9 → k ≤ 8 → LK X A b Tk Xk Ak bk → Tk.length ≤ 17 + 8 * k → f_X7_describe M p1 = f_X7_describe_l138 M p1 z26 n k Tk → J ((va_up G 0 M, Xk, Ak), bk) (8 + 4 * k, 1776 + 888 * k) [(0, .ref (L 11 0)), (1, .int p1), (2, .ref (L 0 (4 + p1.toNatClampNeg))), (3, .int z26), (4, .int (nI k))] 138 [] := by
          intro n
          induction n with
          | zero => intro k Tk Xk Ak bk hn hk hLk hBk hf; omega
          | succ n ih =>
            intro k Tk Xk Ak bk hn hk hLk hBk hf
            refine j_iload h dX7_describe_138 4 rfl ?_
            refine j_iload_n h dX7_describe_140 rfl 3 rfl ?_
            refine j_icmp_ge h (tgt := 164) dX7_describe_141 (by decide) (fun c27 => ?_) (fun c27 => ?_)
            · refine j_aload_n h dX7_describe_164 rfl 0 rfl ?_
              refine j_get h inlX7 (330 + 0) (ml_get 0) rfl 8 (by decide) (xr_2 15 rfl) rfl (v := .ref (L 11 10)) rfl dX7_describe_165 ?_
              refine j_world h (u' := putL (va_up G 0 M) Xk Ak bk (Xk 10, nI Tk.length, bk.2.2.1, bk.2.2.2, Ak 5)) (lensL_eq hLk.2.2.2.2.1) ?_
              refine j_callI h (n := 0) (c_J4_length_8abf5 l D cy (lensL (va_up G 0 M) Xk Ak bk) (Xk 10) (nI Tk.length) bk.2.2.1 bk.2.2.2 (Ak 5)) (xg_V (xr_12 6 rfl) (xr_12 7 rfl) (xr_12 8 rfl) (xr_2 4 rfl) (xr_12 9 rfl)) rfl rfl (by decide +kernel) ⟨Nat.le_of_ble_eq_true rfl, Nat.le_of_ble_eq_true rfl⟩ (330 + 10) ((lensL (va_up G 0 M) Xk Ak bk).2.1 _) rfl rfl rfl rfl (Nat.le_of_ble_eq_true rfl) dX7_describe_168 ⟨by show 8 + 4 * k + 0 ≤ 40; omega, by show 1776 + 888 * k + 0 ≤ 8880; omega⟩ (fun r u' hq => ?_)
              obtain ⟨rfl, rfl⟩ := hq
              refine j_world h (u' := ((va_up G 0 M, Xk, Ak), bk)) (lensL_eq hLk.2.2.2.2.1).symm ?_
              refine j_widen h (k := 40) (n := 8880) (by show 8 + 4 * k ≤ 40; omega) (by show 1776 + 888 * k ≤ 8880; omega) ?_
              exact hR _ _ _ _ dX7_describe_171 ⟨(_, _), Eq.symm (hf.trans ((ite_p c27 rfl))), rfl, Or.inr ⟨_, _, _, rfl, hLk⟩⟩
            · have hk1 : k < 8 := cnt_lt (by decide) hk hly c27
              refine j_aload_n h dX7_describe_144 rfl 0 rfl ?_
              refine j_aload_n h dX7_describe_145 rfl 0 rfl ?_
              refine j_get h inlX7 (330 + 0) (ml_get 0) rfl 0 (by decide) (xr_1 19 rfl) rfl (v := .ref (L 0 0)) rfl dX7_describe_146 ?_
              refine j_iload_n h dX7_describe_149 rfl 1 rfl ?_
              refine j_iload h dX7_describe_150 4 rfl ?_
              refine j_callI h (n := 2) (c_X1_woodInOrder l D cy L _ _ _ _ _ (by decide) _ _ (hG).w) (xg_V (xr_37 0 rfl) (xr_37 1 rfl) (xr_37 2 rfl) (xr_1 18 rfl) (xr_37 3 rfl)) rfl rfl (by decide +kernel) ⟨Nat.le_of_ble_eq_true rfl, Nat.le_of_ble_eq_true rfl⟩ (30 * 0 + 0) (at_G (by decide)) rfl rfl rfl rfl (Nat.le_of_ble_eq_true rfl) dX7_describe_152 ⟨by show 8 + 4 * k + 0 ≤ 40; omega, by show 1776 + 888 * k + 0 ≤ 8880; omega⟩ (fun z28 u' hq => ?_)
              obtain ⟨hz28, rfl⟩ := hq
              have hq29 : Tk.length ≤ 102 := by have := hBk; omega
              refine j_callV h (n := 1) (c_X7_writeWood l D cy L _ _ _ _ _ _ Tk _ _ _ hLk hq29 hG hDs) (xg_V (xr_37 8 rfl) (xr_37 9 rfl) (xr_37 10 rfl) (xr_1 2 rfl) (xr_37 11 rfl)) rfl rfl (by decide +kernel) ⟨Nat.le_of_ble_eq_true rfl, Nat.le_of_ble_eq_true rfl⟩ (330 + 0) (ml_get 0) rfl rfl rfl rfl (Nat.le_of_ble_eq_true rfl) dX7_describe_155 ⟨by show 8 + 4 * k + 0 + 4 ≤ 40; omega, by show 1776 + 888 * k + 0 + 888 ≤ 8880; omega⟩ (fun u' hq => ?_)
              obtain ⟨z29, hz29, X29, A29, b29, rfl, hL29, hl29⟩ := hq
              refine j_widen h (k := 8 + 4 * (k + 1)) (n := 1776 + 888 * (k + 1)) (by show 8 + 4 * k + 0 + 4 ≤ _; omega) (by show 1776 + 888 * k + 0 + 888 ≤ _; omega) ?_
              have hB29 : z29.length ≤ 17 + 8 * (k + 1) := by have := hBk; omega
              refine j_iinc h (v := nI (k + 1)) (lv' := [(4, _), (0, _), (1, _), (2, _), (3, _)]) dX7_describe_158 (k := 4) rfl (nI_1 k) (by decide) rfl ?_
              refine j_goto h (tgt := 138) dX7_describe_161 (by decide) ?_
              refine j_sub h [1, 2, 3, 4, 0] rfl ?_
              exact ih (k + 1) _ _ _ _ (by omega) (by omega) hL29 hB29 (hf.trans ((ite_n c27 (bd_eq hz28 (bd_eq hz29 rfl)))))
        refine j_sub h [3, 4, 2, 1, 0] rfl ?_
        exact lp138 9 0 _ _ _ _ (by omega) (by omega) hL23 (by have := hB23; omega) ((bd_eq hz1 (ite_n c2 (ite_p c8 (bd_eq hz24 (ite_p c25 (bd_eq hz26 rfl)))))))
      · refine j_aload_n h dX7_describe_107 rfl 1 rfl ?_
        refine j_get h inlX7 (330 + 0) (ml_get 0) rfl 8 (by decide) (xr_2 15 rfl) rfl (v := .ref (L 11 10)) rfl dX7_describe_108 ?_
        refine j_ldcwS h (i := 8) rfl dX7_describe_111 ?_
        refine j_world h (u' := putL (va_up G 0 M) X23 A23 b23 (X23 10, nI (((((([] : List Nat) ++ digs ((M.2.1 p1.toNatClampNeg 0).toNatClampNeg)) ++ [45]) ++ digs ((M.2.1 p1.toNatClampNeg 1).toNatClampNeg)) ++ strs 5) ++ strs 6).length, b23.2.2.1, b23.2.2.2, A23 5)) (lensL_eq hL23.2.2.2.2.1) ?_
        have hc30 := c_J4_append_15ec4 l D cy (lensL (cy := cy) (L := L) (va_up G 0 M) X23 A23 b23) (X23 10) (n := (((((([] : List Nat) ++ digs ((M.2.1 p1.toNatClampNeg 0).toNatClampNeg)) ++ [45]) ++ digs ((M.2.1 p1.toNatClampNeg 1).toNatClampNeg)) ++ strs 5) ++ strs 6).length) b23.2.2.1 (m := b23.2.2.2) (f := A23 5) (i := 8) (by decide) hL23.2.2.2.2.2.1 hL23.2.2.2.2.2.2.1 hL23.2.2.2.2.2.2.2.1
        have hq30 : ((((((([] : List Nat) ++ digs ((M.2.1 p1.toNatClampNeg 0).toNatClampNeg)) ++ [45]) ++ digs ((M.2.1 p1.toNatClampNeg 1).toNatClampNeg)) ++ strs 5) ++ strs 6).length + lenS.getD 8 0) ≤ 110 := by have hx : lenS.getD 8 0 = 2 := rfl; have := hB23; omega
        refine j_callA h (n := 1) hc30 (xg_V (xr_35 14 rfl) (xr_35 15 rfl) (xr_35 16 rfl) (xr_2 4 rfl) (xr_35 17 rfl)) rfl rfl (by decide +kernel) ⟨Nat.le_of_ble_eq_true rfl, Nat.le_of_ble_eq_true rfl⟩ (330 + 10) ((lensL (va_up G 0 M) X23 A23 b23).2.1 _) rfl rfl rfl rfl (Nat.le_of_ble_eq_true rfl) dX7_describe_114 ⟨by have := kE_le ((((((([] : List Nat) ++ digs ((M.2.1 p1.toNatClampNeg 0).toNatClampNeg)) ++ [45]) ++ digs ((M.2.1 p1.toNatClampNeg 1).toNatClampNeg)) ++ strs 5) ++ strs 6).length + lenS.getD 8 0) b23.2.2.2; show 5 + kE ((((((([] : List Nat) ++ digs ((M.2.1 p1.toNatClampNeg 0).toNatClampNeg)) ++ [45]) ++ digs ((M.2.1 p1.toNatClampNeg 1).toNatClampNeg)) ++ strs 5) ++ strs 6).length + lenS.getD 8 0) b23.2.2.2 ≤ 40; omega, by have := sE_le (m := b23.2.2.2) hq30; show 1110 + sE ((((((([] : List Nat) ++ digs ((M.2.1 p1.toNatClampNeg 0).toNatClampNeg)) ++ [45]) ++ digs ((M.2.1 p1.toNatClampNeg 1).toNatClampNeg)) ++ strs 5) ++ strs 6).length + lenS.getD 8 0) b23.2.2.2 ≤ 8880; omega⟩ (fun r u' hq => ?_)
        obtain ⟨rfl, a30, f30, rfl, g30a, g30b, g30c⟩ := hq
        refine j_widen h (k := 6) (n := 1332) (by have := kE_le ((((((([] : List Nat) ++ digs ((M.2.1 p1.toNatClampNeg 0).toNatClampNeg)) ++ [45]) ++ digs ((M.2.1 p1.toNatClampNeg 1).toNatClampNeg)) ++ strs 5) ++ strs 6).length + lenS.getD 8 0) b23.2.2.2; show 5 + kE ((((((([] : List Nat) ++ digs ((M.2.1 p1.toNatClampNeg 0).toNatClampNeg)) ++ [45]) ++ digs ((M.2.1 p1.toNatClampNeg 1).toNatClampNeg)) ++ strs 5) ++ strs 6).length + lenS.getD 8 0) b23.2.2.2 ≤ 6; omega) (by have := sE_le (m := b23.2.2.2) hq30; show 1110 + sE ((((((([] : List Nat) ++ digs ((M.2.1 p1.toNatClampNeg 0).toNatClampNeg)) ++ [45]) ++ digs ((M.2.1 p1.toNatClampNeg 1).toNatClampNeg)) ++ strs 5) ++ strs 6).length + lenS.getD 8 0) b23.2.2.2 ≤ 1332; omega) ?_
        obtain ⟨X30, A30, b30, e30, hL30⟩ := LK.str (G := (va_up G 0 M)) hL23 (i := 8) (by decide) hq30 g30a g30b g30c
        refine j_world h (congrArg _ e30) ?_
        have hB30 : ((((((([] : List Nat) ++ digs ((M.2.1 p1.toNatClampNeg 0).toNatClampNeg)) ++ [45]) ++ digs ((M.2.1 p1.toNatClampNeg 1).toNatClampNeg)) ++ strs 5) ++ strs 6) ++ strs 8).length ≤ 12 := by rw [List.length_append, strs_len]; have hx : lenS.getD 8 0 = 2 := rfl; have := hB23; omega
        refine j_aload_n h dX7_describe_117 rfl 0 rfl ?_
        refine j_get h inlX5 (30 * 0 + (4 + p1.toNatClampNeg)) (at_R (by decide) (by omega)) rfl 4 (by decide) (xr_21 3 rfl) rfl (v := .int (M.2.1 p1.toNatClampNeg 4)) rfl dX7_describe_118 ?_
        refine j_world h (u' := putL (va_up G 0 M) X30 A30 b30 (X30 10, nI ((((((([] : List Nat) ++ digs ((M.2.1 p1.toNatClampNeg 0).toNatClampNeg)) ++ [45]) ++ digs ((M.2.1 p1.toNatClampNeg 1).toNatClampNeg)) ++ strs 5) ++ strs 6) ++ strs 8).length, b30.2.2.1, b30.2.2.2, A30 5)) (lensL_eq hL30.2.2.2.2.1) ?_
        have hc31 := c_J4_append_bf812 l D cy (lensL (cy := cy) (L := L) (va_up G 0 M) X30 A30 b30) (X30 10) (n := ((((((([] : List Nat) ++ digs ((M.2.1 p1.toNatClampNeg 0).toNatClampNeg)) ++ [45]) ++ digs ((M.2.1 p1.toNatClampNeg 1).toNatClampNeg)) ++ strs 5) ++ strs 6) ++ strs 8).length) b30.2.2.1 (m := b30.2.2.2) (f := A30 5) (v := (M.2.1 p1.toNatClampNeg 4).toNatClampNeg) (by omega) hL30.2.2.2.2.2.1 hL30.2.2.2.2.2.2.1 hL30.2.2.2.2.2.2.2.1
        rw [← show M.2.1 p1.toNatClampNeg 4 = nI ((M.2.1 p1.toNatClampNeg 4).toNatClampNeg) from hf4.1] at hc31
        have hq31 : (((((((([] : List Nat) ++ digs ((M.2.1 p1.toNatClampNeg 0).toNatClampNeg)) ++ [45]) ++ digs ((M.2.1 p1.toNatClampNeg 1).toNatClampNeg)) ++ strs 5) ++ strs 6) ++ strs 8).length + sb_dg ((M.2.1 p1.toNatClampNeg 4).toNatClampNeg)) ≤ 110 := by have hx := dg_2 (v := (M.2.1 p1.toNatClampNeg 4).toNatClampNeg) (by omega); have := hB30; omega
        refine j_callA h (n := 1) hc31 (xg_V (xr_34 4 rfl) (xr_34 5 rfl) (xr_34 6 rfl) (xr_2 4 rfl) (xr_34 7 rfl)) rfl rfl (by decide +kernel) ⟨Nat.le_of_ble_eq_true rfl, Nat.le_of_ble_eq_true rfl⟩ (330 + 10) ((lensL (va_up G 0 M) X30 A30 b30).2.1 _) rfl rfl rfl rfl (Nat.le_of_ble_eq_true rfl) dX7_describe_121 ⟨by have := kE_le (((((((([] : List Nat) ++ digs ((M.2.1 p1.toNatClampNeg 0).toNatClampNeg)) ++ [45]) ++ digs ((M.2.1 p1.toNatClampNeg 1).toNatClampNeg)) ++ strs 5) ++ strs 6) ++ strs 8).length + sb_dg ((M.2.1 p1.toNatClampNeg 4).toNatClampNeg)) b30.2.2.2; show 6 + kE (((((((([] : List Nat) ++ digs ((M.2.1 p1.toNatClampNeg 0).toNatClampNeg)) ++ [45]) ++ digs ((M.2.1 p1.toNatClampNeg 1).toNatClampNeg)) ++ strs 5) ++ strs 6) ++ strs 8).length + sb_dg ((M.2.1 p1.toNatClampNeg 4).toNatClampNeg)) b30.2.2.2 ≤ 40; omega, by have := sE_le (m := b30.2.2.2) hq31; show 1332 + sE (((((((([] : List Nat) ++ digs ((M.2.1 p1.toNatClampNeg 0).toNatClampNeg)) ++ [45]) ++ digs ((M.2.1 p1.toNatClampNeg 1).toNatClampNeg)) ++ strs 5) ++ strs 6) ++ strs 8).length + sb_dg ((M.2.1 p1.toNatClampNeg 4).toNatClampNeg)) b30.2.2.2 ≤ 8880; omega⟩ (fun r u' hq => ?_)
        obtain ⟨rfl, a31, f31, rfl, g31a, g31b, g31c⟩ := hq
        refine j_widen h (k := 7) (n := 1554) (by have := kE_le (((((((([] : List Nat) ++ digs ((M.2.1 p1.toNatClampNeg 0).toNatClampNeg)) ++ [45]) ++ digs ((M.2.1 p1.toNatClampNeg 1).toNatClampNeg)) ++ strs 5) ++ strs 6) ++ strs 8).length + sb_dg ((M.2.1 p1.toNatClampNeg 4).toNatClampNeg)) b30.2.2.2; show 6 + kE (((((((([] : List Nat) ++ digs ((M.2.1 p1.toNatClampNeg 0).toNatClampNeg)) ++ [45]) ++ digs ((M.2.1 p1.toNatClampNeg 1).toNatClampNeg)) ++ strs 5) ++ strs 6) ++ strs 8).length + sb_dg ((M.2.1 p1.toNatClampNeg 4).toNatClampNeg)) b30.2.2.2 ≤ 7; omega) (by have := sE_le (m := b30.2.2.2) hq31; show 1332 + sE (((((((([] : List Nat) ++ digs ((M.2.1 p1.toNatClampNeg 0).toNatClampNeg)) ++ [45]) ++ digs ((M.2.1 p1.toNatClampNeg 1).toNatClampNeg)) ++ strs 5) ++ strs 6) ++ strs 8).length + sb_dg ((M.2.1 p1.toNatClampNeg 4).toNatClampNeg)) b30.2.2.2 ≤ 1554; omega) ?_
        obtain ⟨X31, A31, b31, e31, hL31⟩ := LK.int (G := (va_up G 0 M)) hL30 hq31 g31a g31b g31c
        refine j_world h (congrArg _ e31) ?_
        have hB31 : (((((((([] : List Nat) ++ digs ((M.2.1 p1.toNatClampNeg 0).toNatClampNeg)) ++ [45]) ++ digs ((M.2.1 p1.toNatClampNeg 1).toNatClampNeg)) ++ strs 5) ++ strs 6) ++ strs 8) ++ digs ((M.2.1 p1.toNatClampNeg 4).toNatClampNeg)).length ≤ 14 := by rw [List.length_append, digs_len]; have hx := dg_2 (v := (M.2.1 p1.toNatClampNeg 4).toNatClampNeg) (by omega); have := hB30; omega
        refine j_pop h dX7_describe_124 rfl ?_
        refine j_aload_n h dX7_describe_125 rfl 1 rfl ?_
        refine j_get h inlX7 (330 + 0) (ml_get 0) rfl 0 (by decide) (xr_1 19 rfl) rfl (v := .ref (L 0 0)) rfl dX7_describe_126 ?_
        refine j_iload_n h dX7_describe_129 rfl 2 rfl ?_
        refine j_iconst h (v := 1) dX7_describe_130 (by decide) ?_
        refine j_callI h (n := 2) (c_X1_woodsOn l D cy L _ _ _ _ _ (by decide) _ _ (hG).w) (xg_V (xr_33 5 rfl) (xr_33 6 rfl) (xr_33 7 rfl) (xr_1 18 rfl) (xr_33 8 rfl)) rfl rfl (by decide +kernel) ⟨Nat.le_of_ble_eq_true rfl, Nat.le_of_ble_eq_true rfl⟩ (30 * 0 + 0) (at_G (by decide)) rfl rfl rfl rfl (Nat.le_of_ble_eq_true rfl) dX7_describe_131 ⟨by decide, by decide⟩ (fun z32 u' hq => ?_)
        obtain ⟨hz32, rfl⟩ := hq
        have hly : z32 ≤ nI 8 := hz32 ▸ hW8
        refine j_widen h (k := 8 + 4 * 0) (n := 1776 + 888 * 0) (by show 7 + 0 ≤ 8; omega) (by show 1554 + 0 ≤ 1776; omega) ?_
        refine j_istore_n h (lv' := [(3, _), (2, _), (0, _), (1, _)]) dX7_describe_134 rfl (by decide) rfl ?_
        refine j_iconst h (v := 0) dX7_describe_135 (by decide) ?_
        refine j_istore h (lv' := [(4, _), (3, _), (2, _), (0, _), (1, _)]) dX7_describe_136 (by decide) rfl ?_
        have lp138 : ∀ (n k : Nat) (Tk : List Nat) (Xk : Nat → Int32) (Ak : Nat → Nat → Int32) (bk : cB), n + k = 9 → k ≤ 8 → LK X A b Tk Xk Ak bk → Tk.length ≤ 17 + 8 * k → f_X7_describe M p1 = f_X7_describe_l138 M p1 z32 n k Tk → J ((va_up G 0 M, Xk, Ak), bk) (8 + 4 * k, 1776 + 888 * k) [(0, .ref (L 11 0)), (1, .int p1), (2, .ref (L 0 (4 + p1.toNatClampNeg))), (3, .int z32), (4, .int (nI k))] 138 [] := by
          intro n
          induction n with
          | zero => intro k Tk Xk Ak bk hn hk hLk hBk hf; omega
          | succ n ih =>
            intro k Tk Xk Ak bk hn hk hLk hBk hf
            refine j_iload h dX7_describe_138 4 rfl ?_
            refine j_iload_n h dX7_describe_140 rfl 3 rfl ?_
            refine j_icmp_ge h (tgt := 164) dX7_describe_141 (by decide) (fun c33 => ?_) (fun c33 => ?_)
            · refine j_aload_n h dX7_describe_164 rfl 0 rfl ?_
              refine j_get h inlX7 (330 + 0) (ml_get 0) rfl 8 (by decide) (xr_2 15 rfl) rfl (v := .ref (L 11 10)) rfl dX7_describe_165 ?_
              refine j_world h (u' := putL (va_up G 0 M) Xk Ak bk (Xk 10, nI Tk.length, bk.2.2.1, bk.2.2.2, Ak 5)) (lensL_eq hLk.2.2.2.2.1) ?_
              refine j_callI h (n := 0) (c_J4_length_8abf5 l D cy (lensL (va_up G 0 M) Xk Ak bk) (Xk 10) (nI Tk.length) bk.2.2.1 bk.2.2.2 (Ak 5)) (xg_V (xr_12 6 rfl) (xr_12 7 rfl) (xr_12 8 rfl) (xr_2 4 rfl) (xr_12 9 rfl)) rfl rfl (by decide +kernel) ⟨Nat.le_of_ble_eq_true rfl, Nat.le_of_ble_eq_true rfl⟩ (330 + 10) ((lensL (va_up G 0 M) Xk Ak bk).2.1 _) rfl rfl rfl rfl (Nat.le_of_ble_eq_true rfl) dX7_describe_168 ⟨by show 8 + 4 * k + 0 ≤ 40; omega, by show 1776 + 888 * k + 0 ≤ 8880; omega⟩ (fun r u' hq => ?_)
              obtain ⟨rfl, rfl⟩ := hq
              refine j_world h (u' := ((va_up G 0 M, Xk, Ak), bk)) (lensL_eq hLk.2.2.2.2.1).symm ?_
              refine j_widen h (k := 40) (n := 8880) (by show 8 + 4 * k ≤ 40; omega) (by show 1776 + 888 * k ≤ 8880; omega) ?_
              exact hR _ _ _ _ dX7_describe_171 ⟨(_, _), Eq.symm (hf.trans ((ite_p c33 rfl))), rfl, Or.inr ⟨_, _, _, rfl, hLk⟩⟩
            · have hk1 : k < 8 := cnt_lt (by decide) hk hly c33
              refine j_aload_n h dX7_describe_144 rfl 0 rfl ?_
              refine j_aload_n h dX7_describe_145 rfl 0 rfl ?_
              refine j_get h inlX7 (330 + 0) (ml_get 0) rfl 0 (by decide) (xr_1 19 rfl) rfl (v := .ref (L 0 0)) rfl dX7_describe_146 ?_
              refine j_iload_n h dX7_describe_149 rfl 1 rfl ?_
              refine j_iload h dX7_describe_150 4 rfl ?_
              refine j_callI h (n := 2) (c_X1_woodInOrder l D cy L _ _ _ _ _ (by decide) _ _ (hG).w) (xg_V (xr_37 0 rfl) (xr_37 1 rfl) (xr_37 2 rfl) (xr_1 18 rfl) (xr_37 3 rfl)) rfl rfl (by decide +kernel) ⟨Nat.le_of_ble_eq_true rfl, Nat.le_of_ble_eq_true rfl⟩ (30 * 0 + 0) (at_G (by decide)) rfl rfl rfl rfl (Nat.le_of_ble_eq_true rfl) dX7_describe_152 ⟨by show 8 + 4 * k + 0 ≤ 40; omega, by show 1776 + 888 * k + 0 ≤ 8880; omega⟩ (fun z34 u' hq => ?_)
              obtain ⟨hz34, rfl⟩ := hq
              have hq35 : Tk.length ≤ 102 := by have := hBk; omega
              refine j_callV h (n := 1) (c_X7_writeWood l D cy L _ _ _ _ _ _ Tk _ _ _ hLk hq35 hG hDs) (xg_V (xr_37 8 rfl) (xr_37 9 rfl) (xr_37 10 rfl) (xr_1 2 rfl) (xr_37 11 rfl)) rfl rfl (by decide +kernel) ⟨Nat.le_of_ble_eq_true rfl, Nat.le_of_ble_eq_true rfl⟩ (330 + 0) (ml_get 0) rfl rfl rfl rfl (Nat.le_of_ble_eq_true rfl) dX7_describe_155 ⟨by show 8 + 4 * k + 0 + 4 ≤ 40; omega, by show 1776 + 888 * k + 0 + 888 ≤ 8880; omega⟩ (fun u' hq => ?_)
              obtain ⟨z35, hz35, X35, A35, b35, rfl, hL35, hl35⟩ := hq
              refine j_widen h (k := 8 + 4 * (k + 1)) (n := 1776 + 888 * (k + 1)) (by show 8 + 4 * k + 0 + 4 ≤ _; omega) (by show 1776 + 888 * k + 0 + 888 ≤ _; omega) ?_
              have hB35 : z35.length ≤ 17 + 8 * (k + 1) := by have := hBk; omega
              refine j_iinc h (v := nI (k + 1)) (lv' := [(4, _), (0, _), (1, _), (2, _), (3, _)]) dX7_describe_158 (k := 4) rfl (nI_1 k) (by decide) rfl ?_
              refine j_goto h (tgt := 138) dX7_describe_161 (by decide) ?_
              refine j_sub h [1, 2, 3, 4, 0] rfl ?_
              exact ih (k + 1) _ _ _ _ (by omega) (by omega) hL35 hB35 (hf.trans ((ite_n c33 (bd_eq hz34 (bd_eq hz35 rfl)))))
        refine j_sub h [3, 4, 2, 1, 0] rfl ?_
        exact lp138 9 0 _ _ _ _ (by omega) (by omega) hL31 (by have := hB31; omega) ((bd_eq hz1 (ite_n c2 (ite_p c8 (bd_eq hz24 (ite_n c25 (bd_eq hz32 rfl)))))))
  · refine j_iconst h (v := (-1)) dX7_describe_11 (by decide) ?_
    refine j_widen h (k := 40) (n := 8880) (by show 0 ≤ 40; omega) (by show 0 ≤ 8880; omega) ?_
    exact hR _ _ _ _ dX7_describe_12 ⟨(_, _), Eq.symm ((bd_eq hz1 (ite_p c2 rfl))), rfl, Or.inl ⟨rfl, rfl⟩⟩

/-! ===== Strings that lie in the world ===== -/
set_option maxRecDepth 100000
theorem c_W0_coder_7d493 (l : Launch) (D : gD) (cy : Nat → ClassId) {w : va_W} {p0 p1 x v n : Nat} {ha hz : Value} {f : Nat → Int32} (h0 : w[p0]? = some (x, .inr (9, [.ref v, .int 0, ha, hz]))) (h1 : w[p1]? = some (v, .inl (cy 5, n, .inl f))) (hn : n ≤ 100) : CtI l D cy wI yJ0_coder_7d493 cJ0_coder_7d493 1 (some .byte) rm_J0_coder_7d493 [.ref x] w (fun r u' => r = 0 ∧ u' = w) 0 0 := by
  refine m_entY cJ0_coder_7d493 1 (by decide) (Nat.le_of_ble_eq_true rfl) (fun J h hR => ?_)
  show J w (0, 0) [(0, .ref x)] 0 []
  refine j_gets h (fun _ _ _ z => z.1) (xr_18 16 rfl) rfl dJ0_coder_7d493_0 ?_
  refine j_if_eq h (tgt := 13) dJ0_coder_7d493_3 (by decide) (fun c => absurd c (by decide)) (fun _ => ?_)
  refine j_aload_n h dJ0_coder_7d493_6 rfl 0 rfl ?_
  refine j_get h inlJ0 p0 h0 rfl 1 (by decide) (xr_18 17 rfl) rfl rfl dJ0_coder_7d493_7 ?_
  refine j_goto h (tgt := 14) dJ0_coder_7d493_10 (by decide) ?_
  exact hR _ _ _ _ dJ0_coder_7d493_14 rfl ⟨rfl, rfl⟩

theorem c_W0_isLatin1_aae02 (l : Launch) (D : gD) (cy : Nat → ClassId) {w : va_W} {p0 p1 x v n : Nat} {ha hz : Value} {f : Nat → Int32} (h0 : w[p0]? = some (x, .inr (9, [.ref v, .int 0, ha, hz]))) (h1 : w[p1]? = some (v, .inl (cy 5, n, .inl f))) (hn : n ≤ 100) : CtI l D cy wI yJ0_isLatin1_aae02 cJ0_isLatin1_aae02 1 (some .boolean) rm_J0_isLatin1_aae02 [.ref x] w (fun r u' => r = 1 ∧ u' = w) 0 0 := by
  refine m_entZ cJ0_isLatin1_aae02 1 (by decide) (Nat.le_of_ble_eq_true rfl) (fun J h hR => ?_)
  show J w (0, 0) [(0, .ref x)] 0 []
  refine j_gets h (fun _ _ _ z => z.1) (xr_18 16 rfl) rfl dJ0_isLatin1_aae02_0 ?_
  refine j_if_eq h (tgt := 17) dJ0_isLatin1_aae02_3 (by decide) (fun c => absurd c (by decide)) (fun _ => ?_)
  refine j_aload_n h dJ0_isLatin1_aae02_6 rfl 0 rfl ?_
  refine j_get h inlJ0 p0 h0 rfl 1 (by decide) (xr_18 17 rfl) rfl rfl dJ0_isLatin1_aae02_7 ?_
  refine j_if_ne h (tgt := 17) dJ0_isLatin1_aae02_10 (by decide) (fun c => absurd rfl c) (fun _ => ?_)
  refine j_iconst h (v := 1) dJ0_isLatin1_aae02_13 (by decide) ?_
  refine j_goto h (tgt := 18) dJ0_isLatin1_aae02_14 (by decide) ?_
  exact hR _ _ _ _ dJ0_isLatin1_aae02_18 (Or.inr rfl) ⟨rfl, rfl⟩

theorem c_W0_length_8abf5 (l : Launch) (D : gD) (cy : Nat → ClassId) {w : va_W} {p0 p1 x v n : Nat} {ha hz : Value} {f : Nat → Int32} (h0 : w[p0]? = some (x, .inr (9, [.ref v, .int 0, ha, hz]))) (h1 : w[p1]? = some (v, .inl (cy 5, n, .inl f))) (hn : n ≤ 100) : CtI l D cy wI yJ0_length_8abf5 cJ0_length_8abf5 1 (some .int) rm_J0_length_8abf5 [.ref x] w (fun r u' => r = nI n ∧ u' = w) 0 0 := by
  refine m_entI cJ0_length_8abf5 1 (by decide) (Nat.le_of_ble_eq_true rfl) (fun J h hR => ?_)
  show J w (0, 0) [(0, .ref x)] 0 []
  refine j_aload_n h dJ0_length_8abf5_0 rfl 0 rfl ?_
  refine j_get h inlJ0 p0 h0 rfl 0 (by decide) (xr_18 7 rfl) rfl rfl dJ0_length_8abf5_1 ?_
  refine j_alen h p1 5 h1 rfl (v := nI n) rfl dJ0_length_8abf5_4 ?_
  refine j_aload_n h dJ0_length_8abf5_5 rfl 0 rfl ?_
  refine j_callI h (n := 0) (c_W0_coder_7d493 l D cy h0 h1 hn) (xg_V (xr_18 12 rfl) (xr_18 13 rfl) (xr_18 14 rfl) (xr_15 19 rfl) (xr_18 15 rfl)) rfl rfl (by decide +kernel) ⟨Nat.le_of_ble_eq_true rfl, Nat.le_of_ble_eq_true rfl⟩ p0 h0 rfl rfl rfl rfl (Nat.le_of_ble_eq_true rfl) dJ0_length_8abf5_6 ⟨by decide, by decide⟩ (fun r u' hq => ?_)
  obtain ⟨rfl, rfl⟩ := hq
  refine j_ishr h dJ0_length_8abf5_9 ?_
  rw [show ((nI n) >>> (0 &&& 31) : Int32) = nI n from (sb_shr0 _)]
  exact hR _ _ _ _ dJ0_length_8abf5_10 ⟨rfl, rfl⟩

theorem c_W1_charAt_3b067 (l : Launch) (D : gD) (cy : Nat → ClassId) {w : va_W} {p0 p1 x v n : Nat} {ha hz : Value} {f : Nat → Int32} (h0 : w[p0]? = some (x, .inr (9, [.ref v, .int 0, ha, hz]))) (h1 : w[p1]? = some (v, .inl (cy 5, n, .inl f))) (hn : n ≤ 100) {j : Nat} (hj : j < n) (hc : ((f j &&& 255).toUInt32 % 65536).toInt32 = f j &&& 255) : CtI l D cy wI yJ1_charAt_3b067 cJ1_charAt_3b067 2 (some .char) rm_J1_charAt_3b067 [.ref v, .int (nI j)] w (fun r u' => r = f j &&& 255 ∧ u' = w) 0 0 := by
  refine m_entC cJ1_charAt_3b067 2 (by decide) (Nat.le_of_ble_eq_true rfl) (fun J h hR => ?_)
  show J w (0, 0) [(0, .ref v), (1, .int (nI j))] 0 []
  refine j_iload_n h dJ1_charAt_3b067_0 rfl 1 rfl ?_
  refine j_aload_n h dJ1_charAt_3b067_1 rfl 0 rfl ?_
  refine j_alen h p1 5 h1 rfl (v := nI n) rfl dJ1_charAt_3b067_2 ?_
  refine j_callSV h (n := 2) (c_J0_checkIndex_df160 l D cy _ (nI_pos (by omega)) (nI_lt hj (by omega))) (xg_S (xr_19 5 rfl) (xr_16 15 rfl) (xr_15 19 rfl) (xr_16 16 rfl)) rfl rfl (by decide +kernel) ⟨Nat.le_of_ble_eq_true rfl, Nat.le_of_ble_eq_true rfl⟩ rfl rfl (Nat.le_of_ble_eq_true rfl) dJ1_charAt_3b067_3 ⟨by decide, by decide⟩ (fun u' hq => ?_)
  obtain rfl : u' = w := hq
  refine j_aload_n h dJ1_charAt_3b067_6 rfl 0 rfl ?_
  refine j_iload_n h dJ1_charAt_3b067_7 rfl 1 rfl ?_
  refine j_bald h p1 h1 (vp_in_nI hj (by omega)) dJ1_charAt_3b067_8 ?_
  rw [nI_clamp (show j < 2 ^ 31 by omega)]
  refine j_sipush h (v := 255) dJ1_charAt_3b067_9 (by decide) ?_
  refine j_iand h dJ1_charAt_3b067_12 ?_
  refine j_i2c h (v := f j &&& 255) dJ1_charAt_3b067_13 hc ?_
  exact hR _ _ _ _ dJ1_charAt_3b067_14 (narrow_c hc) ⟨rfl, rfl⟩

theorem c_W0_charAt_5068e (l : Launch) (D : gD) (cy : Nat → ClassId) {w : va_W} {p0 p1 x v n : Nat} {ha hz : Value} {f : Nat → Int32} (h0 : w[p0]? = some (x, .inr (9, [.ref v, .int 0, ha, hz]))) (h1 : w[p1]? = some (v, .inl (cy 5, n, .inl f))) (hn : n ≤ 100) {j : Nat} (hj : j < n) (hc : ((f j &&& 255).toUInt32 % 65536).toInt32 = f j &&& 255) : CtI l D cy wI yJ0_charAt_5068e cJ0_charAt_5068e 2 (some .char) rm_J0_charAt_5068e [.ref x, .int (nI j)] w (fun r u' => r = f j &&& 255 ∧ u' = w) 0 0 := by
  refine m_entC cJ0_charAt_5068e 2 (by decide) (Nat.le_of_ble_eq_true rfl) (fun J h hR => ?_)
  show J w (0, 0) [(0, .ref x), (1, .int (nI j))] 0 []
  refine j_aload_n h dJ0_charAt_5068e_0 rfl 0 rfl ?_
  refine j_callI h (n := 0) (c_W0_isLatin1_aae02 l D cy h0 h1 hn) (xg_V (xr_18 22 rfl) (xr_18 23 rfl) (xr_19 0 rfl) (xr_15 19 rfl) (xr_19 1 rfl)) rfl rfl (by decide +kernel) ⟨Nat.le_of_ble_eq_true rfl, Nat.le_of_ble_eq_true rfl⟩ p0 h0 rfl rfl rfl rfl (Nat.le_of_ble_eq_true rfl) dJ0_charAt_5068e_1 ⟨by decide, by decide⟩ (fun r u' hq => ?_)
  obtain ⟨rfl, rfl⟩ := hq
  refine j_if_eq h (tgt := 16) dJ0_charAt_5068e_4 (by decide) (fun c => absurd c (by decide)) (fun _ => ?_)
  refine j_aload_n h dJ0_charAt_5068e_7 rfl 0 rfl ?_
  refine j_get h inlJ0 p0 h0 rfl 0 (by decide) (xr_18 7 rfl) rfl rfl dJ0_charAt_5068e_8 ?_
  refine j_iload_n h dJ0_charAt_5068e_11 rfl 1 rfl ?_
  refine j_callS h (n := 2) (c_W1_charAt_3b067 l D cy h0 h1 hn hj hc) (xg_S (xr_19 2 rfl) (xr_19 3 rfl) (xr_14 22 rfl) (xr_19 4 rfl)) rfl rfl (by decide +kernel) ⟨Nat.le_of_ble_eq_true rfl, Nat.le_of_ble_eq_true rfl⟩ rfl rfl (Nat.le_of_ble_eq_true rfl) dJ0_charAt_5068e_12 ⟨by decide, by decide⟩ (fun r u' hq => ?_)
  obtain ⟨rfl, rfl⟩ := hq
  exact hR _ _ _ _ dJ0_charAt_5068e_15 (narrow_c hc) ⟨rfl, rfl⟩
section DS
variable {l : Launch} {D : gD} {cy : Nat → ClassId} {J : JT va_W} {cc : ByteArray} {nL : Nat} {y0 : MethodName} {R : Room} {w : va_W} {q : Nat × Nat} {lv : List (Nat × Value)} {pc : Nat} {rest : List Value}
theorem ks_len (h : OKJ l D cy wI J cc nL y0 R) (hy : y0.cls = RL) {i : Nat} (hi : i < 17)  (hR : rm_J0_length_8abf5.frames + 1 ≤ R.frames ∧ 8 + (1 + 11) + rm_J0_length_8abf5.locals ≤ R.locals) (hroom : (rest.map fun v => v.category).sum ≤ 8) (hf : q.1 ≤ R.cells ∧ q.2 ≤ R.slots) (hdg : decode cc pc = .ok (.invokevirtual 7, 3)) (kk : J w q lv (pc + 3) (.int (nI (lenS.getD i 0)) :: rest)) : J w q lv pc (.ref (D.2.1 i) :: rest) := by
  refine j_kI h (n := 0) (c_J0_length_8abf5 l D cy _ hi) (by rw [hy]; exact xg_V (xr_37 12 rfl) (xr_18 9 rfl) (xr_18 10 rfl) (xr_15 19 rfl) (xr_18 11 rfl)) rfl rfl (by decide +kernel) hR rfl hi rfl rfl rfl hroom hdg hf (fun r u' hq => ?_)
  obtain ⟨rfl, rfl⟩ := hq
  exact kk
theorem ks_chr (h : OKJ l D cy wI J cc nL y0 R) (hy : y0.cls = RL) {i : Nat} (hi : i < 17) {j : Nat} (hj : j < lenS.getD i 0) (hR : rm_J0_charAt_5068e.frames + 1 ≤ R.frames ∧ 8 + (2 + 11) + rm_J0_charAt_5068e.locals ≤ R.locals) (hroom : (rest.map fun v => v.category).sum ≤ 8) (hf : q.1 ≤ R.cells ∧ q.2 ≤ R.slots) (hdg : decode cc pc = .ok (.invokevirtual 13, 3)) (kk : J w q lv (pc + 3) (.int (chS i j) :: rest)) : J w q lv pc (.int (nI j) :: .ref (D.2.1 i) :: rest) := by
  refine j_kI h (n := 1) (c_J0_charAt_5068e l D cy _ hi hj) (by rw [hy]; exact xg_V (xr_37 18 rfl) (xr_18 19 rfl) (xr_18 20 rfl) (xr_15 19 rfl) (xr_18 21 rfl)) rfl rfl (by decide +kernel) hR rfl hi rfl rfl rfl hroom hdg hf (fun r u' hq => ?_)
  obtain ⟨rfl, rfl⟩ := hq
  exact kk
theorem kw_len (h : OKJ l D cy wI J cc nL y0 R) (hy : y0.cls = RL) {p0 p1 x v n : Nat} {ha hz : Value} {f : Nat → Int32} (h0 : w[p0]? = some (x, .inr (9, [.ref v, .int 0, ha, hz]))) (h1 : w[p1]? = some (v, .inl (cy 5, n, .inl f))) (hn : n ≤ 100)  (hR : rm_J0_length_8abf5.frames + 1 ≤ R.frames ∧ 8 + (1 + 11) + rm_J0_length_8abf5.locals ≤ R.locals) (hroom : (rest.map fun v => v.category).sum ≤ 8) (hf : q.1 ≤ R.cells ∧ q.2 ≤ R.slots) (hdg : decode cc pc = .ok (.invokevirtual 7, 3)) (kk : J w q lv (pc + 3) (.int (nI n) :: rest)) : J w q lv pc (.ref x :: rest) := by
  refine j_callI h (n := 0) (c_W0_length_8abf5 l D cy h0 h1 hn) (by rw [hy]; exact xg_V (xr_37 12 rfl) (xr_18 9 rfl) (xr_18 10 rfl) (xr_15 19 rfl) (xr_18 11 rfl)) rfl rfl (by decide +kernel) hR p0 h0 rfl rfl rfl rfl hroom hdg hf (fun r u' hq => ?_)
  obtain ⟨rfl, rfl⟩ := hq
  exact kk
theorem kw_chr (h : OKJ l D cy wI J cc nL y0 R) (hy : y0.cls = RL) {p0 p1 x v n : Nat} {ha hz : Value} {f : Nat → Int32} (h0 : w[p0]? = some (x, .inr (9, [.ref v, .int 0, ha, hz]))) (h1 : w[p1]? = some (v, .inl (cy 5, n, .inl f))) (hn : n ≤ 100) {j : Nat} (hj : j < n) (hc : ((f j &&& 255).toUInt32 % 65536).toInt32 = f j &&& 255) (hR : rm_J0_charAt_5068e.frames + 1 ≤ R.frames ∧ 8 + (2 + 11) + rm_J0_charAt_5068e.locals ≤ R.locals) (hroom : (rest.map fun v => v.category).sum ≤ 8) (hf : q.1 ≤ R.cells ∧ q.2 ≤ R.slots) (hdg : decode cc pc = .ok (.invokevirtual 13, 3)) (kk : J w q lv (pc + 3) (.int (f j &&& 255) :: rest)) : J w q lv pc (.int (nI j) :: .ref x :: rest) := by
  refine j_callI h (n := 1) (c_W0_charAt_5068e l D cy h0 h1 hn hj hc) (by rw [hy]; exact xg_V (xr_37 18 rfl) (xr_18 19 rfl) (xr_18 20 rfl) (xr_15 19 rfl) (xr_18 21 rfl)) rfl rfl (by decide +kernel) hR p0 h0 rfl rfl rfl rfl hroom hdg hf (fun r u' hq => ?_)
  obtain ⟨rfl, rfl⟩ := hq
  exact kk
end DS

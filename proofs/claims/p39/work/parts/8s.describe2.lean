set_option maxRecDepth 100000 in
set_option maxHeartbeats 4000000 in
theorem c_X7_describe2 (l : Launch) (D : gD) (cy : Nat → ClassId) (L : Nat → Nat → Nat) (G : Nat → gM) (X : Nat → Int32) (A : Nat → Nat → Int32) (b : cB) (M : gM) (p1 : Int32) (n0 : Nat) (hn0 : X 8 = nI n0) (hT0 : TX n0 b.2.2.2 (A 5)) (hG : GI M) (hRs : ∀ r : Nat, r < 4 → nI r < M.1 3 → ∀ f, f = 0 ∨ f = 1 ∨ f = 2 ∨ f = 4 → ¬ M.2.1 r f < 0 ∧ M.2.1 r f < nI 100) (hDs : ∀ w : Nat, w < 16 → nI w < M.1 4 → ¬ M.2.2.1 w 6 < 0 ∧ M.2.2.1 w 6 < nI 10000) (hW8 : f_X1_woodsOn M p1 1 ≤ nI 8) : CtI l D cy (CW cy L) yX7_describe cX7_describe 5 (some .int) rm_X7_describe [.ref (L 11 0), .int p1] ((va_up G 0 M, X, A), b) (fun rv u => ∃ z : Int32 × (List Nat), z = f_X7_describe M p1 ∧ rv = z.1 ∧ ((z.1 = -1 ∧ f_X1_isRink M p1 = 0 ∧ u = ((va_up G 0 M, X, A), b)) ∨ ¬ f_X1_isRink M p1 = 0 ∧ ∃ (X9 : Nat → Int32) (A9 : Nat → Nat → Int32) (b9 : cB), u = ((va_up G 0 M, X9, A9), b9) ∧ LK X A b z.2 X9 A9 b9)) 40 8880 := by
  refine m_entI cX7_describe 5 (by decide) (Nat.le_of_ble_eq_true rfl) (fun J h hR => ?_)
  show J ((va_up G 0 M, X, A), b) (0, 0) [(0, .ref (L 11 0)), (1, .int p1)] 0 []
  refine j_aload_n h dX7_describe_0 rfl 0 rfl ?_
  refine j_get h inlX7 (330 + 0) (ml_get 0) rfl 0 (by decide) (xr_1 19 rfl) rfl (v := .ref (L 0 0)) rfl dX7_describe_1 ?_
  refine j_iload_n h dX7_describe_4 rfl 1 rfl ?_
  refine j_callI h (n := 1) (c_X1_isRink l D cy L _ _ _ _ _ (by decide) _) (xg_V (xr_21 6 rfl) (xr_21 7 rfl) (xr_21 8 rfl) (xr_1 18 rfl) (xr_21 9 rfl)) rfl rfl (by decide +kernel) ⟨Nat.le_of_ble_eq_true rfl, Nat.le_of_ble_eq_true rfl⟩ (30 * 0 + 0) (at_G (by decide)) rfl rfl rfl rfl (Nat.le_of_ble_eq_true rfl) dX7_describe_5 ⟨by decide, by decide⟩ (fun z1 u' hq => ?_)
  obtain ⟨hz1, rfl, bz1⟩ := hq
  refine j_if_ne h (tgt := 13) dX7_describe_8 (by decide) (fun c2 => ?_) (fun c2 => ?_)
  · have vp1 : vp_in (p1) 4 := isRink_in (hG).r hz1 c2
    have bp1 : (p1).toNatClampNeg < 4 := vp_lt vp1
    have ep1 : p1 = nI (p1).toNatClampNeg := vp_nI vp1 (by decide)
    have hw4 : p1 < M.1 3 := isRink_lt hz1 c2
    have hrs := hRs p1.toNatClampNeg bp1 (ep1 ▸ hw4)
    have hf0 := digs_n (hrs 0 (Or.inl rfl)).1 (hrs 0 (Or.inl rfl)).2 (by decide)
    have hg0 := hf0.2
    have hf1 := digs_n (hrs 1 (Or.inr (Or.inl rfl))).1 (hrs 1 (Or.inr (Or.inl rfl))).2 (by decide)
    have hg1 := hf1.2
    have hf2 := digs_n (hrs 2 (Or.inr (Or.inr (Or.inl rfl)))).1 (hrs 2 (Or.inr (Or.inr (Or.inl rfl)))).2 (by decide)
    have hg2 := hf2.2
    have hf4 := digs_n (hrs 4 (Or.inr (Or.inr (Or.inr rfl)))).1 (hrs 4 (Or.inr (Or.inr (Or.inr rfl)))).2 (by decide)
    have hg4 := hf4.2
    refine j_aload_n h dX7_describe_13 rfl 0 rfl ?_
    refine j_get h inlX7 (330 + 0) (ml_get 0) rfl 0 (by decide) (xr_1 19 rfl) rfl (v := .ref (L 0 0)) rfl dX7_describe_14 ?_
    refine j_get h inlX1 (30 * 0 + 0) (at_G (by decide)) rfl 0 (by decide) (xr_21 2 rfl) rfl (v := .ref (L 0 1)) rfl dX7_describe_17 ?_
    refine j_iload_n h dX7_describe_20 rfl 1 rfl ?_
    refine j_aaldE h (30 * 0 + 1) 1 (at_Ra (by decide)) rfl p1.toNatClampNeg ep1 (by omega) (by decide) dX7_describe_21 ?_
    refine j_astore_n h (lv' := [(2, _), (0, _), (1, _)]) dX7_describe_22 rfl (by decide) rfl ?_
    refine j_aload_n h dX7_describe_23 rfl 1 rfl ?_
    refine j_get h inlX7 (330 + 0) (ml_get 0) rfl 8 (by decide) (xr_2 15 rfl) rfl (v := .ref (L 11 10)) rfl dX7_describe_24 ?_
    refine j_iconst h (v := 0) dX7_describe_27 (by decide) ?_
    refine j_world h (u' := putL (va_up G 0 M) X A b (X 10, nI n0, b.2.2.1, b.2.2.2, A 5)) (lensL_eq hn0) ?_
    refine j_callV h (n := 1) (c_J4_setLength_d00df l D cy (lensL (va_up G 0 M) X A b) (X 10) b.2.2.1 (k := 0) (Nat.zero_le _) hT0.1 hT0.2.1 hT0.2.2.1) (xg_V (xr_27 16 rfl) (xr_27 17 rfl) (xr_27 18 rfl) (xr_2 4 rfl) (xr_27 19 rfl)) rfl rfl (by decide +kernel) ⟨Nat.le_of_ble_eq_true rfl, Nat.le_of_ble_eq_true rfl⟩ (330 + 10) ((lensL (va_up G 0 M) X A b).2.1 _) rfl rfl rfl rfl (Nat.le_of_ble_eq_true rfl) dX7_describe_28 ⟨by decide, by decide⟩ (fun u' hq => ?_)
    obtain ⟨a3, f3, rfl, -, g3⟩ := hq
    obtain ⟨X3, A3, b3, e3, hL3⟩ := LK.clr (G := (va_up G 0 M)) (X := X) (A := A) (b := b) (ml := if n0 ≤ 0 then X 10 else 1) (a1 := a3) hT0.2.1 g3
    refine j_world h (congrArg _ e3) ?_
    have hB3 : ([] : List Nat).length ≤ 0 := Nat.le_refl _
    refine j_aload_n h dX7_describe_31 rfl 1 rfl ?_
    refine j_get h inlX7 (330 + 0) (ml_get 0) rfl 8 (by decide) (xr_2 15 rfl) rfl (v := .ref (L 11 10)) rfl dX7_describe_32 ?_
    refine j_aload_n h dX7_describe_35 rfl 0 rfl ?_
    refine j_get h inlX5 (30 * 0 + (4 + p1.toNatClampNeg)) (at_R (by decide) (by omega)) rfl 0 (by decide) (xr_33 2 rfl) rfl (v := .int (M.2.1 p1.toNatClampNeg 0)) rfl dX7_describe_36 ?_
    refine j_world h (u' := putL (va_up G 0 M) X3 A3 b3 (X3 10, nI ([] : List Nat).length, b3.2.2.1, b3.2.2.2, A3 5)) (lensL_eq hL3.2.2.2.2.1) ?_
    have hc4 := c_J4_append_bf812 l D cy (lensL (cy := cy) (L := L) (va_up G 0 M) X3 A3 b3) (X3 10) (n := ([] : List Nat).length) b3.2.2.1 (m := b3.2.2.2) (f := A3 5) (v := (M.2.1 p1.toNatClampNeg 0).toNatClampNeg) (by omega) hL3.2.2.2.2.2.1 hL3.2.2.2.2.2.2.1 hL3.2.2.2.2.2.2.2.1
    rw [← show M.2.1 p1.toNatClampNeg 0 = nI ((M.2.1 p1.toNatClampNeg 0).toNatClampNeg) from hf0.1] at hc4
    have hq4 : (([] : List Nat).length + sb_dg ((M.2.1 p1.toNatClampNeg 0).toNatClampNeg)) ≤ 110 := by have hx := dg_2 (v := (M.2.1 p1.toNatClampNeg 0).toNatClampNeg) (by omega); have := hB3; omega
    refine j_callA h (n := 1) hc4 (xg_V (xr_34 4 rfl) (xr_34 5 rfl) (xr_34 6 rfl) (xr_2 4 rfl) (xr_34 7 rfl)) rfl rfl (by decide +kernel) ⟨Nat.le_of_ble_eq_true rfl, Nat.le_of_ble_eq_true rfl⟩ (330 + 10) ((lensL (va_up G 0 M) X3 A3 b3).2.1 _) rfl rfl rfl rfl (Nat.le_of_ble_eq_true rfl) dX7_describe_39 ⟨by have := kE_le (([] : List Nat).length + sb_dg ((M.2.1 p1.toNatClampNeg 0).toNatClampNeg)) b3.2.2.2; show 0 + kE (([] : List Nat).length + sb_dg ((M.2.1 p1.toNatClampNeg 0).toNatClampNeg)) b3.2.2.2 ≤ 40; omega, by have := sE_le (m := b3.2.2.2) hq4; show 0 + sE (([] : List Nat).length + sb_dg ((M.2.1 p1.toNatClampNeg 0).toNatClampNeg)) b3.2.2.2 ≤ 8880; omega⟩ (fun r u' hq => ?_)
    obtain ⟨rfl, a4, f4, rfl, g4a, g4b, g4c⟩ := hq
    refine j_widen h (k := 1) (n := 222) (by have := kE_le (([] : List Nat).length + sb_dg ((M.2.1 p1.toNatClampNeg 0).toNatClampNeg)) b3.2.2.2; show 0 + kE (([] : List Nat).length + sb_dg ((M.2.1 p1.toNatClampNeg 0).toNatClampNeg)) b3.2.2.2 ≤ 1; omega) (by have := sE_le (m := b3.2.2.2) hq4; show 0 + sE (([] : List Nat).length + sb_dg ((M.2.1 p1.toNatClampNeg 0).toNatClampNeg)) b3.2.2.2 ≤ 222; omega) ?_
    obtain ⟨X4, A4, b4, e4, hL4⟩ := LK.int (G := (va_up G 0 M)) hL3 hq4 g4a g4b g4c
    refine j_world h (congrArg _ e4) ?_
    have hB4 : (([] : List Nat) ++ digs ((M.2.1 p1.toNatClampNeg 0).toNatClampNeg)).length ≤ 2 := by rw [List.length_append, digs_len]; have hx := dg_2 (v := (M.2.1 p1.toNatClampNeg 0).toNatClampNeg) (by omega); have := hB3; omega
    refine j_bipush h (v := 45) dX7_describe_42 (by decide) ?_
    refine j_world h (u' := putL (va_up G 0 M) X4 A4 b4 (X4 10, nI (([] : List Nat) ++ digs ((M.2.1 p1.toNatClampNeg 0).toNatClampNeg)).length, b4.2.2.1, b4.2.2.2, A4 5)) (lensL_eq hL4.2.2.2.2.1) ?_
    have hc5 := c_J4_append_cf468 l D cy (lensL (cy := cy) (L := L) (va_up G 0 M) X4 A4 b4) (X4 10) (n := (([] : List Nat) ++ digs ((M.2.1 p1.toNatClampNeg 0).toNatClampNeg)).length) b4.2.2.1 (m := b4.2.2.2) (f := A4 5) (ch := 45) (by decide) hL4.2.2.2.2.2.1 hL4.2.2.2.2.2.2.1 hL4.2.2.2.2.2.2.2.1
    have hq5 : ((([] : List Nat) ++ digs ((M.2.1 p1.toNatClampNeg 0).toNatClampNeg)).length + 1) ≤ 110 := by have := hB4; omega
    refine j_callA h (n := 1) hc5 (xg_V (xr_12 20 rfl) (xr_12 21 rfl) (xr_12 22 rfl) (xr_2 4 rfl) (xr_12 23 rfl)) rfl rfl (by decide +kernel) ⟨Nat.le_of_ble_eq_true rfl, Nat.le_of_ble_eq_true rfl⟩ (330 + 10) ((lensL (va_up G 0 M) X4 A4 b4).2.1 _) rfl rfl rfl rfl (Nat.le_of_ble_eq_true rfl) dX7_describe_44 ⟨by have := kE_le ((([] : List Nat) ++ digs ((M.2.1 p1.toNatClampNeg 0).toNatClampNeg)).length + 1) b4.2.2.2; show 1 + kE ((([] : List Nat) ++ digs ((M.2.1 p1.toNatClampNeg 0).toNatClampNeg)).length + 1) b4.2.2.2 ≤ 40; omega, by have := sE_le (m := b4.2.2.2) hq5; show 222 + sE ((([] : List Nat) ++ digs ((M.2.1 p1.toNatClampNeg 0).toNatClampNeg)).length + 1) b4.2.2.2 ≤ 8880; omega⟩ (fun r u' hq => ?_)
    obtain ⟨rfl, a5, f5, rfl, g5a, g5b, g5c⟩ := hq
    refine j_widen h (k := 2) (n := 444) (by have := kE_le ((([] : List Nat) ++ digs ((M.2.1 p1.toNatClampNeg 0).toNatClampNeg)).length + 1) b4.2.2.2; show 1 + kE ((([] : List Nat) ++ digs ((M.2.1 p1.toNatClampNeg 0).toNatClampNeg)).length + 1) b4.2.2.2 ≤ 2; omega) (by have := sE_le (m := b4.2.2.2) hq5; show 222 + sE ((([] : List Nat) ++ digs ((M.2.1 p1.toNatClampNeg 0).toNatClampNeg)).length + 1) b4.2.2.2 ≤ 444; omega) ?_
    obtain ⟨X5, A5, b5, e5, hL5⟩ := LK.ch (G := (va_up G 0 M)) hL4 (c := 45) (by decide) hq5 g5a g5b g5c
    refine j_world h (congrArg _ e5) ?_
    have hB5 : ((([] : List Nat) ++ digs ((M.2.1 p1.toNatClampNeg 0).toNatClampNeg)) ++ [45]).length ≤ 3 := by rw [List.length_append, List.length_singleton]; have := hB4; omega
    refine j_aload_n h dX7_describe_47 rfl 0 rfl ?_
    refine j_get h inlX5 (30 * 0 + (4 + p1.toNatClampNeg)) (at_R (by decide) (by omega)) rfl 1 (by decide) (xr_33 3 rfl) rfl (v := .int (M.2.1 p1.toNatClampNeg 1)) rfl dX7_describe_48 ?_
    refine j_world h (u' := putL (va_up G 0 M) X5 A5 b5 (X5 10, nI ((([] : List Nat) ++ digs ((M.2.1 p1.toNatClampNeg 0).toNatClampNeg)) ++ [45]).length, b5.2.2.1, b5.2.2.2, A5 5)) (lensL_eq hL5.2.2.2.2.1) ?_
    have hc6 := c_J4_append_bf812 l D cy (lensL (cy := cy) (L := L) (va_up G 0 M) X5 A5 b5) (X5 10) (n := ((([] : List Nat) ++ digs ((M.2.1 p1.toNatClampNeg 0).toNatClampNeg)) ++ [45]).length) b5.2.2.1 (m := b5.2.2.2) (f := A5 5) (v := (M.2.1 p1.toNatClampNeg 1).toNatClampNeg) (by omega) hL5.2.2.2.2.2.1 hL5.2.2.2.2.2.2.1 hL5.2.2.2.2.2.2.2.1
    rw [← show M.2.1 p1.toNatClampNeg 1 = nI ((M.2.1 p1.toNatClampNeg 1).toNatClampNeg) from hf1.1] at hc6
    have hq6 : (((([] : List Nat) ++ digs ((M.2.1 p1.toNatClampNeg 0).toNatClampNeg)) ++ [45]).length + sb_dg ((M.2.1 p1.toNatClampNeg 1).toNatClampNeg)) ≤ 110 := by have hx := dg_2 (v := (M.2.1 p1.toNatClampNeg 1).toNatClampNeg) (by omega); have := hB5; omega
    refine j_callA h (n := 1) hc6 (xg_V (xr_34 4 rfl) (xr_34 5 rfl) (xr_34 6 rfl) (xr_2 4 rfl) (xr_34 7 rfl)) rfl rfl (by decide +kernel) ⟨Nat.le_of_ble_eq_true rfl, Nat.le_of_ble_eq_true rfl⟩ (330 + 10) ((lensL (va_up G 0 M) X5 A5 b5).2.1 _) rfl rfl rfl rfl (Nat.le_of_ble_eq_true rfl) dX7_describe_51 ⟨by have := kE_le (((([] : List Nat) ++ digs ((M.2.1 p1.toNatClampNeg 0).toNatClampNeg)) ++ [45]).length + sb_dg ((M.2.1 p1.toNatClampNeg 1).toNatClampNeg)) b5.2.2.2; show 2 + kE (((([] : List Nat) ++ digs ((M.2.1 p1.toNatClampNeg 0).toNatClampNeg)) ++ [45]).length + sb_dg ((M.2.1 p1.toNatClampNeg 1).toNatClampNeg)) b5.2.2.2 ≤ 40; omega, by have := sE_le (m := b5.2.2.2) hq6; show 444 + sE (((([] : List Nat) ++ digs ((M.2.1 p1.toNatClampNeg 0).toNatClampNeg)) ++ [45]).length + sb_dg ((M.2.1 p1.toNatClampNeg 1).toNatClampNeg)) b5.2.2.2 ≤ 8880; omega⟩ (fun r u' hq => ?_)
    obtain ⟨rfl, a6, f6, rfl, g6a, g6b, g6c⟩ := hq
    refine j_widen h (k := 3) (n := 666) (by have := kE_le (((([] : List Nat) ++ digs ((M.2.1 p1.toNatClampNeg 0).toNatClampNeg)) ++ [45]).length + sb_dg ((M.2.1 p1.toNatClampNeg 1).toNatClampNeg)) b5.2.2.2; show 2 + kE (((([] : List Nat) ++ digs ((M.2.1 p1.toNatClampNeg 0).toNatClampNeg)) ++ [45]).length + sb_dg ((M.2.1 p1.toNatClampNeg 1).toNatClampNeg)) b5.2.2.2 ≤ 3; omega) (by have := sE_le (m := b5.2.2.2) hq6; show 444 + sE (((([] : List Nat) ++ digs ((M.2.1 p1.toNatClampNeg 0).toNatClampNeg)) ++ [45]).length + sb_dg ((M.2.1 p1.toNatClampNeg 1).toNatClampNeg)) b5.2.2.2 ≤ 666; omega) ?_
    obtain ⟨X6, A6, b6, e6, hL6⟩ := LK.int (G := (va_up G 0 M)) hL5 hq6 g6a g6b g6c
    refine j_world h (congrArg _ e6) ?_
    have hB6 : (((([] : List Nat) ++ digs ((M.2.1 p1.toNatClampNeg 0).toNatClampNeg)) ++ [45]) ++ digs ((M.2.1 p1.toNatClampNeg 1).toNatClampNeg)).length ≤ 5 := by rw [List.length_append, digs_len]; have hx := dg_2 (v := (M.2.1 p1.toNatClampNeg 1).toNatClampNeg) (by omega); have := hB5; omega
    refine j_ldcwS h (i := 5) rfl dX7_describe_54 ?_
    refine j_world h (u' := putL (va_up G 0 M) X6 A6 b6 (X6 10, nI (((([] : List Nat) ++ digs ((M.2.1 p1.toNatClampNeg 0).toNatClampNeg)) ++ [45]) ++ digs ((M.2.1 p1.toNatClampNeg 1).toNatClampNeg)).length, b6.2.2.1, b6.2.2.2, A6 5)) (lensL_eq hL6.2.2.2.2.1) ?_
    have hc7 := c_J4_append_15ec4 l D cy (lensL (cy := cy) (L := L) (va_up G 0 M) X6 A6 b6) (X6 10) (n := (((([] : List Nat) ++ digs ((M.2.1 p1.toNatClampNeg 0).toNatClampNeg)) ++ [45]) ++ digs ((M.2.1 p1.toNatClampNeg 1).toNatClampNeg)).length) b6.2.2.1 (m := b6.2.2.2) (f := A6 5) (i := 5) (by decide) hL6.2.2.2.2.2.1 hL6.2.2.2.2.2.2.1 hL6.2.2.2.2.2.2.2.1
    have hq7 : ((((([] : List Nat) ++ digs ((M.2.1 p1.toNatClampNeg 0).toNatClampNeg)) ++ [45]) ++ digs ((M.2.1 p1.toNatClampNeg 1).toNatClampNeg)).length + lenS.getD 5 0) ≤ 110 := by have hx : lenS.getD 5 0 = 2 := rfl; have := hB6; omega
    refine j_callA h (n := 1) hc7 (xg_V (xr_35 14 rfl) (xr_35 15 rfl) (xr_35 16 rfl) (xr_2 4 rfl) (xr_35 17 rfl)) rfl rfl (by decide +kernel) ⟨Nat.le_of_ble_eq_true rfl, Nat.le_of_ble_eq_true rfl⟩ (330 + 10) ((lensL (va_up G 0 M) X6 A6 b6).2.1 _) rfl rfl rfl rfl (Nat.le_of_ble_eq_true rfl) dX7_describe_57 ⟨by have := kE_le ((((([] : List Nat) ++ digs ((M.2.1 p1.toNatClampNeg 0).toNatClampNeg)) ++ [45]) ++ digs ((M.2.1 p1.toNatClampNeg 1).toNatClampNeg)).length + lenS.getD 5 0) b6.2.2.2; show 3 + kE ((((([] : List Nat) ++ digs ((M.2.1 p1.toNatClampNeg 0).toNatClampNeg)) ++ [45]) ++ digs ((M.2.1 p1.toNatClampNeg 1).toNatClampNeg)).length + lenS.getD 5 0) b6.2.2.2 ≤ 40; omega, by have := sE_le (m := b6.2.2.2) hq7; show 666 + sE ((((([] : List Nat) ++ digs ((M.2.1 p1.toNatClampNeg 0).toNatClampNeg)) ++ [45]) ++ digs ((M.2.1 p1.toNatClampNeg 1).toNatClampNeg)).length + lenS.getD 5 0) b6.2.2.2 ≤ 8880; omega⟩ (fun r u' hq => ?_)
    obtain ⟨rfl, a7, f7, rfl, g7a, g7b, g7c⟩ := hq
    refine j_widen h (k := 4) (n := 888) (by have := kE_le ((((([] : List Nat) ++ digs ((M.2.1 p1.toNatClampNeg 0).toNatClampNeg)) ++ [45]) ++ digs ((M.2.1 p1.toNatClampNeg 1).toNatClampNeg)).length + lenS.getD 5 0) b6.2.2.2; show 3 + kE ((((([] : List Nat) ++ digs ((M.2.1 p1.toNatClampNeg 0).toNatClampNeg)) ++ [45]) ++ digs ((M.2.1 p1.toNatClampNeg 1).toNatClampNeg)).length + lenS.getD 5 0) b6.2.2.2 ≤ 4; omega) (by have := sE_le (m := b6.2.2.2) hq7; show 666 + sE ((((([] : List Nat) ++ digs ((M.2.1 p1.toNatClampNeg 0).toNatClampNeg)) ++ [45]) ++ digs ((M.2.1 p1.toNatClampNeg 1).toNatClampNeg)).length + lenS.getD 5 0) b6.2.2.2 ≤ 888; omega) ?_
    obtain ⟨X7, A7, b7, e7, hL7⟩ := LK.str (G := (va_up G 0 M)) hL6 (i := 5) (by decide) hq7 g7a g7b g7c
    refine j_world h (congrArg _ e7) ?_
    have hB7 : ((((([] : List Nat) ++ digs ((M.2.1 p1.toNatClampNeg 0).toNatClampNeg)) ++ [45]) ++ digs ((M.2.1 p1.toNatClampNeg 1).toNatClampNeg)) ++ strs 5).length ≤ 7 := by rw [List.length_append, strs_len]; have hx : lenS.getD 5 0 = 2 := rfl; have := hB6; omega
    refine j_pop h dX7_describe_60 rfl ?_
    refine j_aload_n h dX7_describe_61 rfl 0 rfl ?_
    refine j_get h inlX5 (30 * 0 + (4 + p1.toNatClampNeg)) (at_R (by decide) (by omega)) rfl 2 (by decide) (xr_21 4 rfl) rfl (v := .int (M.2.1 p1.toNatClampNeg 2)) rfl dX7_describe_62 ?_
    refine j_if_ne h (tgt := 82) dX7_describe_65 (by decide) (fun c8 => ?_) (fun c8 => ?_)
    · refine j_aload_n h dX7_describe_82 rfl 1 rfl ?_
      refine j_get h inlX7 (330 + 0) (ml_get 0) rfl 8 (by decide) (xr_2 15 rfl) rfl (v := .ref (L 11 10)) rfl dX7_describe_83 ?_
      refine j_ldcwS h (i := 7) rfl dX7_describe_86 ?_
      refine j_world h (u' := putL (va_up G 0 M) X7 A7 b7 (X7 10, nI ((((([] : List Nat) ++ digs ((M.2.1 p1.toNatClampNeg 0).toNatClampNeg)) ++ [45]) ++ digs ((M.2.1 p1.toNatClampNeg 1).toNatClampNeg)) ++ strs 5).length, b7.2.2.1, b7.2.2.2, A7 5)) (lensL_eq hL7.2.2.2.2.1) ?_
      have hc9 := c_J4_append_15ec4 l D cy (lensL (cy := cy) (L := L) (va_up G 0 M) X7 A7 b7) (X7 10) (n := ((((([] : List Nat) ++ digs ((M.2.1 p1.toNatClampNeg 0).toNatClampNeg)) ++ [45]) ++ digs ((M.2.1 p1.toNatClampNeg 1).toNatClampNeg)) ++ strs 5).length) b7.2.2.1 (m := b7.2.2.2) (f := A7 5) (i := 7) (by decide) hL7.2.2.2.2.2.1 hL7.2.2.2.2.2.2.1 hL7.2.2.2.2.2.2.2.1
      have hq9 : (((((([] : List Nat) ++ digs ((M.2.1 p1.toNatClampNeg 0).toNatClampNeg)) ++ [45]) ++ digs ((M.2.1 p1.toNatClampNeg 1).toNatClampNeg)) ++ strs 5).length + lenS.getD 7 0) ≤ 110 := by have hx : lenS.getD 7 0 = 4 := rfl; have := hB7; omega
      refine j_callA h (n := 1) hc9 (xg_V (xr_35 14 rfl) (xr_35 15 rfl) (xr_35 16 rfl) (xr_2 4 rfl) (xr_35 17 rfl)) rfl rfl (by decide +kernel) ⟨Nat.le_of_ble_eq_true rfl, Nat.le_of_ble_eq_true rfl⟩ (330 + 10) ((lensL (va_up G 0 M) X7 A7 b7).2.1 _) rfl rfl rfl rfl (Nat.le_of_ble_eq_true rfl) dX7_describe_89 ⟨by have := kE_le (((((([] : List Nat) ++ digs ((M.2.1 p1.toNatClampNeg 0).toNatClampNeg)) ++ [45]) ++ digs ((M.2.1 p1.toNatClampNeg 1).toNatClampNeg)) ++ strs 5).length + lenS.getD 7 0) b7.2.2.2; show 4 + kE (((((([] : List Nat) ++ digs ((M.2.1 p1.toNatClampNeg 0).toNatClampNeg)) ++ [45]) ++ digs ((M.2.1 p1.toNatClampNeg 1).toNatClampNeg)) ++ strs 5).length + lenS.getD 7 0) b7.2.2.2 ≤ 40; omega, by have := sE_le (m := b7.2.2.2) hq9; show 888 + sE (((((([] : List Nat) ++ digs ((M.2.1 p1.toNatClampNeg 0).toNatClampNeg)) ++ [45]) ++ digs ((M.2.1 p1.toNatClampNeg 1).toNatClampNeg)) ++ strs 5).length + lenS.getD 7 0) b7.2.2.2 ≤ 8880; omega⟩ (fun r u' hq => ?_)
      obtain ⟨rfl, a9, f9, rfl, g9a, g9b, g9c⟩ := hq
      refine j_widen h (k := 5) (n := 1110) (by have := kE_le (((((([] : List Nat) ++ digs ((M.2.1 p1.toNatClampNeg 0).toNatClampNeg)) ++ [45]) ++ digs ((M.2.1 p1.toNatClampNeg 1).toNatClampNeg)) ++ strs 5).length + lenS.getD 7 0) b7.2.2.2; show 4 + kE (((((([] : List Nat) ++ digs ((M.2.1 p1.toNatClampNeg 0).toNatClampNeg)) ++ [45]) ++ digs ((M.2.1 p1.toNatClampNeg 1).toNatClampNeg)) ++ strs 5).length + lenS.getD 7 0) b7.2.2.2 ≤ 5; omega) (by have := sE_le (m := b7.2.2.2) hq9; show 888 + sE (((((([] : List Nat) ++ digs ((M.2.1 p1.toNatClampNeg 0).toNatClampNeg)) ++ [45]) ++ digs ((M.2.1 p1.toNatClampNeg 1).toNatClampNeg)) ++ strs 5).length + lenS.getD 7 0) b7.2.2.2 ≤ 1110; omega) ?_
      obtain ⟨X9, A9, b9, e9, hL9⟩ := LK.str (G := (va_up G 0 M)) hL7 (i := 7) (by decide) hq9 g9a g9b g9c
      refine j_world h (congrArg _ e9) ?_
      have hB9 : (((((([] : List Nat) ++ digs ((M.2.1 p1.toNatClampNeg 0).toNatClampNeg)) ++ [45]) ++ digs ((M.2.1 p1.toNatClampNeg 1).toNatClampNeg)) ++ strs 5) ++ strs 7).length ≤ 11 := by rw [List.length_append, strs_len]; have hx : lenS.getD 7 0 = 4 := rfl; have := hB7; omega
      refine j_aload_n h dX7_describe_92 rfl 0 rfl ?_
      refine j_get h inlX5 (30 * 0 + (4 + p1.toNatClampNeg)) (at_R (by decide) (by omega)) rfl 2 (by decide) (xr_21 4 rfl) rfl (v := .int (M.2.1 p1.toNatClampNeg 2)) rfl dX7_describe_93 ?_
      refine j_world h (u' := putL (va_up G 0 M) X9 A9 b9 (X9 10, nI (((((([] : List Nat) ++ digs ((M.2.1 p1.toNatClampNeg 0).toNatClampNeg)) ++ [45]) ++ digs ((M.2.1 p1.toNatClampNeg 1).toNatClampNeg)) ++ strs 5) ++ strs 7).length, b9.2.2.1, b9.2.2.2, A9 5)) (lensL_eq hL9.2.2.2.2.1) ?_
      have hc10 := c_J4_append_bf812 l D cy (lensL (cy := cy) (L := L) (va_up G 0 M) X9 A9 b9) (X9 10) (n := (((((([] : List Nat) ++ digs ((M.2.1 p1.toNatClampNeg 0).toNatClampNeg)) ++ [45]) ++ digs ((M.2.1 p1.toNatClampNeg 1).toNatClampNeg)) ++ strs 5) ++ strs 7).length) b9.2.2.1 (m := b9.2.2.2) (f := A9 5) (v := (M.2.1 p1.toNatClampNeg 2).toNatClampNeg) (by omega) hL9.2.2.2.2.2.1 hL9.2.2.2.2.2.2.1 hL9.2.2.2.2.2.2.2.1
      rw [← show M.2.1 p1.toNatClampNeg 2 = nI ((M.2.1 p1.toNatClampNeg 2).toNatClampNeg) from hf2.1] at hc10
      have hq10 : ((((((([] : List Nat) ++ digs ((M.2.1 p1.toNatClampNeg 0).toNatClampNeg)) ++ [45]) ++ digs ((M.2.1 p1.toNatClampNeg 1).toNatClampNeg)) ++ strs 5) ++ strs 7).length + sb_dg ((M.2.1 p1.toNatClampNeg 2).toNatClampNeg)) ≤ 110 := by have hx := dg_2 (v := (M.2.1 p1.toNatClampNeg 2).toNatClampNeg) (by omega); have := hB9; omega
      refine j_callA h (n := 1) hc10 (xg_V (xr_34 4 rfl) (xr_34 5 rfl) (xr_34 6 rfl) (xr_2 4 rfl) (xr_34 7 rfl)) rfl rfl (by decide +kernel) ⟨Nat.le_of_ble_eq_true rfl, Nat.le_of_ble_eq_true rfl⟩ (330 + 10) ((lensL (va_up G 0 M) X9 A9 b9).2.1 _) rfl rfl rfl rfl (Nat.le_of_ble_eq_true rfl) dX7_describe_96 ⟨by have := kE_le ((((((([] : List Nat) ++ digs ((M.2.1 p1.toNatClampNeg 0).toNatClampNeg)) ++ [45]) ++ digs ((M.2.1 p1.toNatClampNeg 1).toNatClampNeg)) ++ strs 5) ++ strs 7).length + sb_dg ((M.2.1 p1.toNatClampNeg 2).toNatClampNeg)) b9.2.2.2; show 5 + kE ((((((([] : List Nat) ++ digs ((M.2.1 p1.toNatClampNeg 0).toNatClampNeg)) ++ [45]) ++ digs ((M.2.1 p1.toNatClampNeg 1).toNatClampNeg)) ++ strs 5) ++ strs 7).length + sb_dg ((M.2.1 p1.toNatClampNeg 2).toNatClampNeg)) b9.2.2.2 ≤ 40; omega, by have := sE_le (m := b9.2.2.2) hq10; show 1110 + sE ((((((([] : List Nat) ++ digs ((M.2.1 p1.toNatClampNeg 0).toNatClampNeg)) ++ [45]) ++ digs ((M.2.1 p1.toNatClampNeg 1).toNatClampNeg)) ++ strs 5) ++ strs 7).length + sb_dg ((M.2.1 p1.toNatClampNeg 2).toNatClampNeg)) b9.2.2.2 ≤ 8880; omega⟩ (fun r u' hq => ?_)
      obtain ⟨rfl, a10, f10, rfl, g10a, g10b, g10c⟩ := hq
      refine j_widen h (k := 6) (n := 1332) (by have := kE_le ((((((([] : List Nat) ++ digs ((M.2.1 p1.toNatClampNeg 0).toNatClampNeg)) ++ [45]) ++ digs ((M.2.1 p1.toNatClampNeg 1).toNatClampNeg)) ++ strs 5) ++ strs 7).length + sb_dg ((M.2.1 p1.toNatClampNeg 2).toNatClampNeg)) b9.2.2.2; show 5 + kE ((((((([] : List Nat) ++ digs ((M.2.1 p1.toNatClampNeg 0).toNatClampNeg)) ++ [45]) ++ digs ((M.2.1 p1.toNatClampNeg 1).toNatClampNeg)) ++ strs 5) ++ strs 7).length + sb_dg ((M.2.1 p1.toNatClampNeg 2).toNatClampNeg)) b9.2.2.2 ≤ 6; omega) (by have := sE_le (m := b9.2.2.2) hq10; show 1110 + sE ((((((([] : List Nat) ++ digs ((M.2.1 p1.toNatClampNeg 0).toNatClampNeg)) ++ [45]) ++ digs ((M.2.1 p1.toNatClampNeg 1).toNatClampNeg)) ++ strs 5) ++ strs 7).length + sb_dg ((M.2.1 p1.toNatClampNeg 2).toNatClampNeg)) b9.2.2.2 ≤ 1332; omega) ?_
      obtain ⟨X10, A10, b10, e10, hL10⟩ := LK.int (G := (va_up G 0 M)) hL9 hq10 g10a g10b g10c
      refine j_world h (congrArg _ e10) ?_
      have hB10 : ((((((([] : List Nat) ++ digs ((M.2.1 p1.toNatClampNeg 0).toNatClampNeg)) ++ [45]) ++ digs ((M.2.1 p1.toNatClampNeg 1).toNatClampNeg)) ++ strs 5) ++ strs 7) ++ digs ((M.2.1 p1.toNatClampNeg 2).toNatClampNeg)).length ≤ 13 := by rw [List.length_append, digs_len]; have hx := dg_2 (v := (M.2.1 p1.toNatClampNeg 2).toNatClampNeg) (by omega); have := hB9; omega
      refine j_pop h dX7_describe_99 rfl ?_
      refine j_aload_n h dX7_describe_100 rfl 0 rfl ?_
      refine j_callI h (n := 0) (c_X5_isPlayed l D cy L _ _ _ _ _ (by decide) (by omega)) (xg_V (xr_21 10 rfl) (xr_9 23 rfl) (xr_10 0 rfl) (xr_2 23 rfl) (xr_10 1 rfl)) rfl rfl (by decide +kernel) ⟨Nat.le_of_ble_eq_true rfl, Nat.le_of_ble_eq_true rfl⟩ (30 * 0 + (4 + p1.toNatClampNeg)) (at_R (by decide) (by omega)) rfl rfl rfl rfl (Nat.le_of_ble_eq_true rfl) dX7_describe_101 ⟨by decide, by decide⟩ (fun z11 u' hq => ?_)
      obtain ⟨hz11, rfl, bz11⟩ := hq
      refine j_if_eq h (tgt := 125) dX7_describe_104 (by decide) (fun c12 => ?_) (fun c12 => ?_)
      · refine j_aload_n h dX7_describe_125 rfl 1 rfl ?_
        refine j_get h inlX7 (330 + 0) (ml_get 0) rfl 0 (by decide) (xr_1 19 rfl) rfl (v := .ref (L 0 0)) rfl dX7_describe_126 ?_
        refine j_iload_n h dX7_describe_129 rfl 2 rfl ?_
        refine j_iconst h (v := 1) dX7_describe_130 (by decide) ?_
        refine j_callI h (n := 2) (c_X1_woodsOn l D cy L _ _ _ _ _ (by decide) _ _ (hG).w) (xg_V (xr_33 5 rfl) (xr_33 6 rfl) (xr_33 7 rfl) (xr_1 18 rfl) (xr_33 8 rfl)) rfl rfl (by decide +kernel) ⟨Nat.le_of_ble_eq_true rfl, Nat.le_of_ble_eq_true rfl⟩ (30 * 0 + 0) (at_G (by decide)) rfl rfl rfl rfl (Nat.le_of_ble_eq_true rfl) dX7_describe_131 ⟨by decide, by decide⟩ (fun z13 u' hq => ?_)
        obtain ⟨hz13, rfl⟩ := hq
        have hly : z13 ≤ nI 8 := hz13 ▸ hW8
        refine j_widen h (k := 8 + 4 * 0) (n := 1776 + 888 * 0) (by show 6 + 0 ≤ 8; omega) (by show 1332 + 0 ≤ 1776; omega) ?_
        refine j_istore_n h (lv' := [(3, _), (2, _), (0, _), (1, _)]) dX7_describe_134 rfl (by decide) rfl ?_
        refine j_iconst h (v := 0) dX7_describe_135 (by decide) ?_
        refine j_istore h (lv' := [(4, _), (3, _), (2, _), (0, _), (1, _)]) dX7_describe_136 (by decide) rfl ?_
        have lp138 : ∀ (n k : Nat) (Tk : List Nat) (Xk : Nat → Int32) (Ak : Nat → Nat → Int32) (bk : cB), n + k = 9 → k ≤ 8 → LK X A b Tk Xk Ak bk → Tk.length ≤ 17 + 8 * k → f_X7_describe M p1 = f_X7_describe_l138 M p1 z13 n k Tk → J ((va_up G 0 M, Xk, Ak), bk) (8 + 4 * k, 1776 + 888 * k) [(0, .ref (L 11 0)), (1, .int p1), (2, .ref (L 0 (4 + p1.toNatClampNeg))), (3, .int z13), (4, .int (nI k))] 138 [] := by
          intro n
          induction n with
          | zero => intro k Tk Xk Ak bk hn hk hLk hBk hf; omega
          | succ n ih =>
            intro k Tk Xk Ak bk hn hk hLk hBk hf
            refine j_iload h dX7_describe_138 4 rfl ?_
            refine j_iload_n h dX7_describe_140 rfl 3 rfl ?_
            refine j_icmp_ge h (tgt := 164) dX7_describe_141 (by decide) (fun c14 => ?_) (fun c14 => ?_)
            · refine j_aload_n h dX7_describe_164 rfl 0 rfl ?_
              refine j_get h inlX7 (330 + 0) (ml_get 0) rfl 8 (by decide) (xr_2 15 rfl) rfl (v := .ref (L 11 10)) rfl dX7_describe_165 ?_
              refine j_world h (u' := putL (va_up G 0 M) Xk Ak bk (Xk 10, nI Tk.length, bk.2.2.1, bk.2.2.2, Ak 5)) (lensL_eq hLk.2.2.2.2.1) ?_
              refine j_callI h (n := 0) (c_J4_length_8abf5 l D cy (lensL (va_up G 0 M) Xk Ak bk) (Xk 10) (nI Tk.length) bk.2.2.1 bk.2.2.2 (Ak 5)) (xg_V (xr_12 6 rfl) (xr_12 7 rfl) (xr_12 8 rfl) (xr_2 4 rfl) (xr_12 9 rfl)) rfl rfl (by decide +kernel) ⟨Nat.le_of_ble_eq_true rfl, Nat.le_of_ble_eq_true rfl⟩ (330 + 10) ((lensL (va_up G 0 M) Xk Ak bk).2.1 _) rfl rfl rfl rfl (Nat.le_of_ble_eq_true rfl) dX7_describe_168 ⟨by show 8 + 4 * k + 0 ≤ 40; omega, by show 1776 + 888 * k + 0 ≤ 8880; omega⟩ (fun r u' hq => ?_)
              obtain ⟨rfl, rfl⟩ := hq
              refine j_world h (u' := ((va_up G 0 M, Xk, Ak), bk)) (lensL_eq hLk.2.2.2.2.1).symm ?_
              refine j_widen h (k := 40) (n := 8880) (by show 8 + 4 * k ≤ 40; omega) (by show 1776 + 888 * k ≤ 8880; omega) ?_
              exact hR _ _ _ _ dX7_describe_171 ⟨(_, _), Eq.symm (hf.trans ((ite_p c14 rfl))), rfl, Or.inr ⟨hz1 ▸ c2, _, _, _, rfl, hLk⟩⟩
            · have hk1 : k < 8 := cnt_lt (by decide) hk hly c14
              refine j_aload_n h dX7_describe_144 rfl 0 rfl ?_
              refine j_aload_n h dX7_describe_145 rfl 0 rfl ?_
              refine j_get h inlX7 (330 + 0) (ml_get 0) rfl 0 (by decide) (xr_1 19 rfl) rfl (v := .ref (L 0 0)) rfl dX7_describe_146 ?_
              refine j_iload_n h dX7_describe_149 rfl 1 rfl ?_
              refine j_iload h dX7_describe_150 4 rfl ?_
              refine j_callI h (n := 2) (c_X1_woodInOrder l D cy L _ _ _ _ _ (by decide) _ _ (hG).w) (xg_V (xr_37 0 rfl) (xr_37 1 rfl) (xr_37 2 rfl) (xr_1 18 rfl) (xr_37 3 rfl)) rfl rfl (by decide +kernel) ⟨Nat.le_of_ble_eq_true rfl, Nat.le_of_ble_eq_true rfl⟩ (30 * 0 + 0) (at_G (by decide)) rfl rfl rfl rfl (Nat.le_of_ble_eq_true rfl) dX7_describe_152 ⟨by show 8 + 4 * k + 0 ≤ 40; omega, by show 1776 + 888 * k + 0 ≤ 8880; omega⟩ (fun z15 u' hq => ?_)
              obtain ⟨hz15, rfl⟩ := hq
              have hq16 : Tk.length ≤ 102 := by have := hBk; omega
              refine j_callV h (n := 1) (c_X7_writeWood l D cy L _ _ _ _ _ _ Tk _ _ _ hLk hq16 hG hDs) (xg_V (xr_37 8 rfl) (xr_37 9 rfl) (xr_37 10 rfl) (xr_1 2 rfl) (xr_37 11 rfl)) rfl rfl (by decide +kernel) ⟨Nat.le_of_ble_eq_true rfl, Nat.le_of_ble_eq_true rfl⟩ (330 + 0) (ml_get 0) rfl rfl rfl rfl (Nat.le_of_ble_eq_true rfl) dX7_describe_155 ⟨by show 8 + 4 * k + 0 + 4 ≤ 40; omega, by show 1776 + 888 * k + 0 + 888 ≤ 8880; omega⟩ (fun u' hq => ?_)
              obtain ⟨z16, hz16, X16, A16, b16, rfl, hL16, hl16⟩ := hq
              refine j_widen h (k := 8 + 4 * (k + 1)) (n := 1776 + 888 * (k + 1)) (by show 8 + 4 * k + 0 + 4 ≤ _; omega) (by show 1776 + 888 * k + 0 + 888 ≤ _; omega) ?_
              have hB16 : z16.length ≤ 17 + 8 * (k + 1) := by have := hBk; omega
              refine j_iinc h (v := nI (k + 1)) (lv' := [(4, _), (0, _), (1, _), (2, _), (3, _)]) dX7_describe_158 (k := 4) rfl (nI_1 k) (by decide) rfl ?_
              refine j_goto h (tgt := 138) dX7_describe_161 (by decide) ?_
              refine j_sub h [1, 2, 3, 4, 0] rfl ?_
              exact ih (k + 1) _ _ _ _ (by omega) (by omega) hL16 hB16 (hf.trans ((ite_n c14 (bd_eq hz15 (bd_eq hz16 rfl)))))
        refine j_sub h [3, 4, 2, 1, 0] rfl ?_
        exact lp138 9 0 _ _ _ _ (by omega) (by omega) hL10 (by have := hB10; omega) ((bd_eq hz1 (ite_n c2 (ite_n c8 (bd_eq hz11 (ite_p c12 (bd_eq hz13 rfl)))))))
      · refine j_aload_n h dX7_describe_107 rfl 1 rfl ?_
        refine j_get h inlX7 (330 + 0) (ml_get 0) rfl 8 (by decide) (xr_2 15 rfl) rfl (v := .ref (L 11 10)) rfl dX7_describe_108 ?_
        refine j_ldcwS h (i := 8) rfl dX7_describe_111 ?_
        refine j_world h (u' := putL (va_up G 0 M) X10 A10 b10 (X10 10, nI ((((((([] : List Nat) ++ digs ((M.2.1 p1.toNatClampNeg 0).toNatClampNeg)) ++ [45]) ++ digs ((M.2.1 p1.toNatClampNeg 1).toNatClampNeg)) ++ strs 5) ++ strs 7) ++ digs ((M.2.1 p1.toNatClampNeg 2).toNatClampNeg)).length, b10.2.2.1, b10.2.2.2, A10 5)) (lensL_eq hL10.2.2.2.2.1) ?_
        have hc17 := c_J4_append_15ec4 l D cy (lensL (cy := cy) (L := L) (va_up G 0 M) X10 A10 b10) (X10 10) (n := ((((((([] : List Nat) ++ digs ((M.2.1 p1.toNatClampNeg 0).toNatClampNeg)) ++ [45]) ++ digs ((M.2.1 p1.toNatClampNeg 1).toNatClampNeg)) ++ strs 5) ++ strs 7) ++ digs ((M.2.1 p1.toNatClampNeg 2).toNatClampNeg)).length) b10.2.2.1 (m := b10.2.2.2) (f := A10 5) (i := 8) (by decide) hL10.2.2.2.2.2.1 hL10.2.2.2.2.2.2.1 hL10.2.2.2.2.2.2.2.1
        have hq17 : (((((((([] : List Nat) ++ digs ((M.2.1 p1.toNatClampNeg 0).toNatClampNeg)) ++ [45]) ++ digs ((M.2.1 p1.toNatClampNeg 1).toNatClampNeg)) ++ strs 5) ++ strs 7) ++ digs ((M.2.1 p1.toNatClampNeg 2).toNatClampNeg)).length + lenS.getD 8 0) ≤ 110 := by have hx : lenS.getD 8 0 = 2 := rfl; have := hB10; omega
        refine j_callA h (n := 1) hc17 (xg_V (xr_35 14 rfl) (xr_35 15 rfl) (xr_35 16 rfl) (xr_2 4 rfl) (xr_35 17 rfl)) rfl rfl (by decide +kernel) ⟨Nat.le_of_ble_eq_true rfl, Nat.le_of_ble_eq_true rfl⟩ (330 + 10) ((lensL (va_up G 0 M) X10 A10 b10).2.1 _) rfl rfl rfl rfl (Nat.le_of_ble_eq_true rfl) dX7_describe_114 ⟨by have := kE_le (((((((([] : List Nat) ++ digs ((M.2.1 p1.toNatClampNeg 0).toNatClampNeg)) ++ [45]) ++ digs ((M.2.1 p1.toNatClampNeg 1).toNatClampNeg)) ++ strs 5) ++ strs 7) ++ digs ((M.2.1 p1.toNatClampNeg 2).toNatClampNeg)).length + lenS.getD 8 0) b10.2.2.2; show 6 + kE (((((((([] : List Nat) ++ digs ((M.2.1 p1.toNatClampNeg 0).toNatClampNeg)) ++ [45]) ++ digs ((M.2.1 p1.toNatClampNeg 1).toNatClampNeg)) ++ strs 5) ++ strs 7) ++ digs ((M.2.1 p1.toNatClampNeg 2).toNatClampNeg)).length + lenS.getD 8 0) b10.2.2.2 ≤ 40; omega, by have := sE_le (m := b10.2.2.2) hq17; show 1332 + sE (((((((([] : List Nat) ++ digs ((M.2.1 p1.toNatClampNeg 0).toNatClampNeg)) ++ [45]) ++ digs ((M.2.1 p1.toNatClampNeg 1).toNatClampNeg)) ++ strs 5) ++ strs 7) ++ digs ((M.2.1 p1.toNatClampNeg 2).toNatClampNeg)).length + lenS.getD 8 0) b10.2.2.2 ≤ 8880; omega⟩ (fun r u' hq => ?_)
        obtain ⟨rfl, a17, f17, rfl, g17a, g17b, g17c⟩ := hq
        refine j_widen h (k := 7) (n := 1554) (by have := kE_le (((((((([] : List Nat) ++ digs ((M.2.1 p1.toNatClampNeg 0).toNatClampNeg)) ++ [45]) ++ digs ((M.2.1 p1.toNatClampNeg 1).toNatClampNeg)) ++ strs 5) ++ strs 7) ++ digs ((M.2.1 p1.toNatClampNeg 2).toNatClampNeg)).length + lenS.getD 8 0) b10.2.2.2; show 6 + kE (((((((([] : List Nat) ++ digs ((M.2.1 p1.toNatClampNeg 0).toNatClampNeg)) ++ [45]) ++ digs ((M.2.1 p1.toNatClampNeg 1).toNatClampNeg)) ++ strs 5) ++ strs 7) ++ digs ((M.2.1 p1.toNatClampNeg 2).toNatClampNeg)).length + lenS.getD 8 0) b10.2.2.2 ≤ 7; omega) (by have := sE_le (m := b10.2.2.2) hq17; show 1332 + sE (((((((([] : List Nat) ++ digs ((M.2.1 p1.toNatClampNeg 0).toNatClampNeg)) ++ [45]) ++ digs ((M.2.1 p1.toNatClampNeg 1).toNatClampNeg)) ++ strs 5) ++ strs 7) ++ digs ((M.2.1 p1.toNatClampNeg 2).toNatClampNeg)).length + lenS.getD 8 0) b10.2.2.2 ≤ 1554; omega) ?_
        obtain ⟨X17, A17, b17, e17, hL17⟩ := LK.str (G := (va_up G 0 M)) hL10 (i := 8) (by decide) hq17 g17a g17b g17c
        refine j_world h (congrArg _ e17) ?_
        have hB17 : (((((((([] : List Nat) ++ digs ((M.2.1 p1.toNatClampNeg 0).toNatClampNeg)) ++ [45]) ++ digs ((M.2.1 p1.toNatClampNeg 1).toNatClampNeg)) ++ strs 5) ++ strs 7) ++ digs ((M.2.1 p1.toNatClampNeg 2).toNatClampNeg)) ++ strs 8).length ≤ 15 := by rw [List.length_append, strs_len]; have hx : lenS.getD 8 0 = 2 := rfl; have := hB10; omega
        refine j_aload_n h dX7_describe_117 rfl 0 rfl ?_
        refine j_get h inlX5 (30 * 0 + (4 + p1.toNatClampNeg)) (at_R (by decide) (by omega)) rfl 4 (by decide) (xr_21 3 rfl) rfl (v := .int (M.2.1 p1.toNatClampNeg 4)) rfl dX7_describe_118 ?_
        refine j_world h (u' := putL (va_up G 0 M) X17 A17 b17 (X17 10, nI (((((((([] : List Nat) ++ digs ((M.2.1 p1.toNatClampNeg 0).toNatClampNeg)) ++ [45]) ++ digs ((M.2.1 p1.toNatClampNeg 1).toNatClampNeg)) ++ strs 5) ++ strs 7) ++ digs ((M.2.1 p1.toNatClampNeg 2).toNatClampNeg)) ++ strs 8).length, b17.2.2.1, b17.2.2.2, A17 5)) (lensL_eq hL17.2.2.2.2.1) ?_
        have hc18 := c_J4_append_bf812 l D cy (lensL (cy := cy) (L := L) (va_up G 0 M) X17 A17 b17) (X17 10) (n := (((((((([] : List Nat) ++ digs ((M.2.1 p1.toNatClampNeg 0).toNatClampNeg)) ++ [45]) ++ digs ((M.2.1 p1.toNatClampNeg 1).toNatClampNeg)) ++ strs 5) ++ strs 7) ++ digs ((M.2.1 p1.toNatClampNeg 2).toNatClampNeg)) ++ strs 8).length) b17.2.2.1 (m := b17.2.2.2) (f := A17 5) (v := (M.2.1 p1.toNatClampNeg 4).toNatClampNeg) (by omega) hL17.2.2.2.2.2.1 hL17.2.2.2.2.2.2.1 hL17.2.2.2.2.2.2.2.1
        rw [← show M.2.1 p1.toNatClampNeg 4 = nI ((M.2.1 p1.toNatClampNeg 4).toNatClampNeg) from hf4.1] at hc18
        have hq18 : ((((((((([] : List Nat) ++ digs ((M.2.1 p1.toNatClampNeg 0).toNatClampNeg)) ++ [45]) ++ digs ((M.2.1 p1.toNatClampNeg 1).toNatClampNeg)) ++ strs 5) ++ strs 7) ++ digs ((M.2.1 p1.toNatClampNeg 2).toNatClampNeg)) ++ strs 8).length + sb_dg ((M.2.1 p1.toNatClampNeg 4).toNatClampNeg)) ≤ 110 := by have hx := dg_2 (v := (M.2.1 p1.toNatClampNeg 4).toNatClampNeg) (by omega); have := hB17; omega
        refine j_callA h (n := 1) hc18 (xg_V (xr_34 4 rfl) (xr_34 5 rfl) (xr_34 6 rfl) (xr_2 4 rfl) (xr_34 7 rfl)) rfl rfl (by decide +kernel) ⟨Nat.le_of_ble_eq_true rfl, Nat.le_of_ble_eq_true rfl⟩ (330 + 10) ((lensL (va_up G 0 M) X17 A17 b17).2.1 _) rfl rfl rfl rfl (Nat.le_of_ble_eq_true rfl) dX7_describe_121 ⟨by have := kE_le ((((((((([] : List Nat) ++ digs ((M.2.1 p1.toNatClampNeg 0).toNatClampNeg)) ++ [45]) ++ digs ((M.2.1 p1.toNatClampNeg 1).toNatClampNeg)) ++ strs 5) ++ strs 7) ++ digs ((M.2.1 p1.toNatClampNeg 2).toNatClampNeg)) ++ strs 8).length + sb_dg ((M.2.1 p1.toNatClampNeg 4).toNatClampNeg)) b17.2.2.2; show 7 + kE ((((((((([] : List Nat) ++ digs ((M.2.1 p1.toNatClampNeg 0).toNatClampNeg)) ++ [45]) ++ digs ((M.2.1 p1.toNatClampNeg 1).toNatClampNeg)) ++ strs 5) ++ strs 7) ++ digs ((M.2.1 p1.toNatClampNeg 2).toNatClampNeg)) ++ strs 8).length + sb_dg ((M.2.1 p1.toNatClampNeg 4).toNatClampNeg)) b17.2.2.2 ≤ 40; omega, by have := sE_le (m := b17.2.2.2) hq18; show 1554 + sE ((((((((([] : List Nat) ++ digs ((M.2.1 p1.toNatClampNeg 0).toNatClampNeg)) ++ [45]) ++ digs ((M.2.1 p1.toNatClampNeg 1).toNatClampNeg)) ++ strs 5) ++ strs 7) ++ digs ((M.2.1 p1.toNatClampNeg 2).toNatClampNeg)) ++ strs 8).length + sb_dg ((M.2.1 p1.toNatClampNeg 4).toNatClampNeg)) b17.2.2.2 ≤ 8880; omega⟩ (fun r u' hq => ?_)
        obtain ⟨rfl, a18, f18, rfl, g18a, g18b, g18c⟩ := hq
        refine j_widen h (k := 8) (n := 1776) (by have := kE_le ((((((((([] : List Nat) ++ digs ((M.2.1 p1.toNatClampNeg 0).toNatClampNeg)) ++ [45]) ++ digs ((M.2.1 p1.toNatClampNeg 1).toNatClampNeg)) ++ strs 5) ++ strs 7) ++ digs ((M.2.1 p1.toNatClampNeg 2).toNatClampNeg)) ++ strs 8).length + sb_dg ((M.2.1 p1.toNatClampNeg 4).toNatClampNeg)) b17.2.2.2; show 7 + kE ((((((((([] : List Nat) ++ digs ((M.2.1 p1.toNatClampNeg 0).toNatClampNeg)) ++ [45]) ++ digs ((M.2.1 p1.toNatClampNeg 1).toNatClampNeg)) ++ strs 5) ++ strs 7) ++ digs ((M.2.1 p1.toNatClampNeg 2).toNatClampNeg)) ++ strs 8).length + sb_dg ((M.2.1 p1.toNatClampNeg 4).toNatClampNeg)) b17.2.2.2 ≤ 8; omega) (by have := sE_le (m := b17.2.2.2) hq18; show 1554 + sE ((((((((([] : List Nat) ++ digs ((M.2.1 p1.toNatClampNeg 0).toNatClampNeg)) ++ [45]) ++ digs ((M.2.1 p1.toNatClampNeg 1).toNatClampNeg)) ++ strs 5) ++ strs 7) ++ digs ((M.2.1 p1.toNatClampNeg 2).toNatClampNeg)) ++ strs 8).length + sb_dg ((M.2.1 p1.toNatClampNeg 4).toNatClampNeg)) b17.2.2.2 ≤ 1776; omega) ?_
        obtain ⟨X18, A18, b18, e18, hL18⟩ := LK.int (G := (va_up G 0 M)) hL17 hq18 g18a g18b g18c
        refine j_world h (congrArg _ e18) ?_
        have hB18 : ((((((((([] : List Nat) ++ digs ((M.2.1 p1.toNatClampNeg 0).toNatClampNeg)) ++ [45]) ++ digs ((M.2.1 p1.toNatClampNeg 1).toNatClampNeg)) ++ strs 5) ++ strs 7) ++ digs ((M.2.1 p1.toNatClampNeg 2).toNatClampNeg)) ++ strs 8) ++ digs ((M.2.1 p1.toNatClampNeg 4).toNatClampNeg)).length ≤ 17 := by rw [List.length_append, digs_len]; have hx := dg_2 (v := (M.2.1 p1.toNatClampNeg 4).toNatClampNeg) (by omega); have := hB17; omega
        refine j_pop h dX7_describe_124 rfl ?_
        refine j_aload_n h dX7_describe_125 rfl 1 rfl ?_
        refine j_get h inlX7 (330 + 0) (ml_get 0) rfl 0 (by decide) (xr_1 19 rfl) rfl (v := .ref (L 0 0)) rfl dX7_describe_126 ?_
        refine j_iload_n h dX7_describe_129 rfl 2 rfl ?_
        refine j_iconst h (v := 1) dX7_describe_130 (by decide) ?_
        refine j_callI h (n := 2) (c_X1_woodsOn l D cy L _ _ _ _ _ (by decide) _ _ (hG).w) (xg_V (xr_33 5 rfl) (xr_33 6 rfl) (xr_33 7 rfl) (xr_1 18 rfl) (xr_33 8 rfl)) rfl rfl (by decide +kernel) ⟨Nat.le_of_ble_eq_true rfl, Nat.le_of_ble_eq_true rfl⟩ (30 * 0 + 0) (at_G (by decide)) rfl rfl rfl rfl (Nat.le_of_ble_eq_true rfl) dX7_describe_131 ⟨by decide, by decide⟩ (fun z19 u' hq => ?_)
        obtain ⟨hz19, rfl⟩ := hq
        have hly : z19 ≤ nI 8 := hz19 ▸ hW8
        refine j_widen h (k := 8 + 4 * 0) (n := 1776 + 888 * 0) (by show 8 + 0 ≤ 8; omega) (by show 1776 + 0 ≤ 1776; omega) ?_
        refine j_istore_n h (lv' := [(3, _), (2, _), (0, _), (1, _)]) dX7_describe_134 rfl (by decide) rfl ?_
        refine j_iconst h (v := 0) dX7_describe_135 (by decide) ?_
        refine j_istore h (lv' := [(4, _), (3, _), (2, _), (0, _), (1, _)]) dX7_describe_136 (by decide) rfl ?_
        have lp138 : ∀ (n k : Nat) (Tk : List Nat) (Xk : Nat → Int32) (Ak : Nat → Nat → Int32) (bk : cB), n + k = 9 → k ≤ 8 → LK X A b Tk Xk Ak bk → Tk.length ≤ 17 + 8 * k → f_X7_describe M p1 = f_X7_describe_l138 M p1 z19 n k Tk → J ((va_up G 0 M, Xk, Ak), bk) (8 + 4 * k, 1776 + 888 * k) [(0, .ref (L 11 0)), (1, .int p1), (2, .ref (L 0 (4 + p1.toNatClampNeg))), (3, .int z19), (4, .int (nI k))] 138 [] := by
          intro n
          induction n with
          | zero => intro k Tk Xk Ak bk hn hk hLk hBk hf; omega
          | succ n ih =>
            intro k Tk Xk Ak bk hn hk hLk hBk hf
            refine j_iload h dX7_describe_138 4 rfl ?_
            refine j_iload_n h dX7_describe_140 rfl 3 rfl ?_
            refine j_icmp_ge h (tgt := 164) dX7_describe_141 (by decide) (fun c20 => ?_) (fun c20 => ?_)
            · refine j_aload_n h dX7_describe_164 rfl 0 rfl ?_
              refine j_get h inlX7 (330 + 0) (ml_get 0) rfl 8 (by decide) (xr_2 15 rfl) rfl (v := .ref (L 11 10)) rfl dX7_describe_165 ?_
              refine j_world h (u' := putL (va_up G 0 M) Xk Ak bk (Xk 10, nI Tk.length, bk.2.2.1, bk.2.2.2, Ak 5)) (lensL_eq hLk.2.2.2.2.1) ?_
              refine j_callI h (n := 0) (c_J4_length_8abf5 l D cy (lensL (va_up G 0 M) Xk Ak bk) (Xk 10) (nI Tk.length) bk.2.2.1 bk.2.2.2 (Ak 5)) (xg_V (xr_12 6 rfl) (xr_12 7 rfl) (xr_12 8 rfl) (xr_2 4 rfl) (xr_12 9 rfl)) rfl rfl (by decide +kernel) ⟨Nat.le_of_ble_eq_true rfl, Nat.le_of_ble_eq_true rfl⟩ (330 + 10) ((lensL (va_up G 0 M) Xk Ak bk).2.1 _) rfl rfl rfl rfl (Nat.le_of_ble_eq_true rfl) dX7_describe_168 ⟨by show 8 + 4 * k + 0 ≤ 40; omega, by show 1776 + 888 * k + 0 ≤ 8880; omega⟩ (fun r u' hq => ?_)
              obtain ⟨rfl, rfl⟩ := hq
              refine j_world h (u' := ((va_up G 0 M, Xk, Ak), bk)) (lensL_eq hLk.2.2.2.2.1).symm ?_
              refine j_widen h (k := 40) (n := 8880) (by show 8 + 4 * k ≤ 40; omega) (by show 1776 + 888 * k ≤ 8880; omega) ?_
              exact hR _ _ _ _ dX7_describe_171 ⟨(_, _), Eq.symm (hf.trans ((ite_p c20 rfl))), rfl, Or.inr ⟨hz1 ▸ c2, _, _, _, rfl, hLk⟩⟩
            · have hk1 : k < 8 := cnt_lt (by decide) hk hly c20
              refine j_aload_n h dX7_describe_144 rfl 0 rfl ?_
              refine j_aload_n h dX7_describe_145 rfl 0 rfl ?_
              refine j_get h inlX7 (330 + 0) (ml_get 0) rfl 0 (by decide) (xr_1 19 rfl) rfl (v := .ref (L 0 0)) rfl dX7_describe_146 ?_
              refine j_iload_n h dX7_describe_149 rfl 1 rfl ?_
              refine j_iload h dX7_describe_150 4 rfl ?_
              refine j_callI h (n := 2) (c_X1_woodInOrder l D cy L _ _ _ _ _ (by decide) _ _ (hG).w) (xg_V (xr_37 0 rfl) (xr_37 1 rfl) (xr_37 2 rfl) (xr_1 18 rfl) (xr_37 3 rfl)) rfl rfl (by decide +kernel) ⟨Nat.le_of_ble_eq_true rfl, Nat.le_of_ble_eq_true rfl⟩ (30 * 0 + 0) (at_G (by decide)) rfl rfl rfl rfl (Nat.le_of_ble_eq_true rfl) dX7_describe_152 ⟨by show 8 + 4 * k + 0 ≤ 40; omega, by show 1776 + 888 * k + 0 ≤ 8880; omega⟩ (fun z21 u' hq => ?_)
              obtain ⟨hz21, rfl⟩ := hq
              have hq22 : Tk.length ≤ 102 := by have := hBk; omega
              refine j_callV h (n := 1) (c_X7_writeWood l D cy L _ _ _ _ _ _ Tk _ _ _ hLk hq22 hG hDs) (xg_V (xr_37 8 rfl) (xr_37 9 rfl) (xr_37 10 rfl) (xr_1 2 rfl) (xr_37 11 rfl)) rfl rfl (by decide +kernel) ⟨Nat.le_of_ble_eq_true rfl, Nat.le_of_ble_eq_true rfl⟩ (330 + 0) (ml_get 0) rfl rfl rfl rfl (Nat.le_of_ble_eq_true rfl) dX7_describe_155 ⟨by show 8 + 4 * k + 0 + 4 ≤ 40; omega, by show 1776 + 888 * k + 0 + 888 ≤ 8880; omega⟩ (fun u' hq => ?_)
              obtain ⟨z22, hz22, X22, A22, b22, rfl, hL22, hl22⟩ := hq
              refine j_widen h (k := 8 + 4 * (k + 1)) (n := 1776 + 888 * (k + 1)) (by show 8 + 4 * k + 0 + 4 ≤ _; omega) (by show 1776 + 888 * k + 0 + 888 ≤ _; omega) ?_
              have hB22 : z22.length ≤ 17 + 8 * (k + 1) := by have := hBk; omega
              refine j_iinc h (v := nI (k + 1)) (lv' := [(4, _), (0, _), (1, _), (2, _), (3, _)]) dX7_describe_158 (k := 4) rfl (nI_1 k) (by decide) rfl ?_
              refine j_goto h (tgt := 138) dX7_describe_161 (by decide) ?_
              refine j_sub h [1, 2, 3, 4, 0] rfl ?_
              exact ih (k + 1) _ _ _ _ (by omega) (by omega) hL22 hB22 (hf.trans ((ite_n c20 (bd_eq hz21 (bd_eq hz22 rfl)))))
        refine j_sub h [3, 4, 2, 1, 0] rfl ?_
        exact lp138 9 0 _ _ _ _ (by omega) (by omega) hL18 (by have := hB18; omega) ((bd_eq hz1 (ite_n c2 (ite_n c8 (bd_eq hz11 (ite_n c12 (bd_eq hz19 rfl)))))))
    · refine j_aload_n h dX7_describe_68 rfl 1 rfl ?_
      refine j_get h inlX7 (330 + 0) (ml_get 0) rfl 8 (by decide) (xr_2 15 rfl) rfl (v := .ref (L 11 10)) rfl dX7_describe_69 ?_
      refine j_ldcwS h (i := 6) rfl dX7_describe_72 ?_
      refine j_world h (u' := putL (va_up G 0 M) X7 A7 b7 (X7 10, nI ((((([] : List Nat) ++ digs ((M.2.1 p1.toNatClampNeg 0).toNatClampNeg)) ++ [45]) ++ digs ((M.2.1 p1.toNatClampNeg 1).toNatClampNeg)) ++ strs 5).length, b7.2.2.1, b7.2.2.2, A7 5)) (lensL_eq hL7.2.2.2.2.1) ?_
      have hc23 := c_J4_append_15ec4 l D cy (lensL (cy := cy) (L := L) (va_up G 0 M) X7 A7 b7) (X7 10) (n := ((((([] : List Nat) ++ digs ((M.2.1 p1.toNatClampNeg 0).toNatClampNeg)) ++ [45]) ++ digs ((M.2.1 p1.toNatClampNeg 1).toNatClampNeg)) ++ strs 5).length) b7.2.2.1 (m := b7.2.2.2) (f := A7 5) (i := 6) (by decide) hL7.2.2.2.2.2.1 hL7.2.2.2.2.2.2.1 hL7.2.2.2.2.2.2.2.1
      have hq23 : (((((([] : List Nat) ++ digs ((M.2.1 p1.toNatClampNeg 0).toNatClampNeg)) ++ [45]) ++ digs ((M.2.1 p1.toNatClampNeg 1).toNatClampNeg)) ++ strs 5).length + lenS.getD 6 0) ≤ 110 := by have hx : lenS.getD 6 0 = 3 := rfl; have := hB7; omega
      refine j_callA h (n := 1) hc23 (xg_V (xr_35 14 rfl) (xr_35 15 rfl) (xr_35 16 rfl) (xr_2 4 rfl) (xr_35 17 rfl)) rfl rfl (by decide +kernel) ⟨Nat.le_of_ble_eq_true rfl, Nat.le_of_ble_eq_true rfl⟩ (330 + 10) ((lensL (va_up G 0 M) X7 A7 b7).2.1 _) rfl rfl rfl rfl (Nat.le_of_ble_eq_true rfl) dX7_describe_75 ⟨by have := kE_le (((((([] : List Nat) ++ digs ((M.2.1 p1.toNatClampNeg 0).toNatClampNeg)) ++ [45]) ++ digs ((M.2.1 p1.toNatClampNeg 1).toNatClampNeg)) ++ strs 5).length + lenS.getD 6 0) b7.2.2.2; show 4 + kE (((((([] : List Nat) ++ digs ((M.2.1 p1.toNatClampNeg 0).toNatClampNeg)) ++ [45]) ++ digs ((M.2.1 p1.toNatClampNeg 1).toNatClampNeg)) ++ strs 5).length + lenS.getD 6 0) b7.2.2.2 ≤ 40; omega, by have := sE_le (m := b7.2.2.2) hq23; show 888 + sE (((((([] : List Nat) ++ digs ((M.2.1 p1.toNatClampNeg 0).toNatClampNeg)) ++ [45]) ++ digs ((M.2.1 p1.toNatClampNeg 1).toNatClampNeg)) ++ strs 5).length + lenS.getD 6 0) b7.2.2.2 ≤ 8880; omega⟩ (fun r u' hq => ?_)
      obtain ⟨rfl, a23, f23, rfl, g23a, g23b, g23c⟩ := hq
      refine j_widen h (k := 5) (n := 1110) (by have := kE_le (((((([] : List Nat) ++ digs ((M.2.1 p1.toNatClampNeg 0).toNatClampNeg)) ++ [45]) ++ digs ((M.2.1 p1.toNatClampNeg 1).toNatClampNeg)) ++ strs 5).length + lenS.getD 6 0) b7.2.2.2; show 4 + kE (((((([] : List Nat) ++ digs ((M.2.1 p1.toNatClampNeg 0).toNatClampNeg)) ++ [45]) ++ digs ((M.2.1 p1.toNatClampNeg 1).toNatClampNeg)) ++ strs 5).length + lenS.getD 6 0) b7.2.2.2 ≤ 5; omega) (by have := sE_le (m := b7.2.2.2) hq23; show 888 + sE (((((([] : List Nat) ++ digs ((M.2.1 p1.toNatClampNeg 0).toNatClampNeg)) ++ [45]) ++ digs ((M.2.1 p1.toNatClampNeg 1).toNatClampNeg)) ++ strs 5).length + lenS.getD 6 0) b7.2.2.2 ≤ 1110; omega) ?_
      obtain ⟨X23, A23, b23, e23, hL23⟩ := LK.str (G := (va_up G 0 M)) hL7 (i := 6) (by decide) hq23 g23a g23b g23c
      refine j_world h (congrArg _ e23) ?_
      have hB23 : (((((([] : List Nat) ++ digs ((M.2.1 p1.toNatClampNeg 0).toNatClampNeg)) ++ [45]) ++ digs ((M.2.1 p1.toNatClampNeg 1).toNatClampNeg)) ++ strs 5) ++ strs 6).length ≤ 10 := by rw [List.length_append, strs_len]; have hx : lenS.getD 6 0 = 3 := rfl; have := hB7; omega
      refine j_pop h dX7_describe_78 rfl ?_
      refine j_goto h (tgt := 100) dX7_describe_79 (by decide) ?_
      refine j_aload_n h dX7_describe_100 rfl 0 rfl ?_
      refine j_callI h (n := 0) (c_X5_isPlayed l D cy L _ _ _ _ _ (by decide) (by omega)) (xg_V (xr_21 10 rfl) (xr_9 23 rfl) (xr_10 0 rfl) (xr_2 23 rfl) (xr_10 1 rfl)) rfl rfl (by decide +kernel) ⟨Nat.le_of_ble_eq_true rfl, Nat.le_of_ble_eq_true rfl⟩ (30 * 0 + (4 + p1.toNatClampNeg)) (at_R (by decide) (by omega)) rfl rfl rfl rfl (Nat.le_of_ble_eq_true rfl) dX7_describe_101 ⟨by decide, by decide⟩ (fun z24 u' hq => ?_)
      obtain ⟨hz24, rfl, bz24⟩ := hq
      refine j_if_eq h (tgt := 125) dX7_describe_104 (by decide) (fun c25 => ?_) (fun c25 => ?_)
      · refine j_aload_n h dX7_describe_125 rfl 1 rfl ?_
        refine j_get h inlX7 (330 + 0) (ml_get 0) rfl 0 (by decide) (xr_1 19 rfl) rfl (v := .ref (L 0 0)) rfl dX7_describe_126 ?_
        refine j_iload_n h dX7_describe_129 rfl 2 rfl ?_
        refine j_iconst h (v := 1) dX7_describe_130 (by decide) ?_
        refine j_callI h (n := 2) (c_X1_woodsOn l D cy L _ _ _ _ _ (by decide) _ _ (hG).w) (xg_V (xr_33 5 rfl) (xr_33 6 rfl) (xr_33 7 rfl) (xr_1 18 rfl) (xr_33 8 rfl)) rfl rfl (by decide +kernel) ⟨Nat.le_of_ble_eq_true rfl, Nat.le_of_ble_eq_true rfl⟩ (30 * 0 + 0) (at_G (by decide)) rfl rfl rfl rfl (Nat.le_of_ble_eq_true rfl) dX7_describe_131 ⟨by decide, by decide⟩ (fun z26 u' hq => ?_)
        obtain ⟨hz26, rfl⟩ := hq
        have hly : z26 ≤ nI 8 := hz26 ▸ hW8
        refine j_widen h (k := 8 + 4 * 0) (n := 1776 + 888 * 0) (by show 5 + 0 ≤ 8; omega) (by show 1110 + 0 ≤ 1776; omega) ?_
        refine j_istore_n h (lv' := [(3, _), (2, _), (0, _), (1, _)]) dX7_describe_134 rfl (by decide) rfl ?_
        refine j_iconst h (v := 0) dX7_describe_135 (by decide) ?_
        refine j_istore h (lv' := [(4, _), (3, _), (2, _), (0, _), (1, _)]) dX7_describe_136 (by decide) rfl ?_
        have lp138 : ∀ (n k : Nat) (Tk : List Nat) (Xk : Nat → Int32) (Ak : Nat → Nat → Int32) (bk : cB), n + k = 9 → k ≤ 8 → LK X A b Tk Xk Ak bk → Tk.length ≤ 17 + 8 * k → f_X7_describe M p1 = f_X7_describe_l138 M p1 z26 n k Tk → J ((va_up G 0 M, Xk, Ak), bk) (8 + 4 * k, 1776 + 888 * k) [(0, .ref (L 11 0)), (1, .int p1), (2, .ref (L 0 (4 + p1.toNatClampNeg))), (3, .int z26), (4, .int (nI k))] 138 [] := by
          intro n
          induction n with
          | zero => intro k Tk Xk Ak bk hn hk hLk hBk hf; omega
          | succ n ih =>
            intro k Tk Xk Ak bk hn hk hLk hBk hf
            refine j_iload h dX7_describe_138 4 rfl ?_
            refine j_iload_n h dX7_describe_140 rfl 3 rfl ?_
            refine j_icmp_ge h (tgt := 164) dX7_describe_141 (by decide) (fun c27 => ?_) (fun c27 => ?_)
            · refine j_aload_n h dX7_describe_164 rfl 0 rfl ?_
              refine j_get h inlX7 (330 + 0) (ml_get 0) rfl 8 (by decide) (xr_2 15 rfl) rfl (v := .ref (L 11 10)) rfl dX7_describe_165 ?_
              refine j_world h (u' := putL (va_up G 0 M) Xk Ak bk (Xk 10, nI Tk.length, bk.2.2.1, bk.2.2.2, Ak 5)) (lensL_eq hLk.2.2.2.2.1) ?_
              refine j_callI h (n := 0) (c_J4_length_8abf5 l D cy (lensL (va_up G 0 M) Xk Ak bk) (Xk 10) (nI Tk.length) bk.2.2.1 bk.2.2.2 (Ak 5)) (xg_V (xr_12 6 rfl) (xr_12 7 rfl) (xr_12 8 rfl) (xr_2 4 rfl) (xr_12 9 rfl)) rfl rfl (by decide +kernel) ⟨Nat.le_of_ble_eq_true rfl, Nat.le_of_ble_eq_true rfl⟩ (330 + 10) ((lensL (va_up G 0 M) Xk Ak bk).2.1 _) rfl rfl rfl rfl (Nat.le_of_ble_eq_true rfl) dX7_describe_168 ⟨by show 8 + 4 * k + 0 ≤ 40; omega, by show 1776 + 888 * k + 0 ≤ 8880; omega⟩ (fun r u' hq => ?_)
              obtain ⟨rfl, rfl⟩ := hq
              refine j_world h (u' := ((va_up G 0 M, Xk, Ak), bk)) (lensL_eq hLk.2.2.2.2.1).symm ?_
              refine j_widen h (k := 40) (n := 8880) (by show 8 + 4 * k ≤ 40; omega) (by show 1776 + 888 * k ≤ 8880; omega) ?_
              exact hR _ _ _ _ dX7_describe_171 ⟨(_, _), Eq.symm (hf.trans ((ite_p c27 rfl))), rfl, Or.inr ⟨hz1 ▸ c2, _, _, _, rfl, hLk⟩⟩
            · have hk1 : k < 8 := cnt_lt (by decide) hk hly c27
              refine j_aload_n h dX7_describe_144 rfl 0 rfl ?_
              refine j_aload_n h dX7_describe_145 rfl 0 rfl ?_
              refine j_get h inlX7 (330 + 0) (ml_get 0) rfl 0 (by decide) (xr_1 19 rfl) rfl (v := .ref (L 0 0)) rfl dX7_describe_146 ?_
              refine j_iload_n h dX7_describe_149 rfl 1 rfl ?_
              refine j_iload h dX7_describe_150 4 rfl ?_
              refine j_callI h (n := 2) (c_X1_woodInOrder l D cy L _ _ _ _ _ (by decide) _ _ (hG).w) (xg_V (xr_37 0 rfl) (xr_37 1 rfl) (xr_37 2 rfl) (xr_1 18 rfl) (xr_37 3 rfl)) rfl rfl (by decide +kernel) ⟨Nat.le_of_ble_eq_true rfl, Nat.le_of_ble_eq_true rfl⟩ (30 * 0 + 0) (at_G (by decide)) rfl rfl rfl rfl (Nat.le_of_ble_eq_true rfl) dX7_describe_152 ⟨by show 8 + 4 * k + 0 ≤ 40; omega, by show 1776 + 888 * k + 0 ≤ 8880; omega⟩ (fun z28 u' hq => ?_)
              obtain ⟨hz28, rfl⟩ := hq
              have hq29 : Tk.length ≤ 102 := by have := hBk; omega
              refine j_callV h (n := 1) (c_X7_writeWood l D cy L _ _ _ _ _ _ Tk _ _ _ hLk hq29 hG hDs) (xg_V (xr_37 8 rfl) (xr_37 9 rfl) (xr_37 10 rfl) (xr_1 2 rfl) (xr_37 11 rfl)) rfl rfl (by decide +kernel) ⟨Nat.le_of_ble_eq_true rfl, Nat.le_of_ble_eq_true rfl⟩ (330 + 0) (ml_get 0) rfl rfl rfl rfl (Nat.le_of_ble_eq_true rfl) dX7_describe_155 ⟨by show 8 + 4 * k + 0 + 4 ≤ 40; omega, by show 1776 + 888 * k + 0 + 888 ≤ 8880; omega⟩ (fun u' hq => ?_)
              obtain ⟨z29, hz29, X29, A29, b29, rfl, hL29, hl29⟩ := hq
              refine j_widen h (k := 8 + 4 * (k + 1)) (n := 1776 + 888 * (k + 1)) (by show 8 + 4 * k + 0 + 4 ≤ _; omega) (by show 1776 + 888 * k + 0 + 888 ≤ _; omega) ?_
              have hB29 : z29.length ≤ 17 + 8 * (k + 1) := by have := hBk; omega
              refine j_iinc h (v := nI (k + 1)) (lv' := [(4, _), (0, _), (1, _), (2, _), (3, _)]) dX7_describe_158 (k := 4) rfl (nI_1 k) (by decide) rfl ?_
              refine j_goto h (tgt := 138) dX7_describe_161 (by decide) ?_
              refine j_sub h [1, 2, 3, 4, 0] rfl ?_
              exact ih (k + 1) _ _ _ _ (by omega) (by omega) hL29 hB29 (hf.trans ((ite_n c27 (bd_eq hz28 (bd_eq hz29 rfl)))))
        refine j_sub h [3, 4, 2, 1, 0] rfl ?_
        exact lp138 9 0 _ _ _ _ (by omega) (by omega) hL23 (by have := hB23; omega) ((bd_eq hz1 (ite_n c2 (ite_p c8 (bd_eq hz24 (ite_p c25 (bd_eq hz26 rfl)))))))
      · refine j_aload_n h dX7_describe_107 rfl 1 rfl ?_
        refine j_get h inlX7 (330 + 0) (ml_get 0) rfl 8 (by decide) (xr_2 15 rfl) rfl (v := .ref (L 11 10)) rfl dX7_describe_108 ?_
        refine j_ldcwS h (i := 8) rfl dX7_describe_111 ?_
        refine j_world h (u' := putL (va_up G 0 M) X23 A23 b23 (X23 10, nI (((((([] : List Nat) ++ digs ((M.2.1 p1.toNatClampNeg 0).toNatClampNeg)) ++ [45]) ++ digs ((M.2.1 p1.toNatClampNeg 1).toNatClampNeg)) ++ strs 5) ++ strs 6).length, b23.2.2.1, b23.2.2.2, A23 5)) (lensL_eq hL23.2.2.2.2.1) ?_
        have hc30 := c_J4_append_15ec4 l D cy (lensL (cy := cy) (L := L) (va_up G 0 M) X23 A23 b23) (X23 10) (n := (((((([] : List Nat) ++ digs ((M.2.1 p1.toNatClampNeg 0).toNatClampNeg)) ++ [45]) ++ digs ((M.2.1 p1.toNatClampNeg 1).toNatClampNeg)) ++ strs 5) ++ strs 6).length) b23.2.2.1 (m := b23.2.2.2) (f := A23 5) (i := 8) (by decide) hL23.2.2.2.2.2.1 hL23.2.2.2.2.2.2.1 hL23.2.2.2.2.2.2.2.1
        have hq30 : ((((((([] : List Nat) ++ digs ((M.2.1 p1.toNatClampNeg 0).toNatClampNeg)) ++ [45]) ++ digs ((M.2.1 p1.toNatClampNeg 1).toNatClampNeg)) ++ strs 5) ++ strs 6).length + lenS.getD 8 0) ≤ 110 := by have hx : lenS.getD 8 0 = 2 := rfl; have := hB23; omega
        refine j_callA h (n := 1) hc30 (xg_V (xr_35 14 rfl) (xr_35 15 rfl) (xr_35 16 rfl) (xr_2 4 rfl) (xr_35 17 rfl)) rfl rfl (by decide +kernel) ⟨Nat.le_of_ble_eq_true rfl, Nat.le_of_ble_eq_true rfl⟩ (330 + 10) ((lensL (va_up G 0 M) X23 A23 b23).2.1 _) rfl rfl rfl rfl (Nat.le_of_ble_eq_true rfl) dX7_describe_114 ⟨by have := kE_le ((((((([] : List Nat) ++ digs ((M.2.1 p1.toNatClampNeg 0).toNatClampNeg)) ++ [45]) ++ digs ((M.2.1 p1.toNatClampNeg 1).toNatClampNeg)) ++ strs 5) ++ strs 6).length + lenS.getD 8 0) b23.2.2.2; show 5 + kE ((((((([] : List Nat) ++ digs ((M.2.1 p1.toNatClampNeg 0).toNatClampNeg)) ++ [45]) ++ digs ((M.2.1 p1.toNatClampNeg 1).toNatClampNeg)) ++ strs 5) ++ strs 6).length + lenS.getD 8 0) b23.2.2.2 ≤ 40; omega, by have := sE_le (m := b23.2.2.2) hq30; show 1110 + sE ((((((([] : List Nat) ++ digs ((M.2.1 p1.toNatClampNeg 0).toNatClampNeg)) ++ [45]) ++ digs ((M.2.1 p1.toNatClampNeg 1).toNatClampNeg)) ++ strs 5) ++ strs 6).length + lenS.getD 8 0) b23.2.2.2 ≤ 8880; omega⟩ (fun r u' hq => ?_)
        obtain ⟨rfl, a30, f30, rfl, g30a, g30b, g30c⟩ := hq
        refine j_widen h (k := 6) (n := 1332) (by have := kE_le ((((((([] : List Nat) ++ digs ((M.2.1 p1.toNatClampNeg 0).toNatClampNeg)) ++ [45]) ++ digs ((M.2.1 p1.toNatClampNeg 1).toNatClampNeg)) ++ strs 5) ++ strs 6).length + lenS.getD 8 0) b23.2.2.2; show 5 + kE ((((((([] : List Nat) ++ digs ((M.2.1 p1.toNatClampNeg 0).toNatClampNeg)) ++ [45]) ++ digs ((M.2.1 p1.toNatClampNeg 1).toNatClampNeg)) ++ strs 5) ++ strs 6).length + lenS.getD 8 0) b23.2.2.2 ≤ 6; omega) (by have := sE_le (m := b23.2.2.2) hq30; show 1110 + sE ((((((([] : List Nat) ++ digs ((M.2.1 p1.toNatClampNeg 0).toNatClampNeg)) ++ [45]) ++ digs ((M.2.1 p1.toNatClampNeg 1).toNatClampNeg)) ++ strs 5) ++ strs 6).length + lenS.getD 8 0) b23.2.2.2 ≤ 1332; omega) ?_
        obtain ⟨X30, A30, b30, e30, hL30⟩ := LK.str (G := (va_up G 0 M)) hL23 (i := 8) (by decide) hq30 g30a g30b g30c
        refine j_world h (congrArg _ e30) ?_
        have hB30 : ((((((([] : List Nat) ++ digs ((M.2.1 p1.toNatClampNeg 0).toNatClampNeg)) ++ [45]) ++ digs ((M.2.1 p1.toNatClampNeg 1).toNatClampNeg)) ++ strs 5) ++ strs 6) ++ strs 8).length ≤ 12 := by rw [List.length_append, strs_len]; have hx : lenS.getD 8 0 = 2 := rfl; have := hB23; omega
        refine j_aload_n h dX7_describe_117 rfl 0 rfl ?_
        refine j_get h inlX5 (30 * 0 + (4 + p1.toNatClampNeg)) (at_R (by decide) (by omega)) rfl 4 (by decide) (xr_21 3 rfl) rfl (v := .int (M.2.1 p1.toNatClampNeg 4)) rfl dX7_describe_118 ?_
        refine j_world h (u' := putL (va_up G 0 M) X30 A30 b30 (X30 10, nI ((((((([] : List Nat) ++ digs ((M.2.1 p1.toNatClampNeg 0).toNatClampNeg)) ++ [45]) ++ digs ((M.2.1 p1.toNatClampNeg 1).toNatClampNeg)) ++ strs 5) ++ strs 6) ++ strs 8).length, b30.2.2.1, b30.2.2.2, A30 5)) (lensL_eq hL30.2.2.2.2.1) ?_
        have hc31 := c_J4_append_bf812 l D cy (lensL (cy := cy) (L := L) (va_up G 0 M) X30 A30 b30) (X30 10) (n := ((((((([] : List Nat) ++ digs ((M.2.1 p1.toNatClampNeg 0).toNatClampNeg)) ++ [45]) ++ digs ((M.2.1 p1.toNatClampNeg 1).toNatClampNeg)) ++ strs 5) ++ strs 6) ++ strs 8).length) b30.2.2.1 (m := b30.2.2.2) (f := A30 5) (v := (M.2.1 p1.toNatClampNeg 4).toNatClampNeg) (by omega) hL30.2.2.2.2.2.1 hL30.2.2.2.2.2.2.1 hL30.2.2.2.2.2.2.2.1
        rw [← show M.2.1 p1.toNatClampNeg 4 = nI ((M.2.1 p1.toNatClampNeg 4).toNatClampNeg) from hf4.1] at hc31
        have hq31 : (((((((([] : List Nat) ++ digs ((M.2.1 p1.toNatClampNeg 0).toNatClampNeg)) ++ [45]) ++ digs ((M.2.1 p1.toNatClampNeg 1).toNatClampNeg)) ++ strs 5) ++ strs 6) ++ strs 8).length + sb_dg ((M.2.1 p1.toNatClampNeg 4).toNatClampNeg)) ≤ 110 := by have hx := dg_2 (v := (M.2.1 p1.toNatClampNeg 4).toNatClampNeg) (by omega); have := hB30; omega
        refine j_callA h (n := 1) hc31 (xg_V (xr_34 4 rfl) (xr_34 5 rfl) (xr_34 6 rfl) (xr_2 4 rfl) (xr_34 7 rfl)) rfl rfl (by decide +kernel) ⟨Nat.le_of_ble_eq_true rfl, Nat.le_of_ble_eq_true rfl⟩ (330 + 10) ((lensL (va_up G 0 M) X30 A30 b30).2.1 _) rfl rfl rfl rfl (Nat.le_of_ble_eq_true rfl) dX7_describe_121 ⟨by have := kE_le (((((((([] : List Nat) ++ digs ((M.2.1 p1.toNatClampNeg 0).toNatClampNeg)) ++ [45]) ++ digs ((M.2.1 p1.toNatClampNeg 1).toNatClampNeg)) ++ strs 5) ++ strs 6) ++ strs 8).length + sb_dg ((M.2.1 p1.toNatClampNeg 4).toNatClampNeg)) b30.2.2.2; show 6 + kE (((((((([] : List Nat) ++ digs ((M.2.1 p1.toNatClampNeg 0).toNatClampNeg)) ++ [45]) ++ digs ((M.2.1 p1.toNatClampNeg 1).toNatClampNeg)) ++ strs 5) ++ strs 6) ++ strs 8).length + sb_dg ((M.2.1 p1.toNatClampNeg 4).toNatClampNeg)) b30.2.2.2 ≤ 40; omega, by have := sE_le (m := b30.2.2.2) hq31; show 1332 + sE (((((((([] : List Nat) ++ digs ((M.2.1 p1.toNatClampNeg 0).toNatClampNeg)) ++ [45]) ++ digs ((M.2.1 p1.toNatClampNeg 1).toNatClampNeg)) ++ strs 5) ++ strs 6) ++ strs 8).length + sb_dg ((M.2.1 p1.toNatClampNeg 4).toNatClampNeg)) b30.2.2.2 ≤ 8880; omega⟩ (fun r u' hq => ?_)
        obtain ⟨rfl, a31, f31, rfl, g31a, g31b, g31c⟩ := hq
        refine j_widen h (k := 7) (n := 1554) (by have := kE_le (((((((([] : List Nat) ++ digs ((M.2.1 p1.toNatClampNeg 0).toNatClampNeg)) ++ [45]) ++ digs ((M.2.1 p1.toNatClampNeg 1).toNatClampNeg)) ++ strs 5) ++ strs 6) ++ strs 8).length + sb_dg ((M.2.1 p1.toNatClampNeg 4).toNatClampNeg)) b30.2.2.2; show 6 + kE (((((((([] : List Nat) ++ digs ((M.2.1 p1.toNatClampNeg 0).toNatClampNeg)) ++ [45]) ++ digs ((M.2.1 p1.toNatClampNeg 1).toNatClampNeg)) ++ strs 5) ++ strs 6) ++ strs 8).length + sb_dg ((M.2.1 p1.toNatClampNeg 4).toNatClampNeg)) b30.2.2.2 ≤ 7; omega) (by have := sE_le (m := b30.2.2.2) hq31; show 1332 + sE (((((((([] : List Nat) ++ digs ((M.2.1 p1.toNatClampNeg 0).toNatClampNeg)) ++ [45]) ++ digs ((M.2.1 p1.toNatClampNeg 1).toNatClampNeg)) ++ strs 5) ++ strs 6) ++ strs 8).length + sb_dg ((M.2.1 p1.toNatClampNeg 4).toNatClampNeg)) b30.2.2.2 ≤ 1554; omega) ?_
        obtain ⟨X31, A31, b31, e31, hL31⟩ := LK.int (G := (va_up G 0 M)) hL30 hq31 g31a g31b g31c
        refine j_world h (congrArg _ e31) ?_
        have hB31 : (((((((([] : List Nat) ++ digs ((M.2.1 p1.toNatClampNeg 0).toNatClampNeg)) ++ [45]) ++ digs ((M.2.1 p1.toNatClampNeg 1).toNatClampNeg)) ++ strs 5) ++ strs 6) ++ strs 8) ++ digs ((M.2.1 p1.toNatClampNeg 4).toNatClampNeg)).length ≤ 14 := by rw [List.length_append, digs_len]; have hx := dg_2 (v := (M.2.1 p1.toNatClampNeg 4).toNatClampNeg) (by omega); have := hB30; omega
        refine j_pop h dX7_describe_124 rfl ?_
        refine j_aload_n h dX7_describe_125 rfl 1 rfl ?_
        refine j_get h inlX7 (330 + 0) (ml_get 0) rfl 0 (by decide) (xr_1 19 rfl) rfl (v := .ref (L 0 0)) rfl dX7_describe_126 ?_
        refine j_iload_n h dX7_describe_129 rfl 2 rfl ?_
        refine j_iconst h (v := 1) dX7_describe_130 (by decide) ?_
        refine j_callI h (n := 2) (c_X1_woodsOn l D cy L _ _ _ _ _ (by decide) _ _ (hG).w) (xg_V (xr_33 5 rfl) (xr_33 6 rfl) (xr_33 7 rfl) (xr_1 18 rfl) (xr_33 8 rfl)) rfl rfl (by decide +kernel) ⟨Nat.le_of_ble_eq_true rfl, Nat.le_of_ble_eq_true rfl⟩ (30 * 0 + 0) (at_G (by decide)) rfl rfl rfl rfl (Nat.le_of_ble_eq_true rfl) dX7_describe_131 ⟨by decide, by decide⟩ (fun z32 u' hq => ?_)
        obtain ⟨hz32, rfl⟩ := hq
        have hly : z32 ≤ nI 8 := hz32 ▸ hW8
        refine j_widen h (k := 8 + 4 * 0) (n := 1776 + 888 * 0) (by show 7 + 0 ≤ 8; omega) (by show 1554 + 0 ≤ 1776; omega) ?_
        refine j_istore_n h (lv' := [(3, _), (2, _), (0, _), (1, _)]) dX7_describe_134 rfl (by decide) rfl ?_
        refine j_iconst h (v := 0) dX7_describe_135 (by decide) ?_
        refine j_istore h (lv' := [(4, _), (3, _), (2, _), (0, _), (1, _)]) dX7_describe_136 (by decide) rfl ?_
        have lp138 : ∀ (n k : Nat) (Tk : List Nat) (Xk : Nat → Int32) (Ak : Nat → Nat → Int32) (bk : cB), n + k = 9 → k ≤ 8 → LK X A b Tk Xk Ak bk → Tk.length ≤ 17 + 8 * k → f_X7_describe M p1 = f_X7_describe_l138 M p1 z32 n k Tk → J ((va_up G 0 M, Xk, Ak), bk) (8 + 4 * k, 1776 + 888 * k) [(0, .ref (L 11 0)), (1, .int p1), (2, .ref (L 0 (4 + p1.toNatClampNeg))), (3, .int z32), (4, .int (nI k))] 138 [] := by
          intro n
          induction n with
          | zero => intro k Tk Xk Ak bk hn hk hLk hBk hf; omega
          | succ n ih =>
            intro k Tk Xk Ak bk hn hk hLk hBk hf
            refine j_iload h dX7_describe_138 4 rfl ?_
            refine j_iload_n h dX7_describe_140 rfl 3 rfl ?_
            refine j_icmp_ge h (tgt := 164) dX7_describe_141 (by decide) (fun c33 => ?_) (fun c33 => ?_)
            · refine j_aload_n h dX7_describe_164 rfl 0 rfl ?_
              refine j_get h inlX7 (330 + 0) (ml_get 0) rfl 8 (by decide) (xr_2 15 rfl) rfl (v := .ref (L 11 10)) rfl dX7_describe_165 ?_
              refine j_world h (u' := putL (va_up G 0 M) Xk Ak bk (Xk 10, nI Tk.length, bk.2.2.1, bk.2.2.2, Ak 5)) (lensL_eq hLk.2.2.2.2.1) ?_
              refine j_callI h (n := 0) (c_J4_length_8abf5 l D cy (lensL (va_up G 0 M) Xk Ak bk) (Xk 10) (nI Tk.length) bk.2.2.1 bk.2.2.2 (Ak 5)) (xg_V (xr_12 6 rfl) (xr_12 7 rfl) (xr_12 8 rfl) (xr_2 4 rfl) (xr_12 9 rfl)) rfl rfl (by decide +kernel) ⟨Nat.le_of_ble_eq_true rfl, Nat.le_of_ble_eq_true rfl⟩ (330 + 10) ((lensL (va_up G 0 M) Xk Ak bk).2.1 _) rfl rfl rfl rfl (Nat.le_of_ble_eq_true rfl) dX7_describe_168 ⟨by show 8 + 4 * k + 0 ≤ 40; omega, by show 1776 + 888 * k + 0 ≤ 8880; omega⟩ (fun r u' hq => ?_)
              obtain ⟨rfl, rfl⟩ := hq
              refine j_world h (u' := ((va_up G 0 M, Xk, Ak), bk)) (lensL_eq hLk.2.2.2.2.1).symm ?_
              refine j_widen h (k := 40) (n := 8880) (by show 8 + 4 * k ≤ 40; omega) (by show 1776 + 888 * k ≤ 8880; omega) ?_
              exact hR _ _ _ _ dX7_describe_171 ⟨(_, _), Eq.symm (hf.trans ((ite_p c33 rfl))), rfl, Or.inr ⟨hz1 ▸ c2, _, _, _, rfl, hLk⟩⟩
            · have hk1 : k < 8 := cnt_lt (by decide) hk hly c33
              refine j_aload_n h dX7_describe_144 rfl 0 rfl ?_
              refine j_aload_n h dX7_describe_145 rfl 0 rfl ?_
              refine j_get h inlX7 (330 + 0) (ml_get 0) rfl 0 (by decide) (xr_1 19 rfl) rfl (v := .ref (L 0 0)) rfl dX7_describe_146 ?_
              refine j_iload_n h dX7_describe_149 rfl 1 rfl ?_
              refine j_iload h dX7_describe_150 4 rfl ?_
              refine j_callI h (n := 2) (c_X1_woodInOrder l D cy L _ _ _ _ _ (by decide) _ _ (hG).w) (xg_V (xr_37 0 rfl) (xr_37 1 rfl) (xr_37 2 rfl) (xr_1 18 rfl) (xr_37 3 rfl)) rfl rfl (by decide +kernel) ⟨Nat.le_of_ble_eq_true rfl, Nat.le_of_ble_eq_true rfl⟩ (30 * 0 + 0) (at_G (by decide)) rfl rfl rfl rfl (Nat.le_of_ble_eq_true rfl) dX7_describe_152 ⟨by show 8 + 4 * k + 0 ≤ 40; omega, by show 1776 + 888 * k + 0 ≤ 8880; omega⟩ (fun z34 u' hq => ?_)
              obtain ⟨hz34, rfl⟩ := hq
              have hq35 : Tk.length ≤ 102 := by have := hBk; omega
              refine j_callV h (n := 1) (c_X7_writeWood l D cy L _ _ _ _ _ _ Tk _ _ _ hLk hq35 hG hDs) (xg_V (xr_37 8 rfl) (xr_37 9 rfl) (xr_37 10 rfl) (xr_1 2 rfl) (xr_37 11 rfl)) rfl rfl (by decide +kernel) ⟨Nat.le_of_ble_eq_true rfl, Nat.le_of_ble_eq_true rfl⟩ (330 + 0) (ml_get 0) rfl rfl rfl rfl (Nat.le_of_ble_eq_true rfl) dX7_describe_155 ⟨by show 8 + 4 * k + 0 + 4 ≤ 40; omega, by show 1776 + 888 * k + 0 + 888 ≤ 8880; omega⟩ (fun u' hq => ?_)
              obtain ⟨z35, hz35, X35, A35, b35, rfl, hL35, hl35⟩ := hq
              refine j_widen h (k := 8 + 4 * (k + 1)) (n := 1776 + 888 * (k + 1)) (by show 8 + 4 * k + 0 + 4 ≤ _; omega) (by show 1776 + 888 * k + 0 + 888 ≤ _; omega) ?_
              have hB35 : z35.length ≤ 17 + 8 * (k + 1) := by have := hBk; omega
              refine j_iinc h (v := nI (k + 1)) (lv' := [(4, _), (0, _), (1, _), (2, _), (3, _)]) dX7_describe_158 (k := 4) rfl (nI_1 k) (by decide) rfl ?_
              refine j_goto h (tgt := 138) dX7_describe_161 (by decide) ?_
              refine j_sub h [1, 2, 3, 4, 0] rfl ?_
              exact ih (k + 1) _ _ _ _ (by omega) (by omega) hL35 hB35 (hf.trans ((ite_n c33 (bd_eq hz34 (bd_eq hz35 rfl)))))
        refine j_sub h [3, 4, 2, 1, 0] rfl ?_
        exact lp138 9 0 _ _ _ _ (by omega) (by omega) hL31 (by have := hB31; omega) ((bd_eq hz1 (ite_n c2 (ite_p c8 (bd_eq hz24 (ite_n c25 (bd_eq hz32 rfl)))))))
  · refine j_iconst h (v := (-1)) dX7_describe_11 (by decide) ?_
    refine j_widen h (k := 40) (n := 8880) (by show 0 ≤ 40; omega) (by show 0 ≤ 8880; omega) ?_
    exact hR _ _ _ _ dX7_describe_12 ⟨(_, _), Eq.symm ((bd_eq hz1 (ite_p c2 rfl))), rfl, Or.inl ⟨rfl, hz1 ▸ c2, rfl⟩⟩


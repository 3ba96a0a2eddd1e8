/-! ===== the script and the line once more ===== -/
set_option maxRecDepth 100000 in
set_option maxHeartbeats 4000000 in
theorem c_X8_script2 (l : Launch) (D : gD) (cy : Nat → ClassId) (ad : Nat → Nat) (X : Nat → Int32) (A : Nat → Nat → Int32) (hI : MI A) (hU : vp_in (X 3) 9) (hLn : vp_in (X 9) 61) : CtI l D cy (MW cy ad) yX8_script cX8_script 5 (some .int) rm_X8_script [.ref (ad 0)] (X, A) (fun rv u => ∃ z : Int32 × ((Nat → Int32) × (Nat → Nat → Int32)), z = f_X8_script X A ∧ rv = z.1 ∧ u = z.2 ∧ (z.1 = -3 ∨ MI z.2.2)) 0 0 := by
  refine m_entI cX8_script 5 (by decide) (Nat.le_of_ble_eq_true rfl) (fun J h hR => ?_)
  show J (X, A) (0, 0) [(0, .ref (ad 0))] 0 []
  refine j_aload_n h dX8_script_0 rfl 0 rfl ?_
  refine j_callV h (n := 0) (c_X8_tries l D cy ad _ _) (xg_V (xr_16 6 rfl) (xr_16 7 rfl) (xr_16 8 rfl) (xr_1 5 rfl) (xr_16 9 rfl)) rfl rfl (by decide +kernel) ⟨Nat.le_of_ble_eq_true rfl, Nat.le_of_ble_eq_true rfl⟩ 0 rfl rfl rfl rfl rfl (Nat.le_of_ble_eq_true rfl) dX8_script_1 ⟨by decide, by decide⟩ (fun u' hq => ?_)
  obtain ⟨z1, hz1, rfl⟩ := hq
  have hIz1 : MI z1 := MI_tr hI hz1
  refine j_aload_n h dX8_script_4 rfl 0 rfl ?_
  refine j_iconst h (v := 0) dX8_script_5 (by decide) ?_
  refine j_put h inlX8 tyX8 tyX8_ok nmX8 0 rfl rfl 10 (by decide) (xr_38 12 rfl) rfl rfl rfl rfl (Nat.le_of_ble_eq_true rfl) dX8_script_6 (u' := (upd X 10 0, z1)) rfl ?_
  refine j_aload_n h dX8_script_9 rfl 0 rfl ?_
  refine j_callI h (n := 0) (c_X8_isOrder l D cy ad _ _ (TI0 hLn) hIz1) (xg_V (xr_38 13 rfl) (xr_38 14 rfl) (xr_38 15 rfl) (xr_1 5 rfl) (xr_38 16 rfl)) rfl rfl (by decide +kernel) ⟨Nat.le_of_ble_eq_true rfl, Nat.le_of_ble_eq_true rfl⟩ 0 rfl rfl rfl rfl rfl (Nat.le_of_ble_eq_true rfl) dX8_script_10 ⟨by decide, by decide⟩ (fun r u' hq => ?_)
  obtain ⟨z2, hz2, rfl, rfl, bz2, qz2_0, qz2_1, qz2_2⟩ := hq
  refine j_istore_n h (lv' := [(1, _), (0, _)]) dX8_script_13 rfl (by decide) rfl ?_
  have lp14 : ∀ (n : Nat) (is : Int32) (Xk : Nat → Int32) (Ak : Nat → Nat → Int32), (62 ≤ (Xk 10).toNatClampNeg + n ∨ (is = 0 ∧ 1 ≤ n)) → TI Xk → MI Ak → FP X Xk → (∀ z : Int32 × (Nat → Int32) × (Nat → Nat → Int32), z = f_X8_script_l14 n is Xk Ak → (TI z.2.1 ∧ MI z.2.2 ∧ FP X z.2.1) → J (z.2.1, z.2.2) (0, 0) [(0, .ref (ad 0)), (1, .int z.1)] 54 []) → J (Xk, Ak) (0, 0) [(0, .ref (ad 0)), (1, .int is)] 14 [] := by
    intro n
    induction n with
    | zero => intro is Xk Ak hm hTk hMk hFk hf; exact (l1_z hTk hm).elim
    | succ n ih =>
      intro is Xk Ak hm hTk hMk hFk hf
      refine j_iload_n h dX8_script_14 rfl 1 rfl ?_
      refine j_if_eq h (tgt := 54) dX8_script_15 (by decide) (fun c3 => ?_) (fun c3 => ?_)
      · refine j_sub h [0, 1] rfl ?_
        exact hf (_, _, _) (Eq.symm ((ite_p c3 rfl))) ⟨hTk, hMk, hFk⟩
      · refine j_aload_n h dX8_script_18 rfl 0 rfl ?_
        refine j_get h inlX8 0 rfl rfl 10 (by decide) (xr_38 12 rfl) rfl (v := .int (Xk 10)) rfl dX8_script_19 ?_
        refine j_aload_n h dX8_script_22 rfl 0 rfl ?_
        refine j_get h inlX8 0 rfl rfl 9 (by decide) (xr_12 12 rfl) rfl (v := .int (Xk 9)) rfl dX8_script_23 ?_
        refine j_icmp_ge h (tgt := 54) dX8_script_26 (by decide) (fun c4 => ?_) (fun c4 => ?_)
        · refine j_sub h [0, 1] rfl ?_
          exact hf (_, _, _) (Eq.symm ((ite_n c3 (ite_p c4 rfl)))) ⟨hTk, hMk, hFk⟩
        · refine j_aload_n h dX8_script_29 rfl 0 rfl ?_
          refine j_bipush h (v := 59) dX8_script_30 (by decide) ?_
          refine j_callI h (n := 1) (c_X8_isNext l D cy ad _ _ _ hTk) (xg_V (xr_38 22 rfl) (xr_38 23 rfl) (xr_39 0 rfl) (xr_1 5 rfl) (xr_39 1 rfl)) rfl rfl (by decide +kernel) ⟨Nat.le_of_ble_eq_true rfl, Nat.le_of_ble_eq_true rfl⟩ 0 rfl rfl rfl rfl rfl (Nat.le_of_ble_eq_true rfl) dX8_script_32 ⟨by decide, by decide⟩ (fun r u' hq => ?_)
          obtain ⟨z5, hz5, rfl, rfl, bz5⟩ := hq
          have hTz5 : TI z5.2 := TI_nx hTk hz5
          have hFz5 := FY_nx hTk hz5
          refine j_if_eq h (tgt := 49) dX8_script_35 (by decide) (fun c6 => ?_) (fun c6 => ?_)
          · refine j_iconst h (v := 0) dX8_script_49 (by decide) ?_
            refine j_istore_n h (lv' := [(1, _), (0, _)]) dX8_script_50 rfl (by decide) rfl ?_
            refine j_goto h (tgt := 14) dX8_script_51 (by decide) ?_
            refine j_sub h [1, 0] rfl ?_
            exact ih _ _ _ (l1_f hTk hm c3) hTz5 hMk (FP.y hFk hFz5.1) (fun z hz hp => hf z (hz.trans (Eq.symm ((ite_n c3 (ite_n c4 (bd_eq hz5 (ite_p c6 rfl))))))) hp)
          · refine j_aload_n h dX8_script_38 rfl 0 rfl ?_
            refine j_callI h (n := 0) (c_X8_isOrder l D cy ad _ _ hTz5 hMk) (xg_V (xr_38 13 rfl) (xr_38 14 rfl) (xr_38 15 rfl) (xr_1 5 rfl) (xr_38 16 rfl)) rfl rfl (by decide +kernel) ⟨Nat.le_of_ble_eq_true rfl, Nat.le_of_ble_eq_true rfl⟩ 0 rfl rfl rfl rfl rfl (Nat.le_of_ble_eq_true rfl) dX8_script_39 ⟨by decide, by decide⟩ (fun r u' hq => ?_)
            obtain ⟨z7, hz7, rfl, rfl, bz7, qz7_0, qz7_1, qz7_2⟩ := hq
            refine j_if_eq h (tgt := 49) dX8_script_42 (by decide) (fun c8 => ?_) (fun c8 => ?_)
            · refine j_iconst h (v := 0) dX8_script_49 (by decide) ?_
              refine j_istore_n h (lv' := [(1, _), (0, _)]) dX8_script_50 rfl (by decide) rfl ?_
              refine j_goto h (tgt := 14) dX8_script_51 (by decide) ?_
              refine j_sub h [1, 0] rfl ?_
              exact ih _ _ _ (l1_t hm c3 (Nat.le_trans (hFz5.2 c6) qz7_2.2)) qz7_0 qz7_1 (FP.y (FP.y hFk hFz5.1) qz7_2) (fun z hz hp => hf z (hz.trans (Eq.symm ((ite_n c3 (ite_n c4 (bd_eq hz5 (ite_n c6 (bd_eq hz7 (ite_p c8 rfl))))))))) hp)
            · refine j_iconst h (v := 1) dX8_script_45 (by decide) ?_
              refine j_goto h (tgt := 50) dX8_script_46 (by decide) ?_
              refine j_istore_n h (lv' := [(1, _), (0, _)]) dX8_script_50 rfl (by decide) rfl ?_
              refine j_goto h (tgt := 14) dX8_script_51 (by decide) ?_
              refine j_sub h [1, 0] rfl ?_
              exact ih _ _ _ (l1_t hm c3 (Nat.le_trans (hFz5.2 c6) qz7_2.2)) qz7_0 qz7_1 (FP.y (FP.y hFk hFz5.1) qz7_2) (fun z hz hp => hf z (hz.trans (Eq.symm ((ite_n c3 (ite_n c4 (bd_eq hz5 (ite_n c6 (bd_eq hz7 (ite_n c8 rfl))))))))) hp)
  refine j_sub h [1, 0] rfl ?_
  refine lp14 63 _ _ _ (Or.inl (by omega)) qz2_0 qz2_1 (FP.y (FP.t FP.rf) qz2_2) (fun z9 hz9 hpz9 => ?_)
  refine j_iload_n h dX8_script_54 rfl 1 rfl ?_
  refine j_if_ne h (tgt := 74) dX8_script_55 (by decide) (fun c10 => ?_) (fun c10 => ?_)
  · refine j_aload_n h dX8_script_74 rfl 0 rfl ?_
    refine j_iconst h (v := 0) dX8_script_75 (by decide) ?_
    refine j_put h inlX8 tyX8 tyX8_ok nmX8 0 rfl rfl 10 (by decide) (xr_38 12 rfl) rfl rfl rfl rfl (Nat.le_of_ble_eq_true rfl) dX8_script_76 (u' := (upd z9.2.1 10 0, z9.2.2)) rfl ?_
    refine j_iconst h (v := 0) dX8_script_79 (by decide) ?_
    refine j_istore_n h (lv' := [(2, _), (0, _), (1, _)]) dX8_script_80 rfl (by decide) rfl ?_
    refine j_iconst h (v := 0) dX8_script_81 (by decide) ?_
    refine j_istore_n h (lv' := [(3, _), (2, _), (0, _), (1, _)]) dX8_script_82 rfl (by decide) rfl ?_
    refine j_iconst h (v := 1) dX8_script_83 (by decide) ?_
    refine j_istore h (lv' := [(4, _), (3, _), (2, _), (0, _), (1, _)]) dX8_script_84 (by decide) rfl ?_
    have lp86 : ∀ (n : Nat) (is : Int32) (cn : Int32) (no : Int32) (more : Int32) (Xk : Nat → Int32) (Ak : Nat → Nat → Int32), (62 ≤ (Xk 10).toNatClampNeg + n ∨ (more = 0 ∧ 1 ≤ n)) → TI Xk → MI Ak → FP X Xk → (no = -3 → vp_in (Xk 16) 3) → (∀ z : Int32 × Int32 × Int32 × Int32 × (Nat → Int32) × (Nat → Nat → Int32), z = f_X8_script_l86 n is cn no more Xk Ak → (TI z.2.2.2.2.1 ∧ MI z.2.2.2.2.2 ∧ FP X z.2.2.2.2.1 ∧ (z.2.2.1 = -3 → vp_in (z.2.2.2.2.1 16) 3)) → J (z.2.2.2.2.1, z.2.2.2.2.2) (0, 0) [(0, .ref (ad 0)), (1, .int z.1), (2, .int z.2.1), (3, .int z.2.2.1), (4, .int z.2.2.2.1)] 131 []) → J (Xk, Ak) (0, 0) [(0, .ref (ad 0)), (1, .int is), (2, .int cn), (3, .int no), (4, .int more)] 86 [] := by
      intro n
      induction n with
      | zero => intro is cn no more Xk Ak hm hTk hMk hFk hDk hf; exact (l1_z hTk hm).elim
      | succ n ih =>
        intro is cn no more Xk Ak hm hTk hMk hFk hDk hf
        refine j_iload h dX8_script_86 4 rfl ?_
        refine j_if_eq h (tgt := 131) dX8_script_88 (by decide) (fun c11 => ?_) (fun c11 => ?_)
        · refine j_sub h [0, 1, 2, 3, 4] rfl ?_
          exact hf (_, _, _, _, _, _) (Eq.symm ((ite_p c11 rfl))) ⟨hTk, hMk, hFk, hDk⟩
        · refine j_aload_n h dX8_script_91 rfl 0 rfl ?_
          refine j_callI h (n := 0) (c_X8_isOrder l D cy ad _ _ hTk hMk) (xg_V (xr_38 13 rfl) (xr_38 14 rfl) (xr_38 15 rfl) (xr_1 5 rfl) (xr_38 16 rfl)) rfl rfl (by decide +kernel) ⟨Nat.le_of_ble_eq_true rfl, Nat.le_of_ble_eq_true rfl⟩ 0 rfl rfl rfl rfl rfl (Nat.le_of_ble_eq_true rfl) dX8_script_92 ⟨by decide, by decide⟩ (fun r u' hq => ?_)
          obtain ⟨z12, hz12, rfl, rfl, bz12, qz12_0, qz12_1, qz12_2⟩ := hq
          refine j_istore_n h (lv' := [(1, _), (0, _), (2, _), (3, _), (4, _)]) dX8_script_95 rfl (by decide) rfl ?_
          refine j_aload_n h dX8_script_96 rfl 1 rfl ?_
          refine j_callI h (n := 0) (c_X8_carries l D cy ad _ _ qz12_1) (xg_V (xr_39 7 rfl) (xr_39 8 rfl) (xr_39 9 rfl) (xr_1 5 rfl) (xr_39 10 rfl)) rfl rfl (by decide +kernel) ⟨Nat.le_of_ble_eq_true rfl, Nat.le_of_ble_eq_true rfl⟩ 0 rfl rfl rfl rfl rfl (Nat.le_of_ble_eq_true rfl) dX8_script_97 ⟨by decide, by decide⟩ (fun r u' hq => ?_)
          obtain ⟨z13, hz13, rfl, rfl, qz13_0, qz13_1, qz13_2⟩ := hq
          have hTz13 : TI z13.2.1 := TI.fx qz12_0 qz13_2
          refine j_istore_n h (lv' := [(3, _), (1, _), (0, _), (2, _), (4, _)]) dX8_script_100 rfl (by decide) rfl ?_
          refine j_iload_n h dX8_script_101 rfl 0 rfl ?_
          refine j_if_ne h (tgt := 108) dX8_script_102 (by decide) (fun c14 => ?_) (fun c14 => ?_)
          · refine j_iload_n h dX8_script_108 rfl 0 rfl ?_
            refine j_if_ne h (tgt := 125) dX8_script_109 (by decide) (fun _ => ?_) (fun c15 => absurd c15 c14)
            refine j_iconst h (v := 0) dX8_script_125 (by decide) ?_
            refine j_istore h (lv' := [(4, _), (3, _), (1, _), (0, _), (2, _)]) dX8_script_126 (by decide) rfl ?_
            refine j_goto h (tgt := 86) dX8_script_128 (by decide) ?_
            refine j_sub h [3, 2, 4, 1, 0] rfl ?_
            exact ih _ _ _ _ _ _ (l1_f hTk hm c11) hTz13 qz13_0 (FP.x (FP.y hFk qz12_2) qz13_2) qz13_1 (fun z hz hp => hf z (hz.trans (Eq.symm ((ite_n c11 (bd_eq hz12 (bd_eq hz13 (ite_n c14 rfl))))))) hp)
          · refine j_iinc h (v := cn + 1) (lv' := [(2, _), (3, _), (1, _), (0, _), (4, _)]) dX8_script_105 (k := 3) rfl rfl (by decide) rfl ?_
            refine j_iload_n h dX8_script_108 rfl 1 rfl ?_
            refine j_if_ne h (tgt := 125) dX8_script_109 (by decide) (fun c16 => absurd c14 c16) (fun _ => ?_)
            refine j_aload_n h dX8_script_112 rfl 3 rfl ?_
            refine j_bipush h (v := 59) dX8_script_113 (by decide) ?_
            refine j_callI h (n := 1) (c_X8_isNext l D cy ad _ _ _ hTz13) (xg_V (xr_38 22 rfl) (xr_38 23 rfl) (xr_39 0 rfl) (xr_1 5 rfl) (xr_39 1 rfl)) rfl rfl (by decide +kernel) ⟨Nat.le_of_ble_eq_true rfl, Nat.le_of_ble_eq_true rfl⟩ 0 rfl rfl rfl rfl rfl (Nat.le_of_ble_eq_true rfl) dX8_script_115 ⟨by decide, by decide⟩ (fun r u' hq => ?_)
            obtain ⟨z17, hz17, rfl, rfl, bz17⟩ := hq
            have hTz17 : TI z17.2 := TI_nx hTz13 hz17
            have hFz17 := FY_nx hTz13 hz17
            refine j_if_eq h (tgt := 125) dX8_script_118 (by decide) (fun c18 => ?_) (fun c18 => ?_)
            · refine j_iconst h (v := 0) dX8_script_125 (by decide) ?_
              refine j_istore h (lv' := [(4, _), (2, _), (3, _), (1, _), (0, _)]) dX8_script_126 (by decide) rfl ?_
              refine j_goto h (tgt := 86) dX8_script_128 (by decide) ?_
              refine j_sub h [4, 3, 1, 2, 0] rfl ?_
              exact ih _ _ _ _ _ _ (l1_f hTk hm c11) hTz17 qz13_0 (FP.y (FP.x (FP.y hFk qz12_2) qz13_2) hFz17.1) (hD_y qz13_1 hFz17.1) (fun z hz hp => hf z (hz.trans (Eq.symm ((ite_n c11 (bd_eq hz12 (bd_eq hz13 (ite_p c14 (bd_eq hz17 (ite_p c18 rfl))))))))) hp)
            · refine j_iconst h (v := 1) dX8_script_121 (by decide) ?_
              refine j_goto h (tgt := 126) dX8_script_122 (by decide) ?_
              refine j_istore h (lv' := [(4, _), (2, _), (3, _), (1, _), (0, _)]) dX8_script_126 (by decide) rfl ?_
              refine j_goto h (tgt := 86) dX8_script_128 (by decide) ?_
              refine j_sub h [4, 3, 1, 2, 0] rfl ?_
              exact ih _ _ _ _ _ _ (l1_t hm c11 (l2_le qz12_2.2 qz13_2 (hFz17.2 c18))) hTz17 qz13_0 (FP.y (FP.x (FP.y hFk qz12_2) qz13_2) hFz17.1) (hD_y qz13_1 hFz17.1) (fun z hz hp => hf z (hz.trans (Eq.symm ((ite_n c11 (bd_eq hz12 (bd_eq hz13 (ite_p c14 (bd_eq hz17 (ite_n c18 rfl))))))))) hp)
    refine j_sub h [3, 4, 2, 1, 0] rfl ?_
    refine lp86 63 _ _ _ _ _ _ (Or.inl (by omega)) (TI0 (hpz9.1.1)) hpz9.2.1 (FP.t hpz9.2.2) (fun q => absurd q (by decide)) (fun z19 hz19 hpz19 => ?_)
    refine j_aload_n h dX8_script_131 rfl 0 rfl ?_
    refine j_iconst h (v := 0) dX8_script_132 (by decide) ?_
    refine j_put h inlX8 tyX8 tyX8_ok nmX8 0 rfl rfl 9 (by decide) (xr_12 12 rfl) rfl rfl rfl rfl (Nat.le_of_ble_eq_true rfl) dX8_script_133 (u' := (upd z19.2.2.2.2.1 9 0, z19.2.2.2.2.2)) rfl ?_
    refine j_iload_n h dX8_script_136 rfl 3 rfl ?_
    refine j_if_ne h (tgt := 146) dX8_script_137 (by decide) (fun c20 => ?_) (fun c20 => ?_)
    · refine j_aload_n h dX8_script_146 rfl 0 rfl ?_
      refine j_callV h (n := 0) (c_X8_comesBack l D cy ad _ _) (xg_V (xr_39 11 rfl) (xr_39 12 rfl) (xr_39 13 rfl) (xr_1 5 rfl) (xr_39 14 rfl)) rfl rfl (by decide +kernel) ⟨Nat.le_of_ble_eq_true rfl, Nat.le_of_ble_eq_true rfl⟩ 0 rfl rfl rfl rfl rfl (Nat.le_of_ble_eq_true rfl) dX8_script_147 ⟨by decide, by decide⟩ (fun u' hq => ?_)
      obtain ⟨z21, hz21, rfl⟩ := hq
      refine j_iload_n h dX8_script_150 rfl 3 rfl ?_
      refine j_bipush h (v := (-3)) dX8_script_151 (by decide) ?_
      refine j_icmp_ne h (tgt := 166) dX8_script_153 (by decide) (fun c22 => ?_) (fun c22 => ?_)
      · refine j_aload_n h dX8_script_166 rfl 0 rfl ?_
        refine j_bipush h (v := 12) dX8_script_167 (by decide) ?_
        refine j_iload_n h dX8_script_169 rfl 2 rfl ?_
        refine j_callI h (n := 2) (c_X8_refuses l D cy ad _ _ _ _) (xg_V (xr_16 10 rfl) (xr_16 11 rfl) (xr_16 12 rfl) (xr_1 5 rfl) (xr_16 13 rfl)) rfl rfl (by decide +kernel) ⟨Nat.le_of_ble_eq_true rfl, Nat.le_of_ble_eq_true rfl⟩ 0 rfl rfl rfl rfl rfl (Nat.le_of_ble_eq_true rfl) dX8_script_170 ⟨by decide, by decide⟩ (fun r u' hq => ?_)
        obtain ⟨z23, hz23, rfl, rfl⟩ := hq
        exact hR _ _ _ _ dX8_script_173 ⟨(_, _), Eq.symm ((bd_eq hz1 (bd_eq hz2 (bd_eq hz9 (ite_n c10 (bd_eq hz19 (ite_n c20 (bd_eq hz21 (ite_n c22 (bd_eq hz23 rfl)))))))))), rfl, rfl, Or.inl (by rw [hz23]; rfl)⟩
      · refine j_aload_n h dX8_script_156 rfl 0 rfl ?_
        refine j_bipush h (v := 12) dX8_script_157 (by decide) ?_
        refine j_iload_n h dX8_script_159 rfl 2 rfl ?_
        refine j_callI h (n := 2) (c_X8_refusesBy l D cy ad _ _ _ _ (by rw [upd_ne _ _ (by omega)]; exact hpz19.2.2.2 c22)) (xg_V (xr_20 16 rfl) (xr_20 17 rfl) (xr_20 18 rfl) (xr_1 5 rfl) (xr_20 19 rfl)) rfl rfl (by decide +kernel) ⟨Nat.le_of_ble_eq_true rfl, Nat.le_of_ble_eq_true rfl⟩ 0 rfl rfl rfl rfl rfl (Nat.le_of_ble_eq_true rfl) dX8_script_160 ⟨by decide, by decide⟩ (fun r u' hq => ?_)
        obtain ⟨z24, hz24, rfl, rfl⟩ := hq
        refine j_goto h (tgt := 173) dX8_script_163 (by decide) ?_
        exact hR _ _ _ _ dX8_script_173 ⟨(_, _), Eq.symm ((bd_eq hz1 (bd_eq hz2 (bd_eq hz9 (ite_n c10 (bd_eq hz19 (ite_n c20 (bd_eq hz21 (ite_p c22 (bd_eq hz24 rfl)))))))))), rfl, rfl, Or.inl (by rw [hz24]; rfl)⟩
    · refine j_aload_n h dX8_script_140 rfl 0 rfl ?_
      refine j_iload_n h dX8_script_141 rfl 2 rfl ?_
      refine j_callI h (n := 1) (c_X8_keeps l D cy ad _ _ _ (by rw [upd_ne _ _ (by omega), hpz19.2.2.1.1 3 (by omega) (by omega) (by omega) (by omega) (by omega)]; exact hU) hpz19.2.1) (xg_V (xr_16 23 rfl) (xr_17 0 rfl) (xr_17 1 rfl) (xr_1 5 rfl) (xr_17 2 rfl)) rfl rfl (by decide +kernel) ⟨Nat.le_of_ble_eq_true rfl, Nat.le_of_ble_eq_true rfl⟩ 0 rfl rfl rfl rfl rfl (Nat.le_of_ble_eq_true rfl) dX8_script_142 ⟨by decide, by decide⟩ (fun r u' hq => ?_)
      obtain ⟨z25, hz25, rfl, rfl, qz25_0, qz25_1, qz25_2⟩ := hq
      exact hR _ _ _ _ dX8_script_145 ⟨(_, _), Eq.symm ((bd_eq hz1 (bd_eq hz2 (bd_eq hz9 (ite_n c10 (bd_eq hz19 (ite_p c20 (bd_eq hz25 rfl)))))))), rfl, rfl, Or.inr qz25_0⟩
  · refine j_aload_n h dX8_script_58 rfl 0 rfl ?_
    refine j_iconst h (v := 0) dX8_script_59 (by decide) ?_
    refine j_put h inlX8 tyX8 tyX8_ok nmX8 0 rfl rfl 9 (by decide) (xr_12 12 rfl) rfl rfl rfl rfl (Nat.le_of_ble_eq_true rfl) dX8_script_60 (u' := (upd z9.2.1 9 0, z9.2.2)) rfl ?_
    refine j_aload_n h dX8_script_63 rfl 0 rfl ?_
    refine j_aload_n h dX8_script_64 rfl 0 rfl ?_
    refine j_get h inlX8 0 rfl rfl 10 (by decide) (xr_38 12 rfl) rfl (v := .int ((upd z9.2.1 9 0) 10)) rfl dX8_script_65 ?_
    refine j_put h inlX8 tyX8 tyX8_ok nmX8 0 rfl rfl 14 (by decide) (xr_6 15 rfl) rfl rfl rfl rfl (Nat.le_of_ble_eq_true rfl) dX8_script_68 (u' := (upd (upd z9.2.1 9 0) 14 ((upd z9.2.1 9 0) 10), z9.2.2)) rfl ?_
    refine j_bipush h (v := (-2)) dX8_script_71 (by decide) ?_
    exact hR _ _ _ _ dX8_script_73 ⟨(_, _), Eq.symm ((bd_eq hz1 (bd_eq hz2 (bd_eq hz9 (ite_p c10 rfl))))), rfl, rfl, Or.inr hpz9.2.1⟩
set_option maxRecDepth 100000 in
set_option maxHeartbeats 4000000 in
theorem c_X7_describe2 (l : Launch) (D : gD) (cy : Nat → ClassId) (L : Nat → Nat → Nat) (G : Nat → gM) (X : Nat → Int32) (A : Nat → Nat → Int32) (b : cB) (M : gM) (p1 : Int32) (n0 : Nat) (hn0 : X 8 = nI n0) (hT0 : TX n0 b.2.2.2 (A 5)) (hG : GI M) (hRs : ∀ r : Nat, r < 4 → nI r < M.1 3 → ∀ f, f = 0 ∨ f = 1 ∨ f = 2 ∨ f = 4 → ¬ M.2.1 r f < 0 ∧ M.2.1 r f < nI 100) (hDs : ∀ w : Nat, w < 16 → nI w < M.1 4 → ¬ M.2.2.1 w 6 < 0 ∧ M.2.2.1 w 6 < nI 10000) (hW8 : f_X1_woodsOn M p1 1 ≤ nI 8) : CtI l D cy (CW cy L) yX7_describe cX7_describe 5 (some .int) rm_X7_describe [.ref (L 11 0), .int p1] ((va_up G 0 M, X, A), b) (fun rv u => ∃ z : Int32 × (List Nat), z = f_X7_describe M p1 ∧ rv = z.1 ∧ ((z.1 = -1 ∧ f_X1_isRink M p1 = 0 ∧ u = ((va_up G 0 M, X, A), b)) ∨ ¬ f_X1_isRink M p1 = 0 ∧ ∃ (X9 : Nat → Int32) (A9 : Nat → Nat → Int32) (b9 : cB), u = ((va_up G 0 M, X9, A9), b9) ∧ LK X A b z.2 X9 A9 b9)) 40 8880 := by
  refine m_entI cX7_describe 5 (by decide) (Nat.le_of_ble_eq_true rfl) (fun J h hR => ?_)
  show J ((va_up G 0 M, X, A), b) (0, 0) [(0, .ref (L 11 0)), (1, .int p1)] 0 []
  refine j_aload_n h dX7_describe_0 rfl 0 rfl ?_
  refine j_get h inlX7 (330 + 0) (ml_get 0) rfl 0 (by decide) (xr_1 15 rfl) rfl (v := .ref (L 0 0)) rfl dX7_describe_1 ?_
  refine j_iload_n h dX7_describe_4 rfl 1 rfl ?_
  refine j_callI h (n := 1) (c_X1_isRink l D cy L _ _ _ _ _ (by decide) _) (xg_V (xr_18 15 rfl) (xr_18 16 rfl) (xr_18 17 rfl) (xr_1 14 rfl) (xr_18 18 rfl)) rfl rfl (by decide +kernel) ⟨Nat.le_of_ble_eq_true rfl, Nat.le_of_ble_eq_true rfl⟩ (30 * 0 + 0) (at_G (by decide)) rfl rfl rfl rfl (Nat.le_of_ble_eq_true rfl) dX7_describe_5 ⟨by decide, by decide⟩ (fun z1 u' hq => ?_)
  obtain ⟨hz1, rfl, bz1⟩ := hq
  refine j_if_ne h (tgt := 13) dX7_describe_8 (by decide) (fun c2 => ?_) (fun c2 => ?_)
  · have vp1 : vp_in (p1) 4 := isRink_in (hG).r hz1 c2
    have bp1 : (p1).toNatClampNeg < 4 := vp_lt vp1
    have ep1 : p1 = nI (p1).toNatClampNeg := vp_nI vp1 (by decide)
    have hw4 : p1 < M.1 3 := isRink_lt hz1 c2
    have hrs := hRs p1.toNatClampNeg bp1 (ep1 ▸ hw4)
    have hf0 := digs_n (hrs 0 (Or.inl rfl)).1 (hrs 0 (Or.inl rfl)).2 (by decide)
    have hg0 := hf0.2
    have hf1 := digs_n (hrs 1 (Or.inr (Or.inl rfl))).1 (hrs 1 (Or.inr (Or.inl rfl))).2 (by decide)
    have hg1 := hf1.2
    have hf2 := digs_n (hrs 2 (Or.inr (Or.inr (Or.inl rfl)))).1 (hrs 2 (Or.inr (Or.inr (Or.inl rfl)))).2 (by decide)
    have hg2 := hf2.2
    have hf4 := digs_n (hrs 4 (Or.inr (Or.inr (Or.inr rfl)))).1 (hrs 4 (Or.inr (Or.inr (Or.inr rfl)))).2 (by decide)
    have hg4 := hf4.2
    refine j_aload_n h dX7_describe_13 rfl 0 rfl ?_
    refine j_get h inlX7 (330 + 0) (ml_get 0) rfl 0 (by decide) (xr_1 15 rfl) rfl (v := .ref (L 0 0)) rfl dX7_describe_14 ?_
    refine j_get h inlX1 (30 * 0 + 0) (at_G (by decide)) rfl 0 (by decide) (xr_14 14 rfl) rfl (v := .ref (L 0 1)) rfl dX7_describe_17 ?_
    refine j_iload_n h dX7_describe_20 rfl 1 rfl ?_
    refine j_aaldE h (30 * 0 + 1) 1 (at_Ra (by decide)) rfl p1.toNatClampNeg ep1 (by omega) (by decide) dX7_describe_21 ?_
    refine j_astore_n h (lv' := [(2, _), (0, _), (1, _)]) dX7_describe_22 rfl (by decide) rfl ?_
    refine j_aload_n h dX7_describe_23 rfl 1 rfl ?_
    refine j_get h inlX7 (330 + 0) (ml_get 0) rfl 8 (by decide) (xr_2 11 rfl) rfl (v := .ref (L 11 10)) rfl dX7_describe_24 ?_
    refine j_iconst h (v := 0) dX7_describe_27 (by decide) ?_
    refine j_world h (u' := putL (va_up G 0 M) X A b (X 10, nI n0, b.2.2.1, b.2.2.2, A 5)) (lensL_eq hn0) ?_
    refine j_callV h (n := 1) (c_J4_setLength_d00df l D cy (lensL (va_up G 0 M) X A b) (X 10) b.2.2.1 (k := 0) (Nat.zero_le _) hT0.1 hT0.2.1 hT0.2.2.1) (xg_V (xr_37 10 rfl) (xr_37 11 rfl) (xr_37 12 rfl) (xr_2 0 rfl) (xr_37 13 rfl)) rfl rfl (by decide +kernel) ⟨Nat.le_of_ble_eq_true rfl, Nat.le_of_ble_eq_true rfl⟩ (330 + 10) ((lensL (va_up G 0 M) X A b).2.1 _) rfl rfl rfl rfl (Nat.le_of_ble_eq_true rfl) dX7_describe_28 ⟨by decide, by decide⟩ (fun u' hq => ?_)
    obtain ⟨a3, f3, rfl, -, g3⟩ := hq
    obtain ⟨X3, A3, b3, e3, hL3⟩ := LK.clr (G := (va_up G 0 M)) (X := X) (A := A) (b := b) (ml := if n0 ≤ 0 then X 10 else 1) (a1 := a3) hT0.2.1 g3
    refine j_world h (congrArg _ e3) ?_
    have hB3 : ([] : List Nat).length ≤ 0 := Nat.le_refl _
    refine j_aload_n h dX7_describe_31 rfl 1 rfl ?_
    refine j_get h inlX7 (330 + 0) (ml_get 0) rfl 8 (by decide) (xr_2 11 rfl) rfl (v := .ref (L 11 10)) rfl dX7_describe_32 ?_
    refine j_aload_n h dX7_describe_35 rfl 0 rfl ?_
    refine j_get h inlX5 (30 * 0 + (4 + p1.toNatClampNeg)) (at_R (by decide) (by omega)) rfl 0 (by decide) (xr_40 15 rfl) rfl (v := .int (M.2.1 p1.toNatClampNeg 0)) rfl dX7_describe_36 ?_
    refine j_world h (u' := putL (va_up G 0 M) X3 A3 b3 (X3 10, nI ([] : List Nat).length, b3.2.2.1, b3.2.2.2, A3 5)) (lensL_eq hL3.2.2.2.2.1) ?_
    have hc4 := c_J4_append_bf812 l D cy (lensL (cy := cy) (L := L) (va_up G 0 M) X3 A3 b3) (X3 10) (n := ([] : List Nat).length) b3.2.2.1 (m := b3.2.2.2) (f := A3 5) (v := (M.2.1 p1.toNatClampNeg 0).toNatClampNeg) (by omega) hL3.2.2.2.2.2.1 hL3.2.2.2.2.2.2.1 hL3.2.2.2.2.2.2.2.1
    rw [← show M.2.1 p1.toNatClampNeg 0 = nI ((M.2.1 p1.toNatClampNeg 0).toNatClampNeg) from hf0.1] at hc4
    have hq4 : (([] : List Nat).length + sb_dg ((M.2.1 p1.toNatClampNeg 0).toNatClampNeg)) ≤ 110 := by have hx := dg_2 (v := (M.2.1 p1.toNatClampNeg 0).toNatClampNeg) (by omega); have := hB3; omega
    refine j_callA h (n := 1) hc4 (xg_V (xr_47 6 rfl) (xr_47 7 rfl) (xr_47 8 rfl) (xr_2 0 rfl) (xr_47 9 rfl)) rfl rfl (by decide +kernel) ⟨Nat.le_of_ble_eq_true rfl, Nat.le_of_ble_eq_true rfl⟩ (330 + 10) ((lensL (va_up G 0 M) X3 A3 b3).2.1 _) rfl rfl rfl rfl (Nat.le_of_ble_eq_true rfl) dX7_describe_39 ⟨by have := kE_le (([] : List Nat).length + sb_dg ((M.2.1 p1.toNatClampNeg 0).toNatClampNeg)) b3.2.2.2; show 0 + kE (([] : List Nat).length + sb_dg ((M.2.1 p1.toNatClampNeg 0).toNatClampNeg)) b3.2.2.2 ≤ 40; omega, by have := sE_le (m := b3.2.2.2) hq4; show 0 + sE (([] : List Nat).length + sb_dg ((M.2.1 p1.toNatClampNeg 0).toNatClampNeg)) b3.2.2.2 ≤ 8880; omega⟩ (fun r u' hq => ?_)
    obtain ⟨rfl, a4, f4, rfl, g4a, g4b, g4c⟩ := hq
    refine j_widen h (k := 1) (n := 222) (by have := kE_le (([] : List Nat).length + sb_dg ((M.2.1 p1.toNatClampNeg 0).toNatClampNeg)) b3.2.2.2; show 0 + kE (([] : List Nat).length + sb_dg ((M.2.1 p1.toNatClampNeg 0).toNatClampNeg)) b3.2.2.2 ≤ 1; omega) (by have := sE_le (m := b3.2.2.2) hq4; show 0 + sE (([] : List Nat).length + sb_dg ((M.2.1 p1.toNatClampNeg 0).toNatClampNeg)) b3.2.2.2 ≤ 222; omega) ?_
    obtain ⟨X4, A4, b4, e4, hL4⟩ := LK.int (G := (va_up G 0 M)) hL3 hq4 g4a g4b g4c
    refine j_world h (congrArg _ e4) ?_
    have hB4 : (([] : List Nat) ++ digs ((M.2.1 p1.toNatClampNeg 0).toNatClampNeg)).length ≤ 2 := by rw [List.length_append, digs_len]; have hx := dg_2 (v := (M.2.1 p1.toNatClampNeg 0).toNatClampNeg) (by omega); have := hB3; omega
    refine j_bipush h (v := 45) dX7_describe_42 (by decide) ?_
    refine j_world h (u' := putL (va_up G 0 M) X4 A4 b4 (X4 10, nI (([] : List Nat) ++ digs ((M.2.1 p1.toNatClampNeg 0).toNatClampNeg)).length, b4.2.2.1, b4.2.2.2, A4 5)) (lensL_eq hL4.2.2.2.2.1) ?_
    have hc5 := c_J4_append_cf468 l D cy (lensL (cy := cy) (L := L) (va_up G 0 M) X4 A4 b4) (X4 10) (n := (([] : List Nat) ++ digs ((M.2.1 p1.toNatClampNeg 0).toNatClampNeg)).length) b4.2.2.1 (m := b4.2.2.2) (f := A4 5) (ch := 45) (by decide) hL4.2.2.2.2.2.1 hL4.2.2.2.2.2.2.1 hL4.2.2.2.2.2.2.2.1
    have hq5 : ((([] : List Nat) ++ digs ((M.2.1 p1.toNatClampNeg 0).toNatClampNeg)).length + 1) ≤ 110 := by have := hB4; omega
    refine j_callA h (n := 1) hc5 (xg_V (xr_8 3 rfl) (xr_8 4 rfl) (xr_8 5 rfl) (xr_2 0 rfl) (xr_8 6 rfl)) rfl rfl (by decide +kernel) ⟨Nat.le_of_ble_eq_true rfl, Nat.le_of_ble_eq_true rfl⟩ (330 + 10) ((lensL (va_up G 0 M) X4 A4 b4).2.1 _) rfl rfl rfl rfl (Nat.le_of_ble_eq_true rfl) dX7_describe_44 ⟨by have := kE_le ((([] : List Nat) ++ digs ((M.2.1 p1.toNatClampNeg 0).toNatClampNeg)).length + 1) b4.2.2.2; show 1 + kE ((([] : List Nat) ++ digs ((M.2.1 p1.toNatClampNeg 0).toNatClampNeg)).length + 1) b4.2.2.2 ≤ 40; omega, by have := sE_le (m := b4.2.2.2) hq5; show 222 + sE ((([] : List Nat) ++ digs ((M.2.1 p1.toNatClampNeg 0).toNatClampNeg)).length + 1) b4.2.2.2 ≤ 8880; omega⟩ (fun r u' hq => ?_)
    obtain ⟨rfl, a5, f5, rfl, g5a, g5b, g5c⟩ := hq
    refine j_widen h (k := 2) (n := 444) (by have := kE_le ((([] : List Nat) ++ digs ((M.2.1 p1.toNatClampNeg 0).toNatClampNeg)).length + 1) b4.2.2.2; show 1 + kE ((([] : List Nat) ++ digs ((M.2.1 p1.toNatClampNeg 0).toNatClampNeg)).length + 1) b4.2.2.2 ≤ 2; omega) (by have := sE_le (m := b4.2.2.2) hq5; show 222 + sE ((([] : List Nat) ++ digs ((M.2.1 p1.toNatClampNeg 0).toNatClampNeg)).length + 1) b4.2.2.2 ≤ 444; omega) ?_
    obtain ⟨X5, A5, b5, e5, hL5⟩ := LK.ch (G := (va_up G 0 M)) hL4 (c := 45) (by decide) hq5 g5a g5b g5c
    refine j_world h (congrArg _ e5) ?_
    have hB5 : ((([] : List Nat) ++ digs ((M.2.1 p1.toNatClampNeg 0).toNatClampNeg)) ++ [45]).length ≤ 3 := by rw [List.length_append, List.length_singleton]; have := hB4; omega
    refine j_aload_n h dX7_describe_47 rfl 0 rfl ?_
    refine j_get h inlX5 (30 * 0 + (4 + p1.toNatClampNeg)) (at_R (by decide) (by omega)) rfl 1 (by decide) (xr_40 16 rfl) rfl (v := .int (M.2.1 p1.toNatClampNeg 1)) rfl dX7_describe_48 ?_
    refine j_world h (u' := putL (va_up G 0 M) X5 A5 b5 (X5 10, nI ((([] : List Nat) ++ digs ((M.2.1 p1.toNatClampNeg 0).toNatClampNeg)) ++ [45]).length, b5.2.2.1, b5.2.2.2, A5 5)) (lensL_eq hL5.2.2.2.2.1) ?_
    have hc6 := c_J4_append_bf812 l D cy (lensL (cy := cy) (L := L) (va_up G 0 M) X5 A5 b5) (X5 10) (n := ((([] : List Nat) ++ digs ((M.2.1 p1.toNatClampNeg 0).toNatClampNeg)) ++ [45]).length) b5.2.2.1 (m := b5.2.2.2) (f := A5 5) (v := (M.2.1 p1.toNatClampNeg 1).toNatClampNeg) (by omega) hL5.2.2.2.2.2.1 hL5.2.2.2.2.2.2.1 hL5.2.2.2.2.2.2.2.1
    rw [← show M.2.1 p1.toNatClampNeg 1 = nI ((M.2.1 p1.toNatClampNeg 1).toNatClampNeg) from hf1.1] at hc6
    have hq6 : (((([] : List Nat) ++ digs ((M.2.1 p1.toNatClampNeg 0).toNatClampNeg)) ++ [45]).length + sb_dg ((M.2.1 p1.toNatClampNeg 1).toNatClampNeg)) ≤ 110 := by have hx := dg_2 (v := (M.2.1 p1.toNatClampNeg 1).toNatClampNeg) (by omega); have := hB5; omega
    refine j_callA h (n := 1) hc6 (xg_V (xr_47 6 rfl) (xr_47 7 rfl) (xr_47 8 rfl) (xr_2 0 rfl) (xr_47 9 rfl)) rfl rfl (by decide +kernel) ⟨Nat.le_of_ble_eq_true rfl, Nat.le_of_ble_eq_true rfl⟩ (330 + 10) ((lensL (va_up G 0 M) X5 A5 b5).2.1 _) rfl rfl rfl rfl (Nat.le_of_ble_eq_true rfl) dX7_describe_51 ⟨by have := kE_le (((([] : List Nat) ++ digs ((M.2.1 p1.toNatClampNeg 0).toNatClampNeg)) ++ [45]).length + sb_dg ((M.2.1 p1.toNatClampNeg 1).toNatClampNeg)) b5.2.2.2; show 2 + kE (((([] : List Nat) ++ digs ((M.2.1 p1.toNatClampNeg 0).toNatClampNeg)) ++ [45]).length + sb_dg ((M.2.1 p1.toNatClampNeg 1).toNatClampNeg)) b5.2.2.2 ≤ 40; omega, by have := sE_le (m := b5.2.2.2) hq6; show 444 + sE (((([] : List Nat) ++ digs ((M.2.1 p1.toNatClampNeg 0).toNatClampNeg)) ++ [45]).length + sb_dg ((M.2.1 p1.toNatClampNeg 1).toNatClampNeg)) b5.2.2.2 ≤ 8880; omega⟩ (fun r u' hq => ?_)
    obtain ⟨rfl, a6, f6, rfl, g6a, g6b, g6c⟩ := hq
    refine j_widen h (k := 3) (n := 666) (by have := kE_le (((([] : List Nat) ++ digs ((M.2.1 p1.toNatClampNeg 0).toNatClampNeg)) ++ [45]).length + sb_dg ((M.2.1 p1.toNatClampNeg 1).toNatClampNeg)) b5.2.2.2; show 2 + kE (((([] : List Nat) ++ digs ((M.2.1 p1.toNatClampNeg 0).toNatClampNeg)) ++ [45]).length + sb_dg ((M.2.1 p1.toNatClampNeg 1).toNatClampNeg)) b5.2.2.2 ≤ 3; omega) (by have := sE_le (m := b5.2.2.2) hq6; show 444 + sE (((([] : List Nat) ++ digs ((M.2.1 p1.toNatClampNeg 0).toNatClampNeg)) ++ [45]).length + sb_dg ((M.2.1 p1.toNatClampNeg 1).toNatClampNeg)) b5.2.2.2 ≤ 666; omega) ?_
    obtain ⟨X6, A6, b6, e6, hL6⟩ := LK.int (G := (va_up G 0 M)) hL5 hq6 g6a g6b g6c
    refine j_world h (congrArg _ e6) ?_
    have hB6 : (((([] : List Nat) ++ digs ((M.2.1 p1.toNatClampNeg 0).toNatClampNeg)) ++ [45]) ++ digs ((M.2.1 p1.toNatClampNeg 1).toNatClampNeg)).length ≤ 5 := by rw [List.length_append, digs_len]; have hx := dg_2 (v := (M.2.1 p1.toNatClampNeg 1).toNatClampNeg) (by omega); have := hB5; omega
    refine j_ldcwS h (i := 5) rfl dX7_describe_54 ?_
    refine j_world h (u' := putL (va_up G 0 M) X6 A6 b6 (X6 10, nI (((([] : List Nat) ++ digs ((M.2.1 p1.toNatClampNeg 0).toNatClampNeg)) ++ [45]) ++ digs ((M.2.1 p1.toNatClampNeg 1).toNatClampNeg)).length, b6.2.2.1, b6.2.2.2, A6 5)) (lensL_eq hL6.2.2.2.2.1) ?_
    have hc7 := c_J4_append_15ec4 l D cy (lensL (cy := cy) (L := L) (va_up G 0 M) X6 A6 b6) (X6 10) (n := (((([] : List Nat) ++ digs ((M.2.1 p1.toNatClampNeg 0).toNatClampNeg)) ++ [45]) ++ digs ((M.2.1 p1.toNatClampNeg 1).toNatClampNeg)).length) b6.2.2.1 (m := b6.2.2.2) (f := A6 5) (i := 5) (by decide) hL6.2.2.2.2.2.1 hL6.2.2.2.2.2.2.1 hL6.2.2.2.2.2.2.2.1
    have hq7 : ((((([] : List Nat) ++ digs ((M.2.1 p1.toNatClampNeg 0).toNatClampNeg)) ++ [45]) ++ digs ((M.2.1 p1.toNatClampNeg 1).toNatClampNeg)).length + lenS.getD 5 0) ≤ 110 := by have hx : lenS.getD 5 0 = 2 := rfl; have := hB6; omega
    refine j_callA h (n := 1) hc7 (xg_V (xr_48 16 rfl) (xr_48 17 rfl) (xr_48 18 rfl) (xr_2 0 rfl) (xr_48 19 rfl)) rfl rfl (by decide +kernel) ⟨Nat.le_of_ble_eq_true rfl, Nat.le_of_ble_eq_true rfl⟩ (330 + 10) ((lensL (va_up G 0 M) X6 A6 b6).2.1 _) rfl rfl rfl rfl (Nat.le_of_ble_eq_true rfl) dX7_describe_57 ⟨by have := kE_le ((((([] : List Nat) ++ digs ((M.2.1 p1.toNatClampNeg 0).toNatClampNeg)) ++ [45]) ++ digs ((M.2.1 p1.toNatClampNeg 1).toNatClampNeg)).length + lenS.getD 5 0) b6.2.2.2; show 3 + kE ((((([] : List Nat) ++ digs ((M.2.1 p1.toNatClampNeg 0).toNatClampNeg)) ++ [45]) ++ digs ((M.2.1 p1.toNatClampNeg 1).toNatClampNeg)).length + lenS.getD 5 0) b6.2.2.2 ≤ 40; omega, by have := sE_le (m := b6.2.2.2) hq7; show 666 + sE ((((([] : List Nat) ++ digs ((M.2.1 p1.toNatClampNeg 0).toNatClampNeg)) ++ [45]) ++ digs ((M.2.1 p1.toNatClampNeg 1).toNatClampNeg)).length + lenS.getD 5 0) b6.2.2.2 ≤ 8880; omega⟩ (fun r u' hq => ?_)
    obtain ⟨rfl, a7, f7, rfl, g7a, g7b, g7c⟩ := hq
    refine j_widen h (k := 4) (n := 888) (by have := kE_le ((((([] : List Nat) ++ digs ((M.2.1 p1.toNatClampNeg 0).toNatClampNeg)) ++ [45]) ++ digs ((M.2.1 p1.toNatClampNeg 1).toNatClampNeg)).length + lenS.getD 5 0) b6.2.2.2; show 3 + kE ((((([] : List Nat) ++ digs ((M.2.1 p1.toNatClampNeg 0).toNatClampNeg)) ++ [45]) ++ digs ((M.2.1 p1.toNatClampNeg 1).toNatClampNeg)).length + lenS.getD 5 0) b6.2.2.2 ≤ 4; omega) (by have := sE_le (m := b6.2.2.2) hq7; show 666 + sE ((((([] : List Nat) ++ digs ((M.2.1 p1.toNatClampNeg 0).toNatClampNeg)) ++ [45]) ++ digs ((M.2.1 p1.toNatClampNeg 1).toNatClampNeg)).length + lenS.getD 5 0) b6.2.2.2 ≤ 888; omega) ?_
    obtain ⟨X7, A7, b7, e7, hL7⟩ := LK.str (G := (va_up G 0 M)) hL6 (i := 5) (by decide) hq7 g7a g7b g7c
    refine j_world h (congrArg _ e7) ?_
    have hB7 : ((((([] : List Nat) ++ digs ((M.2.1 p1.toNatClampNeg 0).toNatClampNeg)) ++ [45]) ++ digs ((M.2.1 p1.toNatClampNeg 1).toNatClampNeg)) ++ strs 5).length ≤ 7 := by rw [List.length_append, strs_len]; have hx : lenS.getD 5 0 = 2 := rfl; have := hB6; omega
    refine j_pop h dX7_describe_60 rfl ?_
    refine j_aload_n h dX7_describe_61 rfl 0 rfl ?_
    refine j_get h inlX5 (30 * 0 + (4 + p1.toNatClampNeg)) (at_R (by decide) (by omega)) rfl 2 (by decide) (xr_18 13 rfl) rfl (v := .int (M.2.1 p1.toNatClampNeg 2)) rfl dX7_describe_62 ?_
    refine j_if_ne h (tgt := 82) dX7_describe_65 (by decide) (fun c8 => ?_) (fun c8 => ?_)
    · refine j_aload_n h dX7_describe_82 rfl 1 rfl ?_
      refine j_get h inlX7 (330 + 0) (ml_get 0) rfl 8 (by decide) (xr_2 11 rfl) rfl (v := .ref (L 11 10)) rfl dX7_describe_83 ?_
      refine j_ldcwS h (i := 7) rfl dX7_describe_86 ?_
      refine j_world h (u' := putL (va_up G 0 M) X7 A7 b7 (X7 10, nI ((((([] : List Nat) ++ digs ((M.2.1 p1.toNatClampNeg 0).toNatClampNeg)) ++ [45]) ++ digs ((M.2.1 p1.toNatClampNeg 1).toNatClampNeg)) ++ strs 5).length, b7.2.2.1, b7.2.2.2, A7 5)) (lensL_eq hL7.2.2.2.2.1) ?_
      have hc9 := c_J4_append_15ec4 l D cy (lensL (cy := cy) (L := L) (va_up G 0 M) X7 A7 b7) (X7 10) (n := ((((([] : List Nat) ++ digs ((M.2.1 p1.toNatClampNeg 0).toNatClampNeg)) ++ [45]) ++ digs ((M.2.1 p1.toNatClampNeg 1).toNatClampNeg)) ++ strs 5).length) b7.2.2.1 (m := b7.2.2.2) (f := A7 5) (i := 7) (by decide) hL7.2.2.2.2.2.1 hL7.2.2.2.2.2.2.1 hL7.2.2.2.2.2.2.2.1
      have hq9 : (((((([] : List Nat) ++ digs ((M.2.1 p1.toNatClampNeg 0).toNatClampNeg)) ++ [45]) ++ digs ((M.2.1 p1.toNatClampNeg 1).toNatClampNeg)) ++ strs 5).length + lenS.getD 7 0) ≤ 110 := by have hx : lenS.getD 7 0 = 4 := rfl; have := hB7; omega
      refine j_callA h (n := 1) hc9 (xg_V (xr_48 16 rfl) (xr_48 17 rfl) (xr_48 18 rfl) (xr_2 0 rfl) (xr_48 19 rfl)) rfl rfl (by decide +kernel) ⟨Nat.le_of_ble_eq_true rfl, Nat.le_of_ble_eq_true rfl⟩ (330 + 10) ((lensL (va_up G 0 M) X7 A7 b7).2.1 _) rfl rfl rfl rfl (Nat.le_of_ble_eq_true rfl) dX7_describe_89 ⟨by have := kE_le (((((([] : List Nat) ++ digs ((M.2.1 p1.toNatClampNeg 0).toNatClampNeg)) ++ [45]) ++ digs ((M.2.1 p1.toNatClampNeg 1).toNatClampNeg)) ++ strs 5).length + lenS.getD 7 0) b7.2.2.2; show 4 + kE (((((([] : List Nat) ++ digs ((M.2.1 p1.toNatClampNeg 0).toNatClampNeg)) ++ [45]) ++ digs ((M.2.1 p1.toNatClampNeg 1).toNatClampNeg)) ++ strs 5).length + lenS.getD 7 0) b7.2.2.2 ≤ 40; omega, by have := sE_le (m := b7.2.2.2) hq9; show 888 + sE (((((([] : List Nat) ++ digs ((M.2.1 p1.toNatClampNeg 0).toNatClampNeg)) ++ [45]) ++ digs ((M.2.1 p1.toNatClampNeg 1).toNatClampNeg)) ++ strs 5).length + lenS.getD 7 0) b7.2.2.2 ≤ 8880; omega⟩ (fun r u' hq => ?_)
      obtain ⟨rfl, a9, f9, rfl, g9a, g9b, g9c⟩ := hq
      refine j_widen h (k := 5) (n := 1110) (by have := kE_le (((((([] : List Nat) ++ digs ((M.2.1 p1.toNatClampNeg 0).toNatClampNeg)) ++ [45]) ++ digs ((M.2.1 p1.toNatClampNeg 1).toNatClampNeg)) ++ strs 5).length + lenS.getD 7 0) b7.2.2.2; show 4 + kE (((((([] : List Nat) ++ digs ((M.2.1 p1.toNatClampNeg 0).toNatClampNeg)) ++ [45]) ++ digs ((M.2.1 p1.toNatClampNeg 1).toNatClampNeg)) ++ strs 5).length + lenS.getD 7 0) b7.2.2.2 ≤ 5; omega) (by have := sE_le (m := b7.2.2.2) hq9; show 888 + sE (((((([] : List Nat) ++ digs ((M.2.1 p1.toNatClampNeg 0).toNatClampNeg)) ++ [45]) ++ digs ((M.2.1 p1.toNatClampNeg 1).toNatClampNeg)) ++ strs 5).length + lenS.getD 7 0) b7.2.2.2 ≤ 1110; omega) ?_
      obtain ⟨X9, A9, b9, e9, hL9⟩ := LK.str (G := (va_up G 0 M)) hL7 (i := 7) (by decide) hq9 g9a g9b g9c
      refine j_world h (congrArg _ e9) ?_
      have hB9 : (((((([] : List Nat) ++ digs ((M.2.1 p1.toNatClampNeg 0).toNatClampNeg)) ++ [45]) ++ digs ((M.2.1 p1.toNatClampNeg 1).toNatClampNeg)) ++ strs 5) ++ strs 7).length ≤ 11 := by rw [List.length_append, strs_len]; have hx : lenS.getD 7 0 = 4 := rfl; have := hB7; omega
      refine j_aload_n h dX7_describe_92 rfl 0 rfl ?_
      refine j_get h inlX5 (30 * 0 + (4 + p1.toNatClampNeg)) (at_R (by decide) (by omega)) rfl 2 (by decide) (xr_18 13 rfl) rfl (v := .int (M.2.1 p1.toNatClampNeg 2)) rfl dX7_describe_93 ?_
      refine j_world h (u' := putL (va_up G 0 M) X9 A9 b9 (X9 10, nI (((((([] : List Nat) ++ digs ((M.2.1 p1.toNatClampNeg 0).toNatClampNeg)) ++ [45]) ++ digs ((M.2.1 p1.toNatClampNeg 1).toNatClampNeg)) ++ strs 5) ++ strs 7).length, b9.2.2.1, b9.2.2.2, A9 5)) (lensL_eq hL9.2.2.2.2.1) ?_
      have hc10 := c_J4_append_bf812 l D cy (lensL (cy := cy) (L := L) (va_up G 0 M) X9 A9 b9) (X9 10) (n := (((((([] : List Nat) ++ digs ((M.2.1 p1.toNatClampNeg 0).toNatClampNeg)) ++ [45]) ++ digs ((M.2.1 p1.toNatClampNeg 1).toNatClampNeg)) ++ strs 5) ++ strs 7).length) b9.2.2.1 (m := b9.2.2.2) (f := A9 5) (v := (M.2.1 p1.toNatClampNeg 2).toNatClampNeg) (by omega) hL9.2.2.2.2.2.1 hL9.2.2.2.2.2.2.1 hL9.2.2.2.2.2.2.2.1
      rw [← show M.2.1 p1.toNatClampNeg 2 = nI ((M.2.1 p1.toNatClampNeg 2).toNatClampNeg) from hf2.1] at hc10
      have hq10 : ((((((([] : List Nat) ++ digs ((M.2.1 p1.toNatClampNeg 0).toNatClampNeg)) ++ [45]) ++ digs ((M.2.1 p1.toNatClampNeg 1).toNatClampNeg)) ++ strs 5) ++ strs 7).length + sb_dg ((M.2.1 p1.toNatClampNeg 2).toNatClampNeg)) ≤ 110 := by have hx := dg_2 (v := (M.2.1 p1.toNatClampNeg 2).toNatClampNeg) (by omega); have := hB9; omega
      refine j_callA h (n := 1) hc10 (xg_V (xr_47 6 rfl) (xr_47 7 rfl) (xr_47 8 rfl) (xr_2 0 rfl) (xr_47 9 rfl)) rfl rfl (by decide +kernel) ⟨Nat.le_of_ble_eq_true rfl, Nat.le_of_ble_eq_true rfl⟩ (330 + 10) ((lensL (va_up G 0 M) X9 A9 b9).2.1 _) rfl rfl rfl rfl (Nat.le_of_ble_eq_true rfl) dX7_describe_96 ⟨by have := kE_le ((((((([] : List Nat) ++ digs ((M.2.1 p1.toNatClampNeg 0).toNatClampNeg)) ++ [45]) ++ digs ((M.2.1 p1.toNatClampNeg 1).toNatClampNeg)) ++ strs 5) ++ strs 7).length + sb_dg ((M.2.1 p1.toNatClampNeg 2).toNatClampNeg)) b9.2.2.2; show 5 + kE ((((((([] : List Nat) ++ digs ((M.2.1 p1.toNatClampNeg 0).toNatClampNeg)) ++ [45]) ++ digs ((M.2.1 p1.toNatClampNeg 1).toNatClampNeg)) ++ strs 5) ++ strs 7).length + sb_dg ((M.2.1 p1.toNatClampNeg 2).toNatClampNeg)) b9.2.2.2 ≤ 40; omega, by have := sE_le (m := b9.2.2.2) hq10; show 1110 + sE ((((((([] : List Nat) ++ digs ((M.2.1 p1.toNatClampNeg 0).toNatClampNeg)) ++ [45]) ++ digs ((M.2.1 p1.toNatClampNeg 1).toNatClampNeg)) ++ strs 5) ++ strs 7).length + sb_dg ((M.2.1 p1.toNatClampNeg 2).toNatClampNeg)) b9.2.2.2 ≤ 8880; omega⟩ (fun r u' hq => ?_)
      obtain ⟨rfl, a10, f10, rfl, g10a, g10b, g10c⟩ := hq
      refine j_widen h (k := 6) (n := 1332) (by have := kE_le ((((((([] : List Nat) ++ digs ((M.2.1 p1.toNatClampNeg 0).toNatClampNeg)) ++ [45]) ++ digs ((M.2.1 p1.toNatClampNeg 1).toNatClampNeg)) ++ strs 5) ++ strs 7).length + sb_dg ((M.2.1 p1.toNatClampNeg 2).toNatClampNeg)) b9.2.2.2; show 5 + kE ((((((([] : List Nat) ++ digs ((M.2.1 p1.toNatClampNeg 0).toNatClampNeg)) ++ [45]) ++ digs ((M.2.1 p1.toNatClampNeg 1).toNatClampNeg)) ++ strs 5) ++ strs 7).length + sb_dg ((M.2.1 p1.toNatClampNeg 2).toNatClampNeg)) b9.2.2.2 ≤ 6; omega) (by have := sE_le (m := b9.2.2.2) hq10; show 1110 + sE ((((((([] : List Nat) ++ digs ((M.2.1 p1.toNatClampNeg 0).toNatClampNeg)) ++ [45]) ++ digs ((M.2.1 p1.toNatClampNeg 1).toNatClampNeg)) ++ strs 5) ++ strs 7).length + sb_dg ((M.2.1 p1.toNatClampNeg 2).toNatClampNeg)) b9.2.2.2 ≤ 1332; omega) ?_
      obtain ⟨X10, A10, b10, e10, hL10⟩ := LK.int (G := (va_up G 0 M)) hL9 hq10 g10a g10b g10c
      refine j_world h (congrArg _ e10) ?_
      have hB10 : ((((((([] : List Nat) ++ digs ((M.2.1 p1.toNatClampNeg 0).toNatClampNeg)) ++ [45]) ++ digs ((M.2.1 p1.toNatClampNeg 1).toNatClampNeg)) ++ strs 5) ++ strs 7) ++ digs ((M.2.1 p1.toNatClampNeg 2).toNatClampNeg)).length ≤ 13 := by rw [List.length_append, digs_len]; have hx := dg_2 (v := (M.2.1 p1.toNatClampNeg 2).toNatClampNeg) (by omega); have := hB9; omega
      refine j_pop h dX7_describe_99 rfl ?_
      refine j_aload_n h dX7_describe_100 rfl 0 rfl ?_
      refine j_callI h (n := 0) (c_X5_isPlayed l D cy L _ _ _ _ _ (by decide) (by omega)) (xg_V (xr_18 19 rfl) (xr_18 20 rfl) (xr_18 21 rfl) (xr_2 19 rfl) (xr_18 22 rfl)) rfl rfl (by decide +kernel) ⟨Nat.le_of_ble_eq_true rfl, Nat.le_of_ble_eq_true rfl⟩ (30 * 0 + (4 + p1.toNatClampNeg)) (at_R (by decide) (by omega)) rfl rfl rfl rfl (Nat.le_of_ble_eq_true rfl) dX7_describe_101 ⟨by decide, by decide⟩ (fun z11 u' hq => ?_)
      obtain ⟨hz11, rfl, bz11⟩ := hq
      refine j_if_eq h (tgt := 125) dX7_describe_104 (by decide) (fun c12 => ?_) (fun c12 => ?_)
      · refine j_aload_n h dX7_describe_125 rfl 1 rfl ?_
        refine j_get h inlX7 (330 + 0) (ml_get 0) rfl 0 (by decide) (xr_1 15 rfl) rfl (v := .ref (L 0 0)) rfl dX7_describe_126 ?_
        refine j_iload_n h dX7_describe_129 rfl 2 rfl ?_
        refine j_iconst h (v := 1) dX7_describe_130 (by decide) ?_
        refine j_callI h (n := 2) (c_X1_woodsOn l D cy L _ _ _ _ _ (by decide) _ _ (hG).w) (xg_V (xr_40 18 rfl) (xr_40 19 rfl) (xr_40 20 rfl) (xr_1 14 rfl) (xr_40 21 rfl)) rfl rfl (by decide +kernel) ⟨Nat.le_of_ble_eq_true rfl, Nat.le_of_ble_eq_true rfl⟩ (30 * 0 + 0) (at_G (by decide)) rfl rfl rfl rfl (Nat.le_of_ble_eq_true rfl) dX7_describe_131 ⟨by decide, by decide⟩ (fun z13 u' hq => ?_)
        obtain ⟨hz13, rfl⟩ := hq
        have hly : z13 ≤ nI 8 := hz13 ▸ hW8
        refine j_widen h (k := 8 + 4 * 0) (n := 1776 + 888 * 0) (by show 6 + 0 ≤ 8; omega) (by show 1332 + 0 ≤ 1776; omega) ?_
        refine j_istore_n h (lv' := [(3, _), (2, _), (0, _), (1, _)]) dX7_describe_134 rfl (by decide) rfl ?_
        refine j_iconst h (v := 0) dX7_describe_135 (by decide) ?_
        refine j_istore h (lv' := [(4, _), (3, _), (2, _), (0, _), (1, _)]) dX7_describe_136 (by decide) rfl ?_
        have lp138 : ∀ (n k : Nat) (Tk : List Nat) (Xk : Nat → Int32) (Ak : Nat → Nat → Int32) (bk : cB), n + k = 9 → k ≤ 8 → LK X A b Tk Xk Ak bk → Tk.length ≤ 17 + 8 * k → f_X7_describe M p1 = f_X7_describe_l138 M p1 z13 n k Tk → J ((va_up G 0 M, Xk, Ak), bk) (8 + 4 * k, 1776 + 888 * k) [(0, .ref (L 11 0)), (1, .int p1), (2, .ref (L 0 (4 + p1.toNatClampNeg))), (3, .int z13), (4, .int (nI k))] 138 [] := by
          intro n
          induction n with
          | zero => intro k Tk Xk Ak bk hn hk hLk hBk hf; omega
          | succ n ih =>
            intro k Tk Xk Ak bk hn hk hLk hBk hf
            refine j_iload h dX7_describe_138 4 rfl ?_
            refine j_iload_n h dX7_describe_140 rfl 3 rfl ?_
            refine j_icmp_ge h (tgt := 164) dX7_describe_141 (by decide) (fun c14 => ?_) (fun c14 => ?_)
            · refine j_aload_n h dX7_describe_164 rfl 0 rfl ?_
              refine j_get h inlX7 (330 + 0) (ml_get 0) rfl 8 (by decide) (xr_2 11 rfl) rfl (v := .ref (L 11 10)) rfl dX7_describe_165 ?_
              refine j_world h (u' := putL (va_up G 0 M) Xk Ak bk (Xk 10, nI Tk.length, bk.2.2.1, bk.2.2.2, Ak 5)) (lensL_eq hLk.2.2.2.2.1) ?_
              refine j_callI h (n := 0) (c_J4_length_8abf5 l D cy (lensL (va_up G 0 M) Xk Ak bk) (Xk 10) (nI Tk.length) bk.2.2.1 bk.2.2.2 (Ak 5)) (xg_V (xr_7 17 rfl) (xr_7 18 rfl) (xr_7 19 rfl) (xr_2 0 rfl) (xr_7 20 rfl)) rfl rfl (by decide +kernel) ⟨Nat.le_of_ble_eq_true rfl, Nat.le_of_ble_eq_true rfl⟩ (330 + 10) ((lensL (va_up G 0 M) Xk Ak bk).2.1 _) rfl rfl rfl rfl (Nat.le_of_ble_eq_true rfl) dX7_describe_168 ⟨by show 8 + 4 * k + 0 ≤ 40; omega, by show 1776 + 888 * k + 0 ≤ 8880; omega⟩ (fun r u' hq => ?_)
              obtain ⟨rfl, rfl⟩ := hq
              refine j_world h (u' := ((va_up G 0 M, Xk, Ak), bk)) (lensL_eq hLk.2.2.2.2.1).symm ?_
              refine j_widen h (k := 40) (n := 8880) (by show 8 + 4 * k ≤ 40; omega) (by show 1776 + 888 * k ≤ 8880; omega) ?_
              exact hR _ _ _ _ dX7_describe_171 ⟨(_, _), Eq.symm (hf.trans ((ite_p c14 rfl))), rfl, Or.inr ⟨hz1 ▸ c2, _, _, _, rfl, hLk⟩⟩
            · have hk1 : k < 8 := cnt_lt (by decide) hk hly c14
              refine j_aload_n h dX7_describe_144 rfl 0 rfl ?_
              refine j_aload_n h dX7_describe_145 rfl 0 rfl ?_
              refine j_get h inlX7 (330 + 0) (ml_get 0) rfl 0 (by decide) (xr_1 15 rfl) rfl (v := .ref (L 0 0)) rfl dX7_describe_146 ?_
              refine j_iload_n h dX7_describe_149 rfl 1 rfl ?_
              refine j_iload h dX7_describe_150 4 rfl ?_
              refine j_callI h (n := 2) (c_X1_woodInOrder l D cy L _ _ _ _ _ (by decide) _ _ (hG).w) (xg_V (xr_43 3 rfl) (xr_43 4 rfl) (xr_43 5 rfl) (xr_1 14 rfl) (xr_43 6 rfl)) rfl rfl (by decide +kernel) ⟨Nat.le_of_ble_eq_true rfl, Nat.le_of_ble_eq_true rfl⟩ (30 * 0 + 0) (at_G (by decide)) rfl rfl rfl rfl (Nat.le_of_ble_eq_true rfl) dX7_describe_152 ⟨by show 8 + 4 * k + 0 ≤ 40; omega, by show 1776 + 888 * k + 0 ≤ 8880; omega⟩ (fun z15 u' hq => ?_)
              obtain ⟨hz15, rfl⟩ := hq
              have hq16 : Tk.length ≤ 102 := by have := hBk; omega
              refine j_callV h (n := 1) (c_X7_writeWood l D cy L _ _ _ _ _ _ Tk _ _ _ hLk hq16 hG hDs) (xg_V (xr_50 2 rfl) (xr_50 3 rfl) (xr_50 4 rfl) (xr_1 2 rfl) (xr_50 5 rfl)) rfl rfl (by decide +kernel) ⟨Nat.le_of_ble_eq_true rfl, Nat.le_of_ble_eq_true rfl⟩ (330 + 0) (ml_get 0) rfl rfl rfl rfl (Nat.le_of_ble_eq_true rfl) dX7_describe_155 ⟨by show 8 + 4 * k + 0 + 4 ≤ 40; omega, by show 1776 + 888 * k + 0 + 888 ≤ 8880; omega⟩ (fun u' hq => ?_)
              obtain ⟨z16, hz16, X16, A16, b16, rfl, hL16, hl16⟩ := hq
              refine j_widen h (k := 8 + 4 * (k + 1)) (n := 1776 + 888 * (k + 1)) (by show 8 + 4 * k + 0 + 4 ≤ _; omega) (by show 1776 + 888 * k + 0 + 888 ≤ _; omega) ?_
              have hB16 : z16.length ≤ 17 + 8 * (k + 1) := by have := hBk; omega
              refine j_iinc h (v := nI (k + 1)) (lv' := [(4, _), (0, _), (1, _), (2, _), (3, _)]) dX7_describe_158 (k := 4) rfl (nI_1 k) (by decide) rfl ?_
              refine j_goto h (tgt := 138) dX7_describe_161 (by decide) ?_
              refine j_sub h [1, 2, 3, 4, 0] rfl ?_
              exact ih (k + 1) _ _ _ _ (by omega) (by omega) hL16 hB16 (hf.trans ((ite_n c14 (bd_eq hz15 (bd_eq hz16 rfl)))))
        refine j_sub h [3, 4, 2, 1, 0] rfl ?_
        exact lp138 9 0 _ _ _ _ (by omega) (by omega) hL10 (by have := hB10; omega) ((bd_eq hz1 (ite_n c2 (ite_n c8 (bd_eq hz11 (ite_p c12 (bd_eq hz13 rfl)))))))
      · refine j_aload_n h dX7_describe_107 rfl 1 rfl ?_
        refine j_get h inlX7 (330 + 0) (ml_get 0) rfl 8 (by decide) (xr_2 11 rfl) rfl (v := .ref (L 11 10)) rfl dX7_describe_108 ?_
        refine j_ldcwS h (i := 8) rfl dX7_describe_111 ?_
        refine j_world h (u' := putL (va_up G 0 M) X10 A10 b10 (X10 10, nI ((((((([] : List Nat) ++ digs ((M.2.1 p1.toNatClampNeg 0).toNatClampNeg)) ++ [45]) ++ digs ((M.2.1 p1.toNatClampNeg 1).toNatClampNeg)) ++ strs 5) ++ strs 7) ++ digs ((M.2.1 p1.toNatClampNeg 2).toNatClampNeg)).length, b10.2.2.1, b10.2.2.2, A10 5)) (lensL_eq hL10.2.2.2.2.1) ?_
        have hc17 := c_J4_append_15ec4 l D cy (lensL (cy := cy) (L := L) (va_up G 0 M) X10 A10 b10) (X10 10) (n := ((((((([] : List Nat) ++ digs ((M.2.1 p1.toNatClampNeg 0).toNatClampNeg)) ++ [45]) ++ digs ((M.2.1 p1.toNatClampNeg 1).toNatClampNeg)) ++ strs 5) ++ strs 7) ++ digs ((M.2.1 p1.toNatClampNeg 2).toNatClampNeg)).length) b10.2.2.1 (m := b10.2.2.2) (f := A10 5) (i := 8) (by decide) hL10.2.2.2.2.2.1 hL10.2.2.2.2.2.2.1 hL10.2.2.2.2.2.2.2.1
        have hq17 : (((((((([] : List Nat) ++ digs ((M.2.1 p1.toNatClampNeg 0).toNatClampNeg)) ++ [45]) ++ digs ((M.2.1 p1.toNatClampNeg 1).toNatClampNeg)) ++ strs 5) ++ strs 7) ++ digs ((M.2.1 p1.toNatClampNeg 2).toNatClampNeg)).length + lenS.getD 8 0) ≤ 110 := by have hx : lenS.getD 8 0 = 2 := rfl; have := hB10; omega
        refine j_callA h (n := 1) hc17 (xg_V (xr_48 16 rfl) (xr_48 17 rfl) (xr_48 18 rfl) (xr_2 0 rfl) (xr_48 19 rfl)) rfl rfl (by decide +kernel) ⟨Nat.le_of_ble_eq_true rfl, Nat.le_of_ble_eq_true rfl⟩ (330 + 10) ((lensL (va_up G 0 M) X10 A10 b10).2.1 _) rfl rfl rfl rfl (Nat.le_of_ble_eq_true rfl) dX7_describe_114 ⟨by have := kE_le (((((((([] : List Nat) ++ digs ((M.2.1 p1.toNatClampNeg 0).toNatClampNeg)) ++ [45]) ++ digs ((M.2.1 p1.toNatClampNeg 1).toNatClampNeg)) ++ strs 5) ++ strs 7) ++ digs ((M.2.1 p1.toNatClampNeg 2).toNatClampNeg)).length + lenS.getD 8 0) b10.2.2.2; show 6 + kE (((((((([] : List Nat) ++ digs ((M.2.1 p1.toNatClampNeg 0).toNatClampNeg)) ++ [45]) ++ digs ((M.2.1 p1.toNatClampNeg 1).toNatClampNeg)) ++ strs 5) ++ strs 7) ++ digs ((M.2.1 p1.toNatClampNeg 2).toNatClampNeg)).length + lenS.getD 8 0) b10.2.2.2 ≤ 40; omega, by have := sE_le (m := b10.2.2.2) hq17; show 1332 + sE (((((((([] : List Nat) ++ digs ((M.2.1 p1.toNatClampNeg 0).toNatClampNeg)) ++ [45]) ++ digs ((M.2.1 p1.toNatClampNeg 1).toNatClampNeg)) ++ strs 5) ++ strs 7) ++ digs ((M.2.1 p1.toNatClampNeg 2).toNatClampNeg)).length + lenS.getD 8 0) b10.2.2.2 ≤ 8880; omega⟩ (fun r u' hq => ?_)
        obtain ⟨rfl, a17, f17, rfl, g17a, g17b, g17c⟩ := hq
        refine j_widen h (k := 7) (n := 1554) (by have := kE_le (((((((([] : List Nat) ++ digs ((M.2.1 p1.toNatClampNeg 0).toNatClampNeg)) ++ [45]) ++ digs ((M.2.1 p1.toNatClampNeg 1).toNatClampNeg)) ++ strs 5) ++ strs 7) ++ digs ((M.2.1 p1.toNatClampNeg 2).toNatClampNeg)).length + lenS.getD 8 0) b10.2.2.2; show 6 + kE (((((((([] : List Nat) ++ digs ((M.2.1 p1.toNatClampNeg 0).toNatClampNeg)) ++ [45]) ++ digs ((M.2.1 p1.toNatClampNeg 1).toNatClampNeg)) ++ strs 5) ++ strs 7) ++ digs ((M.2.1 p1.toNatClampNeg 2).toNatClampNeg)).length + lenS.getD 8 0) b10.2.2.2 ≤ 7; omega) (by have := sE_le (m := b10.2.2.2) hq17; show 1332 + sE (((((((([] : List Nat) ++ digs ((M.2.1 p1.toNatClampNeg 0).toNatClampNeg)) ++ [45]) ++ digs ((M.2.1 p1.toNatClampNeg 1).toNatClampNeg)) ++ strs 5) ++ strs 7) ++ digs ((M.2.1 p1.toNatClampNeg 2).toNatClampNeg)).length + lenS.getD 8 0) b10.2.2.2 ≤ 1554; omega) ?_
        obtain ⟨X17, A17, b17, e17, hL17⟩ := LK.str (G := (va_up G 0 M)) hL10 (i := 8) (by decide) hq17 g17a g17b g17c
        refine j_world h (congrArg _ e17) ?_
        have hB17 : (((((((([] : List Nat) ++ digs ((M.2.1 p1.toNatClampNeg 0).toNatClampNeg)) ++ [45]) ++ digs ((M.2.1 p1.toNatClampNeg 1).toNatClampNeg)) ++ strs 5) ++ strs 7) ++ digs ((M.2.1 p1.toNatClampNeg 2).toNatClampNeg)) ++ strs 8).length ≤ 15 := by rw [List.length_append, strs_len]; have hx : lenS.getD 8 0 = 2 := rfl; have := hB10; omega
        refine j_aload_n h dX7_describe_117 rfl 0 rfl ?_
        refine j_get h inlX5 (30 * 0 + (4 + p1.toNatClampNeg)) (at_R (by decide) (by omega)) rfl 4 (by decide) (xr_18 12 rfl) rfl (v := .int (M.2.1 p1.toNatClampNeg 4)) rfl dX7_describe_118 ?_
        refine j_world h (u' := putL (va_up G 0 M) X17 A17 b17 (X17 10, nI (((((((([] : List Nat) ++ digs ((M.2.1 p1.toNatClampNeg 0).toNatClampNeg)) ++ [45]) ++ digs ((M.2.1 p1.toNatClampNeg 1).toNatClampNeg)) ++ strs 5) ++ strs 7) ++ digs ((M.2.1 p1.toNatClampNeg 2).toNatClampNeg)) ++ strs 8).length, b17.2.2.1, b17.2.2.2, A17 5)) (lensL_eq hL17.2.2.2.2.1) ?_
        have hc18 := c_J4_append_bf812 l D cy (lensL (cy := cy) (L := L) (va_up G 0 M) X17 A17 b17) (X17 10) (n := (((((((([] : List Nat) ++ digs ((M.2.1 p1.toNatClampNeg 0).toNatClampNeg)) ++ [45]) ++ digs ((M.2.1 p1.toNatClampNeg 1).toNatClampNeg)) ++ strs 5) ++ strs 7) ++ digs ((M.2.1 p1.toNatClampNeg 2).toNatClampNeg)) ++ strs 8).length) b17.2.2.1 (m := b17.2.2.2) (f := A17 5) (v := (M.2.1 p1.toNatClampNeg 4).toNatClampNeg) (by omega) hL17.2.2.2.2.2.1 hL17.2.2.2.2.2.2.1 hL17.2.2.2.2.2.2.2.1
        rw [← show M.2.1 p1.toNatClampNeg 4 = nI ((M.2.1 p1.toNatClampNeg 4).toNatClampNeg) from hf4.1] at hc18
        have hq18 : ((((((((([] : List Nat) ++ digs ((M.2.1 p1.toNatClampNeg 0).toNatClampNeg)) ++ [45]) ++ digs ((M.2.1 p1.toNatClampNeg 1).toNatClampNeg)) ++ strs 5) ++ strs 7) ++ digs ((M.2.1 p1.toNatClampNeg 2).toNatClampNeg)) ++ strs 8).length + sb_dg ((M.2.1 p1.toNatClampNeg 4).toNatClampNeg)) ≤ 110 := by have hx := dg_2 (v := (M.2.1 p1.toNatClampNeg 4).toNatClampNeg) (by omega); have := hB17; omega
        refine j_callA h (n := 1) hc18 (xg_V (xr_47 6 rfl) (xr_47 7 rfl) (xr_47 8 rfl) (xr_2 0 rfl) (xr_47 9 rfl)) rfl rfl (by decide +kernel) ⟨Nat.le_of_ble_eq_true rfl, Nat.le_of_ble_eq_true rfl⟩ (330 + 10) ((lensL (va_up G 0 M) X17 A17 b17).2.1 _) rfl rfl rfl rfl (Nat.le_of_ble_eq_true rfl) dX7_describe_121 ⟨by have := kE_le ((((((((([] : List Nat) ++ digs ((M.2.1 p1.toNatClampNeg 0).toNatClampNeg)) ++ [45]) ++ digs ((M.2.1 p1.toNatClampNeg 1).toNatClampNeg)) ++ strs 5) ++ strs 7) ++ digs ((M.2.1 p1.toNatClampNeg 2).toNatClampNeg)) ++ strs 8).length + sb_dg ((M.2.1 p1.toNatClampNeg 4).toNatClampNeg)) b17.2.2.2; show 7 + kE ((((((((([] : List Nat) ++ digs ((M.2.1 p1.toNatClampNeg 0).toNatClampNeg)) ++ [45]) ++ digs ((M.2.1 p1.toNatClampNeg 1).toNatClampNeg)) ++ strs 5) ++ strs 7) ++ digs ((M.2.1 p1.toNatClampNeg 2).toNatClampNeg)) ++ strs 8).length + sb_dg ((M.2.1 p1.toNatClampNeg 4).toNatClampNeg)) b17.2.2.2 ≤ 40; omega, by have := sE_le (m := b17.2.2.2) hq18; show 1554 + sE ((((((((([] : List Nat) ++ digs ((M.2.1 p1.toNatClampNeg 0).toNatClampNeg)) ++ [45]) ++ digs ((M.2.1 p1.toNatClampNeg 1).toNatClampNeg)) ++ strs 5) ++ strs 7) ++ digs ((M.2.1 p1.toNatClampNeg 2).toNatClampNeg)) ++ strs 8).length + sb_dg ((M.2.1 p1.toNatClampNeg 4).toNatClampNeg)) b17.2.2.2 ≤ 8880; omega⟩ (fun r u' hq => ?_)
        obtain ⟨rfl, a18, f18, rfl, g18a, g18b, g18c⟩ := hq
        refine j_widen h (k := 8) (n := 1776) (by have := kE_le ((((((((([] : List Nat) ++ digs ((M.2.1 p1.toNatClampNeg 0).toNatClampNeg)) ++ [45]) ++ digs ((M.2.1 p1.toNatClampNeg 1).toNatClampNeg)) ++ strs 5) ++ strs 7) ++ digs ((M.2.1 p1.toNatClampNeg 2).toNatClampNeg)) ++ strs 8).length + sb_dg ((M.2.1 p1.toNatClampNeg 4).toNatClampNeg)) b17.2.2.2; show 7 + kE ((((((((([] : List Nat) ++ digs ((M.2.1 p1.toNatClampNeg 0).toNatClampNeg)) ++ [45]) ++ digs ((M.2.1 p1.toNatClampNeg 1).toNatClampNeg)) ++ strs 5) ++ strs 7) ++ digs ((M.2.1 p1.toNatClampNeg 2).toNatClampNeg)) ++ strs 8).length + sb_dg ((M.2.1 p1.toNatClampNeg 4).toNatClampNeg)) b17.2.2.2 ≤ 8; omega) (by have := sE_le (m := b17.2.2.2) hq18; show 1554 + sE ((((((((([] : List Nat) ++ digs ((M.2.1 p1.toNatClampNeg 0).toNatClampNeg)) ++ [45]) ++ digs ((M.2.1 p1.toNatClampNeg 1).toNatClampNeg)) ++ strs 5) ++ strs 7) ++ digs ((M.2.1 p1.toNatClampNeg 2).toNatClampNeg)) ++ strs 8).length + sb_dg ((M.2.1 p1.toNatClampNeg 4).toNatClampNeg)) b17.2.2.2 ≤ 1776; omega) ?_
        obtain ⟨X18, A18, b18, e18, hL18⟩ := LK.int (G := (va_up G 0 M)) hL17 hq18 g18a g18b g18c
        refine j_world h (congrArg _ e18) ?_
        have hB18 : ((((((((([] : List Nat) ++ digs ((M.2.1 p1.toNatClampNeg 0).toNatClampNeg)) ++ [45]) ++ digs ((M.2.1 p1.toNatClampNeg 1).toNatClampNeg)) ++ strs 5) ++ strs 7) ++ digs ((M.2.1 p1.toNatClampNeg 2).toNatClampNeg)) ++ strs 8) ++ digs ((M.2.1 p1.toNatClampNeg 4).toNatClampNeg)).length ≤ 17 := by rw [List.length_append, digs_len]; have hx := dg_2 (v := (M.2.1 p1.toNatClampNeg 4).toNatClampNeg) (by omega); have := hB17; omega
        refine j_pop h dX7_describe_124 rfl ?_
        refine j_aload_n h dX7_describe_125 rfl 1 rfl ?_
        refine j_get h inlX7 (330 + 0) (ml_get 0) rfl 0 (by decide) (xr_1 15 rfl) rfl (v := .ref (L 0 0)) rfl dX7_describe_126 ?_
        refine j_iload_n h dX7_describe_129 rfl 2 rfl ?_
        refine j_iconst h (v := 1) dX7_describe_130 (by decide) ?_
        refine j_callI h (n := 2) (c_X1_woodsOn l D cy L _ _ _ _ _ (by decide) _ _ (hG).w) (xg_V (xr_40 18 rfl) (xr_40 19 rfl) (xr_40 20 rfl) (xr_1 14 rfl) (xr_40 21 rfl)) rfl rfl (by decide +kernel) ⟨Nat.le_of_ble_eq_true rfl, Nat.le_of_ble_eq_true rfl⟩ (30 * 0 + 0) (at_G (by decide)) rfl rfl rfl rfl (Nat.le_of_ble_eq_true rfl) dX7_describe_131 ⟨by decide, by decide⟩ (fun z19 u' hq => ?_)
        obtain ⟨hz19, rfl⟩ := hq
        have hly : z19 ≤ nI 8 := hz19 ▸ hW8
        refine j_widen h (k := 8 + 4 * 0) (n := 1776 + 888 * 0) (by show 8 + 0 ≤ 8; omega) (by show 1776 + 0 ≤ 1776; omega) ?_
        refine j_istore_n h (lv' := [(3, _), (2, _), (0, _), (1, _)]) dX7_describe_134 rfl (by decide) rfl ?_
        refine j_iconst h (v := 0) dX7_describe_135 (by decide) ?_
        refine j_istore h (lv' := [(4, _), (3, _), (2, _), (0, _), (1, _)]) dX7_describe_136 (by decide) rfl ?_
        have lp138 : ∀ (n k : Nat) (Tk : List Nat) (Xk : Nat → Int32) (Ak : Nat → Nat → Int32) (bk : cB), n + k = 9 → k ≤ 8 → LK X A b Tk Xk Ak bk → Tk.length ≤ 17 + 8 * k → f_X7_describe M p1 = f_X7_describe_l138 M p1 z19 n k Tk → J ((va_up G 0 M, Xk, Ak), bk) (8 + 4 * k, 1776 + 888 * k) [(0, .ref (L 11 0)), (1, .int p1), (2, .ref (L 0 (4 + p1.toNatClampNeg))), (3, .int z19), (4, .int (nI k))] 138 [] := by
          intro n
          induction n with
          | zero => intro k Tk Xk Ak bk hn hk hLk hBk hf; omega
          | succ n ih =>
            intro k Tk Xk Ak bk hn hk hLk hBk hf
            refine j_iload h dX7_describe_138 4 rfl ?_
            refine j_iload_n h dX7_describe_140 rfl 3 rfl ?_
            refine j_icmp_ge h (tgt := 164) dX7_describe_141 (by decide) (fun c20 => ?_) (fun c20 => ?_)
            · refine j_aload_n h dX7_describe_164 rfl 0 rfl ?_
              refine j_get h inlX7 (330 + 0) (ml_get 0) rfl 8 (by decide) (xr_2 11 rfl) rfl (v := .ref (L 11 10)) rfl dX7_describe_165 ?_
              refine j_world h (u' := putL (va_up G 0 M) Xk Ak bk (Xk 10, nI Tk.length, bk.2.2.1, bk.2.2.2, Ak 5)) (lensL_eq hLk.2.2.2.2.1) ?_
              refine j_callI h (n := 0) (c_J4_length_8abf5 l D cy (lensL (va_up G 0 M) Xk Ak bk) (Xk 10) (nI Tk.length) bk.2.2.1 bk.2.2.2 (Ak 5)) (xg_V (xr_7 17 rfl) (xr_7 18 rfl) (xr_7 19 rfl) (xr_2 0 rfl) (xr_7 20 rfl)) rfl rfl (by decide +kernel) ⟨Nat.le_of_ble_eq_true rfl, Nat.le_of_ble_eq_true rfl⟩ (330 + 10) ((lensL (va_up G 0 M) Xk Ak bk).2.1 _) rfl rfl rfl rfl (Nat.le_of_ble_eq_true rfl) dX7_describe_168 ⟨by show 8 + 4 * k + 0 ≤ 40; omega, by show 1776 + 888 * k + 0 ≤ 8880; omega⟩ (fun r u' hq => ?_)
              obtain ⟨rfl, rfl⟩ := hq
              refine j_world h (u' := ((va_up G 0 M, Xk, Ak), bk)) (lensL_eq hLk.2.2.2.2.1).symm ?_
              refine j_widen h (k := 40) (n := 8880) (by show 8 + 4 * k ≤ 40; omega) (by show 1776 + 888 * k ≤ 8880; omega) ?_
              exact hR _ _ _ _ dX7_describe_171 ⟨(_, _), Eq.symm (hf.trans ((ite_p c20 rfl))), rfl, Or.inr ⟨hz1 ▸ c2, _, _, _, rfl, hLk⟩⟩
            · have hk1 : k < 8 := cnt_lt (by decide) hk hly c20
              refine j_aload_n h dX7_describe_144 rfl 0 rfl ?_
              refine j_aload_n h dX7_describe_145 rfl 0 rfl ?_
              refine j_get h inlX7 (330 + 0) (ml_get 0) rfl 0 (by decide) (xr_1 15 rfl) rfl (v := .ref (L 0 0)) rfl dX7_describe_146 ?_
              refine j_iload_n h dX7_describe_149 rfl 1 rfl ?_
              refine j_iload h dX7_describe_150 4 rfl ?_
              refine j_callI h (n := 2) (c_X1_woodInOrder l D cy L _ _ _ _ _ (by decide) _ _ (hG).w) (xg_V (xr_43 3 rfl) (xr_43 4 rfl) (xr_43 5 rfl) (xr_1 14 rfl) (xr_43 6 rfl)) rfl rfl (by decide +kernel) ⟨Nat.le_of_ble_eq_true rfl, Nat.le_of_ble_eq_true rfl⟩ (30 * 0 + 0) (at_G (by decide)) rfl rfl rfl rfl (Nat.le_of_ble_eq_true rfl) dX7_describe_152 ⟨by show 8 + 4 * k + 0 ≤ 40; omega, by show 1776 + 888 * k + 0 ≤ 8880; omega⟩ (fun z21 u' hq => ?_)
              obtain ⟨hz21, rfl⟩ := hq
              have hq22 : Tk.length ≤ 102 := by have := hBk; omega
              refine j_callV h (n := 1) (c_X7_writeWood l D cy L _ _ _ _ _ _ Tk _ _ _ hLk hq22 hG hDs) (xg_V (xr_50 2 rfl) (xr_50 3 rfl) (xr_50 4 rfl) (xr_1 2 rfl) (xr_50 5 rfl)) rfl rfl (by decide +kernel) ⟨Nat.le_of_ble_eq_true rfl, Nat.le_of_ble_eq_true rfl⟩ (330 + 0) (ml_get 0) rfl rfl rfl rfl (Nat.le_of_ble_eq_true rfl) dX7_describe_155 ⟨by show 8 + 4 * k + 0 + 4 ≤ 40; omega, by show 1776 + 888 * k + 0 + 888 ≤ 8880; omega⟩ (fun u' hq => ?_)
              obtain ⟨z22, hz22, X22, A22, b22, rfl, hL22, hl22⟩ := hq
              refine j_widen h (k := 8 + 4 * (k + 1)) (n := 1776 + 888 * (k + 1)) (by show 8 + 4 * k + 0 + 4 ≤ _; omega) (by show 1776 + 888 * k + 0 + 888 ≤ _; omega) ?_
              have hB22 : z22.length ≤ 17 + 8 * (k + 1) := by have := hBk; omega
              refine j_iinc h (v := nI (k + 1)) (lv' := [(4, _), (0, _), (1, _), (2, _), (3, _)]) dX7_describe_158 (k := 4) rfl (nI_1 k) (by decide) rfl ?_
              refine j_goto h (tgt := 138) dX7_describe_161 (by decide) ?_
              refine j_sub h [1, 2, 3, 4, 0] rfl ?_
              exact ih (k + 1) _ _ _ _ (by omega) (by omega) hL22 hB22 (hf.trans ((ite_n c20 (bd_eq hz21 (bd_eq hz22 rfl)))))
        refine j_sub h [3, 4, 2, 1, 0] rfl ?_
        exact lp138 9 0 _ _ _ _ (by omega) (by omega) hL18 (by have := hB18; omega) ((bd_eq hz1 (ite_n c2 (ite_n c8 (bd_eq hz11 (ite_n c12 (bd_eq hz19 rfl)))))))
    · refine j_aload_n h dX7_describe_68 rfl 1 rfl ?_
      refine j_get h inlX7 (330 + 0) (ml_get 0) rfl 8 (by decide) (xr_2 11 rfl) rfl (v := .ref (L 11 10)) rfl dX7_describe_69 ?_
      refine j_ldcwS h (i := 6) rfl dX7_describe_72 ?_
      refine j_world h (u' := putL (va_up G 0 M) X7 A7 b7 (X7 10, nI ((((([] : List Nat) ++ digs ((M.2.1 p1.toNatClampNeg 0).toNatClampNeg)) ++ [45]) ++ digs ((M.2.1 p1.toNatClampNeg 1).toNatClampNeg)) ++ strs 5).length, b7.2.2.1, b7.2.2.2, A7 5)) (lensL_eq hL7.2.2.2.2.1) ?_
      have hc23 := c_J4_append_15ec4 l D cy (lensL (cy := cy) (L := L) (va_up G 0 M) X7 A7 b7) (X7 10) (n := ((((([] : List Nat) ++ digs ((M.2.1 p1.toNatClampNeg 0).toNatClampNeg)) ++ [45]) ++ digs ((M.2.1 p1.toNatClampNeg 1).toNatClampNeg)) ++ strs 5).length) b7.2.2.1 (m := b7.2.2.2) (f := A7 5) (i := 6) (by decide) hL7.2.2.2.2.2.1 hL7.2.2.2.2.2.2.1 hL7.2.2.2.2.2.2.2.1
      have hq23 : (((((([] : List Nat) ++ digs ((M.2.1 p1.toNatClampNeg 0).toNatClampNeg)) ++ [45]) ++ digs ((M.2.1 p1.toNatClampNeg 1).toNatClampNeg)) ++ strs 5).length + lenS.getD 6 0) ≤ 110 := by have hx : lenS.getD 6 0 = 3 := rfl; have := hB7; omega
      refine j_callA h (n := 1) hc23 (xg_V (xr_48 16 rfl) (xr_48 17 rfl) (xr_48 18 rfl) (xr_2 0 rfl) (xr_48 19 rfl)) rfl rfl (by decide +kernel) ⟨Nat.le_of_ble_eq_true rfl, Nat.le_of_ble_eq_true rfl⟩ (330 + 10) ((lensL (va_up G 0 M) X7 A7 b7).2.1 _) rfl rfl rfl rfl (Nat.le_of_ble_eq_true rfl) dX7_describe_75 ⟨by have := kE_le (((((([] : List Nat) ++ digs ((M.2.1 p1.toNatClampNeg 0).toNatClampNeg)) ++ [45]) ++ digs ((M.2.1 p1.toNatClampNeg 1).toNatClampNeg)) ++ strs 5).length + lenS.getD 6 0) b7.2.2.2; show 4 + kE (((((([] : List Nat) ++ digs ((M.2.1 p1.toNatClampNeg 0).toNatClampNeg)) ++ [45]) ++ digs ((M.2.1 p1.toNatClampNeg 1).toNatClampNeg)) ++ strs 5).length + lenS.getD 6 0) b7.2.2.2 ≤ 40; omega, by have := sE_le (m := b7.2.2.2) hq23; show 888 + sE (((((([] : List Nat) ++ digs ((M.2.1 p1.toNatClampNeg 0).toNatClampNeg)) ++ [45]) ++ digs ((M.2.1 p1.toNatClampNeg 1).toNatClampNeg)) ++ strs 5).length + lenS.getD 6 0) b7.2.2.2 ≤ 8880; omega⟩ (fun r u' hq => ?_)
      obtain ⟨rfl, a23, f23, rfl, g23a, g23b, g23c⟩ := hq
      refine j_widen h (k := 5) (n := 1110) (by have := kE_le (((((([] : List Nat) ++ digs ((M.2.1 p1.toNatClampNeg 0).toNatClampNeg)) ++ [45]) ++ digs ((M.2.1 p1.toNatClampNeg 1).toNatClampNeg)) ++ strs 5).length + lenS.getD 6 0) b7.2.2.2; show 4 + kE (((((([] : List Nat) ++ digs ((M.2.1 p1.toNatClampNeg 0).toNatClampNeg)) ++ [45]) ++ digs ((M.2.1 p1.toNatClampNeg 1).toNatClampNeg)) ++ strs 5).length + lenS.getD 6 0) b7.2.2.2 ≤ 5; omega) (by have := sE_le (m := b7.2.2.2) hq23; show 888 + sE (((((([] : List Nat) ++ digs ((M.2.1 p1.toNatClampNeg 0).toNatClampNeg)) ++ [45]) ++ digs ((M.2.1 p1.toNatClampNeg 1).toNatClampNeg)) ++ strs 5).length + lenS.getD 6 0) b7.2.2.2 ≤ 1110; omega) ?_
      obtain ⟨X23, A23, b23, e23, hL23⟩ := LK.str (G := (va_up G 0 M)) hL7 (i := 6) (by decide) hq23 g23a g23b g23c
      refine j_world h (congrArg _ e23) ?_
      have hB23 : (((((([] : List Nat) ++ digs ((M.2.1 p1.toNatClampNeg 0).toNatClampNeg)) ++ [45]) ++ digs ((M.2.1 p1.toNatClampNeg 1).toNatClampNeg)) ++ strs 5) ++ strs 6).length ≤ 10 := by rw [List.length_append, strs_len]; have hx : lenS.getD 6 0 = 3 := rfl; have := hB7; omega
      refine j_pop h dX7_describe_78 rfl ?_
      refine j_goto h (tgt := 100) dX7_describe_79 (by decide) ?_
      refine j_aload_n h dX7_describe_100 rfl 0 rfl ?_
      refine j_callI h (n := 0) (c_X5_isPlayed l D cy L _ _ _ _ _ (by decide) (by omega)) (xg_V (xr_18 19 rfl) (xr_18 20 rfl) (xr_18 21 rfl) (xr_2 19 rfl) (xr_18 22 rfl)) rfl rfl (by decide +kernel) ⟨Nat.le_of_ble_eq_true rfl, Nat.le_of_ble_eq_true rfl⟩ (30 * 0 + (4 + p1.toNatClampNeg)) (at_R (by decide) (by omega)) rfl rfl rfl rfl (Nat.le_of_ble_eq_true rfl) dX7_describe_101 ⟨by decide, by decide⟩ (fun z24 u' hq => ?_)
      obtain ⟨hz24, rfl, bz24⟩ := hq
      refine j_if_eq h (tgt := 125) dX7_describe_104 (by decide) (fun c25 => ?_) (fun c25 => ?_)
      · refine j_aload_n h dX7_describe_125 rfl 1 rfl ?_
        refine j_get h inlX7 (330 + 0) (ml_get 0) rfl 0 (by decide) (xr_1 15 rfl) rfl (v := .ref (L 0 0)) rfl dX7_describe_126 ?_
        refine j_iload_n h dX7_describe_129 rfl 2 rfl ?_
        refine j_iconst h (v := 1) dX7_describe_130 (by decide) ?_
        refine j_callI h (n := 2) (c_X1_woodsOn l D cy L _ _ _ _ _ (by decide) _ _ (hG).w) (xg_V (xr_40 18 rfl) (xr_40 19 rfl) (xr_40 20 rfl) (xr_1 14 rfl) (xr_40 21 rfl)) rfl rfl (by decide +kernel) ⟨Nat.le_of_ble_eq_true rfl, Nat.le_of_ble_eq_true rfl⟩ (30 * 0 + 0) (at_G (by decide)) rfl rfl rfl rfl (Nat.le_of_ble_eq_true rfl) dX7_describe_131 ⟨by decide, by decide⟩ (fun z26 u' hq => ?_)
        obtain ⟨hz26, rfl⟩ := hq
        have hly : z26 ≤ nI 8 := hz26 ▸ hW8
        refine j_widen h (k := 8 + 4 * 0) (n := 1776 + 888 * 0) (by show 5 + 0 ≤ 8; omega) (by show 1110 + 0 ≤ 1776; omega) ?_
        refine j_istore_n h (lv' := [(3, _), (2, _), (0, _), (1, _)]) dX7_describe_134 rfl (by decide) rfl ?_
        refine j_iconst h (v := 0) dX7_describe_135 (by decide) ?_
        refine j_istore h (lv' := [(4, _), (3, _), (2, _), (0, _), (1, _)]) dX7_describe_136 (by decide) rfl ?_
        have lp138 : ∀ (n k : Nat) (Tk : List Nat) (Xk : Nat → Int32) (Ak : Nat → Nat → Int32) (bk : cB), n + k = 9 → k ≤ 8 → LK X A b Tk Xk Ak bk → Tk.length ≤ 17 + 8 * k → f_X7_describe M p1 = f_X7_describe_l138 M p1 z26 n k Tk → J ((va_up G 0 M, Xk, Ak), bk) (8 + 4 * k, 1776 + 888 * k) [(0, .ref (L 11 0)), (1, .int p1), (2, .ref (L 0 (4 + p1.toNatClampNeg))), (3, .int z26), (4, .int (nI k))] 138 [] := by
          intro n
          induction n with
          | zero => intro k Tk Xk Ak bk hn hk hLk hBk hf; omega
          | succ n ih =>
            intro k Tk Xk Ak bk hn hk hLk hBk hf
            refine j_iload h dX7_describe_138 4 rfl ?_
            refine j_iload_n h dX7_describe_140 rfl 3 rfl ?_
            refine j_icmp_ge h (tgt := 164) dX7_describe_141 (by decide) (fun c27 => ?_) (fun c27 => ?_)
            · refine j_aload_n h dX7_describe_164 rfl 0 rfl ?_
              refine j_get h inlX7 (330 + 0) (ml_get 0) rfl 8 (by decide) (xr_2 11 rfl) rfl (v := .ref (L 11 10)) rfl dX7_describe_165 ?_
              refine j_world h (u' := putL (va_up G 0 M) Xk Ak bk (Xk 10, nI Tk.length, bk.2.2.1, bk.2.2.2, Ak 5)) (lensL_eq hLk.2.2.2.2.1) ?_
              refine j_callI h (n := 0) (c_J4_length_8abf5 l D cy (lensL (va_up G 0 M) Xk Ak bk) (Xk 10) (nI Tk.length) bk.2.2.1 bk.2.2.2 (Ak 5)) (xg_V (xr_7 17 rfl) (xr_7 18 rfl) (xr_7 19 rfl) (xr_2 0 rfl) (xr_7 20 rfl)) rfl rfl (by decide +kernel) ⟨Nat.le_of_ble_eq_true rfl, Nat.le_of_ble_eq_true rfl⟩ (330 + 10) ((lensL (va_up G 0 M) Xk Ak bk).2.1 _) rfl rfl rfl rfl (Nat.le_of_ble_eq_true rfl) dX7_describe_168 ⟨by show 8 + 4 * k + 0 ≤ 40; omega, by show 1776 + 888 * k + 0 ≤ 8880; omega⟩ (fun r u' hq => ?_)
              obtain ⟨rfl, rfl⟩ := hq
              refine j_world h (u' := ((va_up G 0 M, Xk, Ak), bk)) (lensL_eq hLk.2.2.2.2.1).symm ?_
              refine j_widen h (k := 40) (n := 8880) (by show 8 + 4 * k ≤ 40; omega) (by show 1776 + 888 * k ≤ 8880; omega) ?_
              exact hR _ _ _ _ dX7_describe_171 ⟨(_, _), Eq.symm (hf.trans ((ite_p c27 rfl))), rfl, Or.inr ⟨hz1 ▸ c2, _, _, _, rfl, hLk⟩⟩
            · have hk1 : k < 8 := cnt_lt (by decide) hk hly c27
              refine j_aload_n h dX7_describe_144 rfl 0 rfl ?_
              refine j_aload_n h dX7_describe_145 rfl 0 rfl ?_
              refine j_get h inlX7 (330 + 0) (ml_get 0) rfl 0 (by decide) (xr_1 15 rfl) rfl (v := .ref (L 0 0)) rfl dX7_describe_146 ?_
              refine j_iload_n h dX7_describe_149 rfl 1 rfl ?_
              refine j_iload h dX7_describe_150 4 rfl ?_
              refine j_callI h (n := 2) (c_X1_woodInOrder l D cy L _ _ _ _ _ (by decide) _ _ (hG).w) (xg_V (xr_43 3 rfl) (xr_43 4 rfl) (xr_43 5 rfl) (xr_1 14 rfl) (xr_43 6 rfl)) rfl rfl (by decide +kernel) ⟨Nat.le_of_ble_eq_true rfl, Nat.le_of_ble_eq_true rfl⟩ (30 * 0 + 0) (at_G (by decide)) rfl rfl rfl rfl (Nat.le_of_ble_eq_true rfl) dX7_describe_152 ⟨by show 8 + 4 * k + 0 ≤ 40; omega, by show 1776 + 888 * k + 0 ≤ 8880; omega⟩ (fun z28 u' hq => ?_)
              obtain ⟨hz28, rfl⟩ := hq
              have hq29 : Tk.length ≤ 102 := by have := hBk; omega
              refine j_callV h (n := 1) (c_X7_writeWood l D cy L _ _ _ _ _ _ Tk _ _ _ hLk hq29 hG hDs) (xg_V (xr_50 2 rfl) (xr_50 3 rfl) (xr_50 4 rfl) (xr_1 2 rfl) (xr_50 5 rfl)) rfl rfl (by decide +kernel) ⟨Nat.le_of_ble_eq_true rfl, Nat.le_of_ble_eq_true rfl⟩ (330 + 0) (ml_get 0) rfl rfl rfl rfl (Nat.le_of_ble_eq_true rfl) dX7_describe_155 ⟨by show 8 + 4 * k + 0 + 4 ≤ 40; omega, by show 1776 + 888 * k + 0 + 888 ≤ 8880; omega⟩ (fun u' hq => ?_)
              obtain ⟨z29, hz29, X29, A29, b29, rfl, hL29, hl29⟩ := hq
              refine j_widen h (k := 8 + 4 * (k + 1)) (n := 1776 + 888 * (k + 1)) (by show 8 + 4 * k + 0 + 4 ≤ _; omega) (by show 1776 + 888 * k + 0 + 888 ≤ _; omega) ?_
              have hB29 : z29.length ≤ 17 + 8 * (k + 1) := by have := hBk; omega
              refine j_iinc h (v := nI (k + 1)) (lv' := [(4, _), (0, _), (1, _), (2, _), (3, _)]) dX7_describe_158 (k := 4) rfl (nI_1 k) (by decide) rfl ?_
              refine j_goto h (tgt := 138) dX7_describe_161 (by decide) ?_
              refine j_sub h [1, 2, 3, 4, 0] rfl ?_
              exact ih (k + 1) _ _ _ _ (by omega) (by omega) hL29 hB29 (hf.trans ((ite_n c27 (bd_eq hz28 (bd_eq hz29 rfl)))))
        refine j_sub h [3, 4, 2, 1, 0] rfl ?_
        exact lp138 9 0 _ _ _ _ (by omega) (by omega) hL23 (by have := hB23; omega) ((bd_eq hz1 (ite_n c2 (ite_p c8 (bd_eq hz24 (ite_p c25 (bd_eq hz26 rfl)))))))
      · refine j_aload_n h dX7_describe_107 rfl 1 rfl ?_
        refine j_get h inlX7 (330 + 0) (ml_get 0) rfl 8 (by decide) (xr_2 11 rfl) rfl (v := .ref (L 11 10)) rfl dX7_describe_108 ?_
        refine j_ldcwS h (i := 8) rfl dX7_describe_111 ?_
        refine j_world h (u' := putL (va_up G 0 M) X23 A23 b23 (X23 10, nI (((((([] : List Nat) ++ digs ((M.2.1 p1.toNatClampNeg 0).toNatClampNeg)) ++ [45]) ++ digs ((M.2.1 p1.toNatClampNeg 1).toNatClampNeg)) ++ strs 5) ++ strs 6).length, b23.2.2.1, b23.2.2.2, A23 5)) (lensL_eq hL23.2.2.2.2.1) ?_
        have hc30 := c_J4_append_15ec4 l D cy (lensL (cy := cy) (L := L) (va_up G 0 M) X23 A23 b23) (X23 10) (n := (((((([] : List Nat) ++ digs ((M.2.1 p1.toNatClampNeg 0).toNatClampNeg)) ++ [45]) ++ digs ((M.2.1 p1.toNatClampNeg 1).toNatClampNeg)) ++ strs 5) ++ strs 6).length) b23.2.2.1 (m := b23.2.2.2) (f := A23 5) (i := 8) (by decide) hL23.2.2.2.2.2.1 hL23.2.2.2.2.2.2.1 hL23.2.2.2.2.2.2.2.1
        have hq30 : ((((((([] : List Nat) ++ digs ((M.2.1 p1.toNatClampNeg 0).toNatClampNeg)) ++ [45]) ++ digs ((M.2.1 p1.toNatClampNeg 1).toNatClampNeg)) ++ strs 5) ++ strs 6).length + lenS.getD 8 0) ≤ 110 := by have hx : lenS.getD 8 0 = 2 := rfl; have := hB23; omega
        refine j_callA h (n := 1) hc30 (xg_V (xr_48 16 rfl) (xr_48 17 rfl) (xr_48 18 rfl) (xr_2 0 rfl) (xr_48 19 rfl)) rfl rfl (by decide +kernel) ⟨Nat.le_of_ble_eq_true rfl, Nat.le_of_ble_eq_true rfl⟩ (330 + 10) ((lensL (va_up G 0 M) X23 A23 b23).2.1 _) rfl rfl rfl rfl (Nat.le_of_ble_eq_true rfl) dX7_describe_114 ⟨by have := kE_le ((((((([] : List Nat) ++ digs ((M.2.1 p1.toNatClampNeg 0).toNatClampNeg)) ++ [45]) ++ digs ((M.2.1 p1.toNatClampNeg 1).toNatClampNeg)) ++ strs 5) ++ strs 6).length + lenS.getD 8 0) b23.2.2.2; show 5 + kE ((((((([] : List Nat) ++ digs ((M.2.1 p1.toNatClampNeg 0).toNatClampNeg)) ++ [45]) ++ digs ((M.2.1 p1.toNatClampNeg 1).toNatClampNeg)) ++ strs 5) ++ strs 6).length + lenS.getD 8 0) b23.2.2.2 ≤ 40; omega, by have := sE_le (m := b23.2.2.2) hq30; show 1110 + sE ((((((([] : List Nat) ++ digs ((M.2.1 p1.toNatClampNeg 0).toNatClampNeg)) ++ [45]) ++ digs ((M.2.1 p1.toNatClampNeg 1).toNatClampNeg)) ++ strs 5) ++ strs 6).length + lenS.getD 8 0) b23.2.2.2 ≤ 8880; omega⟩ (fun r u' hq => ?_)
        obtain ⟨rfl, a30, f30, rfl, g30a, g30b, g30c⟩ := hq
        refine j_widen h (k := 6) (n := 1332) (by have := kE_le ((((((([] : List Nat) ++ digs ((M.2.1 p1.toNatClampNeg 0).toNatClampNeg)) ++ [45]) ++ digs ((M.2.1 p1.toNatClampNeg 1).toNatClampNeg)) ++ strs 5) ++ strs 6).length + lenS.getD 8 0) b23.2.2.2; show 5 + kE ((((((([] : List Nat) ++ digs ((M.2.1 p1.toNatClampNeg 0).toNatClampNeg)) ++ [45]) ++ digs ((M.2.1 p1.toNatClampNeg 1).toNatClampNeg)) ++ strs 5) ++ strs 6).length + lenS.getD 8 0) b23.2.2.2 ≤ 6; omega) (by have := sE_le (m := b23.2.2.2) hq30; show 1110 + sE ((((((([] : List Nat) ++ digs ((M.2.1 p1.toNatClampNeg 0).toNatClampNeg)) ++ [45]) ++ digs ((M.2.1 p1.toNatClampNeg 1).toNatClampNeg)) ++ strs 5) ++ strs 6).length + lenS.getD 8 0) b23.2.2.2 ≤ 1332; omega) ?_
        obtain ⟨X30, A30, b30, e30, hL30⟩ := LK.str (G := (va_up G 0 M)) hL23 (i := 8) (by decide) hq30 g30a g30b g30c
        refine j_world h (congrArg _ e30) ?_
        have hB30 : ((((((([] : List Nat) ++ digs ((M.2.1 p1.toNatClampNeg 0).toNatClampNeg)) ++ [45]) ++ digs ((M.2.1 p1.toNatClampNeg 1).toNatClampNeg)) ++ strs 5) ++ strs 6) ++ strs 8).length ≤ 12 := by rw [List.length_append, strs_len]; have hx : lenS.getD 8 0 = 2 := rfl; have := hB23; omega
        refine j_aload_n h dX7_describe_117 rfl 0 rfl ?_
        refine j_get h inlX5 (30 * 0 + (4 + p1.toNatClampNeg)) (at_R (by decide) (by omega)) rfl 4 (by decide) (xr_18 12 rfl) rfl (v := .int (M.2.1 p1.toNatClampNeg 4)) rfl dX7_describe_118 ?_
        refine j_world h (u' := putL (va_up G 0 M) X30 A30 b30 (X30 10, nI ((((((([] : List Nat) ++ digs ((M.2.1 p1.toNatClampNeg 0).toNatClampNeg)) ++ [45]) ++ digs ((M.2.1 p1.toNatClampNeg 1).toNatClampNeg)) ++ strs 5) ++ strs 6) ++ strs 8).length, b30.2.2.1, b30.2.2.2, A30 5)) (lensL_eq hL30.2.2.2.2.1) ?_
        have hc31 := c_J4_append_bf812 l D cy (lensL (cy := cy) (L := L) (va_up G 0 M) X30 A30 b30) (X30 10) (n := ((((((([] : List Nat) ++ digs ((M.2.1 p1.toNatClampNeg 0).toNatClampNeg)) ++ [45]) ++ digs ((M.2.1 p1.toNatClampNeg 1).toNatClampNeg)) ++ strs 5) ++ strs 6) ++ strs 8).length) b30.2.2.1 (m := b30.2.2.2) (f := A30 5) (v := (M.2.1 p1.toNatClampNeg 4).toNatClampNeg) (by omega) hL30.2.2.2.2.2.1 hL30.2.2.2.2.2.2.1 hL30.2.2.2.2.2.2.2.1
        rw [← show M.2.1 p1.toNatClampNeg 4 = nI ((M.2.1 p1.toNatClampNeg 4).toNatClampNeg) from hf4.1] at hc31
        have hq31 : (((((((([] : List Nat) ++ digs ((M.2.1 p1.toNatClampNeg 0).toNatClampNeg)) ++ [45]) ++ digs ((M.2.1 p1.toNatClampNeg 1).toNatClampNeg)) ++ strs 5) ++ strs 6) ++ strs 8).length + sb_dg ((M.2.1 p1.toNatClampNeg 4).toNatClampNeg)) ≤ 110 := by have hx := dg_2 (v := (M.2.1 p1.toNatClampNeg 4).toNatClampNeg) (by omega); have := hB30; omega
        refine j_callA h (n := 1) hc31 (xg_V (xr_47 6 rfl) (xr_47 7 rfl) (xr_47 8 rfl) (xr_2 0 rfl) (xr_47 9 rfl)) rfl rfl (by decide +kernel) ⟨Nat.le_of_ble_eq_true rfl, Nat.le_of_ble_eq_true rfl⟩ (330 + 10) ((lensL (va_up G 0 M) X30 A30 b30).2.1 _) rfl rfl rfl rfl (Nat.le_of_ble_eq_true rfl) dX7_describe_121 ⟨by have := kE_le (((((((([] : List Nat) ++ digs ((M.2.1 p1.toNatClampNeg 0).toNatClampNeg)) ++ [45]) ++ digs ((M.2.1 p1.toNatClampNeg 1).toNatClampNeg)) ++ strs 5) ++ strs 6) ++ strs 8).length + sb_dg ((M.2.1 p1.toNatClampNeg 4).toNatClampNeg)) b30.2.2.2; show 6 + kE (((((((([] : List Nat) ++ digs ((M.2.1 p1.toNatClampNeg 0).toNatClampNeg)) ++ [45]) ++ digs ((M.2.1 p1.toNatClampNeg 1).toNatClampNeg)) ++ strs 5) ++ strs 6) ++ strs 8).length + sb_dg ((M.2.1 p1.toNatClampNeg 4).toNatClampNeg)) b30.2.2.2 ≤ 40; omega, by have := sE_le (m := b30.2.2.2) hq31; show 1332 + sE (((((((([] : List Nat) ++ digs ((M.2.1 p1.toNatClampNeg 0).toNatClampNeg)) ++ [45]) ++ digs ((M.2.1 p1.toNatClampNeg 1).toNatClampNeg)) ++ strs 5) ++ strs 6) ++ strs 8).length + sb_dg ((M.2.1 p1.toNatClampNeg 4).toNatClampNeg)) b30.2.2.2 ≤ 8880; omega⟩ (fun r u' hq => ?_)
        obtain ⟨rfl, a31, f31, rfl, g31a, g31b, g31c⟩ := hq
        refine j_widen h (k := 7) (n := 1554) (by have := kE_le (((((((([] : List Nat) ++ digs ((M.2.1 p1.toNatClampNeg 0).toNatClampNeg)) ++ [45]) ++ digs ((M.2.1 p1.toNatClampNeg 1).toNatClampNeg)) ++ strs 5) ++ strs 6) ++ strs 8).length + sb_dg ((M.2.1 p1.toNatClampNeg 4).toNatClampNeg)) b30.2.2.2; show 6 + kE (((((((([] : List Nat) ++ digs ((M.2.1 p1.toNatClampNeg 0).toNatClampNeg)) ++ [45]) ++ digs ((M.2.1 p1.toNatClampNeg 1).toNatClampNeg)) ++ strs 5) ++ strs 6) ++ strs 8).length + sb_dg ((M.2.1 p1.toNatClampNeg 4).toNatClampNeg)) b30.2.2.2 ≤ 7; omega) (by have := sE_le (m := b30.2.2.2) hq31; show 1332 + sE (((((((([] : List Nat) ++ digs ((M.2.1 p1.toNatClampNeg 0).toNatClampNeg)) ++ [45]) ++ digs ((M.2.1 p1.toNatClampNeg 1).toNatClampNeg)) ++ strs 5) ++ strs 6) ++ strs 8).length + sb_dg ((M.2.1 p1.toNatClampNeg 4).toNatClampNeg)) b30.2.2.2 ≤ 1554; omega) ?_
        obtain ⟨X31, A31, b31, e31, hL31⟩ := LK.int (G := (va_up G 0 M)) hL30 hq31 g31a g31b g31c
        refine j_world h (congrArg _ e31) ?_
        have hB31 : (((((((([] : List Nat) ++ digs ((M.2.1 p1.toNatClampNeg 0).toNatClampNeg)) ++ [45]) ++ digs ((M.2.1 p1.toNatClampNeg 1).toNatClampNeg)) ++ strs 5) ++ strs 6) ++ strs 8) ++ digs ((M.2.1 p1.toNatClampNeg 4).toNatClampNeg)).length ≤ 14 := by rw [List.length_append, digs_len]; have hx := dg_2 (v := (M.2.1 p1.toNatClampNeg 4).toNatClampNeg) (by omega); have := hB30; omega
        refine j_pop h dX7_describe_124 rfl ?_
        refine j_aload_n h dX7_describe_125 rfl 1 rfl ?_
        refine j_get h inlX7 (330 + 0) (ml_get 0) rfl 0 (by decide) (xr_1 15 rfl) rfl (v := .ref (L 0 0)) rfl dX7_describe_126 ?_
        refine j_iload_n h dX7_describe_129 rfl 2 rfl ?_
        refine j_iconst h (v := 1) dX7_describe_130 (by decide) ?_
        refine j_callI h (n := 2) (c_X1_woodsOn l D cy L _ _ _ _ _ (by decide) _ _ (hG).w) (xg_V (xr_40 18 rfl) (xr_40 19 rfl) (xr_40 20 rfl) (xr_1 14 rfl) (xr_40 21 rfl)) rfl rfl (by decide +kernel) ⟨Nat.le_of_ble_eq_true rfl, Nat.le_of_ble_eq_true rfl⟩ (30 * 0 + 0) (at_G (by decide)) rfl rfl rfl rfl (Nat.le_of_ble_eq_true rfl) dX7_describe_131 ⟨by decide, by decide⟩ (fun z32 u' hq => ?_)
        obtain ⟨hz32, rfl⟩ := hq
        have hly : z32 ≤ nI 8 := hz32 ▸ hW8
        refine j_widen h (k := 8 + 4 * 0) (n := 1776 + 888 * 0) (by show 7 + 0 ≤ 8; omega) (by show 1554 + 0 ≤ 1776; omega) ?_
        refine j_istore_n h (lv' := [(3, _), (2, _), (0, _), (1, _)]) dX7_describe_134 rfl (by decide) rfl ?_
        refine j_iconst h (v := 0) dX7_describe_135 (by decide) ?_
        refine j_istore h (lv' := [(4, _), (3, _), (2, _), (0, _), (1, _)]) dX7_describe_136 (by decide) rfl ?_
        have lp138 : ∀ (n k : Nat) (Tk : List Nat) (Xk : Nat → Int32) (Ak : Nat → Nat → Int32) (bk : cB), n + k = 9 → k ≤ 8 → LK X A b Tk Xk Ak bk → Tk.length ≤ 17 + 8 * k → f_X7_describe M p1 = f_X7_describe_l138 M p1 z32 n k Tk → J ((va_up G 0 M, Xk, Ak), bk) (8 + 4 * k, 1776 + 888 * k) [(0, .ref (L 11 0)), (1, .int p1), (2, .ref (L 0 (4 + p1.toNatClampNeg))), (3, .int z32), (4, .int (nI k))] 138 [] := by
          intro n
          induction n with
          | zero => intro k Tk Xk Ak bk hn hk hLk hBk hf; omega
          | succ n ih =>
            intro k Tk Xk Ak bk hn hk hLk hBk hf
            refine j_iload h dX7_describe_138 4 rfl ?_
            refine j_iload_n h dX7_describe_140 rfl 3 rfl ?_
            refine j_icmp_ge h (tgt := 164) dX7_describe_141 (by decide) (fun c33 => ?_) (fun c33 => ?_)
            · refine j_aload_n h dX7_describe_164 rfl 0 rfl ?_
              refine j_get h inlX7 (330 + 0) (ml_get 0) rfl 8 (by decide) (xr_2 11 rfl) rfl (v := .ref (L 11 10)) rfl dX7_describe_165 ?_
              refine j_world h (u' := putL (va_up G 0 M) Xk Ak bk (Xk 10, nI Tk.length, bk.2.2.1, bk.2.2.2, Ak 5)) (lensL_eq hLk.2.2.2.2.1) ?_
              refine j_callI h (n := 0) (c_J4_length_8abf5 l D cy (lensL (va_up G 0 M) Xk Ak bk) (Xk 10) (nI Tk.length) bk.2.2.1 bk.2.2.2 (Ak 5)) (xg_V (xr_7 17 rfl) (xr_7 18 rfl) (xr_7 19 rfl) (xr_2 0 rfl) (xr_7 20 rfl)) rfl rfl (by decide +kernel) ⟨Nat.le_of_ble_eq_true rfl, Nat.le_of_ble_eq_true rfl⟩ (330 + 10) ((lensL (va_up G 0 M) Xk Ak bk).2.1 _) rfl rfl rfl rfl (Nat.le_of_ble_eq_true rfl) dX7_describe_168 ⟨by show 8 + 4 * k + 0 ≤ 40; omega, by show 1776 + 888 * k + 0 ≤ 8880; omega⟩ (fun r u' hq => ?_)
              obtain ⟨rfl, rfl⟩ := hq
              refine j_world h (u' := ((va_up G 0 M, Xk, Ak), bk)) (lensL_eq hLk.2.2.2.2.1).symm ?_
              refine j_widen h (k := 40) (n := 8880) (by show 8 + 4 * k ≤ 40; omega) (by show 1776 + 888 * k ≤ 8880; omega) ?_
              exact hR _ _ _ _ dX7_describe_171 ⟨(_, _), Eq.symm (hf.trans ((ite_p c33 rfl))), rfl, Or.inr ⟨hz1 ▸ c2, _, _, _, rfl, hLk⟩⟩
            · have hk1 : k < 8 := cnt_lt (by decide) hk hly c33
              refine j_aload_n h dX7_describe_144 rfl 0 rfl ?_
              refine j_aload_n h dX7_describe_145 rfl 0 rfl ?_
              refine j_get h inlX7 (330 + 0) (ml_get 0) rfl 0 (by decide) (xr_1 15 rfl) rfl (v := .ref (L 0 0)) rfl dX7_describe_146 ?_
              refine j_iload_n h dX7_describe_149 rfl 1 rfl ?_
              refine j_iload h dX7_describe_150 4 rfl ?_
              refine j_callI h (n := 2) (c_X1_woodInOrder l D cy L _ _ _ _ _ (by decide) _ _ (hG).w) (xg_V (xr_43 3 rfl) (xr_43 4 rfl) (xr_43 5 rfl) (xr_1 14 rfl) (xr_43 6 rfl)) rfl rfl (by decide +kernel) ⟨Nat.le_of_ble_eq_true rfl, Nat.le_of_ble_eq_true rfl⟩ (30 * 0 + 0) (at_G (by decide)) rfl rfl rfl rfl (Nat.le_of_ble_eq_true rfl) dX7_describe_152 ⟨by show 8 + 4 * k + 0 ≤ 40; omega, by show 1776 + 888 * k + 0 ≤ 8880; omega⟩ (fun z34 u' hq => ?_)
              obtain ⟨hz34, rfl⟩ := hq
              have hq35 : Tk.length ≤ 102 := by have := hBk; omega
              refine j_callV h (n := 1) (c_X7_writeWood l D cy L _ _ _ _ _ _ Tk _ _ _ hLk hq35 hG hDs) (xg_V (xr_50 2 rfl) (xr_50 3 rfl) (xr_50 4 rfl) (xr_1 2 rfl) (xr_50 5 rfl)) rfl rfl (by decide +kernel) ⟨Nat.le_of_ble_eq_true rfl, Nat.le_of_ble_eq_true rfl⟩ (330 + 0) (ml_get 0) rfl rfl rfl rfl (Nat.le_of_ble_eq_true rfl) dX7_describe_155 ⟨by show 8 + 4 * k + 0 + 4 ≤ 40; omega, by show 1776 + 888 * k + 0 + 888 ≤ 8880; omega⟩ (fun u' hq => ?_)
              obtain ⟨z35, hz35, X35, A35, b35, rfl, hL35, hl35⟩ := hq
              refine j_widen h (k := 8 + 4 * (k + 1)) (n := 1776 + 888 * (k + 1)) (by show 8 + 4 * k + 0 + 4 ≤ _; omega) (by show 1776 + 888 * k + 0 + 888 ≤ _; omega) ?_
              have hB35 : z35.length ≤ 17 + 8 * (k + 1) := by have := hBk; omega
              refine j_iinc h (v := nI (k + 1)) (lv' := [(4, _), (0, _), (1, _), (2, _), (3, _)]) dX7_describe_158 (k := 4) rfl (nI_1 k) (by decide) rfl ?_
              refine j_goto h (tgt := 138) dX7_describe_161 (by decide) ?_
              refine j_sub h [1, 2, 3, 4, 0] rfl ?_
              exact ih (k + 1) _ _ _ _ (by omega) (by omega) hL35 hB35 (hf.trans ((ite_n c33 (bd_eq hz34 (bd_eq hz35 rfl)))))
        refine j_sub h [3, 4, 2, 1, 0] rfl ?_
        exact lp138 9 0 _ _ _ _ (by omega) (by omega) hL31 (by have := hB31; omega) ((bd_eq hz1 (ite_n c2 (ite_p c8 (bd_eq hz24 (ite_n c25 (bd_eq hz32 rfl)))))))
  · refine j_iconst h (v := (-1)) dX7_describe_11 (by decide) ?_
    refine j_widen h (k := 40) (n := 8880) (by show 0 ≤ 40; omega) (by show 0 ≤ 8880; omega) ?_
    exact hR _ _ _ _ dX7_describe_12 ⟨(_, _), Eq.symm ((bd_eq hz1 (ite_p c2 rfl))), rfl, Or.inl ⟨rfl, hz1 ▸ c2, rfl⟩⟩

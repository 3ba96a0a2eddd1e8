/-- of the numbers, nothing but the reading's three and the reasons' two has changed -/
def FP (X0 X : Nat → Int32) : Prop := (∀ k, k ≠ 10 → k ≠ 11 → k ≠ 13 → k ≠ 16 → k ≠ 17 → X k = X0 k) ∧ (vp_in (X0 16) 4 → vp_in (X 16) 4)
theorem FP.rf {X : Nat → Int32} : FP X X := ⟨fun _ _ _ _ _ _ => rfl, fun h => h⟩
theorem FP.y {X Y Z : Nat → Int32} (h : FP X Y) (g : FY Y Z) : FP X Z := ⟨fun k a b c d e => (g.1 k a b c).trans (h.1 k a b c d e), fun q => by rw [g.1 16 (by omega) (by omega) (by omega)]; exact h.2 q⟩
theorem FP.x {X Y Z : Nat → Int32} (h : FP X Y) (g : FX Y Z) : FP X Z := ⟨fun k a b c d e => (g.1 k d e).trans (h.1 k a b c d e), fun q => g.2 (h.2 q)⟩
theorem FP.t {X Y : Nat → Int32} {v : Int32} (h : FP X Y) : FP X (upd Y 10 v) := ⟨fun k a b c d e => by rw [upd_ne _ _ a]; exact h.1 k a b c d e, fun q => by rw [upd_ne _ _ (by omega)]; exact h.2 q⟩
theorem TI0 {X : Nat → Int32} (h : vp_in (X 9) 61) : TI (upd X 10 0) := by
  refine ⟨?_, ?_, ?_⟩
  · rw [upd_ne _ _ (by omega)]; exact h
  · rw [upd_eq]; exact vp_in_nI (n := 0) (by decide) (by decide)
  · rw [upd_eq, upd_ne _ _ (by omega)]
    obtain ⟨j, hj, e⟩ := vp_in_of h (by decide)
    rw [e]; exact nI_le (a := 0) (by omega) (by omega)
theorem TI.fx {X Y : Nat → Int32} (h : TI X) (g : FX X Y) : TI Y := by
  refine ⟨?_, ?_, ?_⟩
  · rw [g.1 9 (by omega) (by omega)]; exact h.1
  · rw [g.1 10 (by omega) (by omega)]; exact h.2.1
  · rw [g.1 9 (by omega) (by omega), g.1 10 (by omega) (by omega)]; exact h.2.2
theorem l1_z {X : Nat → Int32} {b : Int32} (hT : TI X) (hm : 62 ≤ (X 10).toNatClampNeg + 0 ∨ (b = 0 ∧ 1 ≤ 0)) : False := by
  have := vp_lt hT.2.1
  rcases hm with h | h <;> omega
theorem l1_f {X : Nat → Int32} {b : Int32} {n : Nat} (hT : TI X) (hm : 62 ≤ (X 10).toNatClampNeg + (n + 1) ∨ (b = 0 ∧ 1 ≤ n + 1)) (c : ¬ b = 0) {Y : Nat → Int32} : 62 ≤ (Y 10).toNatClampNeg + n ∨ ((0 : Int32) = 0 ∧ 1 ≤ n) := by
  have := vp_lt hT.2.1
  rcases hm with h | h
  · exact Or.inr ⟨rfl, by omega⟩
  · exact absurd h.1 c
theorem l1_t {X Y : Nat → Int32} {b b' : Int32} {n : Nat} (hm : 62 ≤ (X 10).toNatClampNeg + (n + 1) ∨ (b = 0 ∧ 1 ≤ n + 1)) (c : ¬ b = 0) (h : (X 10).toNatClampNeg + 1 ≤ (Y 10).toNatClampNeg) : 62 ≤ (Y 10).toNatClampNeg + n ∨ (b' = 0 ∧ 1 ≤ n) := by
  rcases hm with q | q
  · exact Or.inl (by omega)
  · exact absurd q.1 c

theorem l2_le {X Y Z W : Nat → Int32} (a : (X 10).toNatClampNeg ≤ (Y 10).toNatClampNeg) (b : FX Y Z) (c : (Z 10).toNatClampNeg + 1 ≤ (W 10).toNatClampNeg) : (X 10).toNatClampNeg + 1 ≤ (W 10).toNatClampNeg := by
  rw [b.1 10 (by omega) (by omega)] at c
  omega
theorem hD_y {X Y : Nat → Int32} {r : Int32} (h : r = -3 → vp_in (X 16) 3) (g : FY X Y) : r = -3 → vp_in (Y 16) 3 := fun q => by rw [g.1 16 (by omega) (by omega) (by omega)]; exact h q

def f_X8_script_l14  : Nat → Int32 → (Nat → Int32) → (Nat → Nat → Int32) → Int32 × (Nat → Int32) × (Nat → Nat → Int32)
  | 0, is, Xk, Ak => (is, Xk, Ak)
  | n + 1, is, Xk, Ak =>
    if is = 0 then
      (is, Xk, Ak)
    else
      if (Xk 9) ≤ (Xk 10) then
        (is, Xk, Ak)
      else
        bd (f_X8_isNext Xk Ak 59) fun z5 =>
        if z5.1 = 0 then
          f_X8_script_l14 n 0 z5.2 Ak
        else
          bd (f_X8_isOrder z5.2 Ak) fun z7 =>
          if z7.1 = 0 then
            f_X8_script_l14 n 0 z7.2.1 z7.2.2
          else
            f_X8_script_l14 n 1 z7.2.1 z7.2.2
def f_X8_script_l86  : Nat → Int32 → Int32 → Int32 → Int32 → (Nat → Int32) → (Nat → Nat → Int32) → Int32 × Int32 × Int32 × Int32 × (Nat → Int32) × (Nat → Nat → Int32)
  | 0, is, cn, no, more, Xk, Ak => (is, cn, no, more, Xk, Ak)
  | n + 1, is, cn, no, more, Xk, Ak =>
    if more = 0 then
      (is, cn, no, more, Xk, Ak)
    else
      bd (f_X8_isOrder Xk Ak) fun z12 =>
      bd (f_X8_carries z12.2.1 z12.2.2) fun z13 =>
      if z13.1 = 0 then
        bd (f_X8_isNext z13.2.1 z13.2.2 59) fun z17 =>
        if z17.1 = 0 then
          f_X8_script_l86 n z12.1 (cn + 1) z13.1 0 z17.2 z13.2.2
        else
          f_X8_script_l86 n z12.1 (cn + 1) z13.1 1 z17.2 z13.2.2
      else
        f_X8_script_l86 n z12.1 cn z13.1 0 z13.2.1 z13.2.2
def f_X8_script (X : Nat → Int32) (A : Nat → Nat → Int32) : Int32 × (Nat → Int32) × (Nat → Nat → Int32) :=
  bd (f_X8_tries X A) fun z1 =>
  bd (f_X8_isOrder (upd X 10 0) z1) fun z2 =>
  bd (f_X8_script_l14 63 z2.1 z2.2.1 z2.2.2) fun z9 =>
  if z9.1 = 0 then
    ((-2), (upd (upd z9.2.1 9 0) 14 ((upd z9.2.1 9 0) 10), z9.2.2))
  else
    bd (f_X8_script_l86 63 z9.1 0 0 1 (upd z9.2.1 10 0) z9.2.2) fun z19 =>
    if z19.2.2.1 = 0 then
      bd (f_X8_keeps (upd z19.2.2.2.2.1 9 0) z19.2.2.2.2.2 z19.2.1) fun z25 =>
      (z25.1, (z25.2.1, z25.2.2))
    else
      bd (f_X8_comesBack (upd z19.2.2.2.2.1 9 0) z19.2.2.2.2.2) fun z21 =>
      if z19.2.2.1 = (-3) then
        bd (f_X8_refusesBy (upd z19.2.2.2.2.1 9 0) z21 12 z19.2.1) fun z24 =>
        (z24.1, (z24.2.1, z24.2.2))
      else
        bd (f_X8_refuses (upd z19.2.2.2.2.1 9 0) z21 12 z19.2.1) fun z23 =>
        (z23.1, (z23.2.1, z23.2.2))
abbrev rm_X8_script : Room := { frames := 7, cells := 0, slots := 0, locals := 162 }
set_option maxRecDepth 100000 in
set_option maxHeartbeats 4000000 in
theorem c_X8_script (l : Launch) (D : gD) (cy : Nat → ClassId) (ad : Nat → Nat) (X : Nat → Int32) (A : Nat → Nat → Int32) (hI : MI A) (hU : vp_in (X 3) 9) (hLn : vp_in (X 9) 61) : CtI l D cy (MW cy ad) yX8_script cX8_script 5 (some .int) rm_X8_script [.ref (ad 0)] (X, A) (fun rv u => ∃ z : Int32 × ((Nat → Int32) × (Nat → Nat → Int32)), z = f_X8_script X A ∧ rv = z.1 ∧ u = z.2) 0 0 := by
  refine m_entI cX8_script 5 (by decide) (Nat.le_of_ble_eq_true rfl) (fun J h hR => ?_)
  show J (X, A) (0, 0) [(0, .ref (ad 0))] 0 []
  refine j_aload_n h dX8_script_0 rfl 0 rfl ?_
  refine j_callV h (n := 0) (c_X8_tries l D cy ad _ _) (xg_V (xr_16 6 rfl) (xr_16 7 rfl) (xr_16 8 rfl) (xr_1 5 rfl) (xr_16 9 rfl)) rfl rfl (by decide +kernel) ⟨Nat.le_of_ble_eq_true rfl, Nat.le_of_ble_eq_true rfl⟩ 0 rfl rfl rfl rfl rfl (Nat.le_of_ble_eq_true rfl) dX8_script_1 ⟨by decide, by decide⟩ (fun u' hq => ?_)
  obtain ⟨z1, hz1, rfl⟩ := hq
  have hIz1 : MI z1 := MI_tr hI hz1
  refine j_aload_n h dX8_script_4 rfl 0 rfl ?_
  refine j_iconst h (v := 0) dX8_script_5 (by decide) ?_
  refine j_put h inlX8 tyX8 tyX8_ok nmX8 0 rfl rfl 10 (by decide) (xr_38 12 rfl) rfl rfl rfl rfl (Nat.le_of_ble_eq_true rfl) dX8_script_6 (u' := (upd X 10 0, z1)) rfl ?_
  refine j_aload_n h dX8_script_9 rfl 0 rfl ?_
  refine j_callI h (n := 0) (c_X8_isOrder l D cy ad _ _ (TI0 hLn) hIz1) (xg_V (xr_38 13 rfl) (xr_38 14 rfl) (xr_38 15 rfl) (xr_1 5 rfl) (xr_38 16 rfl)) rfl rfl (by decide +kernel) ⟨Nat.le_of_ble_eq_true rfl, Nat.le_of_ble_eq_true rfl⟩ 0 rfl rfl rfl rfl rfl (Nat.le_of_ble_eq_true rfl) dX8_script_10 ⟨by decide, by decide⟩ (fun r u' hq => ?_)
  obtain ⟨z2, hz2, rfl, rfl, bz2, qz2_0, qz2_1, qz2_2⟩ := hq
  refine j_istore_n h (lv' := [(1, _), (0, _)]) dX8_script_13 rfl (by decide) rfl ?_
  have lp14 : ∀ (n : Nat) (is : Int32) (Xk : Nat → Int32) (Ak : Nat → Nat → Int32), (62 ≤ (Xk 10).toNatClampNeg + n ∨ (is = 0 ∧ 1 ≤ n)) → TI Xk → MI Ak → FP X Xk → (∀ z : Int32 × (Nat → Int32) × (Nat → Nat → Int32), z = f_X8_script_l14 n is Xk Ak → (TI z.2.1 ∧ MI z.2.2 ∧ FP X z.2.1) → J (z.2.1, z.2.2) (0, 0) [(0, .ref (ad 0)), (1, .int z.1)] 54 []) → J (Xk, Ak) (0, 0) [(0, .ref (ad 0)), (1, .int is)] 14 [] := by
    intro n
    induction n with
    | zero => intro is Xk Ak hm hTk hMk hFk hf; exact (l1_z hTk hm).elim
    | succ n ih =>
      intro is Xk Ak hm hTk hMk hFk hf
      refine j_iload_n h dX8_script_14 rfl 1 rfl ?_
      refine j_if_eq h (tgt := 54) dX8_script_15 (by decide) (fun c3 => ?_) (fun c3 => ?_)
      · refine j_sub h [0, 1] rfl ?_
        exact hf (_, _, _) (Eq.symm ((ite_p c3 rfl))) ⟨hTk, hMk, hFk⟩
      · refine j_aload_n h dX8_script_18 rfl 0 rfl ?_
        refine j_get h inlX8 0 rfl rfl 10 (by decide) (xr_38 12 rfl) rfl (v := .int (Xk 10)) rfl dX8_script_19 ?_
        refine j_aload_n h dX8_script_22 rfl 0 rfl ?_
        refine j_get h inlX8 0 rfl rfl 9 (by decide) (xr_12 12 rfl) rfl (v := .int (Xk 9)) rfl dX8_script_23 ?_
        refine j_icmp_ge h (tgt := 54) dX8_script_26 (by decide) (fun c4 => ?_) (fun c4 => ?_)
        · refine j_sub h [0, 1] rfl ?_
          exact hf (_, _, _) (Eq.symm ((ite_n c3 (ite_p c4 rfl)))) ⟨hTk, hMk, hFk⟩
        · refine j_aload_n h dX8_script_29 rfl 0 rfl ?_
          refine j_bipush h (v := 59) dX8_script_30 (by decide) ?_
          refine j_callI h (n := 1) (c_X8_isNext l D cy ad _ _ _ hTk) (xg_V (xr_38 22 rfl) (xr_38 23 rfl) (xr_39 0 rfl) (xr_1 5 rfl) (xr_39 1 rfl)) rfl rfl (by decide +kernel) ⟨Nat.le_of_ble_eq_true rfl, Nat.le_of_ble_eq_true rfl⟩ 0 rfl rfl rfl rfl rfl (Nat.le_of_ble_eq_true rfl) dX8_script_32 ⟨by decide, by decide⟩ (fun r u' hq => ?_)
          obtain ⟨z5, hz5, rfl, rfl, bz5⟩ := hq
          have hTz5 : TI z5.2 := TI_nx hTk hz5
          have hFz5 := FY_nx hTk hz5
          refine j_if_eq h (tgt := 49) dX8_script_35 (by decide) (fun c6 => ?_) (fun c6 => ?_)
          · refine j_iconst h (v := 0) dX8_script_49 (by decide) ?_
            refine j_istore_n h (lv' := [(1, _), (0, _)]) dX8_script_50 rfl (by decide) rfl ?_
            refine j_goto h (tgt := 14) dX8_script_51 (by decide) ?_
            refine j_sub h [1, 0] rfl ?_
            exact ih _ _ _ (l1_f hTk hm c3) hTz5 hMk (FP.y hFk hFz5.1) (fun z hz hp => hf z (hz.trans (Eq.symm ((ite_n c3 (ite_n c4 (bd_eq hz5 (ite_p c6 rfl))))))) hp)
          · refine j_aload_n h dX8_script_38 rfl 0 rfl ?_
            refine j_callI h (n := 0) (c_X8_isOrder l D cy ad _ _ hTz5 hMk) (xg_V (xr_38 13 rfl) (xr_38 14 rfl) (xr_38 15 rfl) (xr_1 5 rfl) (xr_38 16 rfl)) rfl rfl (by decide +kernel) ⟨Nat.le_of_ble_eq_true rfl, Nat.le_of_ble_eq_true rfl⟩ 0 rfl rfl rfl rfl rfl (Nat.le_of_ble_eq_true rfl) dX8_script_39 ⟨by decide, by decide⟩ (fun r u' hq => ?_)
            obtain ⟨z7, hz7, rfl, rfl, bz7, qz7_0, qz7_1, qz7_2⟩ := hq
            refine j_if_eq h (tgt := 49) dX8_script_42 (by decide) (fun c8 => ?_) (fun c8 => ?_)
            · refine j_iconst h (v := 0) dX8_script_49 (by decide) ?_
              refine j_istore_n h (lv' := [(1, _), (0, _)]) dX8_script_50 rfl (by decide) rfl ?_
              refine j_goto h (tgt := 14) dX8_script_51 (by decide) ?_
              refine j_sub h [1, 0] rfl ?_
              exact ih _ _ _ (l1_t hm c3 (Nat.le_trans (hFz5.2 c6) qz7_2.2)) qz7_0 qz7_1 (FP.y (FP.y hFk hFz5.1) qz7_2) (fun z hz hp => hf z (hz.trans (Eq.symm ((ite_n c3 (ite_n c4 (bd_eq hz5 (ite_n c6 (bd_eq hz7 (ite_p c8 rfl))))))))) hp)
            · refine j_iconst h (v := 1) dX8_script_45 (by decide) ?_
              refine j_goto h (tgt := 50) dX8_script_46 (by decide) ?_
              refine j_istore_n h (lv' := [(1, _), (0, _)]) dX8_script_50 rfl (by decide) rfl ?_
              refine j_goto h (tgt := 14) dX8_script_51 (by decide) ?_
              refine j_sub h [1, 0] rfl ?_
              exact ih _ _ _ (l1_t hm c3 (Nat.le_trans (hFz5.2 c6) qz7_2.2)) qz7_0 qz7_1 (FP.y (FP.y hFk hFz5.1) qz7_2) (fun z hz hp => hf z (hz.trans (Eq.symm ((ite_n c3 (ite_n c4 (bd_eq hz5 (ite_n c6 (bd_eq hz7 (ite_n c8 rfl))))))))) hp)
  refine j_sub h [1, 0] rfl ?_
  refine lp14 63 _ _ _ (Or.inl (by omega)) qz2_0 qz2_1 (FP.y (FP.t FP.rf) qz2_2) (fun z9 hz9 hpz9 => ?_)
  refine j_iload_n h dX8_script_54 rfl 1 rfl ?_
  refine j_if_ne h (tgt := 74) dX8_script_55 (by decide) (fun c10 => ?_) (fun c10 => ?_)
  · refine j_aload_n h dX8_script_74 rfl 0 rfl ?_
    refine j_iconst h (v := 0) dX8_script_75 (by decide) ?_
    refine j_put h inlX8 tyX8 tyX8_ok nmX8 0 rfl rfl 10 (by decide) (xr_38 12 rfl) rfl rfl rfl rfl (Nat.le_of_ble_eq_true rfl) dX8_script_76 (u' := (upd z9.2.1 10 0, z9.2.2)) rfl ?_
    refine j_iconst h (v := 0) dX8_script_79 (by decide) ?_
    refine j_istore_n h (lv' := [(2, _), (0, _), (1, _)]) dX8_script_80 rfl (by decide) rfl ?_
    refine j_iconst h (v := 0) dX8_script_81 (by decide) ?_
    refine j_istore_n h (lv' := [(3, _), (2, _), (0, _), (1, _)]) dX8_script_82 rfl (by decide) rfl ?_
    refine j_iconst h (v := 1) dX8_script_83 (by decide) ?_
    refine j_istore h (lv' := [(4, _), (3, _), (2, _), (0, _), (1, _)]) dX8_script_84 (by decide) rfl ?_
    have lp86 : ∀ (n : Nat) (is : Int32) (cn : Int32) (no : Int32) (more : Int32) (Xk : Nat → Int32) (Ak : Nat → Nat → Int32), (62 ≤ (Xk 10).toNatClampNeg + n ∨ (more = 0 ∧ 1 ≤ n)) → TI Xk → MI Ak → FP X Xk → (no = -3 → vp_in (Xk 16) 3) → (∀ z : Int32 × Int32 × Int32 × Int32 × (Nat → Int32) × (Nat → Nat → Int32), z = f_X8_script_l86 n is cn no more Xk Ak → (TI z.2.2.2.2.1 ∧ MI z.2.2.2.2.2 ∧ FP X z.2.2.2.2.1 ∧ (z.2.2.1 = -3 → vp_in (z.2.2.2.2.1 16) 3)) → J (z.2.2.2.2.1, z.2.2.2.2.2) (0, 0) [(0, .ref (ad 0)), (1, .int z.1), (2, .int z.2.1), (3, .int z.2.2.1), (4, .int z.2.2.2.1)] 131 []) → J (Xk, Ak) (0, 0) [(0, .ref (ad 0)), (1, .int is), (2, .int cn), (3, .int no), (4, .int more)] 86 [] := by
      intro n
      induction n with
      | zero => intro is cn no more Xk Ak hm hTk hMk hFk hDk hf; exact (l1_z hTk hm).elim
      | succ n ih =>
        intro is cn no more Xk Ak hm hTk hMk hFk hDk hf
        refine j_iload h dX8_script_86 4 rfl ?_
        refine j_if_eq h (tgt := 131) dX8_script_88 (by decide) (fun c11 => ?_) (fun c11 => ?_)
        · refine j_sub h [0, 1, 2, 3, 4] rfl ?_
          exact hf (_, _, _, _, _, _) (Eq.symm ((ite_p c11 rfl))) ⟨hTk, hMk, hFk, hDk⟩
        · refine j_aload_n h dX8_script_91 rfl 0 rfl ?_
          refine j_callI h (n := 0) (c_X8_isOrder l D cy ad _ _ hTk hMk) (xg_V (xr_38 13 rfl) (xr_38 14 rfl) (xr_38 15 rfl) (xr_1 5 rfl) (xr_38 16 rfl)) rfl rfl (by decide +kernel) ⟨Nat.le_of_ble_eq_true rfl, Nat.le_of_ble_eq_true rfl⟩ 0 rfl rfl rfl rfl rfl (Nat.le_of_ble_eq_true rfl) dX8_script_92 ⟨by decide, by decide⟩ (fun r u' hq => ?_)
          obtain ⟨z12, hz12, rfl, rfl, bz12, qz12_0, qz12_1, qz12_2⟩ := hq
          refine j_istore_n h (lv' := [(1, _), (0, _), (2, _), (3, _), (4, _)]) dX8_script_95 rfl (by decide) rfl ?_
          refine j_aload_n h dX8_script_96 rfl 1 rfl ?_
          refine j_callI h (n := 0) (c_X8_carries l D cy ad _ _ qz12_1) (xg_V (xr_39 7 rfl) (xr_39 8 rfl) (xr_39 9 rfl) (xr_1 5 rfl) (xr_39 10 rfl)) rfl rfl (by decide +kernel) ⟨Nat.le_of_ble_eq_true rfl, Nat.le_of_ble_eq_true rfl⟩ 0 rfl rfl rfl rfl rfl (Nat.le_of_ble_eq_true rfl) dX8_script_97 ⟨by decide, by decide⟩ (fun r u' hq => ?_)
          obtain ⟨z13, hz13, rfl, rfl, qz13_0, qz13_1, qz13_2⟩ := hq
          have hTz13 : TI z13.2.1 := TI.fx qz12_0 qz13_2
          refine j_istore_n h (lv' := [(3, _), (1, _), (0, _), (2, _), (4, _)]) dX8_script_100 rfl (by decide) rfl ?_
          refine j_iload_n h dX8_script_101 rfl 0 rfl ?_
          refine j_if_ne h (tgt := 108) dX8_script_102 (by decide) (fun c14 => ?_) (fun c14 => ?_)
          · refine j_iload_n h dX8_script_108 rfl 0 rfl ?_
            refine j_if_ne h (tgt := 125) dX8_script_109 (by decide) (fun _ => ?_) (fun c15 => absurd c15 c14)
            refine j_iconst h (v := 0) dX8_script_125 (by decide) ?_
            refine j_istore h (lv' := [(4, _), (3, _), (1, _), (0, _), (2, _)]) dX8_script_126 (by decide) rfl ?_
            refine j_goto h (tgt := 86) dX8_script_128 (by decide) ?_
            refine j_sub h [3, 2, 4, 1, 0] rfl ?_
            exact ih _ _ _ _ _ _ (l1_f hTk hm c11) hTz13 qz13_0 (FP.x (FP.y hFk qz12_2) qz13_2) qz13_1 (fun z hz hp => hf z (hz.trans (Eq.symm ((ite_n c11 (bd_eq hz12 (bd_eq hz13 (ite_n c14 rfl))))))) hp)
          · refine j_iinc h (v := cn + 1) (lv' := [(2, _), (3, _), (1, _), (0, _), (4, _)]) dX8_script_105 (k := 3) rfl rfl (by decide) rfl ?_
            refine j_iload_n h dX8_script_108 rfl 1 rfl ?_
            refine j_if_ne h (tgt := 125) dX8_script_109 (by decide) (fun c16 => absurd c14 c16) (fun _ => ?_)
            refine j_aload_n h dX8_script_112 rfl 3 rfl ?_
            refine j_bipush h (v := 59) dX8_script_113 (by decide) ?_
            refine j_callI h (n := 1) (c_X8_isNext l D cy ad _ _ _ hTz13) (xg_V (xr_38 22 rfl) (xr_38 23 rfl) (xr_39 0 rfl) (xr_1 5 rfl) (xr_39 1 rfl)) rfl rfl (by decide +kernel) ⟨Nat.le_of_ble_eq_true rfl, Nat.le_of_ble_eq_true rfl⟩ 0 rfl rfl rfl rfl rfl (Nat.le_of_ble_eq_true rfl) dX8_script_115 ⟨by decide, by decide⟩ (fun r u' hq => ?_)
            obtain ⟨z17, hz17, rfl, rfl, bz17⟩ := hq
            have hTz17 : TI z17.2 := TI_nx hTz13 hz17
            have hFz17 := FY_nx hTz13 hz17
            refine j_if_eq h (tgt := 125) dX8_script_118 (by decide) (fun c18 => ?_) (fun c18 => ?_)
            · refine j_iconst h (v := 0) dX8_script_125 (by decide) ?_
              refine j_istore h (lv' := [(4, _), (2, _), (3, _), (1, _), (0, _)]) dX8_script_126 (by decide) rfl ?_
              refine j_goto h (tgt := 86) dX8_script_128 (by decide) ?_
              refine j_sub h [4, 3, 1, 2, 0] rfl ?_
              exact ih _ _ _ _ _ _ (l1_f hTk hm c11) hTz17 qz13_0 (FP.y (FP.x (FP.y hFk qz12_2) qz13_2) hFz17.1) (hD_y qz13_1 hFz17.1) (fun z hz hp => hf z (hz.trans (Eq.symm ((ite_n c11 (bd_eq hz12 (bd_eq hz13 (ite_p c14 (bd_eq hz17 (ite_p c18 rfl))))))))) hp)
            · refine j_iconst h (v := 1) dX8_script_121 (by decide) ?_
              refine j_goto h (tgt := 126) dX8_script_122 (by decide) ?_
              refine j_istore h (lv' := [(4, _), (2, _), (3, _), (1, _), (0, _)]) dX8_script_126 (by decide) rfl ?_
              refine j_goto h (tgt := 86) dX8_script_128 (by decide) ?_
              refine j_sub h [4, 3, 1, 2, 0] rfl ?_
              exact ih _ _ _ _ _ _ (l1_t hm c11 (l2_le qz12_2.2 qz13_2 (hFz17.2 c18))) hTz17 qz13_0 (FP.y (FP.x (FP.y hFk qz12_2) qz13_2) hFz17.1) (hD_y qz13_1 hFz17.1) (fun z hz hp => hf z (hz.trans (Eq.symm ((ite_n c11 (bd_eq hz12 (bd_eq hz13 (ite_p c14 (bd_eq hz17 (ite_n c18 rfl))))))))) hp)
    refine j_sub h [3, 4, 2, 1, 0] rfl ?_
    refine lp86 63 _ _ _ _ _ _ (Or.inl (by omega)) (TI0 (hpz9.1.1)) hpz9.2.1 (FP.t hpz9.2.2) (fun q => absurd q (by decide)) (fun z19 hz19 hpz19 => ?_)
    refine j_aload_n h dX8_script_131 rfl 0 rfl ?_
    refine j_iconst h (v := 0) dX8_script_132 (by decide) ?_
    refine j_put h inlX8 tyX8 tyX8_ok nmX8 0 rfl rfl 9 (by decide) (xr_12 12 rfl) rfl rfl rfl rfl (Nat.le_of_ble_eq_true rfl) dX8_script_133 (u' := (upd z19.2.2.2.2.1 9 0, z19.2.2.2.2.2)) rfl ?_
    refine j_iload_n h dX8_script_136 rfl 3 rfl ?_
    refine j_if_ne h (tgt := 146) dX8_script_137 (by decide) (fun c20 => ?_) (fun c20 => ?_)
    · refine j_aload_n h dX8_script_146 rfl 0 rfl ?_
      refine j_callV h (n := 0) (c_X8_comesBack l D cy ad _ _) (xg_V (xr_39 11 rfl) (xr_39 12 rfl) (xr_39 13 rfl) (xr_1 5 rfl) (xr_39 14 rfl)) rfl rfl (by decide +kernel) ⟨Nat.le_of_ble_eq_true rfl, Nat.le_of_ble_eq_true rfl⟩ 0 rfl rfl rfl rfl rfl (Nat.le_of_ble_eq_true rfl) dX8_script_147 ⟨by decide, by decide⟩ (fun u' hq => ?_)
      obtain ⟨z21, hz21, rfl⟩ := hq
      refine j_iload_n h dX8_script_150 rfl 3 rfl ?_
      refine j_bipush h (v := (-3)) dX8_script_151 (by decide) ?_
      refine j_icmp_ne h (tgt := 166) dX8_script_153 (by decide) (fun c22 => ?_) (fun c22 => ?_)
      · refine j_aload_n h dX8_script_166 rfl 0 rfl ?_
        refine j_bipush h (v := 12) dX8_script_167 (by decide) ?_
        refine j_iload_n h dX8_script_169 rfl 2 rfl ?_
        refine j_callI h (n := 2) (c_X8_refuses l D cy ad _ _ _ _) (xg_V (xr_16 10 rfl) (xr_16 11 rfl) (xr_16 12 rfl) (xr_1 5 rfl) (xr_16 13 rfl)) rfl rfl (by decide +kernel) ⟨Nat.le_of_ble_eq_true rfl, Nat.le_of_ble_eq_true rfl⟩ 0 rfl rfl rfl rfl rfl (Nat.le_of_ble_eq_true rfl) dX8_script_170 ⟨by decide, by decide⟩ (fun r u' hq => ?_)
        obtain ⟨z23, hz23, rfl, rfl⟩ := hq
        exact hR _ _ _ _ dX8_script_173 ⟨(_, _), Eq.symm ((bd_eq hz1 (bd_eq hz2 (bd_eq hz9 (ite_n c10 (bd_eq hz19 (ite_n c20 (bd_eq hz21 (ite_n c22 (bd_eq hz23 rfl)))))))))), rfl, rfl⟩
      · refine j_aload_n h dX8_script_156 rfl 0 rfl ?_
        refine j_bipush h (v := 12) dX8_script_157 (by decide) ?_
        refine j_iload_n h dX8_script_159 rfl 2 rfl ?_
        refine j_callI h (n := 2) (c_X8_refusesBy l D cy ad _ _ _ _ (by rw [upd_ne _ _ (by omega)]; exact hpz19.2.2.2 c22)) (xg_V (xr_20 16 rfl) (xr_20 17 rfl) (xr_20 18 rfl) (xr_1 5 rfl) (xr_20 19 rfl)) rfl rfl (by decide +kernel) ⟨Nat.le_of_ble_eq_true rfl, Nat.le_of_ble_eq_true rfl⟩ 0 rfl rfl rfl rfl rfl (Nat.le_of_ble_eq_true rfl) dX8_script_160 ⟨by decide, by decide⟩ (fun r u' hq => ?_)
        obtain ⟨z24, hz24, rfl, rfl⟩ := hq
        refine j_goto h (tgt := 173) dX8_script_163 (by decide) ?_
        exact hR _ _ _ _ dX8_script_173 ⟨(_, _), Eq.symm ((bd_eq hz1 (bd_eq hz2 (bd_eq hz9 (ite_n c10 (bd_eq hz19 (ite_n c20 (bd_eq hz21 (ite_p c22 (bd_eq hz24 rfl)))))))))), rfl, rfl⟩
    · refine j_aload_n h dX8_script_140 rfl 0 rfl ?_
      refine j_iload_n h dX8_script_141 rfl 2 rfl ?_
      refine j_callI h (n := 1) (c_X8_keeps l D cy ad _ _ _ (by rw [upd_ne _ _ (by omega), hpz19.2.2.1.1 3 (by omega) (by omega) (by omega) (by omega) (by omega)]; exact hU) hpz19.2.1) (xg_V (xr_16 23 rfl) (xr_17 0 rfl) (xr_17 1 rfl) (xr_1 5 rfl) (xr_17 2 rfl)) rfl rfl (by decide +kernel) ⟨Nat.le_of_ble_eq_true rfl, Nat.le_of_ble_eq_true rfl⟩ 0 rfl rfl rfl rfl rfl (Nat.le_of_ble_eq_true rfl) dX8_script_142 ⟨by decide, by decide⟩ (fun r u' hq => ?_)
      obtain ⟨z25, hz25, rfl, rfl, qz25_0, qz25_1, qz25_2⟩ := hq
      exact hR _ _ _ _ dX8_script_145 ⟨(_, _), Eq.symm ((bd_eq hz1 (bd_eq hz2 (bd_eq hz9 (ite_n c10 (bd_eq hz19 (ite_p c20 (bd_eq hz25 rfl)))))))), rfl, rfl⟩
  · refine j_aload_n h dX8_script_58 rfl 0 rfl ?_
    refine j_iconst h (v := 0) dX8_script_59 (by decide) ?_
    refine j_put h inlX8 tyX8 tyX8_ok nmX8 0 rfl rfl 9 (by decide) (xr_12 12 rfl) rfl rfl rfl rfl (Nat.le_of_ble_eq_true rfl) dX8_script_60 (u' := (upd z9.2.1 9 0, z9.2.2)) rfl ?_
    refine j_aload_n h dX8_script_63 rfl 0 rfl ?_
    refine j_aload_n h dX8_script_64 rfl 0 rfl ?_
    refine j_get h inlX8 0 rfl rfl 10 (by decide) (xr_38 12 rfl) rfl (v := .int ((upd z9.2.1 9 0) 10)) rfl dX8_script_65 ?_
    refine j_put h inlX8 tyX8 tyX8_ok nmX8 0 rfl rfl 14 (by decide) (xr_6 15 rfl) rfl rfl rfl rfl (Nat.le_of_ble_eq_true rfl) dX8_script_68 (u' := (upd (upd z9.2.1 9 0) 14 ((upd z9.2.1 9 0) 10), z9.2.2)) rfl ?_
    refine j_bipush h (v := (-2)) dX8_script_71 (by decide) ?_
    exact hR _ _ _ _ dX8_script_73 ⟨(_, _), Eq.symm ((bd_eq hz1 (bd_eq hz2 (bd_eq hz9 (ite_p c10 rfl))))), rfl, rfl⟩

theorem tr_l2 {X : Nat → Int32} {i : Nat} (hi : i ≠ 1) : ∀ n k A, f_X8_tries_l2 X n k A i = A i := by
  intro n
  induction n with
  | zero => intro k A; rfl
  | succ n ih =>
    intro k A
    unfold f_X8_tries_l2
    split
    · rfl
    · exact (ih _ _).trans (up2_ne _ _ _ hi)
theorem tr_i {X : Nat → Int32} {A z : Nat → Nat → Int32} (hz : z = f_X8_tries X A) {i : Nat} (hi : i ≠ 1) : z i = A i := by rw [hz]; exact tr_l2 hi _ _ _
theorem MI_tr {X : Nat → Int32} {A z : Nat → Nat → Int32} (h : MI A) (hz : z = f_X8_tries X A) : MI z := MI_of h (fun j _ => congrFun (tr_i hz (by omega)) j) (tr_i hz (by omega))
theorem hU_fx {X X' : Nat → Int32} (h : FX X X') (hU : vp_in (X 3) 9) : vp_in (X' 3) 9 := by rw [h.1 3 (by omega) (by omega)]; exact hU
/-- what a public call leaves: the undos in range, all but undos, depth and answer as it was, the depth in range -/
def FZ (X0 X : Nat → Int32) : Prop := vp_in (X 3) 9 ∧ (∀ k, k ≠ 3 → k ≠ 16 → k ≠ 17 → X k = X0 k) ∧ (vp_in (X0 16) 4 → vp_in (X 16) 4)
theorem FZ.of {X Y Z : Nat → Int32} (h : FX X Y) (h3 : vp_in (Z 3) 9) (g : ∀ i, i ≠ 3 → Z i = Y i) : FZ X Z := ⟨h3, fun k a b c => (g k a).trans (h.1 k b c), fun q => by rw [g 16 (by omega)]; exact h.2 q⟩
theorem FZ.fx {X Y : Nat → Int32} (h : FX X Y) (h3 : vp_in (X 3) 9) : FZ X Y := ⟨hU_fx h h3, fun k a b c => h.1 k b c, h.2⟩

def f_X8_rain (X : Nat → Int32) (A : Nat → Nat → Int32) (p1 : Int32) : Int32 × (Nat → Int32) × (Nat → Nat → Int32) :=
  bd (f_X8_tries X A) fun z1 =>
  bd (f_X8_sets X z1 1 p1) fun z2 =>
  bd (f_X8_ends z2.2.1 z2.2.2 z2.1) fun z3 =>
  (z3.1, (z3.2.1, z3.2.2))
abbrev rm_X8_rain : Room := { frames := 2, cells := 0, slots := 0, locals := 45 }
set_option maxRecDepth 100000 in
set_option maxHeartbeats 4000000 in
theorem c_X8_rain (l : Launch) (D : va_G) (cy : Nat → ClassId) (ad : Nat → Nat) (X : Nat → Int32) (A : Nat → Nat → Int32) (p1 : Int32) (hI : MI A) (hU : vp_in (X 3) 9) : CtI l D cy (MW cy ad) yX8_rain cX8_rain 2 (some .int) rm_X8_rain [.ref (ad 0), .int p1] (X, A) (fun rv u => ∃ z : Int32 × ((Nat → Int32) × (Nat → Nat → Int32)), z = f_X8_rain X A p1 ∧ rv = z.1 ∧ u = z.2 ∧ MI (z.2.2) ∧ FZ X (z.2.1)) 0 0 := by
  refine m_entI cX8_rain 2 (by decide) (Nat.le_of_ble_eq_true rfl) (fun J h hR => ?_)
  show J (X, A) (0, 0) [(0, .ref (ad 0)), (1, .int p1)] 0 []
  refine j_aload_n h dX8_rain_0 rfl 0 rfl ?_
  refine j_callV h (n := 0) (c_X8_tries l D cy ad _ _) (xg_V (xr_16 6 rfl) (xr_16 7 rfl) (xr_16 8 rfl) (xr_1 5 rfl) (xr_16 9 rfl)) rfl rfl (by decide +kernel) ⟨Nat.le_of_ble_eq_true rfl, Nat.le_of_ble_eq_true rfl⟩ 0 rfl rfl rfl rfl rfl (Nat.le_of_ble_eq_true rfl) dX8_rain_1 ⟨by decide, by decide⟩ (fun u' hq => ?_)
  obtain ⟨z1, hz1, rfl⟩ := hq
  have hIz1 : MI z1 := MI_tr hI hz1
  refine j_aload_n h dX8_rain_4 rfl 0 rfl ?_
  refine j_aload_n h dX8_rain_5 rfl 0 rfl ?_
  refine j_iconst h (v := 1) dX8_rain_6 (by decide) ?_
  refine j_iload_n h dX8_rain_7 rfl 1 rfl ?_
  refine j_callI h (n := 2) (c_X8_sets l D cy ad _ _ _ _ (vp_in_nI (by decide) (by decide))) (xg_V (xr_29 5 rfl) (xr_29 6 rfl) (xr_29 7 rfl) (xr_1 5 rfl) (xr_29 8 rfl)) rfl rfl (by decide +kernel) ⟨Nat.le_of_ble_eq_true rfl, Nat.le_of_ble_eq_true rfl⟩ 0 rfl rfl rfl rfl rfl (Nat.le_of_ble_eq_true rfl) dX8_rain_8 ⟨by decide, by decide⟩ (fun r u' hq => ?_)
  obtain ⟨z2, hz2, rfl, rfl⟩ := hq
  have hIz2 : MI z2.2.2 := MI_st hIz1 (vp_in_nI (by decide) (by decide)) hz2
  have qz2_1 := r3_st hz2
  refine j_callI h (n := 1) (c_X8_ends l D cy ad _ _ _ (hU_fx (FX.tr FX.rf (FX_st hz2)) hU) hIz2) (xg_V (xr_21 1 rfl) (xr_21 2 rfl) (xr_21 3 rfl) (xr_1 5 rfl) (xr_21 4 rfl)) rfl rfl (by decide +kernel) ⟨Nat.le_of_ble_eq_true rfl, Nat.le_of_ble_eq_true rfl⟩ 0 rfl rfl rfl rfl rfl (Nat.le_of_ble_eq_true rfl) dX8_rain_11 ⟨by decide, by decide⟩ (fun r u' hq => ?_)
  obtain ⟨z3, hz3, rfl, rfl, qz3_0, qz3_1, qz3_2⟩ := hq
  exact hR _ _ _ _ dX8_rain_14 ⟨(_, _), Eq.symm ((bd_eq hz1 (bd_eq hz2 (bd_eq hz3 rfl)))), rfl, rfl, qz3_0, (FZ.of (FX.tr FX.rf (FX_st hz2)) qz3_1 qz3_2)⟩

def f_X8_sun (X : Nat → Int32) (A : Nat → Nat → Int32) (p1 : Int32) : Int32 × (Nat → Int32) × (Nat → Nat → Int32) :=
  bd (f_X8_tries X A) fun z1 =>
  bd (f_X8_sets X z1 2 p1) fun z2 =>
  bd (f_X8_ends z2.2.1 z2.2.2 z2.1) fun z3 =>
  (z3.1, (z3.2.1, z3.2.2))
abbrev rm_X8_sun : Room := { frames := 2, cells := 0, slots := 0, locals := 45 }
set_option maxRecDepth 100000 in
set_option maxHeartbeats 4000000 in
theorem c_X8_sun (l : Launch) (D : va_G) (cy : Nat → ClassId) (ad : Nat → Nat) (X : Nat → Int32) (A : Nat → Nat → Int32) (p1 : Int32) (hI : MI A) (hU : vp_in (X 3) 9) : CtI l D cy (MW cy ad) yX8_sun cX8_sun 2 (some .int) rm_X8_sun [.ref (ad 0), .int p1] (X, A) (fun rv u => ∃ z : Int32 × ((Nat → Int32) × (Nat → Nat → Int32)), z = f_X8_sun X A p1 ∧ rv = z.1 ∧ u = z.2 ∧ MI (z.2.2) ∧ FZ X (z.2.1)) 0 0 := by
  refine m_entI cX8_sun 2 (by decide) (Nat.le_of_ble_eq_true rfl) (fun J h hR => ?_)
  show J (X, A) (0, 0) [(0, .ref (ad 0)), (1, .int p1)] 0 []
  refine j_aload_n h dX8_sun_0 rfl 0 rfl ?_
  refine j_callV h (n := 0) (c_X8_tries l D cy ad _ _) (xg_V (xr_16 6 rfl) (xr_16 7 rfl) (xr_16 8 rfl) (xr_1 5 rfl) (xr_16 9 rfl)) rfl rfl (by decide +kernel) ⟨Nat.le_of_ble_eq_true rfl, Nat.le_of_ble_eq_true rfl⟩ 0 rfl rfl rfl rfl rfl (Nat.le_of_ble_eq_true rfl) dX8_sun_1 ⟨by decide, by decide⟩ (fun u' hq => ?_)
  obtain ⟨z1, hz1, rfl⟩ := hq
  have hIz1 : MI z1 := MI_tr hI hz1
  refine j_aload_n h dX8_sun_4 rfl 0 rfl ?_
  refine j_aload_n h dX8_sun_5 rfl 0 rfl ?_
  refine j_iconst h (v := 2) dX8_sun_6 (by decide) ?_
  refine j_iload_n h dX8_sun_7 rfl 1 rfl ?_
  refine j_callI h (n := 2) (c_X8_sets l D cy ad _ _ _ _ (vp_in_nI (by decide) (by decide))) (xg_V (xr_29 5 rfl) (xr_29 6 rfl) (xr_29 7 rfl) (xr_1 5 rfl) (xr_29 8 rfl)) rfl rfl (by decide +kernel) ⟨Nat.le_of_ble_eq_true rfl, Nat.le_of_ble_eq_true rfl⟩ 0 rfl rfl rfl rfl rfl (Nat.le_of_ble_eq_true rfl) dX8_sun_8 ⟨by decide, by decide⟩ (fun r u' hq => ?_)
  obtain ⟨z2, hz2, rfl, rfl⟩ := hq
  have hIz2 : MI z2.2.2 := MI_st hIz1 (vp_in_nI (by decide) (by decide)) hz2
  have qz2_1 := r3_st hz2
  refine j_callI h (n := 1) (c_X8_ends l D cy ad _ _ _ (hU_fx (FX.tr FX.rf (FX_st hz2)) hU) hIz2) (xg_V (xr_21 1 rfl) (xr_21 2 rfl) (xr_21 3 rfl) (xr_1 5 rfl) (xr_21 4 rfl)) rfl rfl (by decide +kernel) ⟨Nat.le_of_ble_eq_true rfl, Nat.le_of_ble_eq_true rfl⟩ 0 rfl rfl rfl rfl rfl (Nat.le_of_ble_eq_true rfl) dX8_sun_11 ⟨by decide, by decide⟩ (fun r u' hq => ?_)
  obtain ⟨z3, hz3, rfl, rfl, qz3_0, qz3_1, qz3_2⟩ := hq
  exact hR _ _ _ _ dX8_sun_14 ⟨(_, _), Eq.symm ((bd_eq hz1 (bd_eq hz2 (bd_eq hz3 rfl)))), rfl, rfl, qz3_0, (FZ.of (FX.tr FX.rf (FX_st hz2)) qz3_1 qz3_2)⟩

def f_X8_begin (X : Nat → Int32) (A : Nat → Nat → Int32) (p1 : Int32) (p2 : Int32) : Int32 × (Nat → Int32) × (Nat → Nat → Int32) :=
  bd (f_X8_tries X A) fun z1 =>
  bd (f_X8_starts X z1 p1 p2) fun z2 =>
  bd (f_X8_ends z2.2.1 z2.2.2 z2.1) fun z3 =>
  (z3.1, (z3.2.1, z3.2.2))
abbrev rm_X8_begin : Room := { frames := 4, cells := 0, slots := 0, locals := 88 }
set_option maxRecDepth 100000 in
set_option maxHeartbeats 4000000 in
theorem c_X8_begin (l : Launch) (D : va_G) (cy : Nat → ClassId) (ad : Nat → Nat) (X : Nat → Int32) (A : Nat → Nat → Int32) (p1 : Int32) (p2 : Int32) (hI : MI A) (hU : vp_in (X 3) 9) : CtI l D cy (MW cy ad) yX8_begin cX8_begin 3 (some .int) rm_X8_begin [.ref (ad 0), .int p1, .int p2] (X, A) (fun rv u => ∃ z : Int32 × ((Nat → Int32) × (Nat → Nat → Int32)), z = f_X8_begin X A p1 p2 ∧ rv = z.1 ∧ u = z.2 ∧ MI (z.2.2) ∧ FZ X (z.2.1)) 0 0 := by
  refine m_entI cX8_begin 3 (by decide) (Nat.le_of_ble_eq_true rfl) (fun J h hR => ?_)
  show J (X, A) (0, 0) [(0, .ref (ad 0)), (1, .int p1), (2, .int p2)] 0 []
  refine j_aload_n h dX8_begin_0 rfl 0 rfl ?_
  refine j_callV h (n := 0) (c_X8_tries l D cy ad _ _) (xg_V (xr_16 6 rfl) (xr_16 7 rfl) (xr_16 8 rfl) (xr_1 5 rfl) (xr_16 9 rfl)) rfl rfl (by decide +kernel) ⟨Nat.le_of_ble_eq_true rfl, Nat.le_of_ble_eq_true rfl⟩ 0 rfl rfl rfl rfl rfl (Nat.le_of_ble_eq_true rfl) dX8_begin_1 ⟨by decide, by decide⟩ (fun u' hq => ?_)
  obtain ⟨z1, hz1, rfl⟩ := hq
  have hIz1 : MI z1 := MI_tr hI hz1
  refine j_aload_n h dX8_begin_4 rfl 0 rfl ?_
  refine j_aload_n h dX8_begin_5 rfl 0 rfl ?_
  refine j_iload_n h dX8_begin_6 rfl 1 rfl ?_
  refine j_iload_n h dX8_begin_7 rfl 2 rfl ?_
  refine j_callI h (n := 2) (c_X8_starts l D cy ad _ _ _ _ hIz1) (xg_V (xr_19 22 rfl) (xr_19 23 rfl) (xr_20 0 rfl) (xr_1 5 rfl) (xr_20 1 rfl)) rfl rfl (by decide +kernel) ⟨Nat.le_of_ble_eq_true rfl, Nat.le_of_ble_eq_true rfl⟩ 0 rfl rfl rfl rfl rfl (Nat.le_of_ble_eq_true rfl) dX8_begin_8 ⟨by decide, by decide⟩ (fun r u' hq => ?_)
  obtain ⟨z2, hz2, rfl, rfl, qz2_0, qz2_1, qz2_2⟩ := hq
  refine j_callI h (n := 1) (c_X8_ends l D cy ad _ _ _ (hU_fx (FX.tr FX.rf qz2_2) hU) qz2_0) (xg_V (xr_21 1 rfl) (xr_21 2 rfl) (xr_21 3 rfl) (xr_1 5 rfl) (xr_21 4 rfl)) rfl rfl (by decide +kernel) ⟨Nat.le_of_ble_eq_true rfl, Nat.le_of_ble_eq_true rfl⟩ 0 rfl rfl rfl rfl rfl (Nat.le_of_ble_eq_true rfl) dX8_begin_11 ⟨by decide, by decide⟩ (fun r u' hq => ?_)
  obtain ⟨z3, hz3, rfl, rfl, qz3_0, qz3_1, qz3_2⟩ := hq
  exact hR _ _ _ _ dX8_begin_14 ⟨(_, _), Eq.symm ((bd_eq hz1 (bd_eq hz2 (bd_eq hz3 rfl)))), rfl, rfl, qz3_0, (FZ.of (FX.tr FX.rf qz2_2) qz3_1 qz3_2)⟩

def f_X8_bowl (X : Nat → Int32) (A : Nat → Nat → Int32) (p1 : Int32) (p2 : Int32) (p3 : Int32) (p4 : Int32) (p5 : Int32) : Int32 × (Nat → Int32) × (Nat → Nat → Int32) :=
  bd (f_X8_tries X A) fun z1 =>
  bd (f_X8_bowls X z1 p1 p2 p3 p4 p5) fun z2 =>
  bd (f_X8_ends z2.2.1 z2.2.2 z2.1) fun z3 =>
  (z3.1, (z3.2.1, z3.2.2))
abbrev rm_X8_bowl : Room := { frames := 4, cells := 0, slots := 0, locals := 100 }
set_option maxRecDepth 100000 in
set_option maxHeartbeats 4000000 in
theorem c_X8_bowl (l : Launch) (D : va_G) (cy : Nat → ClassId) (ad : Nat → Nat) (X : Nat → Int32) (A : Nat → Nat → Int32) (p1 : Int32) (p2 : Int32) (p3 : Int32) (p4 : Int32) (p5 : Int32) (hI : MI A) (hU : vp_in (X 3) 9) : CtI l D cy (MW cy ad) yX8_bowl cX8_bowl 6 (some .int) rm_X8_bowl [.ref (ad 0), .int p1, .int p2, .int p3, .int p4, .int p5] (X, A) (fun rv u => ∃ z : Int32 × ((Nat → Int32) × (Nat → Nat → Int32)), z = f_X8_bowl X A p1 p2 p3 p4 p5 ∧ rv = z.1 ∧ u = z.2 ∧ MI (z.2.2) ∧ FZ X (z.2.1)) 0 0 := by
  refine m_entI cX8_bowl 6 (by decide) (Nat.le_of_ble_eq_true rfl) (fun J h hR => ?_)
  show J (X, A) (0, 0) [(0, .ref (ad 0)), (1, .int p1), (2, .int p2), (3, .int p3), (4, .int p4), (5, .int p5)] 0 []
  refine j_aload_n h dX8_bowl_0 rfl 0 rfl ?_
  refine j_callV h (n := 0) (c_X8_tries l D cy ad _ _) (xg_V (xr_16 6 rfl) (xr_16 7 rfl) (xr_16 8 rfl) (xr_1 5 rfl) (xr_16 9 rfl)) rfl rfl (by decide +kernel) ⟨Nat.le_of_ble_eq_true rfl, Nat.le_of_ble_eq_true rfl⟩ 0 rfl rfl rfl rfl rfl (Nat.le_of_ble_eq_true rfl) dX8_bowl_1 ⟨by decide, by decide⟩ (fun u' hq => ?_)
  obtain ⟨z1, hz1, rfl⟩ := hq
  have hIz1 : MI z1 := MI_tr hI hz1
  refine j_aload_n h dX8_bowl_4 rfl 0 rfl ?_
  refine j_aload_n h dX8_bowl_5 rfl 0 rfl ?_
  refine j_iload_n h dX8_bowl_6 rfl 1 rfl ?_
  refine j_iload_n h dX8_bowl_7 rfl 2 rfl ?_
  refine j_iload_n h dX8_bowl_8 rfl 3 rfl ?_
  refine j_iload h dX8_bowl_9 4 rfl ?_
  refine j_iload h dX8_bowl_11 5 rfl ?_
  refine j_callI h (n := 5) (c_X8_bowls l D cy ad _ _ _ _ _ _ _ hIz1) (xg_V (xr_23 16 rfl) (xr_23 17 rfl) (xr_23 18 rfl) (xr_1 5 rfl) (xr_23 19 rfl)) rfl rfl (by decide +kernel) ⟨Nat.le_of_ble_eq_true rfl, Nat.le_of_ble_eq_true rfl⟩ 0 rfl rfl rfl rfl rfl (Nat.le_of_ble_eq_true rfl) dX8_bowl_13 ⟨by decide, by decide⟩ (fun r u' hq => ?_)
  obtain ⟨z2, hz2, rfl, rfl, qz2_0, qz2_1, qz2_2⟩ := hq
  refine j_callI h (n := 1) (c_X8_ends l D cy ad _ _ _ (hU_fx (FX.tr FX.rf qz2_2) hU) qz2_0) (xg_V (xr_21 1 rfl) (xr_21 2 rfl) (xr_21 3 rfl) (xr_1 5 rfl) (xr_21 4 rfl)) rfl rfl (by decide +kernel) ⟨Nat.le_of_ble_eq_true rfl, Nat.le_of_ble_eq_true rfl⟩ 0 rfl rfl rfl rfl rfl (Nat.le_of_ble_eq_true rfl) dX8_bowl_16 ⟨by decide, by decide⟩ (fun r u' hq => ?_)
  obtain ⟨z3, hz3, rfl, rfl, qz3_0, qz3_1, qz3_2⟩ := hq
  exact hR _ _ _ _ dX8_bowl_19 ⟨(_, _), Eq.symm ((bd_eq hz1 (bd_eq hz2 (bd_eq hz3 rfl)))), rfl, rfl, qz3_0, (FZ.of (FX.tr FX.rf qz2_2) qz3_1 qz3_2)⟩

def f_X8_close (X : Nat → Int32) (A : Nat → Nat → Int32) (p1 : Int32) : Int32 × (Nat → Int32) × (Nat → Nat → Int32) :=
  bd (f_X8_tries X A) fun z1 =>
  bd (f_X8_closes X z1 p1) fun z2 =>
  bd (f_X8_ends z2.2.1 z2.2.2 z2.1) fun z3 =>
  (z3.1, (z3.2.1, z3.2.2))
abbrev rm_X8_close : Room := { frames := 6, cells := 0, slots := 0, locals := 142 }
set_option maxRecDepth 100000 in
set_option maxHeartbeats 4000000 in
theorem c_X8_close (l : Launch) (D : va_G) (cy : Nat → ClassId) (ad : Nat → Nat) (X : Nat → Int32) (A : Nat → Nat → Int32) (p1 : Int32) (hI : MI A) (hU : vp_in (X 3) 9) : CtI l D cy (MW cy ad) yX8_close cX8_close 2 (some .int) rm_X8_close [.ref (ad 0), .int p1] (X, A) (fun rv u => ∃ z : Int32 × ((Nat → Int32) × (Nat → Nat → Int32)), z = f_X8_close X A p1 ∧ rv = z.1 ∧ u = z.2 ∧ MI (z.2.2) ∧ FZ X (z.2.1)) 0 0 := by
  refine m_entI cX8_close 2 (by decide) (Nat.le_of_ble_eq_true rfl) (fun J h hR => ?_)
  show J (X, A) (0, 0) [(0, .ref (ad 0)), (1, .int p1)] 0 []
  refine j_aload_n h dX8_close_0 rfl 0 rfl ?_
  refine j_callV h (n := 0) (c_X8_tries l D cy ad _ _) (xg_V (xr_16 6 rfl) (xr_16 7 rfl) (xr_16 8 rfl) (xr_1 5 rfl) (xr_16 9 rfl)) rfl rfl (by decide +kernel) ⟨Nat.le_of_ble_eq_true rfl, Nat.le_of_ble_eq_true rfl⟩ 0 rfl rfl rfl rfl rfl (Nat.le_of_ble_eq_true rfl) dX8_close_1 ⟨by decide, by decide⟩ (fun u' hq => ?_)
  obtain ⟨z1, hz1, rfl⟩ := hq
  have hIz1 : MI z1 := MI_tr hI hz1
  refine j_aload_n h dX8_close_4 rfl 0 rfl ?_
  refine j_aload_n h dX8_close_5 rfl 0 rfl ?_
  refine j_iload_n h dX8_close_6 rfl 1 rfl ?_
  refine j_callI h (n := 1) (c_X8_closes l D cy ad _ _ _ hIz1) (xg_V (xr_26 21 rfl) (xr_26 22 rfl) (xr_26 23 rfl) (xr_1 5 rfl) (xr_27 0 rfl)) rfl rfl (by decide +kernel) ⟨Nat.le_of_ble_eq_true rfl, Nat.le_of_ble_eq_true rfl⟩ 0 rfl rfl rfl rfl rfl (Nat.le_of_ble_eq_true rfl) dX8_close_7 ⟨by decide, by decide⟩ (fun r u' hq => ?_)
  obtain ⟨z2, hz2, rfl, rfl, qz2_0, qz2_1, qz2_2⟩ := hq
  refine j_callI h (n := 1) (c_X8_ends l D cy ad _ _ _ (hU_fx (FX.tr FX.rf qz2_2) hU) qz2_0) (xg_V (xr_21 1 rfl) (xr_21 2 rfl) (xr_21 3 rfl) (xr_1 5 rfl) (xr_21 4 rfl)) rfl rfl (by decide +kernel) ⟨Nat.le_of_ble_eq_true rfl, Nat.le_of_ble_eq_true rfl⟩ 0 rfl rfl rfl rfl rfl (Nat.le_of_ble_eq_true rfl) dX8_close_10 ⟨by decide, by decide⟩ (fun r u' hq => ?_)
  obtain ⟨z3, hz3, rfl, rfl, qz3_0, qz3_1, qz3_2⟩ := hq
  exact hR _ _ _ _ dX8_close_13 ⟨(_, _), Eq.symm ((bd_eq hz1 (bd_eq hz2 (bd_eq hz3 rfl)))), rfl, rfl, qz3_0, (FZ.of (FX.tr FX.rf qz2_2) qz3_1 qz3_2)⟩

def f_X8_sweep (X : Nat → Int32) (A : Nat → Nat → Int32) (p1 : Int32) : Int32 × (Nat → Int32) × (Nat → Nat → Int32) :=
  bd (f_X8_tries X A) fun z1 =>
  bd (f_X8_sweeps X z1 p1) fun z2 =>
  bd (f_X8_ends z2.2.1 z2.2.2 z2.1) fun z3 =>
  (z3.1, (z3.2.1, z3.2.2))
abbrev rm_X8_sweep : Room := { frames := 3, cells := 0, slots := 0, locals := 66 }
set_option maxRecDepth 100000 in
set_option maxHeartbeats 4000000 in
theorem c_X8_sweep (l : Launch) (D : va_G) (cy : Nat → ClassId) (ad : Nat → Nat) (X : Nat → Int32) (A : Nat → Nat → Int32) (p1 : Int32) (hI : MI A) (hU : vp_in (X 3) 9) : CtI l D cy (MW cy ad) yX8_sweep cX8_sweep 2 (some .int) rm_X8_sweep [.ref (ad 0), .int p1] (X, A) (fun rv u => ∃ z : Int32 × ((Nat → Int32) × (Nat → Nat → Int32)), z = f_X8_sweep X A p1 ∧ rv = z.1 ∧ u = z.2 ∧ MI (z.2.2) ∧ FZ X (z.2.1)) 0 0 := by
  refine m_entI cX8_sweep 2 (by decide) (Nat.le_of_ble_eq_true rfl) (fun J h hR => ?_)
  show J (X, A) (0, 0) [(0, .ref (ad 0)), (1, .int p1)] 0 []
  refine j_aload_n h dX8_sweep_0 rfl 0 rfl ?_
  refine j_callV h (n := 0) (c_X8_tries l D cy ad _ _) (xg_V (xr_16 6 rfl) (xr_16 7 rfl) (xr_16 8 rfl) (xr_1 5 rfl) (xr_16 9 rfl)) rfl rfl (by decide +kernel) ⟨Nat.le_of_ble_eq_true rfl, Nat.le_of_ble_eq_true rfl⟩ 0 rfl rfl rfl rfl rfl (Nat.le_of_ble_eq_true rfl) dX8_sweep_1 ⟨by decide, by decide⟩ (fun u' hq => ?_)
  obtain ⟨z1, hz1, rfl⟩ := hq
  have hIz1 : MI z1 := MI_tr hI hz1
  refine j_aload_n h dX8_sweep_4 rfl 0 rfl ?_
  refine j_aload_n h dX8_sweep_5 rfl 0 rfl ?_
  refine j_iload_n h dX8_sweep_6 rfl 1 rfl ?_
  refine j_callI h (n := 1) (c_X8_sweeps l D cy ad _ _ _ hIz1) (xg_V (xr_28 9 rfl) (xr_28 10 rfl) (xr_28 11 rfl) (xr_1 5 rfl) (xr_28 12 rfl)) rfl rfl (by decide +kernel) ⟨Nat.le_of_ble_eq_true rfl, Nat.le_of_ble_eq_true rfl⟩ 0 rfl rfl rfl rfl rfl (Nat.le_of_ble_eq_true rfl) dX8_sweep_7 ⟨by decide, by decide⟩ (fun r u' hq => ?_)
  obtain ⟨z2, hz2, rfl, rfl, qz2_0, qz2_1, qz2_2⟩ := hq
  refine j_callI h (n := 1) (c_X8_ends l D cy ad _ _ _ (hU_fx (FX.tr FX.rf qz2_2) hU) qz2_0) (xg_V (xr_21 1 rfl) (xr_21 2 rfl) (xr_21 3 rfl) (xr_1 5 rfl) (xr_21 4 rfl)) rfl rfl (by decide +kernel) ⟨Nat.le_of_ble_eq_true rfl, Nat.le_of_ble_eq_true rfl⟩ 0 rfl rfl rfl rfl rfl (Nat.le_of_ble_eq_true rfl) dX8_sweep_10 ⟨by decide, by decide⟩ (fun r u' hq => ?_)
  obtain ⟨z3, hz3, rfl, rfl, qz3_0, qz3_1, qz3_2⟩ := hq
  exact hR _ _ _ _ dX8_sweep_13 ⟨(_, _), Eq.symm ((bd_eq hz1 (bd_eq hz2 (bd_eq hz3 rfl)))), rfl, rfl, qz3_0, (FZ.of (FX.tr FX.rf qz2_2) qz3_1 qz3_2)⟩

def f_X8_tea (X : Nat → Int32) (A : Nat → Nat → Int32) (p1 : Int32) : Int32 × (Nat → Int32) × (Nat → Nat → Int32) :=
  bd (f_X8_tries X A) fun z1 =>
  bd (f_X8_drinks X z1 p1) fun z2 =>
  bd (f_X8_ends z2.2.1 z2.2.2 z2.1) fun z3 =>
  (z3.1, (z3.2.1, z3.2.2))
abbrev rm_X8_tea : Room := { frames := 2, cells := 0, slots := 0, locals := 43 }
set_option maxRecDepth 100000 in
set_option maxHeartbeats 4000000 in
theorem c_X8_tea (l : Launch) (D : va_G) (cy : Nat → ClassId) (ad : Nat → Nat) (X : Nat → Int32) (A : Nat → Nat → Int32) (p1 : Int32) (hI : MI A) (hU : vp_in (X 3) 9) : CtI l D cy (MW cy ad) yX8_tea cX8_tea 2 (some .int) rm_X8_tea [.ref (ad 0), .int p1] (X, A) (fun rv u => ∃ z : Int32 × ((Nat → Int32) × (Nat → Nat → Int32)), z = f_X8_tea X A p1 ∧ rv = z.1 ∧ u = z.2 ∧ MI (z.2.2) ∧ FZ X (z.2.1)) 0 0 := by
  refine m_entI cX8_tea 2 (by decide) (Nat.le_of_ble_eq_true rfl) (fun J h hR => ?_)
  show J (X, A) (0, 0) [(0, .ref (ad 0)), (1, .int p1)] 0 []
  refine j_aload_n h dX8_tea_0 rfl 0 rfl ?_
  refine j_callV h (n := 0) (c_X8_tries l D cy ad _ _) (xg_V (xr_16 6 rfl) (xr_16 7 rfl) (xr_16 8 rfl) (xr_1 5 rfl) (xr_16 9 rfl)) rfl rfl (by decide +kernel) ⟨Nat.le_of_ble_eq_true rfl, Nat.le_of_ble_eq_true rfl⟩ 0 rfl rfl rfl rfl rfl (Nat.le_of_ble_eq_true rfl) dX8_tea_1 ⟨by decide, by decide⟩ (fun u' hq => ?_)
  obtain ⟨z1, hz1, rfl⟩ := hq
  have hIz1 : MI z1 := MI_tr hI hz1
  refine j_aload_n h dX8_tea_4 rfl 0 rfl ?_
  refine j_aload_n h dX8_tea_5 rfl 0 rfl ?_
  refine j_iload_n h dX8_tea_6 rfl 1 rfl ?_
  refine j_callI h (n := 1) (c_X8_drinks l D cy ad _ _ _ hIz1) (xg_V (xr_31 1 rfl) (xr_31 2 rfl) (xr_31 3 rfl) (xr_1 5 rfl) (xr_31 4 rfl)) rfl rfl (by decide +kernel) ⟨Nat.le_of_ble_eq_true rfl, Nat.le_of_ble_eq_true rfl⟩ 0 rfl rfl rfl rfl rfl (Nat.le_of_ble_eq_true rfl) dX8_tea_7 ⟨by decide, by decide⟩ (fun r u' hq => ?_)
  obtain ⟨z2, hz2, rfl, rfl, qz2_0, qz2_1, qz2_2⟩ := hq
  refine j_callI h (n := 1) (c_X8_ends l D cy ad _ _ _ (hU_fx (FX.tr FX.rf qz2_2) hU) qz2_0) (xg_V (xr_21 1 rfl) (xr_21 2 rfl) (xr_21 3 rfl) (xr_1 5 rfl) (xr_21 4 rfl)) rfl rfl (by decide +kernel) ⟨Nat.le_of_ble_eq_true rfl, Nat.le_of_ble_eq_true rfl⟩ 0 rfl rfl rfl rfl rfl (Nat.le_of_ble_eq_true rfl) dX8_tea_10 ⟨by decide, by decide⟩ (fun r u' hq => ?_)
  obtain ⟨z3, hz3, rfl, rfl, qz3_0, qz3_1, qz3_2⟩ := hq
  exact hR _ _ _ _ dX8_tea_13 ⟨(_, _), Eq.symm ((bd_eq hz1 (bd_eq hz2 (bd_eq hz3 rfl)))), rfl, rfl, qz3_0, (FZ.of (FX.tr FX.rf qz2_2) qz3_1 qz3_2)⟩

def f_X8_hour (X : Nat → Int32) (A : Nat → Nat → Int32) (p1 : Int32) : Int32 × (Nat → Int32) × (Nat → Nat → Int32) :=
  bd (f_X8_tries X A) fun z1 =>
  bd (f_X8_passes X z1 p1) fun z2 =>
  bd (f_X8_ends z2.2.1 z2.2.2 z2.1) fun z3 =>
  (z3.1, (z3.2.1, z3.2.2))
abbrev rm_X8_hour : Room := { frames := 3, cells := 0, slots := 0, locals := 68 }
set_option maxRecDepth 100000 in
set_option maxHeartbeats 4000000 in
theorem c_X8_hour (l : Launch) (D : va_G) (cy : Nat → ClassId) (ad : Nat → Nat) (X : Nat → Int32) (A : Nat → Nat → Int32) (p1 : Int32) (hI : MI A) (hU : vp_in (X 3) 9) : CtI l D cy (MW cy ad) yX8_hour cX8_hour 2 (some .int) rm_X8_hour [.ref (ad 0), .int p1] (X, A) (fun rv u => ∃ z : Int32 × ((Nat → Int32) × (Nat → Nat → Int32)), z = f_X8_hour X A p1 ∧ rv = z.1 ∧ u = z.2 ∧ MI (z.2.2) ∧ FZ X (z.2.1)) 0 0 := by
  refine m_entI cX8_hour 2 (by decide) (Nat.le_of_ble_eq_true rfl) (fun J h hR => ?_)
  show J (X, A) (0, 0) [(0, .ref (ad 0)), (1, .int p1)] 0 []
  refine j_aload_n h dX8_hour_0 rfl 0 rfl ?_
  refine j_callV h (n := 0) (c_X8_tries l D cy ad _ _) (xg_V (xr_16 6 rfl) (xr_16 7 rfl) (xr_16 8 rfl) (xr_1 5 rfl) (xr_16 9 rfl)) rfl rfl (by decide +kernel) ⟨Nat.le_of_ble_eq_true rfl, Nat.le_of_ble_eq_true rfl⟩ 0 rfl rfl rfl rfl rfl (Nat.le_of_ble_eq_true rfl) dX8_hour_1 ⟨by decide, by decide⟩ (fun u' hq => ?_)
  obtain ⟨z1, hz1, rfl⟩ := hq
  have hIz1 : MI z1 := MI_tr hI hz1
  refine j_aload_n h dX8_hour_4 rfl 0 rfl ?_
  refine j_aload_n h dX8_hour_5 rfl 0 rfl ?_
  refine j_iload_n h dX8_hour_6 rfl 1 rfl ?_
  refine j_callI h (n := 1) (c_X8_passes l D cy ad _ _ _ hIz1) (xg_V (xr_32 7 rfl) (xr_32 8 rfl) (xr_32 9 rfl) (xr_1 5 rfl) (xr_32 10 rfl)) rfl rfl (by decide +kernel) ⟨Nat.le_of_ble_eq_true rfl, Nat.le_of_ble_eq_true rfl⟩ 0 rfl rfl rfl rfl rfl (Nat.le_of_ble_eq_true rfl) dX8_hour_7 ⟨by decide, by decide⟩ (fun r u' hq => ?_)
  obtain ⟨z2, hz2, rfl, rfl, qz2_0, qz2_1, qz2_2⟩ := hq
  refine j_callI h (n := 1) (c_X8_ends l D cy ad _ _ _ (hU_fx (FX.tr FX.rf qz2_2) hU) qz2_0) (xg_V (xr_21 1 rfl) (xr_21 2 rfl) (xr_21 3 rfl) (xr_1 5 rfl) (xr_21 4 rfl)) rfl rfl (by decide +kernel) ⟨Nat.le_of_ble_eq_true rfl, Nat.le_of_ble_eq_true rfl⟩ 0 rfl rfl rfl rfl rfl (Nat.le_of_ble_eq_true rfl) dX8_hour_10 ⟨by decide, by decide⟩ (fun r u' hq => ?_)
  obtain ⟨z3, hz3, rfl, rfl, qz3_0, qz3_1, qz3_2⟩ := hq
  exact hR _ _ _ _ dX8_hour_13 ⟨(_, _), Eq.symm ((bd_eq hz1 (bd_eq hz2 (bd_eq hz3 rfl)))), rfl, rfl, qz3_0, (FZ.of (FX.tr FX.rf qz2_2) qz3_1 qz3_2)⟩

def f_X8_brew (X : Nat → Int32) (A : Nat → Nat → Int32) (p1 : Int32) : Int32 × (Nat → Int32) × (Nat → Nat → Int32) :=
  bd (f_X8_tries X A) fun z1 =>
  bd (f_X8_in X z1 p1 1 20) fun z2 =>
  if z2 = 0 then
    ((-2), (X, z1))
  else
    bd (f_X8_keeps X (up2 z1 0 6 (if ((z1 0 6) + p1) < 40 then ((z1 0 6) + p1) else 40)) ((up2 z1 0 6 (if ((z1 0 6) + p1) < 40 then ((z1 0 6) + p1) else 40)) 0 6)) fun z4 =>
    (z4.1, (z4.2.1, z4.2.2))
abbrev rm_X8_brew : Room := { frames := 1, cells := 0, slots := 0, locals := 22 }
set_option maxRecDepth 100000 in
set_option maxHeartbeats 4000000 in
theorem c_X8_brew (l : Launch) (D : va_G) (cy : Nat → ClassId) (ad : Nat → Nat) (X : Nat → Int32) (A : Nat → Nat → Int32) (p1 : Int32) (hI : MI A) (hU : vp_in (X 3) 9) : CtI l D cy (MW cy ad) yX8_brew cX8_brew 2 (some .int) rm_X8_brew [.ref (ad 0), .int p1] (X, A) (fun rv u => ∃ z : Int32 × ((Nat → Int32) × (Nat → Nat → Int32)), z = f_X8_brew X A p1 ∧ rv = z.1 ∧ u = z.2 ∧ MI (z.2.2) ∧ FZ X (z.2.1)) 0 0 := by
  refine m_entI cX8_brew 2 (by decide) (Nat.le_of_ble_eq_true rfl) (fun J h hR => ?_)
  show J (X, A) (0, 0) [(0, .ref (ad 0)), (1, .int p1)] 0 []
  refine j_aload_n h dX8_brew_0 rfl 0 rfl ?_
  refine j_callV h (n := 0) (c_X8_tries l D cy ad _ _) (xg_V (xr_16 6 rfl) (xr_16 7 rfl) (xr_16 8 rfl) (xr_1 5 rfl) (xr_16 9 rfl)) rfl rfl (by decide +kernel) ⟨Nat.le_of_ble_eq_true rfl, Nat.le_of_ble_eq_true rfl⟩ 0 rfl rfl rfl rfl rfl (Nat.le_of_ble_eq_true rfl) dX8_brew_1 ⟨by decide, by decide⟩ (fun u' hq => ?_)
  obtain ⟨z1, hz1, rfl⟩ := hq
  have hIz1 : MI z1 := MI_tr hI hz1
  refine j_iload_n h dX8_brew_4 rfl 1 rfl ?_
  refine j_iconst h (v := 1) dX8_brew_5 (by decide) ?_
  refine j_bipush h (v := 20) dX8_brew_6 (by decide) ?_
  refine j_callS h (n := 3) (c_X8_in l D cy ad _ _ _ _ _) (xg_S (xr_12 13 rfl) (xr_12 14 rfl) (xr_1 5 rfl) (xr_12 15 rfl)) rfl rfl (by decide +kernel) ⟨Nat.le_of_ble_eq_true rfl, Nat.le_of_ble_eq_true rfl⟩  rfl rfl (Nat.le_of_ble_eq_true rfl) dX8_brew_8 ⟨by decide, by decide⟩ (fun z2 u' hq => ?_)
  obtain ⟨hz2, rfl, bz2⟩ := hq
  refine j_if_ne h (tgt := 17) dX8_brew_11 (by decide) (fun c3 => ?_) (fun c3 => ?_)
  · refine j_aload_n h dX8_brew_17 rfl 0 rfl ?_
    refine j_get h inlX8 0 rfl rfl 0 (by decide) (xr_6 7 rfl) rfl (v := .ref (ad 1)) rfl dX8_brew_18 ?_
    refine j_bipush h (v := 6) dX8_brew_21 (by decide) ?_
    refine j_bipush h (v := 40) dX8_brew_23 (by decide) ?_
    refine j_aload_n h dX8_brew_25 rfl 0 rfl ?_
    refine j_get h inlX8 0 rfl rfl 0 (by decide) (xr_6 7 rfl) rfl (v := .ref (ad 1)) rfl dX8_brew_26 ?_
    refine j_bipush h (v := 6) dX8_brew_29 (by decide) ?_
    refine j_ialdE h 1 rfl 6 rfl (by decide) (by decide) dX8_brew_31 ?_
    refine j_iload_n h dX8_brew_32 rfl 1 rfl ?_
    refine j_iadd h dX8_brew_33 ?_
    refine j_mmin h (xr_20 14 rfl) (xr_9 21 rfl) (xr_9 4 rfl) (xr_9 22 rfl) (by decide) (Nat.le_of_ble_eq_true rfl) (by decide) (by decide) dX8_brew_34 ?_
    refine j_iastE h 1 rfl 6 rfl (by decide) (by decide) dX8_brew_37 (u' := (X, up2 z1 0 6 (if ((z1 0 6) + p1) < 40 then ((z1 0 6) + p1) else 40))) rfl ?_
    refine j_aload_n h dX8_brew_38 rfl 0 rfl ?_
    refine j_aload_n h dX8_brew_39 rfl 0 rfl ?_
    refine j_get h inlX8 0 rfl rfl 0 (by decide) (xr_6 7 rfl) rfl (v := .ref (ad 1)) rfl dX8_brew_40 ?_
    refine j_bipush h (v := 6) dX8_brew_43 (by decide) ?_
    refine j_ialdE h 1 rfl 6 rfl (by decide) (by decide) dX8_brew_45 ?_
    refine j_callI h (n := 1) (c_X8_keeps l D cy ad _ _ _ (hU_fx FX.rf hU) (MI_up hIz1 (by decide) (by decide) (by decide))) (xg_V (xr_16 23 rfl) (xr_17 0 rfl) (xr_17 1 rfl) (xr_1 5 rfl) (xr_17 2 rfl)) rfl rfl (by decide +kernel) ⟨Nat.le_of_ble_eq_true rfl, Nat.le_of_ble_eq_true rfl⟩ 0 rfl rfl rfl rfl rfl (Nat.le_of_ble_eq_true rfl) dX8_brew_46 ⟨by decide, by decide⟩ (fun r u' hq => ?_)
    obtain ⟨z4, hz4, rfl, rfl, qz4_0, qz4_1, qz4_2⟩ := hq
    exact hR _ _ _ _ dX8_brew_49 ⟨(_, _), Eq.symm ((bd_eq hz1 (bd_eq hz2 (ite_n c3 (bd_eq hz4 rfl))))), rfl, rfl, qz4_0, (FZ.of FX.rf qz4_1 qz4_2)⟩
  · refine j_bipush h (v := (-2)) dX8_brew_14 (by decide) ?_
    exact hR _ _ _ _ dX8_brew_16 ⟨(_, _), Eq.symm ((bd_eq hz1 (bd_eq hz2 (ite_p c3 rfl)))), rfl, rfl, hIz1, (FZ.fx FX.rf hU)⟩

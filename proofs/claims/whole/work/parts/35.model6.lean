theorem tr_l2 {X : Nat → Int32} {i : Nat} (hi : i ≠ 1) : ∀ n k A, f_X8_tries_l2 X n k A i = A i := by
  intro n
  induction n with
  | zero => intro k A; rfl
  | succ n ih =>
    intro k A
    unfold f_X8_tries_l2
    split
    · rfl
    · exact (ih _ _).trans (up2_ne _ _ _ hi)
theorem tr_i {X : Nat → Int32} {A z : Nat → Nat → Int32} (hz : z = f_X8_tries X A) {i : Nat} (hi : i ≠ 1) : z i = A i := by
  rw [hz]
  unfold f_X8_tries
  dsimp only [bd]
  exact tr_l2 hi 170 0 A
theorem MI_tr {X : Nat → Int32} {A z : Nat → Nat → Int32} (h : MI A) (hz : z = f_X8_tries X A) : MI z := MI_of h (fun j _ => congrFun (tr_i hz (by omega)) j) (tr_i hz (by omega))
theorem hU_fx {X X' : Nat → Int32} (h : FX X X') (hU : vp_in (X 3) 9) : vp_in (X' 3) 9 := by rw [h.1 3 (by omega) (by omega)]; exact hU
/-- what a public call leaves: the undos in range, all but undos, depth and answer as it was, the depth in range -/
def FZ (X0 X : Nat → Int32) : Prop := vp_in (X 3) 9 ∧ (∀ k, k ≠ 3 → k ≠ 16 → k ≠ 17 → X k = X0 k) ∧ (vp_in (X0 16) 4 → vp_in (X 16) 4)
theorem FZ.of {X Y Z : Nat → Int32} (h : FX X Y) (h3 : vp_in (Z 3) 9) (g : ∀ i, i ≠ 3 → Z i = Y i) : FZ X Z := ⟨h3, fun k a b c => (g k a).trans (h.1 k b c), fun q => by rw [g 16 (by omega)]; exact h.2 q⟩
theorem FZ.fx {X Y : Nat → Int32} (h : FX X Y) (h3 : vp_in (X 3) 9) : FZ X Y := ⟨hU_fx h h3, fun k a b c => h.1 k b c, h.2⟩

def f_X8_rain (X : Nat → Int32) (A : Nat → Nat → Int32) (p1 : Int32) : Int32 × (Nat → Int32) × (Nat → Nat → Int32) :=
  bd (f_X8_tries X A) fun z1 =>
  bd (f_X8_sets X z1 1 p1) fun z2 =>
  bd (f_X8_ends z2.2.1 z2.2.2 z2.1) fun z3 =>
  (z3.1, (z3.2.1, z3.2.2))
abbrev rm_X8_rain : Room := { frames := 2, cells := 0, slots := 0, locals := 45 }
set_option maxRecDepth 100000 in
set_option maxHeartbeats 4000000 in
theorem c_X8_rain (l : Launch) (D : gD) (cy : Nat → ClassId) (ad : Nat → Nat) (X : Nat → Int32) (A : Nat → Nat → Int32) (p1 : Int32) (hI : MI A) (hU : vp_in (X 3) 9) : CtI l D cy (MW cy ad) yX8_rain cX8_rain 2 (some .int) rm_X8_rain [.ref (ad 0), .int p1] (X, A) (fun rv u => ∃ z : Int32 × ((Nat → Int32) × (Nat → Nat → Int32)), z = f_X8_rain X A p1 ∧ rv = z.1 ∧ u = z.2 ∧ MI (z.2.2) ∧ FZ X (z.2.1)) 0 0 := by
  refine m_entI cX8_rain 2 (by decide) (Nat.le_of_ble_eq_true rfl) (fun J h hR => ?_)
  show J (X, A) (0, 0) [(0, .ref (ad 0)), (1, .int p1)] 0 []
  refine j_aload_n h dX8_rain_0 rfl 0 rfl ?_
  refine j_callV h (n := 0) (c_X8_tries l D cy ad _ _) (xg_V (xr_16 6 rfl) (xr_16 7 rfl) (xr_16 8 rfl) (xr_1 5 rfl) (xr_16 9 rfl)) rfl rfl (by decide +kernel) ⟨Nat.le_of_ble_eq_true rfl, Nat.le_of_ble_eq_true rfl⟩ 0 rfl rfl rfl rfl rfl (Nat.le_of_ble_eq_true rfl) dX8_rain_1 ⟨by decide, by decide⟩ (fun u' hq => ?_)
  obtain ⟨z1, hz1, rfl⟩ := hq
  have hIz1 : MI z1 := MI_tr hI hz1
  refine j_aload_n h dX8_rain_4 rfl 0 rfl ?_
  refine j_aload_n h dX8_rain_5 rfl 0 rfl ?_
  refine j_iconst h (v := 1) dX8_rain_6 (by decide) ?_
  refine j_iload_n h dX8_rain_7 rfl 1 rfl ?_
  refine j_callI h (n := 2) (c_X8_sets l D cy ad _ _ _ _ (vp_in_nI (by decide) (by decide))) (xg_V (xr_29 5 rfl) (xr_29 6 rfl) (xr_29 7 rfl) (xr_1 5 rfl) (xr_29 8 rfl)) rfl rfl (by decide +kernel) ⟨Nat.le_of_ble_eq_true rfl, Nat.le_of_ble_eq_true rfl⟩ 0 rfl rfl rfl rfl rfl (Nat.le_of_ble_eq_true rfl) dX8_rain_8 ⟨by decide, by decide⟩ (fun r u' hq => ?_)
  obtain ⟨z2, hz2, rfl, rfl⟩ := hq
  have hIz2 : MI z2.2.2 := MI_st hIz1 (vp_in_nI (by decide) (by decide)) hz2
  have qz2_1 := r3_st hz2
  refine j_callI h (n := 1) (c_X8_ends l D cy ad _ _ _ (hU_fx (FX.tr FX.rf (FX_st hz2)) hU) hIz2) (xg_V (xr_21 1 rfl) (xr_21 2 rfl) (xr_21 3 rfl) (xr_1 5 rfl) (xr_21 4 rfl)) rfl rfl (by decide +kernel) ⟨Nat.le_of_ble_eq_true rfl, Nat.le_of_ble_eq_true rfl⟩ 0 rfl rfl rfl rfl rfl (Nat.le_of_ble_eq_true rfl) dX8_rain_11 ⟨by decide, by decide⟩ (fun r u' hq => ?_)
  obtain ⟨z3, hz3, rfl, rfl, qz3_0, qz3_1, qz3_2⟩ := hq
  exact hR _ _ _ _ dX8_rain_14 ⟨(_, _), Eq.symm ((bd_eq hz1 (bd_eq hz2 (bd_eq hz3 rfl)))), rfl, rfl, qz3_0, (FZ.of (FX.tr FX.rf (FX_st hz2)) qz3_1 qz3_2)⟩

def f_X8_sun (X : Nat → Int32) (A : Nat → Nat → Int32) (p1 : Int32) : Int32 × (Nat → Int32) × (Nat → Nat → Int32) :=
  bd (f_X8_tries X A) fun z1 =>
  bd (f_X8_sets X z1 2 p1) fun z2 =>
  bd (f_X8_ends z2.2.1 z2.2.2 z2.1) fun z3 =>
  (z3.1, (z3.2.1, z3.2.2))
abbrev rm_X8_sun : Room := { frames := 2, cells := 0, slots := 0, locals := 45 }
set_option maxRecDepth 100000 in
set_option maxHeartbeats 4000000 in
theorem c_X8_sun (l : Launch) (D : gD) (cy : Nat → ClassId) (ad : Nat → Nat) (X : Nat → Int32) (A : Nat → Nat → Int32) (p1 : Int32) (hI : MI A) (hU : vp_in (X 3) 9) : CtI l D cy (MW cy ad) yX8_sun cX8_sun 2 (some .int) rm_X8_sun [.ref (ad 0), .int p1] (X, A) (fun rv u => ∃ z : Int32 × ((Nat → Int32) × (Nat → Nat → Int32)), z = f_X8_sun X A p1 ∧ rv = z.1 ∧ u = z.2 ∧ MI (z.2.2) ∧ FZ X (z.2.1)) 0 0 := by
  refine m_entI cX8_sun 2 (by decide) (Nat.le_of_ble_eq_true rfl) (fun J h hR => ?_)
  show J (X, A) (0, 0) [(0, .ref (ad 0)), (1, .int p1)] 0 []
  refine j_aload_n h dX8_sun_0 rfl 0 rfl ?_
  refine j_callV h (n := 0) (c_X8_tries l D cy ad _ _) (xg_V (xr_16 6 rfl) (xr_16 7 rfl) (xr_16 8 rfl) (xr_1 5 rfl) (xr_16 9 rfl)) rfl rfl (by decide +kernel) ⟨Nat.le_of_ble_eq_true rfl, Nat.le_of_ble_eq_true rfl⟩ 0 rfl rfl rfl rfl rfl (Nat.le_of_ble_eq_true rfl) dX8_sun_1 ⟨by decide, by decide⟩ (fun u' hq => ?_)
  obtain ⟨z1, hz1, rfl⟩ := hq
  have hIz1 : MI z1 := MI_tr hI hz1
  refine j_aload_n h dX8_sun_4 rfl 0 rfl ?_
  refine j_aload_n h dX8_sun_5 rfl 0 rfl ?_
  refine j_iconst h (v := 2) dX8_sun_6 (by decide) ?_
  refine j_iload_n h dX8_sun_7 rfl 1 rfl ?_
  refine j_callI h (n := 2) (c_X8_sets l D cy ad _ _ _ _ (vp_in_nI (by decide) (by decide))) (xg_V (xr_29 5 rfl) (xr_29 6 rfl) (xr_29 7 rfl) (xr_1 5 rfl) (xr_29 8 rfl)) rfl rfl (by decide +kernel) ⟨Nat.le_of_ble_eq_true rfl, Nat.le_of_ble_eq_true rfl⟩ 0 rfl rfl rfl rfl rfl (Nat.le_of_ble_eq_true rfl) dX8_sun_8 ⟨by decide, by decide⟩ (fun r u' hq => ?_)
  obtain ⟨z2, hz2, rfl, rfl⟩ := hq
  have hIz2 : MI z2.2.2 := MI_st hIz1 (vp_in_nI (by decide) (by decide)) hz2
  have qz2_1 := r3_st hz2
  refine j_callI h (n := 1) (c_X8_ends l D cy ad _ _ _ (hU_fx (FX.tr FX.rf (FX_st hz2)) hU) hIz2) (xg_V (xr_21 1 rfl) (xr_21 2 rfl) (xr_21 3 rfl) (xr_1 5 rfl) (xr_21 4 rfl)) rfl rfl (by decide +kernel) ⟨Nat.le_of_ble_eq_true rfl, Nat.le_of_ble_eq_true rfl⟩ 0 rfl rfl rfl rfl rfl (Nat.le_of_ble_eq_true rfl) dX8_sun_11 ⟨by decide, by decide⟩ (fun r u' hq => ?_)
  obtain ⟨z3, hz3, rfl, rfl, qz3_0, qz3_1, qz3_2⟩ := hq
  exact hR _ _ _ _ dX8_sun_14 ⟨(_, _), Eq.symm ((bd_eq hz1 (bd_eq hz2 (bd_eq hz3 rfl)))), rfl, rfl, qz3_0, (FZ.of (FX.tr FX.rf (FX_st hz2)) qz3_1 qz3_2)⟩

def f_X8_begin (X : Nat → Int32) (A : Nat → Nat → Int32) (p1 : Int32) (p2 : Int32) : Int32 × (Nat → Int32) × (Nat → Nat → Int32) :=
  bd (f_X8_tries X A) fun z1 =>
  bd (f_X8_starts X z1 p1 p2) fun z2 =>
  bd (f_X8_ends z2.2.1 z2.2.2 z2.1) fun z3 =>
  (z3.1, (z3.2.1, z3.2.2))
abbrev rm_X8_begin : Room := { frames := 4, cells := 0, slots := 0, locals := 88 }
set_option maxRecDepth 100000 in
set_option maxHeartbeats 4000000 in
theorem c_X8_begin (l : Launch) (D : gD) (cy : Nat → ClassId) (ad : Nat → Nat) (X : Nat → Int32) (A : Nat → Nat → Int32) (p1 : Int32) (p2 : Int32) (hI : MI A) (hU : vp_in (X 3) 9) : CtI l D cy (MW cy ad) yX8_begin cX8_begin 3 (some .int) rm_X8_begin [.ref (ad 0), .int p1, .int p2] (X, A) (fun rv u => ∃ z : Int32 × ((Nat → Int32) × (Nat → Nat → Int32)), z = f_X8_begin X A p1 p2 ∧ rv = z.1 ∧ u = z.2 ∧ MI (z.2.2) ∧ FZ X (z.2.1)) 0 0 := by
  refine m_entI cX8_begin 3 (by decide) (Nat.le_of_ble_eq_true rfl) (fun J h hR => ?_)
  show J (X, A) (0, 0) [(0, .ref (ad 0)), (1, .int p1), (2, .int p2)] 0 []
  refine j_aload_n h dX8_begin_0 rfl 0 rfl ?_
  refine j_callV h (n := 0) (c_X8_tries l D cy ad _ _) (xg_V (xr_16 6 rfl) (xr_16 7 rfl) (xr_16 8 rfl) (xr_1 5 rfl) (xr_16 9 rfl)) rfl rfl (by decide +kernel) ⟨Nat.le_of_ble_eq_true rfl, Nat.le_of_ble_eq_true rfl⟩ 0 rfl rfl rfl rfl rfl (Nat.le_of_ble_eq_true rfl) dX8_begin_1 ⟨by decide, by decide⟩ (fun u' hq => ?_)
  obtain ⟨z1, hz1, rfl⟩ := hq
  have hIz1 : MI z1 := MI_tr hI hz1
  refine j_aload_n h dX8_begin_4 rfl 0 rfl ?_
  refine j_aload_n h dX8_begin_5 rfl 0 rfl ?_
  refine j_iload_n h dX8_begin_6 rfl 1 rfl ?_
  refine j_iload_n h dX8_begin_7 rfl 2 rfl ?_
  refine j_callI h (n := 2) (c_X8_starts l D cy ad _ _ _ _ hIz1) (xg_V (xr_19 22 rfl) (xr_19 23 rfl) (xr_20 0 rfl) (xr_1 5 rfl) (xr_20 1 rfl)) rfl rfl (by decide +kernel) ⟨Nat.le_of_ble_eq_true rfl, Nat.le_of_ble_eq_true rfl⟩ 0 rfl rfl rfl rfl rfl (Nat.le_of_ble_eq_true rfl) dX8_begin_8 ⟨by decide, by decide⟩ (fun r u' hq => ?_)
  obtain ⟨z2, hz2, rfl, rfl, qz2_0, qz2_1, qz2_2⟩ := hq
  refine j_callI h (n := 1) (c_X8_ends l D cy ad _ _ _ (hU_fx (FX.tr FX.rf qz2_2) hU) qz2_0) (xg_V (xr_21 1 rfl) (xr_21 2 rfl) (xr_21 3 rfl) (xr_1 5 rfl) (xr_21 4 rfl)) rfl rfl (by decide +kernel) ⟨Nat.le_of_ble_eq_true rfl, Nat.le_of_ble_eq_true rfl⟩ 0 rfl rfl rfl rfl rfl (Nat.le_of_ble_eq_true rfl) dX8_begin_11 ⟨by decide, by decide⟩ (fun r u' hq => ?_)
  obtain ⟨z3, hz3, rfl, rfl, qz3_0, qz3_1, qz3_2⟩ := hq
  exact hR _ _ _ _ dX8_begin_14 ⟨(_, _), Eq.symm ((bd_eq hz1 (bd_eq hz2 (bd_eq hz3 rfl)))), rfl, rfl, qz3_0, (FZ.of (FX.tr FX.rf qz2_2) qz3_1 qz3_2)⟩

def f_X8_bowl (X : Nat → Int32) (A : Nat → Nat → Int32) (p1 : Int32) (p2 : Int32) (p3 : Int32) (p4 : Int32) (p5 : Int32) : Int32 × (Nat → Int32) × (Nat → Nat → Int32) :=
  bd (f_X8_tries X A) fun z1 =>
  bd (f_X8_bowls X z1 p1 p2 p3 p4 p5) fun z2 =>
  bd (f_X8_ends z2.2.1 z2.2.2 z2.1) fun z3 =>
  (z3.1, (z3.2.1, z3.2.2))
abbrev rm_X8_bowl : Room := { frames := 4, cells := 0, slots := 0, locals := 100 }
set_option maxRecDepth 100000 in
set_option maxHeartbeats 4000000 in
theorem c_X8_bowl (l : Launch) (D : gD) (cy : Nat → ClassId) (ad : Nat → Nat) (X : Nat → Int32) (A : Nat → Nat → Int32) (p1 : Int32) (p2 : Int32) (p3 : Int32) (p4 : Int32) (p5 : Int32) (hI : MI A) (hU : vp_in (X 3) 9) : CtI l D cy (MW cy ad) yX8_bowl cX8_bowl 6 (some .int) rm_X8_bowl [.ref (ad 0), .int p1, .int p2, .int p3, .int p4, .int p5] (X, A) (fun rv u => ∃ z : Int32 × ((Nat → Int32) × (Nat → Nat → Int32)), z = f_X8_bowl X A p1 p2 p3 p4 p5 ∧ rv = z.1 ∧ u = z.2 ∧ MI (z.2.2) ∧ FZ X (z.2.1)) 0 0 := by
  refine m_entI cX8_bowl 6 (by decide) (Nat.le_of_ble_eq_true rfl) (fun J h hR => ?_)
  show J (X, A) (0, 0) [(0, .ref (ad 0)), (1, .int p1), (2, .int p2), (3, .int p3), (4, .int p4), (5, .int p5)] 0 []
  refine j_aload_n h dX8_bowl_0 rfl 0 rfl ?_
  refine j_callV h (n := 0) (c_X8_tries l D cy ad _ _) (xg_V (xr_16 6 rfl) (xr_16 7 rfl) (xr_16 8 rfl) (xr_1 5 rfl) (xr_16 9 rfl)) rfl rfl (by decide +kernel) ⟨Nat.le_of_ble_eq_true rfl, Nat.le_of_ble_eq_true rfl⟩ 0 rfl rfl rfl rfl rfl (Nat.le_of_ble_eq_true rfl) dX8_bowl_1 ⟨by decide, by decide⟩ (fun u' hq => ?_)
  obtain ⟨z1, hz1, rfl⟩ := hq
  have hIz1 : MI z1 := MI_tr hI hz1
  refine j_aload_n h dX8_bowl_4 rfl 0 rfl ?_
  refine j_aload_n h dX8_bowl_5 rfl 0 rfl ?_
  refine j_iload_n h dX8_bowl_6 rfl 1 rfl ?_
  refine j_iload_n h dX8_bowl_7 rfl 2 rfl ?_
  refine j_iload_n h dX8_bowl_8 rfl 3 rfl ?_
  refine j_iload h dX8_bowl_9 4 rfl ?_
  refine j_iload h dX8_bowl_11 5 rfl ?_
  refine j_callI h (n := 5) (c_X8_bowls l D cy ad _ _ _ _ _ _ _ hIz1) (xg_V (xr_23 16 rfl) (xr_23 17 rfl) (xr_23 18 rfl) (xr_1 5 rfl) (xr_23 19 rfl)) rfl rfl (by decide +kernel) ⟨Nat.le_of_ble_eq_true rfl, Nat.le_of_ble_eq_true rfl⟩ 0 rfl rfl rfl rfl rfl (Nat.le_of_ble_eq_true rfl) dX8_bowl_13 ⟨by decide, by decide⟩ (fun r u' hq => ?_)
  obtain ⟨z2, hz2, rfl, rfl, qz2_0, qz2_1, qz2_2⟩ := hq
  refine j_callI h (n := 1) (c_X8_ends l D cy ad _ _ _ (hU_fx (FX.tr FX.rf qz2_2) hU) qz2_0) (xg_V (xr_21 1 rfl) (xr_21 2 rfl) (xr_21 3 rfl) (xr_1 5 rfl) (xr_21 4 rfl)) rfl rfl (by decide +kernel) ⟨Nat.le_of_ble_eq_true rfl, Nat.le_of_ble_eq_true rfl⟩ 0 rfl rfl rfl rfl rfl (Nat.le_of_ble_eq_true rfl) dX8_bowl_16 ⟨by decide, by decide⟩ (fun r u' hq => ?_)
  obtain ⟨z3, hz3, rfl, rfl, qz3_0, qz3_1, qz3_2⟩ := hq
  exact hR _ _ _ _ dX8_bowl_19 ⟨(_, _), Eq.symm ((bd_eq hz1 (bd_eq hz2 (bd_eq hz3 rfl)))), rfl, rfl, qz3_0, (FZ.of (FX.tr FX.rf qz2_2) qz3_1 qz3_2)⟩

def f_X8_close (X : Nat → Int32) (A : Nat → Nat → Int32) (p1 : Int32) : Int32 × (Nat → Int32) × (Nat → Nat → Int32) :=
  bd (f_X8_tries X A) fun z1 =>
  bd (f_X8_closes X z1 p1) fun z2 =>
  bd (f_X8_ends z2.2.1 z2.2.2 z2.1) fun z3 =>
  (z3.1, (z3.2.1, z3.2.2))
abbrev rm_X8_close : Room := { frames := 6, cells := 0, slots := 0, locals := 142 }
set_option maxRecDepth 100000 in
set_option maxHeartbeats 4000000 in
theorem c_X8_close (l : Launch) (D : gD) (cy : Nat → ClassId) (ad : Nat → Nat) (X : Nat → Int32) (A : Nat → Nat → Int32) (p1 : Int32) (hI : MI A) (hU : vp_in (X 3) 9) : CtI l D cy (MW cy ad) yX8_close cX8_close 2 (some .int) rm_X8_close [.ref (ad 0), .int p1] (X, A) (fun rv u => ∃ z : Int32 × ((Nat → Int32) × (Nat → Nat → Int32)), z = f_X8_close X A p1 ∧ rv = z.1 ∧ u = z.2 ∧ MI (z.2.2) ∧ FZ X (z.2.1)) 0 0 := by
  refine m_entI cX8_close 2 (by decide) (Nat.le_of_ble_eq_true rfl) (fun J h hR => ?_)
  show J (X, A) (0, 0) [(0, .ref (ad 0)), (1, .int p1)] 0 []
  refine j_aload_n h dX8_close_0 rfl 0 rfl ?_
  refine j_callV h (n := 0) (c_X8_tries l D cy ad _ _) (xg_V (xr_16 6 rfl) (xr_16 7 rfl) (xr_16 8 rfl) (xr_1 5 rfl) (xr_16 9 rfl)) rfl rfl (by decide +kernel) ⟨Nat.le_of_ble_eq_true rfl, Nat.le_of_ble_eq_true rfl⟩ 0 rfl rfl rfl rfl rfl (Nat.le_of_ble_eq_true rfl) dX8_close_1 ⟨by decide, by decide⟩ (fun u' hq => ?_)
  obtain ⟨z1, hz1, rfl⟩ := hq
  have hIz1 : MI z1 := MI_tr hI hz1
  refine j_aload_n h dX8_close_4 rfl 0 rfl ?_
  refine j_aload_n h dX8_close_5 rfl 0 rfl ?_
  refine j_iload_n h dX8_close_6 rfl 1 rfl ?_
  refine j_callI h (n := 1) (c_X8_closes l D cy ad _ _ _ hIz1) (xg_V (xr_26 21 rfl) (xr_26 22 rfl) (xr_26 23 rfl) (xr_1 5 rfl) (xr_27 0 rfl)) rfl rfl (by decide +kernel) ⟨Nat.le_of_ble_eq_true rfl, Nat.le_of_ble_eq_true rfl⟩ 0 rfl rfl rfl rfl rfl (Nat.le_of_ble_eq_true rfl) dX8_close_7 ⟨by decide, by decide⟩ (fun r u' hq => ?_)
  obtain ⟨z2, hz2, rfl, rfl, qz2_0, qz2_1, qz2_2⟩ := hq
  refine j_callI h (n := 1) (c_X8_ends l D cy ad _ _ _ (hU_fx (FX.tr FX.rf qz2_2) hU) qz2_0) (xg_V (xr_21 1 rfl) (xr_21 2 rfl) (xr_21 3 rfl) (xr_1 5 rfl) (xr_21 4 rfl)) rfl rfl (by decide +kernel) ⟨Nat.le_of_ble_eq_true rfl, Nat.le_of_ble_eq_true rfl⟩ 0 rfl rfl rfl rfl rfl (Nat.le_of_ble_eq_true rfl) dX8_close_10 ⟨by decide, by decide⟩ (fun r u' hq => ?_)
  obtain ⟨z3, hz3, rfl, rfl, qz3_0, qz3_1, qz3_2⟩ := hq
  exact hR _ _ _ _ dX8_close_13 ⟨(_, _), Eq.symm ((bd_eq hz1 (bd_eq hz2 (bd_eq hz3 rfl)))), rfl, rfl, qz3_0, (FZ.of (FX.tr FX.rf qz2_2) qz3_1 qz3_2)⟩

def f_X8_sweep (X : Nat → Int32) (A : Nat → Nat → Int32) (p1 : Int32) : Int32 × (Nat → Int32) × (Nat → Nat → Int32) :=
  bd (f_X8_tries X A) fun z1 =>
  bd (f_X8_sweeps X z1 p1) fun z2 =>
  bd (f_X8_ends z2.2.1 z2.2.2 z2.1) fun z3 =>
  (z3.1, (z3.2.1, z3.2.2))
abbrev rm_X8_sweep : Room := { frames := 3, cells := 0, slots := 0, locals := 66 }
set_option maxRecDepth 100000 in
set_option maxHeartbeats 4000000 in
theorem c_X8_sweep (l : Launch) (D : gD) (cy : Nat → ClassId) (ad : Nat → Nat) (X : Nat → Int32) (A : Nat → Nat → Int32) (p1 : Int32) (hI : MI A) (hU : vp_in (X 3) 9) : CtI l D cy (MW cy ad) yX8_sweep cX8_sweep 2 (some .int) rm_X8_sweep [.ref (ad 0), .int p1] (X, A) (fun rv u => ∃ z : Int32 × ((Nat → Int32) × (Nat → Nat → Int32)), z = f_X8_sweep X A p1 ∧ rv = z.1 ∧ u = z.2 ∧ MI (z.2.2) ∧ FZ X (z.2.1)) 0 0 := by
  refine m_entI cX8_sweep 2 (by decide) (Nat.le_of_ble_eq_true rfl) (fun J h hR => ?_)
  show J (X, A) (0, 0) [(0, .ref (ad 0)), (1, .int p1)] 0 []
  refine j_aload_n h dX8_sweep_0 rfl 0 rfl ?_
  refine j_callV h (n := 0) (c_X8_tries l D cy ad _ _) (xg_V (xr_16 6 rfl) (xr_16 7 rfl) (xr_16 8 rfl) (xr_1 5 rfl) (xr_16 9 rfl)) rfl rfl (by decide +kernel) ⟨Nat.le_of_ble_eq_true rfl, Nat.le_of_ble_eq_true rfl⟩ 0 rfl rfl rfl rfl rfl (Nat.le_of_ble_eq_true rfl) dX8_sweep_1 ⟨by decide, by decide⟩ (fun u' hq => ?_)
  obtain ⟨z1, hz1, rfl⟩ := hq
  have hIz1 : MI z1 := MI_tr hI hz1
  refine j_aload_n h dX8_sweep_4 rfl 0 rfl ?_
  refine j_aload_n h dX8_sweep_5 rfl 0 rfl ?_
  refine j_iload_n h dX8_sweep_6 rfl 1 rfl ?_
  refine j_callI h (n := 1) (c_X8_sweeps l D cy ad _ _ _ hIz1) (xg_V (xr_28 9 rfl) (xr_28 10 rfl) (xr_28 11 rfl) (xr_1 5 rfl) (xr_28 12 rfl)) rfl rfl (by decide +kernel) ⟨Nat.le_of_ble_eq_true rfl, Nat.le_of_ble_eq_true rfl⟩ 0 rfl rfl rfl rfl rfl (Nat.le_of_ble_eq_true rfl) dX8_sweep_7 ⟨by decide, by decide⟩ (fun r u' hq => ?_)
  obtain ⟨z2, hz2, rfl, rfl, qz2_0, qz2_1, qz2_2⟩ := hq
  refine j_callI h (n := 1) (c_X8_ends l D cy ad _ _ _ (hU_fx (FX.tr FX.rf qz2_2) hU) qz2_0) (xg_V (xr_21 1 rfl) (xr_21 2 rfl) (xr_21 3 rfl) (xr_1 5 rfl) (xr_21 4 rfl)) rfl rfl (by decide +kernel) ⟨Nat.le_of_ble_eq_true rfl, Nat.le_of_ble_eq_true rfl⟩ 0 rfl rfl rfl rfl rfl (Nat.le_of_ble_eq_true rfl) dX8_sweep_10 ⟨by decide, by decide⟩ (fun r u' hq => ?_)
  obtain ⟨z3, hz3, rfl, rfl, qz3_0, qz3_1, qz3_2⟩ := hq
  exact hR _ _ _ _ dX8_sweep_13 ⟨(_, _), Eq.symm ((bd_eq hz1 (bd_eq hz2 (bd_eq hz3 rfl)))), rfl, rfl, qz3_0, (FZ.of (FX.tr FX.rf qz2_2) qz3_1 qz3_2)⟩

def f_X8_tea (X : Nat → Int32) (A : Nat → Nat → Int32) (p1 : Int32) : Int32 × (Nat → Int32) × (Nat → Nat → Int32) :=
  bd (f_X8_tries X A) fun z1 =>
  bd (f_X8_drinks X z1 p1) fun z2 =>
  bd (f_X8_ends z2.2.1 z2.2.2 z2.1) fun z3 =>
  (z3.1, (z3.2.1, z3.2.2))
abbrev rm_X8_tea : Room := { frames := 2, cells := 0, slots := 0, locals := 43 }
set_option maxRecDepth 100000 in
set_option maxHeartbeats 4000000 in
theorem c_X8_tea (l : Launch) (D : gD) (cy : Nat → ClassId) (ad : Nat → Nat) (X : Nat → Int32) (A : Nat → Nat → Int32) (p1 : Int32) (hI : MI A) (hU : vp_in (X 3) 9) : CtI l D cy (MW cy ad) yX8_tea cX8_tea 2 (some .int) rm_X8_tea [.ref (ad 0), .int p1] (X, A) (fun rv u => ∃ z : Int32 × ((Nat → Int32) × (Nat → Nat → Int32)), z = f_X8_tea X A p1 ∧ rv = z.1 ∧ u = z.2 ∧ MI (z.2.2) ∧ FZ X (z.2.1)) 0 0 := by
  refine m_entI cX8_tea 2 (by decide) (Nat.le_of_ble_eq_true rfl) (fun J h hR => ?_)
  show J (X, A) (0, 0) [(0, .ref (ad 0)), (1, .int p1)] 0 []
  refine j_aload_n h dX8_tea_0 rfl 0 rfl ?_
  refine j_callV h (n := 0) (c_X8_tries l D cy ad _ _) (xg_V (xr_16 6 rfl) (xr_16 7 rfl) (xr_16 8 rfl) (xr_1 5 rfl) (xr_16 9 rfl)) rfl rfl (by decide +kernel) ⟨Nat.le_of_ble_eq_true rfl, Nat.le_of_ble_eq_true rfl⟩ 0 rfl rfl rfl rfl rfl (Nat.le_of_ble_eq_true rfl) dX8_tea_1 ⟨by decide, by decide⟩ (fun u' hq => ?_)
  obtain ⟨z1, hz1, rfl⟩ := hq
  have hIz1 : MI z1 := MI_tr hI hz1
  refine j_aload_n h dX8_tea_4 rfl 0 rfl ?_
  refine j_aload_n h dX8_tea_5 rfl 0 rfl ?_
  refine j_iload_n h dX8_tea_6 rfl 1 rfl ?_
  refine j_callI h (n := 1) (c_X8_drinks l D cy ad _ _ _ hIz1) (xg_V (xr_31 1 rfl) (xr_31 2 rfl) (xr_31 3 rfl) (xr_1 5 rfl) (xr_31 4 rfl)) rfl rfl (by decide +kernel) ⟨Nat.le_of_ble_eq_true rfl, Nat.le_of_ble_eq_true rfl⟩ 0 rfl rfl rfl rfl rfl (Nat.le_of_ble_eq_true rfl) dX8_tea_7 ⟨by decide, by decide⟩ (fun r u' hq => ?_)
  obtain ⟨z2, hz2, rfl, rfl, qz2_0, qz2_1, qz2_2⟩ := hq
  refine j_callI h (n := 1) (c_X8_ends l D cy ad _ _ _ (hU_fx (FX.tr FX.rf qz2_2) hU) qz2_0) (xg_V (xr_21 1 rfl) (xr_21 2 rfl) (xr_21 3 rfl) (xr_1 5 rfl) (xr_21 4 rfl)) rfl rfl (by decide +kernel) ⟨Nat.le_of_ble_eq_true rfl, Nat.le_of_ble_eq_true rfl⟩ 0 rfl rfl rfl rfl rfl (Nat.le_of_ble_eq_true rfl) dX8_tea_10 ⟨by decide, by decide⟩ (fun r u' hq => ?_)
  obtain ⟨z3, hz3, rfl, rfl, qz3_0, qz3_1, qz3_2⟩ := hq
  exact hR _ _ _ _ dX8_tea_13 ⟨(_, _), Eq.symm ((bd_eq hz1 (bd_eq hz2 (bd_eq hz3 rfl)))), rfl, rfl, qz3_0, (FZ.of (FX.tr FX.rf qz2_2) qz3_1 qz3_2)⟩

def f_X8_hour (X : Nat → Int32) (A : Nat → Nat → Int32) (p1 : Int32) : Int32 × (Nat → Int32) × (Nat → Nat → Int32) :=
  bd (f_X8_tries X A) fun z1 =>
  bd (f_X8_passes X z1 p1) fun z2 =>
  bd (f_X8_ends z2.2.1 z2.2.2 z2.1) fun z3 =>
  (z3.1, (z3.2.1, z3.2.2))
abbrev rm_X8_hour : Room := { frames := 3, cells := 0, slots := 0, locals := 68 }
set_option maxRecDepth 100000 in
set_option maxHeartbeats 4000000 in
theorem c_X8_hour (l : Launch) (D : gD) (cy : Nat → ClassId) (ad : Nat → Nat) (X : Nat → Int32) (A : Nat → Nat → Int32) (p1 : Int32) (hI : MI A) (hU : vp_in (X 3) 9) : CtI l D cy (MW cy ad) yX8_hour cX8_hour 2 (some .int) rm_X8_hour [.ref (ad 0), .int p1] (X, A) (fun rv u => ∃ z : Int32 × ((Nat → Int32) × (Nat → Nat → Int32)), z = f_X8_hour X A p1 ∧ rv = z.1 ∧ u = z.2 ∧ MI (z.2.2) ∧ FZ X (z.2.1)) 0 0 := by
  refine m_entI cX8_hour 2 (by decide) (Nat.le_of_ble_eq_true rfl) (fun J h hR => ?_)
  show J (X, A) (0, 0) [(0, .ref (ad 0)), (1, .int p1)] 0 []
  refine j_aload_n h dX8_hour_0 rfl 0 rfl ?_
  refine j_callV h (n := 0) (c_X8_tries l D cy ad _ _) (xg_V (xr_16 6 rfl) (xr_16 7 rfl) (xr_16 8 rfl) (xr_1 5 rfl) (xr_16 9 rfl)) rfl rfl (by decide +kernel) ⟨Nat.le_of_ble_eq_true rfl, Nat.le_of_ble_eq_true rfl⟩ 0 rfl rfl rfl rfl rfl (Nat.le_of_ble_eq_true rfl) dX8_hour_1 ⟨by decide, by decide⟩ (fun u' hq => ?_)
  obtain ⟨z1, hz1, rfl⟩ := hq
  have hIz1 : MI z1 := MI_tr hI hz1
  refine j_aload_n h dX8_hour_4 rfl 0 rfl ?_
  refine j_aload_n h dX8_hour_5 rfl 0 rfl ?_
  refine j_iload_n h dX8_hour_6 rfl 1 rfl ?_
  refine j_callI h (n := 1) (c_X8_passes l D cy ad _ _ _ hIz1) (xg_V (xr_32 7 rfl) (xr_32 8 rfl) (xr_32 9 rfl) (xr_1 5 rfl) (xr_32 10 rfl)) rfl rfl (by decide +kernel) ⟨Nat.le_of_ble_eq_true rfl, Nat.le_of_ble_eq_true rfl⟩ 0 rfl rfl rfl rfl rfl (Nat.le_of_ble_eq_true rfl) dX8_hour_7 ⟨by decide, by decide⟩ (fun r u' hq => ?_)
  obtain ⟨z2, hz2, rfl, rfl, qz2_0, qz2_1, qz2_2⟩ := hq
  refine j_callI h (n := 1) (c_X8_ends l D cy ad _ _ _ (hU_fx (FX.tr FX.rf qz2_2) hU) qz2_0) (xg_V (xr_21 1 rfl) (xr_21 2 rfl) (xr_21 3 rfl) (xr_1 5 rfl) (xr_21 4 rfl)) rfl rfl (by decide +kernel) ⟨Nat.le_of_ble_eq_true rfl, Nat.le_of_ble_eq_true rfl⟩ 0 rfl rfl rfl rfl rfl (Nat.le_of_ble_eq_true rfl) dX8_hour_10 ⟨by decide, by decide⟩ (fun r u' hq => ?_)
  obtain ⟨z3, hz3, rfl, rfl, qz3_0, qz3_1, qz3_2⟩ := hq
  exact hR _ _ _ _ dX8_hour_13 ⟨(_, _), Eq.symm ((bd_eq hz1 (bd_eq hz2 (bd_eq hz3 rfl)))), rfl, rfl, qz3_0, (FZ.of (FX.tr FX.rf qz2_2) qz3_1 qz3_2)⟩

def f_X8_brew (X : Nat → Int32) (A : Nat → Nat → Int32) (p1 : Int32) : Int32 × (Nat → Int32) × (Nat → Nat → Int32) :=
  bd (f_X8_tries X A) fun z1 =>
  bd (f_X8_in X z1 p1 1 20) fun z2 =>
  if z2 = 0 then
    ((-2), (X, z1))
  else
    bd (f_X8_keeps X (up2 z1 0 6 (if ((z1 0 6) + p1) < 40 then ((z1 0 6) + p1) else 40)) ((up2 z1 0 6 (if ((z1 0 6) + p1) < 40 then ((z1 0 6) + p1) else 40)) 0 6)) fun z4 =>
    (z4.1, (z4.2.1, z4.2.2))
abbrev rm_X8_brew : Room := { frames := 1, cells := 0, slots := 0, locals := 22 }
set_option maxRecDepth 100000 in
set_option maxHeartbeats 4000000 in
theorem c_X8_brew (l : Launch) (D : gD) (cy : Nat → ClassId) (ad : Nat → Nat) (X : Nat → Int32) (A : Nat → Nat → Int32) (p1 : Int32) (hI : MI A) (hU : vp_in (X 3) 9) : CtI l D cy (MW cy ad) yX8_brew cX8_brew 2 (some .int) rm_X8_brew [.ref (ad 0), .int p1] (X, A) (fun rv u => ∃ z : Int32 × ((Nat → Int32) × (Nat → Nat → Int32)), z = f_X8_brew X A p1 ∧ rv = z.1 ∧ u = z.2 ∧ MI (z.2.2) ∧ FZ X (z.2.1)) 0 0 := by
  refine m_entI cX8_brew 2 (by decide) (Nat.le_of_ble_eq_true rfl) (fun J h hR => ?_)
  show J (X, A) (0, 0) [(0, .ref (ad 0)), (1, .int p1)] 0 []
  refine j_aload_n h dX8_brew_0 rfl 0 rfl ?_
  refine j_callV h (n := 0) (c_X8_tries l D cy ad _ _) (xg_V (xr_16 6 rfl) (xr_16 7 rfl) (xr_16 8 rfl) (xr_1 5 rfl) (xr_16 9 rfl)) rfl rfl (by decide +kernel) ⟨Nat.le_of_ble_eq_true rfl, Nat.le_of_ble_eq_true rfl⟩ 0 rfl rfl rfl rfl rfl (Nat.le_of_ble_eq_true rfl) dX8_brew_1 ⟨by decide, by decide⟩ (fun u' hq => ?_)
  obtain ⟨z1, hz1, rfl⟩ := hq
  have hIz1 : MI z1 := MI_tr hI hz1
  refine j_iload_n h dX8_brew_4 rfl 1 rfl ?_
  refine j_iconst h (v := 1) dX8_brew_5 (by decide) ?_
  refine j_bipush h (v := 20) dX8_brew_6 (by decide) ?_
  refine j_callS h (n := 3) (c_X8_in l D cy ad _ _ _ _ _) (xg_S (xr_12 13 rfl) (xr_12 14 rfl) (xr_1 5 rfl) (xr_12 15 rfl)) rfl rfl (by decide +kernel) ⟨Nat.le_of_ble_eq_true rfl, Nat.le_of_ble_eq_true rfl⟩  rfl rfl (Nat.le_of_ble_eq_true rfl) dX8_brew_8 ⟨by decide, by decide⟩ (fun z2 u' hq => ?_)
  obtain ⟨hz2, rfl, bz2⟩ := hq
  refine j_if_ne h (tgt := 17) dX8_brew_11 (by decide) (fun c3 => ?_) (fun c3 => ?_)
  · refine j_aload_n h dX8_brew_17 rfl 0 rfl ?_
    refine j_get h inlX8 0 rfl rfl 0 (by decide) (xr_6 7 rfl) rfl (v := .ref (ad 1)) rfl dX8_brew_18 ?_
    refine j_bipush h (v := 6) dX8_brew_21 (by decide) ?_
    refine j_bipush h (v := 40) dX8_brew_23 (by decide) ?_
    refine j_aload_n h dX8_brew_25 rfl 0 rfl ?_
    refine j_get h inlX8 0 rfl rfl 0 (by decide) (xr_6 7 rfl) rfl (v := .ref (ad 1)) rfl dX8_brew_26 ?_
    refine j_bipush h (v := 6) dX8_brew_29 (by decide) ?_
    refine j_ialdE h 1 rfl 6 rfl (by decide) (by decide) dX8_brew_31 ?_
    refine j_iload_n h dX8_brew_32 rfl 1 rfl ?_
    refine j_iadd h dX8_brew_33 ?_
    refine j_mmin h (xr_20 14 rfl) (xr_9 21 rfl) (xr_9 4 rfl) (xr_9 22 rfl) (by decide) (Nat.le_of_ble_eq_true rfl) (by decide) (by decide) dX8_brew_34 ?_
    refine j_iastE h 1 rfl 6 rfl (by decide) (by decide) dX8_brew_37 (u' := (X, up2 z1 0 6 (if ((z1 0 6) + p1) < 40 then ((z1 0 6) + p1) else 40))) rfl ?_
    refine j_aload_n h dX8_brew_38 rfl 0 rfl ?_
    refine j_aload_n h dX8_brew_39 rfl 0 rfl ?_
    refine j_get h inlX8 0 rfl rfl 0 (by decide) (xr_6 7 rfl) rfl (v := .ref (ad 1)) rfl dX8_brew_40 ?_
    refine j_bipush h (v := 6) dX8_brew_43 (by decide) ?_
    refine j_ialdE h 1 rfl 6 rfl (by decide) (by decide) dX8_brew_45 ?_
    refine j_callI h (n := 1) (c_X8_keeps l D cy ad _ _ _ (hU_fx FX.rf hU) (MI_up hIz1 (by decide) (by decide) (by decide))) (xg_V (xr_16 23 rfl) (xr_17 0 rfl) (xr_17 1 rfl) (xr_1 5 rfl) (xr_17 2 rfl)) rfl rfl (by decide +kernel) ⟨Nat.le_of_ble_eq_true rfl, Nat.le_of_ble_eq_true rfl⟩ 0 rfl rfl rfl rfl rfl (Nat.le_of_ble_eq_true rfl) dX8_brew_46 ⟨by decide, by decide⟩ (fun r u' hq => ?_)
    obtain ⟨z4, hz4, rfl, rfl, qz4_0, qz4_1, qz4_2⟩ := hq
    exact hR _ _ _ _ dX8_brew_49 ⟨(_, _), Eq.symm ((bd_eq hz1 (bd_eq hz2 (ite_n c3 (bd_eq hz4 rfl))))), rfl, rfl, qz4_0, (FZ.of FX.rf qz4_1 qz4_2)⟩
  · refine j_bipush h (v := (-2)) dX8_brew_14 (by decide) ?_
    exact hR _ _ _ _ dX8_brew_16 ⟨(_, _), Eq.symm ((bd_eq hz1 (bd_eq hz2 (ite_p c3 rfl)))), rfl, rfl, hIz1, (FZ.fx FX.rf hU)⟩

def f_X8_rink_l118 (X : Nat → Int32) (p1 : Int32) (p2 : Int32) (n0 : Int32) : Nat → Nat → (Nat → Nat → Int32) → (Nat → Nat → Int32)
  | 0, _, Aj => Aj
  | n + 1, j, Aj =>
    if 10 ≤ (nI j) then
      Aj
    else
      bd (f_X8_setsRink X Aj n0 (nI j) 0) fun z11 =>
      f_X8_rink_l118 X p1 p2 n0 n (j + 1) z11
def f_X8_rink_l63 (X : Nat → Int32) (p1 : Int32) (p2 : Int32) : Nat → Nat → Int32 → (Nat → Nat → Int32) → Int32 × (Nat → Int32) × (Nat → Nat → Int32)
  | 0, _, n0, Ak => (0, (X, Ak))
  | n + 1, k, n0, Ak =>
    if n0 ≤ (nI k) then
      bd (f_X8_rink_l118 X p1 p2 n0 11 0 (up2 Ak 0 3 ((Ak 0 3) + 1))) fun z12 =>
      bd (f_X8_setsRink X z12 n0 0 p1) fun z13 =>
      bd (f_X8_setsRink X z13 n0 1 p2) fun z14 =>
      bd (f_X8_keeps X z14 n0) fun z15 =>
      (z15.1, (z15.2.1, z15.2.2))
    else
      bd (f_X8_ofRink X Ak (nI k) 1) fun z16 =>
      if z16 < p1 then
        f_X8_rink_l63 X p1 p2 n (k + 1) n0 Ak
      else
        bd (f_X8_ofRink X Ak (nI k) 0) fun z18 =>
        if p2 < z18 then
          f_X8_rink_l63 X p1 p2 n (k + 1) n0 Ak
        else
          bd (f_X8_refuses X Ak 2 (nI k)) fun z20 =>
          (z20.1, (z20.2.1, z20.2.2))
def f_X8_rink (X : Nat → Int32) (A : Nat → Nat → Int32) (p1 : Int32) (p2 : Int32) : Int32 × (Nat → Int32) × (Nat → Nat → Int32) :=
  bd (f_X8_tries X A) fun z1 =>
  bd (f_X8_in X z1 p1 0 29) fun z2 =>
  if z2 = 0 then
    ((-2), (X, z1))
  else
    bd (f_X8_in X z1 p2 0 29) fun z4 =>
    if z4 = 0 then
      ((-2), (X, z1))
    else
      bd (f_X8_in X z1 ((p2 - p1) + 1) 3 10) fun z6 =>
      if z6 = 0 then
        ((-2), (X, z1))
      else
        if (z1 0 3) = 4 then
          bd (f_X8_refuses X z1 1 4) fun z21 =>
          (z21.1, (z21.2.1, z21.2.2))
        else
          f_X8_rink_l63 X p1 p2 5 0 (z1 0 3) z1
abbrev rm_X8_rink : Room := { frames := 1, cells := 0, slots := 0, locals := 23 }
set_option maxRecDepth 100000 in
set_option maxHeartbeats 4000000 in
theorem c_X8_rink (l : Launch) (D : gD) (cy : Nat → ClassId) (ad : Nat → Nat) (X : Nat → Int32) (A : Nat → Nat → Int32) (p1 : Int32) (p2 : Int32) (hI : MI A) (hU : vp_in (X 3) 9) : CtI l D cy (MW cy ad) yX8_rink cX8_rink 5 (some .int) rm_X8_rink [.ref (ad 0), .int p1, .int p2] (X, A) (fun rv u => ∃ z : Int32 × ((Nat → Int32) × (Nat → Nat → Int32)), z = f_X8_rink X A p1 p2 ∧ rv = z.1 ∧ u = z.2 ∧ MI (z.2.2) ∧ FZ X (z.2.1)) 0 0 := by
  refine m_entI cX8_rink 5 (by decide) (Nat.le_of_ble_eq_true rfl) (fun J h hR => ?_)
  show J (X, A) (0, 0) [(0, .ref (ad 0)), (1, .int p1), (2, .int p2)] 0 []
  refine j_aload_n h dX8_rink_0 rfl 0 rfl ?_
  refine j_callV h (n := 0) (c_X8_tries l D cy ad _ _) (xg_V (xr_16 6 rfl) (xr_16 7 rfl) (xr_16 8 rfl) (xr_1 5 rfl) (xr_16 9 rfl)) rfl rfl (by decide +kernel) ⟨Nat.le_of_ble_eq_true rfl, Nat.le_of_ble_eq_true rfl⟩ 0 rfl rfl rfl rfl rfl (Nat.le_of_ble_eq_true rfl) dX8_rink_1 ⟨by decide, by decide⟩ (fun u' hq => ?_)
  obtain ⟨z1, hz1, rfl⟩ := hq
  have hIz1 : MI z1 := MI_tr hI hz1
  refine j_iload_n h dX8_rink_4 rfl 1 rfl ?_
  refine j_iconst h (v := 0) dX8_rink_5 (by decide) ?_
  refine j_bipush h (v := 29) dX8_rink_6 (by decide) ?_
  refine j_callS h (n := 3) (c_X8_in l D cy ad _ _ _ _ _) (xg_S (xr_12 13 rfl) (xr_12 14 rfl) (xr_1 5 rfl) (xr_12 15 rfl)) rfl rfl (by decide +kernel) ⟨Nat.le_of_ble_eq_true rfl, Nat.le_of_ble_eq_true rfl⟩  rfl rfl (Nat.le_of_ble_eq_true rfl) dX8_rink_8 ⟨by decide, by decide⟩ (fun z2 u' hq => ?_)
  obtain ⟨hz2, rfl, bz2⟩ := hq
  refine j_if_eq h (tgt := 38) dX8_rink_11 (by decide) (fun c3 => ?_) (fun c3 => ?_)
  · refine j_bipush h (v := (-2)) dX8_rink_38 (by decide) ?_
    exact hR _ _ _ _ dX8_rink_40 ⟨(_, _), Eq.symm ((bd_eq hz1 (bd_eq hz2 (ite_p c3 rfl)))), rfl, rfl, hIz1, (FZ.fx FX.rf hU)⟩
  · refine j_iload_n h dX8_rink_14 rfl 2 rfl ?_
    refine j_iconst h (v := 0) dX8_rink_15 (by decide) ?_
    refine j_bipush h (v := 29) dX8_rink_16 (by decide) ?_
    refine j_callS h (n := 3) (c_X8_in l D cy ad _ _ _ _ _) (xg_S (xr_12 13 rfl) (xr_12 14 rfl) (xr_1 5 rfl) (xr_12 15 rfl)) rfl rfl (by decide +kernel) ⟨Nat.le_of_ble_eq_true rfl, Nat.le_of_ble_eq_true rfl⟩  rfl rfl (Nat.le_of_ble_eq_true rfl) dX8_rink_18 ⟨by decide, by decide⟩ (fun z4 u' hq => ?_)
    obtain ⟨hz4, rfl, bz4⟩ := hq
    refine j_if_eq h (tgt := 38) dX8_rink_21 (by decide) (fun c5 => ?_) (fun c5 => ?_)
    · refine j_bipush h (v := (-2)) dX8_rink_38 (by decide) ?_
      exact hR _ _ _ _ dX8_rink_40 ⟨(_, _), Eq.symm ((bd_eq hz1 (bd_eq hz2 (ite_n c3 (bd_eq hz4 (ite_p c5 rfl)))))), rfl, rfl, hIz1, (FZ.fx FX.rf hU)⟩
    · refine j_iload_n h dX8_rink_24 rfl 2 rfl ?_
      refine j_iload_n h dX8_rink_25 rfl 1 rfl ?_
      refine j_isub h dX8_rink_26 ?_
      refine j_iconst h (v := 1) dX8_rink_27 (by decide) ?_
      refine j_iadd h dX8_rink_28 ?_
      refine j_iconst h (v := 3) dX8_rink_29 (by decide) ?_
      refine j_bipush h (v := 10) dX8_rink_30 (by decide) ?_
      refine j_callS h (n := 3) (c_X8_in l D cy ad _ _ _ _ _) (xg_S (xr_12 13 rfl) (xr_12 14 rfl) (xr_1 5 rfl) (xr_12 15 rfl)) rfl rfl (by decide +kernel) ⟨Nat.le_of_ble_eq_true rfl, Nat.le_of_ble_eq_true rfl⟩  rfl rfl (Nat.le_of_ble_eq_true rfl) dX8_rink_32 ⟨by decide, by decide⟩ (fun z6 u' hq => ?_)
      obtain ⟨hz6, rfl, bz6⟩ := hq
      refine j_if_ne h (tgt := 41) dX8_rink_35 (by decide) (fun c7 => ?_) (fun c7 => ?_)
      · refine j_aload_n h dX8_rink_41 rfl 0 rfl ?_
        refine j_get h inlX8 0 rfl rfl 0 (by decide) (xr_6 7 rfl) rfl (v := .ref (ad 1)) rfl dX8_rink_42 ?_
        refine j_iconst h (v := 3) dX8_rink_45 (by decide) ?_
        refine j_ialdE h 1 rfl 3 rfl (by decide) (by decide) dX8_rink_46 ?_
        refine j_istore_n h (lv' := [(3, _), (0, _), (1, _), (2, _)]) dX8_rink_47 rfl (by decide) rfl ?_
        refine j_iload_n h dX8_rink_48 rfl 0 rfl ?_
        refine j_iconst h (v := 4) dX8_rink_49 (by decide) ?_
        refine j_icmp_ne h (tgt := 60) dX8_rink_50 (by decide) (fun c8 => ?_) (fun c8 => ?_)
        · refine j_iconst h (v := 0) dX8_rink_60 (by decide) ?_
          refine j_istore h (lv' := [(4, _), (3, _), (0, _), (1, _), (2, _)]) dX8_rink_61 (by decide) rfl ?_
          have lp63 : ∀ (n k : Nat) (n0 : Int32) (Ak : Nat → Nat → Int32), n + k = 5 → k ≤ 4 → MI Ak → n0 = Ak 0 3 → ¬ n0 = 4 → f_X8_rink X A p1 p2 = f_X8_rink_l63 X p1 p2 n k n0 Ak → J (X, Ak) (0, 0) [(0, .ref (ad 0)), (1, .int p1), (2, .int p2), (3, .int n0), (4, .int (nI k))] 63 [] := by
            intro n
            induction n with
            | zero => intro k n0 Ak hn hk hMk hn0 hne hf; omega
            | succ n ih =>
              intro k n0 Ak hn hk hMk hn0 hne hf
              refine j_iload h dX8_rink_63 4 rfl ?_
              refine j_iload_n h dX8_rink_65 rfl 3 rfl ?_
              refine j_icmp_ge h (tgt := 105) dX8_rink_66 (by decide) (fun c9 => ?_) (fun c9 => ?_)
              · have vn0 : vp_in n0 4 := ne_last (N := 4) (by decide) (hn0 ▸ hMk.1) hne
                have bn0 : n0.toNatClampNeg < 4 := vp_lt vn0
                have en0 : n0 = nI n0.toNatClampNeg := vp_nI vn0 (by decide)
                refine j_aload_n h dX8_rink_105 rfl 0 rfl ?_
                refine j_get h inlX8 0 rfl rfl 0 (by decide) (xr_6 7 rfl) rfl (v := .ref (ad 1)) rfl dX8_rink_106 ?_
                refine j_iconst h (v := 3) dX8_rink_109 (by decide) ?_
                refine j_dup2 h dX8_rink_110 rfl rfl ?_
                refine j_ialdE h 1 rfl 3 rfl (by decide) (by decide) dX8_rink_111 ?_
                refine j_iconst h (v := 1) dX8_rink_112 (by decide) ?_
                refine j_iadd h dX8_rink_113 ?_
                refine j_iastE h 1 rfl 3 rfl (by decide) (by decide) dX8_rink_114 (u' := (X, up2 Ak 0 3 ((Ak 0 3) + 1))) rfl ?_
                refine j_iconst h (v := 0) dX8_rink_115 (by decide) ?_
                refine j_istore h (lv' := [(4, _), (0, _), (1, _), (2, _), (3, _)]) dX8_rink_116 (by decide) rfl ?_
                have lp118 : ∀ (n j : Nat) (Aj : Nat → Nat → Int32), n + j = 11 → j ≤ 10 → MI Aj → (∀ z : (Nat → Nat → Int32), z = f_X8_rink_l118 X p1 p2 n0 n j Aj → MI z → J (X, z) (0, 0) [(0, .ref (ad 0)), (1, .int p1), (2, .int p2), (3, .int n0)] 139 []) → J (X, Aj) (0, 0) [(0, .ref (ad 0)), (1, .int p1), (2, .int p2), (3, .int n0), (4, .int (nI j))] 118 [] := by
                  intro n
                  induction n with
                  | zero => intro j Aj hn hkj hMj hf; omega
                  | succ n ih =>
                    intro j Aj hn hkj hMj hf
                    refine j_iload h dX8_rink_118 4 rfl ?_
                    refine j_bipush h (v := 10) dX8_rink_120 (by decide) ?_
                    refine j_icmp_ge h (tgt := 139) dX8_rink_122 (by decide) (fun c10 => ?_) (fun c10 => ?_)
                    · refine j_sub h [0, 1, 2, 3] rfl ?_
                      exact hf _ (Eq.symm ((ite_p c10 rfl))) hMj
                    · have hj1 : j < 10 := cnt_lt (by decide) hkj (by decide : (10 : Int32) ≤ nI 10) c10
                      refine j_aload_n h dX8_rink_125 rfl 0 rfl ?_
                      refine j_iload_n h dX8_rink_126 rfl 3 rfl ?_
                      refine j_iload h dX8_rink_127 4 rfl ?_
                      refine j_iconst h (v := 0) dX8_rink_129 (by decide) ?_
                      refine j_callV h (n := 3) (c_X8_setsRink l D cy ad _ _ _ _ _ (vp_of (j := n0.toNatClampNeg) en0 (by omega) (by decide)) (vp_in_nI (by omega) (by decide))) (xg_V (xr_16 19 rfl) (xr_16 20 rfl) (xr_16 21 rfl) (xr_1 5 rfl) (xr_16 22 rfl)) rfl rfl (by decide +kernel) ⟨Nat.le_of_ble_eq_true rfl, Nat.le_of_ble_eq_true rfl⟩ 0 rfl rfl rfl rfl rfl (Nat.le_of_ble_eq_true rfl) dX8_rink_130 ⟨by decide, by decide⟩ (fun u' hq => ?_)
                      obtain ⟨z11, hz11, rfl⟩ := hq
                      have hIz11 : MI z11 := MI_sr hMj (vp_of (j := n0.toNatClampNeg) en0 (by omega) (by decide)) (vp_in_nI (by omega) (by decide)) hz11
                      refine j_iinc h (v := nI (j + 1)) (lv' := [(4, _), (0, _), (1, _), (2, _), (3, _)]) dX8_rink_133 (k := 4) rfl (nI_1 j) (by decide) rfl ?_
                      refine j_goto h (tgt := 118) dX8_rink_136 (by decide) ?_
                      refine j_sub h [1, 2, 3, 4, 0] rfl ?_
                      exact ih (j + 1) _ (by omega) (by omega) hIz11 (fun z hz hp => hf z (hz.trans (Eq.symm ((ite_n c10 (bd_eq hz11 rfl))))) hp)
                refine j_sub h [1, 2, 3, 4, 0] rfl ?_
                refine lp118 11 0 _ (by omega) (by omega) (MI_c3 hMk (vp_succ (by decide) (hn0 ▸ vn0))) (fun z12 hz12 hpz12 => ?_)
                refine j_aload_n h dX8_rink_139 rfl 0 rfl ?_
                refine j_iload_n h dX8_rink_140 rfl 3 rfl ?_
                refine j_iconst h (v := 0) dX8_rink_141 (by decide) ?_
                refine j_iload_n h dX8_rink_142 rfl 1 rfl ?_
                refine j_callV h (n := 3) (c_X8_setsRink l D cy ad _ _ _ _ _ (vp_of (j := n0.toNatClampNeg) en0 (by omega) (by decide)) (vp_in_nI (by decide) (by decide))) (xg_V (xr_16 19 rfl) (xr_16 20 rfl) (xr_16 21 rfl) (xr_1 5 rfl) (xr_16 22 rfl)) rfl rfl (by decide +kernel) ⟨Nat.le_of_ble_eq_true rfl, Nat.le_of_ble_eq_true rfl⟩ 0 rfl rfl rfl rfl rfl (Nat.le_of_ble_eq_true rfl) dX8_rink_143 ⟨by decide, by decide⟩ (fun u' hq => ?_)
                obtain ⟨z13, hz13, rfl⟩ := hq
                have hIz13 : MI z13 := MI_sr hpz12 (vp_of (j := n0.toNatClampNeg) en0 (by omega) (by decide)) (vp_in_nI (by decide) (by decide)) hz13
                refine j_aload_n h dX8_rink_146 rfl 0 rfl ?_
                refine j_iload_n h dX8_rink_147 rfl 3 rfl ?_
                refine j_iconst h (v := 1) dX8_rink_148 (by decide) ?_
                refine j_iload_n h dX8_rink_149 rfl 2 rfl ?_
                refine j_callV h (n := 3) (c_X8_setsRink l D cy ad _ _ _ _ _ (vp_of (j := n0.toNatClampNeg) en0 (by omega) (by decide)) (vp_in_nI (by decide) (by decide))) (xg_V (xr_16 19 rfl) (xr_16 20 rfl) (xr_16 21 rfl) (xr_1 5 rfl) (xr_16 22 rfl)) rfl rfl (by decide +kernel) ⟨Nat.le_of_ble_eq_true rfl, Nat.le_of_ble_eq_true rfl⟩ 0 rfl rfl rfl rfl rfl (Nat.le_of_ble_eq_true rfl) dX8_rink_150 ⟨by decide, by decide⟩ (fun u' hq => ?_)
                obtain ⟨z14, hz14, rfl⟩ := hq
                have hIz14 : MI z14 := MI_sr hIz13 (vp_of (j := n0.toNatClampNeg) en0 (by omega) (by decide)) (vp_in_nI (by decide) (by decide)) hz14
                refine j_aload_n h dX8_rink_153 rfl 0 rfl ?_
                refine j_iload_n h dX8_rink_154 rfl 3 rfl ?_
                refine j_callI h (n := 1) (c_X8_keeps l D cy ad _ _ _ (hU_fx FX.rf hU) hIz14) (xg_V (xr_16 23 rfl) (xr_17 0 rfl) (xr_17 1 rfl) (xr_1 5 rfl) (xr_17 2 rfl)) rfl rfl (by decide +kernel) ⟨Nat.le_of_ble_eq_true rfl, Nat.le_of_ble_eq_true rfl⟩ 0 rfl rfl rfl rfl rfl (Nat.le_of_ble_eq_true rfl) dX8_rink_155 ⟨by decide, by decide⟩ (fun r u' hq => ?_)
                obtain ⟨z15, hz15, rfl, rfl, qz15_0, qz15_1, qz15_2⟩ := hq
                exact hR _ _ _ _ dX8_rink_158 ⟨(_, _), Eq.symm (hf.trans ((ite_p c9 (bd_eq hz12 (bd_eq hz13 (bd_eq hz14 (bd_eq hz15 rfl))))))), rfl, rfl, qz15_0, (FZ.of FX.rf qz15_1 qz15_2)⟩
              · have hk1 : k < 4 := cnt_lt (by decide) hk (hn0 ▸ hMk.r) c9
                refine j_iload_n h dX8_rink_69 rfl 1 rfl ?_
                refine j_aload_n h dX8_rink_70 rfl 0 rfl ?_
                refine j_iload h dX8_rink_71 4 rfl ?_
                refine j_iconst h (v := 1) dX8_rink_73 (by decide) ?_
                refine j_callI h (n := 2) (c_X8_ofRink l D cy ad _ _ _ _ (vp_in_nI (by omega) (by decide)) (vp_in_nI (by decide) (by decide))) (xg_V (xr_16 15 rfl) (xr_16 16 rfl) (xr_16 17 rfl) (xr_1 5 rfl) (xr_16 18 rfl)) rfl rfl (by decide +kernel) ⟨Nat.le_of_ble_eq_true rfl, Nat.le_of_ble_eq_true rfl⟩ 0 rfl rfl rfl rfl rfl (Nat.le_of_ble_eq_true rfl) dX8_rink_74 ⟨by decide, by decide⟩ (fun z16 u' hq => ?_)
                obtain ⟨hz16, rfl⟩ := hq
                refine j_icmp_gt h (tgt := 99) dX8_rink_77 (by decide) (fun c17 => ?_) (fun c17 => ?_)
                · refine j_iinc h (v := nI (k + 1)) (lv' := [(4, _), (0, _), (1, _), (2, _), (3, _)]) dX8_rink_99 (k := 4) rfl (nI_1 k) (by decide) rfl ?_
                  refine j_goto h (tgt := 63) dX8_rink_102 (by decide) ?_
                  refine j_sub h [1, 2, 3, 4, 0] rfl ?_
                  exact ih (k + 1) _ _ (by omega) (by omega) hMk hn0 hne (hf.trans ((ite_n c9 (bd_eq hz16 (ite_p c17 rfl)))))
                · refine j_aload_n h dX8_rink_80 rfl 0 rfl ?_
                  refine j_iload h dX8_rink_81 4 rfl ?_
                  refine j_iconst h (v := 0) dX8_rink_83 (by decide) ?_
                  refine j_callI h (n := 2) (c_X8_ofRink l D cy ad _ _ _ _ (vp_in_nI (by omega) (by decide)) (vp_in_nI (by decide) (by decide))) (xg_V (xr_16 15 rfl) (xr_16 16 rfl) (xr_16 17 rfl) (xr_1 5 rfl) (xr_16 18 rfl)) rfl rfl (by decide +kernel) ⟨Nat.le_of_ble_eq_true rfl, Nat.le_of_ble_eq_true rfl⟩ 0 rfl rfl rfl rfl rfl (Nat.le_of_ble_eq_true rfl) dX8_rink_84 ⟨by decide, by decide⟩ (fun z18 u' hq => ?_)
                  obtain ⟨hz18, rfl⟩ := hq
                  refine j_iload_n h dX8_rink_87 rfl 2 rfl ?_
                  refine j_icmp_gt h (tgt := 99) dX8_rink_88 (by decide) (fun c19 => ?_) (fun c19 => ?_)
                  · refine j_iinc h (v := nI (k + 1)) (lv' := [(4, _), (0, _), (1, _), (2, _), (3, _)]) dX8_rink_99 (k := 4) rfl (nI_1 k) (by decide) rfl ?_
                    refine j_goto h (tgt := 63) dX8_rink_102 (by decide) ?_
                    refine j_sub h [1, 2, 3, 4, 0] rfl ?_
                    exact ih (k + 1) _ _ (by omega) (by omega) hMk hn0 hne (hf.trans ((ite_n c9 (bd_eq hz16 (ite_n c17 (bd_eq hz18 (ite_p c19 rfl)))))))
                  · refine j_aload_n h dX8_rink_91 rfl 0 rfl ?_
                    refine j_iconst h (v := 2) dX8_rink_92 (by decide) ?_
                    refine j_iload h dX8_rink_93 4 rfl ?_
                    refine j_callI h (n := 2) (c_X8_refuses l D cy ad _ _ _ _) (xg_V (xr_16 10 rfl) (xr_16 11 rfl) (xr_16 12 rfl) (xr_1 5 rfl) (xr_16 13 rfl)) rfl rfl (by decide +kernel) ⟨Nat.le_of_ble_eq_true rfl, Nat.le_of_ble_eq_true rfl⟩ 0 rfl rfl rfl rfl rfl (Nat.le_of_ble_eq_true rfl) dX8_rink_95 ⟨by decide, by decide⟩ (fun r u' hq => ?_)
                    obtain ⟨z20, hz20, rfl, rfl⟩ := hq
                    have hIz20 : MI z20.2.2 := MI_rf hMk hz20
                    exact hR _ _ _ _ dX8_rink_98 ⟨(_, _), Eq.symm (hf.trans ((ite_n c9 (bd_eq hz16 (ite_n c17 (bd_eq hz18 (ite_n c19 (bd_eq hz20 rfl)))))))), rfl, rfl, hIz20, (FZ.fx (FX.tr FX.rf (FX_rf hz20)) hU)⟩
          refine j_sub h [2, 3, 4, 1, 0] rfl ?_
          exact lp63 5 0 _ _ (by omega) (by omega) hIz1 rfl c8 ((bd_eq hz1 (bd_eq hz2 (ite_n c3 (bd_eq hz4 (ite_n c5 (bd_eq hz6 (ite_n c7 (ite_n c8 rfl)))))))))
        · refine j_aload_n h dX8_rink_53 rfl 1 rfl ?_
          refine j_iconst h (v := 1) dX8_rink_54 (by decide) ?_
          refine j_iconst h (v := 4) dX8_rink_55 (by decide) ?_
          refine j_callI h (n := 2) (c_X8_refuses l D cy ad _ _ _ _) (xg_V (xr_16 10 rfl) (xr_16 11 rfl) (xr_16 12 rfl) (xr_1 5 rfl) (xr_16 13 rfl)) rfl rfl (by decide +kernel) ⟨Nat.le_of_ble_eq_true rfl, Nat.le_of_ble_eq_true rfl⟩ 0 rfl rfl rfl rfl rfl (Nat.le_of_ble_eq_true rfl) dX8_rink_56 ⟨by decide, by decide⟩ (fun r u' hq => ?_)
          obtain ⟨z21, hz21, rfl, rfl⟩ := hq
          have hIz21 : MI z21.2.2 := MI_rf hIz1 hz21
          exact hR _ _ _ _ dX8_rink_59 ⟨(_, _), Eq.symm ((bd_eq hz1 (bd_eq hz2 (ite_n c3 (bd_eq hz4 (ite_n c5 (bd_eq hz6 (ite_n c7 (ite_p c8 (bd_eq hz21 rfl)))))))))), rfl, rfl, hIz21, (FZ.fx (FX.tr FX.rf (FX_rf hz21)) hU)⟩
      · refine j_bipush h (v := (-2)) dX8_rink_38 (by decide) ?_
        exact hR _ _ _ _ dX8_rink_40 ⟨(_, _), Eq.symm ((bd_eq hz1 (bd_eq hz2 (ite_n c3 (bd_eq hz4 (ite_n c5 (bd_eq hz6 (ite_p c7 rfl)))))))), rfl, rfl, hIz1, (FZ.fx FX.rf hU)⟩

def f_X8_wood_l62 (X : Nat → Int32) (p1 : Int32) (p2 : Int32) : Nat → Nat → Int32 → (Nat → Nat → Int32) → Int32 × (Nat → Nat → Int32)
  | 0, _, n0, Ak => (n0, Ak)
  | n + 1, k, n0, Ak =>
    if 7 ≤ (nI k) then
      (n0, Ak)
    else
      bd (f_X8_setsWood X Ak n0 (nI k) 0) fun z8 =>
      f_X8_wood_l62 X p1 p2 n (k + 1) n0 z8
def f_X8_wood (X : Nat → Int32) (A : Nat → Nat → Int32) (p1 : Int32) (p2 : Int32) : Int32 × (Nat → Int32) × (Nat → Nat → Int32) :=
  bd (f_X8_tries X A) fun z1 =>
  bd (f_X8_in X z1 p1 0 1) fun z2 =>
  if z2 = 0 then
    ((-1), (X, z1))
  else
    bd (f_X8_in X z1 p2 0 9) fun z4 =>
    if z4 = 0 then
      ((-2), (X, z1))
    else
      if (z1 0 4) = 16 then
        bd (f_X8_refuses X z1 1 16) fun z13 =>
        (z13.1, (z13.2.1, z13.2.2))
      else
        bd (f_X8_wood_l62 X p1 p2 8 0 (z1 0 4) (up2 z1 0 4 ((z1 0 4) + 1))) fun z9 =>
        bd (f_X8_setsWood X z9.2 z9.1 0 p1) fun z10 =>
        bd (f_X8_setsWood X z10 z9.1 1 p2) fun z11 =>
        bd (f_X8_keeps X z11 z9.1) fun z12 =>
        (z12.1, (z12.2.1, z12.2.2))
abbrev rm_X8_wood : Room := { frames := 1, cells := 0, slots := 0, locals := 23 }
set_option maxRecDepth 100000 in
set_option maxHeartbeats 4000000 in
theorem c_X8_wood (l : Launch) (D : gD) (cy : Nat → ClassId) (ad : Nat → Nat) (X : Nat → Int32) (A : Nat → Nat → Int32) (p1 : Int32) (p2 : Int32) (hI : MI A) (hU : vp_in (X 3) 9) : CtI l D cy (MW cy ad) yX8_wood cX8_wood 5 (some .int) rm_X8_wood [.ref (ad 0), .int p1, .int p2] (X, A) (fun rv u => ∃ z : Int32 × ((Nat → Int32) × (Nat → Nat → Int32)), z = f_X8_wood X A p1 p2 ∧ rv = z.1 ∧ u = z.2 ∧ MI (z.2.2) ∧ FZ X (z.2.1)) 0 0 := by
  refine m_entI cX8_wood 5 (by decide) (Nat.le_of_ble_eq_true rfl) (fun J h hR => ?_)
  show J (X, A) (0, 0) [(0, .ref (ad 0)), (1, .int p1), (2, .int p2)] 0 []
  refine j_aload_n h dX8_wood_0 rfl 0 rfl ?_
  refine j_callV h (n := 0) (c_X8_tries l D cy ad _ _) (xg_V (xr_16 6 rfl) (xr_16 7 rfl) (xr_16 8 rfl) (xr_1 5 rfl) (xr_16 9 rfl)) rfl rfl (by decide +kernel) ⟨Nat.le_of_ble_eq_true rfl, Nat.le_of_ble_eq_true rfl⟩ 0 rfl rfl rfl rfl rfl (Nat.le_of_ble_eq_true rfl) dX8_wood_1 ⟨by decide, by decide⟩ (fun u' hq => ?_)
  obtain ⟨z1, hz1, rfl⟩ := hq
  have hIz1 : MI z1 := MI_tr hI hz1
  refine j_iload_n h dX8_wood_4 rfl 1 rfl ?_
  refine j_iconst h (v := 0) dX8_wood_5 (by decide) ?_
  refine j_iconst h (v := 1) dX8_wood_6 (by decide) ?_
  refine j_callS h (n := 3) (c_X8_in l D cy ad _ _ _ _ _) (xg_S (xr_12 13 rfl) (xr_12 14 rfl) (xr_1 5 rfl) (xr_12 15 rfl)) rfl rfl (by decide +kernel) ⟨Nat.le_of_ble_eq_true rfl, Nat.le_of_ble_eq_true rfl⟩  rfl rfl (Nat.le_of_ble_eq_true rfl) dX8_wood_7 ⟨by decide, by decide⟩ (fun z2 u' hq => ?_)
  obtain ⟨hz2, rfl, bz2⟩ := hq
  refine j_if_ne h (tgt := 15) dX8_wood_10 (by decide) (fun c3 => ?_) (fun c3 => ?_)
  · have vp1 : vp_in p1 2 := inM_2 hz2 c3
    have bp1 : p1.toNatClampNeg < 2 := vp_lt vp1
    have ep1 : p1 = nI p1.toNatClampNeg := vp_nI vp1 (by decide)
    refine j_iload_n h dX8_wood_15 rfl 2 rfl ?_
    refine j_iconst h (v := 0) dX8_wood_16 (by decide) ?_
    refine j_bipush h (v := 9) dX8_wood_17 (by decide) ?_
    refine j_callS h (n := 3) (c_X8_in l D cy ad _ _ _ _ _) (xg_S (xr_12 13 rfl) (xr_12 14 rfl) (xr_1 5 rfl) (xr_12 15 rfl)) rfl rfl (by decide +kernel) ⟨Nat.le_of_ble_eq_true rfl, Nat.le_of_ble_eq_true rfl⟩  rfl rfl (Nat.le_of_ble_eq_true rfl) dX8_wood_19 ⟨by decide, by decide⟩ (fun z4 u' hq => ?_)
    obtain ⟨hz4, rfl, bz4⟩ := hq
    refine j_if_ne h (tgt := 28) dX8_wood_22 (by decide) (fun c5 => ?_) (fun c5 => ?_)
    · refine j_aload_n h dX8_wood_28 rfl 0 rfl ?_
      refine j_get h inlX8 0 rfl rfl 0 (by decide) (xr_6 7 rfl) rfl (v := .ref (ad 1)) rfl dX8_wood_29 ?_
      refine j_iconst h (v := 4) dX8_wood_32 (by decide) ?_
      refine j_ialdE h 1 rfl 4 rfl (by decide) (by decide) dX8_wood_33 ?_
      refine j_istore_n h (lv' := [(3, _), (0, _), (1, _), (2, _)]) dX8_wood_34 rfl (by decide) rfl ?_
      refine j_iload_n h dX8_wood_35 rfl 0 rfl ?_
      refine j_bipush h (v := 16) dX8_wood_36 (by decide) ?_
      refine j_icmp_ne h (tgt := 49) dX8_wood_38 (by decide) (fun c6 => ?_) (fun c6 => ?_)
      · have vn0 : vp_in (z1 0 4) 16 := ne_last (N := 16) (by decide) (hIz1).2.1 c6
        have bn0 : (z1 0 4).toNatClampNeg < 16 := vp_lt vn0
        have en0 : z1 0 4 = nI (z1 0 4).toNatClampNeg := vp_nI vn0 (by decide)
        refine j_aload_n h dX8_wood_49 rfl 1 rfl ?_
        refine j_get h inlX8 0 rfl rfl 0 (by decide) (xr_6 7 rfl) rfl (v := .ref (ad 1)) rfl dX8_wood_50 ?_
        refine j_iconst h (v := 4) dX8_wood_53 (by decide) ?_
        refine j_dup2 h dX8_wood_54 rfl rfl ?_
        refine j_ialdE h 1 rfl 4 rfl (by decide) (by decide) dX8_wood_55 ?_
        refine j_iconst h (v := 1) dX8_wood_56 (by decide) ?_
        refine j_iadd h dX8_wood_57 ?_
        refine j_iastE h 1 rfl 4 rfl (by decide) (by decide) dX8_wood_58 (u' := (X, up2 z1 0 4 ((z1 0 4) + 1))) rfl ?_
        refine j_iconst h (v := 0) dX8_wood_59 (by decide) ?_
        refine j_istore h (lv' := [(4, _), (3, _), (0, _), (1, _), (2, _)]) dX8_wood_60 (by decide) rfl ?_
        have lp62 : ∀ (n k : Nat) (n0 : Int32) (Ak : Nat → Nat → Int32), n + k = 8 → k ≤ 7 → MI Ak → vp_in n0 16 → (∀ z : Int32 × (Nat → Nat → Int32), z = f_X8_wood_l62 X p1 p2 n k n0 Ak → (MI z.2 ∧ vp_in z.1 16) → J (X, z.2) (0, 0) [(0, .ref (ad 0)), (1, .int p1), (2, .int p2), (3, .int z.1)] 83 []) → J (X, Ak) (0, 0) [(0, .ref (ad 0)), (1, .int p1), (2, .int p2), (3, .int n0), (4, .int (nI k))] 62 [] := by
          intro n
          induction n with
          | zero => intro k n0 Ak hn hk hMk hvn hf; omega
          | succ n ih =>
            intro k n0 Ak hn hk hMk hvn hf
            refine j_iload h dX8_wood_62 4 rfl ?_
            refine j_bipush h (v := 7) dX8_wood_64 (by decide) ?_
            refine j_icmp_ge h (tgt := 83) dX8_wood_66 (by decide) (fun c7 => ?_) (fun c7 => ?_)
            · refine j_sub h [0, 1, 2, 3] rfl ?_
              exact hf (_, _) (Eq.symm ((ite_p c7 rfl))) ⟨hMk, hvn⟩
            · have hj1 : k < 7 := cnt_lt (by decide) hk (by decide : (7 : Int32) ≤ nI 7) c7
              have bn1 : n0.toNatClampNeg < 16 := vp_lt hvn
              have en1 : n0 = nI n0.toNatClampNeg := vp_nI hvn (by decide)
              refine j_aload_n h dX8_wood_69 rfl 0 rfl ?_
              refine j_iload_n h dX8_wood_70 rfl 3 rfl ?_
              refine j_iload h dX8_wood_71 4 rfl ?_
              refine j_iconst h (v := 0) dX8_wood_73 (by decide) ?_
              refine j_callV h (n := 3) (c_X8_setsWood l D cy ad _ _ _ _ _ (vp_of (j := n0.toNatClampNeg) en1 (by omega) (by decide)) (vp_in_nI (by omega) (by decide))) (xg_V (xr_18 0 rfl) (xr_18 1 rfl) (xr_18 2 rfl) (xr_1 5 rfl) (xr_18 3 rfl)) rfl rfl (by decide +kernel) ⟨Nat.le_of_ble_eq_true rfl, Nat.le_of_ble_eq_true rfl⟩ 0 rfl rfl rfl rfl rfl (Nat.le_of_ble_eq_true rfl) dX8_wood_74 ⟨by decide, by decide⟩ (fun u' hq => ?_)
              obtain ⟨z8, hz8, rfl⟩ := hq
              have hIz8 : MI z8 := MI_sw hMk (vp_in_nI (by omega) (by decide)) (fun _ => vp_in_nI (n := 0) (by decide) (by decide)) (fun _ => vp_in_nI (n := 0) (by decide) (by decide)) hz8
              refine j_iinc h (v := nI (k + 1)) (lv' := [(4, _), (0, _), (1, _), (2, _), (3, _)]) dX8_wood_77 (k := 4) rfl (nI_1 k) (by decide) rfl ?_
              refine j_goto h (tgt := 62) dX8_wood_80 (by decide) ?_
              refine j_sub h [1, 2, 3, 4, 0] rfl ?_
              exact ih (k + 1) _ _ (by omega) (by omega) hIz8 hvn (fun z hz hp => hf z (hz.trans (Eq.symm ((ite_n c7 (bd_eq hz8 rfl))))) hp)
        refine j_sub h [2, 3, 4, 1, 0] rfl ?_
        refine lp62 8 0 _ _ (by omega) (by omega) (MI_c4 hIz1 (vp_succ (by decide) vn0)) vn0 (fun z9 hz9 hpz9 => ?_)
        have bn2 : z9.1.toNatClampNeg < 16 := vp_lt hpz9.2
        have en2 : z9.1 = nI z9.1.toNatClampNeg := vp_nI hpz9.2 (by decide)
        refine j_aload_n h dX8_wood_83 rfl 0 rfl ?_
        refine j_iload_n h dX8_wood_84 rfl 3 rfl ?_
        refine j_iconst h (v := 0) dX8_wood_85 (by decide) ?_
        refine j_iload_n h dX8_wood_86 rfl 1 rfl ?_
        refine j_callV h (n := 3) (c_X8_setsWood l D cy ad _ _ _ _ _ (vp_of (j := z9.1.toNatClampNeg) en2 (by omega) (by decide)) (vp_in_nI (by decide) (by decide))) (xg_V (xr_18 0 rfl) (xr_18 1 rfl) (xr_18 2 rfl) (xr_1 5 rfl) (xr_18 3 rfl)) rfl rfl (by decide +kernel) ⟨Nat.le_of_ble_eq_true rfl, Nat.le_of_ble_eq_true rfl⟩ 0 rfl rfl rfl rfl rfl (Nat.le_of_ble_eq_true rfl) dX8_wood_87 ⟨by decide, by decide⟩ (fun u' hq => ?_)
        obtain ⟨z10, hz10, rfl⟩ := hq
        have hIz10 : MI z10 := MI_sw hpz9.1 (vp_in_nI (by decide) (by decide)) (fun hq => absurd hq (by decide)) (fun _ => vp1) hz10
        refine j_aload_n h dX8_wood_90 rfl 0 rfl ?_
        refine j_iload_n h dX8_wood_91 rfl 3 rfl ?_
        refine j_iconst h (v := 1) dX8_wood_92 (by decide) ?_
        refine j_iload_n h dX8_wood_93 rfl 2 rfl ?_
        refine j_callV h (n := 3) (c_X8_setsWood l D cy ad _ _ _ _ _ (vp_of (j := z9.1.toNatClampNeg) en2 (by omega) (by decide)) (vp_in_nI (by decide) (by decide))) (xg_V (xr_18 0 rfl) (xr_18 1 rfl) (xr_18 2 rfl) (xr_1 5 rfl) (xr_18 3 rfl)) rfl rfl (by decide +kernel) ⟨Nat.le_of_ble_eq_true rfl, Nat.le_of_ble_eq_true rfl⟩ 0 rfl rfl rfl rfl rfl (Nat.le_of_ble_eq_true rfl) dX8_wood_94 ⟨by decide, by decide⟩ (fun u' hq => ?_)
        obtain ⟨z11, hz11, rfl⟩ := hq
        have hIz11 : MI z11 := MI_sw hIz10 (vp_in_nI (by decide) (by decide)) (fun hq => absurd hq (by decide)) (fun hq => absurd hq (by decide)) hz11
        refine j_aload_n h dX8_wood_97 rfl 0 rfl ?_
        refine j_iload_n h dX8_wood_98 rfl 3 rfl ?_
        refine j_callI h (n := 1) (c_X8_keeps l D cy ad _ _ _ (hU_fx FX.rf hU) hIz11) (xg_V (xr_16 23 rfl) (xr_17 0 rfl) (xr_17 1 rfl) (xr_1 5 rfl) (xr_17 2 rfl)) rfl rfl (by decide +kernel) ⟨Nat.le_of_ble_eq_true rfl, Nat.le_of_ble_eq_true rfl⟩ 0 rfl rfl rfl rfl rfl (Nat.le_of_ble_eq_true rfl) dX8_wood_99 ⟨by decide, by decide⟩ (fun r u' hq => ?_)
        obtain ⟨z12, hz12, rfl, rfl, qz12_0, qz12_1, qz12_2⟩ := hq
        exact hR _ _ _ _ dX8_wood_102 ⟨(_, _), Eq.symm ((bd_eq hz1 (bd_eq hz2 (ite_n c3 (bd_eq hz4 (ite_n c5 (ite_n c6 (bd_eq hz9 (bd_eq hz10 (bd_eq hz11 (bd_eq hz12 rfl))))))))))), rfl, rfl, qz12_0, (FZ.of FX.rf qz12_1 qz12_2)⟩
      · refine j_aload_n h dX8_wood_41 rfl 1 rfl ?_
        refine j_iconst h (v := 1) dX8_wood_42 (by decide) ?_
        refine j_bipush h (v := 16) dX8_wood_43 (by decide) ?_
        refine j_callI h (n := 2) (c_X8_refuses l D cy ad _ _ _ _) (xg_V (xr_16 10 rfl) (xr_16 11 rfl) (xr_16 12 rfl) (xr_1 5 rfl) (xr_16 13 rfl)) rfl rfl (by decide +kernel) ⟨Nat.le_of_ble_eq_true rfl, Nat.le_of_ble_eq_true rfl⟩ 0 rfl rfl rfl rfl rfl (Nat.le_of_ble_eq_true rfl) dX8_wood_45 ⟨by decide, by decide⟩ (fun r u' hq => ?_)
        obtain ⟨z13, hz13, rfl, rfl⟩ := hq
        have hIz13 : MI z13.2.2 := MI_rf hIz1 hz13
        exact hR _ _ _ _ dX8_wood_48 ⟨(_, _), Eq.symm ((bd_eq hz1 (bd_eq hz2 (ite_n c3 (bd_eq hz4 (ite_n c5 (ite_p c6 (bd_eq hz13 rfl)))))))), rfl, rfl, hIz13, (FZ.fx (FX.tr FX.rf (FX_rf hz13)) hU)⟩
    · refine j_bipush h (v := (-2)) dX8_wood_25 (by decide) ?_
      exact hR _ _ _ _ dX8_wood_27 ⟨(_, _), Eq.symm ((bd_eq hz1 (bd_eq hz2 (ite_n c3 (bd_eq hz4 (ite_p c5 rfl)))))), rfl, rfl, hIz1, (FZ.fx FX.rf hU)⟩
  · refine j_iconst h (v := (-1)) dX8_wood_13 (by decide) ?_
    exact hR _ _ _ _ dX8_wood_14 ⟨(_, _), Eq.symm ((bd_eq hz1 (bd_eq hz2 (ite_p c3 rfl)))), rfl, rfl, hIz1, (FZ.fx FX.rf hU)⟩

theorem un_8 {X : Nat → Int32} (h : vp_in (X 3) 9) (hne : ¬ X 3 = 0) : vp_in (upd X 3 (X 3 - 1) 3) 8 := by
  rw [upd_eq]
  obtain ⟨j, hj, e⟩ := vp_in_of h (by decide)
  rw [e] at hne ⊢
  cases j with
  | zero => exact absurd rfl hne
  | succ i => rw [nI_pred]; exact vp_in_nI (by omega) (by decide)

def f_X8_undo_l22 (X : Nat → Int32) : Nat → Nat → (Nat → Nat → Int32) → (Nat → Nat → Int32)
  | 0, _, Ak => Ak
  | n + 1, k, Ak =>
    if 169 ≤ (nI k) then
      Ak
    else
      f_X8_undo_l22 X n (k + 1) (up2 Ak 0 k (Ak 2 ((169 * (((upd X 3 ((X 3) - 1)) 3).toNatClampNeg)) + k)))
def f_X8_undo (X : Nat → Int32) (A : Nat → Nat → Int32) : Int32 × (Nat → Int32) × (Nat → Nat → Int32) :=
  if (X 3) = 0 then
    ((-4), (X, A))
  else
    bd (f_X8_undo_l22 X 170 0 A) fun z3 =>
    ((upd X 3 ((X 3) - 1)) 3, (upd X 3 ((X 3) - 1), z3))
abbrev rm_X8_undo : Room := { frames := 0, cells := 0, slots := 0, locals := 0 }
set_option maxRecDepth 100000 in
set_option maxHeartbeats 4000000 in
theorem c_X8_undo (l : Launch) (D : gD) (cy : Nat → ClassId) (ad : Nat → Nat) (X : Nat → Int32) (A : Nat → Nat → Int32) (hU : vp_in (X 3) 9) : CtI l D cy (MW cy ad) yX8_undo cX8_undo 2 (some .int) rm_X8_undo [.ref (ad 0)] (X, A) (fun rv u => ∃ z : Int32 × ((Nat → Int32) × (Nat → Nat → Int32)), z = f_X8_undo X A ∧ rv = z.1 ∧ u = z.2) 0 0 := by
  refine m_entI cX8_undo 2 (by decide) (Nat.le_of_ble_eq_true rfl) (fun J h hR => ?_)
  show J (X, A) (0, 0) [(0, .ref (ad 0))] 0 []
  refine j_aload_n h dX8_undo_0 rfl 0 rfl ?_
  refine j_get h inlX8 0 rfl rfl 3 (by decide) (xr_7 12 rfl) rfl (v := .int (X 3)) rfl dX8_undo_1 ?_
  refine j_if_ne h (tgt := 10) dX8_undo_4 (by decide) (fun c1 => ?_) (fun c1 => ?_)
  · refine j_aload_n h dX8_undo_10 rfl 0 rfl ?_
    refine j_dup h dX8_undo_11 rfl ?_
    refine j_get h inlX8 0 rfl rfl 3 (by decide) (xr_7 12 rfl) rfl (v := .int (X 3)) rfl dX8_undo_12 ?_
    refine j_iconst h (v := 1) dX8_undo_15 (by decide) ?_
    refine j_isub h dX8_undo_16 ?_
    refine j_put h inlX8 tyX8 tyX8_ok nmX8 0 rfl rfl 3 (by decide) (xr_7 12 rfl) rfl rfl rfl rfl (Nat.le_of_ble_eq_true rfl) dX8_undo_17 (u' := (upd X 3 ((X 3) - 1), A)) rfl ?_
    have vu : vp_in ((upd X 3 ((X 3) - 1)) 3) 8 := un_8 hU c1
    have bu : ((upd X 3 ((X 3) - 1)) 3).toNatClampNeg < 8 := vp_lt vu
    have eu : (upd X 3 ((X 3) - 1)) 3 = nI ((upd X 3 ((X 3) - 1)) 3).toNatClampNeg := vp_nI vu (by decide)
    refine j_iconst h (v := 0) dX8_undo_20 (by decide) ?_
    refine j_istore_n h (lv' := [(1, _), (0, _)]) dX8_undo_21 rfl (by decide) rfl ?_
    have lp22 : ∀ (n k : Nat) (Ak : Nat → Nat → Int32), n + k = 170 → k ≤ 169 → (∀ z : (Nat → Nat → Int32), z = f_X8_undo_l22 X n k Ak → J (upd X 3 ((X 3) - 1), z) (0, 0) [(0, .ref (ad 0))] 56 []) → J (upd X 3 ((X 3) - 1), Ak) (0, 0) [(0, .ref (ad 0)), (1, .int (nI k))] 22 [] := by
      intro n
      induction n with
      | zero => intro k Ak hn hk hf; omega
      | succ n ih =>
        intro k Ak hn hk hf
        refine j_iload_n h dX8_undo_22 rfl 1 rfl ?_
        refine j_sipush h (v := 169) dX8_undo_23 (by decide) ?_
        refine j_icmp_ge h (tgt := 56) dX8_undo_26 (by decide) (fun c2 => ?_) (fun c2 => ?_)
        · refine j_sub h [0] rfl ?_
          exact hf _ (Eq.symm ((ite_p c2 rfl)))
        · have hk1 : k < 169 := cnt_lt (by decide) hk (by decide : (169 : Int32) ≤ nI 169) c2
          refine j_aload_n h dX8_undo_29 rfl 0 rfl ?_
          refine j_get h inlX8 0 rfl rfl 0 (by decide) (xr_6 7 rfl) rfl (v := .ref (ad 1)) rfl dX8_undo_30 ?_
          refine j_iload_n h dX8_undo_33 rfl 1 rfl ?_
          refine j_aload_n h dX8_undo_34 rfl 0 rfl ?_
          refine j_get h inlX8 0 rfl rfl 2 (by decide) (xr_6 9 rfl) rfl (v := .ref (ad 3)) rfl dX8_undo_35 ?_
          refine j_sipush h (v := 169) dX8_undo_38 (by decide) ?_
          refine j_aload_n h dX8_undo_41 rfl 0 rfl ?_
          refine j_get h inlX8 0 rfl rfl 3 (by decide) (xr_7 12 rfl) rfl (v := .int ((upd X 3 ((X 3) - 1)) 3)) rfl dX8_undo_42 ?_
          refine j_imul h dX8_undo_45 ?_
          refine j_iload_n h dX8_undo_46 rfl 1 rfl ?_
          refine j_iadd h dX8_undo_47 ?_
          refine j_ialdE h 3 rfl ((169 * (((upd X 3 ((X 3) - 1)) 3).toNatClampNeg)) + k) (nx_add (nx_mul rfl eu) rfl) (by omega) (by decide) dX8_undo_48 ?_
          refine j_iastE h 1 rfl k rfl (by omega) (by decide) dX8_undo_49 (u' := (upd X 3 ((X 3) - 1), up2 Ak 0 k (Ak 2 ((169 * (((upd X 3 ((X 3) - 1)) 3).toNatClampNeg)) + k)))) rfl ?_
          refine j_iinc h (v := nI (k + 1)) (lv' := [(1, _), (0, _)]) dX8_undo_50 (k := 1) rfl (nI_1 k) (by decide) rfl ?_
          refine j_goto h (tgt := 22) dX8_undo_53 (by decide) ?_
          refine j_sub h [1, 0] rfl ?_
          exact ih (k + 1) _ (by omega) (by omega) (fun z hz => hf z (hz.trans (Eq.symm ((ite_n c2 rfl)))))
    refine j_sub h [1, 0] rfl ?_
    refine lp22 170 0 _ (by omega) (by omega) (fun z3 hz3 => ?_)
    refine j_aload_n h dX8_undo_56 rfl 0 rfl ?_
    refine j_get h inlX8 0 rfl rfl 3 (by decide) (xr_7 12 rfl) rfl (v := .int ((upd X 3 ((X 3) - 1)) 3)) rfl dX8_undo_57 ?_
    exact hR _ _ _ _ dX8_undo_60 ⟨(_, _), Eq.symm ((ite_n c1 (bd_eq hz3 rfl))), rfl, rfl⟩
  · refine j_bipush h (v := (-4)) dX8_undo_7 (by decide) ?_
    exact hR _ _ _ _ dX8_undo_9 ⟨(_, _), Eq.symm ((ite_p c1 rfl)), rfl, rfl⟩

def f_X8_save_l7 (X : Nat → Int32) : Nat → Nat → (Nat → Nat → Int32) → (Nat → Nat → Int32)
  | 0, _, Ak => Ak
  | n + 1, k, Ak =>
    if 169 ≤ (nI k) then
      Ak
    else
      f_X8_save_l7 X n (k + 1) (up2 Ak 3 k (Ak 0 k))
def f_X8_save (X : Nat → Int32) (A : Nat → Nat → Int32) : Int32 × (Nat → Int32) × (Nat → Nat → Int32) :=
  bd (f_X8_save_l7 X 170 0 A) fun z2 =>
  (z2 0 0, (upd X 5 1, z2))
abbrev rm_X8_save : Room := { frames := 0, cells := 0, slots := 0, locals := 0 }
set_option maxRecDepth 100000 in
set_option maxHeartbeats 4000000 in
theorem c_X8_save (l : Launch) (D : gD) (cy : Nat → ClassId) (ad : Nat → Nat) (X : Nat → Int32) (A : Nat → Nat → Int32)  : CtI l D cy (MW cy ad) yX8_save cX8_save 2 (some .int) rm_X8_save [.ref (ad 0)] (X, A) (fun rv u => ∃ z : Int32 × ((Nat → Int32) × (Nat → Nat → Int32)), z = f_X8_save X A ∧ rv = z.1 ∧ u = z.2) 0 0 := by
  refine m_entI cX8_save 2 (by decide) (Nat.le_of_ble_eq_true rfl) (fun J h hR => ?_)
  show J (X, A) (0, 0) [(0, .ref (ad 0))] 0 []
  refine j_aload_n h dX8_save_0 rfl 0 rfl ?_
  refine j_iconst h (v := 1) dX8_save_1 (by decide) ?_
  refine j_put h inlX8 tyX8 tyX8_ok nmX8 0 rfl rfl 5 (by decide) (xr_54 9 rfl) rfl rfl rfl rfl (Nat.le_of_ble_eq_true rfl) dX8_save_2 (u' := (upd X 5 1, A)) rfl ?_
  refine j_iconst h (v := 0) dX8_save_5 (by decide) ?_
  refine j_istore_n h (lv' := [(1, _), (0, _)]) dX8_save_6 rfl (by decide) rfl ?_
  have lp7 : ∀ (n k : Nat) (Ak : Nat → Nat → Int32), n + k = 170 → k ≤ 169 → (∀ z : (Nat → Nat → Int32), z = f_X8_save_l7 X n k Ak → J (upd X 5 1, z) (0, 0) [(0, .ref (ad 0))] 32 []) → J (upd X 5 1, Ak) (0, 0) [(0, .ref (ad 0)), (1, .int (nI k))] 7 [] := by
    intro n
    induction n with
    | zero => intro k Ak hn hk hf; omega
    | succ n ih =>
      intro k Ak hn hk hf
      refine j_iload_n h dX8_save_7 rfl 1 rfl ?_
      refine j_sipush h (v := 169) dX8_save_8 (by decide) ?_
      refine j_icmp_ge h (tgt := 32) dX8_save_11 (by decide) (fun c1 => ?_) (fun c1 => ?_)
      · refine j_sub h [0] rfl ?_
        exact hf _ (Eq.symm ((ite_p c1 rfl)))
      · have hk1 : k < 169 := cnt_lt (by decide) hk (by decide : (169 : Int32) ≤ nI 169) c1
        refine j_aload_n h dX8_save_14 rfl 0 rfl ?_
        refine j_get h inlX8 0 rfl rfl 4 (by decide) (xr_6 10 rfl) rfl (v := .ref (ad 4)) rfl dX8_save_15 ?_
        refine j_iload_n h dX8_save_18 rfl 1 rfl ?_
        refine j_aload_n h dX8_save_19 rfl 0 rfl ?_
        refine j_get h inlX8 0 rfl rfl 0 (by decide) (xr_6 7 rfl) rfl (v := .ref (ad 1)) rfl dX8_save_20 ?_
        refine j_iload_n h dX8_save_23 rfl 1 rfl ?_
        refine j_ialdE h 1 rfl k rfl (by omega) (by decide) dX8_save_24 ?_
        refine j_iastE h 4 rfl k rfl (by omega) (by decide) dX8_save_25 (u' := (upd X 5 1, up2 Ak 3 k (Ak 0 k))) rfl ?_
        refine j_iinc h (v := nI (k + 1)) (lv' := [(1, _), (0, _)]) dX8_save_26 (k := 1) rfl (nI_1 k) (by decide) rfl ?_
        refine j_goto h (tgt := 7) dX8_save_29 (by decide) ?_
        refine j_sub h [1, 0] rfl ?_
        exact ih (k + 1) _ (by omega) (by omega) (fun z hz => hf z (hz.trans (Eq.symm ((ite_n c1 rfl)))))
  refine j_sub h [1, 0] rfl ?_
  refine lp7 170 0 _ (by omega) (by omega) (fun z2 hz2 => ?_)
  refine j_aload_n h dX8_save_32 rfl 0 rfl ?_
  refine j_get h inlX8 0 rfl rfl 0 (by decide) (xr_6 7 rfl) rfl (v := .ref (ad 1)) rfl dX8_save_33 ?_
  refine j_iconst h (v := 0) dX8_save_36 (by decide) ?_
  refine j_ialdE h 1 rfl 0 rfl (by decide) (by decide) dX8_save_37 ?_
  exact hR _ _ _ _ dX8_save_38 ⟨(_, _), Eq.symm ((bd_eq hz2 rfl)), rfl, rfl⟩

def f_X8_restore_l12 (X : Nat → Int32) : Nat → Nat → (Nat → Nat → Int32) → (Nat → Nat → Int32)
  | 0, _, Ak => Ak
  | n + 1, k, Ak =>
    if 169 ≤ (nI k) then
      Ak
    else
      f_X8_restore_l12 X n (k + 1) (up2 Ak 0 k (Ak 3 k))
def f_X8_restore (X : Nat → Int32) (A : Nat → Nat → Int32) : Int32 × (Nat → Int32) × (Nat → Nat → Int32) :=
  if (X 5) = 0 then
    ((-4), (X, A))
  else
    bd (f_X8_restore_l12 X 170 0 A) fun z3 =>
    (z3 0 0, (upd X 3 0, z3))
abbrev rm_X8_restore : Room := { frames := 0, cells := 0, slots := 0, locals := 0 }
set_option maxRecDepth 100000 in
set_option maxHeartbeats 4000000 in
theorem c_X8_restore (l : Launch) (D : gD) (cy : Nat → ClassId) (ad : Nat → Nat) (X : Nat → Int32) (A : Nat → Nat → Int32)  : CtI l D cy (MW cy ad) yX8_restore cX8_restore 2 (some .int) rm_X8_restore [.ref (ad 0)] (X, A) (fun rv u => ∃ z : Int32 × ((Nat → Int32) × (Nat → Nat → Int32)), z = f_X8_restore X A ∧ rv = z.1 ∧ u = z.2) 0 0 := by
  refine m_entI cX8_restore 2 (by decide) (Nat.le_of_ble_eq_true rfl) (fun J h hR => ?_)
  show J (X, A) (0, 0) [(0, .ref (ad 0))] 0 []
  refine j_aload_n h dX8_restore_0 rfl 0 rfl ?_
  refine j_get h inlX8 0 rfl rfl 5 (by decide) (xr_54 9 rfl) rfl (v := .int (X 5)) rfl dX8_restore_1 ?_
  refine j_if_ne h (tgt := 10) dX8_restore_4 (by decide) (fun c1 => ?_) (fun c1 => ?_)
  · refine j_iconst h (v := 0) dX8_restore_10 (by decide) ?_
    refine j_istore_n h (lv' := [(1, _), (0, _)]) dX8_restore_11 rfl (by decide) rfl ?_
    have lp12 : ∀ (n k : Nat) (Ak : Nat → Nat → Int32), n + k = 170 → k ≤ 169 → (∀ z : (Nat → Nat → Int32), z = f_X8_restore_l12 X n k Ak → J (X, z) (0, 0) [(0, .ref (ad 0))] 37 []) → J (X, Ak) (0, 0) [(0, .ref (ad 0)), (1, .int (nI k))] 12 [] := by
      intro n
      induction n with
      | zero => intro k Ak hn hk hf; omega
      | succ n ih =>
        intro k Ak hn hk hf
        refine j_iload_n h dX8_restore_12 rfl 1 rfl ?_
        refine j_sipush h (v := 169) dX8_restore_13 (by decide) ?_
        refine j_icmp_ge h (tgt := 37) dX8_restore_16 (by decide) (fun c2 => ?_) (fun c2 => ?_)
        · refine j_sub h [0] rfl ?_
          exact hf _ (Eq.symm ((ite_p c2 rfl)))
        · have hk1 : k < 169 := cnt_lt (by decide) hk (by decide : (169 : Int32) ≤ nI 169) c2
          refine j_aload_n h dX8_restore_19 rfl 0 rfl ?_
          refine j_get h inlX8 0 rfl rfl 0 (by decide) (xr_6 7 rfl) rfl (v := .ref (ad 1)) rfl dX8_restore_20 ?_
          refine j_iload_n h dX8_restore_23 rfl 1 rfl ?_
          refine j_aload_n h dX8_restore_24 rfl 0 rfl ?_
          refine j_get h inlX8 0 rfl rfl 4 (by decide) (xr_6 10 rfl) rfl (v := .ref (ad 4)) rfl dX8_restore_25 ?_
          refine j_iload_n h dX8_restore_28 rfl 1 rfl ?_
          refine j_ialdE h 4 rfl k rfl (by omega) (by decide) dX8_restore_29 ?_
          refine j_iastE h 1 rfl k rfl (by omega) (by decide) dX8_restore_30 (u' := (X, up2 Ak 0 k (Ak 3 k))) rfl ?_
          refine j_iinc h (v := nI (k + 1)) (lv' := [(1, _), (0, _)]) dX8_restore_31 (k := 1) rfl (nI_1 k) (by decide) rfl ?_
          refine j_goto h (tgt := 12) dX8_restore_34 (by decide) ?_
          refine j_sub h [1, 0] rfl ?_
          exact ih (k + 1) _ (by omega) (by omega) (fun z hz => hf z (hz.trans (Eq.symm ((ite_n c2 rfl)))))
    refine j_sub h [1, 0] rfl ?_
    refine lp12 170 0 _ (by omega) (by omega) (fun z3 hz3 => ?_)
    refine j_aload_n h dX8_restore_37 rfl 0 rfl ?_
    refine j_iconst h (v := 0) dX8_restore_38 (by decide) ?_
    refine j_put h inlX8 tyX8 tyX8_ok nmX8 0 rfl rfl 3 (by decide) (xr_7 12 rfl) rfl rfl rfl rfl (Nat.le_of_ble_eq_true rfl) dX8_restore_39 (u' := (upd X 3 0, z3)) rfl ?_
    refine j_aload_n h dX8_restore_42 rfl 0 rfl ?_
    refine j_get h inlX8 0 rfl rfl 0 (by decide) (xr_6 7 rfl) rfl (v := .ref (ad 1)) rfl dX8_restore_43 ?_
    refine j_iconst h (v := 0) dX8_restore_46 (by decide) ?_
    refine j_ialdE h 1 rfl 0 rfl (by decide) (by decide) dX8_restore_47 ?_
    exact hR _ _ _ _ dX8_restore_48 ⟨(_, _), Eq.symm ((ite_n c1 (bd_eq hz3 rfl))), rfl, rfl⟩
  · refine j_bipush h (v := (-4)) dX8_restore_7 (by decide) ?_
    exact hR _ _ _ _ dX8_restore_9 ⟨(_, _), Eq.symm ((ite_p c1 rfl)), rfl, rfl⟩

def f_X8_in (X : Nat → Int32) (A : Nat → Nat → Int32) (p1 : Int32) (p2 : Int32) (p3 : Int32) : Int32 :=
  if p1 < p2 then
    0
  else
    if p3 < p1 then
      0
    else
      1
abbrev rm_X8_in : Room := { frames := 0, cells := 0, slots := 0, locals := 0 }
set_option maxRecDepth 100000 in
set_option maxHeartbeats 4000000 in
theorem c_X8_in (l : Launch) (D : gD) (cy : Nat → ClassId) (ad : Nat → Nat) (X : Nat → Int32) (A : Nat → Nat → Int32) (p1 : Int32) (p2 : Int32) (p3 : Int32)  : CtI l D cy (MW cy ad) yX8_in cX8_in 3 (some .boolean) rm_X8_in [.int p1, .int p2, .int p3] (X, A) (fun rv u => rv = f_X8_in X A p1 p2 p3 ∧ u = (X, A) ∧ (rv = 0 ∨ rv = 1)) 0 0 := by
  refine m_entZ cX8_in 3 (by decide) (Nat.le_of_ble_eq_true rfl) (fun J h hR => ?_)
  show J (X, A) (0, 0) [(0, .int p1), (1, .int p2), (2, .int p3)] 0 []
  refine j_iload_n h dX8_in_0 rfl 0 rfl ?_
  refine j_iload_n h dX8_in_1 rfl 1 rfl ?_
  refine j_icmp_lt h (tgt := 14) dX8_in_2 (by decide) (fun c1 => ?_) (fun c1 => ?_)
  · refine j_iconst h (v := 0) dX8_in_14 (by decide) ?_
    exact hR _ _ _ _ dX8_in_15 (Or.inl rfl) ⟨Eq.symm ((ite_p c1 rfl)), rfl, (Or.inl rfl)⟩
  · refine j_iload_n h dX8_in_5 rfl 0 rfl ?_
    refine j_iload_n h dX8_in_6 rfl 2 rfl ?_
    refine j_icmp_gt h (tgt := 14) dX8_in_7 (by decide) (fun c2 => ?_) (fun c2 => ?_)
    · refine j_iconst h (v := 0) dX8_in_14 (by decide) ?_
      exact hR _ _ _ _ dX8_in_15 (Or.inl rfl) ⟨Eq.symm ((ite_n c1 (ite_p c2 rfl))), rfl, (Or.inl rfl)⟩
    · refine j_iconst h (v := 1) dX8_in_10 (by decide) ?_
      refine j_goto h (tgt := 15) dX8_in_11 (by decide) ?_
      exact hR _ _ _ _ dX8_in_15 (Or.inr rfl) ⟨Eq.symm ((ite_n c1 (ite_n c2 rfl))), rfl, (Or.inr rfl)⟩

def f_X8_isRink (X : Nat → Int32) (A : Nat → Nat → Int32) (p1 : Int32) : Int32 :=
  bd (f_X8_in X A p1 0 ((A 0 3) - 1)) fun z1 =>
  z1
abbrev rm_X8_isRink : Room := { frames := 1, cells := 0, slots := 0, locals := 22 }
set_option maxRecDepth 100000 in
set_option maxHeartbeats 4000000 in
theorem c_X8_isRink (l : Launch) (D : gD) (cy : Nat → ClassId) (ad : Nat → Nat) (X : Nat → Int32) (A : Nat → Nat → Int32) (p1 : Int32)  : CtI l D cy (MW cy ad) yX8_isRink cX8_isRink 2 (some .boolean) rm_X8_isRink [.ref (ad 0), .int p1] (X, A) (fun rv u => rv = f_X8_isRink X A p1 ∧ u = (X, A) ∧ (rv = 0 ∨ rv = 1)) 0 0 := by
  refine m_entZ cX8_isRink 2 (by decide) (Nat.le_of_ble_eq_true rfl) (fun J h hR => ?_)
  show J (X, A) (0, 0) [(0, .ref (ad 0)), (1, .int p1)] 0 []
  refine j_iload_n h dX8_isRink_0 rfl 1 rfl ?_
  refine j_iconst h (v := 0) dX8_isRink_1 (by decide) ?_
  refine j_aload_n h dX8_isRink_2 rfl 0 rfl ?_
  refine j_get h inlX8 0 rfl rfl 0 (by decide) (xr_6 7 rfl) rfl (v := .ref (ad 1)) rfl dX8_isRink_3 ?_
  refine j_iconst h (v := 3) dX8_isRink_6 (by decide) ?_
  refine j_ialdE h 1 rfl 3 rfl (by decide) (by decide) dX8_isRink_7 ?_
  refine j_iconst h (v := 1) dX8_isRink_8 (by decide) ?_
  refine j_isub h dX8_isRink_9 ?_
  refine j_callS h (n := 3) (c_X8_in l D cy ad _ _ _ _ _) (xg_S (xr_12 13 rfl) (xr_12 14 rfl) (xr_1 5 rfl) (xr_12 15 rfl)) rfl rfl (by decide +kernel) ⟨Nat.le_of_ble_eq_true rfl, Nat.le_of_ble_eq_true rfl⟩  rfl rfl (Nat.le_of_ble_eq_true rfl) dX8_isRink_10 ⟨by decide, by decide⟩ (fun z1 u' hq => ?_)
  obtain ⟨hz1, rfl, bz1⟩ := hq
  exact hR _ _ _ _ dX8_isRink_13 bz1 ⟨Eq.symm ((bd_eq hz1 rfl)), rfl, bz1⟩

def f_X8_isWood (X : Nat → Int32) (A : Nat → Nat → Int32) (p1 : Int32) : Int32 :=
  bd (f_X8_in X A p1 0 ((A 0 4) - 1)) fun z1 =>
  z1
abbrev rm_X8_isWood : Room := { frames := 1, cells := 0, slots := 0, locals := 22 }
set_option maxRecDepth 100000 in
set_option maxHeartbeats 4000000 in
theorem c_X8_isWood (l : Launch) (D : gD) (cy : Nat → ClassId) (ad : Nat → Nat) (X : Nat → Int32) (A : Nat → Nat → Int32) (p1 : Int32)  : CtI l D cy (MW cy ad) yX8_isWood cX8_isWood 2 (some .boolean) rm_X8_isWood [.ref (ad 0), .int p1] (X, A) (fun rv u => rv = f_X8_isWood X A p1 ∧ u = (X, A) ∧ (rv = 0 ∨ rv = 1)) 0 0 := by
  refine m_entZ cX8_isWood 2 (by decide) (Nat.le_of_ble_eq_true rfl) (fun J h hR => ?_)
  show J (X, A) (0, 0) [(0, .ref (ad 0)), (1, .int p1)] 0 []
  refine j_iload_n h dX8_isWood_0 rfl 1 rfl ?_
  refine j_iconst h (v := 0) dX8_isWood_1 (by decide) ?_
  refine j_aload_n h dX8_isWood_2 rfl 0 rfl ?_
  refine j_get h inlX8 0 rfl rfl 0 (by decide) (xr_6 7 rfl) rfl (v := .ref (ad 1)) rfl dX8_isWood_3 ?_
  refine j_iconst h (v := 4) dX8_isWood_6 (by decide) ?_
  refine j_ialdE h 1 rfl 4 rfl (by decide) (by decide) dX8_isWood_7 ?_
  refine j_iconst h (v := 1) dX8_isWood_8 (by decide) ?_
  refine j_isub h dX8_isWood_9 ?_
  refine j_callS h (n := 3) (c_X8_in l D cy ad _ _ _ _ _) (xg_S (xr_12 13 rfl) (xr_12 14 rfl) (xr_1 5 rfl) (xr_12 15 rfl)) rfl rfl (by decide +kernel) ⟨Nat.le_of_ble_eq_true rfl, Nat.le_of_ble_eq_true rfl⟩  rfl rfl (Nat.le_of_ble_eq_true rfl) dX8_isWood_10 ⟨by decide, by decide⟩ (fun z1 u' hq => ?_)
  obtain ⟨hz1, rfl, bz1⟩ := hq
  exact hR _ _ _ _ dX8_isWood_13 bz1 ⟨Eq.symm ((bd_eq hz1 rfl)), rfl, bz1⟩

def f_X8_ofRink (X : Nat → Int32) (A : Nat → Nat → Int32) (p1 : Int32) (p2 : Int32) : Int32 :=
  (A 0 ((17 + (10 * p1.toNatClampNeg)) + p2.toNatClampNeg))
abbrev rm_X8_ofRink : Room := { frames := 0, cells := 0, slots := 0, locals := 0 }
set_option maxRecDepth 100000 in
set_option maxHeartbeats 4000000 in
theorem c_X8_ofRink (l : Launch) (D : gD) (cy : Nat → ClassId) (ad : Nat → Nat) (X : Nat → Int32) (A : Nat → Nat → Int32) (p1 : Int32) (p2 : Int32) (v1 : vp_in p1 4) (v2 : vp_in p2 10) : CtI l D cy (MW cy ad) yX8_ofRink cX8_ofRink 3 (some .int) rm_X8_ofRink [.ref (ad 0), .int p1, .int p2] (X, A) (fun rv u => rv = f_X8_ofRink X A p1 p2 ∧ u = (X, A)) 0 0 := by
  refine m_entI cX8_ofRink 3 (by decide) (Nat.le_of_ble_eq_true rfl) (fun J h hR => ?_)
  show J (X, A) (0, 0) [(0, .ref (ad 0)), (1, .int p1), (2, .int p2)] 0 []
  have b1 : p1.toNatClampNeg < 4 := vp_lt v1
  have e1 : p1 = nI p1.toNatClampNeg := vp_nI v1 (by decide)
  have b2 : p2.toNatClampNeg < 10 := vp_lt v2
  have e2 : p2 = nI p2.toNatClampNeg := vp_nI v2 (by decide)
  refine j_aload_n h dX8_ofRink_0 rfl 0 rfl ?_
  refine j_get h inlX8 0 rfl rfl 0 (by decide) (xr_6 7 rfl) rfl (v := .ref (ad 1)) rfl dX8_ofRink_1 ?_
  refine j_bipush h (v := 17) dX8_ofRink_4 (by decide) ?_
  refine j_bipush h (v := 10) dX8_ofRink_6 (by decide) ?_
  refine j_iload_n h dX8_ofRink_8 rfl 1 rfl ?_
  refine j_imul h dX8_ofRink_9 ?_
  refine j_iadd h dX8_ofRink_10 ?_
  refine j_iload_n h dX8_ofRink_11 rfl 2 rfl ?_
  refine j_iadd h dX8_ofRink_12 ?_
  refine j_ialdE h 1 rfl ((17 + (10 * p1.toNatClampNeg)) + p2.toNatClampNeg) (nx_add (nx_add rfl (nx_mul rfl e1)) e2) (by omega) (by decide) dX8_ofRink_13 ?_
  exact hR _ _ _ _ dX8_ofRink_14 ⟨Eq.symm (rfl), rfl⟩

def f_X8_ofWood (X : Nat → Int32) (A : Nat → Nat → Int32) (p1 : Int32) (p2 : Int32) : Int32 :=
  (A 0 ((57 + (7 * p1.toNatClampNeg)) + p2.toNatClampNeg))
abbrev rm_X8_ofWood : Room := { frames := 0, cells := 0, slots := 0, locals := 0 }
set_option maxRecDepth 100000 in
set_option maxHeartbeats 4000000 in
theorem c_X8_ofWood (l : Launch) (D : gD) (cy : Nat → ClassId) (ad : Nat → Nat) (X : Nat → Int32) (A : Nat → Nat → Int32) (p1 : Int32) (p2 : Int32) (v1 : vp_in p1 16) (v2 : vp_in p2 7) : CtI l D cy (MW cy ad) yX8_ofWood cX8_ofWood 3 (some .int) rm_X8_ofWood [.ref (ad 0), .int p1, .int p2] (X, A) (fun rv u => rv = f_X8_ofWood X A p1 p2 ∧ u = (X, A)) 0 0 := by
  refine m_entI cX8_ofWood 3 (by decide) (Nat.le_of_ble_eq_true rfl) (fun J h hR => ?_)
  show J (X, A) (0, 0) [(0, .ref (ad 0)), (1, .int p1), (2, .int p2)] 0 []
  have b1 : p1.toNatClampNeg < 16 := vp_lt v1
  have e1 : p1 = nI p1.toNatClampNeg := vp_nI v1 (by decide)
  have b2 : p2.toNatClampNeg < 7 := vp_lt v2
  have e2 : p2 = nI p2.toNatClampNeg := vp_nI v2 (by decide)
  refine j_aload_n h dX8_ofWood_0 rfl 0 rfl ?_
  refine j_get h inlX8 0 rfl rfl 0 (by decide) (xr_6 7 rfl) rfl (v := .ref (ad 1)) rfl dX8_ofWood_1 ?_
  refine j_bipush h (v := 57) dX8_ofWood_4 (by decide) ?_
  refine j_bipush h (v := 7) dX8_ofWood_6 (by decide) ?_
  refine j_iload_n h dX8_ofWood_8 rfl 1 rfl ?_
  refine j_imul h dX8_ofWood_9 ?_
  refine j_iadd h dX8_ofWood_10 ?_
  refine j_iload_n h dX8_ofWood_11 rfl 2 rfl ?_
  refine j_iadd h dX8_ofWood_12 ?_
  refine j_ialdE h 1 rfl ((57 + (7 * p1.toNatClampNeg)) + p2.toNatClampNeg) (nx_add (nx_add rfl (nx_mul rfl e1)) e2) (by omega) (by decide) dX8_ofWood_13 ?_
  exact hR _ _ _ _ dX8_ofWood_14 ⟨Eq.symm (rfl), rfl⟩

def f_X8_setsRink (X : Nat → Int32) (A : Nat → Nat → Int32) (p1 : Int32) (p2 : Int32) (p3 : Int32) : (Nat → Nat → Int32) :=
  (up2 A 0 ((17 + (10 * p1.toNatClampNeg)) + p2.toNatClampNeg) p3)
abbrev rm_X8_setsRink : Room := { frames := 0, cells := 0, slots := 0, locals := 0 }
set_option maxRecDepth 100000 in
set_option maxHeartbeats 4000000 in
theorem c_X8_setsRink (l : Launch) (D : gD) (cy : Nat → ClassId) (ad : Nat → Nat) (X : Nat → Int32) (A : Nat → Nat → Int32) (p1 : Int32) (p2 : Int32) (p3 : Int32) (v1 : vp_in p1 4) (v2 : vp_in p2 10) : CtV l D cy (MW cy ad) yX8_setsRink cX8_setsRink 4 none rm_X8_setsRink [.ref (ad 0), .int p1, .int p2, .int p3] (X, A) (fun u => ∃ z : (Nat → Nat → Int32), z = f_X8_setsRink X A p1 p2 p3 ∧ u = (X, z)) 0 0 := by
  refine m_entV cX8_setsRink 4 (by decide) (Nat.le_of_ble_eq_true rfl) (fun J h hR => ?_)
  show J (X, A) (0, 0) [(0, .ref (ad 0)), (1, .int p1), (2, .int p2), (3, .int p3)] 0 []
  have b1 : p1.toNatClampNeg < 4 := vp_lt v1
  have e1 : p1 = nI p1.toNatClampNeg := vp_nI v1 (by decide)
  have b2 : p2.toNatClampNeg < 10 := vp_lt v2
  have e2 : p2 = nI p2.toNatClampNeg := vp_nI v2 (by decide)
  refine j_aload_n h dX8_setsRink_0 rfl 0 rfl ?_
  refine j_get h inlX8 0 rfl rfl 0 (by decide) (xr_6 7 rfl) rfl (v := .ref (ad 1)) rfl dX8_setsRink_1 ?_
  refine j_bipush h (v := 17) dX8_setsRink_4 (by decide) ?_
  refine j_bipush h (v := 10) dX8_setsRink_6 (by decide) ?_
  refine j_iload_n h dX8_setsRink_8 rfl 1 rfl ?_
  refine j_imul h dX8_setsRink_9 ?_
  refine j_iadd h dX8_setsRink_10 ?_
  refine j_iload_n h dX8_setsRink_11 rfl 2 rfl ?_
  refine j_iadd h dX8_setsRink_12 ?_
  refine j_iload_n h dX8_setsRink_13 rfl 3 rfl ?_
  refine j_iastE h 1 rfl ((17 + (10 * p1.toNatClampNeg)) + p2.toNatClampNeg) (nx_add (nx_add rfl (nx_mul rfl e1)) e2) (by omega) (by decide) dX8_setsRink_14 (u' := (X, up2 A 0 ((17 + (10 * p1.toNatClampNeg)) + p2.toNatClampNeg) p3)) rfl ?_
  exact hR _ _ _ dX8_setsRink_15 ⟨_, Eq.symm (rfl), rfl⟩

def f_X8_setsWood (X : Nat → Int32) (A : Nat → Nat → Int32) (p1 : Int32) (p2 : Int32) (p3 : Int32) : (Nat → Nat → Int32) :=
  (up2 A 0 ((57 + (7 * p1.toNatClampNeg)) + p2.toNatClampNeg) p3)
abbrev rm_X8_setsWood : Room := { frames := 0, cells := 0, slots := 0, locals := 0 }
set_option maxRecDepth 100000 in
set_option maxHeartbeats 4000000 in
theorem c_X8_setsWood (l : Launch) (D : gD) (cy : Nat → ClassId) (ad : Nat → Nat) (X : Nat → Int32) (A : Nat → Nat → Int32) (p1 : Int32) (p2 : Int32) (p3 : Int32) (v1 : vp_in p1 16) (v2 : vp_in p2 7) : CtV l D cy (MW cy ad) yX8_setsWood cX8_setsWood 4 none rm_X8_setsWood [.ref (ad 0), .int p1, .int p2, .int p3] (X, A) (fun u => ∃ z : (Nat → Nat → Int32), z = f_X8_setsWood X A p1 p2 p3 ∧ u = (X, z)) 0 0 := by
  refine m_entV cX8_setsWood 4 (by decide) (Nat.le_of_ble_eq_true rfl) (fun J h hR => ?_)
  show J (X, A) (0, 0) [(0, .ref (ad 0)), (1, .int p1), (2, .int p2), (3, .int p3)] 0 []
  have b1 : p1.toNatClampNeg < 16 := vp_lt v1
  have e1 : p1 = nI p1.toNatClampNeg := vp_nI v1 (by decide)
  have b2 : p2.toNatClampNeg < 7 := vp_lt v2
  have e2 : p2 = nI p2.toNatClampNeg := vp_nI v2 (by decide)
  refine j_aload_n h dX8_setsWood_0 rfl 0 rfl ?_
  refine j_get h inlX8 0 rfl rfl 0 (by decide) (xr_6 7 rfl) rfl (v := .ref (ad 1)) rfl dX8_setsWood_1 ?_
  refine j_bipush h (v := 57) dX8_setsWood_4 (by decide) ?_
  refine j_bipush h (v := 7) dX8_setsWood_6 (by decide) ?_
  refine j_iload_n h dX8_setsWood_8 rfl 1 rfl ?_
  refine j_imul h dX8_setsWood_9 ?_
  refine j_iadd h dX8_setsWood_10 ?_
  refine j_iload_n h dX8_setsWood_11 rfl 2 rfl ?_
  refine j_iadd h dX8_setsWood_12 ?_
  refine j_iload_n h dX8_setsWood_13 rfl 3 rfl ?_
  refine j_iastE h 1 rfl ((57 + (7 * p1.toNatClampNeg)) + p2.toNatClampNeg) (nx_add (nx_add rfl (nx_mul rfl e1)) e2) (by omega) (by decide) dX8_setsWood_14 (u' := (X, up2 A 0 ((57 + (7 * p1.toNatClampNeg)) + p2.toNatClampNeg) p3)) rfl ?_
  exact hR _ _ _ dX8_setsWood_15 ⟨_, Eq.symm (rfl), rfl⟩

/-- what keeps the reference's indices in range: how many rinks and woods there are; the rinks and clubs of woods; the text's characters -/
def MI (A : Nat → Nat → Int32) : Prop := vp_in (A 0 3) 5 ∧ vp_in (A 0 4) 17 ∧ (∀ w, w < 16 → vp_in (A 0 (57 + 7 * w + 3)) 4) ∧ (∀ w, w < 16 → vp_in (A 0 (57 + 7 * w + 0)) 2) ∧ (∀ j, j < 60 → ∃ q : Nat, q < 128 ∧ A 5 j = nI q)
theorem MI.r {A : Nat → Nat → Int32} (h : MI A) : A 0 3 ≤ nI 4 := by
  obtain ⟨j, hj, e⟩ := vp_in_of h.1 (by decide)
  rw [e]; exact nI_le (by omega) (by decide)
theorem MI.w {A : Nat → Nat → Int32} (h : MI A) : A 0 4 ≤ nI 16 := by
  obtain ⟨j, hj, e⟩ := vp_in_of h.2.1 (by decide)
  rw [e]; exact nI_le (by omega) (by decide)
theorem inM_in {X : Nat → Int32} {A : Nat → Nat → Int32} {p z c : Int32} {N : Nat} (hN : N < 2 ^ 30) (hc : vp_in c (N + 1)) (hz : z = f_X8_in X A p 0 (c - 1)) (h : ¬ z = 0) : vp_in p N := by
  obtain ⟨j, hj, rfl⟩ := vp_in_of hc (by omega)
  unfold f_X8_in at hz
  split at hz
  · exact absurd hz h
  · split at hz
    · exact absurd hz h
    · rename_i h1 h2
      obtain ⟨i, hi, rfl⟩ := nI_of h1
      refine vp_in_nI ?_ (by omega)
      cases j with
      | zero =>
        exfalso
        refine h2 (Int32.lt_iff_toInt_lt.mpr ?_)
        rw [nI_toInt hi, show (nI 0 - 1).toInt = -1 by decide]
        omega
      | succ j =>
        rw [nI_pred] at h2
        have h3 : ¬ j < i := fun hq => h2 ((nI_ltI (by omega) hi).mpr hq)
        omega
theorem isRinkM_in {X : Nat → Int32} {A : Nat → Nat → Int32} {p z : Int32} (hI : MI A) (hz : z = f_X8_isRink X A p) (h : ¬ z = 0) : vp_in p 4 := inM_in (X := X) (A := A) (by decide) hI.1 hz h
theorem isWoodM_in {X : Nat → Int32} {A : Nat → Nat → Int32} {p z : Int32} (hI : MI A) (hz : z = f_X8_isWood X A p) (h : ¬ z = 0) : vp_in p 16 := inM_in (X := X) (A := A) (by decide) hI.2.1 hz h
theorem onM_in {X : Nat → Int32} {A : Nat → Nat → Int32} {p z : Int32} (hI : MI A) (hp : vp_in p 16) (hz : z = f_X8_ofWood X A p 3) : vp_in z 4 := by
  rw [hz]; exact hI.2.2.1 _ (vp_lt hp)

def f_X8_changed (X : Nat → Int32) (A : Nat → Nat → Int32) (p1 : Int32) : Int32 :=
  (if 0 < (if ((p1 + (A 0 1)) - (A 0 2)) < 20 then ((p1 + (A 0 1)) - (A 0 2)) else 20) then (if ((p1 + (A 0 1)) - (A 0 2)) < 20 then ((p1 + (A 0 1)) - (A 0 2)) else 20) else 0)
abbrev rm_X8_changed : Room := { frames := 1, cells := 0, slots := 0, locals := 21 }
set_option maxRecDepth 100000 in
set_option maxHeartbeats 4000000 in
theorem c_X8_changed (l : Launch) (D : gD) (cy : Nat → ClassId) (ad : Nat → Nat) (X : Nat → Int32) (A : Nat → Nat → Int32) (p1 : Int32)  : CtI l D cy (MW cy ad) yX8_changed cX8_changed 2 (some .int) rm_X8_changed [.ref (ad 0), .int p1] (X, A) (fun rv u => rv = f_X8_changed X A p1 ∧ u = (X, A)) 0 0 := by
  refine m_entI cX8_changed 2 (by decide) (Nat.le_of_ble_eq_true rfl) (fun J h hR => ?_)
  show J (X, A) (0, 0) [(0, .ref (ad 0)), (1, .int p1)] 0 []
  refine j_iconst h (v := 0) dX8_changed_0 (by decide) ?_
  refine j_bipush h (v := 20) dX8_changed_1 (by decide) ?_
  refine j_iload_n h dX8_changed_3 rfl 1 rfl ?_
  refine j_aload_n h dX8_changed_4 rfl 0 rfl ?_
  refine j_get h inlX8 0 rfl rfl 0 (by decide) (xr_6 7 rfl) rfl (v := .ref (ad 1)) rfl dX8_changed_5 ?_
  refine j_iconst h (v := 1) dX8_changed_8 (by decide) ?_
  refine j_ialdE h 1 rfl 1 rfl (by decide) (by decide) dX8_changed_9 ?_
  refine j_iadd h dX8_changed_10 ?_
  refine j_aload_n h dX8_changed_11 rfl 0 rfl ?_
  refine j_get h inlX8 0 rfl rfl 0 (by decide) (xr_6 7 rfl) rfl (v := .ref (ad 1)) rfl dX8_changed_12 ?_
  refine j_iconst h (v := 2) dX8_changed_15 (by decide) ?_
  refine j_ialdE h 1 rfl 2 rfl (by decide) (by decide) dX8_changed_16 ?_
  refine j_isub h dX8_changed_17 ?_
  refine j_mmin h (xr_20 14 rfl) (xr_9 21 rfl) (xr_9 4 rfl) (xr_9 22 rfl) (by decide) (Nat.le_of_ble_eq_true rfl) (by decide) (by decide) dX8_changed_18 ?_
  refine j_mmax h (xr_20 15 rfl) (xr_9 3 rfl) (xr_9 4 rfl) (xr_9 5 rfl) (by decide) (Nat.le_of_ble_eq_true rfl) (by decide) (by decide) dX8_changed_21 ?_
  exact hR _ _ _ _ dX8_changed_24 ⟨Eq.symm (rfl), rfl⟩

def f_X8_hoursToDry_l9 (X : Nat → Int32) (A : Nat → Nat → Int32) (p1 : Int32) : Nat → Nat → Int32 → Int32
  | 0, _, wet => 0
  | n + 1, k, wet =>
    if 40 < (nI k) then
      (-1)
    else
      if wet < 8 then
        (nI k)
      else
        bd (f_X8_changed X A wet) fun z6 =>
        f_X8_hoursToDry_l9 X A p1 n (k + 1) z6
def f_X8_hoursToDry (X : Nat → Int32) (A : Nat → Nat → Int32) (p1 : Int32) : Int32 :=
  bd (f_X8_ofRink X A p1 2) fun z1 =>
  f_X8_hoursToDry_l9 X A p1 42 0 z1
abbrev rm_X8_hoursToDry : Room := { frames := 2, cells := 0, slots := 0, locals := 42 }
set_option maxRecDepth 100000 in
set_option maxHeartbeats 4000000 in
theorem c_X8_hoursToDry (l : Launch) (D : gD) (cy : Nat → ClassId) (ad : Nat → Nat) (X : Nat → Int32) (A : Nat → Nat → Int32) (p1 : Int32) (v1 : vp_in p1 4) : CtI l D cy (MW cy ad) yX8_hoursToDry cX8_hoursToDry 4 (some .int) rm_X8_hoursToDry [.ref (ad 0), .int p1] (X, A) (fun rv u => rv = f_X8_hoursToDry X A p1 ∧ u = (X, A)) 0 0 := by
  refine m_entI cX8_hoursToDry 4 (by decide) (Nat.le_of_ble_eq_true rfl) (fun J h hR => ?_)
  show J (X, A) (0, 0) [(0, .ref (ad 0)), (1, .int p1)] 0 []
  have b1 : p1.toNatClampNeg < 4 := vp_lt v1
  have e1 : p1 = nI p1.toNatClampNeg := vp_nI v1 (by decide)
  refine j_aload_n h dX8_hoursToDry_0 rfl 0 rfl ?_
  refine j_iload_n h dX8_hoursToDry_1 rfl 1 rfl ?_
  refine j_iconst h (v := 2) dX8_hoursToDry_2 (by decide) ?_
  refine j_callI h (n := 2) (c_X8_ofRink l D cy ad _ _ _ _ (vp_of (j := p1.toNatClampNeg) e1 (by omega) (by decide)) (vp_in_nI (by decide) (by decide))) (xg_V (xr_16 15 rfl) (xr_16 16 rfl) (xr_16 17 rfl) (xr_1 5 rfl) (xr_16 18 rfl)) rfl rfl (by decide +kernel) ⟨Nat.le_of_ble_eq_true rfl, Nat.le_of_ble_eq_true rfl⟩ 0 rfl rfl rfl rfl rfl (Nat.le_of_ble_eq_true rfl) dX8_hoursToDry_3 ⟨by decide, by decide⟩ (fun z1 u' hq => ?_)
  obtain ⟨hz1, rfl⟩ := hq
  refine j_istore_n h (lv' := [(2, _), (0, _), (1, _)]) dX8_hoursToDry_6 rfl (by decide) rfl ?_
  refine j_iconst h (v := 0) dX8_hoursToDry_7 (by decide) ?_
  refine j_istore_n h (lv' := [(3, _), (2, _), (0, _), (1, _)]) dX8_hoursToDry_8 rfl (by decide) rfl ?_
  have lp9 : ∀ (n k : Nat) (wet : Int32), n + k = 42 → k ≤ 41 → f_X8_hoursToDry X A p1 = f_X8_hoursToDry_l9 X A p1 n k wet → J (X, A) (0, 0) [(0, .ref (ad 0)), (1, .int p1), (2, .int wet), (3, .int (nI k))] 9 [] := by
    intro n
    induction n with
    | zero => intro k wet hn hk hf; omega
    | succ n ih =>
      intro k wet hn hk hf
      refine j_iload_n h dX8_hoursToDry_9 rfl 3 rfl ?_
      refine j_bipush h (v := 40) dX8_hoursToDry_10 (by decide) ?_
      refine j_icmp_gt h (tgt := 33) dX8_hoursToDry_12 (by decide) (fun c2 => ?_) (fun c2 => ?_)
      · refine j_iload_n h dX8_hoursToDry_33 rfl 3 rfl ?_
        refine j_bipush h (v := 40) dX8_hoursToDry_34 (by decide) ?_
        refine j_icmp_gt h (tgt := 43) dX8_hoursToDry_36 (by decide) (fun _ => ?_) (fun c3 => absurd c2 c3)
        refine j_iconst h (v := (-1)) dX8_hoursToDry_43 (by decide) ?_
        exact hR _ _ _ _ dX8_hoursToDry_44 ⟨Eq.symm (hf.trans ((ite_p c2 rfl))), rfl⟩
      · have hk1 : k < 41 := gt_lt (by decide) hk c2
        refine j_iload_n h dX8_hoursToDry_15 rfl 2 rfl ?_
        refine j_bipush h (v := 8) dX8_hoursToDry_16 (by decide) ?_
        refine j_icmp_lt h (tgt := 33) dX8_hoursToDry_18 (by decide) (fun c4 => ?_) (fun c4 => ?_)
        · refine j_iload_n h dX8_hoursToDry_33 rfl 3 rfl ?_
          refine j_bipush h (v := 40) dX8_hoursToDry_34 (by decide) ?_
          refine j_icmp_gt h (tgt := 43) dX8_hoursToDry_36 (by decide) (fun c5 => absurd c5 c2) (fun _ => ?_)
          refine j_iload_n h dX8_hoursToDry_39 rfl 3 rfl ?_
          refine j_goto h (tgt := 44) dX8_hoursToDry_40 (by decide) ?_
          exact hR _ _ _ _ dX8_hoursToDry_44 ⟨Eq.symm (hf.trans ((ite_n c2 (ite_p c4 rfl)))), rfl⟩
        · refine j_aload_n h dX8_hoursToDry_21 rfl 0 rfl ?_
          refine j_iload_n h dX8_hoursToDry_22 rfl 2 rfl ?_
          refine j_callI h (n := 1) (c_X8_changed l D cy ad _ _ _) (xg_V (xr_20 10 rfl) (xr_20 11 rfl) (xr_20 12 rfl) (xr_1 5 rfl) (xr_20 13 rfl)) rfl rfl (by decide +kernel) ⟨Nat.le_of_ble_eq_true rfl, Nat.le_of_ble_eq_true rfl⟩ 0 rfl rfl rfl rfl rfl (Nat.le_of_ble_eq_true rfl) dX8_hoursToDry_23 ⟨by decide, by decide⟩ (fun z6 u' hq => ?_)
          obtain ⟨hz6, rfl⟩ := hq
          refine j_istore_n h (lv' := [(2, _), (0, _), (1, _), (3, _)]) dX8_hoursToDry_26 rfl (by decide) rfl ?_
          refine j_iinc h (v := nI (k + 1)) (lv' := [(3, _), (2, _), (0, _), (1, _)]) dX8_hoursToDry_27 (k := 3) rfl (nI_1 k) (by decide) rfl ?_
          refine j_goto h (tgt := 9) dX8_hoursToDry_30 (by decide) ?_
          refine j_sub h [2, 3, 1, 0] rfl ?_
          exact ih (k + 1) _ (by omega) (by omega) (hf.trans ((ite_n c2 (ite_n c4 (bd_eq hz6 rfl)))))
  refine j_sub h [2, 3, 1, 0] rfl ?_
  exact lp9 42 0 _ (by omega) (by omega) ((bd_eq hz1 rfl))

def f_X8_isTaken_l3 (X : Nat → Int32) (A : Nat → Nat → Int32) (p1 : Int32) (p2 : Int32) (p3 : Int32) (p4 : Int32) : Nat → Nat → Int32
  | 0, _ => 0
  | n + 1, k =>
    if (A 0 4) ≤ (nI k) then
      0
    else
      if (nI k) = p4 then
        f_X8_isTaken_l3 X A p1 p2 p3 p4 n (k + 1) 
      else
        bd (f_X8_ofWood X A (nI k) 2) fun z3 =>
        if z3 = 1 then
          bd (f_X8_ofWood X A (nI k) 3) fun z5 =>
          if z5 = p1 then
            bd (f_X8_ofWood X A (nI k) 4) fun z7 =>
            if z7 = p2 then
              bd (f_X8_ofWood X A (nI k) 5) fun z9 =>
              if z9 = p3 then
                1
              else
                f_X8_isTaken_l3 X A p1 p2 p3 p4 n (k + 1) 
            else
              f_X8_isTaken_l3 X A p1 p2 p3 p4 n (k + 1) 
          else
            f_X8_isTaken_l3 X A p1 p2 p3 p4 n (k + 1) 
        else
          f_X8_isTaken_l3 X A p1 p2 p3 p4 n (k + 1) 
def f_X8_isTaken (X : Nat → Int32) (A : Nat → Nat → Int32) (p1 : Int32) (p2 : Int32) (p3 : Int32) (p4 : Int32) : Int32 :=
  f_X8_isTaken_l3 X A p1 p2 p3 p4 17 0 
abbrev rm_X8_isTaken : Room := { frames := 1, cells := 0, slots := 0, locals := 22 }
set_option maxRecDepth 100000 in
set_option maxHeartbeats 4000000 in
theorem c_X8_isTaken (l : Launch) (D : gD) (cy : Nat → ClassId) (ad : Nat → Nat) (X : Nat → Int32) (A : Nat → Nat → Int32) (p1 : Int32) (p2 : Int32) (p3 : Int32) (p4 : Int32) (hI : MI A) : CtI l D cy (MW cy ad) yX8_isTaken cX8_isTaken 6 (some .boolean) rm_X8_isTaken [.ref (ad 0), .int p1, .int p2, .int p3, .int p4] (X, A) (fun rv u => rv = f_X8_isTaken X A p1 p2 p3 p4 ∧ u = (X, A) ∧ (rv = 0 ∨ rv = 1)) 0 0 := by
  refine m_entZ cX8_isTaken 6 (by decide) (Nat.le_of_ble_eq_true rfl) (fun J h hR => ?_)
  show J (X, A) (0, 0) [(0, .ref (ad 0)), (1, .int p1), (2, .int p2), (3, .int p3), (4, .int p4)] 0 []
  refine j_iconst h (v := 0) dX8_isTaken_0 (by decide) ?_
  refine j_istore h (lv' := [(5, _), (0, _), (1, _), (2, _), (3, _), (4, _)]) dX8_isTaken_1 (by decide) rfl ?_
  have lp3 : ∀ (n k : Nat) , n + k = 17 → k ≤ 16 → f_X8_isTaken X A p1 p2 p3 p4 = f_X8_isTaken_l3 X A p1 p2 p3 p4 n k  → J (X, A) (0, 0) [(0, .ref (ad 0)), (1, .int p1), (2, .int p2), (3, .int p3), (4, .int p4), (5, .int (nI k))] 3 [] := by
    intro n
    induction n with
    | zero => intro k  hn hk hf; omega
    | succ n ih =>
      intro k  hn hk hf
      refine j_iload h dX8_isTaken_3 5 rfl ?_
      refine j_aload_n h dX8_isTaken_5 rfl 0 rfl ?_
      refine j_get h inlX8 0 rfl rfl 0 (by decide) (xr_6 7 rfl) rfl (v := .ref (ad 1)) rfl dX8_isTaken_6 ?_
      refine j_iconst h (v := 4) dX8_isTaken_9 (by decide) ?_
      refine j_ialdE h 1 rfl 4 rfl (by decide) (by decide) dX8_isTaken_10 ?_
      refine j_icmp_ge h (tgt := 73) dX8_isTaken_11 (by decide) (fun c1 => ?_) (fun c1 => ?_)
      · refine j_iconst h (v := 0) dX8_isTaken_73 (by decide) ?_
        exact hR _ _ _ _ dX8_isTaken_74 (Or.inl rfl) ⟨Eq.symm (hf.trans ((ite_p c1 rfl))), rfl, (Or.inl rfl)⟩
      · have hk1 : k < 16 := cnt_lt (by decide) hk hI.w c1
        refine j_iload h dX8_isTaken_14 5 rfl ?_
        refine j_iload h dX8_isTaken_16 4 rfl ?_
        refine j_icmp_eq h (tgt := 67) dX8_isTaken_18 (by decide) (fun c2 => ?_) (fun c2 => ?_)
        · refine j_iinc h (v := nI (k + 1)) (lv' := [(5, _), (0, _), (1, _), (2, _), (3, _), (4, _)]) dX8_isTaken_67 (k := 5) rfl (nI_1 k) (by decide) rfl ?_
          refine j_goto h (tgt := 3) dX8_isTaken_70 (by decide) ?_
          refine j_sub h [1, 2, 3, 4, 5, 0] rfl ?_
          exact ih (k + 1)  (by omega) (by omega) (hf.trans ((ite_n c1 (ite_p c2 rfl))))
        · refine j_aload_n h dX8_isTaken_21 rfl 0 rfl ?_
          refine j_iload h dX8_isTaken_22 5 rfl ?_
          refine j_iconst h (v := 2) dX8_isTaken_24 (by decide) ?_
          refine j_callI h (n := 2) (c_X8_ofWood l D cy ad _ _ _ _ (vp_in_nI (by omega) (by decide)) (vp_in_nI (by decide) (by decide))) (xg_V (xr_24 4 rfl) (xr_24 5 rfl) (xr_24 6 rfl) (xr_1 5 rfl) (xr_24 7 rfl)) rfl rfl (by decide +kernel) ⟨Nat.le_of_ble_eq_true rfl, Nat.le_of_ble_eq_true rfl⟩ 0 rfl rfl rfl rfl rfl (Nat.le_of_ble_eq_true rfl) dX8_isTaken_25 ⟨by decide, by decide⟩ (fun z3 u' hq => ?_)
          obtain ⟨hz3, rfl⟩ := hq
          refine j_iconst h (v := 1) dX8_isTaken_28 (by decide) ?_
          refine j_icmp_ne h (tgt := 67) dX8_isTaken_29 (by decide) (fun c4 => ?_) (fun c4 => ?_)
          · refine j_iinc h (v := nI (k + 1)) (lv' := [(5, _), (0, _), (1, _), (2, _), (3, _), (4, _)]) dX8_isTaken_67 (k := 5) rfl (nI_1 k) (by decide) rfl ?_
            refine j_goto h (tgt := 3) dX8_isTaken_70 (by decide) ?_
            refine j_sub h [1, 2, 3, 4, 5, 0] rfl ?_
            exact ih (k + 1)  (by omega) (by omega) (hf.trans ((ite_n c1 (ite_n c2 (bd_eq hz3 (ite_n c4 rfl))))))
          · refine j_aload_n h dX8_isTaken_32 rfl 0 rfl ?_
            refine j_iload h dX8_isTaken_33 5 rfl ?_
            refine j_iconst h (v := 3) dX8_isTaken_35 (by decide) ?_
            refine j_callI h (n := 2) (c_X8_ofWood l D cy ad _ _ _ _ (vp_in_nI (by omega) (by decide)) (vp_in_nI (by decide) (by decide))) (xg_V (xr_24 4 rfl) (xr_24 5 rfl) (xr_24 6 rfl) (xr_1 5 rfl) (xr_24 7 rfl)) rfl rfl (by decide +kernel) ⟨Nat.le_of_ble_eq_true rfl, Nat.le_of_ble_eq_true rfl⟩ 0 rfl rfl rfl rfl rfl (Nat.le_of_ble_eq_true rfl) dX8_isTaken_36 ⟨by decide, by decide⟩ (fun z5 u' hq => ?_)
            obtain ⟨hz5, rfl⟩ := hq
            refine j_iload_n h dX8_isTaken_39 rfl 1 rfl ?_
            refine j_icmp_ne h (tgt := 67) dX8_isTaken_40 (by decide) (fun c6 => ?_) (fun c6 => ?_)
            · refine j_iinc h (v := nI (k + 1)) (lv' := [(5, _), (0, _), (1, _), (2, _), (3, _), (4, _)]) dX8_isTaken_67 (k := 5) rfl (nI_1 k) (by decide) rfl ?_
              refine j_goto h (tgt := 3) dX8_isTaken_70 (by decide) ?_
              refine j_sub h [1, 2, 3, 4, 5, 0] rfl ?_
              exact ih (k + 1)  (by omega) (by omega) (hf.trans ((ite_n c1 (ite_n c2 (bd_eq hz3 (ite_p c4 (bd_eq hz5 (ite_n c6 rfl))))))))
            · refine j_aload_n h dX8_isTaken_43 rfl 0 rfl ?_
              refine j_iload h dX8_isTaken_44 5 rfl ?_
              refine j_iconst h (v := 4) dX8_isTaken_46 (by decide) ?_
              refine j_callI h (n := 2) (c_X8_ofWood l D cy ad _ _ _ _ (vp_in_nI (by omega) (by decide)) (vp_in_nI (by decide) (by decide))) (xg_V (xr_24 4 rfl) (xr_24 5 rfl) (xr_24 6 rfl) (xr_1 5 rfl) (xr_24 7 rfl)) rfl rfl (by decide +kernel) ⟨Nat.le_of_ble_eq_true rfl, Nat.le_of_ble_eq_true rfl⟩ 0 rfl rfl rfl rfl rfl (Nat.le_of_ble_eq_true rfl) dX8_isTaken_47 ⟨by decide, by decide⟩ (fun z7 u' hq => ?_)
              obtain ⟨hz7, rfl⟩ := hq
              refine j_iload_n h dX8_isTaken_50 rfl 2 rfl ?_
              refine j_icmp_ne h (tgt := 67) dX8_isTaken_51 (by decide) (fun c8 => ?_) (fun c8 => ?_)
              · refine j_iinc h (v := nI (k + 1)) (lv' := [(5, _), (0, _), (1, _), (2, _), (3, _), (4, _)]) dX8_isTaken_67 (k := 5) rfl (nI_1 k) (by decide) rfl ?_
                refine j_goto h (tgt := 3) dX8_isTaken_70 (by decide) ?_
                refine j_sub h [1, 2, 3, 4, 5, 0] rfl ?_
                exact ih (k + 1)  (by omega) (by omega) (hf.trans ((ite_n c1 (ite_n c2 (bd_eq hz3 (ite_p c4 (bd_eq hz5 (ite_p c6 (bd_eq hz7 (ite_n c8 rfl))))))))))
              · refine j_aload_n h dX8_isTaken_54 rfl 0 rfl ?_
                refine j_iload h dX8_isTaken_55 5 rfl ?_
                refine j_iconst h (v := 5) dX8_isTaken_57 (by decide) ?_
                refine j_callI h (n := 2) (c_X8_ofWood l D cy ad _ _ _ _ (vp_in_nI (by omega) (by decide)) (vp_in_nI (by decide) (by decide))) (xg_V (xr_24 4 rfl) (xr_24 5 rfl) (xr_24 6 rfl) (xr_1 5 rfl) (xr_24 7 rfl)) rfl rfl (by decide +kernel) ⟨Nat.le_of_ble_eq_true rfl, Nat.le_of_ble_eq_true rfl⟩ 0 rfl rfl rfl rfl rfl (Nat.le_of_ble_eq_true rfl) dX8_isTaken_58 ⟨by decide, by decide⟩ (fun z9 u' hq => ?_)
                obtain ⟨hz9, rfl⟩ := hq
                refine j_iload_n h dX8_isTaken_61 rfl 3 rfl ?_
                refine j_icmp_ne h (tgt := 67) dX8_isTaken_62 (by decide) (fun c10 => ?_) (fun c10 => ?_)
                · refine j_iinc h (v := nI (k + 1)) (lv' := [(5, _), (0, _), (1, _), (2, _), (3, _), (4, _)]) dX8_isTaken_67 (k := 5) rfl (nI_1 k) (by decide) rfl ?_
                  refine j_goto h (tgt := 3) dX8_isTaken_70 (by decide) ?_
                  refine j_sub h [1, 2, 3, 4, 5, 0] rfl ?_
                  exact ih (k + 1)  (by omega) (by omega) (hf.trans ((ite_n c1 (ite_n c2 (bd_eq hz3 (ite_p c4 (bd_eq hz5 (ite_p c6 (bd_eq hz7 (ite_p c8 (bd_eq hz9 (ite_n c10 rfl))))))))))))
                · refine j_iconst h (v := 1) dX8_isTaken_65 (by decide) ?_
                  exact hR _ _ _ _ dX8_isTaken_66 (Or.inr rfl) ⟨Eq.symm (hf.trans ((ite_n c1 (ite_n c2 (bd_eq hz3 (ite_p c4 (bd_eq hz5 (ite_p c6 (bd_eq hz7 (ite_p c8 (bd_eq hz9 (ite_p c10 rfl)))))))))))), rfl, (Or.inr rfl)⟩
  refine j_sub h [1, 2, 3, 4, 5, 0] rfl ?_
  exact lp3 17 0  (by omega) (by omega) (rfl)

def f_X8_columnOf (X : Nat → Int32) (A : Nat → Nat → Int32) (p1 : Int32) (p2 : Int32) (p3 : Int32) (p4 : Int32) : Int32 :=
  bd (f_X8_ofWood X A p1 1) fun z1 =>
  if p4 = 0 then
    (p2 - ((z1 * p3) / 10))
  else
    (p2 + ((z1 * p3) / 10))
abbrev rm_X8_columnOf : Room := { frames := 1, cells := 0, slots := 0, locals := 22 }
set_option maxRecDepth 100000 in
set_option maxHeartbeats 4000000 in
theorem c_X8_columnOf (l : Launch) (D : gD) (cy : Nat → ClassId) (ad : Nat → Nat) (X : Nat → Int32) (A : Nat → Nat → Int32) (p1 : Int32) (p2 : Int32) (p3 : Int32) (p4 : Int32) (v1 : vp_in p1 16) : CtI l D cy (MW cy ad) yX8_columnOf cX8_columnOf 6 (some .int) rm_X8_columnOf [.ref (ad 0), .int p1, .int p2, .int p3, .int p4] (X, A) (fun rv u => rv = f_X8_columnOf X A p1 p2 p3 p4 ∧ u = (X, A)) 0 0 := by
  refine m_entI cX8_columnOf 6 (by decide) (Nat.le_of_ble_eq_true rfl) (fun J h hR => ?_)
  show J (X, A) (0, 0) [(0, .ref (ad 0)), (1, .int p1), (2, .int p2), (3, .int p3), (4, .int p4)] 0 []
  have b1 : p1.toNatClampNeg < 16 := vp_lt v1
  have e1 : p1 = nI p1.toNatClampNeg := vp_nI v1 (by decide)
  refine j_aload_n h dX8_columnOf_0 rfl 0 rfl ?_
  refine j_iload_n h dX8_columnOf_1 rfl 1 rfl ?_
  refine j_iconst h (v := 1) dX8_columnOf_2 (by decide) ?_
  refine j_callI h (n := 2) (c_X8_ofWood l D cy ad _ _ _ _ (vp_of (j := p1.toNatClampNeg) e1 (by omega) (by decide)) (vp_in_nI (by decide) (by decide))) (xg_V (xr_24 4 rfl) (xr_24 5 rfl) (xr_24 6 rfl) (xr_1 5 rfl) (xr_24 7 rfl)) rfl rfl (by decide +kernel) ⟨Nat.le_of_ble_eq_true rfl, Nat.le_of_ble_eq_true rfl⟩ 0 rfl rfl rfl rfl rfl (Nat.le_of_ble_eq_true rfl) dX8_columnOf_3 ⟨by decide, by decide⟩ (fun z1 u' hq => ?_)
  obtain ⟨hz1, rfl⟩ := hq
  refine j_iload_n h dX8_columnOf_6 rfl 3 rfl ?_
  refine j_imul h dX8_columnOf_7 ?_
  refine j_bipush h (v := 10) dX8_columnOf_8 (by decide) ?_
  refine j_idiv h dX8_columnOf_10 (by decide) ?_
  refine j_istore h (lv' := [(5, _), (0, _), (1, _), (2, _), (3, _), (4, _)]) dX8_columnOf_11 (by decide) rfl ?_
  refine j_iload h dX8_columnOf_13 5 rfl ?_
  refine j_if_eq h (tgt := 25) dX8_columnOf_15 (by decide) (fun c2 => ?_) (fun c2 => ?_)
  · refine j_iload_n h dX8_columnOf_25 rfl 3 rfl ?_
    refine j_iload h dX8_columnOf_26 0 rfl ?_
    refine j_isub h dX8_columnOf_28 ?_
    exact hR _ _ _ _ dX8_columnOf_29 ⟨Eq.symm ((bd_eq hz1 (ite_p c2 rfl))), rfl⟩
  · refine j_iload_n h dX8_columnOf_18 rfl 3 rfl ?_
    refine j_iload h dX8_columnOf_19 0 rfl ?_
    refine j_iadd h dX8_columnOf_21 ?_
    refine j_goto h (tgt := 29) dX8_columnOf_22 (by decide) ?_
    exact hR _ _ _ _ dX8_columnOf_29 ⟨Eq.symm ((bd_eq hz1 (ite_n c2 rfl))), rfl⟩

def f_X8_lengthOf_l58 (X : Nat → Int32) (A : Nat → Nat → Int32) (p1 : Int32) (p2 : Int32) (p3 : Int32) (p4 : Int32) : Nat → Int32 → Int32
  | 0, x => 0
  | n + 1, x =>
    if x < 0 then
      x
    else
      bd (f_X8_isTaken X A p1 p3 x p2) fun z9 =>
      if z9 = 0 then
        x
      else
        f_X8_lengthOf_l58 X A p1 p2 p3 p4 n (x + (-1))
def f_X8_lengthOf (X : Nat → Int32) (A : Nat → Nat → Int32) (p1 : Int32) (p2 : Int32) (p3 : Int32) (p4 : Int32) : Int32 :=
  bd (f_X8_ofRink X A p1 0) fun z1 =>
  bd (f_X8_ofRink X A p1 1) fun z2 =>
  bd (f_X8_in X A p3 z1 z2) fun z3 =>
  if z3 = 0 then
    (-1)
  else
    bd (f_X8_ofRink X A p1 2) fun z5 =>
    bd (f_X8_ofRink X A p1 3) fun z6 =>
    if (if 0 < (((4 + (2 * p4)) - (z5 / 2)) - z6) then (((4 + (2 * p4)) - (z5 / 2)) - z6) else 0) ≤ 40 then
      f_X8_lengthOf_l58 X A p1 p2 p3 p4 42 (if 0 < (((4 + (2 * p4)) - (z5 / 2)) - z6) then (((4 + (2 * p4)) - (z5 / 2)) - z6) else 0)
    else
      (-1)
abbrev rm_X8_lengthOf : Room := { frames := 2, cells := 0, slots := 0, locals := 47 }
set_option maxRecDepth 100000 in
set_option maxHeartbeats 4000000 in
theorem c_X8_lengthOf (l : Launch) (D : gD) (cy : Nat → ClassId) (ad : Nat → Nat) (X : Nat → Int32) (A : Nat → Nat → Int32) (p1 : Int32) (p2 : Int32) (p3 : Int32) (p4 : Int32) (v1 : vp_in p1 4) (hI : MI A) : CtI l D cy (MW cy ad) yX8_lengthOf cX8_lengthOf 6 (some .int) rm_X8_lengthOf [.ref (ad 0), .int p1, .int p2, .int p3, .int p4] (X, A) (fun rv u => rv = f_X8_lengthOf X A p1 p2 p3 p4 ∧ u = (X, A)) 0 0 := by
  refine m_entI cX8_lengthOf 6 (by decide) (Nat.le_of_ble_eq_true rfl) (fun J h hR => ?_)
  show J (X, A) (0, 0) [(0, .ref (ad 0)), (1, .int p1), (2, .int p2), (3, .int p3), (4, .int p4)] 0 []
  have b1 : p1.toNatClampNeg < 4 := vp_lt v1
  have e1 : p1 = nI p1.toNatClampNeg := vp_nI v1 (by decide)
  refine j_iload_n h dX8_lengthOf_0 rfl 3 rfl ?_
  refine j_aload_n h dX8_lengthOf_1 rfl 0 rfl ?_
  refine j_iload_n h dX8_lengthOf_2 rfl 1 rfl ?_
  refine j_iconst h (v := 0) dX8_lengthOf_3 (by decide) ?_
  refine j_callI h (n := 2) (c_X8_ofRink l D cy ad _ _ _ _ (vp_of (j := p1.toNatClampNeg) e1 (by omega) (by decide)) (vp_in_nI (by decide) (by decide))) (xg_V (xr_16 15 rfl) (xr_16 16 rfl) (xr_16 17 rfl) (xr_1 5 rfl) (xr_16 18 rfl)) rfl rfl (by decide +kernel) ⟨Nat.le_of_ble_eq_true rfl, Nat.le_of_ble_eq_true rfl⟩ 0 rfl rfl rfl rfl rfl (Nat.le_of_ble_eq_true rfl) dX8_lengthOf_4 ⟨by decide, by decide⟩ (fun z1 u' hq => ?_)
  obtain ⟨hz1, rfl⟩ := hq
  refine j_aload_n h dX8_lengthOf_7 rfl 0 rfl ?_
  refine j_iload_n h dX8_lengthOf_8 rfl 1 rfl ?_
  refine j_iconst h (v := 1) dX8_lengthOf_9 (by decide) ?_
  refine j_callI h (n := 2) (c_X8_ofRink l D cy ad _ _ _ _ (vp_of (j := p1.toNatClampNeg) e1 (by omega) (by decide)) (vp_in_nI (by decide) (by decide))) (xg_V (xr_16 15 rfl) (xr_16 16 rfl) (xr_16 17 rfl) (xr_1 5 rfl) (xr_16 18 rfl)) rfl rfl (by decide +kernel) ⟨Nat.le_of_ble_eq_true rfl, Nat.le_of_ble_eq_true rfl⟩ 0 rfl rfl rfl rfl rfl (Nat.le_of_ble_eq_true rfl) dX8_lengthOf_10 ⟨by decide, by decide⟩ (fun z2 u' hq => ?_)
  obtain ⟨hz2, rfl⟩ := hq
  refine j_callS h (n := 3) (c_X8_in l D cy ad _ _ _ _ _) (xg_S (xr_12 13 rfl) (xr_12 14 rfl) (xr_1 5 rfl) (xr_12 15 rfl)) rfl rfl (by decide +kernel) ⟨Nat.le_of_ble_eq_true rfl, Nat.le_of_ble_eq_true rfl⟩  rfl rfl (Nat.le_of_ble_eq_true rfl) dX8_lengthOf_13 ⟨by decide, by decide⟩ (fun z3 u' hq => ?_)
  obtain ⟨hz3, rfl, bz3⟩ := hq
  refine j_if_ne h (tgt := 21) dX8_lengthOf_16 (by decide) (fun c4 => ?_) (fun c4 => ?_)
  · refine j_iconst h (v := 0) dX8_lengthOf_21 (by decide) ?_
    refine j_iconst h (v := 4) dX8_lengthOf_22 (by decide) ?_
    refine j_iconst h (v := 2) dX8_lengthOf_23 (by decide) ?_
    refine j_iload h dX8_lengthOf_24 4 rfl ?_
    refine j_imul h dX8_lengthOf_26 ?_
    refine j_iadd h dX8_lengthOf_27 ?_
    refine j_aload_n h dX8_lengthOf_28 rfl 0 rfl ?_
    refine j_iload_n h dX8_lengthOf_29 rfl 1 rfl ?_
    refine j_iconst h (v := 2) dX8_lengthOf_30 (by decide) ?_
    refine j_callI h (n := 2) (c_X8_ofRink l D cy ad _ _ _ _ (vp_of (j := p1.toNatClampNeg) e1 (by omega) (by decide)) (vp_in_nI (by decide) (by decide))) (xg_V (xr_16 15 rfl) (xr_16 16 rfl) (xr_16 17 rfl) (xr_1 5 rfl) (xr_16 18 rfl)) rfl rfl (by decide +kernel) ⟨Nat.le_of_ble_eq_true rfl, Nat.le_of_ble_eq_true rfl⟩ 0 rfl rfl rfl rfl rfl (Nat.le_of_ble_eq_true rfl) dX8_lengthOf_31 ⟨by decide, by decide⟩ (fun z5 u' hq => ?_)
    obtain ⟨hz5, rfl⟩ := hq
    refine j_iconst h (v := 2) dX8_lengthOf_34 (by decide) ?_
    refine j_idiv h dX8_lengthOf_35 (by decide) ?_
    refine j_isub h dX8_lengthOf_36 ?_
    refine j_aload_n h dX8_lengthOf_37 rfl 0 rfl ?_
    refine j_iload_n h dX8_lengthOf_38 rfl 1 rfl ?_
    refine j_iconst h (v := 3) dX8_lengthOf_39 (by decide) ?_
    refine j_callI h (n := 2) (c_X8_ofRink l D cy ad _ _ _ _ (vp_of (j := p1.toNatClampNeg) e1 (by omega) (by decide)) (vp_in_nI (by decide) (by decide))) (xg_V (xr_16 15 rfl) (xr_16 16 rfl) (xr_16 17 rfl) (xr_1 5 rfl) (xr_16 18 rfl)) rfl rfl (by decide +kernel) ⟨Nat.le_of_ble_eq_true rfl, Nat.le_of_ble_eq_true rfl⟩ 0 rfl rfl rfl rfl rfl (Nat.le_of_ble_eq_true rfl) dX8_lengthOf_40 ⟨by decide, by decide⟩ (fun z6 u' hq => ?_)
    obtain ⟨hz6, rfl⟩ := hq
    refine j_isub h dX8_lengthOf_43 ?_
    refine j_mmax h (xr_20 15 rfl) (xr_9 3 rfl) (xr_9 4 rfl) (xr_9 5 rfl) (by decide) (Nat.le_of_ble_eq_true rfl) (by decide) (by decide) dX8_lengthOf_44 ?_
    refine j_istore h (lv' := [(5, _), (0, _), (1, _), (2, _), (3, _), (4, _)]) dX8_lengthOf_47 (by decide) rfl ?_
    refine j_iload h dX8_lengthOf_49 0 rfl ?_
    refine j_bipush h (v := 40) dX8_lengthOf_51 (by decide) ?_
    refine j_icmp_le h (tgt := 58) dX8_lengthOf_53 (by decide) (fun c7 => ?_) (fun c7 => ?_)
    · have lp58 : ∀ (n : Nat) (x : Int32), -1 ≤ x.toInt ∧ x.toInt + 2 ≤ (n : Int) → f_X8_lengthOf X A p1 p2 p3 p4 = f_X8_lengthOf_l58 X A p1 p2 p3 p4 n x → J (X, A) (0, 0) [(0, .ref (ad 0)), (1, .int p1), (2, .int p2), (3, .int p3), (4, .int p4), (5, .int x)] 58 [] := by
        intro n
        induction n with
        | zero => intro x hx hf; exact absurd hx (by omega)
        | succ n ih =>
          intro x hx hf
          refine j_iload h dX8_lengthOf_58 5 rfl ?_
          refine j_if_lt h (tgt := 81) dX8_lengthOf_60 (by decide) (fun c8 => ?_) (fun c8 => ?_)
          · refine j_iload h dX8_lengthOf_81 5 rfl ?_
            exact hR _ _ _ _ dX8_lengthOf_83 ⟨Eq.symm (hf.trans ((ite_p c8 rfl))), rfl⟩
          · refine j_aload_n h dX8_lengthOf_63 rfl 0 rfl ?_
            refine j_iload_n h dX8_lengthOf_64 rfl 1 rfl ?_
            refine j_iload_n h dX8_lengthOf_65 rfl 3 rfl ?_
            refine j_iload h dX8_lengthOf_66 5 rfl ?_
            refine j_iload_n h dX8_lengthOf_68 rfl 2 rfl ?_
            refine j_callI h (n := 4) (c_X8_isTaken l D cy ad _ _ _ _ _ _ hI) (xg_V (xr_24 16 rfl) (xr_24 17 rfl) (xr_24 18 rfl) (xr_1 5 rfl) (xr_24 19 rfl)) rfl rfl (by decide +kernel) ⟨Nat.le_of_ble_eq_true rfl, Nat.le_of_ble_eq_true rfl⟩ 0 rfl rfl rfl rfl rfl (Nat.le_of_ble_eq_true rfl) dX8_lengthOf_69 ⟨by decide, by decide⟩ (fun z9 u' hq => ?_)
            obtain ⟨hz9, rfl, bz9⟩ := hq
            refine j_if_eq h (tgt := 81) dX8_lengthOf_72 (by decide) (fun c10 => ?_) (fun c10 => ?_)
            · refine j_iload h dX8_lengthOf_81 5 rfl ?_
              exact hR _ _ _ _ dX8_lengthOf_83 ⟨Eq.symm (hf.trans ((ite_n c8 (bd_eq hz9 (ite_p c10 rfl))))), rfl⟩
            · refine j_iinc h (v := x + (-1)) (lv' := [(5, _), (0, _), (1, _), (2, _), (3, _), (4, _)]) dX8_lengthOf_75 (k := 5) rfl rfl (by decide) rfl ?_
              refine j_goto h (tgt := 58) dX8_lengthOf_78 (by decide) ?_
              refine j_sub h [1, 2, 3, 4, 5, 0] rfl ?_
              exact ih _ (dn_back hx c8) (hf.trans ((ite_n c8 (bd_eq hz9 (ite_n c10 rfl)))))
      refine j_sub h [1, 2, 3, 4, 5, 0] rfl ?_
      exact lp58 42 _ (dn_start c7) ((bd_eq hz1 (bd_eq hz2 (bd_eq hz3 (ite_n c4 (bd_eq hz5 (bd_eq hz6 (ite_p c7 rfl))))))))
    · refine j_iconst h (v := (-1)) dX8_lengthOf_56 (by decide) ?_
      exact hR _ _ _ _ dX8_lengthOf_57 ⟨Eq.symm ((bd_eq hz1 (bd_eq hz2 (bd_eq hz3 (ite_n c4 (bd_eq hz5 (bd_eq hz6 (ite_n c7 rfl)))))))), rfl⟩
  · refine j_iconst h (v := (-1)) dX8_lengthOf_19 (by decide) ?_
    exact hR _ _ _ _ dX8_lengthOf_20 ⟨Eq.symm ((bd_eq hz1 (bd_eq hz2 (bd_eq hz3 (ite_p c4 rfl))))), rfl⟩

def f_X8_square (X : Nat → Int32) (A : Nat → Nat → Int32) (p1 : Int32) (p2 : Int32) (p3 : Int32) : Int32 :=
  bd (f_X8_ofRink X A p1 0) fun z1 =>
  bd (f_X8_ofRink X A p1 1) fun z2 =>
  bd (f_X8_ofRink X A p1 4) fun z3 =>
  (((p2 - ((z1 + z2) / 2)) * (p2 - ((z1 + z2) / 2))) + ((p3 - z3) * (p3 - z3)))
abbrev rm_X8_square : Room := { frames := 1, cells := 0, slots := 0, locals := 22 }
set_option maxRecDepth 100000 in
set_option maxHeartbeats 4000000 in
theorem c_X8_square (l : Launch) (D : gD) (cy : Nat → ClassId) (ad : Nat → Nat) (X : Nat → Int32) (A : Nat → Nat → Int32) (p1 : Int32) (p2 : Int32) (p3 : Int32) (v1 : vp_in p1 4) : CtI l D cy (MW cy ad) yX8_square cX8_square 6 (some .int) rm_X8_square [.ref (ad 0), .int p1, .int p2, .int p3] (X, A) (fun rv u => rv = f_X8_square X A p1 p2 p3 ∧ u = (X, A)) 0 0 := by
  refine m_entI cX8_square 6 (by decide) (Nat.le_of_ble_eq_true rfl) (fun J h hR => ?_)
  show J (X, A) (0, 0) [(0, .ref (ad 0)), (1, .int p1), (2, .int p2), (3, .int p3)] 0 []
  have b1 : p1.toNatClampNeg < 4 := vp_lt v1
  have e1 : p1 = nI p1.toNatClampNeg := vp_nI v1 (by decide)
  refine j_iload_n h dX8_square_0 rfl 2 rfl ?_
  refine j_aload_n h dX8_square_1 rfl 0 rfl ?_
  refine j_iload_n h dX8_square_2 rfl 1 rfl ?_
  refine j_iconst h (v := 0) dX8_square_3 (by decide) ?_
  refine j_callI h (n := 2) (c_X8_ofRink l D cy ad _ _ _ _ (vp_of (j := p1.toNatClampNeg) e1 (by omega) (by decide)) (vp_in_nI (by decide) (by decide))) (xg_V (xr_16 15 rfl) (xr_16 16 rfl) (xr_16 17 rfl) (xr_1 5 rfl) (xr_16 18 rfl)) rfl rfl (by decide +kernel) ⟨Nat.le_of_ble_eq_true rfl, Nat.le_of_ble_eq_true rfl⟩ 0 rfl rfl rfl rfl rfl (Nat.le_of_ble_eq_true rfl) dX8_square_4 ⟨by decide, by decide⟩ (fun z1 u' hq => ?_)
  obtain ⟨hz1, rfl⟩ := hq
  refine j_aload_n h dX8_square_7 rfl 0 rfl ?_
  refine j_iload_n h dX8_square_8 rfl 1 rfl ?_
  refine j_iconst h (v := 1) dX8_square_9 (by decide) ?_
  refine j_callI h (n := 2) (c_X8_ofRink l D cy ad _ _ _ _ (vp_of (j := p1.toNatClampNeg) e1 (by omega) (by decide)) (vp_in_nI (by decide) (by decide))) (xg_V (xr_16 15 rfl) (xr_16 16 rfl) (xr_16 17 rfl) (xr_1 5 rfl) (xr_16 18 rfl)) rfl rfl (by decide +kernel) ⟨Nat.le_of_ble_eq_true rfl, Nat.le_of_ble_eq_true rfl⟩ 0 rfl rfl rfl rfl rfl (Nat.le_of_ble_eq_true rfl) dX8_square_10 ⟨by decide, by decide⟩ (fun z2 u' hq => ?_)
  obtain ⟨hz2, rfl⟩ := hq
  refine j_iadd h dX8_square_13 ?_
  refine j_iconst h (v := 2) dX8_square_14 (by decide) ?_
  refine j_idiv h dX8_square_15 (by decide) ?_
  refine j_isub h dX8_square_16 ?_
  refine j_istore h (lv' := [(4, _), (0, _), (1, _), (2, _), (3, _)]) dX8_square_17 (by decide) rfl ?_
  refine j_iload_n h dX8_square_19 rfl 4 rfl ?_
  refine j_aload_n h dX8_square_20 rfl 1 rfl ?_
  refine j_iload_n h dX8_square_21 rfl 2 rfl ?_
  refine j_iconst h (v := 4) dX8_square_22 (by decide) ?_
  refine j_callI h (n := 2) (c_X8_ofRink l D cy ad _ _ _ _ (vp_of (j := p1.toNatClampNeg) e1 (by omega) (by decide)) (vp_in_nI (by decide) (by decide))) (xg_V (xr_16 15 rfl) (xr_16 16 rfl) (xr_16 17 rfl) (xr_1 5 rfl) (xr_16 18 rfl)) rfl rfl (by decide +kernel) ⟨Nat.le_of_ble_eq_true rfl, Nat.le_of_ble_eq_true rfl⟩ 0 rfl rfl rfl rfl rfl (Nat.le_of_ble_eq_true rfl) dX8_square_23 ⟨by decide, by decide⟩ (fun z3 u' hq => ?_)
  obtain ⟨hz3, rfl⟩ := hq
  refine j_isub h dX8_square_26 ?_
  refine j_istore h (lv' := [(5, _), (4, _), (0, _), (1, _), (2, _), (3, _)]) dX8_square_27 (by decide) rfl ?_
  refine j_iload h dX8_square_29 1 rfl ?_
  refine j_iload h dX8_square_31 1 rfl ?_
  refine j_imul h dX8_square_33 ?_
  refine j_iload h dX8_square_34 0 rfl ?_
  refine j_iload h dX8_square_36 0 rfl ?_
  refine j_imul h dX8_square_38 ?_
  refine j_iadd h dX8_square_39 ?_
  exact hR _ _ _ _ dX8_square_40 ⟨Eq.symm ((bd_eq hz1 (bd_eq hz2 (bd_eq hz3 rfl)))), rfl⟩

def f_X8_distance (X : Nat → Int32) (A : Nat → Nat → Int32) (p1 : Int32) : Int32 :=
  bd (f_X8_ofWood X A p1 3) fun z1 =>
  bd (f_X8_ofWood X A p1 4) fun z2 =>
  bd (f_X8_ofWood X A p1 5) fun z3 =>
  bd (f_X8_square X A z1 z2 z3) fun z4 =>
  z4
abbrev rm_X8_distance : Room := { frames := 2, cells := 0, slots := 0, locals := 47 }
set_option maxRecDepth 100000 in
set_option maxHeartbeats 4000000 in
theorem c_X8_distance (l : Launch) (D : gD) (cy : Nat → ClassId) (ad : Nat → Nat) (X : Nat → Int32) (A : Nat → Nat → Int32) (p1 : Int32) (v1 : vp_in p1 16) (hI : MI A) : CtI l D cy (MW cy ad) yX8_distance cX8_distance 2 (some .int) rm_X8_distance [.ref (ad 0), .int p1] (X, A) (fun rv u => rv = f_X8_distance X A p1 ∧ u = (X, A)) 0 0 := by
  refine m_entI cX8_distance 2 (by decide) (Nat.le_of_ble_eq_true rfl) (fun J h hR => ?_)
  show J (X, A) (0, 0) [(0, .ref (ad 0)), (1, .int p1)] 0 []
  have b1 : p1.toNatClampNeg < 16 := vp_lt v1
  have e1 : p1 = nI p1.toNatClampNeg := vp_nI v1 (by decide)
  refine j_aload_n h dX8_distance_0 rfl 0 rfl ?_
  refine j_aload_n h dX8_distance_1 rfl 0 rfl ?_
  refine j_iload_n h dX8_distance_2 rfl 1 rfl ?_
  refine j_iconst h (v := 3) dX8_distance_3 (by decide) ?_
  refine j_callI h (n := 2) (c_X8_ofWood l D cy ad _ _ _ _ (vp_of (j := p1.toNatClampNeg) e1 (by omega) (by decide)) (vp_in_nI (by decide) (by decide))) (xg_V (xr_24 4 rfl) (xr_24 5 rfl) (xr_24 6 rfl) (xr_1 5 rfl) (xr_24 7 rfl)) rfl rfl (by decide +kernel) ⟨Nat.le_of_ble_eq_true rfl, Nat.le_of_ble_eq_true rfl⟩ 0 rfl rfl rfl rfl rfl (Nat.le_of_ble_eq_true rfl) dX8_distance_4 ⟨by decide, by decide⟩ (fun z1 u' hq => ?_)
  obtain ⟨hz1, rfl⟩ := hq
  have vz1 : vp_in z1 4 := onM_in hI v1 hz1
  have bz1 : z1.toNatClampNeg < 4 := vp_lt vz1
  have ez1 : z1 = nI z1.toNatClampNeg := vp_nI vz1 (by decide)
  refine j_aload_n h dX8_distance_7 rfl 0 rfl ?_
  refine j_iload_n h dX8_distance_8 rfl 1 rfl ?_
  refine j_iconst h (v := 4) dX8_distance_9 (by decide) ?_
  refine j_callI h (n := 2) (c_X8_ofWood l D cy ad _ _ _ _ (vp_of (j := p1.toNatClampNeg) e1 (by omega) (by decide)) (vp_in_nI (by decide) (by decide))) (xg_V (xr_24 4 rfl) (xr_24 5 rfl) (xr_24 6 rfl) (xr_1 5 rfl) (xr_24 7 rfl)) rfl rfl (by decide +kernel) ⟨Nat.le_of_ble_eq_true rfl, Nat.le_of_ble_eq_true rfl⟩ 0 rfl rfl rfl rfl rfl (Nat.le_of_ble_eq_true rfl) dX8_distance_10 ⟨by decide, by decide⟩ (fun z2 u' hq => ?_)
  obtain ⟨hz2, rfl⟩ := hq
  refine j_aload_n h dX8_distance_13 rfl 0 rfl ?_
  refine j_iload_n h dX8_distance_14 rfl 1 rfl ?_
  refine j_iconst h (v := 5) dX8_distance_15 (by decide) ?_
  refine j_callI h (n := 2) (c_X8_ofWood l D cy ad _ _ _ _ (vp_of (j := p1.toNatClampNeg) e1 (by omega) (by decide)) (vp_in_nI (by decide) (by decide))) (xg_V (xr_24 4 rfl) (xr_24 5 rfl) (xr_24 6 rfl) (xr_1 5 rfl) (xr_24 7 rfl)) rfl rfl (by decide +kernel) ⟨Nat.le_of_ble_eq_true rfl, Nat.le_of_ble_eq_true rfl⟩ 0 rfl rfl rfl rfl rfl (Nat.le_of_ble_eq_true rfl) dX8_distance_16 ⟨by decide, by decide⟩ (fun z3 u' hq => ?_)
  obtain ⟨hz3, rfl⟩ := hq
  refine j_callI h (n := 3) (c_X8_square l D cy ad _ _ _ _ _ (vp_of (j := z1.toNatClampNeg) ez1 (by omega) (by decide))) (xg_V (xr_25 0 rfl) (xr_25 1 rfl) (xr_25 2 rfl) (xr_1 5 rfl) (xr_25 3 rfl)) rfl rfl (by decide +kernel) ⟨Nat.le_of_ble_eq_true rfl, Nat.le_of_ble_eq_true rfl⟩ 0 rfl rfl rfl rfl rfl (Nat.le_of_ble_eq_true rfl) dX8_distance_19 ⟨by decide, by decide⟩ (fun z4 u' hq => ?_)
  obtain ⟨hz4, rfl⟩ := hq
  exact hR _ _ _ _ dX8_distance_22 ⟨Eq.symm ((bd_eq hz1 (bd_eq hz2 (bd_eq hz3 (bd_eq hz4 rfl))))), rfl⟩

def f_X8_isBad (X : Nat → Int32) (A : Nat → Nat → Int32) (p1 : Int32) (p2 : Int32) : Int32 :=
  bd (f_X8_ofRink X A p1 0) fun z1 =>
  bd (f_X8_ofRink X A p1 1) fun z2 =>
  bd (f_X8_in X A p2 z1 z2) fun z3 =>
  if z3 = 0 then
    1
  else
    0
abbrev rm_X8_isBad : Room := { frames := 1, cells := 0, slots := 0, locals := 22 }
set_option maxRecDepth 100000 in
set_option maxHeartbeats 4000000 in
theorem c_X8_isBad (l : Launch) (D : gD) (cy : Nat → ClassId) (ad : Nat → Nat) (X : Nat → Int32) (A : Nat → Nat → Int32) (p1 : Int32) (p2 : Int32) (v1 : vp_in p1 4) : CtI l D cy (MW cy ad) yX8_isBad cX8_isBad 3 (some .boolean) rm_X8_isBad [.ref (ad 0), .int p1, .int p2] (X, A) (fun rv u => rv = f_X8_isBad X A p1 p2 ∧ u = (X, A) ∧ (rv = 0 ∨ rv = 1)) 0 0 := by
  refine m_entZ cX8_isBad 3 (by decide) (Nat.le_of_ble_eq_true rfl) (fun J h hR => ?_)
  show J (X, A) (0, 0) [(0, .ref (ad 0)), (1, .int p1), (2, .int p2)] 0 []
  have b1 : p1.toNatClampNeg < 4 := vp_lt v1
  have e1 : p1 = nI p1.toNatClampNeg := vp_nI v1 (by decide)
  refine j_iload_n h dX8_isBad_0 rfl 2 rfl ?_
  refine j_aload_n h dX8_isBad_1 rfl 0 rfl ?_
  refine j_iload_n h dX8_isBad_2 rfl 1 rfl ?_
  refine j_iconst h (v := 0) dX8_isBad_3 (by decide) ?_
  refine j_callI h (n := 2) (c_X8_ofRink l D cy ad _ _ _ _ (vp_of (j := p1.toNatClampNeg) e1 (by omega) (by decide)) (vp_in_nI (by decide) (by decide))) (xg_V (xr_16 15 rfl) (xr_16 16 rfl) (xr_16 17 rfl) (xr_1 5 rfl) (xr_16 18 rfl)) rfl rfl (by decide +kernel) ⟨Nat.le_of_ble_eq_true rfl, Nat.le_of_ble_eq_true rfl⟩ 0 rfl rfl rfl rfl rfl (Nat.le_of_ble_eq_true rfl) dX8_isBad_4 ⟨by decide, by decide⟩ (fun z1 u' hq => ?_)
  obtain ⟨hz1, rfl⟩ := hq
  refine j_aload_n h dX8_isBad_7 rfl 0 rfl ?_
  refine j_iload_n h dX8_isBad_8 rfl 1 rfl ?_
  refine j_iconst h (v := 1) dX8_isBad_9 (by decide) ?_
  refine j_callI h (n := 2) (c_X8_ofRink l D cy ad _ _ _ _ (vp_of (j := p1.toNatClampNeg) e1 (by omega) (by decide)) (vp_in_nI (by decide) (by decide))) (xg_V (xr_16 15 rfl) (xr_16 16 rfl) (xr_16 17 rfl) (xr_1 5 rfl) (xr_16 18 rfl)) rfl rfl (by decide +kernel) ⟨Nat.le_of_ble_eq_true rfl, Nat.le_of_ble_eq_true rfl⟩ 0 rfl rfl rfl rfl rfl (Nat.le_of_ble_eq_true rfl) dX8_isBad_10 ⟨by decide, by decide⟩ (fun z2 u' hq => ?_)
  obtain ⟨hz2, rfl⟩ := hq
  refine j_callS h (n := 3) (c_X8_in l D cy ad _ _ _ _ _) (xg_S (xr_12 13 rfl) (xr_12 14 rfl) (xr_1 5 rfl) (xr_12 15 rfl)) rfl rfl (by decide +kernel) ⟨Nat.le_of_ble_eq_true rfl, Nat.le_of_ble_eq_true rfl⟩  rfl rfl (Nat.le_of_ble_eq_true rfl) dX8_isBad_13 ⟨by decide, by decide⟩ (fun z3 u' hq => ?_)
  obtain ⟨hz3, rfl, bz3⟩ := hq
  refine j_if_ne h (tgt := 23) dX8_isBad_16 (by decide) (fun c4 => ?_) (fun c4 => ?_)
  · refine j_iconst h (v := 0) dX8_isBad_23 (by decide) ?_
    exact hR _ _ _ _ dX8_isBad_24 (Or.inl rfl) ⟨Eq.symm ((bd_eq hz1 (bd_eq hz2 (bd_eq hz3 (ite_n c4 rfl))))), rfl, (Or.inl rfl)⟩
  · refine j_iconst h (v := 1) dX8_isBad_19 (by decide) ?_
    refine j_goto h (tgt := 24) dX8_isBad_20 (by decide) ?_
    exact hR _ _ _ _ dX8_isBad_24 (Or.inr rfl) ⟨Eq.symm ((bd_eq hz1 (bd_eq hz2 (bd_eq hz3 (ite_p c4 rfl))))), rfl, (Or.inr rfl)⟩

def f_X8_liesOn (X : Nat → Int32) (A : Nat → Nat → Int32) (p1 : Int32) (p2 : Int32) : Int32 :=
  bd (f_X8_ofWood X A p1 2) fun z1 =>
  if z1 = 1 then
    bd (f_X8_ofWood X A p1 3) fun z3 =>
    if z3 = p2 then
      1
    else
      0
  else
    0
abbrev rm_X8_liesOn : Room := { frames := 1, cells := 0, slots := 0, locals := 22 }
set_option maxRecDepth 100000 in
set_option maxHeartbeats 4000000 in
theorem c_X8_liesOn (l : Launch) (D : gD) (cy : Nat → ClassId) (ad : Nat → Nat) (X : Nat → Int32) (A : Nat → Nat → Int32) (p1 : Int32) (p2 : Int32) (v1 : vp_in p1 16) : CtI l D cy (MW cy ad) yX8_liesOn cX8_liesOn 3 (some .boolean) rm_X8_liesOn [.ref (ad 0), .int p1, .int p2] (X, A) (fun rv u => rv = f_X8_liesOn X A p1 p2 ∧ u = (X, A) ∧ (rv = 0 ∨ rv = 1)) 0 0 := by
  refine m_entZ cX8_liesOn 3 (by decide) (Nat.le_of_ble_eq_true rfl) (fun J h hR => ?_)
  show J (X, A) (0, 0) [(0, .ref (ad 0)), (1, .int p1), (2, .int p2)] 0 []
  have b1 : p1.toNatClampNeg < 16 := vp_lt v1
  have e1 : p1 = nI p1.toNatClampNeg := vp_nI v1 (by decide)
  refine j_aload_n h dX8_liesOn_0 rfl 0 rfl ?_
  refine j_iload_n h dX8_liesOn_1 rfl 1 rfl ?_
  refine j_iconst h (v := 2) dX8_liesOn_2 (by decide) ?_
  refine j_callI h (n := 2) (c_X8_ofWood l D cy ad _ _ _ _ (vp_of (j := p1.toNatClampNeg) e1 (by omega) (by decide)) (vp_in_nI (by decide) (by decide))) (xg_V (xr_24 4 rfl) (xr_24 5 rfl) (xr_24 6 rfl) (xr_1 5 rfl) (xr_24 7 rfl)) rfl rfl (by decide +kernel) ⟨Nat.le_of_ble_eq_true rfl, Nat.le_of_ble_eq_true rfl⟩ 0 rfl rfl rfl rfl rfl (Nat.le_of_ble_eq_true rfl) dX8_liesOn_3 ⟨by decide, by decide⟩ (fun z1 u' hq => ?_)
  obtain ⟨hz1, rfl⟩ := hq
  refine j_iconst h (v := 1) dX8_liesOn_6 (by decide) ?_
  refine j_icmp_ne h (tgt := 24) dX8_liesOn_7 (by decide) (fun c2 => ?_) (fun c2 => ?_)
  · refine j_iconst h (v := 0) dX8_liesOn_24 (by decide) ?_
    exact hR _ _ _ _ dX8_liesOn_25 (Or.inl rfl) ⟨Eq.symm ((bd_eq hz1 (ite_n c2 rfl))), rfl, (Or.inl rfl)⟩
  · refine j_aload_n h dX8_liesOn_10 rfl 0 rfl ?_
    refine j_iload_n h dX8_liesOn_11 rfl 1 rfl ?_
    refine j_iconst h (v := 3) dX8_liesOn_12 (by decide) ?_
    refine j_callI h (n := 2) (c_X8_ofWood l D cy ad _ _ _ _ (vp_of (j := p1.toNatClampNeg) e1 (by omega) (by decide)) (vp_in_nI (by decide) (by decide))) (xg_V (xr_24 4 rfl) (xr_24 5 rfl) (xr_24 6 rfl) (xr_1 5 rfl) (xr_24 7 rfl)) rfl rfl (by decide +kernel) ⟨Nat.le_of_ble_eq_true rfl, Nat.le_of_ble_eq_true rfl⟩ 0 rfl rfl rfl rfl rfl (Nat.le_of_ble_eq_true rfl) dX8_liesOn_13 ⟨by decide, by decide⟩ (fun z3 u' hq => ?_)
    obtain ⟨hz3, rfl⟩ := hq
    refine j_iload_n h dX8_liesOn_16 rfl 2 rfl ?_
    refine j_icmp_ne h (tgt := 24) dX8_liesOn_17 (by decide) (fun c4 => ?_) (fun c4 => ?_)
    · refine j_iconst h (v := 0) dX8_liesOn_24 (by decide) ?_
      exact hR _ _ _ _ dX8_liesOn_25 (Or.inl rfl) ⟨Eq.symm ((bd_eq hz1 (ite_p c2 (bd_eq hz3 (ite_n c4 rfl))))), rfl, (Or.inl rfl)⟩
    · refine j_iconst h (v := 1) dX8_liesOn_20 (by decide) ?_
      refine j_goto h (tgt := 25) dX8_liesOn_21 (by decide) ?_
      exact hR _ _ _ _ dX8_liesOn_25 (Or.inr rfl) ⟨Eq.symm ((bd_eq hz1 (ite_p c2 (bd_eq hz3 (ite_p c4 rfl))))), rfl, (Or.inr rfl)⟩

def f_X8_least_l6 (X : Nat → Int32) (A : Nat → Nat → Int32) (p1 : Int32) (p2 : Int32) : Nat → Nat → Int32 → Int32
  | 0, _, le => le
  | n + 1, k, le =>
    if (A 0 4) ≤ (nI k) then
      le
    else
      bd (f_X8_liesOn X A (nI k) p1) fun z2 =>
      if z2 = 0 then
        f_X8_least_l6 X A p1 p2 n (k + 1) le
      else
        bd (f_X8_ofWood X A (nI k) 0) fun z4 =>
        if z4 = p2 then
          bd (f_X8_distance X A (nI k)) fun z6 =>
          f_X8_least_l6 X A p1 p2 n (k + 1) (if z6 < le then z6 else le)
        else
          f_X8_least_l6 X A p1 p2 n (k + 1) le
def f_X8_least (X : Nat → Int32) (A : Nat → Nat → Int32) (p1 : Int32) (p2 : Int32) : Int32 :=
  bd (f_X8_least_l6 X A p1 p2 17 0 2147483647) fun z7 =>
  z7
abbrev rm_X8_least : Room := { frames := 3, cells := 0, slots := 0, locals := 68 }
set_option maxRecDepth 100000 in
set_option maxHeartbeats 4000000 in
theorem c_X8_least (l : Launch) (D : gD) (cy : Nat → ClassId) (ad : Nat → Nat) (X : Nat → Int32) (A : Nat → Nat → Int32) (p1 : Int32) (p2 : Int32) (hI : MI A) : CtI l D cy (MW cy ad) yX8_least cX8_least 5 (some .int) rm_X8_least [.ref (ad 0), .int p1, .int p2] (X, A) (fun rv u => rv = f_X8_least X A p1 p2 ∧ u = (X, A)) 0 0 := by
  refine m_entI cX8_least 5 (by decide) (Nat.le_of_ble_eq_true rfl) (fun J h hR => ?_)
  show J (X, A) (0, 0) [(0, .ref (ad 0)), (1, .int p1), (2, .int p2)] 0 []
  refine j_ldc h (xr_27 9 rfl) dX8_least_0 ?_
  refine j_istore_n h (lv' := [(3, _), (0, _), (1, _), (2, _)]) dX8_least_2 rfl (by decide) rfl ?_
  refine j_iconst h (v := 0) dX8_least_3 (by decide) ?_
  refine j_istore h (lv' := [(4, _), (3, _), (0, _), (1, _), (2, _)]) dX8_least_4 (by decide) rfl ?_
  have lp6 : ∀ (n k : Nat) (le : Int32), n + k = 17 → k ≤ 16 → (∀ z : Int32, z = f_X8_least_l6 X A p1 p2 n k le → J (X, A) (0, 0) [(0, .ref (ad 0)), (1, .int p1), (2, .int p2), (3, .int z)] 55 []) → J (X, A) (0, 0) [(0, .ref (ad 0)), (1, .int p1), (2, .int p2), (3, .int le), (4, .int (nI k))] 6 [] := by
    intro n
    induction n with
    | zero => intro k le hn hk hf; omega
    | succ n ih =>
      intro k le hn hk hf
      refine j_iload h dX8_least_6 4 rfl ?_
      refine j_aload_n h dX8_least_8 rfl 0 rfl ?_
      refine j_get h inlX8 0 rfl rfl 0 (by decide) (xr_6 7 rfl) rfl (v := .ref (ad 1)) rfl dX8_least_9 ?_
      refine j_iconst h (v := 4) dX8_least_12 (by decide) ?_
      refine j_ialdE h 1 rfl 4 rfl (by decide) (by decide) dX8_least_13 ?_
      refine j_icmp_ge h (tgt := 55) dX8_least_14 (by decide) (fun c1 => ?_) (fun c1 => ?_)
      · refine j_sub h [0, 1, 2, 3] rfl ?_
        exact hf _ (Eq.symm ((ite_p c1 rfl)))
      · have hk1 : k < 16 := cnt_lt (by decide) hk hI.w c1
        refine j_aload_n h dX8_least_17 rfl 0 rfl ?_
        refine j_iload h dX8_least_18 4 rfl ?_
        refine j_iload_n h dX8_least_20 rfl 1 rfl ?_
        refine j_callI h (n := 2) (c_X8_liesOn l D cy ad _ _ _ _ (vp_in_nI (by omega) (by decide))) (xg_V (xr_27 10 rfl) (xr_27 11 rfl) (xr_27 12 rfl) (xr_1 5 rfl) (xr_27 13 rfl)) rfl rfl (by decide +kernel) ⟨Nat.le_of_ble_eq_true rfl, Nat.le_of_ble_eq_true rfl⟩ 0 rfl rfl rfl rfl rfl (Nat.le_of_ble_eq_true rfl) dX8_least_21 ⟨by decide, by decide⟩ (fun z2 u' hq => ?_)
        obtain ⟨hz2, rfl, bz2⟩ := hq
        refine j_if_eq h (tgt := 49) dX8_least_24 (by decide) (fun c3 => ?_) (fun c3 => ?_)
        · refine j_iinc h (v := nI (k + 1)) (lv' := [(4, _), (0, _), (1, _), (2, _), (3, _)]) dX8_least_49 (k := 4) rfl (nI_1 k) (by decide) rfl ?_
          refine j_goto h (tgt := 6) dX8_least_52 (by decide) ?_
          refine j_sub h [1, 2, 3, 4, 0] rfl ?_
          exact ih (k + 1) _ (by omega) (by omega) (fun z hz => hf z (hz.trans (Eq.symm ((ite_n c1 (bd_eq hz2 (ite_p c3 rfl)))))))
        · refine j_aload_n h dX8_least_27 rfl 0 rfl ?_
          refine j_iload h dX8_least_28 4 rfl ?_
          refine j_iconst h (v := 0) dX8_least_30 (by decide) ?_
          refine j_callI h (n := 2) (c_X8_ofWood l D cy ad _ _ _ _ (vp_in_nI (by omega) (by decide)) (vp_in_nI (by decide) (by decide))) (xg_V (xr_24 4 rfl) (xr_24 5 rfl) (xr_24 6 rfl) (xr_1 5 rfl) (xr_24 7 rfl)) rfl rfl (by decide +kernel) ⟨Nat.le_of_ble_eq_true rfl, Nat.le_of_ble_eq_true rfl⟩ 0 rfl rfl rfl rfl rfl (Nat.le_of_ble_eq_true rfl) dX8_least_31 ⟨by decide, by decide⟩ (fun z4 u' hq => ?_)
          obtain ⟨hz4, rfl⟩ := hq
          refine j_iload_n h dX8_least_34 rfl 2 rfl ?_
          refine j_icmp_ne h (tgt := 49) dX8_least_35 (by decide) (fun c5 => ?_) (fun c5 => ?_)
          · refine j_iinc h (v := nI (k + 1)) (lv' := [(4, _), (0, _), (1, _), (2, _), (3, _)]) dX8_least_49 (k := 4) rfl (nI_1 k) (by decide) rfl ?_
            refine j_goto h (tgt := 6) dX8_least_52 (by decide) ?_
            refine j_sub h [1, 2, 3, 4, 0] rfl ?_
            exact ih (k + 1) _ (by omega) (by omega) (fun z hz => hf z (hz.trans (Eq.symm ((ite_n c1 (bd_eq hz2 (ite_n c3 (bd_eq hz4 (ite_n c5 rfl)))))))))
          · refine j_iload_n h dX8_least_38 rfl 3 rfl ?_
            refine j_aload_n h dX8_least_39 rfl 0 rfl ?_
            refine j_iload h dX8_least_40 4 rfl ?_
            refine j_callI h (n := 1) (c_X8_distance l D cy ad _ _ _ (vp_in_nI (by omega) (by decide)) hI) (xg_V (xr_24 20 rfl) (xr_24 21 rfl) (xr_24 22 rfl) (xr_1 5 rfl) (xr_24 23 rfl)) rfl rfl (by decide +kernel) ⟨Nat.le_of_ble_eq_true rfl, Nat.le_of_ble_eq_true rfl⟩ 0 rfl rfl rfl rfl rfl (Nat.le_of_ble_eq_true rfl) dX8_least_42 ⟨by decide, by decide⟩ (fun z6 u' hq => ?_)
            obtain ⟨hz6, rfl⟩ := hq
            refine j_mmin h (xr_20 14 rfl) (xr_9 21 rfl) (xr_9 4 rfl) (xr_9 22 rfl) (by decide) (Nat.le_of_ble_eq_true rfl) (by decide) (by decide) dX8_least_45 ?_
            refine j_istore_n h (lv' := [(3, _), (0, _), (1, _), (2, _), (4, _)]) dX8_least_48 rfl (by decide) rfl ?_
            refine j_iinc h (v := nI (k + 1)) (lv' := [(4, _), (3, _), (0, _), (1, _), (2, _)]) dX8_least_49 (k := 4) rfl (nI_1 k) (by decide) rfl ?_
            refine j_goto h (tgt := 6) dX8_least_52 (by decide) ?_
            refine j_sub h [2, 3, 4, 1, 0] rfl ?_
            exact ih (k + 1) _ (by omega) (by omega) (fun z hz => hf z (hz.trans (Eq.symm ((ite_n c1 (bd_eq hz2 (ite_n c3 (bd_eq hz4 (ite_p c5 (bd_eq hz6 rfl))))))))))
  refine j_sub h [2, 3, 4, 1, 0] rfl ?_
  refine lp6 17 0 _ (by omega) (by omega) (fun z7 hz7 => ?_)
  refine j_iload_n h dX8_least_55 rfl 3 rfl ?_
  exact hR _ _ _ _ dX8_least_56 ⟨Eq.symm ((bd_eq hz7 rfl)), rfl⟩

def f_X8_counted_l39 (X : Nat → Int32) (A : Nat → Nat → Int32) (p1 : Int32) : Nat → Nat → Int32 → Int32 → Int32 → Int32 → Int32 × Int32 × Int32 × Int32
  | 0, _, club, n0, by0, by1 => (club, n0, by0, by1)
  | n + 1, k, club, n0, by0, by1 =>
    if (A 0 4) ≤ (nI k) then
      (club, n0, by0, by1)
    else
      bd (f_X8_liesOn X A (nI k) p1) fun z6 =>
      if z6 = 0 then
        f_X8_counted_l39 X A p1 n (k + 1) club n0 by0 by1
      else
        bd (f_X8_ofWood X A (nI k) 0) fun z8 =>
        if z8 = club then
          bd (f_X8_distance X A (nI k)) fun z10 =>
          if (if by0 < by1 then by1 else by0) ≤ z10 then
            f_X8_counted_l39 X A p1 n (k + 1) club n0 by0 by1
          else
            f_X8_counted_l39 X A p1 n (k + 1) club (n0 + 1) by0 by1
        else
          f_X8_counted_l39 X A p1 n (k + 1) club n0 by0 by1
def f_X8_counted (X : Nat → Int32) (A : Nat → Nat → Int32) (p1 : Int32) : Int32 :=
  bd (f_X8_least X A p1 0) fun z1 =>
  bd (f_X8_least X A p1 1) fun z2 =>
  if z1 = z2 then
    0
  else
    if z2 ≤ z1 then
      bd (f_X8_counted_l39 X A p1 17 0 1 0 z1 z2) fun z12 =>
      (z12.2.1 + (10 * z12.1))
    else
      bd (f_X8_counted_l39 X A p1 17 0 0 0 z1 z2) fun z20 =>
      (z20.2.1 + (10 * z20.1))
abbrev rm_X8_counted : Room := { frames := 4, cells := 0, slots := 0, locals := 92 }
set_option maxRecDepth 100000 in
set_option maxHeartbeats 4000000 in
theorem c_X8_counted (l : Launch) (D : gD) (cy : Nat → ClassId) (ad : Nat → Nat) (X : Nat → Int32) (A : Nat → Nat → Int32) (p1 : Int32) (hI : MI A) : CtI l D cy (MW cy ad) yX8_counted cX8_counted 7 (some .int) rm_X8_counted [.ref (ad 0), .int p1] (X, A) (fun rv u => rv = f_X8_counted X A p1 ∧ u = (X, A)) 0 0 := by
  refine m_entI cX8_counted 7 (by decide) (Nat.le_of_ble_eq_true rfl) (fun J h hR => ?_)
  show J (X, A) (0, 0) [(0, .ref (ad 0)), (1, .int p1)] 0 []
  refine j_aload_n h dX8_counted_0 rfl 0 rfl ?_
  refine j_iload_n h dX8_counted_1 rfl 1 rfl ?_
  refine j_iconst h (v := 0) dX8_counted_2 (by decide) ?_
  refine j_callI h (n := 2) (c_X8_least l D cy ad _ _ _ _ hI) (xg_V (xr_27 5 rfl) (xr_27 6 rfl) (xr_27 7 rfl) (xr_1 5 rfl) (xr_27 8 rfl)) rfl rfl (by decide +kernel) ⟨Nat.le_of_ble_eq_true rfl, Nat.le_of_ble_eq_true rfl⟩ 0 rfl rfl rfl rfl rfl (Nat.le_of_ble_eq_true rfl) dX8_counted_3 ⟨by decide, by decide⟩ (fun z1 u' hq => ?_)
  obtain ⟨hz1, rfl⟩ := hq
  refine j_istore_n h (lv' := [(2, _), (0, _), (1, _)]) dX8_counted_6 rfl (by decide) rfl ?_
  refine j_aload_n h dX8_counted_7 rfl 1 rfl ?_
  refine j_iload_n h dX8_counted_8 rfl 2 rfl ?_
  refine j_iconst h (v := 1) dX8_counted_9 (by decide) ?_
  refine j_callI h (n := 2) (c_X8_least l D cy ad _ _ _ _ hI) (xg_V (xr_27 5 rfl) (xr_27 6 rfl) (xr_27 7 rfl) (xr_1 5 rfl) (xr_27 8 rfl)) rfl rfl (by decide +kernel) ⟨Nat.le_of_ble_eq_true rfl, Nat.le_of_ble_eq_true rfl⟩ 0 rfl rfl rfl rfl rfl (Nat.le_of_ble_eq_true rfl) dX8_counted_10 ⟨by decide, by decide⟩ (fun z2 u' hq => ?_)
  obtain ⟨hz2, rfl⟩ := hq
  refine j_istore_n h (lv' := [(3, _), (2, _), (0, _), (1, _)]) dX8_counted_13 rfl (by decide) rfl ?_
  refine j_iload_n h dX8_counted_14 rfl 1 rfl ?_
  refine j_iload_n h dX8_counted_15 rfl 0 rfl ?_
  refine j_icmp_ne h (tgt := 21) dX8_counted_16 (by decide) (fun c3 => ?_) (fun c3 => ?_)
  · refine j_iload_n h dX8_counted_21 rfl 1 rfl ?_
    refine j_iload_n h dX8_counted_22 rfl 0 rfl ?_
    refine j_icmp_ge h (tgt := 30) dX8_counted_23 (by decide) (fun c4 => ?_) (fun c4 => ?_)
    · refine j_iconst h (v := 1) dX8_counted_30 (by decide) ?_
      refine j_istore h (lv' := [(4, _), (3, _), (2, _), (0, _), (1, _)]) dX8_counted_31 (by decide) rfl ?_
      refine j_iconst h (v := 0) dX8_counted_33 (by decide) ?_
      refine j_istore h (lv' := [(5, _), (4, _), (3, _), (2, _), (0, _), (1, _)]) dX8_counted_34 (by decide) rfl ?_
      refine j_iconst h (v := 0) dX8_counted_36 (by decide) ?_
      refine j_istore h (lv' := [(6, _), (5, _), (4, _), (3, _), (2, _), (0, _), (1, _)]) dX8_counted_37 (by decide) rfl ?_
      have lp39 : ∀ (n k : Nat) (club : Int32) (n0 : Int32) (by0 : Int32) (by1 : Int32), n + k = 17 → k ≤ 16 → (∀ z : Int32 × Int32 × Int32 × Int32, z = f_X8_counted_l39 X A p1 n k club n0 by0 by1 → J (X, A) (0, 0) [(0, .ref (ad 0)), (1, .int p1), (2, .int z.2.2.1), (3, .int z.2.2.2), (4, .int z.1), (5, .int z.2.1)] 95 []) → J (X, A) (0, 0) [(0, .ref (ad 0)), (1, .int p1), (2, .int by0), (3, .int by1), (4, .int club), (5, .int n0), (6, .int (nI k))] 39 [] := by
        intro n
        induction n with
        | zero => intro k club n0 by0 by1 hn hk hf; omega
        | succ n ih =>
          intro k club n0 by0 by1 hn hk hf
          refine j_iload h dX8_counted_39 6 rfl ?_
          refine j_aload_n h dX8_counted_41 rfl 0 rfl ?_
          refine j_get h inlX8 0 rfl rfl 0 (by decide) (xr_6 7 rfl) rfl (v := .ref (ad 1)) rfl dX8_counted_42 ?_
          refine j_iconst h (v := 4) dX8_counted_45 (by decide) ?_
          refine j_ialdE h 1 rfl 4 rfl (by decide) (by decide) dX8_counted_46 ?_
          refine j_icmp_ge h (tgt := 95) dX8_counted_47 (by decide) (fun c5 => ?_) (fun c5 => ?_)
          · refine j_sub h [0, 1, 2, 3, 4, 5] rfl ?_
            exact hf (_, _, _, _) (Eq.symm ((ite_p c5 rfl)))
          · have hk1 : k < 16 := cnt_lt (by decide) hk hI.w c5
            refine j_aload_n h dX8_counted_50 rfl 0 rfl ?_
            refine j_iload h dX8_counted_51 6 rfl ?_
            refine j_iload_n h dX8_counted_53 rfl 1 rfl ?_
            refine j_callI h (n := 2) (c_X8_liesOn l D cy ad _ _ _ _ (vp_in_nI (by omega) (by decide))) (xg_V (xr_27 10 rfl) (xr_27 11 rfl) (xr_27 12 rfl) (xr_1 5 rfl) (xr_27 13 rfl)) rfl rfl (by decide +kernel) ⟨Nat.le_of_ble_eq_true rfl, Nat.le_of_ble_eq_true rfl⟩ 0 rfl rfl rfl rfl rfl (Nat.le_of_ble_eq_true rfl) dX8_counted_54 ⟨by decide, by decide⟩ (fun z6 u' hq => ?_)
            obtain ⟨hz6, rfl, bz6⟩ := hq
            refine j_if_eq h (tgt := 89) dX8_counted_57 (by decide) (fun c7 => ?_) (fun c7 => ?_)
            · refine j_iinc h (v := nI (k + 1)) (lv' := [(6, _), (0, _), (1, _), (2, _), (3, _), (4, _), (5, _)]) dX8_counted_89 (k := 6) rfl (nI_1 k) (by decide) rfl ?_
              refine j_goto h (tgt := 39) dX8_counted_92 (by decide) ?_
              refine j_sub h [1, 2, 3, 4, 5, 6, 0] rfl ?_
              exact ih (k + 1) _ _ _ _ (by omega) (by omega) (fun z hz => hf z (hz.trans (Eq.symm ((ite_n c5 (bd_eq hz6 (ite_p c7 rfl)))))))
            · refine j_aload_n h dX8_counted_60 rfl 0 rfl ?_
              refine j_iload h dX8_counted_61 6 rfl ?_
              refine j_iconst h (v := 0) dX8_counted_63 (by decide) ?_
              refine j_callI h (n := 2) (c_X8_ofWood l D cy ad _ _ _ _ (vp_in_nI (by omega) (by decide)) (vp_in_nI (by decide) (by decide))) (xg_V (xr_24 4 rfl) (xr_24 5 rfl) (xr_24 6 rfl) (xr_1 5 rfl) (xr_24 7 rfl)) rfl rfl (by decide +kernel) ⟨Nat.le_of_ble_eq_true rfl, Nat.le_of_ble_eq_true rfl⟩ 0 rfl rfl rfl rfl rfl (Nat.le_of_ble_eq_true rfl) dX8_counted_64 ⟨by decide, by decide⟩ (fun z8 u' hq => ?_)
              obtain ⟨hz8, rfl⟩ := hq
              refine j_iload h dX8_counted_67 4 rfl ?_
              refine j_icmp_ne h (tgt := 89) dX8_counted_69 (by decide) (fun c9 => ?_) (fun c9 => ?_)
              · refine j_iinc h (v := nI (k + 1)) (lv' := [(6, _), (0, _), (1, _), (2, _), (3, _), (4, _), (5, _)]) dX8_counted_89 (k := 6) rfl (nI_1 k) (by decide) rfl ?_
                refine j_goto h (tgt := 39) dX8_counted_92 (by decide) ?_
                refine j_sub h [1, 2, 3, 4, 5, 6, 0] rfl ?_
                exact ih (k + 1) _ _ _ _ (by omega) (by omega) (fun z hz => hf z (hz.trans (Eq.symm ((ite_n c5 (bd_eq hz6 (ite_n c7 (bd_eq hz8 (ite_n c9 rfl)))))))))
              · refine j_aload_n h dX8_counted_72 rfl 0 rfl ?_
                refine j_iload h dX8_counted_73 6 rfl ?_
                refine j_callI h (n := 1) (c_X8_distance l D cy ad _ _ _ (vp_in_nI (by omega) (by decide)) hI) (xg_V (xr_24 20 rfl) (xr_24 21 rfl) (xr_24 22 rfl) (xr_1 5 rfl) (xr_24 23 rfl)) rfl rfl (by decide +kernel) ⟨Nat.le_of_ble_eq_true rfl, Nat.le_of_ble_eq_true rfl⟩ 0 rfl rfl rfl rfl rfl (Nat.le_of_ble_eq_true rfl) dX8_counted_75 ⟨by decide, by decide⟩ (fun z10 u' hq => ?_)
                obtain ⟨hz10, rfl⟩ := hq
                refine j_iload_n h dX8_counted_78 rfl 2 rfl ?_
                refine j_iload_n h dX8_counted_79 rfl 3 rfl ?_
                refine j_mmax h (xr_20 15 rfl) (xr_9 3 rfl) (xr_9 4 rfl) (xr_9 5 rfl) (by decide) (Nat.le_of_ble_eq_true rfl) (by decide) (by decide) dX8_counted_80 ?_
                refine j_icmp_ge h (tgt := 89) dX8_counted_83 (by decide) (fun c11 => ?_) (fun c11 => ?_)
                · refine j_iinc h (v := nI (k + 1)) (lv' := [(6, _), (0, _), (1, _), (2, _), (3, _), (4, _), (5, _)]) dX8_counted_89 (k := 6) rfl (nI_1 k) (by decide) rfl ?_
                  refine j_goto h (tgt := 39) dX8_counted_92 (by decide) ?_
                  refine j_sub h [1, 2, 3, 4, 5, 6, 0] rfl ?_
                  exact ih (k + 1) _ _ _ _ (by omega) (by omega) (fun z hz => hf z (hz.trans (Eq.symm ((ite_n c5 (bd_eq hz6 (ite_n c7 (bd_eq hz8 (ite_p c9 (bd_eq hz10 (ite_p c11 rfl)))))))))))
                · refine j_iinc h (v := n0 + 1) (lv' := [(5, _), (0, _), (1, _), (2, _), (3, _), (4, _), (6, _)]) dX8_counted_86 (k := 5) rfl rfl (by decide) rfl ?_
                  refine j_iinc h (v := nI (k + 1)) (lv' := [(6, _), (5, _), (0, _), (1, _), (2, _), (3, _), (4, _)]) dX8_counted_89 (k := 6) rfl (nI_1 k) (by decide) rfl ?_
                  refine j_goto h (tgt := 39) dX8_counted_92 (by decide) ?_
                  refine j_sub h [2, 3, 4, 5, 6, 1, 0] rfl ?_
                  exact ih (k + 1) _ _ _ _ (by omega) (by omega) (fun z hz => hf z (hz.trans (Eq.symm ((ite_n c5 (bd_eq hz6 (ite_n c7 (bd_eq hz8 (ite_p c9 (bd_eq hz10 (ite_n c11 rfl)))))))))))
      refine j_sub h [5, 6, 4, 3, 2, 1, 0] rfl ?_
      refine lp39 17 0 _ _ _ _ (by omega) (by omega) (fun z12 hz12 => ?_)
      refine j_iload h dX8_counted_95 5 rfl ?_
      refine j_bipush h (v := 10) dX8_counted_97 (by decide) ?_
      refine j_iload h dX8_counted_99 4 rfl ?_
      refine j_imul h dX8_counted_101 ?_
      refine j_iadd h dX8_counted_102 ?_
      exact hR _ _ _ _ dX8_counted_103 ⟨Eq.symm ((bd_eq hz1 (bd_eq hz2 (ite_n c3 (ite_p c4 (bd_eq hz12 rfl)))))), rfl⟩
    · refine j_iconst h (v := 0) dX8_counted_26 (by decide) ?_
      refine j_goto h (tgt := 31) dX8_counted_27 (by decide) ?_
      refine j_istore h (lv' := [(4, _), (3, _), (2, _), (0, _), (1, _)]) dX8_counted_31 (by decide) rfl ?_
      refine j_iconst h (v := 0) dX8_counted_33 (by decide) ?_
      refine j_istore h (lv' := [(5, _), (4, _), (3, _), (2, _), (0, _), (1, _)]) dX8_counted_34 (by decide) rfl ?_
      refine j_iconst h (v := 0) dX8_counted_36 (by decide) ?_
      refine j_istore h (lv' := [(6, _), (5, _), (4, _), (3, _), (2, _), (0, _), (1, _)]) dX8_counted_37 (by decide) rfl ?_
      have lp39 : ∀ (n k : Nat) (club : Int32) (n0 : Int32) (by0 : Int32) (by1 : Int32), n + k = 17 → k ≤ 16 → (∀ z : Int32 × Int32 × Int32 × Int32, z = f_X8_counted_l39 X A p1 n k club n0 by0 by1 → J (X, A) (0, 0) [(0, .ref (ad 0)), (1, .int p1), (2, .int z.2.2.1), (3, .int z.2.2.2), (4, .int z.1), (5, .int z.2.1)] 95 []) → J (X, A) (0, 0) [(0, .ref (ad 0)), (1, .int p1), (2, .int by0), (3, .int by1), (4, .int club), (5, .int n0), (6, .int (nI k))] 39 [] := by
        intro n
        induction n with
        | zero => intro k club n0 by0 by1 hn hk hf; omega
        | succ n ih =>
          intro k club n0 by0 by1 hn hk hf
          refine j_iload h dX8_counted_39 6 rfl ?_
          refine j_aload_n h dX8_counted_41 rfl 0 rfl ?_
          refine j_get h inlX8 0 rfl rfl 0 (by decide) (xr_6 7 rfl) rfl (v := .ref (ad 1)) rfl dX8_counted_42 ?_
          refine j_iconst h (v := 4) dX8_counted_45 (by decide) ?_
          refine j_ialdE h 1 rfl 4 rfl (by decide) (by decide) dX8_counted_46 ?_
          refine j_icmp_ge h (tgt := 95) dX8_counted_47 (by decide) (fun c13 => ?_) (fun c13 => ?_)
          · refine j_sub h [0, 1, 2, 3, 4, 5] rfl ?_
            exact hf (_, _, _, _) (Eq.symm ((ite_p c13 rfl)))
          · have hk1 : k < 16 := cnt_lt (by decide) hk hI.w c13
            refine j_aload_n h dX8_counted_50 rfl 0 rfl ?_
            refine j_iload h dX8_counted_51 6 rfl ?_
            refine j_iload_n h dX8_counted_53 rfl 1 rfl ?_
            refine j_callI h (n := 2) (c_X8_liesOn l D cy ad _ _ _ _ (vp_in_nI (by omega) (by decide))) (xg_V (xr_27 10 rfl) (xr_27 11 rfl) (xr_27 12 rfl) (xr_1 5 rfl) (xr_27 13 rfl)) rfl rfl (by decide +kernel) ⟨Nat.le_of_ble_eq_true rfl, Nat.le_of_ble_eq_true rfl⟩ 0 rfl rfl rfl rfl rfl (Nat.le_of_ble_eq_true rfl) dX8_counted_54 ⟨by decide, by decide⟩ (fun z14 u' hq => ?_)
            obtain ⟨hz14, rfl, bz14⟩ := hq
            refine j_if_eq h (tgt := 89) dX8_counted_57 (by decide) (fun c15 => ?_) (fun c15 => ?_)
            · refine j_iinc h (v := nI (k + 1)) (lv' := [(6, _), (0, _), (1, _), (2, _), (3, _), (4, _), (5, _)]) dX8_counted_89 (k := 6) rfl (nI_1 k) (by decide) rfl ?_
              refine j_goto h (tgt := 39) dX8_counted_92 (by decide) ?_
              refine j_sub h [1, 2, 3, 4, 5, 6, 0] rfl ?_
              exact ih (k + 1) _ _ _ _ (by omega) (by omega) (fun z hz => hf z (hz.trans (Eq.symm ((ite_n c13 (bd_eq hz14 (ite_p c15 rfl)))))))
            · refine j_aload_n h dX8_counted_60 rfl 0 rfl ?_
              refine j_iload h dX8_counted_61 6 rfl ?_
              refine j_iconst h (v := 0) dX8_counted_63 (by decide) ?_
              refine j_callI h (n := 2) (c_X8_ofWood l D cy ad _ _ _ _ (vp_in_nI (by omega) (by decide)) (vp_in_nI (by decide) (by decide))) (xg_V (xr_24 4 rfl) (xr_24 5 rfl) (xr_24 6 rfl) (xr_1 5 rfl) (xr_24 7 rfl)) rfl rfl (by decide +kernel) ⟨Nat.le_of_ble_eq_true rfl, Nat.le_of_ble_eq_true rfl⟩ 0 rfl rfl rfl rfl rfl (Nat.le_of_ble_eq_true rfl) dX8_counted_64 ⟨by decide, by decide⟩ (fun z16 u' hq => ?_)
              obtain ⟨hz16, rfl⟩ := hq
              refine j_iload h dX8_counted_67 4 rfl ?_
              refine j_icmp_ne h (tgt := 89) dX8_counted_69 (by decide) (fun c17 => ?_) (fun c17 => ?_)
              · refine j_iinc h (v := nI (k + 1)) (lv' := [(6, _), (0, _), (1, _), (2, _), (3, _), (4, _), (5, _)]) dX8_counted_89 (k := 6) rfl (nI_1 k) (by decide) rfl ?_
                refine j_goto h (tgt := 39) dX8_counted_92 (by decide) ?_
                refine j_sub h [1, 2, 3, 4, 5, 6, 0] rfl ?_
                exact ih (k + 1) _ _ _ _ (by omega) (by omega) (fun z hz => hf z (hz.trans (Eq.symm ((ite_n c13 (bd_eq hz14 (ite_n c15 (bd_eq hz16 (ite_n c17 rfl)))))))))
              · refine j_aload_n h dX8_counted_72 rfl 0 rfl ?_
                refine j_iload h dX8_counted_73 6 rfl ?_
                refine j_callI h (n := 1) (c_X8_distance l D cy ad _ _ _ (vp_in_nI (by omega) (by decide)) hI) (xg_V (xr_24 20 rfl) (xr_24 21 rfl) (xr_24 22 rfl) (xr_1 5 rfl) (xr_24 23 rfl)) rfl rfl (by decide +kernel) ⟨Nat.le_of_ble_eq_true rfl, Nat.le_of_ble_eq_true rfl⟩ 0 rfl rfl rfl rfl rfl (Nat.le_of_ble_eq_true rfl) dX8_counted_75 ⟨by decide, by decide⟩ (fun z18 u' hq => ?_)
                obtain ⟨hz18, rfl⟩ := hq
                refine j_iload_n h dX8_counted_78 rfl 2 rfl ?_
                refine j_iload_n h dX8_counted_79 rfl 3 rfl ?_
                refine j_mmax h (xr_20 15 rfl) (xr_9 3 rfl) (xr_9 4 rfl) (xr_9 5 rfl) (by decide) (Nat.le_of_ble_eq_true rfl) (by decide) (by decide) dX8_counted_80 ?_
                refine j_icmp_ge h (tgt := 89) dX8_counted_83 (by decide) (fun c19 => ?_) (fun c19 => ?_)
                · refine j_iinc h (v := nI (k + 1)) (lv' := [(6, _), (0, _), (1, _), (2, _), (3, _), (4, _), (5, _)]) dX8_counted_89 (k := 6) rfl (nI_1 k) (by decide) rfl ?_
                  refine j_goto h (tgt := 39) dX8_counted_92 (by decide) ?_
                  refine j_sub h [1, 2, 3, 4, 5, 6, 0] rfl ?_
                  exact ih (k + 1) _ _ _ _ (by omega) (by omega) (fun z hz => hf z (hz.trans (Eq.symm ((ite_n c13 (bd_eq hz14 (ite_n c15 (bd_eq hz16 (ite_p c17 (bd_eq hz18 (ite_p c19 rfl)))))))))))
                · refine j_iinc h (v := n0 + 1) (lv' := [(5, _), (0, _), (1, _), (2, _), (3, _), (4, _), (6, _)]) dX8_counted_86 (k := 5) rfl rfl (by decide) rfl ?_
                  refine j_iinc h (v := nI (k + 1)) (lv' := [(6, _), (5, _), (0, _), (1, _), (2, _), (3, _), (4, _)]) dX8_counted_89 (k := 6) rfl (nI_1 k) (by decide) rfl ?_
                  refine j_goto h (tgt := 39) dX8_counted_92 (by decide) ?_
                  refine j_sub h [2, 3, 4, 5, 6, 1, 0] rfl ?_
                  exact ih (k + 1) _ _ _ _ (by omega) (by omega) (fun z hz => hf z (hz.trans (Eq.symm ((ite_n c13 (bd_eq hz14 (ite_n c15 (bd_eq hz16 (ite_p c17 (bd_eq hz18 (ite_n c19 rfl)))))))))))
      refine j_sub h [5, 6, 4, 3, 2, 1, 0] rfl ?_
      refine lp39 17 0 _ _ _ _ (by omega) (by omega) (fun z20 hz20 => ?_)
      refine j_iload h dX8_counted_95 5 rfl ?_
      refine j_bipush h (v := 10) dX8_counted_97 (by decide) ?_
      refine j_iload h dX8_counted_99 4 rfl ?_
      refine j_imul h dX8_counted_101 ?_
      refine j_iadd h dX8_counted_102 ?_
      exact hR _ _ _ _ dX8_counted_103 ⟨Eq.symm ((bd_eq hz1 (bd_eq hz2 (ite_n c3 (ite_n c4 (bd_eq hz20 rfl)))))), rfl⟩
  · refine j_iconst h (v := 0) dX8_counted_19 (by decide) ?_
    exact hR _ _ _ _ dX8_counted_20 ⟨Eq.symm ((bd_eq hz1 (bd_eq hz2 (ite_p c3 rfl)))), rfl⟩

def f_X8_allCasts_l4 (X : Nat → Int32) (A : Nat → Nat → Int32) : Nat → Nat → Int32 → Int32
  | 0, _, n0 => n0
  | n + 1, k, n0 =>
    if (A 0 3) ≤ (nI k) then
      n0
    else
      bd (f_X8_ofRink X A (nI k) 3) fun z2 =>
      f_X8_allCasts_l4 X A n (k + 1) (n0 + z2)
def f_X8_allCasts (X : Nat → Int32) (A : Nat → Nat → Int32) : Int32 :=
  bd (f_X8_allCasts_l4 X A 5 0 0) fun z3 =>
  z3
abbrev rm_X8_allCasts : Room := { frames := 1, cells := 0, slots := 0, locals := 22 }
set_option maxRecDepth 100000 in
set_option maxHeartbeats 4000000 in
theorem c_X8_allCasts (l : Launch) (D : gD) (cy : Nat → ClassId) (ad : Nat → Nat) (X : Nat → Int32) (A : Nat → Nat → Int32) (hI : MI A) : CtI l D cy (MW cy ad) yX8_allCasts cX8_allCasts 3 (some .int) rm_X8_allCasts [.ref (ad 0)] (X, A) (fun rv u => rv = f_X8_allCasts X A ∧ u = (X, A)) 0 0 := by
  refine m_entI cX8_allCasts 3 (by decide) (Nat.le_of_ble_eq_true rfl) (fun J h hR => ?_)
  show J (X, A) (0, 0) [(0, .ref (ad 0))] 0 []
  refine j_iconst h (v := 0) dX8_allCasts_0 (by decide) ?_
  refine j_istore_n h (lv' := [(1, _), (0, _)]) dX8_allCasts_1 rfl (by decide) rfl ?_
  refine j_iconst h (v := 0) dX8_allCasts_2 (by decide) ?_
  refine j_istore_n h (lv' := [(2, _), (1, _), (0, _)]) dX8_allCasts_3 rfl (by decide) rfl ?_
  have lp4 : ∀ (n k : Nat) (n0 : Int32), n + k = 5 → k ≤ 4 → (∀ z : Int32, z = f_X8_allCasts_l4 X A n k n0 → J (X, A) (0, 0) [(0, .ref (ad 0)), (1, .int z)] 29 []) → J (X, A) (0, 0) [(0, .ref (ad 0)), (1, .int n0), (2, .int (nI k))] 4 [] := by
    intro n
    induction n with
    | zero => intro k n0 hn hk hf; omega
    | succ n ih =>
      intro k n0 hn hk hf
      refine j_iload_n h dX8_allCasts_4 rfl 2 rfl ?_
      refine j_aload_n h dX8_allCasts_5 rfl 0 rfl ?_
      refine j_get h inlX8 0 rfl rfl 0 (by decide) (xr_6 7 rfl) rfl (v := .ref (ad 1)) rfl dX8_allCasts_6 ?_
      refine j_iconst h (v := 3) dX8_allCasts_9 (by decide) ?_
      refine j_ialdE h 1 rfl 3 rfl (by decide) (by decide) dX8_allCasts_10 ?_
      refine j_icmp_ge h (tgt := 29) dX8_allCasts_11 (by decide) (fun c1 => ?_) (fun c1 => ?_)
      · refine j_sub h [0, 1] rfl ?_
        exact hf _ (Eq.symm ((ite_p c1 rfl)))
      · have hk1 : k < 4 := cnt_lt (by decide) hk hI.r c1
        refine j_iload_n h dX8_allCasts_14 rfl 1 rfl ?_
        refine j_aload_n h dX8_allCasts_15 rfl 0 rfl ?_
        refine j_iload_n h dX8_allCasts_16 rfl 2 rfl ?_
        refine j_iconst h (v := 3) dX8_allCasts_17 (by decide) ?_
        refine j_callI h (n := 2) (c_X8_ofRink l D cy ad _ _ _ _ (vp_in_nI (by omega) (by decide)) (vp_in_nI (by decide) (by decide))) (xg_V (xr_16 15 rfl) (xr_16 16 rfl) (xr_16 17 rfl) (xr_1 5 rfl) (xr_16 18 rfl)) rfl rfl (by decide +kernel) ⟨Nat.le_of_ble_eq_true rfl, Nat.le_of_ble_eq_true rfl⟩ 0 rfl rfl rfl rfl rfl (Nat.le_of_ble_eq_true rfl) dX8_allCasts_18 ⟨by decide, by decide⟩ (fun z2 u' hq => ?_)
        obtain ⟨hz2, rfl⟩ := hq
        refine j_iadd h dX8_allCasts_21 ?_
        refine j_istore_n h (lv' := [(1, _), (0, _), (2, _)]) dX8_allCasts_22 rfl (by decide) rfl ?_
        refine j_iinc h (v := nI (k + 1)) (lv' := [(2, _), (1, _), (0, _)]) dX8_allCasts_23 (k := 2) rfl (nI_1 k) (by decide) rfl ?_
        refine j_goto h (tgt := 4) dX8_allCasts_26 (by decide) ?_
        refine j_sub h [2, 1, 0] rfl ?_
        exact ih (k + 1) _ (by omega) (by omega) (fun z hz => hf z (hz.trans (Eq.symm ((ite_n c1 (bd_eq hz2 rfl))))))
  refine j_sub h [2, 1, 0] rfl ?_
  refine lp4 5 0 _ (by omega) (by omega) (fun z3 hz3 => ?_)
  refine j_iload_n h dX8_allCasts_29 rfl 1 rfl ?_
  exact hR _ _ _ _ dX8_allCasts_30 ⟨Eq.symm ((bd_eq hz3 rfl)), rfl⟩

def f_X8_castsAfter (X : Nat → Int32) (A : Nat → Nat → Int32) (p1 : Int32) (p2 : Int32) (p3 : Int32) : Int32 :=
  if p2 < 5 then
    p3
  else
    bd (f_X8_ofRink X A p1 4) fun z2 =>
    if z2 = 0 then
      (if (p3 + 1) < 9 then (p3 + 1) else 9)
    else
      p3
abbrev rm_X8_castsAfter : Room := { frames := 1, cells := 0, slots := 0, locals := 22 }
set_option maxRecDepth 100000 in
set_option maxHeartbeats 4000000 in
theorem c_X8_castsAfter (l : Launch) (D : gD) (cy : Nat → ClassId) (ad : Nat → Nat) (X : Nat → Int32) (A : Nat → Nat → Int32) (p1 : Int32) (p2 : Int32) (p3 : Int32) (v1 : vp_in p1 4) : CtI l D cy (MW cy ad) yX8_castsAfter cX8_castsAfter 4 (some .int) rm_X8_castsAfter [.ref (ad 0), .int p1, .int p2, .int p3] (X, A) (fun rv u => rv = f_X8_castsAfter X A p1 p2 p3 ∧ u = (X, A)) 0 0 := by
  refine m_entI cX8_castsAfter 4 (by decide) (Nat.le_of_ble_eq_true rfl) (fun J h hR => ?_)
  show J (X, A) (0, 0) [(0, .ref (ad 0)), (1, .int p1), (2, .int p2), (3, .int p3)] 0 []
  have b1 : p1.toNatClampNeg < 4 := vp_lt v1
  have e1 : p1 = nI p1.toNatClampNeg := vp_nI v1 (by decide)
  refine j_iload_n h dX8_castsAfter_0 rfl 2 rfl ?_
  refine j_iconst h (v := 5) dX8_castsAfter_1 (by decide) ?_
  refine j_icmp_lt h (tgt := 25) dX8_castsAfter_2 (by decide) (fun c1 => ?_) (fun c1 => ?_)
  · refine j_iload_n h dX8_castsAfter_25 rfl 3 rfl ?_
    exact hR _ _ _ _ dX8_castsAfter_26 ⟨Eq.symm ((ite_p c1 rfl)), rfl⟩
  · refine j_aload_n h dX8_castsAfter_5 rfl 0 rfl ?_
    refine j_iload_n h dX8_castsAfter_6 rfl 1 rfl ?_
    refine j_iconst h (v := 4) dX8_castsAfter_7 (by decide) ?_
    refine j_callI h (n := 2) (c_X8_ofRink l D cy ad _ _ _ _ (vp_of (j := p1.toNatClampNeg) e1 (by omega) (by decide)) (vp_in_nI (by decide) (by decide))) (xg_V (xr_16 15 rfl) (xr_16 16 rfl) (xr_16 17 rfl) (xr_1 5 rfl) (xr_16 18 rfl)) rfl rfl (by decide +kernel) ⟨Nat.le_of_ble_eq_true rfl, Nat.le_of_ble_eq_true rfl⟩ 0 rfl rfl rfl rfl rfl (Nat.le_of_ble_eq_true rfl) dX8_castsAfter_8 ⟨by decide, by decide⟩ (fun z2 u' hq => ?_)
    obtain ⟨hz2, rfl⟩ := hq
    refine j_if_ne h (tgt := 25) dX8_castsAfter_11 (by decide) (fun c3 => ?_) (fun c3 => ?_)
    · refine j_iload_n h dX8_castsAfter_25 rfl 3 rfl ?_
      exact hR _ _ _ _ dX8_castsAfter_26 ⟨Eq.symm ((ite_n c1 (bd_eq hz2 (ite_n c3 rfl)))), rfl⟩
    · refine j_bipush h (v := 9) dX8_castsAfter_14 (by decide) ?_
      refine j_iload_n h dX8_castsAfter_16 rfl 3 rfl ?_
      refine j_iconst h (v := 1) dX8_castsAfter_17 (by decide) ?_
      refine j_iadd h dX8_castsAfter_18 ?_
      refine j_mmin h (xr_20 14 rfl) (xr_9 21 rfl) (xr_9 4 rfl) (xr_9 22 rfl) (by decide) (Nat.le_of_ble_eq_true rfl) (by decide) (by decide) dX8_castsAfter_19 ?_
      refine j_goto h (tgt := 26) dX8_castsAfter_22 (by decide) ?_
      exact hR _ _ _ _ dX8_castsAfter_26 ⟨Eq.symm ((ite_n c1 (bd_eq hz2 (ite_p c3 rfl)))), rfl⟩

def f_X8_countOn_l5 (X : Nat → Int32) (A : Nat → Nat → Int32) (p1 : Int32) (p2 : Int32) : Nat → Nat → Int32 → Int32
  | 0, _, n0 => n0
  | n + 1, k, n0 =>
    if (A 0 4) ≤ (nI k) then
      n0
    else
      bd (f_X8_ofWood X A (nI k) 2) fun z2 =>
      if z2 = p2 then
        bd (f_X8_ofWood X A (nI k) 3) fun z4 =>
        if z4 = p1 then
          f_X8_countOn_l5 X A p1 p2 n (k + 1) (n0 + 1)
        else
          f_X8_countOn_l5 X A p1 p2 n (k + 1) n0
      else
        f_X8_countOn_l5 X A p1 p2 n (k + 1) n0
def f_X8_countOn (X : Nat → Int32) (A : Nat → Nat → Int32) (p1 : Int32) (p2 : Int32) : Int32 :=
  bd (f_X8_countOn_l5 X A p1 p2 17 0 0) fun z6 =>
  z6
abbrev rm_X8_countOn : Room := { frames := 1, cells := 0, slots := 0, locals := 22 }
set_option maxRecDepth 100000 in
set_option maxHeartbeats 4000000 in
theorem c_X8_countOn (l : Launch) (D : gD) (cy : Nat → ClassId) (ad : Nat → Nat) (X : Nat → Int32) (A : Nat → Nat → Int32) (p1 : Int32) (p2 : Int32) (hI : MI A) : CtI l D cy (MW cy ad) yX8_countOn cX8_countOn 5 (some .int) rm_X8_countOn [.ref (ad 0), .int p1, .int p2] (X, A) (fun rv u => rv = f_X8_countOn X A p1 p2 ∧ u = (X, A)) 0 0 := by
  refine m_entI cX8_countOn 5 (by decide) (Nat.le_of_ble_eq_true rfl) (fun J h hR => ?_)
  show J (X, A) (0, 0) [(0, .ref (ad 0)), (1, .int p1), (2, .int p2)] 0 []
  refine j_iconst h (v := 0) dX8_countOn_0 (by decide) ?_
  refine j_istore_n h (lv' := [(3, _), (0, _), (1, _), (2, _)]) dX8_countOn_1 rfl (by decide) rfl ?_
  refine j_iconst h (v := 0) dX8_countOn_2 (by decide) ?_
  refine j_istore h (lv' := [(4, _), (3, _), (0, _), (1, _), (2, _)]) dX8_countOn_3 (by decide) rfl ?_
  have lp5 : ∀ (n k : Nat) (n0 : Int32), n + k = 17 → k ≤ 16 → (∀ z : Int32, z = f_X8_countOn_l5 X A p1 p2 n k n0 → J (X, A) (0, 0) [(0, .ref (ad 0)), (1, .int p1), (2, .int p2), (3, .int z)] 47 []) → J (X, A) (0, 0) [(0, .ref (ad 0)), (1, .int p1), (2, .int p2), (3, .int n0), (4, .int (nI k))] 5 [] := by
    intro n
    induction n with
    | zero => intro k n0 hn hk hf; omega
    | succ n ih =>
      intro k n0 hn hk hf
      refine j_iload h dX8_countOn_5 4 rfl ?_
      refine j_aload_n h dX8_countOn_7 rfl 0 rfl ?_
      refine j_get h inlX8 0 rfl rfl 0 (by decide) (xr_6 7 rfl) rfl (v := .ref (ad 1)) rfl dX8_countOn_8 ?_
      refine j_iconst h (v := 4) dX8_countOn_11 (by decide) ?_
      refine j_ialdE h 1 rfl 4 rfl (by decide) (by decide) dX8_countOn_12 ?_
      refine j_icmp_ge h (tgt := 47) dX8_countOn_13 (by decide) (fun c1 => ?_) (fun c1 => ?_)
      · refine j_sub h [0, 1, 2, 3] rfl ?_
        exact hf _ (Eq.symm ((ite_p c1 rfl)))
      · have hk1 : k < 16 := cnt_lt (by decide) hk hI.w c1
        refine j_aload_n h dX8_countOn_16 rfl 0 rfl ?_
        refine j_iload h dX8_countOn_17 4 rfl ?_
        refine j_iconst h (v := 2) dX8_countOn_19 (by decide) ?_
        refine j_callI h (n := 2) (c_X8_ofWood l D cy ad _ _ _ _ (vp_in_nI (by omega) (by decide)) (vp_in_nI (by decide) (by decide))) (xg_V (xr_24 4 rfl) (xr_24 5 rfl) (xr_24 6 rfl) (xr_1 5 rfl) (xr_24 7 rfl)) rfl rfl (by decide +kernel) ⟨Nat.le_of_ble_eq_true rfl, Nat.le_of_ble_eq_true rfl⟩ 0 rfl rfl rfl rfl rfl (Nat.le_of_ble_eq_true rfl) dX8_countOn_20 ⟨by decide, by decide⟩ (fun z2 u' hq => ?_)
        obtain ⟨hz2, rfl⟩ := hq
        refine j_iload_n h dX8_countOn_23 rfl 2 rfl ?_
        refine j_icmp_ne h (tgt := 41) dX8_countOn_24 (by decide) (fun c3 => ?_) (fun c3 => ?_)
        · refine j_iinc h (v := nI (k + 1)) (lv' := [(4, _), (0, _), (1, _), (2, _), (3, _)]) dX8_countOn_41 (k := 4) rfl (nI_1 k) (by decide) rfl ?_
          refine j_goto h (tgt := 5) dX8_countOn_44 (by decide) ?_
          refine j_sub h [1, 2, 3, 4, 0] rfl ?_
          exact ih (k + 1) _ (by omega) (by omega) (fun z hz => hf z (hz.trans (Eq.symm ((ite_n c1 (bd_eq hz2 (ite_n c3 rfl)))))))
        · refine j_aload_n h dX8_countOn_27 rfl 0 rfl ?_
          refine j_iload h dX8_countOn_28 4 rfl ?_
          refine j_iconst h (v := 3) dX8_countOn_30 (by decide) ?_
          refine j_callI h (n := 2) (c_X8_ofWood l D cy ad _ _ _ _ (vp_in_nI (by omega) (by decide)) (vp_in_nI (by decide) (by decide))) (xg_V (xr_24 4 rfl) (xr_24 5 rfl) (xr_24 6 rfl) (xr_1 5 rfl) (xr_24 7 rfl)) rfl rfl (by decide +kernel) ⟨Nat.le_of_ble_eq_true rfl, Nat.le_of_ble_eq_true rfl⟩ 0 rfl rfl rfl rfl rfl (Nat.le_of_ble_eq_true rfl) dX8_countOn_31 ⟨by decide, by decide⟩ (fun z4 u' hq => ?_)
          obtain ⟨hz4, rfl⟩ := hq
          refine j_iload_n h dX8_countOn_34 rfl 1 rfl ?_
          refine j_icmp_ne h (tgt := 41) dX8_countOn_35 (by decide) (fun c5 => ?_) (fun c5 => ?_)
          · refine j_iinc h (v := nI (k + 1)) (lv' := [(4, _), (0, _), (1, _), (2, _), (3, _)]) dX8_countOn_41 (k := 4) rfl (nI_1 k) (by decide) rfl ?_
            refine j_goto h (tgt := 5) dX8_countOn_44 (by decide) ?_
            refine j_sub h [1, 2, 3, 4, 0] rfl ?_
            exact ih (k + 1) _ (by omega) (by omega) (fun z hz => hf z (hz.trans (Eq.symm ((ite_n c1 (bd_eq hz2 (ite_p c3 (bd_eq hz4 (ite_n c5 rfl)))))))))
          · refine j_iinc h (v := n0 + 1) (lv' := [(3, _), (0, _), (1, _), (2, _), (4, _)]) dX8_countOn_38 (k := 3) rfl rfl (by decide) rfl ?_
            refine j_iinc h (v := nI (k + 1)) (lv' := [(4, _), (3, _), (0, _), (1, _), (2, _)]) dX8_countOn_41 (k := 4) rfl (nI_1 k) (by decide) rfl ?_
            refine j_goto h (tgt := 5) dX8_countOn_44 (by decide) ?_
            refine j_sub h [2, 3, 4, 1, 0] rfl ?_
            exact ih (k + 1) _ (by omega) (by omega) (fun z hz => hf z (hz.trans (Eq.symm ((ite_n c1 (bd_eq hz2 (ite_p c3 (bd_eq hz4 (ite_p c5 rfl)))))))))
  refine j_sub h [2, 3, 4, 1, 0] rfl ?_
  refine lp5 17 0 _ (by omega) (by omega) (fun z6 hz6 => ?_)
  refine j_iload_n h dX8_countOn_47 rfl 3 rfl ?_
  exact hR _ _ _ _ dX8_countOn_48 ⟨Eq.symm ((bd_eq hz6 rfl)), rfl⟩

def f_X8_woodsOf_l5 (X : Nat → Int32) (A : Nat → Nat → Int32) (p1 : Int32) (p2 : Int32) : Nat → Nat → Int32 → Int32
  | 0, _, n0 => n0
  | n + 1, k, n0 =>
    if (A 0 4) ≤ (nI k) then
      n0
    else
      bd (f_X8_ofWood X A (nI k) 0) fun z2 =>
      if z2 = p1 then
        if p2 = 0 then
          f_X8_woodsOf_l5 X A p1 p2 n (k + 1) (n0 + 1)
        else
          bd (f_X8_ofWood X A (nI k) 2) fun z5 =>
          if z5 = 0 then
            f_X8_woodsOf_l5 X A p1 p2 n (k + 1) (n0 + 1)
          else
            f_X8_woodsOf_l5 X A p1 p2 n (k + 1) n0
      else
        f_X8_woodsOf_l5 X A p1 p2 n (k + 1) n0
def f_X8_woodsOf (X : Nat → Int32) (A : Nat → Nat → Int32) (p1 : Int32) (p2 : Int32) : Int32 :=
  bd (f_X8_woodsOf_l5 X A p1 p2 17 0 0) fun z7 =>
  z7
abbrev rm_X8_woodsOf : Room := { frames := 1, cells := 0, slots := 0, locals := 22 }
set_option maxRecDepth 100000 in
set_option maxHeartbeats 4000000 in
theorem c_X8_woodsOf (l : Launch) (D : gD) (cy : Nat → ClassId) (ad : Nat → Nat) (X : Nat → Int32) (A : Nat → Nat → Int32) (p1 : Int32) (p2 : Int32) (hI : MI A) : CtI l D cy (MW cy ad) yX8_woodsOf cX8_woodsOf 5 (some .int) rm_X8_woodsOf [.ref (ad 0), .int p1, .int p2] (X, A) (fun rv u => rv = f_X8_woodsOf X A p1 p2 ∧ u = (X, A)) 0 0 := by
  refine m_entI cX8_woodsOf 5 (by decide) (Nat.le_of_ble_eq_true rfl) (fun J h hR => ?_)
  show J (X, A) (0, 0) [(0, .ref (ad 0)), (1, .int p1), (2, .int p2)] 0 []
  refine j_iconst h (v := 0) dX8_woodsOf_0 (by decide) ?_
  refine j_istore_n h (lv' := [(3, _), (0, _), (1, _), (2, _)]) dX8_woodsOf_1 rfl (by decide) rfl ?_
  refine j_iconst h (v := 0) dX8_woodsOf_2 (by decide) ?_
  refine j_istore h (lv' := [(4, _), (3, _), (0, _), (1, _), (2, _)]) dX8_woodsOf_3 (by decide) rfl ?_
  have lp5 : ∀ (n k : Nat) (n0 : Int32), n + k = 17 → k ≤ 16 → (∀ z : Int32, z = f_X8_woodsOf_l5 X A p1 p2 n k n0 → J (X, A) (0, 0) [(0, .ref (ad 0)), (1, .int p1), (2, .int p2), (3, .int z)] 50 []) → J (X, A) (0, 0) [(0, .ref (ad 0)), (1, .int p1), (2, .int p2), (3, .int n0), (4, .int (nI k))] 5 [] := by
    intro n
    induction n with
    | zero => intro k n0 hn hk hf; omega
    | succ n ih =>
      intro k n0 hn hk hf
      refine j_iload h dX8_woodsOf_5 4 rfl ?_
      refine j_aload_n h dX8_woodsOf_7 rfl 0 rfl ?_
      refine j_get h inlX8 0 rfl rfl 0 (by decide) (xr_6 7 rfl) rfl (v := .ref (ad 1)) rfl dX8_woodsOf_8 ?_
      refine j_iconst h (v := 4) dX8_woodsOf_11 (by decide) ?_
      refine j_ialdE h 1 rfl 4 rfl (by decide) (by decide) dX8_woodsOf_12 ?_
      refine j_icmp_ge h (tgt := 50) dX8_woodsOf_13 (by decide) (fun c1 => ?_) (fun c1 => ?_)
      · refine j_sub h [0, 1, 2, 3] rfl ?_
        exact hf _ (Eq.symm ((ite_p c1 rfl)))
      · have hk1 : k < 16 := cnt_lt (by decide) hk hI.w c1
        refine j_aload_n h dX8_woodsOf_16 rfl 0 rfl ?_
        refine j_iload h dX8_woodsOf_17 4 rfl ?_
        refine j_iconst h (v := 0) dX8_woodsOf_19 (by decide) ?_
        refine j_callI h (n := 2) (c_X8_ofWood l D cy ad _ _ _ _ (vp_in_nI (by omega) (by decide)) (vp_in_nI (by decide) (by decide))) (xg_V (xr_24 4 rfl) (xr_24 5 rfl) (xr_24 6 rfl) (xr_1 5 rfl) (xr_24 7 rfl)) rfl rfl (by decide +kernel) ⟨Nat.le_of_ble_eq_true rfl, Nat.le_of_ble_eq_true rfl⟩ 0 rfl rfl rfl rfl rfl (Nat.le_of_ble_eq_true rfl) dX8_woodsOf_20 ⟨by decide, by decide⟩ (fun z2 u' hq => ?_)
        obtain ⟨hz2, rfl⟩ := hq
        refine j_iload_n h dX8_woodsOf_23 rfl 1 rfl ?_
        refine j_icmp_ne h (tgt := 44) dX8_woodsOf_24 (by decide) (fun c3 => ?_) (fun c3 => ?_)
        · refine j_iinc h (v := nI (k + 1)) (lv' := [(4, _), (0, _), (1, _), (2, _), (3, _)]) dX8_woodsOf_44 (k := 4) rfl (nI_1 k) (by decide) rfl ?_
          refine j_goto h (tgt := 5) dX8_woodsOf_47 (by decide) ?_
          refine j_sub h [1, 2, 3, 4, 0] rfl ?_
          exact ih (k + 1) _ (by omega) (by omega) (fun z hz => hf z (hz.trans (Eq.symm ((ite_n c1 (bd_eq hz2 (ite_n c3 rfl)))))))
        · refine j_iload_n h dX8_woodsOf_27 rfl 2 rfl ?_
          refine j_if_eq h (tgt := 41) dX8_woodsOf_28 (by decide) (fun c4 => ?_) (fun c4 => ?_)
          · refine j_iinc h (v := n0 + 1) (lv' := [(3, _), (0, _), (1, _), (2, _), (4, _)]) dX8_woodsOf_41 (k := 3) rfl rfl (by decide) rfl ?_
            refine j_iinc h (v := nI (k + 1)) (lv' := [(4, _), (3, _), (0, _), (1, _), (2, _)]) dX8_woodsOf_44 (k := 4) rfl (nI_1 k) (by decide) rfl ?_
            refine j_goto h (tgt := 5) dX8_woodsOf_47 (by decide) ?_
            refine j_sub h [2, 3, 4, 1, 0] rfl ?_
            exact ih (k + 1) _ (by omega) (by omega) (fun z hz => hf z (hz.trans (Eq.symm ((ite_n c1 (bd_eq hz2 (ite_p c3 (ite_p c4 rfl))))))))
          · refine j_aload_n h dX8_woodsOf_31 rfl 0 rfl ?_
            refine j_iload h dX8_woodsOf_32 4 rfl ?_
            refine j_iconst h (v := 2) dX8_woodsOf_34 (by decide) ?_
            refine j_callI h (n := 2) (c_X8_ofWood l D cy ad _ _ _ _ (vp_in_nI (by omega) (by decide)) (vp_in_nI (by decide) (by decide))) (xg_V (xr_24 4 rfl) (xr_24 5 rfl) (xr_24 6 rfl) (xr_1 5 rfl) (xr_24 7 rfl)) rfl rfl (by decide +kernel) ⟨Nat.le_of_ble_eq_true rfl, Nat.le_of_ble_eq_true rfl⟩ 0 rfl rfl rfl rfl rfl (Nat.le_of_ble_eq_true rfl) dX8_woodsOf_35 ⟨by decide, by decide⟩ (fun z5 u' hq => ?_)
            obtain ⟨hz5, rfl⟩ := hq
            refine j_if_ne h (tgt := 44) dX8_woodsOf_38 (by decide) (fun c6 => ?_) (fun c6 => ?_)
            · refine j_iinc h (v := nI (k + 1)) (lv' := [(4, _), (0, _), (1, _), (2, _), (3, _)]) dX8_woodsOf_44 (k := 4) rfl (nI_1 k) (by decide) rfl ?_
              refine j_goto h (tgt := 5) dX8_woodsOf_47 (by decide) ?_
              refine j_sub h [1, 2, 3, 4, 0] rfl ?_
              exact ih (k + 1) _ (by omega) (by omega) (fun z hz => hf z (hz.trans (Eq.symm ((ite_n c1 (bd_eq hz2 (ite_p c3 (ite_n c4 (bd_eq hz5 (ite_n c6 rfl))))))))))
            · refine j_iinc h (v := n0 + 1) (lv' := [(3, _), (0, _), (1, _), (2, _), (4, _)]) dX8_woodsOf_41 (k := 3) rfl rfl (by decide) rfl ?_
              refine j_iinc h (v := nI (k + 1)) (lv' := [(4, _), (3, _), (0, _), (1, _), (2, _)]) dX8_woodsOf_44 (k := 4) rfl (nI_1 k) (by decide) rfl ?_
              refine j_goto h (tgt := 5) dX8_woodsOf_47 (by decide) ?_
              refine j_sub h [2, 3, 4, 1, 0] rfl ?_
              exact ih (k + 1) _ (by omega) (by omega) (fun z hz => hf z (hz.trans (Eq.symm ((ite_n c1 (bd_eq hz2 (ite_p c3 (ite_n c4 (bd_eq hz5 (ite_p c6 rfl))))))))))
  refine j_sub h [2, 3, 4, 1, 0] rfl ?_
  refine lp5 17 0 _ (by omega) (by omega) (fun z7 hz7 => ?_)
  refine j_iload_n h dX8_woodsOf_50 rfl 3 rfl ?_
  exact hR _ _ _ _ dX8_woodsOf_51 ⟨Eq.symm ((bd_eq hz7 rfl)), rfl⟩

def f_X8_closed_l4 (X : Nat → Int32) (A : Nat → Nat → Int32) : Nat → Nat → Int32 → Int32
  | 0, _, n0 => n0
  | n + 1, k, n0 =>
    if (A 0 3) ≤ (nI k) then
      n0
    else
      bd (f_X8_ofRink X A (nI k) 9) fun z2 =>
      f_X8_closed_l4 X A n (k + 1) (n0 + z2)
def f_X8_closed (X : Nat → Int32) (A : Nat → Nat → Int32) : Int32 :=
  bd (f_X8_closed_l4 X A 5 0 0) fun z3 =>
  z3
abbrev rm_X8_closed : Room := { frames := 1, cells := 0, slots := 0, locals := 22 }
set_option maxRecDepth 100000 in
set_option maxHeartbeats 4000000 in
theorem c_X8_closed (l : Launch) (D : gD) (cy : Nat → ClassId) (ad : Nat → Nat) (X : Nat → Int32) (A : Nat → Nat → Int32) (hI : MI A) : CtI l D cy (MW cy ad) yX8_closed cX8_closed 3 (some .int) rm_X8_closed [.ref (ad 0)] (X, A) (fun rv u => rv = f_X8_closed X A ∧ u = (X, A)) 0 0 := by
  refine m_entI cX8_closed 3 (by decide) (Nat.le_of_ble_eq_true rfl) (fun J h hR => ?_)
  show J (X, A) (0, 0) [(0, .ref (ad 0))] 0 []
  refine j_iconst h (v := 0) dX8_closed_0 (by decide) ?_
  refine j_istore_n h (lv' := [(1, _), (0, _)]) dX8_closed_1 rfl (by decide) rfl ?_
  refine j_iconst h (v := 0) dX8_closed_2 (by decide) ?_
  refine j_istore_n h (lv' := [(2, _), (1, _), (0, _)]) dX8_closed_3 rfl (by decide) rfl ?_
  have lp4 : ∀ (n k : Nat) (n0 : Int32), n + k = 5 → k ≤ 4 → (∀ z : Int32, z = f_X8_closed_l4 X A n k n0 → J (X, A) (0, 0) [(0, .ref (ad 0)), (1, .int z)] 30 []) → J (X, A) (0, 0) [(0, .ref (ad 0)), (1, .int n0), (2, .int (nI k))] 4 [] := by
    intro n
    induction n with
    | zero => intro k n0 hn hk hf; omega
    | succ n ih =>
      intro k n0 hn hk hf
      refine j_iload_n h dX8_closed_4 rfl 2 rfl ?_
      refine j_aload_n h dX8_closed_5 rfl 0 rfl ?_
      refine j_get h inlX8 0 rfl rfl 0 (by decide) (xr_6 7 rfl) rfl (v := .ref (ad 1)) rfl dX8_closed_6 ?_
      refine j_iconst h (v := 3) dX8_closed_9 (by decide) ?_
      refine j_ialdE h 1 rfl 3 rfl (by decide) (by decide) dX8_closed_10 ?_
      refine j_icmp_ge h (tgt := 30) dX8_closed_11 (by decide) (fun c1 => ?_) (fun c1 => ?_)
      · refine j_sub h [0, 1] rfl ?_
        exact hf _ (Eq.symm ((ite_p c1 rfl)))
      · have hk1 : k < 4 := cnt_lt (by decide) hk hI.r c1
        refine j_iload_n h dX8_closed_14 rfl 1 rfl ?_
        refine j_aload_n h dX8_closed_15 rfl 0 rfl ?_
        refine j_iload_n h dX8_closed_16 rfl 2 rfl ?_
        refine j_bipush h (v := 9) dX8_closed_17 (by decide) ?_
        refine j_callI h (n := 2) (c_X8_ofRink l D cy ad _ _ _ _ (vp_in_nI (by omega) (by decide)) (vp_in_nI (by decide) (by decide))) (xg_V (xr_16 15 rfl) (xr_16 16 rfl) (xr_16 17 rfl) (xr_1 5 rfl) (xr_16 18 rfl)) rfl rfl (by decide +kernel) ⟨Nat.le_of_ble_eq_true rfl, Nat.le_of_ble_eq_true rfl⟩ 0 rfl rfl rfl rfl rfl (Nat.le_of_ble_eq_true rfl) dX8_closed_19 ⟨by decide, by decide⟩ (fun z2 u' hq => ?_)
        obtain ⟨hz2, rfl⟩ := hq
        refine j_iadd h dX8_closed_22 ?_
        refine j_istore_n h (lv' := [(1, _), (0, _), (2, _)]) dX8_closed_23 rfl (by decide) rfl ?_
        refine j_iinc h (v := nI (k + 1)) (lv' := [(2, _), (1, _), (0, _)]) dX8_closed_24 (k := 2) rfl (nI_1 k) (by decide) rfl ?_
        refine j_goto h (tgt := 4) dX8_closed_27 (by decide) ?_
        refine j_sub h [2, 1, 0] rfl ?_
        exact ih (k + 1) _ (by omega) (by omega) (fun z hz => hf z (hz.trans (Eq.symm ((ite_n c1 (bd_eq hz2 rfl))))))
  refine j_sub h [2, 1, 0] rfl ?_
  refine lp4 5 0 _ (by omega) (by omega) (fun z3 hz3 => ?_)
  refine j_iload_n h dX8_closed_30 rfl 1 rfl ?_
  exact hR _ _ _ _ dX8_closed_31 ⟨Eq.symm ((bd_eq hz3 rfl)), rfl⟩

def f_X8_atPlace_l30 (X : Nat → Int32) (A : Nat → Nat → Int32) (p1 : Int32) (p2 : Int32) (k : Nat) : Nat → Nat → Int32 → Int32
  | 0, _, bef => bef
  | n + 1, j, bef =>
    if (A 0 4) ≤ (nI j) then
      bef
    else
      bd (f_X8_liesOn X A (nI j) p1) fun z5 =>
      if z5 = 0 then
        f_X8_atPlace_l30 X A p1 p2 k n (j + 1) bef
      else
        bd (f_X8_distance X A (nI j)) fun z7 =>
        bd (f_X8_distance X A (nI k)) fun z8 =>
        if z7 < z8 then
          f_X8_atPlace_l30 X A p1 p2 k n (j + 1) (bef + 1)
        else
          if (nI k) ≤ (nI j) then
            f_X8_atPlace_l30 X A p1 p2 k n (j + 1) bef
          else
            bd (f_X8_distance X A (nI j)) fun z11 =>
            bd (f_X8_distance X A (nI k)) fun z12 =>
            if z11 = z12 then
              f_X8_atPlace_l30 X A p1 p2 k n (j + 1) (bef + 1)
            else
              f_X8_atPlace_l30 X A p1 p2 k n (j + 1) bef
def f_X8_atPlace_l2 (X : Nat → Int32) (A : Nat → Nat → Int32) (p1 : Int32) (p2 : Int32) : Nat → Nat → Int32
  | 0, _ => 0
  | n + 1, k =>
    if (A 0 4) ≤ (nI k) then
      (-4)
    else
      bd (f_X8_liesOn X A (nI k) p1) fun z2 =>
      if z2 = 0 then
        f_X8_atPlace_l2 X A p1 p2 n (k + 1) 
      else
        bd (f_X8_atPlace_l30 X A p1 p2 k 17 0 0) fun z14 =>
        if z14 = p2 then
          (nI k)
        else
          f_X8_atPlace_l2 X A p1 p2 n (k + 1) 
def f_X8_atPlace (X : Nat → Int32) (A : Nat → Nat → Int32) (p1 : Int32) (p2 : Int32) : Int32 :=
  f_X8_atPlace_l2 X A p1 p2 17 0 
abbrev rm_X8_atPlace : Room := { frames := 3, cells := 0, slots := 0, locals := 68 }
set_option maxRecDepth 100000 in
set_option maxHeartbeats 4000000 in
theorem c_X8_atPlace (l : Launch) (D : gD) (cy : Nat → ClassId) (ad : Nat → Nat) (X : Nat → Int32) (A : Nat → Nat → Int32) (p1 : Int32) (p2 : Int32) (hI : MI A) : CtI l D cy (MW cy ad) yX8_atPlace cX8_atPlace 6 (some .int) rm_X8_atPlace [.ref (ad 0), .int p1, .int p2] (X, A) (fun rv u => rv = f_X8_atPlace X A p1 p2 ∧ u = (X, A)) 0 0 := by
  refine m_entI cX8_atPlace 6 (by decide) (Nat.le_of_ble_eq_true rfl) (fun J h hR => ?_)
  show J (X, A) (0, 0) [(0, .ref (ad 0)), (1, .int p1), (2, .int p2)] 0 []
  refine j_iconst h (v := 0) dX8_atPlace_0 (by decide) ?_
  refine j_istore_n h (lv' := [(3, _), (0, _), (1, _), (2, _)]) dX8_atPlace_1 rfl (by decide) rfl ?_
  have lp2 : ∀ (n k : Nat) , n + k = 17 → k ≤ 16 → f_X8_atPlace X A p1 p2 = f_X8_atPlace_l2 X A p1 p2 n k  → J (X, A) (0, 0) [(0, .ref (ad 0)), (1, .int p1), (2, .int p2), (3, .int (nI k))] 2 [] := by
    intro n
    induction n with
    | zero => intro k  hn hk hf; omega
    | succ n ih =>
      intro k  hn hk hf
      refine j_iload_n h dX8_atPlace_2 rfl 3 rfl ?_
      refine j_aload_n h dX8_atPlace_3 rfl 0 rfl ?_
      refine j_get h inlX8 0 rfl rfl 0 (by decide) (xr_6 7 rfl) rfl (v := .ref (ad 1)) rfl dX8_atPlace_4 ?_
      refine j_iconst h (v := 4) dX8_atPlace_7 (by decide) ?_
      refine j_ialdE h 1 rfl 4 rfl (by decide) (by decide) dX8_atPlace_8 ?_
      refine j_icmp_ge h (tgt := 108) dX8_atPlace_9 (by decide) (fun c1 => ?_) (fun c1 => ?_)
      · refine j_bipush h (v := (-4)) dX8_atPlace_108 (by decide) ?_
        exact hR _ _ _ _ dX8_atPlace_110 ⟨Eq.symm (hf.trans ((ite_p c1 rfl))), rfl⟩
      · have hk1 : k < 16 := cnt_lt (by decide) hk hI.w c1
        refine j_aload_n h dX8_atPlace_12 rfl 0 rfl ?_
        refine j_iload_n h dX8_atPlace_13 rfl 3 rfl ?_
        refine j_iload_n h dX8_atPlace_14 rfl 1 rfl ?_
        refine j_callI h (n := 2) (c_X8_liesOn l D cy ad _ _ _ _ (vp_in_nI (by omega) (by decide))) (xg_V (xr_27 10 rfl) (xr_27 11 rfl) (xr_27 12 rfl) (xr_1 5 rfl) (xr_27 13 rfl)) rfl rfl (by decide +kernel) ⟨Nat.le_of_ble_eq_true rfl, Nat.le_of_ble_eq_true rfl⟩ 0 rfl rfl rfl rfl rfl (Nat.le_of_ble_eq_true rfl) dX8_atPlace_15 ⟨by decide, by decide⟩ (fun z2 u' hq => ?_)
        obtain ⟨hz2, rfl, bz2⟩ := hq
        refine j_if_ne h (tgt := 24) dX8_atPlace_18 (by decide) (fun c3 => ?_) (fun c3 => ?_)
        · refine j_iconst h (v := 0) dX8_atPlace_24 (by decide) ?_
          refine j_istore h (lv' := [(4, _), (0, _), (1, _), (2, _), (3, _)]) dX8_atPlace_25 (by decide) rfl ?_
          refine j_iconst h (v := 0) dX8_atPlace_27 (by decide) ?_
          refine j_istore h (lv' := [(5, _), (4, _), (0, _), (1, _), (2, _), (3, _)]) dX8_atPlace_28 (by decide) rfl ?_
          have lp30 : ∀ (n j : Nat) (bef : Int32), n + j = 17 → j ≤ 16 → (∀ z : Int32, z = f_X8_atPlace_l30 X A p1 p2 k n j bef → J (X, A) (0, 0) [(0, .ref (ad 0)), (1, .int p1), (2, .int p2), (3, .int (nI k)), (4, .int z)] 94 []) → J (X, A) (0, 0) [(0, .ref (ad 0)), (1, .int p1), (2, .int p2), (3, .int (nI k)), (4, .int bef), (5, .int (nI j))] 30 [] := by
            intro n
            induction n with
            | zero => intro j bef hn hkj hf; omega
            | succ n ih =>
              intro j bef hn hkj hf
              refine j_iload h dX8_atPlace_30 5 rfl ?_
              refine j_aload_n h dX8_atPlace_32 rfl 0 rfl ?_
              refine j_get h inlX8 0 rfl rfl 0 (by decide) (xr_6 7 rfl) rfl (v := .ref (ad 1)) rfl dX8_atPlace_33 ?_
              refine j_iconst h (v := 4) dX8_atPlace_36 (by decide) ?_
              refine j_ialdE h 1 rfl 4 rfl (by decide) (by decide) dX8_atPlace_37 ?_
              refine j_icmp_ge h (tgt := 94) dX8_atPlace_38 (by decide) (fun c4 => ?_) (fun c4 => ?_)
              · refine j_sub h [0, 1, 2, 3, 4] rfl ?_
                exact hf _ (Eq.symm ((ite_p c4 rfl)))
              · have hj1 : j < 16 := cnt_lt (by decide) hkj hI.w c4
                refine j_aload_n h dX8_atPlace_41 rfl 0 rfl ?_
                refine j_iload h dX8_atPlace_42 5 rfl ?_
                refine j_iload_n h dX8_atPlace_44 rfl 1 rfl ?_
                refine j_callI h (n := 2) (c_X8_liesOn l D cy ad _ _ _ _ (vp_in_nI (by omega) (by decide))) (xg_V (xr_27 10 rfl) (xr_27 11 rfl) (xr_27 12 rfl) (xr_1 5 rfl) (xr_27 13 rfl)) rfl rfl (by decide +kernel) ⟨Nat.le_of_ble_eq_true rfl, Nat.le_of_ble_eq_true rfl⟩ 0 rfl rfl rfl rfl rfl (Nat.le_of_ble_eq_true rfl) dX8_atPlace_45 ⟨by decide, by decide⟩ (fun z5 u' hq => ?_)
                obtain ⟨hz5, rfl, bz5⟩ := hq
                refine j_if_eq h (tgt := 88) dX8_atPlace_48 (by decide) (fun c6 => ?_) (fun c6 => ?_)
                · refine j_iinc h (v := nI (j + 1)) (lv' := [(5, _), (0, _), (1, _), (2, _), (3, _), (4, _)]) dX8_atPlace_88 (k := 5) rfl (nI_1 j) (by decide) rfl ?_
                  refine j_goto h (tgt := 30) dX8_atPlace_91 (by decide) ?_
                  refine j_sub h [1, 2, 3, 4, 5, 0] rfl ?_
                  exact ih (j + 1) _ (by omega) (by omega) (fun z hz => hf z (hz.trans (Eq.symm ((ite_n c4 (bd_eq hz5 (ite_p c6 rfl)))))))
                · refine j_aload_n h dX8_atPlace_51 rfl 0 rfl ?_
                  refine j_iload h dX8_atPlace_52 5 rfl ?_
                  refine j_callI h (n := 1) (c_X8_distance l D cy ad _ _ _ (vp_in_nI (by omega) (by decide)) hI) (xg_V (xr_24 20 rfl) (xr_24 21 rfl) (xr_24 22 rfl) (xr_1 5 rfl) (xr_24 23 rfl)) rfl rfl (by decide +kernel) ⟨Nat.le_of_ble_eq_true rfl, Nat.le_of_ble_eq_true rfl⟩ 0 rfl rfl rfl rfl rfl (Nat.le_of_ble_eq_true rfl) dX8_atPlace_54 ⟨by decide, by decide⟩ (fun z7 u' hq => ?_)
                  obtain ⟨hz7, rfl⟩ := hq
                  refine j_aload_n h dX8_atPlace_57 rfl 0 rfl ?_
                  refine j_iload_n h dX8_atPlace_58 rfl 3 rfl ?_
                  refine j_callI h (n := 1) (c_X8_distance l D cy ad _ _ _ (vp_in_nI (by omega) (by decide)) hI) (xg_V (xr_24 20 rfl) (xr_24 21 rfl) (xr_24 22 rfl) (xr_1 5 rfl) (xr_24 23 rfl)) rfl rfl (by decide +kernel) ⟨Nat.le_of_ble_eq_true rfl, Nat.le_of_ble_eq_true rfl⟩ 0 rfl rfl rfl rfl rfl (Nat.le_of_ble_eq_true rfl) dX8_atPlace_59 ⟨by decide, by decide⟩ (fun z8 u' hq => ?_)
                  obtain ⟨hz8, rfl⟩ := hq
                  refine j_icmp_lt h (tgt := 85) dX8_atPlace_62 (by decide) (fun c9 => ?_) (fun c9 => ?_)
                  · refine j_iinc h (v := bef + 1) (lv' := [(4, _), (0, _), (1, _), (2, _), (3, _), (5, _)]) dX8_atPlace_85 (k := 4) rfl rfl (by decide) rfl ?_
                    refine j_iinc h (v := nI (j + 1)) (lv' := [(5, _), (4, _), (0, _), (1, _), (2, _), (3, _)]) dX8_atPlace_88 (k := 5) rfl (nI_1 j) (by decide) rfl ?_
                    refine j_goto h (tgt := 30) dX8_atPlace_91 (by decide) ?_
                    refine j_sub h [2, 3, 4, 5, 1, 0] rfl ?_
                    exact ih (j + 1) _ (by omega) (by omega) (fun z hz => hf z (hz.trans (Eq.symm ((ite_n c4 (bd_eq hz5 (ite_n c6 (bd_eq hz7 (bd_eq hz8 (ite_p c9 rfl))))))))))
                  · refine j_iload h dX8_atPlace_65 5 rfl ?_
                    refine j_iload_n h dX8_atPlace_67 rfl 3 rfl ?_
                    refine j_icmp_ge h (tgt := 88) dX8_atPlace_68 (by decide) (fun c10 => ?_) (fun c10 => ?_)
                    · refine j_iinc h (v := nI (j + 1)) (lv' := [(5, _), (0, _), (1, _), (2, _), (3, _), (4, _)]) dX8_atPlace_88 (k := 5) rfl (nI_1 j) (by decide) rfl ?_
                      refine j_goto h (tgt := 30) dX8_atPlace_91 (by decide) ?_
                      refine j_sub h [1, 2, 3, 4, 5, 0] rfl ?_
                      exact ih (j + 1) _ (by omega) (by omega) (fun z hz => hf z (hz.trans (Eq.symm ((ite_n c4 (bd_eq hz5 (ite_n c6 (bd_eq hz7 (bd_eq hz8 (ite_n c9 (ite_p c10 rfl)))))))))))
                    · refine j_aload_n h dX8_atPlace_71 rfl 0 rfl ?_
                      refine j_iload h dX8_atPlace_72 5 rfl ?_
                      refine j_callI h (n := 1) (c_X8_distance l D cy ad _ _ _ (vp_in_nI (by omega) (by decide)) hI) (xg_V (xr_24 20 rfl) (xr_24 21 rfl) (xr_24 22 rfl) (xr_1 5 rfl) (xr_24 23 rfl)) rfl rfl (by decide +kernel) ⟨Nat.le_of_ble_eq_true rfl, Nat.le_of_ble_eq_true rfl⟩ 0 rfl rfl rfl rfl rfl (Nat.le_of_ble_eq_true rfl) dX8_atPlace_74 ⟨by decide, by decide⟩ (fun z11 u' hq => ?_)
                      obtain ⟨hz11, rfl⟩ := hq
                      refine j_aload_n h dX8_atPlace_77 rfl 0 rfl ?_
                      refine j_iload_n h dX8_atPlace_78 rfl 3 rfl ?_
                      refine j_callI h (n := 1) (c_X8_distance l D cy ad _ _ _ (vp_in_nI (by omega) (by decide)) hI) (xg_V (xr_24 20 rfl) (xr_24 21 rfl) (xr_24 22 rfl) (xr_1 5 rfl) (xr_24 23 rfl)) rfl rfl (by decide +kernel) ⟨Nat.le_of_ble_eq_true rfl, Nat.le_of_ble_eq_true rfl⟩ 0 rfl rfl rfl rfl rfl (Nat.le_of_ble_eq_true rfl) dX8_atPlace_79 ⟨by decide, by decide⟩ (fun z12 u' hq => ?_)
                      obtain ⟨hz12, rfl⟩ := hq
                      refine j_icmp_ne h (tgt := 88) dX8_atPlace_82 (by decide) (fun c13 => ?_) (fun c13 => ?_)
                      · refine j_iinc h (v := nI (j + 1)) (lv' := [(5, _), (0, _), (1, _), (2, _), (3, _), (4, _)]) dX8_atPlace_88 (k := 5) rfl (nI_1 j) (by decide) rfl ?_
                        refine j_goto h (tgt := 30) dX8_atPlace_91 (by decide) ?_
                        refine j_sub h [1, 2, 3, 4, 5, 0] rfl ?_
                        exact ih (j + 1) _ (by omega) (by omega) (fun z hz => hf z (hz.trans (Eq.symm ((ite_n c4 (bd_eq hz5 (ite_n c6 (bd_eq hz7 (bd_eq hz8 (ite_n c9 (ite_n c10 (bd_eq hz11 (bd_eq hz12 (ite_n c13 rfl))))))))))))))
                      · refine j_iinc h (v := bef + 1) (lv' := [(4, _), (0, _), (1, _), (2, _), (3, _), (5, _)]) dX8_atPlace_85 (k := 4) rfl rfl (by decide) rfl ?_
                        refine j_iinc h (v := nI (j + 1)) (lv' := [(5, _), (4, _), (0, _), (1, _), (2, _), (3, _)]) dX8_atPlace_88 (k := 5) rfl (nI_1 j) (by decide) rfl ?_
                        refine j_goto h (tgt := 30) dX8_atPlace_91 (by decide) ?_
                        refine j_sub h [2, 3, 4, 5, 1, 0] rfl ?_
                        exact ih (j + 1) _ (by omega) (by omega) (fun z hz => hf z (hz.trans (Eq.symm ((ite_n c4 (bd_eq hz5 (ite_n c6 (bd_eq hz7 (bd_eq hz8 (ite_n c9 (ite_n c10 (bd_eq hz11 (bd_eq hz12 (ite_p c13 rfl))))))))))))))
          refine j_sub h [2, 3, 4, 5, 1, 0] rfl ?_
          refine lp30 17 0 _ (by omega) (by omega) (fun z14 hz14 => ?_)
          refine j_iload h dX8_atPlace_94 4 rfl ?_
          refine j_iload_n h dX8_atPlace_96 rfl 2 rfl ?_
          refine j_icmp_ne h (tgt := 102) dX8_atPlace_97 (by decide) (fun c15 => ?_) (fun c15 => ?_)
          · refine j_iinc h (v := nI (k + 1)) (lv' := [(3, _), (0, _), (1, _), (2, _), (4, _)]) dX8_atPlace_102 (k := 3) rfl (nI_1 k) (by decide) rfl ?_
            refine j_goto h (tgt := 2) dX8_atPlace_105 (by decide) ?_
            refine j_sub h [1, 2, 3, 0] rfl ?_
            exact ih (k + 1)  (by omega) (by omega) (hf.trans ((ite_n c1 (bd_eq hz2 (ite_n c3 (bd_eq hz14 (ite_n c15 rfl)))))))
          · refine j_iload_n h dX8_atPlace_100 rfl 3 rfl ?_
            exact hR _ _ _ _ dX8_atPlace_101 ⟨Eq.symm (hf.trans ((ite_n c1 (bd_eq hz2 (ite_n c3 (bd_eq hz14 (ite_p c15 rfl))))))), rfl⟩
        · refine j_goto h (tgt := 102) dX8_atPlace_21 (by decide) ?_
          refine j_iinc h (v := nI (k + 1)) (lv' := [(3, _), (0, _), (1, _), (2, _)]) dX8_atPlace_102 (k := 3) rfl (nI_1 k) (by decide) rfl ?_
          refine j_goto h (tgt := 2) dX8_atPlace_105 (by decide) ?_
          refine j_sub h [1, 2, 3, 0] rfl ?_
          exact ih (k + 1)  (by omega) (by omega) (hf.trans ((ite_n c1 (bd_eq hz2 (ite_p c3 rfl)))))
  refine j_sub h [1, 2, 3, 0] rfl ?_
  exact lp2 17 0  (by omega) (by omega) (rfl)

def f_X8_rinkAt_l17 (X : Nat → Int32) (A : Nat → Nat → Int32) (p1 : Int32) (k : Nat) : Nat → Nat → Int32 → Int32
  | 0, _, bef => bef
  | n + 1, j, bef =>
    if (A 0 3) ≤ (nI j) then
      bef
    else
      bd (f_X8_ofRink X A (nI j) 0) fun z3 =>
      bd (f_X8_ofRink X A (nI k) 0) fun z4 =>
      if z4 ≤ z3 then
        f_X8_rinkAt_l17 X A p1 k n (j + 1) bef
      else
        f_X8_rinkAt_l17 X A p1 k n (j + 1) (bef + 1)
def f_X8_rinkAt_l2 (X : Nat → Int32) (A : Nat → Nat → Int32) (p1 : Int32) : Nat → Nat → Int32
  | 0, _ => 0
  | n + 1, k =>
    if (A 0 3) ≤ (nI k) then
      (-1)
    else
      bd (f_X8_rinkAt_l17 X A p1 k 5 0 0) fun z6 =>
      if z6 = p1 then
        (nI k)
      else
        f_X8_rinkAt_l2 X A p1 n (k + 1) 
def f_X8_rinkAt (X : Nat → Int32) (A : Nat → Nat → Int32) (p1 : Int32) : Int32 :=
  f_X8_rinkAt_l2 X A p1 5 0 
abbrev rm_X8_rinkAt : Room := { frames := 1, cells := 0, slots := 0, locals := 22 }
set_option maxRecDepth 100000 in
set_option maxHeartbeats 4000000 in
theorem c_X8_rinkAt (l : Launch) (D : gD) (cy : Nat → ClassId) (ad : Nat → Nat) (X : Nat → Int32) (A : Nat → Nat → Int32) (p1 : Int32) (hI : MI A) : CtI l D cy (MW cy ad) yX8_rinkAt cX8_rinkAt 5 (some .int) rm_X8_rinkAt [.ref (ad 0), .int p1] (X, A) (fun rv u => rv = f_X8_rinkAt X A p1 ∧ u = (X, A)) 0 0 := by
  refine m_entI cX8_rinkAt 5 (by decide) (Nat.le_of_ble_eq_true rfl) (fun J h hR => ?_)
  show J (X, A) (0, 0) [(0, .ref (ad 0)), (1, .int p1)] 0 []
  refine j_iconst h (v := 0) dX8_rinkAt_0 (by decide) ?_
  refine j_istore_n h (lv' := [(2, _), (0, _), (1, _)]) dX8_rinkAt_1 rfl (by decide) rfl ?_
  have lp2 : ∀ (n k : Nat) , n + k = 5 → k ≤ 4 → f_X8_rinkAt X A p1 = f_X8_rinkAt_l2 X A p1 n k  → J (X, A) (0, 0) [(0, .ref (ad 0)), (1, .int p1), (2, .int (nI k))] 2 [] := by
    intro n
    induction n with
    | zero => intro k  hn hk hf; omega
    | succ n ih =>
      intro k  hn hk hf
      refine j_iload_n h dX8_rinkAt_2 rfl 2 rfl ?_
      refine j_aload_n h dX8_rinkAt_3 rfl 0 rfl ?_
      refine j_get h inlX8 0 rfl rfl 0 (by decide) (xr_6 7 rfl) rfl (v := .ref (ad 1)) rfl dX8_rinkAt_4 ?_
      refine j_iconst h (v := 3) dX8_rinkAt_7 (by decide) ?_
      refine j_ialdE h 1 rfl 3 rfl (by decide) (by decide) dX8_rinkAt_8 ?_
      refine j_icmp_ge h (tgt := 66) dX8_rinkAt_9 (by decide) (fun c1 => ?_) (fun c1 => ?_)
      · refine j_iconst h (v := (-1)) dX8_rinkAt_66 (by decide) ?_
        exact hR _ _ _ _ dX8_rinkAt_67 ⟨Eq.symm (hf.trans ((ite_p c1 rfl))), rfl⟩
      · have hk1 : k < 4 := cnt_lt (by decide) hk hI.r c1
        refine j_iconst h (v := 0) dX8_rinkAt_12 (by decide) ?_
        refine j_istore_n h (lv' := [(3, _), (0, _), (1, _), (2, _)]) dX8_rinkAt_13 rfl (by decide) rfl ?_
        refine j_iconst h (v := 0) dX8_rinkAt_14 (by decide) ?_
        refine j_istore h (lv' := [(4, _), (3, _), (0, _), (1, _), (2, _)]) dX8_rinkAt_15 (by decide) rfl ?_
        have lp17 : ∀ (n j : Nat) (bef : Int32), n + j = 5 → j ≤ 4 → (∀ z : Int32, z = f_X8_rinkAt_l17 X A p1 k n j bef → J (X, A) (0, 0) [(0, .ref (ad 0)), (1, .int p1), (2, .int (nI k)), (3, .int z)] 53 []) → J (X, A) (0, 0) [(0, .ref (ad 0)), (1, .int p1), (2, .int (nI k)), (3, .int bef), (4, .int (nI j))] 17 [] := by
          intro n
          induction n with
          | zero => intro j bef hn hkj hf; omega
          | succ n ih =>
            intro j bef hn hkj hf
            refine j_iload h dX8_rinkAt_17 4 rfl ?_
            refine j_aload_n h dX8_rinkAt_19 rfl 0 rfl ?_
            refine j_get h inlX8 0 rfl rfl 0 (by decide) (xr_6 7 rfl) rfl (v := .ref (ad 1)) rfl dX8_rinkAt_20 ?_
            refine j_iconst h (v := 3) dX8_rinkAt_23 (by decide) ?_
            refine j_ialdE h 1 rfl 3 rfl (by decide) (by decide) dX8_rinkAt_24 ?_
            refine j_icmp_ge h (tgt := 53) dX8_rinkAt_25 (by decide) (fun c2 => ?_) (fun c2 => ?_)
            · refine j_sub h [0, 1, 2, 3] rfl ?_
              exact hf _ (Eq.symm ((ite_p c2 rfl)))
            · have hj1 : j < 4 := cnt_lt (by decide) hkj hI.r c2
              refine j_aload_n h dX8_rinkAt_28 rfl 0 rfl ?_
              refine j_iload h dX8_rinkAt_29 4 rfl ?_
              refine j_iconst h (v := 0) dX8_rinkAt_31 (by decide) ?_
              refine j_callI h (n := 2) (c_X8_ofRink l D cy ad _ _ _ _ (vp_in_nI (by omega) (by decide)) (vp_in_nI (by decide) (by decide))) (xg_V (xr_16 15 rfl) (xr_16 16 rfl) (xr_16 17 rfl) (xr_1 5 rfl) (xr_16 18 rfl)) rfl rfl (by decide +kernel) ⟨Nat.le_of_ble_eq_true rfl, Nat.le_of_ble_eq_true rfl⟩ 0 rfl rfl rfl rfl rfl (Nat.le_of_ble_eq_true rfl) dX8_rinkAt_32 ⟨by decide, by decide⟩ (fun z3 u' hq => ?_)
              obtain ⟨hz3, rfl⟩ := hq
              refine j_aload_n h dX8_rinkAt_35 rfl 0 rfl ?_
              refine j_iload_n h dX8_rinkAt_36 rfl 2 rfl ?_
              refine j_iconst h (v := 0) dX8_rinkAt_37 (by decide) ?_
              refine j_callI h (n := 2) (c_X8_ofRink l D cy ad _ _ _ _ (vp_in_nI (by omega) (by decide)) (vp_in_nI (by decide) (by decide))) (xg_V (xr_16 15 rfl) (xr_16 16 rfl) (xr_16 17 rfl) (xr_1 5 rfl) (xr_16 18 rfl)) rfl rfl (by decide +kernel) ⟨Nat.le_of_ble_eq_true rfl, Nat.le_of_ble_eq_true rfl⟩ 0 rfl rfl rfl rfl rfl (Nat.le_of_ble_eq_true rfl) dX8_rinkAt_38 ⟨by decide, by decide⟩ (fun z4 u' hq => ?_)
              obtain ⟨hz4, rfl⟩ := hq
              refine j_icmp_ge h (tgt := 47) dX8_rinkAt_41 (by decide) (fun c5 => ?_) (fun c5 => ?_)
              · refine j_iinc h (v := nI (j + 1)) (lv' := [(4, _), (0, _), (1, _), (2, _), (3, _)]) dX8_rinkAt_47 (k := 4) rfl (nI_1 j) (by decide) rfl ?_
                refine j_goto h (tgt := 17) dX8_rinkAt_50 (by decide) ?_
                refine j_sub h [1, 2, 3, 4, 0] rfl ?_
                exact ih (j + 1) _ (by omega) (by omega) (fun z hz => hf z (hz.trans (Eq.symm ((ite_n c2 (bd_eq hz3 (bd_eq hz4 (ite_p c5 rfl))))))))
              · refine j_iinc h (v := bef + 1) (lv' := [(3, _), (0, _), (1, _), (2, _), (4, _)]) dX8_rinkAt_44 (k := 3) rfl rfl (by decide) rfl ?_
                refine j_iinc h (v := nI (j + 1)) (lv' := [(4, _), (3, _), (0, _), (1, _), (2, _)]) dX8_rinkAt_47 (k := 4) rfl (nI_1 j) (by decide) rfl ?_
                refine j_goto h (tgt := 17) dX8_rinkAt_50 (by decide) ?_
                refine j_sub h [2, 3, 4, 1, 0] rfl ?_
                exact ih (j + 1) _ (by omega) (by omega) (fun z hz => hf z (hz.trans (Eq.symm ((ite_n c2 (bd_eq hz3 (bd_eq hz4 (ite_n c5 rfl))))))))
        refine j_sub h [2, 3, 4, 1, 0] rfl ?_
        refine lp17 5 0 _ (by omega) (by omega) (fun z6 hz6 => ?_)
        refine j_iload_n h dX8_rinkAt_53 rfl 3 rfl ?_
        refine j_iload_n h dX8_rinkAt_54 rfl 1 rfl ?_
        refine j_icmp_ne h (tgt := 60) dX8_rinkAt_55 (by decide) (fun c7 => ?_) (fun c7 => ?_)
        · refine j_iinc h (v := nI (k + 1)) (lv' := [(2, _), (0, _), (1, _), (3, _)]) dX8_rinkAt_60 (k := 2) rfl (nI_1 k) (by decide) rfl ?_
          refine j_goto h (tgt := 2) dX8_rinkAt_63 (by decide) ?_
          refine j_sub h [1, 2, 0] rfl ?_
          exact ih (k + 1)  (by omega) (by omega) (hf.trans ((ite_n c1 (bd_eq hz6 (ite_n c7 rfl)))))
        · refine j_iload_n h dX8_rinkAt_58 rfl 2 rfl ?_
          exact hR _ _ _ _ dX8_rinkAt_59 ⟨Eq.symm (hf.trans ((ite_n c1 (bd_eq hz6 (ite_p c7 rfl))))), rfl⟩
  refine j_sub h [1, 2, 0] rfl ?_
  exact lp2 5 0  (by omega) (by omega) (rfl)

def f_X8_does (X : Nat → Int32) (A : Nat → Nat → Int32) (p1 : Int32) : Int32 × (Nat → Int32) :=
  (0, upd X 17 p1)
abbrev rm_X8_does : Room := { frames := 0, cells := 0, slots := 0, locals := 0 }
set_option maxRecDepth 100000 in
set_option maxHeartbeats 4000000 in
theorem c_X8_does (l : Launch) (D : gD) (cy : Nat → ClassId) (ad : Nat → Nat) (X : Nat → Int32) (A : Nat → Nat → Int32) (p1 : Int32)  : CtI l D cy (MW cy ad) yX8_does cX8_does 2 (some .int) rm_X8_does [.ref (ad 0), .int p1] (X, A) (fun rv u => ∃ z : Int32 × ((Nat → Int32)), z = f_X8_does X A p1 ∧ rv = z.1 ∧ u = (z.2, A)) 0 0 := by
  refine m_entI cX8_does 2 (by decide) (Nat.le_of_ble_eq_true rfl) (fun J h hR => ?_)
  show J (X, A) (0, 0) [(0, .ref (ad 0)), (1, .int p1)] 0 []
  refine j_aload_n h dX8_does_0 rfl 0 rfl ?_
  refine j_iload_n h dX8_does_1 rfl 1 rfl ?_
  refine j_put h inlX8 tyX8 tyX8_ok nmX8 0 rfl rfl 17 (by decide) (xr_21 0 rfl) rfl rfl rfl rfl (Nat.le_of_ble_eq_true rfl) dX8_does_2 (u' := (upd X 17 p1, A)) rfl ?_
  refine j_iconst h (v := 0) dX8_does_5 (by decide) ?_
  exact hR _ _ _ _ dX8_does_6 ⟨(_, _), Eq.symm (rfl), rfl, rfl⟩

def f_X8_refuses (X : Nat → Int32) (A : Nat → Nat → Int32) (p1 : Int32) (p2 : Int32) : Int32 × (Nat → Int32) × (Nat → Nat → Int32) :=
  ((-3), (upd X 16 1, up2 (up2 A 7 0 p1) 7 1 p2))
abbrev rm_X8_refuses : Room := { frames := 0, cells := 0, slots := 0, locals := 0 }
set_option maxRecDepth 100000 in
set_option maxHeartbeats 4000000 in
theorem c_X8_refuses (l : Launch) (D : gD) (cy : Nat → ClassId) (ad : Nat → Nat) (X : Nat → Int32) (A : Nat → Nat → Int32) (p1 : Int32) (p2 : Int32)  : CtI l D cy (MW cy ad) yX8_refuses cX8_refuses 3 (some .int) rm_X8_refuses [.ref (ad 0), .int p1, .int p2] (X, A) (fun rv u => ∃ z : Int32 × ((Nat → Int32) × (Nat → Nat → Int32)), z = f_X8_refuses X A p1 p2 ∧ rv = z.1 ∧ u = z.2) 0 0 := by
  refine m_entI cX8_refuses 3 (by decide) (Nat.le_of_ble_eq_true rfl) (fun J h hR => ?_)
  show J (X, A) (0, 0) [(0, .ref (ad 0)), (1, .int p1), (2, .int p2)] 0 []
  refine j_aload_n h dX8_refuses_0 rfl 0 rfl ?_
  refine j_get h inlX8 0 rfl rfl 15 (by decide) (xr_6 16 rfl) rfl (v := .ref (ad 8)) rfl dX8_refuses_1 ?_
  refine j_iconst h (v := 0) dX8_refuses_4 (by decide) ?_
  refine j_iload_n h dX8_refuses_5 rfl 1 rfl ?_
  refine j_iastE h 8 rfl 0 rfl (by decide) (by decide) dX8_refuses_6 (u' := (X, up2 A 7 0 p1)) rfl ?_
  refine j_aload_n h dX8_refuses_7 rfl 0 rfl ?_
  refine j_get h inlX8 0 rfl rfl 15 (by decide) (xr_6 16 rfl) rfl (v := .ref (ad 8)) rfl dX8_refuses_8 ?_
  refine j_iconst h (v := 1) dX8_refuses_11 (by decide) ?_
  refine j_iload_n h dX8_refuses_12 rfl 2 rfl ?_
  refine j_iastE h 8 rfl 1 rfl (by decide) (by decide) dX8_refuses_13 (u' := (X, up2 (up2 A 7 0 p1) 7 1 p2)) rfl ?_
  refine j_aload_n h dX8_refuses_14 rfl 0 rfl ?_
  refine j_iconst h (v := 1) dX8_refuses_15 (by decide) ?_
  refine j_put h inlX8 tyX8 tyX8_ok nmX8 0 rfl rfl 16 (by decide) (xr_16 14 rfl) rfl rfl rfl rfl (Nat.le_of_ble_eq_true rfl) dX8_refuses_16 (u' := (upd X 16 1, up2 (up2 A 7 0 p1) 7 1 p2)) rfl ?_
  refine j_bipush h (v := (-3)) dX8_refuses_19 (by decide) ?_
  exact hR _ _ _ _ dX8_refuses_21 ⟨(_, _), Eq.symm (rfl), rfl, rfl⟩

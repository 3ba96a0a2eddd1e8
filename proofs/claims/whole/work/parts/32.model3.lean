theorem MI_of {A A' : Nat → Nat → Int32} (h : MI A) (e : ∀ j, (j = 3 ∨ j = 4 ∨ 57 ≤ j) → A' 0 j = A 0 j) (e5 : A' 5 = A 5) : MI A' := by
  refine ⟨?_, ?_, fun w hw => ?_, fun w hw => ?_, fun j hj => by rw [e5]; exact h.2.2.2.2 j hj⟩
  · rw [e 3 (by omega)]; exact h.1
  · rw [e 4 (by omega)]; exact h.2.1
  · rw [e _ (by omega)]; exact h.2.2.1 w hw
  · rw [e _ (by omega)]; exact h.2.2.2.1 w hw
theorem up2_0 {A : Nat → Nat → Int32} {i j k : Nat} {v : Int32} (h : k ≠ j) : up2 A i j v i k = A i k := by rw [up2_eq, upd_ne _ _ h]
theorem up2_k {A : Nat → Nat → Int32} {i i' j k : Nat} {v : Int32} (h : i' ≠ i) : up2 A i j v i' k = A i' k := by rw [up2_ne _ _ _ h]
theorem MI_up {A : Nat → Nat → Int32} {j : Nat} {v : Int32} (h : MI A) (h3 : j ≠ 3) (h4 : j ≠ 4) (h5 : j < 57) : MI (up2 A 0 j v) := MI_of h (fun i hi => up2_0 (by omega)) rfl
theorem MI_ne {A : Nat → Nat → Int32} {k j : Nat} {v : Int32} (h : MI A) (hk : k ≠ 0) (h5 : k ≠ 5) : MI (up2 A k j v) := MI_of h (fun i hi => up2_k (by omega)) (up2_ne _ _ _ (by omega))
theorem MI_c3 {A : Nat → Nat → Int32} {v : Int32} (h : MI A) (hv : vp_in v 5) : MI (up2 A 0 3 v) := by
  refine ⟨?_, ?_, fun w hw => ?_, fun w hw => ?_, h.2.2.2.2⟩
  · rw [up2_eq, upd_eq]; exact hv
  · rw [up2_0 (by omega)]; exact h.2.1
  · rw [up2_0 (by omega)]; exact h.2.2.1 w hw
  · rw [up2_0 (by omega)]; exact h.2.2.2.1 w hw
theorem MI_c4 {A : Nat → Nat → Int32} {v : Int32} (h : MI A) (hv : vp_in v 17) : MI (up2 A 0 4 v) := by
  refine ⟨?_, ?_, fun w hw => ?_, fun w hw => ?_, h.2.2.2.2⟩
  · rw [up2_0 (by omega)]; exact h.1
  · rw [up2_eq, upd_eq]; exact hv
  · rw [up2_0 (by omega)]; exact h.2.2.1 w hw
  · rw [up2_0 (by omega)]; exact h.2.2.2.1 w hw
theorem MI_wd {A : Nat → Nat → Int32} {w k : Nat} {v : Int32} (h : MI A) (hk : k < 7) (h3 : k = 3 → vp_in v 4) (h0 : k = 0 → vp_in v 2) : MI (up2 A 0 (57 + 7 * w + k) v) := by
  refine ⟨?_, ?_, fun i hi => ?_, fun i hi => ?_, h.2.2.2.2⟩
  · rw [up2_0 (by omega)]; exact h.1
  · rw [up2_0 (by omega)]; exact h.2.1
  · by_cases e : 57 + 7 * i + 3 = 57 + 7 * w + k
    · rw [e, up2_eq, upd_eq]; exact h3 (by omega)
    · rw [up2_0 e]; exact h.2.2.1 i hi
  · by_cases e : 57 + 7 * i + 0 = 57 + 7 * w + k
    · rw [e, up2_eq, upd_eq]; exact h0 (by omega)
    · rw [up2_0 e]; exact h.2.2.2.1 i hi
theorem MI_sr {X : Nat → Int32} {A z : Nat → Nat → Int32} {p1 p2 p3 : Int32} (h : MI A) (v1 : vp_in p1 4) (v2 : vp_in p2 10) (hz : z = f_X8_setsRink X A p1 p2 p3) : MI z := by
  have := vp_lt v1; have := vp_lt v2
  rw [hz]; exact MI_up h (by omega) (by omega) (by omega)
theorem MI_sw {X : Nat → Int32} {A z : Nat → Nat → Int32} {p1 p2 p3 : Int32} (h : MI A) (v2 : vp_in p2 7) (h3 : p2.toNatClampNeg = 3 → vp_in p3 4) (h0 : p2.toNatClampNeg = 0 → vp_in p3 2) (hz : z = f_X8_setsWood X A p1 p2 p3) : MI z := by
  rw [hz]; exact MI_wd h (vp_lt v2) h3 h0
theorem MI_z {A z : Nat → Nat → Int32} {e : Nat → Nat → Int32} (h : MI e) (hz : z = e) : MI z := hz ▸ h
theorem kp1 {X : Nat → Int32} (h : X 3 = 8) : vp_in (upd X 3 (X 3 - 1) 3) 8 := by
  rw [upd_eq, h]; exact vp_in_nI (n := 7) (by decide) (by decide)
theorem kp2 {x : Int32} (h : vp_in x 9) (hne : ¬ x = 8) : vp_in x 8 := by
  obtain ⟨j, hj, rfl⟩ := vp_in_of h (by decide)
  refine vp_in_nI ?_ (by decide)
  rcases (show j = 8 ∨ j < 8 by omega) with rfl | q
  · exact absurd rfl hne
  · exact q
theorem ne_last {x : Int32} {N : Nat} (hN : N + 1 < 2 ^ 31) (h : vp_in x (N + 1)) (hne : ¬ x = nI N) : vp_in x N := by
  obtain ⟨j, hj, rfl⟩ := vp_in_of h hN
  refine vp_in_nI ?_ (by omega)
  rcases (show j = N ∨ j < N by omega) with rfl | q
  · exact absurd rfl hne
  · exact q
theorem rb_start {c : Int32} (h : vp_in c 3) : -1 ≤ (2 * c - 1).toInt ∧ (2 * c - 1).toInt + 2 ≤ ((5 : Nat) : Int) ∧ (2 * c - 1).toInt < 4 := by
  obtain ⟨j, hj, rfl⟩ := vp_in_of h (by decide)
  rcases (show j = 0 ∨ j = 1 ∨ j = 2 by omega) with rfl | rfl | rfl <;> decide
theorem dn_back4 {x : Int32} {n : Nat} (h : -1 ≤ x.toInt ∧ x.toInt + 2 ≤ ((n + 1 : Nat) : Int) ∧ x.toInt < 4) (c : ¬ x < 0) : -1 ≤ (x + (-1)).toInt ∧ (x + (-1)).toInt + 2 ≤ (n : Int) ∧ (x + (-1)).toInt < 4 := by
  have h1 := dn_back ⟨h.1, h.2.1⟩ c
  refine ⟨h1.1, h1.2, ?_⟩
  obtain ⟨j, hj, rfl⟩ := nI_of c
  have h2 := h.2.2
  rw [nI_toInt hj] at h2
  cases j with
  | zero =>
    have e : (nI 0 + (-1)).toInt = -1 := by decide
    rw [e]; omega
  | succ i =>
    rw [pk_m1, nI_toInt (by omega)]
    omega
theorem nn_nI {x : Int32} (c : ¬ x < 0) : x = nI x.toNatClampNeg := by
  obtain ⟨j, hj, rfl⟩ := nI_of c
  rw [nI_clamp hj]
theorem nn_lt {x : Int32} {N : Nat} (h : x.toInt < (N : Int)) (c : ¬ x < 0) : x.toNatClampNeg < N := by
  obtain ⟨j, hj, rfl⟩ := nI_of c
  rw [nI_toInt hj] at h
  rw [nI_clamp hj]; omega
theorem ch_fit {X : Nat → Int32} {A : Nat → Nat → Int32} {p z : Int32} (hz : z = f_X8_in X A p 32 126) (h : ¬ z = 0) : narrow .char (.int p) = .int p := by
  have hle : p ≤ 126 := inM_le hz h
  unfold f_X8_in at hz
  split at hz
  · exact absurd hz h
  · rename_i h1
    have h2 : ¬ p < 0 := fun q => h1 (Int32.lt_of_lt_of_le q (by decide))
    obtain ⟨j, hj, rfl⟩ := nI_of h2
    have h3 : j ≤ 126 := (nI_leI hj (by decide)).mp hle
    exact (pk_charN (by omega)).1

def f_X8_begins_l2 (X : Nat → Int32) : Nat → Nat → (Nat → Nat → Int32) → (Nat → Nat → Int32)
  | 0, _, Ak => Ak
  | n + 1, k, Ak =>
    if 169 ≤ (nI k) then
      Ak
    else
      f_X8_begins_l2 X n (k + 1) (up2 Ak 0 k 0)
def f_X8_begins (X : Nat → Int32) (A : Nat → Nat → Int32) : (Nat → Nat → Int32) :=
  bd (f_X8_begins_l2 X 170 0 A) fun z2 =>
  (up2 (up2 (up2 (up2 (up2 z2 0 1 1) 0 2 2) 0 6 12) 0 11 10) 0 15 10)
abbrev rm_X8_begins : Room := { frames := 0, cells := 0, slots := 0, locals := 0 }
set_option maxRecDepth 100000 in
set_option maxHeartbeats 4000000 in
theorem c_X8_begins (l : Launch) (D : gD) (cy : Nat → ClassId) (ad : Nat → Nat) (X : Nat → Int32) (A : Nat → Nat → Int32)  : CtV l D cy (MW cy ad) yX8_begins cX8_begins 2 none rm_X8_begins [.ref (ad 0)] (X, A) (fun u => ∃ z : (Nat → Nat → Int32), z = f_X8_begins X A ∧ u = (X, z)) 0 0 := by
  refine m_entV cX8_begins 2 (by decide) (Nat.le_of_ble_eq_true rfl) (fun J h hR => ?_)
  show J (X, A) (0, 0) [(0, .ref (ad 0))] 0 []
  refine j_iconst h (v := 0) dX8_begins_0 (by decide) ?_
  refine j_istore_n h (lv' := [(1, _), (0, _)]) dX8_begins_1 rfl (by decide) rfl ?_
  have lp2 : ∀ (n k : Nat) (Ak : Nat → Nat → Int32), n + k = 170 → k ≤ 169 → (∀ z : (Nat → Nat → Int32), z = f_X8_begins_l2 X n k Ak → J (X, z) (0, 0) [(0, .ref (ad 0))] 22 []) → J (X, Ak) (0, 0) [(0, .ref (ad 0)), (1, .int (nI k))] 2 [] := by
    intro n
    induction n with
    | zero => intro k Ak hn hk hf; omega
    | succ n ih =>
      intro k Ak hn hk hf
      refine j_iload_n h dX8_begins_2 rfl 1 rfl ?_
      refine j_sipush h (v := 169) dX8_begins_3 (by decide) ?_
      refine j_icmp_ge h (tgt := 22) dX8_begins_6 (by decide) (fun c1 => ?_) (fun c1 => ?_)
      · refine j_sub h [0] rfl ?_
        exact hf _ (Eq.symm ((ite_p c1 rfl)))
      · have hk1 : k < 169 := cnt_lt (by decide) hk (by decide : (169 : Int32) ≤ nI 169) c1
        refine j_aload_n h dX8_begins_9 rfl 0 rfl ?_
        refine j_get h inlX8 0 rfl rfl 0 (by decide) (xr_6 7 rfl) rfl (v := .ref (ad 1)) rfl dX8_begins_10 ?_
        refine j_iload_n h dX8_begins_13 rfl 1 rfl ?_
        refine j_iconst h (v := 0) dX8_begins_14 (by decide) ?_
        refine j_iastE h 1 rfl k rfl (by omega) (by decide) dX8_begins_15 (u' := (X, up2 Ak 0 k 0)) rfl ?_
        refine j_iinc h (v := nI (k + 1)) (lv' := [(1, _), (0, _)]) dX8_begins_16 (k := 1) rfl (nI_1 k) (by decide) rfl ?_
        refine j_goto h (tgt := 2) dX8_begins_19 (by decide) ?_
        refine j_sub h [1, 0] rfl ?_
        exact ih (k + 1) _ (by omega) (by omega) (fun z hz => hf z (hz.trans (Eq.symm ((ite_n c1 rfl)))))
  refine j_sub h [1, 0] rfl ?_
  refine lp2 170 0 _ (by omega) (by omega) (fun z2 hz2 => ?_)
  refine j_aload_n h dX8_begins_22 rfl 0 rfl ?_
  refine j_get h inlX8 0 rfl rfl 0 (by decide) (xr_6 7 rfl) rfl (v := .ref (ad 1)) rfl dX8_begins_23 ?_
  refine j_iconst h (v := 1) dX8_begins_26 (by decide) ?_
  refine j_iconst h (v := 1) dX8_begins_27 (by decide) ?_
  refine j_iastE h 1 rfl 1 rfl (by decide) (by decide) dX8_begins_28 (u' := (X, up2 z2 0 1 1)) rfl ?_
  refine j_aload_n h dX8_begins_29 rfl 0 rfl ?_
  refine j_get h inlX8 0 rfl rfl 0 (by decide) (xr_6 7 rfl) rfl (v := .ref (ad 1)) rfl dX8_begins_30 ?_
  refine j_iconst h (v := 2) dX8_begins_33 (by decide) ?_
  refine j_iconst h (v := 2) dX8_begins_34 (by decide) ?_
  refine j_iastE h 1 rfl 2 rfl (by decide) (by decide) dX8_begins_35 (u' := (X, up2 (up2 z2 0 1 1) 0 2 2)) rfl ?_
  refine j_aload_n h dX8_begins_36 rfl 0 rfl ?_
  refine j_get h inlX8 0 rfl rfl 0 (by decide) (xr_6 7 rfl) rfl (v := .ref (ad 1)) rfl dX8_begins_37 ?_
  refine j_bipush h (v := 6) dX8_begins_40 (by decide) ?_
  refine j_bipush h (v := 12) dX8_begins_42 (by decide) ?_
  refine j_iastE h 1 rfl 6 rfl (by decide) (by decide) dX8_begins_44 (u' := (X, up2 (up2 (up2 z2 0 1 1) 0 2 2) 0 6 12)) rfl ?_
  refine j_aload_n h dX8_begins_45 rfl 0 rfl ?_
  refine j_get h inlX8 0 rfl rfl 0 (by decide) (xr_6 7 rfl) rfl (v := .ref (ad 1)) rfl dX8_begins_46 ?_
  refine j_bipush h (v := 11) dX8_begins_49 (by decide) ?_
  refine j_bipush h (v := 10) dX8_begins_51 (by decide) ?_
  refine j_iastE h 1 rfl 11 rfl (by decide) (by decide) dX8_begins_53 (u' := (X, up2 (up2 (up2 (up2 z2 0 1 1) 0 2 2) 0 6 12) 0 11 10)) rfl ?_
  refine j_aload_n h dX8_begins_54 rfl 0 rfl ?_
  refine j_get h inlX8 0 rfl rfl 0 (by decide) (xr_6 7 rfl) rfl (v := .ref (ad 1)) rfl dX8_begins_55 ?_
  refine j_bipush h (v := 15) dX8_begins_58 (by decide) ?_
  refine j_bipush h (v := 10) dX8_begins_60 (by decide) ?_
  refine j_iastE h 1 rfl 15 rfl (by decide) (by decide) dX8_begins_62 (u' := (X, up2 (up2 (up2 (up2 (up2 z2 0 1 1) 0 2 2) 0 6 12) 0 11 10) 0 15 10)) rfl ?_
  exact hR _ _ _ dX8_begins_63 ⟨_, Eq.symm ((bd_eq hz2 rfl)), rfl⟩

def f_X8_tries_l2 (X : Nat → Int32) : Nat → Nat → (Nat → Nat → Int32) → (Nat → Nat → Int32)
  | 0, _, Ak => Ak
  | n + 1, k, Ak =>
    if 169 ≤ (nI k) then
      Ak
    else
      f_X8_tries_l2 X n (k + 1) (up2 Ak 1 k (Ak 0 k))
def f_X8_tries (X : Nat → Int32) (A : Nat → Nat → Int32) : (Nat → Nat → Int32) :=
  bd (f_X8_tries_l2 X 170 0 A) fun z2 =>
  z2
abbrev rm_X8_tries : Room := { frames := 0, cells := 0, slots := 0, locals := 0 }
set_option maxRecDepth 100000 in
set_option maxHeartbeats 4000000 in
theorem c_X8_tries (l : Launch) (D : gD) (cy : Nat → ClassId) (ad : Nat → Nat) (X : Nat → Int32) (A : Nat → Nat → Int32)  : CtV l D cy (MW cy ad) yX8_tries cX8_tries 2 none rm_X8_tries [.ref (ad 0)] (X, A) (fun u => ∃ z : (Nat → Nat → Int32), z = f_X8_tries X A ∧ u = (X, z)) 0 0 := by
  refine m_entV cX8_tries 2 (by decide) (Nat.le_of_ble_eq_true rfl) (fun J h hR => ?_)
  show J (X, A) (0, 0) [(0, .ref (ad 0))] 0 []
  refine j_iconst h (v := 0) dX8_tries_0 (by decide) ?_
  refine j_istore_n h (lv' := [(1, _), (0, _)]) dX8_tries_1 rfl (by decide) rfl ?_
  have lp2 : ∀ (n k : Nat) (Ak : Nat → Nat → Int32), n + k = 170 → k ≤ 169 → (∀ z : (Nat → Nat → Int32), z = f_X8_tries_l2 X n k Ak → J (X, z) (0, 0) [(0, .ref (ad 0))] 27 []) → J (X, Ak) (0, 0) [(0, .ref (ad 0)), (1, .int (nI k))] 2 [] := by
    intro n
    induction n with
    | zero => intro k Ak hn hk hf; omega
    | succ n ih =>
      intro k Ak hn hk hf
      refine j_iload_n h dX8_tries_2 rfl 1 rfl ?_
      refine j_sipush h (v := 169) dX8_tries_3 (by decide) ?_
      refine j_icmp_ge h (tgt := 27) dX8_tries_6 (by decide) (fun c1 => ?_) (fun c1 => ?_)
      · refine j_sub h [0] rfl ?_
        exact hf _ (Eq.symm ((ite_p c1 rfl)))
      · have hk1 : k < 169 := cnt_lt (by decide) hk (by decide : (169 : Int32) ≤ nI 169) c1
        refine j_aload_n h dX8_tries_9 rfl 0 rfl ?_
        refine j_get h inlX8 0 rfl rfl 1 (by decide) (xr_6 8 rfl) rfl (v := .ref (ad 2)) rfl dX8_tries_10 ?_
        refine j_iload_n h dX8_tries_13 rfl 1 rfl ?_
        refine j_aload_n h dX8_tries_14 rfl 0 rfl ?_
        refine j_get h inlX8 0 rfl rfl 0 (by decide) (xr_6 7 rfl) rfl (v := .ref (ad 1)) rfl dX8_tries_15 ?_
        refine j_iload_n h dX8_tries_18 rfl 1 rfl ?_
        refine j_ialdE h 1 rfl k rfl (by omega) (by decide) dX8_tries_19 ?_
        refine j_iastE h 2 rfl k rfl (by omega) (by decide) dX8_tries_20 (u' := (X, up2 Ak 1 k (Ak 0 k))) rfl ?_
        refine j_iinc h (v := nI (k + 1)) (lv' := [(1, _), (0, _)]) dX8_tries_21 (k := 1) rfl (nI_1 k) (by decide) rfl ?_
        refine j_goto h (tgt := 2) dX8_tries_24 (by decide) ?_
        refine j_sub h [1, 0] rfl ?_
        exact ih (k + 1) _ (by omega) (by omega) (fun z hz => hf z (hz.trans (Eq.symm ((ite_n c1 rfl)))))
  refine j_sub h [1, 0] rfl ?_
  refine lp2 170 0 _ (by omega) (by omega) (fun z2 hz2 => ?_)
  exact hR _ _ _ dX8_tries_27 ⟨_, Eq.symm ((bd_eq hz2 rfl)), rfl⟩

def f_X8_comesBack_l2 (X : Nat → Int32) : Nat → Nat → (Nat → Nat → Int32) → (Nat → Nat → Int32)
  | 0, _, Ak => Ak
  | n + 1, k, Ak =>
    if 169 ≤ (nI k) then
      Ak
    else
      f_X8_comesBack_l2 X n (k + 1) (up2 Ak 0 k (Ak 1 k))
def f_X8_comesBack (X : Nat → Int32) (A : Nat → Nat → Int32) : (Nat → Nat → Int32) :=
  bd (f_X8_comesBack_l2 X 170 0 A) fun z2 =>
  z2
abbrev rm_X8_comesBack : Room := { frames := 0, cells := 0, slots := 0, locals := 0 }
set_option maxRecDepth 100000 in
set_option maxHeartbeats 4000000 in
theorem c_X8_comesBack (l : Launch) (D : gD) (cy : Nat → ClassId) (ad : Nat → Nat) (X : Nat → Int32) (A : Nat → Nat → Int32)  : CtV l D cy (MW cy ad) yX8_comesBack cX8_comesBack 2 none rm_X8_comesBack [.ref (ad 0)] (X, A) (fun u => ∃ z : (Nat → Nat → Int32), z = f_X8_comesBack X A ∧ u = (X, z)) 0 0 := by
  refine m_entV cX8_comesBack 2 (by decide) (Nat.le_of_ble_eq_true rfl) (fun J h hR => ?_)
  show J (X, A) (0, 0) [(0, .ref (ad 0))] 0 []
  refine j_iconst h (v := 0) dX8_comesBack_0 (by decide) ?_
  refine j_istore_n h (lv' := [(1, _), (0, _)]) dX8_comesBack_1 rfl (by decide) rfl ?_
  have lp2 : ∀ (n k : Nat) (Ak : Nat → Nat → Int32), n + k = 170 → k ≤ 169 → (∀ z : (Nat → Nat → Int32), z = f_X8_comesBack_l2 X n k Ak → J (X, z) (0, 0) [(0, .ref (ad 0))] 27 []) → J (X, Ak) (0, 0) [(0, .ref (ad 0)), (1, .int (nI k))] 2 [] := by
    intro n
    induction n with
    | zero => intro k Ak hn hk hf; omega
    | succ n ih =>
      intro k Ak hn hk hf
      refine j_iload_n h dX8_comesBack_2 rfl 1 rfl ?_
      refine j_sipush h (v := 169) dX8_comesBack_3 (by decide) ?_
      refine j_icmp_ge h (tgt := 27) dX8_comesBack_6 (by decide) (fun c1 => ?_) (fun c1 => ?_)
      · refine j_sub h [0] rfl ?_
        exact hf _ (Eq.symm ((ite_p c1 rfl)))
      · have hk1 : k < 169 := cnt_lt (by decide) hk (by decide : (169 : Int32) ≤ nI 169) c1
        refine j_aload_n h dX8_comesBack_9 rfl 0 rfl ?_
        refine j_get h inlX8 0 rfl rfl 0 (by decide) (xr_6 7 rfl) rfl (v := .ref (ad 1)) rfl dX8_comesBack_10 ?_
        refine j_iload_n h dX8_comesBack_13 rfl 1 rfl ?_
        refine j_aload_n h dX8_comesBack_14 rfl 0 rfl ?_
        refine j_get h inlX8 0 rfl rfl 1 (by decide) (xr_6 8 rfl) rfl (v := .ref (ad 2)) rfl dX8_comesBack_15 ?_
        refine j_iload_n h dX8_comesBack_18 rfl 1 rfl ?_
        refine j_ialdE h 2 rfl k rfl (by omega) (by decide) dX8_comesBack_19 ?_
        refine j_iastE h 1 rfl k rfl (by omega) (by decide) dX8_comesBack_20 (u' := (X, up2 Ak 0 k (Ak 1 k))) rfl ?_
        refine j_iinc h (v := nI (k + 1)) (lv' := [(1, _), (0, _)]) dX8_comesBack_21 (k := 1) rfl (nI_1 k) (by decide) rfl ?_
        refine j_goto h (tgt := 2) dX8_comesBack_24 (by decide) ?_
        refine j_sub h [1, 0] rfl ?_
        exact ih (k + 1) _ (by omega) (by omega) (fun z hz => hf z (hz.trans (Eq.symm ((ite_n c1 rfl)))))
  refine j_sub h [1, 0] rfl ?_
  refine lp2 170 0 _ (by omega) (by omega) (fun z2 hz2 => ?_)
  exact hR _ _ _ dX8_comesBack_27 ⟨_, Eq.symm ((bd_eq hz2 rfl)), rfl⟩

theorem vp_succ {x : Int32} {N : Nat} (hN : N + 1 < 2 ^ 31) (h : vp_in x N) : vp_in (x + 1) (N + 1) := by
  obtain ⟨j, hj, rfl⟩ := vp_in_of h (by omega)
  rw [nI_1]; exact vp_in_nI (by omega) hN
theorem vp_u {f : Nat → Int32} {k N : Nat} (hN : N + 1 < 2 ^ 31) (h : vp_in (f k) N) : vp_in (upd f k (f k + 1) k) (N + 1) := by
  rw [upd_eq]; exact vp_succ hN h

def f_X8_keeps_l52 (p1 : Int32) : Nat → Nat → (Nat → Int32) → (Nat → Nat → Int32) → (Nat → Int32) × (Nat → Nat → Int32)
  | 0, _, Xk, Ak => (Xk, Ak)
  | n + 1, k, Xk, Ak =>
    if 169 ≤ (nI k) then
      (Xk, Ak)
    else
      f_X8_keeps_l52 p1 n (k + 1) Xk (up2 Ak 2 ((169 * ((Xk 3).toNatClampNeg)) + k) (Ak 1 k))
def f_X8_keeps_l11 (X : Nat → Int32) (p1 : Int32) : Nat → Nat → (Nat → Nat → Int32) → (Nat → Nat → Int32)
  | 0, _, Ak => Ak
  | n + 1, k, Ak =>
    if 1183 ≤ (nI k) then
      Ak
    else
      f_X8_keeps_l11 X p1 n (k + 1) (up2 Ak 2 k (Ak 2 (169 + k)))
def f_X8_keeps (X : Nat → Int32) (A : Nat → Nat → Int32) (p1 : Int32) : Int32 × (Nat → Int32) × (Nat → Nat → Int32) :=
  if (X 3) = 8 then
    bd (f_X8_keeps_l11 X p1 1184 0 A) fun z5 =>
    bd (f_X8_keeps_l52 p1 170 0 (upd X 3 ((X 3) - 1)) z5) fun z7 =>
    (p1, (upd z7.1 3 ((z7.1 3) + 1), z7.2))
  else
    bd (f_X8_keeps_l52 p1 170 0 X A) fun z3 =>
    (p1, (upd z3.1 3 ((z3.1 3) + 1), z3.2))
abbrev rm_X8_keeps : Room := { frames := 0, cells := 0, slots := 0, locals := 0 }
set_option maxRecDepth 100000 in
set_option maxHeartbeats 4000000 in
theorem c_X8_keeps (l : Launch) (D : gD) (cy : Nat → ClassId) (ad : Nat → Nat) (X : Nat → Int32) (A : Nat → Nat → Int32) (p1 : Int32) (hU : vp_in (X 3) 9) (hI : MI A) : CtI l D cy (MW cy ad) yX8_keeps cX8_keeps 3 (some .int) rm_X8_keeps [.ref (ad 0), .int p1] (X, A) (fun rv u => ∃ z : Int32 × ((Nat → Int32) × (Nat → Nat → Int32)), z = f_X8_keeps X A p1 ∧ rv = z.1 ∧ u = z.2 ∧ MI (z.2.2) ∧ vp_in ((z.2.1) 3) 9 ∧ (∀ i, i ≠ 3 → (z.2.1) i = X i)) 0 0 := by
  refine m_entI cX8_keeps 3 (by decide) (Nat.le_of_ble_eq_true rfl) (fun J h hR => ?_)
  show J (X, A) (0, 0) [(0, .ref (ad 0)), (1, .int p1)] 0 []
  refine j_aload_n h dX8_keeps_0 rfl 0 rfl ?_
  refine j_get h inlX8 0 rfl rfl 3 (by decide) (xr_7 12 rfl) rfl (v := .int (X 3)) rfl dX8_keeps_1 ?_
  refine j_bipush h (v := 8) dX8_keeps_4 (by decide) ?_
  refine j_icmp_ne h (tgt := 50) dX8_keeps_6 (by decide) (fun c1 => ?_) (fun c1 => ?_)
  · refine j_iconst h (v := 0) dX8_keeps_50 (by decide) ?_
    refine j_istore_n h (lv' := [(2, _), (0, _), (1, _)]) dX8_keeps_51 rfl (by decide) rfl ?_
    have lp52 : ∀ (n k : Nat) (Xk : Nat → Int32) (Ak : Nat → Nat → Int32), n + k = 170 → k ≤ 169 → vp_in (Xk 3) 8 → MI Ak → (∀ i, i ≠ 3 → Xk i = X i) → (∀ z : (Nat → Int32) × (Nat → Nat → Int32), z = f_X8_keeps_l52 p1 n k Xk Ak → (vp_in (z.1 3) 8 ∧ MI z.2 ∧ ∀ i, i ≠ 3 → z.1 i = X i) → J (z.1, z.2) (0, 0) [(0, .ref (ad 0)), (1, .int p1)] 86 []) → J (Xk, Ak) (0, 0) [(0, .ref (ad 0)), (1, .int p1), (2, .int (nI k))] 52 [] := by
      intro n
      induction n with
      | zero => intro k Xk Ak hn hk hXk hMk hXe hf; omega
      | succ n ih =>
        intro k Xk Ak hn hk hXk hMk hXe hf
        refine j_iload_n h dX8_keeps_52 rfl 2 rfl ?_
        refine j_sipush h (v := 169) dX8_keeps_53 (by decide) ?_
        refine j_icmp_ge h (tgt := 86) dX8_keeps_56 (by decide) (fun c2 => ?_) (fun c2 => ?_)
        · refine j_sub h [0, 1] rfl ?_
          exact hf (_, _) (Eq.symm ((ite_p c2 rfl))) ⟨hXk, hMk, hXe⟩
        · have hk1 : k < 169 := cnt_lt (by decide) hk (by decide : (169 : Int32) ≤ nI 169) c2
          have bu : (Xk 3).toNatClampNeg < 8 := vp_lt hXk
          have eu : Xk 3 = nI (Xk 3).toNatClampNeg := vp_nI hXk (by decide)
          refine j_aload_n h dX8_keeps_59 rfl 0 rfl ?_
          refine j_get h inlX8 0 rfl rfl 2 (by decide) (xr_6 9 rfl) rfl (v := .ref (ad 3)) rfl dX8_keeps_60 ?_
          refine j_sipush h (v := 169) dX8_keeps_63 (by decide) ?_
          refine j_aload_n h dX8_keeps_66 rfl 0 rfl ?_
          refine j_get h inlX8 0 rfl rfl 3 (by decide) (xr_7 12 rfl) rfl (v := .int (Xk 3)) rfl dX8_keeps_67 ?_
          refine j_imul h dX8_keeps_70 ?_
          refine j_iload_n h dX8_keeps_71 rfl 2 rfl ?_
          refine j_iadd h dX8_keeps_72 ?_
          refine j_aload_n h dX8_keeps_73 rfl 0 rfl ?_
          refine j_get h inlX8 0 rfl rfl 1 (by decide) (xr_6 8 rfl) rfl (v := .ref (ad 2)) rfl dX8_keeps_74 ?_
          refine j_iload_n h dX8_keeps_77 rfl 2 rfl ?_
          refine j_ialdE h 2 rfl k rfl (by omega) (by decide) dX8_keeps_78 ?_
          refine j_iastE h 3 rfl ((169 * ((Xk 3).toNatClampNeg)) + k) (nx_add (nx_mul rfl eu) rfl) (by omega) (by decide) dX8_keeps_79 (u' := (Xk, up2 Ak 2 ((169 * ((Xk 3).toNatClampNeg)) + k) (Ak 1 k))) rfl ?_
          refine j_iinc h (v := nI (k + 1)) (lv' := [(2, _), (0, _), (1, _)]) dX8_keeps_80 (k := 2) rfl (nI_1 k) (by decide) rfl ?_
          refine j_goto h (tgt := 52) dX8_keeps_83 (by decide) ?_
          refine j_sub h [1, 2, 0] rfl ?_
          exact ih (k + 1) _ _ (by omega) (by omega) hXk (MI_ne hMk (by decide) (by decide)) hXe (fun z hz hp => hf z (hz.trans (Eq.symm ((ite_n c2 rfl)))) hp)
    refine j_sub h [1, 2, 0] rfl ?_
    refine lp52 170 0 _ _ (by omega) (by omega) (kp2 hU c1) hI (fun i hi => rfl) (fun z3 hz3 hpz3 => ?_)
    refine j_aload_n h dX8_keeps_86 rfl 0 rfl ?_
    refine j_dup h dX8_keeps_87 rfl ?_
    refine j_get h inlX8 0 rfl rfl 3 (by decide) (xr_7 12 rfl) rfl (v := .int (z3.1 3)) rfl dX8_keeps_88 ?_
    refine j_iconst h (v := 1) dX8_keeps_91 (by decide) ?_
    refine j_iadd h dX8_keeps_92 ?_
    refine j_put h inlX8 tyX8 tyX8_ok nmX8 0 rfl rfl 3 (by decide) (xr_7 12 rfl) rfl rfl rfl rfl (Nat.le_of_ble_eq_true rfl) dX8_keeps_93 (u' := (upd z3.1 3 ((z3.1 3) + 1), z3.2)) rfl ?_
    refine j_iload_n h dX8_keeps_96 rfl 1 rfl ?_
    exact hR _ _ _ _ dX8_keeps_97 ⟨(_, _), Eq.symm ((ite_n c1 (bd_eq hz3 rfl))), rfl, rfl, hpz3.2.1, (vp_u (by decide) hpz3.1), (fun i hi => (upd_ne _ _ hi).trans (hpz3.2.2 i hi))⟩
  · refine j_iconst h (v := 0) dX8_keeps_9 (by decide) ?_
    refine j_istore_n h (lv' := [(2, _), (0, _), (1, _)]) dX8_keeps_10 rfl (by decide) rfl ?_
    have lp11 : ∀ (n k : Nat) (Ak : Nat → Nat → Int32), n + k = 1184 → k ≤ 1183 → MI Ak → (∀ z : (Nat → Nat → Int32), z = f_X8_keeps_l11 X p1 n k Ak → MI z → J (X, z) (0, 0) [(0, .ref (ad 0)), (1, .int p1)] 40 []) → J (X, Ak) (0, 0) [(0, .ref (ad 0)), (1, .int p1), (2, .int (nI k))] 11 [] := by
      intro n
      induction n with
      | zero => intro k Ak hn hk hMk hf; omega
      | succ n ih =>
        intro k Ak hn hk hMk hf
        refine j_iload_n h dX8_keeps_11 rfl 2 rfl ?_
        refine j_sipush h (v := 1183) dX8_keeps_12 (by decide) ?_
        refine j_icmp_ge h (tgt := 40) dX8_keeps_15 (by decide) (fun c4 => ?_) (fun c4 => ?_)
        · refine j_sub h [0, 1] rfl ?_
          exact hf _ (Eq.symm ((ite_p c4 rfl))) hMk
        · have hk1 : k < 1183 := cnt_lt (by decide) hk (by decide : (1183 : Int32) ≤ nI 1183) c4
          refine j_aload_n h dX8_keeps_18 rfl 0 rfl ?_
          refine j_get h inlX8 0 rfl rfl 2 (by decide) (xr_6 9 rfl) rfl (v := .ref (ad 3)) rfl dX8_keeps_19 ?_
          refine j_iload_n h dX8_keeps_22 rfl 2 rfl ?_
          refine j_aload_n h dX8_keeps_23 rfl 0 rfl ?_
          refine j_get h inlX8 0 rfl rfl 2 (by decide) (xr_6 9 rfl) rfl (v := .ref (ad 3)) rfl dX8_keeps_24 ?_
          refine j_sipush h (v := 169) dX8_keeps_27 (by decide) ?_
          refine j_iload_n h dX8_keeps_30 rfl 2 rfl ?_
          refine j_iadd h dX8_keeps_31 ?_
          refine j_ialdE h 3 rfl (169 + k) (nx_add rfl rfl) (by omega) (by decide) dX8_keeps_32 ?_
          refine j_iastE h 3 rfl k rfl (by omega) (by decide) dX8_keeps_33 (u' := (X, up2 Ak 2 k (Ak 2 (169 + k)))) rfl ?_
          refine j_iinc h (v := nI (k + 1)) (lv' := [(2, _), (0, _), (1, _)]) dX8_keeps_34 (k := 2) rfl (nI_1 k) (by decide) rfl ?_
          refine j_goto h (tgt := 11) dX8_keeps_37 (by decide) ?_
          refine j_sub h [1, 2, 0] rfl ?_
          exact ih (k + 1) _ (by omega) (by omega) (MI_ne hMk (by decide) (by decide)) (fun z hz hp => hf z (hz.trans (Eq.symm ((ite_n c4 rfl)))) hp)
    refine j_sub h [1, 2, 0] rfl ?_
    refine lp11 1184 0 _ (by omega) (by omega) hI (fun z5 hz5 hpz5 => ?_)
    refine j_aload_n h dX8_keeps_40 rfl 0 rfl ?_
    refine j_dup h dX8_keeps_41 rfl ?_
    refine j_get h inlX8 0 rfl rfl 3 (by decide) (xr_7 12 rfl) rfl (v := .int (X 3)) rfl dX8_keeps_42 ?_
    refine j_iconst h (v := 1) dX8_keeps_45 (by decide) ?_
    refine j_isub h dX8_keeps_46 ?_
    refine j_put h inlX8 tyX8 tyX8_ok nmX8 0 rfl rfl 3 (by decide) (xr_7 12 rfl) rfl rfl rfl rfl (Nat.le_of_ble_eq_true rfl) dX8_keeps_47 (u' := (upd X 3 ((X 3) - 1), z5)) rfl ?_
    refine j_iconst h (v := 0) dX8_keeps_50 (by decide) ?_
    refine j_istore_n h (lv' := [(2, _), (0, _), (1, _)]) dX8_keeps_51 rfl (by decide) rfl ?_
    have lp52 : ∀ (n k : Nat) (Xk : Nat → Int32) (Ak : Nat → Nat → Int32), n + k = 170 → k ≤ 169 → vp_in (Xk 3) 8 → MI Ak → (∀ i, i ≠ 3 → Xk i = X i) → (∀ z : (Nat → Int32) × (Nat → Nat → Int32), z = f_X8_keeps_l52 p1 n k Xk Ak → (vp_in (z.1 3) 8 ∧ MI z.2 ∧ ∀ i, i ≠ 3 → z.1 i = X i) → J (z.1, z.2) (0, 0) [(0, .ref (ad 0)), (1, .int p1)] 86 []) → J (Xk, Ak) (0, 0) [(0, .ref (ad 0)), (1, .int p1), (2, .int (nI k))] 52 [] := by
      intro n
      induction n with
      | zero => intro k Xk Ak hn hk hXk hMk hXe hf; omega
      | succ n ih =>
        intro k Xk Ak hn hk hXk hMk hXe hf
        refine j_iload_n h dX8_keeps_52 rfl 2 rfl ?_
        refine j_sipush h (v := 169) dX8_keeps_53 (by decide) ?_
        refine j_icmp_ge h (tgt := 86) dX8_keeps_56 (by decide) (fun c6 => ?_) (fun c6 => ?_)
        · refine j_sub h [0, 1] rfl ?_
          exact hf (_, _) (Eq.symm ((ite_p c6 rfl))) ⟨hXk, hMk, hXe⟩
        · have hk1 : k < 169 := cnt_lt (by decide) hk (by decide : (169 : Int32) ≤ nI 169) c6
          have bu : (Xk 3).toNatClampNeg < 8 := vp_lt hXk
          have eu : Xk 3 = nI (Xk 3).toNatClampNeg := vp_nI hXk (by decide)
          refine j_aload_n h dX8_keeps_59 rfl 0 rfl ?_
          refine j_get h inlX8 0 rfl rfl 2 (by decide) (xr_6 9 rfl) rfl (v := .ref (ad 3)) rfl dX8_keeps_60 ?_
          refine j_sipush h (v := 169) dX8_keeps_63 (by decide) ?_
          refine j_aload_n h dX8_keeps_66 rfl 0 rfl ?_
          refine j_get h inlX8 0 rfl rfl 3 (by decide) (xr_7 12 rfl) rfl (v := .int (Xk 3)) rfl dX8_keeps_67 ?_
          refine j_imul h dX8_keeps_70 ?_
          refine j_iload_n h dX8_keeps_71 rfl 2 rfl ?_
          refine j_iadd h dX8_keeps_72 ?_
          refine j_aload_n h dX8_keeps_73 rfl 0 rfl ?_
          refine j_get h inlX8 0 rfl rfl 1 (by decide) (xr_6 8 rfl) rfl (v := .ref (ad 2)) rfl dX8_keeps_74 ?_
          refine j_iload_n h dX8_keeps_77 rfl 2 rfl ?_
          refine j_ialdE h 2 rfl k rfl (by omega) (by decide) dX8_keeps_78 ?_
          refine j_iastE h 3 rfl ((169 * ((Xk 3).toNatClampNeg)) + k) (nx_add (nx_mul rfl eu) rfl) (by omega) (by decide) dX8_keeps_79 (u' := (Xk, up2 Ak 2 ((169 * ((Xk 3).toNatClampNeg)) + k) (Ak 1 k))) rfl ?_
          refine j_iinc h (v := nI (k + 1)) (lv' := [(2, _), (0, _), (1, _)]) dX8_keeps_80 (k := 2) rfl (nI_1 k) (by decide) rfl ?_
          refine j_goto h (tgt := 52) dX8_keeps_83 (by decide) ?_
          refine j_sub h [1, 2, 0] rfl ?_
          exact ih (k + 1) _ _ (by omega) (by omega) hXk (MI_ne hMk (by decide) (by decide)) hXe (fun z hz hp => hf z (hz.trans (Eq.symm ((ite_n c6 rfl)))) hp)
    refine j_sub h [1, 2, 0] rfl ?_
    refine lp52 170 0 _ _ (by omega) (by omega) (kp1 c1) hpz5 (fun i hi => upd_ne _ _ hi) (fun z7 hz7 hpz7 => ?_)
    refine j_aload_n h dX8_keeps_86 rfl 0 rfl ?_
    refine j_dup h dX8_keeps_87 rfl ?_
    refine j_get h inlX8 0 rfl rfl 3 (by decide) (xr_7 12 rfl) rfl (v := .int (z7.1 3)) rfl dX8_keeps_88 ?_
    refine j_iconst h (v := 1) dX8_keeps_91 (by decide) ?_
    refine j_iadd h dX8_keeps_92 ?_
    refine j_put h inlX8 tyX8 tyX8_ok nmX8 0 rfl rfl 3 (by decide) (xr_7 12 rfl) rfl rfl rfl rfl (Nat.le_of_ble_eq_true rfl) dX8_keeps_93 (u' := (upd z7.1 3 ((z7.1 3) + 1), z7.2)) rfl ?_
    refine j_iload_n h dX8_keeps_96 rfl 1 rfl ?_
    exact hR _ _ _ _ dX8_keeps_97 ⟨(_, _), Eq.symm ((ite_p c1 (bd_eq hz5 (bd_eq hz7 rfl)))), rfl, rfl, hpz7.2.1, (vp_u (by decide) hpz7.1), (fun i hi => (upd_ne _ _ hi).trans (hpz7.2.2 i hi))⟩

def f_X8_refusesBy_l9 (X : Nat → Int32) (p1 : Int32) (p2 : Int32) : Nat → Int32 → (Nat → Nat → Int32) → Int32 × (Nat → Nat → Int32)
  | 0, x, Ak => (x, Ak)
  | n + 1, x, Ak =>
    if x < 0 then
      (x, Ak)
    else
      f_X8_refusesBy_l9 X p1 p2 n (x + (-1)) (up2 Ak 7 (x.toNatClampNeg + 2) (Ak 7 x.toNatClampNeg))
def f_X8_refusesBy (X : Nat → Int32) (A : Nat → Nat → Int32) (p1 : Int32) (p2 : Int32) : Int32 × (Nat → Int32) × (Nat → Nat → Int32) :=
  bd (f_X8_refusesBy_l9 X p1 p2 5 ((2 * (X 16)) - 1) A) fun z2 =>
  ((-3), (upd X 16 ((X 16) + 1), up2 (up2 z2.2 7 0 p1) 7 1 p2))
abbrev rm_X8_refusesBy : Room := { frames := 0, cells := 0, slots := 0, locals := 0 }
set_option maxRecDepth 100000 in
set_option maxHeartbeats 4000000 in
theorem c_X8_refusesBy (l : Launch) (D : gD) (cy : Nat → ClassId) (ad : Nat → Nat) (X : Nat → Int32) (A : Nat → Nat → Int32) (p1 : Int32) (p2 : Int32) (hD : vp_in (X 16) 3) : CtI l D cy (MW cy ad) yX8_refusesBy cX8_refusesBy 4 (some .int) rm_X8_refusesBy [.ref (ad 0), .int p1, .int p2] (X, A) (fun rv u => ∃ z : Int32 × ((Nat → Int32) × (Nat → Nat → Int32)), z = f_X8_refusesBy X A p1 p2 ∧ rv = z.1 ∧ u = z.2) 0 0 := by
  refine m_entI cX8_refusesBy 4 (by decide) (Nat.le_of_ble_eq_true rfl) (fun J h hR => ?_)
  show J (X, A) (0, 0) [(0, .ref (ad 0)), (1, .int p1), (2, .int p2)] 0 []
  refine j_iconst h (v := 2) dX8_refusesBy_0 (by decide) ?_
  refine j_aload_n h dX8_refusesBy_1 rfl 0 rfl ?_
  refine j_get h inlX8 0 rfl rfl 16 (by decide) (xr_16 14 rfl) rfl (v := .int (X 16)) rfl dX8_refusesBy_2 ?_
  refine j_imul h dX8_refusesBy_5 ?_
  refine j_iconst h (v := 1) dX8_refusesBy_6 (by decide) ?_
  refine j_isub h dX8_refusesBy_7 ?_
  refine j_istore_n h (lv' := [(3, _), (0, _), (1, _), (2, _)]) dX8_refusesBy_8 rfl (by decide) rfl ?_
  have lp9 : ∀ (n : Nat) (x : Int32) (Ak : Nat → Nat → Int32), -1 ≤ x.toInt ∧ x.toInt + 2 ≤ (n : Int) ∧ x.toInt < 4 → (∀ z : Int32 × (Nat → Nat → Int32), z = f_X8_refusesBy_l9 X p1 p2 n x Ak → J (X, z.2) (0, 0) [(0, .ref (ad 0)), (1, .int p1), (2, .int p2), (3, .int z.1)] 33 []) → J (X, Ak) (0, 0) [(0, .ref (ad 0)), (1, .int p1), (2, .int p2), (3, .int x)] 9 [] := by
    intro n
    induction n with
    | zero => intro x Ak hx hf; exact absurd hx (by omega)
    | succ n ih =>
      intro x Ak hx hf
      refine j_iload_n h dX8_refusesBy_9 rfl 3 rfl ?_
      refine j_if_lt h (tgt := 33) dX8_refusesBy_10 (by decide) (fun c1 => ?_) (fun c1 => ?_)
      · refine j_sub h [0, 1, 2, 3] rfl ?_
        exact hf (_, _) (Eq.symm ((ite_p c1 rfl)))
      · have ex : x = nI x.toNatClampNeg := nn_nI c1
        have bx : x.toNatClampNeg < 4 := nn_lt hx.2.2 c1
        refine j_aload_n h dX8_refusesBy_13 rfl 0 rfl ?_
        refine j_get h inlX8 0 rfl rfl 15 (by decide) (xr_6 16 rfl) rfl (v := .ref (ad 8)) rfl dX8_refusesBy_14 ?_
        refine j_iload_n h dX8_refusesBy_17 rfl 3 rfl ?_
        refine j_iconst h (v := 2) dX8_refusesBy_18 (by decide) ?_
        refine j_iadd h dX8_refusesBy_19 ?_
        refine j_aload_n h dX8_refusesBy_20 rfl 0 rfl ?_
        refine j_get h inlX8 0 rfl rfl 15 (by decide) (xr_6 16 rfl) rfl (v := .ref (ad 8)) rfl dX8_refusesBy_21 ?_
        refine j_iload_n h dX8_refusesBy_24 rfl 3 rfl ?_
        refine j_ialdE h 8 rfl x.toNatClampNeg ex (by omega) (by decide) dX8_refusesBy_25 ?_
        refine j_iastE h 8 rfl (x.toNatClampNeg + 2) (nx_add ex rfl) (by omega) (by decide) dX8_refusesBy_26 (u' := (X, up2 Ak 7 (x.toNatClampNeg + 2) (Ak 7 x.toNatClampNeg))) rfl ?_
        refine j_iinc h (v := x + (-1)) (lv' := [(3, _), (0, _), (1, _), (2, _)]) dX8_refusesBy_27 (k := 3) rfl rfl (by decide) rfl ?_
        refine j_goto h (tgt := 9) dX8_refusesBy_30 (by decide) ?_
        refine j_sub h [1, 2, 3, 0] rfl ?_
        exact ih _ _ (dn_back4 hx c1) (fun z hz => hf z (hz.trans (Eq.symm ((ite_n c1 rfl)))))
  refine j_sub h [1, 2, 3, 0] rfl ?_
  refine lp9 5 _ _ (rb_start hD) (fun z2 hz2 => ?_)
  refine j_aload_n h dX8_refusesBy_33 rfl 0 rfl ?_
  refine j_get h inlX8 0 rfl rfl 15 (by decide) (xr_6 16 rfl) rfl (v := .ref (ad 8)) rfl dX8_refusesBy_34 ?_
  refine j_iconst h (v := 0) dX8_refusesBy_37 (by decide) ?_
  refine j_iload_n h dX8_refusesBy_38 rfl 1 rfl ?_
  refine j_iastE h 8 rfl 0 rfl (by decide) (by decide) dX8_refusesBy_39 (u' := (X, up2 z2.2 7 0 p1)) rfl ?_
  refine j_aload_n h dX8_refusesBy_40 rfl 0 rfl ?_
  refine j_get h inlX8 0 rfl rfl 15 (by decide) (xr_6 16 rfl) rfl (v := .ref (ad 8)) rfl dX8_refusesBy_41 ?_
  refine j_iconst h (v := 1) dX8_refusesBy_44 (by decide) ?_
  refine j_iload_n h dX8_refusesBy_45 rfl 2 rfl ?_
  refine j_iastE h 8 rfl 1 rfl (by decide) (by decide) dX8_refusesBy_46 (u' := (X, up2 (up2 z2.2 7 0 p1) 7 1 p2)) rfl ?_
  refine j_aload_n h dX8_refusesBy_47 rfl 0 rfl ?_
  refine j_dup h dX8_refusesBy_48 rfl ?_
  refine j_get h inlX8 0 rfl rfl 16 (by decide) (xr_16 14 rfl) rfl (v := .int (X 16)) rfl dX8_refusesBy_49 ?_
  refine j_iconst h (v := 1) dX8_refusesBy_52 (by decide) ?_
  refine j_iadd h dX8_refusesBy_53 ?_
  refine j_put h inlX8 tyX8 tyX8_ok nmX8 0 rfl rfl 16 (by decide) (xr_16 14 rfl) rfl rfl rfl rfl (Nat.le_of_ble_eq_true rfl) dX8_refusesBy_54 (u' := (upd X 16 ((X 16) + 1), up2 (up2 z2.2 7 0 p1) 7 1 p2)) rfl ?_
  refine j_bipush h (v := (-3)) dX8_refusesBy_57 (by decide) ?_
  exact hR _ _ _ _ dX8_refusesBy_59 ⟨(_, _), Eq.symm ((bd_eq hz2 rfl)), rfl, rfl⟩

def f_X8_ends (X : Nat → Int32) (A : Nat → Nat → Int32) (p1 : Int32) : Int32 × (Nat → Int32) × (Nat → Nat → Int32) :=
  if p1 = 0 then
    bd (f_X8_keeps X A (X 17)) fun z2 =>
    (z2.1, (z2.2.1, z2.2.2))
  else
    (p1, (X, A))
abbrev rm_X8_ends : Room := { frames := 1, cells := 0, slots := 0, locals := 22 }
set_option maxRecDepth 100000 in
set_option maxHeartbeats 4000000 in
theorem c_X8_ends (l : Launch) (D : gD) (cy : Nat → ClassId) (ad : Nat → Nat) (X : Nat → Int32) (A : Nat → Nat → Int32) (p1 : Int32) (hU : vp_in (X 3) 9) (hI : MI A) : CtI l D cy (MW cy ad) yX8_ends cX8_ends 2 (some .int) rm_X8_ends [.ref (ad 0), .int p1] (X, A) (fun rv u => ∃ z : Int32 × ((Nat → Int32) × (Nat → Nat → Int32)), z = f_X8_ends X A p1 ∧ rv = z.1 ∧ u = z.2 ∧ MI (z.2.2) ∧ vp_in ((z.2.1) 3) 9 ∧ (∀ i, i ≠ 3 → (z.2.1) i = X i)) 0 0 := by
  refine m_entI cX8_ends 2 (by decide) (Nat.le_of_ble_eq_true rfl) (fun J h hR => ?_)
  show J (X, A) (0, 0) [(0, .ref (ad 0)), (1, .int p1)] 0 []
  refine j_iload_n h dX8_ends_0 rfl 1 rfl ?_
  refine j_if_ne h (tgt := 15) dX8_ends_1 (by decide) (fun c1 => ?_) (fun c1 => ?_)
  · refine j_iload_n h dX8_ends_15 rfl 1 rfl ?_
    exact hR _ _ _ _ dX8_ends_16 ⟨(_, _), Eq.symm ((ite_n c1 rfl)), rfl, rfl, hI, hU, (fun _ _ => rfl)⟩
  · refine j_aload_n h dX8_ends_4 rfl 0 rfl ?_
    refine j_aload_n h dX8_ends_5 rfl 0 rfl ?_
    refine j_get h inlX8 0 rfl rfl 17 (by decide) (xr_21 0 rfl) rfl (v := .int (X 17)) rfl dX8_ends_6 ?_
    refine j_callI h (n := 1) (c_X8_keeps l D cy ad _ _ _ hU hI) (xg_V (xr_16 23 rfl) (xr_17 0 rfl) (xr_17 1 rfl) (xr_1 5 rfl) (xr_17 2 rfl)) rfl rfl (by decide +kernel) ⟨Nat.le_of_ble_eq_true rfl, Nat.le_of_ble_eq_true rfl⟩ 0 rfl rfl rfl rfl rfl (Nat.le_of_ble_eq_true rfl) dX8_ends_9 ⟨by decide, by decide⟩ (fun r u' hq => ?_)
    obtain ⟨z2, hz2, rfl, rfl, qz2_0, qz2_1, qz2_2⟩ := hq
    refine j_goto h (tgt := 16) dX8_ends_12 (by decide) ?_
    exact hR _ _ _ _ dX8_ends_16 ⟨(_, _), Eq.symm ((ite_p c1 (bd_eq hz2 rfl))), rfl, rfl, qz2_0, qz2_1, qz2_2⟩

def f_X8_clear (X : Nat → Int32) (A : Nat → Nat → Int32) : Int32 × (Nat → Int32) × (Nat → Nat → Int32) :=
  bd (f_X8_begins X A) fun z1 =>
  (A 0 0, (upd X 3 0, z1))
abbrev rm_X8_clear : Room := { frames := 1, cells := 0, slots := 0, locals := 21 }
set_option maxRecDepth 100000 in
set_option maxHeartbeats 4000000 in
theorem c_X8_clear (l : Launch) (D : gD) (cy : Nat → ClassId) (ad : Nat → Nat) (X : Nat → Int32) (A : Nat → Nat → Int32)  : CtI l D cy (MW cy ad) yX8_clear cX8_clear 2 (some .int) rm_X8_clear [.ref (ad 0)] (X, A) (fun rv u => ∃ z : Int32 × ((Nat → Int32) × (Nat → Nat → Int32)), z = f_X8_clear X A ∧ rv = z.1 ∧ u = z.2) 0 0 := by
  refine m_entI cX8_clear 2 (by decide) (Nat.le_of_ble_eq_true rfl) (fun J h hR => ?_)
  show J (X, A) (0, 0) [(0, .ref (ad 0))] 0 []
  refine j_aload_n h dX8_clear_0 rfl 0 rfl ?_
  refine j_get h inlX8 0 rfl rfl 0 (by decide) (xr_6 7 rfl) rfl (v := .ref (ad 1)) rfl dX8_clear_1 ?_
  refine j_iconst h (v := 0) dX8_clear_4 (by decide) ?_
  refine j_ialdE h 1 rfl 0 rfl (by decide) (by decide) dX8_clear_5 ?_
  refine j_istore_n h (lv' := [(1, _), (0, _)]) dX8_clear_6 rfl (by decide) rfl ?_
  refine j_aload_n h dX8_clear_7 rfl 1 rfl ?_
  refine j_callV h (n := 0) (c_X8_begins l D cy ad _ _) (xg_V (xr_6 17 rfl) (xr_6 18 rfl) (xr_6 19 rfl) (xr_1 5 rfl) (xr_6 20 rfl)) rfl rfl (by decide +kernel) ⟨Nat.le_of_ble_eq_true rfl, Nat.le_of_ble_eq_true rfl⟩ 0 rfl rfl rfl rfl rfl (Nat.le_of_ble_eq_true rfl) dX8_clear_8 ⟨by decide, by decide⟩ (fun u' hq => ?_)
  obtain ⟨z1, hz1, rfl⟩ := hq
  refine j_aload_n h dX8_clear_11 rfl 1 rfl ?_
  refine j_iconst h (v := 0) dX8_clear_12 (by decide) ?_
  refine j_put h inlX8 tyX8 tyX8_ok nmX8 0 rfl rfl 3 (by decide) (xr_7 12 rfl) rfl rfl rfl rfl (Nat.le_of_ble_eq_true rfl) dX8_clear_13 (u' := (upd X 3 0, z1)) rfl ?_
  refine j_iload_n h dX8_clear_16 rfl 0 rfl ?_
  exact hR _ _ _ _ dX8_clear_17 ⟨(_, _), Eq.symm ((bd_eq hz1 rfl)), rfl, rfl⟩

def f_X8_append (X : Nat → Int32) (A : Nat → Nat → Int32) (p1 : Int32) : Int32 × (Nat → Int32) × (Nat → Nat → Int32) :=
  bd (f_X8_in X A p1 32 126) fun z1 =>
  if z1 = 0 then
    ((-2), (X, A))
  else
    if (X 9) = 60 then
      ((-2), (X, A))
    else
      ((upd X 9 ((X 9) + 1)) 9, (upd X 9 ((X 9) + 1), up2 A 5 ((X 9).toNatClampNeg) p1))
abbrev rm_X8_append : Room := { frames := 1, cells := 0, slots := 0, locals := 22 }
set_option maxRecDepth 100000 in
set_option maxHeartbeats 4000000 in
theorem c_X8_append (l : Launch) (D : gD) (cy : Nat → ClassId) (ad : Nat → Nat) (X : Nat → Int32) (A : Nat → Nat → Int32) (p1 : Int32) (hLn : vp_in (X 9) 61) : CtI l D cy (MW cy ad) yX8_append cX8_append 2 (some .int) rm_X8_append [.ref (ad 0), .int p1] (X, A) (fun rv u => ∃ z : Int32 × ((Nat → Int32) × (Nat → Nat → Int32)), z = f_X8_append X A p1 ∧ rv = z.1 ∧ u = z.2) 0 0 := by
  refine m_entI cX8_append 2 (by decide) (Nat.le_of_ble_eq_true rfl) (fun J h hR => ?_)
  show J (X, A) (0, 0) [(0, .ref (ad 0)), (1, .int p1)] 0 []
  refine j_iload_n h dX8_append_0 rfl 1 rfl ?_
  refine j_bipush h (v := 32) dX8_append_1 (by decide) ?_
  refine j_bipush h (v := 126) dX8_append_3 (by decide) ?_
  refine j_callS h (n := 3) (c_X8_in l D cy ad _ _ _ _ _) (xg_S (xr_12 13 rfl) (xr_12 14 rfl) (xr_1 5 rfl) (xr_12 15 rfl)) rfl rfl (by decide +kernel) ⟨Nat.le_of_ble_eq_true rfl, Nat.le_of_ble_eq_true rfl⟩  rfl rfl (Nat.le_of_ble_eq_true rfl) dX8_append_5 ⟨by decide, by decide⟩ (fun z1 u' hq => ?_)
  obtain ⟨hz1, rfl, bz1⟩ := hq
  refine j_if_eq h (tgt := 20) dX8_append_8 (by decide) (fun c2 => ?_) (fun c2 => ?_)
  · refine j_bipush h (v := (-2)) dX8_append_20 (by decide) ?_
    exact hR _ _ _ _ dX8_append_22 ⟨(_, _), Eq.symm ((bd_eq hz1 (ite_p c2 rfl))), rfl, rfl⟩
  · refine j_aload_n h dX8_append_11 rfl 0 rfl ?_
    refine j_get h inlX8 0 rfl rfl 9 (by decide) (xr_12 12 rfl) rfl (v := .int (X 9)) rfl dX8_append_12 ?_
    refine j_bipush h (v := 60) dX8_append_15 (by decide) ?_
    refine j_icmp_ne h (tgt := 23) dX8_append_17 (by decide) (fun c3 => ?_) (fun c3 => ?_)
    · have vl : vp_in (X 9) 60 := ne_last (N := 60) (by decide) hLn c3
      have bl : (X 9).toNatClampNeg < 60 := vp_lt vl
      have el : X 9 = nI (X 9).toNatClampNeg := vp_nI vl (by decide)
      refine j_aload_n h dX8_append_23 rfl 0 rfl ?_
      refine j_get h inlX8 0 rfl rfl 8 (by decide) (xr_6 13 rfl) rfl (v := .ref (ad 6)) rfl dX8_append_24 ?_
      refine j_aload_n h dX8_append_27 rfl 0 rfl ?_
      refine j_dup h dX8_append_28 rfl ?_
      refine j_get h inlX8 0 rfl rfl 9 (by decide) (xr_12 12 rfl) rfl (v := .int (X 9)) rfl dX8_append_29 ?_
      refine j_dup_x1 h dX8_append_32 rfl rfl ?_
      refine j_iconst h (v := 1) dX8_append_33 (by decide) ?_
      refine j_iadd h dX8_append_34 ?_
      refine j_put h inlX8 tyX8 tyX8_ok nmX8 0 rfl rfl 9 (by decide) (xr_12 12 rfl) rfl rfl rfl rfl (Nat.le_of_ble_eq_true rfl) dX8_append_35 (u' := (upd X 9 ((X 9) + 1), A)) rfl ?_
      refine j_iload_n h dX8_append_38 rfl 1 rfl ?_
      refine j_castE h 6 rfl ((X 9).toNatClampNeg) el (by omega) (by decide) (ch_fit hz1 c2) dX8_append_39 (u' := (upd X 9 ((X 9) + 1), up2 A 5 ((X 9).toNatClampNeg) p1)) rfl ?_
      refine j_aload_n h dX8_append_40 rfl 0 rfl ?_
      refine j_get h inlX8 0 rfl rfl 9 (by decide) (xr_12 12 rfl) rfl (v := .int ((upd X 9 ((X 9) + 1)) 9)) rfl dX8_append_41 ?_
      exact hR _ _ _ _ dX8_append_44 ⟨(_, _), Eq.symm ((bd_eq hz1 (ite_n c2 (ite_n c3 rfl)))), rfl, rfl⟩
    · refine j_bipush h (v := (-2)) dX8_append_20 (by decide) ?_
      exact hR _ _ _ _ dX8_append_22 ⟨(_, _), Eq.symm ((bd_eq hz1 (ite_n c2 (ite_p c3 rfl)))), rfl, rfl⟩

def f_X8_sets (X : Nat → Int32) (A : Nat → Nat → Int32) (p1 : Int32) (p2 : Int32) : Int32 × (Nat → Int32) × (Nat → Nat → Int32) :=
  bd (f_X8_in X A p2 0 9) fun z1 =>
  if z1 = 0 then
    ((-2), (X, A))
  else
    bd (f_X8_does X (up2 A 0 p1.toNatClampNeg p2) (A 0 p1.toNatClampNeg)) fun z3 =>
    (z3.1, (z3.2, up2 A 0 p1.toNatClampNeg p2))
abbrev rm_X8_sets : Room := { frames := 1, cells := 0, slots := 0, locals := 22 }
set_option maxRecDepth 100000 in
set_option maxHeartbeats 4000000 in
theorem c_X8_sets (l : Launch) (D : gD) (cy : Nat → ClassId) (ad : Nat → Nat) (X : Nat → Int32) (A : Nat → Nat → Int32) (p1 : Int32) (p2 : Int32) (v1 : vp_in p1 3) : CtI l D cy (MW cy ad) yX8_sets cX8_sets 4 (some .int) rm_X8_sets [.ref (ad 0), .int p1, .int p2] (X, A) (fun rv u => ∃ z : Int32 × ((Nat → Int32) × (Nat → Nat → Int32)), z = f_X8_sets X A p1 p2 ∧ rv = z.1 ∧ u = z.2) 0 0 := by
  refine m_entI cX8_sets 4 (by decide) (Nat.le_of_ble_eq_true rfl) (fun J h hR => ?_)
  show J (X, A) (0, 0) [(0, .ref (ad 0)), (1, .int p1), (2, .int p2)] 0 []
  have b1 : p1.toNatClampNeg < 3 := vp_lt v1
  have e1 : p1 = nI p1.toNatClampNeg := vp_nI v1 (by decide)
  refine j_iload_n h dX8_sets_0 rfl 2 rfl ?_
  refine j_iconst h (v := 0) dX8_sets_1 (by decide) ?_
  refine j_bipush h (v := 9) dX8_sets_2 (by decide) ?_
  refine j_callS h (n := 3) (c_X8_in l D cy ad _ _ _ _ _) (xg_S (xr_12 13 rfl) (xr_12 14 rfl) (xr_1 5 rfl) (xr_12 15 rfl)) rfl rfl (by decide +kernel) ⟨Nat.le_of_ble_eq_true rfl, Nat.le_of_ble_eq_true rfl⟩  rfl rfl (Nat.le_of_ble_eq_true rfl) dX8_sets_4 ⟨by decide, by decide⟩ (fun z1 u' hq => ?_)
  obtain ⟨hz1, rfl, bz1⟩ := hq
  refine j_if_ne h (tgt := 13) dX8_sets_7 (by decide) (fun c2 => ?_) (fun c2 => ?_)
  · refine j_aload_n h dX8_sets_13 rfl 0 rfl ?_
    refine j_get h inlX8 0 rfl rfl 0 (by decide) (xr_6 7 rfl) rfl (v := .ref (ad 1)) rfl dX8_sets_14 ?_
    refine j_iload_n h dX8_sets_17 rfl 1 rfl ?_
    refine j_ialdE h 1 rfl p1.toNatClampNeg e1 (by omega) (by decide) dX8_sets_18 ?_
    refine j_istore_n h (lv' := [(3, _), (0, _), (1, _), (2, _)]) dX8_sets_19 rfl (by decide) rfl ?_
    refine j_aload_n h dX8_sets_20 rfl 1 rfl ?_
    refine j_get h inlX8 0 rfl rfl 0 (by decide) (xr_6 7 rfl) rfl (v := .ref (ad 1)) rfl dX8_sets_21 ?_
    refine j_iload_n h dX8_sets_24 rfl 2 rfl ?_
    refine j_iload_n h dX8_sets_25 rfl 3 rfl ?_
    refine j_iastE h 1 rfl p1.toNatClampNeg e1 (by omega) (by decide) dX8_sets_26 (u' := (X, up2 A 0 p1.toNatClampNeg p2)) rfl ?_
    refine j_aload_n h dX8_sets_27 rfl 1 rfl ?_
    refine j_iload_n h dX8_sets_28 rfl 0 rfl ?_
    refine j_callI h (n := 1) (c_X8_does l D cy ad _ _ _) (xg_V (xr_20 20 rfl) (xr_20 21 rfl) (xr_20 22 rfl) (xr_1 5 rfl) (xr_20 23 rfl)) rfl rfl (by decide +kernel) ⟨Nat.le_of_ble_eq_true rfl, Nat.le_of_ble_eq_true rfl⟩ 0 rfl rfl rfl rfl rfl (Nat.le_of_ble_eq_true rfl) dX8_sets_29 ⟨by decide, by decide⟩ (fun r u' hq => ?_)
    obtain ⟨z3, hz3, rfl, rfl⟩ := hq
    exact hR _ _ _ _ dX8_sets_32 ⟨(_, _), Eq.symm ((bd_eq hz1 (ite_n c2 (bd_eq hz3 rfl)))), rfl, rfl⟩
  · refine j_bipush h (v := (-2)) dX8_sets_10 (by decide) ?_
    exact hR _ _ _ _ dX8_sets_12 ⟨(_, _), Eq.symm ((bd_eq hz1 (ite_p c2 rfl))), rfl, rfl⟩


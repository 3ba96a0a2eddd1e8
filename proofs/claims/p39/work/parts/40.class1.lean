/-- what keeps the class's indices in range, of a green -/
def GI (M : gM) : Prop := vp_in (M.1 3) 5 ∧ vp_in (M.1 4) 17 ∧ ∀ w, w < 16 → vp_in (M.2.2.1 w 0) 2
theorem GI.r {M : gM} (h : GI M) : M.1 3 ≤ nI 4 := le_of_vp (by decide) h.1
theorem GI.w {M : gM} (h : GI M) : M.1 4 ≤ nI 16 := le_of_vp (by decide) h.2.1
theorem GI_of {M N : gM} (h : GI M) (e3 : N.1 3 = M.1 3) (e4 : N.1 4 = M.1 4) (e : ∀ w, N.2.2.1 w 0 = M.2.2.1 w 0) : GI N := ⟨by rw [e3]; exact h.1, by rw [e4]; exact h.2.1, fun w hw => by rw [e]; exact h.2.2 w hw⟩
theorem GI_sw {M : gM} {w f : Nat} {v : Int32} (h : GI M) (hf : f ≠ 0) : GI (sw M w f v) := GI_of h rfl rfl fun i => by
  show up2 M.2.2.1 w f v i 0 = _
  by_cases q : i = w
  · rw [q, up2_eq, upd_ne _ _ (by omega)]
  · rw [up2_ne _ _ _ q]
theorem GI_sr {M : gM} {r f : Nat} {v : Int32} (h : GI M) : GI (sr M r f v) := h
theorem GI_sc {M : gM} {r f : Nat} {v : Int32} (h : GI M) : GI (sc M r f v) := h
theorem GI_sg {M : gM} {k : Nat} {v : Int32} (h : GI M) (h3 : k ≠ 3) (h4 : k ≠ 4) : GI (sg M k v) := GI_of h (upd_ne _ _ (by omega)) (upd_ne _ _ (by omega)) fun _ => rfl
theorem GI_3 {M : gM} {v : Int32} (h : GI M) (hv : vp_in v 5) : GI (sg M 3 v) := ⟨by show vp_in (upd M.1 3 v 3) 5; rw [upd_eq]; exact hv, by show vp_in (upd M.1 3 v 4) 17; rw [upd_ne _ _ (by omega)]; exact h.2.1, h.2.2⟩
theorem GI_4 {M : gM} {v : Int32} (h : GI M) (hv : vp_in v 17) : GI (sg M 4 v) := ⟨by show vp_in (upd M.1 4 v 3) 5; rw [upd_ne _ _ (by omega)]; exact h.1, by show vp_in (upd M.1 4 v 4) 17; rw [upd_eq]; exact hv, h.2.2⟩
theorem GI_z {M N : gM} (h : GI M) (hz : N = M) : GI N := hz ▸ h
/-- nothing but the reasons' count has changed of the numbers -/
def FC (X0 X : Nat → Int32) : Prop := ∀ k, k ≠ 6 → X k = X0 k
theorem FC.rf {X : Nat → Int32} : FC X X := fun _ _ => rfl
theorem FC.tr {X Y Z : Nat → Int32} (h : FC X Y) (g : FC Y Z) : FC X Z := fun k a => (g k a).trans (h k a)
theorem lt_cnt {x : Int32} {N : Nat} (hN : N + 1 < 2 ^ 31) (h : vp_in x (N + 1)) (c : x < nI N) : vp_in x N := by
  obtain ⟨j, hj, rfl⟩ := vp_in_of h hN
  exact vp_in_nI ((nI_ltI (by omega) (by omega)).mp c) (by omega)
theorem clubC_in {M : gM} (h : GI M) {p : Int32} (hp : vp_in p 16) : vp_in (M.2.2.1 p.toNatClampNeg 0) 2 := h.2.2 _ (vp_lt hp)

def f_X4_empty (M : gM) (X : Nat → Int32) (A : Nat → Nat → Int32) : (Nat → Int32) :=
  (upd X 6 0)
abbrev rm_X4_empty : Room := { frames := 0, cells := 0, slots := 0, locals := 0 }
set_option maxRecDepth 100000 in
set_option maxHeartbeats 4000000 in
theorem c_X4_empty (l : Launch) (D : gD) (cy : Nat → ClassId) (L : Nat → Nat → Nat) (G : Nat → gM) (X : Nat → Int32) (A : Nat → Nat → Int32) (b : cB) (M : gM)  : CtV l D cy (CW cy L) yX4_empty cX4_empty 1 none rm_X4_empty [.ref (L 11 6)] ((va_up G 0 M, X, A), b) (fun u => ∃ z : (Nat → Int32), z = f_X4_empty M X A ∧ u = ((va_up G 0 M, z, A), b)) 0 0 := by
  refine m_entV cX4_empty 1 (by decide) (Nat.le_of_ble_eq_true rfl) (fun J h hR => ?_)
  show J ((va_up G 0 M, X, A), b) (0, 0) [(0, .ref (L 11 6))] 0 []
  refine j_aload_n h dX4_empty_0 rfl 0 rfl ?_
  refine j_iconst h (v := 0) dX4_empty_1 (by decide) ?_
  refine j_put h inlX4 tyX4 tyX4_ok nmX4 (330 + 6) (ml_get 6) rfl 2 (by decide) (xr_21 19 rfl) rfl rfl rfl rfl (Nat.le_of_ble_eq_true rfl) dX4_empty_2 (u' := ((va_up G 0 M, upd X 6 0, A), b)) (ml_set rfl rfl) ?_
  exact hR _ _ _ dX4_empty_5 ⟨_, Eq.symm (rfl), rfl⟩

theorem em_k {M : gM} {X z : Nat → Int32} {A : Nat → Nat → Int32} (hz : z = f_X4_empty M X A) : vp_in (z 6) 4 := by
  rw [hz]; exact vp_in_nI (n := 0) (by decide) (by decide)
theorem em_f {M : gM} {X z : Nat → Int32} {A : Nat → Nat → Int32} (hz : z = f_X4_empty M X A) : FC X z := fun k h => by
  rw [hz]; exact upd_ne _ _ h

def f_X4_put (M : gM) (X : Nat → Int32) (A : Nat → Nat → Int32) (p1 : Int32) (p2 : Int32) : (Nat → Int32) × (Nat → Nat → Int32) :=
  if 3 ≤ (X 6) then
    (X, A)
  else
    (upd X 6 ((X 6) + 1), up2 (up2 A 2 ((X 6).toNatClampNeg) p1) 3 ((X 6).toNatClampNeg) p2)
abbrev rm_X4_put : Room := { frames := 0, cells := 0, slots := 0, locals := 0 }
set_option maxRecDepth 100000 in
set_option maxHeartbeats 4000000 in
theorem c_X4_put (l : Launch) (D : gD) (cy : Nat → ClassId) (L : Nat → Nat → Nat) (G : Nat → gM) (X : Nat → Int32) (A : Nat → Nat → Int32) (b : cB) (M : gM) (p1 : Int32) (p2 : Int32) (hK : vp_in (X 6) 4) : CtV l D cy (CW cy L) yX4_put cX4_put 3 none rm_X4_put [.ref (L 11 6), .int p1, .int p2] ((va_up G 0 M, X, A), b) (fun u => ∃ z : (Nat → Int32) × (Nat → Nat → Int32), z = f_X4_put M X A p1 p2 ∧ u = ((va_up G 0 M, z.1, z.2), b) ∧ vp_in (z.1 6) 4 ∧ FC X z.1) 0 0 := by
  refine m_entV cX4_put 3 (by decide) (Nat.le_of_ble_eq_true rfl) (fun J h hR => ?_)
  show J ((va_up G 0 M, X, A), b) (0, 0) [(0, .ref (L 11 6)), (1, .int p1), (2, .int p2)] 0 []
  refine j_aload_n h dX4_put_0 rfl 0 rfl ?_
  refine j_get h inlX4 (330 + 6) (ml_get 6) rfl 2 (by decide) (xr_21 19 rfl) rfl (v := .int (X 6)) rfl dX4_put_1 ?_
  refine j_iconst h (v := 3) dX4_put_4 (by decide) ?_
  refine j_icmp_ge h (tgt := 38) dX4_put_5 (by decide) (fun c1 => ?_) (fun c1 => ?_)
  · exact hR _ _ _ dX4_put_38 ⟨_, Eq.symm ((ite_p c1 rfl)), rfl, hK, FC.rf⟩
  · have vc : vp_in (X 6) 3 := lt_cnt (N := 3) (by decide) hK (Int32.not_le.mp c1)
    have bc : (X 6).toNatClampNeg < 3 := vp_lt vc
    have ec : X 6 = nI (X 6).toNatClampNeg := vp_nI vc (by decide)
    refine j_aload_n h dX4_put_8 rfl 0 rfl ?_
    refine j_get h inlX4 (330 + 6) (ml_get 6) rfl 0 (by decide) (xr_6 4 rfl) rfl (v := .ref (L 11 7)) rfl dX4_put_9 ?_
    refine j_aload_n h dX4_put_12 rfl 0 rfl ?_
    refine j_get h inlX4 (330 + 6) (ml_get 6) rfl 2 (by decide) (xr_21 19 rfl) rfl (v := .int (X 6)) rfl dX4_put_13 ?_
    refine j_iload_n h dX4_put_16 rfl 1 rfl ?_
    refine j_iastE h (330 + 7) (ml_get 7) ((X 6).toNatClampNeg) ec (by omega) (by decide) dX4_put_17 (u' := ((va_up G 0 M, X, up2 A 2 ((X 6).toNatClampNeg) p1), b)) (ml_set rfl rfl) ?_
    refine j_aload_n h dX4_put_18 rfl 0 rfl ?_
    refine j_get h inlX4 (330 + 6) (ml_get 6) rfl 1 (by decide) (xr_6 5 rfl) rfl (v := .ref (L 11 8)) rfl dX4_put_19 ?_
    refine j_aload_n h dX4_put_22 rfl 0 rfl ?_
    refine j_get h inlX4 (330 + 6) (ml_get 6) rfl 2 (by decide) (xr_21 19 rfl) rfl (v := .int (X 6)) rfl dX4_put_23 ?_
    refine j_iload_n h dX4_put_26 rfl 2 rfl ?_
    refine j_iastE h (330 + 8) (ml_get 8) ((X 6).toNatClampNeg) ec (by omega) (by decide) dX4_put_27 (u' := ((va_up G 0 M, X, up2 (up2 A 2 ((X 6).toNatClampNeg) p1) 3 ((X 6).toNatClampNeg) p2), b)) (ml_set rfl rfl) ?_
    refine j_aload_n h dX4_put_28 rfl 0 rfl ?_
    refine j_dup h dX4_put_29 rfl ?_
    refine j_get h inlX4 (330 + 6) (ml_get 6) rfl 2 (by decide) (xr_21 19 rfl) rfl (v := .int (X 6)) rfl dX4_put_30 ?_
    refine j_iconst h (v := 1) dX4_put_33 (by decide) ?_
    refine j_iadd h dX4_put_34 ?_
    refine j_put h inlX4 tyX4 tyX4_ok nmX4 (330 + 6) (ml_get 6) rfl 2 (by decide) (xr_21 19 rfl) rfl rfl rfl rfl (Nat.le_of_ble_eq_true rfl) dX4_put_35 (u' := ((va_up G 0 M, upd X 6 ((X 6) + 1), up2 (up2 A 2 ((X 6).toNatClampNeg) p1) 3 ((X 6).toNatClampNeg) p2), b)) (ml_set rfl rfl) ?_
    exact hR _ _ _ dX4_put_38 ⟨_, Eq.symm ((ite_n c1 rfl)), rfl, (vp_u (by decide) vc), (fun k h => upd_ne _ _ h)⟩

theorem tl_ix {c d : Int32} (h : vp_in c 4) (h0 : ¬ d < 0) (h1 : d < c) : c - 1 - d = nI (c - 1 - d).toNatClampNeg ∧ (c - 1 - d).toNatClampNeg < 3 := by
  obtain ⟨j, hj, rfl⟩ := vp_in_of h (by decide)
  obtain ⟨i, hi, rfl⟩ := nI_of h0
  have hij := (nI_ltI hi (by omega)).mp h1
  cases j with
  | zero => exact absurd hij (by omega)
  | succ j =>
    rw [nI_pred, pk_sub (show i ≤ j by omega), nI_clamp (by omega)]
    exact ⟨rfl, by omega⟩

def f_X4_tell (M : gM) (X : Nat → Int32) (A : Nat → Nat → Int32) (p1 : Int32) (p2 : Int32) : Int32 :=
  if p1 < (X 6) then
    if p2 = 0 then
      (A 2 ((((X 6) - 1) - p1).toNatClampNeg))
    else
      (A 3 ((((X 6) - 1) - p1).toNatClampNeg))
  else
    (-4)
abbrev rm_X4_tell : Room := { frames := 0, cells := 0, slots := 0, locals := 0 }
set_option maxRecDepth 100000 in
set_option maxHeartbeats 4000000 in
theorem c_X4_tell (l : Launch) (D : gD) (cy : Nat → ClassId) (L : Nat → Nat → Nat) (G : Nat → gM) (X : Nat → Int32) (A : Nat → Nat → Int32) (b : cB) (M : gM) (p1 : Int32) (p2 : Int32) (hK : vp_in (X 6) 4) (h0 : ¬ p1 < 0) : CtI l D cy (CW cy L) yX4_tell cX4_tell 4 (some .int) rm_X4_tell [.ref (L 11 6), .int p1, .int p2] ((va_up G 0 M, X, A), b) (fun rv u => rv = f_X4_tell M X A p1 p2 ∧ u = ((va_up G 0 M, X, A), b)) 0 0 := by
  refine m_entI cX4_tell 4 (by decide) (Nat.le_of_ble_eq_true rfl) (fun J h hR => ?_)
  show J ((va_up G 0 M, X, A), b) (0, 0) [(0, .ref (L 11 6)), (1, .int p1), (2, .int p2)] 0 []
  refine j_iload_n h dX4_tell_0 rfl 1 rfl ?_
  refine j_aload_n h dX4_tell_1 rfl 0 rfl ?_
  refine j_get h inlX4 (330 + 6) (ml_get 6) rfl 2 (by decide) (xr_21 19 rfl) rfl (v := .int (X 6)) rfl dX4_tell_2 ?_
  refine j_icmp_lt h (tgt := 11) dX4_tell_5 (by decide) (fun c1 => ?_) (fun c1 => ?_)
  · have tl := tl_ix hK h0 c1
    have bl := tl.2
    refine j_aload_n h dX4_tell_11 rfl 0 rfl ?_
    refine j_get h inlX4 (330 + 6) (ml_get 6) rfl 2 (by decide) (xr_21 19 rfl) rfl (v := .int (X 6)) rfl dX4_tell_12 ?_
    refine j_iconst h (v := 1) dX4_tell_15 (by decide) ?_
    refine j_isub h dX4_tell_16 ?_
    refine j_iload_n h dX4_tell_17 rfl 1 rfl ?_
    refine j_isub h dX4_tell_18 ?_
    refine j_istore_n h (lv' := [(3, _), (0, _), (1, _), (2, _)]) dX4_tell_19 rfl (by decide) rfl ?_
    refine j_iload_n h dX4_tell_20 rfl 3 rfl ?_
    refine j_if_eq h (tgt := 33) dX4_tell_21 (by decide) (fun c2 => ?_) (fun c2 => ?_)
    · refine j_aload_n h dX4_tell_33 rfl 1 rfl ?_
      refine j_get h inlX4 (330 + 6) (ml_get 6) rfl 0 (by decide) (xr_6 4 rfl) rfl (v := .ref (L 11 7)) rfl dX4_tell_34 ?_
      refine j_iload_n h dX4_tell_37 rfl 0 rfl ?_
      refine j_ialdE h (330 + 7) (ml_get 7) ((((X 6) - 1) - p1).toNatClampNeg) tl.1 (by omega) (by decide) dX4_tell_38 ?_
      exact hR _ _ _ _ dX4_tell_39 ⟨Eq.symm ((ite_p c1 (ite_p c2 rfl))), rfl⟩
    · refine j_aload_n h dX4_tell_24 rfl 1 rfl ?_
      refine j_get h inlX4 (330 + 6) (ml_get 6) rfl 1 (by decide) (xr_6 5 rfl) rfl (v := .ref (L 11 8)) rfl dX4_tell_25 ?_
      refine j_iload_n h dX4_tell_28 rfl 0 rfl ?_
      refine j_ialdE h (330 + 8) (ml_get 8) ((((X 6) - 1) - p1).toNatClampNeg) tl.1 (by omega) (by decide) dX4_tell_29 ?_
      refine j_goto h (tgt := 39) dX4_tell_30 (by decide) ?_
      exact hR _ _ _ _ dX4_tell_39 ⟨Eq.symm ((ite_p c1 (ite_n c2 rfl))), rfl⟩
  · refine j_bipush h (v := (-4)) dX4_tell_8 (by decide) ?_
    exact hR _ _ _ _ dX4_tell_10 ⟨Eq.symm ((ite_n c1 rfl)), rfl⟩

def f_X3_forget (M : gM) (X : Nat → Int32) (A : Nat → Nat → Int32) : (Nat → Int32) :=
  (upd X 3 0)
abbrev rm_X3_forget : Room := { frames := 0, cells := 0, slots := 0, locals := 0 }
set_option maxRecDepth 100000 in
set_option maxHeartbeats 4000000 in
theorem c_X3_forget (l : Launch) (D : gD) (cy : Nat → ClassId) (L : Nat → Nat → Nat) (G : Nat → gM) (X : Nat → Int32) (A : Nat → Nat → Int32) (b : cB) (M : gM)  : CtV l D cy (CW cy L) yX3_forget cX3_forget 1 none rm_X3_forget [.ref (L 11 1)] ((va_up G 0 M, X, A), b) (fun u => ∃ z : (Nat → Int32), z = f_X3_forget M X A ∧ u = ((va_up G 0 M, z, A), b)) 0 0 := by
  refine m_entV cX3_forget 1 (by decide) (Nat.le_of_ble_eq_true rfl) (fun J h hR => ?_)
  show J ((va_up G 0 M, X, A), b) (0, 0) [(0, .ref (L 11 1))] 0 []
  refine j_aload_n h dX3_forget_0 rfl 0 rfl ?_
  refine j_iconst h (v := 0) dX3_forget_1 (by decide) ?_
  refine j_put h inlX3 tyX3 tyX3_ok nmX3 (330 + 1) (ml_get 1) rfl 2 (by decide) (xr_6 16 rfl) rfl rfl rfl rfl (Nat.le_of_ble_eq_true rfl) dX3_forget_2 (u' := ((va_up G 0 M, upd X 3 0, A), b)) (ml_set rfl rfl) ?_
  exact hR _ _ _ dX3_forget_5 ⟨_, Eq.symm (rfl), rfl⟩

def f_X3_keep (M : gM) (X : Nat → Int32) (A : Nat → Nat → Int32) : (Nat → Int32) :=
  (upd (upd X 2 (((X 2) + 1) - ((X 2) + 1) / 9 * 9)) 3 (if (((upd X 2 (((X 2) + 1) - ((X 2) + 1) / 9 * 9)) 3) + 1) < 8 then (((upd X 2 (((X 2) + 1) - ((X 2) + 1) / 9 * 9)) 3) + 1) else 8))
abbrev rm_X3_keep : Room := { frames := 1, cells := 0, slots := 0, locals := 21 }
set_option maxRecDepth 100000 in
set_option maxHeartbeats 4000000 in
theorem c_X3_keep (l : Launch) (D : gD) (cy : Nat → ClassId) (L : Nat → Nat → Nat) (G : Nat → gM) (X : Nat → Int32) (A : Nat → Nat → Int32) (b : cB) (M : gM)  : CtV l D cy (CW cy L) yX3_keep cX3_keep 1 none rm_X3_keep [.ref (L 11 1)] ((va_up G 0 M, X, A), b) (fun u => ∃ z : (Nat → Int32), z = f_X3_keep M X A ∧ u = ((va_up G 0 M, z, A), b)) 0 0 := by
  refine m_entV cX3_keep 1 (by decide) (Nat.le_of_ble_eq_true rfl) (fun J h hR => ?_)
  show J ((va_up G 0 M, X, A), b) (0, 0) [(0, .ref (L 11 1))] 0 []
  refine j_aload_n h dX3_keep_0 rfl 0 rfl ?_
  refine j_aload_n h dX3_keep_1 rfl 0 rfl ?_
  refine j_get h inlX3 (330 + 1) (ml_get 1) rfl 1 (by decide) (xr_6 15 rfl) rfl (v := .int (X 2)) rfl dX3_keep_2 ?_
  refine j_iconst h (v := 1) dX3_keep_5 (by decide) ?_
  refine j_iadd h dX3_keep_6 ?_
  refine j_bipush h (v := 9) dX3_keep_7 (by decide) ?_
  refine j_irem h dX3_keep_9 (by decide) ?_
  refine j_put h inlX3 tyX3 tyX3_ok nmX3 (330 + 1) (ml_get 1) rfl 1 (by decide) (xr_6 15 rfl) rfl rfl rfl rfl (Nat.le_of_ble_eq_true rfl) dX3_keep_10 (u' := ((va_up G 0 M, upd X 2 (((X 2) + 1) - ((X 2) + 1) / 9 * 9), A), b)) (ml_set rfl rfl) ?_
  refine j_aload_n h dX3_keep_13 rfl 0 rfl ?_
  refine j_bipush h (v := 8) dX3_keep_14 (by decide) ?_
  refine j_aload_n h dX3_keep_16 rfl 0 rfl ?_
  refine j_get h inlX3 (330 + 1) (ml_get 1) rfl 2 (by decide) (xr_6 16 rfl) rfl (v := .int ((upd X 2 (((X 2) + 1) - ((X 2) + 1) / 9 * 9)) 3)) rfl dX3_keep_17 ?_
  refine j_iconst h (v := 1) dX3_keep_20 (by decide) ?_
  refine j_iadd h dX3_keep_21 ?_
  refine j_mmin h (xr_10 17 rfl) (xr_1 7 rfl) (xr_1 8 rfl) (xr_1 9 rfl) (by decide) (Nat.le_of_ble_eq_true rfl) (by decide) (by decide) dX3_keep_22 ?_
  refine j_put h inlX3 tyX3 tyX3_ok nmX3 (330 + 1) (ml_get 1) rfl 2 (by decide) (xr_6 16 rfl) rfl rfl rfl rfl (Nat.le_of_ble_eq_true rfl) dX3_keep_25 (u' := ((va_up G 0 M, upd (upd X 2 (((X 2) + 1) - ((X 2) + 1) / 9 * 9)) 3 (if (((upd X 2 (((X 2) + 1) - ((X 2) + 1) / 9 * 9)) 3) + 1) < 8 then (((upd X 2 (((X 2) + 1) - ((X 2) + 1) / 9 * 9)) 3) + 1) else 8), A), b)) (ml_set rfl rfl) ?_
  exact hR _ _ _ dX3_keep_28 ⟨_, Eq.symm (rfl), rfl⟩

def f_X7_isCode (M : gM) (X : Nat → Int32) (A : Nat → Nat → Int32) (p1 : Int32) : Int32 :=
  if p1 = (-1) then
    1
  else
    if p1 = (-2) then
      1
    else
      if p1 = (-3) then
        1
      else
        0
abbrev rm_X7_isCode : Room := { frames := 0, cells := 0, slots := 0, locals := 0 }
set_option maxRecDepth 100000 in
set_option maxHeartbeats 4000000 in
theorem c_X7_isCode (l : Launch) (D : gD) (cy : Nat → ClassId) (L : Nat → Nat → Nat) (G : Nat → gM) (X : Nat → Int32) (A : Nat → Nat → Int32) (b : cB) (M : gM) (p1 : Int32)  : CtI l D cy (CW cy L) yX7_isCode cX7_isCode 1 (some .boolean) rm_X7_isCode [.int p1] ((va_up G 0 M, X, A), b) (fun rv u => rv = f_X7_isCode M X A p1 ∧ u = ((va_up G 0 M, X, A), b) ∧ (rv = 0 ∨ rv = 1)) 0 0 := by
  refine m_entZ cX7_isCode 1 (by decide) (Nat.le_of_ble_eq_true rfl) (fun J h hR => ?_)
  show J ((va_up G 0 M, X, A), b) (0, 0) [(0, .int p1)] 0 []
  refine j_iload_n h dX7_isCode_0 rfl 0 rfl ?_
  refine j_iconst h (v := (-1)) dX7_isCode_1 (by decide) ?_
  refine j_icmp_eq h (tgt := 17) dX7_isCode_2 (by decide) (fun c1 => ?_) (fun c1 => ?_)
  · refine j_iconst h (v := 1) dX7_isCode_17 (by decide) ?_
    refine j_goto h (tgt := 22) dX7_isCode_18 (by decide) ?_
    exact hR _ _ _ _ dX7_isCode_22 (Or.inr rfl) ⟨Eq.symm ((ite_p c1 rfl)), rfl, (Or.inr rfl)⟩
  · refine j_iload_n h dX7_isCode_5 rfl 0 rfl ?_
    refine j_bipush h (v := (-2)) dX7_isCode_6 (by decide) ?_
    refine j_icmp_eq h (tgt := 17) dX7_isCode_8 (by decide) (fun c2 => ?_) (fun c2 => ?_)
    · refine j_iconst h (v := 1) dX7_isCode_17 (by decide) ?_
      refine j_goto h (tgt := 22) dX7_isCode_18 (by decide) ?_
      exact hR _ _ _ _ dX7_isCode_22 (Or.inr rfl) ⟨Eq.symm ((ite_n c1 (ite_p c2 rfl))), rfl, (Or.inr rfl)⟩
    · refine j_iload_n h dX7_isCode_11 rfl 0 rfl ?_
      refine j_bipush h (v := (-3)) dX7_isCode_12 (by decide) ?_
      refine j_icmp_ne h (tgt := 21) dX7_isCode_14 (by decide) (fun c3 => ?_) (fun c3 => ?_)
      · refine j_iconst h (v := 0) dX7_isCode_21 (by decide) ?_
        exact hR _ _ _ _ dX7_isCode_22 (Or.inl rfl) ⟨Eq.symm ((ite_n c1 (ite_n c2 (ite_n c3 rfl)))), rfl, (Or.inl rfl)⟩
      · refine j_iconst h (v := 1) dX7_isCode_17 (by decide) ?_
        refine j_goto h (tgt := 22) dX7_isCode_18 (by decide) ?_
        exact hR _ _ _ _ dX7_isCode_22 (Or.inr rfl) ⟨Eq.symm ((ite_n c1 (ite_n c2 (ite_p c3 rfl)))), rfl, (Or.inr rfl)⟩

def f_X7_isClub (M : gM) (X : Nat → Int32) (A : Nat → Nat → Int32) (p1 : Int32) : Int32 :=
  if p1 < 0 then
    0
  else
    if 2 ≤ p1 then
      0
    else
      1
abbrev rm_X7_isClub : Room := { frames := 0, cells := 0, slots := 0, locals := 0 }
set_option maxRecDepth 100000 in
set_option maxHeartbeats 4000000 in
theorem c_X7_isClub (l : Launch) (D : gD) (cy : Nat → ClassId) (L : Nat → Nat → Nat) (G : Nat → gM) (X : Nat → Int32) (A : Nat → Nat → Int32) (b : cB) (M : gM) (p1 : Int32)  : CtI l D cy (CW cy L) yX7_isClub cX7_isClub 1 (some .boolean) rm_X7_isClub [.int p1] ((va_up G 0 M, X, A), b) (fun rv u => rv = f_X7_isClub M X A p1 ∧ u = ((va_up G 0 M, X, A), b) ∧ (rv = 0 ∨ rv = 1)) 0 0 := by
  refine m_entZ cX7_isClub 1 (by decide) (Nat.le_of_ble_eq_true rfl) (fun J h hR => ?_)
  show J ((va_up G 0 M, X, A), b) (0, 0) [(0, .int p1)] 0 []
  refine j_iload_n h dX7_isClub_0 rfl 0 rfl ?_
  refine j_if_lt h (tgt := 13) dX7_isClub_1 (by decide) (fun c1 => ?_) (fun c1 => ?_)
  · refine j_iconst h (v := 0) dX7_isClub_13 (by decide) ?_
    exact hR _ _ _ _ dX7_isClub_14 (Or.inl rfl) ⟨Eq.symm ((ite_p c1 rfl)), rfl, (Or.inl rfl)⟩
  · refine j_iload_n h dX7_isClub_4 rfl 0 rfl ?_
    refine j_iconst h (v := 2) dX7_isClub_5 (by decide) ?_
    refine j_icmp_ge h (tgt := 13) dX7_isClub_6 (by decide) (fun c2 => ?_) (fun c2 => ?_)
    · refine j_iconst h (v := 0) dX7_isClub_13 (by decide) ?_
      exact hR _ _ _ _ dX7_isClub_14 (Or.inl rfl) ⟨Eq.symm ((ite_n c1 (ite_p c2 rfl))), rfl, (Or.inl rfl)⟩
    · refine j_iconst h (v := 1) dX7_isClub_9 (by decide) ?_
      refine j_goto h (tgt := 14) dX7_isClub_10 (by decide) ?_
      exact hR _ _ _ _ dX7_isClub_14 (Or.inr rfl) ⟨Eq.symm ((ite_n c1 (ite_n c2 rfl))), rfl, (Or.inr rfl)⟩

def f_X7_otherClub (M : gM) (X : Nat → Int32) (A : Nat → Nat → Int32) (p1 : Int32) : Int32 :=
  (1 - p1)
abbrev rm_X7_otherClub : Room := { frames := 0, cells := 0, slots := 0, locals := 0 }
set_option maxRecDepth 100000 in
set_option maxHeartbeats 4000000 in
theorem c_X7_otherClub (l : Launch) (D : gD) (cy : Nat → ClassId) (L : Nat → Nat → Nat) (G : Nat → gM) (X : Nat → Int32) (A : Nat → Nat → Int32) (b : cB) (M : gM) (p1 : Int32)  : CtI l D cy (CW cy L) yX7_otherClub cX7_otherClub 1 (some .int) rm_X7_otherClub [.int p1] ((va_up G 0 M, X, A), b) (fun rv u => rv = f_X7_otherClub M X A p1 ∧ u = ((va_up G 0 M, X, A), b)) 0 0 := by
  refine m_entI cX7_otherClub 1 (by decide) (Nat.le_of_ble_eq_true rfl) (fun J h hR => ?_)
  show J ((va_up G 0 M, X, A), b) (0, 0) [(0, .int p1)] 0 []
  refine j_iconst h (v := 1) dX7_otherClub_0 (by decide) ?_
  refine j_iload_n h dX7_otherClub_1 rfl 0 rfl ?_
  refine j_isub h dX7_otherClub_2 ?_
  exact hR _ _ _ _ dX7_otherClub_3 ⟨Eq.symm (rfl), rfl⟩

def f_X7_isStrength (M : gM) (X : Nat → Int32) (A : Nat → Nat → Int32) (p1 : Int32) : Int32 :=
  if p1 < 1 then
    0
  else
    if 20 < p1 then
      0
    else
      1
abbrev rm_X7_isStrength : Room := { frames := 0, cells := 0, slots := 0, locals := 0 }
set_option maxRecDepth 100000 in
set_option maxHeartbeats 4000000 in
theorem c_X7_isStrength (l : Launch) (D : gD) (cy : Nat → ClassId) (L : Nat → Nat → Nat) (G : Nat → gM) (X : Nat → Int32) (A : Nat → Nat → Int32) (b : cB) (M : gM) (p1 : Int32)  : CtI l D cy (CW cy L) yX7_isStrength cX7_isStrength 1 (some .boolean) rm_X7_isStrength [.int p1] ((va_up G 0 M, X, A), b) (fun rv u => rv = f_X7_isStrength M X A p1 ∧ u = ((va_up G 0 M, X, A), b) ∧ (rv = 0 ∨ rv = 1)) 0 0 := by
  refine m_entZ cX7_isStrength 1 (by decide) (Nat.le_of_ble_eq_true rfl) (fun J h hR => ?_)
  show J ((va_up G 0 M, X, A), b) (0, 0) [(0, .int p1)] 0 []
  refine j_iload_n h dX7_isStrength_0 rfl 0 rfl ?_
  refine j_iconst h (v := 1) dX7_isStrength_1 (by decide) ?_
  refine j_icmp_lt h (tgt := 15) dX7_isStrength_2 (by decide) (fun c1 => ?_) (fun c1 => ?_)
  · refine j_iconst h (v := 0) dX7_isStrength_15 (by decide) ?_
    exact hR _ _ _ _ dX7_isStrength_16 (Or.inl rfl) ⟨Eq.symm ((ite_p c1 rfl)), rfl, (Or.inl rfl)⟩
  · refine j_iload_n h dX7_isStrength_5 rfl 0 rfl ?_
    refine j_bipush h (v := 20) dX7_isStrength_6 (by decide) ?_
    refine j_icmp_gt h (tgt := 15) dX7_isStrength_8 (by decide) (fun c2 => ?_) (fun c2 => ?_)
    · refine j_iconst h (v := 0) dX7_isStrength_15 (by decide) ?_
      exact hR _ _ _ _ dX7_isStrength_16 (Or.inl rfl) ⟨Eq.symm ((ite_n c1 (ite_p c2 rfl))), rfl, (Or.inl rfl)⟩
    · refine j_iconst h (v := 1) dX7_isStrength_11 (by decide) ?_
      refine j_goto h (tgt := 16) dX7_isStrength_12 (by decide) ?_
      exact hR _ _ _ _ dX7_isStrength_16 (Or.inr rfl) ⟨Eq.symm ((ite_n c1 (ite_n c2 rfl))), rfl, (Or.inr rfl)⟩

def f_X7_isWeather (M : gM) (X : Nat → Int32) (A : Nat → Nat → Int32) (p1 : Int32) : Int32 :=
  if p1 < 0 then
    0
  else
    if 9 < p1 then
      0
    else
      1
abbrev rm_X7_isWeather : Room := { frames := 0, cells := 0, slots := 0, locals := 0 }
set_option maxRecDepth 100000 in
set_option maxHeartbeats 4000000 in
theorem c_X7_isWeather (l : Launch) (D : gD) (cy : Nat → ClassId) (L : Nat → Nat → Nat) (G : Nat → gM) (X : Nat → Int32) (A : Nat → Nat → Int32) (b : cB) (M : gM) (p1 : Int32)  : CtI l D cy (CW cy L) yX7_isWeather cX7_isWeather 1 (some .boolean) rm_X7_isWeather [.int p1] ((va_up G 0 M, X, A), b) (fun rv u => rv = f_X7_isWeather M X A p1 ∧ u = ((va_up G 0 M, X, A), b) ∧ (rv = 0 ∨ rv = 1)) 0 0 := by
  refine m_entZ cX7_isWeather 1 (by decide) (Nat.le_of_ble_eq_true rfl) (fun J h hR => ?_)
  show J ((va_up G 0 M, X, A), b) (0, 0) [(0, .int p1)] 0 []
  refine j_iload_n h dX7_isWeather_0 rfl 0 rfl ?_
  refine j_if_lt h (tgt := 14) dX7_isWeather_1 (by decide) (fun c1 => ?_) (fun c1 => ?_)
  · refine j_iconst h (v := 0) dX7_isWeather_14 (by decide) ?_
    exact hR _ _ _ _ dX7_isWeather_15 (Or.inl rfl) ⟨Eq.symm ((ite_p c1 rfl)), rfl, (Or.inl rfl)⟩
  · refine j_iload_n h dX7_isWeather_4 rfl 0 rfl ?_
    refine j_bipush h (v := 9) dX7_isWeather_5 (by decide) ?_
    refine j_icmp_gt h (tgt := 14) dX7_isWeather_7 (by decide) (fun c2 => ?_) (fun c2 => ?_)
    · refine j_iconst h (v := 0) dX7_isWeather_14 (by decide) ?_
      exact hR _ _ _ _ dX7_isWeather_15 (Or.inl rfl) ⟨Eq.symm ((ite_n c1 (ite_p c2 rfl))), rfl, (Or.inl rfl)⟩
    · refine j_iconst h (v := 1) dX7_isWeather_10 (by decide) ?_
      refine j_goto h (tgt := 15) dX7_isWeather_11 (by decide) ?_
      exact hR _ _ _ _ dX7_isWeather_15 (Or.inr rfl) ⟨Eq.symm ((ite_n c1 (ite_n c2 rfl))), rfl, (Or.inr rfl)⟩

def f_X7_refuse (M : gM) (X : Nat → Int32) (A : Nat → Nat → Int32) (p1 : Int32) (p2 : Int32) : Int32 × (Nat → Int32) × (Nat → Nat → Int32) :=
  bd (f_X4_empty M X A) fun z1 =>
  bd (f_X4_put M z1 A p1 p2) fun z2 =>
  ((-3), (z2.1, z2.2))
abbrev rm_X7_refuse : Room := { frames := 1, cells := 0, slots := 0, locals := 22 }
set_option maxRecDepth 100000 in
set_option maxHeartbeats 4000000 in
theorem c_X7_refuse (l : Launch) (D : gD) (cy : Nat → ClassId) (L : Nat → Nat → Nat) (G : Nat → gM) (X : Nat → Int32) (A : Nat → Nat → Int32) (b : cB) (M : gM) (p1 : Int32) (p2 : Int32) (hK : vp_in (X 6) 4) : CtI l D cy (CW cy L) yX7_refuse cX7_refuse 3 (some .int) rm_X7_refuse [.ref (L 11 0), .int p1, .int p2] ((va_up G 0 M, X, A), b) (fun rv u => ∃ z : Int32 × ((Nat → Int32) × (Nat → Nat → Int32)), z = f_X7_refuse M X A p1 p2 ∧ rv = z.1 ∧ u = ((va_up G 0 M, z.2.1, z.2.2), b) ∧ vp_in (z.2.1 6) 4 ∧ FC X z.2.1) 0 0 := by
  refine m_entI cX7_refuse 3 (by decide) (Nat.le_of_ble_eq_true rfl) (fun J h hR => ?_)
  show J ((va_up G 0 M, X, A), b) (0, 0) [(0, .ref (L 11 0)), (1, .int p1), (2, .int p2)] 0 []
  refine j_aload_n h dX7_refuse_0 rfl 0 rfl ?_
  refine j_get h inlX7 (330 + 0) (ml_get 0) rfl 7 (by decide) (xr_2 14 rfl) rfl (v := .ref (L 11 6)) rfl dX7_refuse_1 ?_
  refine j_callV h (n := 0) (c_X4_empty l D cy L _ _ _ _ _) (xg_V (xr_21 15 rfl) (xr_21 16 rfl) (xr_21 17 rfl) (xr_2 13 rfl) (xr_21 18 rfl)) rfl rfl (by decide +kernel) ⟨Nat.le_of_ble_eq_true rfl, Nat.le_of_ble_eq_true rfl⟩ (330 + 6) (ml_get 6) rfl rfl rfl rfl (Nat.le_of_ble_eq_true rfl) dX7_refuse_4 ⟨by decide, by decide⟩ (fun u' hq => ?_)
  obtain ⟨z1, hz1, rfl⟩ := hq
  have hKz1 : vp_in (z1 6) 4 := em_k hz1
  have hFz1 : FC X z1 := em_f hz1
  refine j_aload_n h dX7_refuse_7 rfl 0 rfl ?_
  refine j_get h inlX7 (330 + 0) (ml_get 0) rfl 7 (by decide) (xr_2 14 rfl) rfl (v := .ref (L 11 6)) rfl dX7_refuse_8 ?_
  refine j_iload_n h dX7_refuse_11 rfl 1 rfl ?_
  refine j_iload_n h dX7_refuse_12 rfl 2 rfl ?_
  refine j_callV h (n := 2) (c_X4_put l D cy L _ _ _ _ _ _ _ hKz1) (xg_V (xr_21 20 rfl) (xr_21 21 rfl) (xr_21 22 rfl) (xr_2 13 rfl) (xr_21 23 rfl)) rfl rfl (by decide +kernel) ⟨Nat.le_of_ble_eq_true rfl, Nat.le_of_ble_eq_true rfl⟩ (330 + 6) (ml_get 6) rfl rfl rfl rfl (Nat.le_of_ble_eq_true rfl) dX7_refuse_13 ⟨by decide, by decide⟩ (fun u' hq => ?_)
  obtain ⟨z2, hz2, rfl, qz2_0, qz2_1⟩ := hq
  refine j_bipush h (v := (-3)) dX7_refuse_16 (by decide) ?_
  exact hR _ _ _ _ dX7_refuse_18 ⟨(_, _), Eq.symm ((bd_eq hz1 (bd_eq hz2 rfl))), rfl, rfl, qz2_0, (FC.tr (FC.tr FC.rf hFz1) qz2_1)⟩

def f_X7_refuseWetRink (M : gM) (X : Nat → Int32) (A : Nat → Nat → Int32) (p1 : Int32) (p2 : Int32) : Int32 × (Nat → Int32) × (Nat → Nat → Int32) :=
  bd (f_X4_empty M X A) fun z1 =>
  bd (f_X4_put M z1 A 13 p2) fun z2 =>
  bd (f_X4_put M z2.1 z2.2 3 p1) fun z3 =>
  ((-3), (z3.1, z3.2))
abbrev rm_X7_refuseWetRink : Room := { frames := 1, cells := 0, slots := 0, locals := 22 }
set_option maxRecDepth 100000 in
set_option maxHeartbeats 4000000 in
theorem c_X7_refuseWetRink (l : Launch) (D : gD) (cy : Nat → ClassId) (L : Nat → Nat → Nat) (G : Nat → gM) (X : Nat → Int32) (A : Nat → Nat → Int32) (b : cB) (M : gM) (p1 : Int32) (p2 : Int32) (hK : vp_in (X 6) 4) : CtI l D cy (CW cy L) yX7_refuseWetRink cX7_refuseWetRink 3 (some .int) rm_X7_refuseWetRink [.ref (L 11 0), .int p1, .int p2] ((va_up G 0 M, X, A), b) (fun rv u => ∃ z : Int32 × ((Nat → Int32) × (Nat → Nat → Int32)), z = f_X7_refuseWetRink M X A p1 p2 ∧ rv = z.1 ∧ u = ((va_up G 0 M, z.2.1, z.2.2), b) ∧ vp_in (z.2.1 6) 4 ∧ FC X z.2.1) 0 0 := by
  refine m_entI cX7_refuseWetRink 3 (by decide) (Nat.le_of_ble_eq_true rfl) (fun J h hR => ?_)
  show J ((va_up G 0 M, X, A), b) (0, 0) [(0, .ref (L 11 0)), (1, .int p1), (2, .int p2)] 0 []
  refine j_aload_n h dX7_refuseWetRink_0 rfl 0 rfl ?_
  refine j_get h inlX7 (330 + 0) (ml_get 0) rfl 7 (by decide) (xr_2 14 rfl) rfl (v := .ref (L 11 6)) rfl dX7_refuseWetRink_1 ?_
  refine j_callV h (n := 0) (c_X4_empty l D cy L _ _ _ _ _) (xg_V (xr_21 15 rfl) (xr_21 16 rfl) (xr_21 17 rfl) (xr_2 13 rfl) (xr_21 18 rfl)) rfl rfl (by decide +kernel) ⟨Nat.le_of_ble_eq_true rfl, Nat.le_of_ble_eq_true rfl⟩ (330 + 6) (ml_get 6) rfl rfl rfl rfl (Nat.le_of_ble_eq_true rfl) dX7_refuseWetRink_4 ⟨by decide, by decide⟩ (fun u' hq => ?_)
  obtain ⟨z1, hz1, rfl⟩ := hq
  have hKz1 : vp_in (z1 6) 4 := em_k hz1
  have hFz1 : FC X z1 := em_f hz1
  refine j_aload_n h dX7_refuseWetRink_7 rfl 0 rfl ?_
  refine j_get h inlX7 (330 + 0) (ml_get 0) rfl 7 (by decide) (xr_2 14 rfl) rfl (v := .ref (L 11 6)) rfl dX7_refuseWetRink_8 ?_
  refine j_bipush h (v := 13) dX7_refuseWetRink_11 (by decide) ?_
  refine j_iload_n h dX7_refuseWetRink_13 rfl 2 rfl ?_
  refine j_callV h (n := 2) (c_X4_put l D cy L _ _ _ _ _ _ _ hKz1) (xg_V (xr_21 20 rfl) (xr_21 21 rfl) (xr_21 22 rfl) (xr_2 13 rfl) (xr_21 23 rfl)) rfl rfl (by decide +kernel) ⟨Nat.le_of_ble_eq_true rfl, Nat.le_of_ble_eq_true rfl⟩ (330 + 6) (ml_get 6) rfl rfl rfl rfl (Nat.le_of_ble_eq_true rfl) dX7_refuseWetRink_14 ⟨by decide, by decide⟩ (fun u' hq => ?_)
  obtain ⟨z2, hz2, rfl, qz2_0, qz2_1⟩ := hq
  refine j_aload_n h dX7_refuseWetRink_17 rfl 0 rfl ?_
  refine j_get h inlX7 (330 + 0) (ml_get 0) rfl 7 (by decide) (xr_2 14 rfl) rfl (v := .ref (L 11 6)) rfl dX7_refuseWetRink_18 ?_
  refine j_iconst h (v := 3) dX7_refuseWetRink_21 (by decide) ?_
  refine j_iload_n h dX7_refuseWetRink_22 rfl 1 rfl ?_
  refine j_callV h (n := 2) (c_X4_put l D cy L _ _ _ _ _ _ _ qz2_0) (xg_V (xr_21 20 rfl) (xr_21 21 rfl) (xr_21 22 rfl) (xr_2 13 rfl) (xr_21 23 rfl)) rfl rfl (by decide +kernel) ⟨Nat.le_of_ble_eq_true rfl, Nat.le_of_ble_eq_true rfl⟩ (330 + 6) (ml_get 6) rfl rfl rfl rfl (Nat.le_of_ble_eq_true rfl) dX7_refuseWetRink_23 ⟨by decide, by decide⟩ (fun u' hq => ?_)
  obtain ⟨z3, hz3, rfl, qz3_0, qz3_1⟩ := hq
  refine j_bipush h (v := (-3)) dX7_refuseWetRink_26 (by decide) ?_
  exact hR _ _ _ _ dX7_refuseWetRink_28 ⟨(_, _), Eq.symm ((bd_eq hz1 (bd_eq hz2 (bd_eq hz3 rfl)))), rfl, rfl, qz3_0, (FC.tr (FC.tr (FC.tr FC.rf hFz1) qz2_1) qz3_1)⟩

def f_X7_refuseScript (M : gM) (X : Nat → Int32) (A : Nat → Nat → Int32) (p1 : Int32) (p2 : Int32) : Int32 × (Nat → Int32) × (Nat → Nat → Int32) :=
  if p2 = (-3) then
    bd (f_X4_put M X A 12 p1) fun z2 =>
    ((-3), (z2.1, z2.2))
  else
    bd (f_X4_empty M X A) fun z3 =>
    bd (f_X4_put M z3 A 12 p1) fun z4 =>
    ((-3), (z4.1, z4.2))
abbrev rm_X7_refuseScript : Room := { frames := 1, cells := 0, slots := 0, locals := 22 }
set_option maxRecDepth 100000 in
set_option maxHeartbeats 4000000 in
theorem c_X7_refuseScript (l : Launch) (D : gD) (cy : Nat → ClassId) (L : Nat → Nat → Nat) (G : Nat → gM) (X : Nat → Int32) (A : Nat → Nat → Int32) (b : cB) (M : gM) (p1 : Int32) (p2 : Int32) (hK : vp_in (X 6) 4) : CtI l D cy (CW cy L) yX7_refuseScript cX7_refuseScript 3 (some .int) rm_X7_refuseScript [.ref (L 11 0), .int p1, .int p2] ((va_up G 0 M, X, A), b) (fun rv u => ∃ z : Int32 × ((Nat → Int32) × (Nat → Nat → Int32)), z = f_X7_refuseScript M X A p1 p2 ∧ rv = z.1 ∧ u = ((va_up G 0 M, z.2.1, z.2.2), b) ∧ vp_in (z.2.1 6) 4 ∧ FC X z.2.1) 0 0 := by
  refine m_entI cX7_refuseScript 3 (by decide) (Nat.le_of_ble_eq_true rfl) (fun J h hR => ?_)
  show J ((va_up G 0 M, X, A), b) (0, 0) [(0, .ref (L 11 0)), (1, .int p1), (2, .int p2)] 0 []
  refine j_iload_n h dX7_refuseScript_0 rfl 2 rfl ?_
  refine j_bipush h (v := (-3)) dX7_refuseScript_1 (by decide) ?_
  refine j_icmp_eq h (tgt := 13) dX7_refuseScript_3 (by decide) (fun c1 => ?_) (fun c1 => ?_)
  · refine j_aload_n h dX7_refuseScript_13 rfl 0 rfl ?_
    refine j_get h inlX7 (330 + 0) (ml_get 0) rfl 7 (by decide) (xr_2 14 rfl) rfl (v := .ref (L 11 6)) rfl dX7_refuseScript_14 ?_
    refine j_bipush h (v := 12) dX7_refuseScript_17 (by decide) ?_
    refine j_iload_n h dX7_refuseScript_19 rfl 1 rfl ?_
    refine j_callV h (n := 2) (c_X4_put l D cy L _ _ _ _ _ _ _ hK) (xg_V (xr_21 20 rfl) (xr_21 21 rfl) (xr_21 22 rfl) (xr_2 13 rfl) (xr_21 23 rfl)) rfl rfl (by decide +kernel) ⟨Nat.le_of_ble_eq_true rfl, Nat.le_of_ble_eq_true rfl⟩ (330 + 6) (ml_get 6) rfl rfl rfl rfl (Nat.le_of_ble_eq_true rfl) dX7_refuseScript_20 ⟨by decide, by decide⟩ (fun u' hq => ?_)
    obtain ⟨z2, hz2, rfl, qz2_0, qz2_1⟩ := hq
    refine j_bipush h (v := (-3)) dX7_refuseScript_23 (by decide) ?_
    exact hR _ _ _ _ dX7_refuseScript_25 ⟨(_, _), Eq.symm ((ite_p c1 (bd_eq hz2 rfl))), rfl, rfl, qz2_0, (FC.tr FC.rf qz2_1)⟩
  · refine j_aload_n h dX7_refuseScript_6 rfl 0 rfl ?_
    refine j_get h inlX7 (330 + 0) (ml_get 0) rfl 7 (by decide) (xr_2 14 rfl) rfl (v := .ref (L 11 6)) rfl dX7_refuseScript_7 ?_
    refine j_callV h (n := 0) (c_X4_empty l D cy L _ _ _ _ _) (xg_V (xr_21 15 rfl) (xr_21 16 rfl) (xr_21 17 rfl) (xr_2 13 rfl) (xr_21 18 rfl)) rfl rfl (by decide +kernel) ⟨Nat.le_of_ble_eq_true rfl, Nat.le_of_ble_eq_true rfl⟩ (330 + 6) (ml_get 6) rfl rfl rfl rfl (Nat.le_of_ble_eq_true rfl) dX7_refuseScript_10 ⟨by decide, by decide⟩ (fun u' hq => ?_)
    obtain ⟨z3, hz3, rfl⟩ := hq
    have hKz3 : vp_in (z3 6) 4 := em_k hz3
    have hFz3 : FC X z3 := em_f hz3
    refine j_aload_n h dX7_refuseScript_13 rfl 0 rfl ?_
    refine j_get h inlX7 (330 + 0) (ml_get 0) rfl 7 (by decide) (xr_2 14 rfl) rfl (v := .ref (L 11 6)) rfl dX7_refuseScript_14 ?_
    refine j_bipush h (v := 12) dX7_refuseScript_17 (by decide) ?_
    refine j_iload_n h dX7_refuseScript_19 rfl 1 rfl ?_
    refine j_callV h (n := 2) (c_X4_put l D cy L _ _ _ _ _ _ _ hKz3) (xg_V (xr_21 20 rfl) (xr_21 21 rfl) (xr_21 22 rfl) (xr_2 13 rfl) (xr_21 23 rfl)) rfl rfl (by decide +kernel) ⟨Nat.le_of_ble_eq_true rfl, Nat.le_of_ble_eq_true rfl⟩ (330 + 6) (ml_get 6) rfl rfl rfl rfl (Nat.le_of_ble_eq_true rfl) dX7_refuseScript_20 ⟨by decide, by decide⟩ (fun u' hq => ?_)
    obtain ⟨z4, hz4, rfl, qz4_0, qz4_1⟩ := hq
    refine j_bipush h (v := (-3)) dX7_refuseScript_23 (by decide) ?_
    exact hR _ _ _ _ dX7_refuseScript_25 ⟨(_, _), Eq.symm ((ite_n c1 (bd_eq hz3 (bd_eq hz4 rfl)))), rfl, rfl, qz4_0, (FC.tr (FC.tr FC.rf hFz3) qz4_1)⟩

def f_X7_fault (M : gM) (X : Nat → Int32) (A : Nat → Nat → Int32) : Int32 :=
  (X 1)
abbrev rm_X7_fault : Room := { frames := 0, cells := 0, slots := 0, locals := 0 }
set_option maxRecDepth 100000 in
set_option maxHeartbeats 4000000 in
theorem c_X7_fault (l : Launch) (D : gD) (cy : Nat → ClassId) (L : Nat → Nat → Nat) (G : Nat → gM) (X : Nat → Int32) (A : Nat → Nat → Int32) (b : cB) (M : gM)  : CtI l D cy (CW cy L) yX7_fault cX7_fault 1 (some .int) rm_X7_fault [.ref (L 11 0)] ((va_up G 0 M, X, A), b) (fun rv u => rv = f_X7_fault M X A ∧ u = ((va_up G 0 M, X, A), b)) 0 0 := by
  refine m_entI cX7_fault 1 (by decide) (Nat.le_of_ble_eq_true rfl) (fun J h hR => ?_)
  show J ((va_up G 0 M, X, A), b) (0, 0) [(0, .ref (L 11 0))] 0 []
  refine j_aload_n h dX7_fault_0 rfl 0 rfl ?_
  refine j_get h inlX7 (330 + 0) (ml_get 0) rfl 6 (by decide) (xr_2 10 rfl) rfl (v := .int (X 1)) rfl dX7_fault_1 ?_
  exact hR _ _ _ _ dX7_fault_4 ⟨Eq.symm (rfl), rfl⟩

def f_X7_settle (M : gM) (X : Nat → Int32) (A : Nat → Nat → Int32) (p1 : Int32) : Int32 × (Nat → Int32) :=
  bd (f_X7_isCode M X A p1) fun z1 =>
  if z1 = 0 then
    bd (f_X3_keep M X A) fun z3 =>
    (p1, z3)
  else
    (p1, X)
abbrev rm_X7_settle : Room := { frames := 2, cells := 0, slots := 0, locals := 41 }
set_option maxRecDepth 100000 in
set_option maxHeartbeats 4000000 in
theorem c_X7_settle (l : Launch) (D : gD) (cy : Nat → ClassId) (L : Nat → Nat → Nat) (G : Nat → gM) (X : Nat → Int32) (A : Nat → Nat → Int32) (b : cB) (M : gM) (p1 : Int32)  : CtI l D cy (CW cy L) yX7_settle cX7_settle 2 (some .int) rm_X7_settle [.ref (L 11 0), .int p1] ((va_up G 0 M, X, A), b) (fun rv u => ∃ z : Int32 × ((Nat → Int32)), z = f_X7_settle M X A p1 ∧ rv = z.1 ∧ u = ((va_up G 0 M, z.2, A), b)) 0 0 := by
  refine m_entI cX7_settle 2 (by decide) (Nat.le_of_ble_eq_true rfl) (fun J h hR => ?_)
  show J ((va_up G 0 M, X, A), b) (0, 0) [(0, .ref (L 11 0)), (1, .int p1)] 0 []
  refine j_iload_n h dX7_settle_0 rfl 1 rfl ?_
  refine j_callS h (n := 1) (c_X7_isCode l D cy L _ _ _ _ _ _) (xg_S (xr_10 10 rfl) (xr_10 11 rfl) (xr_1 2 rfl) (xr_10 12 rfl)) rfl rfl (by decide +kernel) ⟨Nat.le_of_ble_eq_true rfl, Nat.le_of_ble_eq_true rfl⟩  rfl rfl (Nat.le_of_ble_eq_true rfl) dX7_settle_1 ⟨by decide, by decide⟩ (fun z1 u' hq => ?_)
  obtain ⟨hz1, rfl, bz1⟩ := hq
  refine j_if_ne h (tgt := 14) dX7_settle_4 (by decide) (fun c2 => ?_) (fun c2 => ?_)
  · refine j_iload_n h dX7_settle_14 rfl 1 rfl ?_
    exact hR _ _ _ _ dX7_settle_15 ⟨(_, _), Eq.symm ((bd_eq hz1 (ite_n c2 rfl))), rfl, rfl⟩
  · refine j_aload_n h dX7_settle_7 rfl 0 rfl ?_
    refine j_get h inlX7 (330 + 0) (ml_get 0) rfl 3 (by decide) (xr_2 1 rfl) rfl (v := .ref (L 11 1)) rfl dX7_settle_8 ?_
    refine j_callV h (n := 0) (c_X3_keep l D cy L _ _ _ _ _) (xg_V (xr_10 13 rfl) (xr_10 14 rfl) (xr_10 15 rfl) (xr_2 0 rfl) (xr_10 16 rfl)) rfl rfl (by decide +kernel) ⟨Nat.le_of_ble_eq_true rfl, Nat.le_of_ble_eq_true rfl⟩ (330 + 1) (ml_get 1) rfl rfl rfl rfl (Nat.le_of_ble_eq_true rfl) dX7_settle_11 ⟨by decide, by decide⟩ (fun u' hq => ?_)
    obtain ⟨z3, hz3, rfl⟩ := hq
    refine j_iload_n h dX7_settle_14 rfl 1 rfl ?_
    exact hR _ _ _ _ dX7_settle_15 ⟨(_, _), Eq.symm ((bd_eq hz1 (ite_p c2 (bd_eq hz3 rfl)))), rfl, rfl⟩

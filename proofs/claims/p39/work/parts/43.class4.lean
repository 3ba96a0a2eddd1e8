theorem GI_bc_r {N : gM} : ∀ n k M, (f_X1_become_l10 N n k M).1 = M.1 ∧ (f_X1_become_l10 N n k M).2.2.1 = M.2.2.1 := by
  intro n
  induction n with
  | zero => intro k M; exact ⟨rfl, rfl⟩
  | succ n ih =>
    intro k M
    unfold f_X1_become_l10
    dsimp only [bd]
    split
    · exact ⟨rfl, rfl⟩
    · exact ⟨(ih _ _).1.trans rfl, (ih _ _).2.trans rfl⟩
theorem GI_bc_w {N : gM} (hN : GI N) : ∀ n k M, n + k = 17 → (f_X1_become_l49 N n k M).1 = M.1 ∧ ((∀ w, w < 16 → vp_in (M.2.2.1 w 0) 2) → ∀ w, w < 16 → vp_in ((f_X1_become_l49 N n k M).2.2.1 w 0) 2) := by
  intro n
  induction n with
  | zero => intro k M _; exact ⟨rfl, fun h => h⟩
  | succ n ih =>
    intro k M hk
    unfold f_X1_become_l49
    dsimp only [bd]
    split
    · exact ⟨rfl, fun h => h⟩
    · obtain ⟨h1, h2⟩ := ih (k + 1) (f_X6_become M k N) (by omega)
      refine ⟨h1.trans rfl, fun h => h2 fun w hw => ?_⟩
      by_cases q : w = k
      · have e : (f_X6_become M k N).2.2.1 w 0 = N.2.2.1 k 0 := by
          rw [q]
          unfold f_X6_become
          simp [sw, up2, upd]
        rw [e]; exact hN.2.2 k (by omega)
      · have e : (f_X6_become M k N).2.2.1 w 0 = M.2.2.1 w 0 := by
          unfold f_X6_become
          simp [sw, up2, q]
        rw [e]; exact h w hw
theorem GI_bc {M N z : gM} (h : GI M) (hN : GI N) (hz : z = f_X1_become M N) : GI z := by
  rw [hz]
  unfold f_X1_become
  dsimp only [bd]
  have a := GI_bc_r (N := N) 5 0 (sg M 3 (N.1 3))
  have b := GI_bc_w hN 17 0 (sg (f_X1_become_l10 N 5 0 (sg M 3 (N.1 3))) 4 (N.1 4)) rfl
  have h3 : (f_X1_become_l49 N 17 0 (sg (f_X1_become_l10 N 5 0 (sg M 3 (N.1 3))) 4 (N.1 4))).1 3 = N.1 3 := by
    rw [b.1]
    show upd (f_X1_become_l10 N 5 0 (sg M 3 (N.1 3))).1 4 (N.1 4) 3 = _
    rw [upd_ne _ _ (by omega), a.1]
    show upd M.1 3 (N.1 3) 3 = _
    exact upd_eq _ _ _
  have h4 : (f_X1_become_l49 N 17 0 (sg (f_X1_become_l10 N 5 0 (sg M 3 (N.1 3))) 4 (N.1 4))).1 4 = N.1 4 := by
    rw [b.1]
    show upd (f_X1_become_l10 N 5 0 (sg M 3 (N.1 3))).1 4 (N.1 4) 4 = _
    exact upd_eq _ _ _
  refine GI_sg (GI_sg (GI_sg (GI_sg (GI_sg (GI_sg (M := f_X0_become (f_X0_become (f_X1_become_l49 N 17 0 (sg (f_X1_become_l10 N 5 0 (sg M 3 (N.1 3))) 4 (N.1 4))) 0 N) 1 N) ⟨?_, ?_, ?_⟩ (by decide) (by decide)) (by decide) (by decide)) (by decide) (by decide)) (by decide) (by decide)) (by decide) (by decide)) (by decide) (by decide)
  · show vp_in ((f_X1_become_l49 N 17 0 (sg (f_X1_become_l10 N 5 0 (sg M 3 (N.1 3))) 4 (N.1 4))).1 3) 5
    rw [h3]; exact hN.1
  · show vp_in ((f_X1_become_l49 N 17 0 (sg (f_X1_become_l10 N 5 0 (sg M 3 (N.1 3))) 4 (N.1 4))).1 4) 17
    rw [h4]; exact hN.2.1
  · refine b.2 fun w hw => ?_
    show vp_in ((f_X1_become_l10 N 5 0 (sg M 3 (N.1 3))).2.2.1 w 0) 2
    rw [a.2]
    exact h.2.2 w hw
theorem GI_rs {M z : gM} (h : GI M) (hz : z = f_X1_reset M) : GI z := by
  rw [hz]
  exact ⟨vp_in_nI (n := 0) (by decide) (by decide), vp_in_nI (n := 0) (by decide) (by decide), h.2.2⟩

def f_X3_note (G : Nat → gM) (M : gM) (X : Nat → Int32) (A : Nat → Nat → Int32) : (Nat → gM) :=
  bd (f_X1_become (G (2 + ((X 2).toNatClampNeg))) M) fun z1 =>
  (va_up G (2 + ((X 2).toNatClampNeg)) z1)
abbrev rm_X3_note : Room := { frames := 2, cells := 0, slots := 0, locals := 43 }
set_option maxRecDepth 100000 in
set_option maxHeartbeats 4000000 in
theorem c_X3_note (l : Launch) (D : gD) (cy : Nat → ClassId) (L : Nat → Nat → Nat) (G : Nat → gM) (X : Nat → Int32) (A : Nat → Nat → Int32) (b : cB) (M : gM) (hF : vp_in (X 2) 9) (hG : GI M) : CtV l D cy (CW cy L) yX3_note cX3_note 2 none rm_X3_note [.ref (L 11 1), .ref (L 0 0)] ((va_up G 0 M, X, A), b) (fun u => ∃ z : (Nat → gM), z = f_X3_note G M X A ∧ u = ((va_up z 0 M, X, A), b)) 0 0 := by
  refine m_entV cX3_note 2 (by decide) (Nat.le_of_ble_eq_true rfl) (fun J h hR => ?_)
  show J ((va_up G 0 M, X, A), b) (0, 0) [(0, .ref (L 11 1)), (1, .ref (L 0 0))] 0 []
  have vf : vp_in (X 2) 9 := hF
  have bf : (X 2).toNatClampNeg < 9 := vp_lt vf
  have ef : X 2 = nI (X 2).toNatClampNeg := vp_nI vf (by decide)
  refine j_aload_n h dX3_note_0 rfl 0 rfl ?_
  refine j_get h inlX3 (330 + 1) (ml_get 1) rfl 0 (by decide) (xr_4 20 rfl) rfl (v := .ref (L 11 2)) rfl dX3_note_1 ?_
  refine j_aload_n h dX3_note_4 rfl 0 rfl ?_
  refine j_get h inlX3 (330 + 1) (ml_get 1) rfl 1 (by decide) (xr_6 15 rfl) rfl (v := .int (X 2)) rfl dX3_note_5 ?_
  refine j_aaldE h (330 + 2) 4 (ml_get 2) rfl ((X 2).toNatClampNeg) ef (by omega) (by decide) dX3_note_8 ?_
  refine j_aload_n h dX3_note_9 rfl 1 rfl ?_
  refine j_world h (u' := ((va_up (va_up G 0 M) (2 + ((X 2).toNatClampNeg)) ((va_up G 0 M) (2 + ((X 2).toNatClampNeg))), X, A), b)) (by rw [va_up_id]) ?_
  refine j_callV h (n := 1) (c_X1_become l D cy L _ _ _ _ _ (by omega) (by decide) (by omega) (by rw [va_up_self]; exact (hG).r) (by rw [va_up_self]; exact (hG).w)) (xg_V (xr_6 17 rfl) (xr_6 18 rfl) (xr_6 19 rfl) (xr_1 18 rfl) (xr_6 20 rfl)) rfl rfl (by decide +kernel) ⟨Nat.le_of_ble_eq_true rfl, Nat.le_of_ble_eq_true rfl⟩ (30 * (2 + ((X 2).toNatClampNeg)) + 0) (at_G (by omega)) rfl rfl rfl rfl (Nat.le_of_ble_eq_true rfl) dX3_note_10 ⟨by decide, by decide⟩ (fun u' hq => ?_)
  obtain ⟨z1, hz1, rfl⟩ := hq
  rw [va_up_ne _ _ (show 2 + ((X 2).toNatClampNeg) ≠ 0 by omega), va_up_self] at hz1
  refine j_world h (u' := ((va_up (va_up G (2 + ((X 2).toNatClampNeg)) z1) 0 M, X, A), b)) (by rw [va_up_comm _ _ _ (show 0 ≠ 2 + ((X 2).toNatClampNeg) by omega)]) ?_
  exact hR _ _ _ dX3_note_13 ⟨_, Eq.symm ((bd_eq hz1 rfl)), rfl⟩

def f_X3_putBack (G : Nat → gM) (M : gM) (X : Nat → Int32) (A : Nat → Nat → Int32) : gM :=
  bd (f_X1_become M (G (2 + ((X 2).toNatClampNeg)))) fun z1 =>
  z1
abbrev rm_X3_putBack : Room := { frames := 2, cells := 0, slots := 0, locals := 43 }
set_option maxRecDepth 100000 in
set_option maxHeartbeats 4000000 in
theorem c_X3_putBack (l : Launch) (D : gD) (cy : Nat → ClassId) (L : Nat → Nat → Nat) (G : Nat → gM) (X : Nat → Int32) (A : Nat → Nat → Int32) (b : cB) (M : gM) (hF : vp_in (X 2) 9) (hGd : GI (G (2 + (X 2).toNatClampNeg))) : CtV l D cy (CW cy L) yX3_putBack cX3_putBack 2 none rm_X3_putBack [.ref (L 11 1), .ref (L 0 0)] ((va_up G 0 M, X, A), b) (fun u => ∃ z : gM, z = f_X3_putBack G M X A ∧ u = ((va_up G 0 z, X, A), b)) 0 0 := by
  refine m_entV cX3_putBack 2 (by decide) (Nat.le_of_ble_eq_true rfl) (fun J h hR => ?_)
  show J ((va_up G 0 M, X, A), b) (0, 0) [(0, .ref (L 11 1)), (1, .ref (L 0 0))] 0 []
  have vf : vp_in (X 2) 9 := hF
  have bf : (X 2).toNatClampNeg < 9 := vp_lt vf
  have ef : X 2 = nI (X 2).toNatClampNeg := vp_nI vf (by decide)
  refine j_aload_n h dX3_putBack_0 rfl 1 rfl ?_
  refine j_aload_n h dX3_putBack_1 rfl 0 rfl ?_
  refine j_get h inlX3 (330 + 1) (ml_get 1) rfl 0 (by decide) (xr_4 20 rfl) rfl (v := .ref (L 11 2)) rfl dX3_putBack_2 ?_
  refine j_aload_n h dX3_putBack_5 rfl 0 rfl ?_
  refine j_get h inlX3 (330 + 1) (ml_get 1) rfl 1 (by decide) (xr_6 15 rfl) rfl (v := .int (X 2)) rfl dX3_putBack_6 ?_
  refine j_aaldE h (330 + 2) 4 (ml_get 2) rfl ((X 2).toNatClampNeg) ef (by omega) (by decide) dX3_putBack_9 ?_
  refine j_callV h (n := 1) (c_X1_become l D cy L _ _ _ _ _ (by decide) (by omega) (by omega) hGd.r hGd.w) (xg_V (xr_6 17 rfl) (xr_6 18 rfl) (xr_6 19 rfl) (xr_1 18 rfl) (xr_6 20 rfl)) rfl rfl (by decide +kernel) ⟨Nat.le_of_ble_eq_true rfl, Nat.le_of_ble_eq_true rfl⟩ (30 * 0 + 0) (at_G (by decide)) rfl rfl rfl rfl (Nat.le_of_ble_eq_true rfl) dX3_putBack_10 ⟨by decide, by decide⟩ (fun u' hq => ?_)
  obtain ⟨z1, hz1, rfl⟩ := hq
  exact hR _ _ _ dX3_putBack_13 ⟨_, Eq.symm ((bd_eq hz1 rfl)), rfl⟩

/-- the place of the past before the free one -/
def tbx (x : Int32) : Int32 := (x + 9 - 1) - (x + 9 - 1) / 9 * 9
theorem tb_in {x : Int32} (h : vp_in x 9) : vp_in (tbx x) 9 := by
  obtain ⟨j, hj, rfl⟩ := vp_in_of h (by decide)
  have e : nI j + 9 - 1 = nI (j + 8) := by
    rw [show nI j + 9 = nI (j + 8 + 1) from nI_add j 9, nI_pred]
  unfold tbx
  rw [e, show (9 : Int32) = nI 9 from rfl, pk_rem (by omega) (by decide) (by decide)]
  exact vp_in_nI (by omega) (by decide)
theorem tb_ix {X : Nat → Int32} {c : Int32} (h : vp_in (X 2) 9) : vp_in (upd (upd X 2 ((X 2 + 9 - 1) - (X 2 + 9 - 1) / 9 * 9)) 3 c 2) 9 := by
  rw [upd_ne _ _ (by omega), upd_eq]; exact tb_in h

def f_X3_takeBack (G : Nat → gM) (M : gM) (X : Nat → Int32) (A : Nat → Nat → Int32) : gM × (Nat → Int32) :=
  bd (f_X1_become M (G (2 + (((upd (upd X 2 ((((X 2) + 9) - 1) - (((X 2) + 9) - 1) / 9 * 9)) 3 (((upd X 2 ((((X 2) + 9) - 1) - (((X 2) + 9) - 1) / 9 * 9)) 3) - 1)) 2).toNatClampNeg)))) fun z1 =>
  (z1, upd (upd X 2 ((((X 2) + 9) - 1) - (((X 2) + 9) - 1) / 9 * 9)) 3 (((upd X 2 ((((X 2) + 9) - 1) - (((X 2) + 9) - 1) / 9 * 9)) 3) - 1))
abbrev rm_X3_takeBack : Room := { frames := 2, cells := 0, slots := 0, locals := 43 }
set_option maxRecDepth 100000 in
set_option maxHeartbeats 4000000 in
theorem c_X3_takeBack (l : Launch) (D : gD) (cy : Nat → ClassId) (L : Nat → Nat → Nat) (G : Nat → gM) (X : Nat → Int32) (A : Nat → Nat → Int32) (b : cB) (M : gM) (hF : vp_in (X 2) 9) (hGd : GI (G (2 + (tbx (X 2)).toNatClampNeg))) : CtV l D cy (CW cy L) yX3_takeBack cX3_takeBack 2 none rm_X3_takeBack [.ref (L 11 1), .ref (L 0 0)] ((va_up G 0 M, X, A), b) (fun u => ∃ z : gM × (Nat → Int32), z = f_X3_takeBack G M X A ∧ u = ((va_up G 0 z.1, z.2, A), b)) 0 0 := by
  refine m_entV cX3_takeBack 2 (by decide) (Nat.le_of_ble_eq_true rfl) (fun J h hR => ?_)
  show J ((va_up G 0 M, X, A), b) (0, 0) [(0, .ref (L 11 1)), (1, .ref (L 0 0))] 0 []
  refine j_aload_n h dX3_takeBack_0 rfl 0 rfl ?_
  refine j_aload_n h dX3_takeBack_1 rfl 0 rfl ?_
  refine j_get h inlX3 (330 + 1) (ml_get 1) rfl 1 (by decide) (xr_6 15 rfl) rfl (v := .int (X 2)) rfl dX3_takeBack_2 ?_
  refine j_bipush h (v := 9) dX3_takeBack_5 (by decide) ?_
  refine j_iadd h dX3_takeBack_7 ?_
  refine j_iconst h (v := 1) dX3_takeBack_8 (by decide) ?_
  refine j_isub h dX3_takeBack_9 ?_
  refine j_bipush h (v := 9) dX3_takeBack_10 (by decide) ?_
  refine j_irem h dX3_takeBack_12 (by decide) ?_
  refine j_put h inlX3 tyX3 tyX3_ok nmX3 (330 + 1) (ml_get 1) rfl 1 (by decide) (xr_6 15 rfl) rfl rfl rfl rfl (Nat.le_of_ble_eq_true rfl) dX3_takeBack_13 (u' := ((va_up G 0 M, upd X 2 ((((X 2) + 9) - 1) - (((X 2) + 9) - 1) / 9 * 9), A), b)) (ml_set rfl rfl) ?_
  refine j_aload_n h dX3_takeBack_16 rfl 0 rfl ?_
  refine j_dup h dX3_takeBack_17 rfl ?_
  refine j_get h inlX3 (330 + 1) (ml_get 1) rfl 2 (by decide) (xr_6 16 rfl) rfl (v := .int ((upd X 2 ((((X 2) + 9) - 1) - (((X 2) + 9) - 1) / 9 * 9)) 3)) rfl dX3_takeBack_18 ?_
  refine j_iconst h (v := 1) dX3_takeBack_21 (by decide) ?_
  refine j_isub h dX3_takeBack_22 ?_
  refine j_put h inlX3 tyX3 tyX3_ok nmX3 (330 + 1) (ml_get 1) rfl 2 (by decide) (xr_6 16 rfl) rfl rfl rfl rfl (Nat.le_of_ble_eq_true rfl) dX3_takeBack_23 (u' := ((va_up G 0 M, upd (upd X 2 ((((X 2) + 9) - 1) - (((X 2) + 9) - 1) / 9 * 9)) 3 (((upd X 2 ((((X 2) + 9) - 1) - (((X 2) + 9) - 1) / 9 * 9)) 3) - 1), A), b)) (ml_set rfl rfl) ?_
  refine j_aload_n h dX3_takeBack_26 rfl 1 rfl ?_
  refine j_aload_n h dX3_takeBack_27 rfl 0 rfl ?_
  refine j_get h inlX3 (330 + 1) (ml_get 1) rfl 0 (by decide) (xr_4 20 rfl) rfl (v := .ref (L 11 2)) rfl dX3_takeBack_28 ?_
  refine j_aload_n h dX3_takeBack_31 rfl 0 rfl ?_
  refine j_get h inlX3 (330 + 1) (ml_get 1) rfl 1 (by decide) (xr_6 15 rfl) rfl (v := .int ((upd (upd X 2 ((((X 2) + 9) - 1) - (((X 2) + 9) - 1) / 9 * 9)) 3 (((upd X 2 ((((X 2) + 9) - 1) - (((X 2) + 9) - 1) / 9 * 9)) 3) - 1)) 2)) rfl dX3_takeBack_32 ?_
  have vtb : vp_in ((upd (upd X 2 ((((X 2) + 9) - 1) - (((X 2) + 9) - 1) / 9 * 9)) 3 (((upd X 2 ((((X 2) + 9) - 1) - (((X 2) + 9) - 1) / 9 * 9)) 3) - 1)) 2) 9 := tb_ix hF
  have btb : ((upd (upd X 2 ((((X 2) + 9) - 1) - (((X 2) + 9) - 1) / 9 * 9)) 3 (((upd X 2 ((((X 2) + 9) - 1) - (((X 2) + 9) - 1) / 9 * 9)) 3) - 1)) 2).toNatClampNeg < 9 := vp_lt vtb
  have etb : (upd (upd X 2 ((((X 2) + 9) - 1) - (((X 2) + 9) - 1) / 9 * 9)) 3 (((upd X 2 ((((X 2) + 9) - 1) - (((X 2) + 9) - 1) / 9 * 9)) 3) - 1)) 2 = nI ((upd (upd X 2 ((((X 2) + 9) - 1) - (((X 2) + 9) - 1) / 9 * 9)) 3 (((upd X 2 ((((X 2) + 9) - 1) - (((X 2) + 9) - 1) / 9 * 9)) 3) - 1)) 2).toNatClampNeg := vp_nI vtb (by decide)
  have hGe : GI (G (2 + ((upd (upd X 2 ((((X 2) + 9) - 1) - (((X 2) + 9) - 1) / 9 * 9)) 3 (((upd X 2 ((((X 2) + 9) - 1) - (((X 2) + 9) - 1) / 9 * 9)) 3) - 1)) 2).toNatClampNeg)) := by rw [show (upd (upd X 2 ((((X 2) + 9) - 1) - (((X 2) + 9) - 1) / 9 * 9)) 3 (((upd X 2 ((((X 2) + 9) - 1) - (((X 2) + 9) - 1) / 9 * 9)) 3) - 1)) 2 = tbx (X 2) from by rw [upd_ne _ _ (by omega), upd_eq]; rfl]; exact hGd
  refine j_aaldE h (330 + 2) 4 (ml_get 2) rfl (((upd (upd X 2 ((((X 2) + 9) - 1) - (((X 2) + 9) - 1) / 9 * 9)) 3 (((upd X 2 ((((X 2) + 9) - 1) - (((X 2) + 9) - 1) / 9 * 9)) 3) - 1)) 2).toNatClampNeg) etb (by omega) (by decide) dX3_takeBack_35 ?_
  refine j_callV h (n := 1) (c_X1_become l D cy L _ _ _ _ _ (by decide) (by omega) (by omega) hGe.r hGe.w) (xg_V (xr_6 17 rfl) (xr_6 18 rfl) (xr_6 19 rfl) (xr_1 18 rfl) (xr_6 20 rfl)) rfl rfl (by decide +kernel) ⟨Nat.le_of_ble_eq_true rfl, Nat.le_of_ble_eq_true rfl⟩ (30 * 0 + 0) (at_G (by decide)) rfl rfl rfl rfl (Nat.le_of_ble_eq_true rfl) dX3_takeBack_36 ⟨by decide, by decide⟩ (fun u' hq => ?_)
  obtain ⟨z1, hz1, rfl⟩ := hq
  exact hR _ _ _ dX3_takeBack_39 ⟨_, Eq.symm ((bd_eq hz1 rfl)), rfl⟩

def f_X7_clear (M : gM) (X : Nat → Int32) (A : Nat → Nat → Int32) : Int32 × gM × (Nat → Int32) :=
  bd (f_X1_reset M) fun z1 =>
  bd (f_X3_forget z1 X A) fun z2 =>
  (M.1 5, (z1, z2))
abbrev rm_X7_clear : Room := { frames := 2, cells := 0, slots := 0, locals := 40 }
set_option maxRecDepth 100000 in
set_option maxHeartbeats 4000000 in
theorem c_X7_clear (l : Launch) (D : gD) (cy : Nat → ClassId) (L : Nat → Nat → Nat) (G : Nat → gM) (X : Nat → Int32) (A : Nat → Nat → Int32) (b : cB) (M : gM) (hG : GI M) : CtI l D cy (CW cy L) yX7_clear cX7_clear 2 (some .int) rm_X7_clear [.ref (L 11 0)] ((va_up G 0 M, X, A), b) (fun rv u => ∃ z : Int32 × (gM × (Nat → Int32)), z = f_X7_clear M X A ∧ rv = z.1 ∧ u = ((va_up G 0 z.2.1, z.2.2, A), b) ∧ GI z.2.1) 0 0 := by
  refine m_entI cX7_clear 2 (by decide) (Nat.le_of_ble_eq_true rfl) (fun J h hR => ?_)
  show J ((va_up G 0 M, X, A), b) (0, 0) [(0, .ref (L 11 0))] 0 []
  refine j_aload_n h dX7_clear_0 rfl 0 rfl ?_
  refine j_get h inlX7 (330 + 0) (ml_get 0) rfl 0 (by decide) (xr_1 19 rfl) rfl (v := .ref (L 0 0)) rfl dX7_clear_1 ?_
  refine j_get h inlX1 (30 * 0 + 0) (at_G (by decide)) rfl 5 (by decide) (xr_8 5 rfl) rfl (v := .int (M.1 5)) rfl dX7_clear_4 ?_
  refine j_istore_n h (lv' := [(1, _), (0, _)]) dX7_clear_7 rfl (by decide) rfl ?_
  refine j_aload_n h dX7_clear_8 rfl 1 rfl ?_
  refine j_get h inlX7 (330 + 0) (ml_get 0) rfl 0 (by decide) (xr_1 19 rfl) rfl (v := .ref (L 0 0)) rfl dX7_clear_9 ?_
  refine j_callV h (n := 0) (c_X1_reset l D cy L _ _ _ _ _ (by decide)) (xg_V (xr_37 23 rfl) (xr_3 20 rfl) (xr_3 21 rfl) (xr_1 18 rfl) (xr_3 22 rfl)) rfl rfl (by decide +kernel) ⟨Nat.le_of_ble_eq_true rfl, Nat.le_of_ble_eq_true rfl⟩ (30 * 0 + 0) (at_G (by decide)) rfl rfl rfl rfl (Nat.le_of_ble_eq_true rfl) dX7_clear_12 ⟨by decide, by decide⟩ (fun u' hq => ?_)
  obtain ⟨z1, hz1, rfl⟩ := hq
  have hGz1 : GI z1 := GI_rs hG hz1
  refine j_aload_n h dX7_clear_15 rfl 1 rfl ?_
  refine j_get h inlX7 (330 + 0) (ml_get 0) rfl 3 (by decide) (xr_2 1 rfl) rfl (v := .ref (L 11 1)) rfl dX7_clear_16 ?_
  refine j_callV h (n := 0) (c_X3_forget l D cy L _ _ _ _ _) (xg_V (xr_8 7 rfl) (xr_8 8 rfl) (xr_8 9 rfl) (xr_2 0 rfl) (xr_8 10 rfl)) rfl rfl (by decide +kernel) ⟨Nat.le_of_ble_eq_true rfl, Nat.le_of_ble_eq_true rfl⟩ (330 + 1) (ml_get 1) rfl rfl rfl rfl (Nat.le_of_ble_eq_true rfl) dX7_clear_19 ⟨by decide, by decide⟩ (fun u' hq => ?_)
  obtain ⟨z2, hz2, rfl⟩ := hq
  refine j_iload_n h dX7_clear_22 rfl 0 rfl ?_
  exact hR _ _ _ _ dX7_clear_23 ⟨(_, _), Eq.symm ((bd_eq hz1 (bd_eq hz2 rfl))), rfl, rfl, hGz1⟩

def f_X7_save (G : Nat → gM) (M : gM) (X : Nat → Int32) (A : Nat → Nat → Int32) : Int32 × (Nat → gM) × (Nat → Int32) :=
  bd (f_X1_become (G 1) M) fun z1 =>
  (M.1 5, (va_up G 1 z1, upd X 0 1))
abbrev rm_X7_save : Room := { frames := 2, cells := 0, slots := 0, locals := 43 }
set_option maxRecDepth 100000 in
set_option maxHeartbeats 4000000 in
theorem c_X7_save (l : Launch) (D : gD) (cy : Nat → ClassId) (L : Nat → Nat → Nat) (G : Nat → gM) (X : Nat → Int32) (A : Nat → Nat → Int32) (b : cB) (M : gM) (hG : GI M) : CtI l D cy (CW cy L) yX7_save cX7_save 1 (some .int) rm_X7_save [.ref (L 11 0)] ((va_up G 0 M, X, A), b) (fun rv u => ∃ z : Int32 × ((Nat → gM) × (Nat → Int32)), z = f_X7_save G M X A ∧ rv = z.1 ∧ u = ((va_up z.2.1 0 M, z.2.2, A), b)) 0 0 := by
  refine m_entI cX7_save 1 (by decide) (Nat.le_of_ble_eq_true rfl) (fun J h hR => ?_)
  show J ((va_up G 0 M, X, A), b) (0, 0) [(0, .ref (L 11 0))] 0 []
  refine j_aload_n h dX7_save_0 rfl 0 rfl ?_
  refine j_get h inlX7 (330 + 0) (ml_get 0) rfl 1 (by decide) (xr_1 20 rfl) rfl (v := .ref (L 1 0)) rfl dX7_save_1 ?_
  refine j_aload_n h dX7_save_4 rfl 0 rfl ?_
  refine j_get h inlX7 (330 + 0) (ml_get 0) rfl 0 (by decide) (xr_1 19 rfl) rfl (v := .ref (L 0 0)) rfl dX7_save_5 ?_
  refine j_world h (u' := ((va_up (va_up G 0 M) 1 ((va_up G 0 M) 1), X, A), b)) (by rw [va_up_id]) ?_
  refine j_callV h (n := 1) (c_X1_become l D cy L _ _ _ _ _ (by decide) (by decide) (by omega) (by rw [va_up_self]; exact (hG).r) (by rw [va_up_self]; exact (hG).w)) (xg_V (xr_8 6 rfl) (xr_6 18 rfl) (xr_6 19 rfl) (xr_1 18 rfl) (xr_6 20 rfl)) rfl rfl (by decide +kernel) ⟨Nat.le_of_ble_eq_true rfl, Nat.le_of_ble_eq_true rfl⟩ (30 * 1 + 0) (at_G (by decide)) rfl rfl rfl rfl (Nat.le_of_ble_eq_true rfl) dX7_save_8 ⟨by decide, by decide⟩ (fun u' hq => ?_)
  obtain ⟨z1, hz1, rfl⟩ := hq
  rw [va_up_ne _ _ (show 1 ≠ 0 by omega), va_up_self] at hz1
  refine j_world h (u' := ((va_up (va_up G 1 z1) 0 M, X, A), b)) (by rw [va_up_comm _ _ _ (show 0 ≠ 1 by omega)]) ?_
  refine j_aload_n h dX7_save_11 rfl 0 rfl ?_
  refine j_iconst h (v := 1) dX7_save_12 (by decide) ?_
  refine j_put h inlX7 tyX7 tyX7_ok nmX7 (330 + 0) (ml_get 0) rfl 2 (by decide) (xr_1 21 rfl) rfl rfl rfl rfl (Nat.le_of_ble_eq_true rfl) dX7_save_13 (u' := ((va_up (va_up G 1 z1) 0 M, upd X 0 1, A), b)) (ml_set rfl rfl) ?_
  refine j_aload_n h dX7_save_16 rfl 0 rfl ?_
  refine j_get h inlX7 (330 + 0) (ml_get 0) rfl 0 (by decide) (xr_1 19 rfl) rfl (v := .ref (L 0 0)) rfl dX7_save_17 ?_
  refine j_get h inlX1 (30 * 0 + 0) (at_G (by decide)) rfl 5 (by decide) (xr_8 5 rfl) rfl (v := .int (M.1 5)) rfl dX7_save_20 ?_
  exact hR _ _ _ _ dX7_save_23 ⟨(_, _), Eq.symm ((bd_eq hz1 rfl)), rfl, rfl⟩

def f_X7_restore (G : Nat → gM) (M : gM) (X : Nat → Int32) (A : Nat → Nat → Int32) : Int32 × gM × (Nat → Int32) :=
  if (X 0) = 0 then
    ((-4), (M, X))
  else
    bd (f_X1_become M (G 1)) fun z2 =>
    bd (f_X3_forget z2 X A) fun z3 =>
    (z2.1 5, (z2, z3))
abbrev rm_X7_restore : Room := { frames := 2, cells := 0, slots := 0, locals := 43 }
set_option maxRecDepth 100000 in
set_option maxHeartbeats 4000000 in
theorem c_X7_restore (l : Launch) (D : gD) (cy : Nat → ClassId) (L : Nat → Nat → Nat) (G : Nat → gM) (X : Nat → Int32) (A : Nat → Nat → Int32) (b : cB) (M : gM) (hG1 : GI (G 1)) : CtI l D cy (CW cy L) yX7_restore cX7_restore 1 (some .int) rm_X7_restore [.ref (L 11 0)] ((va_up G 0 M, X, A), b) (fun rv u => ∃ z : Int32 × (gM × (Nat → Int32)), z = f_X7_restore G M X A ∧ rv = z.1 ∧ u = ((va_up G 0 z.2.1, z.2.2, A), b)) 0 0 := by
  refine m_entI cX7_restore 1 (by decide) (Nat.le_of_ble_eq_true rfl) (fun J h hR => ?_)
  show J ((va_up G 0 M, X, A), b) (0, 0) [(0, .ref (L 11 0))] 0 []
  refine j_aload_n h dX7_restore_0 rfl 0 rfl ?_
  refine j_get h inlX7 (330 + 0) (ml_get 0) rfl 2 (by decide) (xr_1 21 rfl) rfl (v := .int (X 0)) rfl dX7_restore_1 ?_
  refine j_if_ne h (tgt := 10) dX7_restore_4 (by decide) (fun c1 => ?_) (fun c1 => ?_)
  · refine j_aload_n h dX7_restore_10 rfl 0 rfl ?_
    refine j_get h inlX7 (330 + 0) (ml_get 0) rfl 0 (by decide) (xr_1 19 rfl) rfl (v := .ref (L 0 0)) rfl dX7_restore_11 ?_
    refine j_aload_n h dX7_restore_14 rfl 0 rfl ?_
    refine j_get h inlX7 (330 + 0) (ml_get 0) rfl 1 (by decide) (xr_1 20 rfl) rfl (v := .ref (L 1 0)) rfl dX7_restore_15 ?_
    refine j_callV h (n := 1) (c_X1_become l D cy L _ _ _ _ _ (by decide) (by decide) (by omega) hG1.r hG1.w) (xg_V (xr_8 6 rfl) (xr_6 18 rfl) (xr_6 19 rfl) (xr_1 18 rfl) (xr_6 20 rfl)) rfl rfl (by decide +kernel) ⟨Nat.le_of_ble_eq_true rfl, Nat.le_of_ble_eq_true rfl⟩ (30 * 0 + 0) (at_G (by decide)) rfl rfl rfl rfl (Nat.le_of_ble_eq_true rfl) dX7_restore_18 ⟨by decide, by decide⟩ (fun u' hq => ?_)
    obtain ⟨z2, hz2, rfl⟩ := hq
    refine j_aload_n h dX7_restore_21 rfl 0 rfl ?_
    refine j_get h inlX7 (330 + 0) (ml_get 0) rfl 3 (by decide) (xr_2 1 rfl) rfl (v := .ref (L 11 1)) rfl dX7_restore_22 ?_
    refine j_callV h (n := 0) (c_X3_forget l D cy L _ _ _ _ _) (xg_V (xr_8 7 rfl) (xr_8 8 rfl) (xr_8 9 rfl) (xr_2 0 rfl) (xr_8 10 rfl)) rfl rfl (by decide +kernel) ⟨Nat.le_of_ble_eq_true rfl, Nat.le_of_ble_eq_true rfl⟩ (330 + 1) (ml_get 1) rfl rfl rfl rfl (Nat.le_of_ble_eq_true rfl) dX7_restore_25 ⟨by decide, by decide⟩ (fun u' hq => ?_)
    obtain ⟨z3, hz3, rfl⟩ := hq
    refine j_aload_n h dX7_restore_28 rfl 0 rfl ?_
    refine j_get h inlX7 (330 + 0) (ml_get 0) rfl 0 (by decide) (xr_1 19 rfl) rfl (v := .ref (L 0 0)) rfl dX7_restore_29 ?_
    refine j_get h inlX1 (30 * 0 + 0) (at_G (by decide)) rfl 5 (by decide) (xr_8 5 rfl) rfl (v := .int (z2.1 5)) rfl dX7_restore_32 ?_
    exact hR _ _ _ _ dX7_restore_35 ⟨(_, _), Eq.symm ((ite_n c1 (bd_eq hz2 (bd_eq hz3 rfl)))), rfl, rfl⟩
  · refine j_bipush h (v := (-4)) dX7_restore_7 (by decide) ?_
    exact hR _ _ _ _ dX7_restore_9 ⟨(_, _), Eq.symm ((ite_p c1 rfl)), rfl, rfl⟩

def f_X7_undo (G : Nat → gM) (M : gM) (X : Nat → Int32) (A : Nat → Nat → Int32) : Int32 × gM × (Nat → Int32) :=
  if (X 3) = 0 then
    ((-4), (M, X))
  else
    bd (f_X3_takeBack G M X A) fun z2 =>
    (z2.2 3, (z2.1, z2.2))
abbrev rm_X7_undo : Room := { frames := 3, cells := 0, slots := 0, locals := 64 }
set_option maxRecDepth 100000 in
set_option maxHeartbeats 4000000 in
theorem c_X7_undo (l : Launch) (D : gD) (cy : Nat → ClassId) (L : Nat → Nat → Nat) (G : Nat → gM) (X : Nat → Int32) (A : Nat → Nat → Int32) (b : cB) (M : gM) (hF : vp_in (X 2) 9) (hGd : GI (G (2 + (tbx (X 2)).toNatClampNeg))) : CtI l D cy (CW cy L) yX7_undo cX7_undo 1 (some .int) rm_X7_undo [.ref (L 11 0)] ((va_up G 0 M, X, A), b) (fun rv u => ∃ z : Int32 × (gM × (Nat → Int32)), z = f_X7_undo G M X A ∧ rv = z.1 ∧ u = ((va_up G 0 z.2.1, z.2.2, A), b)) 0 0 := by
  refine m_entI cX7_undo 1 (by decide) (Nat.le_of_ble_eq_true rfl) (fun J h hR => ?_)
  show J ((va_up G 0 M, X, A), b) (0, 0) [(0, .ref (L 11 0))] 0 []
  refine j_aload_n h dX7_undo_0 rfl 0 rfl ?_
  refine j_get h inlX7 (330 + 0) (ml_get 0) rfl 3 (by decide) (xr_2 1 rfl) rfl (v := .ref (L 11 1)) rfl dX7_undo_1 ?_
  refine j_get h inlX3 (330 + 1) (ml_get 1) rfl 2 (by decide) (xr_6 10 rfl) rfl (v := .int (X 3)) rfl dX7_undo_4 ?_
  refine j_if_ne h (tgt := 13) dX7_undo_7 (by decide) (fun c1 => ?_) (fun c1 => ?_)
  · refine j_aload_n h dX7_undo_13 rfl 0 rfl ?_
    refine j_get h inlX7 (330 + 0) (ml_get 0) rfl 3 (by decide) (xr_2 1 rfl) rfl (v := .ref (L 11 1)) rfl dX7_undo_14 ?_
    refine j_aload_n h dX7_undo_17 rfl 0 rfl ?_
    refine j_get h inlX7 (330 + 0) (ml_get 0) rfl 0 (by decide) (xr_1 19 rfl) rfl (v := .ref (L 0 0)) rfl dX7_undo_18 ?_
    refine j_callV h (n := 1) (c_X3_takeBack l D cy L _ _ _ _ _ hF hGd) (xg_V (xr_6 11 rfl) (xr_6 12 rfl) (xr_6 13 rfl) (xr_2 0 rfl) (xr_6 14 rfl)) rfl rfl (by decide +kernel) ⟨Nat.le_of_ble_eq_true rfl, Nat.le_of_ble_eq_true rfl⟩ (330 + 1) (ml_get 1) rfl rfl rfl rfl (Nat.le_of_ble_eq_true rfl) dX7_undo_21 ⟨by decide, by decide⟩ (fun u' hq => ?_)
    obtain ⟨z2, hz2, rfl⟩ := hq
    refine j_aload_n h dX7_undo_24 rfl 0 rfl ?_
    refine j_get h inlX7 (330 + 0) (ml_get 0) rfl 3 (by decide) (xr_2 1 rfl) rfl (v := .ref (L 11 1)) rfl dX7_undo_25 ?_
    refine j_get h inlX3 (330 + 1) (ml_get 1) rfl 2 (by decide) (xr_6 10 rfl) rfl (v := .int (z2.2 3)) rfl dX7_undo_28 ?_
    exact hR _ _ _ _ dX7_undo_31 ⟨(_, _), Eq.symm ((ite_n c1 (bd_eq hz2 rfl))), rfl, rfl⟩
  · refine j_bipush h (v := (-4)) dX7_undo_10 (by decide) ?_
    exact hR _ _ _ _ dX7_undo_12 ⟨(_, _), Eq.symm ((ite_p c1 rfl)), rfl, rfl⟩

def f_X7_rink (G : Nat → gM) (M : gM) (X : Nat → Int32) (A : Nat → Nat → Int32) (p1 : Int32) (p2 : Int32) : Int32 × (Nat → gM) × gM × (Nat → Int32) × (Nat → Nat → Int32) :=
  bd (f_X3_note G M X A) fun z1 =>
  bd (f_X7_layRink M X A p1 p2) fun z2 =>
  bd (f_X7_settle z2.2.1 z2.2.2.1 z2.2.2.2 z2.1) fun z3 =>
  (z3.1, (z1, z2.2.1, z3.2, z2.2.2.2))
abbrev rm_X7_rink : Room := { frames := 3, cells := 0, slots := 0, locals := 69 }
set_option maxRecDepth 100000 in
set_option maxHeartbeats 4000000 in
theorem c_X7_rink (l : Launch) (D : gD) (cy : Nat → ClassId) (L : Nat → Nat → Nat) (G : Nat → gM) (X : Nat → Int32) (A : Nat → Nat → Int32) (b : cB) (M : gM) (p1 : Int32) (p2 : Int32) (hG : GI M) (hK : vp_in (X 6) 4) (hF : vp_in (X 2) 9) : CtI l D cy (CW cy L) yX7_rink cX7_rink 3 (some .int) rm_X7_rink [.ref (L 11 0), .int p1, .int p2] ((va_up G 0 M, X, A), b) (fun rv u => ∃ z : Int32 × ((Nat → gM) × gM × (Nat → Int32) × (Nat → Nat → Int32)), z = f_X7_rink G M X A p1 p2 ∧ rv = z.1 ∧ u = ((va_up z.2.1 0 z.2.2.1, z.2.2.2.1, z.2.2.2.2), b) ∧ GI z.2.2.1) 0 0 := by
  refine m_entI cX7_rink 3 (by decide) (Nat.le_of_ble_eq_true rfl) (fun J h hR => ?_)
  show J ((va_up G 0 M, X, A), b) (0, 0) [(0, .ref (L 11 0)), (1, .int p1), (2, .int p2)] 0 []
  refine j_aload_n h dX7_rink_0 rfl 0 rfl ?_
  refine j_get h inlX7 (330 + 0) (ml_get 0) rfl 3 (by decide) (xr_2 1 rfl) rfl (v := .ref (L 11 1)) rfl dX7_rink_1 ?_
  refine j_aload_n h dX7_rink_4 rfl 0 rfl ?_
  refine j_get h inlX7 (330 + 0) (ml_get 0) rfl 0 (by decide) (xr_1 19 rfl) rfl (v := .ref (L 0 0)) rfl dX7_rink_5 ?_
  refine j_callV h (n := 1) (c_X3_note l D cy L _ _ _ _ _ hF hG) (xg_V (xr_8 19 rfl) (xr_8 20 rfl) (xr_8 21 rfl) (xr_2 0 rfl) (xr_8 22 rfl)) rfl rfl (by decide +kernel) ⟨Nat.le_of_ble_eq_true rfl, Nat.le_of_ble_eq_true rfl⟩ (330 + 1) (ml_get 1) rfl rfl rfl rfl (Nat.le_of_ble_eq_true rfl) dX7_rink_8 ⟨by decide, by decide⟩ (fun u' hq => ?_)
  obtain ⟨z1, hz1, rfl⟩ := hq
  refine j_aload_n h dX7_rink_11 rfl 0 rfl ?_
  refine j_aload_n h dX7_rink_12 rfl 0 rfl ?_
  refine j_iload_n h dX7_rink_13 rfl 1 rfl ?_
  refine j_iload_n h dX7_rink_14 rfl 2 rfl ?_
  refine j_callI h (n := 2) (c_X7_layRink l D cy L _ _ _ _ _ _ _ hG hK) (xg_V (xr_28 22 rfl) (xr_28 23 rfl) (xr_29 0 rfl) (xr_1 2 rfl) (xr_29 1 rfl)) rfl rfl (by decide +kernel) ⟨Nat.le_of_ble_eq_true rfl, Nat.le_of_ble_eq_true rfl⟩ (330 + 0) (ml_get 0) rfl rfl rfl rfl (Nat.le_of_ble_eq_true rfl) dX7_rink_15 ⟨by decide, by decide⟩ (fun r u' hq => ?_)
  obtain ⟨z2, hz2, rfl, rfl, qz2_0, qz2_1, qz2_2⟩ := hq
  refine j_callI h (n := 1) (c_X7_settle l D cy L _ _ _ _ _ _) (xg_V (xr_10 6 rfl) (xr_10 7 rfl) (xr_10 8 rfl) (xr_1 2 rfl) (xr_10 9 rfl)) rfl rfl (by decide +kernel) ⟨Nat.le_of_ble_eq_true rfl, Nat.le_of_ble_eq_true rfl⟩ (330 + 0) (ml_get 0) rfl rfl rfl rfl (Nat.le_of_ble_eq_true rfl) dX7_rink_18 ⟨by decide, by decide⟩ (fun r u' hq => ?_)
  obtain ⟨z3, hz3, rfl, rfl⟩ := hq
  exact hR _ _ _ _ dX7_rink_21 ⟨(_, _), Eq.symm ((bd_eq hz1 (bd_eq hz2 (bd_eq hz3 rfl)))), rfl, rfl, qz2_0⟩

def f_X7_wood (G : Nat → gM) (M : gM) (X : Nat → Int32) (A : Nat → Nat → Int32) (p1 : Int32) (p2 : Int32) : Int32 × (Nat → gM) × gM × (Nat → Int32) × (Nat → Nat → Int32) :=
  bd (f_X3_note G M X A) fun z1 =>
  bd (f_X7_addWood M X A p1 p2) fun z2 =>
  bd (f_X7_settle z2.2.1 z2.2.2.1 z2.2.2.2 z2.1) fun z3 =>
  (z3.1, (z1, z2.2.1, z3.2, z2.2.2.2))
abbrev rm_X7_wood : Room := { frames := 3, cells := 0, slots := 0, locals := 67 }
set_option maxRecDepth 100000 in
set_option maxHeartbeats 4000000 in
theorem c_X7_wood (l : Launch) (D : gD) (cy : Nat → ClassId) (L : Nat → Nat → Nat) (G : Nat → gM) (X : Nat → Int32) (A : Nat → Nat → Int32) (b : cB) (M : gM) (p1 : Int32) (p2 : Int32) (hG : GI M) (hK : vp_in (X 6) 4) (hF : vp_in (X 2) 9) : CtI l D cy (CW cy L) yX7_wood cX7_wood 3 (some .int) rm_X7_wood [.ref (L 11 0), .int p1, .int p2] ((va_up G 0 M, X, A), b) (fun rv u => ∃ z : Int32 × ((Nat → gM) × gM × (Nat → Int32) × (Nat → Nat → Int32)), z = f_X7_wood G M X A p1 p2 ∧ rv = z.1 ∧ u = ((va_up z.2.1 0 z.2.2.1, z.2.2.2.1, z.2.2.2.2), b) ∧ GI z.2.2.1) 0 0 := by
  refine m_entI cX7_wood 3 (by decide) (Nat.le_of_ble_eq_true rfl) (fun J h hR => ?_)
  show J ((va_up G 0 M, X, A), b) (0, 0) [(0, .ref (L 11 0)), (1, .int p1), (2, .int p2)] 0 []
  refine j_aload_n h dX7_wood_0 rfl 0 rfl ?_
  refine j_get h inlX7 (330 + 0) (ml_get 0) rfl 3 (by decide) (xr_2 1 rfl) rfl (v := .ref (L 11 1)) rfl dX7_wood_1 ?_
  refine j_aload_n h dX7_wood_4 rfl 0 rfl ?_
  refine j_get h inlX7 (330 + 0) (ml_get 0) rfl 0 (by decide) (xr_1 19 rfl) rfl (v := .ref (L 0 0)) rfl dX7_wood_5 ?_
  refine j_callV h (n := 1) (c_X3_note l D cy L _ _ _ _ _ hF hG) (xg_V (xr_8 19 rfl) (xr_8 20 rfl) (xr_8 21 rfl) (xr_2 0 rfl) (xr_8 22 rfl)) rfl rfl (by decide +kernel) ⟨Nat.le_of_ble_eq_true rfl, Nat.le_of_ble_eq_true rfl⟩ (330 + 1) (ml_get 1) rfl rfl rfl rfl (Nat.le_of_ble_eq_true rfl) dX7_wood_8 ⟨by decide, by decide⟩ (fun u' hq => ?_)
  obtain ⟨z1, hz1, rfl⟩ := hq
  refine j_aload_n h dX7_wood_11 rfl 0 rfl ?_
  refine j_aload_n h dX7_wood_12 rfl 0 rfl ?_
  refine j_iload_n h dX7_wood_13 rfl 1 rfl ?_
  refine j_iload_n h dX7_wood_14 rfl 2 rfl ?_
  refine j_callI h (n := 2) (c_X7_addWood l D cy L _ _ _ _ _ _ _ hG hK) (xg_V (xr_29 16 rfl) (xr_29 17 rfl) (xr_29 18 rfl) (xr_1 2 rfl) (xr_29 19 rfl)) rfl rfl (by decide +kernel) ⟨Nat.le_of_ble_eq_true rfl, Nat.le_of_ble_eq_true rfl⟩ (330 + 0) (ml_get 0) rfl rfl rfl rfl (Nat.le_of_ble_eq_true rfl) dX7_wood_15 ⟨by decide, by decide⟩ (fun r u' hq => ?_)
  obtain ⟨z2, hz2, rfl, rfl, qz2_0, qz2_1, qz2_2⟩ := hq
  refine j_callI h (n := 1) (c_X7_settle l D cy L _ _ _ _ _ _) (xg_V (xr_10 6 rfl) (xr_10 7 rfl) (xr_10 8 rfl) (xr_1 2 rfl) (xr_10 9 rfl)) rfl rfl (by decide +kernel) ⟨Nat.le_of_ble_eq_true rfl, Nat.le_of_ble_eq_true rfl⟩ (330 + 0) (ml_get 0) rfl rfl rfl rfl (Nat.le_of_ble_eq_true rfl) dX7_wood_18 ⟨by decide, by decide⟩ (fun r u' hq => ?_)
  obtain ⟨z3, hz3, rfl, rfl⟩ := hq
  exact hR _ _ _ _ dX7_wood_21 ⟨(_, _), Eq.symm ((bd_eq hz1 (bd_eq hz2 (bd_eq hz3 rfl)))), rfl, rfl, qz2_0⟩

def f_X7_begin (G : Nat → gM) (M : gM) (X : Nat → Int32) (A : Nat → Nat → Int32) (p1 : Int32) (p2 : Int32) : Int32 × (Nat → gM) × gM × (Nat → Int32) × (Nat → Nat → Int32) :=
  bd (f_X3_note G M X A) fun z1 =>
  bd (f_X7_beginEnd M X A p1 p2) fun z2 =>
  bd (f_X7_settle z2.2.1 z2.2.2.1 z2.2.2.2 z2.1) fun z3 =>
  (z3.1, (z1, z2.2.1, z3.2, z2.2.2.2))
abbrev rm_X7_begin : Room := { frames := 4, cells := 0, slots := 0, locals := 88 }
set_option maxRecDepth 100000 in
set_option maxHeartbeats 4000000 in
theorem c_X7_begin (l : Launch) (D : gD) (cy : Nat → ClassId) (L : Nat → Nat → Nat) (G : Nat → gM) (X : Nat → Int32) (A : Nat → Nat → Int32) (b : cB) (M : gM) (p1 : Int32) (p2 : Int32) (hG : GI M) (hK : vp_in (X 6) 4) (hF : vp_in (X 2) 9) : CtI l D cy (CW cy L) yX7_begin cX7_begin 3 (some .int) rm_X7_begin [.ref (L 11 0), .int p1, .int p2] ((va_up G 0 M, X, A), b) (fun rv u => ∃ z : Int32 × ((Nat → gM) × gM × (Nat → Int32) × (Nat → Nat → Int32)), z = f_X7_begin G M X A p1 p2 ∧ rv = z.1 ∧ u = ((va_up z.2.1 0 z.2.2.1, z.2.2.2.1, z.2.2.2.2), b) ∧ GI z.2.2.1) 0 0 := by
  refine m_entI cX7_begin 3 (by decide) (Nat.le_of_ble_eq_true rfl) (fun J h hR => ?_)
  show J ((va_up G 0 M, X, A), b) (0, 0) [(0, .ref (L 11 0)), (1, .int p1), (2, .int p2)] 0 []
  refine j_aload_n h dX7_begin_0 rfl 0 rfl ?_
  refine j_get h inlX7 (330 + 0) (ml_get 0) rfl 3 (by decide) (xr_2 1 rfl) rfl (v := .ref (L 11 1)) rfl dX7_begin_1 ?_
  refine j_aload_n h dX7_begin_4 rfl 0 rfl ?_
  refine j_get h inlX7 (330 + 0) (ml_get 0) rfl 0 (by decide) (xr_1 19 rfl) rfl (v := .ref (L 0 0)) rfl dX7_begin_5 ?_
  refine j_callV h (n := 1) (c_X3_note l D cy L _ _ _ _ _ hF hG) (xg_V (xr_8 19 rfl) (xr_8 20 rfl) (xr_8 21 rfl) (xr_2 0 rfl) (xr_8 22 rfl)) rfl rfl (by decide +kernel) ⟨Nat.le_of_ble_eq_true rfl, Nat.le_of_ble_eq_true rfl⟩ (330 + 1) (ml_get 1) rfl rfl rfl rfl (Nat.le_of_ble_eq_true rfl) dX7_begin_8 ⟨by decide, by decide⟩ (fun u' hq => ?_)
  obtain ⟨z1, hz1, rfl⟩ := hq
  refine j_aload_n h dX7_begin_11 rfl 0 rfl ?_
  refine j_aload_n h dX7_begin_12 rfl 0 rfl ?_
  refine j_iload_n h dX7_begin_13 rfl 1 rfl ?_
  refine j_iload_n h dX7_begin_14 rfl 2 rfl ?_
  refine j_callI h (n := 2) (c_X7_beginEnd l D cy L _ _ _ _ _ _ _ hG hK) (xg_V (xr_20 22 rfl) (xr_20 23 rfl) (xr_21 0 rfl) (xr_1 2 rfl) (xr_21 1 rfl)) rfl rfl (by decide +kernel) ⟨Nat.le_of_ble_eq_true rfl, Nat.le_of_ble_eq_true rfl⟩ (330 + 0) (ml_get 0) rfl rfl rfl rfl (Nat.le_of_ble_eq_true rfl) dX7_begin_15 ⟨by decide, by decide⟩ (fun r u' hq => ?_)
  obtain ⟨z2, hz2, rfl, rfl, qz2_0, qz2_1, qz2_2⟩ := hq
  refine j_callI h (n := 1) (c_X7_settle l D cy L _ _ _ _ _ _) (xg_V (xr_10 6 rfl) (xr_10 7 rfl) (xr_10 8 rfl) (xr_1 2 rfl) (xr_10 9 rfl)) rfl rfl (by decide +kernel) ⟨Nat.le_of_ble_eq_true rfl, Nat.le_of_ble_eq_true rfl⟩ (330 + 0) (ml_get 0) rfl rfl rfl rfl (Nat.le_of_ble_eq_true rfl) dX7_begin_18 ⟨by decide, by decide⟩ (fun r u' hq => ?_)
  obtain ⟨z3, hz3, rfl, rfl⟩ := hq
  exact hR _ _ _ _ dX7_begin_21 ⟨(_, _), Eq.symm ((bd_eq hz1 (bd_eq hz2 (bd_eq hz3 rfl)))), rfl, rfl, qz2_0⟩

def f_X7_bowl (G : Nat → gM) (M : gM) (X : Nat → Int32) (A : Nat → Nat → Int32) (p1 : Int32) (p2 : Int32) (p3 : Int32) (p4 : Int32) (p5 : Int32) : Int32 × (Nat → gM) × gM × (Nat → Int32) × (Nat → Nat → Int32) :=
  bd (f_X3_note G M X A) fun z1 =>
  bd (f_X7_bowlWood M X A p1 p2 p3 p4 p5) fun z2 =>
  bd (f_X7_settle z2.2.1 z2.2.2.1 z2.2.2.2 z2.1) fun z3 =>
  (z3.1, (z1, z2.2.1, z3.2, z2.2.2.2))
abbrev rm_X7_bowl : Room := { frames := 4, cells := 0, slots := 0, locals := 105 }
set_option maxRecDepth 100000 in
set_option maxHeartbeats 4000000 in
theorem c_X7_bowl (l : Launch) (D : gD) (cy : Nat → ClassId) (L : Nat → Nat → Nat) (G : Nat → gM) (X : Nat → Int32) (A : Nat → Nat → Int32) (b : cB) (M : gM) (p1 : Int32) (p2 : Int32) (p3 : Int32) (p4 : Int32) (p5 : Int32) (hG : GI M) (hK : vp_in (X 6) 4) (hF : vp_in (X 2) 9) : CtI l D cy (CW cy L) yX7_bowl cX7_bowl 6 (some .int) rm_X7_bowl [.ref (L 11 0), .int p1, .int p2, .int p3, .int p4, .int p5] ((va_up G 0 M, X, A), b) (fun rv u => ∃ z : Int32 × ((Nat → gM) × gM × (Nat → Int32) × (Nat → Nat → Int32)), z = f_X7_bowl G M X A p1 p2 p3 p4 p5 ∧ rv = z.1 ∧ u = ((va_up z.2.1 0 z.2.2.1, z.2.2.2.1, z.2.2.2.2), b) ∧ GI z.2.2.1) 0 0 := by
  refine m_entI cX7_bowl 6 (by decide) (Nat.le_of_ble_eq_true rfl) (fun J h hR => ?_)
  show J ((va_up G 0 M, X, A), b) (0, 0) [(0, .ref (L 11 0)), (1, .int p1), (2, .int p2), (3, .int p3), (4, .int p4), (5, .int p5)] 0 []
  refine j_aload_n h dX7_bowl_0 rfl 0 rfl ?_
  refine j_get h inlX7 (330 + 0) (ml_get 0) rfl 3 (by decide) (xr_2 1 rfl) rfl (v := .ref (L 11 1)) rfl dX7_bowl_1 ?_
  refine j_aload_n h dX7_bowl_4 rfl 0 rfl ?_
  refine j_get h inlX7 (330 + 0) (ml_get 0) rfl 0 (by decide) (xr_1 19 rfl) rfl (v := .ref (L 0 0)) rfl dX7_bowl_5 ?_
  refine j_callV h (n := 1) (c_X3_note l D cy L _ _ _ _ _ hF hG) (xg_V (xr_8 19 rfl) (xr_8 20 rfl) (xr_8 21 rfl) (xr_2 0 rfl) (xr_8 22 rfl)) rfl rfl (by decide +kernel) ⟨Nat.le_of_ble_eq_true rfl, Nat.le_of_ble_eq_true rfl⟩ (330 + 1) (ml_get 1) rfl rfl rfl rfl (Nat.le_of_ble_eq_true rfl) dX7_bowl_8 ⟨by decide, by decide⟩ (fun u' hq => ?_)
  obtain ⟨z1, hz1, rfl⟩ := hq
  refine j_aload_n h dX7_bowl_11 rfl 0 rfl ?_
  refine j_aload_n h dX7_bowl_12 rfl 0 rfl ?_
  refine j_iload_n h dX7_bowl_13 rfl 1 rfl ?_
  refine j_iload_n h dX7_bowl_14 rfl 2 rfl ?_
  refine j_iload_n h dX7_bowl_15 rfl 3 rfl ?_
  refine j_iload h dX7_bowl_16 4 rfl ?_
  refine j_iload h dX7_bowl_18 5 rfl ?_
  refine j_callI h (n := 5) (c_X7_bowlWood l D cy L _ _ _ _ _ _ _ _ _ _ hG hK) (xg_V (xr_22 12 rfl) (xr_22 13 rfl) (xr_22 14 rfl) (xr_1 2 rfl) (xr_22 15 rfl)) rfl rfl (by decide +kernel) ⟨Nat.le_of_ble_eq_true rfl, Nat.le_of_ble_eq_true rfl⟩ (330 + 0) (ml_get 0) rfl rfl rfl rfl (Nat.le_of_ble_eq_true rfl) dX7_bowl_20 ⟨by decide, by decide⟩ (fun r u' hq => ?_)
  obtain ⟨z2, hz2, rfl, rfl, qz2_0, qz2_1, qz2_2⟩ := hq
  refine j_callI h (n := 1) (c_X7_settle l D cy L _ _ _ _ _ _) (xg_V (xr_10 6 rfl) (xr_10 7 rfl) (xr_10 8 rfl) (xr_1 2 rfl) (xr_10 9 rfl)) rfl rfl (by decide +kernel) ⟨Nat.le_of_ble_eq_true rfl, Nat.le_of_ble_eq_true rfl⟩ (330 + 0) (ml_get 0) rfl rfl rfl rfl (Nat.le_of_ble_eq_true rfl) dX7_bowl_23 ⟨by decide, by decide⟩ (fun r u' hq => ?_)
  obtain ⟨z3, hz3, rfl, rfl⟩ := hq
  exact hR _ _ _ _ dX7_bowl_26 ⟨(_, _), Eq.symm ((bd_eq hz1 (bd_eq hz2 (bd_eq hz3 rfl)))), rfl, rfl, qz2_0⟩

def f_X7_close (G : Nat → gM) (M : gM) (X : Nat → Int32) (A : Nat → Nat → Int32) (p1 : Int32) : Int32 × (Nat → gM) × gM × (Nat → Int32) × (Nat → Nat → Int32) :=
  bd (f_X3_note G M X A) fun z1 =>
  bd (f_X7_closeEnd M X A p1) fun z2 =>
  bd (f_X7_settle z2.2.1 z2.2.2.1 z2.2.2.2 z2.1) fun z3 =>
  (z3.1, (z1, z2.2.1, z3.2, z2.2.2.2))
abbrev rm_X7_close : Room := { frames := 4, cells := 0, slots := 0, locals := 93 }
set_option maxRecDepth 100000 in
set_option maxHeartbeats 4000000 in
theorem c_X7_close (l : Launch) (D : gD) (cy : Nat → ClassId) (L : Nat → Nat → Nat) (G : Nat → gM) (X : Nat → Int32) (A : Nat → Nat → Int32) (b : cB) (M : gM) (p1 : Int32) (hG : GI M) (hK : vp_in (X 6) 4) (hF : vp_in (X 2) 9) : CtI l D cy (CW cy L) yX7_close cX7_close 2 (some .int) rm_X7_close [.ref (L 11 0), .int p1] ((va_up G 0 M, X, A), b) (fun rv u => ∃ z : Int32 × ((Nat → gM) × gM × (Nat → Int32) × (Nat → Nat → Int32)), z = f_X7_close G M X A p1 ∧ rv = z.1 ∧ u = ((va_up z.2.1 0 z.2.2.1, z.2.2.2.1, z.2.2.2.2), b) ∧ GI z.2.2.1) 0 0 := by
  refine m_entI cX7_close 2 (by decide) (Nat.le_of_ble_eq_true rfl) (fun J h hR => ?_)
  show J ((va_up G 0 M, X, A), b) (0, 0) [(0, .ref (L 11 0)), (1, .int p1)] 0 []
  refine j_aload_n h dX7_close_0 rfl 0 rfl ?_
  refine j_get h inlX7 (330 + 0) (ml_get 0) rfl 3 (by decide) (xr_2 1 rfl) rfl (v := .ref (L 11 1)) rfl dX7_close_1 ?_
  refine j_aload_n h dX7_close_4 rfl 0 rfl ?_
  refine j_get h inlX7 (330 + 0) (ml_get 0) rfl 0 (by decide) (xr_1 19 rfl) rfl (v := .ref (L 0 0)) rfl dX7_close_5 ?_
  refine j_callV h (n := 1) (c_X3_note l D cy L _ _ _ _ _ hF hG) (xg_V (xr_8 19 rfl) (xr_8 20 rfl) (xr_8 21 rfl) (xr_2 0 rfl) (xr_8 22 rfl)) rfl rfl (by decide +kernel) ⟨Nat.le_of_ble_eq_true rfl, Nat.le_of_ble_eq_true rfl⟩ (330 + 1) (ml_get 1) rfl rfl rfl rfl (Nat.le_of_ble_eq_true rfl) dX7_close_8 ⟨by decide, by decide⟩ (fun u' hq => ?_)
  obtain ⟨z1, hz1, rfl⟩ := hq
  refine j_aload_n h dX7_close_11 rfl 0 rfl ?_
  refine j_aload_n h dX7_close_12 rfl 0 rfl ?_
  refine j_iload_n h dX7_close_13 rfl 1 rfl ?_
  refine j_callI h (n := 1) (c_X7_closeEnd l D cy L _ _ _ _ _ _ hG hK) (xg_V (xr_24 15 rfl) (xr_24 16 rfl) (xr_24 17 rfl) (xr_1 2 rfl) (xr_24 18 rfl)) rfl rfl (by decide +kernel) ⟨Nat.le_of_ble_eq_true rfl, Nat.le_of_ble_eq_true rfl⟩ (330 + 0) (ml_get 0) rfl rfl rfl rfl (Nat.le_of_ble_eq_true rfl) dX7_close_14 ⟨by decide, by decide⟩ (fun r u' hq => ?_)
  obtain ⟨z2, hz2, rfl, rfl, qz2_0, qz2_1, qz2_2⟩ := hq
  refine j_callI h (n := 1) (c_X7_settle l D cy L _ _ _ _ _ _) (xg_V (xr_10 6 rfl) (xr_10 7 rfl) (xr_10 8 rfl) (xr_1 2 rfl) (xr_10 9 rfl)) rfl rfl (by decide +kernel) ⟨Nat.le_of_ble_eq_true rfl, Nat.le_of_ble_eq_true rfl⟩ (330 + 0) (ml_get 0) rfl rfl rfl rfl (Nat.le_of_ble_eq_true rfl) dX7_close_17 ⟨by decide, by decide⟩ (fun r u' hq => ?_)
  obtain ⟨z3, hz3, rfl, rfl⟩ := hq
  exact hR _ _ _ _ dX7_close_20 ⟨(_, _), Eq.symm ((bd_eq hz1 (bd_eq hz2 (bd_eq hz3 rfl)))), rfl, rfl, qz2_0⟩

def f_X7_sweep (G : Nat → gM) (M : gM) (X : Nat → Int32) (A : Nat → Nat → Int32) (p1 : Int32) : Int32 × (Nat → gM) × gM × (Nat → Int32) × (Nat → Nat → Int32) :=
  bd (f_X3_note G M X A) fun z1 =>
  bd (f_X7_sweepRink M X A p1) fun z2 =>
  bd (f_X7_settle z2.2.1 z2.2.2.1 z2.2.2.2 z2.1) fun z3 =>
  (z3.1, (z1, z2.2.1, z3.2, z2.2.2.2))
abbrev rm_X7_sweep : Room := { frames := 3, cells := 0, slots := 0, locals := 67 }
set_option maxRecDepth 100000 in
set_option maxHeartbeats 4000000 in
theorem c_X7_sweep (l : Launch) (D : gD) (cy : Nat → ClassId) (L : Nat → Nat → Nat) (G : Nat → gM) (X : Nat → Int32) (A : Nat → Nat → Int32) (b : cB) (M : gM) (p1 : Int32) (hG : GI M) (hK : vp_in (X 6) 4) (hF : vp_in (X 2) 9) : CtI l D cy (CW cy L) yX7_sweep cX7_sweep 2 (some .int) rm_X7_sweep [.ref (L 11 0), .int p1] ((va_up G 0 M, X, A), b) (fun rv u => ∃ z : Int32 × ((Nat → gM) × gM × (Nat → Int32) × (Nat → Nat → Int32)), z = f_X7_sweep G M X A p1 ∧ rv = z.1 ∧ u = ((va_up z.2.1 0 z.2.2.1, z.2.2.2.1, z.2.2.2.2), b) ∧ GI z.2.2.1) 0 0 := by
  refine m_entI cX7_sweep 2 (by decide) (Nat.le_of_ble_eq_true rfl) (fun J h hR => ?_)
  show J ((va_up G 0 M, X, A), b) (0, 0) [(0, .ref (L 11 0)), (1, .int p1)] 0 []
  refine j_aload_n h dX7_sweep_0 rfl 0 rfl ?_
  refine j_get h inlX7 (330 + 0) (ml_get 0) rfl 3 (by decide) (xr_2 1 rfl) rfl (v := .ref (L 11 1)) rfl dX7_sweep_1 ?_
  refine j_aload_n h dX7_sweep_4 rfl 0 rfl ?_
  refine j_get h inlX7 (330 + 0) (ml_get 0) rfl 0 (by decide) (xr_1 19 rfl) rfl (v := .ref (L 0 0)) rfl dX7_sweep_5 ?_
  refine j_callV h (n := 1) (c_X3_note l D cy L _ _ _ _ _ hF hG) (xg_V (xr_8 19 rfl) (xr_8 20 rfl) (xr_8 21 rfl) (xr_2 0 rfl) (xr_8 22 rfl)) rfl rfl (by decide +kernel) ⟨Nat.le_of_ble_eq_true rfl, Nat.le_of_ble_eq_true rfl⟩ (330 + 1) (ml_get 1) rfl rfl rfl rfl (Nat.le_of_ble_eq_true rfl) dX7_sweep_8 ⟨by decide, by decide⟩ (fun u' hq => ?_)
  obtain ⟨z1, hz1, rfl⟩ := hq
  refine j_aload_n h dX7_sweep_11 rfl 0 rfl ?_
  refine j_aload_n h dX7_sweep_12 rfl 0 rfl ?_
  refine j_iload_n h dX7_sweep_13 rfl 1 rfl ?_
  refine j_callI h (n := 1) (c_X7_sweepRink l D cy L _ _ _ _ _ _ hG hK) (xg_V (xr_25 22 rfl) (xr_25 23 rfl) (xr_26 0 rfl) (xr_1 2 rfl) (xr_26 1 rfl)) rfl rfl (by decide +kernel) ⟨Nat.le_of_ble_eq_true rfl, Nat.le_of_ble_eq_true rfl⟩ (330 + 0) (ml_get 0) rfl rfl rfl rfl (Nat.le_of_ble_eq_true rfl) dX7_sweep_14 ⟨by decide, by decide⟩ (fun r u' hq => ?_)
  obtain ⟨z2, hz2, rfl, rfl, qz2_0, qz2_1, qz2_2⟩ := hq
  refine j_callI h (n := 1) (c_X7_settle l D cy L _ _ _ _ _ _) (xg_V (xr_10 6 rfl) (xr_10 7 rfl) (xr_10 8 rfl) (xr_1 2 rfl) (xr_10 9 rfl)) rfl rfl (by decide +kernel) ⟨Nat.le_of_ble_eq_true rfl, Nat.le_of_ble_eq_true rfl⟩ (330 + 0) (ml_get 0) rfl rfl rfl rfl (Nat.le_of_ble_eq_true rfl) dX7_sweep_17 ⟨by decide, by decide⟩ (fun r u' hq => ?_)
  obtain ⟨z3, hz3, rfl, rfl⟩ := hq
  exact hR _ _ _ _ dX7_sweep_20 ⟨(_, _), Eq.symm ((bd_eq hz1 (bd_eq hz2 (bd_eq hz3 rfl)))), rfl, rfl, qz2_0⟩

def f_X7_rain (G : Nat → gM) (M : gM) (X : Nat → Int32) (A : Nat → Nat → Int32) (p1 : Int32) : Int32 × (Nat → gM) × gM × (Nat → Int32) × (Nat → Nat → Int32) :=
  bd (f_X3_note G M X A) fun z1 =>
  bd (f_X7_setRain M X A p1) fun z2 =>
  bd (f_X7_settle z2.2.1 z2.2.2.1 z2.2.2.2 z2.1) fun z3 =>
  (z3.1, (z1, z2.2.1, z3.2, z2.2.2.2))
abbrev rm_X7_rain : Room := { frames := 3, cells := 0, slots := 0, locals := 64 }
set_option maxRecDepth 100000 in
set_option maxHeartbeats 4000000 in
theorem c_X7_rain (l : Launch) (D : gD) (cy : Nat → ClassId) (L : Nat → Nat → Nat) (G : Nat → gM) (X : Nat → Int32) (A : Nat → Nat → Int32) (b : cB) (M : gM) (p1 : Int32) (hG : GI M) (hK : vp_in (X 6) 4) (hF : vp_in (X 2) 9) : CtI l D cy (CW cy L) yX7_rain cX7_rain 2 (some .int) rm_X7_rain [.ref (L 11 0), .int p1] ((va_up G 0 M, X, A), b) (fun rv u => ∃ z : Int32 × ((Nat → gM) × gM × (Nat → Int32) × (Nat → Nat → Int32)), z = f_X7_rain G M X A p1 ∧ rv = z.1 ∧ u = ((va_up z.2.1 0 z.2.2.1, z.2.2.2.1, z.2.2.2.2), b) ∧ GI z.2.2.1) 0 0 := by
  refine m_entI cX7_rain 2 (by decide) (Nat.le_of_ble_eq_true rfl) (fun J h hR => ?_)
  show J ((va_up G 0 M, X, A), b) (0, 0) [(0, .ref (L 11 0)), (1, .int p1)] 0 []
  refine j_aload_n h dX7_rain_0 rfl 0 rfl ?_
  refine j_get h inlX7 (330 + 0) (ml_get 0) rfl 3 (by decide) (xr_2 1 rfl) rfl (v := .ref (L 11 1)) rfl dX7_rain_1 ?_
  refine j_aload_n h dX7_rain_4 rfl 0 rfl ?_
  refine j_get h inlX7 (330 + 0) (ml_get 0) rfl 0 (by decide) (xr_1 19 rfl) rfl (v := .ref (L 0 0)) rfl dX7_rain_5 ?_
  refine j_callV h (n := 1) (c_X3_note l D cy L _ _ _ _ _ hF hG) (xg_V (xr_8 19 rfl) (xr_8 20 rfl) (xr_8 21 rfl) (xr_2 0 rfl) (xr_8 22 rfl)) rfl rfl (by decide +kernel) ⟨Nat.le_of_ble_eq_true rfl, Nat.le_of_ble_eq_true rfl⟩ (330 + 1) (ml_get 1) rfl rfl rfl rfl (Nat.le_of_ble_eq_true rfl) dX7_rain_8 ⟨by decide, by decide⟩ (fun u' hq => ?_)
  obtain ⟨z1, hz1, rfl⟩ := hq
  refine j_aload_n h dX7_rain_11 rfl 0 rfl ?_
  refine j_aload_n h dX7_rain_12 rfl 0 rfl ?_
  refine j_iload_n h dX7_rain_13 rfl 1 rfl ?_
  refine j_callI h (n := 1) (c_X7_setRain l D cy L _ _ _ _ _ _ hG hK) (xg_V (xr_26 7 rfl) (xr_26 8 rfl) (xr_26 9 rfl) (xr_1 2 rfl) (xr_26 10 rfl)) rfl rfl (by decide +kernel) ⟨Nat.le_of_ble_eq_true rfl, Nat.le_of_ble_eq_true rfl⟩ (330 + 0) (ml_get 0) rfl rfl rfl rfl (Nat.le_of_ble_eq_true rfl) dX7_rain_14 ⟨by decide, by decide⟩ (fun r u' hq => ?_)
  obtain ⟨z2, hz2, rfl, rfl, qz2_0, qz2_1, qz2_2⟩ := hq
  refine j_callI h (n := 1) (c_X7_settle l D cy L _ _ _ _ _ _) (xg_V (xr_10 6 rfl) (xr_10 7 rfl) (xr_10 8 rfl) (xr_1 2 rfl) (xr_10 9 rfl)) rfl rfl (by decide +kernel) ⟨Nat.le_of_ble_eq_true rfl, Nat.le_of_ble_eq_true rfl⟩ (330 + 0) (ml_get 0) rfl rfl rfl rfl (Nat.le_of_ble_eq_true rfl) dX7_rain_17 ⟨by decide, by decide⟩ (fun r u' hq => ?_)
  obtain ⟨z3, hz3, rfl, rfl⟩ := hq
  exact hR _ _ _ _ dX7_rain_20 ⟨(_, _), Eq.symm ((bd_eq hz1 (bd_eq hz2 (bd_eq hz3 rfl)))), rfl, rfl, qz2_0⟩

def f_X7_sun (G : Nat → gM) (M : gM) (X : Nat → Int32) (A : Nat → Nat → Int32) (p1 : Int32) : Int32 × (Nat → gM) × gM × (Nat → Int32) × (Nat → Nat → Int32) :=
  bd (f_X3_note G M X A) fun z1 =>
  bd (f_X7_setSun M X A p1) fun z2 =>
  bd (f_X7_settle z2.2.1 z2.2.2.1 z2.2.2.2 z2.1) fun z3 =>
  (z3.1, (z1, z2.2.1, z3.2, z2.2.2.2))
abbrev rm_X7_sun : Room := { frames := 3, cells := 0, slots := 0, locals := 64 }
set_option maxRecDepth 100000 in
set_option maxHeartbeats 4000000 in
theorem c_X7_sun (l : Launch) (D : gD) (cy : Nat → ClassId) (L : Nat → Nat → Nat) (G : Nat → gM) (X : Nat → Int32) (A : Nat → Nat → Int32) (b : cB) (M : gM) (p1 : Int32) (hG : GI M) (hK : vp_in (X 6) 4) (hF : vp_in (X 2) 9) : CtI l D cy (CW cy L) yX7_sun cX7_sun 2 (some .int) rm_X7_sun [.ref (L 11 0), .int p1] ((va_up G 0 M, X, A), b) (fun rv u => ∃ z : Int32 × ((Nat → gM) × gM × (Nat → Int32) × (Nat → Nat → Int32)), z = f_X7_sun G M X A p1 ∧ rv = z.1 ∧ u = ((va_up z.2.1 0 z.2.2.1, z.2.2.2.1, z.2.2.2.2), b) ∧ GI z.2.2.1) 0 0 := by
  refine m_entI cX7_sun 2 (by decide) (Nat.le_of_ble_eq_true rfl) (fun J h hR => ?_)
  show J ((va_up G 0 M, X, A), b) (0, 0) [(0, .ref (L 11 0)), (1, .int p1)] 0 []
  refine j_aload_n h dX7_sun_0 rfl 0 rfl ?_
  refine j_get h inlX7 (330 + 0) (ml_get 0) rfl 3 (by decide) (xr_2 1 rfl) rfl (v := .ref (L 11 1)) rfl dX7_sun_1 ?_
  refine j_aload_n h dX7_sun_4 rfl 0 rfl ?_
  refine j_get h inlX7 (330 + 0) (ml_get 0) rfl 0 (by decide) (xr_1 19 rfl) rfl (v := .ref (L 0 0)) rfl dX7_sun_5 ?_
  refine j_callV h (n := 1) (c_X3_note l D cy L _ _ _ _ _ hF hG) (xg_V (xr_8 19 rfl) (xr_8 20 rfl) (xr_8 21 rfl) (xr_2 0 rfl) (xr_8 22 rfl)) rfl rfl (by decide +kernel) ⟨Nat.le_of_ble_eq_true rfl, Nat.le_of_ble_eq_true rfl⟩ (330 + 1) (ml_get 1) rfl rfl rfl rfl (Nat.le_of_ble_eq_true rfl) dX7_sun_8 ⟨by decide, by decide⟩ (fun u' hq => ?_)
  obtain ⟨z1, hz1, rfl⟩ := hq
  refine j_aload_n h dX7_sun_11 rfl 0 rfl ?_
  refine j_aload_n h dX7_sun_12 rfl 0 rfl ?_
  refine j_iload_n h dX7_sun_13 rfl 1 rfl ?_
  refine j_callI h (n := 1) (c_X7_setSun l D cy L _ _ _ _ _ _ hG hK) (xg_V (xr_26 14 rfl) (xr_26 15 rfl) (xr_26 16 rfl) (xr_1 2 rfl) (xr_26 17 rfl)) rfl rfl (by decide +kernel) ⟨Nat.le_of_ble_eq_true rfl, Nat.le_of_ble_eq_true rfl⟩ (330 + 0) (ml_get 0) rfl rfl rfl rfl (Nat.le_of_ble_eq_true rfl) dX7_sun_14 ⟨by decide, by decide⟩ (fun r u' hq => ?_)
  obtain ⟨z2, hz2, rfl, rfl, qz2_0, qz2_1, qz2_2⟩ := hq
  refine j_callI h (n := 1) (c_X7_settle l D cy L _ _ _ _ _ _) (xg_V (xr_10 6 rfl) (xr_10 7 rfl) (xr_10 8 rfl) (xr_1 2 rfl) (xr_10 9 rfl)) rfl rfl (by decide +kernel) ⟨Nat.le_of_ble_eq_true rfl, Nat.le_of_ble_eq_true rfl⟩ (330 + 0) (ml_get 0) rfl rfl rfl rfl (Nat.le_of_ble_eq_true rfl) dX7_sun_17 ⟨by decide, by decide⟩ (fun r u' hq => ?_)
  obtain ⟨z3, hz3, rfl, rfl⟩ := hq
  exact hR _ _ _ _ dX7_sun_20 ⟨(_, _), Eq.symm ((bd_eq hz1 (bd_eq hz2 (bd_eq hz3 rfl)))), rfl, rfl, qz2_0⟩

def f_X7_brew (G : Nat → gM) (M : gM) (X : Nat → Int32) (A : Nat → Nat → Int32) (p1 : Int32) : Int32 × (Nat → gM) × gM × (Nat → Int32) × (Nat → Nat → Int32) :=
  bd (f_X3_note G M X A) fun z1 =>
  bd (f_X7_brewCups M X A p1) fun z2 =>
  bd (f_X7_settle z2.2.1 z2.2.2.1 z2.2.2.2 z2.1) fun z3 =>
  (z3.1, (z1, z2.2.1, z3.2, z2.2.2.2))
abbrev rm_X7_brew : Room := { frames := 3, cells := 0, slots := 0, locals := 64 }
set_option maxRecDepth 100000 in
set_option maxHeartbeats 4000000 in
theorem c_X7_brew (l : Launch) (D : gD) (cy : Nat → ClassId) (L : Nat → Nat → Nat) (G : Nat → gM) (X : Nat → Int32) (A : Nat → Nat → Int32) (b : cB) (M : gM) (p1 : Int32) (hG : GI M) (hK : vp_in (X 6) 4) (hF : vp_in (X 2) 9) : CtI l D cy (CW cy L) yX7_brew cX7_brew 2 (some .int) rm_X7_brew [.ref (L 11 0), .int p1] ((va_up G 0 M, X, A), b) (fun rv u => ∃ z : Int32 × ((Nat → gM) × gM × (Nat → Int32) × (Nat → Nat → Int32)), z = f_X7_brew G M X A p1 ∧ rv = z.1 ∧ u = ((va_up z.2.1 0 z.2.2.1, z.2.2.2.1, z.2.2.2.2), b) ∧ GI z.2.2.1) 0 0 := by
  refine m_entI cX7_brew 2 (by decide) (Nat.le_of_ble_eq_true rfl) (fun J h hR => ?_)
  show J ((va_up G 0 M, X, A), b) (0, 0) [(0, .ref (L 11 0)), (1, .int p1)] 0 []
  refine j_aload_n h dX7_brew_0 rfl 0 rfl ?_
  refine j_get h inlX7 (330 + 0) (ml_get 0) rfl 3 (by decide) (xr_2 1 rfl) rfl (v := .ref (L 11 1)) rfl dX7_brew_1 ?_
  refine j_aload_n h dX7_brew_4 rfl 0 rfl ?_
  refine j_get h inlX7 (330 + 0) (ml_get 0) rfl 0 (by decide) (xr_1 19 rfl) rfl (v := .ref (L 0 0)) rfl dX7_brew_5 ?_
  refine j_callV h (n := 1) (c_X3_note l D cy L _ _ _ _ _ hF hG) (xg_V (xr_8 19 rfl) (xr_8 20 rfl) (xr_8 21 rfl) (xr_2 0 rfl) (xr_8 22 rfl)) rfl rfl (by decide +kernel) ⟨Nat.le_of_ble_eq_true rfl, Nat.le_of_ble_eq_true rfl⟩ (330 + 1) (ml_get 1) rfl rfl rfl rfl (Nat.le_of_ble_eq_true rfl) dX7_brew_8 ⟨by decide, by decide⟩ (fun u' hq => ?_)
  obtain ⟨z1, hz1, rfl⟩ := hq
  refine j_aload_n h dX7_brew_11 rfl 0 rfl ?_
  refine j_aload_n h dX7_brew_12 rfl 0 rfl ?_
  refine j_iload_n h dX7_brew_13 rfl 1 rfl ?_
  refine j_callI h (n := 1) (c_X7_brewCups l D cy L _ _ _ _ _ _ hG hK) (xg_V (xr_31 5 rfl) (xr_31 6 rfl) (xr_31 7 rfl) (xr_1 2 rfl) (xr_31 8 rfl)) rfl rfl (by decide +kernel) ⟨Nat.le_of_ble_eq_true rfl, Nat.le_of_ble_eq_true rfl⟩ (330 + 0) (ml_get 0) rfl rfl rfl rfl (Nat.le_of_ble_eq_true rfl) dX7_brew_14 ⟨by decide, by decide⟩ (fun r u' hq => ?_)
  obtain ⟨z2, hz2, rfl, rfl, qz2_0, qz2_1, qz2_2⟩ := hq
  refine j_callI h (n := 1) (c_X7_settle l D cy L _ _ _ _ _ _) (xg_V (xr_10 6 rfl) (xr_10 7 rfl) (xr_10 8 rfl) (xr_1 2 rfl) (xr_10 9 rfl)) rfl rfl (by decide +kernel) ⟨Nat.le_of_ble_eq_true rfl, Nat.le_of_ble_eq_true rfl⟩ (330 + 0) (ml_get 0) rfl rfl rfl rfl (Nat.le_of_ble_eq_true rfl) dX7_brew_17 ⟨by decide, by decide⟩ (fun r u' hq => ?_)
  obtain ⟨z3, hz3, rfl, rfl⟩ := hq
  exact hR _ _ _ _ dX7_brew_20 ⟨(_, _), Eq.symm ((bd_eq hz1 (bd_eq hz2 (bd_eq hz3 rfl)))), rfl, rfl, qz2_0⟩

def f_X7_tea (G : Nat → gM) (M : gM) (X : Nat → Int32) (A : Nat → Nat → Int32) (p1 : Int32) : Int32 × (Nat → gM) × gM × (Nat → Int32) × (Nat → Nat → Int32) :=
  bd (f_X3_note G M X A) fun z1 =>
  bd (f_X7_giveTea M X A p1) fun z2 =>
  bd (f_X7_settle z2.2.1 z2.2.2.1 z2.2.2.2 z2.1) fun z3 =>
  (z3.1, (z1, z2.2.1, z3.2, z2.2.2.2))
abbrev rm_X7_tea : Room := { frames := 3, cells := 0, slots := 0, locals := 66 }
set_option maxRecDepth 100000 in
set_option maxHeartbeats 4000000 in
theorem c_X7_tea (l : Launch) (D : gD) (cy : Nat → ClassId) (L : Nat → Nat → Nat) (G : Nat → gM) (X : Nat → Int32) (A : Nat → Nat → Int32) (b : cB) (M : gM) (p1 : Int32) (hG : GI M) (hK : vp_in (X 6) 4) (hF : vp_in (X 2) 9) : CtI l D cy (CW cy L) yX7_tea cX7_tea 2 (some .int) rm_X7_tea [.ref (L 11 0), .int p1] ((va_up G 0 M, X, A), b) (fun rv u => ∃ z : Int32 × ((Nat → gM) × gM × (Nat → Int32) × (Nat → Nat → Int32)), z = f_X7_tea G M X A p1 ∧ rv = z.1 ∧ u = ((va_up z.2.1 0 z.2.2.1, z.2.2.2.1, z.2.2.2.2), b) ∧ GI z.2.2.1) 0 0 := by
  refine m_entI cX7_tea 2 (by decide) (Nat.le_of_ble_eq_true rfl) (fun J h hR => ?_)
  show J ((va_up G 0 M, X, A), b) (0, 0) [(0, .ref (L 11 0)), (1, .int p1)] 0 []
  refine j_aload_n h dX7_tea_0 rfl 0 rfl ?_
  refine j_get h inlX7 (330 + 0) (ml_get 0) rfl 3 (by decide) (xr_2 1 rfl) rfl (v := .ref (L 11 1)) rfl dX7_tea_1 ?_
  refine j_aload_n h dX7_tea_4 rfl 0 rfl ?_
  refine j_get h inlX7 (330 + 0) (ml_get 0) rfl 0 (by decide) (xr_1 19 rfl) rfl (v := .ref (L 0 0)) rfl dX7_tea_5 ?_
  refine j_callV h (n := 1) (c_X3_note l D cy L _ _ _ _ _ hF hG) (xg_V (xr_8 19 rfl) (xr_8 20 rfl) (xr_8 21 rfl) (xr_2 0 rfl) (xr_8 22 rfl)) rfl rfl (by decide +kernel) ⟨Nat.le_of_ble_eq_true rfl, Nat.le_of_ble_eq_true rfl⟩ (330 + 1) (ml_get 1) rfl rfl rfl rfl (Nat.le_of_ble_eq_true rfl) dX7_tea_8 ⟨by decide, by decide⟩ (fun u' hq => ?_)
  obtain ⟨z1, hz1, rfl⟩ := hq
  refine j_aload_n h dX7_tea_11 rfl 0 rfl ?_
  refine j_aload_n h dX7_tea_12 rfl 0 rfl ?_
  refine j_iload_n h dX7_tea_13 rfl 1 rfl ?_
  refine j_callI h (n := 1) (c_X7_giveTea l D cy L _ _ _ _ _ _ hG hK) (xg_V (xr_26 18 rfl) (xr_26 19 rfl) (xr_26 20 rfl) (xr_1 2 rfl) (xr_26 21 rfl)) rfl rfl (by decide +kernel) ⟨Nat.le_of_ble_eq_true rfl, Nat.le_of_ble_eq_true rfl⟩ (330 + 0) (ml_get 0) rfl rfl rfl rfl (Nat.le_of_ble_eq_true rfl) dX7_tea_14 ⟨by decide, by decide⟩ (fun r u' hq => ?_)
  obtain ⟨z2, hz2, rfl, rfl, qz2_0, qz2_1, qz2_2⟩ := hq
  refine j_callI h (n := 1) (c_X7_settle l D cy L _ _ _ _ _ _) (xg_V (xr_10 6 rfl) (xr_10 7 rfl) (xr_10 8 rfl) (xr_1 2 rfl) (xr_10 9 rfl)) rfl rfl (by decide +kernel) ⟨Nat.le_of_ble_eq_true rfl, Nat.le_of_ble_eq_true rfl⟩ (330 + 0) (ml_get 0) rfl rfl rfl rfl (Nat.le_of_ble_eq_true rfl) dX7_tea_17 ⟨by decide, by decide⟩ (fun r u' hq => ?_)
  obtain ⟨z3, hz3, rfl, rfl⟩ := hq
  exact hR _ _ _ _ dX7_tea_20 ⟨(_, _), Eq.symm ((bd_eq hz1 (bd_eq hz2 (bd_eq hz3 rfl)))), rfl, rfl, qz2_0⟩

def f_X7_hour (G : Nat → gM) (M : gM) (X : Nat → Int32) (A : Nat → Nat → Int32) (p1 : Int32) : Int32 × (Nat → gM) × gM × (Nat → Int32) × (Nat → Nat → Int32) :=
  bd (f_X3_note G M X A) fun z1 =>
  bd (f_X7_passHours M X A p1) fun z2 =>
  bd (f_X7_settle z2.2.1 z2.2.2.1 z2.2.2.2 z2.1) fun z3 =>
  (z3.1, (z1, z2.2.1, z3.2, z2.2.2.2))
abbrev rm_X7_hour : Room := { frames := 4, cells := 0, slots := 0, locals := 87 }
set_option maxRecDepth 100000 in
set_option maxHeartbeats 4000000 in
theorem c_X7_hour (l : Launch) (D : gD) (cy : Nat → ClassId) (L : Nat → Nat → Nat) (G : Nat → gM) (X : Nat → Int32) (A : Nat → Nat → Int32) (b : cB) (M : gM) (p1 : Int32) (hG : GI M) (hK : vp_in (X 6) 4) (hF : vp_in (X 2) 9) : CtI l D cy (CW cy L) yX7_hour cX7_hour 2 (some .int) rm_X7_hour [.ref (L 11 0), .int p1] ((va_up G 0 M, X, A), b) (fun rv u => ∃ z : Int32 × ((Nat → gM) × gM × (Nat → Int32) × (Nat → Nat → Int32)), z = f_X7_hour G M X A p1 ∧ rv = z.1 ∧ u = ((va_up z.2.1 0 z.2.2.1, z.2.2.2.1, z.2.2.2.2), b) ∧ GI z.2.2.1) 0 0 := by
  refine m_entI cX7_hour 2 (by decide) (Nat.le_of_ble_eq_true rfl) (fun J h hR => ?_)
  show J ((va_up G 0 M, X, A), b) (0, 0) [(0, .ref (L 11 0)), (1, .int p1)] 0 []
  refine j_aload_n h dX7_hour_0 rfl 0 rfl ?_
  refine j_get h inlX7 (330 + 0) (ml_get 0) rfl 3 (by decide) (xr_2 1 rfl) rfl (v := .ref (L 11 1)) rfl dX7_hour_1 ?_
  refine j_aload_n h dX7_hour_4 rfl 0 rfl ?_
  refine j_get h inlX7 (330 + 0) (ml_get 0) rfl 0 (by decide) (xr_1 19 rfl) rfl (v := .ref (L 0 0)) rfl dX7_hour_5 ?_
  refine j_callV h (n := 1) (c_X3_note l D cy L _ _ _ _ _ hF hG) (xg_V (xr_8 19 rfl) (xr_8 20 rfl) (xr_8 21 rfl) (xr_2 0 rfl) (xr_8 22 rfl)) rfl rfl (by decide +kernel) ⟨Nat.le_of_ble_eq_true rfl, Nat.le_of_ble_eq_true rfl⟩ (330 + 1) (ml_get 1) rfl rfl rfl rfl (Nat.le_of_ble_eq_true rfl) dX7_hour_8 ⟨by decide, by decide⟩ (fun u' hq => ?_)
  obtain ⟨z1, hz1, rfl⟩ := hq
  refine j_aload_n h dX7_hour_11 rfl 0 rfl ?_
  refine j_aload_n h dX7_hour_12 rfl 0 rfl ?_
  refine j_iload_n h dX7_hour_13 rfl 1 rfl ?_
  refine j_callI h (n := 1) (c_X7_passHours l D cy L _ _ _ _ _ _ hG hK) (xg_V (xr_8 23 rfl) (xr_9 0 rfl) (xr_9 1 rfl) (xr_1 2 rfl) (xr_9 2 rfl)) rfl rfl (by decide +kernel) ⟨Nat.le_of_ble_eq_true rfl, Nat.le_of_ble_eq_true rfl⟩ (330 + 0) (ml_get 0) rfl rfl rfl rfl (Nat.le_of_ble_eq_true rfl) dX7_hour_14 ⟨by decide, by decide⟩ (fun r u' hq => ?_)
  obtain ⟨z2, hz2, rfl, rfl, qz2_0, qz2_1, qz2_2⟩ := hq
  refine j_callI h (n := 1) (c_X7_settle l D cy L _ _ _ _ _ _) (xg_V (xr_10 6 rfl) (xr_10 7 rfl) (xr_10 8 rfl) (xr_1 2 rfl) (xr_10 9 rfl)) rfl rfl (by decide +kernel) ⟨Nat.le_of_ble_eq_true rfl, Nat.le_of_ble_eq_true rfl⟩ (330 + 0) (ml_get 0) rfl rfl rfl rfl (Nat.le_of_ble_eq_true rfl) dX7_hour_17 ⟨by decide, by decide⟩ (fun r u' hq => ?_)
  obtain ⟨z3, hz3, rfl, rfl⟩ := hq
  exact hR _ _ _ _ dX7_hour_20 ⟨(_, _), Eq.symm ((bd_eq hz1 (bd_eq hz2 (bd_eq hz3 rfl)))), rfl, rfl, qz2_0⟩

def f_X0_reset (M : gM) (c : Nat) : gM :=
  (sc (sc (sc (sc M c 0 0) c 1 0) c 2 10) c 3 0)
abbrev rm_X0_reset : Room := { frames := 0, cells := 0, slots := 0, locals := 0 }
set_option maxRecDepth 100000 in
set_option maxHeartbeats 4000000 in
theorem c_X0_reset (l : Launch) (D : gD) (cy : Nat → ClassId) (L : Nat → Nat → Nat) (G : Nat → gM) (X : Nat → Int32) (A : Nat → Nat → Int32) (b : cB) (M : gM) {g : Nat} (hg : g < 11) {c : Nat} (hc : c < 2)  : CtV l D cy (CW cy L) yX0_reset cX0_reset 1 none rm_X0_reset [.ref (L g (28 + c))] ((va_up G g M, X, A), b) (fun u => ∃ z : gM, z = f_X0_reset M c ∧ u = ((va_up G g z, X, A), b)) 0 0 := by
  refine m_entV cX0_reset 1 (by decide) (Nat.le_of_ble_eq_true rfl) (fun J h hR => ?_)
  show J ((va_up G g M, X, A), b) (0, 0) [(0, .ref (L g (28 + c)))] 0 []
  refine j_aload_n h dX0_reset_0 rfl 0 rfl ?_
  refine j_iconst h (v := 0) dX0_reset_1 (by decide) ?_
  refine j_put h inlX0 tyX0 tyX0_ok nmX0 (30 * g + (28 + c)) (at_C hg (by omega)) rfl 0 (by decide) (xr_4 11 rfl) rfl rfl rfl rfl (Nat.le_of_ble_eq_true rfl) dX0_reset_2 (to_C hg (by omega) (by decide)) ?_
  refine j_aload_n h dX0_reset_5 rfl 0 rfl ?_
  refine j_iconst h (v := 0) dX0_reset_6 (by decide) ?_
  refine j_put h inlX0 tyX0 tyX0_ok nmX0 (30 * g + (28 + c)) (at_C hg (by omega)) rfl 1 (by decide) (xr_4 12 rfl) rfl rfl rfl rfl (Nat.le_of_ble_eq_true rfl) dX0_reset_7 (to_C hg (by omega) (by decide)) ?_
  refine j_aload_n h dX0_reset_10 rfl 0 rfl ?_
  refine j_bipush h (v := 10) dX0_reset_11 (by decide) ?_
  refine j_put h inlX0 tyX0 tyX0_ok nmX0 (30 * g + (28 + c)) (at_C hg (by omega)) rfl 2 (by decide) (xr_4 13 rfl) rfl rfl rfl rfl (Nat.le_of_ble_eq_true rfl) dX0_reset_13 (to_C hg (by omega) (by decide)) ?_
  refine j_aload_n h dX0_reset_16 rfl 0 rfl ?_
  refine j_iconst h (v := 0) dX0_reset_17 (by decide) ?_
  refine j_put h inlX0 tyX0 tyX0_ok nmX0 (30 * g + (28 + c)) (at_C hg (by omega)) rfl 3 (by decide) (xr_4 14 rfl) rfl rfl rfl rfl (Nat.le_of_ble_eq_true rfl) dX0_reset_18 (to_C hg (by omega) (by decide)) ?_
  exact hR _ _ _ dX0_reset_21 ⟨_, Eq.symm (rfl), rfl⟩

def f_X0_become (M : gM) (c : Nat) (N : gM) : gM :=
  (sc (sc (sc (sc M c 0 (N.2.2.2 c 0)) c 1 (N.2.2.2 c 1)) c 2 (N.2.2.2 c 2)) c 3 (N.2.2.2 c 3))
abbrev rm_X0_become : Room := { frames := 0, cells := 0, slots := 0, locals := 0 }
set_option maxRecDepth 100000 in
set_option maxHeartbeats 4000000 in
theorem c_X0_become (l : Launch) (D : gD) (cy : Nat → ClassId) (L : Nat → Nat → Nat) (G : Nat → gM) (X : Nat → Int32) (A : Nat → Nat → Int32) (b : cB) (M : gM) {g : Nat} (hg : g < 11) {c : Nat} (hc : c < 2) {g2 : Nat} (hg2 : g2 < 11) (hne : g2 ≠ g)  : CtV l D cy (CW cy L) yX0_become cX0_become 2 none rm_X0_become [.ref (L g (28 + c)), .ref (L g2 (28 + c))] ((va_up G g M, X, A), b) (fun u => ∃ z : gM, z = f_X0_become M c (G g2) ∧ u = ((va_up G g z, X, A), b)) 0 0 := by
  refine m_entV cX0_become 2 (by decide) (Nat.le_of_ble_eq_true rfl) (fun J h hR => ?_)
  show J ((va_up G g M, X, A), b) (0, 0) [(0, .ref (L g (28 + c))), (1, .ref (L g2 (28 + c)))] 0 []
  refine j_aload_n h dX0_become_0 rfl 0 rfl ?_
  refine j_aload_n h dX0_become_1 rfl 1 rfl ?_
  refine j_get h inlX0 (30 * g2 + (28 + c)) (oa_C hg2 hne (by omega)) rfl 0 (by decide) (xr_4 11 rfl) rfl (v := .int ((G g2).2.2.2 c 0)) rfl dX0_become_2 ?_
  refine j_put h inlX0 tyX0 tyX0_ok nmX0 (30 * g + (28 + c)) (at_C hg (by omega)) rfl 0 (by decide) (xr_4 11 rfl) rfl rfl rfl rfl (Nat.le_of_ble_eq_true rfl) dX0_become_5 (to_C hg (by omega) (by decide)) ?_
  refine j_aload_n h dX0_become_8 rfl 0 rfl ?_
  refine j_aload_n h dX0_become_9 rfl 1 rfl ?_
  refine j_get h inlX0 (30 * g2 + (28 + c)) (oa_C hg2 hne (by omega)) rfl 1 (by decide) (xr_4 12 rfl) rfl (v := .int ((G g2).2.2.2 c 1)) rfl dX0_become_10 ?_
  refine j_put h inlX0 tyX0 tyX0_ok nmX0 (30 * g + (28 + c)) (at_C hg (by omega)) rfl 1 (by decide) (xr_4 12 rfl) rfl rfl rfl rfl (Nat.le_of_ble_eq_true rfl) dX0_become_13 (to_C hg (by omega) (by decide)) ?_
  refine j_aload_n h dX0_become_16 rfl 0 rfl ?_
  refine j_aload_n h dX0_become_17 rfl 1 rfl ?_
  refine j_get h inlX0 (30 * g2 + (28 + c)) (oa_C hg2 hne (by omega)) rfl 2 (by decide) (xr_4 13 rfl) rfl (v := .int ((G g2).2.2.2 c 2)) rfl dX0_become_18 ?_
  refine j_put h inlX0 tyX0 tyX0_ok nmX0 (30 * g + (28 + c)) (at_C hg (by omega)) rfl 2 (by decide) (xr_4 13 rfl) rfl rfl rfl rfl (Nat.le_of_ble_eq_true rfl) dX0_become_21 (to_C hg (by omega) (by decide)) ?_
  refine j_aload_n h dX0_become_24 rfl 0 rfl ?_
  refine j_aload_n h dX0_become_25 rfl 1 rfl ?_
  refine j_get h inlX0 (30 * g2 + (28 + c)) (oa_C hg2 hne (by omega)) rfl 3 (by decide) (xr_4 14 rfl) rfl (v := .int ((G g2).2.2.2 c 3)) rfl dX0_become_26 ?_
  refine j_put h inlX0 tyX0 tyX0_ok nmX0 (30 * g + (28 + c)) (at_C hg (by omega)) rfl 3 (by decide) (xr_4 14 rfl) rfl rfl rfl rfl (Nat.le_of_ble_eq_true rfl) dX0_become_29 (to_C hg (by omega) (by decide)) ?_
  exact hR _ _ _ dX0_become_32 ⟨_, Eq.symm (rfl), rfl⟩

def f_X5_lay (M : gM) (r : Nat) (p1 : Int32) (p2 : Int32) : gM :=
  (sr (sr (sr (sr (sr (sr (sr (sr (sr (sr M r 0 p1) r 1 p2) r 2 0) r 3 0) r 4 0) r 5 0) r 6 0) r 7 0) r (8 + 0) 0) r (8 + 1) 0)
abbrev rm_X5_lay : Room := { frames := 0, cells := 0, slots := 0, locals := 0 }
set_option maxRecDepth 100000 in
set_option maxHeartbeats 4000000 in
theorem c_X5_lay (l : Launch) (D : gD) (cy : Nat → ClassId) (L : Nat → Nat → Nat) (G : Nat → gM) (X : Nat → Int32) (A : Nat → Nat → Int32) (b : cB) (M : gM) {g : Nat} (hg : g < 11) {r : Nat} (hr : r < 4) (p1 : Int32) (p2 : Int32)  : CtV l D cy (CW cy L) yX5_lay cX5_lay 3 none rm_X5_lay [.ref (L g (4 + r)), .int p1, .int p2] ((va_up G g M, X, A), b) (fun u => ∃ z : gM, z = f_X5_lay M r p1 p2 ∧ u = ((va_up G g z, X, A), b)) 0 0 := by
  refine m_entV cX5_lay 3 (by decide) (Nat.le_of_ble_eq_true rfl) (fun J h hR => ?_)
  show J ((va_up G g M, X, A), b) (0, 0) [(0, .ref (L g (4 + r))), (1, .int p1), (2, .int p2)] 0 []
  refine j_aload_n h dX5_lay_0 rfl 0 rfl ?_
  refine j_iload_n h dX5_lay_1 rfl 1 rfl ?_
  refine j_put h inlX5 tyX5 tyX5_ok nmX5 (30 * g + (4 + r)) (at_R hg (by omega)) rfl 0 (by decide) (xr_7 1 rfl) rfl rfl rfl rfl (Nat.le_of_ble_eq_true rfl) dX5_lay_2 (to_R hg (by omega) (by decide)) ?_
  refine j_aload_n h dX5_lay_5 rfl 0 rfl ?_
  refine j_iload_n h dX5_lay_6 rfl 2 rfl ?_
  refine j_put h inlX5 tyX5 tyX5_ok nmX5 (30 * g + (4 + r)) (at_R hg (by omega)) rfl 1 (by decide) (xr_7 2 rfl) rfl rfl rfl rfl (Nat.le_of_ble_eq_true rfl) dX5_lay_7 (to_R hg (by omega) (by decide)) ?_
  refine j_aload_n h dX5_lay_10 rfl 0 rfl ?_
  refine j_iconst h (v := 0) dX5_lay_11 (by decide) ?_
  refine j_put h inlX5 tyX5 tyX5_ok nmX5 (30 * g + (4 + r)) (at_R hg (by omega)) rfl 2 (by decide) (xr_7 3 rfl) rfl rfl rfl rfl (Nat.le_of_ble_eq_true rfl) dX5_lay_12 (to_R hg (by omega) (by decide)) ?_
  refine j_aload_n h dX5_lay_15 rfl 0 rfl ?_
  refine j_iconst h (v := 0) dX5_lay_16 (by decide) ?_
  refine j_put h inlX5 tyX5 tyX5_ok nmX5 (30 * g + (4 + r)) (at_R hg (by omega)) rfl 3 (by decide) (xr_7 4 rfl) rfl rfl rfl rfl (Nat.le_of_ble_eq_true rfl) dX5_lay_17 (to_R hg (by omega) (by decide)) ?_
  refine j_aload_n h dX5_lay_20 rfl 0 rfl ?_
  refine j_iconst h (v := 0) dX5_lay_21 (by decide) ?_
  refine j_put h inlX5 tyX5 tyX5_ok nmX5 (30 * g + (4 + r)) (at_R hg (by omega)) rfl 4 (by decide) (xr_7 5 rfl) rfl rfl rfl rfl (Nat.le_of_ble_eq_true rfl) dX5_lay_22 (to_R hg (by omega) (by decide)) ?_
  refine j_aload_n h dX5_lay_25 rfl 0 rfl ?_
  refine j_iconst h (v := 0) dX5_lay_26 (by decide) ?_
  refine j_put h inlX5 tyX5 tyX5_ok nmX5 (30 * g + (4 + r)) (at_R hg (by omega)) rfl 5 (by decide) (xr_7 6 rfl) rfl rfl rfl rfl (Nat.le_of_ble_eq_true rfl) dX5_lay_27 (to_R hg (by omega) (by decide)) ?_
  refine j_aload_n h dX5_lay_30 rfl 0 rfl ?_
  refine j_iconst h (v := 0) dX5_lay_31 (by decide) ?_
  refine j_put h inlX5 tyX5 tyX5_ok nmX5 (30 * g + (4 + r)) (at_R hg (by omega)) rfl 6 (by decide) (xr_7 7 rfl) rfl rfl rfl rfl (Nat.le_of_ble_eq_true rfl) dX5_lay_32 (to_R hg (by omega) (by decide)) ?_
  refine j_aload_n h dX5_lay_35 rfl 0 rfl ?_
  refine j_iconst h (v := 0) dX5_lay_36 (by decide) ?_
  refine j_put h inlX5 tyX5 tyX5_ok nmX5 (30 * g + (4 + r)) (at_R hg (by omega)) rfl 7 (by decide) (xr_7 8 rfl) rfl rfl rfl rfl (Nat.le_of_ble_eq_true rfl) dX5_lay_37 (to_R hg (by omega) (by decide)) ?_
  refine j_aload_n h dX5_lay_40 rfl 0 rfl ?_
  refine j_get h inlX5 (30 * g + (4 + r)) (at_R hg (by omega)) rfl 8 (by decide) (xr_3 12 rfl) rfl (v := .ref (L g (8 + r))) rfl dX5_lay_41 ?_
  refine j_iconst h (v := 0) dX5_lay_44 (by decide) ?_
  refine j_iconst h (v := 0) dX5_lay_45 (by decide) ?_
  refine j_iastE h (30 * g + (8 + r)) (at_B hg (by omega)) 0 rfl (by decide) (by decide) dX5_lay_46 (u' := ((va_up G g (sr (sr (sr (sr (sr (sr (sr (sr (sr M r 0 p1) r 1 p2) r 2 0) r 3 0) r 4 0) r 5 0) r 6 0) r 7 0) r (8 + 0) 0), X, A), b)) (to_B hg (by omega)) ?_
  refine j_aload_n h dX5_lay_47 rfl 0 rfl ?_
  refine j_get h inlX5 (30 * g + (4 + r)) (at_R hg (by omega)) rfl 8 (by decide) (xr_3 12 rfl) rfl (v := .ref (L g (8 + r))) rfl dX5_lay_48 ?_
  refine j_iconst h (v := 1) dX5_lay_51 (by decide) ?_
  refine j_iconst h (v := 0) dX5_lay_52 (by decide) ?_
  refine j_iastE h (30 * g + (8 + r)) (at_B hg (by omega)) 1 rfl (by decide) (by decide) dX5_lay_53 (u' := ((va_up G g (sr (sr (sr (sr (sr (sr (sr (sr (sr (sr M r 0 p1) r 1 p2) r 2 0) r 3 0) r 4 0) r 5 0) r 6 0) r 7 0) r (8 + 0) 0) r (8 + 1) 0), X, A), b)) (to_B hg (by omega)) ?_
  exact hR _ _ _ dX5_lay_54 ⟨_, Eq.symm (rfl), rfl⟩

def f_X5_become (M : gM) (r : Nat) (N : gM) : gM :=
  (sr (sr (sr (sr (sr (sr (sr (sr (sr (sr M r 0 (N.2.1 r 0)) r 1 (N.2.1 r 1)) r 2 (N.2.1 r 2)) r 3 (N.2.1 r 3)) r 4 (N.2.1 r 4)) r 5 (N.2.1 r 5)) r 6 (N.2.1 r 6)) r 7 (N.2.1 r 7)) r (8 + 0) (N.2.1 r (8 + 0))) r (8 + 1) (N.2.1 r (8 + 1)))
abbrev rm_X5_become : Room := { frames := 0, cells := 0, slots := 0, locals := 0 }
set_option maxRecDepth 100000 in
set_option maxHeartbeats 4000000 in
theorem c_X5_become (l : Launch) (D : gD) (cy : Nat → ClassId) (L : Nat → Nat → Nat) (G : Nat → gM) (X : Nat → Int32) (A : Nat → Nat → Int32) (b : cB) (M : gM) {g : Nat} (hg : g < 11) {r : Nat} (hr : r < 4) {g2 : Nat} (hg2 : g2 < 11) (hne : g2 ≠ g)  : CtV l D cy (CW cy L) yX5_become cX5_become 2 none rm_X5_become [.ref (L g (4 + r)), .ref (L g2 (4 + r))] ((va_up G g M, X, A), b) (fun u => ∃ z : gM, z = f_X5_become M r (G g2) ∧ u = ((va_up G g z, X, A), b)) 0 0 := by
  refine m_entV cX5_become 2 (by decide) (Nat.le_of_ble_eq_true rfl) (fun J h hR => ?_)
  show J ((va_up G g M, X, A), b) (0, 0) [(0, .ref (L g (4 + r))), (1, .ref (L g2 (4 + r)))] 0 []
  refine j_aload_n h dX5_become_0 rfl 0 rfl ?_
  refine j_aload_n h dX5_become_1 rfl 1 rfl ?_
  refine j_get h inlX5 (30 * g2 + (4 + r)) (oa_R hg2 hne (by omega)) rfl 0 (by decide) (xr_7 1 rfl) rfl (v := .int ((G g2).2.1 r 0)) rfl dX5_become_2 ?_
  refine j_put h inlX5 tyX5 tyX5_ok nmX5 (30 * g + (4 + r)) (at_R hg (by omega)) rfl 0 (by decide) (xr_7 1 rfl) rfl rfl rfl rfl (Nat.le_of_ble_eq_true rfl) dX5_become_5 (to_R hg (by omega) (by decide)) ?_
  refine j_aload_n h dX5_become_8 rfl 0 rfl ?_
  refine j_aload_n h dX5_become_9 rfl 1 rfl ?_
  refine j_get h inlX5 (30 * g2 + (4 + r)) (oa_R hg2 hne (by omega)) rfl 1 (by decide) (xr_7 2 rfl) rfl (v := .int ((G g2).2.1 r 1)) rfl dX5_become_10 ?_
  refine j_put h inlX5 tyX5 tyX5_ok nmX5 (30 * g + (4 + r)) (at_R hg (by omega)) rfl 1 (by decide) (xr_7 2 rfl) rfl rfl rfl rfl (Nat.le_of_ble_eq_true rfl) dX5_become_13 (to_R hg (by omega) (by decide)) ?_
  refine j_aload_n h dX5_become_16 rfl 0 rfl ?_
  refine j_aload_n h dX5_become_17 rfl 1 rfl ?_
  refine j_get h inlX5 (30 * g2 + (4 + r)) (oa_R hg2 hne (by omega)) rfl 2 (by decide) (xr_7 3 rfl) rfl (v := .int ((G g2).2.1 r 2)) rfl dX5_become_18 ?_
  refine j_put h inlX5 tyX5 tyX5_ok nmX5 (30 * g + (4 + r)) (at_R hg (by omega)) rfl 2 (by decide) (xr_7 3 rfl) rfl rfl rfl rfl (Nat.le_of_ble_eq_true rfl) dX5_become_21 (to_R hg (by omega) (by decide)) ?_
  refine j_aload_n h dX5_become_24 rfl 0 rfl ?_
  refine j_aload_n h dX5_become_25 rfl 1 rfl ?_
  refine j_get h inlX5 (30 * g2 + (4 + r)) (oa_R hg2 hne (by omega)) rfl 3 (by decide) (xr_7 4 rfl) rfl (v := .int ((G g2).2.1 r 3)) rfl dX5_become_26 ?_
  refine j_put h inlX5 tyX5 tyX5_ok nmX5 (30 * g + (4 + r)) (at_R hg (by omega)) rfl 3 (by decide) (xr_7 4 rfl) rfl rfl rfl rfl (Nat.le_of_ble_eq_true rfl) dX5_become_29 (to_R hg (by omega) (by decide)) ?_
  refine j_aload_n h dX5_become_32 rfl 0 rfl ?_
  refine j_aload_n h dX5_become_33 rfl 1 rfl ?_
  refine j_get h inlX5 (30 * g2 + (4 + r)) (oa_R hg2 hne (by omega)) rfl 4 (by decide) (xr_7 5 rfl) rfl (v := .int ((G g2).2.1 r 4)) rfl dX5_become_34 ?_
  refine j_put h inlX5 tyX5 tyX5_ok nmX5 (30 * g + (4 + r)) (at_R hg (by omega)) rfl 4 (by decide) (xr_7 5 rfl) rfl rfl rfl rfl (Nat.le_of_ble_eq_true rfl) dX5_become_37 (to_R hg (by omega) (by decide)) ?_
  refine j_aload_n h dX5_become_40 rfl 0 rfl ?_
  refine j_aload_n h dX5_become_41 rfl 1 rfl ?_
  refine j_get h inlX5 (30 * g2 + (4 + r)) (oa_R hg2 hne (by omega)) rfl 5 (by decide) (xr_7 6 rfl) rfl (v := .int ((G g2).2.1 r 5)) rfl dX5_become_42 ?_
  refine j_put h inlX5 tyX5 tyX5_ok nmX5 (30 * g + (4 + r)) (at_R hg (by omega)) rfl 5 (by decide) (xr_7 6 rfl) rfl rfl rfl rfl (Nat.le_of_ble_eq_true rfl) dX5_become_45 (to_R hg (by omega) (by decide)) ?_
  refine j_aload_n h dX5_become_48 rfl 0 rfl ?_
  refine j_aload_n h dX5_become_49 rfl 1 rfl ?_
  refine j_get h inlX5 (30 * g2 + (4 + r)) (oa_R hg2 hne (by omega)) rfl 6 (by decide) (xr_7 7 rfl) rfl (v := .int ((G g2).2.1 r 6)) rfl dX5_become_50 ?_
  refine j_put h inlX5 tyX5 tyX5_ok nmX5 (30 * g + (4 + r)) (at_R hg (by omega)) rfl 6 (by decide) (xr_7 7 rfl) rfl rfl rfl rfl (Nat.le_of_ble_eq_true rfl) dX5_become_53 (to_R hg (by omega) (by decide)) ?_
  refine j_aload_n h dX5_become_56 rfl 0 rfl ?_
  refine j_aload_n h dX5_become_57 rfl 1 rfl ?_
  refine j_get h inlX5 (30 * g2 + (4 + r)) (oa_R hg2 hne (by omega)) rfl 7 (by decide) (xr_7 8 rfl) rfl (v := .int ((G g2).2.1 r 7)) rfl dX5_become_58 ?_
  refine j_put h inlX5 tyX5 tyX5_ok nmX5 (30 * g + (4 + r)) (at_R hg (by omega)) rfl 7 (by decide) (xr_7 8 rfl) rfl rfl rfl rfl (Nat.le_of_ble_eq_true rfl) dX5_become_61 (to_R hg (by omega) (by decide)) ?_
  refine j_aload_n h dX5_become_64 rfl 0 rfl ?_
  refine j_get h inlX5 (30 * g + (4 + r)) (at_R hg (by omega)) rfl 8 (by decide) (xr_3 12 rfl) rfl (v := .ref (L g (8 + r))) rfl dX5_become_65 ?_
  refine j_iconst h (v := 0) dX5_become_68 (by decide) ?_
  refine j_aload_n h dX5_become_69 rfl 1 rfl ?_
  refine j_get h inlX5 (30 * g2 + (4 + r)) (oa_R hg2 hne (by omega)) rfl 8 (by decide) (xr_3 12 rfl) rfl (v := .ref (L g2 (8 + r))) rfl dX5_become_70 ?_
  refine j_iconst h (v := 0) dX5_become_73 (by decide) ?_
  refine j_ialdE h (30 * g2 + (8 + r)) (oa_B hg2 hne (by omega)) 0 rfl (by decide) (by decide) dX5_become_74 ?_
  refine j_iastE h (30 * g + (8 + r)) (at_B hg (by omega)) 0 rfl (by decide) (by decide) dX5_become_75 (u' := ((va_up G g (sr (sr (sr (sr (sr (sr (sr (sr (sr M r 0 ((G g2).2.1 r 0)) r 1 ((G g2).2.1 r 1)) r 2 ((G g2).2.1 r 2)) r 3 ((G g2).2.1 r 3)) r 4 ((G g2).2.1 r 4)) r 5 ((G g2).2.1 r 5)) r 6 ((G g2).2.1 r 6)) r 7 ((G g2).2.1 r 7)) r (8 + 0) ((G g2).2.1 r (8 + 0))), X, A), b)) (to_B hg (by omega)) ?_
  refine j_aload_n h dX5_become_76 rfl 0 rfl ?_
  refine j_get h inlX5 (30 * g + (4 + r)) (at_R hg (by omega)) rfl 8 (by decide) (xr_3 12 rfl) rfl (v := .ref (L g (8 + r))) rfl dX5_become_77 ?_
  refine j_iconst h (v := 1) dX5_become_80 (by decide) ?_
  refine j_aload_n h dX5_become_81 rfl 1 rfl ?_
  refine j_get h inlX5 (30 * g2 + (4 + r)) (oa_R hg2 hne (by omega)) rfl 8 (by decide) (xr_3 12 rfl) rfl (v := .ref (L g2 (8 + r))) rfl dX5_become_82 ?_
  refine j_iconst h (v := 1) dX5_become_85 (by decide) ?_
  refine j_ialdE h (30 * g2 + (8 + r)) (oa_B hg2 hne (by omega)) 1 rfl (by decide) (by decide) dX5_become_86 ?_
  refine j_iastE h (30 * g + (8 + r)) (at_B hg (by omega)) 1 rfl (by decide) (by decide) dX5_become_87 (u' := ((va_up G g (sr (sr (sr (sr (sr (sr (sr (sr (sr (sr M r 0 ((G g2).2.1 r 0)) r 1 ((G g2).2.1 r 1)) r 2 ((G g2).2.1 r 2)) r 3 ((G g2).2.1 r 3)) r 4 ((G g2).2.1 r 4)) r 5 ((G g2).2.1 r 5)) r 6 ((G g2).2.1 r 6)) r 7 ((G g2).2.1 r 7)) r (8 + 0) ((G g2).2.1 r (8 + 0))) r (8 + 1) ((G g2).2.1 r (8 + 1))), X, A), b)) (to_B hg (by omega)) ?_
  exact hR _ _ _ dX5_become_88 ⟨_, Eq.symm (rfl), rfl⟩

def f_X5_holds (M : gM) (r : Nat) (p1 : Int32) : Int32 :=
  if p1 < (M.2.1 r 0) then
    0
  else
    if (M.2.1 r 1) < p1 then
      0
    else
      1
abbrev rm_X5_holds : Room := { frames := 0, cells := 0, slots := 0, locals := 0 }
set_option maxRecDepth 100000 in
set_option maxHeartbeats 4000000 in
theorem c_X5_holds (l : Launch) (D : gD) (cy : Nat → ClassId) (L : Nat → Nat → Nat) (G : Nat → gM) (X : Nat → Int32) (A : Nat → Nat → Int32) (b : cB) (M : gM) {g : Nat} (hg : g < 11) {r : Nat} (hr : r < 4) (p1 : Int32)  : CtI l D cy (CW cy L) yX5_holds cX5_holds 2 (some .boolean) rm_X5_holds [.ref (L g (4 + r)), .int p1] ((va_up G g M, X, A), b) (fun rv u => rv = f_X5_holds M r p1 ∧ u = ((va_up G g M, X, A), b) ∧ (rv = 0 ∨ rv = 1)) 0 0 := by
  refine m_entZ cX5_holds 2 (by decide) (Nat.le_of_ble_eq_true rfl) (fun J h hR => ?_)
  show J ((va_up G g M, X, A), b) (0, 0) [(0, .ref (L g (4 + r))), (1, .int p1)] 0 []
  refine j_iload_n h dX5_holds_0 rfl 1 rfl ?_
  refine j_aload_n h dX5_holds_1 rfl 0 rfl ?_
  refine j_get h inlX5 (30 * g + (4 + r)) (at_R hg (by omega)) rfl 0 (by decide) (xr_7 1 rfl) rfl (v := .int (M.2.1 r 0)) rfl dX5_holds_2 ?_
  refine j_icmp_lt h (tgt := 20) dX5_holds_5 (by decide) (fun c1 => ?_) (fun c1 => ?_)
  · refine j_iconst h (v := 0) dX5_holds_20 (by decide) ?_
    exact hR _ _ _ _ dX5_holds_21 (Or.inl rfl) ⟨Eq.symm ((ite_p c1 rfl)), rfl, (Or.inl rfl)⟩
  · refine j_iload_n h dX5_holds_8 rfl 1 rfl ?_
    refine j_aload_n h dX5_holds_9 rfl 0 rfl ?_
    refine j_get h inlX5 (30 * g + (4 + r)) (at_R hg (by omega)) rfl 1 (by decide) (xr_7 2 rfl) rfl (v := .int (M.2.1 r 1)) rfl dX5_holds_10 ?_
    refine j_icmp_gt h (tgt := 20) dX5_holds_13 (by decide) (fun c2 => ?_) (fun c2 => ?_)
    · refine j_iconst h (v := 0) dX5_holds_20 (by decide) ?_
      exact hR _ _ _ _ dX5_holds_21 (Or.inl rfl) ⟨Eq.symm ((ite_n c1 (ite_p c2 rfl))), rfl, (Or.inl rfl)⟩
    · refine j_iconst h (v := 1) dX5_holds_16 (by decide) ?_
      refine j_goto h (tgt := 21) dX5_holds_17 (by decide) ?_
      exact hR _ _ _ _ dX5_holds_21 (Or.inr rfl) ⟨Eq.symm ((ite_n c1 (ite_n c2 rfl))), rfl, (Or.inr rfl)⟩

def f_X5_isPlayed (M : gM) (r : Nat) : Int32 :=
  if (M.2.1 r 4) = 0 then
    0
  else
    1
abbrev rm_X5_isPlayed : Room := { frames := 0, cells := 0, slots := 0, locals := 0 }
set_option maxRecDepth 100000 in
set_option maxHeartbeats 4000000 in
theorem c_X5_isPlayed (l : Launch) (D : gD) (cy : Nat → ClassId) (L : Nat → Nat → Nat) (G : Nat → gM) (X : Nat → Int32) (A : Nat → Nat → Int32) (b : cB) (M : gM) {g : Nat} (hg : g < 11) {r : Nat} (hr : r < 4)  : CtI l D cy (CW cy L) yX5_isPlayed cX5_isPlayed 1 (some .boolean) rm_X5_isPlayed [.ref (L g (4 + r))] ((va_up G g M, X, A), b) (fun rv u => rv = f_X5_isPlayed M r ∧ u = ((va_up G g M, X, A), b) ∧ (rv = 0 ∨ rv = 1)) 0 0 := by
  refine m_entZ cX5_isPlayed 1 (by decide) (Nat.le_of_ble_eq_true rfl) (fun J h hR => ?_)
  show J ((va_up G g M, X, A), b) (0, 0) [(0, .ref (L g (4 + r)))] 0 []
  refine j_aload_n h dX5_isPlayed_0 rfl 0 rfl ?_
  refine j_get h inlX5 (30 * g + (4 + r)) (at_R hg (by omega)) rfl 4 (by decide) (xr_7 5 rfl) rfl (v := .int (M.2.1 r 4)) rfl dX5_isPlayed_1 ?_
  refine j_if_eq h (tgt := 11) dX5_isPlayed_4 (by decide) (fun c1 => ?_) (fun c1 => ?_)
  · refine j_iconst h (v := 0) dX5_isPlayed_11 (by decide) ?_
    exact hR _ _ _ _ dX5_isPlayed_12 (Or.inl rfl) ⟨Eq.symm ((ite_p c1 rfl)), rfl, (Or.inl rfl)⟩
  · refine j_iconst h (v := 1) dX5_isPlayed_7 (by decide) ?_
    refine j_goto h (tgt := 12) dX5_isPlayed_8 (by decide) ?_
    exact hR _ _ _ _ dX5_isPlayed_12 (Or.inr rfl) ⟨Eq.symm ((ite_n c1 rfl)), rfl, (Or.inr rfl)⟩

def f_X5_startEnd (M : gM) (r : Nat) (p1 : Int32) : gM :=
  (sr (sr (sr (sr M r 4 p1) r 6 ((sr M r 4 p1).2.1 r 5)) r (8 + 0) 0) r (8 + 1) 0)
abbrev rm_X5_startEnd : Room := { frames := 0, cells := 0, slots := 0, locals := 0 }
set_option maxRecDepth 100000 in
set_option maxHeartbeats 4000000 in
theorem c_X5_startEnd (l : Launch) (D : gD) (cy : Nat → ClassId) (L : Nat → Nat → Nat) (G : Nat → gM) (X : Nat → Int32) (A : Nat → Nat → Int32) (b : cB) (M : gM) {g : Nat} (hg : g < 11) {r : Nat} (hr : r < 4) (p1 : Int32)  : CtV l D cy (CW cy L) yX5_startEnd cX5_startEnd 2 none rm_X5_startEnd [.ref (L g (4 + r)), .int p1] ((va_up G g M, X, A), b) (fun u => ∃ z : gM, z = f_X5_startEnd M r p1 ∧ u = ((va_up G g z, X, A), b)) 0 0 := by
  refine m_entV cX5_startEnd 2 (by decide) (Nat.le_of_ble_eq_true rfl) (fun J h hR => ?_)
  show J ((va_up G g M, X, A), b) (0, 0) [(0, .ref (L g (4 + r))), (1, .int p1)] 0 []
  refine j_aload_n h dX5_startEnd_0 rfl 0 rfl ?_
  refine j_iload_n h dX5_startEnd_1 rfl 1 rfl ?_
  refine j_put h inlX5 tyX5 tyX5_ok nmX5 (30 * g + (4 + r)) (at_R hg (by omega)) rfl 4 (by decide) (xr_7 5 rfl) rfl rfl rfl rfl (Nat.le_of_ble_eq_true rfl) dX5_startEnd_2 (to_R hg (by omega) (by decide)) ?_
  refine j_aload_n h dX5_startEnd_5 rfl 0 rfl ?_
  refine j_aload_n h dX5_startEnd_6 rfl 0 rfl ?_
  refine j_get h inlX5 (30 * g + (4 + r)) (at_R hg (by omega)) rfl 5 (by decide) (xr_7 6 rfl) rfl (v := .int ((sr M r 4 p1).2.1 r 5)) rfl dX5_startEnd_7 ?_
  refine j_put h inlX5 tyX5 tyX5_ok nmX5 (30 * g + (4 + r)) (at_R hg (by omega)) rfl 6 (by decide) (xr_7 7 rfl) rfl rfl rfl rfl (Nat.le_of_ble_eq_true rfl) dX5_startEnd_10 (to_R hg (by omega) (by decide)) ?_
  refine j_aload_n h dX5_startEnd_13 rfl 0 rfl ?_
  refine j_get h inlX5 (30 * g + (4 + r)) (at_R hg (by omega)) rfl 8 (by decide) (xr_3 12 rfl) rfl (v := .ref (L g (8 + r))) rfl dX5_startEnd_14 ?_
  refine j_iconst h (v := 0) dX5_startEnd_17 (by decide) ?_
  refine j_iconst h (v := 0) dX5_startEnd_18 (by decide) ?_
  refine j_iastE h (30 * g + (8 + r)) (at_B hg (by omega)) 0 rfl (by decide) (by decide) dX5_startEnd_19 (u' := ((va_up G g (sr (sr (sr M r 4 p1) r 6 ((sr M r 4 p1).2.1 r 5)) r (8 + 0) 0), X, A), b)) (to_B hg (by omega)) ?_
  refine j_aload_n h dX5_startEnd_20 rfl 0 rfl ?_
  refine j_get h inlX5 (30 * g + (4 + r)) (at_R hg (by omega)) rfl 8 (by decide) (xr_3 12 rfl) rfl (v := .ref (L g (8 + r))) rfl dX5_startEnd_21 ?_
  refine j_iconst h (v := 1) dX5_startEnd_24 (by decide) ?_
  refine j_iconst h (v := 0) dX5_startEnd_25 (by decide) ?_
  refine j_iastE h (30 * g + (8 + r)) (at_B hg (by omega)) 1 rfl (by decide) (by decide) dX5_startEnd_26 (u' := ((va_up G g (sr (sr (sr (sr M r 4 p1) r 6 ((sr M r 4 p1).2.1 r 5)) r (8 + 0) 0) r (8 + 1) 0), X, A), b)) (to_B hg (by omega)) ?_
  exact hR _ _ _ dX5_startEnd_27 ⟨_, Eq.symm (rfl), rfl⟩

def f_X5_finishEnd (M : gM) (r : Nat) : gM :=
  (sr (sr (sr M r 4 0) r 6 ((sr M r 4 0).2.1 r 5)) r 7 (((sr (sr M r 4 0) r 6 ((sr M r 4 0).2.1 r 5)).2.1 r 7) + 1))
abbrev rm_X5_finishEnd : Room := { frames := 0, cells := 0, slots := 0, locals := 0 }
set_option maxRecDepth 100000 in
set_option maxHeartbeats 4000000 in
theorem c_X5_finishEnd (l : Launch) (D : gD) (cy : Nat → ClassId) (L : Nat → Nat → Nat) (G : Nat → gM) (X : Nat → Int32) (A : Nat → Nat → Int32) (b : cB) (M : gM) {g : Nat} (hg : g < 11) {r : Nat} (hr : r < 4)  : CtV l D cy (CW cy L) yX5_finishEnd cX5_finishEnd 1 none rm_X5_finishEnd [.ref (L g (4 + r))] ((va_up G g M, X, A), b) (fun u => ∃ z : gM, z = f_X5_finishEnd M r ∧ u = ((va_up G g z, X, A), b)) 0 0 := by
  refine m_entV cX5_finishEnd 1 (by decide) (Nat.le_of_ble_eq_true rfl) (fun J h hR => ?_)
  show J ((va_up G g M, X, A), b) (0, 0) [(0, .ref (L g (4 + r)))] 0 []
  refine j_aload_n h dX5_finishEnd_0 rfl 0 rfl ?_
  refine j_iconst h (v := 0) dX5_finishEnd_1 (by decide) ?_
  refine j_put h inlX5 tyX5 tyX5_ok nmX5 (30 * g + (4 + r)) (at_R hg (by omega)) rfl 4 (by decide) (xr_7 5 rfl) rfl rfl rfl rfl (Nat.le_of_ble_eq_true rfl) dX5_finishEnd_2 (to_R hg (by omega) (by decide)) ?_
  refine j_aload_n h dX5_finishEnd_5 rfl 0 rfl ?_
  refine j_aload_n h dX5_finishEnd_6 rfl 0 rfl ?_
  refine j_get h inlX5 (30 * g + (4 + r)) (at_R hg (by omega)) rfl 5 (by decide) (xr_7 6 rfl) rfl (v := .int ((sr M r 4 0).2.1 r 5)) rfl dX5_finishEnd_7 ?_
  refine j_put h inlX5 tyX5 tyX5_ok nmX5 (30 * g + (4 + r)) (at_R hg (by omega)) rfl 6 (by decide) (xr_7 7 rfl) rfl rfl rfl rfl (Nat.le_of_ble_eq_true rfl) dX5_finishEnd_10 (to_R hg (by omega) (by decide)) ?_
  refine j_aload_n h dX5_finishEnd_13 rfl 0 rfl ?_
  refine j_dup h dX5_finishEnd_14 rfl ?_
  refine j_get h inlX5 (30 * g + (4 + r)) (at_R hg (by omega)) rfl 7 (by decide) (xr_7 8 rfl) rfl (v := .int ((sr (sr M r 4 0) r 6 ((sr M r 4 0).2.1 r 5)).2.1 r 7)) rfl dX5_finishEnd_15 ?_
  refine j_iconst h (v := 1) dX5_finishEnd_18 (by decide) ?_
  refine j_iadd h dX5_finishEnd_19 ?_
  refine j_put h inlX5 tyX5 tyX5_ok nmX5 (30 * g + (4 + r)) (at_R hg (by omega)) rfl 7 (by decide) (xr_7 8 rfl) rfl rfl rfl rfl (Nat.le_of_ble_eq_true rfl) dX5_finishEnd_20 (to_R hg (by omega) (by decide)) ?_
  exact hR _ _ _ dX5_finishEnd_23 ⟨_, Eq.symm (rfl), rfl⟩

def f_X5_distance (M : gM) (r : Nat) (p1 : Int32) (p2 : Int32) : Int32 :=
  (((p1 - (((M.2.1 r 0) + (M.2.1 r 1)) / 2)) * (p1 - (((M.2.1 r 0) + (M.2.1 r 1)) / 2))) + ((p2 - (M.2.1 r 4)) * (p2 - (M.2.1 r 4))))
abbrev rm_X5_distance : Room := { frames := 0, cells := 0, slots := 0, locals := 0 }
set_option maxRecDepth 100000 in
set_option maxHeartbeats 4000000 in
theorem c_X5_distance (l : Launch) (D : gD) (cy : Nat → ClassId) (L : Nat → Nat → Nat) (G : Nat → gM) (X : Nat → Int32) (A : Nat → Nat → Int32) (b : cB) (M : gM) {g : Nat} (hg : g < 11) {r : Nat} (hr : r < 4) (p1 : Int32) (p2 : Int32)  : CtI l D cy (CW cy L) yX5_distance cX5_distance 5 (some .int) rm_X5_distance [.ref (L g (4 + r)), .int p1, .int p2] ((va_up G g M, X, A), b) (fun rv u => rv = f_X5_distance M r p1 p2 ∧ u = ((va_up G g M, X, A), b)) 0 0 := by
  refine m_entI cX5_distance 5 (by decide) (Nat.le_of_ble_eq_true rfl) (fun J h hR => ?_)
  show J ((va_up G g M, X, A), b) (0, 0) [(0, .ref (L g (4 + r))), (1, .int p1), (2, .int p2)] 0 []
  refine j_iload_n h dX5_distance_0 rfl 1 rfl ?_
  refine j_aload_n h dX5_distance_1 rfl 0 rfl ?_
  refine j_get h inlX5 (30 * g + (4 + r)) (at_R hg (by omega)) rfl 0 (by decide) (xr_7 1 rfl) rfl (v := .int (M.2.1 r 0)) rfl dX5_distance_2 ?_
  refine j_aload_n h dX5_distance_5 rfl 0 rfl ?_
  refine j_get h inlX5 (30 * g + (4 + r)) (at_R hg (by omega)) rfl 1 (by decide) (xr_7 2 rfl) rfl (v := .int (M.2.1 r 1)) rfl dX5_distance_6 ?_
  refine j_iadd h dX5_distance_9 ?_
  refine j_iconst h (v := 2) dX5_distance_10 (by decide) ?_
  refine j_idiv h dX5_distance_11 (by decide) ?_
  refine j_isub h dX5_distance_12 ?_
  refine j_istore_n h (lv' := [(3, _), (0, _), (1, _), (2, _)]) dX5_distance_13 rfl (by decide) rfl ?_
  refine j_iload_n h dX5_distance_14 rfl 3 rfl ?_
  refine j_aload_n h dX5_distance_15 rfl 1 rfl ?_
  refine j_get h inlX5 (30 * g + (4 + r)) (at_R hg (by omega)) rfl 4 (by decide) (xr_7 5 rfl) rfl (v := .int (M.2.1 r 4)) rfl dX5_distance_16 ?_
  refine j_isub h dX5_distance_19 ?_
  refine j_istore h (lv' := [(4, _), (3, _), (0, _), (1, _), (2, _)]) dX5_distance_20 (by decide) rfl ?_
  refine j_iload_n h dX5_distance_22 rfl 1 rfl ?_
  refine j_iload_n h dX5_distance_23 rfl 1 rfl ?_
  refine j_imul h dX5_distance_24 ?_
  refine j_iload h dX5_distance_25 0 rfl ?_
  refine j_iload h dX5_distance_27 0 rfl ?_
  refine j_imul h dX5_distance_29 ?_
  refine j_iadd h dX5_distance_30 ?_
  exact hR _ _ _ _ dX5_distance_31 ⟨Eq.symm (rfl), rfl⟩

def f_X5_castsAfter (M : gM) (r : Nat) (p1 : Int32) (p2 : Int32) : Int32 :=
  if p2 < 5 then
    p1
  else
    bd (f_X5_isPlayed M r) fun z2 =>
    if z2 = 0 then
      (if (p1 + 1) < 9 then (p1 + 1) else 9)
    else
      p1
abbrev rm_X5_castsAfter : Room := { frames := 1, cells := 0, slots := 0, locals := 21 }
set_option maxRecDepth 100000 in
set_option maxHeartbeats 4000000 in
theorem c_X5_castsAfter (l : Launch) (D : gD) (cy : Nat → ClassId) (L : Nat → Nat → Nat) (G : Nat → gM) (X : Nat → Int32) (A : Nat → Nat → Int32) (b : cB) (M : gM) {g : Nat} (hg : g < 11) {r : Nat} (hr : r < 4) (p1 : Int32) (p2 : Int32)  : CtI l D cy (CW cy L) yX5_castsAfter cX5_castsAfter 3 (some .int) rm_X5_castsAfter [.ref (L g (4 + r)), .int p1, .int p2] ((va_up G g M, X, A), b) (fun rv u => rv = f_X5_castsAfter M r p1 p2 ∧ u = ((va_up G g M, X, A), b)) 0 0 := by
  refine m_entI cX5_castsAfter 3 (by decide) (Nat.le_of_ble_eq_true rfl) (fun J h hR => ?_)
  show J ((va_up G g M, X, A), b) (0, 0) [(0, .ref (L g (4 + r))), (1, .int p1), (2, .int p2)] 0 []
  refine j_iload_n h dX5_castsAfter_0 rfl 2 rfl ?_
  refine j_iconst h (v := 5) dX5_castsAfter_1 (by decide) ?_
  refine j_icmp_lt h (tgt := 21) dX5_castsAfter_2 (by decide) (fun c1 => ?_) (fun c1 => ?_)
  · refine j_iload_n h dX5_castsAfter_21 rfl 1 rfl ?_
    exact hR _ _ _ _ dX5_castsAfter_22 ⟨Eq.symm ((ite_p c1 rfl)), rfl⟩
  · refine j_aload_n h dX5_castsAfter_5 rfl 0 rfl ?_
    refine j_callI h (n := 0) (c_X5_isPlayed l D cy L _ _ _ _ _ hg (by omega)) (xg_V (xr_9 22 rfl) (xr_9 23 rfl) (xr_10 0 rfl) (xr_2 23 rfl) (xr_10 1 rfl)) rfl rfl (by decide +kernel) ⟨Nat.le_of_ble_eq_true rfl, Nat.le_of_ble_eq_true rfl⟩ (30 * g + (4 + r)) (at_R hg (by omega)) rfl rfl rfl rfl (Nat.le_of_ble_eq_true rfl) dX5_castsAfter_6 ⟨by decide, by decide⟩ (fun z2 u' hq => ?_)
    obtain ⟨hz2, rfl, bz2⟩ := hq
    refine j_if_ne h (tgt := 21) dX5_castsAfter_9 (by decide) (fun c3 => ?_) (fun c3 => ?_)
    · refine j_iload_n h dX5_castsAfter_21 rfl 1 rfl ?_
      exact hR _ _ _ _ dX5_castsAfter_22 ⟨Eq.symm ((ite_n c1 (bd_eq hz2 (ite_n c3 rfl)))), rfl⟩
    · refine j_bipush h (v := 9) dX5_castsAfter_12 (by decide) ?_
      refine j_iload_n h dX5_castsAfter_14 rfl 1 rfl ?_
      refine j_iconst h (v := 1) dX5_castsAfter_15 (by decide) ?_
      refine j_iadd h dX5_castsAfter_16 ?_
      refine j_mmin h (xr_9 21 rfl) (xr_1 7 rfl) (xr_1 8 rfl) (xr_1 9 rfl) (by decide) (Nat.le_of_ble_eq_true rfl) (by decide) (by decide) dX5_castsAfter_17 ?_
      exact hR _ _ _ _ dX5_castsAfter_20 ⟨Eq.symm ((ite_n c1 (bd_eq hz2 (ite_p c3 rfl)))), rfl⟩

def f_X6_make (M : gM) (w : Nat) (p1 : Int32) (p2 : Int32) : gM :=
  (sw (sw (sw (sw (sw (sw (sw (sw M w 0 p1) w 1 p2) w 2 0) w 3 0) w 4 0) w 5 0) w 6 0) w 7 0)
abbrev rm_X6_make : Room := { frames := 0, cells := 0, slots := 0, locals := 0 }
set_option maxRecDepth 100000 in
set_option maxHeartbeats 4000000 in
theorem c_X6_make (l : Launch) (D : gD) (cy : Nat → ClassId) (L : Nat → Nat → Nat) (G : Nat → gM) (X : Nat → Int32) (A : Nat → Nat → Int32) (b : cB) (M : gM) {g : Nat} (hg : g < 11) {w : Nat} (hw : w < 16) (p1 : Int32) (p2 : Int32)  : CtV l D cy (CW cy L) yX6_make cX6_make 3 none rm_X6_make [.ref (L g (12 + w)), .int p1, .int p2] ((va_up G g M, X, A), b) (fun u => ∃ z : gM, z = f_X6_make M w p1 p2 ∧ u = ((va_up G g z, X, A), b)) 0 0 := by
  refine m_entV cX6_make 3 (by decide) (Nat.le_of_ble_eq_true rfl) (fun J h hR => ?_)
  show J ((va_up G g M, X, A), b) (0, 0) [(0, .ref (L g (12 + w))), (1, .int p1), (2, .int p2)] 0 []
  refine j_aload_n h dX6_make_0 rfl 0 rfl ?_
  refine j_iload_n h dX6_make_1 rfl 1 rfl ?_
  refine j_put h inlX6 tyX6 tyX6_ok nmX6 (30 * g + (12 + w)) (at_W hg (by omega)) rfl 0 (by decide) (xr_7 13 rfl) rfl rfl rfl rfl (Nat.le_of_ble_eq_true rfl) dX6_make_2 (to_W hg (by omega) (by decide)) ?_
  refine j_aload_n h dX6_make_5 rfl 0 rfl ?_
  refine j_iload_n h dX6_make_6 rfl 2 rfl ?_
  refine j_put h inlX6 tyX6 tyX6_ok nmX6 (30 * g + (12 + w)) (at_W hg (by omega)) rfl 1 (by decide) (xr_7 14 rfl) rfl rfl rfl rfl (Nat.le_of_ble_eq_true rfl) dX6_make_7 (to_W hg (by omega) (by decide)) ?_
  refine j_aload_n h dX6_make_10 rfl 0 rfl ?_
  refine j_iconst h (v := 0) dX6_make_11 (by decide) ?_
  refine j_put h inlX6 tyX6 tyX6_ok nmX6 (30 * g + (12 + w)) (at_W hg (by omega)) rfl 2 (by decide) (xr_7 15 rfl) rfl rfl rfl rfl (Nat.le_of_ble_eq_true rfl) dX6_make_12 (to_W hg (by omega) (by decide)) ?_
  refine j_aload_n h dX6_make_15 rfl 0 rfl ?_
  refine j_iconst h (v := 0) dX6_make_16 (by decide) ?_
  refine j_put h inlX6 tyX6 tyX6_ok nmX6 (30 * g + (12 + w)) (at_W hg (by omega)) rfl 3 (by decide) (xr_7 16 rfl) rfl rfl rfl rfl (Nat.le_of_ble_eq_true rfl) dX6_make_17 (to_W hg (by omega) (by decide)) ?_
  refine j_aload_n h dX6_make_20 rfl 0 rfl ?_
  refine j_iconst h (v := 0) dX6_make_21 (by decide) ?_
  refine j_put h inlX6 tyX6 tyX6_ok nmX6 (30 * g + (12 + w)) (at_W hg (by omega)) rfl 4 (by decide) (xr_7 17 rfl) rfl rfl rfl rfl (Nat.le_of_ble_eq_true rfl) dX6_make_22 (to_W hg (by omega) (by decide)) ?_
  refine j_aload_n h dX6_make_25 rfl 0 rfl ?_
  refine j_iconst h (v := 0) dX6_make_26 (by decide) ?_
  refine j_put h inlX6 tyX6 tyX6_ok nmX6 (30 * g + (12 + w)) (at_W hg (by omega)) rfl 5 (by decide) (xr_7 18 rfl) rfl rfl rfl rfl (Nat.le_of_ble_eq_true rfl) dX6_make_27 (to_W hg (by omega) (by decide)) ?_
  refine j_aload_n h dX6_make_30 rfl 0 rfl ?_
  refine j_iconst h (v := 0) dX6_make_31 (by decide) ?_
  refine j_put h inlX6 tyX6 tyX6_ok nmX6 (30 * g + (12 + w)) (at_W hg (by omega)) rfl 6 (by decide) (xr_7 19 rfl) rfl rfl rfl rfl (Nat.le_of_ble_eq_true rfl) dX6_make_32 (to_W hg (by omega) (by decide)) ?_
  refine j_aload_n h dX6_make_35 rfl 0 rfl ?_
  refine j_iconst h (v := 0) dX6_make_36 (by decide) ?_
  refine j_put h inlX6 tyX6 tyX6_ok nmX6 (30 * g + (12 + w)) (at_W hg (by omega)) rfl 7 (by decide) (xr_7 20 rfl) rfl rfl rfl rfl (Nat.le_of_ble_eq_true rfl) dX6_make_37 (to_W hg (by omega) (by decide)) ?_
  exact hR _ _ _ dX6_make_40 ⟨_, Eq.symm (rfl), rfl⟩

def f_X6_become (M : gM) (w : Nat) (N : gM) : gM :=
  (sw (sw (sw (sw (sw (sw (sw (sw M w 0 (N.2.2.1 w 0)) w 1 (N.2.2.1 w 1)) w 2 (N.2.2.1 w 2)) w 3 (N.2.2.1 w 3)) w 4 (N.2.2.1 w 4)) w 5 (N.2.2.1 w 5)) w 6 (N.2.2.1 w 6)) w 7 (N.2.2.1 w 7))
abbrev rm_X6_become : Room := { frames := 0, cells := 0, slots := 0, locals := 0 }
set_option maxRecDepth 100000 in
set_option maxHeartbeats 4000000 in
theorem c_X6_become (l : Launch) (D : gD) (cy : Nat → ClassId) (L : Nat → Nat → Nat) (G : Nat → gM) (X : Nat → Int32) (A : Nat → Nat → Int32) (b : cB) (M : gM) {g : Nat} (hg : g < 11) {w : Nat} (hw : w < 16) {g2 : Nat} (hg2 : g2 < 11) (hne : g2 ≠ g)  : CtV l D cy (CW cy L) yX6_become cX6_become 2 none rm_X6_become [.ref (L g (12 + w)), .ref (L g2 (12 + w))] ((va_up G g M, X, A), b) (fun u => ∃ z : gM, z = f_X6_become M w (G g2) ∧ u = ((va_up G g z, X, A), b)) 0 0 := by
  refine m_entV cX6_become 2 (by decide) (Nat.le_of_ble_eq_true rfl) (fun J h hR => ?_)
  show J ((va_up G g M, X, A), b) (0, 0) [(0, .ref (L g (12 + w))), (1, .ref (L g2 (12 + w)))] 0 []
  refine j_aload_n h dX6_become_0 rfl 0 rfl ?_
  refine j_aload_n h dX6_become_1 rfl 1 rfl ?_
  refine j_get h inlX6 (30 * g2 + (12 + w)) (oa_W hg2 hne (by omega)) rfl 0 (by decide) (xr_7 13 rfl) rfl (v := .int ((G g2).2.2.1 w 0)) rfl dX6_become_2 ?_
  refine j_put h inlX6 tyX6 tyX6_ok nmX6 (30 * g + (12 + w)) (at_W hg (by omega)) rfl 0 (by decide) (xr_7 13 rfl) rfl rfl rfl rfl (Nat.le_of_ble_eq_true rfl) dX6_become_5 (to_W hg (by omega) (by decide)) ?_
  refine j_aload_n h dX6_become_8 rfl 0 rfl ?_
  refine j_aload_n h dX6_become_9 rfl 1 rfl ?_
  refine j_get h inlX6 (30 * g2 + (12 + w)) (oa_W hg2 hne (by omega)) rfl 1 (by decide) (xr_7 14 rfl) rfl (v := .int ((G g2).2.2.1 w 1)) rfl dX6_become_10 ?_
  refine j_put h inlX6 tyX6 tyX6_ok nmX6 (30 * g + (12 + w)) (at_W hg (by omega)) rfl 1 (by decide) (xr_7 14 rfl) rfl rfl rfl rfl (Nat.le_of_ble_eq_true rfl) dX6_become_13 (to_W hg (by omega) (by decide)) ?_
  refine j_aload_n h dX6_become_16 rfl 0 rfl ?_
  refine j_aload_n h dX6_become_17 rfl 1 rfl ?_
  refine j_get h inlX6 (30 * g2 + (12 + w)) (oa_W hg2 hne (by omega)) rfl 2 (by decide) (xr_7 15 rfl) rfl (v := .int ((G g2).2.2.1 w 2)) rfl dX6_become_18 ?_
  refine j_put h inlX6 tyX6 tyX6_ok nmX6 (30 * g + (12 + w)) (at_W hg (by omega)) rfl 2 (by decide) (xr_7 15 rfl) rfl rfl rfl rfl (Nat.le_of_ble_eq_true rfl) dX6_become_21 (to_W hg (by omega) (by decide)) ?_
  refine j_aload_n h dX6_become_24 rfl 0 rfl ?_
  refine j_aload_n h dX6_become_25 rfl 1 rfl ?_
  refine j_get h inlX6 (30 * g2 + (12 + w)) (oa_W hg2 hne (by omega)) rfl 3 (by decide) (xr_7 16 rfl) rfl (v := .int ((G g2).2.2.1 w 3)) rfl dX6_become_26 ?_
  refine j_put h inlX6 tyX6 tyX6_ok nmX6 (30 * g + (12 + w)) (at_W hg (by omega)) rfl 3 (by decide) (xr_7 16 rfl) rfl rfl rfl rfl (Nat.le_of_ble_eq_true rfl) dX6_become_29 (to_W hg (by omega) (by decide)) ?_
  refine j_aload_n h dX6_become_32 rfl 0 rfl ?_
  refine j_aload_n h dX6_become_33 rfl 1 rfl ?_
  refine j_get h inlX6 (30 * g2 + (12 + w)) (oa_W hg2 hne (by omega)) rfl 4 (by decide) (xr_7 17 rfl) rfl (v := .int ((G g2).2.2.1 w 4)) rfl dX6_become_34 ?_
  refine j_put h inlX6 tyX6 tyX6_ok nmX6 (30 * g + (12 + w)) (at_W hg (by omega)) rfl 4 (by decide) (xr_7 17 rfl) rfl rfl rfl rfl (Nat.le_of_ble_eq_true rfl) dX6_become_37 (to_W hg (by omega) (by decide)) ?_
  refine j_aload_n h dX6_become_40 rfl 0 rfl ?_
  refine j_aload_n h dX6_become_41 rfl 1 rfl ?_
  refine j_get h inlX6 (30 * g2 + (12 + w)) (oa_W hg2 hne (by omega)) rfl 5 (by decide) (xr_7 18 rfl) rfl (v := .int ((G g2).2.2.1 w 5)) rfl dX6_become_42 ?_
  refine j_put h inlX6 tyX6 tyX6_ok nmX6 (30 * g + (12 + w)) (at_W hg (by omega)) rfl 5 (by decide) (xr_7 18 rfl) rfl rfl rfl rfl (Nat.le_of_ble_eq_true rfl) dX6_become_45 (to_W hg (by omega) (by decide)) ?_
  refine j_aload_n h dX6_become_48 rfl 0 rfl ?_
  refine j_aload_n h dX6_become_49 rfl 1 rfl ?_
  refine j_get h inlX6 (30 * g2 + (12 + w)) (oa_W hg2 hne (by omega)) rfl 6 (by decide) (xr_7 19 rfl) rfl (v := .int ((G g2).2.2.1 w 6)) rfl dX6_become_50 ?_
  refine j_put h inlX6 tyX6 tyX6_ok nmX6 (30 * g + (12 + w)) (at_W hg (by omega)) rfl 6 (by decide) (xr_7 19 rfl) rfl rfl rfl rfl (Nat.le_of_ble_eq_true rfl) dX6_become_53 (to_W hg (by omega) (by decide)) ?_
  refine j_aload_n h dX6_become_56 rfl 0 rfl ?_
  refine j_aload_n h dX6_become_57 rfl 1 rfl ?_
  refine j_get h inlX6 (30 * g2 + (12 + w)) (oa_W hg2 hne (by omega)) rfl 7 (by decide) (xr_7 20 rfl) rfl (v := .int ((G g2).2.2.1 w 7)) rfl dX6_become_58 ?_
  refine j_put h inlX6 tyX6 tyX6_ok nmX6 (30 * g + (12 + w)) (at_W hg (by omega)) rfl 7 (by decide) (xr_7 20 rfl) rfl rfl rfl rfl (Nat.le_of_ble_eq_true rfl) dX6_become_61 (to_W hg (by omega) (by decide)) ?_
  exact hR _ _ _ dX6_become_64 ⟨_, Eq.symm (rfl), rfl⟩

def f_X6_liesOn (M : gM) (w : Nat) (p1 : Int32) : Int32 :=
  if (M.2.2.1 w 2) = 1 then
    if (M.2.2.1 w 3) = p1 then
      1
    else
      0
  else
    0
abbrev rm_X6_liesOn : Room := { frames := 0, cells := 0, slots := 0, locals := 0 }
set_option maxRecDepth 100000 in
set_option maxHeartbeats 4000000 in
theorem c_X6_liesOn (l : Launch) (D : gD) (cy : Nat → ClassId) (L : Nat → Nat → Nat) (G : Nat → gM) (X : Nat → Int32) (A : Nat → Nat → Int32) (b : cB) (M : gM) {g : Nat} (hg : g < 11) {w : Nat} (hw : w < 16) (p1 : Int32)  : CtI l D cy (CW cy L) yX6_liesOn cX6_liesOn 2 (some .boolean) rm_X6_liesOn [.ref (L g (12 + w)), .int p1] ((va_up G g M, X, A), b) (fun rv u => rv = f_X6_liesOn M w p1 ∧ u = ((va_up G g M, X, A), b) ∧ (rv = 0 ∨ rv = 1)) 0 0 := by
  refine m_entZ cX6_liesOn 2 (by decide) (Nat.le_of_ble_eq_true rfl) (fun J h hR => ?_)
  show J ((va_up G g M, X, A), b) (0, 0) [(0, .ref (L g (12 + w))), (1, .int p1)] 0 []
  refine j_aload_n h dX6_liesOn_0 rfl 0 rfl ?_
  refine j_get h inlX6 (30 * g + (12 + w)) (at_W hg (by omega)) rfl 2 (by decide) (xr_7 15 rfl) rfl (v := .int (M.2.2.1 w 2)) rfl dX6_liesOn_1 ?_
  refine j_iconst h (v := 1) dX6_liesOn_4 (by decide) ?_
  refine j_icmp_ne h (tgt := 20) dX6_liesOn_5 (by decide) (fun c1 => ?_) (fun c1 => ?_)
  · refine j_iconst h (v := 0) dX6_liesOn_20 (by decide) ?_
    exact hR _ _ _ _ dX6_liesOn_21 (Or.inl rfl) ⟨Eq.symm ((ite_n c1 rfl)), rfl, (Or.inl rfl)⟩
  · refine j_aload_n h dX6_liesOn_8 rfl 0 rfl ?_
    refine j_get h inlX6 (30 * g + (12 + w)) (at_W hg (by omega)) rfl 3 (by decide) (xr_7 16 rfl) rfl (v := .int (M.2.2.1 w 3)) rfl dX6_liesOn_9 ?_
    refine j_iload_n h dX6_liesOn_12 rfl 1 rfl ?_
    refine j_icmp_ne h (tgt := 20) dX6_liesOn_13 (by decide) (fun c2 => ?_) (fun c2 => ?_)
    · refine j_iconst h (v := 0) dX6_liesOn_20 (by decide) ?_
      exact hR _ _ _ _ dX6_liesOn_21 (Or.inl rfl) ⟨Eq.symm ((ite_p c1 (ite_n c2 rfl))), rfl, (Or.inl rfl)⟩
    · refine j_iconst h (v := 1) dX6_liesOn_16 (by decide) ?_
      refine j_goto h (tgt := 21) dX6_liesOn_17 (by decide) ?_
      exact hR _ _ _ _ dX6_liesOn_21 (Or.inr rfl) ⟨Eq.symm ((ite_p c1 (ite_p c2 rfl))), rfl, (Or.inr rfl)⟩

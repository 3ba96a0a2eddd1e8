def f_X1_reset (M : gM) : gM :=
  bd (f_X0_reset (sg (sg M 3 0) 4 0) 0) fun z1 =>
  bd (f_X0_reset z1 1) fun z2 =>
  (sg (sg (sg (sg (sg (sg z2 5 0) 6 1) 7 2) 8 12) 9 0) 10 0)
abbrev rm_X1_reset : Room := { frames := 1, cells := 0, slots := 0, locals := 20 }
set_option maxRecDepth 100000 in
set_option maxHeartbeats 4000000 in
theorem c_X1_reset (l : Launch) (D : gD) (cy : Nat → ClassId) (L : Nat → Nat → Nat) (G : Nat → gM) (X : Nat → Int32) (A : Nat → Nat → Int32) (b : cB) (M : gM) {g : Nat} (hg : g < 11)  : CtV l D cy (CW cy L) yX1_reset cX1_reset 1 none rm_X1_reset [.ref (L g 0)] ((va_up G g M, X, A), b) (fun u => ∃ z : gM, z = f_X1_reset M ∧ u = ((va_up G g z, X, A), b)) 0 0 := by
  refine m_entV cX1_reset 1 (by decide) (Nat.le_of_ble_eq_true rfl) (fun J h hR => ?_)
  show J ((va_up G g M, X, A), b) (0, 0) [(0, .ref (L g 0))] 0 []
  refine j_aload_n h dX1_reset_0 rfl 0 rfl ?_
  refine j_iconst h (v := 0) dX1_reset_1 (by decide) ?_
  refine j_put h inlX1 tyX1 tyX1_ok nmX1 (30 * g + 0) (at_G hg) rfl 3 (by decide) (xr_3 23 rfl) rfl rfl rfl rfl (Nat.le_of_ble_eq_true rfl) dX1_reset_2 (to_G hg (by decide) (by decide)) ?_
  refine j_aload_n h dX1_reset_5 rfl 0 rfl ?_
  refine j_iconst h (v := 0) dX1_reset_6 (by decide) ?_
  refine j_put h inlX1 tyX1 tyX1_ok nmX1 (30 * g + 0) (at_G hg) rfl 4 (by decide) (xr_4 0 rfl) rfl rfl rfl rfl (Nat.le_of_ble_eq_true rfl) dX1_reset_7 (to_G hg (by decide) (by decide)) ?_
  refine j_aload_n h dX1_reset_10 rfl 0 rfl ?_
  refine j_get h inlX1 (30 * g + 0) (at_G hg) rfl 2 (by decide) (xr_3 5 rfl) rfl (v := .ref (L g 3)) rfl dX1_reset_11 ?_
  refine j_iconst h (v := 0) dX1_reset_14 (by decide) ?_
  refine j_aaldE h (30 * g + 3) 3 (at_Ca hg) rfl 0 rfl (by decide) (by decide) dX1_reset_15 ?_
  refine j_callV h (n := 0) (c_X0_reset l D cy L _ _ _ _ _ hg (by omega)) (xg_V (xr_4 7 rfl) (xr_4 8 rfl) (xr_4 9 rfl) (xr_3 7 rfl) (xr_4 10 rfl)) rfl rfl (by decide +kernel) ⟨Nat.le_of_ble_eq_true rfl, Nat.le_of_ble_eq_true rfl⟩ (30 * g + (28 + 0)) (at_C hg (by omega)) rfl rfl rfl rfl (Nat.le_of_ble_eq_true rfl) dX1_reset_16 ⟨by decide, by decide⟩ (fun u' hq => ?_)
  obtain ⟨z1, hz1, rfl⟩ := hq
  refine j_aload_n h dX1_reset_19 rfl 0 rfl ?_
  refine j_get h inlX1 (30 * g + 0) (at_G hg) rfl 2 (by decide) (xr_3 5 rfl) rfl (v := .ref (L g 3)) rfl dX1_reset_20 ?_
  refine j_iconst h (v := 1) dX1_reset_23 (by decide) ?_
  refine j_aaldE h (30 * g + 3) 3 (at_Ca hg) rfl 1 rfl (by decide) (by decide) dX1_reset_24 ?_
  refine j_callV h (n := 0) (c_X0_reset l D cy L _ _ _ _ _ hg (by omega)) (xg_V (xr_4 7 rfl) (xr_4 8 rfl) (xr_4 9 rfl) (xr_3 7 rfl) (xr_4 10 rfl)) rfl rfl (by decide +kernel) ⟨Nat.le_of_ble_eq_true rfl, Nat.le_of_ble_eq_true rfl⟩ (30 * g + (28 + 1)) (at_C hg (by omega)) rfl rfl rfl rfl (Nat.le_of_ble_eq_true rfl) dX1_reset_25 ⟨by decide, by decide⟩ (fun u' hq => ?_)
  obtain ⟨z2, hz2, rfl⟩ := hq
  refine j_aload_n h dX1_reset_28 rfl 0 rfl ?_
  refine j_iconst h (v := 0) dX1_reset_29 (by decide) ?_
  refine j_put h inlX1 tyX1 tyX1_ok nmX1 (30 * g + 0) (at_G hg) rfl 5 (by decide) (xr_4 1 rfl) rfl rfl rfl rfl (Nat.le_of_ble_eq_true rfl) dX1_reset_30 (to_G hg (by decide) (by decide)) ?_
  refine j_aload_n h dX1_reset_33 rfl 0 rfl ?_
  refine j_iconst h (v := 1) dX1_reset_34 (by decide) ?_
  refine j_put h inlX1 tyX1 tyX1_ok nmX1 (30 * g + 0) (at_G hg) rfl 6 (by decide) (xr_4 2 rfl) rfl rfl rfl rfl (Nat.le_of_ble_eq_true rfl) dX1_reset_35 (to_G hg (by decide) (by decide)) ?_
  refine j_aload_n h dX1_reset_38 rfl 0 rfl ?_
  refine j_iconst h (v := 2) dX1_reset_39 (by decide) ?_
  refine j_put h inlX1 tyX1 tyX1_ok nmX1 (30 * g + 0) (at_G hg) rfl 7 (by decide) (xr_4 3 rfl) rfl rfl rfl rfl (Nat.le_of_ble_eq_true rfl) dX1_reset_40 (to_G hg (by decide) (by decide)) ?_
  refine j_aload_n h dX1_reset_43 rfl 0 rfl ?_
  refine j_bipush h (v := 12) dX1_reset_44 (by decide) ?_
  refine j_put h inlX1 tyX1 tyX1_ok nmX1 (30 * g + 0) (at_G hg) rfl 8 (by decide) (xr_4 4 rfl) rfl rfl rfl rfl (Nat.le_of_ble_eq_true rfl) dX1_reset_46 (to_G hg (by decide) (by decide)) ?_
  refine j_aload_n h dX1_reset_49 rfl 0 rfl ?_
  refine j_iconst h (v := 0) dX1_reset_50 (by decide) ?_
  refine j_put h inlX1 tyX1 tyX1_ok nmX1 (30 * g + 0) (at_G hg) rfl 9 (by decide) (xr_4 5 rfl) rfl rfl rfl rfl (Nat.le_of_ble_eq_true rfl) dX1_reset_51 (to_G hg (by decide) (by decide)) ?_
  refine j_aload_n h dX1_reset_54 rfl 0 rfl ?_
  refine j_iconst h (v := 0) dX1_reset_55 (by decide) ?_
  refine j_put h inlX1 tyX1 tyX1_ok nmX1 (30 * g + 0) (at_G hg) rfl 10 (by decide) (xr_4 6 rfl) rfl rfl rfl rfl (Nat.le_of_ble_eq_true rfl) dX1_reset_56 (to_G hg (by decide) (by decide)) ?_
  exact hR _ _ _ dX1_reset_59 ⟨_, Eq.symm ((bd_eq hz1 (bd_eq hz2 rfl))), rfl⟩

def f_X1_become_l10 (N : gM) : Nat → Nat → gM → gM
  | 0, _, Mk => Mk
  | n + 1, k, Mk =>
    if (Mk.1 3) ≤ (nI k) then
      Mk
    else
      bd (f_X5_become Mk k N) fun z2 =>
      f_X1_become_l10 N n (k + 1) z2
def f_X1_become_l49 (N : gM) : Nat → Nat → gM → gM
  | 0, _, Mk => Mk
  | n + 1, k, Mk =>
    if (Mk.1 4) ≤ (nI k) then
      Mk
    else
      bd (f_X6_become Mk k N) fun z5 =>
      f_X1_become_l49 N n (k + 1) z5
def f_X1_become (M : gM) (N : gM) : gM :=
  bd (f_X1_become_l10 N 5 0 (sg M 3 (N.1 3))) fun z3 =>
  bd (f_X1_become_l49 N 17 0 (sg z3 4 (N.1 4))) fun z6 =>
  bd (f_X0_become z6 0 N) fun z7 =>
  bd (f_X0_become z7 1 N) fun z8 =>
  (sg (sg (sg (sg (sg (sg z8 5 (N.1 5)) 6 (N.1 6)) 7 (N.1 7)) 8 (N.1 8)) 9 (N.1 9)) 10 (N.1 10))
abbrev rm_X1_become : Room := { frames := 1, cells := 0, slots := 0, locals := 21 }
set_option maxRecDepth 100000 in
set_option maxHeartbeats 4000000 in
theorem c_X1_become (l : Launch) (D : gD) (cy : Nat → ClassId) (L : Nat → Nat → Nat) (G : Nat → gM) (X : Nat → Int32) (A : Nat → Nat → Int32) (b : cB) (M : gM) {g : Nat} (hg : g < 11) {g2 : Nat} (hg2 : g2 < 11) (hne : g2 ≠ g) (hN4 : (G g2).1 3 ≤ nI 4) (hN16 : (G g2).1 4 ≤ nI 16) : CtV l D cy (CW cy L) yX1_become cX1_become 3 none rm_X1_become [.ref (L g 0), .ref (L g2 0)] ((va_up G g M, X, A), b) (fun u => ∃ z : gM, z = f_X1_become M (G g2) ∧ u = ((va_up G g z, X, A), b)) 0 0 := by
  refine m_entV cX1_become 3 (by decide) (Nat.le_of_ble_eq_true rfl) (fun J h hR => ?_)
  show J ((va_up G g M, X, A), b) (0, 0) [(0, .ref (L g 0)), (1, .ref (L g2 0))] 0 []
  refine j_aload_n h dX1_become_0 rfl 0 rfl ?_
  refine j_aload_n h dX1_become_1 rfl 1 rfl ?_
  refine j_get h inlX1 (30 * g2 + 0) (oa_G hg2 hne) rfl 3 (by decide) (xr_3 23 rfl) rfl (v := .int ((G g2).1 3)) rfl dX1_become_2 ?_
  refine j_put h inlX1 tyX1 tyX1_ok nmX1 (30 * g + 0) (at_G hg) rfl 3 (by decide) (xr_3 23 rfl) rfl rfl rfl rfl (Nat.le_of_ble_eq_true rfl) dX1_become_5 (to_G hg (by decide) (by decide)) ?_
  refine j_iconst h (v := 0) dX1_become_8 (by decide) ?_
  refine j_istore_n h (lv' := [(2, _), (0, _), (1, _)]) dX1_become_9 rfl (by decide) rfl ?_
  have lp10 : ∀ (n k : Nat) (Mk : gM), n + k = 5 → k ≤ 4 → Mk.1 3 ≤ nI 4 → (∀ z : gM, z = f_X1_become_l10 (G g2) n k Mk → J ((va_up G g z, X, A), b) (0, 0) [(0, .ref (L g 0)), (1, .ref (L g2 0))] 39 []) → J ((va_up G g Mk, X, A), b) (0, 0) [(0, .ref (L g 0)), (1, .ref (L g2 0)), (2, .int (nI k))] 10 [] := by
    intro n
    induction n with
    | zero => intro k Mk hn hk hMk hf; omega
    | succ n ih =>
      intro k Mk hn hk hMk hf
      refine j_iload_n h dX1_become_10 rfl 2 rfl ?_
      refine j_aload_n h dX1_become_11 rfl 0 rfl ?_
      refine j_get h inlX1 (30 * g + 0) (at_G hg) rfl 3 (by decide) (xr_3 23 rfl) rfl (v := .int (Mk.1 3)) rfl dX1_become_12 ?_
      refine j_icmp_ge h (tgt := 39) dX1_become_15 (by decide) (fun c1 => ?_) (fun c1 => ?_)
      · refine j_sub h [0, 1] rfl ?_
        exact hf _ (Eq.symm ((ite_p c1 rfl)))
      · have hk1 : k < 4 := cnt_lt (by decide) hk hMk c1
        refine j_aload_n h dX1_become_18 rfl 0 rfl ?_
        refine j_get h inlX1 (30 * g + 0) (at_G hg) rfl 0 (by decide) (xr_2 21 rfl) rfl (v := .ref (L g 1)) rfl dX1_become_19 ?_
        refine j_iload_n h dX1_become_22 rfl 2 rfl ?_
        refine j_aaldE h (30 * g + 1) 1 (at_Ra hg) rfl k rfl (by omega) (by decide) dX1_become_23 ?_
        refine j_aload_n h dX1_become_24 rfl 1 rfl ?_
        refine j_get h inlX1 (30 * g2 + 0) (oa_G hg2 hne) rfl 0 (by decide) (xr_2 21 rfl) rfl (v := .ref (L g2 1)) rfl dX1_become_25 ?_
        refine j_iload_n h dX1_become_28 rfl 2 rfl ?_
        refine j_aaldE h (30 * g2 + 1) 1 (oa_Ra hg2 hne) rfl k rfl (by omega) (by decide) dX1_become_29 ?_
        refine j_callV h (n := 1) (c_X5_become l D cy L _ _ _ _ _ hg (by omega) hg2 hne) (xg_V (xr_6 21 rfl) (xr_6 22 rfl) (xr_6 23 rfl) (xr_2 23 rfl) (xr_7 0 rfl)) rfl rfl (by decide +kernel) ⟨Nat.le_of_ble_eq_true rfl, Nat.le_of_ble_eq_true rfl⟩ (30 * g + (4 + k)) (at_R hg (by omega)) rfl rfl rfl rfl (Nat.le_of_ble_eq_true rfl) dX1_become_30 ⟨by decide, by decide⟩ (fun u' hq => ?_)
        obtain ⟨z2, hz2, rfl⟩ := hq
        refine j_iinc h (v := nI (k + 1)) (lv' := [(2, _), (0, _), (1, _)]) dX1_become_33 (k := 2) rfl (nI_1 k) (by decide) rfl ?_
        refine j_goto h (tgt := 10) dX1_become_36 (by decide) ?_
        refine j_sub h [1, 2, 0] rfl ?_
        exact ih (k + 1) _ (by omega) (by omega) (by rw [hz2]; exact hMk) (fun z hz => hf z (hz.trans (Eq.symm ((ite_n c1 (bd_eq hz2 rfl))))))
  refine j_sub h [1, 2, 0] rfl ?_
  refine lp10 5 0 _ (by omega) (by omega) hN4 (fun z3 hz3 => ?_)
  refine j_aload_n h dX1_become_39 rfl 0 rfl ?_
  refine j_aload_n h dX1_become_40 rfl 1 rfl ?_
  refine j_get h inlX1 (30 * g2 + 0) (oa_G hg2 hne) rfl 4 (by decide) (xr_4 0 rfl) rfl (v := .int ((G g2).1 4)) rfl dX1_become_41 ?_
  refine j_put h inlX1 tyX1 tyX1_ok nmX1 (30 * g + 0) (at_G hg) rfl 4 (by decide) (xr_4 0 rfl) rfl rfl rfl rfl (Nat.le_of_ble_eq_true rfl) dX1_become_44 (to_G hg (by decide) (by decide)) ?_
  refine j_iconst h (v := 0) dX1_become_47 (by decide) ?_
  refine j_istore_n h (lv' := [(2, _), (0, _), (1, _)]) dX1_become_48 rfl (by decide) rfl ?_
  have lp49 : ∀ (n k : Nat) (Mk : gM), n + k = 17 → k ≤ 16 → Mk.1 4 ≤ nI 16 → (∀ z : gM, z = f_X1_become_l49 (G g2) n k Mk → J ((va_up G g z, X, A), b) (0, 0) [(0, .ref (L g 0)), (1, .ref (L g2 0))] 78 []) → J ((va_up G g Mk, X, A), b) (0, 0) [(0, .ref (L g 0)), (1, .ref (L g2 0)), (2, .int (nI k))] 49 [] := by
    intro n
    induction n with
    | zero => intro k Mk hn hk hMk hf; omega
    | succ n ih =>
      intro k Mk hn hk hMk hf
      refine j_iload_n h dX1_become_49 rfl 2 rfl ?_
      refine j_aload_n h dX1_become_50 rfl 0 rfl ?_
      refine j_get h inlX1 (30 * g + 0) (at_G hg) rfl 4 (by decide) (xr_4 0 rfl) rfl (v := .int (Mk.1 4)) rfl dX1_become_51 ?_
      refine j_icmp_ge h (tgt := 78) dX1_become_54 (by decide) (fun c4 => ?_) (fun c4 => ?_)
      · refine j_sub h [0, 1] rfl ?_
        exact hf _ (Eq.symm ((ite_p c4 rfl)))
      · have hk1 : k < 16 := cnt_lt (by decide) hk hMk c4
        refine j_aload_n h dX1_become_57 rfl 0 rfl ?_
        refine j_get h inlX1 (30 * g + 0) (at_G hg) rfl 1 (by decide) (xr_3 1 rfl) rfl (v := .ref (L g 2)) rfl dX1_become_58 ?_
        refine j_iload_n h dX1_become_61 rfl 2 rfl ?_
        refine j_aaldE h (30 * g + 2) 2 (at_Wa hg) rfl k rfl (by omega) (by decide) dX1_become_62 ?_
        refine j_aload_n h dX1_become_63 rfl 1 rfl ?_
        refine j_get h inlX1 (30 * g2 + 0) (oa_G hg2 hne) rfl 1 (by decide) (xr_3 1 rfl) rfl (v := .ref (L g2 2)) rfl dX1_become_64 ?_
        refine j_iload_n h dX1_become_67 rfl 2 rfl ?_
        refine j_aaldE h (30 * g2 + 2) 2 (oa_Wa hg2 hne) rfl k rfl (by omega) (by decide) dX1_become_68 ?_
        refine j_callV h (n := 1) (c_X6_become l D cy L _ _ _ _ _ hg (by omega) hg2 hne) (xg_V (xr_7 9 rfl) (xr_7 10 rfl) (xr_7 11 rfl) (xr_3 3 rfl) (xr_7 12 rfl)) rfl rfl (by decide +kernel) ⟨Nat.le_of_ble_eq_true rfl, Nat.le_of_ble_eq_true rfl⟩ (30 * g + (12 + k)) (at_W hg (by omega)) rfl rfl rfl rfl (Nat.le_of_ble_eq_true rfl) dX1_become_69 ⟨by decide, by decide⟩ (fun u' hq => ?_)
        obtain ⟨z5, hz5, rfl⟩ := hq
        refine j_iinc h (v := nI (k + 1)) (lv' := [(2, _), (0, _), (1, _)]) dX1_become_72 (k := 2) rfl (nI_1 k) (by decide) rfl ?_
        refine j_goto h (tgt := 49) dX1_become_75 (by decide) ?_
        refine j_sub h [1, 2, 0] rfl ?_
        exact ih (k + 1) _ (by omega) (by omega) (by rw [hz5]; exact hMk) (fun z hz => hf z (hz.trans (Eq.symm ((ite_n c4 (bd_eq hz5 rfl))))))
  refine j_sub h [1, 2, 0] rfl ?_
  refine lp49 17 0 _ (by omega) (by omega) hN16 (fun z6 hz6 => ?_)
  refine j_aload_n h dX1_become_78 rfl 0 rfl ?_
  refine j_get h inlX1 (30 * g + 0) (at_G hg) rfl 2 (by decide) (xr_3 5 rfl) rfl (v := .ref (L g 3)) rfl dX1_become_79 ?_
  refine j_iconst h (v := 0) dX1_become_82 (by decide) ?_
  refine j_aaldE h (30 * g + 3) 3 (at_Ca hg) rfl 0 rfl (by decide) (by decide) dX1_become_83 ?_
  refine j_aload_n h dX1_become_84 rfl 1 rfl ?_
  refine j_get h inlX1 (30 * g2 + 0) (oa_G hg2 hne) rfl 2 (by decide) (xr_3 5 rfl) rfl (v := .ref (L g2 3)) rfl dX1_become_85 ?_
  refine j_iconst h (v := 0) dX1_become_88 (by decide) ?_
  refine j_aaldE h (30 * g2 + 3) 3 (oa_Ca hg2 hne) rfl 0 rfl (by decide) (by decide) dX1_become_89 ?_
  refine j_callV h (n := 1) (c_X0_become l D cy L _ _ _ _ _ hg (by omega) hg2 hne) (xg_V (xr_7 21 rfl) (xr_7 22 rfl) (xr_7 23 rfl) (xr_3 7 rfl) (xr_8 0 rfl)) rfl rfl (by decide +kernel) ⟨Nat.le_of_ble_eq_true rfl, Nat.le_of_ble_eq_true rfl⟩ (30 * g + (28 + 0)) (at_C hg (by omega)) rfl rfl rfl rfl (Nat.le_of_ble_eq_true rfl) dX1_become_90 ⟨by decide, by decide⟩ (fun u' hq => ?_)
  obtain ⟨z7, hz7, rfl⟩ := hq
  refine j_aload_n h dX1_become_93 rfl 0 rfl ?_
  refine j_get h inlX1 (30 * g + 0) (at_G hg) rfl 2 (by decide) (xr_3 5 rfl) rfl (v := .ref (L g 3)) rfl dX1_become_94 ?_
  refine j_iconst h (v := 1) dX1_become_97 (by decide) ?_
  refine j_aaldE h (30 * g + 3) 3 (at_Ca hg) rfl 1 rfl (by decide) (by decide) dX1_become_98 ?_
  refine j_aload_n h dX1_become_99 rfl 1 rfl ?_
  refine j_get h inlX1 (30 * g2 + 0) (oa_G hg2 hne) rfl 2 (by decide) (xr_3 5 rfl) rfl (v := .ref (L g2 3)) rfl dX1_become_100 ?_
  refine j_iconst h (v := 1) dX1_become_103 (by decide) ?_
  refine j_aaldE h (30 * g2 + 3) 3 (oa_Ca hg2 hne) rfl 1 rfl (by decide) (by decide) dX1_become_104 ?_
  refine j_callV h (n := 1) (c_X0_become l D cy L _ _ _ _ _ hg (by omega) hg2 hne) (xg_V (xr_7 21 rfl) (xr_7 22 rfl) (xr_7 23 rfl) (xr_3 7 rfl) (xr_8 0 rfl)) rfl rfl (by decide +kernel) ⟨Nat.le_of_ble_eq_true rfl, Nat.le_of_ble_eq_true rfl⟩ (30 * g + (28 + 1)) (at_C hg (by omega)) rfl rfl rfl rfl (Nat.le_of_ble_eq_true rfl) dX1_become_105 ⟨by decide, by decide⟩ (fun u' hq => ?_)
  obtain ⟨z8, hz8, rfl⟩ := hq
  refine j_aload_n h dX1_become_108 rfl 0 rfl ?_
  refine j_aload_n h dX1_become_109 rfl 1 rfl ?_
  refine j_get h inlX1 (30 * g2 + 0) (oa_G hg2 hne) rfl 5 (by decide) (xr_4 1 rfl) rfl (v := .int ((G g2).1 5)) rfl dX1_become_110 ?_
  refine j_put h inlX1 tyX1 tyX1_ok nmX1 (30 * g + 0) (at_G hg) rfl 5 (by decide) (xr_4 1 rfl) rfl rfl rfl rfl (Nat.le_of_ble_eq_true rfl) dX1_become_113 (to_G hg (by decide) (by decide)) ?_
  refine j_aload_n h dX1_become_116 rfl 0 rfl ?_
  refine j_aload_n h dX1_become_117 rfl 1 rfl ?_
  refine j_get h inlX1 (30 * g2 + 0) (oa_G hg2 hne) rfl 6 (by decide) (xr_4 2 rfl) rfl (v := .int ((G g2).1 6)) rfl dX1_become_118 ?_
  refine j_put h inlX1 tyX1 tyX1_ok nmX1 (30 * g + 0) (at_G hg) rfl 6 (by decide) (xr_4 2 rfl) rfl rfl rfl rfl (Nat.le_of_ble_eq_true rfl) dX1_become_121 (to_G hg (by decide) (by decide)) ?_
  refine j_aload_n h dX1_become_124 rfl 0 rfl ?_
  refine j_aload_n h dX1_become_125 rfl 1 rfl ?_
  refine j_get h inlX1 (30 * g2 + 0) (oa_G hg2 hne) rfl 7 (by decide) (xr_4 3 rfl) rfl (v := .int ((G g2).1 7)) rfl dX1_become_126 ?_
  refine j_put h inlX1 tyX1 tyX1_ok nmX1 (30 * g + 0) (at_G hg) rfl 7 (by decide) (xr_4 3 rfl) rfl rfl rfl rfl (Nat.le_of_ble_eq_true rfl) dX1_become_129 (to_G hg (by decide) (by decide)) ?_
  refine j_aload_n h dX1_become_132 rfl 0 rfl ?_
  refine j_aload_n h dX1_become_133 rfl 1 rfl ?_
  refine j_get h inlX1 (30 * g2 + 0) (oa_G hg2 hne) rfl 8 (by decide) (xr_4 4 rfl) rfl (v := .int ((G g2).1 8)) rfl dX1_become_134 ?_
  refine j_put h inlX1 tyX1 tyX1_ok nmX1 (30 * g + 0) (at_G hg) rfl 8 (by decide) (xr_4 4 rfl) rfl rfl rfl rfl (Nat.le_of_ble_eq_true rfl) dX1_become_137 (to_G hg (by decide) (by decide)) ?_
  refine j_aload_n h dX1_become_140 rfl 0 rfl ?_
  refine j_aload_n h dX1_become_141 rfl 1 rfl ?_
  refine j_get h inlX1 (30 * g2 + 0) (oa_G hg2 hne) rfl 9 (by decide) (xr_4 5 rfl) rfl (v := .int ((G g2).1 9)) rfl dX1_become_142 ?_
  refine j_put h inlX1 tyX1 tyX1_ok nmX1 (30 * g + 0) (at_G hg) rfl 9 (by decide) (xr_4 5 rfl) rfl rfl rfl rfl (Nat.le_of_ble_eq_true rfl) dX1_become_145 (to_G hg (by decide) (by decide)) ?_
  refine j_aload_n h dX1_become_148 rfl 0 rfl ?_
  refine j_aload_n h dX1_become_149 rfl 1 rfl ?_
  refine j_get h inlX1 (30 * g2 + 0) (oa_G hg2 hne) rfl 10 (by decide) (xr_4 6 rfl) rfl (v := .int ((G g2).1 10)) rfl dX1_become_150 ?_
  refine j_put h inlX1 tyX1 tyX1_ok nmX1 (30 * g + 0) (at_G hg) rfl 10 (by decide) (xr_4 6 rfl) rfl rfl rfl rfl (Nat.le_of_ble_eq_true rfl) dX1_become_153 (to_G hg (by decide) (by decide)) ?_
  exact hR _ _ _ dX1_become_156 ⟨_, Eq.symm ((bd_eq hz3 (bd_eq hz6 (bd_eq hz7 (bd_eq hz8 rfl))))), rfl⟩

def f_X1_isRink (M : gM) (p1 : Int32) : Int32 :=
  if p1 < 0 then
    0
  else
    if (M.1 3) ≤ p1 then
      0
    else
      1
abbrev rm_X1_isRink : Room := { frames := 0, cells := 0, slots := 0, locals := 0 }
set_option maxRecDepth 100000 in
set_option maxHeartbeats 4000000 in
theorem c_X1_isRink (l : Launch) (D : gD) (cy : Nat → ClassId) (L : Nat → Nat → Nat) (G : Nat → gM) (X : Nat → Int32) (A : Nat → Nat → Int32) (b : cB) (M : gM) {g : Nat} (hg : g < 11) (p1 : Int32)  : CtI l D cy (CW cy L) yX1_isRink cX1_isRink 2 (some .boolean) rm_X1_isRink [.ref (L g 0), .int p1] ((va_up G g M, X, A), b) (fun rv u => rv = f_X1_isRink M p1 ∧ u = ((va_up G g M, X, A), b) ∧ (rv = 0 ∨ rv = 1)) 0 0 := by
  refine m_entZ cX1_isRink 2 (by decide) (Nat.le_of_ble_eq_true rfl) (fun J h hR => ?_)
  show J ((va_up G g M, X, A), b) (0, 0) [(0, .ref (L g 0)), (1, .int p1)] 0 []
  refine j_iload_n h dX1_isRink_0 rfl 1 rfl ?_
  refine j_if_lt h (tgt := 16) dX1_isRink_1 (by decide) (fun c1 => ?_) (fun c1 => ?_)
  · refine j_iconst h (v := 0) dX1_isRink_16 (by decide) ?_
    exact hR _ _ _ _ dX1_isRink_17 (Or.inl rfl) ⟨Eq.symm ((ite_p c1 rfl)), rfl, (Or.inl rfl)⟩
  · refine j_iload_n h dX1_isRink_4 rfl 1 rfl ?_
    refine j_aload_n h dX1_isRink_5 rfl 0 rfl ?_
    refine j_get h inlX1 (30 * g + 0) (at_G hg) rfl 3 (by decide) (xr_3 23 rfl) rfl (v := .int (M.1 3)) rfl dX1_isRink_6 ?_
    refine j_icmp_ge h (tgt := 16) dX1_isRink_9 (by decide) (fun c2 => ?_) (fun c2 => ?_)
    · refine j_iconst h (v := 0) dX1_isRink_16 (by decide) ?_
      exact hR _ _ _ _ dX1_isRink_17 (Or.inl rfl) ⟨Eq.symm ((ite_n c1 (ite_p c2 rfl))), rfl, (Or.inl rfl)⟩
    · refine j_iconst h (v := 1) dX1_isRink_12 (by decide) ?_
      refine j_goto h (tgt := 17) dX1_isRink_13 (by decide) ?_
      exact hR _ _ _ _ dX1_isRink_17 (Or.inr rfl) ⟨Eq.symm ((ite_n c1 (ite_n c2 rfl))), rfl, (Or.inr rfl)⟩

def f_X1_isWood (M : gM) (p1 : Int32) : Int32 :=
  if p1 < 0 then
    0
  else
    if (M.1 4) ≤ p1 then
      0
    else
      1
abbrev rm_X1_isWood : Room := { frames := 0, cells := 0, slots := 0, locals := 0 }
set_option maxRecDepth 100000 in
set_option maxHeartbeats 4000000 in
theorem c_X1_isWood (l : Launch) (D : gD) (cy : Nat → ClassId) (L : Nat → Nat → Nat) (G : Nat → gM) (X : Nat → Int32) (A : Nat → Nat → Int32) (b : cB) (M : gM) {g : Nat} (hg : g < 11) (p1 : Int32)  : CtI l D cy (CW cy L) yX1_isWood cX1_isWood 2 (some .boolean) rm_X1_isWood [.ref (L g 0), .int p1] ((va_up G g M, X, A), b) (fun rv u => rv = f_X1_isWood M p1 ∧ u = ((va_up G g M, X, A), b) ∧ (rv = 0 ∨ rv = 1)) 0 0 := by
  refine m_entZ cX1_isWood 2 (by decide) (Nat.le_of_ble_eq_true rfl) (fun J h hR => ?_)
  show J ((va_up G g M, X, A), b) (0, 0) [(0, .ref (L g 0)), (1, .int p1)] 0 []
  refine j_iload_n h dX1_isWood_0 rfl 1 rfl ?_
  refine j_if_lt h (tgt := 16) dX1_isWood_1 (by decide) (fun c1 => ?_) (fun c1 => ?_)
  · refine j_iconst h (v := 0) dX1_isWood_16 (by decide) ?_
    exact hR _ _ _ _ dX1_isWood_17 (Or.inl rfl) ⟨Eq.symm ((ite_p c1 rfl)), rfl, (Or.inl rfl)⟩
  · refine j_iload_n h dX1_isWood_4 rfl 1 rfl ?_
    refine j_aload_n h dX1_isWood_5 rfl 0 rfl ?_
    refine j_get h inlX1 (30 * g + 0) (at_G hg) rfl 4 (by decide) (xr_4 0 rfl) rfl (v := .int (M.1 4)) rfl dX1_isWood_6 ?_
    refine j_icmp_ge h (tgt := 16) dX1_isWood_9 (by decide) (fun c2 => ?_) (fun c2 => ?_)
    · refine j_iconst h (v := 0) dX1_isWood_16 (by decide) ?_
      exact hR _ _ _ _ dX1_isWood_17 (Or.inl rfl) ⟨Eq.symm ((ite_n c1 (ite_p c2 rfl))), rfl, (Or.inl rfl)⟩
    · refine j_iconst h (v := 1) dX1_isWood_12 (by decide) ?_
      refine j_goto h (tgt := 17) dX1_isWood_13 (by decide) ?_
      exact hR _ _ _ _ dX1_isWood_17 (Or.inr rfl) ⟨Eq.symm ((ite_n c1 (ite_n c2 rfl))), rfl, (Or.inr rfl)⟩

def f_X1_lowestRinkWithin_l2 (M : gM) (p1 : Int32) (p2 : Int32) : Nat → Nat → Int32
  | 0, _ => 0
  | n + 1, k =>
    if (M.1 3) ≤ (nI k) then
      (-1)
    else
      if p2 < (M.2.1 k 0) then
        f_X1_lowestRinkWithin_l2 M p1 p2 n (k + 1) 
      else
        if (M.2.1 k 1) < p1 then
          f_X1_lowestRinkWithin_l2 M p1 p2 n (k + 1) 
        else
          (nI k)
def f_X1_lowestRinkWithin (M : gM) (p1 : Int32) (p2 : Int32) : Int32 :=
  f_X1_lowestRinkWithin_l2 M p1 p2 5 0 
abbrev rm_X1_lowestRinkWithin : Room := { frames := 0, cells := 0, slots := 0, locals := 0 }
set_option maxRecDepth 100000 in
set_option maxHeartbeats 4000000 in
theorem c_X1_lowestRinkWithin (l : Launch) (D : gD) (cy : Nat → ClassId) (L : Nat → Nat → Nat) (G : Nat → gM) (X : Nat → Int32) (A : Nat → Nat → Int32) (b : cB) (M : gM) {g : Nat} (hg : g < 11) (p1 : Int32) (p2 : Int32) (hR4 : M.1 3 ≤ nI 4) : CtI l D cy (CW cy L) yX1_lowestRinkWithin cX1_lowestRinkWithin 4 (some .int) rm_X1_lowestRinkWithin [.ref (L g 0), .int p1, .int p2] ((va_up G g M, X, A), b) (fun rv u => rv = f_X1_lowestRinkWithin M p1 p2 ∧ u = ((va_up G g M, X, A), b)) 0 0 := by
  refine m_entI cX1_lowestRinkWithin 4 (by decide) (Nat.le_of_ble_eq_true rfl) (fun J h hR => ?_)
  show J ((va_up G g M, X, A), b) (0, 0) [(0, .ref (L g 0)), (1, .int p1), (2, .int p2)] 0 []
  refine j_iconst h (v := 0) dX1_lowestRinkWithin_0 (by decide) ?_
  refine j_istore_n h (lv' := [(3, _), (0, _), (1, _), (2, _)]) dX1_lowestRinkWithin_1 rfl (by decide) rfl ?_
  have lp2 : ∀ (n k : Nat) , n + k = 5 → k ≤ 4 → f_X1_lowestRinkWithin M p1 p2 = f_X1_lowestRinkWithin_l2 M p1 p2 n k  → J ((va_up G g M, X, A), b) (0, 0) [(0, .ref (L g 0)), (1, .int p1), (2, .int p2), (3, .int (nI k))] 2 [] := by
    intro n
    induction n with
    | zero => intro k  hn hk hf; omega
    | succ n ih =>
      intro k  hn hk hf
      refine j_iload_n h dX1_lowestRinkWithin_2 rfl 3 rfl ?_
      refine j_aload_n h dX1_lowestRinkWithin_3 rfl 0 rfl ?_
      refine j_get h inlX1 (30 * g + 0) (at_G hg) rfl 3 (by decide) (xr_3 23 rfl) rfl (v := .int (M.1 3)) rfl dX1_lowestRinkWithin_4 ?_
      refine j_icmp_ge h (tgt := 44) dX1_lowestRinkWithin_7 (by decide) (fun c1 => ?_) (fun c1 => ?_)
      · refine j_iconst h (v := (-1)) dX1_lowestRinkWithin_44 (by decide) ?_
        exact hR _ _ _ _ dX1_lowestRinkWithin_45 ⟨Eq.symm (hf.trans ((ite_p c1 rfl))), rfl⟩
      · have hk1 : k < 4 := cnt_lt (by decide) hk hR4 c1
        refine j_aload_n h dX1_lowestRinkWithin_10 rfl 0 rfl ?_
        refine j_get h inlX1 (30 * g + 0) (at_G hg) rfl 0 (by decide) (xr_2 21 rfl) rfl (v := .ref (L g 1)) rfl dX1_lowestRinkWithin_11 ?_
        refine j_iload_n h dX1_lowestRinkWithin_14 rfl 3 rfl ?_
        refine j_aaldE h (30 * g + 1) 1 (at_Ra hg) rfl k rfl (by omega) (by decide) dX1_lowestRinkWithin_15 ?_
        refine j_get h inlX5 (30 * g + (4 + k)) (at_R hg (by omega)) rfl 0 (by decide) (xr_29 6 rfl) rfl (v := .int (M.2.1 k 0)) rfl dX1_lowestRinkWithin_16 ?_
        refine j_iload_n h dX1_lowestRinkWithin_19 rfl 2 rfl ?_
        refine j_icmp_gt h (tgt := 38) dX1_lowestRinkWithin_20 (by decide) (fun c2 => ?_) (fun c2 => ?_)
        · refine j_iinc h (v := nI (k + 1)) (lv' := [(3, _), (0, _), (1, _), (2, _)]) dX1_lowestRinkWithin_38 (k := 3) rfl (nI_1 k) (by decide) rfl ?_
          refine j_goto h (tgt := 2) dX1_lowestRinkWithin_41 (by decide) ?_
          refine j_sub h [1, 2, 3, 0] rfl ?_
          exact ih (k + 1)  (by omega) (by omega) (hf.trans ((ite_n c1 (ite_p c2 rfl))))
        · refine j_aload_n h dX1_lowestRinkWithin_23 rfl 0 rfl ?_
          refine j_get h inlX1 (30 * g + 0) (at_G hg) rfl 0 (by decide) (xr_2 21 rfl) rfl (v := .ref (L g 1)) rfl dX1_lowestRinkWithin_24 ?_
          refine j_iload_n h dX1_lowestRinkWithin_27 rfl 3 rfl ?_
          refine j_aaldE h (30 * g + 1) 1 (at_Ra hg) rfl k rfl (by omega) (by decide) dX1_lowestRinkWithin_28 ?_
          refine j_get h inlX5 (30 * g + (4 + k)) (at_R hg (by omega)) rfl 1 (by decide) (xr_29 7 rfl) rfl (v := .int (M.2.1 k 1)) rfl dX1_lowestRinkWithin_29 ?_
          refine j_iload_n h dX1_lowestRinkWithin_32 rfl 1 rfl ?_
          refine j_icmp_lt h (tgt := 38) dX1_lowestRinkWithin_33 (by decide) (fun c3 => ?_) (fun c3 => ?_)
          · refine j_iinc h (v := nI (k + 1)) (lv' := [(3, _), (0, _), (1, _), (2, _)]) dX1_lowestRinkWithin_38 (k := 3) rfl (nI_1 k) (by decide) rfl ?_
            refine j_goto h (tgt := 2) dX1_lowestRinkWithin_41 (by decide) ?_
            refine j_sub h [1, 2, 3, 0] rfl ?_
            exact ih (k + 1)  (by omega) (by omega) (hf.trans ((ite_n c1 (ite_n c2 (ite_p c3 rfl)))))
          · refine j_iload_n h dX1_lowestRinkWithin_36 rfl 3 rfl ?_
            exact hR _ _ _ _ dX1_lowestRinkWithin_37 ⟨Eq.symm (hf.trans ((ite_n c1 (ite_n c2 (ite_n c3 rfl))))), rfl⟩
  refine j_sub h [1, 2, 3, 0] rfl ?_
  exact lp2 5 0  (by omega) (by omega) (rfl)

def f_X1_rinkInOrder_l15 (M : gM) (p1 : Int32) (k : Nat) : Nat → Nat → Int32 → Int32
  | 0, _, lower => lower
  | n + 1, j, lower =>
    if (M.1 3) ≤ (nI j) then
      lower
    else
      if (M.2.1 k 0) ≤ (M.2.1 j 0) then
        f_X1_rinkInOrder_l15 M p1 k n (j + 1) lower
      else
        f_X1_rinkInOrder_l15 M p1 k n (j + 1) (lower + 1)
def f_X1_rinkInOrder_l2 (M : gM) (p1 : Int32) : Nat → Nat → Int32
  | 0, _ => 0
  | n + 1, k =>
    if (M.1 3) ≤ (nI k) then
      (-1)
    else
      bd (f_X1_rinkInOrder_l15 M p1 k 5 0 0) fun z4 =>
      if z4 = p1 then
        (nI k)
      else
        f_X1_rinkInOrder_l2 M p1 n (k + 1) 
def f_X1_rinkInOrder (M : gM) (p1 : Int32) : Int32 :=
  f_X1_rinkInOrder_l2 M p1 5 0 
abbrev rm_X1_rinkInOrder : Room := { frames := 0, cells := 0, slots := 0, locals := 0 }
set_option maxRecDepth 100000 in
set_option maxHeartbeats 4000000 in
theorem c_X1_rinkInOrder (l : Launch) (D : gD) (cy : Nat → ClassId) (L : Nat → Nat → Nat) (G : Nat → gM) (X : Nat → Int32) (A : Nat → Nat → Int32) (b : cB) (M : gM) {g : Nat} (hg : g < 11) (p1 : Int32) (hR4 : M.1 3 ≤ nI 4) : CtI l D cy (CW cy L) yX1_rinkInOrder cX1_rinkInOrder 5 (some .int) rm_X1_rinkInOrder [.ref (L g 0), .int p1] ((va_up G g M, X, A), b) (fun rv u => rv = f_X1_rinkInOrder M p1 ∧ u = ((va_up G g M, X, A), b)) 0 0 := by
  refine m_entI cX1_rinkInOrder 5 (by decide) (Nat.le_of_ble_eq_true rfl) (fun J h hR => ?_)
  show J ((va_up G g M, X, A), b) (0, 0) [(0, .ref (L g 0)), (1, .int p1)] 0 []
  refine j_iconst h (v := 0) dX1_rinkInOrder_0 (by decide) ?_
  refine j_istore_n h (lv' := [(2, _), (0, _), (1, _)]) dX1_rinkInOrder_1 rfl (by decide) rfl ?_
  have lp2 : ∀ (n k : Nat) , n + k = 5 → k ≤ 4 → f_X1_rinkInOrder M p1 = f_X1_rinkInOrder_l2 M p1 n k  → J ((va_up G g M, X, A), b) (0, 0) [(0, .ref (L g 0)), (1, .int p1), (2, .int (nI k))] 2 [] := by
    intro n
    induction n with
    | zero => intro k  hn hk hf; omega
    | succ n ih =>
      intro k  hn hk hf
      refine j_iload_n h dX1_rinkInOrder_2 rfl 2 rfl ?_
      refine j_aload_n h dX1_rinkInOrder_3 rfl 0 rfl ?_
      refine j_get h inlX1 (30 * g + 0) (at_G hg) rfl 3 (by decide) (xr_3 23 rfl) rfl (v := .int (M.1 3)) rfl dX1_rinkInOrder_4 ?_
      refine j_icmp_ge h (tgt := 68) dX1_rinkInOrder_7 (by decide) (fun c1 => ?_) (fun c1 => ?_)
      · refine j_iconst h (v := (-1)) dX1_rinkInOrder_68 (by decide) ?_
        exact hR _ _ _ _ dX1_rinkInOrder_69 ⟨Eq.symm (hf.trans ((ite_p c1 rfl))), rfl⟩
      · have hk1 : k < 4 := cnt_lt (by decide) hk hR4 c1
        refine j_iconst h (v := 0) dX1_rinkInOrder_10 (by decide) ?_
        refine j_istore_n h (lv' := [(3, _), (0, _), (1, _), (2, _)]) dX1_rinkInOrder_11 rfl (by decide) rfl ?_
        refine j_iconst h (v := 0) dX1_rinkInOrder_12 (by decide) ?_
        refine j_istore h (lv' := [(4, _), (3, _), (0, _), (1, _), (2, _)]) dX1_rinkInOrder_13 (by decide) rfl ?_
        have lp15 : ∀ (n j : Nat) (lower : Int32), n + j = 5 → j ≤ 4 → (∀ z : Int32, z = f_X1_rinkInOrder_l15 M p1 k n j lower → J ((va_up G g M, X, A), b) (0, 0) [(0, .ref (L g 0)), (1, .int p1), (2, .int (nI k)), (3, .int z)] 55 []) → J ((va_up G g M, X, A), b) (0, 0) [(0, .ref (L g 0)), (1, .int p1), (2, .int (nI k)), (3, .int lower), (4, .int (nI j))] 15 [] := by
          intro n
          induction n with
          | zero => intro j lower hn hkj hf; omega
          | succ n ih =>
            intro j lower hn hkj hf
            refine j_iload h dX1_rinkInOrder_15 4 rfl ?_
            refine j_aload_n h dX1_rinkInOrder_17 rfl 0 rfl ?_
            refine j_get h inlX1 (30 * g + 0) (at_G hg) rfl 3 (by decide) (xr_3 23 rfl) rfl (v := .int (M.1 3)) rfl dX1_rinkInOrder_18 ?_
            refine j_icmp_ge h (tgt := 55) dX1_rinkInOrder_21 (by decide) (fun c2 => ?_) (fun c2 => ?_)
            · refine j_sub h [0, 1, 2, 3] rfl ?_
              exact hf _ (Eq.symm ((ite_p c2 rfl)))
            · have hj1 : j < 4 := cnt_lt (by decide) hkj hR4 c2
              refine j_aload_n h dX1_rinkInOrder_24 rfl 0 rfl ?_
              refine j_get h inlX1 (30 * g + 0) (at_G hg) rfl 0 (by decide) (xr_2 21 rfl) rfl (v := .ref (L g 1)) rfl dX1_rinkInOrder_25 ?_
              refine j_iload h dX1_rinkInOrder_28 4 rfl ?_
              refine j_aaldE h (30 * g + 1) 1 (at_Ra hg) rfl j rfl (by omega) (by decide) dX1_rinkInOrder_30 ?_
              refine j_get h inlX5 (30 * g + (4 + j)) (at_R hg (by omega)) rfl 0 (by decide) (xr_29 6 rfl) rfl (v := .int (M.2.1 j 0)) rfl dX1_rinkInOrder_31 ?_
              refine j_aload_n h dX1_rinkInOrder_34 rfl 0 rfl ?_
              refine j_get h inlX1 (30 * g + 0) (at_G hg) rfl 0 (by decide) (xr_2 21 rfl) rfl (v := .ref (L g 1)) rfl dX1_rinkInOrder_35 ?_
              refine j_iload_n h dX1_rinkInOrder_38 rfl 2 rfl ?_
              refine j_aaldE h (30 * g + 1) 1 (at_Ra hg) rfl k rfl (by omega) (by decide) dX1_rinkInOrder_39 ?_
              refine j_get h inlX5 (30 * g + (4 + k)) (at_R hg (by omega)) rfl 0 (by decide) (xr_29 6 rfl) rfl (v := .int (M.2.1 k 0)) rfl dX1_rinkInOrder_40 ?_
              refine j_icmp_ge h (tgt := 49) dX1_rinkInOrder_43 (by decide) (fun c3 => ?_) (fun c3 => ?_)
              · refine j_iinc h (v := nI (j + 1)) (lv' := [(4, _), (0, _), (1, _), (2, _), (3, _)]) dX1_rinkInOrder_49 (k := 4) rfl (nI_1 j) (by decide) rfl ?_
                refine j_goto h (tgt := 15) dX1_rinkInOrder_52 (by decide) ?_
                refine j_sub h [1, 2, 3, 4, 0] rfl ?_
                exact ih (j + 1) _ (by omega) (by omega) (fun z hz => hf z (hz.trans (Eq.symm ((ite_n c2 (ite_p c3 rfl))))))
              · refine j_iinc h (v := lower + 1) (lv' := [(3, _), (0, _), (1, _), (2, _), (4, _)]) dX1_rinkInOrder_46 (k := 3) rfl rfl (by decide) rfl ?_
                refine j_iinc h (v := nI (j + 1)) (lv' := [(4, _), (3, _), (0, _), (1, _), (2, _)]) dX1_rinkInOrder_49 (k := 4) rfl (nI_1 j) (by decide) rfl ?_
                refine j_goto h (tgt := 15) dX1_rinkInOrder_52 (by decide) ?_
                refine j_sub h [2, 3, 4, 1, 0] rfl ?_
                exact ih (j + 1) _ (by omega) (by omega) (fun z hz => hf z (hz.trans (Eq.symm ((ite_n c2 (ite_n c3 rfl))))))
        refine j_sub h [2, 3, 4, 1, 0] rfl ?_
        refine lp15 5 0 _ (by omega) (by omega) (fun z4 hz4 => ?_)
        refine j_iload_n h dX1_rinkInOrder_55 rfl 3 rfl ?_
        refine j_iload_n h dX1_rinkInOrder_56 rfl 1 rfl ?_
        refine j_icmp_ne h (tgt := 62) dX1_rinkInOrder_57 (by decide) (fun c5 => ?_) (fun c5 => ?_)
        · refine j_iinc h (v := nI (k + 1)) (lv' := [(2, _), (0, _), (1, _), (3, _)]) dX1_rinkInOrder_62 (k := 2) rfl (nI_1 k) (by decide) rfl ?_
          refine j_goto h (tgt := 2) dX1_rinkInOrder_65 (by decide) ?_
          refine j_sub h [1, 2, 0] rfl ?_
          exact ih (k + 1)  (by omega) (by omega) (hf.trans ((ite_n c1 (bd_eq hz4 (ite_n c5 rfl)))))
        · refine j_iload_n h dX1_rinkInOrder_60 rfl 2 rfl ?_
          exact hR _ _ _ _ dX1_rinkInOrder_61 ⟨Eq.symm (hf.trans ((ite_n c1 (bd_eq hz4 (ite_p c5 rfl))))), rfl⟩
  refine j_sub h [1, 2, 0] rfl ?_
  exact lp2 5 0  (by omega) (by omega) (rfl)

def f_X1_isTaken_l3 (M : gM) (p1 : Int32) (p2 : Int32) (p3 : Int32) (p4 : Int32) : Nat → Nat → Int32
  | 0, _ => 0
  | n + 1, k =>
    if (M.1 4) ≤ (nI k) then
      0
    else
      if (nI k) = p2 then
        f_X1_isTaken_l3 M p1 p2 p3 p4 n (k + 1) 
      else
        bd (f_X6_liesOn M k p1) fun z3 =>
        if z3 = 0 then
          f_X1_isTaken_l3 M p1 p2 p3 p4 n (k + 1) 
        else
          if (M.2.2.1 k 4) = p3 then
            if (M.2.2.1 k 5) = p4 then
              1
            else
              f_X1_isTaken_l3 M p1 p2 p3 p4 n (k + 1) 
          else
            f_X1_isTaken_l3 M p1 p2 p3 p4 n (k + 1) 
def f_X1_isTaken (M : gM) (p1 : Int32) (p2 : Int32) (p3 : Int32) (p4 : Int32) : Int32 :=
  f_X1_isTaken_l3 M p1 p2 p3 p4 17 0 
abbrev rm_X1_isTaken : Room := { frames := 1, cells := 0, slots := 0, locals := 21 }
set_option maxRecDepth 100000 in
set_option maxHeartbeats 4000000 in
theorem c_X1_isTaken (l : Launch) (D : gD) (cy : Nat → ClassId) (L : Nat → Nat → Nat) (G : Nat → gM) (X : Nat → Int32) (A : Nat → Nat → Int32) (b : cB) (M : gM) {g : Nat} (hg : g < 11) (p1 : Int32) (p2 : Int32) (p3 : Int32) (p4 : Int32) (hW16 : M.1 4 ≤ nI 16) : CtI l D cy (CW cy L) yX1_isTaken cX1_isTaken 7 (some .boolean) rm_X1_isTaken [.ref (L g 0), .int p1, .int p2, .int p3, .int p4] ((va_up G g M, X, A), b) (fun rv u => rv = f_X1_isTaken M p1 p2 p3 p4 ∧ u = ((va_up G g M, X, A), b) ∧ (rv = 0 ∨ rv = 1)) 0 0 := by
  refine m_entZ cX1_isTaken 7 (by decide) (Nat.le_of_ble_eq_true rfl) (fun J h hR => ?_)
  show J ((va_up G g M, X, A), b) (0, 0) [(0, .ref (L g 0)), (1, .int p1), (2, .int p2), (3, .int p3), (4, .int p4)] 0 []
  refine j_iconst h (v := 0) dX1_isTaken_0 (by decide) ?_
  refine j_istore h (lv' := [(5, _), (0, _), (1, _), (2, _), (3, _), (4, _)]) dX1_isTaken_1 (by decide) rfl ?_
  have lp3 : ∀ (n k : Nat) , n + k = 17 → k ≤ 16 → f_X1_isTaken M p1 p2 p3 p4 = f_X1_isTaken_l3 M p1 p2 p3 p4 n k  → J ((va_up G g M, X, A), b) (0, 0) [(0, .ref (L g 0)), (1, .int p1), (2, .int p2), (3, .int p3), (4, .int p4), (5, .int (nI k))] 3 [] := by
    intro n
    induction n with
    | zero => intro k  hn hk hf; omega
    | succ n ih =>
      intro k  hn hk hf
      refine j_iload h dX1_isTaken_3 5 rfl ?_
      refine j_aload_n h dX1_isTaken_5 rfl 0 rfl ?_
      refine j_get h inlX1 (30 * g + 0) (at_G hg) rfl 4 (by decide) (xr_4 0 rfl) rfl (v := .int (M.1 4)) rfl dX1_isTaken_6 ?_
      refine j_icmp_ge h (tgt := 63) dX1_isTaken_9 (by decide) (fun c1 => ?_) (fun c1 => ?_)
      · refine j_iconst h (v := 0) dX1_isTaken_63 (by decide) ?_
        exact hR _ _ _ _ dX1_isTaken_64 (Or.inl rfl) ⟨Eq.symm (hf.trans ((ite_p c1 rfl))), rfl, (Or.inl rfl)⟩
      · have hk1 : k < 16 := cnt_lt (by decide) hk hW16 c1
        refine j_aload_n h dX1_isTaken_12 rfl 0 rfl ?_
        refine j_get h inlX1 (30 * g + 0) (at_G hg) rfl 1 (by decide) (xr_3 1 rfl) rfl (v := .ref (L g 2)) rfl dX1_isTaken_13 ?_
        refine j_iload h dX1_isTaken_16 5 rfl ?_
        refine j_aaldE h (30 * g + 2) 2 (at_Wa hg) rfl k rfl (by omega) (by decide) dX1_isTaken_18 ?_
        refine j_astore h (lv' := [(6, _), (0, _), (1, _), (2, _), (3, _), (4, _), (5, _)]) dX1_isTaken_19 (by decide) rfl ?_
        refine j_iload h dX1_isTaken_21 6 rfl ?_
        refine j_iload_n h dX1_isTaken_23 rfl 3 rfl ?_
        refine j_icmp_eq h (tgt := 57) dX1_isTaken_24 (by decide) (fun c2 => ?_) (fun c2 => ?_)
        · refine j_iinc h (v := nI (k + 1)) (lv' := [(5, _), (6, _), (0, _), (1, _), (2, _), (3, _), (4, _)]) dX1_isTaken_57 (k := 6) rfl (nI_1 k) (by decide) rfl ?_
          refine j_goto h (tgt := 3) dX1_isTaken_60 (by decide) ?_
          refine j_sub h [2, 3, 4, 5, 6, 0] rfl ?_
          exact ih (k + 1)  (by omega) (by omega) (hf.trans ((ite_n c1 (ite_p c2 rfl))))
        · refine j_aload h dX1_isTaken_27 0 rfl ?_
          refine j_iload_n h dX1_isTaken_29 rfl 2 rfl ?_
          refine j_callI h (n := 1) (c_X6_liesOn l D cy L _ _ _ _ _ hg (by omega) _) (xg_V (xr_24 4 rfl) (xr_24 5 rfl) (xr_24 6 rfl) (xr_3 3 rfl) (xr_24 7 rfl)) rfl rfl (by decide +kernel) ⟨Nat.le_of_ble_eq_true rfl, Nat.le_of_ble_eq_true rfl⟩ (30 * g + (12 + k)) (at_W hg (by omega)) rfl rfl rfl rfl (Nat.le_of_ble_eq_true rfl) dX1_isTaken_30 ⟨by decide, by decide⟩ (fun z3 u' hq => ?_)
          obtain ⟨hz3, rfl, bz3⟩ := hq
          refine j_if_eq h (tgt := 57) dX1_isTaken_33 (by decide) (fun c4 => ?_) (fun c4 => ?_)
          · refine j_iinc h (v := nI (k + 1)) (lv' := [(5, _), (6, _), (0, _), (1, _), (2, _), (3, _), (4, _)]) dX1_isTaken_57 (k := 6) rfl (nI_1 k) (by decide) rfl ?_
            refine j_goto h (tgt := 3) dX1_isTaken_60 (by decide) ?_
            refine j_sub h [2, 3, 4, 5, 6, 0] rfl ?_
            exact ih (k + 1)  (by omega) (by omega) (hf.trans ((ite_n c1 (ite_n c2 (bd_eq hz3 (ite_p c4 rfl))))))
          · refine j_aload h dX1_isTaken_36 0 rfl ?_
            refine j_get h inlX6 (30 * g + (12 + k)) (at_W hg (by omega)) rfl 4 (by decide) (xr_24 2 rfl) rfl (v := .int (M.2.2.1 k 4)) rfl dX1_isTaken_38 ?_
            refine j_iload_n h dX1_isTaken_41 rfl 4 rfl ?_
            refine j_icmp_ne h (tgt := 57) dX1_isTaken_42 (by decide) (fun c5 => ?_) (fun c5 => ?_)
            · refine j_iinc h (v := nI (k + 1)) (lv' := [(5, _), (6, _), (0, _), (1, _), (2, _), (3, _), (4, _)]) dX1_isTaken_57 (k := 6) rfl (nI_1 k) (by decide) rfl ?_
              refine j_goto h (tgt := 3) dX1_isTaken_60 (by decide) ?_
              refine j_sub h [2, 3, 4, 5, 6, 0] rfl ?_
              exact ih (k + 1)  (by omega) (by omega) (hf.trans ((ite_n c1 (ite_n c2 (bd_eq hz3 (ite_n c4 (ite_n c5 rfl)))))))
            · refine j_aload h dX1_isTaken_45 0 rfl ?_
              refine j_get h inlX6 (30 * g + (12 + k)) (at_W hg (by omega)) rfl 5 (by decide) (xr_24 3 rfl) rfl (v := .int (M.2.2.1 k 5)) rfl dX1_isTaken_47 ?_
              refine j_iload h dX1_isTaken_50 5 rfl ?_
              refine j_icmp_ne h (tgt := 57) dX1_isTaken_52 (by decide) (fun c6 => ?_) (fun c6 => ?_)
              · refine j_iinc h (v := nI (k + 1)) (lv' := [(5, _), (6, _), (0, _), (1, _), (2, _), (3, _), (4, _)]) dX1_isTaken_57 (k := 6) rfl (nI_1 k) (by decide) rfl ?_
                refine j_goto h (tgt := 3) dX1_isTaken_60 (by decide) ?_
                refine j_sub h [2, 3, 4, 5, 6, 0] rfl ?_
                exact ih (k + 1)  (by omega) (by omega) (hf.trans ((ite_n c1 (ite_n c2 (bd_eq hz3 (ite_n c4 (ite_p c5 (ite_n c6 rfl))))))))
              · refine j_iconst h (v := 1) dX1_isTaken_55 (by decide) ?_
                exact hR _ _ _ _ dX1_isTaken_56 (Or.inr rfl) ⟨Eq.symm (hf.trans ((ite_n c1 (ite_n c2 (bd_eq hz3 (ite_n c4 (ite_p c5 (ite_p c6 rfl)))))))), rfl, (Or.inr rfl)⟩
  refine j_sub h [1, 2, 3, 4, 5, 0] rfl ?_
  exact lp3 17 0  (by omega) (by omega) (rfl)

def f_X1_woodsOfClub_l4 (M : gM) (p1 : Int32) : Nat → Nat → Int32 → Int32
  | 0, _, n0 => n0
  | n + 1, k, n0 =>
    if (M.1 4) ≤ (nI k) then
      n0
    else
      if (M.2.2.1 k 0) = p1 then
        f_X1_woodsOfClub_l4 M p1 n (k + 1) (n0 + 1)
      else
        f_X1_woodsOfClub_l4 M p1 n (k + 1) n0
def f_X1_woodsOfClub (M : gM) (p1 : Int32) : Int32 :=
  bd (f_X1_woodsOfClub_l4 M p1 17 0 0) fun z3 =>
  z3
abbrev rm_X1_woodsOfClub : Room := { frames := 0, cells := 0, slots := 0, locals := 0 }
set_option maxRecDepth 100000 in
set_option maxHeartbeats 4000000 in
theorem c_X1_woodsOfClub (l : Launch) (D : gD) (cy : Nat → ClassId) (L : Nat → Nat → Nat) (G : Nat → gM) (X : Nat → Int32) (A : Nat → Nat → Int32) (b : cB) (M : gM) {g : Nat} (hg : g < 11) (p1 : Int32) (hW16 : M.1 4 ≤ nI 16) : CtI l D cy (CW cy L) yX1_woodsOfClub cX1_woodsOfClub 4 (some .int) rm_X1_woodsOfClub [.ref (L g 0), .int p1] ((va_up G g M, X, A), b) (fun rv u => rv = f_X1_woodsOfClub M p1 ∧ u = ((va_up G g M, X, A), b)) 0 0 := by
  refine m_entI cX1_woodsOfClub 4 (by decide) (Nat.le_of_ble_eq_true rfl) (fun J h hR => ?_)
  show J ((va_up G g M, X, A), b) (0, 0) [(0, .ref (L g 0)), (1, .int p1)] 0 []
  refine j_iconst h (v := 0) dX1_woodsOfClub_0 (by decide) ?_
  refine j_istore_n h (lv' := [(2, _), (0, _), (1, _)]) dX1_woodsOfClub_1 rfl (by decide) rfl ?_
  refine j_iconst h (v := 0) dX1_woodsOfClub_2 (by decide) ?_
  refine j_istore_n h (lv' := [(3, _), (2, _), (0, _), (1, _)]) dX1_woodsOfClub_3 rfl (by decide) rfl ?_
  have lp4 : ∀ (n k : Nat) (n0 : Int32), n + k = 17 → k ≤ 16 → (∀ z : Int32, z = f_X1_woodsOfClub_l4 M p1 n k n0 → J ((va_up G g M, X, A), b) (0, 0) [(0, .ref (L g 0)), (1, .int p1), (2, .int z)] 34 []) → J ((va_up G g M, X, A), b) (0, 0) [(0, .ref (L g 0)), (1, .int p1), (2, .int n0), (3, .int (nI k))] 4 [] := by
    intro n
    induction n with
    | zero => intro k n0 hn hk hf; omega
    | succ n ih =>
      intro k n0 hn hk hf
      refine j_iload_n h dX1_woodsOfClub_4 rfl 3 rfl ?_
      refine j_aload_n h dX1_woodsOfClub_5 rfl 0 rfl ?_
      refine j_get h inlX1 (30 * g + 0) (at_G hg) rfl 4 (by decide) (xr_4 0 rfl) rfl (v := .int (M.1 4)) rfl dX1_woodsOfClub_6 ?_
      refine j_icmp_ge h (tgt := 34) dX1_woodsOfClub_9 (by decide) (fun c1 => ?_) (fun c1 => ?_)
      · refine j_sub h [0, 1, 2] rfl ?_
        exact hf _ (Eq.symm ((ite_p c1 rfl)))
      · have hk1 : k < 16 := cnt_lt (by decide) hk hW16 c1
        refine j_aload_n h dX1_woodsOfClub_12 rfl 0 rfl ?_
        refine j_get h inlX1 (30 * g + 0) (at_G hg) rfl 1 (by decide) (xr_3 1 rfl) rfl (v := .ref (L g 2)) rfl dX1_woodsOfClub_13 ?_
        refine j_iload_n h dX1_woodsOfClub_16 rfl 3 rfl ?_
        refine j_aaldE h (30 * g + 2) 2 (at_Wa hg) rfl k rfl (by omega) (by decide) dX1_woodsOfClub_17 ?_
        refine j_get h inlX6 (30 * g + (12 + k)) (at_W hg (by omega)) rfl 0 (by decide) (xr_12 4 rfl) rfl (v := .int (M.2.2.1 k 0)) rfl dX1_woodsOfClub_18 ?_
        refine j_iload_n h dX1_woodsOfClub_21 rfl 1 rfl ?_
        refine j_icmp_ne h (tgt := 28) dX1_woodsOfClub_22 (by decide) (fun c2 => ?_) (fun c2 => ?_)
        · refine j_iinc h (v := nI (k + 1)) (lv' := [(3, _), (0, _), (1, _), (2, _)]) dX1_woodsOfClub_28 (k := 3) rfl (nI_1 k) (by decide) rfl ?_
          refine j_goto h (tgt := 4) dX1_woodsOfClub_31 (by decide) ?_
          refine j_sub h [1, 2, 3, 0] rfl ?_
          exact ih (k + 1) _ (by omega) (by omega) (fun z hz => hf z (hz.trans (Eq.symm ((ite_n c1 (ite_n c2 rfl))))))
        · refine j_iinc h (v := n0 + 1) (lv' := [(2, _), (0, _), (1, _), (3, _)]) dX1_woodsOfClub_25 (k := 2) rfl rfl (by decide) rfl ?_
          refine j_iinc h (v := nI (k + 1)) (lv' := [(3, _), (2, _), (0, _), (1, _)]) dX1_woodsOfClub_28 (k := 3) rfl (nI_1 k) (by decide) rfl ?_
          refine j_goto h (tgt := 4) dX1_woodsOfClub_31 (by decide) ?_
          refine j_sub h [2, 3, 1, 0] rfl ?_
          exact ih (k + 1) _ (by omega) (by omega) (fun z hz => hf z (hz.trans (Eq.symm ((ite_n c1 (ite_p c2 rfl))))))
  refine j_sub h [2, 3, 1, 0] rfl ?_
  refine lp4 17 0 _ (by omega) (by omega) (fun z3 hz3 => ?_)
  refine j_iload_n h dX1_woodsOfClub_34 rfl 2 rfl ?_
  exact hR _ _ _ _ dX1_woodsOfClub_35 ⟨Eq.symm ((bd_eq hz3 rfl)), rfl⟩

def f_X1_woodsOfClubInShed_l4 (M : gM) (p1 : Int32) : Nat → Nat → Int32 → Int32
  | 0, _, n0 => n0
  | n + 1, k, n0 =>
    if (M.1 4) ≤ (nI k) then
      n0
    else
      if (M.2.2.1 k 0) = p1 then
        if (M.2.2.1 k 2) = 0 then
          f_X1_woodsOfClubInShed_l4 M p1 n (k + 1) (n0 + 1)
        else
          f_X1_woodsOfClubInShed_l4 M p1 n (k + 1) n0
      else
        f_X1_woodsOfClubInShed_l4 M p1 n (k + 1) n0
def f_X1_woodsOfClubInShed (M : gM) (p1 : Int32) : Int32 :=
  bd (f_X1_woodsOfClubInShed_l4 M p1 17 0 0) fun z4 =>
  z4
abbrev rm_X1_woodsOfClubInShed : Room := { frames := 0, cells := 0, slots := 0, locals := 0 }
set_option maxRecDepth 100000 in
set_option maxHeartbeats 4000000 in
theorem c_X1_woodsOfClubInShed (l : Launch) (D : gD) (cy : Nat → ClassId) (L : Nat → Nat → Nat) (G : Nat → gM) (X : Nat → Int32) (A : Nat → Nat → Int32) (b : cB) (M : gM) {g : Nat} (hg : g < 11) (p1 : Int32) (hW16 : M.1 4 ≤ nI 16) : CtI l D cy (CW cy L) yX1_woodsOfClubInShed cX1_woodsOfClubInShed 4 (some .int) rm_X1_woodsOfClubInShed [.ref (L g 0), .int p1] ((va_up G g M, X, A), b) (fun rv u => rv = f_X1_woodsOfClubInShed M p1 ∧ u = ((va_up G g M, X, A), b)) 0 0 := by
  refine m_entI cX1_woodsOfClubInShed 4 (by decide) (Nat.le_of_ble_eq_true rfl) (fun J h hR => ?_)
  show J ((va_up G g M, X, A), b) (0, 0) [(0, .ref (L g 0)), (1, .int p1)] 0 []
  refine j_iconst h (v := 0) dX1_woodsOfClubInShed_0 (by decide) ?_
  refine j_istore_n h (lv' := [(2, _), (0, _), (1, _)]) dX1_woodsOfClubInShed_1 rfl (by decide) rfl ?_
  refine j_iconst h (v := 0) dX1_woodsOfClubInShed_2 (by decide) ?_
  refine j_istore_n h (lv' := [(3, _), (2, _), (0, _), (1, _)]) dX1_woodsOfClubInShed_3 rfl (by decide) rfl ?_
  have lp4 : ∀ (n k : Nat) (n0 : Int32), n + k = 17 → k ≤ 16 → (∀ z : Int32, z = f_X1_woodsOfClubInShed_l4 M p1 n k n0 → J ((va_up G g M, X, A), b) (0, 0) [(0, .ref (L g 0)), (1, .int p1), (2, .int z)] 46 []) → J ((va_up G g M, X, A), b) (0, 0) [(0, .ref (L g 0)), (1, .int p1), (2, .int n0), (3, .int (nI k))] 4 [] := by
    intro n
    induction n with
    | zero => intro k n0 hn hk hf; omega
    | succ n ih =>
      intro k n0 hn hk hf
      refine j_iload_n h dX1_woodsOfClubInShed_4 rfl 3 rfl ?_
      refine j_aload_n h dX1_woodsOfClubInShed_5 rfl 0 rfl ?_
      refine j_get h inlX1 (30 * g + 0) (at_G hg) rfl 4 (by decide) (xr_4 0 rfl) rfl (v := .int (M.1 4)) rfl dX1_woodsOfClubInShed_6 ?_
      refine j_icmp_ge h (tgt := 46) dX1_woodsOfClubInShed_9 (by decide) (fun c1 => ?_) (fun c1 => ?_)
      · refine j_sub h [0, 1, 2] rfl ?_
        exact hf _ (Eq.symm ((ite_p c1 rfl)))
      · have hk1 : k < 16 := cnt_lt (by decide) hk hW16 c1
        refine j_aload_n h dX1_woodsOfClubInShed_12 rfl 0 rfl ?_
        refine j_get h inlX1 (30 * g + 0) (at_G hg) rfl 1 (by decide) (xr_3 1 rfl) rfl (v := .ref (L g 2)) rfl dX1_woodsOfClubInShed_13 ?_
        refine j_iload_n h dX1_woodsOfClubInShed_16 rfl 3 rfl ?_
        refine j_aaldE h (30 * g + 2) 2 (at_Wa hg) rfl k rfl (by omega) (by decide) dX1_woodsOfClubInShed_17 ?_
        refine j_get h inlX6 (30 * g + (12 + k)) (at_W hg (by omega)) rfl 0 (by decide) (xr_12 4 rfl) rfl (v := .int (M.2.2.1 k 0)) rfl dX1_woodsOfClubInShed_18 ?_
        refine j_iload_n h dX1_woodsOfClubInShed_21 rfl 1 rfl ?_
        refine j_icmp_ne h (tgt := 40) dX1_woodsOfClubInShed_22 (by decide) (fun c2 => ?_) (fun c2 => ?_)
        · refine j_iinc h (v := nI (k + 1)) (lv' := [(3, _), (0, _), (1, _), (2, _)]) dX1_woodsOfClubInShed_40 (k := 3) rfl (nI_1 k) (by decide) rfl ?_
          refine j_goto h (tgt := 4) dX1_woodsOfClubInShed_43 (by decide) ?_
          refine j_sub h [1, 2, 3, 0] rfl ?_
          exact ih (k + 1) _ (by omega) (by omega) (fun z hz => hf z (hz.trans (Eq.symm ((ite_n c1 (ite_n c2 rfl))))))
        · refine j_aload_n h dX1_woodsOfClubInShed_25 rfl 0 rfl ?_
          refine j_get h inlX1 (30 * g + 0) (at_G hg) rfl 1 (by decide) (xr_3 1 rfl) rfl (v := .ref (L g 2)) rfl dX1_woodsOfClubInShed_26 ?_
          refine j_iload_n h dX1_woodsOfClubInShed_29 rfl 3 rfl ?_
          refine j_aaldE h (30 * g + 2) 2 (at_Wa hg) rfl k rfl (by omega) (by decide) dX1_woodsOfClubInShed_30 ?_
          refine j_get h inlX6 (30 * g + (12 + k)) (at_W hg (by omega)) rfl 2 (by decide) (xr_12 5 rfl) rfl (v := .int (M.2.2.1 k 2)) rfl dX1_woodsOfClubInShed_31 ?_
          refine j_if_ne h (tgt := 40) dX1_woodsOfClubInShed_34 (by decide) (fun c3 => ?_) (fun c3 => ?_)
          · refine j_iinc h (v := nI (k + 1)) (lv' := [(3, _), (0, _), (1, _), (2, _)]) dX1_woodsOfClubInShed_40 (k := 3) rfl (nI_1 k) (by decide) rfl ?_
            refine j_goto h (tgt := 4) dX1_woodsOfClubInShed_43 (by decide) ?_
            refine j_sub h [1, 2, 3, 0] rfl ?_
            exact ih (k + 1) _ (by omega) (by omega) (fun z hz => hf z (hz.trans (Eq.symm ((ite_n c1 (ite_p c2 (ite_n c3 rfl)))))))
          · refine j_iinc h (v := n0 + 1) (lv' := [(2, _), (0, _), (1, _), (3, _)]) dX1_woodsOfClubInShed_37 (k := 2) rfl rfl (by decide) rfl ?_
            refine j_iinc h (v := nI (k + 1)) (lv' := [(3, _), (2, _), (0, _), (1, _)]) dX1_woodsOfClubInShed_40 (k := 3) rfl (nI_1 k) (by decide) rfl ?_
            refine j_goto h (tgt := 4) dX1_woodsOfClubInShed_43 (by decide) ?_
            refine j_sub h [2, 3, 1, 0] rfl ?_
            exact ih (k + 1) _ (by omega) (by omega) (fun z hz => hf z (hz.trans (Eq.symm ((ite_n c1 (ite_p c2 (ite_p c3 rfl)))))))
  refine j_sub h [2, 3, 1, 0] rfl ?_
  refine lp4 17 0 _ (by omega) (by omega) (fun z4 hz4 => ?_)
  refine j_iload_n h dX1_woodsOfClubInShed_46 rfl 2 rfl ?_
  exact hR _ _ _ _ dX1_woodsOfClubInShed_47 ⟨Eq.symm ((bd_eq hz4 rfl)), rfl⟩

def f_X1_woodsOn_l5 (M : gM) (p1 : Int32) (p2 : Int32) : Nat → Nat → Int32 → Int32
  | 0, _, n0 => n0
  | n + 1, k, n0 =>
    if (M.1 4) ≤ (nI k) then
      n0
    else
      if (M.2.2.1 k 2) = p2 then
        if (M.2.2.1 k 3) = p1 then
          f_X1_woodsOn_l5 M p1 p2 n (k + 1) (n0 + 1)
        else
          f_X1_woodsOn_l5 M p1 p2 n (k + 1) n0
      else
        f_X1_woodsOn_l5 M p1 p2 n (k + 1) n0
def f_X1_woodsOn (M : gM) (p1 : Int32) (p2 : Int32) : Int32 :=
  bd (f_X1_woodsOn_l5 M p1 p2 17 0 0) fun z4 =>
  z4
abbrev rm_X1_woodsOn : Room := { frames := 0, cells := 0, slots := 0, locals := 0 }
set_option maxRecDepth 100000 in
set_option maxHeartbeats 4000000 in
theorem c_X1_woodsOn (l : Launch) (D : gD) (cy : Nat → ClassId) (L : Nat → Nat → Nat) (G : Nat → gM) (X : Nat → Int32) (A : Nat → Nat → Int32) (b : cB) (M : gM) {g : Nat} (hg : g < 11) (p1 : Int32) (p2 : Int32) (hW16 : M.1 4 ≤ nI 16) : CtI l D cy (CW cy L) yX1_woodsOn cX1_woodsOn 5 (some .int) rm_X1_woodsOn [.ref (L g 0), .int p1, .int p2] ((va_up G g M, X, A), b) (fun rv u => rv = f_X1_woodsOn M p1 p2 ∧ u = ((va_up G g M, X, A), b)) 0 0 := by
  refine m_entI cX1_woodsOn 5 (by decide) (Nat.le_of_ble_eq_true rfl) (fun J h hR => ?_)
  show J ((va_up G g M, X, A), b) (0, 0) [(0, .ref (L g 0)), (1, .int p1), (2, .int p2)] 0 []
  refine j_iconst h (v := 0) dX1_woodsOn_0 (by decide) ?_
  refine j_istore_n h (lv' := [(3, _), (0, _), (1, _), (2, _)]) dX1_woodsOn_1 rfl (by decide) rfl ?_
  refine j_iconst h (v := 0) dX1_woodsOn_2 (by decide) ?_
  refine j_istore h (lv' := [(4, _), (3, _), (0, _), (1, _), (2, _)]) dX1_woodsOn_3 (by decide) rfl ?_
  have lp5 : ∀ (n k : Nat) (n0 : Int32), n + k = 17 → k ≤ 16 → (∀ z : Int32, z = f_X1_woodsOn_l5 M p1 p2 n k n0 → J ((va_up G g M, X, A), b) (0, 0) [(0, .ref (L g 0)), (1, .int p1), (2, .int p2), (3, .int z)] 51 []) → J ((va_up G g M, X, A), b) (0, 0) [(0, .ref (L g 0)), (1, .int p1), (2, .int p2), (3, .int n0), (4, .int (nI k))] 5 [] := by
    intro n
    induction n with
    | zero => intro k n0 hn hk hf; omega
    | succ n ih =>
      intro k n0 hn hk hf
      refine j_iload h dX1_woodsOn_5 4 rfl ?_
      refine j_aload_n h dX1_woodsOn_7 rfl 0 rfl ?_
      refine j_get h inlX1 (30 * g + 0) (at_G hg) rfl 4 (by decide) (xr_4 0 rfl) rfl (v := .int (M.1 4)) rfl dX1_woodsOn_8 ?_
      refine j_icmp_ge h (tgt := 51) dX1_woodsOn_11 (by decide) (fun c1 => ?_) (fun c1 => ?_)
      · refine j_sub h [0, 1, 2, 3] rfl ?_
        exact hf _ (Eq.symm ((ite_p c1 rfl)))
      · have hk1 : k < 16 := cnt_lt (by decide) hk hW16 c1
        refine j_aload_n h dX1_woodsOn_14 rfl 0 rfl ?_
        refine j_get h inlX1 (30 * g + 0) (at_G hg) rfl 1 (by decide) (xr_3 1 rfl) rfl (v := .ref (L g 2)) rfl dX1_woodsOn_15 ?_
        refine j_iload h dX1_woodsOn_18 4 rfl ?_
        refine j_aaldE h (30 * g + 2) 2 (at_Wa hg) rfl k rfl (by omega) (by decide) dX1_woodsOn_20 ?_
        refine j_get h inlX6 (30 * g + (12 + k)) (at_W hg (by omega)) rfl 2 (by decide) (xr_12 5 rfl) rfl (v := .int (M.2.2.1 k 2)) rfl dX1_woodsOn_21 ?_
        refine j_iload_n h dX1_woodsOn_24 rfl 2 rfl ?_
        refine j_icmp_ne h (tgt := 45) dX1_woodsOn_25 (by decide) (fun c2 => ?_) (fun c2 => ?_)
        · refine j_iinc h (v := nI (k + 1)) (lv' := [(4, _), (0, _), (1, _), (2, _), (3, _)]) dX1_woodsOn_45 (k := 4) rfl (nI_1 k) (by decide) rfl ?_
          refine j_goto h (tgt := 5) dX1_woodsOn_48 (by decide) ?_
          refine j_sub h [1, 2, 3, 4, 0] rfl ?_
          exact ih (k + 1) _ (by omega) (by omega) (fun z hz => hf z (hz.trans (Eq.symm ((ite_n c1 (ite_n c2 rfl))))))
        · refine j_aload_n h dX1_woodsOn_28 rfl 0 rfl ?_
          refine j_get h inlX1 (30 * g + 0) (at_G hg) rfl 1 (by decide) (xr_3 1 rfl) rfl (v := .ref (L g 2)) rfl dX1_woodsOn_29 ?_
          refine j_iload h dX1_woodsOn_32 4 rfl ?_
          refine j_aaldE h (30 * g + 2) 2 (at_Wa hg) rfl k rfl (by omega) (by decide) dX1_woodsOn_34 ?_
          refine j_get h inlX6 (30 * g + (12 + k)) (at_W hg (by omega)) rfl 3 (by decide) (xr_25 21 rfl) rfl (v := .int (M.2.2.1 k 3)) rfl dX1_woodsOn_35 ?_
          refine j_iload_n h dX1_woodsOn_38 rfl 1 rfl ?_
          refine j_icmp_ne h (tgt := 45) dX1_woodsOn_39 (by decide) (fun c3 => ?_) (fun c3 => ?_)
          · refine j_iinc h (v := nI (k + 1)) (lv' := [(4, _), (0, _), (1, _), (2, _), (3, _)]) dX1_woodsOn_45 (k := 4) rfl (nI_1 k) (by decide) rfl ?_
            refine j_goto h (tgt := 5) dX1_woodsOn_48 (by decide) ?_
            refine j_sub h [1, 2, 3, 4, 0] rfl ?_
            exact ih (k + 1) _ (by omega) (by omega) (fun z hz => hf z (hz.trans (Eq.symm ((ite_n c1 (ite_p c2 (ite_n c3 rfl)))))))
          · refine j_iinc h (v := n0 + 1) (lv' := [(3, _), (0, _), (1, _), (2, _), (4, _)]) dX1_woodsOn_42 (k := 3) rfl rfl (by decide) rfl ?_
            refine j_iinc h (v := nI (k + 1)) (lv' := [(4, _), (3, _), (0, _), (1, _), (2, _)]) dX1_woodsOn_45 (k := 4) rfl (nI_1 k) (by decide) rfl ?_
            refine j_goto h (tgt := 5) dX1_woodsOn_48 (by decide) ?_
            refine j_sub h [2, 3, 4, 1, 0] rfl ?_
            exact ih (k + 1) _ (by omega) (by omega) (fun z hz => hf z (hz.trans (Eq.symm ((ite_n c1 (ite_p c2 (ite_p c3 rfl)))))))
  refine j_sub h [2, 3, 4, 1, 0] rfl ?_
  refine lp5 17 0 _ (by omega) (by omega) (fun z4 hz4 => ?_)
  refine j_iload_n h dX1_woodsOn_51 rfl 3 rfl ?_
  exact hR _ _ _ _ dX1_woodsOn_52 ⟨Eq.symm ((bd_eq hz4 rfl)), rfl⟩

def f_X1_woodsBowled_l4 (M : gM) : Nat → Nat → Int32 → Int32
  | 0, _, n0 => n0
  | n + 1, k, n0 =>
    if (M.1 4) ≤ (nI k) then
      n0
    else
      f_X1_woodsBowled_l4 M n (k + 1) (n0 + (M.2.2.1 k 7))
def f_X1_woodsBowled (M : gM) : Int32 :=
  bd (f_X1_woodsBowled_l4 M 17 0 0) fun z2 =>
  z2
abbrev rm_X1_woodsBowled : Room := { frames := 0, cells := 0, slots := 0, locals := 0 }
set_option maxRecDepth 100000 in
set_option maxHeartbeats 4000000 in
theorem c_X1_woodsBowled (l : Launch) (D : gD) (cy : Nat → ClassId) (L : Nat → Nat → Nat) (G : Nat → gM) (X : Nat → Int32) (A : Nat → Nat → Int32) (b : cB) (M : gM) {g : Nat} (hg : g < 11) (hW16 : M.1 4 ≤ nI 16) : CtI l D cy (CW cy L) yX1_woodsBowled cX1_woodsBowled 3 (some .int) rm_X1_woodsBowled [.ref (L g 0)] ((va_up G g M, X, A), b) (fun rv u => rv = f_X1_woodsBowled M ∧ u = ((va_up G g M, X, A), b)) 0 0 := by
  refine m_entI cX1_woodsBowled 3 (by decide) (Nat.le_of_ble_eq_true rfl) (fun J h hR => ?_)
  show J ((va_up G g M, X, A), b) (0, 0) [(0, .ref (L g 0))] 0 []
  refine j_iconst h (v := 0) dX1_woodsBowled_0 (by decide) ?_
  refine j_istore_n h (lv' := [(1, _), (0, _)]) dX1_woodsBowled_1 rfl (by decide) rfl ?_
  refine j_iconst h (v := 0) dX1_woodsBowled_2 (by decide) ?_
  refine j_istore_n h (lv' := [(2, _), (1, _), (0, _)]) dX1_woodsBowled_3 rfl (by decide) rfl ?_
  have lp4 : ∀ (n k : Nat) (n0 : Int32), n + k = 17 → k ≤ 16 → (∀ z : Int32, z = f_X1_woodsBowled_l4 M n k n0 → J ((va_up G g M, X, A), b) (0, 0) [(0, .ref (L g 0)), (1, .int z)] 30 []) → J ((va_up G g M, X, A), b) (0, 0) [(0, .ref (L g 0)), (1, .int n0), (2, .int (nI k))] 4 [] := by
    intro n
    induction n with
    | zero => intro k n0 hn hk hf; omega
    | succ n ih =>
      intro k n0 hn hk hf
      refine j_iload_n h dX1_woodsBowled_4 rfl 2 rfl ?_
      refine j_aload_n h dX1_woodsBowled_5 rfl 0 rfl ?_
      refine j_get h inlX1 (30 * g + 0) (at_G hg) rfl 4 (by decide) (xr_4 0 rfl) rfl (v := .int (M.1 4)) rfl dX1_woodsBowled_6 ?_
      refine j_icmp_ge h (tgt := 30) dX1_woodsBowled_9 (by decide) (fun c1 => ?_) (fun c1 => ?_)
      · refine j_sub h [0, 1] rfl ?_
        exact hf _ (Eq.symm ((ite_p c1 rfl)))
      · have hk1 : k < 16 := cnt_lt (by decide) hk hW16 c1
        refine j_iload_n h dX1_woodsBowled_12 rfl 1 rfl ?_
        refine j_aload_n h dX1_woodsBowled_13 rfl 0 rfl ?_
        refine j_get h inlX1 (30 * g + 0) (at_G hg) rfl 1 (by decide) (xr_3 1 rfl) rfl (v := .ref (L g 2)) rfl dX1_woodsBowled_14 ?_
        refine j_iload_n h dX1_woodsBowled_17 rfl 2 rfl ?_
        refine j_aaldE h (30 * g + 2) 2 (at_Wa hg) rfl k rfl (by omega) (by decide) dX1_woodsBowled_18 ?_
        refine j_get h inlX6 (30 * g + (12 + k)) (at_W hg (by omega)) rfl 7 (by decide) (xr_11 19 rfl) rfl (v := .int (M.2.2.1 k 7)) rfl dX1_woodsBowled_19 ?_
        refine j_iadd h dX1_woodsBowled_22 ?_
        refine j_istore_n h (lv' := [(1, _), (0, _), (2, _)]) dX1_woodsBowled_23 rfl (by decide) rfl ?_
        refine j_iinc h (v := nI (k + 1)) (lv' := [(2, _), (1, _), (0, _)]) dX1_woodsBowled_24 (k := 2) rfl (nI_1 k) (by decide) rfl ?_
        refine j_goto h (tgt := 4) dX1_woodsBowled_27 (by decide) ?_
        refine j_sub h [2, 1, 0] rfl ?_
        exact ih (k + 1) _ (by omega) (by omega) (fun z hz => hf z (hz.trans (Eq.symm ((ite_n c1 rfl)))))
  refine j_sub h [2, 1, 0] rfl ?_
  refine lp4 17 0 _ (by omega) (by omega) (fun z2 hz2 => ?_)
  refine j_iload_n h dX1_woodsBowled_30 rfl 1 rfl ?_
  exact hR _ _ _ _ dX1_woodsBowled_31 ⟨Eq.symm ((bd_eq hz2 rfl)), rfl⟩

def f_X1_endsPlayed_l4 (M : gM) : Nat → Nat → Int32 → Int32
  | 0, _, n0 => n0
  | n + 1, k, n0 =>
    if (M.1 3) ≤ (nI k) then
      n0
    else
      bd (f_X5_isPlayed M k) fun z2 =>
      if z2 = 0 then
        f_X1_endsPlayed_l4 M n (k + 1) n0
      else
        f_X1_endsPlayed_l4 M n (k + 1) (n0 + 1)
def f_X1_endsPlayed (M : gM) : Int32 :=
  bd (f_X1_endsPlayed_l4 M 5 0 0) fun z4 =>
  z4
abbrev rm_X1_endsPlayed : Room := { frames := 1, cells := 0, slots := 0, locals := 20 }
set_option maxRecDepth 100000 in
set_option maxHeartbeats 4000000 in
theorem c_X1_endsPlayed (l : Launch) (D : gD) (cy : Nat → ClassId) (L : Nat → Nat → Nat) (G : Nat → gM) (X : Nat → Int32) (A : Nat → Nat → Int32) (b : cB) (M : gM) {g : Nat} (hg : g < 11) (hR4 : M.1 3 ≤ nI 4) : CtI l D cy (CW cy L) yX1_endsPlayed cX1_endsPlayed 3 (some .int) rm_X1_endsPlayed [.ref (L g 0)] ((va_up G g M, X, A), b) (fun rv u => rv = f_X1_endsPlayed M ∧ u = ((va_up G g M, X, A), b)) 0 0 := by
  refine m_entI cX1_endsPlayed 3 (by decide) (Nat.le_of_ble_eq_true rfl) (fun J h hR => ?_)
  show J ((va_up G g M, X, A), b) (0, 0) [(0, .ref (L g 0))] 0 []
  refine j_iconst h (v := 0) dX1_endsPlayed_0 (by decide) ?_
  refine j_istore_n h (lv' := [(1, _), (0, _)]) dX1_endsPlayed_1 rfl (by decide) rfl ?_
  refine j_iconst h (v := 0) dX1_endsPlayed_2 (by decide) ?_
  refine j_istore_n h (lv' := [(2, _), (1, _), (0, _)]) dX1_endsPlayed_3 rfl (by decide) rfl ?_
  have lp4 : ∀ (n k : Nat) (n0 : Int32), n + k = 5 → k ≤ 4 → (∀ z : Int32, z = f_X1_endsPlayed_l4 M n k n0 → J ((va_up G g M, X, A), b) (0, 0) [(0, .ref (L g 0)), (1, .int z)] 33 []) → J ((va_up G g M, X, A), b) (0, 0) [(0, .ref (L g 0)), (1, .int n0), (2, .int (nI k))] 4 [] := by
    intro n
    induction n with
    | zero => intro k n0 hn hk hf; omega
    | succ n ih =>
      intro k n0 hn hk hf
      refine j_iload_n h dX1_endsPlayed_4 rfl 2 rfl ?_
      refine j_aload_n h dX1_endsPlayed_5 rfl 0 rfl ?_
      refine j_get h inlX1 (30 * g + 0) (at_G hg) rfl 3 (by decide) (xr_3 23 rfl) rfl (v := .int (M.1 3)) rfl dX1_endsPlayed_6 ?_
      refine j_icmp_ge h (tgt := 33) dX1_endsPlayed_9 (by decide) (fun c1 => ?_) (fun c1 => ?_)
      · refine j_sub h [0, 1] rfl ?_
        exact hf _ (Eq.symm ((ite_p c1 rfl)))
      · have hk1 : k < 4 := cnt_lt (by decide) hk hR4 c1
        refine j_aload_n h dX1_endsPlayed_12 rfl 0 rfl ?_
        refine j_get h inlX1 (30 * g + 0) (at_G hg) rfl 0 (by decide) (xr_2 21 rfl) rfl (v := .ref (L g 1)) rfl dX1_endsPlayed_13 ?_
        refine j_iload_n h dX1_endsPlayed_16 rfl 2 rfl ?_
        refine j_aaldE h (30 * g + 1) 1 (at_Ra hg) rfl k rfl (by omega) (by decide) dX1_endsPlayed_17 ?_
        refine j_callI h (n := 0) (c_X5_isPlayed l D cy L _ _ _ _ _ hg (by omega)) (xg_V (xr_11 9 rfl) (xr_9 23 rfl) (xr_10 0 rfl) (xr_2 23 rfl) (xr_10 1 rfl)) rfl rfl (by decide +kernel) ⟨Nat.le_of_ble_eq_true rfl, Nat.le_of_ble_eq_true rfl⟩ (30 * g + (4 + k)) (at_R hg (by omega)) rfl rfl rfl rfl (Nat.le_of_ble_eq_true rfl) dX1_endsPlayed_18 ⟨by decide, by decide⟩ (fun z2 u' hq => ?_)
        obtain ⟨hz2, rfl, bz2⟩ := hq
        refine j_if_eq h (tgt := 27) dX1_endsPlayed_21 (by decide) (fun c3 => ?_) (fun c3 => ?_)
        · refine j_iinc h (v := nI (k + 1)) (lv' := [(2, _), (0, _), (1, _)]) dX1_endsPlayed_27 (k := 2) rfl (nI_1 k) (by decide) rfl ?_
          refine j_goto h (tgt := 4) dX1_endsPlayed_30 (by decide) ?_
          refine j_sub h [1, 2, 0] rfl ?_
          exact ih (k + 1) _ (by omega) (by omega) (fun z hz => hf z (hz.trans (Eq.symm ((ite_n c1 (bd_eq hz2 (ite_p c3 rfl)))))))
        · refine j_iinc h (v := n0 + 1) (lv' := [(1, _), (0, _), (2, _)]) dX1_endsPlayed_24 (k := 1) rfl rfl (by decide) rfl ?_
          refine j_iinc h (v := nI (k + 1)) (lv' := [(2, _), (1, _), (0, _)]) dX1_endsPlayed_27 (k := 2) rfl (nI_1 k) (by decide) rfl ?_
          refine j_goto h (tgt := 4) dX1_endsPlayed_30 (by decide) ?_
          refine j_sub h [2, 1, 0] rfl ?_
          exact ih (k + 1) _ (by omega) (by omega) (fun z hz => hf z (hz.trans (Eq.symm ((ite_n c1 (bd_eq hz2 (ite_n c3 rfl)))))))
  refine j_sub h [2, 1, 0] rfl ?_
  refine lp4 5 0 _ (by omega) (by omega) (fun z4 hz4 => ?_)
  refine j_iload_n h dX1_endsPlayed_33 rfl 1 rfl ?_
  exact hR _ _ _ _ dX1_endsPlayed_34 ⟨Eq.symm ((bd_eq hz4 rfl)), rfl⟩

def f_X1_endsClosed_l4 (M : gM) : Nat → Nat → Int32 → Int32
  | 0, _, n0 => n0
  | n + 1, k, n0 =>
    if (M.1 3) ≤ (nI k) then
      n0
    else
      f_X1_endsClosed_l4 M n (k + 1) (n0 + (M.2.1 k 7))
def f_X1_endsClosed (M : gM) : Int32 :=
  bd (f_X1_endsClosed_l4 M 5 0 0) fun z2 =>
  z2
abbrev rm_X1_endsClosed : Room := { frames := 0, cells := 0, slots := 0, locals := 0 }
set_option maxRecDepth 100000 in
set_option maxHeartbeats 4000000 in
theorem c_X1_endsClosed (l : Launch) (D : gD) (cy : Nat → ClassId) (L : Nat → Nat → Nat) (G : Nat → gM) (X : Nat → Int32) (A : Nat → Nat → Int32) (b : cB) (M : gM) {g : Nat} (hg : g < 11) (hR4 : M.1 3 ≤ nI 4) : CtI l D cy (CW cy L) yX1_endsClosed cX1_endsClosed 3 (some .int) rm_X1_endsClosed [.ref (L g 0)] ((va_up G g M, X, A), b) (fun rv u => rv = f_X1_endsClosed M ∧ u = ((va_up G g M, X, A), b)) 0 0 := by
  refine m_entI cX1_endsClosed 3 (by decide) (Nat.le_of_ble_eq_true rfl) (fun J h hR => ?_)
  show J ((va_up G g M, X, A), b) (0, 0) [(0, .ref (L g 0))] 0 []
  refine j_iconst h (v := 0) dX1_endsClosed_0 (by decide) ?_
  refine j_istore_n h (lv' := [(1, _), (0, _)]) dX1_endsClosed_1 rfl (by decide) rfl ?_
  refine j_iconst h (v := 0) dX1_endsClosed_2 (by decide) ?_
  refine j_istore_n h (lv' := [(2, _), (1, _), (0, _)]) dX1_endsClosed_3 rfl (by decide) rfl ?_
  have lp4 : ∀ (n k : Nat) (n0 : Int32), n + k = 5 → k ≤ 4 → (∀ z : Int32, z = f_X1_endsClosed_l4 M n k n0 → J ((va_up G g M, X, A), b) (0, 0) [(0, .ref (L g 0)), (1, .int z)] 30 []) → J ((va_up G g M, X, A), b) (0, 0) [(0, .ref (L g 0)), (1, .int n0), (2, .int (nI k))] 4 [] := by
    intro n
    induction n with
    | zero => intro k n0 hn hk hf; omega
    | succ n ih =>
      intro k n0 hn hk hf
      refine j_iload_n h dX1_endsClosed_4 rfl 2 rfl ?_
      refine j_aload_n h dX1_endsClosed_5 rfl 0 rfl ?_
      refine j_get h inlX1 (30 * g + 0) (at_G hg) rfl 3 (by decide) (xr_3 23 rfl) rfl (v := .int (M.1 3)) rfl dX1_endsClosed_6 ?_
      refine j_icmp_ge h (tgt := 30) dX1_endsClosed_9 (by decide) (fun c1 => ?_) (fun c1 => ?_)
      · refine j_sub h [0, 1] rfl ?_
        exact hf _ (Eq.symm ((ite_p c1 rfl)))
      · have hk1 : k < 4 := cnt_lt (by decide) hk hR4 c1
        refine j_iload_n h dX1_endsClosed_12 rfl 1 rfl ?_
        refine j_aload_n h dX1_endsClosed_13 rfl 0 rfl ?_
        refine j_get h inlX1 (30 * g + 0) (at_G hg) rfl 0 (by decide) (xr_2 21 rfl) rfl (v := .ref (L g 1)) rfl dX1_endsClosed_14 ?_
        refine j_iload_n h dX1_endsClosed_17 rfl 2 rfl ?_
        refine j_aaldE h (30 * g + 1) 1 (at_Ra hg) rfl k rfl (by omega) (by decide) dX1_endsClosed_18 ?_
        refine j_get h inlX5 (30 * g + (4 + k)) (at_R hg (by omega)) rfl 7 (by decide) (xr_11 14 rfl) rfl (v := .int (M.2.1 k 7)) rfl dX1_endsClosed_19 ?_
        refine j_iadd h dX1_endsClosed_22 ?_
        refine j_istore_n h (lv' := [(1, _), (0, _), (2, _)]) dX1_endsClosed_23 rfl (by decide) rfl ?_
        refine j_iinc h (v := nI (k + 1)) (lv' := [(2, _), (1, _), (0, _)]) dX1_endsClosed_24 (k := 2) rfl (nI_1 k) (by decide) rfl ?_
        refine j_goto h (tgt := 4) dX1_endsClosed_27 (by decide) ?_
        refine j_sub h [2, 1, 0] rfl ?_
        exact ih (k + 1) _ (by omega) (by omega) (fun z hz => hf z (hz.trans (Eq.symm ((ite_n c1 rfl)))))
  refine j_sub h [2, 1, 0] rfl ?_
  refine lp4 5 0 _ (by omega) (by omega) (fun z2 hz2 => ?_)
  refine j_iload_n h dX1_endsClosed_30 rfl 1 rfl ?_
  exact hR _ _ _ _ dX1_endsClosed_31 ⟨Eq.symm ((bd_eq hz2 rfl)), rfl⟩

def f_X1_allWet_l4 (M : gM) : Nat → Nat → Int32 → Int32
  | 0, _, n0 => n0
  | n + 1, k, n0 =>
    if (M.1 3) ≤ (nI k) then
      n0
    else
      f_X1_allWet_l4 M n (k + 1) (n0 + (M.2.1 k 2))
def f_X1_allWet (M : gM) : Int32 :=
  bd (f_X1_allWet_l4 M 5 0 0) fun z2 =>
  z2
abbrev rm_X1_allWet : Room := { frames := 0, cells := 0, slots := 0, locals := 0 }
set_option maxRecDepth 100000 in
set_option maxHeartbeats 4000000 in
theorem c_X1_allWet (l : Launch) (D : gD) (cy : Nat → ClassId) (L : Nat → Nat → Nat) (G : Nat → gM) (X : Nat → Int32) (A : Nat → Nat → Int32) (b : cB) (M : gM) {g : Nat} (hg : g < 11) (hR4 : M.1 3 ≤ nI 4) : CtI l D cy (CW cy L) yX1_allWet cX1_allWet 3 (some .int) rm_X1_allWet [.ref (L g 0)] ((va_up G g M, X, A), b) (fun rv u => rv = f_X1_allWet M ∧ u = ((va_up G g M, X, A), b)) 0 0 := by
  refine m_entI cX1_allWet 3 (by decide) (Nat.le_of_ble_eq_true rfl) (fun J h hR => ?_)
  show J ((va_up G g M, X, A), b) (0, 0) [(0, .ref (L g 0))] 0 []
  refine j_iconst h (v := 0) dX1_allWet_0 (by decide) ?_
  refine j_istore_n h (lv' := [(1, _), (0, _)]) dX1_allWet_1 rfl (by decide) rfl ?_
  refine j_iconst h (v := 0) dX1_allWet_2 (by decide) ?_
  refine j_istore_n h (lv' := [(2, _), (1, _), (0, _)]) dX1_allWet_3 rfl (by decide) rfl ?_
  have lp4 : ∀ (n k : Nat) (n0 : Int32), n + k = 5 → k ≤ 4 → (∀ z : Int32, z = f_X1_allWet_l4 M n k n0 → J ((va_up G g M, X, A), b) (0, 0) [(0, .ref (L g 0)), (1, .int z)] 30 []) → J ((va_up G g M, X, A), b) (0, 0) [(0, .ref (L g 0)), (1, .int n0), (2, .int (nI k))] 4 [] := by
    intro n
    induction n with
    | zero => intro k n0 hn hk hf; omega
    | succ n ih =>
      intro k n0 hn hk hf
      refine j_iload_n h dX1_allWet_4 rfl 2 rfl ?_
      refine j_aload_n h dX1_allWet_5 rfl 0 rfl ?_
      refine j_get h inlX1 (30 * g + 0) (at_G hg) rfl 3 (by decide) (xr_3 23 rfl) rfl (v := .int (M.1 3)) rfl dX1_allWet_6 ?_
      refine j_icmp_ge h (tgt := 30) dX1_allWet_9 (by decide) (fun c1 => ?_) (fun c1 => ?_)
      · refine j_sub h [0, 1] rfl ?_
        exact hf _ (Eq.symm ((ite_p c1 rfl)))
      · have hk1 : k < 4 := cnt_lt (by decide) hk hR4 c1
        refine j_iload_n h dX1_allWet_12 rfl 1 rfl ?_
        refine j_aload_n h dX1_allWet_13 rfl 0 rfl ?_
        refine j_get h inlX1 (30 * g + 0) (at_G hg) rfl 0 (by decide) (xr_2 21 rfl) rfl (v := .ref (L g 1)) rfl dX1_allWet_14 ?_
        refine j_iload_n h dX1_allWet_17 rfl 2 rfl ?_
        refine j_aaldE h (30 * g + 1) 1 (at_Ra hg) rfl k rfl (by omega) (by decide) dX1_allWet_18 ?_
        refine j_get h inlX5 (30 * g + (4 + k)) (at_R hg (by omega)) rfl 2 (by decide) (xr_9 7 rfl) rfl (v := .int (M.2.1 k 2)) rfl dX1_allWet_19 ?_
        refine j_iadd h dX1_allWet_22 ?_
        refine j_istore_n h (lv' := [(1, _), (0, _), (2, _)]) dX1_allWet_23 rfl (by decide) rfl ?_
        refine j_iinc h (v := nI (k + 1)) (lv' := [(2, _), (1, _), (0, _)]) dX1_allWet_24 (k := 2) rfl (nI_1 k) (by decide) rfl ?_
        refine j_goto h (tgt := 4) dX1_allWet_27 (by decide) ?_
        refine j_sub h [2, 1, 0] rfl ?_
        exact ih (k + 1) _ (by omega) (by omega) (fun z hz => hf z (hz.trans (Eq.symm ((ite_n c1 rfl)))))
  refine j_sub h [2, 1, 0] rfl ?_
  refine lp4 5 0 _ (by omega) (by omega) (fun z2 hz2 => ?_)
  refine j_iload_n h dX1_allWet_30 rfl 1 rfl ?_
  exact hR _ _ _ _ dX1_allWet_31 ⟨Eq.symm ((bd_eq hz2 rfl)), rfl⟩

def f_X1_allCasts_l4 (M : gM) : Nat → Nat → Int32 → Int32
  | 0, _, n0 => n0
  | n + 1, k, n0 =>
    if (M.1 3) ≤ (nI k) then
      n0
    else
      f_X1_allCasts_l4 M n (k + 1) (n0 + (M.2.1 k 3))
def f_X1_allCasts (M : gM) : Int32 :=
  bd (f_X1_allCasts_l4 M 5 0 0) fun z2 =>
  z2
abbrev rm_X1_allCasts : Room := { frames := 0, cells := 0, slots := 0, locals := 0 }
set_option maxRecDepth 100000 in
set_option maxHeartbeats 4000000 in
theorem c_X1_allCasts (l : Launch) (D : gD) (cy : Nat → ClassId) (L : Nat → Nat → Nat) (G : Nat → gM) (X : Nat → Int32) (A : Nat → Nat → Int32) (b : cB) (M : gM) {g : Nat} (hg : g < 11) (hR4 : M.1 3 ≤ nI 4) : CtI l D cy (CW cy L) yX1_allCasts cX1_allCasts 3 (some .int) rm_X1_allCasts [.ref (L g 0)] ((va_up G g M, X, A), b) (fun rv u => rv = f_X1_allCasts M ∧ u = ((va_up G g M, X, A), b)) 0 0 := by
  refine m_entI cX1_allCasts 3 (by decide) (Nat.le_of_ble_eq_true rfl) (fun J h hR => ?_)
  show J ((va_up G g M, X, A), b) (0, 0) [(0, .ref (L g 0))] 0 []
  refine j_iconst h (v := 0) dX1_allCasts_0 (by decide) ?_
  refine j_istore_n h (lv' := [(1, _), (0, _)]) dX1_allCasts_1 rfl (by decide) rfl ?_
  refine j_iconst h (v := 0) dX1_allCasts_2 (by decide) ?_
  refine j_istore_n h (lv' := [(2, _), (1, _), (0, _)]) dX1_allCasts_3 rfl (by decide) rfl ?_
  have lp4 : ∀ (n k : Nat) (n0 : Int32), n + k = 5 → k ≤ 4 → (∀ z : Int32, z = f_X1_allCasts_l4 M n k n0 → J ((va_up G g M, X, A), b) (0, 0) [(0, .ref (L g 0)), (1, .int z)] 30 []) → J ((va_up G g M, X, A), b) (0, 0) [(0, .ref (L g 0)), (1, .int n0), (2, .int (nI k))] 4 [] := by
    intro n
    induction n with
    | zero => intro k n0 hn hk hf; omega
    | succ n ih =>
      intro k n0 hn hk hf
      refine j_iload_n h dX1_allCasts_4 rfl 2 rfl ?_
      refine j_aload_n h dX1_allCasts_5 rfl 0 rfl ?_
      refine j_get h inlX1 (30 * g + 0) (at_G hg) rfl 3 (by decide) (xr_3 23 rfl) rfl (v := .int (M.1 3)) rfl dX1_allCasts_6 ?_
      refine j_icmp_ge h (tgt := 30) dX1_allCasts_9 (by decide) (fun c1 => ?_) (fun c1 => ?_)
      · refine j_sub h [0, 1] rfl ?_
        exact hf _ (Eq.symm ((ite_p c1 rfl)))
      · have hk1 : k < 4 := cnt_lt (by decide) hk hR4 c1
        refine j_iload_n h dX1_allCasts_12 rfl 1 rfl ?_
        refine j_aload_n h dX1_allCasts_13 rfl 0 rfl ?_
        refine j_get h inlX1 (30 * g + 0) (at_G hg) rfl 0 (by decide) (xr_2 21 rfl) rfl (v := .ref (L g 1)) rfl dX1_allCasts_14 ?_
        refine j_iload_n h dX1_allCasts_17 rfl 2 rfl ?_
        refine j_aaldE h (30 * g + 1) 1 (at_Ra hg) rfl k rfl (by omega) (by decide) dX1_allCasts_18 ?_
        refine j_get h inlX5 (30 * g + (4 + k)) (at_R hg (by omega)) rfl 3 (by decide) (xr_9 8 rfl) rfl (v := .int (M.2.1 k 3)) rfl dX1_allCasts_19 ?_
        refine j_iadd h dX1_allCasts_22 ?_
        refine j_istore_n h (lv' := [(1, _), (0, _), (2, _)]) dX1_allCasts_23 rfl (by decide) rfl ?_
        refine j_iinc h (v := nI (k + 1)) (lv' := [(2, _), (1, _), (0, _)]) dX1_allCasts_24 (k := 2) rfl (nI_1 k) (by decide) rfl ?_
        refine j_goto h (tgt := 4) dX1_allCasts_27 (by decide) ?_
        refine j_sub h [2, 1, 0] rfl ?_
        exact ih (k + 1) _ (by omega) (by omega) (fun z hz => hf z (hz.trans (Eq.symm ((ite_n c1 rfl)))))
  refine j_sub h [2, 1, 0] rfl ?_
  refine lp4 5 0 _ (by omega) (by omega) (fun z2 hz2 => ?_)
  refine j_iload_n h dX1_allCasts_30 rfl 1 rfl ?_
  exact hR _ _ _ _ dX1_allCasts_31 ⟨Eq.symm ((bd_eq hz2 rfl)), rfl⟩

def f_X1_woodsInShed (M : gM) : Int32 :=
  bd (f_X1_woodsOfClubInShed M 0) fun z1 =>
  bd (f_X1_woodsOfClubInShed M 1) fun z2 =>
  (z1 + z2)
abbrev rm_X1_woodsInShed : Room := { frames := 1, cells := 0, slots := 0, locals := 23 }
set_option maxRecDepth 100000 in
set_option maxHeartbeats 4000000 in
theorem c_X1_woodsInShed (l : Launch) (D : gD) (cy : Nat → ClassId) (L : Nat → Nat → Nat) (G : Nat → gM) (X : Nat → Int32) (A : Nat → Nat → Int32) (b : cB) (M : gM) {g : Nat} (hg : g < 11) (hW16 : M.1 4 ≤ nI 16) : CtI l D cy (CW cy L) yX1_woodsInShed cX1_woodsInShed 1 (some .int) rm_X1_woodsInShed [.ref (L g 0)] ((va_up G g M, X, A), b) (fun rv u => rv = f_X1_woodsInShed M ∧ u = ((va_up G g M, X, A), b)) 0 0 := by
  refine m_entI cX1_woodsInShed 1 (by decide) (Nat.le_of_ble_eq_true rfl) (fun J h hR => ?_)
  show J ((va_up G g M, X, A), b) (0, 0) [(0, .ref (L g 0))] 0 []
  refine j_aload_n h dX1_woodsInShed_0 rfl 0 rfl ?_
  refine j_iconst h (v := 0) dX1_woodsInShed_1 (by decide) ?_
  refine j_callI h (n := 1) (c_X1_woodsOfClubInShed l D cy L _ _ _ _ _ hg _ hW16) (xg_V (xr_12 0 rfl) (xr_12 1 rfl) (xr_12 2 rfl) (xr_1 18 rfl) (xr_12 3 rfl)) rfl rfl (by decide +kernel) ⟨Nat.le_of_ble_eq_true rfl, Nat.le_of_ble_eq_true rfl⟩ (30 * g + 0) (at_G hg) rfl rfl rfl rfl (Nat.le_of_ble_eq_true rfl) dX1_woodsInShed_2 ⟨by decide, by decide⟩ (fun z1 u' hq => ?_)
  obtain ⟨hz1, rfl⟩ := hq
  refine j_aload_n h dX1_woodsInShed_5 rfl 0 rfl ?_
  refine j_iconst h (v := 1) dX1_woodsInShed_6 (by decide) ?_
  refine j_callI h (n := 1) (c_X1_woodsOfClubInShed l D cy L _ _ _ _ _ hg _ hW16) (xg_V (xr_12 0 rfl) (xr_12 1 rfl) (xr_12 2 rfl) (xr_1 18 rfl) (xr_12 3 rfl)) rfl rfl (by decide +kernel) ⟨Nat.le_of_ble_eq_true rfl, Nat.le_of_ble_eq_true rfl⟩ (30 * g + 0) (at_G hg) rfl rfl rfl rfl (Nat.le_of_ble_eq_true rfl) dX1_woodsInShed_7 ⟨by decide, by decide⟩ (fun z2 u' hq => ?_)
  obtain ⟨hz2, rfl⟩ := hq
  refine j_iadd h dX1_woodsInShed_10 ?_
  exact hR _ _ _ _ dX1_woodsInShed_11 ⟨Eq.symm ((bd_eq hz1 (bd_eq hz2 rfl))), rfl⟩

def f_X1_drink (M : gM) (p1 : Int32) : gM :=
  (sg (sg M 8 ((M.1 8) - p1)) 9 (((sg M 8 ((M.1 8) - p1)).1 9) + p1))
abbrev rm_X1_drink : Room := { frames := 0, cells := 0, slots := 0, locals := 0 }
set_option maxRecDepth 100000 in
set_option maxHeartbeats 4000000 in
theorem c_X1_drink (l : Launch) (D : gD) (cy : Nat → ClassId) (L : Nat → Nat → Nat) (G : Nat → gM) (X : Nat → Int32) (A : Nat → Nat → Int32) (b : cB) (M : gM) {g : Nat} (hg : g < 11) (p1 : Int32)  : CtV l D cy (CW cy L) yX1_drink cX1_drink 2 none rm_X1_drink [.ref (L g 0), .int p1] ((va_up G g M, X, A), b) (fun u => ∃ z : gM, z = f_X1_drink M p1 ∧ u = ((va_up G g z, X, A), b)) 0 0 := by
  refine m_entV cX1_drink 2 (by decide) (Nat.le_of_ble_eq_true rfl) (fun J h hR => ?_)
  show J ((va_up G g M, X, A), b) (0, 0) [(0, .ref (L g 0)), (1, .int p1)] 0 []
  refine j_aload_n h dX1_drink_0 rfl 0 rfl ?_
  refine j_dup h dX1_drink_1 rfl ?_
  refine j_get h inlX1 (30 * g + 0) (at_G hg) rfl 8 (by decide) (xr_4 4 rfl) rfl (v := .int (M.1 8)) rfl dX1_drink_2 ?_
  refine j_iload_n h dX1_drink_5 rfl 1 rfl ?_
  refine j_isub h dX1_drink_6 ?_
  refine j_put h inlX1 tyX1 tyX1_ok nmX1 (30 * g + 0) (at_G hg) rfl 8 (by decide) (xr_4 4 rfl) rfl rfl rfl rfl (Nat.le_of_ble_eq_true rfl) dX1_drink_7 (to_G hg (by decide) (by decide)) ?_
  refine j_aload_n h dX1_drink_10 rfl 0 rfl ?_
  refine j_dup h dX1_drink_11 rfl ?_
  refine j_get h inlX1 (30 * g + 0) (at_G hg) rfl 9 (by decide) (xr_4 5 rfl) rfl (v := .int ((sg M 8 ((M.1 8) - p1)).1 9)) rfl dX1_drink_12 ?_
  refine j_iload_n h dX1_drink_15 rfl 1 rfl ?_
  refine j_iadd h dX1_drink_16 ?_
  refine j_put h inlX1 tyX1 tyX1_ok nmX1 (30 * g + 0) (at_G hg) rfl 9 (by decide) (xr_4 5 rfl) rfl rfl rfl rfl (Nat.le_of_ble_eq_true rfl) dX1_drink_17 (to_G hg (by decide) (by decide)) ?_
  exact hR _ _ _ dX1_drink_20 ⟨_, Eq.symm (rfl), rfl⟩

def f_X1_wetAfter (M : gM) (p1 : Int32) : Int32 :=
  (if 0 < (if ((p1 + (M.1 6)) - (M.1 7)) < 20 then ((p1 + (M.1 6)) - (M.1 7)) else 20) then (if ((p1 + (M.1 6)) - (M.1 7)) < 20 then ((p1 + (M.1 6)) - (M.1 7)) else 20) else 0)
abbrev rm_X1_wetAfter : Room := { frames := 1, cells := 0, slots := 0, locals := 21 }
set_option maxRecDepth 100000 in
set_option maxHeartbeats 4000000 in
theorem c_X1_wetAfter (l : Launch) (D : gD) (cy : Nat → ClassId) (L : Nat → Nat → Nat) (G : Nat → gM) (X : Nat → Int32) (A : Nat → Nat → Int32) (b : cB) (M : gM) {g : Nat} (hg : g < 11) (p1 : Int32)  : CtI l D cy (CW cy L) yX1_wetAfter cX1_wetAfter 2 (some .int) rm_X1_wetAfter [.ref (L g 0), .int p1] ((va_up G g M, X, A), b) (fun rv u => rv = f_X1_wetAfter M p1 ∧ u = ((va_up G g M, X, A), b)) 0 0 := by
  refine m_entI cX1_wetAfter 2 (by decide) (Nat.le_of_ble_eq_true rfl) (fun J h hR => ?_)
  show J ((va_up G g M, X, A), b) (0, 0) [(0, .ref (L g 0)), (1, .int p1)] 0 []
  refine j_iconst h (v := 0) dX1_wetAfter_0 (by decide) ?_
  refine j_bipush h (v := 20) dX1_wetAfter_1 (by decide) ?_
  refine j_iload_n h dX1_wetAfter_3 rfl 1 rfl ?_
  refine j_aload_n h dX1_wetAfter_4 rfl 0 rfl ?_
  refine j_get h inlX1 (30 * g + 0) (at_G hg) rfl 6 (by decide) (xr_4 2 rfl) rfl (v := .int (M.1 6)) rfl dX1_wetAfter_5 ?_
  refine j_iadd h dX1_wetAfter_8 ?_
  refine j_aload_n h dX1_wetAfter_9 rfl 0 rfl ?_
  refine j_get h inlX1 (30 * g + 0) (at_G hg) rfl 7 (by decide) (xr_4 3 rfl) rfl (v := .int (M.1 7)) rfl dX1_wetAfter_10 ?_
  refine j_isub h dX1_wetAfter_13 ?_
  refine j_mmin h (xr_9 13 rfl) (xr_1 7 rfl) (xr_1 8 rfl) (xr_1 9 rfl) (by decide) (Nat.le_of_ble_eq_true rfl) (by decide) (by decide) dX1_wetAfter_14 ?_
  refine j_mmax h (xr_9 14 rfl) (xr_9 15 rfl) (xr_1 8 rfl) (xr_9 16 rfl) (by decide) (Nat.le_of_ble_eq_true rfl) (by decide) (by decide) dX1_wetAfter_17 ?_
  exact hR _ _ _ _ dX1_wetAfter_20 ⟨Eq.symm (rfl), rfl⟩

/-! ===== the reference's line ===== -/
/-- the line says T, the rest is as it was -/
def WR (X0 : Nat → Int32) (A0 : Nat → Nat → Int32) (T : List Nat) (X : Nat → Int32) (A : Nat → Nat → Int32) : Prop :=
  (∀ k, k ≠ 7 → X k = X0 k) ∧ (∀ k, k ≠ 4 → A k = A0 k) ∧ X 7 = nI T.length ∧ ∀ j, j < T.length → A 4 j = nI (T.getD j 0)
theorem WR.ch {X0 X : Nat → Int32} {A0 A : Nat → Nat → Int32} {T : List Nat} {c : Nat} {v : Int32} (h : WR X0 A0 T X A) (hv : v = nI c) : WR X0 A0 (T ++ [c]) (upd X 7 (X 7 + 1)) (up2 A 4 T.length v) := by
  refine ⟨fun k hk => (upd_ne _ _ hk).trans (h.1 k hk), fun k hk => (up2_ne _ _ _ hk).trans (h.2.1 k hk), ?_, fun j hj => ?_⟩
  · rw [upd_eq, h.2.2.1, nI_1, List.length_append, List.length_singleton]
  · rw [up2_eq]
    rw [List.length_append, List.length_singleton] at hj
    by_cases e : j = T.length
    · subst e
      rw [upd_eq, hv, List.getD_eq_getElem?_getD, List.getElem?_append_right (Nat.le_refl _), Nat.sub_self]
      rfl
    · rw [upd_ne _ _ e, h.2.2.2 j (by omega), List.getD_eq_getElem?_getD, List.getD_eq_getElem?_getD, List.getElem?_append_left (by omega)]
def pfx (i k : Nat) : List Nat := (List.range k).map (fun j => (chS i j).toNatClampNeg)
theorem pfx_s (i k : Nat) : pfx i (k + 1) = pfx i k ++ [(chS i k).toNatClampNeg] := by
  unfold pfx
  rw [List.range_succ, List.map_append]
  rfl
theorem pfx_len (i k : Nat) : (pfx i k).length = k := by simp [pfx]
theorem strs_pfx (i : Nat) : strs i = pfx i (lenS.getD i 0) := rfl
theorem dg_s {v : Nat} (h : 10 ≤ v) (hv : v < 10000) : sb_dg v = sb_dg (v / 10) + 1 := by
  unfold sb_dg
  (repeat' split) <;> omega
theorem digs_s {v : Nat} (h : 10 ≤ v) (hv : v < 10000) : digs v = digs (v / 10) ++ [48 + v % 10] := by
  have e := dg_s h hv
  unfold digs
  rw [e, List.range_succ, List.map_append]
  refine congr (congrArg _ (List.map_congr_left fun j hj => ?_)) ?_
  · have hj2 := List.mem_range.mp hj
    show 48 + v / 10 ^ (sb_dg v - 1 - j) % 10 = 48 + v / 10 / 10 ^ (sb_dg (v / 10) - 1 - j) % 10
    rw [e, show sb_dg (v / 10) + 1 - 1 - j = (sb_dg (v / 10) - 1 - j) + 1 by omega, Nat.pow_succ, Nat.mul_comm, Nat.div_div_eq_div_mul]
  · show [48 + v / 10 ^ (sb_dg v - 1 - sb_dg (v / 10)) % 10] = _
    rw [e, show sb_dg (v / 10) + 1 - 1 - sb_dg (v / 10) = 0 by omega, Nat.pow_zero, Nat.div_one]
theorem dg_1 {v : Nat} (h : v < 10) : sb_dg v = 1 := by
  unfold sb_dg
  rw [if_pos h]
theorem digs_1 {v : Nat} (h : v < 10) : digs v = [48 + v % 10] := by
  unfold digs
  rw [dg_1 h]
  show [48 + v / 10 ^ (sb_dg v - 1 - 0) % 10] = _
  rw [dg_1 h]
  show [48 + v / 10 ^ 0 % 10] = _
  rw [Nat.pow_zero, Nat.div_one]
abbrev rm_X8_writes : Room := { frames := 4, cells := 0, slots := 0, locals := 85 }
theorem c_X8_writes (l : Launch) (D : gD) (cy : Nat → ClassId) (ad : Nat → Nat) (X : Nat → Int32) (A : Nat → Nat → Int32) {X0 : Nat → Int32} {A0 : Nat → Nat → Int32} {T : List Nat} (hW0 : WR X0 A0 T X A) {i : Nat} (hi : i < 15) (hT : T.length + lenS.getD i 0 ≤ 110) : CtV l D cy (MW cy ad) yX8_writes cX8_writes 3 none rm_X8_writes [.ref (ad 0), .ref (D.2.1 i)] (X, A) (fun u => ∃ X1 A1, u = (X1, A1) ∧ WR X0 A0 (T ++ strs i) X1 A1) 0 0 := by
  refine m_entV cX8_writes 3 (by decide) (Nat.le_of_ble_eq_true rfl) (fun J h hR => ?_)
  show J (X, A) (0, 0) [(0, .ref (ad 0)), (1, .ref (D.2.1 i))] 0 []
  refine j_iconst h (v := 0) dX8_writes_0 (by decide) ?_
  refine j_istore_n h (lv' := [(2, _), (0, _), (1, _)]) dX8_writes_1 rfl (by decide) rfl ?_
  have hl := lenS_lt hi
  have lp : ∀ (n k : Nat) (Xk : Nat → Int32) (Ak : Nat → Nat → Int32), n + k = lenS.getD i 0 → WR X0 A0 (T ++ pfx i k) Xk Ak → J (Xk, Ak) (0, 0) [(2, .int (nI k)), (0, .ref (ad 0)), (1, .ref (D.2.1 i))] 2 [] := by
    intro n
    induction n with
    | zero =>
      intro k Xk Ak hn hW
      refine j_iload_n h dX8_writes_2 rfl 0 rfl ?_
      refine j_aload_n h dX8_writes_3 rfl 2 rfl ?_
      refine j_kI h (n := 0) (c_J0_length_8abf5 l D cy _ hi) (xg_V (xr_50 19 rfl) (xr_34 8 rfl) (xr_34 9 rfl) (xr_11 7 rfl) (xr_34 10 rfl)) rfl rfl (by decide +kernel) ⟨Nat.le_of_ble_eq_true rfl, Nat.le_of_ble_eq_true rfl⟩ rfl hi rfl rfl rfl (Nat.le_of_ble_eq_true rfl) dX8_writes_4 ⟨by decide, by decide⟩ (fun r u' hq => ?_)
      obtain ⟨rfl, rfl⟩ := hq
      refine j_icmp_ge h (tgt := 37) dX8_writes_7 (by decide) (fun _ => ?_) (fun c => absurd (by rw [show lenS.getD i 0 = k by omega]; exact Int32.le_refl _) c)
      exact hR _ _ _ dX8_writes_37 ⟨_, _, rfl, by rw [strs_pfx, show lenS.getD i 0 = k by omega]; exact hW⟩
    | succ n ih =>
      intro k Xk Ak hn hW
      refine j_iload_n h dX8_writes_2 rfl 0 rfl ?_
      refine j_aload_n h dX8_writes_3 rfl 2 rfl ?_
      refine j_kI h (n := 0) (c_J0_length_8abf5 l D cy _ hi) (xg_V (xr_50 19 rfl) (xr_34 8 rfl) (xr_34 9 rfl) (xr_11 7 rfl) (xr_34 10 rfl)) rfl rfl (by decide +kernel) ⟨Nat.le_of_ble_eq_true rfl, Nat.le_of_ble_eq_true rfl⟩ rfl hi rfl rfl rfl (Nat.le_of_ble_eq_true rfl) dX8_writes_4 ⟨by decide, by decide⟩ (fun r u' hq => ?_)
      obtain ⟨rfl, rfl⟩ := hq
      refine j_icmp_ge h (tgt := 37) dX8_writes_7 (by decide) (fun c => absurd c (nI_ge (by omega) (by omega))) (fun _ => ?_)
      refine j_aload_n h dX8_writes_10 rfl 1 rfl ?_
      refine j_get h inlX8 0 rfl rfl 6 (by decide) (xr_6 11 rfl) rfl (v := .ref (ad 5)) rfl dX8_writes_11 ?_
      refine j_aload_n h dX8_writes_14 rfl 1 rfl ?_
      refine j_dup h dX8_writes_15 rfl ?_
      refine j_get h inlX8 0 rfl rfl 7 (by decide) (xr_50 10 rfl) rfl (v := .int (Xk 7)) rfl dX8_writes_16 ?_
      refine j_dup_x1 h dX8_writes_19 rfl rfl ?_
      refine j_iconst h (v := 1) dX8_writes_20 (by decide) ?_
      refine j_iadd h dX8_writes_21 ?_
      refine j_put h inlX8 tyX8 tyX8_ok nmX8 0 rfl rfl 7 (by decide) (xr_50 10 rfl) rfl rfl rfl rfl (Nat.le_of_ble_eq_true rfl) dX8_writes_22 (u' := (upd Xk 7 ((Xk 7) + 1), Ak)) rfl ?_
      refine j_aload_n h dX8_writes_25 rfl 2 rfl ?_
      refine j_iload_n h dX8_writes_26 rfl 0 rfl ?_
      refine j_kI h (n := 1) (c_J0_charAt_5068e l D cy _ hi (j := k) (by omega)) (xg_V (xr_50 20 rfl) (xr_34 18 rfl) (xr_34 19 rfl) (xr_11 7 rfl) (xr_34 20 rfl)) rfl rfl (by decide +kernel) ⟨Nat.le_of_ble_eq_true rfl, Nat.le_of_ble_eq_true rfl⟩ rfl hi rfl rfl rfl (Nat.le_of_ble_eq_true rfl) dX8_writes_27 ⟨by decide, by decide⟩ (fun r u' hq => ?_)
      obtain ⟨rfl, rfl⟩ := hq
      refine j_iastE h 5 rfl ((T ++ pfx i k).length) hW.2.2.1 (by rw [List.length_append, pfx_len]; omega) (by decide) dX8_writes_30 (u' := (upd Xk 7 ((Xk 7) + 1), up2 Ak 4 ((T ++ pfx i k).length) (chS i k))) rfl ?_
      refine j_iinc h (v := nI (k + 1)) (lv' := [(2, _), (0, _), (1, _)]) dX8_writes_31 (k := 0) rfl (nI_1 k) (by decide) rfl ?_
      refine j_goto h (tgt := 2) dX8_writes_34 (by decide) ?_
      refine ih (k + 1) _ _ (by omega) ?_
      rw [pfx_s, ← List.append_assoc]
      exact hW.ch (strs_ok hi (by omega)).2.2.symm
  refine lp (lenS.getD i 0) 0 X A rfl ?_
  rw [show pfx i 0 = [] from rfl, List.append_nil]
  exact hW0

theorem pw_1 {v : Nat} (h : v < 100) : v < 10 ^ (1 + 1) := Nat.lt_of_lt_of_le h (by decide)
theorem pw_3 {v : Nat} (h : v < 10000) : v < 10 ^ (3 + 1) := Nat.lt_of_lt_of_le h (by decide)
/-- room for so many digits more than one -/
abbrev rm_wn (g : Nat) : Room := { frames := g, cells := 0, slots := 0, locals := g * 21 }
theorem c_X8_writesNumber (l : Launch) (D : gD) (cy : Nat → ClassId) (ad : Nat → Nat) {X0 : Nat → Int32} {A0 : Nat → Nat → Int32} : ∀ (g v : Nat) (T : List Nat) (X : Nat → Int32) (A : Nat → Nat → Int32), WR X0 A0 T X A → v < 10 ^ (g + 1) → v < 10000 → T.length + sb_dg v ≤ 110 →
    CtV l D cy (MW cy ad) yX8_writesNumber cX8_writesNumber 2 none (rm_wn g) [.ref (ad 0), .int (nI v)] (X, A) (fun u => ∃ X1 A1, u = (X1, A1) ∧ WR X0 A0 (T ++ digs v) X1 A1) 0 0 := by
  intro g
  induction g with
  | zero =>
    intro v T X A hW0 hv hv2 hT0
    have hv1 : v < 10 := Nat.lt_of_lt_of_le hv (by decide)
    refine m_entV cX8_writesNumber 2 (by decide) (Nat.le_of_ble_eq_true rfl) (fun J h hR => ?_)
    show J (X, A) (0, 0) [(0, .ref (ad 0)), (1, .int (nI v))] 0 []
    have tl : ∀ (T' : List Nat) (X' : Nat → Int32) (A' : Nat → Nat → Int32), WR X0 A0 T' X' A' → T'.length < 110 → T' ++ [48 + v % 10] = T ++ digs v → J (X', A') (0, 0) [(0, .ref (ad 0)), (1, .int (nI v))] 14 [] := by
      intro T' X' A' hW hT he
      refine j_aload_n h dX8_writesNumber_14 rfl 0 rfl ?_
      refine j_get h inlX8 0 rfl rfl 6 (by decide) (xr_6 11 rfl) rfl (v := .ref (ad 5)) rfl dX8_writesNumber_15 ?_
      refine j_aload_n h dX8_writesNumber_18 rfl 0 rfl ?_
      refine j_dup h dX8_writesNumber_19 rfl ?_
      refine j_get h inlX8 0 rfl rfl 7 (by decide) (xr_50 10 rfl) rfl (v := .int (X' 7)) rfl dX8_writesNumber_20 ?_
      refine j_dup_x1 h dX8_writesNumber_23 rfl rfl ?_
      refine j_iconst h (v := 1) dX8_writesNumber_24 (by decide) ?_
      refine j_iadd h dX8_writesNumber_25 ?_
      refine j_put h inlX8 tyX8 tyX8_ok nmX8 0 rfl rfl 7 (by decide) (xr_50 10 rfl) rfl rfl rfl rfl (Nat.le_of_ble_eq_true rfl) dX8_writesNumber_26 (u' := (upd X' 7 ((X' 7) + 1), A')) rfl ?_
      refine j_bipush h (v := 48) dX8_writesNumber_29 (by decide) ?_
      refine j_iload_n h dX8_writesNumber_31 rfl 1 rfl ?_
      refine j_bipush h (v := 10) dX8_writesNumber_32 (by decide) ?_
      refine j_irem h dX8_writesNumber_34 (by decide) ?_
      rw [show (nI v - nI v / 10 * 10 : Int32) = nI (v % 10) from pk_rem (d := 10) (by omega) (by decide) (by decide)]
      refine j_iadd h dX8_writesNumber_35 ?_
      rw [show (48 + (nI (v % 10)) : Int32) = nI (48 + v % 10) from nI_add 48 (v % 10)]
      refine j_iastE h 5 rfl T'.length hW.2.2.1 hT (by decide) dX8_writesNumber_36 (u' := (upd X' 7 ((X' 7) + 1), up2 A' 4 T'.length (nI (48 + v % 10)))) rfl ?_
      exact hR _ _ _ dX8_writesNumber_37 ⟨_, _, rfl, he ▸ hW.ch rfl⟩
    have hd := dg_1 (v := v) (by omega)
    refine j_iload_n h dX8_writesNumber_0 rfl 1 rfl ?_
    refine j_bipush h (v := 9) dX8_writesNumber_1 (by decide) ?_
    refine j_icmp_le h (tgt := 14) dX8_writesNumber_3 (by decide) (fun _ => ?_) (fun c => absurd (show nI v ≤ 9 from nI_le (b := 9) (by omega) (by decide)) c)
    exact tl T X A hW0 (by omega) (by rw [digs_1 (by omega)])
  | succ g ih =>
    intro v T X A hW0 hv hv2 hT0
    refine m_entV cX8_writesNumber 2 (by decide) (Nat.le_of_ble_eq_true rfl) (fun J h hR => ?_)
    show J (X, A) (0, 0) [(0, .ref (ad 0)), (1, .int (nI v))] 0 []
    have tl : ∀ (T' : List Nat) (X' : Nat → Int32) (A' : Nat → Nat → Int32), WR X0 A0 T' X' A' → T'.length < 110 → T' ++ [48 + v % 10] = T ++ digs v → J (X', A') (0, 0) [(0, .ref (ad 0)), (1, .int (nI v))] 14 [] := by
      intro T' X' A' hW hT he
      refine j_aload_n h dX8_writesNumber_14 rfl 0 rfl ?_
      refine j_get h inlX8 0 rfl rfl 6 (by decide) (xr_6 11 rfl) rfl (v := .ref (ad 5)) rfl dX8_writesNumber_15 ?_
      refine j_aload_n h dX8_writesNumber_18 rfl 0 rfl ?_
      refine j_dup h dX8_writesNumber_19 rfl ?_
      refine j_get h inlX8 0 rfl rfl 7 (by decide) (xr_50 10 rfl) rfl (v := .int (X' 7)) rfl dX8_writesNumber_20 ?_
      refine j_dup_x1 h dX8_writesNumber_23 rfl rfl ?_
      refine j_iconst h (v := 1) dX8_writesNumber_24 (by decide) ?_
      refine j_iadd h dX8_writesNumber_25 ?_
      refine j_put h inlX8 tyX8 tyX8_ok nmX8 0 rfl rfl 7 (by decide) (xr_50 10 rfl) rfl rfl rfl rfl (Nat.le_of_ble_eq_true rfl) dX8_writesNumber_26 (u' := (upd X' 7 ((X' 7) + 1), A')) rfl ?_
      refine j_bipush h (v := 48) dX8_writesNumber_29 (by decide) ?_
      refine j_iload_n h dX8_writesNumber_31 rfl 1 rfl ?_
      refine j_bipush h (v := 10) dX8_writesNumber_32 (by decide) ?_
      refine j_irem h dX8_writesNumber_34 (by decide) ?_
      rw [show (nI v - nI v / 10 * 10 : Int32) = nI (v % 10) from pk_rem (d := 10) (by omega) (by decide) (by decide)]
      refine j_iadd h dX8_writesNumber_35 ?_
      rw [show (48 + (nI (v % 10)) : Int32) = nI (48 + v % 10) from nI_add 48 (v % 10)]
      refine j_iastE h 5 rfl T'.length hW.2.2.1 hT (by decide) dX8_writesNumber_36 (u' := (upd X' 7 ((X' 7) + 1), up2 A' 4 T'.length (nI (48 + v % 10)))) rfl ?_
      exact hR _ _ _ dX8_writesNumber_37 ⟨_, _, rfl, he ▸ hW.ch rfl⟩
    by_cases q : v ≤ 9
    · have hd := dg_1 (v := v) (by omega)
      refine j_iload_n h dX8_writesNumber_0 rfl 1 rfl ?_
      refine j_bipush h (v := 9) dX8_writesNumber_1 (by decide) ?_
      refine j_icmp_le h (tgt := 14) dX8_writesNumber_3 (by decide) (fun _ => ?_) (fun c => absurd (show nI v ≤ 9 from nI_le (b := 9) q (by decide)) c)
      exact tl T X A hW0 (by omega) (by rw [digs_1 (by omega)])
    · have hd := dg_s (v := v) (by omega) hv2
      refine j_iload_n h dX8_writesNumber_0 rfl 1 rfl ?_
      refine j_bipush h (v := 9) dX8_writesNumber_1 (by decide) ?_
      refine j_icmp_le h (tgt := 14) dX8_writesNumber_3 (by decide) (fun c => absurd c (show ¬ nI v ≤ 9 from nI_ge (a := 9) (by omega) (by omega))) (fun _ => ?_)
      refine j_aload_n h dX8_writesNumber_6 rfl 0 rfl ?_
      refine j_iload_n h dX8_writesNumber_7 rfl 1 rfl ?_
      refine j_bipush h (v := 10) dX8_writesNumber_8 (by decide) ?_
      refine j_idiv h dX8_writesNumber_10 (by decide) ?_
      rw [show ((nI v) / 10 : Int32) = nI (v / 10) from pk_div (d := 10) (by omega) (by decide) (by decide)]
      refine j_callV h (n := 1) (ih (v / 10) T X A hW0 (Nat.div_lt_of_lt_mul (by rw [Nat.pow_succ, Nat.mul_comm] at hv; exact hv)) (by omega) (by omega)) (xg_V (xr_50 11 rfl) (xr_50 12 rfl) (xr_50 13 rfl) (xr_1 5 rfl) (xr_50 14 rfl)) rfl rfl (by decide +kernel) ⟨Nat.le_refl _, by show 8 + (2 + 11) + g * 21 ≤ (g + 1) * 21; omega⟩ 0 rfl rfl rfl rfl rfl (Nat.le_of_ble_eq_true rfl) dX8_writesNumber_11 ⟨Nat.le_refl _, Nat.le_refl _⟩ (fun u' hq => ?_)
      obtain ⟨X1, A1, rfl, hW1⟩ := hq
      refine tl _ X1 A1 hW1 ?_ ?_
      · rw [List.length_append, digs_len]; omega
      · rw [digs_s (by omega) hv2, ← List.append_assoc]

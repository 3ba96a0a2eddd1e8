abbrev rm_J5_inflateIfNeededFor_a7421 : Room := { frames := 1, cells := 0, slots := 0, locals := 20 }
theorem c_J5_inflateIfNeededFor_a7421 (l : Launch) (D : gD) (cy : Nat → ClassId) {S : Type} {Wd : S → va_W} {p q0 q1 : Nat} {put : sbV → S} (hB : SBL cy Wd p q0 q1 put) (ml nn : Int32) (a m : Nat) (f : Nat → Int32) {i : Nat} (hi : i < 17) : CtV l D cy Wd yJ5_inflateIfNeededFor_a7421 cJ5_inflateIfNeededFor_a7421 2 none rm_J5_inflateIfNeededFor_a7421 [.ref p, .ref (D.2.1 i)] (put (ml, nn, a, m, f)) (fun u' => u' = put (ml, nn, a, m, f)) 0 0 := by
  refine m_entV cJ5_inflateIfNeededFor_a7421 2 (by decide) (Nat.le_of_ble_eq_true rfl) (fun J h hR => ?_)
  show J (put (ml, nn, a, m, f)) (0, 0) [(0, .ref p), (1, .ref (D.2.1 i))] 0 []
  refine j_gets h (fun _ _ _ z => z.1) (xr_5 6 rfl) rfl dJ5_inflateIfNeededFor_a7421_0 ?_
  refine j_if_eq h (tgt := 21) dJ5_inflateIfNeededFor_a7421_3 (by decide) (fun c => absurd c (by decide)) (fun _ => ?_)
  refine j_aload_n h dJ5_inflateIfNeededFor_a7421_6 rfl 0 rfl ?_
  refine j_get h inlJ4 q0 (hB.2.1 _) rfl 1 (by decide) (xr_5 9 rfl) rfl (v := .int 0) rfl dJ5_inflateIfNeededFor_a7421_7 ?_
  refine j_aload_n h dJ5_inflateIfNeededFor_a7421_10 rfl 1 rfl ?_
  refine j_kI h (n := 0) (c_J0_coder_7d493 l D cy _ hi) (xg_V (xr_36 17 rfl) (xr_18 13 rfl) (xr_18 14 rfl) (xr_15 19 rfl) (xr_18 15 rfl)) rfl rfl (by decide +kernel) ⟨Nat.le_of_ble_eq_true rfl, Nat.le_of_ble_eq_true rfl⟩ rfl hi rfl rfl rfl (Nat.le_of_ble_eq_true rfl) dJ5_inflateIfNeededFor_a7421_11 ⟨by decide, by decide⟩ (fun r u' hq => ?_)
  obtain ⟨rfl, rfl⟩ := hq
  refine j_icmp_eq h (tgt := 21) dJ5_inflateIfNeededFor_a7421_14 (by decide) (fun _ => ?_) (fun c => absurd rfl c)
  exact hR _ _ _ dJ5_inflateIfNeededFor_a7421_21 rfl

abbrev rm_J5_putStringAt_47b60 : Room := { frames := 2, cells := 0, slots := 0, locals := 87 }
theorem c_J5_putStringAt_47b60 (l : Launch) (D : gD) (cy : Nat → ClassId) {S : Type} {Wd : S → va_W} {p q0 q1 : Nat} {put : sbV → S} (hB : SBL cy Wd p q0 q1 put) (ml nn : Int32) (a : Nat) {m n : Nat} {f : Nat → Int32} {i : Nat} (hi : i < 17) (hnm : n + lenS.getD i 0 ≤ m) (hm : m ≤ 65536) : CtV l D cy Wd yJ5_putStringAt_47b60 cJ5_putStringAt_47b60 3 none rm_J5_putStringAt_47b60 [.ref p, .int (nI n), .ref (D.2.1 i)] (put (ml, nn, a, m, f)) (fun u' => u' = put (ml, nn, a, m, va_cpy (chS i) f 0 n (lenS.getD i 0))) 0 0 := by
  refine m_entV cJ5_putStringAt_47b60 3 (by decide) (Nat.le_of_ble_eq_true rfl) (fun J h hR => ?_)
  show J (put (ml, nn, a, m, f)) (0, 0) [(0, .ref p), (1, .int (nI n)), (2, .ref (D.2.1 i))] 0 []
  refine j_aload_n h dJ5_putStringAt_47b60_0 rfl 0 rfl ?_
  refine j_aload_n h dJ5_putStringAt_47b60_1 rfl 2 rfl ?_
  refine j_prvV h (n := 1) (c_J5_inflateIfNeededFor_a7421 l D cy hB ml nn a m f hi) (xg_U (xr_36 12 rfl) (xr_36 13 rfl) (xr_36 14 rfl) (xr_36 15 rfl) (xr_5 3 rfl) (xr_36 16 rfl)) rfl rfl (by decide +kernel) ⟨Nat.le_of_ble_eq_true rfl, Nat.le_of_ble_eq_true rfl⟩ q0 (hB.2.1 _) rfl rfl rfl rfl (Nat.le_of_ble_eq_true rfl) dJ5_putStringAt_47b60_2 ⟨by decide, by decide⟩ (fun u' hq => ?_)
  subst hq
  refine j_aload_n h dJ5_putStringAt_47b60_5 rfl 2 rfl ?_
  refine j_aload_n h dJ5_putStringAt_47b60_6 rfl 0 rfl ?_
  refine j_get h inlJ4 q0 (hB.2.1 _) rfl 0 (by decide) (xr_5 8 rfl) rfl (v := .ref a) rfl dJ5_putStringAt_47b60_7 ?_
  refine j_iload_n h dJ5_putStringAt_47b60_10 rfl 1 rfl ?_
  refine j_aload_n h dJ5_putStringAt_47b60_11 rfl 0 rfl ?_
  refine j_get h inlJ4 q0 (hB.2.1 _) rfl 1 (by decide) (xr_5 9 rfl) rfl (v := .int 0) rfl dJ5_putStringAt_47b60_12 ?_
  refine j_kV h (n := 3) (c_J0_getBytes_840e7 l D cy hB ml nn a hi hnm hm) (xg_V (xr_36 18 rfl) (xr_36 19 rfl) (xr_36 20 rfl) (xr_15 19 rfl) (xr_36 21 rfl)) rfl rfl (by decide +kernel) ⟨Nat.le_of_ble_eq_true rfl, Nat.le_of_ble_eq_true rfl⟩ rfl hi rfl rfl rfl (Nat.le_of_ble_eq_true rfl) dJ5_putStringAt_47b60_15 ⟨by decide, by decide⟩ (fun u' hq => ?_)
  subst hq
  exact hR _ _ _ dJ5_putStringAt_47b60_18 rfl

abbrev rm_J5_append_cf1ce (q m : Nat) : Room := { frames := 4, cells := kE q m, slots := sE q m, locals := 109 }
theorem c_J5_append_cf1ce (l : Launch) (D : gD) (cy : Nat → ClassId) {S : Type} {Wd : S → va_W} {p q0 q1 : Nat} {put : sbV → S} (hB : SBL cy Wd p q0 q1 put) (ml : Int32) {n : Nat} (a : Nat) {m : Nat} {f : Nat → Int32} {i : Nat} (hi : i < 17) (hnm : n ≤ m) (hm : m ≤ 32766) (hf : sb_Fit f) : CtA l D cy Wd yJ5_append_cf1ce cJ5_append_cf1ce 3 (some (.object "java/lang/AbstractStringBuilder")) (rm_J5_append_cf1ce (n + lenS.getD i 0) m) [.ref p, .ref (D.2.1 i)] (put (ml, nI n, a, m, f)) (fun r u' => r = p ∧ ∃ (a1 : Nat) (f1 : Nat → Int32), u' = put (ml, nI (n + lenS.getD i 0), a1, sb_cap (n + lenS.getD i 0) m, f1) ∧ (∀ j, j < n → f1 j = f j) ∧ (∀ j, j < lenS.getD i 0 → f1 (n + j) = chS i j) ∧ sb_Fit f1) (kE (n + lenS.getD i 0) m) (sE (n + lenS.getD i 0) m) := by
  refine m_entA cJ5_append_cf1ce 3 (by decide) (Nat.le_of_ble_eq_true rfl) (fun J h hR => ?_)
  show J (put (ml, nI n, a, m, f)) (0, 0) [(0, .ref p), (1, .ref (D.2.1 i))] 0 []
  have hl := lenS_lt hi
  have hg := sb_cap_ge (n + lenS.getD i 0) m
  have hcl : sb_cap (n + lenS.getD i 0) m ≤ 65536 := cap_le hm (by omega)
  refine j_aload_n h dJ5_append_cf1ce_0 rfl 1 rfl ?_
  refine j_ifnn h (tgt := 9) dJ5_append_cf1ce_1 (by decide) ?_
  refine j_aload_n h dJ5_append_cf1ce_9 rfl 1 rfl ?_
  refine j_kI h (n := 0) (c_J0_length_8abf5 l D cy _ hi) (xg_V (xr_36 6 rfl) (xr_18 9 rfl) (xr_18 10 rfl) (xr_15 19 rfl) (xr_18 11 rfl)) rfl rfl (by decide +kernel) ⟨Nat.le_of_ble_eq_true rfl, Nat.le_of_ble_eq_true rfl⟩ rfl hi rfl rfl rfl (Nat.le_of_ble_eq_true rfl) dJ5_append_cf1ce_10 ⟨Nat.zero_le _, Nat.zero_le _⟩ (fun r u' hq => ?_)
  obtain ⟨rfl, rfl⟩ := hq
  refine j_istore_n h (lv' := [(2, _), (0, _), (1, _)]) dJ5_append_cf1ce_13 rfl (by decide) rfl ?_
  refine j_aload_n h dJ5_append_cf1ce_14 rfl 1 rfl ?_
  refine j_aload_n h dJ5_append_cf1ce_15 rfl 1 rfl ?_
  refine j_get h inlJ4 q0 (hB.2.1 _) rfl 3 (by decide) (xr_12 15 rfl) rfl (v := .int (nI n)) rfl dJ5_append_cf1ce_16 ?_
  refine j_iload_n h dJ5_append_cf1ce_19 rfl 0 rfl ?_
  refine j_iadd h dJ5_append_cf1ce_20 ?_
  rw [show ((nI n) + (nI (lenS.getD i 0)) : Int32) = nI (n + lenS.getD i 0) from (nI_add n _)]
  refine j_prvV h (n := 1) (c_J5_ensureCapacityInternal_d00df l D cy hB ml (nI n) a (q := n + lenS.getD i 0) hm (by omega) hf) (xg_U (xr_13 4 rfl) (xr_13 5 rfl) (xr_13 6 rfl) (xr_13 7 rfl) (xr_5 3 rfl) (xr_13 8 rfl)) rfl rfl (by decide +kernel) ⟨Nat.le_of_ble_eq_true rfl, Nat.le_of_ble_eq_true rfl⟩ q0 (hB.2.1 _) rfl rfl rfl rfl (Nat.le_of_ble_eq_true rfl) dJ5_append_cf1ce_21 ⟨by show 0 + 0 + kE (n + lenS.getD i 0) m ≤ kE (n + lenS.getD i 0) m; omega, by show 0 + 0 + sE (n + lenS.getD i 0) m ≤ sE (n + lenS.getD i 0) m; omega⟩ (fun u' hq => ?_)
  obtain ⟨a1, f1, rfl, hk1, hf1⟩ := hq
  refine j_aload_n h dJ5_append_cf1ce_24 rfl 1 rfl ?_
  refine j_aload_n h dJ5_append_cf1ce_25 rfl 1 rfl ?_
  refine j_get h inlJ4 q0 (hB.2.1 _) rfl 3 (by decide) (xr_12 15 rfl) rfl (v := .int (nI n)) rfl dJ5_append_cf1ce_26 ?_
  refine j_aload_n h dJ5_append_cf1ce_29 rfl 2 rfl ?_
  refine j_prvV h (n := 2) (c_J5_putStringAt_47b60 l D cy hB ml (nI n) a1 (f := f1) hi hg hcl) (xg_U (xr_36 7 rfl) (xr_36 8 rfl) (xr_36 9 rfl) (xr_36 10 rfl) (xr_5 3 rfl) (xr_36 11 rfl)) rfl rfl (by decide +kernel) ⟨Nat.le_of_ble_eq_true rfl, Nat.le_of_ble_eq_true rfl⟩ q0 (hB.2.1 _) rfl rfl rfl rfl (Nat.le_of_ble_eq_true rfl) dJ5_append_cf1ce_30 ⟨by show 0 + 0 + kE (n + lenS.getD i 0) m + 0 ≤ kE (n + lenS.getD i 0) m; omega, by show 0 + 0 + sE (n + lenS.getD i 0) m + 0 ≤ sE (n + lenS.getD i 0) m; omega⟩ (fun u' hq => ?_)
  subst hq
  refine j_aload_n h dJ5_append_cf1ce_33 rfl 1 rfl ?_
  refine j_dup h dJ5_append_cf1ce_34 rfl ?_
  refine j_get h inlJ4 q0 (hB.2.1 _) rfl 3 (by decide) (xr_12 15 rfl) rfl (v := .int (nI n)) rfl dJ5_append_cf1ce_35 ?_
  refine j_iload_n h dJ5_append_cf1ce_38 rfl 0 rfl ?_
  refine j_iadd h dJ5_append_cf1ce_39 ?_
  rw [show ((nI n) + (nI (lenS.getD i 0)) : Int32) = nI (n + lenS.getD i 0) from (nI_add n _)]
  refine j_put h inlJ4 tyJ4 tyJ4_ok nmJ4 q0 (hB.2.1 _) rfl 3 (by decide) (xr_12 15 rfl) rfl rfl (v := .int (nI (n + lenS.getD i 0))) rfl rfl (Nat.le_of_ble_eq_true rfl) dJ5_append_cf1ce_40 (u' := put (ml, (nI (n + lenS.getD i 0)), a1, sb_cap (n + lenS.getD i 0) m, va_cpy (chS i) f1 0 n (lenS.getD i 0))) (hB.s0 (v := (ml, nI n, a1, sb_cap (n + lenS.getD i 0) m, va_cpy (chS i) f1 0 n (lenS.getD i 0))) (v' := (ml, (nI (n + lenS.getD i 0)), a1, sb_cap (n + lenS.getD i 0) m, va_cpy (chS i) f1 0 n (lenS.getD i 0))) rfl rfl rfl) ?_
  refine j_aload_n h dJ5_append_cf1ce_43 rfl 1 rfl ?_
  refine j_widen h (k := kE (n + lenS.getD i 0) m) (n := sE (n + lenS.getD i 0) m) (by show 0 + 0 + kE (n + lenS.getD i 0) m + 0 ≤ kE (n + lenS.getD i 0) m; omega) (by show 0 + 0 + sE (n + lenS.getD i 0) m + 0 ≤ sE (n + lenS.getD i 0) m; omega) ?_
  exact hR _ _ _ _ dJ5_append_cf1ce_44 ⟨rfl, a1, _, rfl, fun j hj => by rw [pk_cpy_out (by omega)]; exact hk1 j (by omega), fun j hj => by rw [pk_cpy_in (by omega) (by omega), show 0 + (n + j - n) = j by omega], chS_Fit hi rfl hf1⟩

abbrev rm_J4_append_15ec4 (q m : Nat) : Room := { frames := 5, cells := kE q m, slots := sE q m, locals := 131 }
theorem c_J4_append_15ec4 (l : Launch) (D : gD) (cy : Nat → ClassId) {S : Type} {Wd : S → va_W} {p q0 q1 : Nat} {put : sbV → S} (hB : SBL cy Wd p q0 q1 put) (ml : Int32) {n : Nat} (a : Nat) {m : Nat} {f : Nat → Int32} {i : Nat} (hi : i < 17) (hnm : n ≤ m) (hm : m ≤ 32766) (hf : sb_Fit f) : CtA l D cy Wd yJ4_append_15ec4 cJ4_append_15ec4 2 (some (.object "java/lang/StringBuilder")) (rm_J4_append_15ec4 (n + lenS.getD i 0) m) [.ref p, .ref (D.2.1 i)] (put (ml, nI n, a, m, f)) (fun r u' => r = p ∧ ∃ (a1 : Nat) (f1 : Nat → Int32), u' = put (ml, nI (n + lenS.getD i 0), a1, sb_cap (n + lenS.getD i 0) m, f1) ∧ (∀ j, j < n → f1 j = f j) ∧ (∀ j, j < lenS.getD i 0 → f1 (n + j) = chS i j) ∧ sb_Fit f1) (kE (n + lenS.getD i 0) m) (sE (n + lenS.getD i 0) m) := by
  refine m_entA cJ4_append_15ec4 2 (by decide) (Nat.le_of_ble_eq_true rfl) (fun J h hR => ?_)
  show J (put (ml, nI n, a, m, f)) (0, 0) [(0, .ref p), (1, .ref (D.2.1 i))] 0 []
  refine j_aload_n h dJ4_append_15ec4_0 rfl 0 rfl ?_
  refine j_aload_n h dJ4_append_15ec4_1 rfl 1 rfl ?_
  refine j_supA h (n := 1) (c_J5_append_cf1ce l D cy hB ml a hi hnm hm hf) (xg_SU (xr_35 18 rfl) (xr_35 19 rfl) (xr_12 12 rfl) (xr_35 20 rfl) (xr_5 3 rfl) (xr_35 21 rfl)) rfl rfl (xr_2 3 rfl) (by decide +kernel) ⟨Nat.le_of_ble_eq_true rfl, Nat.le_of_ble_eq_true rfl⟩ q0 (hB.2.1 _) rfl rfl rfl rfl (Nat.le_of_ble_eq_true rfl) dJ4_append_15ec4_2 ⟨by show 0 + kE (n + lenS.getD i 0) m ≤ kE (n + lenS.getD i 0) m; omega, by show 0 + sE (n + lenS.getD i 0) m ≤ sE (n + lenS.getD i 0) m; omega⟩ (fun r u' hq => ?_)
  obtain ⟨rfl, hq⟩ := hq
  refine j_pop h dJ4_append_15ec4_5 rfl ?_
  refine j_aload_n h dJ4_append_15ec4_6 rfl 0 rfl ?_
  refine j_widen h (k := kE (n + lenS.getD i 0) m) (n := sE (n + lenS.getD i 0) m) (by show 0 + kE (n + lenS.getD i 0) m ≤ kE (n + lenS.getD i 0) m; omega) (by show 0 + sE (n + lenS.getD i 0) m ≤ sE (n + lenS.getD i 0) m; omega) ?_
  exact hR _ _ _ _ dJ4_append_15ec4_7 ⟨rfl, hq⟩


abbrev rm_J5_append_c97b9 (q m : Nat) : Room := { frames := 4, cells := kE q m, slots := sE q m, locals := 108 }
theorem c_J5_append_c97b9_1 (l : Launch) (D : gD) (cy : Nat → ClassId) {S : Type} {Wd : S → va_W} {p q0 q1 : Nat} {put : sbV → S} (hB : SBL cy Wd p q0 q1 put) (ml : Int32) {n : Nat} (a : Nat) {m : Nat} {f : Nat → Int32} {v : Nat} (h0 : 0 ≤ v) (h1 : v < 10) (hnm : n ≤ m) (hm : m ≤ 32766) (hf : sb_Fit f) : CtA l D cy Wd yJ5_append_c97b9 cJ5_append_c97b9 4 (some (.object "java/lang/AbstractStringBuilder")) (rm_J5_append_c97b9 (n + 1) m) [.ref p, .int (nI v)] (put (ml, nI n, a, m, f)) (fun r u' => r = p ∧ ∃ (a1 : Nat) (f1 : Nat → Int32), u' = put (ml, nI (n + 1), a1, sb_cap (n + 1) m, f1) ∧ (∀ j, j < n → f1 j = f j) ∧ (∀ i, i < 1 → f1 (n + i) = sb_b (sb_dec v i)) ∧ sb_Fit f1) (kE (n + 1) m) (sE (n + 1) m) := by
  refine m_entA cJ5_append_c97b9 4 (by decide) (Nat.le_of_ble_eq_true rfl) (fun J h hR => ?_)
  show J (put (ml, nI n, a, m, f)) (0, 0) [(0, .ref p), (1, .int (nI v))] 0 []
  have hg := sb_cap_ge (n + 1) m
  have hcl : sb_cap (n + 1) m ≤ 65536 := cap_le hm (by omega)
  refine j_aload_n h dJ5_append_c97b9_0 rfl 0 rfl ?_
  refine j_get h inlJ4 q0 (hB.2.1 _) rfl 3 (by decide) (xr_12 15 rfl) rfl (v := .int (nI n)) rfl dJ5_append_c97b9_1 ?_
  refine j_istore_n h (lv' := [(2, _), (0, _), (1, _)]) dJ5_append_c97b9_4 rfl (by decide) rfl ?_
  refine j_iload_n h dJ5_append_c97b9_5 rfl 0 rfl ?_
  refine j_iload_n h dJ5_append_c97b9_6 rfl 2 rfl ?_
  refine j_callS h (n := 1) (c_J6_stringSize_1 l D cy _ h0 h1) (xg_S (xr_34 12 rfl) (xr_34 13 rfl) (xr_34 14 rfl) (xr_34 15 rfl)) rfl rfl (by decide +kernel) ⟨Nat.le_of_ble_eq_true rfl, Nat.le_of_ble_eq_true rfl⟩ rfl rfl (Nat.le_of_ble_eq_true rfl) dJ5_append_c97b9_7 ⟨Nat.zero_le _, Nat.zero_le _⟩ (fun r u' hq => ?_)
  obtain ⟨rfl, rfl⟩ := hq
  refine j_iadd h dJ5_append_c97b9_10 ?_
  rw [show ((nI n) + 1 : Int32) = nI (n + 1) from (nI_add n 1)]
  refine j_istore_n h (lv' := [(3, _), (2, _), (0, _), (1, _)]) dJ5_append_c97b9_11 rfl (by decide) rfl ?_
  refine j_aload_n h dJ5_append_c97b9_12 rfl 2 rfl ?_
  refine j_iload_n h dJ5_append_c97b9_13 rfl 0 rfl ?_
  refine j_prvV h (n := 1) (c_J5_ensureCapacityInternal_d00df l D cy hB ml (nI n) a (q := n + 1) hm (by omega) hf) (xg_U (xr_13 4 rfl) (xr_13 5 rfl) (xr_13 6 rfl) (xr_13 7 rfl) (xr_5 3 rfl) (xr_13 8 rfl)) rfl rfl (by decide +kernel) ⟨Nat.le_of_ble_eq_true rfl, Nat.le_of_ble_eq_true rfl⟩ q0 (hB.2.1 _) rfl rfl rfl rfl (Nat.le_of_ble_eq_true rfl) dJ5_append_c97b9_14 ⟨by show 0 + 0 + kE (n + 1) m ≤ kE (n + 1) m; omega, by show 0 + 0 + sE (n + 1) m ≤ sE (n + 1) m; omega⟩ (fun u' hq => ?_)
  obtain ⟨a1, f1, rfl, hk1, hf1⟩ := hq
  refine j_aload_n h dJ5_append_c97b9_17 rfl 2 rfl ?_
  refine j_prvI h (n := 0) (c_J5_isLatin1_aae02 l D cy hB ml (nI n) a1 (sb_cap (n + 1) m) f1) (xg_U (xr_14 15 rfl) (xr_14 16 rfl) (xr_14 17 rfl) (xr_14 18 rfl) (xr_5 3 rfl) (xr_14 19 rfl)) rfl rfl (by decide +kernel) ⟨Nat.le_of_ble_eq_true rfl, Nat.le_of_ble_eq_true rfl⟩ q0 (hB.2.1 _) rfl rfl rfl rfl (Nat.le_of_ble_eq_true rfl) dJ5_append_c97b9_18 ⟨by show 0 + 0 + kE (n + 1) m + 0 ≤ kE (n + 1) m; omega, by show 0 + 0 + sE (n + 1) m + 0 ≤ sE (n + 1) m; omega⟩ (fun r u' hq => ?_)
  obtain ⟨rfl, rfl⟩ := hq
  refine j_if_eq h (tgt := 37) dJ5_append_c97b9_21 (by decide) (fun c => absurd c (by decide)) (fun _ => ?_)
  refine j_iload_n h dJ5_append_c97b9_24 rfl 3 rfl ?_
  refine j_iload_n h dJ5_append_c97b9_25 rfl 0 rfl ?_
  refine j_aload_n h dJ5_append_c97b9_26 rfl 2 rfl ?_
  refine j_get h inlJ4 q0 (hB.2.1 _) rfl 0 (by decide) (xr_5 8 rfl) rfl (v := .ref a1) rfl dJ5_append_c97b9_27 ?_
  refine j_callS h (n := 3) (c_J6_getChars_1 l D cy hB ml (nI n) a1 (m := sb_cap (n + 1) m) (f := f1) h0 h1 hg hcl hf1) (xg_S (xr_34 16 rfl) (xr_34 17 rfl) (xr_34 14 rfl) (xr_34 18 rfl)) rfl rfl (by decide +kernel) ⟨Nat.le_of_ble_eq_true rfl, Nat.le_of_ble_eq_true rfl⟩ rfl rfl (Nat.le_of_ble_eq_true rfl) dJ5_append_c97b9_30 ⟨by show 0 + 0 + kE (n + 1) m + 0 + 0 ≤ kE (n + 1) m; omega, by show 0 + 0 + sE (n + 1) m + 0 + 0 ≤ sE (n + 1) m; omega⟩ (fun r u' hq => ?_)
  obtain ⟨rfl, f2, rfl, e1, e2, e3⟩ := hq
  refine j_pop h dJ5_append_c97b9_33 rfl ?_
  refine j_goto h (tgt := 48) dJ5_append_c97b9_34 (by decide) ?_
  refine j_aload_n h dJ5_append_c97b9_48 rfl 2 rfl ?_
  refine j_iload_n h dJ5_append_c97b9_49 rfl 0 rfl ?_
  refine j_put h inlJ4 tyJ4 tyJ4_ok nmJ4 q0 (hB.2.1 _) rfl 3 (by decide) (xr_12 15 rfl) rfl rfl (v := .int (nI (n + 1))) rfl rfl (Nat.le_of_ble_eq_true rfl) dJ5_append_c97b9_50 (u' := put (ml, (nI (n + 1)), a1, sb_cap (n + 1) m, f2)) (hB.s0 (v := (ml, nI n, a1, sb_cap (n + 1) m, f2)) (v' := (ml, (nI (n + 1)), a1, sb_cap (n + 1) m, f2)) rfl rfl rfl) ?_
  refine j_aload_n h dJ5_append_c97b9_53 rfl 2 rfl ?_
  refine j_widen h (k := kE (n + 1) m) (n := sE (n + 1) m) (by show 0 + 0 + kE (n + 1) m + 0 + 0 ≤ kE (n + 1) m; omega) (by show 0 + 0 + sE (n + 1) m + 0 + 0 ≤ sE (n + 1) m; omega) ?_
  exact hR _ _ _ _ dJ5_append_c97b9_54 ⟨rfl, a1, f2, rfl, fun j hj => (e1 j hj).trans (hk1 j (by omega)), e2, e3⟩

abbrev rm_J4_append_bf812 (q m : Nat) : Room := { frames := 5, cells := kE q m, slots := sE q m, locals := 131 }
theorem c_J4_append_bf812_1 (l : Launch) (D : gD) (cy : Nat → ClassId) {S : Type} {Wd : S → va_W} {p q0 q1 : Nat} {put : sbV → S} (hB : SBL cy Wd p q0 q1 put) (ml : Int32) {n : Nat} (a : Nat) {m : Nat} {f : Nat → Int32} {v : Nat} (h0 : 0 ≤ v) (h1 : v < 10) (hnm : n ≤ m) (hm : m ≤ 32766) (hf : sb_Fit f) : CtA l D cy Wd yJ4_append_bf812 cJ4_append_bf812 2 (some (.object "java/lang/StringBuilder")) (rm_J4_append_bf812 (n + 1) m) [.ref p, .int (nI v)] (put (ml, nI n, a, m, f)) (fun r u' => r = p ∧ ∃ (a1 : Nat) (f1 : Nat → Int32), u' = put (ml, nI (n + 1), a1, sb_cap (n + 1) m, f1) ∧ (∀ j, j < n → f1 j = f j) ∧ (∀ i, i < 1 → f1 (n + i) = sb_b (sb_dec v i)) ∧ sb_Fit f1) (kE (n + 1) m) (sE (n + 1) m) := by
  refine m_entA cJ4_append_bf812 2 (by decide) (Nat.le_of_ble_eq_true rfl) (fun J h hR => ?_)
  show J (put (ml, nI n, a, m, f)) (0, 0) [(0, .ref p), (1, .int (nI v))] 0 []
  refine j_aload_n h dJ4_append_bf812_0 rfl 0 rfl ?_
  refine j_iload_n h dJ4_append_bf812_1 rfl 1 rfl ?_
  refine j_supA h (n := 1) (c_J5_append_c97b9_1 l D cy hB ml a h0 h1 hnm hm hf) (xg_SU (xr_34 8 rfl) (xr_34 9 rfl) (xr_12 12 rfl) (xr_34 10 rfl) (xr_5 3 rfl) (xr_34 11 rfl)) rfl rfl (xr_2 3 rfl) (by decide +kernel) ⟨Nat.le_of_ble_eq_true rfl, Nat.le_of_ble_eq_true rfl⟩ q0 (hB.2.1 _) rfl rfl rfl rfl (Nat.le_of_ble_eq_true rfl) dJ4_append_bf812_2 ⟨by show 0 + kE (n + 1) m ≤ kE (n + 1) m; omega, by show 0 + sE (n + 1) m ≤ sE (n + 1) m; omega⟩ (fun r u' hq => ?_)
  obtain ⟨rfl, hq⟩ := hq
  refine j_pop h dJ4_append_bf812_5 rfl ?_
  refine j_aload_n h dJ4_append_bf812_6 rfl 0 rfl ?_
  refine j_widen h (k := kE (n + 1) m) (n := sE (n + 1) m) (by show 0 + kE (n + 1) m ≤ kE (n + 1) m; omega) (by show 0 + sE (n + 1) m ≤ sE (n + 1) m; omega) ?_
  exact hR _ _ _ _ dJ4_append_bf812_7 ⟨rfl, hq⟩


theorem c_J5_append_c97b9_2 (l : Launch) (D : gD) (cy : Nat → ClassId) {S : Type} {Wd : S → va_W} {p q0 q1 : Nat} {put : sbV → S} (hB : SBL cy Wd p q0 q1 put) (ml : Int32) {n : Nat} (a : Nat) {m : Nat} {f : Nat → Int32} {v : Nat} (h0 : 10 ≤ v) (h1 : v < 100) (hnm : n ≤ m) (hm : m ≤ 32766) (hf : sb_Fit f) : CtA l D cy Wd yJ5_append_c97b9 cJ5_append_c97b9 4 (some (.object "java/lang/AbstractStringBuilder")) (rm_J5_append_c97b9 (n + 2) m) [.ref p, .int (nI v)] (put (ml, nI n, a, m, f)) (fun r u' => r = p ∧ ∃ (a1 : Nat) (f1 : Nat → Int32), u' = put (ml, nI (n + 2), a1, sb_cap (n + 2) m, f1) ∧ (∀ j, j < n → f1 j = f j) ∧ (∀ i, i < 2 → f1 (n + i) = sb_b (sb_dec v i)) ∧ sb_Fit f1) (kE (n + 2) m) (sE (n + 2) m) := by
  refine m_entA cJ5_append_c97b9 4 (by decide) (Nat.le_of_ble_eq_true rfl) (fun J h hR => ?_)
  show J (put (ml, nI n, a, m, f)) (0, 0) [(0, .ref p), (1, .int (nI v))] 0 []
  have hg := sb_cap_ge (n + 2) m
  have hcl : sb_cap (n + 2) m ≤ 65536 := cap_le hm (by omega)
  refine j_aload_n h dJ5_append_c97b9_0 rfl 0 rfl ?_
  refine j_get h inlJ4 q0 (hB.2.1 _) rfl 3 (by decide) (xr_12 15 rfl) rfl (v := .int (nI n)) rfl dJ5_append_c97b9_1 ?_
  refine j_istore_n h (lv' := [(2, _), (0, _), (1, _)]) dJ5_append_c97b9_4 rfl (by decide) rfl ?_
  refine j_iload_n h dJ5_append_c97b9_5 rfl 0 rfl ?_
  refine j_iload_n h dJ5_append_c97b9_6 rfl 2 rfl ?_
  refine j_callS h (n := 1) (c_J6_stringSize_2 l D cy _ h0 h1) (xg_S (xr_34 12 rfl) (xr_34 13 rfl) (xr_34 14 rfl) (xr_34 15 rfl)) rfl rfl (by decide +kernel) ⟨Nat.le_of_ble_eq_true rfl, Nat.le_of_ble_eq_true rfl⟩ rfl rfl (Nat.le_of_ble_eq_true rfl) dJ5_append_c97b9_7 ⟨Nat.zero_le _, Nat.zero_le _⟩ (fun r u' hq => ?_)
  obtain ⟨rfl, rfl⟩ := hq
  refine j_iadd h dJ5_append_c97b9_10 ?_
  rw [show ((nI n) + 2 : Int32) = nI (n + 2) from (nI_add n 2)]
  refine j_istore_n h (lv' := [(3, _), (2, _), (0, _), (1, _)]) dJ5_append_c97b9_11 rfl (by decide) rfl ?_
  refine j_aload_n h dJ5_append_c97b9_12 rfl 2 rfl ?_
  refine j_iload_n h dJ5_append_c97b9_13 rfl 0 rfl ?_
  refine j_prvV h (n := 1) (c_J5_ensureCapacityInternal_d00df l D cy hB ml (nI n) a (q := n + 2) hm (by omega) hf) (xg_U (xr_13 4 rfl) (xr_13 5 rfl) (xr_13 6 rfl) (xr_13 7 rfl) (xr_5 3 rfl) (xr_13 8 rfl)) rfl rfl (by decide +kernel) ⟨Nat.le_of_ble_eq_true rfl, Nat.le_of_ble_eq_true rfl⟩ q0 (hB.2.1 _) rfl rfl rfl rfl (Nat.le_of_ble_eq_true rfl) dJ5_append_c97b9_14 ⟨by show 0 + 0 + kE (n + 2) m ≤ kE (n + 2) m; omega, by show 0 + 0 + sE (n + 2) m ≤ sE (n + 2) m; omega⟩ (fun u' hq => ?_)
  obtain ⟨a1, f1, rfl, hk1, hf1⟩ := hq
  refine j_aload_n h dJ5_append_c97b9_17 rfl 2 rfl ?_
  refine j_prvI h (n := 0) (c_J5_isLatin1_aae02 l D cy hB ml (nI n) a1 (sb_cap (n + 2) m) f1) (xg_U (xr_14 15 rfl) (xr_14 16 rfl) (xr_14 17 rfl) (xr_14 18 rfl) (xr_5 3 rfl) (xr_14 19 rfl)) rfl rfl (by decide +kernel) ⟨Nat.le_of_ble_eq_true rfl, Nat.le_of_ble_eq_true rfl⟩ q0 (hB.2.1 _) rfl rfl rfl rfl (Nat.le_of_ble_eq_true rfl) dJ5_append_c97b9_18 ⟨by show 0 + 0 + kE (n + 2) m + 0 ≤ kE (n + 2) m; omega, by show 0 + 0 + sE (n + 2) m + 0 ≤ sE (n + 2) m; omega⟩ (fun r u' hq => ?_)
  obtain ⟨rfl, rfl⟩ := hq
  refine j_if_eq h (tgt := 37) dJ5_append_c97b9_21 (by decide) (fun c => absurd c (by decide)) (fun _ => ?_)
  refine j_iload_n h dJ5_append_c97b9_24 rfl 3 rfl ?_
  refine j_iload_n h dJ5_append_c97b9_25 rfl 0 rfl ?_
  refine j_aload_n h dJ5_append_c97b9_26 rfl 2 rfl ?_
  refine j_get h inlJ4 q0 (hB.2.1 _) rfl 0 (by decide) (xr_5 8 rfl) rfl (v := .ref a1) rfl dJ5_append_c97b9_27 ?_
  refine j_callS h (n := 3) (c_J6_getChars_2 l D cy hB ml (nI n) a1 (m := sb_cap (n + 2) m) (f := f1) h0 h1 hg hcl hf1) (xg_S (xr_34 16 rfl) (xr_34 17 rfl) (xr_34 14 rfl) (xr_34 18 rfl)) rfl rfl (by decide +kernel) ⟨Nat.le_of_ble_eq_true rfl, Nat.le_of_ble_eq_true rfl⟩ rfl rfl (Nat.le_of_ble_eq_true rfl) dJ5_append_c97b9_30 ⟨by show 0 + 0 + kE (n + 2) m + 0 + 0 ≤ kE (n + 2) m; omega, by show 0 + 0 + sE (n + 2) m + 0 + 0 ≤ sE (n + 2) m; omega⟩ (fun r u' hq => ?_)
  obtain ⟨rfl, f2, rfl, e1, e2, e3⟩ := hq
  refine j_pop h dJ5_append_c97b9_33 rfl ?_
  refine j_goto h (tgt := 48) dJ5_append_c97b9_34 (by decide) ?_
  refine j_aload_n h dJ5_append_c97b9_48 rfl 2 rfl ?_
  refine j_iload_n h dJ5_append_c97b9_49 rfl 0 rfl ?_
  refine j_put h inlJ4 tyJ4 tyJ4_ok nmJ4 q0 (hB.2.1 _) rfl 3 (by decide) (xr_12 15 rfl) rfl rfl (v := .int (nI (n + 2))) rfl rfl (Nat.le_of_ble_eq_true rfl) dJ5_append_c97b9_50 (u' := put (ml, (nI (n + 2)), a1, sb_cap (n + 2) m, f2)) (hB.s0 (v := (ml, nI n, a1, sb_cap (n + 2) m, f2)) (v' := (ml, (nI (n + 2)), a1, sb_cap (n + 2) m, f2)) rfl rfl rfl) ?_
  refine j_aload_n h dJ5_append_c97b9_53 rfl 2 rfl ?_
  refine j_widen h (k := kE (n + 2) m) (n := sE (n + 2) m) (by show 0 + 0 + kE (n + 2) m + 0 + 0 ≤ kE (n + 2) m; omega) (by show 0 + 0 + sE (n + 2) m + 0 + 0 ≤ sE (n + 2) m; omega) ?_
  exact hR _ _ _ _ dJ5_append_c97b9_54 ⟨rfl, a1, f2, rfl, fun j hj => (e1 j hj).trans (hk1 j (by omega)), e2, e3⟩


theorem c_J4_append_bf812_2 (l : Launch) (D : gD) (cy : Nat → ClassId) {S : Type} {Wd : S → va_W} {p q0 q1 : Nat} {put : sbV → S} (hB : SBL cy Wd p q0 q1 put) (ml : Int32) {n : Nat} (a : Nat) {m : Nat} {f : Nat → Int32} {v : Nat} (h0 : 10 ≤ v) (h1 : v < 100) (hnm : n ≤ m) (hm : m ≤ 32766) (hf : sb_Fit f) : CtA l D cy Wd yJ4_append_bf812 cJ4_append_bf812 2 (some (.object "java/lang/StringBuilder")) (rm_J4_append_bf812 (n + 2) m) [.ref p, .int (nI v)] (put (ml, nI n, a, m, f)) (fun r u' => r = p ∧ ∃ (a1 : Nat) (f1 : Nat → Int32), u' = put (ml, nI (n + 2), a1, sb_cap (n + 2) m, f1) ∧ (∀ j, j < n → f1 j = f j) ∧ (∀ i, i < 2 → f1 (n + i) = sb_b (sb_dec v i)) ∧ sb_Fit f1) (kE (n + 2) m) (sE (n + 2) m) := by
  refine m_entA cJ4_append_bf812 2 (by decide) (Nat.le_of_ble_eq_true rfl) (fun J h hR => ?_)
  show J (put (ml, nI n, a, m, f)) (0, 0) [(0, .ref p), (1, .int (nI v))] 0 []
  refine j_aload_n h dJ4_append_bf812_0 rfl 0 rfl ?_
  refine j_iload_n h dJ4_append_bf812_1 rfl 1 rfl ?_
  refine j_supA h (n := 1) (c_J5_append_c97b9_2 l D cy hB ml a h0 h1 hnm hm hf) (xg_SU (xr_34 8 rfl) (xr_34 9 rfl) (xr_12 12 rfl) (xr_34 10 rfl) (xr_5 3 rfl) (xr_34 11 rfl)) rfl rfl (xr_2 3 rfl) (by decide +kernel) ⟨Nat.le_of_ble_eq_true rfl, Nat.le_of_ble_eq_true rfl⟩ q0 (hB.2.1 _) rfl rfl rfl rfl (Nat.le_of_ble_eq_true rfl) dJ4_append_bf812_2 ⟨by show 0 + kE (n + 2) m ≤ kE (n + 2) m; omega, by show 0 + sE (n + 2) m ≤ sE (n + 2) m; omega⟩ (fun r u' hq => ?_)
  obtain ⟨rfl, hq⟩ := hq
  refine j_pop h dJ4_append_bf812_5 rfl ?_
  refine j_aload_n h dJ4_append_bf812_6 rfl 0 rfl ?_
  refine j_widen h (k := kE (n + 2) m) (n := sE (n + 2) m) (by show 0 + kE (n + 2) m ≤ kE (n + 2) m; omega) (by show 0 + sE (n + 2) m ≤ sE (n + 2) m; omega) ?_
  exact hR _ _ _ _ dJ4_append_bf812_7 ⟨rfl, hq⟩


theorem c_J5_append_c97b9_3 (l : Launch) (D : gD) (cy : Nat → ClassId) {S : Type} {Wd : S → va_W} {p q0 q1 : Nat} {put : sbV → S} (hB : SBL cy Wd p q0 q1 put) (ml : Int32) {n : Nat} (a : Nat) {m : Nat} {f : Nat → Int32} {v : Nat} (h0 : 100 ≤ v) (h1 : v < 1000) (hnm : n ≤ m) (hm : m ≤ 32766) (hf : sb_Fit f) : CtA l D cy Wd yJ5_append_c97b9 cJ5_append_c97b9 4 (some (.object "java/lang/AbstractStringBuilder")) (rm_J5_append_c97b9 (n + 3) m) [.ref p, .int (nI v)] (put (ml, nI n, a, m, f)) (fun r u' => r = p ∧ ∃ (a1 : Nat) (f1 : Nat → Int32), u' = put (ml, nI (n + 3), a1, sb_cap (n + 3) m, f1) ∧ (∀ j, j < n → f1 j = f j) ∧ (∀ i, i < 3 → f1 (n + i) = sb_b (sb_dec v i)) ∧ sb_Fit f1) (kE (n + 3) m) (sE (n + 3) m) := by
  refine m_entA cJ5_append_c97b9 4 (by decide) (Nat.le_of_ble_eq_true rfl) (fun J h hR => ?_)
  show J (put (ml, nI n, a, m, f)) (0, 0) [(0, .ref p), (1, .int (nI v))] 0 []
  have hg := sb_cap_ge (n + 3) m
  have hcl : sb_cap (n + 3) m ≤ 65536 := cap_le hm (by omega)
  refine j_aload_n h dJ5_append_c97b9_0 rfl 0 rfl ?_
  refine j_get h inlJ4 q0 (hB.2.1 _) rfl 3 (by decide) (xr_12 15 rfl) rfl (v := .int (nI n)) rfl dJ5_append_c97b9_1 ?_
  refine j_istore_n h (lv' := [(2, _), (0, _), (1, _)]) dJ5_append_c97b9_4 rfl (by decide) rfl ?_
  refine j_iload_n h dJ5_append_c97b9_5 rfl 0 rfl ?_
  refine j_iload_n h dJ5_append_c97b9_6 rfl 2 rfl ?_
  refine j_callS h (n := 1) (c_J6_stringSize_3 l D cy _ h0 h1) (xg_S (xr_34 12 rfl) (xr_34 13 rfl) (xr_34 14 rfl) (xr_34 15 rfl)) rfl rfl (by decide +kernel) ⟨Nat.le_of_ble_eq_true rfl, Nat.le_of_ble_eq_true rfl⟩ rfl rfl (Nat.le_of_ble_eq_true rfl) dJ5_append_c97b9_7 ⟨Nat.zero_le _, Nat.zero_le _⟩ (fun r u' hq => ?_)
  obtain ⟨rfl, rfl⟩ := hq
  refine j_iadd h dJ5_append_c97b9_10 ?_
  rw [show ((nI n) + 3 : Int32) = nI (n + 3) from (nI_add n 3)]
  refine j_istore_n h (lv' := [(3, _), (2, _), (0, _), (1, _)]) dJ5_append_c97b9_11 rfl (by decide) rfl ?_
  refine j_aload_n h dJ5_append_c97b9_12 rfl 2 rfl ?_
  refine j_iload_n h dJ5_append_c97b9_13 rfl 0 rfl ?_
  refine j_prvV h (n := 1) (c_J5_ensureCapacityInternal_d00df l D cy hB ml (nI n) a (q := n + 3) hm (by omega) hf) (xg_U (xr_13 4 rfl) (xr_13 5 rfl) (xr_13 6 rfl) (xr_13 7 rfl) (xr_5 3 rfl) (xr_13 8 rfl)) rfl rfl (by decide +kernel) ⟨Nat.le_of_ble_eq_true rfl, Nat.le_of_ble_eq_true rfl⟩ q0 (hB.2.1 _) rfl rfl rfl rfl (Nat.le_of_ble_eq_true rfl) dJ5_append_c97b9_14 ⟨by show 0 + 0 + kE (n + 3) m ≤ kE (n + 3) m; omega, by show 0 + 0 + sE (n + 3) m ≤ sE (n + 3) m; omega⟩ (fun u' hq => ?_)
  obtain ⟨a1, f1, rfl, hk1, hf1⟩ := hq
  refine j_aload_n h dJ5_append_c97b9_17 rfl 2 rfl ?_
  refine j_prvI h (n := 0) (c_J5_isLatin1_aae02 l D cy hB ml (nI n) a1 (sb_cap (n + 3) m) f1) (xg_U (xr_14 15 rfl) (xr_14 16 rfl) (xr_14 17 rfl) (xr_14 18 rfl) (xr_5 3 rfl) (xr_14 19 rfl)) rfl rfl (by decide +kernel) ⟨Nat.le_of_ble_eq_true rfl, Nat.le_of_ble_eq_true rfl⟩ q0 (hB.2.1 _) rfl rfl rfl rfl (Nat.le_of_ble_eq_true rfl) dJ5_append_c97b9_18 ⟨by show 0 + 0 + kE (n + 3) m + 0 ≤ kE (n + 3) m; omega, by show 0 + 0 + sE (n + 3) m + 0 ≤ sE (n + 3) m; omega⟩ (fun r u' hq => ?_)
  obtain ⟨rfl, rfl⟩ := hq
  refine j_if_eq h (tgt := 37) dJ5_append_c97b9_21 (by decide) (fun c => absurd c (by decide)) (fun _ => ?_)
  refine j_iload_n h dJ5_append_c97b9_24 rfl 3 rfl ?_
  refine j_iload_n h dJ5_append_c97b9_25 rfl 0 rfl ?_
  refine j_aload_n h dJ5_append_c97b9_26 rfl 2 rfl ?_
  refine j_get h inlJ4 q0 (hB.2.1 _) rfl 0 (by decide) (xr_5 8 rfl) rfl (v := .ref a1) rfl dJ5_append_c97b9_27 ?_
  refine j_callS h (n := 3) (c_J6_getChars_3 l D cy hB ml (nI n) a1 (m := sb_cap (n + 3) m) (f := f1) h0 h1 hg hcl hf1) (xg_S (xr_34 16 rfl) (xr_34 17 rfl) (xr_34 14 rfl) (xr_34 18 rfl)) rfl rfl (by decide +kernel) ⟨Nat.le_of_ble_eq_true rfl, Nat.le_of_ble_eq_true rfl⟩ rfl rfl (Nat.le_of_ble_eq_true rfl) dJ5_append_c97b9_30 ⟨by show 0 + 0 + kE (n + 3) m + 0 + 0 ≤ kE (n + 3) m; omega, by show 0 + 0 + sE (n + 3) m + 0 + 0 ≤ sE (n + 3) m; omega⟩ (fun r u' hq => ?_)
  obtain ⟨rfl, f2, rfl, e1, e2, e3⟩ := hq
  refine j_pop h dJ5_append_c97b9_33 rfl ?_
  refine j_goto h (tgt := 48) dJ5_append_c97b9_34 (by decide) ?_
  refine j_aload_n h dJ5_append_c97b9_48 rfl 2 rfl ?_
  refine j_iload_n h dJ5_append_c97b9_49 rfl 0 rfl ?_
  refine j_put h inlJ4 tyJ4 tyJ4_ok nmJ4 q0 (hB.2.1 _) rfl 3 (by decide) (xr_12 15 rfl) rfl rfl (v := .int (nI (n + 3))) rfl rfl (Nat.le_of_ble_eq_true rfl) dJ5_append_c97b9_50 (u' := put (ml, (nI (n + 3)), a1, sb_cap (n + 3) m, f2)) (hB.s0 (v := (ml, nI n, a1, sb_cap (n + 3) m, f2)) (v' := (ml, (nI (n + 3)), a1, sb_cap (n + 3) m, f2)) rfl rfl rfl) ?_
  refine j_aload_n h dJ5_append_c97b9_53 rfl 2 rfl ?_
  refine j_widen h (k := kE (n + 3) m) (n := sE (n + 3) m) (by show 0 + 0 + kE (n + 3) m + 0 + 0 ≤ kE (n + 3) m; omega) (by show 0 + 0 + sE (n + 3) m + 0 + 0 ≤ sE (n + 3) m; omega) ?_
  exact hR _ _ _ _ dJ5_append_c97b9_54 ⟨rfl, a1, f2, rfl, fun j hj => (e1 j hj).trans (hk1 j (by omega)), e2, e3⟩


theorem c_J4_append_bf812_3 (l : Launch) (D : gD) (cy : Nat → ClassId) {S : Type} {Wd : S → va_W} {p q0 q1 : Nat} {put : sbV → S} (hB : SBL cy Wd p q0 q1 put) (ml : Int32) {n : Nat} (a : Nat) {m : Nat} {f : Nat → Int32} {v : Nat} (h0 : 100 ≤ v) (h1 : v < 1000) (hnm : n ≤ m) (hm : m ≤ 32766) (hf : sb_Fit f) : CtA l D cy Wd yJ4_append_bf812 cJ4_append_bf812 2 (some (.object "java/lang/StringBuilder")) (rm_J4_append_bf812 (n + 3) m) [.ref p, .int (nI v)] (put (ml, nI n, a, m, f)) (fun r u' => r = p ∧ ∃ (a1 : Nat) (f1 : Nat → Int32), u' = put (ml, nI (n + 3), a1, sb_cap (n + 3) m, f1) ∧ (∀ j, j < n → f1 j = f j) ∧ (∀ i, i < 3 → f1 (n + i) = sb_b (sb_dec v i)) ∧ sb_Fit f1) (kE (n + 3) m) (sE (n + 3) m) := by
  refine m_entA cJ4_append_bf812 2 (by decide) (Nat.le_of_ble_eq_true rfl) (fun J h hR => ?_)
  show J (put (ml, nI n, a, m, f)) (0, 0) [(0, .ref p), (1, .int (nI v))] 0 []
  refine j_aload_n h dJ4_append_bf812_0 rfl 0 rfl ?_
  refine j_iload_n h dJ4_append_bf812_1 rfl 1 rfl ?_
  refine j_supA h (n := 1) (c_J5_append_c97b9_3 l D cy hB ml a h0 h1 hnm hm hf) (xg_SU (xr_34 8 rfl) (xr_34 9 rfl) (xr_12 12 rfl) (xr_34 10 rfl) (xr_5 3 rfl) (xr_34 11 rfl)) rfl rfl (xr_2 3 rfl) (by decide +kernel) ⟨Nat.le_of_ble_eq_true rfl, Nat.le_of_ble_eq_true rfl⟩ q0 (hB.2.1 _) rfl rfl rfl rfl (Nat.le_of_ble_eq_true rfl) dJ4_append_bf812_2 ⟨by show 0 + kE (n + 3) m ≤ kE (n + 3) m; omega, by show 0 + sE (n + 3) m ≤ sE (n + 3) m; omega⟩ (fun r u' hq => ?_)
  obtain ⟨rfl, hq⟩ := hq
  refine j_pop h dJ4_append_bf812_5 rfl ?_
  refine j_aload_n h dJ4_append_bf812_6 rfl 0 rfl ?_
  refine j_widen h (k := kE (n + 3) m) (n := sE (n + 3) m) (by show 0 + kE (n + 3) m ≤ kE (n + 3) m; omega) (by show 0 + sE (n + 3) m ≤ sE (n + 3) m; omega) ?_
  exact hR _ _ _ _ dJ4_append_bf812_7 ⟨rfl, hq⟩


theorem c_J5_append_c97b9_4 (l : Launch) (D : gD) (cy : Nat → ClassId) {S : Type} {Wd : S → va_W} {p q0 q1 : Nat} {put : sbV → S} (hB : SBL cy Wd p q0 q1 put) (ml : Int32) {n : Nat} (a : Nat) {m : Nat} {f : Nat → Int32} {v : Nat} (h0 : 1000 ≤ v) (h1 : v < 10000) (hnm : n ≤ m) (hm : m ≤ 32766) (hf : sb_Fit f) : CtA l D cy Wd yJ5_append_c97b9 cJ5_append_c97b9 4 (some (.object "java/lang/AbstractStringBuilder")) (rm_J5_append_c97b9 (n + 4) m) [.ref p, .int (nI v)] (put (ml, nI n, a, m, f)) (fun r u' => r = p ∧ ∃ (a1 : Nat) (f1 : Nat → Int32), u' = put (ml, nI (n + 4), a1, sb_cap (n + 4) m, f1) ∧ (∀ j, j < n → f1 j = f j) ∧ (∀ i, i < 4 → f1 (n + i) = sb_b (sb_dec v i)) ∧ sb_Fit f1) (kE (n + 4) m) (sE (n + 4) m) := by
  refine m_entA cJ5_append_c97b9 4 (by decide) (Nat.le_of_ble_eq_true rfl) (fun J h hR => ?_)
  show J (put (ml, nI n, a, m, f)) (0, 0) [(0, .ref p), (1, .int (nI v))] 0 []
  have hg := sb_cap_ge (n + 4) m
  have hcl : sb_cap (n + 4) m ≤ 65536 := cap_le hm (by omega)
  refine j_aload_n h dJ5_append_c97b9_0 rfl 0 rfl ?_
  refine j_get h inlJ4 q0 (hB.2.1 _) rfl 3 (by decide) (xr_12 15 rfl) rfl (v := .int (nI n)) rfl dJ5_append_c97b9_1 ?_
  refine j_istore_n h (lv' := [(2, _), (0, _), (1, _)]) dJ5_append_c97b9_4 rfl (by decide) rfl ?_
  refine j_iload_n h dJ5_append_c97b9_5 rfl 0 rfl ?_
  refine j_iload_n h dJ5_append_c97b9_6 rfl 2 rfl ?_
  refine j_callS h (n := 1) (c_J6_stringSize_4 l D cy _ h0 h1) (xg_S (xr_34 12 rfl) (xr_34 13 rfl) (xr_34 14 rfl) (xr_34 15 rfl)) rfl rfl (by decide +kernel) ⟨Nat.le_of_ble_eq_true rfl, Nat.le_of_ble_eq_true rfl⟩ rfl rfl (Nat.le_of_ble_eq_true rfl) dJ5_append_c97b9_7 ⟨Nat.zero_le _, Nat.zero_le _⟩ (fun r u' hq => ?_)
  obtain ⟨rfl, rfl⟩ := hq
  refine j_iadd h dJ5_append_c97b9_10 ?_
  rw [show ((nI n) + 4 : Int32) = nI (n + 4) from (nI_add n 4)]
  refine j_istore_n h (lv' := [(3, _), (2, _), (0, _), (1, _)]) dJ5_append_c97b9_11 rfl (by decide) rfl ?_
  refine j_aload_n h dJ5_append_c97b9_12 rfl 2 rfl ?_
  refine j_iload_n h dJ5_append_c97b9_13 rfl 0 rfl ?_
  refine j_prvV h (n := 1) (c_J5_ensureCapacityInternal_d00df l D cy hB ml (nI n) a (q := n + 4) hm (by omega) hf) (xg_U (xr_13 4 rfl) (xr_13 5 rfl) (xr_13 6 rfl) (xr_13 7 rfl) (xr_5 3 rfl) (xr_13 8 rfl)) rfl rfl (by decide +kernel) ⟨Nat.le_of_ble_eq_true rfl, Nat.le_of_ble_eq_true rfl⟩ q0 (hB.2.1 _) rfl rfl rfl rfl (Nat.le_of_ble_eq_true rfl) dJ5_append_c97b9_14 ⟨by show 0 + 0 + kE (n + 4) m ≤ kE (n + 4) m; omega, by show 0 + 0 + sE (n + 4) m ≤ sE (n + 4) m; omega⟩ (fun u' hq => ?_)
  obtain ⟨a1, f1, rfl, hk1, hf1⟩ := hq
  refine j_aload_n h dJ5_append_c97b9_17 rfl 2 rfl ?_
  refine j_prvI h (n := 0) (c_J5_isLatin1_aae02 l D cy hB ml (nI n) a1 (sb_cap (n + 4) m) f1) (xg_U (xr_14 15 rfl) (xr_14 16 rfl) (xr_14 17 rfl) (xr_14 18 rfl) (xr_5 3 rfl) (xr_14 19 rfl)) rfl rfl (by decide +kernel) ⟨Nat.le_of_ble_eq_true rfl, Nat.le_of_ble_eq_true rfl⟩ q0 (hB.2.1 _) rfl rfl rfl rfl (Nat.le_of_ble_eq_true rfl) dJ5_append_c97b9_18 ⟨by show 0 + 0 + kE (n + 4) m + 0 ≤ kE (n + 4) m; omega, by show 0 + 0 + sE (n + 4) m + 0 ≤ sE (n + 4) m; omega⟩ (fun r u' hq => ?_)
  obtain ⟨rfl, rfl⟩ := hq
  refine j_if_eq h (tgt := 37) dJ5_append_c97b9_21 (by decide) (fun c => absurd c (by decide)) (fun _ => ?_)
  refine j_iload_n h dJ5_append_c97b9_24 rfl 3 rfl ?_
  refine j_iload_n h dJ5_append_c97b9_25 rfl 0 rfl ?_
  refine j_aload_n h dJ5_append_c97b9_26 rfl 2 rfl ?_
  refine j_get h inlJ4 q0 (hB.2.1 _) rfl 0 (by decide) (xr_5 8 rfl) rfl (v := .ref a1) rfl dJ5_append_c97b9_27 ?_
  refine j_callS h (n := 3) (c_J6_getChars_4 l D cy hB ml (nI n) a1 (m := sb_cap (n + 4) m) (f := f1) h0 h1 hg hcl hf1) (xg_S (xr_34 16 rfl) (xr_34 17 rfl) (xr_34 14 rfl) (xr_34 18 rfl)) rfl rfl (by decide +kernel) ⟨Nat.le_of_ble_eq_true rfl, Nat.le_of_ble_eq_true rfl⟩ rfl rfl (Nat.le_of_ble_eq_true rfl) dJ5_append_c97b9_30 ⟨by show 0 + 0 + kE (n + 4) m + 0 + 0 ≤ kE (n + 4) m; omega, by show 0 + 0 + sE (n + 4) m + 0 + 0 ≤ sE (n + 4) m; omega⟩ (fun r u' hq => ?_)
  obtain ⟨rfl, f2, rfl, e1, e2, e3⟩ := hq
  refine j_pop h dJ5_append_c97b9_33 rfl ?_
  refine j_goto h (tgt := 48) dJ5_append_c97b9_34 (by decide) ?_
  refine j_aload_n h dJ5_append_c97b9_48 rfl 2 rfl ?_
  refine j_iload_n h dJ5_append_c97b9_49 rfl 0 rfl ?_
  refine j_put h inlJ4 tyJ4 tyJ4_ok nmJ4 q0 (hB.2.1 _) rfl 3 (by decide) (xr_12 15 rfl) rfl rfl (v := .int (nI (n + 4))) rfl rfl (Nat.le_of_ble_eq_true rfl) dJ5_append_c97b9_50 (u' := put (ml, (nI (n + 4)), a1, sb_cap (n + 4) m, f2)) (hB.s0 (v := (ml, nI n, a1, sb_cap (n + 4) m, f2)) (v' := (ml, (nI (n + 4)), a1, sb_cap (n + 4) m, f2)) rfl rfl rfl) ?_
  refine j_aload_n h dJ5_append_c97b9_53 rfl 2 rfl ?_
  refine j_widen h (k := kE (n + 4) m) (n := sE (n + 4) m) (by show 0 + 0 + kE (n + 4) m + 0 + 0 ≤ kE (n + 4) m; omega) (by show 0 + 0 + sE (n + 4) m + 0 + 0 ≤ sE (n + 4) m; omega) ?_
  exact hR _ _ _ _ dJ5_append_c97b9_54 ⟨rfl, a1, f2, rfl, fun j hj => (e1 j hj).trans (hk1 j (by omega)), e2, e3⟩


theorem c_J4_append_bf812_4 (l : Launch) (D : gD) (cy : Nat → ClassId) {S : Type} {Wd : S → va_W} {p q0 q1 : Nat} {put : sbV → S} (hB : SBL cy Wd p q0 q1 put) (ml : Int32) {n : Nat} (a : Nat) {m : Nat} {f : Nat → Int32} {v : Nat} (h0 : 1000 ≤ v) (h1 : v < 10000) (hnm : n ≤ m) (hm : m ≤ 32766) (hf : sb_Fit f) : CtA l D cy Wd yJ4_append_bf812 cJ4_append_bf812 2 (some (.object "java/lang/StringBuilder")) (rm_J4_append_bf812 (n + 4) m) [.ref p, .int (nI v)] (put (ml, nI n, a, m, f)) (fun r u' => r = p ∧ ∃ (a1 : Nat) (f1 : Nat → Int32), u' = put (ml, nI (n + 4), a1, sb_cap (n + 4) m, f1) ∧ (∀ j, j < n → f1 j = f j) ∧ (∀ i, i < 4 → f1 (n + i) = sb_b (sb_dec v i)) ∧ sb_Fit f1) (kE (n + 4) m) (sE (n + 4) m) := by
  refine m_entA cJ4_append_bf812 2 (by decide) (Nat.le_of_ble_eq_true rfl) (fun J h hR => ?_)
  show J (put (ml, nI n, a, m, f)) (0, 0) [(0, .ref p), (1, .int (nI v))] 0 []
  refine j_aload_n h dJ4_append_bf812_0 rfl 0 rfl ?_
  refine j_iload_n h dJ4_append_bf812_1 rfl 1 rfl ?_
  refine j_supA h (n := 1) (c_J5_append_c97b9_4 l D cy hB ml a h0 h1 hnm hm hf) (xg_SU (xr_34 8 rfl) (xr_34 9 rfl) (xr_12 12 rfl) (xr_34 10 rfl) (xr_5 3 rfl) (xr_34 11 rfl)) rfl rfl (xr_2 3 rfl) (by decide +kernel) ⟨Nat.le_of_ble_eq_true rfl, Nat.le_of_ble_eq_true rfl⟩ q0 (hB.2.1 _) rfl rfl rfl rfl (Nat.le_of_ble_eq_true rfl) dJ4_append_bf812_2 ⟨by show 0 + kE (n + 4) m ≤ kE (n + 4) m; omega, by show 0 + sE (n + 4) m ≤ sE (n + 4) m; omega⟩ (fun r u' hq => ?_)
  obtain ⟨rfl, hq⟩ := hq
  refine j_pop h dJ4_append_bf812_5 rfl ?_
  refine j_aload_n h dJ4_append_bf812_6 rfl 0 rfl ?_
  refine j_widen h (k := kE (n + 4) m) (n := sE (n + 4) m) (by show 0 + kE (n + 4) m ≤ kE (n + 4) m; omega) (by show 0 + sE (n + 4) m ≤ sE (n + 4) m; omega) ?_
  exact hR _ _ _ _ dJ4_append_bf812_7 ⟨rfl, hq⟩

theorem c_J4_append_bf812 (l : Launch) (D : gD) (cy : Nat → ClassId) {S : Type} {Wd : S → va_W} {p q0 q1 : Nat} {put : sbV → S} (hB : SBL cy Wd p q0 q1 put) (ml : Int32) {n : Nat} (a : Nat) {m : Nat} {f : Nat → Int32} {v : Nat} (hv : v < 10000) (hnm : n ≤ m) (hm : m ≤ 32766) (hf : sb_Fit f) : CtA l D cy Wd yJ4_append_bf812 cJ4_append_bf812 2 (some (.object "java/lang/StringBuilder")) (rm_J4_append_bf812 (n + sb_dg v) m) [.ref p, .int (nI v)] (put (ml, nI n, a, m, f)) (fun r u' => r = p ∧ ∃ (a1 : Nat) (f1 : Nat → Int32), u' = put (ml, nI (n + sb_dg v), a1, sb_cap (n + sb_dg v) m, f1) ∧ (∀ j, j < n → f1 j = f j) ∧ (∀ i, i < sb_dg v → f1 (n + i) = sb_b (sb_dec v i)) ∧ sb_Fit f1) (kE (n + sb_dg v) m) (sE (n + sb_dg v) m) := by
  have hd : (sb_dg v = 1 ∧ v < 10) ∨ (sb_dg v = 2 ∧ 10 ≤ v ∧ v < 100) ∨ (sb_dg v = 3 ∧ 100 ≤ v ∧ v < 1000) ∨ (sb_dg v = 4 ∧ 1000 ≤ v ∧ v < 10000) := by
    unfold sb_dg
    (repeat' split) <;> omega
  rcases hd with ⟨e, h1⟩ | ⟨e, h0, h1⟩ | ⟨e, h0, h1⟩ | ⟨e, h0, h1⟩
  · rw [e]; exact c_J4_append_bf812_1 l D cy hB ml a (Nat.zero_le _) h1 hnm hm hf
  · rw [e]; exact c_J4_append_bf812_2 l D cy hB ml a h0 h1 hnm hm hf
  · rw [e]; exact c_J4_append_bf812_3 l D cy hB ml a h0 h1 hnm hm hf
  · rw [e]; exact c_J4_append_bf812_4 l D cy hB ml a h0 h1 hnm hm hf

theorem nar_b (c : Nat) : vp_nar .byte (sb_b c) = sb_b c := by
  unfold sb_b
  rw [pk_vb]
theorem cap_le {q m : Nat} (hm : m ≤ 32766) (hq : q ≤ 65536) : sb_cap q m ≤ 65536 := by
  unfold sb_cap
  split
  · omega
  · split <;> omega
abbrev rm_J5_append_3fe6f (n m : Nat) : Room := { frames := 4, cells := kE (n + 1) m, slots := sE (n + 1) m, locals := 108 }
theorem c_J5_append_3fe6f (l : Launch) (D : gD) (cy : Nat → ClassId) {S : Type} {Wd : S → va_W} {p q0 q1 : Nat} {put : sbV → S} (hB : SBL cy Wd p q0 q1 put) (ml : Int32) {n : Nat} (a : Nat) {m : Nat} {f : Nat → Int32} {ch : Nat} (hc : ch < 256) (hnm : n ≤ m) (hm : m ≤ 32766) (hf : sb_Fit f) : CtA l D cy Wd yJ5_append_3fe6f cJ5_append_3fe6f 2 (some (.object "java/lang/AbstractStringBuilder")) (rm_J5_append_3fe6f n m) [.ref p, .int (nI ch)] (put (ml, nI n, a, m, f)) (fun r u' => r = p ∧ ∃ (a1 : Nat) (f1 : Nat → Int32), u' = put (ml, nI (n + 1), a1, sb_cap (n + 1) m, f1) ∧ (∀ j, j < n → f1 j = f j) ∧ f1 n = sb_b ch ∧ sb_Fit f1) (kE (n + 1) m) (sE (n + 1) m) := by
  refine m_entA cJ5_append_3fe6f 2 (by decide) (Nat.le_of_ble_eq_true rfl) (fun J h hR => ?_)
  show J (put (ml, nI n, a, m, f)) (0, 0) [(0, .ref p), (1, .int (nI ch))] 0 []
  have hg := sb_cap_ge (n + 1) m
  have hcl : sb_cap (n + 1) m ≤ 65536 := cap_le hm (by omega)
  refine j_aload_n h dJ5_append_3fe6f_0 rfl 0 rfl ?_
  refine j_aload_n h dJ5_append_3fe6f_1 rfl 0 rfl ?_
  refine j_get h inlJ4 q0 (hB.2.1 _) rfl 3 (by decide) (xr_12 15 rfl) rfl (v := .int (nI n)) rfl dJ5_append_3fe6f_2 ?_
  refine j_iconst h (v := 1) dJ5_append_3fe6f_5 (by decide) ?_
  refine j_iadd h dJ5_append_3fe6f_6 ?_
  rw [show ((nI n) + 1 : Int32) = nI (n + 1) from (nI_1 n)]
  refine j_prvV h (n := 1) (c_J5_ensureCapacityInternal_d00df l D cy hB ml (nI n) a (q := n + 1) hm (by omega) hf) (xg_U (xr_13 4 rfl) (xr_13 5 rfl) (xr_13 6 rfl) (xr_13 7 rfl) (xr_5 3 rfl) (xr_13 8 rfl)) rfl rfl (by decide +kernel) ⟨Nat.le_of_ble_eq_true rfl, Nat.le_of_ble_eq_true rfl⟩ q0 (hB.2.1 _) rfl rfl rfl rfl (Nat.le_of_ble_eq_true rfl) dJ5_append_3fe6f_7 ⟨by show 0 + kE (n + 1) m ≤ kE (n + 1) m; omega, by show 0 + sE (n + 1) m ≤ sE (n + 1) m; omega⟩ (fun u' hq => ?_)
  obtain ⟨a1, f1, rfl, hk1, hf1⟩ := hq
  refine j_aload_n h dJ5_append_3fe6f_10 rfl 0 rfl ?_
  refine j_prvI h (n := 0) (c_J5_isLatin1_aae02 l D cy hB ml (nI n) a1 (sb_cap (n + 1) m) f1) (xg_U (xr_14 15 rfl) (xr_14 16 rfl) (xr_14 17 rfl) (xr_14 18 rfl) (xr_5 3 rfl) (xr_14 19 rfl)) rfl rfl (by decide +kernel) ⟨Nat.le_of_ble_eq_true rfl, Nat.le_of_ble_eq_true rfl⟩ q0 (hB.2.1 _) rfl rfl rfl rfl (Nat.le_of_ble_eq_true rfl) dJ5_append_3fe6f_11 ⟨by show 0 + kE (n + 1) m + 0 ≤ kE (n + 1) m; omega, by show 0 + sE (n + 1) m + 0 ≤ sE (n + 1) m; omega⟩ (fun r u' hq => ?_)
  obtain ⟨rfl, rfl⟩ := hq
  refine j_if_eq h (tgt := 45) dJ5_append_3fe6f_14 (by decide) (fun c => absurd c (by decide)) (fun _ => ?_)
  refine j_iload_n h dJ5_append_3fe6f_17 rfl 1 rfl ?_
  refine j_callS h (n := 1) (c_J1_canEncode_fc78d l D cy _ (nI_nlt (b := ch) (by omega) (by decide) : ¬ nI 255 < nI ch)) (xg_S (xr_14 20 rfl) (xr_14 21 rfl) (xr_14 22 rfl) (xr_14 23 rfl)) rfl rfl (by decide +kernel) ⟨Nat.le_of_ble_eq_true rfl, Nat.le_of_ble_eq_true rfl⟩ rfl rfl (Nat.le_of_ble_eq_true rfl) dJ5_append_3fe6f_18 ⟨by show 0 + kE (n + 1) m + 0 + 0 ≤ kE (n + 1) m; omega, by show 0 + sE (n + 1) m + 0 + 0 ≤ sE (n + 1) m; omega⟩ (fun r u' hq => ?_)
  obtain ⟨rfl, rfl⟩ := hq
  refine j_if_eq h (tgt := 45) dJ5_append_3fe6f_21 (by decide) (fun c => absurd c (by decide)) (fun _ => ?_)
  refine j_aload_n h dJ5_append_3fe6f_24 rfl 0 rfl ?_
  refine j_get h inlJ4 q0 (hB.2.1 _) rfl 0 (by decide) (xr_5 8 rfl) rfl (v := .ref a1) rfl dJ5_append_3fe6f_25 ?_
  refine j_aload_n h dJ5_append_3fe6f_28 rfl 0 rfl ?_
  refine j_dup h dJ5_append_3fe6f_29 rfl ?_
  refine j_get h inlJ4 q0 (hB.2.1 _) rfl 3 (by decide) (xr_12 15 rfl) rfl (v := .int (nI n)) rfl dJ5_append_3fe6f_30 ?_
  refine j_dup_x1 h dJ5_append_3fe6f_33 rfl rfl ?_
  refine j_iconst h (v := 1) dJ5_append_3fe6f_34 (by decide) ?_
  refine j_iadd h dJ5_append_3fe6f_35 ?_
  rw [show ((nI n) + 1 : Int32) = nI (n + 1) from (nI_1 n)]
  refine j_put h inlJ4 tyJ4 tyJ4_ok nmJ4 q0 (hB.2.1 _) rfl 3 (by decide) (xr_12 15 rfl) rfl rfl (v := .int (nI (n + 1))) rfl rfl (Nat.le_of_ble_eq_true rfl) dJ5_append_3fe6f_36 (u' := put (ml, (nI (n + 1)), a1, sb_cap (n + 1) m, f1)) (hB.s0 (v := (ml, nI n, a1, sb_cap (n + 1) m, f1)) (v' := (ml, (nI (n + 1)), a1, sb_cap (n + 1) m, f1)) rfl rfl rfl) ?_
  refine j_iload_n h dJ5_append_3fe6f_39 rfl 1 rfl ?_
  refine j_i2b h (v := sb_b ch) dJ5_append_3fe6f_40 rfl ?_
  refine j_bast h q1 (hB.2.2.1 _) (vp_in_nI (n := n) (by show n < sb_cap (n + 1) m; omega) (by show sb_cap (n + 1) m < 2 ^ 31; omega)) dJ5_append_3fe6f_41 (u' := put (ml, nI (n + 1), a1, sb_cap (n + 1) m, upd f1 n (sb_b ch))) (by rw [nI_clamp (n := n) (by omega), nar_b]; exact hB.s1) ?_
  refine j_goto h (tgt := 75) dJ5_append_3fe6f_42 (by decide) ?_
  refine j_aload_n h dJ5_append_3fe6f_75 rfl 0 rfl ?_
  refine j_widen h (k := kE (n + 1) m) (n := sE (n + 1) m) (by show 0 + kE (n + 1) m + 0 + 0 ≤ kE (n + 1) m; omega) (by show 0 + sE (n + 1) m + 0 + 0 ≤ sE (n + 1) m; omega) ?_
  exact hR _ _ _ _ dJ5_append_3fe6f_76 ⟨rfl, a1, _, rfl, fun j hj => by rw [pk_un (by omega)]; exact hk1 j (by omega), pk_us, sb_fitU hf1 (sb_fitB ch)⟩

abbrev rm_J4_append_cf468 (n m : Nat) : Room := { frames := 5, cells := kE (n + 1) m, slots := sE (n + 1) m, locals := 129 }
theorem c_J4_append_cf468 (l : Launch) (D : gD) (cy : Nat → ClassId) {S : Type} {Wd : S → va_W} {p q0 q1 : Nat} {put : sbV → S} (hB : SBL cy Wd p q0 q1 put) (ml : Int32) {n : Nat} (a : Nat) {m : Nat} {f : Nat → Int32} {ch : Nat} (hc : ch < 256) (hnm : n ≤ m) (hm : m ≤ 32766) (hf : sb_Fit f) : CtA l D cy Wd yJ4_append_cf468 cJ4_append_cf468 2 (some (.object "java/lang/StringBuilder")) (rm_J4_append_cf468 n m) [.ref p, .int (nI ch)] (put (ml, nI n, a, m, f)) (fun r u' => r = p ∧ ∃ (a1 : Nat) (f1 : Nat → Int32), u' = put (ml, nI (n + 1), a1, sb_cap (n + 1) m, f1) ∧ (∀ j, j < n → f1 j = f j) ∧ f1 n = sb_b ch ∧ sb_Fit f1) (kE (n + 1) m) (sE (n + 1) m) := by
  refine m_entA cJ4_append_cf468 2 (by decide) (Nat.le_of_ble_eq_true rfl) (fun J h hR => ?_)
  show J (put (ml, nI n, a, m, f)) (0, 0) [(0, .ref p), (1, .int (nI ch))] 0 []
  refine j_aload_n h dJ4_append_cf468_0 rfl 0 rfl ?_
  refine j_iload_n h dJ4_append_cf468_1 rfl 1 rfl ?_
  refine j_supA h (n := 1) (c_J5_append_3fe6f l D cy hB ml a hc hnm hm hf) (xg_SU (xr_13 0 rfl) (xr_13 1 rfl) (xr_12 12 rfl) (xr_13 2 rfl) (xr_5 3 rfl) (xr_13 3 rfl)) rfl rfl (xr_2 3 rfl) (by decide +kernel) ⟨Nat.le_of_ble_eq_true rfl, Nat.le_of_ble_eq_true rfl⟩ q0 (hB.2.1 _) rfl rfl rfl rfl (Nat.le_of_ble_eq_true rfl) dJ4_append_cf468_2 ⟨by show 0 + kE (n + 1) m ≤ kE (n + 1) m; omega, by show 0 + sE (n + 1) m ≤ sE (n + 1) m; omega⟩ (fun r u' hq => ?_)
  obtain ⟨rfl, hq⟩ := hq
  refine j_pop h dJ4_append_cf468_5 rfl ?_
  refine j_aload_n h dJ4_append_cf468_6 rfl 0 rfl ?_
  refine j_widen h (k := kE (n + 1) m) (n := sE (n + 1) m) (by show 0 + kE (n + 1) m ≤ kE (n + 1) m; omega) (by show 0 + sE (n + 1) m ≤ sE (n + 1) m; omega) ?_
  exact hR _ _ _ _ dJ4_append_cf468_7 ⟨rfl, hq⟩

abbrev rm_J5_setLength_d00df : Room := { frames := 4, cells := 0, slots := 0, locals := 108 }
theorem c_J5_setLength_d00df (l : Launch) (D : gD) (cy : Nat → ClassId) {S : Type} {Wd : S → va_W} {p q0 q1 : Nat} {put : sbV → S} (hB : SBL cy Wd p q0 q1 put) (ml : Int32) {n : Nat} (a : Nat) {m : Nat} {f : Nat → Int32} {k : Nat} (hkn : k ≤ n) (hnm : n ≤ m) (hm : m ≤ 32766) (hf : sb_Fit f) : CtV l D cy Wd yJ5_setLength_d00df cJ5_setLength_d00df 2 none rm_J5_setLength_d00df [.ref p, .int (nI k)] (put (ml, nI n, a, m, f)) (fun u' => ∃ (a1 : Nat) (f1 : Nat → Int32), u' = put (if n ≤ k then ml else 1, nI k, a1, m, f1) ∧ (∀ j, j < k → f1 j = f j) ∧ sb_Fit f1) 0 0 := by
  refine m_entV cJ5_setLength_d00df 2 (by decide) (Nat.le_of_ble_eq_true rfl) (fun J h hR => ?_)
  show J (put (ml, nI n, a, m, f)) (0, 0) [(0, .ref p), (1, .int (nI k))] 0 []
  have hkm : k ≤ m := Nat.le_trans hkn hnm
  refine j_iload_n h dJ5_setLength_d00df_0 rfl 1 rfl ?_
  refine j_if_ge h (tgt := 13) dJ5_setLength_d00df_1 (by decide) (fun _ => ?_) (fun c => absurd (Int32.not_lt.mp (nI_pos (by omega))) c)
  refine j_aload_n h dJ5_setLength_d00df_13 rfl 0 rfl ?_
  refine j_iload_n h dJ5_setLength_d00df_14 rfl 1 rfl ?_
  refine j_prvV h (n := 1) (c_J5_ensureCapacityInternal_d00df l D cy hB ml (nI n) a (q := k) hm (by omega) hf) (xg_U (xr_13 4 rfl) (xr_13 5 rfl) (xr_13 6 rfl) (xr_13 7 rfl) (xr_5 3 rfl) (xr_13 8 rfl)) rfl rfl (by decide +kernel) ⟨Nat.le_of_ble_eq_true rfl, Nat.le_of_ble_eq_true rfl⟩ q0 (hB.2.1 _) rfl rfl rfl rfl (Nat.le_of_ble_eq_true rfl) dJ5_setLength_d00df_15 ⟨by show 0 + kE k m ≤ 0; rw [kE, if_pos hkm]; exact Nat.le_refl _, by show 0 + sE k m ≤ 0; rw [sE, if_pos hkm]; exact Nat.le_refl _⟩ (fun u' hq => ?_)
  obtain ⟨a1, f1, rfl, hk1, hf1⟩ := hq
  rw [sb_cap, if_pos hkm]
  refine j_aload_n h dJ5_setLength_d00df_18 rfl 0 rfl ?_
  refine j_get h inlJ4 q0 (hB.2.1 _) rfl 3 (by decide) (xr_12 15 rfl) rfl (v := .int (nI n)) rfl dJ5_setLength_d00df_19 ?_
  refine j_iload_n h dJ5_setLength_d00df_22 rfl 1 rfl ?_
  refine j_icmp_ge h (tgt := 63) dJ5_setLength_d00df_23 (by decide) (fun _ => ?_) (fun c => absurd ((nI_leI (by omega) (by omega)).mpr hkn) c)
  by_cases hq : n ≤ k
  · refine j_aload_n h dJ5_setLength_d00df_63 rfl 0 rfl ?_
    refine j_get h inlJ4 q0 (hB.2.1 _) rfl 3 (by decide) (xr_12 15 rfl) rfl (v := .int (nI n)) rfl dJ5_setLength_d00df_64 ?_
    refine j_iload_n h dJ5_setLength_d00df_67 rfl 1 rfl ?_
    refine j_icmp_le h (tgt := 76) dJ5_setLength_d00df_68 (by decide) (fun _ => ?_) (fun c => absurd ((nI_leI (by omega) (by omega)).mpr hq) c)
    refine j_aload_n h dJ5_setLength_d00df_76 rfl 0 rfl ?_
    refine j_iload_n h dJ5_setLength_d00df_77 rfl 1 rfl ?_
    refine j_put h inlJ4 tyJ4 tyJ4_ok nmJ4 q0 (hB.2.1 _) rfl 3 (by decide) (xr_12 15 rfl) rfl rfl (v := .int (nI k)) rfl rfl (Nat.le_of_ble_eq_true rfl) dJ5_setLength_d00df_78 (u' := put (ml, (nI k), a1, m, f1)) (hB.s0 (v := (ml, nI n, a1, m, f1)) (v' := (ml, (nI k), a1, m, f1)) rfl rfl rfl) ?_
    refine j_widen h (k := 0) (n := 0) (by show 0 + kE k m ≤ 0; rw [kE, if_pos hkm]; exact Nat.le_refl _) (by show 0 + sE k m ≤ 0; rw [sE, if_pos hkm]; exact Nat.le_refl _) ?_
    exact hR _ _ _ dJ5_setLength_d00df_81 ⟨a1, f1, by rw [if_pos hq], fun j hj => hk1 j (by omega), hf1⟩
  · refine j_aload_n h dJ5_setLength_d00df_63 rfl 0 rfl ?_
    refine j_get h inlJ4 q0 (hB.2.1 _) rfl 3 (by decide) (xr_12 15 rfl) rfl (v := .int (nI n)) rfl dJ5_setLength_d00df_64 ?_
    refine j_iload_n h dJ5_setLength_d00df_67 rfl 1 rfl ?_
    refine j_icmp_le h (tgt := 76) dJ5_setLength_d00df_68 (by decide) (fun c => absurd ((nI_leI (by omega) (by omega)).mp c) hq) (fun _ => ?_)
    refine j_aload_n h dJ5_setLength_d00df_71 rfl 0 rfl ?_
    refine j_iconst h (v := 1) dJ5_setLength_d00df_72 (by decide) ?_
    refine j_put h inlJ4 tyJ4 tyJ4_ok nmJ4 q0 (hB.2.1 _) rfl 2 (by decide) (xr_28 0 rfl) rfl rfl (v := .int 1) rfl rfl (Nat.le_of_ble_eq_true rfl) dJ5_setLength_d00df_73 (u' := put (1, nI n, a1, m, f1)) (hB.s0 (v := (ml, nI n, a1, m, f1)) (v' := (1, nI n, a1, m, f1)) rfl rfl rfl) ?_
    refine j_aload_n h dJ5_setLength_d00df_76 rfl 0 rfl ?_
    refine j_iload_n h dJ5_setLength_d00df_77 rfl 1 rfl ?_
    refine j_put h inlJ4 tyJ4 tyJ4_ok nmJ4 q0 (hB.2.1 _) rfl 3 (by decide) (xr_12 15 rfl) rfl rfl (v := .int (nI k)) rfl rfl (Nat.le_of_ble_eq_true rfl) dJ5_setLength_d00df_78 (u' := put (1, (nI k), a1, m, f1)) (hB.s0 (v := (1, nI n, a1, m, f1)) (v' := (1, (nI k), a1, m, f1)) rfl rfl rfl) ?_
    refine j_widen h (k := 0) (n := 0) (by show 0 + kE k m ≤ 0; rw [kE, if_pos hkm]; exact Nat.le_refl _) (by show 0 + sE k m ≤ 0; rw [sE, if_pos hkm]; exact Nat.le_refl _) ?_
    exact hR _ _ _ dJ5_setLength_d00df_81 ⟨a1, f1, by rw [if_neg hq], fun j hj => hk1 j (by omega), hf1⟩

abbrev rm_J4_setLength_d00df : Room := { frames := 5, cells := 0, slots := 0, locals := 129 }
theorem c_J4_setLength_d00df (l : Launch) (D : gD) (cy : Nat → ClassId) {S : Type} {Wd : S → va_W} {p q0 q1 : Nat} {put : sbV → S} (hB : SBL cy Wd p q0 q1 put) (ml : Int32) {n : Nat} (a : Nat) {m : Nat} {f : Nat → Int32} {k : Nat} (hkn : k ≤ n) (hnm : n ≤ m) (hm : m ≤ 32766) (hf : sb_Fit f) : CtV l D cy Wd yJ4_setLength_d00df cJ4_setLength_d00df 2 none rm_J4_setLength_d00df [.ref p, .int (nI k)] (put (ml, nI n, a, m, f)) (fun u' => ∃ (a1 : Nat) (f1 : Nat → Int32), u' = put (if n ≤ k then ml else 1, nI k, a1, m, f1) ∧ (∀ j, j < k → f1 j = f j) ∧ sb_Fit f1) 0 0 := by
  refine m_entV cJ4_setLength_d00df 2 (by decide) (Nat.le_of_ble_eq_true rfl) (fun J h hR => ?_)
  show J (put (ml, nI n, a, m, f)) (0, 0) [(0, .ref p), (1, .int (nI k))] 0 []
  refine j_aload_n h dJ4_setLength_d00df_0 rfl 0 rfl ?_
  refine j_iload_n h dJ4_setLength_d00df_1 rfl 1 rfl ?_
  refine j_supV h (n := 1) (c_J5_setLength_d00df l D cy hB ml a hkn hnm hm hf) (xg_SU (xr_27 20 rfl) (xr_27 21 rfl) (xr_12 12 rfl) (xr_27 22 rfl) (xr_5 3 rfl) (xr_27 23 rfl)) rfl rfl (xr_2 3 rfl) (by decide +kernel) ⟨Nat.le_of_ble_eq_true rfl, Nat.le_of_ble_eq_true rfl⟩ q0 (hB.2.1 _) rfl rfl rfl rfl (Nat.le_of_ble_eq_true rfl) dJ4_setLength_d00df_2 ⟨by decide, by decide⟩ (fun u' hq => ?_)
  exact hR _ _ _ dJ4_setLength_d00df_5 hq


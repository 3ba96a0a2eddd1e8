abbrev rm_J6_getChars_ba4f3 : Room := { frames := 0, cells := 0, slots := 0, locals := 0 }
theorem nar_n (c : Nat) : vp_nar .byte (nI c) = sb_b c := by
  rw [vp_nar_byte]
  rfl

theorem c_J6_getChars_1 (l : Launch) (D : gD) (cy : Nat → ClassId) {S : Type} {Wd : S → va_W} {p q0 q1 : Nat} {put : sbV → S} (hB : SBL cy Wd p q0 q1 put) (ml nn : Int32) (a : Nat) {m : Nat} {f : Nat → Int32} {v n : Nat} (h0 : 0 ≤ v) (h1 : v < 10) (hn : n + 1 ≤ m) (hm : m ≤ 65536) (hf : sb_Fit f) : CtI l D cy Wd yJ6_getChars_ba4f3 cJ6_getChars_ba4f3 7 (some .int) rm_J6_getChars_ba4f3 [.int (nI v), .int (nI (n + 1)), .ref a] (put (ml, nn, a, m, f)) (fun r u' => r = nI n ∧ ∃ f1 : Nat → Int32, u' = put (ml, nn, a, m, f1) ∧ (∀ j, j < n → f1 j = f j) ∧ (∀ i, i < 1 → f1 (n + i) = sb_b (sb_dec v i)) ∧ sb_Fit f1) 0 0 := by
  refine m_entI cJ6_getChars_ba4f3 7 (by decide) (Nat.le_of_ble_eq_true rfl) (fun J h hR => ?_)
  show J (put (ml, nn, a, m, f)) (0, 0) [(0, .int (nI v)), (1, .int (nI (n + 1))), (2, .ref a)] 0 []
  refine j_iload_n h dJ6_getChars_ba4f3_0 rfl 1 rfl ?_
  refine j_istore h (lv' := [(5, _), (0, _), (1, _), (2, _)]) dJ6_getChars_ba4f3_1 (by decide) rfl ?_
  refine j_iload_n h dJ6_getChars_ba4f3_3 rfl 1 rfl ?_
  refine j_if_ge h (tgt := 11) dJ6_getChars_ba4f3_4 (by decide) (fun _ => ?_) (fun c => absurd (Int32.not_lt.mp (nI_pos (n := v) (by omega))) c)
  refine j_iconst h (v := 0) dJ6_getChars_ba4f3_11 (by decide) ?_
  refine j_istore h (lv' := [(6, _), (5, _), (0, _), (1, _), (2, _)]) dJ6_getChars_ba4f3_12 (by decide) rfl ?_
  refine j_iload h dJ6_getChars_ba4f3_14 0 rfl ?_
  refine j_if_ne h (tgt := 22) dJ6_getChars_ba4f3_16 (by decide) (fun c => absurd rfl c) (fun _ => ?_)
  refine j_iload_n h dJ6_getChars_ba4f3_19 rfl 2 rfl ?_
  refine j_ineg h dJ6_getChars_ba4f3_20 ?_
  refine j_istore_n h (lv' := [(0, _), (6, _), (5, _), (1, _), (2, _)]) dJ6_getChars_ba4f3_21 rfl (by decide) rfl ?_
  refine j_iload_n h dJ6_getChars_ba4f3_22 rfl 0 rfl ?_
  refine j_bipush h (v := (-100)) dJ6_getChars_ba4f3_23 (by decide) ?_
  refine j_icmp_gt h (tgt := 72) dJ6_getChars_ba4f3_25 (by decide) (fun _ => ?_) (fun c => absurd (show -nI 100 < -nI (v) from (sb_nlt (a := 100) (b := v) (by decide) (by omega)).mpr (by omega)) c)
  refine j_aload_n h dJ6_getChars_ba4f3_72 rfl 4 rfl ?_
  refine j_iinc h (v := nI (n + 0)) (lv' := [(5, _), (0, _), (6, _), (1, _), (2, _)]) dJ6_getChars_ba4f3_73 (k := 2) rfl (sb_m1 (p := n + 1) (by omega)) (by decide) rfl ?_
  refine j_iload h dJ6_getChars_ba4f3_76 0 rfl ?_
  refine j_digO h (xr_34 19 rfl) dJ6_getChars_ba4f3_78 (fun t78 rt78 => ?_)
  refine j_iload_n h dJ6_getChars_ba4f3_81 rfl 1 rfl ?_
  refine j_ineg h dJ6_getChars_ba4f3_82 ?_
  rw [show -(-(nI v)) = nI (v) from (Int32.neg_neg)]
  refine rt78 _ _ _ _ (v) (by omega) dJ6_getChars_ba4f3_83 ?_
  refine j_bast h q1 (hB.2.2.1 _) (vp_in_nI (n := n + 0) (N := m) (by omega) (by omega)) dJ6_getChars_ba4f3_84 (u' := put (ml, nn, a, m, upd (f) (n + 0) (sb_b (48 + (v) % 10)))) (by rw [nI_clamp (n := n + 0) (by omega), nar_n]; exact hB.s1) ?_
  refine j_iload_n h dJ6_getChars_ba4f3_85 rfl 1 rfl ?_
  refine j_bipush h (v := (-9)) dJ6_getChars_ba4f3_86 (by decide) ?_
  refine j_icmp_ge h (tgt := 104) dJ6_getChars_ba4f3_88 (by decide) (fun _ => ?_) (fun c => absurd (show -nI 9 ≤ -nI (v) from (sb_nle (a := 9) (b := v) (by decide) (by omega)).mpr (by omega)) c)
  refine j_iload h dJ6_getChars_ba4f3_104 2 rfl ?_
  refine j_if_eq h (tgt := 118) dJ6_getChars_ba4f3_106 (by decide) (fun _ => ?_) (fun c => absurd rfl c)
  refine j_iload h dJ6_getChars_ba4f3_118 0 rfl ?_
  refine hR _ _ _ _ dJ6_getChars_ba4f3_120 ⟨rfl, _, rfl, fun j hj => ?_, fun i hi => ?_, ?_⟩
  · rw [pk_un (by omega)]
  · have hd : sb_dg v = 1 := by unfold sb_dg; (repeat' split) <;> omega
    unfold sb_dec
    rw [hd]
    rcases (by omega : i = 0) with rfl
    · rw [pk_us]; all_goals exact congrArg sb_b (by simp; try omega)
  · exact (sb_fitU hf (sb_fitB _))


theorem c_J6_getChars_2 (l : Launch) (D : gD) (cy : Nat → ClassId) {S : Type} {Wd : S → va_W} {p q0 q1 : Nat} {put : sbV → S} (hB : SBL cy Wd p q0 q1 put) (ml nn : Int32) (a : Nat) {m : Nat} {f : Nat → Int32} {v n : Nat} (h0 : 10 ≤ v) (h1 : v < 100) (hn : n + 2 ≤ m) (hm : m ≤ 65536) (hf : sb_Fit f) : CtI l D cy Wd yJ6_getChars_ba4f3 cJ6_getChars_ba4f3 7 (some .int) rm_J6_getChars_ba4f3 [.int (nI v), .int (nI (n + 2)), .ref a] (put (ml, nn, a, m, f)) (fun r u' => r = nI n ∧ ∃ f1 : Nat → Int32, u' = put (ml, nn, a, m, f1) ∧ (∀ j, j < n → f1 j = f j) ∧ (∀ i, i < 2 → f1 (n + i) = sb_b (sb_dec v i)) ∧ sb_Fit f1) 0 0 := by
  refine m_entI cJ6_getChars_ba4f3 7 (by decide) (Nat.le_of_ble_eq_true rfl) (fun J h hR => ?_)
  show J (put (ml, nn, a, m, f)) (0, 0) [(0, .int (nI v)), (1, .int (nI (n + 2))), (2, .ref a)] 0 []
  refine j_iload_n h dJ6_getChars_ba4f3_0 rfl 1 rfl ?_
  refine j_istore h (lv' := [(5, _), (0, _), (1, _), (2, _)]) dJ6_getChars_ba4f3_1 (by decide) rfl ?_
  refine j_iload_n h dJ6_getChars_ba4f3_3 rfl 1 rfl ?_
  refine j_if_ge h (tgt := 11) dJ6_getChars_ba4f3_4 (by decide) (fun _ => ?_) (fun c => absurd (Int32.not_lt.mp (nI_pos (n := v) (by omega))) c)
  refine j_iconst h (v := 0) dJ6_getChars_ba4f3_11 (by decide) ?_
  refine j_istore h (lv' := [(6, _), (5, _), (0, _), (1, _), (2, _)]) dJ6_getChars_ba4f3_12 (by decide) rfl ?_
  refine j_iload h dJ6_getChars_ba4f3_14 0 rfl ?_
  refine j_if_ne h (tgt := 22) dJ6_getChars_ba4f3_16 (by decide) (fun c => absurd rfl c) (fun _ => ?_)
  refine j_iload_n h dJ6_getChars_ba4f3_19 rfl 2 rfl ?_
  refine j_ineg h dJ6_getChars_ba4f3_20 ?_
  refine j_istore_n h (lv' := [(0, _), (6, _), (5, _), (1, _), (2, _)]) dJ6_getChars_ba4f3_21 rfl (by decide) rfl ?_
  refine j_iload_n h dJ6_getChars_ba4f3_22 rfl 0 rfl ?_
  refine j_bipush h (v := (-100)) dJ6_getChars_ba4f3_23 (by decide) ?_
  refine j_icmp_gt h (tgt := 72) dJ6_getChars_ba4f3_25 (by decide) (fun _ => ?_) (fun c => absurd (show -nI 100 < -nI (v) from (sb_nlt (a := 100) (b := v) (by decide) (by omega)).mpr (by omega)) c)
  refine j_aload_n h dJ6_getChars_ba4f3_72 rfl 4 rfl ?_
  refine j_iinc h (v := nI (n + 1)) (lv' := [(5, _), (0, _), (6, _), (1, _), (2, _)]) dJ6_getChars_ba4f3_73 (k := 2) rfl (sb_m1 (p := n + 2) (by omega)) (by decide) rfl ?_
  refine j_iload h dJ6_getChars_ba4f3_76 0 rfl ?_
  refine j_digO h (xr_34 19 rfl) dJ6_getChars_ba4f3_78 (fun t78 rt78 => ?_)
  refine j_iload_n h dJ6_getChars_ba4f3_81 rfl 1 rfl ?_
  refine j_ineg h dJ6_getChars_ba4f3_82 ?_
  rw [show -(-(nI v)) = nI (v) from (Int32.neg_neg)]
  refine rt78 _ _ _ _ (v) (by omega) dJ6_getChars_ba4f3_83 ?_
  refine j_bast h q1 (hB.2.2.1 _) (vp_in_nI (n := n + 1) (N := m) (by omega) (by omega)) dJ6_getChars_ba4f3_84 (u' := put (ml, nn, a, m, upd (f) (n + 1) (sb_b (48 + (v) % 10)))) (by rw [nI_clamp (n := n + 1) (by omega), nar_n]; exact hB.s1) ?_
  refine j_iload_n h dJ6_getChars_ba4f3_85 rfl 1 rfl ?_
  refine j_bipush h (v := (-9)) dJ6_getChars_ba4f3_86 (by decide) ?_
  refine j_icmp_ge h (tgt := 104) dJ6_getChars_ba4f3_88 (by decide) (fun c => absurd ((sb_nle (a := 9) (b := v) (by decide) (by omega)).mp c) (by omega)) (fun _ => ?_)
  refine j_aload_n h dJ6_getChars_ba4f3_91 rfl 4 rfl ?_
  refine j_iinc h (v := nI (n + 0)) (lv' := [(5, _), (0, _), (6, _), (1, _), (2, _)]) dJ6_getChars_ba4f3_92 (k := 0) rfl (sb_m1 (p := n + 1) (by omega)) (by decide) rfl ?_
  refine j_iload h dJ6_getChars_ba4f3_95 0 rfl ?_
  refine j_digT h (xr_34 20 rfl) dJ6_getChars_ba4f3_97 (fun t97 rt97 => ?_)
  refine j_iload_n h dJ6_getChars_ba4f3_100 rfl 1 rfl ?_
  refine j_ineg h dJ6_getChars_ba4f3_101 ?_
  rw [show -(-(nI v)) = nI (v) from (Int32.neg_neg)]
  refine rt97 _ _ _ _ (v) (by omega) dJ6_getChars_ba4f3_102 ?_
  refine j_bast h q1 (hB.2.2.1 _) (vp_in_nI (n := n + 0) (N := m) (by omega) (by omega)) dJ6_getChars_ba4f3_103 (u' := put (ml, nn, a, m, upd (upd (f) (n + 1) (sb_b (48 + (v) % 10))) (n + 0) (sb_b (48 + (v) / 10)))) (by rw [nI_clamp (n := n + 0) (by omega), nar_n]; exact hB.s1) ?_
  refine j_iload h dJ6_getChars_ba4f3_104 2 rfl ?_
  refine j_if_eq h (tgt := 118) dJ6_getChars_ba4f3_106 (by decide) (fun _ => ?_) (fun c => absurd rfl c)
  refine j_iload h dJ6_getChars_ba4f3_118 0 rfl ?_
  refine hR _ _ _ _ dJ6_getChars_ba4f3_120 ⟨rfl, _, rfl, fun j hj => ?_, fun i hi => ?_, ?_⟩
  · rw [pk_un (by omega), pk_un (by omega)]
  · have hd : sb_dg v = 2 := by unfold sb_dg; (repeat' split) <;> omega
    unfold sb_dec
    rw [hd]
    rcases (by omega : i = 0 ∨ i = 1) with rfl | rfl
    · rw [pk_us]; all_goals exact congrArg sb_b (by simp; try omega)
    · rw [pk_un (by omega)]; rw [pk_us]; all_goals exact congrArg sb_b (by simp; try omega)
  · exact (sb_fitU (sb_fitU hf (sb_fitB _)) (sb_fitB _))


theorem c_J6_getChars_3 (l : Launch) (D : gD) (cy : Nat → ClassId) {S : Type} {Wd : S → va_W} {p q0 q1 : Nat} {put : sbV → S} (hB : SBL cy Wd p q0 q1 put) (ml nn : Int32) (a : Nat) {m : Nat} {f : Nat → Int32} {v n : Nat} (h0 : 100 ≤ v) (h1 : v < 1000) (hn : n + 3 ≤ m) (hm : m ≤ 65536) (hf : sb_Fit f) : CtI l D cy Wd yJ6_getChars_ba4f3 cJ6_getChars_ba4f3 7 (some .int) rm_J6_getChars_ba4f3 [.int (nI v), .int (nI (n + 3)), .ref a] (put (ml, nn, a, m, f)) (fun r u' => r = nI n ∧ ∃ f1 : Nat → Int32, u' = put (ml, nn, a, m, f1) ∧ (∀ j, j < n → f1 j = f j) ∧ (∀ i, i < 3 → f1 (n + i) = sb_b (sb_dec v i)) ∧ sb_Fit f1) 0 0 := by
  refine m_entI cJ6_getChars_ba4f3 7 (by decide) (Nat.le_of_ble_eq_true rfl) (fun J h hR => ?_)
  show J (put (ml, nn, a, m, f)) (0, 0) [(0, .int (nI v)), (1, .int (nI (n + 3))), (2, .ref a)] 0 []
  refine j_iload_n h dJ6_getChars_ba4f3_0 rfl 1 rfl ?_
  refine j_istore h (lv' := [(5, _), (0, _), (1, _), (2, _)]) dJ6_getChars_ba4f3_1 (by decide) rfl ?_
  refine j_iload_n h dJ6_getChars_ba4f3_3 rfl 1 rfl ?_
  refine j_if_ge h (tgt := 11) dJ6_getChars_ba4f3_4 (by decide) (fun _ => ?_) (fun c => absurd (Int32.not_lt.mp (nI_pos (n := v) (by omega))) c)
  refine j_iconst h (v := 0) dJ6_getChars_ba4f3_11 (by decide) ?_
  refine j_istore h (lv' := [(6, _), (5, _), (0, _), (1, _), (2, _)]) dJ6_getChars_ba4f3_12 (by decide) rfl ?_
  refine j_iload h dJ6_getChars_ba4f3_14 0 rfl ?_
  refine j_if_ne h (tgt := 22) dJ6_getChars_ba4f3_16 (by decide) (fun c => absurd rfl c) (fun _ => ?_)
  refine j_iload_n h dJ6_getChars_ba4f3_19 rfl 2 rfl ?_
  refine j_ineg h dJ6_getChars_ba4f3_20 ?_
  refine j_istore_n h (lv' := [(0, _), (6, _), (5, _), (1, _), (2, _)]) dJ6_getChars_ba4f3_21 rfl (by decide) rfl ?_
  refine j_iload_n h dJ6_getChars_ba4f3_22 rfl 0 rfl ?_
  refine j_bipush h (v := (-100)) dJ6_getChars_ba4f3_23 (by decide) ?_
  refine j_icmp_gt h (tgt := 72) dJ6_getChars_ba4f3_25 (by decide) (fun c => absurd ((sb_nlt (a := 100) (b := v) (by decide) (by omega)).mp c) (by omega)) (fun _ => ?_)
  refine j_iload_n h dJ6_getChars_ba4f3_28 rfl 0 rfl ?_
  refine j_bipush h (v := 100) dJ6_getChars_ba4f3_29 (by decide) ?_
  refine j_idiv h dJ6_getChars_ba4f3_31 (by decide) ?_
  rw [show ((-(nI v)) / 100 : Int32) = -nI (v / 100) from (sb_ndiv (by omega))]
  refine j_istore_n h (lv' := [(3, _), (0, _), (6, _), (5, _), (1, _), (2, _)]) dJ6_getChars_ba4f3_32 rfl (by decide) rfl ?_
  refine j_iload_n h dJ6_getChars_ba4f3_33 rfl 0 rfl ?_
  refine j_bipush h (v := 100) dJ6_getChars_ba4f3_34 (by decide) ?_
  refine j_imul h dJ6_getChars_ba4f3_36 ?_
  refine j_iload_n h dJ6_getChars_ba4f3_37 rfl 1 rfl ?_
  refine j_isub h dJ6_getChars_ba4f3_38 ?_
  rw [show (((-nI (v / 100)) * 100) - (-(nI v)) : Int32) = nI (v % 100) from (sb_nrem (by omega))]
  refine j_istore h (lv' := [(4, _), (3, _), (0, _), (6, _), (5, _), (1, _), (2, _)]) dJ6_getChars_ba4f3_39 (by decide) rfl ?_
  refine j_iload_n h dJ6_getChars_ba4f3_41 rfl 1 rfl ?_
  refine j_istore_n h (lv' := [(0, _), (4, _), (3, _), (6, _), (5, _), (1, _), (2, _)]) dJ6_getChars_ba4f3_42 rfl (by decide) rfl ?_
  refine j_aload_n h dJ6_getChars_ba4f3_43 rfl 6 rfl ?_
  refine j_iinc h (v := nI (n + 2)) (lv' := [(5, _), (0, _), (4, _), (3, _), (6, _), (1, _), (2, _)]) dJ6_getChars_ba4f3_44 (k := 4) rfl (sb_m1 (p := n + 3) (by omega)) (by decide) rfl ?_
  refine j_iload h dJ6_getChars_ba4f3_47 0 rfl ?_
  refine j_digO h (xr_34 19 rfl) dJ6_getChars_ba4f3_49 (fun t49 rt49 => ?_)
  refine j_iload h dJ6_getChars_ba4f3_52 2 rfl ?_
  refine rt49 _ _ _ _ (v % 100) (by omega) dJ6_getChars_ba4f3_54 ?_
  refine j_bast h q1 (hB.2.2.1 _) (vp_in_nI (n := n + 2) (N := m) (by omega) (by omega)) dJ6_getChars_ba4f3_55 (u' := put (ml, nn, a, m, upd (f) (n + 2) (sb_b (48 + (v % 100) % 10)))) (by rw [nI_clamp (n := n + 2) (by omega), nar_n]; exact hB.s1) ?_
  refine j_aload_n h dJ6_getChars_ba4f3_56 rfl 6 rfl ?_
  refine j_iinc h (v := nI (n + 1)) (lv' := [(5, _), (0, _), (4, _), (3, _), (6, _), (1, _), (2, _)]) dJ6_getChars_ba4f3_57 (k := 0) rfl (sb_m1 (p := n + 2) (by omega)) (by decide) rfl ?_
  refine j_iload h dJ6_getChars_ba4f3_60 0 rfl ?_
  refine j_digT h (xr_34 20 rfl) dJ6_getChars_ba4f3_62 (fun t62 rt62 => ?_)
  refine j_iload h dJ6_getChars_ba4f3_65 2 rfl ?_
  refine rt62 _ _ _ _ (v % 100) (by omega) dJ6_getChars_ba4f3_67 ?_
  refine j_bast h q1 (hB.2.2.1 _) (vp_in_nI (n := n + 1) (N := m) (by omega) (by omega)) dJ6_getChars_ba4f3_68 (u' := put (ml, nn, a, m, upd (upd (f) (n + 2) (sb_b (48 + (v % 100) % 10))) (n + 1) (sb_b (48 + (v % 100) / 10)))) (by rw [nI_clamp (n := n + 1) (by omega), nar_n]; exact hB.s1) ?_
  refine j_goto h (tgt := 22) dJ6_getChars_ba4f3_69 (by decide) ?_
  refine j_iload_n h dJ6_getChars_ba4f3_22 rfl 1 rfl ?_
  refine j_bipush h (v := (-100)) dJ6_getChars_ba4f3_23 (by decide) ?_
  refine j_icmp_gt h (tgt := 72) dJ6_getChars_ba4f3_25 (by decide) (fun _ => ?_) (fun c => absurd (show -nI 100 < -nI (v / 100) from (sb_nlt (a := 100) (b := v / 100) (by decide) (by omega)).mpr (by omega)) c)
  refine j_aload_n h dJ6_getChars_ba4f3_72 rfl 6 rfl ?_
  refine j_iinc h (v := nI (n + 0)) (lv' := [(5, _), (0, _), (4, _), (3, _), (6, _), (1, _), (2, _)]) dJ6_getChars_ba4f3_73 (k := 0) rfl (sb_m1 (p := n + 1) (by omega)) (by decide) rfl ?_
  refine j_iload h dJ6_getChars_ba4f3_76 0 rfl ?_
  refine j_digO h (xr_34 19 rfl) dJ6_getChars_ba4f3_78 (fun t78 rt78 => ?_)
  refine j_iload_n h dJ6_getChars_ba4f3_81 rfl 1 rfl ?_
  refine j_ineg h dJ6_getChars_ba4f3_82 ?_
  rw [show -(-nI (v / 100)) = nI (v / 100) from (Int32.neg_neg)]
  refine rt78 _ _ _ _ (v / 100) (by omega) dJ6_getChars_ba4f3_83 ?_
  refine j_bast h q1 (hB.2.2.1 _) (vp_in_nI (n := n + 0) (N := m) (by omega) (by omega)) dJ6_getChars_ba4f3_84 (u' := put (ml, nn, a, m, upd (upd (upd (f) (n + 2) (sb_b (48 + (v % 100) % 10))) (n + 1) (sb_b (48 + (v % 100) / 10))) (n + 0) (sb_b (48 + (v / 100) % 10)))) (by rw [nI_clamp (n := n + 0) (by omega), nar_n]; exact hB.s1) ?_
  refine j_iload_n h dJ6_getChars_ba4f3_85 rfl 1 rfl ?_
  refine j_bipush h (v := (-9)) dJ6_getChars_ba4f3_86 (by decide) ?_
  refine j_icmp_ge h (tgt := 104) dJ6_getChars_ba4f3_88 (by decide) (fun _ => ?_) (fun c => absurd (show -nI 9 ≤ -nI (v / 100) from (sb_nle (a := 9) (b := v / 100) (by decide) (by omega)).mpr (by omega)) c)
  refine j_iload h dJ6_getChars_ba4f3_104 4 rfl ?_
  refine j_if_eq h (tgt := 118) dJ6_getChars_ba4f3_106 (by decide) (fun _ => ?_) (fun c => absurd rfl c)
  refine j_iload h dJ6_getChars_ba4f3_118 0 rfl ?_
  refine hR _ _ _ _ dJ6_getChars_ba4f3_120 ⟨rfl, _, rfl, fun j hj => ?_, fun i hi => ?_, ?_⟩
  · rw [pk_un (by omega), pk_un (by omega), pk_un (by omega)]
  · have hd : sb_dg v = 3 := by unfold sb_dg; (repeat' split) <;> omega
    unfold sb_dec
    rw [hd]
    rcases (by omega : i = 0 ∨ i = 1 ∨ i = 2) with rfl | rfl | rfl
    · rw [pk_us]; all_goals exact congrArg sb_b (by simp; try omega)
    · rw [pk_un (by omega)]; rw [pk_us]; all_goals exact congrArg sb_b (by simp; try omega)
    · rw [pk_un (by omega)]; rw [pk_un (by omega)]; rw [pk_us]; all_goals exact congrArg sb_b (by simp; try omega)
  · exact (sb_fitU (sb_fitU (sb_fitU hf (sb_fitB _)) (sb_fitB _)) (sb_fitB _))


theorem c_J6_getChars_4 (l : Launch) (D : gD) (cy : Nat → ClassId) {S : Type} {Wd : S → va_W} {p q0 q1 : Nat} {put : sbV → S} (hB : SBL cy Wd p q0 q1 put) (ml nn : Int32) (a : Nat) {m : Nat} {f : Nat → Int32} {v n : Nat} (h0 : 1000 ≤ v) (h1 : v < 10000) (hn : n + 4 ≤ m) (hm : m ≤ 65536) (hf : sb_Fit f) : CtI l D cy Wd yJ6_getChars_ba4f3 cJ6_getChars_ba4f3 7 (some .int) rm_J6_getChars_ba4f3 [.int (nI v), .int (nI (n + 4)), .ref a] (put (ml, nn, a, m, f)) (fun r u' => r = nI n ∧ ∃ f1 : Nat → Int32, u' = put (ml, nn, a, m, f1) ∧ (∀ j, j < n → f1 j = f j) ∧ (∀ i, i < 4 → f1 (n + i) = sb_b (sb_dec v i)) ∧ sb_Fit f1) 0 0 := by
  refine m_entI cJ6_getChars_ba4f3 7 (by decide) (Nat.le_of_ble_eq_true rfl) (fun J h hR => ?_)
  show J (put (ml, nn, a, m, f)) (0, 0) [(0, .int (nI v)), (1, .int (nI (n + 4))), (2, .ref a)] 0 []
  refine j_iload_n h dJ6_getChars_ba4f3_0 rfl 1 rfl ?_
  refine j_istore h (lv' := [(5, _), (0, _), (1, _), (2, _)]) dJ6_getChars_ba4f3_1 (by decide) rfl ?_
  refine j_iload_n h dJ6_getChars_ba4f3_3 rfl 1 rfl ?_
  refine j_if_ge h (tgt := 11) dJ6_getChars_ba4f3_4 (by decide) (fun _ => ?_) (fun c => absurd (Int32.not_lt.mp (nI_pos (n := v) (by omega))) c)
  refine j_iconst h (v := 0) dJ6_getChars_ba4f3_11 (by decide) ?_
  refine j_istore h (lv' := [(6, _), (5, _), (0, _), (1, _), (2, _)]) dJ6_getChars_ba4f3_12 (by decide) rfl ?_
  refine j_iload h dJ6_getChars_ba4f3_14 0 rfl ?_
  refine j_if_ne h (tgt := 22) dJ6_getChars_ba4f3_16 (by decide) (fun c => absurd rfl c) (fun _ => ?_)
  refine j_iload_n h dJ6_getChars_ba4f3_19 rfl 2 rfl ?_
  refine j_ineg h dJ6_getChars_ba4f3_20 ?_
  refine j_istore_n h (lv' := [(0, _), (6, _), (5, _), (1, _), (2, _)]) dJ6_getChars_ba4f3_21 rfl (by decide) rfl ?_
  refine j_iload_n h dJ6_getChars_ba4f3_22 rfl 0 rfl ?_
  refine j_bipush h (v := (-100)) dJ6_getChars_ba4f3_23 (by decide) ?_
  refine j_icmp_gt h (tgt := 72) dJ6_getChars_ba4f3_25 (by decide) (fun c => absurd ((sb_nlt (a := 100) (b := v) (by decide) (by omega)).mp c) (by omega)) (fun _ => ?_)
  refine j_iload_n h dJ6_getChars_ba4f3_28 rfl 0 rfl ?_
  refine j_bipush h (v := 100) dJ6_getChars_ba4f3_29 (by decide) ?_
  refine j_idiv h dJ6_getChars_ba4f3_31 (by decide) ?_
  rw [show ((-(nI v)) / 100 : Int32) = -nI (v / 100) from (sb_ndiv (by omega))]
  refine j_istore_n h (lv' := [(3, _), (0, _), (6, _), (5, _), (1, _), (2, _)]) dJ6_getChars_ba4f3_32 rfl (by decide) rfl ?_
  refine j_iload_n h dJ6_getChars_ba4f3_33 rfl 0 rfl ?_
  refine j_bipush h (v := 100) dJ6_getChars_ba4f3_34 (by decide) ?_
  refine j_imul h dJ6_getChars_ba4f3_36 ?_
  refine j_iload_n h dJ6_getChars_ba4f3_37 rfl 1 rfl ?_
  refine j_isub h dJ6_getChars_ba4f3_38 ?_
  rw [show (((-nI (v / 100)) * 100) - (-(nI v)) : Int32) = nI (v % 100) from (sb_nrem (by omega))]
  refine j_istore h (lv' := [(4, _), (3, _), (0, _), (6, _), (5, _), (1, _), (2, _)]) dJ6_getChars_ba4f3_39 (by decide) rfl ?_
  refine j_iload_n h dJ6_getChars_ba4f3_41 rfl 1 rfl ?_
  refine j_istore_n h (lv' := [(0, _), (4, _), (3, _), (6, _), (5, _), (1, _), (2, _)]) dJ6_getChars_ba4f3_42 rfl (by decide) rfl ?_
  refine j_aload_n h dJ6_getChars_ba4f3_43 rfl 6 rfl ?_
  refine j_iinc h (v := nI (n + 3)) (lv' := [(5, _), (0, _), (4, _), (3, _), (6, _), (1, _), (2, _)]) dJ6_getChars_ba4f3_44 (k := 4) rfl (sb_m1 (p := n + 4) (by omega)) (by decide) rfl ?_
  refine j_iload h dJ6_getChars_ba4f3_47 0 rfl ?_
  refine j_digO h (xr_34 19 rfl) dJ6_getChars_ba4f3_49 (fun t49 rt49 => ?_)
  refine j_iload h dJ6_getChars_ba4f3_52 2 rfl ?_
  refine rt49 _ _ _ _ (v % 100) (by omega) dJ6_getChars_ba4f3_54 ?_
  refine j_bast h q1 (hB.2.2.1 _) (vp_in_nI (n := n + 3) (N := m) (by omega) (by omega)) dJ6_getChars_ba4f3_55 (u' := put (ml, nn, a, m, upd (f) (n + 3) (sb_b (48 + (v % 100) % 10)))) (by rw [nI_clamp (n := n + 3) (by omega), nar_n]; exact hB.s1) ?_
  refine j_aload_n h dJ6_getChars_ba4f3_56 rfl 6 rfl ?_
  refine j_iinc h (v := nI (n + 2)) (lv' := [(5, _), (0, _), (4, _), (3, _), (6, _), (1, _), (2, _)]) dJ6_getChars_ba4f3_57 (k := 0) rfl (sb_m1 (p := n + 3) (by omega)) (by decide) rfl ?_
  refine j_iload h dJ6_getChars_ba4f3_60 0 rfl ?_
  refine j_digT h (xr_34 20 rfl) dJ6_getChars_ba4f3_62 (fun t62 rt62 => ?_)
  refine j_iload h dJ6_getChars_ba4f3_65 2 rfl ?_
  refine rt62 _ _ _ _ (v % 100) (by omega) dJ6_getChars_ba4f3_67 ?_
  refine j_bast h q1 (hB.2.2.1 _) (vp_in_nI (n := n + 2) (N := m) (by omega) (by omega)) dJ6_getChars_ba4f3_68 (u' := put (ml, nn, a, m, upd (upd (f) (n + 3) (sb_b (48 + (v % 100) % 10))) (n + 2) (sb_b (48 + (v % 100) / 10)))) (by rw [nI_clamp (n := n + 2) (by omega), nar_n]; exact hB.s1) ?_
  refine j_goto h (tgt := 22) dJ6_getChars_ba4f3_69 (by decide) ?_
  refine j_iload_n h dJ6_getChars_ba4f3_22 rfl 1 rfl ?_
  refine j_bipush h (v := (-100)) dJ6_getChars_ba4f3_23 (by decide) ?_
  refine j_icmp_gt h (tgt := 72) dJ6_getChars_ba4f3_25 (by decide) (fun _ => ?_) (fun c => absurd (show -nI 100 < -nI (v / 100) from (sb_nlt (a := 100) (b := v / 100) (by decide) (by omega)).mpr (by omega)) c)
  refine j_aload_n h dJ6_getChars_ba4f3_72 rfl 6 rfl ?_
  refine j_iinc h (v := nI (n + 1)) (lv' := [(5, _), (0, _), (4, _), (3, _), (6, _), (1, _), (2, _)]) dJ6_getChars_ba4f3_73 (k := 0) rfl (sb_m1 (p := n + 2) (by omega)) (by decide) rfl ?_
  refine j_iload h dJ6_getChars_ba4f3_76 0 rfl ?_
  refine j_digO h (xr_34 19 rfl) dJ6_getChars_ba4f3_78 (fun t78 rt78 => ?_)
  refine j_iload_n h dJ6_getChars_ba4f3_81 rfl 1 rfl ?_
  refine j_ineg h dJ6_getChars_ba4f3_82 ?_
  rw [show -(-nI (v / 100)) = nI (v / 100) from (Int32.neg_neg)]
  refine rt78 _ _ _ _ (v / 100) (by omega) dJ6_getChars_ba4f3_83 ?_
  refine j_bast h q1 (hB.2.2.1 _) (vp_in_nI (n := n + 1) (N := m) (by omega) (by omega)) dJ6_getChars_ba4f3_84 (u' := put (ml, nn, a, m, upd (upd (upd (f) (n + 3) (sb_b (48 + (v % 100) % 10))) (n + 2) (sb_b (48 + (v % 100) / 10))) (n + 1) (sb_b (48 + (v / 100) % 10)))) (by rw [nI_clamp (n := n + 1) (by omega), nar_n]; exact hB.s1) ?_
  refine j_iload_n h dJ6_getChars_ba4f3_85 rfl 1 rfl ?_
  refine j_bipush h (v := (-9)) dJ6_getChars_ba4f3_86 (by decide) ?_
  refine j_icmp_ge h (tgt := 104) dJ6_getChars_ba4f3_88 (by decide) (fun c => absurd ((sb_nle (a := 9) (b := v / 100) (by decide) (by omega)).mp c) (by omega)) (fun _ => ?_)
  refine j_aload_n h dJ6_getChars_ba4f3_91 rfl 6 rfl ?_
  refine j_iinc h (v := nI (n + 0)) (lv' := [(5, _), (0, _), (4, _), (3, _), (6, _), (1, _), (2, _)]) dJ6_getChars_ba4f3_92 (k := 0) rfl (sb_m1 (p := n + 1) (by omega)) (by decide) rfl ?_
  refine j_iload h dJ6_getChars_ba4f3_95 0 rfl ?_
  refine j_digT h (xr_34 20 rfl) dJ6_getChars_ba4f3_97 (fun t97 rt97 => ?_)
  refine j_iload_n h dJ6_getChars_ba4f3_100 rfl 1 rfl ?_
  refine j_ineg h dJ6_getChars_ba4f3_101 ?_
  rw [show -(-nI (v / 100)) = nI (v / 100) from (Int32.neg_neg)]
  refine rt97 _ _ _ _ (v / 100) (by omega) dJ6_getChars_ba4f3_102 ?_
  refine j_bast h q1 (hB.2.2.1 _) (vp_in_nI (n := n + 0) (N := m) (by omega) (by omega)) dJ6_getChars_ba4f3_103 (u' := put (ml, nn, a, m, upd (upd (upd (upd (f) (n + 3) (sb_b (48 + (v % 100) % 10))) (n + 2) (sb_b (48 + (v % 100) / 10))) (n + 1) (sb_b (48 + (v / 100) % 10))) (n + 0) (sb_b (48 + (v / 100) / 10)))) (by rw [nI_clamp (n := n + 0) (by omega), nar_n]; exact hB.s1) ?_
  refine j_iload h dJ6_getChars_ba4f3_104 4 rfl ?_
  refine j_if_eq h (tgt := 118) dJ6_getChars_ba4f3_106 (by decide) (fun _ => ?_) (fun c => absurd rfl c)
  refine j_iload h dJ6_getChars_ba4f3_118 0 rfl ?_
  refine hR _ _ _ _ dJ6_getChars_ba4f3_120 ⟨rfl, _, rfl, fun j hj => ?_, fun i hi => ?_, ?_⟩
  · rw [pk_un (by omega), pk_un (by omega), pk_un (by omega), pk_un (by omega)]
  · have hd : sb_dg v = 4 := by unfold sb_dg; (repeat' split) <;> omega
    unfold sb_dec
    rw [hd]
    rcases (by omega : i = 0 ∨ i = 1 ∨ i = 2 ∨ i = 3) with rfl | rfl | rfl | rfl
    · rw [pk_us]; all_goals exact congrArg sb_b (by simp; try omega)
    · rw [pk_un (by omega)]; rw [pk_us]; all_goals exact congrArg sb_b (by simp; try omega)
    · rw [pk_un (by omega)]; rw [pk_un (by omega)]; rw [pk_us]; all_goals exact congrArg sb_b (by simp; try omega)
    · rw [pk_un (by omega)]; rw [pk_un (by omega)]; rw [pk_un (by omega)]; rw [pk_us]; all_goals exact congrArg sb_b (by simp; try omega)
  · exact (sb_fitU (sb_fitU (sb_fitU (sb_fitU hf (sb_fitB _)) (sb_fitB _)) (sb_fitB _)) (sb_fitB _))


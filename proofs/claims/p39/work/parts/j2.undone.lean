/-! ===== the law's changes and undos ===== -/
set_option maxRecDepth 100000
def INVH (F : Nat → Int64) (hh : Nat → gM) (d : Nat) : Prop := ∀ j, j < d → j < 8 → F (d - 1 - j) = ask (qs (hh j))
theorem INVH.push {F : Nat → Int64} {hh : Nat → gM} {d : Nat} {M : gM} (h : INVH F hh d) : INVH (vp_updL F d (ask (qs M))) (pu M hh) (d + 1) := by
  intro j h1 h2
  unfold vp_updL pu
  by_cases e : j = 0
  · subst e
    rw [if_pos (by omega), if_pos rfl]
  · rw [if_neg (by omega), if_neg e]
    have q := h (j - 1) (by omega) (by omega)
    rw [show d - 1 - (j - 1) = d + 1 - 1 - j by omega] at q
    exact q
section LU
variable {l : Launch} {D : gD} {cy : Nat → ClassId} {J : JT va_W} {L : Nat → Nat → Nat} {S : gM} {s3 : Int64} {hr5 : Int32} {ra : Nat}
theorem lo_c (h : OKJ l D cy wI J cL_law 11 yL_law rm_L_law) (hL : D.2.2.2.2.1 ≤ 260) {uc us : Nat} (hqc : uc + 4128 ≤ 659866) (hqs : us + 906240 ≤ 7122651) (K : ∀ (F : Nat → Int64) (d : Nat) (G : Nat → gM) (M : gM) (X : Nat → Int32) (A : Nat → Nat → Int32) (b : cB) (hh : Nat → gM) (n : Nat) (t : Nat → Nat), OBx G M X A b hh n (some S) t 0 → d ≤ 12 → min 8 d ≤ n → INVH F hh d → J ([(ra, .inl (cy 6, 13, .inr (.inl F)))] ++ CW cy L ((va_up G 0 M, X, A), b)) (uc + 4128, us + 906240) [(8, .int (nI 12)), (7, .int (nI d)), (6, .ref ra), (5, .int hr5), (3, .long s3), (2, .ref (L 11 0)), (0, .ref D.2.2.2.1)] 1125 []) : ∀ dd i, dd + i = 12 → ∀ (F : Nat → Int64) (d : Nat) (G : Nat → gM) (M : gM) (X : Nat → Int32) (A : Nat → Nat → Int32) (b : cB) (hh : Nat → gM) (n : Nat) (t : Nat → Nat), OBx G M X A b hh n (some S) t 0 → d ≤ i → min 8 d ≤ n → INVH F hh d → J ([(ra, .inl (cy 6, 13, .inr (.inl F)))] ++ CW cy L ((va_up G 0 M, X, A), b)) (uc + 344 * i, us + 75520 * i) [(8, .int (nI i)), (7, .int (nI d)), (6, .ref ra), (5, .int hr5), (3, .long s3), (2, .ref (L 11 0)), (0, .ref D.2.2.2.1)] 1058 [] := by
  intro dd
  induction dd with
  | zero =>
    intro i hk F d G M X A b hh n t hO hd hn hF
    obtain rfl : i = 12 := by omega
    refine j_iload h dL_law_1058 0 rfl ?_
    refine j_bipush h (v := 12) dL_law_1060 (by decide) ?_
    refine j_icmp_ge h (tgt := 1125) dL_law_1062 (by decide) (fun _ => ?_) (fun c => absurd (Int32.le_refl _) c)
    exact K _ _ _ _ _ _ _ _ _ _ hO hd hn hF
  | succ dd ih =>
    intro i hk F d G M X A b hh n t hO hd hn hF
    refine j_iload h dL_law_1058 0 rfl ?_
    refine j_bipush h (v := 12) dL_law_1060 (by decide) ?_
    refine j_icmp_ge h (tgt := 1125) dL_law_1062 (by decide) (fun c => absurd c (xnle (a := 12) (b := i) (by omega) (by decide))) (fun _ => ?_)
    refine j_aload_n h dL_law_1065 rfl 5 rfl ?_
    refine j_bSL h (n := 1) (c_L_asks l D cy hO) (wr := [(ra, .inl (cy 6, 13, .inr (.inl F)))]) rfl (xg_S (xr_38 13 rfl) (xr_38 14 rfl) (xr_30 2 rfl) (xr_38 15 rfl)) rfl rfl (by decide +kernel) ⟨Nat.le_of_ble_eq_true rfl, Nat.le_of_ble_eq_true rfl⟩ rfl rfl (Nat.le_of_ble_eq_true rfl) dL_law_1066 ⟨by show (uc + 344 * i) + 160 ≤ 659866; omega, by show (us + 75520 * i) + 35520 ≤ 7122651; omega⟩ (fun rr v hq => ?_)
    obtain ⟨rfl, X9, A9, b9, rfl, hO9, -, -⟩ := hq
    clear hO; have hO := hO9; clear hO9
    refine j_lstore h (lv' := [(9, _), (8, _), (7, _), (6, _), (5, _), (3, _), (2, _), (0, _)]) dL_law_1069 (by decide) rfl ?_
    refine j_aload_n h dL_law_1071 rfl 6 rfl ?_
    refine j_aload_n h dL_law_1072 rfl 7 rfl ?_
    refine j_bipush h (v := 20) dL_law_1073 (by decide) ?_
    refine j_iload h dL_law_1075 1 rfl ?_
    refine j_iadd h dL_law_1077 ?_
    rw [show (20 + (nI i) : Int32) = nI (20 + i) from nI_add 20 i]
    refine k_at h rfl (j := (20 + i)) (by omega) hL ⟨Nat.le_of_ble_eq_true rfl, Nat.le_of_ble_eq_true rfl⟩ (Nat.le_of_ble_eq_true rfl) ⟨by show (uc + 344 * i) + 160 ≤ 659866; omega, by show (us + 75520 * i) + 35520 ≤ 7122651; omega⟩ dL_law_1078 ?_
    refine j_iload h dL_law_1081 1 rfl ?_
    refine j_sipush h (v := 977) dL_law_1083 (by decide) ?_
    refine j_imul h dL_law_1086 ?_
    refine j_ixor h dL_law_1087 ?_
    have hK := hO.ok
    refine j_bS h (n := 2) (c_L_changes l D cy hO _) (wr := [(ra, .inl (cy 6, 13, .inr (.inl F)))]) rfl (xg_S (xr_41 23 rfl) (xr_42 0 rfl) (xr_30 2 rfl) (xr_42 1 rfl)) rfl rfl (by decide +kernel) ⟨Nat.le_of_ble_eq_true rfl, Nat.le_of_ble_eq_true rfl⟩ rfl rfl (Nat.le_of_ble_eq_true rfl) dL_law_1088 ⟨by show (uc + 344 * i) + 160 + 24 ≤ 659866; omega, by show (us + 75520 * i) + 35520 + 4480 ≤ 7122651; omega⟩ (fun rr v hq => ?_)
    obtain ⟨G1, M1, X1, A1, b1, t1, rfl, ⟨rfl, hO1⟩ | ⟨rfl, hE, hO1⟩⟩ := hq
    · skip
      refine j_if_eq h (tgt := 1107) dL_law_1091 (by decide) (fun c => absurd c (by decide)) (fun _ => ?_)
      refine j_aload h dL_law_1094 3 rfl ?_
      refine j_iload h dL_law_1096 2 rfl ?_
      refine j_iinc h (v := nI (d + 1)) (lv' := [(7, _), (9, _), (8, _), (6, _), (5, _), (3, _), (2, _), (0, _)]) dL_law_1098 (k := 2) rfl (nI_1 d) (by decide) rfl ?_
      refine j_lload h dL_law_1101 1 rfl ?_
      refine j_last h 0 rfl d rfl (by omega) (by decide) dL_law_1103 (u' := [(ra, .inl (cy 6, 13, .inr (.inl (vp_updL F d (ask (qs M))))))] ++ CW cy L ((va_up G1 0 M1, X1, A1), b1)) rfl ?_
      refine j_goto h (tgt := 1119) dL_law_1104 (by decide) ?_
      refine j_iinc h (v := nI (i + 1)) (lv' := [(8, _), (7, _), (9, _), (6, _), (5, _), (3, _), (2, _), (0, _)]) dL_law_1119 (k := 2) rfl (nI_1 i) (by decide) rfl ?_
      refine j_goto h (tgt := 1058) dL_law_1122 (by decide) ?_
      refine j_sub h [0, 1, 3, 4, 5, 6, 7] rfl (lv' := [(8, .int (nI (i + 1))), (7, .int (nI (d + 1))), (6, .ref ra), (5, .int hr5), (3, .long s3), (2, .ref (L 11 0)), (0, .ref D.2.2.2.1)]) ?_
      refine j_widen h (k := uc + 344 * (i + 1)) (n := us + 75520 * (i + 1)) (by show (uc + 344 * i) + 160 + 24 ≤ _; omega) (by show (us + 75520 * i) + 35520 + 4480 ≤ _; omega) ?_
      exact ih (i + 1) (by omega) _ _ _ _ _ _ _ _ _ t1 hO1 (by omega) (by omega) hF.push
    · skip
      refine j_if_eq h (tgt := 1107) dL_law_1091 (by decide) (fun _ => ?_) (fun c => absurd rfl c)
      refine j_aload_n h dL_law_1107 rfl 6 rfl ?_
      refine j_bSL h (n := 1) (c_L_asks l D cy hO1) (wr := [(ra, .inl (cy 6, 13, .inr (.inl F)))]) rfl (xg_S (xr_38 13 rfl) (xr_38 14 rfl) (xr_30 2 rfl) (xr_38 15 rfl)) rfl rfl (by decide +kernel) ⟨Nat.le_of_ble_eq_true rfl, Nat.le_of_ble_eq_true rfl⟩ rfl rfl (Nat.le_of_ble_eq_true rfl) dL_law_1108 ⟨by show (uc + 344 * i) + 160 + 24 + 160 ≤ 659866; omega, by show (us + 75520 * i) + 35520 + 4480 + 35520 ≤ 7122651; omega⟩ (fun rr v hq => ?_)
      obtain ⟨rfl, X9, A9, b9, rfl, hO9, -, -⟩ := hq
      rw [sm_qs (SAME.eq hE hK)]
      refine j_lload h dL_law_1111 0 rfl ?_
      refine j_lcmp h dL_law_1113 ?_
      rw [lg_self]
      refine j_if_eq h (tgt := 1119) dL_law_1114 (by decide) (fun _ => ?_) (fun c => absurd rfl c)
      refine j_iinc h (v := nI (i + 1)) (lv' := [(8, _), (9, _), (7, _), (6, _), (5, _), (3, _), (2, _), (0, _)]) dL_law_1119 (k := 1) rfl (nI_1 i) (by decide) rfl ?_
      refine j_goto h (tgt := 1058) dL_law_1122 (by decide) ?_
      refine j_sub h [0, 2, 3, 4, 5, 6, 7] rfl (lv' := [(8, .int (nI (i + 1))), (7, .int (nI d)), (6, .ref ra), (5, .int hr5), (3, .long s3), (2, .ref (L 11 0)), (0, .ref D.2.2.2.1)]) ?_
      refine j_widen h (k := uc + 344 * (i + 1)) (n := us + 75520 * (i + 1)) (by show (uc + 344 * i) + 160 + 24 + 160 ≤ _; omega) (by show (us + 75520 * i) + 35520 + 4480 + 35520 ≤ _; omega) ?_
      exact ih (i + 1) (by omega) _ _ _ _ _ _ _ _ _ t1 hO9 (by omega) hn hF
theorem lo_u (h : OKJ l D cy wI J cL_law 11 yL_law rm_L_law) {uc us : Nat} (hqc : uc + 1280 ≤ 659866) (hqs : us + 284160 ≤ 7122651) {d : Nat} (hd : d ≤ 12) {F : Nat → Int64} (K : ∀ (G : Nat → gM) (M : gM) (X : Nat → Int32) (A : Nat → Nat → Int32) (b : cB) (hh : Nat → gM) (n : Nat) (t : Nat → Nat), OBx G M X A b hh n (some S) t 0 → J ([(ra, .inl (cy 6, 13, .inr (.inl F)))] ++ CW cy L ((va_up G 0 M, X, A), b)) (uc + 1280, us + 284160) [(6, .ref ra), (5, .int hr5), (3, .long s3), (2, .ref (L 11 0)), (0, .ref D.2.2.2.1)] 1194 []) : ∀ dd k, dd + k = min 8 d → ∀ (G : Nat → gM) (M : gM) (X : Nat → Int32) (A : Nat → Nat → Int32) (b : cB) (hh : Nat → gM) (n : Nat) (t : Nat → Nat), OBx G M X A b hh n (some S) t 0 → min 8 d - k ≤ n → n ≤ 8 - k → (∀ j, k + 1 + j ≤ min 8 d → F (d - (k + 1) - j) = ask (qs (hh j))) → J ([(ra, .inl (cy 6, 13, .inr (.inl F)))] ++ CW cy L ((va_up G 0 M, X, A), b)) (uc + 160 * k, us + 35520 * k) [(9, .int (nI (k + 1))), (8, .int (nI (min 8 d))), (7, .int (nI d)), (6, .ref ra), (5, .int hr5), (3, .long s3), (2, .ref (L 11 0)), (0, .ref D.2.2.2.1)] 1137 [] := by
  intro dd
  induction dd with
  | zero =>
    intro k hk G M X A b hh n t hO h1 h2 hF
    refine j_iload h dL_law_1137 0 rfl ?_
    refine j_iload h dL_law_1139 1 rfl ?_
    refine j_icmp_gt h (tgt := 1194) dL_law_1141 (by decide) (fun _ => ?_) (fun c => absurd (xlt (a := min 8 d) (b := k + 1) (by omega) (by omega)) c)
    refine j_sub h [3, 4, 5, 6, 7] rfl (lv' := [(6, .ref ra), (5, .int hr5), (3, .long s3), (2, .ref (L 11 0)), (0, .ref D.2.2.2.1)]) ?_
    refine j_widen h (k := uc + 1280) (n := us + 284160) (by show uc + 160 * k ≤ _; omega) (by show us + 35520 * k ≤ _; omega) ?_
    exact K _ _ _ _ _ _ _ _ hO
  | succ dd ih =>
    intro k hk G M X A b hh n t hO h1 h2 hF
    refine j_iload h dL_law_1137 0 rfl ?_
    refine j_iload h dL_law_1139 1 rfl ?_
    refine j_icmp_gt h (tgt := 1194) dL_law_1141 (by decide) (fun c => absurd c (xnlt (a := min 8 d) (b := k + 1) (by omega) (by omega))) (fun _ => ?_)
    refine j_aload_n h dL_law_1144 rfl 6 rfl ?_
    refine o_undo (wr := [(ra, .inl (cy 6, 13, .inr (.inl F)))]) h rfl hO ⟨Nat.le_of_ble_eq_true rfl, Nat.le_of_ble_eq_true rfl⟩ (Nat.le_of_ble_eq_true rfl) ⟨by show (uc + 160 * k) ≤ 659866; omega, by show (us + 35520 * k) ≤ 7122651; omega⟩ dL_law_1145 (fun z hz => ?_)
    obtain ⟨e1, hE, hO1⟩ := (P_undo hO z hz).2.1 (by omega)
    have hK := HI.ok hO.2.2.2.1 (i := 0) (by omega)
    rw [e1]
    clear hO; have hO := hO1; clear hO1
    refine j_istore h (lv' := [(10, _), (9, _), (8, _), (7, _), (6, _), (5, _), (3, _), (2, _), (0, _)]) dL_law_1148 (by decide) rfl ?_
    refine j_iload h dL_law_1150 0 rfl ?_
    refine j_iload h dL_law_1152 2 rfl ?_
    refine j_iload h dL_law_1154 1 rfl ?_
    refine j_isub h dL_law_1156 ?_
    rw [show ((nI (min 8 d)) - (nI (k + 1)) : Int32) = nI (min 8 d - (k + 1)) from lo_sub _ (by omega) _ (by omega) (by omega)]
    refine j_icmp_lt h (tgt := 1186) dL_law_1157 (by decide) (fun c => absurd c (xnlt (a := n - 1) (b := min 8 d - (k + 1)) (by omega) (by omega))) (fun _ => ?_)
    refine j_iload h dL_law_1160 0 rfl ?_
    refine j_bipush h (v := 8) dL_law_1162 (by decide) ?_
    refine j_iload h dL_law_1164 1 rfl ?_
    refine j_isub h dL_law_1166 ?_
    rw [show (8 - (nI (k + 1)) : Int32) = nI (8 - (k + 1)) from lo_sub 8 (by decide) _ (by omega) (by omega)]
    refine j_icmp_gt h (tgt := 1186) dL_law_1167 (by decide) (fun c => absurd c (xnlt (a := 8 - (k + 1)) (b := n - 1) (by omega) (by omega))) (fun _ => ?_)
    refine j_aload_n h dL_law_1170 rfl 7 rfl ?_
    refine j_bSL h (n := 1) (c_L_asks l D cy hO) (wr := [(ra, .inl (cy 6, 13, .inr (.inl F)))]) rfl (xg_S (xr_38 13 rfl) (xr_38 14 rfl) (xr_30 2 rfl) (xr_38 15 rfl)) rfl rfl (by decide +kernel) ⟨Nat.le_of_ble_eq_true rfl, Nat.le_of_ble_eq_true rfl⟩ rfl rfl (Nat.le_of_ble_eq_true rfl) dL_law_1171 ⟨by show (uc + 160 * k) + 160 ≤ 659866; omega, by show (us + 35520 * k) + 35520 ≤ 7122651; omega⟩ (fun rr v hq => ?_)
    obtain ⟨rfl, X9, A9, b9, rfl, hO9, -, -⟩ := hq
    clear hO; have hO := hO9; clear hO9
    rw [sm_qs (SAME.eq hE hK), ← hF 0 (by omega), Nat.sub_zero]
    refine j_aload h dL_law_1174 4 rfl ?_
    refine j_iload h dL_law_1176 3 rfl ?_
    refine j_iload h dL_law_1178 1 rfl ?_
    refine j_isub h dL_law_1180 ?_
    rw [show ((nI d) - (nI (k + 1)) : Int32) = nI (d - (k + 1)) from lo_sub _ (by omega) _ (by omega) (by omega)]
    refine j_lald h 0 rfl (d - (k + 1)) rfl (by omega) (by decide) dL_law_1181 ?_
    refine j_lcmp h dL_law_1182 ?_
    rw [lg_self]
    refine j_if_eq h (tgt := 1188) dL_law_1183 (by decide) (fun _ => ?_) (fun c => absurd rfl c)
    refine j_iinc h (v := nI ((k + 1) + 1)) (lv' := [(9, _), (10, _), (8, _), (7, _), (6, _), (5, _), (3, _), (2, _), (0, _)]) dL_law_1188 (k := 1) rfl (nI_1 (k + 1)) (by decide) rfl ?_
    refine j_goto h (tgt := 1137) dL_law_1191 (by decide) ?_
    refine j_sub h [0, 2, 3, 4, 5, 6, 7, 8] rfl (lv' := [(9, .int (nI (k + 1 + 1))), (8, .int (nI (min 8 d))), (7, .int (nI d)), (6, .ref ra), (5, .int hr5), (3, .long s3), (2, .ref (L 11 0)), (0, .ref D.2.2.2.1)]) ?_
    refine j_widen h (k := uc + 160 * (k + 1)) (n := us + 35520 * (k + 1)) (by show (uc + 160 * k) + 160 ≤ _; omega) (by show (us + 35520 * k) + 35520 ≤ _; omega) ?_
    exact ih (k + 1) (by omega) _ _ _ _ _ _ _ t hO (by omega) (by omega) (fun j hj => by
      have q := hF (j + 1) (by omega)
      rw [show d - (k + 1) - (j + 1) = d - (k + 1 + 1) - j by omega] at q
      exact q)
theorem lo_e (h : OKJ l D cy wI J cL_law 11 yL_law rm_L_law) {uc us : Nat} (hqc : uc + 320 ≤ 659866) (hqs : us + 71040 ≤ 7122651) {F : Nat → Int64} (hs3 : s3 = ask (qs S)) (h5 : hr5 = S.1 5) (hend : ∀ (u : va_W) (q : Nat × Nat) (lv : List (Nat × Value)), q.1 ≤ 659866 → q.2 ≤ 7122651 → J u q lv 1244 [.int 1]) : ∀ (G : Nat → gM) (M : gM) (X : Nat → Int32) (A : Nat → Nat → Int32) (b : cB) (hh : Nat → gM) (n : Nat) (t : Nat → Nat), OBx G M X A b hh n (some S) t 0 → J ([(ra, .inl (cy 6, 13, .inr (.inl F)))] ++ CW cy L ((va_up G 0 M, X, A), b)) (uc, us) [(6, .ref ra), (5, .int hr5), (3, .long s3), (2, .ref (L 11 0)), (0, .ref D.2.2.2.1)] 1194 [] := by
  intro G M X A b hh n t hO
  have hK := lo_rst hO.2.2.2.2.1
  refine j_aload_n h dL_law_1194 rfl 3 rfl ?_
  refine o_restore (wr := [(ra, .inl (cy 6, 13, .inr (.inl F)))]) h rfl hO ⟨Nat.le_of_ble_eq_true rfl, Nat.le_of_ble_eq_true rfl⟩ (Nat.le_of_ble_eq_true rfl) ⟨by show uc ≤ 659866; omega, by show us ≤ 7122651; omega⟩ dL_law_1195 (fun z hz => ?_)
  obtain ⟨e1, hE, hO1⟩ := (P_restore hO z hz).2.2 S rfl
  rw [e1, ← h5]
  clear hz e1 hO; generalize z.2.1 = M at hE hO1 ⊢; generalize z.2.2 = X at hO1 ⊢; have hO := hO1; clear hO1
  refine j_iload h dL_law_1198 1 rfl ?_
  refine j_icmp_ne h (tgt := 1243) dL_law_1200 (by decide) (fun c => absurd rfl c) (fun _ => ?_)
  refine j_aload_n h dL_law_1203 rfl 3 rfl ?_
  refine o_undo (wr := [(ra, .inl (cy 6, 13, .inr (.inl F)))]) h rfl hO ⟨Nat.le_of_ble_eq_true rfl, Nat.le_of_ble_eq_true rfl⟩ (Nat.le_of_ble_eq_true rfl) ⟨by show uc ≤ 659866; omega, by show us ≤ 7122651; omega⟩ dL_law_1204 (fun z hz => ?_)
  obtain rfl := (P_undo hO z hz).1 rfl
  clear hz
  show J ([(ra, .inl (cy 6, 13, .inr (.inl F)))] ++ CW cy L ((va_up G 0 M, X, A), b)) _ _ _ (.int (-4) :: _)
  refine j_bipush h (v := (-4)) dL_law_1207 (by decide) ?_
  refine j_icmp_ne h (tgt := 1243) dL_law_1209 (by decide) (fun c => absurd rfl c) (fun _ => ?_)
  refine j_aload_n h dL_law_1212 rfl 3 rfl ?_
  refine j_bSL h (n := 1) (c_L_asks l D cy hO) (wr := [(ra, .inl (cy 6, 13, .inr (.inl F)))]) rfl (xg_S (xr_38 13 rfl) (xr_38 14 rfl) (xr_30 2 rfl) (xr_38 15 rfl)) rfl rfl (by decide +kernel) ⟨Nat.le_of_ble_eq_true rfl, Nat.le_of_ble_eq_true rfl⟩ rfl rfl (Nat.le_of_ble_eq_true rfl) dL_law_1213 ⟨by show uc + 160 ≤ 659866; omega, by show us + 35520 ≤ 7122651; omega⟩ (fun rr v hq => ?_)
  obtain ⟨rfl, X9, A9, b9, rfl, hO9, -, -⟩ := hq
  clear hO; have hO := hO9; clear hO9
  rw [sm_qs (SAME.eq hE hK), ← hs3]
  refine j_lload_n h dL_law_1216 rfl 2 rfl ?_
  refine j_lcmp h dL_law_1217 ?_
  rw [lg_self]
  refine j_if_ne h (tgt := 1243) dL_law_1218 (by decide) (fun c => absurd rfl c) (fun _ => ?_)
  refine j_aload_n h dL_law_1221 rfl 3 rfl ?_
  refine o_restore (wr := [(ra, .inl (cy 6, 13, .inr (.inl F)))]) h rfl hO ⟨Nat.le_of_ble_eq_true rfl, Nat.le_of_ble_eq_true rfl⟩ (Nat.le_of_ble_eq_true rfl) ⟨by show uc + 160 ≤ 659866; omega, by show us + 35520 ≤ 7122651; omega⟩ dL_law_1222 (fun z hz => ?_)
  obtain ⟨e1, hE, hO1⟩ := (P_restore hO z hz).2.2 S rfl
  rw [e1, ← h5]
  clear hz e1 hO; generalize z.2.1 = M at hE hO1 ⊢; generalize z.2.2 = X at hO1 ⊢; have hO := hO1; clear hO1
  refine j_iload h dL_law_1225 1 rfl ?_
  refine j_icmp_ne h (tgt := 1243) dL_law_1227 (by decide) (fun c => absurd rfl c) (fun _ => ?_)
  refine j_aload_n h dL_law_1230 rfl 3 rfl ?_
  refine j_bSL h (n := 1) (c_L_asks l D cy hO) (wr := [(ra, .inl (cy 6, 13, .inr (.inl F)))]) rfl (xg_S (xr_38 13 rfl) (xr_38 14 rfl) (xr_30 2 rfl) (xr_38 15 rfl)) rfl rfl (by decide +kernel) ⟨Nat.le_of_ble_eq_true rfl, Nat.le_of_ble_eq_true rfl⟩ rfl rfl (Nat.le_of_ble_eq_true rfl) dL_law_1231 ⟨by show uc + 160 + 160 ≤ 659866; omega, by show us + 35520 + 35520 ≤ 7122651; omega⟩ (fun rr v hq => ?_)
  obtain ⟨rfl, X9, A9, b9, rfl, hO9, -, -⟩ := hq
  clear hO; have hO := hO9; clear hO9
  rw [sm_qs (SAME.eq hE hK), ← hs3]
  refine j_lload_n h dL_law_1234 rfl 2 rfl ?_
  refine j_lcmp h dL_law_1235 ?_
  rw [lg_self]
  refine j_if_ne h (tgt := 1243) dL_law_1236 (by decide) (fun c => absurd rfl c) (fun _ => ?_)
  refine j_iconst h (v := 1) dL_law_1239 (by decide) ?_
  refine j_goto h (tgt := 1244) dL_law_1240 (by decide) ?_
  exact hend _ _ _ (by show uc + 160 + 160 ≤ 659866; omega) (by show us + 35520 + 35520 ≤ 7122651; omega)
theorem lo_b (h : OKJ l D cy wI J cL_law 11 yL_law rm_L_law) (hL : D.2.2.2.2.1 ≤ 260) {uc us : Nat} (hqc : uc + 5729 ≤ 659866) (hqs : us + 1261453 ≤ 7122651) (hs3 : s3 = ask (qs S)) (h5 : hr5 = S.1 5) (hend : ∀ (u : va_W) (q : Nat × Nat) (lv : List (Nat × Value)), q.1 ≤ 659866 → q.2 ≤ 7122651 → J u q lv 1244 [.int 1]) : ∀ (G : Nat → gM) (M : gM) (X : Nat → Int32) (A : Nat → Nat → Int32) (b : cB) (hh : Nat → gM) (n : Nat) (t : Nat → Nat), OBx G M X A b hh n (some S) t 0 → J ([] ++ CW cy L ((va_up G 0 M, X, A), b)) (uc, us) [(5, .int hr5), (3, .long s3), (2, .ref (L 11 0)), (0, .ref D.2.2.2.1)] 1046 [] := by
  intro G M X A b hh n t hO
  refine j_bipush h (v := 13) dL_law_1046 (by decide) ?_
  refine j_newl h (xr_1 5 rfl) (N := 13) (by decide) (by decide) (by decide) (by show uc + 1 ≤ 659866; omega) (by show us + 13 ≤ 7122651; omega) dL_law_1048 (fun ra => ?_)
  refine j_pm h (w := [(ra, .inl (cy 6, 13, .inr (.inl (fun _ => 0))))] ++ CW cy L ((va_up G 0 M, X, A), b)) List.perm_append_comm ?_
  refine j_astore h (lv' := [(6, _), (5, _), (3, _), (2, _), (0, _)]) dL_law_1050 (by decide) rfl ?_
  refine j_iconst h (v := 0) dL_law_1052 (by decide) ?_
  refine j_istore h (lv' := [(7, _), (6, _), (5, _), (3, _), (2, _), (0, _)]) dL_law_1053 (by decide) rfl ?_
  refine j_iconst h (v := 0) dL_law_1055 (by decide) ?_
  refine j_istore h (lv' := [(8, _), (7, _), (6, _), (5, _), (3, _), (2, _), (0, _)]) dL_law_1056 (by decide) rfl ?_
  refine j_sub h [0, 1, 2, 3, 4, 5, 6] rfl (lv' := [(8, .int (nI 0)), (7, .int (nI 0)), (6, .ref ra), (5, .int hr5), (3, .long s3), (2, .ref (L 11 0)), (0, .ref D.2.2.2.1)]) ?_
  refine lo_c h hL (uc := uc + 1) (us := us + 13) (by omega) (by omega) (fun F d G M X A b hh n t hO hd hn hF => ?_) 12 0 rfl _ 0 _ _ _ _ _ _ _ t hO (Nat.le_refl _) (by omega) (fun j hj => absurd hj (Nat.not_lt_zero _))
  refine j_bipush h (v := 8) dL_law_1125 (by decide) ?_
  refine j_iload h dL_law_1127 1 rfl ?_
  refine j_mmin h (xr_1 6 rfl) (xr_1 7 rfl) (xr_1 8 rfl) (xr_1 9 rfl) (Nat.le_of_ble_eq_true rfl) (Nat.le_of_ble_eq_true rfl) (by show uc + 1 + 4128 ≤ 659866; omega) (by show us + 13 + 906240 ≤ 7122651; omega) dL_law_1129 ?_
  rw [lo_min hd]
  refine j_istore h (lv' := [(8, _), (7, _), (6, _), (5, _), (3, _), (2, _), (0, _)]) dL_law_1132 (by decide) rfl ?_
  refine j_iconst h (v := 1) dL_law_1134 (by decide) ?_
  refine j_istore h (lv' := [(9, _), (8, _), (7, _), (6, _), (5, _), (3, _), (2, _), (0, _)]) dL_law_1135 (by decide) rfl ?_
  refine j_sub h [0, 1, 2, 3, 4, 5, 6, 7] rfl (lv' := [(9, .int (nI (0 + 1))), (8, .int (nI (min 8 d))), (7, .int (nI d)), (6, .ref ra), (5, .int hr5), (3, .long s3), (2, .ref (L 11 0)), (0, .ref D.2.2.2.1)]) ?_
  refine lo_u h (uc := uc + 1 + 4128) (us := us + 13 + 906240) (by omega) (by omega) hd (fun G M X A b hh n t hO => ?_) (min 8 d) 0 rfl _ _ _ _ _ _ _ t hO (by omega) hO.2.2.2.1.n8 (fun j hj => by
    have q := hF j (by omega) (by omega)
    rw [show d - 1 - j = d - (0 + 1) - j by omega] at q
    exact q)
  exact lo_e h (uc := uc + 1 + 4128 + 1280) (us := us + 13 + 906240 + 284160) (by omega) (by omega) hs3 h5 hend _ _ _ _ _ _ _ t hO
end LU

theorem j_digO {l : Launch} {D : gD} {cy : Nat → ClassId} {S : Type} {Wd : S → va_W} {J : JT S} {cc : ByteArray} {nL : Nat} {y0 : MethodName} {R : Room} {u : S} {q : Nat × Nat} {lv : List (Nat × Value)} {pc : Nat} {rest : List Value} (h : OKJ l D cy Wd J cc nL y0 R) {index : Nat} (hlink : Cond.fieldLink y0.cls index "java/lang/Integer" "DigitOnes" "[B" ∈ wsL_law) (hdg : decode cc pc = .ok (.getstatic index, 3))
    (kk : ∀ t : Nat, (∀ (q : Nat × Nat) (lv : List (Nat × Value)) (pc : Nat) (rest : List Value) (j : Nat), j < 100 → decode cc pc = .ok (.baload, 1) → J u q lv (pc + 1) (.int (nI (48 + j % 10)) :: rest) → J u q lv pc (.int (nI j) :: .ref t :: rest)) → J u q lv (pc + 3) (.ref t :: rest)) : J u q lv pc rest := by
  obtain ⟨p, e, s, m, args, below, meth, c, A, H0, Q, h0, hK, hA, hnm', hH0, hZ, rfl⟩ := h
  intro H locs ls hP hD hS hl0
  subst hH0
  obtain ⟨t, ht, hT⟩ := hZ.2.2.1
  refine va_gets h0.1 h0.2.1 ht hS h0.2.2.2.1 (h0.2.2.2.2 _ hlink) (fun x hx => hx) hdg (kk t (fun q lv pc rest j hj hd k H locs ls hP hD hS hl0 => ?_) H locs ls hP hD hS hl0)
  exact va_tb h0.1 h0.2.1 hT hS (vp_in_nI hj (by decide)) (by rw [nI_clamp (by omega)]) hd (k H locs ls hP hD hS hl0)
theorem j_digT {l : Launch} {D : gD} {cy : Nat → ClassId} {S : Type} {Wd : S → va_W} {J : JT S} {cc : ByteArray} {nL : Nat} {y0 : MethodName} {R : Room} {u : S} {q : Nat × Nat} {lv : List (Nat × Value)} {pc : Nat} {rest : List Value} (h : OKJ l D cy Wd J cc nL y0 R) {index : Nat} (hlink : Cond.fieldLink y0.cls index "java/lang/Integer" "DigitTens" "[B" ∈ wsL_law) (hdg : decode cc pc = .ok (.getstatic index, 3))
    (kk : ∀ t : Nat, (∀ (q : Nat × Nat) (lv : List (Nat × Value)) (pc : Nat) (rest : List Value) (j : Nat), j < 100 → decode cc pc = .ok (.baload, 1) → J u q lv (pc + 1) (.int (nI (48 + j / 10)) :: rest) → J u q lv pc (.int (nI j) :: .ref t :: rest)) → J u q lv (pc + 3) (.ref t :: rest)) : J u q lv pc rest := by
  obtain ⟨p, e, s, m, args, below, meth, c, A, H0, Q, h0, hK, hA, hnm', hH0, hZ, rfl⟩ := h
  intro H locs ls hP hD hS hl0
  subst hH0
  obtain ⟨t, ht, hT⟩ := hZ.2.2.2.1
  refine va_gets h0.1 h0.2.1 ht hS h0.2.2.2.1 (h0.2.2.2.2 _ hlink) (fun x hx => hx) hdg (kk t (fun q lv pc rest j hj hd k H locs ls hP hD hS hl0 => ?_) H locs ls hP hD hS hl0)
  exact va_tb h0.1 h0.2.1 hT hS (vp_in_nI hj (by decide)) (by rw [nI_clamp (by omega)]) hd (k H locs ls hP hD hS hl0)
abbrev rm_J6_stringSize_0f7a4 : Room := { frames := 0, cells := 0, slots := 0, locals := 0 }

theorem c_J6_stringSize_1 (l : Launch) (D : gD) (cy : Nat → ClassId) {S : Type} {Wd : S → va_W} (u : S) {v : Nat} (h0 : 0 ≤ v) (h1 : v < 10) : CtI l D cy Wd yJ6_stringSize_0f7a4 cJ6_stringSize_0f7a4 4 (some .int) rm_J6_stringSize_0f7a4 [.int (nI v)] (u) (fun r u' => r = 1 ∧ u' = u) 0 0 := by
  refine m_entI cJ6_stringSize_0f7a4 4 (by decide) (Nat.le_of_ble_eq_true rfl) (fun J h hR => ?_)
  show J (u) (0, 0) [(0, .int (nI v))] 0 []
  refine j_iconst h (v := 1) dJ6_stringSize_0f7a4_0 (by decide) ?_
  refine j_istore_n h (lv' := [(1, _), (0, _)]) dJ6_stringSize_0f7a4_1 rfl (by decide) rfl ?_
  refine j_iload_n h dJ6_stringSize_0f7a4_2 rfl 1 rfl ?_
  refine j_if_lt h (tgt := 11) dJ6_stringSize_0f7a4_3 (by decide) (fun c => absurd c (nI_pos (by omega))) (fun _ => ?_)
  refine j_iconst h (v := 0) dJ6_stringSize_0f7a4_6 (by decide) ?_
  refine j_istore_n h (lv' := [(1, _), (0, _)]) dJ6_stringSize_0f7a4_7 rfl (by decide) rfl ?_
  refine j_iload_n h dJ6_stringSize_0f7a4_8 rfl 1 rfl ?_
  refine j_ineg h dJ6_stringSize_0f7a4_9 ?_
  refine j_istore_n h (lv' := [(0, _), (1, _)]) dJ6_stringSize_0f7a4_10 rfl (by decide) rfl ?_
  refine j_bipush h (v := (-10)) dJ6_stringSize_0f7a4_11 (by decide) ?_
  refine j_istore_n h (lv' := [(2, _), (0, _), (1, _)]) dJ6_stringSize_0f7a4_13 rfl (by decide) rfl ?_
  refine j_iconst h (v := 1) dJ6_stringSize_0f7a4_14 (by decide) ?_
  refine j_istore_n h (lv' := [(3, _), (2, _), (0, _), (1, _)]) dJ6_stringSize_0f7a4_15 rfl (by decide) rfl ?_
  refine j_iload_n h dJ6_stringSize_0f7a4_16 rfl 0 rfl ?_
  refine j_bipush h (v := 10) dJ6_stringSize_0f7a4_17 (by decide) ?_
  refine j_icmp_ge h (tgt := 42) dJ6_stringSize_0f7a4_19 (by decide) (fun c => absurd c (by decide)) (fun _ => ?_)
  refine j_iload_n h dJ6_stringSize_0f7a4_22 rfl 2 rfl ?_
  refine j_iload_n h dJ6_stringSize_0f7a4_23 rfl 1 rfl ?_
  refine j_icmp_le h (tgt := 31) dJ6_stringSize_0f7a4_24 (by decide) (fun c => absurd ((sb_nle (a := v) (b := 10) (by omega) (by decide)).mp c) (by omega)) (fun _ => ?_)
  refine j_iload_n h dJ6_stringSize_0f7a4_27 rfl 0 rfl ?_
  refine j_iload_n h dJ6_stringSize_0f7a4_28 rfl 3 rfl ?_
  refine j_iadd h dJ6_stringSize_0f7a4_29 ?_
  rw [show (1 + 0 : Int32) = 1 from (by decide)]
  exact hR _ _ _ _ dJ6_stringSize_0f7a4_30 ⟨rfl, rfl⟩


theorem c_J6_stringSize_2 (l : Launch) (D : gD) (cy : Nat → ClassId) {S : Type} {Wd : S → va_W} (u : S) {v : Nat} (h0 : 10 ≤ v) (h1 : v < 100) : CtI l D cy Wd yJ6_stringSize_0f7a4 cJ6_stringSize_0f7a4 4 (some .int) rm_J6_stringSize_0f7a4 [.int (nI v)] (u) (fun r u' => r = 2 ∧ u' = u) 0 0 := by
  refine m_entI cJ6_stringSize_0f7a4 4 (by decide) (Nat.le_of_ble_eq_true rfl) (fun J h hR => ?_)
  show J (u) (0, 0) [(0, .int (nI v))] 0 []
  refine j_iconst h (v := 1) dJ6_stringSize_0f7a4_0 (by decide) ?_
  refine j_istore_n h (lv' := [(1, _), (0, _)]) dJ6_stringSize_0f7a4_1 rfl (by decide) rfl ?_
  refine j_iload_n h dJ6_stringSize_0f7a4_2 rfl 1 rfl ?_
  refine j_if_lt h (tgt := 11) dJ6_stringSize_0f7a4_3 (by decide) (fun c => absurd c (nI_pos (by omega))) (fun _ => ?_)
  refine j_iconst h (v := 0) dJ6_stringSize_0f7a4_6 (by decide) ?_
  refine j_istore_n h (lv' := [(1, _), (0, _)]) dJ6_stringSize_0f7a4_7 rfl (by decide) rfl ?_
  refine j_iload_n h dJ6_stringSize_0f7a4_8 rfl 1 rfl ?_
  refine j_ineg h dJ6_stringSize_0f7a4_9 ?_
  refine j_istore_n h (lv' := [(0, _), (1, _)]) dJ6_stringSize_0f7a4_10 rfl (by decide) rfl ?_
  refine j_bipush h (v := (-10)) dJ6_stringSize_0f7a4_11 (by decide) ?_
  refine j_istore_n h (lv' := [(2, _), (0, _), (1, _)]) dJ6_stringSize_0f7a4_13 rfl (by decide) rfl ?_
  refine j_iconst h (v := 1) dJ6_stringSize_0f7a4_14 (by decide) ?_
  refine j_istore_n h (lv' := [(3, _), (2, _), (0, _), (1, _)]) dJ6_stringSize_0f7a4_15 rfl (by decide) rfl ?_
  refine j_iload_n h dJ6_stringSize_0f7a4_16 rfl 0 rfl ?_
  refine j_bipush h (v := 10) dJ6_stringSize_0f7a4_17 (by decide) ?_
  refine j_icmp_ge h (tgt := 42) dJ6_stringSize_0f7a4_19 (by decide) (fun c => absurd c (by decide)) (fun _ => ?_)
  refine j_iload_n h dJ6_stringSize_0f7a4_22 rfl 2 rfl ?_
  refine j_iload_n h dJ6_stringSize_0f7a4_23 rfl 1 rfl ?_
  refine j_icmp_le h (tgt := 31) dJ6_stringSize_0f7a4_24 (by decide) (fun _ => ?_) (fun c => absurd (show -nI v ≤ -nI 10 from (sb_nle (by omega) (by decide)).mpr (by omega)) c)
  refine j_bipush h (v := 10) dJ6_stringSize_0f7a4_31 (by decide) ?_
  refine j_iload_n h dJ6_stringSize_0f7a4_33 rfl 1 rfl ?_
  refine j_imul h dJ6_stringSize_0f7a4_34 ?_
  rw [show (10 * (-10) : Int32) = (-100) from (by decide)]
  refine j_istore_n h (lv' := [(2, _), (3, _), (0, _), (1, _)]) dJ6_stringSize_0f7a4_35 rfl (by decide) rfl ?_
  refine j_iinc h (v := 2) (lv' := [(3, _), (2, _), (0, _), (1, _)]) dJ6_stringSize_0f7a4_36 (k := 1) rfl (by decide) (by decide) rfl ?_
  refine j_goto h (tgt := 16) dJ6_stringSize_0f7a4_39 (by decide) ?_
  refine j_iload_n h dJ6_stringSize_0f7a4_16 rfl 0 rfl ?_
  refine j_bipush h (v := 10) dJ6_stringSize_0f7a4_17 (by decide) ?_
  refine j_icmp_ge h (tgt := 42) dJ6_stringSize_0f7a4_19 (by decide) (fun c => absurd c (by decide)) (fun _ => ?_)
  refine j_iload_n h dJ6_stringSize_0f7a4_22 rfl 2 rfl ?_
  refine j_iload_n h dJ6_stringSize_0f7a4_23 rfl 1 rfl ?_
  refine j_icmp_le h (tgt := 31) dJ6_stringSize_0f7a4_24 (by decide) (fun c => absurd ((sb_nle (a := v) (b := 100) (by omega) (by decide)).mp c) (by omega)) (fun _ => ?_)
  refine j_iload_n h dJ6_stringSize_0f7a4_27 rfl 0 rfl ?_
  refine j_iload_n h dJ6_stringSize_0f7a4_28 rfl 3 rfl ?_
  refine j_iadd h dJ6_stringSize_0f7a4_29 ?_
  rw [show (2 + 0 : Int32) = 2 from (by decide)]
  exact hR _ _ _ _ dJ6_stringSize_0f7a4_30 ⟨rfl, rfl⟩


theorem c_J6_stringSize_3 (l : Launch) (D : gD) (cy : Nat → ClassId) {S : Type} {Wd : S → va_W} (u : S) {v : Nat} (h0 : 100 ≤ v) (h1 : v < 1000) : CtI l D cy Wd yJ6_stringSize_0f7a4 cJ6_stringSize_0f7a4 4 (some .int) rm_J6_stringSize_0f7a4 [.int (nI v)] (u) (fun r u' => r = 3 ∧ u' = u) 0 0 := by
  refine m_entI cJ6_stringSize_0f7a4 4 (by decide) (Nat.le_of_ble_eq_true rfl) (fun J h hR => ?_)
  show J (u) (0, 0) [(0, .int (nI v))] 0 []
  refine j_iconst h (v := 1) dJ6_stringSize_0f7a4_0 (by decide) ?_
  refine j_istore_n h (lv' := [(1, _), (0, _)]) dJ6_stringSize_0f7a4_1 rfl (by decide) rfl ?_
  refine j_iload_n h dJ6_stringSize_0f7a4_2 rfl 1 rfl ?_
  refine j_if_lt h (tgt := 11) dJ6_stringSize_0f7a4_3 (by decide) (fun c => absurd c (nI_pos (by omega))) (fun _ => ?_)
  refine j_iconst h (v := 0) dJ6_stringSize_0f7a4_6 (by decide) ?_
  refine j_istore_n h (lv' := [(1, _), (0, _)]) dJ6_stringSize_0f7a4_7 rfl (by decide) rfl ?_
  refine j_iload_n h dJ6_stringSize_0f7a4_8 rfl 1 rfl ?_
  refine j_ineg h dJ6_stringSize_0f7a4_9 ?_
  refine j_istore_n h (lv' := [(0, _), (1, _)]) dJ6_stringSize_0f7a4_10 rfl (by decide) rfl ?_
  refine j_bipush h (v := (-10)) dJ6_stringSize_0f7a4_11 (by decide) ?_
  refine j_istore_n h (lv' := [(2, _), (0, _), (1, _)]) dJ6_stringSize_0f7a4_13 rfl (by decide) rfl ?_
  refine j_iconst h (v := 1) dJ6_stringSize_0f7a4_14 (by decide) ?_
  refine j_istore_n h (lv' := [(3, _), (2, _), (0, _), (1, _)]) dJ6_stringSize_0f7a4_15 rfl (by decide) rfl ?_
  refine j_iload_n h dJ6_stringSize_0f7a4_16 rfl 0 rfl ?_
  refine j_bipush h (v := 10) dJ6_stringSize_0f7a4_17 (by decide) ?_
  refine j_icmp_ge h (tgt := 42) dJ6_stringSize_0f7a4_19 (by decide) (fun c => absurd c (by decide)) (fun _ => ?_)
  refine j_iload_n h dJ6_stringSize_0f7a4_22 rfl 2 rfl ?_
  refine j_iload_n h dJ6_stringSize_0f7a4_23 rfl 1 rfl ?_
  refine j_icmp_le h (tgt := 31) dJ6_stringSize_0f7a4_24 (by decide) (fun _ => ?_) (fun c => absurd (show -nI v ≤ -nI 10 from (sb_nle (by omega) (by decide)).mpr (by omega)) c)
  refine j_bipush h (v := 10) dJ6_stringSize_0f7a4_31 (by decide) ?_
  refine j_iload_n h dJ6_stringSize_0f7a4_33 rfl 1 rfl ?_
  refine j_imul h dJ6_stringSize_0f7a4_34 ?_
  rw [show (10 * (-10) : Int32) = (-100) from (by decide)]
  refine j_istore_n h (lv' := [(2, _), (3, _), (0, _), (1, _)]) dJ6_stringSize_0f7a4_35 rfl (by decide) rfl ?_
  refine j_iinc h (v := 2) (lv' := [(3, _), (2, _), (0, _), (1, _)]) dJ6_stringSize_0f7a4_36 (k := 1) rfl (by decide) (by decide) rfl ?_
  refine j_goto h (tgt := 16) dJ6_stringSize_0f7a4_39 (by decide) ?_
  refine j_iload_n h dJ6_stringSize_0f7a4_16 rfl 0 rfl ?_
  refine j_bipush h (v := 10) dJ6_stringSize_0f7a4_17 (by decide) ?_
  refine j_icmp_ge h (tgt := 42) dJ6_stringSize_0f7a4_19 (by decide) (fun c => absurd c (by decide)) (fun _ => ?_)
  refine j_iload_n h dJ6_stringSize_0f7a4_22 rfl 2 rfl ?_
  refine j_iload_n h dJ6_stringSize_0f7a4_23 rfl 1 rfl ?_
  refine j_icmp_le h (tgt := 31) dJ6_stringSize_0f7a4_24 (by decide) (fun _ => ?_) (fun c => absurd (show -nI v ≤ -nI 100 from (sb_nle (by omega) (by decide)).mpr (by omega)) c)
  refine j_bipush h (v := 10) dJ6_stringSize_0f7a4_31 (by decide) ?_
  refine j_iload_n h dJ6_stringSize_0f7a4_33 rfl 1 rfl ?_
  refine j_imul h dJ6_stringSize_0f7a4_34 ?_
  rw [show (10 * (-100) : Int32) = (-1000) from (by decide)]
  refine j_istore_n h (lv' := [(2, _), (3, _), (0, _), (1, _)]) dJ6_stringSize_0f7a4_35 rfl (by decide) rfl ?_
  refine j_iinc h (v := 3) (lv' := [(3, _), (2, _), (0, _), (1, _)]) dJ6_stringSize_0f7a4_36 (k := 1) rfl (by decide) (by decide) rfl ?_
  refine j_goto h (tgt := 16) dJ6_stringSize_0f7a4_39 (by decide) ?_
  refine j_iload_n h dJ6_stringSize_0f7a4_16 rfl 0 rfl ?_
  refine j_bipush h (v := 10) dJ6_stringSize_0f7a4_17 (by decide) ?_
  refine j_icmp_ge h (tgt := 42) dJ6_stringSize_0f7a4_19 (by decide) (fun c => absurd c (by decide)) (fun _ => ?_)
  refine j_iload_n h dJ6_stringSize_0f7a4_22 rfl 2 rfl ?_
  refine j_iload_n h dJ6_stringSize_0f7a4_23 rfl 1 rfl ?_
  refine j_icmp_le h (tgt := 31) dJ6_stringSize_0f7a4_24 (by decide) (fun c => absurd ((sb_nle (a := v) (b := 1000) (by omega) (by decide)).mp c) (by omega)) (fun _ => ?_)
  refine j_iload_n h dJ6_stringSize_0f7a4_27 rfl 0 rfl ?_
  refine j_iload_n h dJ6_stringSize_0f7a4_28 rfl 3 rfl ?_
  refine j_iadd h dJ6_stringSize_0f7a4_29 ?_
  rw [show (3 + 0 : Int32) = 3 from (by decide)]
  exact hR _ _ _ _ dJ6_stringSize_0f7a4_30 ⟨rfl, rfl⟩


theorem c_J6_stringSize_4 (l : Launch) (D : gD) (cy : Nat → ClassId) {S : Type} {Wd : S → va_W} (u : S) {v : Nat} (h0 : 1000 ≤ v) (h1 : v < 10000) : CtI l D cy Wd yJ6_stringSize_0f7a4 cJ6_stringSize_0f7a4 4 (some .int) rm_J6_stringSize_0f7a4 [.int (nI v)] (u) (fun r u' => r = 4 ∧ u' = u) 0 0 := by
  refine m_entI cJ6_stringSize_0f7a4 4 (by decide) (Nat.le_of_ble_eq_true rfl) (fun J h hR => ?_)
  show J (u) (0, 0) [(0, .int (nI v))] 0 []
  refine j_iconst h (v := 1) dJ6_stringSize_0f7a4_0 (by decide) ?_
  refine j_istore_n h (lv' := [(1, _), (0, _)]) dJ6_stringSize_0f7a4_1 rfl (by decide) rfl ?_
  refine j_iload_n h dJ6_stringSize_0f7a4_2 rfl 1 rfl ?_
  refine j_if_lt h (tgt := 11) dJ6_stringSize_0f7a4_3 (by decide) (fun c => absurd c (nI_pos (by omega))) (fun _ => ?_)
  refine j_iconst h (v := 0) dJ6_stringSize_0f7a4_6 (by decide) ?_
  refine j_istore_n h (lv' := [(1, _), (0, _)]) dJ6_stringSize_0f7a4_7 rfl (by decide) rfl ?_
  refine j_iload_n h dJ6_stringSize_0f7a4_8 rfl 1 rfl ?_
  refine j_ineg h dJ6_stringSize_0f7a4_9 ?_
  refine j_istore_n h (lv' := [(0, _), (1, _)]) dJ6_stringSize_0f7a4_10 rfl (by decide) rfl ?_
  refine j_bipush h (v := (-10)) dJ6_stringSize_0f7a4_11 (by decide) ?_
  refine j_istore_n h (lv' := [(2, _), (0, _), (1, _)]) dJ6_stringSize_0f7a4_13 rfl (by decide) rfl ?_
  refine j_iconst h (v := 1) dJ6_stringSize_0f7a4_14 (by decide) ?_
  refine j_istore_n h (lv' := [(3, _), (2, _), (0, _), (1, _)]) dJ6_stringSize_0f7a4_15 rfl (by decide) rfl ?_
  refine j_iload_n h dJ6_stringSize_0f7a4_16 rfl 0 rfl ?_
  refine j_bipush h (v := 10) dJ6_stringSize_0f7a4_17 (by decide) ?_
  refine j_icmp_ge h (tgt := 42) dJ6_stringSize_0f7a4_19 (by decide) (fun c => absurd c (by decide)) (fun _ => ?_)
  refine j_iload_n h dJ6_stringSize_0f7a4_22 rfl 2 rfl ?_
  refine j_iload_n h dJ6_stringSize_0f7a4_23 rfl 1 rfl ?_
  refine j_icmp_le h (tgt := 31) dJ6_stringSize_0f7a4_24 (by decide) (fun _ => ?_) (fun c => absurd (show -nI v ≤ -nI 10 from (sb_nle (by omega) (by decide)).mpr (by omega)) c)
  refine j_bipush h (v := 10) dJ6_stringSize_0f7a4_31 (by decide) ?_
  refine j_iload_n h dJ6_stringSize_0f7a4_33 rfl 1 rfl ?_
  refine j_imul h dJ6_stringSize_0f7a4_34 ?_
  rw [show (10 * (-10) : Int32) = (-100) from (by decide)]
  refine j_istore_n h (lv' := [(2, _), (3, _), (0, _), (1, _)]) dJ6_stringSize_0f7a4_35 rfl (by decide) rfl ?_
  refine j_iinc h (v := 2) (lv' := [(3, _), (2, _), (0, _), (1, _)]) dJ6_stringSize_0f7a4_36 (k := 1) rfl (by decide) (by decide) rfl ?_
  refine j_goto h (tgt := 16) dJ6_stringSize_0f7a4_39 (by decide) ?_
  refine j_iload_n h dJ6_stringSize_0f7a4_16 rfl 0 rfl ?_
  refine j_bipush h (v := 10) dJ6_stringSize_0f7a4_17 (by decide) ?_
  refine j_icmp_ge h (tgt := 42) dJ6_stringSize_0f7a4_19 (by decide) (fun c => absurd c (by decide)) (fun _ => ?_)
  refine j_iload_n h dJ6_stringSize_0f7a4_22 rfl 2 rfl ?_
  refine j_iload_n h dJ6_stringSize_0f7a4_23 rfl 1 rfl ?_
  refine j_icmp_le h (tgt := 31) dJ6_stringSize_0f7a4_24 (by decide) (fun _ => ?_) (fun c => absurd (show -nI v ≤ -nI 100 from (sb_nle (by omega) (by decide)).mpr (by omega)) c)
  refine j_bipush h (v := 10) dJ6_stringSize_0f7a4_31 (by decide) ?_
  refine j_iload_n h dJ6_stringSize_0f7a4_33 rfl 1 rfl ?_
  refine j_imul h dJ6_stringSize_0f7a4_34 ?_
  rw [show (10 * (-100) : Int32) = (-1000) from (by decide)]
  refine j_istore_n h (lv' := [(2, _), (3, _), (0, _), (1, _)]) dJ6_stringSize_0f7a4_35 rfl (by decide) rfl ?_
  refine j_iinc h (v := 3) (lv' := [(3, _), (2, _), (0, _), (1, _)]) dJ6_stringSize_0f7a4_36 (k := 1) rfl (by decide) (by decide) rfl ?_
  refine j_goto h (tgt := 16) dJ6_stringSize_0f7a4_39 (by decide) ?_
  refine j_iload_n h dJ6_stringSize_0f7a4_16 rfl 0 rfl ?_
  refine j_bipush h (v := 10) dJ6_stringSize_0f7a4_17 (by decide) ?_
  refine j_icmp_ge h (tgt := 42) dJ6_stringSize_0f7a4_19 (by decide) (fun c => absurd c (by decide)) (fun _ => ?_)
  refine j_iload_n h dJ6_stringSize_0f7a4_22 rfl 2 rfl ?_
  refine j_iload_n h dJ6_stringSize_0f7a4_23 rfl 1 rfl ?_
  refine j_icmp_le h (tgt := 31) dJ6_stringSize_0f7a4_24 (by decide) (fun _ => ?_) (fun c => absurd (show -nI v ≤ -nI 1000 from (sb_nle (by omega) (by decide)).mpr (by omega)) c)
  refine j_bipush h (v := 10) dJ6_stringSize_0f7a4_31 (by decide) ?_
  refine j_iload_n h dJ6_stringSize_0f7a4_33 rfl 1 rfl ?_
  refine j_imul h dJ6_stringSize_0f7a4_34 ?_
  rw [show (10 * (-1000) : Int32) = (-10000) from (by decide)]
  refine j_istore_n h (lv' := [(2, _), (3, _), (0, _), (1, _)]) dJ6_stringSize_0f7a4_35 rfl (by decide) rfl ?_
  refine j_iinc h (v := 4) (lv' := [(3, _), (2, _), (0, _), (1, _)]) dJ6_stringSize_0f7a4_36 (k := 1) rfl (by decide) (by decide) rfl ?_
  refine j_goto h (tgt := 16) dJ6_stringSize_0f7a4_39 (by decide) ?_
  refine j_iload_n h dJ6_stringSize_0f7a4_16 rfl 0 rfl ?_
  refine j_bipush h (v := 10) dJ6_stringSize_0f7a4_17 (by decide) ?_
  refine j_icmp_ge h (tgt := 42) dJ6_stringSize_0f7a4_19 (by decide) (fun c => absurd c (by decide)) (fun _ => ?_)
  refine j_iload_n h dJ6_stringSize_0f7a4_22 rfl 2 rfl ?_
  refine j_iload_n h dJ6_stringSize_0f7a4_23 rfl 1 rfl ?_
  refine j_icmp_le h (tgt := 31) dJ6_stringSize_0f7a4_24 (by decide) (fun c => absurd ((sb_nle (a := v) (b := 10000) (by omega) (by decide)).mp c) (by omega)) (fun _ => ?_)
  refine j_iload_n h dJ6_stringSize_0f7a4_27 rfl 0 rfl ?_
  refine j_iload_n h dJ6_stringSize_0f7a4_28 rfl 3 rfl ?_
  refine j_iadd h dJ6_stringSize_0f7a4_29 ?_
  rw [show (4 + 0 : Int32) = 4 from (by decide)]
  exact hR _ _ _ _ dJ6_stringSize_0f7a4_30 ⟨rfl, rfl⟩


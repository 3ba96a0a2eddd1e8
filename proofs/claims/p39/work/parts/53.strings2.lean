section J2
variable {l : Launch} {D : gD} {cy : Nat → ClassId} {S : Type} {Wd : S → va_W} {J : JT S} {cc : ByteArray} {nL : Nat} {y0 : MethodName} {R : Room} {u : S} {q : Nat × Nat} {lv : List (Nat × Value)} {pc : Nat} {rest : List Value}
theorem j_ifnn (h : OKJ l D cy Wd J cc nL y0 R) {x : Nat} {off : Int} {tgt : Nat} (hdg : decode cc pc = .ok (.ifnonnull off, 3)) (ht : (pc : Int) + off = (tgt : Int)) (k : J u q lv tgt rest) : J u q lv pc (.ref x :: rest) := by
  obtain ⟨p, e, s, m, args, below, meth, c, A, H0, Q, h0, hK, hA, hnm, hH0, hZ, rfl⟩ := h
  intro H locs ls hP hD hS hl0
  exact lv_ifnonnull h0.1 h0.2.1 hdg ht (k H locs ls hP hD hS hl0)
theorem j_copyk (h : OKJ l D cy Wd J cc nL y0 R) {index i : Nat} (hi : i < 17) (h1 : Cond.methodLink y0.cls index arraycopyName ∈ wsL_law) (h2 : Cond.native arraycopyName ∈ wsL_law) (h3 : Cond.static arraycopyName ∈ wsL_law) (h4 : Cond.initialized "java/lang/System" ∈ wsL_law) (p1 : Nat) {a1 n1 : Nat} {g : Nat → Int32}
    (ha1 : (Wd u)[p1]? = some (a1, .inl (cy 5, n1, .inl g))) {sp dp n : Int32} (g1 : ¬ sp < 0) (g2 : ¬ dp < 0) (g3 : ¬ n < 0) (g4 : sp.toNatClampNeg + n.toNatClampNeg ≤ lenS.getD i 0) (g5 : dp.toNatClampNeg + n.toNatClampNeg ≤ n1) (hfit : ∀ j : Nat, j < n.toNatClampNeg → fits .byte (.int (chS i (sp.toNatClampNeg + j))) = true)
    (hfr : 1 ≤ R.frames) (hlo : (rest.map fun v => v.category).sum + (nativeFrameWords "java/lang/System" "arraycopy" 5 + 11) ≤ R.locals) (hdg : decode cc pc = .ok (.invokestatic index, 3)) {u' : S} (hset : (Wd u).set p1 (a1, .inl (cy 5, n1, .inl (va_cpy (chS i) g sp.toNatClampNeg dp.toNatClampNeg n.toNatClampNeg))) = Wd u')
    (kk : J u' q lv (pc + 3) rest) : J u q lv pc (.int n :: .int dp :: .ref a1 :: .int sp :: .ref (D.2.2.1 i) :: rest) := by
  obtain ⟨p, e, s, m, args, below, meth, c, A, H0, Q, h0, hK, hA, hnm', hH0, hZ, rfl⟩ := h
  intro H locs ls hP hD hS hl0
  subst hH0
  exact vk_copyt h0.1 h0.2.1 (h0.2.2.1.trans hl0.1.symm) h0.2.2.2.1 (h0.2.2.2.2 _ h1) (h0.2.2.2.2 _ h2) (h0.2.2.2.2 _ h3) (h0.2.2.2.2 _ h4) hK hP hD hS (f := chS i) (hZ.2.2.2.2.1.got hi).2.2.2 p1 5 ha1 rfl g1 g2 g3 g4 g5 hfit hfr hlo hdg (fun H1 locs1 hP1 hD1 hS1 => kk H1 locs1 ls (hset ▸ hP1) (hset ▸ hD1) hS1 hl0)
end J2
theorem chS_fit (i j : Nat) (hi : i < 17) (hj : j < lenS.getD i 0) : fits .byte (.int (chS i j)) = true ∧ chS i j = sb_b (chS i j).toNatClampNeg ∧ (chS i j).toNatClampNeg < 128 := by
  have h : ∀ i, i < 17 → ∀ j, j < lenS.getD i 0 → fits .byte (.int (chS i j)) = true ∧ chS i j = sb_b (chS i j).toNatClampNeg ∧ (chS i j).toNatClampNeg < 128 := by decide +kernel
  exact h i hi j hj
theorem chS_Fit {i n len : Nat} {f : Nat → Int32} (hi : i < 17) (hl : len = lenS.getD i 0) (hf : sb_Fit f) : sb_Fit (va_cpy (chS i) f 0 n len) := by
  intro j
  unfold va_cpy
  split
  · rename_i h
    exact (chS_fit i (0 + (j - n)) hi (by omega)).1
  · exact hf j
abbrev rm_J0_isEmpty_aae02 : Room := { frames := 0, cells := 0, slots := 0, locals := 0 }
theorem c_J0_isEmpty_aae02 (l : Launch) (D : gD) (cy : Nat → ClassId) {S : Type} {Wd : S → va_W} (u : S) {i : Nat} (hi : i < 17) : CtI l D cy Wd yJ0_isEmpty_aae02 cJ0_isEmpty_aae02 1 (some .boolean) rm_J0_isEmpty_aae02 [.ref (D.2.1 i)] (u) (fun r u' => r = (if nI (lenS.getD i 0) = 0 then 1 else 0) ∧ u' = u) 0 0 := by
  refine m_entZ cJ0_isEmpty_aae02 1 (by decide) (Nat.le_of_ble_eq_true rfl) (fun J h hR => ?_)
  show J (u) (0, 0) [(0, .ref (D.2.1 i))] 0 []
  refine j_aload_n h dJ0_isEmpty_aae02_0 rfl 0 rfl ?_
  refine j_kval h hi (xr_18 7 rfl) dJ0_isEmpty_aae02_1 ?_
  refine j_klen h hi dJ0_isEmpty_aae02_4 ?_
  refine j_if_ne h (tgt := 12) dJ0_isEmpty_aae02_5 (by decide) (fun c1 => ?_) (fun c1 => ?_)
  · refine j_iconst h (v := 0) dJ0_isEmpty_aae02_12 (by decide) ?_
    exact hR _ _ _ _ dJ0_isEmpty_aae02_13 (Or.inl rfl) ⟨Eq.symm (if_neg c1), rfl⟩
  · refine j_iconst h (v := 1) dJ0_isEmpty_aae02_8 (by decide) ?_
    refine j_goto h (tgt := 13) dJ0_isEmpty_aae02_9 (by decide) ?_
    exact hR _ _ _ _ dJ0_isEmpty_aae02_13 (Or.inr rfl) ⟨Eq.symm (if_pos c1), rfl⟩

abbrev rm_J0_getBytes_840e7 : Room := { frames := 1, cells := 0, slots := 0, locals := 64 }
theorem c_J0_getBytes_840e7 (l : Launch) (D : gD) (cy : Nat → ClassId) {S : Type} {Wd : S → va_W} {p q0 q1 : Nat} {put : sbV → S} (hB : SBL cy Wd p q0 q1 put) (ml nn : Int32) (a : Nat) {m n : Nat} {f : Nat → Int32} {i : Nat} (hi : i < 17) (hnm : n + lenS.getD i 0 ≤ m) (hm : m ≤ 65536) : CtV l D cy Wd yJ0_getBytes_840e7 cJ0_getBytes_840e7 4 none rm_J0_getBytes_840e7 [.ref (D.2.1 i), .ref a, .int (nI n), .int 0] (put (ml, nn, a, m, f)) (fun u' => u' = put (ml, nn, a, m, va_cpy (chS i) f 0 n (lenS.getD i 0))) 0 0 := by
  refine m_entV cJ0_getBytes_840e7 4 (by decide) (Nat.le_of_ble_eq_true rfl) (fun J h hR => ?_)
  show J (put (ml, nn, a, m, f)) (0, 0) [(0, .ref (D.2.1 i)), (1, .ref a), (2, .int (nI n)), (3, .int 0)] 0 []
  have hl := lenS_lt hi
  refine j_aload_n h dJ0_getBytes_840e7_0 rfl 0 rfl ?_
  refine j_kI h (n := 0) (c_J0_coder_7d493 l D cy _ hi) (xg_V (xr_18 12 rfl) (xr_18 13 rfl) (xr_18 14 rfl) (xr_15 19 rfl) (xr_18 15 rfl)) rfl rfl (by decide +kernel) ⟨Nat.le_of_ble_eq_true rfl, Nat.le_of_ble_eq_true rfl⟩ rfl hi rfl rfl rfl (Nat.le_of_ble_eq_true rfl) dJ0_getBytes_840e7_1 ⟨by decide, by decide⟩ (fun r u' hq => ?_)
  obtain ⟨rfl, rfl⟩ := hq
  refine j_iload_n h dJ0_getBytes_840e7_4 rfl 3 rfl ?_
  refine j_icmp_ne h (tgt := 28) dJ0_getBytes_840e7_5 (by decide) (fun c => absurd rfl c) (fun _ => ?_)
  refine j_aload_n h dJ0_getBytes_840e7_8 rfl 0 rfl ?_
  refine j_kval h hi (xr_18 7 rfl) dJ0_getBytes_840e7_9 ?_
  refine j_iconst h (v := 0) dJ0_getBytes_840e7_12 (by decide) ?_
  refine j_aload_n h dJ0_getBytes_840e7_13 rfl 1 rfl ?_
  refine j_iload_n h dJ0_getBytes_840e7_14 rfl 2 rfl ?_
  refine j_iload_n h dJ0_getBytes_840e7_15 rfl 3 rfl ?_
  refine j_ishl h dJ0_getBytes_840e7_16 ?_
  rw [show ((nI n) <<< (0 &&& 31) : Int32) = nI n from (sb_shl0 _)]
  refine j_aload_n h dJ0_getBytes_840e7_17 rfl 0 rfl ?_
  refine j_kval h hi (xr_18 7 rfl) dJ0_getBytes_840e7_18 ?_
  refine j_klen h hi dJ0_getBytes_840e7_21 ?_
  refine j_copyk h hi (xr_36 22 rfl) (xr_14 12 rfl) (xr_14 13 rfl) (xr_14 14 rfl) q1 (hB.2.2.1 _) (by decide) (nI_pos (by omega)) (nI_pos (by omega)) (by rw [nI_clamp (by omega), sb_cl0]; omega) (by rw [nI_clamp (by omega), nI_clamp (by omega)]; exact hnm) (fun j hj => ?_) (Nat.le_of_ble_eq_true rfl) (Nat.le_of_ble_eq_true rfl) dJ0_getBytes_840e7_22 (u' := put (ml, nn, a, m, va_cpy (chS i) f 0 n (lenS.getD i 0))) (by rw [nI_clamp (by omega), nI_clamp (by omega), sb_cl0]; exact hB.s1) ?_
  · rw [nI_clamp (by omega)] at hj; rw [sb_cl0]; exact (chS_fit i (0 + j) hi (by omega)).1
  refine j_goto h (tgt := 43) dJ0_getBytes_840e7_25 (by decide) ?_
  exact hR _ _ _ dJ0_getBytes_840e7_43 rfl


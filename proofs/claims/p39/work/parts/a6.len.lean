/-! ===== how long a line is ===== -/
theorem dg_100 {v : Nat} (h : v < 100) : sb_dg v ≤ 2 := by
  unfold sb_dg; (repeat' split) <;> omega
theorem dg_10000 {v : Nat} (h : v < 10000) : sb_dg v ≤ 4 := by
  unfold sb_dg; (repeat' split) <;> omega
section A9
variable {M : gM} {f : Nat → Int32}
theorem ww_len (h : GR M f) (p : Int32) (T : List Nat) : (f_X7_writeWood M p T).length ≤ T.length + 8 := by
  unfold f_X7_writeWood
  simp only [bd_x]
  by_cases c : f_X1_isWood M p = 0
  · rw [if_pos c]; omega
  · rw [if_neg c]
    obtain ⟨w, rfl, hw, hc⟩ := wood_of h c
    have hv := vp_lt (h.w (by omega) hc).2.1.2.2.2
    rw [nI_clamp (show w < 2 ^ 31 by omega)]
    have a := dg_100 (v := w) (by omega)
    have b := dg_10000 hv
    simp only [List.length_append, digs_len, List.length_cons, List.length_nil]
    omega
theorem l138_len (h : GR M f) (p : Int32) {c : Nat} (hc : c ≤ 8) : ∀ n k T, n + k = 9 → k ≤ c → (f_X7_describe_l138 M p (nI c) n k T).1 = nI (f_X7_describe_l138 M p (nI c) n k T).2.length ∧ (f_X7_describe_l138 M p (nI c) n k T).2.length ≤ T.length + 8 * (c - k) := by
  intro n
  induction n with
  | zero => intro k T hk hkc; exact absurd hkc (by omega)
  | succ n ih =>
    intro k T hk hkc
    unfold f_X7_describe_l138
    simp only [bd_x]
    by_cases e : nI c ≤ nI k
    · rw [if_pos e]
      exact ⟨rfl, by show T.length ≤ T.length + 8 * (c - k); omega⟩
    · rw [if_neg e]
      have hlt : k < c := by
        rcases Nat.lt_or_ge k c with q | q
        · exact q
        · exact absurd (nI_le q (by omega)) e
      obtain ⟨i1, i2⟩ := ih (k + 1) (f_X7_writeWood M (f_X1_woodInOrder M p (nI k)) T) (by omega) (by omega)
      have hw := ww_len h (f_X1_woodInOrder M p (nI k)) T
      exact ⟨i1, by omega⟩
theorem desc_both (h : GR M f) (p : Int32) : (f_X7_describe M p).2.length ≤ 110 ∧ (¬ f_X1_isRink M p = 0 → (f_X7_describe M p).1 = nI (f_X7_describe M p).2.length) ∧ (f_X1_isRink M p = 0 → (f_X7_describe M p).1 = -1) := by
  unfold f_X7_describe
  simp only [bd_x]
  by_cases c : f_X1_isRink M p = 0
  · rw [if_pos c]
    exact ⟨by decide, fun q => absurd c q, fun _ => rfl⟩
  · rw [if_neg c]
    obtain ⟨r, rfl, hr, hrc⟩ := rink_of h c
    have e : (nI r).toNatClampNeg = r := nI_clamp (by omega)
    have hR := (h.r (by omega) hrc).2
    have d0 := dg_100 (Nat.lt_of_lt_of_le (vp_lt hR.1) (by decide))
    have d1 := dg_100 (Nat.lt_of_lt_of_le (vp_lt hR.2.1) (by decide))
    have d2 := dg_100 (Nat.lt_of_lt_of_le (vp_lt hR.2.2.1) (by decide))
    have d4 := dg_100 (Nat.lt_of_lt_of_le (vp_lt hR.2.2.2.2.1) (by decide))
    have s5 : (strs 5).length = 2 := by rw [strs_len]; rfl
    have s6 : (strs 6).length = 3 := by rw [strs_len]; rfl
    have s7 : (strs 7).length = 4 := by rw [strs_len]; rfl
    have s8 : (strs 8).length = 2 := by rw [strs_len]; rfl
    have hcn := woodsOn_eq (p := nI r) h
    have h8 := lying_8r h hr hrc
    rw [e, hcn]
    generalize cnt (lyB M (nI r)) 16 = cc at h8 ⊢
    have key : ∀ T : List Nat, T.length ≤ 30 → (f_X7_describe_l138 M (nI r) (nI cc) 9 0 T).2.length ≤ 110 ∧ (f_X7_describe_l138 M (nI r) (nI cc) 9 0 T).1 = nI (f_X7_describe_l138 M (nI r) (nI cc) 9 0 T).2.length := fun T hT => by
      obtain ⟨i1, i2⟩ := l138_len h (nI r) h8 9 0 T rfl (Nat.zero_le _)
      exact ⟨by omega, i1⟩
    split
    · split
      · exact ⟨(key _ (by simp only [List.length_append, digs_len, List.length_cons, List.length_nil, s5, s6]; omega)).1, fun _ => (key _ (by simp only [List.length_append, digs_len, List.length_cons, List.length_nil, s5, s6]; omega)).2, fun q => absurd q c⟩
      · exact ⟨(key _ (by simp only [List.length_append, digs_len, List.length_cons, List.length_nil, s5, s6, s8]; omega)).1, fun _ => (key _ (by simp only [List.length_append, digs_len, List.length_cons, List.length_nil, s5, s6, s8]; omega)).2, fun q => absurd q c⟩
    · split
      · exact ⟨(key _ (by simp only [List.length_append, digs_len, List.length_cons, List.length_nil, s5, s7]; omega)).1, fun _ => (key _ (by simp only [List.length_append, digs_len, List.length_cons, List.length_nil, s5, s7]; omega)).2, fun q => absurd q c⟩
      · exact ⟨(key _ (by simp only [List.length_append, digs_len, List.length_cons, List.length_nil, s5, s7, s8]; omega)).1, fun _ => (key _ (by simp only [List.length_append, digs_len, List.length_cons, List.length_nil, s5, s7, s8]; omega)).2, fun q => absurd q c⟩
theorem desc_len (h : GR M f) (p : Int32) : (f_X7_describe M p).2.length ≤ 110 := (desc_both h p).1
/-- what is written of a line -/
theorem written_at {X X1 : Nat → Int32} {A A1 : Nat → Nat → Int32} {b b1 : cB} {T : List Nat} (hL : LK X A b T X1 A1 b1) (hT : T.length ≤ 110) {i : Nat} (hi : i < 200) : f_X7_written X1 A1 (nI i) = if i < T.length then nI (T.getD i 0) else -1 := by
  obtain ⟨x, a, e1, e2, e8', l1, l2, l3, l4, l5⟩ := hL
  unfold f_X7_written
  rw [if_neg (show ¬ nI i < 0 by exact Int32.not_lt.mpr (nI_pos' (by omega))), e8', nI_clamp (by omega)]
  by_cases c : i < T.length
  · rw [if_pos c, if_pos (nI_lt c (by omega)), l5 i c]
    refine (sb_byte _ (Nat.lt_trans (l4 (T.getD i 0) ?_) (by decide))).1
    rw [List.getD_eq_getElem?_getD, List.getElem?_eq_getElem c]
    exact List.getElem_mem c
  · rw [if_neg c, if_neg (fun q => c ((nI_ltI (by omega) (by omega)).mp q))]
end A9

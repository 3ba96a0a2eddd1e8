section AD2
variable {G : Nat → gM} {M N : gM} {f g : Nat → Int32} {X Y X1 Y1 : Nat → Int32} {A B A1 B1 : Nat → Nat → Int32} {a : Int32}
theorem cp_lay {p1 p2 : Int32} {m : Nat} (hm : m < 4) : ∀ n j (A : Nat → Nat → Int32), n + j = 11 → (∀ i, i ≠ 0 → f_X8_rink_l118 Y p1 p2 (nI m) n j A i = A i) ∧ (∀ i, f_X8_rink_l118 Y p1 p2 (nI m) n j A 0 i = if 17 + 10 * m + j ≤ i ∧ i < 17 + 10 * m + 10 then 0 else A 0 i) := by
  intro n
  induction n with
  | zero => intro j A hk; exact ⟨fun _ _ => rfl, fun i => (if_neg (by omega)).symm⟩
  | succ n ih =>
    intro j A hk
    unfold f_X8_rink_l118
    have lc : (10 : Int32) ≤ nI j ↔ 10 ≤ j := nI_leI (a := 10) (b := j) (by decide) (by omega)
    by_cases c : 10 ≤ j
    · rw [if_pos (lc.mpr c)]
      exact ⟨fun _ _ => rfl, fun i => (if_neg (by omega)).symm⟩
    · rw [if_neg (fun q => c (lc.mp q)), bd_x, srr m j (by omega) (nI_clamp (by omega))]
      obtain ⟨i1, i2⟩ := ih (j + 1) (up2 A 0 (17 + 10 * m + j) 0) (by omega)
      refine ⟨fun i hi => (i1 i hi).trans (up2_ne _ _ _ hi), fun i => (i2 i).trans ?_⟩
      by_cases e : i = 17 + 10 * m + j
      · subst e
        rw [if_neg (by omega), if_pos (by omega), up2_eq, upd_eq]
      · rw [up2_eq, upd_ne _ _ e]
        by_cases g : 17 + 10 * m + j ≤ i ∧ i < 17 + 10 * m + 10
        · rw [if_pos g, if_pos (by omega)]
        · rw [if_neg g, if_neg (by omega)]
/-- the row with the rink laid -/
def layRow (Y : Nat → Int32) (p1 p2 : Int32) (m : Nat) (T : Nat → Nat → Int32) : Nat → Nat → Int32 :=
  up2 (up2 (f_X8_rink_l118 Y p1 p2 (nI m) 11 0 (up2 T 0 3 (T 0 3 + 1))) 0 (17 + 10 * m + 0) p1) 0 (17 + 10 * m + 1) p2
theorem lay_l (h : GR M (B 0)) {p1 p2 : Int32} {m : Nat} (hm : m < 4) (em : M.1 3 = nI m) : ∀ n k, n + k = 5 → k ≤ m →
    (f_X1_lowestRinkWithin_l2 M p1 p2 n k = -1 ∧ f_X8_rink_l63 Y p1 p2 n k (nI m) B = ((f_X8_keeps Y (layRow Y p1 p2 m B) (nI m)).1, (f_X8_keeps Y (layRow Y p1 p2 m B) (nI m)).2.1, (f_X8_keeps Y (layRow Y p1 p2 m B) (nI m)).2.2)) ∨
    (∃ i, i < 4 ∧ f_X1_lowestRinkWithin_l2 M p1 p2 n k = nI i ∧ f_X8_rink_l63 Y p1 p2 n k (nI m) B = ((f_X8_refuses Y B 2 (nI i)).1, (f_X8_refuses Y B 2 (nI i)).2.1, (f_X8_refuses Y B 2 (nI i)).2.2)) := by
  intro n
  induction n with
  | zero => intro k hk h2; omega
  | succ n ih =>
    intro k hk hkm
    unfold f_X1_lowestRinkWithin_l2 f_X8_rink_l63
    simp only [bd_x]
    rw [em]
    by_cases c : nI m ≤ nI k
    · rw [if_pos c, if_pos c]
      simp only [srr m 0 (p := 0) (show m < 2 ^ 31 by omega) rfl, srr m 1 (p := 1) (show m < 2 ^ 31 by omega) rfl]
      unfold layRow
      exact Or.inl ⟨trivial, rfl⟩
    · rw [if_neg c, if_neg c]
      have hlt : ¬ m ≤ k := fun q => c (nI_le q (by omega))
      have hRR := h.r (k := k) (by omega) (by rw [em]; exact c)
      rw [orr k 1 (p := 1) (by omega) rfl, orr k 0 (p := 0) (by omega) rfl, hRR.1.1, hRR.1.2.1]
      by_cases d1 : M.2.1 k 1 < p1
      · by_cases d2 : p2 < M.2.1 k 0
        · simp only [if_pos d2, if_pos d1]; exact ih (k + 1) (by omega) (by omega)
        · simp only [if_neg d2, if_pos d1]; exact ih (k + 1) (by omega) (by omega)
      · by_cases d2 : p2 < M.2.1 k 0
        · simp only [if_neg d1, if_pos d2]; exact ih (k + 1) (by omega) (by omega)
        · simp only [if_neg d2, if_neg d1]
          exact Or.inr ⟨k, by omega, rfl, rfl⟩
theorem inq_eq (Y : Nat → Int32) (B : Nat → Nat → Int32) (p a b : Int32) : f_X8_in Y B p a b = if p < a then 0 else if b < p then 0 else 1 := rfl
theorem C_rink (h : RLL G M X A Y B) (p1 p2 : Int32) : CHG G M X A Y B (f_X7_rink G M X A p1 p2) (f_X8_rink Y B p1 p2) := by
  unfold f_X7_rink f_X8_rink f_X7_layRink
  simp only [bd_x, inq_eq]
  have code2 := chg_c (p := -2) h (Or.inr (Or.inl rfl))
  have one0 : ¬ (1 : Int32) = 0 := by decide
  by_cases a1 : p1 < 0
  · simp only [if_pos a1, if_pos]; exact code2
  simp only [if_neg a1]
  by_cases a2 : 29 < p1
  · simp only [if_pos a2, if_pos]; exact code2
  simp only [if_neg a2, if_neg one0]
  by_cases b1 : p2 < 0
  · simp only [if_pos b1, if_pos]; exact code2
  simp only [if_neg b1]
  by_cases b3 : 29 < p2
  · simp only [if_pos b3, if_neg (Int32.not_le.mpr b3), if_pos]; exact code2
  simp only [if_neg b3, if_pos (Int32.not_lt.mp b3), if_neg one0]
  by_cases c1 : p2 - p1 + 1 < 3
  · simp only [if_pos c1, if_pos]; exact code2
  simp only [if_neg c1]
  by_cases c3 : 10 < p2 - p1 + 1
  · simp only [if_pos c3, if_neg (Int32.not_le.mpr c3), if_pos]; exact code2
  simp only [if_neg c3, if_pos (Int32.not_lt.mp c3), if_neg one0]
  obtain ⟨tR, tG⟩ := h.try
  obtain ⟨m, hm, em⟩ := vp_in_of tG.v3 (by decide)
  rw [tG.n3]
  by_cases d : M.1 3 < 4
  · have m4 : m < 4 := by rw [em] at d; exact (nI_ltI (a := m) (b := 4) (by omega) (by decide)).mp d
    have d4 : ¬ M.1 3 = 4 := fun q => by rw [q] at d; exact absurd d (by decide)
    simp only [if_pos d, if_neg d4]
    unfold f_X1_lowestRinkWithin
    rw [em]
    rcases lay_l (Y := Y) (p1 := p1) (p2 := p2) tG m4 em 5 0 rfl (Nat.zero_le _) with ⟨e1, e2⟩ | ⟨i, hi, e1, e2⟩
    · rw [e1, e2]
      simp only [if_pos]
      have ez : (f_X5_lay M (nI m).toNatClampNeg p1 p2).1 3 + 1 = nI (m + 1) := by
        show M.1 3 + 1 = _
        rw [em, nI_1]
      rw [ez, nI_clamp (show m < 2 ^ 31 by omega)]
      have hv : ∀ p : Int32, ¬ p < 0 → ¬ 29 < p → vp_in p 30 := fun p x y => by
        obtain ⟨j, hj, rfl⟩ := nI_of x
        have := (nI_leI (a := j) (b := 29) hj (by decide)).mp (Int32.not_lt.mp y)
        exact vp_in_nI (by omega) (by decide)
      obtain ⟨l1, l2⟩ := cp_lay (Y := Y) (p1 := p1) (p2 := p2) m4 11 0 (up2 (f_X8_tries Y B) 0 3 (f_X8_tries Y B 0 3 + 1)) rfl
      refine chg_d h (ncode (vp_in_nI (N := 5) (by omega) (by decide))) (fun k x y => ?_) ?_ ?_
      · unfold layRow
        rw [up2_ne _ _ _ x, up2_ne _ _ _ x, l1 k x, up2_ne _ _ _ x]
      · unfold layRow
        rw [up2_ne _ _ _ (by decide), up2_ne _ _ _ (by decide), l1 7 (by decide), up2_ne _ _ _ (by decide)]
      · unfold layRow
        rw [up2_eq, up2_eq]
        refine tG.lay m4 em (hv p1 a1 a2) (hv p2 b1 b3) ?_ ?_ ?_ (fun j j2 j10 => ?_) (fun k hk k3 kn => ?_)
        · rw [upd_ne _ _ (by omega), upd_ne _ _ (by omega), l2, if_neg (by omega), up2_eq, upd_eq, tG.n3, em, nI_1]
        · rw [upd_ne _ _ (by omega), upd_eq]
        · rw [upd_eq]
        · rw [upd_ne _ _ (by omega), upd_ne _ _ (by omega), l2, if_pos (by omega)]
        · rw [upd_ne _ _ (by omega), upd_ne _ _ (by omega), l2, if_neg (by omega), up2_eq, upd_ne _ _ k3]
    · rw [e1, e2]
      have : ¬ nI i = -1 := fun q => absurd (ncode (vp_in_nI (N := 5) (n := i) (by omega) (by decide))).1 (fun x => x q)
      simp only [if_neg this]
      exact chg_r h 2 (nI i)
  · have d4 : M.1 3 = 4 := by
      rw [em] at d ⊢
      have : ¬ m < 4 := fun q => d ((nI_ltI (a := m) (b := 4) (by omega) (by decide)).mpr q)
      rw [show m = 4 by omega]
      rfl
    simp only [if_neg d, if_pos d4]
    exact chg_r h 1 4
end AD2

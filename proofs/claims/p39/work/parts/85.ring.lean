/-! ===== pure: rows copied, the ring of the past ===== -/
section CP
variable {M : gM} {f : Nat → Int32} {X Y : Nat → Int32} {A B : Nat → Nat → Int32}
theorem cp169 {k : Nat} (hk : k ≤ 170) : (169 : Int32) ≤ nI k ↔ 169 ≤ k := nI_leI (a := 169) (b := k) (by decide) (by omega)
theorem cp_tries : ∀ n k (A : Nat → Nat → Int32), n + k = 170 → (∀ j, j ≠ 1 → f_X8_tries_l2 Y n k A j = A j) ∧ (∀ i, f_X8_tries_l2 Y n k A 1 i = if k ≤ i ∧ i < 169 then A 0 i else A 1 i) := by
  intro n
  induction n with
  | zero => intro k A hk; exact ⟨fun _ _ => rfl, fun i => (if_neg (by omega)).symm⟩
  | succ n ih =>
    intro k A hk
    unfold f_X8_tries_l2
    by_cases c : 169 ≤ k
    · rw [if_pos ((cp169 (by omega)).mpr c)]
      exact ⟨fun _ _ => rfl, fun i => (if_neg (by omega)).symm⟩
    · rw [if_neg (fun q => c ((cp169 (by omega)).mp q))]
      obtain ⟨i1, i2⟩ := ih (k + 1) (up2 A 1 k (A 0 k)) (by omega)
      refine ⟨fun j hj => (i1 j hj).trans (up2_ne _ _ _ hj), fun i => (i2 i).trans ?_⟩
      by_cases e : i = k
      · subst e
        rw [if_neg (by omega), if_pos (by omega), up2_eq, upd_eq]
      · rw [up2_ne _ _ _ (show (0 : Nat) ≠ 1 by decide), up2_eq, upd_ne _ _ e]
        by_cases g : k ≤ i ∧ i < 169
        · rw [if_pos g, if_pos (by omega)]
        · rw [if_neg g, if_neg (by omega)]
theorem cp_back : ∀ n k (A : Nat → Nat → Int32), n + k = 170 → (∀ j, j ≠ 0 → f_X8_comesBack_l2 Y n k A j = A j) ∧ (∀ i, f_X8_comesBack_l2 Y n k A 0 i = if k ≤ i ∧ i < 169 then A 1 i else A 0 i) := by
  intro n
  induction n with
  | zero => intro k A hk; exact ⟨fun _ _ => rfl, fun i => (if_neg (by omega)).symm⟩
  | succ n ih =>
    intro k A hk
    unfold f_X8_comesBack_l2
    by_cases c : 169 ≤ k
    · rw [if_pos ((cp169 (by omega)).mpr c)]
      exact ⟨fun _ _ => rfl, fun i => (if_neg (by omega)).symm⟩
    · rw [if_neg (fun q => c ((cp169 (by omega)).mp q))]
      obtain ⟨i1, i2⟩ := ih (k + 1) (up2 A 0 k (A 1 k)) (by omega)
      refine ⟨fun j hj => (i1 j hj).trans (up2_ne _ _ _ hj), fun i => (i2 i).trans ?_⟩
      by_cases e : i = k
      · subst e
        rw [if_neg (by omega), if_pos (by omega), up2_eq, upd_eq]
      · rw [up2_ne _ _ _ (show (1 : Nat) ≠ 0 by decide), up2_eq, upd_ne _ _ e]
        by_cases g : k ≤ i ∧ i < 169
        · rw [if_pos g, if_pos (by omega)]
        · rw [if_neg g, if_neg (by omega)]
theorem cp_undo : ∀ n k (A : Nat → Nat → Int32), n + k = 170 → (∀ j, j ≠ 0 → f_X8_undo_l22 Y n k A j = A j) ∧ (∀ i, f_X8_undo_l22 Y n k A 0 i = if k ≤ i ∧ i < 169 then A 2 (169 * (((upd Y 3 ((Y 3) - 1)) 3).toNatClampNeg) + i) else A 0 i) := by
  intro n
  induction n with
  | zero => intro k A hk; exact ⟨fun _ _ => rfl, fun i => (if_neg (by omega)).symm⟩
  | succ n ih =>
    intro k A hk
    unfold f_X8_undo_l22
    by_cases c : 169 ≤ k
    · rw [if_pos ((cp169 (by omega)).mpr c)]
      exact ⟨fun _ _ => rfl, fun i => (if_neg (by omega)).symm⟩
    · rw [if_neg (fun q => c ((cp169 (by omega)).mp q))]
      obtain ⟨i1, i2⟩ := ih (k + 1) (up2 A 0 k (A 2 (169 * (((upd Y 3 ((Y 3) - 1)) 3).toNatClampNeg) + k))) (by omega)
      refine ⟨fun j hj => (i1 j hj).trans (up2_ne _ _ _ hj), fun i => (i2 i).trans ?_⟩
      by_cases e : i = k
      · subst e
        rw [if_neg (by omega), if_pos (by omega), up2_eq, upd_eq]
      · rw [up2_ne _ _ _ (show (2 : Nat) ≠ 0 by decide), up2_eq, upd_ne _ _ e]
        by_cases g : k ≤ i ∧ i < 169
        · rw [if_pos g, if_pos (by omega)]
        · rw [if_neg g, if_neg (by omega)]
theorem cp_save : ∀ n k (A : Nat → Nat → Int32), n + k = 170 → (∀ j, j ≠ 3 → f_X8_save_l7 Y n k A j = A j) ∧ (∀ i, f_X8_save_l7 Y n k A 3 i = if k ≤ i ∧ i < 169 then A 0 i else A 3 i) := by
  intro n
  induction n with
  | zero => intro k A hk; exact ⟨fun _ _ => rfl, fun i => (if_neg (by omega)).symm⟩
  | succ n ih =>
    intro k A hk
    unfold f_X8_save_l7
    by_cases c : 169 ≤ k
    · rw [if_pos ((cp169 (by omega)).mpr c)]
      exact ⟨fun _ _ => rfl, fun i => (if_neg (by omega)).symm⟩
    · rw [if_neg (fun q => c ((cp169 (by omega)).mp q))]
      obtain ⟨i1, i2⟩ := ih (k + 1) (up2 A 3 k (A 0 k)) (by omega)
      refine ⟨fun j hj => (i1 j hj).trans (up2_ne _ _ _ hj), fun i => (i2 i).trans ?_⟩
      by_cases e : i = k
      · subst e
        rw [if_neg (by omega), if_pos (by omega), up2_eq, upd_eq]
      · rw [up2_ne _ _ _ (show (0 : Nat) ≠ 3 by decide), up2_eq, upd_ne _ _ e]
        by_cases g : k ≤ i ∧ i < 169
        · rw [if_pos g, if_pos (by omega)]
        · rw [if_neg g, if_neg (by omega)]
theorem cp_rest : ∀ n k (A : Nat → Nat → Int32), n + k = 170 → (∀ j, j ≠ 0 → f_X8_restore_l12 Y n k A j = A j) ∧ (∀ i, f_X8_restore_l12 Y n k A 0 i = if k ≤ i ∧ i < 169 then A 3 i else A 0 i) := by
  intro n
  induction n with
  | zero => intro k A hk; exact ⟨fun _ _ => rfl, fun i => (if_neg (by omega)).symm⟩
  | succ n ih =>
    intro k A hk
    unfold f_X8_restore_l12
    by_cases c : 169 ≤ k
    · rw [if_pos ((cp169 (by omega)).mpr c)]
      exact ⟨fun _ _ => rfl, fun i => (if_neg (by omega)).symm⟩
    · rw [if_neg (fun q => c ((cp169 (by omega)).mp q))]
      obtain ⟨i1, i2⟩ := ih (k + 1) (up2 A 0 k (A 3 k)) (by omega)
      refine ⟨fun j hj => (i1 j hj).trans (up2_ne _ _ _ hj), fun i => (i2 i).trans ?_⟩
      by_cases e : i = k
      · subst e
        rw [if_neg (by omega), if_pos (by omega), up2_eq, upd_eq]
      · rw [up2_ne _ _ _ (show (3 : Nat) ≠ 0 by decide), up2_eq, upd_ne _ _ e]
        by_cases g : k ≤ i ∧ i < 169
        · rw [if_pos g, if_pos (by omega)]
        · rw [if_neg g, if_neg (by omega)]
theorem cp_keep {p : Int32} : ∀ n k (Y : Nat → Int32) (A : Nat → Nat → Int32), n + k = 170 → (f_X8_keeps_l52 p n k Y A).1 = Y ∧ (∀ j, j ≠ 2 → (f_X8_keeps_l52 p n k Y A).2 j = A j) ∧ (∀ i, (f_X8_keeps_l52 p n k Y A).2 2 i = if 169 * (Y 3).toNatClampNeg + k ≤ i ∧ i < 169 * (Y 3).toNatClampNeg + 169 then A 1 (i - 169 * (Y 3).toNatClampNeg) else A 2 i) := by
  intro n
  induction n with
  | zero => intro k Y A hk; exact ⟨rfl, fun _ _ => rfl, fun i => (if_neg (by omega)).symm⟩
  | succ n ih =>
    intro k Y A hk
    unfold f_X8_keeps_l52
    by_cases c : 169 ≤ k
    · rw [if_pos ((cp169 (by omega)).mpr c)]
      exact ⟨rfl, fun _ _ => rfl, fun i => (if_neg (by omega)).symm⟩
    · rw [if_neg (fun q => c ((cp169 (by omega)).mp q))]
      obtain ⟨i0, i1, i2⟩ := ih (k + 1) Y (up2 A 2 (169 * (Y 3).toNatClampNeg + k) (A 1 k)) (by omega)
      refine ⟨i0, fun j hj => (i1 j hj).trans (up2_ne _ _ _ hj), fun i => (i2 i).trans ?_⟩
      by_cases e : i = 169 * (Y 3).toNatClampNeg + k
      · subst e
        rw [if_neg (by omega), if_pos (by omega), up2_eq, upd_eq, Nat.add_sub_cancel_left]
      · rw [up2_ne _ _ _ (show (1 : Nat) ≠ 2 by decide), up2_eq, upd_ne _ _ e]
        by_cases g : 169 * (Y 3).toNatClampNeg + k ≤ i ∧ i < 169 * (Y 3).toNatClampNeg + 169
        · rw [if_pos g, if_pos (by omega)]
        · rw [if_neg g, if_neg (by omega)]
theorem cp_shift {p : Int32} : ∀ n k (A : Nat → Nat → Int32), n + k = 1184 → (∀ j, j ≠ 2 → f_X8_keeps_l11 Y p n k A j = A j) ∧ (∀ i, f_X8_keeps_l11 Y p n k A 2 i = if k ≤ i ∧ i < 1183 then A 2 (169 + i) else A 2 i) := by
  intro n
  induction n with
  | zero => intro k A hk; exact ⟨fun _ _ => rfl, fun i => (if_neg (by omega)).symm⟩
  | succ n ih =>
    intro k A hk
    unfold f_X8_keeps_l11
    have lc : (1183 : Int32) ≤ nI k ↔ 1183 ≤ k := nI_leI (a := 1183) (b := k) (by decide) (by omega)
    by_cases c : 1183 ≤ k
    · rw [if_pos (lc.mpr c)]
      exact ⟨fun _ _ => rfl, fun i => (if_neg (by omega)).symm⟩
    · rw [if_neg (fun q => c (lc.mp q))]
      obtain ⟨i1, i2⟩ := ih (k + 1) (up2 A 2 k (A 2 (169 + k))) (by omega)
      refine ⟨fun j hj => (i1 j hj).trans (up2_ne _ _ _ hj), fun i => (i2 i).trans ?_⟩
      rw [up2_eq]
      by_cases e : i = k
      · subst e
        rw [if_neg (by omega), if_pos (by omega), upd_eq]
      · by_cases g : k ≤ i ∧ i < 1183
        · rw [if_pos g, if_pos (by omega), upd_ne _ _ (by omega)]
        · rw [if_neg g, if_neg (by omega), upd_ne _ _ e]
/-- the past of both: a ring of greens, and kept rows -/
def RG (G : Nat → gM) (X Y : Nat → Int32) (R : Nat → Int32) : Prop := ∃ fr n, fr < 9 ∧ n ≤ 8 ∧ X 2 = nI fr ∧ X 3 = nI n ∧ Y 3 = nI n ∧ ∀ i, i < n → GR (G (2 + (fr + 9 - n + i) % 9)) (fun k => R (169 * i + k))
/-- the green that is tried is kept: what both do -/
theorem RG.keep {G G1 : Nat → gM} {N : gM} {p : Int32} (h : RG G X Y (B 2)) (hT : GR N (B 1)) (hG : G1 = va_up G (2 + (X 2).toNatClampNeg) (f_X1_become (G (2 + (X 2).toNatClampNeg)) N)) :
    (f_X8_keeps Y B p).1 = p ∧ (∀ j, j ≠ 2 → (f_X8_keeps Y B p).2.2 j = B j) ∧ (∀ k, k ≠ 3 → (f_X8_keeps Y B p).2.1 k = Y k) ∧ RG G1 (f_X3_keep M X A) (f_X8_keeps Y B p).2.1 ((f_X8_keeps Y B p).2.2 2) ∧ (∀ k, k ≠ 2 → k ≠ 3 → f_X3_keep M X A k = X k) := by
  obtain ⟨fr, n, hf, hn, e2, e3, ey, hr⟩ := h
  have hk2 : (X 2).toNatClampNeg = fr := by rw [e2, nI_clamp (by omega)]
  rw [hk2] at hG
  have gfr : GR (G1 (2 + fr)) (B 1) := by
    rw [hG]
    show GR (if 2 + fr = 2 + fr then _ else _) _
    rw [if_pos rfl]
    exact hT.become
  have got : ∀ q, q ≠ fr → G1 (2 + q) = G (2 + q) := fun q hq => by
    rw [hG]
    show (if 2 + q = 2 + fr then _ else _) = _
    rw [if_neg (by omega)]
  have ek2 : f_X3_keep M X A 2 = nI ((fr + 1) % 9) := by
    show upd (upd X 2 _) 3 _ 2 = _
    rw [upd_ne _ _ (by decide), upd_eq, e2]
    rcases (show fr = 0 ∨ fr = 1 ∨ fr = 2 ∨ fr = 3 ∨ fr = 4 ∨ fr = 5 ∨ fr = 6 ∨ fr = 7 ∨ fr = 8 by omega) with rfl | rfl | rfl | rfl | rfl | rfl | rfl | rfl | rfl <;> decide
  have ek3 : f_X3_keep M X A 3 = nI (if n = 8 then 8 else n + 1) := by
    show upd (upd X 2 _) 3 (if upd X 2 _ 3 + 1 < 8 then upd X 2 _ 3 + 1 else 8) 3 = _
    rw [upd_eq, upd_ne _ _ (by decide), e3]
    rcases (show n = 0 ∨ n = 1 ∨ n = 2 ∨ n = 3 ∨ n = 4 ∨ n = 5 ∨ n = 6 ∨ n = 7 ∨ n = 8 by omega) with rfl | rfl | rfl | rfl | rfl | rfl | rfl | rfl | rfl <;> decide
  have eko : ∀ k, k ≠ 2 → k ≠ 3 → f_X3_keep M X A k = X k := fun k h2 h3 => (upd_ne _ _ h3).trans (upd_ne _ _ h2)
  unfold f_X8_keeps
  simp only [bd_x]
  by_cases c : n = 8
  · subst c
    rw [if_pos (show Y 3 = 8 from ey)]
    obtain ⟨s1, s2⟩ := cp_shift (Y := Y) (p := p) 1184 0 B rfl
    obtain ⟨t0, t1, t2⟩ := cp_keep (p := p) 170 0 (upd Y 3 (Y 3 - 1)) (f_X8_keeps_l11 Y p 1184 0 B) rfl
    have y7 : (upd Y 3 (Y 3 - 1) 3).toNatClampNeg = 7 := by rw [upd_eq, ey]; decide
    rw [y7] at t2
    generalize f_X8_keeps_l11 Y p 1184 0 B = S at s1 s2 t0 t1 t2 ⊢
    generalize f_X8_keeps_l52 p 170 0 (upd Y 3 (Y 3 - 1)) S = T at t0 t1 t2 ⊢
    rw [t0]
    refine ⟨rfl, fun j hj => (t1 j hj).trans (s1 j hj), fun k hk => (upd_ne _ _ hk).trans (upd_ne _ _ hk), ⟨(fr + 1) % 9, 8, by omega, by decide, ek2, ek3, ?_, fun i hi => ?_⟩, eko⟩
    · dsimp only
      rw [upd_eq, upd_eq, ey]; decide
    · by_cases i7 : i = 7
      · rw [show (fr + 1) % 9 + 9 - 8 + i = (fr + 1) % 9 + 8 by omega, show ((fr + 1) % 9 + 8) % 9 = fr by omega]
        refine gfr.row (fun k hk => ?_)
        show T.2 2 (169 * i + k) = _
        rw [t2, if_pos (by omega), s1 1 (by decide), show 169 * i + k - 169 * 7 = k by omega]
      · have old := hr (i + 1) (by omega)
        rw [show ((fr + 1) % 9 + 9 - 8 + i) % 9 = (fr + 9 - 8 + (i + 1)) % 9 by omega, got _ (by omega)]
        refine old.row (fun k hk => ?_)
        show T.2 2 (169 * i + k) = B 2 (169 * (i + 1) + k)
        rw [t2, if_neg (by omega), s2, if_pos (by omega), show 169 + (169 * i + k) = 169 * (i + 1) + k by omega]
  · rw [if_neg (show ¬ Y 3 = 8 by
      rw [ey]
      intro q
      exact c ((nI_eq (a := n) (b := 8) (by omega) (by decide)).mp q))]
    obtain ⟨t0, t1, t2⟩ := cp_keep (p := p) 170 0 Y B rfl
    have yn : (Y 3).toNatClampNeg = n := by rw [ey, nI_clamp (by omega)]
    rw [yn] at t2
    generalize f_X8_keeps_l52 p 170 0 Y B = T at t0 t1 t2 ⊢
    rw [t0]
    refine ⟨rfl, fun j hj => t1 j hj, fun k hk => upd_ne _ _ hk, ⟨(fr + 1) % 9, n + 1, by omega, by omega, ek2, by rw [ek3, if_neg c], ?_, fun i hi => ?_⟩, eko⟩
    · dsimp only
      rw [upd_eq, ey, nI_1]
    · by_cases iN : i = n
      · rw [show ((fr + 1) % 9 + 9 - (n + 1) + i) % 9 = fr by omega]
        refine gfr.row (fun k hk => ?_)
        show T.2 2 (169 * i + k) = _
        rw [t2, if_pos (by omega), show 169 * i + k - 169 * n = k by omega]
      · have old := hr i (by omega)
        rw [show ((fr + 1) % 9 + 9 - (n + 1) + i) % 9 = (fr + 9 - n + i) % 9 by omega, got _ (by omega)]
        refine old.row (fun k hk => ?_)
        show T.2 2 (169 * i + k) = B 2 (169 * i + k)
        rw [t2, if_neg (by omega)]
/-- a row of the reference, as its methods want it -/
def MR (f : Nat → Int32) : Prop := vp_in (f 3) 5 ∧ vp_in (f 4) 17 ∧ (∀ w, w < 16 → vp_in (f (57 + 7 * w + 3)) 4) ∧ (∀ w, w < 16 → vp_in (f (57 + 7 * w + 0)) 2)
theorem MR.row {f g : Nat → Int32} (h : MR f) (e : ∀ k, k < 169 → g k = f k) : MR g :=
  ⟨by rw [e 3 (by decide)]; exact h.1, by rw [e 4 (by decide)]; exact h.2.1, fun w hw => by rw [e _ (by omega)]; exact h.2.2.1 w hw, fun w hw => by rw [e _ (by omega)]; exact h.2.2.2 w hw⟩
/-- the kept rows and the saved one -/
def RMs (Y : Nat → Int32) (B : Nat → Nat → Int32) : Prop := vp_in (Y 3) 9 ∧ (Y 5 = 0 ∨ MR (B 3)) ∧ ∀ i, i < (Y 3).toNatClampNeg → MR (fun k => B 2 (169 * i + k))
theorem RMs.keeps {p : Int32} (h : RMs Y B) (h1 : MR (B 1)) : RMs (f_X8_keeps Y B p).2.1 (f_X8_keeps Y B p).2.2 := by
  obtain ⟨hv, h3, hr⟩ := h
  obtain ⟨n, hn, ey⟩ := vp_in_of hv (by decide)
  rw [ey, nI_clamp (by omega)] at hr
  unfold f_X8_keeps
  simp only [bd_x]
  by_cases c : n = 8
  · subst c
    rw [if_pos (show Y 3 = 8 from ey)]
    obtain ⟨s1, s2⟩ := cp_shift (Y := Y) (p := p) 1184 0 B rfl
    obtain ⟨t0, t1, t2⟩ := cp_keep (p := p) 170 0 (upd Y 3 (Y 3 - 1)) (f_X8_keeps_l11 Y p 1184 0 B) rfl
    have y7 : (upd Y 3 (Y 3 - 1) 3).toNatClampNeg = 7 := by rw [upd_eq, ey]; decide
    rw [y7] at t2
    generalize f_X8_keeps_l11 Y p 1184 0 B = S at s1 s2 t0 t1 t2 ⊢
    generalize f_X8_keeps_l52 p 170 0 (upd Y 3 (Y 3 - 1)) S = T at t0 t1 t2 ⊢
    rw [t0]
    have z3 : upd (upd Y 3 (Y 3 - 1)) 3 (upd Y 3 (Y 3 - 1) 3 + 1) 3 = nI 8 := by
      rw [upd_eq, upd_eq, ey]; decide
    have z5 : upd (upd Y 3 (Y 3 - 1)) 3 (upd Y 3 (Y 3 - 1) 3 + 1) 5 = Y 5 := (upd_ne _ _ (by decide)).trans (upd_ne _ _ (by decide))
    unfold RMs
    dsimp only
    refine ⟨?_, ?_, fun i hi => ?_⟩
    · rw [z3]; exact vp_in_nI (by decide) (by decide)
    · rw [z5, t1 3 (by decide), s1 3 (by decide)]; exact h3
    · rw [z3, nI_clamp (by decide)] at hi
      by_cases i7 : i = 7
      · refine h1.row (fun k hk => ?_)
        show T.2 2 (169 * i + k) = _
        rw [t2, if_pos (by omega), s1 1 (by decide), show 169 * i + k - 169 * 7 = k by omega]
      · refine (hr (i + 1) (by omega)).row (fun k hk => ?_)
        show T.2 2 (169 * i + k) = B 2 (169 * (i + 1) + k)
        rw [t2, if_neg (by omega), s2, if_pos (by omega), show 169 + (169 * i + k) = 169 * (i + 1) + k by omega]
  · rw [if_neg (show ¬ Y 3 = 8 by
      rw [ey]
      intro q
      exact c ((nI_eq (a := n) (b := 8) (by omega) (by decide)).mp q))]
    obtain ⟨t0, t1, t2⟩ := cp_keep (p := p) 170 0 Y B rfl
    have yn : (Y 3).toNatClampNeg = n := by rw [ey, nI_clamp (by omega)]
    rw [yn] at t2
    generalize f_X8_keeps_l52 p 170 0 Y B = T at t0 t1 t2 ⊢
    rw [t0]
    have z3 : upd Y 3 (Y 3 + 1) 3 = nI (n + 1) := by rw [upd_eq, ey, nI_1]
    have z5 : upd Y 3 (Y 3 + 1) 5 = Y 5 := upd_ne _ _ (by decide)
    unfold RMs
    dsimp only
    refine ⟨?_, ?_, fun i hi => ?_⟩
    · rw [z3]; exact vp_in_nI (by omega) (by decide)
    · rw [z5, t1 3 (by decide)]; exact h3
    · rw [z3, nI_clamp (by omega)] at hi
      by_cases iN : i = n
      · refine h1.row (fun k hk => ?_)
        show T.2 2 (169 * i + k) = _
        rw [t2, if_pos (by omega), show 169 * i + k - 169 * n = k by omega]
      · refine (hr i (by omega)).row (fun k hk => ?_)
        show T.2 2 (169 * i + k) = B 2 (169 * i + k)
        rw [t2, if_neg (by omega)]
theorem RMs.far {Y1 : Nat → Int32} {B1 : Nat → Nat → Int32} (h : RMs Y B) (y3 : Y1 3 = Y 3) (y5 : Y1 5 = Y 5) (b2 : B1 2 = B 2) (b3 : B1 3 = B 3) : RMs Y1 B1 := by
  unfold RMs
  rw [y3, y5, b2, b3]
  exact h
end CP

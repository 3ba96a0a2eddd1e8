/-! ===== pure: the texts, and what is read of them ===== -/
/-- the text of both -/
def RT (X : Nat → Int32) (A : Nat → Nat → Int32) (Y : Nat → Int32) (B : Nat → Nat → Int32) (t : Nat → Nat) (n : Nat) : Prop :=
  n ≤ 60 ∧ X 7 = nI n ∧ Y 9 = nI n ∧ ∀ j, j < n → (A 4 j &&& 255) = nI (t j) ∧ B 5 j = nI (t j) ∧ 32 ≤ t j ∧ t j ≤ 126
/-- the line of both -/
def RW (X : Nat → Int32) (A : Nat → Nat → Int32) (Y : Nat → Int32) (B : Nat → Nat → Int32) : Prop :=
  ∃ n, n ≤ 110 ∧ X 8 = nI n ∧ Y 7 = nI n ∧ ∀ j, j < n → (A 5 j &&& 255) = B 4 j
section PQ
variable {M : gM} {X Y : Nat → Int32} {A B : Nat → Nat → Int32} {t : Nat → Nat} {n : Nat}
theorem Q_written (h : RW X A Y B) (p : Int32) : f_X8_written Y B p = f_X7_written X A p := by
  obtain ⟨n, hn, ex, ey, hj⟩ := h
  unfold f_X8_written f_X7_written
  simp only [bd_x]
  rw [q_in_pred (N := 200) (by rw [ey]; exact vp_in_nI (by omega) (by decide)) (by decide), ex, ey]
  by_cases a : p < 0
  · rw [if_pos a, if_pos a, if_pos rfl]
  · rw [if_neg a, if_neg a]
    obtain ⟨j, hj2, rfl⟩ := nI_of a
    by_cases b : nI n ≤ nI j
    · rw [if_pos b, if_pos rfl, if_neg (Int32.not_lt.mpr b)]
    · rw [if_neg b, if_neg (show ¬ (1 : Int32) = 0 by decide), if_pos (Int32.not_le.mp b), nI_clamp hj2]
      have := (nI_ltI hj2 (show n < 2 ^ 31 by omega)).mp (Int32.not_le.mp b)
      exact (hj j this).symm
theorem Q_reason (h : RS X A Y B) (p1 p2 : Int32) : f_X8_reason Y B p1 p2 = f_X7_reason M X A p1 p2 := by
  obtain ⟨d, hd, ex, ey, hi⟩ := h
  unfold f_X8_reason f_X7_reason f_X4_tell
  simp only [bd_x]
  rw [ex, ey]
  by_cases a : 0 ≤ p1
  · rw [if_pos a, if_pos a]
    obtain ⟨j, hj, rfl⟩ := nI_of (Int32.not_lt.mpr a)
    by_cases b : nI d ≤ nI j
    · rw [if_pos b, if_neg (Int32.not_lt.mpr b)]
    · have hjd := (nI_ltI hj (show d < 2 ^ 31 by omega)).mp (Int32.not_le.mp b)
      rw [if_neg b, if_pos (Int32.not_le.mp b), nI_clamp hj]
      have e : (nI d - 1 - nI j).toNatClampNeg = d - 1 - j := by
        rw [show (1 : Int32) = nI 1 from rfl, pk_sub (by omega), pk_sub (by omega), nI_clamp (by omega)]
      rw [e]
      obtain ⟨h1, h2⟩ := hi j hjd
      by_cases c : p2 = 0
      · rw [if_pos c, if_pos c, h1]; rfl
      · rw [if_neg c, if_neg c, h2]
  · rw [if_neg a, if_neg a]
-- a sign, digits: what is read at a place
def pS (t : Nat → Nat) (n c i : Nat) : Bool × Nat := if i < n ∧ t i = c then (true, i + 1) else (false, i)
def pD (t : Nat → Nat) (n : Nat) : Nat → Nat → Nat → Nat × Nat × Nat
  | 0, y, i => (0, y, i)
  | k + 1, y, i => if i < n ∧ 48 ≤ t i ∧ t i ≤ 57 then ((pD t n k (10 * y + t i - 48) (i + 1)).1 + 1, (pD t n k (10 * y + t i - 48) (i + 1)).2.1, (pD t n k (10 * y + t i - 48) (i + 1)).2.2) else (0, y, i)
theorem pS_t {c i : Nat} (h : i < n) (e : t i = c) : pS t n c i = (true, i + 1) := if_pos ⟨h, e⟩
theorem pS_f {c i : Nat} (h : ¬ (i < n ∧ t i = c)) : pS t n c i = (false, i) := if_neg h
theorem pS_le {c i : Nat} (h : i ≤ n) : (pS t n c i).2 ≤ n := by
  unfold pS
  by_cases a : i < n ∧ t i = c
  · rw [if_pos a]; exact a.1
  · rw [if_neg a]; exact h
theorem pD_le : ∀ k y i, i ≤ n → (pD t n k y i).2.2 ≤ n := by
  intro k
  induction k with
  | zero => intro y i h; exact h
  | succ k ih =>
    intro y i h
    unfold pD
    by_cases a : i < n ∧ 48 ≤ t i ∧ t i ≤ 57
    · rw [if_pos a]; exact ih _ _ a.1
    · rw [if_neg a]; exact h
theorem ten_y : ∀ y, y < 10 → (10 : Int32) * nI y = nI (10 * y) := by decide
theorem dig_v {y z : Nat} (hy : y < 10) (hz : 48 ≤ z) : (10 : Int32) * nI y + nI z - 48 = nI (10 * y + z - 48) := by
  rw [ten_y y hy, nI_add, show (48 : Int32) = nI 48 from rfl, pk_sub (by omega)]
/-- the class reads a sign -/
theorem cl_sign (h : RT X A Y B t n) {i c : Nat} (hi : i ≤ n) (hc : c < 1000) (ei : X 5 = nI i) {p : Int32} (ep : p = nI c) : f_X2_readSign M X A p = (if (pS t n c i).1 = true then 1 else 0, if (pS t n c i).1 = true then upd X 5 (nI (i + 1)) else X) := by
  obtain ⟨hn, e7, e9, hj⟩ := h
  unfold f_X2_readSign
  simp only [bd_x]
  rw [e7, ei, ep, nI_clamp (show i < 2 ^ 31 by omega), nI_1]
  by_cases a : n ≤ i
  · rw [if_pos (nI_le a (by omega)), pS_f (by omega)]
    rfl
  · rw [if_neg (nI_ge (by omega) (by omega))]
    obtain ⟨j1, j2, j3, j4⟩ := hj i (by omega)
    rw [j1]
    by_cases b : t i = c
    · rw [pS_t (by omega) b, if_pos (by rw [b])]
      rfl
    · rw [pS_f (fun q => b q.2), if_neg (fun q => b ((nI_eq (by omega) (by omega)).mp q))]
      rfl
/-- the reference looks for a sign -/
theorem rf_sign (h : RT X A Y B t n) {i c : Nat} (hi : i ≤ n) (hc : c < 1000) (ei : Y 10 = nI i) {p : Int32} (ep : p = nI c) : f_X8_isNext Y B p = (if (pS t n c i).1 = true then 1 else 0, if (pS t n c i).1 = true then upd Y 10 (nI (i + 1)) else Y) := by
  obtain ⟨hn, e7, e9, hj⟩ := h
  unfold f_X8_isNext
  rw [e9, ei, ep, nI_clamp (show i < 2 ^ 31 by omega), nI_1]
  by_cases a : n ≤ i
  · rw [if_pos (by rw [show i = n by omega]), pS_f (by omega)]
    rfl
  · rw [if_neg (fun q => a (by have := (nI_eq (a := i) (b := n) (by omega) (by omega)).mp q; omega))]
    obtain ⟨j1, j2, j3, j4⟩ := hj i (by omega)
    rw [j2]
    by_cases b : t i = c
    · rw [pS_t (by omega) b, if_pos (by rw [b])]
      rfl
    · rw [pS_f (fun q => b q.2), if_neg (fun q => b ((nI_eq (by omega) (by omega)).mp q))]
      rfl
/-- the class reads digits -/
theorem cl_dig_l {p3 : Int32} : ∀ k y i x f X, RT X A Y B t n → k < f → i ≤ n → x + k ≤ 2 → (k = 0 ∨ y < 10 ∧ (y = 0 ∨ k = 1)) → X 5 = nI i →
    (f_X2_readDigits_l6 M A (nI (x + k)) p3 f (nI x) (nI y) X).1 = nI (x + (pD t n k y i).1) ∧ (f_X2_readDigits_l6 M A (nI (x + k)) p3 f (nI x) (nI y) X).2.1 = nI (pD t n k y i).2.1 ∧ (f_X2_readDigits_l6 M A (nI (x + k)) p3 f (nI x) (nI y) X).2.2 5 = nI (pD t n k y i).2.2 ∧ ∀ j, j ≠ 5 → (f_X2_readDigits_l6 M A (nI (x + k)) p3 f (nI x) (nI y) X).2.2 j = X j := by
  intro k
  induction k with
  | zero =>
    intro y i x f X h hf hi hx hy ei
    obtain ⟨f, rfl⟩ : ∃ g, f = g + 1 := ⟨f - 1, by omega⟩
    unfold f_X2_readDigits_l6
    rw [if_pos (show nI (x + 0) ≤ nI x from Int32.le_refl _)]
    exact ⟨rfl, rfl, ei, fun _ _ => rfl⟩
  | succ k ih =>
    intro y i x f X h hf hi hx hy ei
    have h0 := h
    obtain ⟨hn, e7, e9, hj⟩ := h
    obtain ⟨f, rfl⟩ : ∃ g, f = g + 1 := ⟨f - 1, by omega⟩
    unfold f_X2_readDigits_l6 pD f_X2_isDigit
    simp only [bd_x]
    rw [if_neg (nI_ge (show x < x + (k + 1) by omega) (by omega)), e7, ei, nI_clamp (show i < 2 ^ 31 by omega)]
    by_cases a : n ≤ i
    · rw [if_pos (nI_le a (by omega)), if_neg (show ¬ (i < n ∧ 48 ≤ t i ∧ t i ≤ 57) by omega)]
      exact ⟨rfl, rfl, ei, fun _ _ => rfl⟩
    · rw [if_neg (nI_ge (by omega) (by omega))]
      obtain ⟨j1, j2, j3, j4⟩ := hj i (by omega)
      rw [j1]
      by_cases b : t i < 48
      · rw [if_pos (show nI (t i) < 48 from nI_lt (b := 48) b (by decide)), if_pos rfl, if_neg (show ¬ (i < n ∧ 48 ≤ t i ∧ t i ≤ 57) by omega)]
        exact ⟨rfl, rfl, ei, fun _ _ => rfl⟩
      · rw [if_neg (show ¬ nI (t i) < 48 from nI_nlt (b := 48) (by omega) (by omega))]
        by_cases c : 57 < t i
        · rw [if_pos (show 57 < nI (t i) from nI_lt (a := 57) c (by omega)), if_pos rfl, if_neg (show ¬ (i < n ∧ 48 ≤ t i ∧ t i ≤ 57) by omega)]
          exact ⟨rfl, rfl, ei, fun _ _ => rfl⟩
        · rw [if_neg (show ¬ 57 < nI (t i) from nI_nlt (b := t i) (a := 57) (by omega) (by decide)), if_neg (show ¬ (1 : Int32) = 0 by decide), if_pos (show i < n ∧ 48 ≤ t i ∧ t i ≤ 57 by omega), nI_1, nI_1, dig_v (by omega) (by omega)]
          have hy2 : 10 * y + t i - 48 < 100 := by omega
          obtain ⟨r1, r2, r3, r4⟩ := ih (10 * y + t i - 48) (i + 1) (x + 1) f (upd X 5 (nI (i + 1))) ⟨hn, (upd_ne _ _ (by decide)).trans e7, e9, hj⟩ (by omega) (by omega) (by omega) (by omega) (upd_eq _ _ _)
          rw [show x + 1 + k = x + (k + 1) by omega] at r1 r2 r3 r4
          refine ⟨r1.trans ?_, r2, r3, fun j hj5 => (r4 j hj5).trans (upd_ne _ _ hj5)⟩
          rw [show x + 1 + (pD t n k (10 * y + t i - 48) (i + 1)).1 = x + ((pD t n k (10 * y + t i - 48) (i + 1)).1 + 1) by omega]
/-- the reference reads digits -/
theorem rf_dig_l {q : Nat} (hq : q < 5) : ∀ k y i x f Y B, RT X A Y B t n → k < f → i ≤ n → x + k ≤ 2 → (k = 0 ∨ y < 10 ∧ (y = 0 ∨ k = 1)) → Y 10 = nI i → B 6 q = nI y →
    (f_X8_digits_l9 (nI q) (nI (x + k)) f (nI x) Y B).1 = nI (x + (pD t n k y i).1) ∧ (f_X8_digits_l9 (nI q) (nI (x + k)) f (nI x) Y B).2.2 6 q = nI (pD t n k y i).2.1 ∧ (f_X8_digits_l9 (nI q) (nI (x + k)) f (nI x) Y B).2.1 10 = nI (pD t n k y i).2.2 ∧ (∀ j, j ≠ 10 → (f_X8_digits_l9 (nI q) (nI (x + k)) f (nI x) Y B).2.1 j = Y j) ∧
      (∀ j, j ≠ 6 → (f_X8_digits_l9 (nI q) (nI (x + k)) f (nI x) Y B).2.2 j = B j) ∧ ∀ j, j ≠ q → (f_X8_digits_l9 (nI q) (nI (x + k)) f (nI x) Y B).2.2 6 j = B 6 j := by
  intro k
  induction k with
  | zero =>
    intro y i x f Y B h hf hi hx hy ei ey
    obtain ⟨f, rfl⟩ : ∃ g, f = g + 1 := ⟨f - 1, by omega⟩
    unfold f_X8_digits_l9
    rw [if_pos (show nI (x + 0) ≤ nI x from Int32.le_refl _)]
    exact ⟨rfl, ey, ei, fun _ _ => rfl, fun _ _ => rfl, fun _ _ => rfl⟩
  | succ k ih =>
    intro y i x f Y B h hf hi hx hy ei ey
    obtain ⟨hn, e7, e9, hj⟩ := h
    obtain ⟨f, rfl⟩ : ∃ g, f = g + 1 := ⟨f - 1, by omega⟩
    unfold f_X8_digits_l9 pD f_X8_in
    simp only [bd_x]
    rw [if_neg (nI_ge (show x < x + (k + 1) by omega) (by omega)), e9, ei, nI_clamp (show i < 2 ^ 31 by omega), nI_clamp (show q < 2 ^ 31 by omega), ey]
    by_cases a : n ≤ i
    · rw [if_pos (nI_le a (by omega)), if_neg (show ¬ (i < n ∧ 48 ≤ t i ∧ t i ≤ 57) by omega)]
      exact ⟨rfl, ey, ei, fun _ _ => rfl, fun _ _ => rfl, fun _ _ => rfl⟩
    · rw [if_neg (nI_ge (by omega) (by omega))]
      obtain ⟨j1, j2, j3, j4⟩ := hj i (by omega)
      rw [j2]
      by_cases b : t i < 48
      · rw [if_pos (show nI (t i) < 48 from nI_lt (b := 48) b (by decide)), if_pos rfl, if_neg (show ¬ (i < n ∧ 48 ≤ t i ∧ t i ≤ 57) by omega)]
        exact ⟨rfl, ey, ei, fun _ _ => rfl, fun _ _ => rfl, fun _ _ => rfl⟩
      · rw [if_neg (show ¬ nI (t i) < 48 from nI_nlt (b := 48) (by omega) (by omega))]
        by_cases c : 57 < t i
        · rw [if_pos (show 57 < nI (t i) from nI_lt (a := 57) c (by omega)), if_pos rfl, if_neg (show ¬ (i < n ∧ 48 ≤ t i ∧ t i ≤ 57) by omega)]
          exact ⟨rfl, ey, ei, fun _ _ => rfl, fun _ _ => rfl, fun _ _ => rfl⟩
        · rw [if_neg (show ¬ 57 < nI (t i) from nI_nlt (b := t i) (a := 57) (by omega) (by decide)), if_neg (show ¬ (1 : Int32) = 0 by decide), if_pos (show i < n ∧ 48 ≤ t i ∧ t i ≤ 57 by omega), nI_1, nI_1, dig_v (by omega) (by omega)]
          obtain ⟨r1, r2, r3, r4, r5, r6⟩ := ih (10 * y + t i - 48) (i + 1) (x + 1) f (upd Y 10 (nI (i + 1))) (up2 B 6 q (nI (10 * y + t i - 48))) ⟨hn, e7, (upd_ne _ _ (by decide)).trans e9, fun j hjn => by rw [up2_ne _ _ _ (by decide)]; exact hj j hjn⟩ (by omega) (by omega) (by omega) (by omega) (upd_eq _ _ _) (by rw [up2_eq, upd_eq])
          rw [show x + 1 + k = x + (k + 1) by omega] at r1 r2 r3 r4 r5 r6
          refine ⟨r1.trans ?_, r2, r3, fun j hj5 => (r4 j hj5).trans (upd_ne _ _ hj5), fun j hj6 => (r5 j hj6).trans (up2_ne _ _ _ hj6), fun j hjq => (r6 j hjq).trans ?_⟩
          · rw [show x + 1 + (pD t n k (10 * y + t i - 48) (i + 1)).1 = x + ((pD t n k (10 * y + t i - 48) (i + 1)).1 + 1) by omega]
          · rw [up2_eq, upd_ne _ _ hjq]
end PQ

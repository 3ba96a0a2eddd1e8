/-! ===== pure: the woods in their order ===== -/
theorem cnt_le_of {P Q : Nat → Bool} : ∀ n, (∀ j, j < n → P j = true → Q j = true) → cnt P n ≤ cnt Q n := by
  intro n
  induction n with
  | zero => intro _; exact Nat.le_refl _
  | succ n ih =>
    intro h
    have h1 := ih (fun j hj => h j (by omega))
    have h2 := h n (by omega)
    show cnt P n + (P n).toNat ≤ cnt Q n + (Q n).toNat
    cases hP : P n with
    | false => simp only [Bool.toNat_false]; omega
    | true => rw [h2 hP]; omega
theorem cnt_lt_of {P Q : Nat → Bool} {x : Nat} : ∀ n, x < n → P x = false → Q x = true → (∀ j, j < n → P j = true → Q j = true) → cnt P n < cnt Q n := by
  intro n
  induction n with
  | zero => intro hx; omega
  | succ n ih =>
    intro hx hP hQ h
    show cnt P n + (P n).toNat < cnt Q n + (Q n).toNat
    by_cases e : x = n
    · subst e
      have h1 := cnt_le_of x (fun j hj => h j (by omega))
      rw [hP, hQ]
      simp only [Bool.toNat_false, Bool.toNat_true]
      omega
    · have h1 := ih (by omega) hP hQ (fun j hj => h j (by omega))
      have h2 := h n (by omega)
      cases hPn : P n with
      | false => simp only [Bool.toNat_false]; omega
      | true => rw [h2 hPn]; omega
theorem cnt_eq_of {P Q : Nat → Bool} (n : Nat) (h : ∀ j, j < n → P j = Q j) : cnt P n = cnt Q n :=
  Nat.le_antisymm (cnt_le_of n fun j hj e => (h j hj) ▸ e) (cnt_le_of n fun j hj e => (h j hj).symm ▸ e)
theorem cnt_stop {P : Nat → Bool} {k : Nat} : ∀ n, k ≤ n → (∀ j, k ≤ j → j < n → P j = false) → cnt P n = cnt P k := by
  intro n
  induction n with
  | zero => intro hk _; rw [show k = 0 by omega]
  | succ n ih =>
    intro hk h
    by_cases e : k = n + 1
    · rw [e]
    · show cnt P n + (P n).toNat = _
      rw [h n (by omega) (by omega), ih (by omega) (fun j h1 h2 => h j h1 (by omega))]
      rfl
theorem cnt_le_n {P : Nat → Bool} : ∀ n, cnt P n ≤ n := by
  intro n
  induction n with
  | zero => exact Nat.le_refl _
  | succ n ih =>
    show cnt P n + (P n).toNat ≤ n + 1
    have := Bool.toNat_le (P n)
    omega
theorem cnt_pos {P : Nat → Bool} {n x : Nat} (hx : x < n) (h : P x = true) : 0 < cnt P n := by
  have := cnt_lt_of (P := fun _ => false) (Q := P) n hx rfl h (fun j _ e => absurd e (by decide))
  omega
/-- j stands before k -/
def pre (d : Nat → Int) (j k : Nat) : Bool := decide (d j < d k ∨ (d j = d k ∧ j < k))
def rank (L : Nat → Bool) (d : Nat → Int) (k : Nat) : Nat := cnt (fun j => L j && pre d j k) 16
section RK
variable {L : Nat → Bool} {d : Nat → Int}
theorem pre_i {j k : Nat} : pre d j k = true ↔ (d j < d k ∨ (d j = d k ∧ j < k)) := by unfold pre; exact decide_eq_true_iff
theorem pre_n {j k : Nat} : pre d j k = false ↔ ¬ (d j < d k ∨ (d j = d k ∧ j < k)) := by unfold pre; exact decide_eq_false_iff_not
theorem and_i {a b : Bool} : (a && b) = true ↔ a = true ∧ b = true := by cases a <;> cases b <;> simp
theorem and_n {a b : Bool} (h : b = false) : (a && b) = false := by rw [h]; cases a <;> rfl
theorem rank_lt {j k : Nat} (hj : j < 16) (hL : L j = true) (h : pre d j k = true) : rank L d j < rank L d k := by
  refine cnt_lt_of (x := j) 16 hj (and_n (pre_n.mpr (by omega))) (and_i.mpr ⟨hL, h⟩) (fun i _ e => ?_)
  have e1 := and_i.mp e
  have e2 := pre_i.mp e1.2
  have e3 := pre_i.mp h
  exact and_i.mpr ⟨e1.1, pre_i.mpr (by omega)⟩
theorem rank_inj {j k : Nat} (hj : j < 16) (hk : k < 16) (h1 : L j = true) (h2 : L k = true) (e : rank L d j = rank L d k) : j = k := by
  by_cases c : pre d j k = true
  · have := rank_lt (d := d) hj h1 c; omega
  · by_cases c2 : pre d k j = true
    · have := rank_lt (d := d) hk h2 c2; omega
    · have a := fun q => c (pre_i.mpr q)
      have b := fun q => c2 (pre_i.mpr q)
      by_cases x : d j < d k
      · exact absurd (Or.inl x) a
      · by_cases y : d k < d j
        · exact absurd (Or.inl y) b
        · by_cases z : j < k
          · exact absurd (Or.inr ⟨by omega, z⟩) a
          · by_cases w : k < j
            · exact absurd (Or.inr ⟨by omega, w⟩) b
            · omega
theorem rank_all {k : Nat} (hk : k < 16) (hL : L k = true) : rank L d k < cnt L 16 := cnt_lt_of (x := k) 16 hk (and_n (pre_n.mpr (by omega))) hL (fun _ _ e => (and_i.mp e).1)
/-- the least of some woods -/
theorem least_of {P : Nat → Bool} (d : Nat → Int) : ∀ n, 0 < cnt P n → ∃ k, k < n ∧ P k = true ∧ ∀ j, j < n → P j = true → j ≠ k → pre d k j = true := by
  intro n
  induction n with
  | zero => intro h; exact absurd h (Nat.lt_irrefl _)
  | succ n ih =>
    intro h
    by_cases c : 0 < cnt P n
    · obtain ⟨k, hk, hP, hm⟩ := ih c
      by_cases e : P n = true
      · by_cases q : pre d k n = true
        · refine ⟨k, by omega, hP, fun j hj hPj hne => ?_⟩
          by_cases w : j = n
          · rw [w]; exact q
          · exact hm j (by omega) hPj hne
        · refine ⟨n, by omega, e, fun j hj hPj hne => ?_⟩
          have q1 : ¬ (d k < d n ∨ (d k = d n ∧ k < n)) := fun z => q (pre_i.mpr z)
          by_cases w : j = k
          · rw [w]; exact pre_i.mpr (by omega)
          · have z := pre_i.mp (hm j (by omega) hPj w)
            exact pre_i.mpr (by omega)
      · refine ⟨k, by omega, hP, fun j hj hPj hne => ?_⟩
        by_cases w : j = n
        · rw [w] at hPj; exact absurd hPj e
        · exact hm j (by omega) hPj hne
    · have h1 : cnt P (n + 1) = cnt P n + (P n).toNat := rfl
      have e : P n = true := by
        cases hq : P n with
        | true => rfl
        | false => rw [h1, hq] at h; simp only [Bool.toNat_false] at h; omega
      refine ⟨n, by omega, e, fun j hj hPj hne => ?_⟩
      exact absurd (cnt_pos (n := n) (x := j) (by omega) hPj) c
theorem cnt_split {P Q : Nat → Bool} : ∀ n, cnt P n = cnt (fun j => P j && Q j) n + cnt (fun j => P j && !Q j) n := by
  intro n
  induction n with
  | zero => rfl
  | succ n ih =>
    show cnt P n + (P n).toNat = (cnt (fun j => P j && Q j) n + (P n && Q n).toNat) + (cnt (fun j => P j && !Q j) n + (P n && !Q n).toNat)
    rw [ih]
    cases P n <;> cases Q n <;> simp <;> omega
theorem rank_ex : ∀ p, p < cnt L 16 → ∃ k, k < 16 ∧ L k = true ∧ rank L d k = p := by
  intro p
  induction p with
  | zero =>
    intro h
    obtain ⟨k, hk, hL, hm⟩ := least_of d 16 h
    refine ⟨k, hk, hL, ?_⟩
    have : rank L d k ≤ cnt (fun _ => false) 16 := cnt_le_of 16 (fun j hj e => by
      have e1 := and_i.mp e
      by_cases w : j = k
      · have := pre_i.mp e1.2; rw [w] at this; omega
      · have a := pre_i.mp (hm j hj e1.1 w)
        have b := pre_i.mp e1.2
        omega)
    have h0 : cnt (fun _ => false) 16 = 0 := by decide
    omega
  | succ p ih =>
    intro h
    obtain ⟨k, hk, hL, hr⟩ := ih (by omega)
    -- those that stand neither before k nor are k
    have hs := cnt_split (P := L) (Q := fun j => pre d j k || decide (j = k)) 16
    have h1 : cnt (fun j => L j && (pre d j k || decide (j = k))) 16 ≤ p + 1 := by
      have hs2 := cnt_split (P := fun j => L j && (pre d j k || decide (j = k))) (Q := fun j => decide (j = k)) 16
      have a1 : cnt (fun j => (L j && (pre d j k || decide (j = k))) && !decide (j = k)) 16 ≤ rank L d k := cnt_le_of 16 (fun j _ e => by
        have e1 := and_i.mp e
        have e2 := and_i.mp e1.1
        cases hq : decide (j = k) with
        | true => rw [hq] at e1; exact absurd e1.2 (by decide)
        | false =>
          rw [hq, Bool.or_false] at e2
          exact and_i.mpr e2)
      have a2 : cnt (fun j => (L j && (pre d j k || decide (j = k))) && decide (j = k)) 16 ≤ cnt (fun j => decide (j = k)) 16 := cnt_le_of 16 (fun j _ e => (and_i.mp e).2)
      have a3 : cnt (fun j => decide (j = k)) 16 = 1 := by
        have all : ∀ k, k < 16 → cnt (fun j => decide (j = k)) 16 = 1 := by decide
        exact all k hk
      omega
    have h2 : 0 < cnt (fun j => L j && !(pre d j k || decide (j = k))) 16 := by omega
    obtain ⟨m, hm, hP, hmin⟩ := least_of d 16 h2
    have hPm := and_i.mp hP
    have hor : (pre d m k || decide (m = k)) = false := by
      cases hq : (pre d m k || decide (m = k)) with
      | false => rfl
      | true => rw [hq] at hPm; exact absurd hPm.2 (by decide)
    have hpm : pre d m k = false := by
      cases hq : pre d m k with
      | false => rfl
      | true => rw [hq, Bool.true_or] at hor; exact absurd hor (by decide)
    have hmk : m ≠ k := fun q => by
      rw [q] at hor
      simp at hor
    have n1 := pre_n.mp hpm
    refine ⟨m, hm, hPm.1, ?_⟩
    have le1 : p + 1 ≤ rank L d m := by
      have := rank_lt (L := L) (d := d) (j := k) (k := m) hk hL (pre_i.mpr (by omega))
      omega
    have le2 : rank L d m ≤ cnt (fun j => L j && (pre d j k || decide (j = k))) 16 := cnt_le_of 16 (fun j hj e => by
      have e1 := and_i.mp e
      refine and_i.mpr ⟨e1.1, ?_⟩
      cases hq : (pre d j k || decide (j = k)) with
      | true => rfl
      | false =>
        by_cases w : j = m
        · have z := pre_i.mp e1.2; rw [w] at z; omega
        · have z := pre_i.mp (hmin j hj (and_i.mpr ⟨e1.1, by rw [hq]; rfl⟩) w)
          have z2 := pre_i.mp e1.2
          omega)
    omega
end RK

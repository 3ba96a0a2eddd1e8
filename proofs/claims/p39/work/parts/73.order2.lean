/-! ===== pure: the shots counted in order are the shots counted ===== -/
/-- a wood that lies on a rink -/
def lyB (M : gM) (p : Int32) (j : Nat) : Bool := decide (¬ M.1 4 ≤ nI j ∧ ¬ f_X6_liesOn M j p = 0)
def dI (M : gM) (j : Nat) : Int := (M.2.2.1 j 6).toInt
section OR1
variable {M : gM} {f : Nat → Int32} {p : Int32}
theorem ly_i {j : Nat} : lyB M p j = true ↔ (¬ M.1 4 ≤ nI j ∧ ¬ f_X6_liesOn M j p = 0) := by unfold lyB; exact decide_eq_true_iff
theorem ly_n {j : Nat} (h : M.1 4 ≤ nI j ∨ f_X6_liesOn M j p = 0) : lyB M p j = false := by
  unfold lyB
  rw [decide_eq_false_iff_not]
  intro q
  rcases h with a | a
  · exact q.1 a
  · exact q.2 a
theorem ly_t {j : Nat} (h1 : ¬ M.1 4 ≤ nI j) (h2 : ¬ f_X6_liesOn M j p = 0) : lyB M p j = true := ly_i.mpr ⟨h1, h2⟩
theorem le_mono {x : Int32} {k j : Nat} (h : x ≤ nI k) (hkj : k ≤ j) (hj : j < 2 ^ 31) : x ≤ nI j := Int32.le_trans h (nI_le hkj hj)
theorem end_16 (h : GR M f) : M.1 4 ≤ nI 16 := le_of_vp (by decide) h.v4
theorem and_left_f {a b : Bool} (h : a = false) : (a && b) = false := by rw [h]; rfl
theorem b_f {b : Bool} {n : Nat} (h : b = false) : n + b.toNat = n := by rw [h]; rfl
theorem b_t {b : Bool} {n : Nat} (h : b = true) : n + b.toNat = n + 1 := by rw [h]; rfl
theorem dI_lt {j k : Nat} : M.2.2.1 j 6 < M.2.2.1 k 6 ↔ dI M j < dI M k := Int32.lt_iff_toInt_lt
theorem dI_eq {j k : Nat} : M.2.2.1 j 6 = M.2.2.1 k 6 ↔ dI M j = dI M k := ⟨fun h => by unfold dI; rw [h], fun h => Int32.toInt_inj.mp h⟩
theorem before_l (h : GR M f) {k : Nat} (hk : k < 16) : ∀ n j, n + j = 17 → f_X1_woodsBefore_l16 M p (nI k) n j (nI (cnt (fun i => lyB M p i && pre (dI M) i k) j)) = nI (rank (lyB M p) (dI M) k) := by
  intro n
  induction n with
  | zero => intro j hj; rw [show j = 17 by omega]; show nI (rank _ _ k + _) = _; rw [b_f (and_left_f (ly_n (Or.inl (le_mono (end_16 h) (by decide) (by decide)))))]
  | succ n ih =>
    intro j hj
    unfold f_X1_woodsBefore_l16
    dsimp only [bd]
    have hck : (nI k).toNatClampNeg = k := nI_clamp (by omega)
    rw [hck]
    have hs : cnt (fun i => lyB M p i && pre (dI M) i k) (j + 1) = cnt (fun i => lyB M p i && pre (dI M) i k) j + (lyB M p j && pre (dI M) j k).toNat := rfl
    have hi := ih (j + 1) (by omega)
    by_cases c : M.1 4 ≤ nI j
    · rw [if_pos c]
      refine congrArg nI ?_
      by_cases g : j ≤ 16
      · exact (cnt_stop 16 g (fun i h1 h2 => and_left_f (ly_n (Or.inl (le_mono c h1 (by omega)))))).symm
      · rw [show j = 17 by omega]
        show rank _ _ k + _ = _
        exact b_f (and_left_f (ly_n (Or.inl (le_mono (end_16 h) (by decide) (by decide)))))
    · rw [if_neg c]
      have hj16 : j < 16 := h.l4 (by
        rcases Nat.lt_or_ge 16 j with q | q
        · exact absurd (le_mono (end_16 h) (by omega) (by omega)) c
        · exact q) c
      by_cases a : M.2.2.1 j 6 < M.2.2.1 k 6
      · rw [if_pos a]
        have hp : pre (dI M) j k = true := pre_i.mpr (Or.inl (dI_lt.mp a))
        by_cases d : f_X6_liesOn M j p = 0
        · rw [if_pos d]; rw [hs, b_f (and_left_f (ly_n (Or.inr d)))] at hi; exact hi
        · rw [if_neg d, nI_1]; rw [hs, b_t (and_i.mpr ⟨ly_t c d, hp⟩)] at hi; exact hi
      · rw [if_neg a]
        have a1 : ¬ dI M j < dI M k := fun q => a (dI_lt.mpr q)
        by_cases b : M.2.2.1 j 6 = M.2.2.1 k 6
        · rw [if_pos b]
          have b1 := dI_eq.mp b
          by_cases g : nI k ≤ nI j
          · rw [if_pos g]
            have g1 := (nI_leI (by omega) (by omega)).mp g
            rw [hs, b_f (and_n (pre_n.mpr (by omega)))] at hi; exact hi
          · rw [if_neg g]
            have g1 : ¬ k ≤ j := fun q => g ((nI_leI (by omega) (by omega)).mpr q)
            have hp : pre (dI M) j k = true := pre_i.mpr (by omega)
            by_cases d : f_X6_liesOn M j p = 0
            · rw [if_pos d]; rw [hs, b_f (and_left_f (ly_n (Or.inr d)))] at hi; exact hi
            · rw [if_neg d, nI_1]; rw [hs, b_t (and_i.mpr ⟨ly_t c d, hp⟩)] at hi; exact hi
        · rw [if_neg b]
          have b1 : ¬ dI M j = dI M k := fun q => b (dI_eq.mpr q)
          rw [hs, b_f (and_n (pre_n.mpr (by omega)))] at hi; exact hi
theorem before_eq (h : GR M f) {k : Nat} (hk : k < 16) : f_X1_woodsBefore M p (nI k) = nI (rank (lyB M p) (dI M) k) := before_l h hk 17 0 rfl
theorem inOrder_l (h : GR M f) {q : Nat} (hq : q < 100) : ∀ n k, n + k = 17 → (∃ i, i < 16 ∧ k ≤ i ∧ lyB M p i = true ∧ rank (lyB M p) (dI M) i = q ∧ f_X1_woodInOrder_l2 M p (nI q) n k = nI i) ∨ ((∀ i, i < 16 → k ≤ i → lyB M p i = true → rank (lyB M p) (dI M) i ≠ q) ∧ (f_X1_woodInOrder_l2 M p (nI q) n k = -4 ∨ n = 0)) := by
  intro n
  induction n with
  | zero => intro k hk; exact Or.inr ⟨fun i h1 h2 => by omega, Or.inr rfl⟩
  | succ n ih =>
    intro k hk
    unfold f_X1_woodInOrder_l2
    dsimp only [bd]
    by_cases c : M.1 4 ≤ nI k
    · rw [if_pos c]
      exact Or.inr ⟨fun i h1 h2 h3 => absurd (le_mono c h2 (by omega)) (ly_i.mp h3).1, Or.inl rfl⟩
    · rw [if_neg c]
      have hk16 : k < 16 := h.l4 (by
        rcases Nat.lt_or_ge 16 k with q | q
        · exact absurd (le_mono (end_16 h) (by omega) (by omega)) c
        · exact q) c
      have go : f_X6_liesOn M k p = 0 ∨ rank (lyB M p) (dI M) k ≠ q → (∃ i, i < 16 ∧ k ≤ i ∧ lyB M p i = true ∧ rank (lyB M p) (dI M) i = q ∧ f_X1_woodInOrder_l2 M p (nI q) n (k + 1) = nI i) ∨ ((∀ i, i < 16 → k ≤ i → lyB M p i = true → rank (lyB M p) (dI M) i ≠ q) ∧ (f_X1_woodInOrder_l2 M p (nI q) n (k + 1) = -4 ∨ n + 1 = 0)) := by
        intro hno
        rcases ih (k + 1) (by omega) with ⟨i, h1, h2, h3, h4, h5⟩ | ⟨h1, h2⟩
        · exact Or.inl ⟨i, h1, by omega, h3, h4, h5⟩
        · refine Or.inr ⟨fun i a b c2 => ?_, ?_⟩
          · by_cases e : i = k
            · subst e
              rcases hno with z | z
              · exact absurd z (ly_i.mp c2).2
              · exact z
            · exact h1 i a (by omega) c2
          · rcases h2 with z | z
            · exact Or.inl z
            · omega
      by_cases d : f_X6_liesOn M k p = 0
      · rw [if_pos d]; exact go (Or.inl d)
      · rw [if_neg d, before_eq h hk16]
        have hr16 : rank (lyB M p) (dI M) k ≤ 16 := cnt_le_n 16
        by_cases e : rank (lyB M p) (dI M) k = q
        · rw [if_pos (by rw [e])]
          exact Or.inl ⟨k, hk16, Nat.le_refl _, ly_t c d, e, rfl⟩
        · rw [if_neg (fun z => e ((nI_eq (by omega) (by omega)).mp z))]
          exact go (Or.inr e)
theorem inOrder (h : GR M f) {q : Nat} (hq : q < 100) : (∃ i, i < 16 ∧ lyB M p i = true ∧ rank (lyB M p) (dI M) i = q ∧ f_X1_woodInOrder M p (nI q) = nI i) ∨ ((∀ i, i < 16 → lyB M p i = true → rank (lyB M p) (dI M) i ≠ q) ∧ f_X1_woodInOrder M p (nI q) = -4) := by
  rcases inOrder_l (p := p) h hq 17 0 rfl with ⟨i, a, -, b, c, d⟩ | ⟨a, b⟩
  · exact Or.inl ⟨i, a, b, c, d⟩
  · exact Or.inr ⟨fun i x y => a i x (Nat.zero_le _) y, b.elim id (fun z => absurd z (by decide))⟩
theorem matched_l (h : GR M f) {w : Nat} : ∀ n k, n + k = 17 → (f_X1_isMatched_l2 M p w n k = 0 ∧ ∀ i, i < 16 → k ≤ i → lyB M p i = true → M.2.2.1 i 0 ≠ M.2.2.1 w 0 → M.2.2.1 i 6 ≠ M.2.2.1 w 6) ∨ (f_X1_isMatched_l2 M p w n k = 1 ∧ ∃ i, i < 16 ∧ lyB M p i = true ∧ M.2.2.1 i 0 ≠ M.2.2.1 w 0 ∧ M.2.2.1 i 6 = M.2.2.1 w 6) := by
  intro n
  induction n with
  | zero => intro k hk; exact Or.inl ⟨rfl, fun i h1 h2 => by omega⟩
  | succ n ih =>
    intro k hk
    unfold f_X1_isMatched_l2
    dsimp only [bd]
    by_cases c : M.1 4 ≤ nI k
    · rw [if_pos c]
      exact Or.inl ⟨rfl, fun i h1 h2 h3 => absurd (le_mono c h2 (by omega)) (ly_i.mp h3).1⟩
    · rw [if_neg c]
      have hk16 : k < 16 := h.l4 (by
        rcases Nat.lt_or_ge 16 k with q | q
        · exact absurd (le_mono (end_16 h) (by omega) (by omega)) c
        · exact q) c
      have go : (lyB M p k = true → M.2.2.1 k 0 ≠ M.2.2.1 w 0 → M.2.2.1 k 6 ≠ M.2.2.1 w 6) → (f_X1_isMatched_l2 M p w n (k + 1) = 0 ∧ ∀ i, i < 16 → k ≤ i → lyB M p i = true → M.2.2.1 i 0 ≠ M.2.2.1 w 0 → M.2.2.1 i 6 ≠ M.2.2.1 w 6) ∨ (f_X1_isMatched_l2 M p w n (k + 1) = 1 ∧ ∃ i, i < 16 ∧ lyB M p i = true ∧ M.2.2.1 i 0 ≠ M.2.2.1 w 0 ∧ M.2.2.1 i 6 = M.2.2.1 w 6) := by
        intro hno
        rcases ih (k + 1) (by omega) with ⟨h1, h2⟩ | ⟨h1, h2⟩
        · refine Or.inl ⟨h1, fun i a b c2 => ?_⟩
          by_cases e : i = k
          · rw [e] at c2 ⊢; exact hno c2
          · exact h2 i a (by omega) c2
        · exact Or.inr ⟨h1, h2⟩
      by_cases a : M.2.2.1 k 0 = M.2.2.1 w 0
      · rw [if_pos a]; exact go (fun _ q => absurd a q)
      · rw [if_neg a]
        by_cases d : f_X6_liesOn M k p = 0
        · rw [if_pos d]; exact go (fun q => absurd d (ly_i.mp q).2)
        · rw [if_neg d]
          by_cases e : M.2.2.1 k 6 = M.2.2.1 w 6
          · rw [if_pos e]; exact Or.inr ⟨rfl, k, hk16, ly_t c d, a, e⟩
          · rw [if_neg e]; exact go (fun _ _ => e)
theorem least_l (h : GR M f) {c : Int32} : ∀ n k b, n + k = 17 → (f_X1_leastDistance_l6 M p c n k b = b ∨ ∃ i, i < 16 ∧ k ≤ i ∧ lyB M p i = true ∧ M.2.2.1 i 0 = c ∧ M.2.2.1 i 6 = f_X1_leastDistance_l6 M p c n k b) ∧ f_X1_leastDistance_l6 M p c n k b ≤ b ∧ ∀ i, i < 16 → k ≤ i → lyB M p i = true → M.2.2.1 i 0 = c → f_X1_leastDistance_l6 M p c n k b ≤ M.2.2.1 i 6 := by
  intro n
  induction n with
  | zero => intro k b hk; exact ⟨Or.inl rfl, Int32.le_refl _, fun i h1 h2 => by omega⟩
  | succ n ih =>
    intro k b hk
    unfold f_X1_leastDistance_l6
    dsimp only [bd]
    by_cases g : M.1 4 ≤ nI k
    · rw [if_pos g]
      exact ⟨Or.inl rfl, Int32.le_refl _, fun i h1 h2 h3 => absurd (le_mono g h2 (by omega)) (ly_i.mp h3).1⟩
    · rw [if_neg g]
      have hk16 : k < 16 := h.l4 (by
        rcases Nat.lt_or_ge 16 k with q | q
        · exact absurd (le_mono (end_16 h) (by omega) (by omega)) g
        · exact q) g
      have go : ¬ (lyB M p k = true ∧ M.2.2.1 k 0 = c) → (f_X1_leastDistance_l6 M p c n (k + 1) b = b ∨ ∃ i, i < 16 ∧ k ≤ i ∧ lyB M p i = true ∧ M.2.2.1 i 0 = c ∧ M.2.2.1 i 6 = f_X1_leastDistance_l6 M p c n (k + 1) b) ∧ f_X1_leastDistance_l6 M p c n (k + 1) b ≤ b ∧ ∀ i, i < 16 → k ≤ i → lyB M p i = true → M.2.2.1 i 0 = c → f_X1_leastDistance_l6 M p c n (k + 1) b ≤ M.2.2.1 i 6 := by
        intro hno
        obtain ⟨h1, h2, h3⟩ := ih (k + 1) b (by omega)
        refine ⟨h1.elim Or.inl (fun ⟨i, a, b2, x⟩ => Or.inr ⟨i, a, by omega, x⟩), h2, fun i a b2 c2 d2 => ?_⟩
        by_cases e : i = k
        · rw [e] at c2 d2; exact absurd ⟨c2, d2⟩ hno
        · exact h3 i a (by omega) c2 d2
      by_cases a : M.2.2.1 k 0 = c
      · rw [if_pos a]
        by_cases d : f_X6_liesOn M k p = 0
        · rw [if_pos d]; exact go (fun q => (ly_i.mp q.1).2 d)
        · rw [if_neg d]
          obtain ⟨h1, h2, h3⟩ := ih (k + 1) (if M.2.2.1 k 6 < b then M.2.2.1 k 6 else b) (by omega)
          have hb : (if M.2.2.1 k 6 < b then M.2.2.1 k 6 else b) ≤ b ∧ (if M.2.2.1 k 6 < b then M.2.2.1 k 6 else b) ≤ M.2.2.1 k 6 := by
            by_cases u : M.2.2.1 k 6 < b
            · rw [if_pos u]; exact ⟨Int32.le_of_lt u, Int32.le_refl _⟩
            · rw [if_neg u]; exact ⟨Int32.le_refl _, Int32.not_lt.mp u⟩
          refine ⟨?_, Int32.le_trans h2 hb.1, fun i a2 b2 c2 d2 => ?_⟩
          · rcases h1 with z | ⟨i, x1, x2, x3⟩
            · by_cases u : M.2.2.1 k 6 < b
              · rw [if_pos u] at z ⊢
                exact Or.inr ⟨k, hk16, Nat.le_refl _, ly_t g d, a, z.symm⟩
              · rw [if_neg u] at z ⊢; exact Or.inl z
            · exact Or.inr ⟨i, x1, by omega, x3⟩
          · by_cases e : i = k
            · rw [e]; exact Int32.le_trans h2 hb.2
            · exact h3 i a2 (by omega) c2 d2
      · rw [if_neg a]; exact go (fun q => a q.2)
/-- a club's woods that are nearer than a limit -/
def good (M : gM) (p c lim : Int32) (j : Nat) : Bool := lyB M p j && decide (M.2.2.1 j 0 = c ∧ M.2.2.1 j 6 < lim)
theorem good_i {c lim : Int32} {j : Nat} : good M p c lim j = true ↔ lyB M p j = true ∧ M.2.2.1 j 0 = c ∧ M.2.2.1 j 6 < lim := by
  unfold good
  rw [and_i, decide_eq_true_iff]
theorem good_n {c lim : Int32} {j : Nat} (h : ¬ (lyB M p j = true ∧ M.2.2.1 j 0 = c ∧ M.2.2.1 j 6 < lim)) : good M p c lim j = false := by
  cases q : good M p c lim j with
  | false => rfl
  | true => exact absurd (good_i.mp q) h
theorem nearer_l (h : GR M f) {c lim : Int32} : ∀ n k, n + k = 17 → f_X1_woodsNearerThan_l6 M p c lim n k (nI (cnt (good M p c lim) k)) = nI (cnt (good M p c lim) 16) := by
  intro n
  induction n with
  | zero =>
    intro k hk
    rw [show k = 17 by omega]
    show nI (cnt (good M p c lim) 16 + (good M p c lim 16).toNat) = _
    rw [b_f (good_n (fun q => (ly_i.mp q.1).1 (end_16 h)))]
  | succ n ih =>
    intro k hk
    unfold f_X1_woodsNearerThan_l6
    dsimp only [bd]
    have hs : cnt (good M p c lim) (k + 1) = cnt (good M p c lim) k + (good M p c lim k).toNat := rfl
    have hi := ih (k + 1) (by omega)
    by_cases g : M.1 4 ≤ nI k
    · rw [if_pos g]
      refine congrArg nI ?_
      by_cases g2 : k ≤ 16
      · exact (cnt_stop 16 g2 (fun i h1 h2 => good_n (fun q => (ly_i.mp q.1).1 (le_mono g h1 (by omega))))).symm
      · rw [show k = 17 by omega]
        show cnt (good M p c lim) 16 + _ = _
        exact b_f (good_n (fun q => (ly_i.mp q.1).1 (end_16 h)))
    · rw [if_neg g]
      by_cases a : M.2.2.1 k 0 = c
      · rw [if_pos a]
        by_cases d : f_X6_liesOn M k p = 0
        · rw [if_pos d]; rw [hs, b_f (good_n (fun q => (ly_i.mp q.1).2 d))] at hi; exact hi
        · rw [if_neg d]
          by_cases e : lim ≤ M.2.2.1 k 6
          · rw [if_pos e]; rw [hs, b_f (good_n (fun q => Int32.not_lt.mpr e q.2.2))] at hi; exact hi
          · rw [if_neg e, nI_1]; rw [hs, b_t (good_i.mpr ⟨ly_t g d, a, Int32.not_le.mp e⟩)] at hi; exact hi
      · rw [if_neg a]; rw [hs, b_f (good_n (fun q => a q.2.1))] at hi; exact hi
theorem nearer_eq (h : GR M f) (c lim : Int32) : f_X1_woodsNearerThan M p c lim = nI (cnt (good M p c lim) 16) := nearer_l h 17 0 rfl
end OR1

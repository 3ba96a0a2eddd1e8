section PO
variable {M : gM} {X Y : Nat → Int32} {A B : Nat → Nat → Int32} {t : Nat → Nat} {n : Nat}
def kc : List Nat → Nat
  | [] => 0
  | c :: r => (if c = 43 then 1 else if c = 100 then 1 else if c = 110 then 1 else 0) + kc r
/-- an order's parts, read from a place -/
def pO (t : Nat → Nat) (n : Nat) : List Nat → Nat → Nat → (Nat → Int32) → Bool × Nat × (Nat → Int32)
  | [], _, i, F => (true, i, F)
  | c :: r, q, i, F =>
    if c = 43 then
      (if (pS t n 43 i).1 = true then pO t n r (q + 1) (i + 1) (upd F q 1)
      else if (pS t n 45 i).1 = true then pO t n r (q + 1) (i + 1) (upd F q 0)
      else (false, i, upd F q 0))
    else if c = 100 then
      (if (pD t n 1 0 i).1 = 0 then (false, (pD t n 1 0 i).2.2, upd F q (nI (pD t n 1 0 i).2.1)) else pO t n r (q + 1) (pD t n 1 0 i).2.2 (upd F q (nI (pD t n 1 0 i).2.1)))
    else if c = 110 then
      (if (pD t n 2 0 i).1 = 0 then (false, (pD t n 2 0 i).2.2, upd F q (nI (pD t n 2 0 i).2.1)) else pO t n r (q + 1) (pD t n 2 0 i).2.2 (upd F q (nI (pD t n 2 0 i).2.1)))
    else
      (if (pS t n c i).1 = true then pO t n r q (i + 1) F else (false, i, F))
theorem pS_1 {c i : Nat} (h : (pS t n c i).1 = true) : i < n := by
  unfold pS at h
  by_cases a : i < n ∧ t i = c
  · exact a.1
  · rw [if_neg a] at h; exact absurd h Bool.false_ne_true
theorem pD_cnt : ∀ k y i, (pD t n k y i).1 ≤ k := by
  intro k
  induction k with
  | zero => intro y i; exact Nat.le_refl _
  | succ k ih =>
    intro y i
    unfold pD
    by_cases a : i < n ∧ 48 ≤ t i ∧ t i ≤ 57
    · rw [if_pos a]; exact Nat.succ_le_succ (ih _ _)
    · rw [if_neg a]; exact Nat.zero_le _
theorem cl_dig (h : RT X A Y B t n) {m i idx : Nat} (hm : m = 1 ∨ m = 2) (hi : i ≤ n) (ei : X 5 = nI i) (hx : idx < 1000) : ∃ X1, f_X2_readDigits M X A (nI m) (nI idx) = (if (pD t n m 0 i).1 = 0 then 0 else 1, X1, up2 A 1 idx (nI (pD t n m 0 i).2.1)) ∧ X1 5 = nI (pD t n m 0 i).2.2 ∧ ∀ j, j ≠ 5 → X1 j = X j := by
  obtain ⟨r1, r2, r3, r4⟩ := cl_dig_l (M := M) (p3 := nI idx) m 0 i 0 3 X h (by omega) hi (by omega) (Or.inr ⟨by decide, Or.inl rfl⟩) ei
  rw [Nat.zero_add] at r1 r2 r3 r4
  rw [Nat.zero_add] at r1
  have e0 : f_X2_readDigits_l6 M A (nI m) (nI idx) 3 0 0 X = f_X2_readDigits_l6 M A (nI m) (nI idx) 3 (nI 0) (nI 0) X := rfl
  unfold f_X2_readDigits
  simp only [bd_x]
  rw [e0]
  generalize f_X2_readDigits_l6 M A (nI m) (nI idx) 3 (nI 0) (nI 0) X = z at r1 r2 r3 r4 ⊢
  refine ⟨z.2.2, ?_, r3, r4⟩
  rw [r1, r2, nI_clamp (by omega)]
  have hc := pD_cnt (t := t) (n := n) m 0 i
  by_cases c : (pD t n m 0 i).1 = 0
  · rw [if_pos c, c, if_pos (show nI 0 ≤ 0 by decide)]
  · rw [if_neg c, if_neg (nI_nle (by omega) (by omega))]
theorem cl_side (h : RT X A Y B t n) {i idx : Nat} (hi : i ≤ n) (ei : X 5 = nI i) (hx : idx < 1000) : f_X2_readSide M X A (nI idx) =
    if (pS t n 43 i).1 = true then (1, upd X 5 (nI (i + 1)), up2 A 1 idx 1) else if (pS t n 45 i).1 = true then (1, upd X 5 (nI (i + 1)), up2 A 1 idx 0) else (0, X, up2 A 1 idx 0) := by
  unfold f_X2_readSide
  simp only [bd_x]
  rw [cl_sign h (c := 43) (p := 43) hi (by decide) ei rfl, nI_clamp (by omega)]
  by_cases a : (pS t n 43 i).1 = true
  · simp only [if_pos a]
    rw [if_neg (show ¬ (1 : Int32) = 0 by decide)]
  · simp only [if_neg a]
    rw [if_pos trivial]
    have h2 : RT X (up2 A 1 idx 0) Y B t n := ⟨h.1, h.2.1, h.2.2.1, fun j hj => by rw [up2_ne _ _ _ (by decide)]; exact h.2.2.2 j hj⟩
    rw [cl_sign h2 (c := 45) (p := 45) hi (by decide) ei rfl]
    by_cases b : (pS t n 45 i).1 = true
    · simp only [if_pos b]
    · simp only [if_neg b]
theorem rp43 {p3 : Int32} : f_X2_readPart M X A (nI 43) p3 = f_X2_readSide M X A p3 := by
  unfold f_X2_readPart
  simp only [bd_x]
  rw [if_pos (show nI 43 = 43 from rfl)]
theorem rp100 {p3 : Int32} : f_X2_readPart M X A (nI 100) p3 = f_X2_readDigits M X A (nI 1) p3 := by
  unfold f_X2_readPart
  simp only [bd_x]
  rw [if_neg (show ¬ nI 100 = 43 by decide), if_pos (show nI 100 = 100 from rfl)]
  rfl
theorem rp110 {p3 : Int32} : f_X2_readPart M X A (nI 110) p3 = f_X2_readDigits M X A (nI 2) p3 := by
  unfold f_X2_readPart
  simp only [bd_x]
  rw [if_neg (show ¬ nI 110 = 43 by decide), if_neg (show ¬ nI 110 = 100 by decide), if_pos (show nI 110 = 110 from rfl)]
  rfl
theorem rpS {c : Nat} {p3 : Int32} (hc : c < 1000) (h1 : c ≠ 43) (h2 : c ≠ 100) (h3 : c ≠ 110) : f_X2_readPart M X A (nI c) p3 = ((f_X2_readSign M X A (nI c)).1, (f_X2_readSign M X A (nI c)).2, A) := by
  unfold f_X2_readPart
  simp only [bd_x]
  rw [if_neg (show ¬ nI c = 43 from fun q => h1 ((nI_eq (b := 43) (by omega) (by decide)).mp q)), if_neg (show ¬ nI c = 100 from fun q => h2 ((nI_eq (b := 100) (by omega) (by decide)).mp q)), if_neg (show ¬ nI c = 110 from fun q => h3 ((nI_eq (b := 110) (by omega) (by decide)).mp q))]
theorem ikS {c : Nat} (hc : c < 1000) (h1 : c ≠ 43) (h2 : c ≠ 100) (h3 : c ≠ 110) : f_X2_isKept M X A (nI c) = 0 := by
  unfold f_X2_isKept
  rw [if_neg (show ¬ nI c = 100 from fun q => h2 ((nI_eq (b := 100) (by omega) (by decide)).mp q)), if_neg (show ¬ nI c = 110 from fun q => h3 ((nI_eq (b := 110) (by omega) (by decide)).mp q)), if_neg (show ¬ nI c = 43 from fun q => h1 ((nI_eq (b := 43) (by omega) (by decide)).mp q))]
theorem ik1 {c : Nat} (h : c = 43 ∨ c = 100 ∨ c = 110) : f_X2_isKept M X A (nI c) = 1 := by
  unfold f_X2_isKept
  rcases h with rfl | rfl | rfl <;> decide
theorem cl_order_l {z4 s : Nat} {p2 : Int32} {pat : List Nat} (hs : s < 100) (hlen : lenS.getD z4 0 = pat.length) (hp : pat.length < 100) (hch : ∀ k, k < pat.length → chS z4 k = nI (pat.getD k 0)) (hpc : ∀ k, pat.getD k 0 < 1000) :
    ∀ r k q i F fuel X A, r = pat.drop k → k ≤ pat.length → r.length < fuel → q + kc r ≤ 5 → i ≤ n → RT X A Y B t n → X 5 = nI i → (∀ j, j < 5 → A 1 (5 * s + j) = F j) →
    (f_X2_readOrder_l64 M p2 z4 fuel k (nI (5 * s + q)) X A).1 = (if (pO t n r q i F).1 = true then 1 else 0) ∧ (f_X2_readOrder_l64 M p2 z4 fuel k (nI (5 * s + q)) X A).2.1 5 = nI (pO t n r q i F).2.1 ∧ (∀ j, j ≠ 5 → (f_X2_readOrder_l64 M p2 z4 fuel k (nI (5 * s + q)) X A).2.1 j = X j) ∧
      (∀ j, j ≠ 1 → (f_X2_readOrder_l64 M p2 z4 fuel k (nI (5 * s + q)) X A).2.2 j = A j) ∧ (∀ j, j < 5 → (f_X2_readOrder_l64 M p2 z4 fuel k (nI (5 * s + q)) X A).2.2 1 (5 * s + j) = (pO t n r q i F).2.2 j) ∧
      (∀ j, (j < 5 * s ∨ 5 * s + 5 ≤ j) → (f_X2_readOrder_l64 M p2 z4 fuel k (nI (5 * s + q)) X A).2.2 1 j = A 1 j) ∧ (pO t n r q i F).2.1 ≤ n := by
  intro r
  induction r with
  | nil =>
    intro k q i F fuel X A hr hk hf hq hi h ei hF
    have hkl : pat.length ≤ k := by
      have := congrArg List.length hr
      rw [List.length_drop] at this
      simp at this
      omega
    obtain ⟨fuel, rfl⟩ : ∃ g, fuel = g + 1 := ⟨fuel - 1, by omega⟩
    unfold f_X2_readOrder_l64 pO
    simp only [bd_x]
    rw [hlen, if_pos (nI_le hkl (by omega))]
    exact ⟨rfl, ei, fun _ _ => rfl, fun _ _ => rfl, hF, fun _ _ => rfl, hi⟩
  | cons c r ih =>
    intro k q i F fuel X A hr hk hf hq hi h ei hF
    have hkl : k < pat.length := by
      have := congrArg List.length hr
      rw [List.length_drop] at this
      simp at this
      omega
    have hc : pat.getD k 0 = c := by
      have := congrArg (fun l => l.getD 0 0) hr
      simp at this
      simp
      exact this.symm
    have hr2 : r = pat.drop (k + 1) := by
      have := congrArg List.tail hr
      rw [List.tail_drop] at this
      exact this
    have c1000 : c < 1000 := by rw [← hc]; exact hpc k
    obtain ⟨fuel, rfl⟩ : ∃ g, fuel = g + 1 := ⟨fuel - 1, by omega⟩
    have hf2 : r.length < fuel := by simp at hf; omega
    unfold f_X2_readOrder_l64
    simp only [bd_x]
    rw [hlen, if_neg (nI_ge hkl (by omega)), hch k hkl, hc]
    have ihk := fun q i F X A => ih (k + 1) q i F fuel X A hr2 hkl hf2
    have q5 : (c = 43 ∨ c = 100 ∨ c = 110) → q < 5 ∧ q + 1 + kc r ≤ 5 := fun hcc => by
      have := hq
      unfold kc at this
      rcases hcc with rfl | rfl | rfl
      · rw [if_pos rfl] at this; omega
      · rw [if_neg (by decide), if_pos rfl] at this; omega
      · rw [if_neg (by decide), if_neg (by decide), if_pos rfl] at this; omega
    have fupd : ∀ (v : Int32), q < 5 → ∀ j, j < 5 → up2 A 1 (5 * s + q) v 1 (5 * s + j) = upd F q v j := fun v hq5 j hj => by
      rw [up2_eq]
      by_cases e : j = q
      · rw [e, upd_eq, upd_eq]
      · rw [upd_ne _ _ (by omega), upd_ne _ _ e, hF j hj]
    have fout : ∀ (v : Int32), q < 5 → ∀ j, (j < 5 * s ∨ 5 * s + 5 ≤ j) → up2 A 1 (5 * s + q) v 1 j = A 1 j := fun v hq5 j hj => by
      rw [up2_eq, upd_ne _ _ (by omega)]
    have rtu : ∀ (X1 : Nat → Int32) (v : Int32), (∀ j, j ≠ 5 → X1 j = X j) → RT X1 (up2 A 1 (5 * s + q) v) Y B t n := fun X1 v hX => ⟨h.1, (hX 7 (by decide)).trans h.2.1, h.2.2.1, fun j hj => by rw [up2_ne _ _ _ (by decide)]; exact h.2.2.2 j hj⟩
    -- a part that is kept and read
    have go : ∀ (X1 : Nat → Int32) (v : Int32) (i1 : Nat), q < 5 → q + 1 + kc r ≤ 5 → i1 ≤ n → X1 5 = nI i1 → (∀ j, j ≠ 5 → X1 j = X j) →
        (f_X2_readOrder_l64 M p2 z4 fuel (k + 1) (nI (5 * s + q + 1)) X1 (up2 A 1 (5 * s + q) v)).1 = (if (pO t n r (q + 1) i1 (upd F q v)).1 = true then 1 else 0) ∧ (f_X2_readOrder_l64 M p2 z4 fuel (k + 1) (nI (5 * s + q + 1)) X1 (up2 A 1 (5 * s + q) v)).2.1 5 = nI (pO t n r (q + 1) i1 (upd F q v)).2.1 ∧ (∀ j, j ≠ 5 → (f_X2_readOrder_l64 M p2 z4 fuel (k + 1) (nI (5 * s + q + 1)) X1 (up2 A 1 (5 * s + q) v)).2.1 j = X j) ∧
        (∀ j, j ≠ 1 → (f_X2_readOrder_l64 M p2 z4 fuel (k + 1) (nI (5 * s + q + 1)) X1 (up2 A 1 (5 * s + q) v)).2.2 j = A j) ∧ (∀ j, j < 5 → (f_X2_readOrder_l64 M p2 z4 fuel (k + 1) (nI (5 * s + q + 1)) X1 (up2 A 1 (5 * s + q) v)).2.2 1 (5 * s + j) = (pO t n r (q + 1) i1 (upd F q v)).2.2 j) ∧
        (∀ j, (j < 5 * s ∨ 5 * s + 5 ≤ j) → (f_X2_readOrder_l64 M p2 z4 fuel (k + 1) (nI (5 * s + q + 1)) X1 (up2 A 1 (5 * s + q) v)).2.2 1 j = A 1 j) ∧ (pO t n r (q + 1) i1 (upd F q v)).2.1 ≤ n := fun X1 v i1 q5 q6 hi1 e1 hX => by
      obtain ⟨a1, a2, a3, a4, a5, a6, a7⟩ := ihk (q + 1) i1 (upd F q v) X1 (up2 A 1 (5 * s + q) v) q6 hi1 (rtu X1 v hX) e1 (fupd v q5)
      rw [← Nat.add_assoc] at a1 a2 a3 a4 a5 a6
      exact ⟨a1, a2, fun j hj => (a3 j hj).trans (hX j hj), fun j hj => (a4 j hj).trans (up2_ne _ _ _ hj), a5, fun j hj => (a6 j hj).trans (fout v q5 j hj), a7⟩
    by_cases c43 : c = 43
    · subst c43
      obtain ⟨qa, qb⟩ := q5 (Or.inl rfl)
      rw [rp43, cl_side h hi ei (show 5 * s + q < 1000 by omega), ik1 (Or.inl rfl)]
      unfold pO
      by_cases s1 : (pS t n 43 i).1 = true
      · simp only [if_pos s1, if_neg (show ¬ (1 : Int32) = 0 by decide), nI_1, if_pos]
        exact go _ 1 (i + 1) qa qb (pS_1 s1) (upd_eq _ _ _) (fun j hj => upd_ne _ _ hj)
      · by_cases s2 : (pS t n 45 i).1 = true
        · simp only [if_neg s1, if_pos s2, if_neg (show ¬ (1 : Int32) = 0 by decide), nI_1, if_pos]
          exact go _ 0 (i + 1) qa qb (pS_1 s2) (upd_eq _ _ _) (fun j hj => upd_ne _ _ hj)
        · simp only [if_neg s1, if_neg s2, if_pos]
          exact ⟨(if_neg Bool.false_ne_true).symm, ei, fun _ _ => trivial, fun j hj => up2_ne _ _ _ hj, fupd 0 qa, fout 0 qa, hi⟩
    by_cases c100 : c = 100
    · subst c100
      obtain ⟨qa, qb⟩ := q5 (Or.inr (Or.inl rfl))
      obtain ⟨X1, d1, d2, d3⟩ := cl_dig (M := M) h (m := 1) (idx := 5 * s + q) (Or.inl rfl) hi ei (by omega)
      rw [rp100, d1, ik1 (Or.inr (Or.inl rfl))]
      unfold pO
      have dl := pD_le (t := t) (n := n) 1 0 i hi
      by_cases s1 : (pD t n 1 0 i).1 = 0
      · simp only [if_neg c43, if_pos s1, if_pos]
        exact ⟨(if_neg Bool.false_ne_true).symm, d2, d3, fun j hj => up2_ne _ _ _ hj, fupd _ qa, fout _ qa, dl⟩
      · simp only [if_neg c43, if_neg s1, if_neg (show ¬ (1 : Int32) = 0 by decide), nI_1, if_pos]
        exact go X1 _ _ qa qb dl d2 d3
    by_cases c110 : c = 110
    · subst c110
      obtain ⟨qa, qb⟩ := q5 (Or.inr (Or.inr rfl))
      obtain ⟨X1, d1, d2, d3⟩ := cl_dig (M := M) h (m := 2) (idx := 5 * s + q) (Or.inr rfl) hi ei (by omega)
      rw [rp110, d1, ik1 (Or.inr (Or.inr rfl))]
      unfold pO
      have dl := pD_le (t := t) (n := n) 2 0 i hi
      by_cases s1 : (pD t n 2 0 i).1 = 0
      · simp only [if_neg c43, if_neg c100, if_pos s1, if_pos]
        exact ⟨(if_neg Bool.false_ne_true).symm, d2, d3, fun j hj => up2_ne _ _ _ hj, fupd _ qa, fout _ qa, dl⟩
      · simp only [if_neg c43, if_neg c100, if_neg s1, if_neg (show ¬ (1 : Int32) = 0 by decide), nI_1, if_pos]
        exact go X1 _ _ qa qb dl d2 d3
    have hq2 : q + kc r ≤ 5 := by
      unfold kc at hq
      rw [if_neg c43, if_neg c100, if_neg c110] at hq; omega
    rw [rpS c1000 c43 c100 c110, cl_sign h (c := c) hi c1000 ei rfl, ikS c1000 c43 c100 c110]
    unfold pO
    by_cases s1 : (pS t n c i).1 = true
    · simp only [if_neg c43, if_neg c100, if_neg c110, if_pos s1, if_neg (show ¬ (1 : Int32) = 0 by decide), if_pos]
      obtain ⟨a1, a2, a3, a4, a5, a6, a7⟩ := ihk q (i + 1) F (upd X 5 (nI (i + 1))) A hq2 (pS_1 s1) ⟨h.1, (upd_ne _ _ (by decide)).trans h.2.1, h.2.2.1, h.2.2.2⟩ (upd_eq _ _ _) hF
      exact ⟨a1, a2, fun j hj => (a3 j hj).trans (upd_ne _ _ hj), a4, a5, a6, a7⟩
    · simp only [if_neg c43, if_neg c100, if_neg c110, if_neg s1, if_pos]
      exact ⟨(if_neg Bool.false_ne_true).symm, ei, fun _ _ => trivial, fun _ _ => trivial, hF, fun _ _ => trivial, hi⟩
end PO

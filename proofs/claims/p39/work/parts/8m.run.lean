section RUN
variable {G : Nat → gM} {M : gM} {X Y : Nat → Int32} {A B : Nat → Nat → Int32} {t : Nat → Nat} {n : Nat}
theorem l86_0 {f : Nat} (hf : 0 < f) {a b c : Int32} : f_X8_script_l86 f a b c 0 Y B = (a, b, c, 0, Y, B) := by
  obtain ⟨f, rfl⟩ : ∃ g, f = g + 1 := ⟨f - 1, by omega⟩
  unfold f_X8_script_l86
  rw [if_pos rfl]
theorem pO_le : ∀ r q i (F : Nat → Int32), i ≤ n → (pO t n r q i F).2.1 ≤ n := by
  intro r
  induction r with
  | nil => intro q i F h; unfold pO; exact h
  | cons c r ih =>
    intro q i F h
    unfold pO
    by_cases c43 : c = 43
    · simp only [if_pos c43]
      by_cases s1 : (pS t n 43 i).1 = true
      · simp only [if_pos s1]
        exact ih _ _ _ (pS_1 s1)
      · by_cases s2 : (pS t n 45 i).1 = true
        · simp only [if_neg s1, if_pos s2]
          exact ih _ _ _ (pS_1 s2)
        · simp only [if_neg s1, if_neg s2]
          exact h
    by_cases c100 : c = 100
    · simp only [if_neg c43, if_pos c100]
      have d := pD_le (t := t) (n := n) 1 0 i h
      by_cases s1 : (pD t n 1 0 i).1 = 0
      · simp only [if_pos s1]; exact d
      · simp only [if_neg s1]
        exact ih _ _ _ d
    by_cases c110 : c = 110
    · simp only [if_neg c43, if_neg c100, if_pos c110]
      have d := pD_le (t := t) (n := n) 2 0 i h
      by_cases s1 : (pD t n 2 0 i).1 = 0
      · simp only [if_pos s1]; exact d
      · simp only [if_neg s1]
        exact ih _ _ _ d
    · simp only [if_neg c43, if_neg c100, if_neg c110]
      by_cases s1 : (pS t n c i).1 = true
      · simp only [if_pos s1]
        exact ih _ _ _ (pS_1 s1)
      · simp only [if_neg s1]; exact h
theorem pR_le {i : Nat} {F : Nat → Int32} (h : i ≤ n) : (pR t n i F).2.1 ≤ n := by
  unfold pR
  by_cases a : i < n ∧ (pat (t i)).length ≠ 0
  · rw [if_pos a]; exact pO_le _ _ _ _ a.1
  · rw [if_neg a]; exact h
theorem pR_side {i : Nat} {F : Nat → Int32} (h : (pR t n i F).1 = true) (h98 : t i = 98) : (pR t n i F).2.2 4 = 0 ∨ (pR t n i F).2.2 4 = 1 := by
  have a := pR_ok h
  unfold pR at h ⊢
  rw [if_pos a] at h ⊢
  exact pO_side (pat (t i)) 0 (i + 1) F (wfo_all _ (by omega)) (Or.inl (by rw [h98]; decide)) h
theorem pA_len : ∀ g i, (pA t n g i).2.2.length ≤ g := by
  intro g
  induction g with
  | zero => intro i; exact Nat.le_refl _
  | succ g ih =>
    intro i
    unfold pA
    by_cases ok : (pR t n i (fun _ => 0)).1 = true
    · simp only [if_pos ok]
      by_cases e : (pR t n i (fun _ => 0)).2.1 = n
      · simp only [if_pos e]
        exact Nat.succ_le_succ (Nat.zero_le _)
      · by_cases s1 : (pS t n 59 (pR t n i (fun _ => 0)).2.1).1 = true
        · simp only [if_neg e, if_pos s1]
          exact Nat.succ_le_succ (ih _)
        · simp only [if_neg e, if_neg s1]
          exact Nat.succ_le_succ (Nat.zero_le _)
    · simp only [if_neg ok]
      exact Nat.zero_le _
/-- what the orders leave alone -/
def FRS (X X1 : Nat → Int32) (A A1 : Nat → Nat → Int32) (Y Y1 : Nat → Int32) (B B1 : Nat → Nat → Int32) : Prop := FC X X1 ∧ FA A A1 ∧ (∀ j, j ≠ 10 → j ≠ 11 → j ≠ 13 → j ≠ 16 → j ≠ 17 → Y1 j = Y j) ∧ (∀ j, j ≠ 0 → j ≠ 6 → j ≠ 7 → B1 j = B j)
/-- the end of both loops -/
def RUN (G : Nat → gM) (k : Nat) (X : Nat → Int32) (A : Nat → Nat → Int32) (Y : Nat → Int32) (B : Nat → Nat → Int32) (z : Int32 × gM × (Nat → Int32) × (Nat → Nat → Int32)) (w : Int32 × Int32 × Int32 × Int32 × (Nat → Int32) × (Nat → Nat → Int32)) : Prop :=
  (∃ M1 X1 A1, z = (nI k, M1, X1, A1) ∧ w.2.1 = nI k ∧ w.2.2.1 = 0 ∧ GR M1 (w.2.2.2.2.2 0) ∧ RS X1 A1 w.2.2.2.2.1 w.2.2.2.2.2 ∧ FRS X X1 A A1 Y w.2.2.2.2.1 B w.2.2.2.2.2) ∨
  (∃ M1 X1 A1 m c, m < 30 ∧ z = ((f_X7_refuseScript (f_X3_putBack G M1 X1 A1) X1 A1 (nI m) c).1, f_X3_putBack G M1 X1 A1, (f_X7_refuseScript (f_X3_putBack G M1 X1 A1) X1 A1 (nI m) c).2.1, (f_X7_refuseScript (f_X3_putBack G M1 X1 A1) X1 A1 (nI m) c).2.2) ∧ w.2.1 = nI m ∧ w.2.2.1 = c ∧ (c = -1 ∨ c = -2 ∨ (c = -3 ∧ RSd X1 2)) ∧ RS X1 A1 w.2.2.2.2.1 w.2.2.2.2.2 ∧ FRS X X1 A A1 Y w.2.2.2.2.1 B w.2.2.2.2.2)
theorem run_l : ∀ g k i f1 f2 is no M X A Y B, g + k = 31 → 2 * k ≤ i → g ≤ f1 → g + 1 < f2 → RT X A Y B t n → i ≤ n → Y 10 = nI i → (pA t n g i).1 = true → X 4 = nI (k + (pA t n g i).2.2.length) → RS X A Y B → GR M (B 0) →
    (∀ m, m < (pA t n g i).2.2.length → (pR t n ((pA t n g i).2.2.getD m 0) (fun _ => 0)).1 = true ∧ A 0 (k + m) = nI (t ((pA t n g i).2.2.getD m 0)) ∧ ∀ j, j < kc (pat (t ((pA t n g i).2.2.getD m 0))) → A 1 (5 * (k + m) + j) = (pR t n ((pA t n g i).2.2.getD m 0) (fun _ => 0)).2.2 j) →
    RUN G (k + (pA t n g i).2.2.length) X A Y B (f_X7_carryOutOrders_l2 G f1 k M X A) (f_X8_script_l86 f2 is (nI k) no 1 Y B) := by
  intro g
  induction g with
  | zero =>
    intro k i f1 f2 is no M X A Y B hg hi2 hf1 hf2 h hi ei ok x4 hS hG hL
    have := h.1
    omega
  | succ g ih =>
    intro k i f1 f2 is no M X A Y B hg hi2 hf1 hf2 h hi ei ok x4 hS hG hL
    have h0 := h
    obtain ⟨hn, e7, e9, hj⟩ := h
    obtain ⟨f1, rfl⟩ : ∃ g, f1 = g + 1 := ⟨f1 - 1, by omega⟩
    obtain ⟨f2, rfl⟩ : ∃ g, f2 = g + 1 := ⟨f2 - 1, by omega⟩
    by_cases okR : (pR t n i (fun _ => 0)).1 = true
    rotate_left
    · unfold pA at ok
      rw [if_neg okR] at ok
      exact absurd ok Bool.false_ne_true
    obtain ⟨hin, hpat⟩ := pR_ok okR
    have ge := pR_ge okR
    have le1 := pR_le (t := t) (n := n) (F := fun _ => 0) hi
    obtain ⟨hcc, hdc⟩ := pat_c hpat
    have first : ∃ L, (pA t n (g + 1) i).2.2 = i :: L := by
      unfold pA
      simp only [if_pos okR]
      by_cases e : (pR t n i (fun _ => 0)).2.1 = n
      · simp only [if_pos e]; exact ⟨_, rfl⟩
      · by_cases s1 : (pS t n 59 (pR t n i (fun _ => 0)).2.1).1 = true
        · simp only [if_neg e, if_pos s1]; exact ⟨_, rfl⟩
        · simp only [if_neg e, if_neg s1]; exact ⟨_, rfl⟩
    obtain ⟨L, eL⟩ := first
    rw [eL] at x4 hL ⊢
    have hlen : (i :: L).length = L.length + 1 := List.length_cons
    rw [hlen] at x4 hL ⊢
    have hL0 := hL 0 (by omega)
    obtain ⟨-, hA0, hA1⟩ := hL0
    change A 0 k = nI (t i) at hA0
    change ∀ j, j < kc (pat (t i)) → A 1 (5 * k + j) = (pR t n i (fun _ => 0)).2.2 j at hA1
    -- the reference reads it again
    have pf := pR_F (t := t) (n := n) i (fun j => B 6 j) (fun _ => 0)
    obtain ⟨a1, a2, a3, a4, a5, a6, a7⟩ := rf_order (F := fun j => B 6 j) h0 hi ei (fun _ _ => rfl)
    have okF := pf.1.trans okR
    rw [pf.1] at a1
    rw [pf.2.1] at a2
    unfold f_X7_carryOutOrders_l2 f_X8_script_l86
    simp only [bd_x]
    have hlg : L.length ≤ g := by
      have := pA_len (t := t) (n := n) (g + 1) i
      rw [eL, hlen] at this
      omega
    rw [if_neg (show ¬ (1 : Int32) = 0 by decide), if_neg (show ¬ X 4 ≤ nI k by rw [x4]; exact nI_ge (by omega) (by omega))]
    generalize f_X8_isOrder Y B = z at a1 a2 a3 a4 a5 a6 a7 ⊢
    have hS2 : RS X A z.2.1 z.2.2 := hS.keep (a3 16 (by decide) (by decide) (by decide)) (a4 7 (by decide))
    have hG2 : GR M (z.2.2 0) := by rw [a4 0 (by decide)]; exact hG
    have op := R_carry (k := k) (c := t i) hS2 hG2 (by omega) hcc hA0 (a6 okF) (fun j hj => by
      have d4 : dc (t i) ≤ 4 := by
        rcases hcc with e | e | e | e | e | e | e | e <;> rw [e] <;> decide
      rw [a5 j (by omega), hA1 j (by omega)]
      exact pf.2.2 okF j (by omega)) (fun e98 => by
      have k98 : 4 < kc (pat (t i)) := by rw [e98]; decide
      have e4 : (pR t n i (fun j => B 6 j)).2.2 4 = A 1 (5 * k + 4) := by rw [hA1 4 k98]; exact pf.2.2 okF 4 k98
      refine ⟨(a7 okF e98).trans e4, ?_⟩
      have := pR_side okF e98
      rw [e4] at this
      exact this)
    generalize f_X7_carryOut M X A (nI k) = v at op ⊢
    generalize f_X8_carries z.2.1 z.2.2 = w at op ⊢
    obtain ⟨oX, oA, oY, oB, oS, oG, oc⟩ := op
    have w10 : w.2.1 10 = nI (pR t n i (fun _ => 0)).2.1 := (oY 10 (by decide) (by decide)).trans a2
    have w9 : w.2.1 9 = nI n := (oY 9 (by decide) (by decide)).trans ((a3 9 (by decide) (by decide) (by decide)).trans e9)
    have wY : ∀ j, j ≠ 10 → j ≠ 11 → j ≠ 13 → j ≠ 16 → j ≠ 17 → w.2.1 j = Y j := fun j x1 x2 x3 x4 x5 => (oY j x4 x5).trans (a3 j x1 x2 x3)
    have wB : ∀ j, j ≠ 0 → j ≠ 6 → j ≠ 7 → w.2.2 j = B j := fun j x1 x2 x3 => (oB j x1 x3).trans (a4 j x2)
    have rt : RT v.2.2.1 v.2.2.2 w.2.1 w.2.2 t n := ⟨hn, (oX 7 (by decide)).trans e7, w9, fun j hjn => by rw [oA 4 (by decide) (by decide), wB 5 (by decide) (by decide) (by decide)]; exact hj j hjn⟩
    rcases oc with ⟨w0, -, c1, c2, c3⟩ | ⟨w1, hcd⟩
    · rw [w0, code_0 ⟨c1, c2, c3⟩]
      simp only [if_pos]
      rw [rf_sign rt (c := 59) (p := 59) le1 (by decide) w10 rfl, nI_1]
      unfold pA at ok eL
      simp only [if_pos okR] at ok eL
      generalize (pR t n i (fun _ => 0)).2.1 = i1 at ok eL ge le1 w10 ⊢
      by_cases e : i1 = n
      · simp only [if_pos e] at ok eL
        have eLn : L = [] := (List.cons.inj eL).2.symm
        subst eLn
        have ns : ¬ (pS t n 59 i1).1 = true := fun q => by
          have := pS_1 q
          omega
        simp only [if_neg ns, if_pos]
        rw [l86_0 (by omega)]
        obtain ⟨f1, rfl⟩ : ∃ g, f1 = g + 1 := ⟨f1 - 1, by omega⟩
        unfold f_X7_carryOutOrders_l2
        rw [if_pos (show v.2.2.1 4 ≤ nI (k + 1) by rw [oX 4 (by decide), x4]; exact Int32.le_refl _), oX 4 (by decide), x4]
        exact Or.inl ⟨v.2.1, v.2.2.1, v.2.2.2, rfl, rfl, rfl, oG, oS, oX, oA, wY, wB⟩
      · simp only [if_neg e] at ok eL
        by_cases s1 : (pS t n 59 i1).1 = true
        · simp only [if_pos s1] at ok eL
          have eLn : L = (pA t n g (i1 + 1)).2.2 := (List.cons.inj eL).2.symm
          subst eLn
          simp only [if_pos s1, if_neg (show ¬ (1 : Int32) = 0 by decide)]
          have r := ih (k + 1) (i1 + 1) f1 f2 z.1 0 v.2.1 v.2.2.1 v.2.2.2 (upd w.2.1 10 (nI (i1 + 1))) w.2.2 (by omega) (by omega) (by omega) (by omega) ⟨hn, rt.2.1, (upd_ne _ _ (by decide)).trans w9, rt.2.2.2⟩ (pS_1 s1) (upd_eq _ _ _) ok (by rw [oX 4 (by decide), x4, show k + ((pA t n g (i1 + 1)).2.2.length + 1) = k + 1 + (pA t n g (i1 + 1)).2.2.length by omega]) (oS.keep (upd_ne _ _ (by decide)) rfl) oG (fun m hm => by
            have := hL (m + 1) (by omega)
            rw [show k + (m + 1) = k + 1 + m by omega] at this
            rw [oA 0 (by decide) (by decide), oA 1 (by decide) (by decide)]
            exact this)
          rw [show k + ((pA t n g (i1 + 1)).2.2.length + 1) = k + 1 + (pA t n g (i1 + 1)).2.2.length by omega]
          have fr : ∀ X1 A1 Y1 B1, FRS v.2.2.1 X1 v.2.2.2 A1 (upd w.2.1 10 (nI (i1 + 1))) Y1 w.2.2 B1 → FRS X X1 A A1 Y Y1 B B1 := fun X1 A1 Y1 B1 q => ⟨fun j x => (q.1 j x).trans (oX j x), fun j x y => (q.2.1 j x y).trans (oA j x y), fun j x1 x2 x3 x4 x5 => (q.2.2.1 j x1 x2 x3 x4 x5).trans ((upd_ne _ _ x1).trans (wY j x1 x2 x3 x4 x5)), fun j x1 x2 x3 => (q.2.2.2 j x1 x2 x3).trans (wB j x1 x2 x3)⟩
          rcases r with ⟨M1, X1, A1, r1, r2, r3, r4, r5, r6⟩ | ⟨M1, X1, A1, m, c, r0, r1, r2, r3, r4, r5, r6⟩
          · exact Or.inl ⟨M1, X1, A1, r1, r2, r3, r4, r5, fr _ _ _ _ r6⟩
          · exact Or.inr ⟨M1, X1, A1, m, c, r0, r1, r2, r3, r4, r5, fr _ _ _ _ r6⟩
        · simp only [if_neg s1] at ok
          exact absurd ok Bool.false_ne_true
    · have zc : v.1 = -1 ∨ v.1 = -2 ∨ v.1 = -3 := hcd.elim Or.inl (fun q => Or.inr (q.elim Or.inl (fun q => Or.inr q.1)))
      rw [w1, code_1 zc, if_neg (show ¬ (1 : Int32) = 0 by decide), if_neg (show ¬ v.1 = 0 by rcases zc with e | e | e <;> rw [e] <;> decide), l86_0 (by omega)]
      exact Or.inr ⟨v.2.1, v.2.2.1, v.2.2.2, k, v.1, by omega, rfl, rfl, rfl, hcd, oS, oX, oA, wY, wB⟩
end RUN

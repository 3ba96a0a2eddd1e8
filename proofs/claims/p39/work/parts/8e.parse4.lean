/-- an order's parts, as the reference reads them -/
def rO : List Nat → Nat → (Nat → Int32) → (Nat → Nat → Int32) → Int32 × (Nat → Int32) × (Nat → Nat → Int32)
  | [], _, Y, B => (1, (Y, B))
  | c :: r, q, Y, B =>
    if c = 43 then
      bd (f_X8_side Y B) fun z => if z.1 = 0 then (0, (z.2, B)) else rO r (q + 1) z.2 B
    else if c = 100 then
      bd (f_X8_digits Y B (nI q) (nI 1)) fun z => if z.1 = 0 then (0, (z.2.1, z.2.2)) else rO r (q + 1) z.2.1 z.2.2
    else if c = 110 then
      bd (f_X8_digits Y B (nI q) (nI 2)) fun z => if z.1 = 0 then (0, (z.2.1, z.2.2)) else rO r (q + 1) z.2.1 z.2.2
    else
      bd (f_X8_isNext Y B (nI c)) fun z => if z.1 = 0 then (0, (z.2, B)) else rO r q z.2 B
def wfo : List Nat → Nat → Bool
  | [], _ => true
  | c :: r, q => decide (c < 1000) && (if c = 43 then decide (q = 4) && wfo r (q + 1) else if c = 100 then decide (q < 4) && wfo r (q + 1) else if c = 110 then decide (q < 4) && wfo r (q + 1) else wfo r q)
section RO
variable {M : gM} {X Y : Nat → Int32} {A B : Nat → Nat → Int32} {t : Nat → Nat} {n : Nat}
theorem rf_order_l : ∀ r q i F Y B, wfo r q = true → i ≤ n → RT X A Y B t n → Y 10 = nI i → (∀ j, j < 4 → B 6 j = F j) →
    (rO r q Y B).1 = (if (pO t n r q i F).1 = true then 1 else 0) ∧ (rO r q Y B).2.1 10 = nI (pO t n r q i F).2.1 ∧ (∀ j, j ≠ 10 → j ≠ 13 → (rO r q Y B).2.1 j = Y j) ∧ (∀ j, j ≠ 6 → (rO r q Y B).2.2 j = B j) ∧ (∀ j, j < 4 → (rO r q Y B).2.2 6 j = (pO t n r q i F).2.2 j) ∧
      ((43 ∈ r ∨ Y 13 = F 4) → (pO t n r q i F).1 = true → (rO r q Y B).2.1 13 = (pO t n r q i F).2.2 4) := by
  intro r
  induction r with
  | nil =>
    intro q i F Y B hw hi h ei hF
    unfold rO pO
    exact ⟨rfl, ei, fun _ _ _ => rfl, fun _ _ => rfl, hF, fun hs _ => hs.elim (fun q => absurd q (List.not_mem_nil)) (fun q => q)⟩
  | cons c r ih =>
    intro q i F Y B hw hi h ei hF
    unfold wfo at hw
    rw [Bool.and_eq_true, decide_eq_true_iff] at hw
    obtain ⟨c1000, hw⟩ := hw
    unfold rO pO
    simp only [bd_x]
    by_cases c43 : c = 43
    · subst c43
      rw [if_pos rfl, Bool.and_eq_true, decide_eq_true_iff] at hw
      obtain ⟨q4, hw⟩ := hw
      subst q4
      rw [rf_side h hi ei]
      have rt : ∀ Y1 : Nat → Int32, (∀ j, j ≠ 10 → j ≠ 13 → Y1 j = Y j) → RT X A Y1 B t n := fun Y1 hY => ⟨h.1, h.2.1, (hY 9 (by decide) (by decide)).trans h.2.2.1, h.2.2.2⟩
      by_cases s1 : (pS t n 43 i).1 = true
      · simp only [if_pos s1, if_neg (show ¬ (1 : Int32) = 0 by decide), if_pos]
        have hY : ∀ j, j ≠ 10 → j ≠ 13 → upd (upd Y 10 (nI (i + 1))) 13 1 j = Y j := fun j a b => (upd_ne _ _ b).trans (upd_ne _ _ a)
        obtain ⟨a1, a2, a3, a4, a5, a6⟩ := ih 5 (i + 1) (upd F 4 1) (upd (upd Y 10 (nI (i + 1))) 13 1) B hw (pS_1 s1) (rt _ hY) ((upd_ne _ _ (by decide)).trans (upd_eq _ _ _)) (fun j hj => (hF j hj).trans (upd_ne _ _ (by omega)).symm)
        exact ⟨a1, a2, fun j x y => (a3 j x y).trans (hY j x y), a4, a5, fun _ => a6 (Or.inr ((upd_eq _ _ _).trans (upd_eq _ _ _).symm))⟩
      · by_cases s2 : (pS t n 45 i).1 = true
        · simp only [if_neg s1, if_pos s2, if_neg (show ¬ (1 : Int32) = 0 by decide), if_pos]
          have hY : ∀ j, j ≠ 10 → j ≠ 13 → upd (upd Y 13 0) 10 (nI (i + 1)) j = Y j := fun j a b => (upd_ne _ _ a).trans (upd_ne _ _ b)
          obtain ⟨a1, a2, a3, a4, a5, a6⟩ := ih 5 (i + 1) (upd F 4 0) (upd (upd Y 13 0) 10 (nI (i + 1))) B hw (pS_1 s2) (rt _ hY) (upd_eq _ _ _) (fun j hj => (hF j hj).trans (upd_ne _ _ (by omega)).symm)
          exact ⟨a1, a2, fun j x y => (a3 j x y).trans (hY j x y), a4, a5, fun _ => a6 (Or.inr (((upd_ne _ _ (by decide)).trans (upd_eq _ _ _)).trans (upd_eq _ _ _).symm))⟩
        · simp only [if_neg s1, if_neg s2, if_pos]
          exact ⟨(if_neg Bool.false_ne_true).symm, (upd_ne _ _ (by decide)).trans ei, fun j _ y => upd_ne _ _ y, fun _ _ => trivial, fun j hj => (hF j hj).trans (upd_ne _ _ (by omega)).symm, fun _ q => absurd q Bool.false_ne_true⟩
    have mem : 43 ∈ c :: r ↔ 43 ∈ r := by
      rw [List.mem_cons]
      exact ⟨fun q => q.elim (fun e => absurd e.symm c43) (fun x => x), Or.inr⟩
    rw [mem]
    rw [if_neg c43] at hw
    -- digits
    have dig : ∀ m, m = 1 ∨ m = 2 → q < 4 → wfo r (q + 1) = true → ∃ z, f_X8_digits Y B (nI q) (nI m) = z ∧ z.1 = (if (pD t n m 0 i).1 = 0 then 0 else 1) ∧ z.2.1 10 = nI (pD t n m 0 i).2.2 ∧ (∀ j, j ≠ 10 → z.2.1 j = Y j) ∧ (∀ j, j ≠ 6 → z.2.2 j = B j) ∧ (∀ j, j < 4 → z.2.2 6 j = upd F q (nI (pD t n m 0 i).2.1) j) ∧ RT X A z.2.1 z.2.2 t n := fun m hm q4 hw2 => by
      obtain ⟨Y1, B1, d1, d2, d3, d4, d5, d6⟩ := rf_dig h hm hi ei (show q < 5 by omega)
      refine ⟨_, d1, rfl, d2, d3, d5, fun j hj => ?_, h.1, h.2.1, (d3 9 (by decide)).trans h.2.2.1, fun j hj => by
        dsimp only
        rw [d5 5 (by decide)]; exact h.2.2.2 j hj⟩
      by_cases e : j = q
      · rw [e, upd_eq]; exact d4
      · rw [upd_ne _ _ e]; exact (d6 j e).trans (hF j hj)
    by_cases c100 : c = 100
    · subst c100
      rw [if_pos rfl, Bool.and_eq_true, decide_eq_true_iff] at hw
      obtain ⟨z, d0, d1, d2, d3, d4, d5, d6⟩ := dig 1 (Or.inl rfl) hw.1 hw.2
      rw [d0, d1]
      have dl := pD_le (t := t) (n := n) 1 0 i hi
      by_cases s1 : (pD t n 1 0 i).1 = 0
      · simp only [if_neg c43, if_pos s1, if_pos]
        exact ⟨(if_neg Bool.false_ne_true).symm, d2, fun j x _ => d3 j x, d4, d5, fun _ q => absurd q Bool.false_ne_true⟩
      · simp only [if_neg c43, if_neg s1, if_neg (show ¬ (1 : Int32) = 0 by decide), if_pos]
        obtain ⟨a1, a2, a3, a4, a5, a6⟩ := ih (q + 1) _ (upd F q (nI (pD t n 1 0 i).2.1)) z.2.1 z.2.2 hw.2 dl d6 d2 d5
        exact ⟨a1, a2, fun j x y => (a3 j x y).trans (d3 j x), fun j x => (a4 j x).trans (d4 j x), a5, fun hs => a6 (hs.imp (fun x => x) (fun x => (d3 13 (by decide)).trans (x.trans (upd_ne _ _ (by omega)).symm)))⟩
    by_cases c110 : c = 110
    · subst c110
      rw [if_neg c100, if_pos rfl, Bool.and_eq_true, decide_eq_true_iff] at hw
      obtain ⟨z, d0, d1, d2, d3, d4, d5, d6⟩ := dig 2 (Or.inr rfl) hw.1 hw.2
      rw [d0, d1]
      have dl := pD_le (t := t) (n := n) 2 0 i hi
      by_cases s1 : (pD t n 2 0 i).1 = 0
      · simp only [if_neg c43, if_neg c100, if_pos s1, if_pos]
        exact ⟨(if_neg Bool.false_ne_true).symm, d2, fun j x _ => d3 j x, d4, d5, fun _ q => absurd q Bool.false_ne_true⟩
      · simp only [if_neg c43, if_neg c100, if_neg s1, if_neg (show ¬ (1 : Int32) = 0 by decide), if_pos]
        obtain ⟨a1, a2, a3, a4, a5, a6⟩ := ih (q + 1) _ (upd F q (nI (pD t n 2 0 i).2.1)) z.2.1 z.2.2 hw.2 dl d6 d2 d5
        exact ⟨a1, a2, fun j x y => (a3 j x y).trans (d3 j x), fun j x => (a4 j x).trans (d4 j x), a5, fun hs => a6 (hs.imp (fun x => x) (fun x => (d3 13 (by decide)).trans (x.trans (upd_ne _ _ (by omega)).symm)))⟩
    rw [if_neg c100, if_neg c110] at hw
    rw [rf_sign h (c := c) hi c1000 ei rfl]
    by_cases s1 : (pS t n c i).1 = true
    · simp only [if_neg c43, if_neg c100, if_neg c110, if_pos s1, if_neg (show ¬ (1 : Int32) = 0 by decide), if_pos]
      obtain ⟨a1, a2, a3, a4, a5, a6⟩ := ih q (i + 1) F (upd Y 10 (nI (i + 1))) B hw (pS_1 s1) ⟨h.1, h.2.1, (upd_ne _ _ (by decide)).trans h.2.2.1, h.2.2.2⟩ (upd_eq _ _ _) hF
      exact ⟨a1, a2, fun j x y => (a3 j x y).trans (upd_ne _ _ x), a4, a5, fun hs => a6 (hs.imp (fun x => x) (fun x => (upd_ne _ _ (by decide)).trans x))⟩
    · simp only [if_neg c43, if_neg c100, if_neg c110, if_neg s1, if_pos]
      exact ⟨(if_neg Bool.false_ne_true).symm, ei, fun _ _ _ => trivial, fun _ _ => trivial, hF, fun _ q => absurd q Bool.false_ne_true⟩
end RO

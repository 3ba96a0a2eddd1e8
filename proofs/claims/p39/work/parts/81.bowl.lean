/-! ===== pure: a wood is bowled ===== -/
section OP5
variable {M N : gM} {f g : Nat → Int32} {X Y : Nat → Int32} {A B : Nat → Nat → Int32}
theorem cnt_one {P Q : Nat → Bool} {w : Nat} : ∀ n, (∀ j, j < n → j ≠ w → P j = Q j) → P w = true → Q w = false → (w < n → cnt P n = cnt Q n + 1) ∧ (n ≤ w → cnt P n = cnt Q n) := by
  intro n
  induction n with
  | zero => intro _ _ _; exact ⟨fun h => absurd h (Nat.not_lt_zero _), fun _ => rfl⟩
  | succ n ih =>
    intro h hp hq
    obtain ⟨i1, i2⟩ := ih (fun j hj hn => h j (by omega) hn) hp hq
    refine ⟨fun hw => ?_, fun hw => ?_⟩
    · show cnt P n + (P n).toNat = cnt Q n + (Q n).toNat + 1
      by_cases e : n = w
      · subst e
        rw [hp, hq, i2 (Nat.le_refl _)]
        rfl
      · rw [h n (by omega) e, i1 (by omega)]; omega
    · show cnt P n + (P n).toNat = cnt Q n + (Q n).toNat
      rw [i2 (by omega), h n (by omega) (by omega)]
theorem bowled_one {w : Nat} (h4 : N.1 4 = M.1 4) (hw : w < 16) (hc : ¬ M.1 4 ≤ nI w) (ho : ∀ j, j ≠ w → N.2.2.1 j = M.2.2.1 j) (h7 : N.2.2.1 w 7 = M.2.2.1 w 7 + 1) : ∀ n k (a b : Int32), n + k = 17 → (k ≤ w ∧ b = a ∨ w < k ∧ b = a + 1) → f_X1_woodsBowled_l4 N n k b = f_X1_woodsBowled_l4 M n k a + 1 := by
  intro n
  induction n with
  | zero =>
    intro k a b hk h
    rcases h with h | h
    · omega
    · exact h.2
  | succ n ih =>
    intro k a b hk h
    unfold f_X1_woodsBowled_l4
    rw [h4]
    by_cases c : M.1 4 ≤ nI k
    · rw [if_pos c, if_pos c]
      rcases h with h | h
      · exact absurd (le_mono c h.1 (by omega)) hc
      · exact h.2
    · rw [if_neg c, if_neg c]
      refine ih (k + 1) _ _ (by omega) ?_
      rcases h with ⟨h1, h2⟩ | ⟨h1, h2⟩
      · by_cases e : k = w
        · refine Or.inr ⟨by omega, ?_⟩
          rw [e, h7, h2, Int32.add_assoc]
        · exact Or.inl ⟨by omega, by rw [ho k e, h2]⟩
      · refine Or.inr ⟨by omega, ?_⟩
        rw [ho k (by omega), h2, Int32.add_assoc, Int32.add_comm 1, ← Int32.add_assoc]
theorem GR.bowl {M1 : gM} {r w c b : Nat} {t st : Int32} (h : GR M f) (hr : r < 4) (hrc : ¬ M.1 3 ≤ nI r) (hw : w < 16) (hwc : ¬ M.1 4 ≤ nI w) (hj : M.2.1 r 4 ≠ 0) (h0 : M.2.2.1 w 2 = 0) (hc : c < 2) (ec : M.2.2.1 w 0 = nI c) (hb : b < 4) (eb : M.2.1 r (8 + c) = nI b) (ht : vp_in t 2)
    (h1 : M1.1 = M.1) (h3 : M1.2.2.2 = M.2.2.2) (hro : ∀ q, q ≠ r → M1.2.1 q = M.2.1 q) (hrr : M1.2.1 r = upd (upd (M.2.1 r) (8 + c) (nI (b + 1))) 6 t) (hwo : ∀ q, q ≠ w → M1.2.2.1 q = M.2.2.1 q)
    (w0 : M1.2.2.1 w 0 = M.2.2.1 w 0) (w1 : M1.2.2.1 w 1 = M.2.2.1 w 1) (w2 : M1.2.2.1 w 2 = st) (w3 : M1.2.2.1 w 3 = nI r) (w7 : M1.2.2.1 w 7 = M.2.2.1 w 7 + 1)
    (hst : (st = 2 ∧ M1.2.2.1 w 6 = M.2.2.1 w 6) ∨ (st = 1 ∧ ∃ i j, i < 30 ∧ j ≤ 40 ∧ M1.2.2.1 w 4 = nI i ∧ M1.2.2.1 w 5 = nI j ∧ M1.2.2.1 w 6 = f_X5_distance M r (nI i) (nI j) ∧ g (57 + 7 * w + 4) = nI i ∧ g (57 + 7 * w + 5) = nI j))
    (hf : ∀ k, k < 169 → k ≠ 5 → k ≠ 17 + 10 * r + 5 → k ≠ 17 + 10 * r + 7 + c → ¬ (57 + 7 * w + 2 ≤ k ∧ k ≤ 57 + 7 * w + 6) → g k = f k)
    (g5 : g 5 = f 5 + 1) (gt : g (17 + 10 * r + 5) = t) (gb : g (17 + 10 * r + 7 + c) = nI (b + 1)) (g2 : g (57 + 7 * w + 2) = st) (g3 : g (57 + 7 * w + 3) = nI r) (g6 : g (57 + 7 * w + 6) = f (57 + 7 * w + 6) + 1) : GR M1 g := by
  have hRR := h.r (by omega) hrc
  have hWW := h.w (by omega) hwc
  have k1 : ∀ j, j ≠ 6 → j ≠ 8 + c → M1.2.1 r j = M.2.1 r j := fun j a b => by rw [hrr, upd_ne _ _ a, upd_ne _ _ b]
  have k6 : M1.2.1 r 6 = t := by rw [hrr, upd_eq]
  have k8 : M1.2.1 r (8 + c) = nI (b + 1) := by rw [hrr, upd_ne _ _ (by omega), upd_eq]
  have hA : GR (M.1, M1.2.1, M.2.2) (fun k => if 17 ≤ k ∧ k < 57 then g k else f k) := by
    refine h.rink hr rfl rfl (fun q hq => hro q hq) (fun k hk hn => ?_) ?_ (k1 0 (by decide) (by omega)) (k1 1 (by decide) (by omega)) (Or.inl (k1 4 (by decide) (by omega))) (fun d hd => ?_)
    · by_cases e : 17 ≤ k ∧ k < 57
      · show (if 17 ≤ k ∧ k < 57 then g k else f k) = f k
        rw [if_pos e]; exact hf k hk (by omega) (by omega) (by omega) (by omega)
      · show (if 17 ≤ k ∧ k < 57 then g k else f k) = f k
        rw [if_neg e]
    · have ff : ∀ j, j < 10 → (if 17 ≤ 17 + 10 * r + j ∧ 17 + 10 * r + j < 57 then g (17 + 10 * r + j) else f (17 + 10 * r + j)) = g (17 + 10 * r + j) := fun j hj => if_pos ⟨by omega, by omega⟩
      have fo : ∀ j, j < 10 → j ≠ 5 → j ≠ 7 + c → g (17 + 10 * r + j) = f (17 + 10 * r + j) := fun j hj a b => hf _ (by omega) (by omega) (by omega) (by omega) (by omega)
      obtain ⟨⟨y0, y1, y2, y3, y4, y5, y6, y7, y8, y9⟩, v0, v1, v2, v3, v4, v5, v6, v7, v8⟩ := hRR
      unfold RR
      simp only [ff 0 (by decide), ff 1 (by decide), ff 2 (by decide), ff 3 (by decide), ff 4 (by decide), ff 5 (by decide), ff 6 (by decide), ff 7 (by decide), ff 8 (by decide), ff 9 (by decide)]
      refine ⟨⟨?_, ?_, ?_, ?_, ?_, ?_, ?_, ?_, ?_, ?_⟩, ?_, ?_, ?_, ?_, ?_, ?_, ?_, ?_, ?_⟩
      · rw [fo 0 (by decide) (by decide) (by omega), k1 0 (by decide) (by omega)]; exact y0
      · rw [fo 1 (by decide) (by decide) (by omega), k1 1 (by decide) (by omega)]; exact y1
      · rw [fo 2 (by decide) (by decide) (by omega), k1 2 (by decide) (by omega)]; exact y2
      · rw [fo 3 (by decide) (by decide) (by omega), k1 3 (by decide) (by omega)]; exact y3
      · rw [fo 4 (by decide) (by decide) (by omega), k1 4 (by decide) (by omega)]; exact y4
      · rw [k6]; exact gt
      · rw [fo 6 (by decide) (by decide) (by omega), k1 5 (by decide) (by omega)]; exact y6
      · rcases (show c = 0 ∨ c = 1 by omega) with rfl | rfl
        · exact gb.trans k8.symm
        · rw [fo 7 (by decide) (by decide) (by omega), k1 8 (by decide) (by omega)]; exact y7
      · rcases (show c = 0 ∨ c = 1 by omega) with rfl | rfl
        · rw [fo 8 (by decide) (by decide) (by omega), k1 9 (by decide) (by omega)]; exact y8
        · exact gb.trans k8.symm
      · rw [fo 9 (by decide) (by decide) (by omega), k1 7 (by decide) (by omega)]; exact y9
      · show vp_in (M1.2.1 r 0) 30
        rw [k1 0 (by decide) (by omega)]; exact v0
      · show vp_in (M1.2.1 r 1) 30
        rw [k1 1 (by decide) (by omega)]; exact v1
      · show vp_in (M1.2.1 r 2) 21
        rw [k1 2 (by decide) (by omega)]; exact v2
      · show vp_in (M1.2.1 r 3) 10
        rw [k1 3 (by decide) (by omega)]; exact v3
      · show vp_in (M1.2.1 r 4) 41
        rw [k1 4 (by decide) (by omega)]; exact v4
      · show vp_in (M1.2.1 r 5) 2
        rw [k1 5 (by decide) (by omega)]; exact v5
      · show vp_in (M1.2.1 r 6) 2
        rw [k6]; exact ht
      · show vp_in (M1.2.1 r 8) 5
        rcases (show c = 0 ∨ c = 1 by omega) with rfl | rfl
        · rw [show M1.2.1 r 8 = nI (b + 1) from k8]; exact vp_in_nI (by omega) (by decide)
        · rw [k1 8 (by decide) (by decide)]; exact v7
      · show vp_in (M1.2.1 r 9) 5
        rcases (show c = 0 ∨ c = 1 by omega) with rfl | rfl
        · rw [k1 9 (by decide) (by decide)]; exact v8
        · rw [show M1.2.1 r 9 = nI (b + 1) from k8]; exact vp_in_nI (by omega) (by decide)
    · have old := h.2.2.2.2.2 r hr hrc d hd
      show _ ≤ (M1.2.1 r (8 + d)).toNatClampNeg
      by_cases e : d = c
      · subst e
        rw [eb, nI_clamp (by omega)] at old
        rw [k8, nI_clamp (by omega)]; omega
      · rw [k1 (8 + d) (by omega) (by omega)]; exact old
  have dc : ∀ q, q < 4 → ∀ a b, f_X5_distance M1 q a b = f_X5_distance M q a b := fun q _ a b => by
    by_cases e : q = r
    · subst e
      exact dist_congr (k1 0 (by decide) (by omega)) (k1 1 (by decide) (by omega)) (k1 4 (by decide) (by omega)) a b
    · exact dist_congr (congrFun (hro q e) 0) (congrFun (hro q e) 1) (congrFun (hro q e) 4) a b
  have j4 : ∀ q, M1.2.1 q 4 = M.2.1 q 4 := fun q => by
    by_cases e : q = r
    · subst e; exact k1 4 (by decide) (by omega)
    · exact congrFun (hro q e) 4
  refine hA.woods h1 rfl h3 (fun k hk h5 => ?_) ?_ (fun v hv hvc => ?_) (fun q hq hqc d hd => ?_)
  · show g k = (if 17 ≤ k ∧ k < 57 then g k else f k)
    by_cases e : 17 ≤ k ∧ k < 57
    · rw [if_pos e]
    · rw [if_neg e]; exact hf k (by omega) h5 (by omega) (by omega) (by omega)
  · rw [g5, h.1.2.2.2.2.2.1]
    unfold f_X1_woodsBowled
    simp only [bd_x]
    exact (bowled_one (congrFun h1 4) hw hwc hwo w7 17 0 0 0 rfl (Or.inl ⟨Nat.zero_le _, rfl⟩)).symm
  · change ¬ M.1 4 ≤ nI v at hvc
    by_cases e : v = w
    · subst e
      obtain ⟨⟨y0, y1, y2, y3, y4, y5⟩, ⟨v0, v1, v2, v3⟩, -, -⟩ := hWW
      have st3 : vp_in st 3 ∧ st ≠ 0 := by
        rcases hst with ⟨e, -⟩ | ⟨e, -⟩ <;> rw [e]
        · exact ⟨vp_in_nI (n := 2) (by decide) (by decide), by decide⟩
        · exact ⟨vp_in_nI (n := 1) (by decide) (by decide), by decide⟩
      refine ⟨⟨?_, ?_, ?_, fun _ => ?_, fun q => ?_, ?_⟩, ⟨?_, ?_, ?_, ?_⟩, fun _ => ⟨r, w3, hr, ?_, ?_⟩, fun q => ?_⟩
      · rw [w0, hf _ (by omega) (by omega) (by omega) (by omega) (by omega)]; exact y0
      · rw [w1, hf _ (by omega) (by omega) (by omega) (by omega) (by omega)]; exact y1
      · rw [w2, g2]
      · rw [w3, g3]
      · rcases hst with ⟨e, -⟩ | ⟨-, i, j, -, -, e4, e5, -, f4, f5⟩
        · rw [w2, e] at q; exact absurd q (by decide)
        · exact ⟨f4.trans e4.symm, f5.trans e5.symm⟩
      · rw [w7, g6, y5]
      · rw [w0]; exact v0
      · rw [w1]; exact v1
      · rw [w2]; exact st3.1
      · rcases hst with ⟨-, e⟩ | ⟨-, i, j, hi, hj2, e4, e5, e6, -, -⟩
        · rw [e]; exact v3
        · rw [e6]; exact dist_in hRR.2.1 hRR.2.2.1 hRR.2.2.2.2.2.1 hi hj2
      · rw [h1]; exact hrc
      · rw [j4]; exact hj
      · rcases hst with ⟨e, -⟩ | ⟨-, i, j, hi, hj2, e4, e5, e6, -, -⟩
        · rw [w2, e] at q; exact absurd q (by decide)
        · rw [e4, e5, e6, w3, nI_clamp (by omega), dc r hr]
          exact ⟨vp_in_nI (by omega) (by decide), vp_in_nI (by omega) (by decide), rfl⟩
    · obtain ⟨y1, y2, y3, y4⟩ := h.w (by omega) hvc
      have ev := hwo v e
      have fo : ∀ j, j < 7 → g (57 + 7 * v + j) = f (57 + 7 * v + j) := fun j hj => hf _ (by omega) (by omega) (by omega) (by omega) (by omega)
      unfold WW
      rw [ev, fo 0 (by decide), fo 1 (by decide), fo 2 (by decide), fo 3 (by decide), fo 4 (by decide), fo 5 (by decide), fo 6 (by decide), h1]
      refine ⟨y1, y2, fun q => ?_, fun q => ?_⟩
      · obtain ⟨p, a1, a2, a3, a4⟩ := y3 q
        exact ⟨p, a1, a2, a3, by rw [j4]; exact a4⟩
      · obtain ⟨z1, z2, z3⟩ := y4 q
        obtain ⟨p, a1, a2, a3, -⟩ := y3 (one_ne q)
        refine ⟨z1, z2, z3.trans ?_⟩
        rw [a1, nI_clamp (by omega)]
        exact (dc p a2 _ _).symm
  · change ¬ M.1 3 ≤ nI q at hqc
    show cnt (onR M1 q d) 16 ≤ (M1.2.1 q (8 + d)).toNatClampNeg
    have old := h.2.2.2.2.2 q hq hqc d hd
    have oth : ∀ v, v < 16 → v ≠ w → onR M1 q d v = onR M q d v := fun v _ hv => onR_congr (congrFun h1 4) (fun _ j _ => congrFun (hwo v hv) j)
    have nw : onR M q d w = false := by
      unfold onR
      rw [decide_eq_false_iff_not]
      intro x
      exact x.2.1 h0
    by_cases e : q = r ∧ d = c
    · obtain ⟨rfl, rfl⟩ := e
      have yw : onR M1 q d w = true := by
        unfold onR
        rw [decide_eq_true_iff, h1, w0, w2, w3]
        refine ⟨hwc, ?_, rfl, ec⟩
        rcases hst with ⟨e, -⟩ | ⟨e, -⟩ <;> rw [e] <;> decide
      rw [(cnt_one (w := w) 16 oth yw nw).1 hw, k8, nI_clamp (by omega)]
      rw [eb, nI_clamp (by omega)] at old
      omega
    · have nn : onR M1 q d w = false := by
        unfold onR
        rw [decide_eq_false_iff_not]
        intro x
        have x1 := x.2.2.1
        have x2 := x.2.2.2
        rw [w3] at x1
        rw [w0, ec] at x2
        exact e ⟨((nI_eq (by omega) (by omega)).mp x1).symm, ((nI_eq (by omega) (by omega)).mp x2).symm⟩
      have ee : cnt (onR M1 q d) 16 = cnt (onR M q d) 16 := cnt_eq_of 16 (fun v hv => by
        by_cases x : v = w
        · rw [x, nn, nw]
        · exact oth v hv x)
      rw [ee]
      by_cases y : q = r
      · subst y
        rw [k1 (8 + d) (by omega) (by omega)]; exact old
      · rw [hro q y]; exact old
end OP5

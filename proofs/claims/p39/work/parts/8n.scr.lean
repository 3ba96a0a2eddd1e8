section SCR
variable {G : Nat → gM} {M N : gM} {X Y X1 Y1 : Nat → Int32} {A B A1 B1 : Nat → Nat → Int32} {t : Nat → Nat} {n : Nat}
/-- a script done: it is kept -/
theorem scr_done (h : RLL G M X A Y B) {p : Int32} (x0 : X1 0 = X 0) (x2 : X1 2 = X 2) (x3 : X1 3 = X 3) (y3 : Y1 3 = Y 3) (y5 : Y1 5 = Y 5) (b1 : B1 1 = f_X8_tries Y B 1) (b2 : B1 2 = B 2) (b3 : B1 3 = B 3) (e1 : X1 1 = Y1 14) (hS : RS X1 A1 Y1 B1) (hG : GR N (B1 0)) :
    (f_X8_keeps Y1 B1 p).1 = p ∧ RLL (f_X3_note G M X A) N (f_X3_keep N X1 A1) A1 (f_X8_keeps Y1 B1 p).2.1 (f_X8_keeps Y1 B1 p).2.2 ∧ (∀ k, k ≠ 2 → k ≠ 3 → f_X3_keep N X1 A1 k = X1 k) ∧ (∀ k, k ≠ 3 → (f_X8_keeps Y1 B1 p).2.1 k = Y1 k) ∧ (∀ k, k ≠ 2 → (f_X8_keeps Y1 B1 p).2.2 k = B1 k) ∧ (MR (B 0) → RMs Y B → RMs (f_X8_keeps Y1 B1 p).2.1 (f_X8_keeps Y1 B1 p).2.2) := by
  obtain ⟨g, s, r, v, -⟩ := h
  obtain ⟨t0, t1, t2⟩ := tries_0 (Y := Y) (B := B)
  have rr : RG G X1 Y1 (B1 2) := by
    rw [b2]; exact r.frame x2 x3 y3
  have hT : GR M (B1 1) := by rw [b1]; exact g.row t2
  obtain ⟨k1, k2, k3, k4, k5⟩ := RG.keep (M := N) (A := A1) (N := M) (G1 := f_X3_note G M X A) (p := p) rr hT (by rw [note_eq, x2])
  refine ⟨k1, ⟨?_, ?_, k4, ?_, ?_⟩, k5, k3, k2, fun hm hs => ?_⟩
  · rw [k2 0 (by decide)]; exact hG
  · exact hS.far (k5 6 (by decide) (by decide)) (fun _ _ => rfl) (k3 16 (by decide)) (k2 7 (by decide))
  · rw [k5 0 (by decide) (by decide), x0, k3 5 (by decide), y5, k2 3 (by decide), b3, note_eq]
    exact saved_note v
  · rw [k5 1 (by decide) (by decide), k3 14 (by decide)]; exact e1
  · refine RMs.keeps (hs.far y3 y5 b2 b3) ?_
    rw [b1]; exact hm.row t2
theorem scr_code (h : RLL G M X A Y B) (x0 : X1 0 = X 0) (x2 : X1 2 = X 2) (x3 : X1 3 = X 3) (y3 : Y1 3 = Y 3) (y5 : Y1 5 = Y 5) (b2 : B1 2 = B 2) (b3 : B1 3 = B 3) (e1 : X1 1 = Y1 14) (hS : RS X1 A1 Y1 B1) (hG : GR N (B1 0)) :
    RLL (f_X3_note G M X A) N X1 A1 Y1 B1 ∧ (RMs Y B → RMs Y1 B1) := by
  obtain ⟨g, s, r, v, -⟩ := h
  refine ⟨⟨hG, hS, ?_, ?_, e1⟩, fun hs => hs.far y3 y5 b2 b3⟩
  · rw [b2, note_eq]
    exact (r.note _).frame x2 x3 y3
  · rw [x0, y5, b3, note_eq]
    exact saved_note v
/-- what a script leaves alone -/
def FSC (X Z : Nat → Int32) (A C : Nat → Nat → Int32) (Y V : Nat → Int32) (B D : Nat → Nat → Int32) : Prop :=
  (Z 8 = X 8 ∧ Z 10 = X 10) ∧ C 5 = A 5 ∧ V 7 = Y 7 ∧ (D 4 = B 4 ∧ D 5 = B 5) ∧ Z 7 = 0 ∧ V 9 = 0
theorem C_script (h : RLL G M X A Y B) (ht : RT X A Y B t n) (f1 : Nat → Int32) :
    (f_X7_script G M X A f1).1 = (f_X8_script Y B).1 ∧ RLL (f_X7_script G M X A f1).2.1 (f_X7_script G M X A f1).2.2.1 (f_X7_script G M X A f1).2.2.2.1 (f_X7_script G M X A f1).2.2.2.2 (f_X8_script Y B).2.1 (f_X8_script Y B).2.2 ∧
    FSC X (f_X7_script G M X A f1).2.2.2.1 A (f_X7_script G M X A f1).2.2.2.2 Y (f_X8_script Y B).2.1 B (f_X8_script Y B).2.2 ∧
    (f_X7_script G M X A f1).2.1 = f_X3_note G M X A ∧ (MR (B 0) → RMs Y B → RMs (f_X8_script Y B).2.1 (f_X8_script Y B).2.2) ∧
    ((f_X8_script Y B).1 = -3 → MR (B 0) → MR ((f_X8_script Y B).2.2 0)) := by
  obtain ⟨t0, t1, t2⟩ := tries_0 (Y := Y) (B := B)
  have hts := ht
  obtain ⟨hn, e7, e9, hj⟩ := ht
  have hX0 : ∀ k, k ≠ 4 → k ≠ 5 → upd (upd X 4 0) 5 0 k = X k := fun k a b => (upd_ne _ _ b).trans (upd_ne _ _ a)
  obtain ⟨a1, a2, a3, a4, -, -, a7⟩ := cl_read (M := M) (t := t) (n := n) (Y := Y) (B := B) 31 0 0 (upd (upd X 4 0) 5 0) A rfl (Nat.zero_le _) ⟨hn, (hX0 7 (by decide) (by decide)).trans e7, e9, hj⟩ (Nat.zero_le _) (upd_eq _ _ _) ((upd_ne _ _ (by decide)).trans (upd_eq _ _ _))
  obtain ⟨c1, c2, c3, c4⟩ := rf_check (X := X) (A := A) (t := t) (n := n) 31 0 0 63 (upd Y 10 0) (f_X8_tries Y B) rfl (Nat.zero_le _) (by decide) ⟨hn, e7, (upd_ne _ _ (by decide)).trans e9, fun j hjn => by rw [t1 5 (by decide)]; exact hj j hjn⟩ (Nat.zero_le _) (upd_eq _ _ _)
  have c3' : ∀ j, j ≠ 10 → j ≠ 11 → j ≠ 13 → (f_X8_script_l14 63 (f_X8_isOrder (upd Y 10 0) (f_X8_tries Y B)).1 (f_X8_isOrder (upd Y 10 0) (f_X8_tries Y B)).2.1 (f_X8_isOrder (upd Y 10 0) (f_X8_tries Y B)).2.2).2.1 j = Y j := fun j x y z => (c3 j x y z).trans (upd_ne _ _ x)
  have a3' : ∀ j, j ≠ 4 → j ≠ 5 → (f_X2_read_l12 M 31 0 (upd (upd X 4 0) 5 0) A).2.1 j = X j := fun j x y => (a3 j x y).trans (hX0 j x y)
  unfold f_X7_script f_X8_script f_X2_read f_X7_keepFault
  simp only [bd_x]
  generalize f_X8_script_l14 63 (f_X8_isOrder (upd Y 10 0) (f_X8_tries Y B)).1 (f_X8_isOrder (upd Y 10 0) (f_X8_tries Y B)).2.1 (f_X8_isOrder (upd Y 10 0) (f_X8_tries Y B)).2.2 = w at c1 c2 c3' c4 ⊢
  generalize f_X2_read_l12 M 31 0 (upd (upd X 4 0) 5 0) A = z at a1 a2 a3' a4 a7 ⊢
  clear a3 c3
  have hS0 := h.2.1
  have hG0 := h.1
  by_cases ok : (pA t n 31 0).1 = true
  · rw [if_pos ok] at a1 c1
    rw [if_neg (show ¬ z.1 = 0 by rw [a1]; decide), if_neg (show ¬ w.1 = 0 by rw [c1]; decide)]
    obtain ⟨x4, hL⟩ := a7 ok
    rw [Nat.zero_add] at x4
    have hS1 : RS z.2.1 z.2.2 (upd w.2.1 10 0) w.2.2 := hS0.far (a3' 6 (by decide) (by decide)) (fun k hk => a4 k (by omega) (by omega)) ((upd_ne _ _ (by decide)).trans (c3' 16 (by decide) (by decide) (by decide))) ((c4 7 (by decide)).trans (t1 7 (by decide)))
    have hG1 : GR M (w.2.2 0) := by rw [c4 0 (by decide), t0]; exact hG0
    have run := run_l (t := t) (n := n) (G := f_X3_note G M X A) 31 0 0 31 63 w.1 0 M z.2.1 z.2.2 (upd w.2.1 10 0) w.2.2 rfl (Nat.zero_le _) (Nat.le_refl _) (by decide) ⟨hn, (a3' 7 (by decide) (by decide)).trans e7, (upd_ne _ _ (by decide)).trans ((c3' 9 (by decide) (by decide) (by decide)).trans e9), fun j hjn => by
      rw [a4 4 (by decide) (by decide), c4 5 (by decide), t1 5 (by decide)]; exact hj j hjn⟩ (Nat.zero_le _) (upd_eq _ _ _) ok (by rw [Nat.zero_add]; exact x4) hS1 hG1 hL
    have hlen := pA_len (t := t) (n := n) 31 0
    unfold f_X7_carryOutOrders
    generalize f_X7_carryOutOrders_l2 (f_X3_note G M X A) 31 0 M z.2.1 z.2.2 = zz at run ⊢
    change RUN _ _ _ _ _ _ _ (f_X8_script_l86 63 w.1 0 0 1 (upd w.2.1 10 0) w.2.2) at run
    generalize f_X8_script_l86 63 w.1 0 0 1 (upd w.2.1 10 0) w.2.2 = ww at run ⊢
    rw [Nat.zero_add] at run
    -- the rest of the states
    have base : ∀ X1 A1, FRS z.2.1 X1 z.2.2 A1 (upd w.2.1 10 0) ww.2.2.2.2.1 w.2.2 ww.2.2.2.2.2 →
        (∀ k, k ≠ 4 → k ≠ 5 → k ≠ 6 → X1 k = X k) ∧ (A1 5 = A 5) ∧ (∀ k, k = 3 ∨ k = 5 ∨ k = 7 ∨ k = 14 → ww.2.2.2.2.1 k = Y k) ∧ ww.2.2.2.2.2 1 = f_X8_tries Y B 1 ∧ (∀ k, k = 2 ∨ k = 3 ∨ k = 4 ∨ k = 5 → ww.2.2.2.2.2 k = B k) := fun X1 A1 q => by
      obtain ⟨q1, q2, q3, q4⟩ := q
      refine ⟨fun k x y v => (q1 k v).trans (a3' k x y), (q2 5 (by decide) (by decide)).trans (a4 5 (by decide) (by decide)), fun k hk => (q3 k (by omega) (by omega) (by omega) (by omega) (by omega)).trans ((upd_ne _ _ (by omega)).trans (c3' k (by omega) (by omega) (by omega))), (q4 1 (by decide) (by decide) (by decide)).trans (c4 1 (by decide)), fun k hk => (q4 k (by omega) (by omega) (by omega)).trans ((c4 k (by omega)).trans (t1 k (by omega)))⟩
    rcases run with ⟨M1, X1, A1, r0, r1, r2, rG, rS, rF⟩ | ⟨M1, X1, A1, m, c, r0, r1, r2, r3, r4, rS, rF⟩
    · subst r0
      obtain ⟨f1', f2, f3, f4, f5⟩ := base X1 A1 rF
      rw [r1, r2]
      simp only [if_pos]
      rw [settle_d (ncode (N := 32) (vp_in_nI (by omega) (by decide)))]
      generalize hv : upd (upd X1 9 (if (X1 7).toNatClampNeg ≤ 0 then X1 9 else 1)) 7 (nI 0) = X2
      have o2 : ∀ k, k ≠ 7 → k ≠ 9 → X2 k = X1 k := fun k x y => by rw [← hv]; exact (upd_ne _ _ x).trans (upd_ne _ _ y)
      have o7 : X2 7 = 0 := by rw [← hv]; exact upd_eq _ _ _
      clear hv
      have y2 : ∀ k, k ≠ 9 → upd ww.2.2.2.2.1 9 0 k = ww.2.2.2.2.1 k := fun k x => upd_ne _ _ x
      have y9 : upd ww.2.2.2.2.1 9 0 9 = 0 := upd_eq _ _ _
      generalize upd ww.2.2.2.2.1 9 0 = Y2 at y2 y9 ⊢
      obtain ⟨d1, d2, d3, d4, d5, d6⟩ := scr_done (p := nI (pA t n 31 0).2.2.length) (X1 := X2) (A1 := fun k => if k = 4 then f1 else A1 k) (Y1 := Y2) (B1 := ww.2.2.2.2.2) (N := M1) h
        ((o2 0 (by decide) (by decide)).trans (f1' 0 (by decide) (by decide) (by decide))) ((o2 2 (by decide) (by decide)).trans (f1' 2 (by decide) (by decide) (by decide))) ((o2 3 (by decide) (by decide)).trans (f1' 3 (by decide) (by decide) (by decide)))
        ((y2 3 (by decide)).trans (f3 3 (by decide))) ((y2 5 (by decide)).trans (f3 5 (by decide))) f4 (f5 2 (by decide)) (f5 3 (by decide))
        (((o2 1 (by decide) (by decide)).trans (f1' 1 (by decide) (by decide) (by decide))).trans (h.2.2.2.2.trans ((y2 14 (by decide)).trans (f3 14 (by decide))).symm))
        (rS.far (o2 6 (by decide) (by decide)) (fun k hk => if_neg (by omega)) (y2 16 (by decide)) rfl) rG
      refine ⟨d1.symm, d2, ⟨⟨?_, ?_⟩, (if_neg (by decide)).trans f2, ?_, ⟨?_, ?_⟩, ?_, ?_⟩, trivial, d6, fun q => ?_⟩
      · exact (d3 8 (by decide) (by decide)).trans ((o2 8 (by decide) (by decide)).trans (f1' 8 (by decide) (by decide) (by decide)))
      · exact (d3 10 (by decide) (by decide)).trans ((o2 10 (by decide) (by decide)).trans (f1' 10 (by decide) (by decide) (by decide)))
      · exact (d4 7 (by decide)).trans ((y2 7 (by decide)).trans (f3 7 (by decide)))
      · exact (d5 4 (by decide)).trans (f5 4 (by decide))
      · exact (d5 5 (by decide)).trans (f5 5 (by decide))
      · exact (d3 7 (by decide) (by decide)).trans o7
      · exact (d4 9 (by decide)).trans y9
      · exact absurd (d1.symm.trans q) (ncode (N := 32) (vp_in_nI (by omega) (by decide))).2.2
    · subst r1
      obtain ⟨f1', f2, f3, f4, f5⟩ := base X1 A1 rF
      have x2 : X1 2 = X 2 := f1' 2 (by decide) (by decide) (by decide)
      have gpb : GR (f_X3_putBack (f_X3_note G M X A) M1 X1 A1) (B 0) := by
        unfold f_X3_putBack
        rw [bd_x, x2, note_eq, va_up_self]
        exact hG0.become.become
      have cz : ¬ c = 0 := by
        rcases r4 with e | e | ⟨e, -⟩ <;> rw [e] <;> decide
      rw [r2, r3]
      simp only [if_neg cz]
      generalize f_X3_putBack (f_X3_note G M X A) M1 X1 A1 = pb at gpb ⊢
      have y2 : ∀ k, k ≠ 9 → upd ww.2.2.2.2.1 9 0 k = ww.2.2.2.2.1 k := fun k x => upd_ne _ _ x
      have y9 : upd ww.2.2.2.2.1 9 0 9 = 0 := upd_eq _ _ _
      generalize upd ww.2.2.2.2.1 9 0 = Y2 at y2 y9 ⊢
      have cb : (∀ j, j ≠ 0 → f_X8_comesBack Y2 ww.2.2.2.2.2 j = ww.2.2.2.2.2 j) ∧ ∀ i, i < 169 → f_X8_comesBack Y2 ww.2.2.2.2.2 0 i = B 0 i := by
        obtain ⟨i1, i2⟩ := cp_back (Y := Y2) 170 0 ww.2.2.2.2.2 rfl
        unfold f_X8_comesBack
        rw [bd_x]
        exact ⟨i1, fun i hi => (i2 i).trans ((if_pos ⟨Nat.zero_le _, hi⟩).trans ((congrFun f4 i).trans (t2 i hi)))⟩
      obtain ⟨cb1, cb2⟩ := cb
      generalize f_X8_comesBack Y2 ww.2.2.2.2.2 = CB at cb1 cb2 ⊢
      have hS' : RS X1 A1 Y2 CB := rS.keep (y2 16 (by decide)) (cb1 7 (by decide))
      obtain ⟨s1, s2, s3, s4, s5⟩ := script_ref (M := pb) (q := nI m) (p2 := c) hS' (fun e => by
        rcases r4 with q | q | ⟨-, q⟩
        · rw [e] at q; exact absurd q (by decide)
        · rw [e] at q; exact absurd q (by decide)
        · exact q)
      generalize f_X7_refuseScript pb X1 A1 (nI m) c = R at s1 s2 s3 s4 s5 ⊢
      rw [s1, settle_c (Or.inr (Or.inr rfl))]
      generalize hv : upd (upd R.2.1 9 (if (R.2.1 7).toNatClampNeg ≤ 0 then R.2.1 9 else 1)) 7 (nI 0) = X3
      have o2 : ∀ k, k ≠ 6 → k ≠ 7 → k ≠ 9 → X3 k = X1 k := fun k v x y => by rw [← hv]; exact (upd_ne _ _ x).trans ((upd_ne _ _ y).trans (s2 k v))
      have o6 : X3 6 = R.2.1 6 := by rw [← hv]; exact (upd_ne _ _ (by decide)).trans (upd_ne _ _ (by decide))
      have o7 : X3 7 = 0 := by rw [← hv]; exact upd_eq _ _ _
      clear hv
      have fin : ∀ w' : Int32 × (Nat → Int32) × (Nat → Nat → Int32), w'.1 = -3 → FXm Y2 w'.2.1 → (∀ k, k ≠ 7 → w'.2.2 k = CB k) → RS R.2.1 R.2.2 w'.2.1 w'.2.2 →
          (-3 = w'.1 ∧ RLL (f_X3_note G M X A) pb X3 (fun k => if k = 4 then f1 else R.2.2 k) w'.2.1 w'.2.2 ∧ FSC X X3 A (fun k => if k = 4 then f1 else R.2.2 k) Y w'.2.1 B w'.2.2 ∧ True ∧ (MR (B 0) → RMs Y B → RMs w'.2.1 w'.2.2) ∧ (w'.1 = -3 → MR (B 0) → MR (w'.2.2 0))) := fun w' g1 g2 g3 g4 => by
        have gg : GR pb (w'.2.2 0) := gpb.row (fun k hk => by rw [g3 0 (by decide)]; exact cb2 k hk)
        have yy : ∀ k, k = 3 ∨ k = 5 ∨ k = 7 ∨ k = 14 → w'.2.1 k = Y k := fun k hk => (g2 k (by omega) (by omega)).trans ((y2 k (by omega)).trans (f3 k hk))
        have bb : ∀ k, k = 2 ∨ k = 3 ∨ k = 4 ∨ k = 5 → w'.2.2 k = B k := fun k hk => (g3 k (by omega)).trans ((cb1 k (by omega)).trans (f5 k hk))
        have xx : ∀ k, k ≠ 4 → k ≠ 5 → k ≠ 6 → k ≠ 7 → k ≠ 9 → X3 k = X k := fun k a b v x y => (o2 k v x y).trans (f1' k a b v)
        obtain ⟨d1, d2⟩ := scr_code (X1 := X3) (A1 := fun k => if k = 4 then f1 else R.2.2 k) (Y1 := w'.2.1) (B1 := w'.2.2) (N := pb) h (xx 0 (by decide) (by decide) (by decide) (by decide) (by decide)) (xx 2 (by decide) (by decide) (by decide) (by decide) (by decide)) (xx 3 (by decide) (by decide) (by decide) (by decide) (by decide)) (yy 3 (by decide)) (yy 5 (by decide)) (bb 2 (by decide)) (bb 3 (by decide))
          ((xx 1 (by decide) (by decide) (by decide) (by decide) (by decide)).trans (h.2.2.2.2.trans (yy 14 (by decide)).symm)) (g4.far o6 (fun k hk => if_neg (by omega)) rfl rfl) gg
        exact ⟨g1.symm, d1, ⟨⟨xx 8 (by decide) (by decide) (by decide) (by decide) (by decide), xx 10 (by decide) (by decide) (by decide) (by decide) (by decide)⟩, (if_neg (by decide)).trans ((s3 5 (by decide) (by decide)).trans f2), yy 7 (by decide), ⟨bb 4 (by decide), bb 5 (by decide)⟩, o7, (g2 9 (by decide) (by decide)).trans y9⟩, trivial, fun _ hs => d2 hs, fun _ hm => hm.row (fun k hk => by rw [g3 0 (by decide)]; exact cb2 k hk)⟩
      by_cases c3 : c = -3
      · simp only [if_pos c3]
        obtain ⟨g1, g2, g3, g4⟩ := s4 c3
        exact fin _ g1 g2 g3 g4
      · simp only [if_neg c3]
        obtain ⟨g1, g2, g3, g4⟩ := s5 c3
        exact fin _ g1 g2 g3 g4
  · rw [if_neg ok] at a1 c1
    rw [if_pos a1, if_pos c1, settle_c (Or.inr (Or.inl rfl))]
    generalize hv : upd (upd (upd z.2.1 1 (z.2.1 5)) 9 (if (upd z.2.1 1 (z.2.1 5) 7).toNatClampNeg ≤ 0 then upd z.2.1 1 (z.2.1 5) 9 else 1)) 7 (nI 0) = X3
    have o2 : ∀ k, k ≠ 1 → k ≠ 4 → k ≠ 5 → k ≠ 7 → k ≠ 9 → X3 k = X k := fun k u v1 v2 x y => by rw [← hv]; exact (upd_ne _ _ x).trans ((upd_ne _ _ y).trans ((upd_ne _ _ u).trans (a3' k v1 v2)))
    have o1 : X3 1 = z.2.1 5 := by rw [← hv]; exact (upd_ne _ _ (by decide)).trans ((upd_ne _ _ (by decide)).trans (upd_eq _ _ _))
    have o7 : X3 7 = 0 := by rw [← hv]; exact upd_eq _ _ _
    clear hv
    have yy : ∀ k, k = 3 ∨ k = 5 ∨ k = 7 ∨ k = 16 → upd (upd w.2.1 9 0) 14 (upd w.2.1 9 0 10) k = Y k := fun k hk => (upd_ne _ _ (by omega)).trans ((upd_ne _ _ (by omega)).trans (c3' k (by omega) (by omega) (by omega)))
    have y14 : upd (upd w.2.1 9 0) 14 (upd w.2.1 9 0 10) 14 = w.2.1 10 := (upd_eq _ _ _).trans (upd_ne _ _ (by decide))
    have y9 : upd (upd w.2.1 9 0) 14 (upd w.2.1 9 0 10) 9 = 0 := (upd_ne _ _ (by decide)).trans (upd_eq _ _ _)
    generalize upd (upd w.2.1 9 0) 14 (upd w.2.1 9 0 10) = V at yy y14 y9 ⊢
    have bb : ∀ k, k ≠ 1 → k ≠ 6 → w.2.2 k = B k := fun k x y => (c4 k y).trans (t1 k x)
    obtain ⟨d1, d2⟩ := scr_code (X1 := X3) (A1 := fun k => if k = 4 then f1 else z.2.2 k) (Y1 := V) (B1 := w.2.2) (N := M) h (o2 0 (by decide) (by decide) (by decide) (by decide) (by decide)) (o2 2 (by decide) (by decide) (by decide) (by decide) (by decide)) (o2 3 (by decide) (by decide) (by decide) (by decide) (by decide)) (yy 3 (by decide)) (yy 5 (by decide)) (bb 2 (by decide) (by decide)) (bb 3 (by decide) (by decide))
      (o1.trans (a2.trans (y14.trans c2).symm)) (hS0.far (o2 6 (by decide) (by decide) (by decide) (by decide) (by decide)) (fun k hk => (if_neg (by omega)).trans (a4 k (by omega) (by omega))) (yy 16 (by decide)) (bb 7 (by decide) (by decide))) (by rw [bb 0 (by decide) (by decide)]; exact hG0)
    exact ⟨rfl, d1, ⟨⟨o2 8 (by decide) (by decide) (by decide) (by decide) (by decide), o2 10 (by decide) (by decide) (by decide) (by decide) (by decide)⟩, (show (if (5 : Nat) = 4 then f1 else z.2.2 5) = A 5 from (if_neg (by decide)).trans (a4 5 (by decide) (by decide))), yy 7 (by decide), ⟨bb 4 (by decide) (by decide), bb 5 (by decide) (by decide)⟩, o7, y9⟩, rfl, fun _ hs => d2 hs, fun q => absurd (show (-2 : Int32) = -3 from q) (by decide)⟩
end SCR

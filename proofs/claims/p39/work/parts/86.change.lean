/-! ===== pure: the states of both, and what changes them ===== -/
/-- what both know but the texts -/
def RLL (G : Nat → gM) (M : gM) (X : Nat → Int32) (A : Nat → Nat → Int32) (Y : Nat → Int32) (B : Nat → Nat → Int32) : Prop :=
  GR M (B 0) ∧ RS X A Y B ∧ RG G X Y (B 2) ∧ ((X 0 = 0 ∧ Y 5 = 0) ∨ (X 0 = 1 ∧ Y 5 = 1 ∧ GR (G 1) (B 3))) ∧ X 1 = Y 14
/-- what an order leaves alone -/
def FRL (X X1 : Nat → Int32) (A A1 : Nat → Nat → Int32) (Y Y1 : Nat → Int32) (B B1 : Nat → Nat → Int32) : Prop :=
  (∀ k, k ≠ 2 → k ≠ 3 → k ≠ 6 → X1 k = X k) ∧ (∀ k, k ≠ 2 → k ≠ 3 → A1 k = A k) ∧ (∀ k, k ≠ 3 → k ≠ 16 → k ≠ 17 → Y1 k = Y k) ∧ (∀ k, k ≠ 0 → k ≠ 1 → k ≠ 2 → k ≠ 7 → B1 k = B k) ∧ (MR (B 0) → RMs Y B → RMs Y1 B1)
section CH
variable {G : Nat → gM} {M N : gM} {f : Nat → Int32} {X Y X1 Y1 : Nat → Int32} {A B A1 B1 : Nat → Nat → Int32} {a : Int32}
theorem note_eq : f_X3_note G M X A = va_up G (2 + (X 2).toNatClampNeg) (f_X1_become (G (2 + (X 2).toNatClampNeg)) M) := by
  unfold f_X3_note
  rw [bd_x]
theorem RG.note (h : RG G X Y (B 2)) (N : gM) : RG (va_up G (2 + (X 2).toNatClampNeg) N) X Y (B 2) := by
  obtain ⟨fr, n, hf, hn, e2, e3, ey, hr⟩ := h
  have hk2 : (X 2).toNatClampNeg = fr := by rw [e2, nI_clamp (by omega)]
  refine ⟨fr, n, hf, hn, e2, e3, ey, fun i hi => ?_⟩
  rw [hk2]
  show GR (if 2 + (fr + 9 - n + i) % 9 = 2 + fr then N else G (2 + (fr + 9 - n + i) % 9)) _
  rw [if_neg (by omega)]
  exact hr i hi
theorem RG.frame {R : Nat → Int32} (h : RG G X Y R) (h2 : X1 2 = X 2) (h3 : X1 3 = X 3) (hy : Y1 3 = Y 3) : RG G X1 Y1 R := by
  obtain ⟨fr, n, hf, hn, e2, e3, ey, hr⟩ := h
  exact ⟨fr, n, hf, hn, h2.trans e2, h3.trans e3, hy.trans ey, hr⟩
theorem tries_0 : f_X8_tries Y B 0 = B 0 ∧ (∀ j, j ≠ 1 → f_X8_tries Y B j = B j) ∧ ∀ i, i < 169 → f_X8_tries Y B 1 i = B 0 i := by
  obtain ⟨i1, i2⟩ := cp_tries (Y := Y) 170 0 B rfl
  unfold f_X8_tries
  rw [bd_x]
  exact ⟨i1 0 (by decide), i1, fun i hi => (i2 i).trans (if_pos ⟨Nat.zero_le _, hi⟩)⟩
theorem code_1 {p : Int32} (h : p = -1 ∨ p = -2 ∨ p = -3) : f_X7_isCode M X A p = 1 := by
  unfold f_X7_isCode
  rcases h with rfl | rfl | rfl <;> decide
theorem code_0 {p : Int32} (h : p ≠ -1 ∧ p ≠ -2 ∧ p ≠ -3) : f_X7_isCode M X A p = 0 := by
  unfold f_X7_isCode
  rw [if_neg h.1, if_neg h.2.1, if_neg h.2.2]
theorem saved_note {n : Nat} (h : (X 0 = 0 ∧ Y 5 = 0) ∨ (X 0 = 1 ∧ Y 5 = 1 ∧ GR (G 1) (B 3))) : (X 0 = 0 ∧ Y 5 = 0) ∨ (X 0 = 1 ∧ Y 5 = 1 ∧ GR (va_up G (2 + n) N 1) (B 3)) := by
  rcases h with h | ⟨h1, h2, h3⟩
  · exact Or.inl h
  · refine Or.inr ⟨h1, h2, ?_⟩
    show GR (if 1 = 2 + n then N else G 1) _
    rw [if_neg (by omega)]; exact h3
theorem RS.far {Z : Nat → Int32} {C : Nat → Nat → Int32} (h : RS X A Y B) (h6 : X1 6 = X 6) (hA : ∀ k, k = 2 ∨ k = 3 → A1 k = A k) (h16 : Z 16 = Y 16) (h7 : C 7 = B 7) : RS X1 A1 Z C := by
  obtain ⟨d, d1, d2, d3, d4⟩ := h
  exact ⟨d, d1, h6.trans d2, h16.trans d3, fun i hi => by rw [h7, hA 2 (Or.inl rfl), hA 3 (Or.inr rfl)]; exact d4 i hi⟩
/-- done: it is kept -/
theorem chg_done (h : RLL G M X A Y B) {p : Int32} (hX : FC X X1) (hA : FA A A1) (hY : FXm Y Y1) (hB : FAm (f_X8_tries Y B) B1) (hS : RS X1 A1 Y1 B1) (hG : GR N (B1 0)) :
    (f_X8_keeps Y1 B1 p).1 = p ∧ RLL (f_X3_note G M X A) N (f_X3_keep N X1 A1) A1 (f_X8_keeps Y1 B1 p).2.1 (f_X8_keeps Y1 B1 p).2.2 ∧ FRL X (f_X3_keep N X1 A1) A A1 Y (f_X8_keeps Y1 B1 p).2.1 B (f_X8_keeps Y1 B1 p).2.2 := by
  obtain ⟨g, s, r, v, e1⟩ := h
  obtain ⟨t0, t1, t2⟩ := tries_0 (Y := Y) (B := B)
  have x2 : X1 2 = X 2 := hX 2 (by decide)
  have rr : RG G X1 Y1 (B1 2) := by
    rw [hB 2 (by decide) (by decide), t1 2 (by decide)]
    exact r.frame x2 (hX 3 (by decide)) (hY 3 (by decide) (by decide))
  have hT : GR M (B1 1) := by
    rw [hB 1 (by decide) (by decide)]
    exact g.row t2
  obtain ⟨k1, k2, k3, k4, k5⟩ := RG.keep (M := N) (A := A1) (N := M) (G1 := f_X3_note G M X A) (p := p) rr hT (by rw [note_eq, x2])
  refine ⟨k1, ⟨?_, ?_, k4, ?_, ?_⟩, fun k a b c => ?_, hA, fun k a b c => ?_, fun k a b c d => ?_, fun hm hs => ?_⟩
  · rw [k2 0 (by decide)]; exact hG
  · exact hS.far (k5 6 (by decide) (by decide)) (fun _ _ => rfl) (k3 16 (by decide)) (k2 7 (by decide))
  · rw [k5 0 (by decide) (by decide), hX 0 (by decide), k3 5 (by decide), hY 5 (by decide) (by decide), k2 3 (by decide), hB 3 (by decide) (by decide), t1 3 (by decide), note_eq]
    exact saved_note v
  · rw [k5 1 (by decide) (by decide), hX 1 (by decide), k3 14 (by decide), hY 14 (by decide) (by decide)]; exact e1
  · rw [k5 k a b, hX k c]
  · rw [k3 k a, hY k b c]
  · rw [k2 k c, hB k a d, t1 k b]
  · refine RMs.keeps (hs.far (hY 3 (by decide) (by decide)) (hY 5 (by decide) (by decide)) ?_ ?_) ?_
    · rw [hB 2 (by decide) (by decide), t1 2 (by decide)]
    · rw [hB 3 (by decide) (by decide), t1 3 (by decide)]
    · rw [hB 1 (by decide) (by decide)]; exact hm.row t2
/-- a code -/
theorem chg_code (h : RLL G M X A Y B) (hX : FC X X1) (hA : FA A A1) (hY : FXm Y Y1) (hB : FAm (f_X8_tries Y B) B1) (hS : RS X1 A1 Y1 B1) (hG : GR N (B1 0)) :
    RLL (f_X3_note G M X A) N X1 A1 Y1 B1 ∧ FRL X X1 A A1 Y Y1 B B1 := by
  obtain ⟨g, s, r, v, e1⟩ := h
  obtain ⟨t0, t1, t2⟩ := tries_0 (Y := Y) (B := B)
  have x2 : X1 2 = X 2 := hX 2 (by decide)
  refine ⟨⟨hG, hS, ?_, ?_, ?_⟩, fun k a b c => hX k c, hA, fun k a b c => hY k b c, fun k a b c d => ?_, fun hm hs => hs.far (hY 3 (by decide) (by decide)) (hY 5 (by decide) (by decide)) ?_ ?_⟩
  · rw [hB 2 (by decide) (by decide), t1 2 (by decide), note_eq]
    exact (r.note _).frame x2 (hX 3 (by decide)) (hY 3 (by decide) (by decide))
  · rw [hX 0 (by decide), hY 5 (by decide) (by decide), hB 3 (by decide) (by decide), t1 3 (by decide), note_eq]
    exact saved_note v
  · rw [hX 1 (by decide), hY 14 (by decide) (by decide)]; exact e1
  · rw [hB k a d, t1 k b]
  · rw [hB 2 (by decide) (by decide), t1 2 (by decide)]
  · rw [hB 3 (by decide) (by decide), t1 3 (by decide)]
theorem chg (h : RLL G M X A Y B) {z : Int32 × gM × (Nat → Int32) × (Nat → Nat → Int32)} {w : Int32 × (Nat → Int32) × (Nat → Nat → Int32)} (hop : OpR X A Y (f_X8_tries Y B) z w) :
    (f_X7_settle z.2.1 z.2.2.1 z.2.2.2 z.1).1 = (f_X8_ends w.2.1 w.2.2 w.1).1 ∧ RLL (f_X3_note G M X A) z.2.1 (f_X7_settle z.2.1 z.2.2.1 z.2.2.2 z.1).2 z.2.2.2 (f_X8_ends w.2.1 w.2.2 w.1).2.1 (f_X8_ends w.2.1 w.2.2 w.1).2.2 ∧
    FRL X (f_X7_settle z.2.1 z.2.2.1 z.2.2.2 z.1).2 A z.2.2.2 Y (f_X8_ends w.2.1 w.2.2 w.1).2.1 B (f_X8_ends w.2.1 w.2.2 w.1).2.2 := by
  obtain ⟨hX, hA, hY, hB, hS, hG, hc⟩ := hop
  unfold f_X7_settle f_X8_ends
  simp only [bd_x]
  rcases hc with ⟨w0, wa, n1, n2, n3⟩ | ⟨w1, hz⟩
  · rw [if_pos w0, code_0 ⟨n1, n2, n3⟩, if_pos rfl]
    obtain ⟨c1, c2, c3⟩ := chg_done (p := w.2.1 17) h hX hA hY hB hS hG
    exact ⟨(c1.trans wa).symm, c2, c3⟩
  · have zc : z.1 = -1 ∨ z.1 = -2 ∨ z.1 = -3 := hz.elim Or.inl (fun q => Or.inr (q.elim Or.inl (fun q => Or.inr q.1)))
    rw [code_1 zc, if_neg (show ¬ (1 : Int32) = 0 by decide), w1, if_neg (show ¬ z.1 = 0 by rcases zc with e | e | e <;> rw [e] <;> decide)]
    exact ⟨rfl, chg_code h hX hA hY hB hS hG⟩
theorem RLL.try (h : RLL G M X A Y B) : RS X A Y (f_X8_tries Y B) ∧ GR M (f_X8_tries Y B 0) := by
  obtain ⟨t0, t1, t2⟩ := tries_0 (Y := Y) (B := B)
  exact ⟨h.2.1.keep rfl (t1 7 (by decide)), by rw [t0]; exact h.1⟩
/-- an order of both, after it -/
def CHG (G : Nat → gM) (M : gM) (X : Nat → Int32) (A : Nat → Nat → Int32) (Y : Nat → Int32) (B : Nat → Nat → Int32) (z : Int32 × (Nat → gM) × gM × (Nat → Int32) × (Nat → Nat → Int32)) (w : Int32 × (Nat → Int32) × (Nat → Nat → Int32)) : Prop :=
  z.1 = w.1 ∧ RLL z.2.1 z.2.2.1 z.2.2.2.1 z.2.2.2.2 w.2.1 w.2.2 ∧ FRL X z.2.2.2.1 A z.2.2.2.2 Y w.2.1 B w.2.2
theorem C_rain (h : RLL G M X A Y B) (p : Int32) : CHG G M X A Y B (f_X7_rain G M X A p) (f_X8_rain Y B p) := by
  unfold f_X7_rain f_X8_rain
  simp only [bd_x]
  exact chg h (R_setRain h.try.1 h.try.2 p)
theorem C_sun (h : RLL G M X A Y B) (p : Int32) : CHG G M X A Y B (f_X7_sun G M X A p) (f_X8_sun Y B p) := by
  unfold f_X7_sun f_X8_sun
  simp only [bd_x]
  exact chg h (R_setSun h.try.1 h.try.2 p)
theorem C_begin (h : RLL G M X A Y B) (p q : Int32) : CHG G M X A Y B (f_X7_begin G M X A p q) (f_X8_begin Y B p q) := by
  unfold f_X7_begin f_X8_begin
  simp only [bd_x]
  exact chg h (R_begin h.try.1 h.try.2 p q)
theorem C_bowl (h : RLL G M X A Y B) (p1 p2 p3 p4 p5 : Int32) : CHG G M X A Y B (f_X7_bowl G M X A p1 p2 p3 p4 p5) (f_X8_bowl Y B p1 p2 p3 p4 p5) := by
  unfold f_X7_bowl f_X8_bowl
  simp only [bd_x]
  exact chg h (R_bowl h.try.1 h.try.2 p1 p2 p3 p4 p5)
theorem C_close (h : RLL G M X A Y B) (p : Int32) : CHG G M X A Y B (f_X7_close G M X A p) (f_X8_close Y B p) := by
  unfold f_X7_close f_X8_close
  simp only [bd_x]
  exact chg h (R_close h.try.1 h.try.2 p)
theorem C_sweep (h : RLL G M X A Y B) (p : Int32) : CHG G M X A Y B (f_X7_sweep G M X A p) (f_X8_sweep Y B p) := by
  unfold f_X7_sweep f_X8_sweep
  simp only [bd_x]
  exact chg h (R_sweep h.try.1 h.try.2 p)
theorem C_tea (h : RLL G M X A Y B) (p : Int32) : CHG G M X A Y B (f_X7_tea G M X A p) (f_X8_tea Y B p) := by
  unfold f_X7_tea f_X8_tea
  simp only [bd_x]
  exact chg h (R_tea h.try.1 h.try.2 p)
theorem C_hour (h : RLL G M X A Y B) (p : Int32) : CHG G M X A Y B (f_X7_hour G M X A p) (f_X8_hour Y B p) := by
  unfold f_X7_hour f_X8_hour
  simp only [bd_x]
  exact chg h (R_hour h.try.1 h.try.2 p)
end CH

/-! ===== what holds between the calls ===== -/
section IVS
variable {G : Nat → gM} {M : gM} {X Y X1 : Nat → Int32} {A B A1 : Nat → Nat → Int32} {t : Nat → Nat} {n : Nat}
/-- the line of both, after it is written -/
theorem rw_line {b b1 : cB} {T : List Nat} {Y1 : Nat → Int32} {B1 : Nat → Nat → Int32} (hL : LK X A b T X1 A1 b1) (hW : WR Y B T Y1 B1) (hT : T.length ≤ 110) : RW X1 A1 Y1 B1 := by
  obtain ⟨-, -, -, -, e8, -, -, -, hc, hb⟩ := hL
  obtain ⟨-, -, e7, hj⟩ := hW
  refine ⟨T.length, hT, e8, e7, fun j hjn => ?_⟩
  have c128 : T.getD j 0 < 128 := hc _ (by
    rw [List.getD_eq_getElem?_getD, List.getElem?_eq_getElem hjn]
    exact List.getElem_mem hjn)
  rw [hb j hjn, hj j hjn]
  exact (sb_byte _ (by omega)).1
def IV (G : Nat → gM) (M : gM) (X : Nat → Int32) (A : Nat → Nat → Int32) (b : cB) (Y : Nat → Int32) (B : Nat → Nat → Int32) (t : Nat → Nat) (n : Nat) : Prop :=
  RLL G M X A Y B ∧ RT X A Y B t n ∧ RW X A Y B ∧ GI M ∧ (∀ g, 1 ≤ g → g < 11 → GI (G g)) ∧ MR (B 0) ∧ RMs Y B ∧ (∀ j, j < 60 → ∃ q : Nat, q < 128 ∧ B 5 j = nI q) ∧ TX n b.2.1 (A 4) ∧ ∃ nl, X 8 = nI nl ∧ TX nl b.2.2.2 (A 5)
def INV (u : cS × cB) (v : mS) : Prop := ∃ G M X A b Y B t n, u = ((va_up G 0 M, X, A), b) ∧ v = (Y, B) ∧ IV G M X A b Y B t n
variable {b : cB}
theorem IV.gr (h : IV G M X A b Y B t n) : GR M (B 0) := h.1.1
theorem IV.rs (h : IV G M X A b Y B t n) : RS X A Y B := h.1.2.1
theorem IV.gi (h : IV G M X A b Y B t n) : GI M := h.2.2.2.1
theorem IV.mi (h : IV G M X A b Y B t n) : MI B := by
  obtain ⟨-, -, -, -, -, hm, -, ht, -⟩ := h
  exact ⟨hm.1, hm.2.1, hm.2.2.1, hm.2.2.2, ht⟩
theorem IV.k6 (h : IV G M X A b Y B t n) : vp_in (X 6) 4 := by
  obtain ⟨d, hd, e6, -⟩ := h.1.2.1
  rw [e6]; exact vp_in_nI (by omega) (by decide)
theorem IV.y16 (h : IV G M X A b Y B t n) : vp_in (Y 16) 4 := by
  obtain ⟨d, hd, -, e16, -⟩ := h.1.2.1
  rw [e16]; exact vp_in_nI (by omega) (by decide)
theorem IV.f2 (h : IV G M X A b Y B t n) : vp_in (X 2) 9 := by
  obtain ⟨fr, m, hf, -, e2, -⟩ := h.1.2.2.1
  rw [e2]; exact vp_in_nI hf (by decide)
theorem IV.y3 (h : IV G M X A b Y B t n) : vp_in (Y 3) 9 := h.2.2.2.2.2.2.1.1
theorem IV.y9 (h : IV G M X A b Y B t n) : vp_in (Y 9) 61 := by
  obtain ⟨-, ⟨hn, -, e9, -⟩, -⟩ := h
  rw [e9]; exact vp_in_nI (by omega) (by decide)
theorem IV.y7 (h : IV G M X A b Y B t n) : vp_in (Y 7) 111 := by
  obtain ⟨-, -, ⟨m, hm, -, e7, -⟩, -⟩ := h
  rw [e7]; exact vp_in_nI (by omega) (by decide)
theorem IV.gs (h : IV G M X A b Y B t n) {g : Nat} (h1 : 1 ≤ g) (h2 : g < 11) : GI (G g) := h.2.2.2.2.1 g h1 h2
theorem IV.gf (h : IV G M X A b Y B t n) : GI (G (2 + (X 2).toNatClampNeg)) := h.gs (by omega) (by have := vp_lt h.f2; omega)
theorem IV.gb (h : IV G M X A b Y B t n) : GI (G (2 + (tbx (X 2)).toNatClampNeg)) := h.gs (by omega) (by have := vp_lt (tb_in h.f2); omega)
theorem IV.x7 (h : IV G M X A b Y B t n) : X 7 = nI n := h.2.1.2.1
theorem IV.tx (h : IV G M X A b Y B t n) : TX n b.2.1 (A 4) := h.2.2.2.2.2.2.2.2.1
theorem IV.inp (h : IV G M X A b Y B t n) : IN X A b := by
  have e : (X 7).toNatClampNeg = n := by rw [h.x7, nI_clamp (by have := h.2.1.1; omega)]
  refine ⟨by rw [e]; exact h.x7, by rw [e]; exact h.tx⟩
/-- a change, of both -/
theorem IV.chg (h : IV G M X A b Y B t n) {z : Int32 × (Nat → gM) × gM × (Nat → Int32) × (Nat → Nat → Int32)} {w : Int32 × (Nat → Int32) × (Nat → Nat → Int32)} (c : CHG G M X A Y B z w) (hn : z.2.1 = f_X3_note G M X A) (hg : GI z.2.2.1) (hm : MI w.2.2) : IV z.2.1 z.2.2.1 z.2.2.2.1 z.2.2.2.2 b w.2.1 w.2.2 t n := by
  have f2 := h.f2
  obtain ⟨hL, hT, hW, hGI, hGs, hM, hR, htx, hI, nl, e8, hLn⟩ := h
  obtain ⟨-, c2, f1, fa, f3, f4, f5⟩ := c
  refine ⟨c2, hT.far (f1 7 (by decide) (by decide) (by decide)) (f3 9 (by decide) (by decide) (by decide)) (fa 4 (by decide) (by decide)) (f4 5 (by decide) (by decide) (by decide) (by decide)), hW.far (f1 8 (by decide) (by decide) (by decide)) (f3 7 (by decide) (by decide) (by decide)) (fa 5 (by decide) (by decide)) (f4 4 (by decide) (by decide) (by decide) (by decide)), hg, fun g h1 h11 => ?_, ⟨hm.1, hm.2.1, hm.2.2.1, hm.2.2.2.1⟩, f5 hM hR, fun j hj => ?_, ?_, nl, (f1 8 (by decide) (by decide) (by decide)).trans e8, ?_⟩
  · rw [hn, note_eq]
    show GI (if g = 2 + (X 2).toNatClampNeg then f_X1_become (G (2 + (X 2).toNatClampNeg)) M else G g)
    by_cases e : g = 2 + (X 2).toNatClampNeg
    · rw [if_pos e]
      exact GI_bc (hGs _ (by omega) (by have := vp_lt f2; omega)) hGI rfl
    · rw [if_neg e]; exact hGs g h1 h11
  · rw [f4 5 (by decide) (by decide) (by decide) (by decide)]; exact htx j hj
  · rw [fa 4 (by decide) (by decide)]; exact hI
  · rw [fa 5 (by decide) (by decide)]; exact hLn
/-- undo, restore, clear, of both -/
theorem IV.chh (h : IV G M X A b Y B t n) {z : Int32 × gM × (Nat → Int32)} {w : Int32 × (Nat → Int32) × (Nat → Nat → Int32)} (c : CHH G X A Y B z w) (hg : GI z.2.1) (hm : MR (w.2.2 0)) : IV G z.2.1 z.2.2 A b w.2.1 w.2.2 t n := by
  obtain ⟨hL, hT, hW, hGI, hGs, hM, hR, htx, hI, nl, e8, hLn⟩ := h
  obtain ⟨-, c2, f1, fa, f3, f4, f5⟩ := c
  refine ⟨c2, hT.far (f1 7 (by decide) (by decide) (by decide)) (f3 9 (by decide) (by decide) (by decide)) rfl (f4 5 (by decide) (by decide) (by decide) (by decide)), hW.far (f1 8 (by decide) (by decide) (by decide)) (f3 7 (by decide) (by decide) (by decide)) rfl (f4 4 (by decide) (by decide) (by decide) (by decide)), hg, hGs, hm, f5 hM hR, fun j hj => ?_, hI, nl, (f1 8 (by decide) (by decide) (by decide)).trans e8, hLn⟩
  rw [f4 5 (by decide) (by decide) (by decide) (by decide)]; exact htx j hj
theorem gi_undo (h : IV G M X A b Y B t n) : GI (f_X7_undo G M X A).2.1 := by
  unfold f_X7_undo f_X3_takeBack
  simp only [bd_x]
  by_cases c : X 3 = 0
  · rw [if_pos c]; exact h.gi
  · rw [if_neg c]
    have e : upd (upd X 2 (X 2 + 9 - 1 - (X 2 + 9 - 1) / 9 * 9)) 3 (upd X 2 (X 2 + 9 - 1 - (X 2 + 9 - 1) / 9 * 9) 3 - 1) 2 = tbx (X 2) := by
      rw [upd_ne _ _ (by decide), upd_eq]
      rfl
    show GI (f_X1_become M (G (2 + (upd (upd X 2 (X 2 + 9 - 1 - (X 2 + 9 - 1) / 9 * 9)) 3 (upd X 2 (X 2 + 9 - 1 - (X 2 + 9 - 1) / 9 * 9) 3 - 1) 2).toNatClampNeg)))
    rw [e]
    exact GI_bc h.gi h.gb rfl
theorem gi_restore (h : IV G M X A b Y B t n) : GI (f_X7_restore G M X A).2.1 := by
  unfold f_X7_restore
  simp only [bd_x]
  by_cases c : X 0 = 0
  · rw [if_pos c]; exact h.gi
  · rw [if_neg c]
    exact GI_bc h.gi (h.gs (Nat.le_refl _) (by decide)) rfl
theorem IV.save (h : IV G M X A b Y B t n) : (f_X7_save G M X A).1 = (f_X8_save Y B).1 ∧ IV (f_X7_save G M X A).2.1 M (f_X7_save G M X A).2.2 A b (f_X8_save Y B).2.1 (f_X8_save Y B).2.2 t n := by
  have gi := h.gi
  have g1 := h.gs (g := 1) (Nat.le_refl _) (by decide)
  obtain ⟨hL, hT, hW, hGI, hGs, hM, hR, htx, hI, nl, e8, hLn⟩ := h
  obtain ⟨c1, c2, f1, f3, f4⟩ := C_save hL
  obtain ⟨m1, m2⟩ := M_save hR hM
  refine ⟨c1, c2, hT.far (f1 7 (by decide)) (f3 9 (by decide)) rfl (f4 5 (by decide)), hW.far (f1 8 (by decide)) (f3 7 (by decide)) rfl (f4 4 (by decide)), hGI, fun g h1 h11 => ?_, m2, m1, fun j hj => ?_, hI, nl, (f1 8 (by decide)).trans e8, hLn⟩
  · have e : (f_X7_save G M X A).2.1 = va_up G 1 (f_X1_become (G 1) M) := by
      unfold f_X7_save
      simp only [bd_x]
    rw [e]
    show GI (if g = 1 then f_X1_become (G 1) M else G g)
    by_cases c : g = 1
    · rw [if_pos c]; exact GI_bc g1 gi rfl
    · rw [if_neg c]; exact hGs g h1 h11
  · rw [f4 5 (by decide)]; exact htx j hj
/-- a character is appended to both -/
theorem IV.app (h : IV G M X A b Y B t n) {ch a1 : Nat} {f1 : Nat → Int32} (h1 : 32 ≤ ch) (h2 : ch ≤ 126) (hn : n < 60) (q1 : ∀ j, j < n → f1 j = A 4 j) (q2 : f1 n = sb_b ch) (q3 : sb_Fit f1) :
    INV (putI (va_up G 0 M) X A b (X 9, nI (n + 1), a1, sb_cap (n + 1) b.2.1, f1)) ((f_X8_append Y B (nI ch)).2.1, (f_X8_append Y B (nI ch)).2.2) ∧ (f_X8_append Y B (nI ch)).1 = nI (n + 1) := by
  have hmi := h.mi
  obtain ⟨hL, hT, hW, hGI, hGs, hM, hR, htx, hI, nl, e8, hLn⟩ := h
  rw [ap_ok hT h1 h2 hn]
  refine ⟨⟨G, M, upd (upd X 9 (X 9)) 7 (nI (n + 1)), fun k => if k = 4 then f1 else A k, (a1, sb_cap (n + 1) b.2.1, b.2.2), upd Y 9 (nI (n + 1)), up2 B 5 n (nI ch), fun j => if j = n then ch else t j, n + 1, rfl, rfl, ?_, ?_, ?_, hGI, hGs, ?_, ?_, fun j hj => ?_, ?_, nl, ?_, ?_⟩, rfl⟩
  · have xo : ∀ k, k ≠ 7 → upd (upd X 9 (X 9)) 7 (nI (n + 1)) k = X k := fun k hk => by
      rw [upd_ne _ _ hk]
      by_cases e : k = 9
      · rw [e, upd_eq]
      · rw [upd_ne _ _ e]
    have yo : ∀ k, k ≠ 9 → upd Y 9 (nI (n + 1)) k = Y k := fun k hk => upd_ne _ _ hk
    have bo : ∀ k, k ≠ 5 → up2 B 5 n (nI ch) k = B k := fun k hk => up2_ne _ _ _ hk
    obtain ⟨g, s, r, v, e1⟩ := hL
    refine ⟨by rw [bo 0 (by decide)]; exact g, s.far (xo 6 (by decide)) (fun k hk => if_neg (by omega)) (yo 16 (by decide)) (bo 7 (by decide)), by rw [bo 2 (by decide)]; exact r.frame (xo 2 (by decide)) (xo 3 (by decide)) (yo 3 (by decide)), ?_, ?_⟩
    · rw [xo 0 (by decide), yo 5 (by decide), bo 3 (by decide)]; exact v
    · rw [xo 1 (by decide), yo 14 (by decide)]; exact e1
  · refine hT.app h1 h2 hn (upd_eq _ _ _) (fun j hj => ?_) ?_
    · show (if (4 : Nat) = 4 then f1 else A 4) j = _
      rw [if_pos rfl]; exact q1 j hj
    · show (if (4 : Nat) = 4 then f1 else A 4) n = _
      rw [if_pos rfl]; exact q2
  · refine hW.far ((upd_ne _ _ (by decide)).trans (upd_ne _ _ (by decide))) (upd_ne _ _ (by decide)) (if_neg (by decide)) (up2_ne _ _ _ (by decide))
  · rw [up2_ne _ _ _ (by decide)]; exact hM
  · exact hR.far (upd_ne _ _ (by decide)) (upd_ne _ _ (by decide)) (up2_ne _ _ _ (by decide)) (up2_ne _ _ _ (by decide))
  · rw [up2_eq]
    by_cases e : j = n
    · subst e
      rw [upd_eq]; exact ⟨ch, by omega, rfl⟩
    · rw [upd_ne _ _ e]; exact htx j hj
  · have cap : n + 1 ≤ sb_cap (n + 1) b.2.1 := sb_cap_ge _ _
    have cap2 : sb_cap (n + 1) b.2.1 ≤ 32766 := (lcap_le (q := n + 1) (by omega) hI.2.1).1
    refine ⟨cap, cap2, ?_, ?_⟩
    · show sb_Fit (if (4 : Nat) = 4 then f1 else A 4)
      rw [if_pos rfl]; exact q3
    · obtain ⟨u, hu⟩ := hI.2.2.2
      refine ⟨fun j => if j = n then ch else u j, fun j hj => ?_⟩
      show _ ∧ (if (4 : Nat) = 4 then f1 else A 4) j = _
      rw [if_pos rfl]
      dsimp only
      by_cases e : j = n
      · subst e
        rw [if_pos rfl]; exact ⟨by omega, q2⟩
      · rw [if_neg e, q1 j (by omega)]; exact hu j (by omega)
  · rw [upd_ne _ _ (by decide), upd_ne _ _ (by decide)]; exact e8
  · show TX nl b.2.2.2 (if (5 : Nat) = 4 then f1 else A 5)
    rw [if_neg (by decide)]; exact hLn
theorem a4if {f1 : Nat → Int32} {C : Nat → Nat → Int32} : (fun k => if k = 4 then f1 else C k) 4 = f1 := if_pos rfl
/-- a script, of both -/
theorem IV.scr (h : IV G M X A b Y B t n) {f1 : Nat → Int32} {a1 : Nat} (q3 : sb_Fit f1) (hg : GI (f_X7_script G M X A f1).2.2.1) (hm : (f_X8_script Y B).1 = -3 ∨ MI (f_X8_script Y B).2.2) :
    (f_X7_script G M X A f1).1 = (f_X8_script Y B).1 ∧ INV ((va_up (f_X7_script G M X A f1).2.1 0 (f_X7_script G M X A f1).2.2.1, (f_X7_script G M X A f1).2.2.2.1, (f_X7_script G M X A f1).2.2.2.2), (a1, b.2.1, b.2.2)) ((f_X8_script Y B).2.1, (f_X8_script Y B).2.2) := by
  have f2 := h.f2
  obtain ⟨hL, hT, hW, hGI, hGs, hM, hR, htx, hI, nl, e8, hLn⟩ := h
  obtain ⟨c1, c2, ⟨⟨x8, x10⟩, a5, y7, ⟨b4, b5⟩, x7, y9⟩, hn, hrm, hmr⟩ := C_script hL hT f1
  have a4 : (f_X7_script G M X A f1).2.2.2.2 4 = f1 := by
    unfold f_X7_script
    simp only [bd_x]
    by_cases c : (f_X2_read M X A).1 = 0
    · rw [if_pos c]
      rfl
    · rw [if_neg c]
      rfl
  refine ⟨c1, _, _, _, _, (a1, b.2.1, b.2.2), _, _, t, 0, rfl, rfl, c2, ⟨by decide, x7, y9, fun j hj => absurd hj (Nat.not_lt_zero _)⟩, hW.far x8 y7 a5 b4, hg, fun g h1 h11 => ?_, ?_, hrm hM hR, fun j hj => ?_, ⟨Nat.zero_le _, hI.2.1, ?_, fun _ => 0, fun j hj => absurd hj (Nat.not_lt_zero _)⟩, nl, x8.trans e8, ?_⟩
  · rw [hn, note_eq]
    show GI (if g = 2 + (X 2).toNatClampNeg then f_X1_become (G (2 + (X 2).toNatClampNeg)) M else G g)
    by_cases e : g = 2 + (X 2).toNatClampNeg
    · rw [if_pos e]
      exact GI_bc (hGs _ (by omega) (by have := vp_lt f2; omega)) hGI rfl
    · rw [if_neg e]; exact hGs g h1 h11
  · rcases hm with e | e
    · exact hmr e hM
    · exact ⟨e.1, e.2.1, e.2.2.1, e.2.2.2.1⟩
  · rw [b5]; exact htx j hj
  · rw [a4]; exact q3
  · rw [a5]; exact hLn
/-- a line, of both -/
theorem IV.line (h : IV G M X A b Y B t n) {T : List Nat} {A1 B1 : Nat → Nat → Int32} {X1 Y1 : Nat → Int32} {b1 : cB} (hL : LK X A b T X1 A1 b1) (hWR : WR Y B T Y1 B1) (hT : T.length ≤ 110) : INV ((va_up G 0 M, X1, A1), b1) (Y1, B1) := by
  obtain ⟨hLL, hT0, hW, hGI, hGs, hM, hR, htx, hI, nl, e8, hLn⟩ := h
  have rw2 := rw_line hL hWR hT
  obtain ⟨xo, ao, p1, p2, x8, ln⟩ := hL
  obtain ⟨yo, bo, y7, hj⟩ := hWR
  obtain ⟨g, s, r, v, e1⟩ := hLL
  refine ⟨G, M, X1, A1, b1, Y1, B1, t, n, rfl, rfl, ⟨by rw [bo 0 (by decide)]; exact g, s.far (xo 6 (by decide) (by decide)) (fun k hk => ao k (by omega)) (yo 16 (by decide)) (bo 7 (by decide)), by rw [bo 2 (by decide)]; exact r.frame (xo 2 (by decide) (by decide)) (xo 3 (by decide) (by decide)) (yo 3 (by decide)), ?_, ?_⟩, hT0.far (xo 7 (by decide) (by decide)) (yo 9 (by decide)) (ao 4 (by decide)) (bo 5 (by decide)), rw2, hGI, hGs, by rw [bo 0 (by decide)]; exact hM, hR.far (yo 3 (by decide)) (yo 5 (by decide)) (bo 2 (by decide)) (bo 3 (by decide)), fun j hj => by rw [bo 5 (by decide)]; exact htx j hj, by rw [p2, ao 4 (by decide)]; exact hI, T.length, x8, ?_⟩
  · rw [xo 0 (by decide) (by decide), yo 5 (by decide), bo 3 (by decide)]; exact v
  · rw [xo 1 (by decide) (by decide), yo 14 (by decide)]; exact e1
  · obtain ⟨l1, l2, l3, l4, l5⟩ := ln
    refine ⟨l1, l2, l3, fun j => T.getD j 0, fun j hj => ⟨?_, l5 j hj⟩⟩
    have := l4 (T.getD j 0) (by
      rw [List.getD_eq_getElem?_getD, List.getElem?_eq_getElem hj]
      exact List.getElem_mem hj)
    show T.getD j 0 < 256
    omega
end IVS

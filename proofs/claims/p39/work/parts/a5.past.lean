/-! ===== undo, save, restore, clear, append, describe: of an object ===== -/
section A8
variable {G : Nat → gM} {M N : gM} {X Y : Nat → Int32} {A B : Nat → Nat → Int32} {b : cB} {h : Nat → gM} {n m : Nat} {sv : Option gM} {t : Nat → Nat} {k : Nat}
theorem OBx.chh (hO : OBx G M X A b h n sv t k) {z : Int32 × gM × (Nat → Int32)} {h' : Nat → gM} {n' : Nat} (hc : ∀ Y B, RLL G M X A Y B → ∃ w, CHH G X A Y B z w) (hg : GI z.2.1) (hh' : HI G z.2.2 h' n') : OBx G z.2.1 z.2.2 A b h' n' sv t k := by
  obtain ⟨⟨Y, B, hL, hT⟩, hM, hGs, hh, hs, htx, nl, hnl, e8, hln⟩ := hO
  obtain ⟨w, -, c2, f1, fa, f3, f4, -⟩ := hc Y B hL
  exact ⟨⟨_, _, c2, hT.far (f1 7 (by decide) (by decide) (by decide)) (f3 9 (by decide) (by decide) (by decide)) rfl (f4 5 (by decide) (by decide) (by decide) (by decide))⟩, hg, hGs, hh', hs.frame (f1 0 (by decide) (by decide) (by decide)), htx, nl, hnl, (f1 8 (by decide) (by decide) (by decide)).trans e8, hln⟩
/-- undo: there is none; or what was before comes back -/
theorem P_undo (hO : OBx G M X A b h n sv t k) : ∀ z, z = f_X7_undo G M X A → (n = 0 → z = (-4, M, X)) ∧ (n ≠ 0 → z.1 = nI (n - 1) ∧ EQG z.2.1 (h 0) ∧ OBx G z.2.1 z.2.2 A b (fun i => h (i + 1)) (n - 1) sv t k) ∧ (∀ j, j ≠ 2 → j ≠ 3 → z.2.2 j = X j) := by
  intro z hz
  have hO' := hO
  obtain ⟨⟨Y, B, hL, hT⟩, hM, hGs, hh, hs, htx, nl, hnl, e8, hln⟩ := hO
  obtain ⟨fr, hf, hn, e2, e3, hr⟩ := hh
  have hx : f_X7_undo G M X A = if X 3 = 0 then (-4, M, X) else (nI (n - 1), f_X1_become M (G (2 + (fr + 8) % 9)), upd (upd X 2 (nI ((fr + 8) % 9))) 3 (X 3 - 1)) := by
    unfold f_X7_undo f_X3_takeBack
    simp only [bd_x]
    have et : X 2 + 9 - 1 - (X 2 + 9 - 1) / 9 * 9 = nI ((fr + 8) % 9) := by
      rw [e2]; exact kq4 fr hf
    rw [et]
    by_cases c : X 3 = 0
    · rw [if_pos c, if_pos c]
    · rw [if_neg c, if_neg c]
      have u2 : upd (upd X 2 (nI ((fr + 8) % 9))) 3 (upd X 2 (nI ((fr + 8) % 9)) 3 - 1) 2 = nI ((fr + 8) % 9) := by
        rw [upd_ne _ _ (by decide), upd_eq]
      have u3 : upd X 2 (nI ((fr + 8) % 9)) 3 = X 3 := upd_ne _ _ (by decide)
      have u4 : upd (upd X 2 (nI ((fr + 8) % 9))) 3 (X 3 - 1) 3 = X 3 - 1 := upd_eq _ _ _
      rw [u2, nI_clamp (show (fr + 8) % 9 < 2 ^ 31 by omega), u3, u4]
      have e : X 3 - 1 = nI (n - 1) := by
        have : n ≠ 0 := fun q => c (by rw [e3, q]; rfl)
        rw [e3, show n = (n - 1) + 1 by omega, nI_pred]
        rfl
      rw [e]
  have c30 : X 3 = 0 ↔ n = 0 := by
    rw [e3]
    constructor
    · intro q
      have := congrArg Int32.toNatClampNeg q
      rw [nI_clamp (by omega)] at this
      exact this
    · intro q; rw [q]; rfl
  rw [hz, hx]
  refine ⟨fun q => if_pos (c30.mpr q), fun q => ?_, fun j j2 j3 => ?_⟩
  · rw [if_neg (fun w => q (c30.mp w))]
    obtain ⟨q1, q2⟩ := hr 0 (by omega)
    have hgi : GI (f_X1_become M (G (2 + (fr + 8) % 9))) := GI_bc hM (hGs _ (by omega) (by omega)) rfl
    refine ⟨rfl, (become_eq _ _).tr q1, ?_⟩
    have hz2 : f_X7_undo G M X A = (nI (n - 1), f_X1_become M (G (2 + (fr + 8) % 9)), upd (upd X 2 (nI ((fr + 8) % 9))) 3 (X 3 - 1)) := hx.trans (if_neg (fun w => q (c30.mp w)))
    refine OBx.chh (z := (nI (n - 1), f_X1_become M (G (2 + (fr + 8) % 9)), upd (upd X 2 (nI ((fr + 8) % 9))) 3 (X 3 - 1))) hO' (fun Y B hL => ⟨_, hz2 ▸ C_undo hL⟩) hgi ?_
    refine ⟨(fr + 8) % 9, by omega, by omega, ?_, ?_, fun i hi => ?_⟩
    · show upd (upd X 2 (nI ((fr + 8) % 9))) 3 (X 3 - 1) 2 = _
      rw [upd_ne _ _ (show (2 : Nat) ≠ 3 by decide), upd_eq]
    · show upd (upd X 2 (nI ((fr + 8) % 9))) 3 (X 3 - 1) 3 = _
      rw [upd_eq, e3, show n = (n - 1) + 1 by omega, nI_pred]
      rfl
    · rw [show 2 + ((fr + 8) % 9 + 8 - i) % 9 = 2 + (fr + 8 - (i + 1)) % 9 by omega]
      exact hr (i + 1) (by omega)
  · by_cases c : X 3 = 0
    · rw [if_pos c]
    · rw [if_neg c]
      exact (upd_ne _ _ j3).trans (upd_ne _ _ j2)
/-- restore -/
theorem P_restore (hO : OBx G M X A b h n sv t k) : ∀ z, z = f_X7_restore G M X A → (∀ j, j ≠ 3 → z.2.2 j = X j) ∧ (sv = none → z = (-4, M, X)) ∧ ∀ S, sv = some S → z.1 = S.1 5 ∧ EQG z.2.1 S ∧ OBx G z.2.1 z.2.2 A b h 0 sv t k := by
  intro z hz
  have hO' := hO
  obtain ⟨⟨Y, B, hL, hT⟩, hM, hGs, hh, hs, htx, nl, hnl, e8, hln⟩ := hO
  have hx : f_X7_restore G M X A = if X 0 = 0 then (-4, M, X) else ((f_X1_become M (G 1)).1 5, f_X1_become M (G 1), upd X 3 0) := by
    unfold f_X7_restore f_X3_forget
    simp only [bd_x]
  rw [hz, hx]
  refine ⟨fun j j3 => ?_, fun q => ?_, fun S q => ?_⟩
  · by_cases c : X 0 = 0
    · rw [if_pos c]
    · rw [if_neg c]; exact upd_ne _ _ j3
  · subst q
    exact if_pos hs
  · subst q
    have c : ¬ X 0 = 0 := by rw [hs.1]; decide
    have hz2 := hx.trans (if_neg c)
    rw [if_neg c]
    have hE : EQG (f_X1_become M (G 1)) S := (become_eq _ _).tr hs.2.1
    refine ⟨hE.1 5 (by decide) (by decide), hE, ?_⟩
    refine OBx.chh (z := ((f_X1_become M (G 1)).1 5, f_X1_become M (G 1), upd X 3 0)) hO' (fun Y B hL => ⟨_, hz2 ▸ C_restore hL⟩) (GI_bc hM (hGs 1 (Nat.le_refl _) (by decide)) rfl) ?_
    obtain ⟨fr, hf, hn, e2, e3, hr⟩ := hh
    exact ⟨fr, hf, Nat.zero_le _, (show upd X 3 0 2 = X 2 from upd_ne _ _ (by decide)).trans e2, show upd X 3 0 3 = 0 from upd_eq _ _ _, fun i hi => absurd hi (Nat.not_lt_zero _)⟩
/-- save -/
theorem P_save (hO : OBx G M X A b h n sv t k) : ∀ z, z = f_X7_save G M X A → z.1 = M.1 5 ∧ (∀ j, j ≠ 0 → z.2.2 j = X j) ∧ OBx z.2.1 M z.2.2 A b h n (some M) t k := by
  intro z hz
  obtain ⟨⟨Y, B, hL, hT⟩, hM, hGs, hh, hs, htx, nl, hnl, e8, hln⟩ := hO
  obtain ⟨-, c2, f1, f3, f4⟩ := C_save hL
  have hx : f_X7_save G M X A = (M.1 5, va_up G 1 (f_X1_become (G 1) M), upd X 0 1) := by
    unfold f_X7_save
    simp only [bd_x]
  rw [← hz] at c2 f1
  refine ⟨by rw [hz, hx], f1, ⟨⟨_, _, c2, hT.far (f1 7 (by decide)) (f3 9 (by decide)) rfl (f4 5 (by decide))⟩, hM, fun g h1 h11 => ?_, ?_, ?_, htx, nl, hnl, (f1 8 (by decide)).trans e8, hln⟩⟩
  · rw [hz, hx]
    show GI (if g = 1 then f_X1_become (G 1) M else G g)
    by_cases c : g = 1
    · rw [if_pos c]; exact GI_bc (hGs 1 (Nat.le_refl _) (by decide)) hM rfl
    · rw [if_neg c]; exact hGs g h1 h11
  · obtain ⟨fr, hf, hn, e2, e3, hr⟩ := hh
    refine ⟨fr, hf, hn, (f1 2 (by decide)).trans e2, (f1 3 (by decide)).trans e3, fun i hi => ?_⟩
    rw [hz, hx]
    show EQG (va_up G 1 _ _) _ ∧ _
    rw [va_up_ne _ _ (show 2 + (fr + 8 - i) % 9 ≠ 1 by omega)]
    exact hr i hi
  · rw [hz, hx]
    refine ⟨show upd X 0 1 0 = 1 from upd_eq _ _ _, ?_, _, hL.1⟩
    show EQG (va_up G 1 (f_X1_become (G 1) M) 1) M
    rw [va_up_self]
    exact become_eq _ _
/-- clear -/
theorem P_clear (hO : OBx G M X A b h n sv t k) : ∀ z, z = f_X7_clear M X A → z.1 = M.1 5 ∧ z.2.1 = f_X1_reset M ∧ (∀ j, j ≠ 3 → z.2.2 j = X j) ∧ OBx G z.2.1 z.2.2 A b h 0 sv t k := by
  intro z hz
  have hO' := hO
  obtain ⟨⟨Y, B, hL, hT⟩, hM, hGs, hh, hs, htx, nl, hnl, e8, hln⟩ := hO
  have hx : f_X7_clear M X A = (M.1 5, f_X1_reset M, upd X 3 0) := by
    unfold f_X7_clear f_X3_forget
    simp only [bd_x]
  rw [hz, hx]
  refine ⟨rfl, rfl, fun j j3 => upd_ne _ _ j3, ?_⟩
  refine OBx.chh (z := (M.1 5, f_X1_reset M, upd X 3 0)) hO' (fun Y B hL => ⟨_, hx ▸ C_clear hL⟩) (GI_rs hM rfl) ?_
  obtain ⟨fr, hf, hn, e2, e3, hr⟩ := hh
  exact ⟨fr, hf, Nat.zero_le _, (show upd X 3 0 2 = X 2 from upd_ne _ _ (by decide)).trans e2, show upd X 3 0 3 = 0 from upd_eq _ _ _, fun i hi => absurd hi (Nat.not_lt_zero _)⟩
/-- a line is told: nothing else -/
theorem OBx.line (hO : OBx G M X A b h n sv t k) {T : List Nat} {X1 : Nat → Int32} {A1 : Nat → Nat → Int32} {b1 : cB} (hL : LK X A b T X1 A1 b1) (hT : T.length ≤ 110) : OBx G M X1 A1 b1 h n sv t k := by
  obtain ⟨⟨Y, B, hR, hTx⟩, hM, hGs, hh, hs, htx, nl, hnl, e8, hln⟩ := hO
  obtain ⟨x, a, e1, e2, e8', l1, l2, l3, l4, l5⟩ := hL
  refine ⟨⟨Y, B, ?_, ?_⟩, hM, hGs, hh.frame (x 2 (by decide) (by decide)) (x 3 (by decide) (by decide)), hs.frame (x 0 (by decide) (by decide)), ?_, T.length, hT, e8', ⟨l1, l2, l3, fun j => T.getD j 0, fun j hj => ?_⟩⟩
  · obtain ⟨g, s, r, v, e⟩ := hR
    refine ⟨g, s.far (x 6 (by decide) (by decide)) (fun k hk => a k (by omega)) rfl rfl, r.frame (x 2 (by decide) (by decide)) (x 3 (by decide) (by decide)) rfl, ?_, (x 1 (by decide) (by decide)).trans e⟩
    rw [x 0 (by decide) (by decide)]; exact v
  · exact hTx.far (x 7 (by decide) (by decide)) rfl (a 4 (by decide)) rfl
  · rw [a 4 (by decide), e2]; exact htx
  · refine ⟨Nat.lt_trans (l4 (T.getD j 0) ?_) (by decide), l5 j hj⟩
    rw [List.getD_eq_getElem?_getD, List.getElem?_eq_getElem hj]
    exact List.getElem_mem hj
/-- a letter is appended -/
theorem OBx.app (hO : OBx G M X A b h n sv t k) {ch a1 : Nat} {f1 : Nat → Int32} (h1 : 32 ≤ ch) (h2 : ch ≤ 126) (hk : k < 60) (q1 : ∀ j, j < k → f1 j = A 4 j) (q2 : f1 k = sb_b ch) (q3 : sb_Fit f1) :
    OBx G M (upd (upd X 9 (X 9)) 7 (nI (k + 1))) (fun i => if i = 4 then f1 else A i) (a1, sb_cap (k + 1) b.2.1, b.2.2) h n sv (fun j => if j = k then ch else t j) (k + 1) := by
  obtain ⟨⟨Y, B, hL, hT⟩, hM, hGs, hh, hs, htx, nl, hnl, e8, hln⟩ := hO
  have xo : ∀ i, i ≠ 7 → upd (upd X 9 (X 9)) 7 (nI (k + 1)) i = X i := fun i hi => by
    rw [upd_ne _ _ hi]
    by_cases e : i = 9
    · rw [e, upd_eq]
    · rw [upd_ne _ _ e]
  have yo : ∀ i, i ≠ 9 → upd Y 9 (nI (k + 1)) i = Y i := fun i hi => upd_ne _ _ hi
  have bo : ∀ i, i ≠ 5 → up2 B 5 k (nI ch) i = B i := fun i hi => up2_ne _ _ _ hi
  refine ⟨⟨upd Y 9 (nI (k + 1)), up2 B 5 k (nI ch), ?_, ?_⟩, hM, hGs, hh.frame (xo 2 (by decide)) (xo 3 (by decide)), hs.frame (xo 0 (by decide)), ?_, nl, hnl, (xo 8 (by decide)).trans e8, ?_⟩
  · obtain ⟨g, s, r, v, e1⟩ := hL
    refine ⟨by rw [bo 0 (by decide)]; exact g, s.far (xo 6 (by decide)) (fun i hi => if_neg (by omega)) (yo 16 (by decide)) (bo 7 (by decide)), by rw [bo 2 (by decide)]; exact r.frame (xo 2 (by decide)) (xo 3 (by decide)) (yo 3 (by decide)), ?_, ?_⟩
    · rw [xo 0 (by decide), yo 5 (by decide), bo 3 (by decide)]; exact v
    · rw [xo 1 (by decide), yo 14 (by decide)]; exact e1
  · refine hT.app h1 h2 hk (upd_eq _ _ _) (fun j hj => ?_) ?_
    · show (if (4 : Nat) = 4 then f1 else A 4) j = _
      rw [if_pos rfl]; exact q1 j hj
    · show (if (4 : Nat) = 4 then f1 else A 4) k = _
      rw [if_pos rfl]; exact q2
  · have cap : k + 1 ≤ sb_cap (k + 1) b.2.1 := sb_cap_ge _ _
    have cap2 : sb_cap (k + 1) b.2.1 ≤ 32766 := (lcap_le (q := k + 1) (by omega) htx.2.1).1
    refine ⟨cap, cap2, ?_, ?_⟩
    · show sb_Fit (if (4 : Nat) = 4 then f1 else A 4)
      rw [if_pos rfl]; exact q3
    · obtain ⟨u, hu⟩ := htx.2.2.2
      refine ⟨fun j => if j = k then ch else u j, fun j hj => ?_⟩
      show _ ∧ (if (4 : Nat) = 4 then f1 else A 4) j = _
      rw [if_pos rfl]
      dsimp only
      by_cases e : j = k
      · subst e
        rw [if_pos rfl]; exact ⟨by omega, q2⟩
      · rw [if_neg e, q1 j (by omega)]; exact hu j (by omega)
  · show TX nl b.2.2.2 (if (5 : Nat) = 4 then f1 else A 5)
    rw [if_neg (by decide)]; exact hln
theorem OBx.k6 (hO : OBx G M X A b h n sv t k) : vp_in (X 6) 4 := by
  obtain ⟨⟨Y, B, hL, hT⟩, -⟩ := hO
  obtain ⟨d, hd, e6, -⟩ := hL.2.1
  rw [e6]; exact vp_in_nI (by omega) (by decide)
theorem OBx.gi (hO : OBx G M X A b h n sv t k) : GI M := hO.2.1
theorem OBx.f2 (hO : OBx G M X A b h n sv t k) : vp_in (X 2) 9 := hO.2.2.2.1.v2
theorem OBx.gf (hO : OBx G M X A b h n sv t k) : GI (G (2 + (X 2).toNatClampNeg)) := hO.2.2.1 _ (by omega) (by have := vp_lt hO.f2; omega)
theorem OBx.gb (hO : OBx G M X A b h n sv t k) : GI (G (2 + (tbx (X 2)).toNatClampNeg)) := hO.2.2.1 _ (by omega) (by have := vp_lt (tb_in hO.f2); omega)
theorem OBx.g1 (hO : OBx G M X A b h n sv t k) : GI (G 1) := hO.2.2.1 1 (Nat.le_refl _) (by decide)
theorem OBx.x7 (hO : OBx G M X A b h n sv t k) : X 7 = nI k := by
  obtain ⟨⟨Y, B, hL, hT⟩, -⟩ := hO
  exact hT.2.1
theorem OBx.k60 (hO : OBx G M X A b h n sv t k) : k ≤ 60 := by
  obtain ⟨⟨Y, B, hL, hT⟩, -⟩ := hO
  exact hT.1
theorem OBx.x3 (hO : OBx G M X A b h n sv t k) : X 3 = nI n := by
  obtain ⟨fr, hf, hn, e2, e3, hr⟩ := hO.2.2.2.1
  exact e3
theorem OBx.tx (hO : OBx G M X A b h n sv t k) : TX k b.2.1 (A 4) := hO.2.2.2.2.2.1
theorem OBx.inp (hO : OBx G M X A b h n sv t k) : IN X A b := by
  have e : (X 7).toNatClampNeg = k := by rw [hO.x7, nI_clamp (by have := hO.k60; omega)]
  exact ⟨by rw [e]; exact hO.x7, by rw [e]; exact hO.tx⟩
end A8

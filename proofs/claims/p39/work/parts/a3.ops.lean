/-! ===== the changes, one by one ===== -/
section A5
variable {G : Nat → gM} {M N : gM} {X : Nat → Int32} {A : Nat → Nat → Int32} {b : cB} {h : Nat → gM} {n : Nat} {sv : Option gM} {t : Nat → Nat} {k : Nat}
theorem P_rink (hO : OBx G M X A b h n sv t k) (p1 p2 : Int32) (hg : GI (f_X7_rink G M X A p1 p2).2.2.1) : RES G M X A b h n sv t k (f_X7_rink G M X A p1 p2) (fun a => vp_in a 4) := by
  have hO' := hO
  obtain ⟨⟨Y, B, hL, hT⟩, -⟩ := hO'
  exact hO.op (i_rink hL.1 p1 p2) (fun a q => vp_nc q) (by unfold f_X7_rink; simp only [bd_x]) hg (fun Y B hL => ⟨_, C_rink hL p1 p2⟩)
theorem P_wood (hO : OBx G M X A b h n sv t k) (p1 p2 : Int32) (hg : GI (f_X7_wood G M X A p1 p2).2.2.1) : RES G M X A b h n sv t k (f_X7_wood G M X A p1 p2) (fun a => vp_in a 16) := by
  have hO' := hO
  obtain ⟨⟨Y, B, hL, hT⟩, -⟩ := hO'
  exact hO.op (i_wood hL.1 p1 p2) (fun a q => vp_nc q) (by unfold f_X7_wood; simp only [bd_x]) hg (fun Y B hL => ⟨_, C_wood hL p1 p2⟩)
theorem P_begin (hO : OBx G M X A b h n sv t k) (p1 p2 : Int32) (hg : GI (f_X7_begin G M X A p1 p2).2.2.1) : RES G M X A b h n sv t k (f_X7_begin G M X A p1 p2) (fun a => vp_in a 2) := by
  have hO' := hO
  obtain ⟨⟨Y, B, hL, hT⟩, -⟩ := hO'
  exact hO.op (i_begin hL.1 p1 p2) (fun a q => vp_nc q) (by unfold f_X7_begin; simp only [bd_x]) hg (fun Y B hL => ⟨_, C_begin hL p1 p2⟩)
theorem P_bowl (hO : OBx G M X A b h n sv t k) (p1 p2 p3 p4 p5 : Int32) (hg : GI (f_X7_bowl G M X A p1 p2 p3 p4 p5).2.2.1) : RES G M X A b h n sv t k (f_X7_bowl G M X A p1 p2 p3 p4 p5) (fun a => a = -4 ∨ vp_in a 10000) := by
  have hO' := hO
  obtain ⟨⟨Y, B, hL, hT⟩, -⟩ := hO'
  exact hO.op (i_bowl hL.2.1 hL.1 p1 p2 p3 p4 p5) (fun a q => q.elim (fun e c => by subst e; rcases c with c | c | c <;> exact absurd c (by decide)) vp_nc) (by unfold f_X7_bowl; simp only [bd_x]) hg (fun Y B hL => ⟨_, C_bowl hL p1 p2 p3 p4 p5⟩)
theorem P_close (hO : OBx G M X A b h n sv t k) (p1 : Int32) (hg : GI (f_X7_close G M X A p1).2.2.1) : RES G M X A b h n sv t k (f_X7_close G M X A p1) (fun a => vp_in a 20) := by
  have hO' := hO
  obtain ⟨⟨Y, B, hL, hT⟩, -⟩ := hO'
  exact hO.op (i_close hL.1 p1) (fun a q => vp_nc q) (by unfold f_X7_close; simp only [bd_x]) hg (fun Y B hL => ⟨_, C_close hL p1⟩)
theorem P_sweep (hO : OBx G M X A b h n sv t k) (p1 : Int32) (hg : GI (f_X7_sweep G M X A p1).2.2.1) : RES G M X A b h n sv t k (f_X7_sweep G M X A p1) (fun a => vp_in a 10) := by
  have hO' := hO
  obtain ⟨⟨Y, B, hL, hT⟩, -⟩ := hO'
  exact hO.op (i_sweep hL.1 p1) (fun a q => vp_nc q) (by unfold f_X7_sweep; simp only [bd_x]) hg (fun Y B hL => ⟨_, C_sweep hL p1⟩)
theorem P_rain (hO : OBx G M X A b h n sv t k) (p1 : Int32) (hg : GI (f_X7_rain G M X A p1).2.2.1) : RES G M X A b h n sv t k (f_X7_rain G M X A p1) (fun a => vp_in a 10) := by
  have hO' := hO
  obtain ⟨⟨Y, B, hL, hT⟩, -⟩ := hO'
  exact hO.op (i_rain hL.1 p1) (fun a q => vp_nc q) (by unfold f_X7_rain; simp only [bd_x]) hg (fun Y B hL => ⟨_, C_rain hL p1⟩)
theorem P_sun (hO : OBx G M X A b h n sv t k) (p1 : Int32) (hg : GI (f_X7_sun G M X A p1).2.2.1) : RES G M X A b h n sv t k (f_X7_sun G M X A p1) (fun a => vp_in a 10) := by
  have hO' := hO
  obtain ⟨⟨Y, B, hL, hT⟩, -⟩ := hO'
  exact hO.op (i_sun hL.1 p1) (fun a q => vp_nc q) (by unfold f_X7_sun; simp only [bd_x]) hg (fun Y B hL => ⟨_, C_sun hL p1⟩)
theorem P_brew (hO : OBx G M X A b h n sv t k) (p1 : Int32) (hg : GI (f_X7_brew G M X A p1).2.2.1) : RES G M X A b h n sv t k (f_X7_brew G M X A p1) (fun a => vp_in a 41) := by
  have hO' := hO
  obtain ⟨⟨Y, B, hL, hT⟩, -⟩ := hO'
  exact hO.op (i_brew hL.1 p1) (fun a q => vp_nc q) (by unfold f_X7_brew; simp only [bd_x]) hg (fun Y B hL => ⟨_, C_brew hL p1⟩)
theorem P_tea (hO : OBx G M X A b h n sv t k) (p1 : Int32) (hg : GI (f_X7_tea G M X A p1).2.2.1) : RES G M X A b h n sv t k (f_X7_tea G M X A p1) (fun a => vp_in a 11) := by
  have hO' := hO
  obtain ⟨⟨Y, B, hL, hT⟩, -⟩ := hO'
  exact hO.op (i_tea hL.2.1 hL.1 p1) (fun a q => vp_nc q) (by unfold f_X7_tea; simp only [bd_x]) hg (fun Y B hL => ⟨_, C_tea hL p1⟩)
theorem P_hour (hO : OBx G M X A b h n sv t k) (p1 : Int32) (hg : GI (f_X7_hour G M X A p1).2.2.1) : RES G M X A b h n sv t k (f_X7_hour G M X A p1) (fun a => vp_in a 37) := by
  have hO' := hO
  obtain ⟨⟨Y, B, hL, hT⟩, -⟩ := hO'
  exact hO.op (i_hour hL.2.1 hL.1 p1) (fun a q => vp_nc q) (by unfold f_X7_hour; simp only [bd_x]) hg (fun Y B hL => ⟨_, C_hour hL p1⟩)
end A5
section A6
variable {G : Nat → gM} {M N : gM} {X Y : Nat → Int32} {A B : Nat → Nat → Int32} {b : cB} {h : Nat → gM} {n m : Nat} {sv : Option gM} {t : Nat → Nat} {k : Nat}
theorem keep_o {N : gM} {Z : Nat → Int32} {C : Nat → Nat → Int32} {j : Nat} (x : j ≠ 2) (y : j ≠ 3) : f_X3_keep N Z C j = Z j := by
  unfold f_X3_keep
  rw [upd_ne _ _ y, upd_ne _ _ x]
/-- a script of the class: what it leaves alone, what it answers -/
theorem scr_cls (hL : RLL G M X A Y B) (ht : RT X A Y B t m) (f1 : Nat → Int32) : (f_X7_script G M X A f1).2.2.2.1 0 = X 0 ∧
    ((pA t m 31 0).1 = false → (f_X7_script G M X A f1).1 = -2 ∧ (f_X7_script G M X A f1).2.2.1 = M ∧ (f_X7_script G M X A f1).2.2.2.1 2 = X 2 ∧ (f_X7_script G M X A f1).2.2.2.1 3 = X 3 ∧ (f_X7_script G M X A f1).2.2.2.1 1 = nI (pA t m 31 0).2.1 ∧ (f_X7_script G M X A f1).2.2.2.1 6 = X 6 ∧ ∀ i, i = 2 ∨ i = 3 → (f_X7_script G M X A f1).2.2.2.2 i = A i) ∧
    ((pA t m 31 0).1 = true → (f_X7_script G M X A f1).2.2.2.1 1 = X 1 ∧ (((f_X7_script G M X A f1).1 = -3 ∧ EQG (f_X7_script G M X A f1).2.2.1 M ∧ (f_X7_script G M X A f1).2.2.2.1 2 = X 2 ∧ (f_X7_script G M X A f1).2.2.2.1 3 = X 3) ∨
      (∃ N X2 A2, (f_X7_script G M X A f1).1 = nI (pA t m 31 0).2.2.length ∧ X2 2 = X 2 ∧ X2 3 = X 3 ∧ (f_X7_script G M X A f1).2.2.2.1 = f_X3_keep N X2 A2))) := by
  obtain ⟨t0, t1, t2⟩ := tries_0 (Y := Y) (B := B)
  have hts := ht
  obtain ⟨hn, e7, e9, hj⟩ := ht
  have hX0 : ∀ k, k ≠ 4 → k ≠ 5 → upd (upd X 4 0) 5 0 k = X k := fun k a b => (upd_ne _ _ b).trans (upd_ne _ _ a)
  obtain ⟨a1, a2, a3, a4, -, -, a7⟩ := cl_read (M := M) (t := t) (n := m) (Y := Y) (B := B) 31 0 0 (upd (upd X 4 0) 5 0) A rfl (Nat.zero_le _) ⟨hn, (hX0 7 (by decide) (by decide)).trans e7, e9, hj⟩ (Nat.zero_le _) (upd_eq _ _ _) ((upd_ne _ _ (by decide)).trans (upd_eq _ _ _))
  have a3' : ∀ j, j ≠ 4 → j ≠ 5 → (f_X2_read_l12 M 31 0 (upd (upd X 4 0) 5 0) A).2.1 j = X j := fun j x y => (a3 j x y).trans (hX0 j x y)
  unfold f_X7_script f_X2_read f_X7_keepFault
  simp only [bd_x]
  generalize f_X2_read_l12 M 31 0 (upd (upd X 4 0) 5 0) A = z at a1 a2 a3' a4 a7 ⊢
  clear a3
  have hS0 := hL.2.1
  have hG0 := hL.1
  by_cases ok : (pA t m 31 0).1 = true
  · rw [if_pos ok] at a1
    rw [if_neg (show ¬ z.1 = 0 by rw [a1]; decide)]
    obtain ⟨x4, hLL⟩ := a7 ok
    rw [Nat.zero_add] at x4
    have hS1 : RS z.2.1 z.2.2 (upd Y 10 0) B := hS0.far (a3' 6 (by decide) (by decide)) (fun k hk => a4 k (by omega) (by omega)) (upd_ne _ _ (by decide)) rfl
    have run := run_l (t := t) (n := m) (G := f_X3_note G M X A) 31 0 0 31 63 0 0 M z.2.1 z.2.2 (upd Y 10 0) B rfl (Nat.zero_le _) (Nat.le_refl _) (by decide) ⟨hn, (a3' 7 (by decide) (by decide)).trans e7, (upd_ne _ _ (by decide)).trans e9, fun j hjn => by
      rw [a4 4 (by decide) (by decide)]; exact hj j hjn⟩ (Nat.zero_le _) (upd_eq _ _ _) ok (by rw [Nat.zero_add]; exact x4) hS1 hG0 hLL
    have hlen := pA_len (t := t) (n := m) 31 0
    unfold f_X7_carryOutOrders
    generalize f_X7_carryOutOrders_l2 (f_X3_note G M X A) 31 0 M z.2.1 z.2.2 = zz at run ⊢
    generalize f_X8_script_l86 63 0 (nI 0) 0 1 (upd Y 10 0) B = ww at run
    rw [Nat.zero_add] at run
    clear hLL x4 a7 a2
    generalize pA t m 31 0 = pa at run a1 ok hlen ⊢
    rcases run with ⟨M1, X1, A1, r0, -, -, -, -, rF⟩ | ⟨M1, X1, A1, o, c, -, r0, -, -, r4, rS0, rF⟩
    · subst r0
      have hF := rF.1
      have es := settle_d (N := M1) (X := upd (upd X1 9 (if (X1 7).toNatClampNeg ≤ 0 then X1 9 else 1)) 7 (nI 0)) (A := fun k => if k = 4 then f1 else A1 k) (ncode (N := 32) (vp_in_nI (n := pa.2.2.length) (by omega) (by decide)))
      have o2 : ∀ k, k ≠ 7 → k ≠ 9 → upd (upd X1 9 (if (X1 7).toNatClampNeg ≤ 0 then X1 9 else 1)) 7 (nI 0) k = X1 k := fun k x y => (upd_ne _ _ x).trans (upd_ne _ _ y)
      generalize upd (upd X1 9 (if (X1 7).toNatClampNeg ≤ 0 then X1 9 else 1)) 7 (nI 0) = Z at es o2 ⊢
      have k0 := keep_o (N := M1) (Z := Z) (C := fun k => if k = 4 then f1 else A1 k) (j := 0) (by decide) (by decide)
      have k1 := keep_o (N := M1) (Z := Z) (C := fun k => if k = 4 then f1 else A1 k) (j := 1) (by decide) (by decide)
      generalize hK : f_X3_keep M1 Z (fun k => if k = 4 then f1 else A1 k) = K at es k0 k1
      rw [es]
      exact ⟨k0.trans ((o2 0 (by decide) (by decide)).trans ((hF 0 (by decide)).trans (a3' 0 (by decide) (by decide)))), fun q => absurd (ok.symm.trans q) (by decide), fun _ => ⟨k1.trans ((o2 1 (by decide) (by decide)).trans ((hF 1 (by decide)).trans (a3' 1 (by decide) (by decide)))), Or.inr ⟨M1, Z, _, rfl, (o2 2 (by decide) (by decide)).trans ((hF 2 (by decide)).trans (a3' 2 (by decide) (by decide))), (o2 3 (by decide) (by decide)).trans ((hF 3 (by decide)).trans (a3' 3 (by decide) (by decide))), hK.symm⟩⟩⟩
    · subst r0
      have hF := rF.1
      have x2 : X1 2 = X 2 := (hF 2 (by decide)).trans (a3' 2 (by decide) (by decide))
      have gpb : EQG (f_X3_putBack (f_X3_note G M X A) M1 X1 A1) M := by
        unfold f_X3_putBack
        rw [bd_x, x2, note_eq, va_up_self]
        exact (become_eq _ _).tr (become_eq _ _)
      generalize f_X3_putBack (f_X3_note G M X A) M1 X1 A1 = pb at gpb ⊢
      have hrf : (f_X7_refuseScript pb X1 A1 (nI o) c).1 = -3 ∧ FC X1 (f_X7_refuseScript pb X1 A1 (nI o) c).2.1 := by
        obtain ⟨e1, e2, -⟩ := script_ref (M := pb) (p2 := c) (q := nI o) rS0 (fun e => r4.elim (fun q => absurd (q.symm.trans e) (by decide)) (fun q => q.elim (fun q => absurd (q.symm.trans e) (by decide)) (fun q => q.2)))
        exact ⟨e1, e2⟩
      obtain ⟨h3, hFC⟩ := hrf
      generalize f_X7_refuseScript pb X1 A1 (nI o) c = rs at h3 hFC ⊢
      have es := settle_c (N := pb) (X := upd (upd rs.2.1 9 (if (rs.2.1 7).toNatClampNeg ≤ 0 then rs.2.1 9 else 1)) 7 (nI 0)) (A := fun k => if k = 4 then f1 else rs.2.2 k) (p := rs.1) (Or.inr (Or.inr h3))
      rw [es]
      have o2 : ∀ k, k ≠ 7 → k ≠ 9 → k ≠ 6 → k ≠ 4 → k ≠ 5 → upd (upd rs.2.1 9 (if (rs.2.1 7).toNatClampNeg ≤ 0 then rs.2.1 9 else 1)) 7 (nI 0) k = X k := fun k x y v u w => (upd_ne _ _ x).trans ((upd_ne _ _ y).trans ((hFC k v).trans ((hF k v).trans (a3' k u w))))
      refine ⟨o2 0 (by decide) (by decide) (by decide) (by decide) (by decide), fun q => absurd (ok.symm.trans q) (by decide), fun _ => ⟨o2 1 (by decide) (by decide) (by decide) (by decide) (by decide), Or.inl ⟨h3, gpb, o2 2 (by decide) (by decide) (by decide) (by decide) (by decide), o2 3 (by decide) (by decide) (by decide) (by decide) (by decide)⟩⟩⟩
  · rw [if_neg ok] at a1
    rw [if_pos a1]
    clear a7
    generalize pA t m 31 0 = pa at a1 a2 ok ⊢
    have es := settle_c (N := M) (X := upd (upd (upd z.2.1 1 (z.2.1 5)) 9 (if ((upd z.2.1 1 (z.2.1 5)) 7).toNatClampNeg ≤ 0 then (upd z.2.1 1 (z.2.1 5)) 9 else 1)) 7 (nI 0)) (A := fun k => if k = 4 then f1 else z.2.2 k) (p := -2) (Or.inr (Or.inl rfl))
    rw [es]
    have o2 : ∀ k, k ≠ 7 → k ≠ 9 → k ≠ 1 → k ≠ 4 → k ≠ 5 → upd (upd (upd z.2.1 1 (z.2.1 5)) 9 (if ((upd z.2.1 1 (z.2.1 5)) 7).toNatClampNeg ≤ 0 then (upd z.2.1 1 (z.2.1 5)) 9 else 1)) 7 (nI 0) k = X k := fun k x y v u w => (upd_ne _ _ x).trans ((upd_ne _ _ y).trans ((upd_ne _ _ v).trans (a3' k u w)))
    refine ⟨o2 0 (by decide) (by decide) (by decide) (by decide) (by decide), fun _ => ⟨rfl, rfl, o2 2 (by decide) (by decide) (by decide) (by decide) (by decide), o2 3 (by decide) (by decide) (by decide) (by decide) (by decide), ?_, o2 6 (by decide) (by decide) (by decide) (by decide) (by decide), fun i hi => ?_⟩, fun q => absurd q ok⟩
    · show upd (upd (upd z.2.1 1 (z.2.1 5)) 9 (if ((upd z.2.1 1 (z.2.1 5)) 7).toNatClampNeg ≤ 0 then (upd z.2.1 1 (z.2.1 5)) 9 else 1)) 7 (nI 0) 1 = _
      rw [upd_ne _ _ (show (1 : Nat) ≠ 7 by decide), upd_ne _ _ (show (1 : Nat) ≠ 9 by decide), upd_eq]
      exact a2
    · exact (if_neg (by omega)).trans (a4 i (by omega) (by omega))
/-- a script, of an object -/
theorem P_script (hO : OBx G M X A b h n sv t k) {f1 : Nat → Int32} {a1 : Nat} (q3 : sb_Fit f1) (hg : GI (f_X7_script G M X A f1).2.2.1) : ∀ z, z = f_X7_script G M X A f1 →
    (((z.1 = -2 ∨ z.1 = -3) ∧ EQG z.2.2.1 M ∧ OBx z.2.1 z.2.2.1 z.2.2.2.1 z.2.2.2.2 (a1, b.2.1, b.2.2) h n sv t 0) ∨
    (vp_in z.1 32 ∧ OBx z.2.1 z.2.2.1 z.2.2.2.1 z.2.2.2.2 (a1, b.2.1, b.2.2) (pu M h) (min 8 (n + 1)) sv t 0)) := by
  intro z hz
  have hO' := hO
  obtain ⟨⟨Y, B, hL, hT⟩, hM, hGs, hh, hs, htx, nl, hnl, e8, hln⟩ := hO
  obtain ⟨c1, c2, ⟨⟨x8, x10⟩, a5, y7, ⟨b4, b5⟩, x7, y9⟩, hn, -, -⟩ := C_script hL hT f1
  obtain ⟨s0, sF, sT⟩ := scr_cls hL hT f1
  have a4 : (f_X7_script G M X A f1).2.2.2.2 4 = f1 := by
    unfold f_X7_script
    simp only [bd_x]
    by_cases c : (f_X2_read M X A).1 = 0
    · rw [if_pos c]
      rfl
    · rw [if_neg c]
      rfl
  have hlen := pA_len (t := t) (n := k) 31 0
  rw [← hz] at c2 x8 a5 x7 hn s0 sF sT a4 hg
  have hR : RT z.2.2.2.1 z.2.2.2.2 (f_X8_script Y B).2.1 (f_X8_script Y B).2.2 t 0 := ⟨by decide, x7, y9, fun j hj => absurd hj (Nat.not_lt_zero _)⟩
  have hgs' : ∀ g, 1 ≤ g → g < 11 → GI (z.2.1 g) := by
    rw [hn, note_eq]
    exact GI.note hM hGs hh.v2
  have hs' : SV z.2.1 z.2.2.2.1 sv := by
    refine SV.frame ?_ s0
    rw [hn, note_eq]
    exact hs.note
  have ht0 : TX 0 b.2.1 (z.2.2.2.2 4) := ⟨Nat.zero_le _, htx.2.1, by rw [a4]; exact q3, fun _ => 0, fun j hj => absurd hj (Nat.not_lt_zero _)⟩
  have hl2 : TX nl b.2.2.2 (z.2.2.2.2 5) := by rw [a5]; exact hln
  have mk : ∀ h' n', HI z.2.1 z.2.2.2.1 h' n' → OBx z.2.1 z.2.2.1 z.2.2.2.1 z.2.2.2.2 (a1, b.2.1, b.2.2) h' n' sv t 0 := fun h' n' hh' => ⟨⟨_, _, c2, hR⟩, hg, hgs', hh', hs', ht0, nl, hnl, x8.trans e8, hl2⟩
  have code : ∀ (e2 : z.2.2.2.1 2 = X 2) (e3 : z.2.2.2.1 3 = X 3), HI z.2.1 z.2.2.2.1 h n := fun e2 e3 => by
    refine HI.frame ?_ e2 e3
    rw [hn, note_eq]
    exact hh.note
  by_cases ok : (pA t k 31 0).1 = true
  · obtain ⟨-, ⟨h3, hE, e2, e3⟩ | ⟨N, X2, A2, e1, e2, e3, eX⟩⟩ := sT ok
    · exact Or.inl ⟨Or.inr h3, hE, mk _ _ (code e2 e3)⟩
    · refine Or.inr ⟨by rw [e1]; exact vp_in_nI (by omega) (by decide), mk _ _ ?_⟩
      rw [eX, hn, note_eq]
      have q := (hh.frame e2 e3).keep (M := M) (N := N) (A := A2) ⟨_, hL.1⟩
      rw [e2] at q
      exact q
  · obtain ⟨h2, hE, e2, e3, -⟩ := sF (by simpa using ok)
    exact Or.inl ⟨Or.inl h2, hE ▸ EQG.rf, mk _ _ (code e2 e3)⟩
end A6

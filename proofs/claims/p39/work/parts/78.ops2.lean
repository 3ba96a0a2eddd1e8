section OP2
variable {M : gM} {f : Nat → Int32} {X Y : Nat → Int32} {A B : Nat → Nat → Int32}
theorem sr_o {r q j : Nat} {v : Int32} (h : q ≠ r) : (sr M r j v).2.1 q = M.2.1 q := up2_ne _ _ _ h
theorem sr_r {r j : Nat} {v : Int32} : (sr M r j v).2.1 r = upd (M.2.1 r) j v := up2_eq _ _ _ _
/-- a rink's row, its jack, strings and woods as they were -/
theorem GR.rink1 {g : Nat → Int32} {M1 : gM} {r : Nat} (h : GR M f) (hr : r < 4) (hc : ¬ M.1 3 ≤ nI r) (h1 : M1.1 = M.1) (h2 : M1.2.2 = M.2.2) (ho : ∀ q, q ≠ r → M1.2.1 q = M.2.1 q) (hf : ∀ k, k < 169 → ¬ (17 + 10 * r ≤ k ∧ k < 17 + 10 * r + 10) → g k = f k)
    (hR : RR M1 g r) (e0 : M1.2.1 r 0 = M.2.1 r 0) (e1 : M1.2.1 r 1 = M.2.1 r 1) (e4 : M1.2.1 r 4 = M.2.1 r 4) (e8 : M1.2.1 r 8 = M.2.1 r 8) (e9 : M1.2.1 r 9 = M.2.1 r 9) : GR M1 g :=
  h.rink hr h1 h2 ho hf hR e0 e1 (Or.inl e4) (fun c hc2 => by
    rcases (show c = 0 ∨ c = 1 by omega) with rfl | rfl
    · show _ ≤ (M1.2.1 r 8).toNatClampNeg
      rw [e8]; exact h.2.2.2.2.2 r hr hc 0 (by decide)
    · show _ ≤ (M1.2.1 r 9).toNatClampNeg
      rw [e9]; exact h.2.2.2.2.2 r hr hc 1 (by decide))
theorem srr (k j : Nat) {p v : Int32} (hk : k < 2 ^ 31) (hp : p.toNatClampNeg = j) : f_X8_setsRink X A (nI k) p v = up2 A 0 (17 + 10 * k + j) v := by
  unfold f_X8_setsRink
  rw [nI_clamp hk, hp]
theorem srw (k j : Nat) {p v : Int32} (hk : k < 2 ^ 31) (hp : p.toNatClampNeg = j) : f_X8_setsWood X A (nI k) p v = up2 A 0 (57 + 7 * k + j) v := by
  unfold f_X8_setsWood
  rw [nI_clamp hk, hp]
theorem R_sweep (hR : RS X A Y B) (hG : GR M (B 0)) (p : Int32) : OpR X A Y B (f_X7_sweepRink M X A p) (f_X8_sweeps Y B p) := by
  unfold f_X7_sweepRink f_X8_sweeps f_X8_does f_X1_drink
  simp only [bd_x]
  rw [q_isRink hG]
  by_cases z : f_X1_isRink M p = 0
  · rw [if_pos z, if_pos z]; exact op_code hR hG (Or.inl rfl)
  rw [if_neg z, if_neg z]
  obtain ⟨r, rfl, hr, hc⟩ := rink_of hG z
  have hRR := hG.r (by omega) hc
  have hk : (nI r).toNatClampNeg = r := nI_clamp (by omega)
  rw [hk, orr r 3 (by omega) rfl, hRR.1.2.2.2.1]
  by_cases a : M.2.1 r 3 = 0
  · rw [if_pos a, if_pos a]; exact op_refuse hG 9 (nI r)
  rw [if_neg a, if_neg a, hG.1.2.2.2.2.2.2.1]
  obtain ⟨j, hj, ej⟩ := vp_in_of hRR.2.2.2.2.1 (by decide)
  have e2 : (M.2.1 r 3 + 3 - 1) / 3 = (M.2.1 r 3 + 2) / 3 := by
    rw [ej, show nI j + 3 = nI (j + 2 + 1) from nI_add j 3, nI_pred, show nI j + 2 = nI (j + 2) from nI_add j 2]
  rw [e2]
  obtain ⟨m, hm, em⟩ := vp_in_of hG.2.2.1.2.2.2.2.1 (by decide)
  have e3 : (M.2.1 r 3 + 2) / 3 = nI ((j + 2) / 3) := by
    rw [ej, show nI j + 2 = nI (j + 2) from nI_add j 2, show (3 : Int32) = nI 3 from rfl, pk_div (by omega) (by decide) (by decide)]
  by_cases b : (M.2.1 r 3 + 2) / 3 ≤ M.1 8
  · rw [if_pos b, if_pos b]
    rw [srr r 3 (by omega) rfl]
    have hle : (j + 2) / 3 ≤ m := by
      rw [e3, em] at b
      exact (nI_leI (by omega) (by omega)).mp b
    refine op_done hR ?_ (((FAm.rf.up).up).up).up ?_ (ncode hRR.2.2.2.2.1)
    · have h1 : GR (sr M r 3 0) (upd (B 0) (17 + 10 * r + 3) 0) := by
        obtain ⟨⟨y0, y1, y2, y3, y4, y5, y6, y7, y8, y9⟩, v0, v1, v2, v3, v4, v5, v6, v7, v8⟩ := hRR
        change B 0 (17 + 10 * r) = _ at y0
        refine hG.rink1 hr hc rfl rfl (fun q hq => sr_o hq) (fun k _ hk2 => upd_ne _ _ (by omega)) ⟨⟨?_, ?_, ?_, ?_, ?_, ?_, ?_, ?_, ?_, ?_⟩, ?_, ?_, ?_, ?_, ?_, ?_, ?_, ?_, ?_⟩ ?_ ?_ ?_ ?_ ?_ <;> rw [sr_r] <;> simp [upd, *]
        exact vp_in_nI (n := 0) (by decide) (by decide)
      show GR _ (up2 _ 0 _ _ 0)
      rw [up2_eq, up2_eq, up2_eq, up2_eq]
      refine h1.scal rfl rfl rfl (fun k hk => ?_) ⟨?_, ?_, ?_, ?_, ?_, ?_, ?_, ?_, ?_⟩ ⟨?_, ?_, ?_⟩
      · by_cases e : k = 17 + 10 * r + 3
        · rw [e, upd_eq, upd_eq]
        · rw [upd_ne _ _ e, upd_ne _ _ e, upd_ne _ _ (by omega), upd_ne _ _ (by omega), upd_ne _ _ (by omega)]
      · rw [upd_ne _ _ (by omega)]; simp [upd, sg, sr]; exact hG.1.1
      · rw [upd_ne _ _ (by omega)]; simp [upd, sg, sr]; exact hG.1.2.1
      · rw [upd_ne _ _ (by omega)]; simp [upd, sg, sr]; exact hG.1.2.2.1
      · rw [upd_ne _ _ (by omega), upd_ne (B 0) (a := 3) _ (by omega)]; simp [upd]
      · rw [upd_ne _ _ (by omega), upd_ne (B 0) (a := 4) _ (by omega)]; simp [upd]
      · rw [upd_ne _ _ (by omega), upd_ne (B 0) (a := 5) _ (by omega)]; simp [upd]
      · rw [upd_ne _ _ (by omega)]; simp [upd, sg, sr]
      · rw [upd_ne _ _ (by omega)]; simp [upd, sg, sr]; rw [hG.1.2.2.2.2.2.2.2.1]
      · rw [upd_ne _ _ (by omega)]; simp [upd, sg, sr]; rw [hG.1.2.2.2.2.2.2.2.2]
      · simp [upd, sg, sr]; exact hG.2.2.1.2.2.1
      · simp [upd, sg, sr]; exact hG.2.2.1.2.2.2.1
      · simp [upd, sg, sr]
        rw [e3, em, pk_sub hle]; exact vp_in_nI (by omega) (by decide)
    · show up2 _ 0 _ _ 7 = _
      rw [up2_ne _ _ _ (by decide), up2_ne _ _ _ (by decide), up2_ne _ _ _ (by decide), up2_ne _ _ _ (by decide)]
  · rw [if_neg b, if_neg b]; exact op_refuse hG 10 _
theorem R_tea (hR : RS X A Y B) (hG : GR M (B 0)) (p : Int32) : OpR X A Y B (f_X7_giveTea M X A p) (f_X8_drinks Y B p) := by
  unfold f_X7_giveTea f_X8_drinks f_X8_does f_X1_drink
  simp only [bd_x]
  rw [q_isClub (M := M) (X1 := X) (A1 := A)]
  by_cases z : f_X7_isClub M X A p = 0
  · rw [if_pos z, if_pos z]; exact op_code hR hG (Or.inl rfl)
  rw [if_neg z, if_neg z]
  obtain ⟨c, rfl, hc⟩ := club_is z
  have hk : (nI c).toNatClampNeg = c := nI_clamp (by omega)
  obtain ⟨m, hm, em⟩ := vp_in_of hG.2.2.1.2.2.2.2.1 (by decide)
  obtain ⟨hcv, hct⟩ := hG.2.2.1.2.2.2.2.2 c hc
  obtain ⟨n, hn, en⟩ := vp_in_of hcv (by decide)
  have c2 : B 0 (9 + 4 * c + 2) = M.2.2.2 c 2 := hG.2.1 c hc 2 (by decide)
  have c3 : B 0 (9 + 4 * c + 3) = M.2.2.2 c 3 := hG.2.1 c hc 3 (by decide)
  have et : M.2.2.2 c 3 = nI (10 - n) := by
    have e10 : (10 : Int32) = nI 10 := rfl
    have : M.2.2.2 c 3 = 10 - M.2.2.2 c 2 := by rw [← hct, Int32.add_comm, Int32.add_sub_cancel]
    rw [this, en, e10, pk_sub (by omega)]
  rw [hk, hG.1.2.2.2.2.2.2.1, c2]
  by_cases a : M.1 8 = 0
  · rw [if_pos a, if_neg (show ¬ 1 ≤ M.1 8 by rw [a]; decide), a]
    exact op_refuse hG 10 1
  have a1 : 1 ≤ M.1 8 := by
    rw [em] at a ⊢
    exact nI_le (a := 1) (b := m) (by
      rcases Nat.eq_zero_or_pos m with q | q
      · rw [q] at a; exact absurd rfl a
      · exact q) (by omega)
  have m1 : 1 ≤ m := by rw [em] at a1; exact (nI_leI (a := 1) (b := m) (by decide) (by omega)).mp a1
  rw [if_neg a, if_pos a1]
  by_cases b : M.2.2.2 c 2 = 0
  · rw [if_pos b, if_neg (show ¬ 1 ≤ M.2.2.2 c 2 by rw [b]; decide)]
    exact op_refuse hG 11 (nI c)
  have n1 : 1 ≤ n := by
    rcases Nat.eq_zero_or_pos n with q | q
    · rw [q] at en; exact absurd en b
    · exact q
  have b1 : 1 ≤ M.2.2.2 c 2 := by rw [en]; exact nI_le (a := 1) (b := n) n1 (by omega)
  rw [if_neg b, if_pos b1]
  have ans : (sc (sc (sg (sg M 8 (M.1 8 - 1)) 9 ((sg M 8 (M.1 8 - 1)).1 9 + 1)) c 2 ((sg (sg M 8 (M.1 8 - 1)) 9 ((sg M 8 (M.1 8 - 1)).1 9 + 1)).2.2.2 c 2 - 1)) c 3 ((sc (sg (sg M 8 (M.1 8 - 1)) 9 ((sg M 8 (M.1 8 - 1)).1 9 + 1)) c 2 ((sg (sg M 8 (M.1 8 - 1)) 9 ((sg M 8 (M.1 8 - 1)).1 9 + 1)).2.2.2 c 2 - 1)).2.2.2 c 3 + 1)).2.2.2 c 3 = M.2.2.2 c 3 + 1 := by simp [sc, sg, up2, upd]
  have ans2 : (up2 (up2 (up2 (up2 B 0 6 (M.1 8 - 1)) 0 7 ((up2 B 0 6 (M.1 8 - 1)) 0 7 + 1)) 0 (9 + 4 * c + 2) ((up2 (up2 B 0 6 (M.1 8 - 1)) 0 7 ((up2 B 0 6 (M.1 8 - 1)) 0 7 + 1)) 0 (9 + 4 * c + 2) - 1)) 0 (9 + 4 * c + 3) ((up2 (up2 (up2 B 0 6 (M.1 8 - 1)) 0 7 ((up2 B 0 6 (M.1 8 - 1)) 0 7 + 1)) 0 (9 + 4 * c + 2) ((up2 (up2 B 0 6 (M.1 8 - 1)) 0 7 ((up2 B 0 6 (M.1 8 - 1)) 0 7 + 1)) 0 (9 + 4 * c + 2) - 1)) 0 (9 + 4 * c + 3) + 1)) 0 (9 + 4 * c + 3) = M.2.2.2 c 3 + 1 := by
    rw [up2_eq, upd_eq, up2_eq, upd_ne _ _ (by omega), up2_eq, upd_ne _ _ (by omega), up2_eq, upd_ne _ _ (by omega), c3]
  rw [ans2, ans]
  have hM1 : sc (sc (sg (sg M 8 (M.1 8 - 1)) 9 ((sg M 8 (M.1 8 - 1)).1 9 + 1)) c 2 ((sg (sg M 8 (M.1 8 - 1)) 9 ((sg M 8 (M.1 8 - 1)).1 9 + 1)).2.2.2 c 2 - 1)) c 3 ((sc (sg (sg M 8 (M.1 8 - 1)) 9 ((sg M 8 (M.1 8 - 1)).1 9 + 1)) c 2 ((sg (sg M 8 (M.1 8 - 1)) 9 ((sg M 8 (M.1 8 - 1)).1 9 + 1)).2.2.2 c 2 - 1)).2.2.2 c 3 + 1) = sc (sc (sg (sg M 8 (M.1 8 - 1)) 9 (M.1 9 + 1)) c 2 (M.2.2.2 c 2 - 1)) c 3 (M.2.2.2 c 3 + 1) := by
    have x : (sc (sg (sg M 8 (M.1 8 - 1)) 9 ((sg M 8 (M.1 8 - 1)).1 9 + 1)) c 2 ((sg (sg M 8 (M.1 8 - 1)) 9 ((sg M 8 (M.1 8 - 1)).1 9 + 1)).2.2.2 c 2 - 1)).2.2.2 c 3 = M.2.2.2 c 3 := by simp [sc, sg, up2, upd]
    rw [x]
    rfl
  rw [hM1]
  refine op_done hR ?_ (((FAm.rf.up).up).up).up ?_ ?_
  · simp only [up2_eq]
    rw [upd_ne (B 0) (k := 6) (a := 7) _ (by decide), upd_ne (upd (B 0) 6 (M.1 8 - 1)) (k := 7) (a := 9 + 4 * c + 2) _ (by omega), upd_ne (B 0) (k := 6) (a := 9 + 4 * c + 2) _ (by omega), c2,
      upd_ne (upd (upd (B 0) 6 (M.1 8 - 1)) 7 (B 0 7 + 1)) (k := 9 + 4 * c + 2) (a := 9 + 4 * c + 3) _ (by omega), upd_ne (upd (B 0) 6 (M.1 8 - 1)) (k := 7) (a := 9 + 4 * c + 3) _ (by omega), upd_ne (B 0) (k := 6) (a := 9 + 4 * c + 3) _ (by omega), c3]
    have h1 : GR (sg (sg M 8 (M.1 8 - 1)) 9 (M.1 9 + 1)) (upd (upd (B 0) 6 (M.1 8 - 1)) 7 (B 0 7 + 1)) := by
      refine hG.scal rfl rfl rfl (fun k hk => ?_) ⟨?_, ?_, ?_, ?_, ?_, ?_, ?_, ?_, ?_⟩ ⟨?_, ?_, ?_⟩
      · rw [upd_ne _ _ (by omega), upd_ne _ _ (by omega)]
      · simp [upd, sg]; exact hG.1.1
      · simp [upd, sg]; exact hG.1.2.1
      · simp [upd, sg]; exact hG.1.2.2.1
      · simp [upd]
      · simp [upd]
      · simp [upd]
      · simp [upd, sg]
      · simp [upd, sg]; rw [hG.1.2.2.2.2.2.2.2.1]
      · simp [upd, sg]; exact hG.1.2.2.2.2.2.2.2.2
      · simp [upd, sg]; exact hG.2.2.1.2.2.1
      · simp [upd, sg]; exact hG.2.2.1.2.2.2.1
      · simp [upd, sg]; rw [em, show (1 : Int32) = nI 1 from rfl, pk_sub m1]; exact vp_in_nI (by omega) (by decide)
    have co : ∀ d, d ≠ c → (sc (sc (sg (sg M 8 (M.1 8 - 1)) 9 (M.1 9 + 1)) c 2 (M.2.2.2 c 2 - 1)) c 3 (M.2.2.2 c 3 + 1)).2.2.2 d = M.2.2.2 d := fun d e => (up2_ne _ _ _ e).trans (up2_ne _ _ _ e)
    have cs : (sc (sc (sg (sg M 8 (M.1 8 - 1)) 9 (M.1 9 + 1)) c 2 (M.2.2.2 c 2 - 1)) c 3 (M.2.2.2 c 3 + 1)).2.2.2 c = upd (upd (M.2.2.2 c) 2 (M.2.2.2 c 2 - 1)) 3 (M.2.2.2 c 3 + 1) := by
      show up2 (up2 M.2.2.2 c 2 (M.2.2.2 c 2 - 1)) c 3 (M.2.2.2 c 3 + 1) c = _
      rw [up2_eq, up2_eq]
    refine h1.clubs rfl rfl rfl (fun k hk h9 => ?_) (fun d hd i hi => ?_) (fun d hd => ?_)
    · rw [upd_ne _ _ (by omega), upd_ne _ _ (by omega)]
    · have cd : B 0 (9 + 4 * d + i) = M.2.2.2 d i := hG.2.1 d hd i hi
      by_cases e : d = c
      · subst e
        rw [cs]
        rcases (show i = 0 ∨ i = 1 ∨ i = 2 ∨ i = 3 by omega) with rfl | rfl | rfl | rfl
        · rw [upd_ne _ _ (by omega), upd_ne _ _ (by omega), upd_ne _ _ (by omega), upd_ne _ _ (by omega), cd]; simp [upd]
        · rw [upd_ne _ _ (by omega), upd_ne _ _ (by omega), upd_ne _ _ (by omega), upd_ne _ _ (by omega), cd]; simp [upd]
        · rw [upd_ne _ _ (by omega), upd_eq]; simp [upd]
        · rw [upd_eq, upd_eq]
      · rw [co d e, upd_ne _ _ (by omega), upd_ne _ _ (by omega), upd_ne _ _ (by omega), upd_ne _ _ (by omega), cd]
    · by_cases e : d = c
      · subst e
        rw [cs, upd_eq, upd_ne _ _ (by decide), upd_eq]
        refine ⟨?_, ?_⟩
        · rw [en, show (1 : Int32) = nI 1 from rfl, pk_sub n1]; exact vp_in_nI (by omega) (by decide)
        · rw [en, et, show (1 : Int32) = nI 1 from rfl, pk_sub n1, nI_add, nI_add]
          rw [show n - 1 + (10 - n + 1) = 10 by omega]
          rfl
      · rw [co d e]
        exact hG.2.2.1.2.2.2.2.2 d hd
  · rw [up2_ne _ _ _ (by decide), up2_ne _ _ _ (by decide), up2_ne _ _ _ (by decide), up2_ne _ _ _ (by decide)]
  · rw [et, nI_1]
    exact ncode (N := 20) (vp_in_nI (by omega) (by decide))
end OP2

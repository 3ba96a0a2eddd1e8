/-! ===== the reference describes a rink ===== -/
section DSC
variable {M : gM} {f : Nat → Int32} {p : Int32}
theorem woodsOn_l (h : GR M f) : ∀ n k, n + k = 17 → f_X1_woodsOn_l5 M p 1 n k (nI (cnt (lyB M p) k)) = nI (cnt (lyB M p) 16) := by
  intro n
  induction n with
  | zero =>
    intro k hk
    obtain rfl : k = 17 := by omega
    show nI (cnt (lyB M p) 16 + (lyB M p 16).toNat) = _
    rw [b_f (ly_n (Or.inl (end_16 h)))]
  | succ n ih =>
    intro k hk
    unfold f_X1_woodsOn_l5
    by_cases c : M.1 4 ≤ nI k
    · rw [if_pos c, cnt_stop 16 (show k ≤ 16 by omega) (fun j h1 h2 => ly_n (Or.inl (le_mono c h1 (by omega))))]
    · have r := ih (k + 1) (by omega)
      rw [show cnt (lyB M p) (k + 1) = cnt (lyB M p) k + (lyB M p k).toNat from rfl] at r
      rw [if_neg c]
      by_cases d : M.2.2.1 k 2 = 1
      · rw [if_pos d]
        by_cases e : M.2.2.1 k 3 = p
        · rw [b_t (ly_t c (by unfold f_X6_liesOn; rw [if_pos d, if_pos e]; decide))] at r
          rw [if_pos e, nI_1]; exact r
        · rw [b_f (ly_n (Or.inr (by unfold f_X6_liesOn; rw [if_pos d, if_neg e])))] at r
          rw [if_neg e]; exact r
      · rw [b_f (ly_n (Or.inr (by unfold f_X6_liesOn; rw [if_neg d])))] at r
        rw [if_neg d]; exact r
theorem woodsOn_eq (h : GR M f) : f_X1_woodsOn M p 1 = nI (cnt (lyB M p) 16) := woodsOn_l h 17 0 rfl
theorem cnt_two {L P Q : Nat → Bool} : ∀ n, (∀ j, j < n → L j = true → P j = true ∨ Q j = true) → cnt L n ≤ cnt P n + cnt Q n := by
  intro n
  induction n with
  | zero => intro _; exact Nat.zero_le _
  | succ n ih =>
    intro h
    have a := ih (fun j hj => h j (by omega))
    show cnt L n + (L n).toNat ≤ cnt P n + (P n).toNat + (cnt Q n + (Q n).toNat)
    have b : (L n).toNat ≤ (P n).toNat + (Q n).toNat := by
      cases e : L n
      · exact Nat.zero_le _
      · rcases h n (Nat.lt_succ_self n) e with q | q
        · rw [q]; exact Nat.le_add_right _ _
        · rw [q]; exact Nat.le_add_left _ _
    omega
theorem lying_8r (h : GR M f) {r : Nat} (hr : r < 4) (hc : ¬ M.1 3 ≤ nI r) : cnt (lyB M (nI r)) 16 ≤ 8 := by
  have a0 := h.2.2.2.2.2 r hr hc 0 (by decide)
  have a1 := h.2.2.2.2.2 r hr hc 1 (by decide)
  have hrr := h.r (Nat.le_of_lt hr) hc
  have b0 := vp_lt hrr.2.2.2.2.2.2.2.2.1
  have b1 := vp_lt hrr.2.2.2.2.2.2.2.2.2
  have t := cnt_two (L := lyB M (nI r)) (P := onR M r 0) (Q := onR M r 1) 16 (fun j hj hL => by
    obtain ⟨c1, c2⟩ := ly_i.mp hL
    obtain ⟨d1, d2⟩ := lies_1 c2
    rcases club_of h hL hj with e | e
    · exact Or.inl (decide_eq_true ⟨c1, one_ne d1, d2, e⟩)
    · exact Or.inr (decide_eq_true ⟨c1, one_ne d1, d2, e⟩))
  change cnt (onR M r 0) 16 ≤ (M.2.1 r 8).toNatClampNeg at a0
  change cnt (onR M r 1) 16 ≤ (M.2.1 r 9).toNatClampNeg at a1
  omega
theorem lying_8 (h : GR M f) : f_X1_woodsOn M p 1 ≤ nI 8 := by
  rw [woodsOn_eq h]
  refine nI_le ?_ (by decide)
  by_cases z : cnt (lyB M p) 16 = 0
  · omega
  · obtain ⟨k, hk, hL, -⟩ := least_of (fun _ => 0) 16 (show 0 < cnt (lyB M p) 16 by omega)
    obtain ⟨c1, c2⟩ := ly_i.mp hL
    obtain ⟨d1, d2⟩ := lies_1 c2
    obtain ⟨r, e, hr, hc, -⟩ := (h.w (Nat.le_of_lt hk) c1).p (one_ne d1)
    rw [← d2, e]
    exact lying_8r h hr hc
theorem place_ex (h : GR M f) {k : Nat} (hk : k < cnt (lyB M p) 16) : ∃ i, i < 16 ∧ lyB M p i = true ∧ f_X1_woodInOrder M p (nI k) = nI i := by
  have := cnt_le_n (P := lyB M p) 16
  rcases inOrder (p := p) h (q := k) (by omega) with ⟨i, hi, hL, -, e⟩ | ⟨no, -⟩
  · exact ⟨i, hi, hL, e⟩
  · obtain ⟨i, hi, hL, e⟩ := rank_ex (L := lyB M p) (d := dI M) k hk
    exact absurd e (no i hi hL)
end DSC
abbrev rm_X8_describe : Room := { frames := 5, cells := 0, slots := 0, locals := 107 }
theorem c_X8_describe (l : Launch) (D : gD) (cy : Nat → ClassId) (ad : Nat → Nat) (X : Nat → Int32) (A : Nat → Nat → Int32) (M : gM) (p1 : Int32) (hG : GR M (A 0)) (hI : MI A) : CtI l D cy (MW cy ad) yX8_describe cX8_describe 4 (some .int) rm_X8_describe [.ref (ad 0), .int p1] (X, A) (fun rv u => rv = (f_X7_describe M p1).1 ∧ ((rv = -1 ∧ f_X1_isRink M p1 = 0 ∧ u = (X, A)) ∨ ∃ X1 A1, u = (X1, A1) ∧ WR X A (f_X7_describe M p1).2 X1 A1 ∧ (f_X7_describe M p1).2.length ≤ 110 ∧ ¬ f_X1_isRink M p1 = 0)) 0 0 := by
  refine m_entI cX8_describe 4 (by decide) (Nat.le_of_ble_eq_true rfl) (fun J h hR => ?_)
  show J (X, A) (0, 0) [(0, .ref (ad 0)), (1, .int p1)] 0 []
  refine j_aload_n h dX8_describe_0 rfl 0 rfl ?_
  refine j_iload_n h dX8_describe_1 rfl 1 rfl ?_
  refine j_callI h (n := 1) (c_X8_isRink l D cy ad _ _ _) (xg_V (xr_20 2 rfl) (xr_20 3 rfl) (xr_20 4 rfl) (xr_1 5 rfl) (xr_20 5 rfl)) rfl rfl (by decide +kernel) ⟨Nat.le_of_ble_eq_true rfl, Nat.le_of_ble_eq_true rfl⟩ 0 rfl rfl rfl rfl rfl (Nat.le_of_ble_eq_true rfl) dX8_describe_2 ⟨by decide, by decide⟩ (fun z1 u' hq => ?_)
  obtain ⟨hz1, rfl, bz1⟩ := hq
  rw [q_isRink hG] at hz1
  refine j_if_ne h (tgt := 10) dX8_describe_5 (by decide) (fun c => ?_) (fun c => ?_)
  rotate_left
  · refine j_iconst h (v := (-1)) dX8_describe_8 (by decide) ?_
    have hf : (f_X7_describe M p1).1 = -1 := by unfold f_X7_describe; rw [bd_x, ← hz1, if_pos c]
    exact hR _ _ _ _ dX8_describe_9 ⟨hf.symm, Or.inl ⟨rfl, hz1 ▸ c, rfl⟩⟩
  · obtain ⟨r, rfl, hr, hrc⟩ := rink_of hG (hz1 ▸ c)
    have hnr : ¬ f_X1_isRink M (nI r) = 0 := hz1 ▸ c
    have hrr := hG.r (Nat.le_of_lt hr) hrc
    obtain ⟨n0, h0, m0⟩ := vp_in_of hrr.2.1 (by decide)
    obtain ⟨n1, h1, m1⟩ := vp_in_of hrr.2.2.1 (by decide)
    obtain ⟨n2, h2, m2⟩ := vp_in_of hrr.2.2.2.1 (by decide)
    obtain ⟨n4, h4, m4⟩ := vp_in_of hrr.2.2.2.2.2.1 (by decide)
    have e0 : A 0 (17 + 10 * r + 0) = nI n0 := hrr.1.1.trans m0
    have e1 : A 0 (17 + 10 * r + 1) = nI n1 := hrr.1.2.1.trans m1
    have e2 : A 0 (17 + 10 * r + 2) = nI n2 := hrr.1.2.2.1.trans m2
    have e4 : A 0 (17 + 10 * r + 4) = nI n4 := hrr.1.2.2.2.2.1.trans m4
    have ofk : ∀ (j v : Nat) (p : Int32), p.toNatClampNeg = j → A 0 (17 + 10 * r + j) = nI v → ∀ (T : List Nat) (Xk : Nat → Int32) (Ak : Nat → Nat → Int32), WR X A T Xk Ak → f_X8_ofRink Xk Ak (nI r) p = nI v := fun j v p hp hv T Xk Ak hW => (orr r j (by omega) hp).trans ((congrFun (hW.2.1 0 (by decide)) _).trans hv)
    have mi : ∀ {T : List Nat} {Xk : Nat → Int32} {Ak : Nat → Nat → Int32}, WR X A T Xk Ak → MI Ak := fun hW => MI_of hI (fun j _ => congrFun (hW.2.1 0 (by decide)) j) (hW.2.1 5 (by decide))
    have gr : ∀ {T : List Nat} {Xk : Nat → Int32} {Ak : Nat → Nat → Int32}, WR X A T Xk Ak → GR M (Ak 0) := fun hW => by rw [hW.2.1 0 (by decide)]; exact hG
    have hw8 := lying_8r hG hr hrc
    have ew : f_X1_woodsOn M (nI r) 1 = nI (cnt (lyB M (nI r)) 16) := woodsOn_eq hG
    generalize hnw : cnt (lyB M (nI r)) 16 = nw at ew hw8
    have lp : ∀ (n k : Nat) (T : List Nat) (Xk : Nat → Int32) (Ak : Nat → Nat → Int32), n + k = 9 → k ≤ nw → T.length ≤ 17 + 8 * k → WR X A T Xk Ak → f_X7_describe M (nI r) = f_X7_describe_l138 M (nI r) (nI nw) n k T → J (Xk, Ak) (0, 0) [(2, .int (nI k)), (0, .ref (ad 0)), (1, .int (nI r))] 107 [] := by
      intro n
      induction n with
      | zero => intro k T Xk Ak hn hk; omega
      | succ n ih =>
        intro k T Xk Ak hn hk hB hW he
        refine j_iload_n h dX8_describe_107 rfl 0 rfl ?_
        refine j_aload_n h dX8_describe_108 rfl 1 rfl ?_
        refine j_iload_n h dX8_describe_109 rfl 2 rfl ?_
        refine j_iconst h (v := 1) dX8_describe_110 (by decide) ?_
        refine j_callI h (n := 2) (c_X8_countOn l D cy ad _ _ _ _ (mi hW)) (xg_V (xr_41 2 rfl) (xr_41 3 rfl) (xr_41 4 rfl) (xr_1 5 rfl) (xr_41 5 rfl)) rfl rfl (by decide +kernel) ⟨Nat.le_of_ble_eq_true rfl, Nat.le_of_ble_eq_true rfl⟩ 0 rfl rfl rfl rfl rfl (Nat.le_of_ble_eq_true rfl) dX8_describe_111 ⟨by decide, by decide⟩ (fun r' u' hq => ?_)
        obtain ⟨rfl, rfl⟩ := hq
        rw [q_countOn (gr hW) (nI r) (s := 1) (by decide), ew]
        refine j_icmp_ge h (tgt := 156) dX8_describe_114 (by decide) (fun c => ?_) (fun c => ?_)
        · refine j_aload_n h dX8_describe_156 rfl 1 rfl ?_
          refine j_get h inlX8 0 rfl rfl 7 (by decide) (xr_50 10 rfl) rfl (v := .int (Xk 7)) rfl dX8_describe_157 ?_
          rw [hW.2.2.1]
          have hf : f_X7_describe M (nI r) = (nI T.length, T) := by rw [he]; unfold f_X7_describe_l138; exact if_pos c
          exact hR _ _ _ _ dX8_describe_160 ⟨(congrArg Prod.fst hf).symm, Or.inr ⟨_, _, rfl, by rw [hf]; exact hW, by rw [hf]; show T.length ≤ 110; omega, hnr⟩⟩
        · have hk8 : k < nw := Nat.lt_of_not_le (fun q => c (nI_le q (by omega)))
          obtain ⟨i, hi, hL, ei⟩ := place_ex (p := nI r) hG (k := k) (by omega)
          obtain ⟨hic, hly⟩ := ly_i.mp hL
          have d1 := (lies_1 hly).1
          obtain ⟨dd, hdd, ed⟩ := vp_in_of (hG.w (Nat.le_of_lt hi) hic).2.1.2.2.2 (by decide)
          refine j_aload_n h dX8_describe_117 rfl 1 rfl ?_
          refine j_iload_n h dX8_describe_118 rfl 2 rfl ?_
          refine j_iload_n h dX8_describe_119 rfl 0 rfl ?_
          refine j_callI h (n := 2) (c_X8_atPlace l D cy ad _ _ _ _ (mi hW)) (xg_V (xr_43 15 rfl) (xr_43 16 rfl) (xr_43 17 rfl) (xr_1 5 rfl) (xr_43 18 rfl)) rfl rfl (by decide +kernel) ⟨Nat.le_of_ble_eq_true rfl, Nat.le_of_ble_eq_true rfl⟩ 0 rfl rfl rfl rfl rfl (Nat.le_of_ble_eq_true rfl) dX8_describe_120 ⟨by decide, by decide⟩ (fun r' u' hq => ?_)
          obtain ⟨rfl, rfl⟩ := hq
          rw [q_atPlace (gr hW), ei]
          refine j_istore_n h (lv' := [(3, _), (2, _), (0, _), (1, _)]) dX8_describe_123 rfl (by decide) rfl ?_
          refine j_aload_n h dX8_describe_124 rfl 2 rfl ?_
          refine j_ldcS h (i := 13) rfl dX8_describe_125 ?_
          refine j_callV h (n := 1) (c_X8_writes l D cy ad _ _ hW (i := 13) (by decide) (by have := hB; show _ + 1 ≤ 110; omega)) (xg_V (xr_50 15 rfl) (xr_50 16 rfl) (xr_50 17 rfl) (xr_1 5 rfl) (xr_50 18 rfl)) rfl rfl (by decide +kernel) ⟨Nat.le_of_ble_eq_true rfl, Nat.le_of_ble_eq_true rfl⟩ 0 rfl rfl rfl rfl rfl (Nat.le_of_ble_eq_true rfl) dX8_describe_127 ⟨by decide, by decide⟩ (fun u' hq => ?_)
          obtain ⟨X1, A1, rfl, hW1⟩ := hq
          have hB1 : (T ++ strs 13).length ≤ 17 + 8 * k + 1 := by rw [List.length_append, strs_len, show lenS.getD 13 0 = 1 from rfl]; have := hB; omega
          refine j_aload_n h dX8_describe_130 rfl 2 rfl ?_
          refine j_iload_n h dX8_describe_131 rfl 0 rfl ?_
          have hx : sb_dg i ≤ 2 := dg_2 (by omega)
          refine j_callV h (n := 1) (c_X8_writesNumber l D cy ad 1 i _ _ _ hW1 (pw_1 (by omega)) (by omega) (by have := hB1; omega)) (xg_V (xr_50 11 rfl) (xr_50 12 rfl) (xr_50 13 rfl) (xr_1 5 rfl) (xr_50 14 rfl)) rfl rfl (by decide +kernel) ⟨Nat.le_of_ble_eq_true rfl, Nat.le_of_ble_eq_true rfl⟩ 0 rfl rfl rfl rfl rfl (Nat.le_of_ble_eq_true rfl) dX8_describe_132 ⟨by decide, by decide⟩ (fun u' hq => ?_)
          obtain ⟨X2, A2, rfl, hW2⟩ := hq
          have hB2 : (T ++ strs 13 ++ digs i).length ≤ 17 + 8 * k + 1 + 2 := by rw [List.length_append, digs_len]; have := hB1; omega
          refine j_aload_n h dX8_describe_135 rfl 2 rfl ?_
          refine j_ldcS h (i := 14) rfl dX8_describe_136 ?_
          refine j_callV h (n := 1) (c_X8_writes l D cy ad _ _ hW2 (i := 14) (by decide) (by have := hB2; show _ + 1 ≤ 110; omega)) (xg_V (xr_50 15 rfl) (xr_50 16 rfl) (xr_50 17 rfl) (xr_1 5 rfl) (xr_50 18 rfl)) rfl rfl (by decide +kernel) ⟨Nat.le_of_ble_eq_true rfl, Nat.le_of_ble_eq_true rfl⟩ 0 rfl rfl rfl rfl rfl (Nat.le_of_ble_eq_true rfl) dX8_describe_138 ⟨by decide, by decide⟩ (fun u' hq => ?_)
          obtain ⟨X3, A3, rfl, hW3⟩ := hq
          have hB3 : (T ++ strs 13 ++ digs i ++ strs 14).length ≤ 17 + 8 * k + 1 + 2 + 1 := by rw [List.length_append, strs_len, show lenS.getD 14 0 = 1 from rfl]; have := hB2; omega
          refine j_aload_n h dX8_describe_141 rfl 2 rfl ?_
          refine j_aload_n h dX8_describe_142 rfl 2 rfl ?_
          refine j_iload_n h dX8_describe_143 rfl 0 rfl ?_
          refine j_callI h (n := 1) (c_X8_distance l D cy ad _ _ _ (vp_in_nI hi (by decide)) (mi hW3)) (xg_V (xr_24 20 rfl) (xr_24 21 rfl) (xr_24 22 rfl) (xr_1 5 rfl) (xr_24 23 rfl)) rfl rfl (by decide +kernel) ⟨Nat.le_of_ble_eq_true rfl, Nat.le_of_ble_eq_true rfl⟩ 0 rfl rfl rfl rfl rfl (Nat.le_of_ble_eq_true rfl) dX8_describe_144 ⟨by decide, by decide⟩ (fun r' u' hq => ?_)
          obtain ⟨rfl, rfl⟩ := hq
          rw [q_distance (gr hW3) hi hic d1, ed]
          have hx : sb_dg dd ≤ 4 := dg_4 (by omega)
          refine j_callV h (n := 1) (c_X8_writesNumber l D cy ad 3 dd _ _ _ hW3 (pw_3 (by omega)) (by omega) (by have := hB3; omega)) (xg_V (xr_50 11 rfl) (xr_50 12 rfl) (xr_50 13 rfl) (xr_1 5 rfl) (xr_50 14 rfl)) rfl rfl (by decide +kernel) ⟨Nat.le_of_ble_eq_true rfl, Nat.le_of_ble_eq_true rfl⟩ 0 rfl rfl rfl rfl rfl (Nat.le_of_ble_eq_true rfl) dX8_describe_147 ⟨by decide, by decide⟩ (fun u' hq => ?_)
          obtain ⟨X4, A4, rfl, hW4⟩ := hq
          have hB4 : (T ++ strs 13 ++ digs i ++ strs 14 ++ digs dd).length ≤ 17 + 8 * k + 1 + 2 + 1 + 4 := by rw [List.length_append, digs_len]; have := hB3; omega
          refine j_iinc h (v := nI (k + 1)) (lv' := [(2, _), (3, _), (0, _), (1, _)]) dX8_describe_150 (k := 1) rfl (nI_1 k) (by decide) rfl ?_
          refine j_goto h (tgt := 107) dX8_describe_153 (by decide) ?_
          refine j_sub h [0, 2, 3] rfl ?_
          refine ih (k + 1) _ _ _ (by omega) (by omega) (by have := hB4; omega) hW4 ?_
          rw [he]
          have ed2 : (M.2.2.1 i 6).toNatClampNeg = dd := by rw [ed, nI_clamp (by omega)]
          have ew2 : f_X7_writeWood M (nI i) T = T ++ strs 13 ++ digs i ++ strs 14 ++ digs dd := by
            unfold f_X7_writeWood
            rw [bd_x, isWood_1 hG hi hic, if_neg (show ¬ (1 : Int32) = 0 by decide), nI_clamp (by omega), ed2, show strs 13 = [32] from by decide +kernel, show strs 14 = [47] from by decide +kernel]
          rw [← ew2, ← ei]
          rw [f_X7_describe_l138]
          simp only [bd_x, if_neg c]
    have k105 : ∀ (T : List Nat) (Xk : Nat → Int32) (Ak : Nat → Nat → Int32), T.length ≤ 17 → WR X A T Xk Ak → f_X7_describe M (nI r) = f_X7_describe_l138 M (nI r) (nI nw) 9 0 T → J (Xk, Ak) (0, 0) [(0, .ref (ad 0)), (1, .int (nI r))] 105 [] := by
      intro T Xk Ak hB hW he
      refine j_iconst h (v := 0) dX8_describe_105 (by decide) ?_
      refine j_istore_n h (lv' := [(2, _), (0, _), (1, _)]) dX8_describe_106 rfl (by decide) rfl ?_
      exact lp 9 0 T Xk Ak rfl (Nat.zero_le _) hB hW he
    have k80 : ∀ (T : List Nat) (Xk : Nat → Int32) (Ak : Nat → Nat → Int32), T.length ≤ 13 → WR X A T Xk Ak → f_X7_describe M (nI r) = f_X7_describe_l138 M (nI r) (nI nw) 9 0 (if nI n4 = 0 then T else T ++ strs 8 ++ digs n4) → J (Xk, Ak) (0, 0) [(0, .ref (ad 0)), (1, .int (nI r))] 80 [] := by
      intro T Xk Ak hB hW he
      refine j_aload_n h dX8_describe_80 rfl 0 rfl ?_
      refine j_iload_n h dX8_describe_81 rfl 1 rfl ?_
      refine j_iconst h (v := 4) dX8_describe_82 (by decide) ?_
      refine j_callI h (n := 2) (c_X8_ofRink l D cy ad _ _ _ _ (vp_in_nI hr (by decide)) (vp_in_nI (n := 4) (by decide) (by decide))) (xg_V (xr_16 15 rfl) (xr_16 16 rfl) (xr_16 17 rfl) (xr_1 5 rfl) (xr_16 18 rfl)) rfl rfl (by decide +kernel) ⟨Nat.le_of_ble_eq_true rfl, Nat.le_of_ble_eq_true rfl⟩ 0 rfl rfl rfl rfl rfl (Nat.le_of_ble_eq_true rfl) dX8_describe_83 ⟨by decide, by decide⟩ (fun r' u' hq => ?_)
      obtain ⟨rfl, rfl⟩ := hq
      rw [ofk 4 n4 (nI 4) (by decide) e4 _ _ _ hW]
      refine j_if_le h (tgt := 105) dX8_describe_86 (by decide) (fun c => ?_) (fun c => ?_)
      · rw [if_pos (Int32.le_antisymm c (Int32.not_lt.mp (nI_pos (by omega))))] at he
        exact k105 T Xk Ak (by omega) hW he
      · rw [if_neg (show ¬ nI n4 = 0 from fun q => c (by rw [q]; exact Int32.le_refl _))] at he
        refine j_aload_n h dX8_describe_89 rfl 0 rfl ?_
        refine j_ldcS h (i := 12) rfl dX8_describe_90 ?_
        refine j_callV h (n := 1) (c_X8_writes l D cy ad _ _ hW (i := 12) (by decide) (by have := hB; show _ + 2 ≤ 110; omega)) (xg_V (xr_50 15 rfl) (xr_50 16 rfl) (xr_50 17 rfl) (xr_1 5 rfl) (xr_50 18 rfl)) rfl rfl (by decide +kernel) ⟨Nat.le_of_ble_eq_true rfl, Nat.le_of_ble_eq_true rfl⟩ 0 rfl rfl rfl rfl rfl (Nat.le_of_ble_eq_true rfl) dX8_describe_92 ⟨by decide, by decide⟩ (fun u' hq => ?_)
        obtain ⟨X5, A5, rfl, hW5⟩ := hq
        have hB5 : (T ++ strs 12).length ≤ 13 + 2 := by rw [List.length_append, strs_len, show lenS.getD 12 0 = 2 from rfl]; have := hB; omega
        refine j_aload_n h dX8_describe_95 rfl 0 rfl ?_
        refine j_aload_n h dX8_describe_96 rfl 0 rfl ?_
        refine j_iload_n h dX8_describe_97 rfl 1 rfl ?_
        refine j_iconst h (v := 4) dX8_describe_98 (by decide) ?_
        refine j_callI h (n := 2) (c_X8_ofRink l D cy ad _ _ _ _ (vp_in_nI hr (by decide)) (vp_in_nI (n := 4) (by decide) (by decide))) (xg_V (xr_16 15 rfl) (xr_16 16 rfl) (xr_16 17 rfl) (xr_1 5 rfl) (xr_16 18 rfl)) rfl rfl (by decide +kernel) ⟨Nat.le_of_ble_eq_true rfl, Nat.le_of_ble_eq_true rfl⟩ 0 rfl rfl rfl rfl rfl (Nat.le_of_ble_eq_true rfl) dX8_describe_99 ⟨by decide, by decide⟩ (fun r' u' hq => ?_)
        obtain ⟨rfl, rfl⟩ := hq
        rw [ofk 4 n4 (nI 4) (by decide) e4 _ _ _ hW5]
        have hx : sb_dg n4 ≤ 2 := dg_2 (by omega)
        refine j_callV h (n := 1) (c_X8_writesNumber l D cy ad 1 n4 _ _ _ hW5 (pw_1 (by omega)) (by omega) (by have := hB5; omega)) (xg_V (xr_50 11 rfl) (xr_50 12 rfl) (xr_50 13 rfl) (xr_1 5 rfl) (xr_50 14 rfl)) rfl rfl (by decide +kernel) ⟨Nat.le_of_ble_eq_true rfl, Nat.le_of_ble_eq_true rfl⟩ 0 rfl rfl rfl rfl rfl (Nat.le_of_ble_eq_true rfl) dX8_describe_102 ⟨by decide, by decide⟩ (fun u' hq => ?_)
        obtain ⟨X6, A6, rfl, hW6⟩ := hq
        have hB6 : (T ++ strs 12 ++ digs n4).length ≤ 13 + 2 + 2 := by rw [List.length_append, digs_len]; have := hB5; omega
        refine k105 _ _ _ (by have := hB6; omega) hW6 ?_
        rw [he, show strs 12 = strs 8 from by decide +kernel]
    refine j_aload_n h dX8_describe_10 rfl 0 rfl ?_
    refine j_iconst h (v := 0) dX8_describe_11 (by decide) ?_
    refine j_put h inlX8 tyX8 tyX8_ok nmX8 0 rfl rfl 7 (by decide) (xr_50 10 rfl) rfl rfl rfl rfl (Nat.le_of_ble_eq_true rfl) dX8_describe_12 (u' := (upd X 7 0, A)) rfl ?_
    have hW0 : WR X A [] (upd X 7 0) A := ⟨fun k hk => upd_ne _ _ hk, fun _ _ => rfl, upd_eq _ _ _, fun j hj => absurd hj (Nat.not_lt_zero _)⟩
    have hB0 : ([] : List Nat).length ≤ 0 := Nat.le_refl _
    refine j_aload_n h dX8_describe_15 rfl 0 rfl ?_
    refine j_aload_n h dX8_describe_16 rfl 0 rfl ?_
    refine j_iload_n h dX8_describe_17 rfl 1 rfl ?_
    refine j_iconst h (v := 0) dX8_describe_18 (by decide) ?_
    refine j_callI h (n := 2) (c_X8_ofRink l D cy ad _ _ _ _ (vp_in_nI hr (by decide)) (vp_in_nI (n := 0) (by decide) (by decide))) (xg_V (xr_16 15 rfl) (xr_16 16 rfl) (xr_16 17 rfl) (xr_1 5 rfl) (xr_16 18 rfl)) rfl rfl (by decide +kernel) ⟨Nat.le_of_ble_eq_true rfl, Nat.le_of_ble_eq_true rfl⟩ 0 rfl rfl rfl rfl rfl (Nat.le_of_ble_eq_true rfl) dX8_describe_19 ⟨by decide, by decide⟩ (fun r' u' hq => ?_)
    obtain ⟨rfl, rfl⟩ := hq
    rw [ofk 0 n0 (nI 0) (by decide) e0 _ _ _ hW0]
    have hx : sb_dg n0 ≤ 2 := dg_2 (by omega)
    refine j_callV h (n := 1) (c_X8_writesNumber l D cy ad 1 n0 _ _ _ hW0 (pw_1 (by omega)) (by omega) (by have := hB0; omega)) (xg_V (xr_50 11 rfl) (xr_50 12 rfl) (xr_50 13 rfl) (xr_1 5 rfl) (xr_50 14 rfl)) rfl rfl (by decide +kernel) ⟨Nat.le_of_ble_eq_true rfl, Nat.le_of_ble_eq_true rfl⟩ 0 rfl rfl rfl rfl rfl (Nat.le_of_ble_eq_true rfl) dX8_describe_22 ⟨by decide, by decide⟩ (fun u' hq => ?_)
    obtain ⟨X7, A7, rfl, hW7⟩ := hq
    have hB7 : (([] : List Nat) ++ digs n0).length ≤ 0 + 2 := by rw [List.length_append, digs_len]; have := hB0; omega
    refine j_aload_n h dX8_describe_25 rfl 0 rfl ?_
    refine j_ldcS h (i := 9) rfl dX8_describe_26 ?_
    refine j_callV h (n := 1) (c_X8_writes l D cy ad _ _ hW7 (i := 9) (by decide) (by have := hB7; show _ + 1 ≤ 110; omega)) (xg_V (xr_50 15 rfl) (xr_50 16 rfl) (xr_50 17 rfl) (xr_1 5 rfl) (xr_50 18 rfl)) rfl rfl (by decide +kernel) ⟨Nat.le_of_ble_eq_true rfl, Nat.le_of_ble_eq_true rfl⟩ 0 rfl rfl rfl rfl rfl (Nat.le_of_ble_eq_true rfl) dX8_describe_28 ⟨by decide, by decide⟩ (fun u' hq => ?_)
    obtain ⟨X8, A8, rfl, hW8⟩ := hq
    have hB8 : (([] : List Nat) ++ digs n0 ++ strs 9).length ≤ 0 + 2 + 1 := by rw [List.length_append, strs_len, show lenS.getD 9 0 = 1 from rfl]; have := hB7; omega
    refine j_aload_n h dX8_describe_31 rfl 0 rfl ?_
    refine j_aload_n h dX8_describe_32 rfl 0 rfl ?_
    refine j_iload_n h dX8_describe_33 rfl 1 rfl ?_
    refine j_iconst h (v := 1) dX8_describe_34 (by decide) ?_
    refine j_callI h (n := 2) (c_X8_ofRink l D cy ad _ _ _ _ (vp_in_nI hr (by decide)) (vp_in_nI (n := 1) (by decide) (by decide))) (xg_V (xr_16 15 rfl) (xr_16 16 rfl) (xr_16 17 rfl) (xr_1 5 rfl) (xr_16 18 rfl)) rfl rfl (by decide +kernel) ⟨Nat.le_of_ble_eq_true rfl, Nat.le_of_ble_eq_true rfl⟩ 0 rfl rfl rfl rfl rfl (Nat.le_of_ble_eq_true rfl) dX8_describe_35 ⟨by decide, by decide⟩ (fun r' u' hq => ?_)
    obtain ⟨rfl, rfl⟩ := hq
    rw [ofk 1 n1 (nI 1) (by decide) e1 _ _ _ hW8]
    have hx : sb_dg n1 ≤ 2 := dg_2 (by omega)
    refine j_callV h (n := 1) (c_X8_writesNumber l D cy ad 1 n1 _ _ _ hW8 (pw_1 (by omega)) (by omega) (by have := hB8; omega)) (xg_V (xr_50 11 rfl) (xr_50 12 rfl) (xr_50 13 rfl) (xr_1 5 rfl) (xr_50 14 rfl)) rfl rfl (by decide +kernel) ⟨Nat.le_of_ble_eq_true rfl, Nat.le_of_ble_eq_true rfl⟩ 0 rfl rfl rfl rfl rfl (Nat.le_of_ble_eq_true rfl) dX8_describe_38 ⟨by decide, by decide⟩ (fun u' hq => ?_)
    obtain ⟨X9, A9, rfl, hW9⟩ := hq
    have hB9 : (([] : List Nat) ++ digs n0 ++ strs 9 ++ digs n1).length ≤ 0 + 2 + 1 + 2 := by rw [List.length_append, digs_len]; have := hB8; omega
    refine j_aload_n h dX8_describe_41 rfl 0 rfl ?_
    refine j_aload_n h dX8_describe_42 rfl 0 rfl ?_
    refine j_iload_n h dX8_describe_43 rfl 1 rfl ?_
    refine j_iconst h (v := 2) dX8_describe_44 (by decide) ?_
    refine j_callI h (n := 2) (c_X8_ofRink l D cy ad _ _ _ _ (vp_in_nI hr (by decide)) (vp_in_nI (n := 2) (by decide) (by decide))) (xg_V (xr_16 15 rfl) (xr_16 16 rfl) (xr_16 17 rfl) (xr_1 5 rfl) (xr_16 18 rfl)) rfl rfl (by decide +kernel) ⟨Nat.le_of_ble_eq_true rfl, Nat.le_of_ble_eq_true rfl⟩ 0 rfl rfl rfl rfl rfl (Nat.le_of_ble_eq_true rfl) dX8_describe_45 ⟨by decide, by decide⟩ (fun r' u' hq => ?_)
    obtain ⟨rfl, rfl⟩ := hq
    rw [ofk 2 n2 (nI 2) (by decide) e2 _ _ _ hW9]
    have hfin : ∀ T, (if nI n2 = 0 then ([] : List Nat) ++ digs n0 ++ strs 9 ++ digs n1 ++ strs 10 else ([] : List Nat) ++ digs n0 ++ strs 9 ++ digs n1 ++ strs 11 ++ digs n2) = T → f_X7_describe M (nI r) = f_X7_describe_l138 M (nI r) (nI nw) 9 0 (if nI n4 = 0 then T else T ++ strs 8 ++ digs n4) := by
      intro T hT
      have s9 : strs 9 = [45] := by decide +kernel
      have s10 : strs 10 = strs 5 ++ strs 6 := by decide +kernel
      have s11 : strs 11 = strs 5 ++ strs 7 := by decide +kernel
      rw [s9, s10, s11] at hT
      unfold f_X7_describe f_X5_isPlayed
      simp only [bd_x]
      rw [← hz1, if_neg c, nI_clamp (show r < 2 ^ 31 by omega), m0, m1, m2, m4, nI_clamp (show n0 < 2 ^ 31 by omega), nI_clamp (show n1 < 2 ^ 31 by omega), nI_clamp (show n2 < 2 ^ 31 by omega), nI_clamp (show n4 < 2 ^ 31 by omega), ew, ← hT]
      by_cases q2 : nI n2 = 0
      · by_cases q4 : nI n4 = 0
        · simp only [if_pos q2, if_pos q4, List.append_assoc, if_true]
        · simp only [if_pos q2, if_neg q4, List.append_assoc, if_neg (show ¬ (1 : Int32) = 0 by decide)]
      · by_cases q4 : nI n4 = 0
        · simp only [if_neg q2, if_pos q4, List.append_assoc, if_true]
        · simp only [if_neg q2, if_neg q4, List.append_assoc, if_neg (show ¬ (1 : Int32) = 0 by decide)]
    refine j_if_ne h (tgt := 56) dX8_describe_48 (by decide) (fun q => ?_) (fun q => ?_)
    rotate_left
    · refine j_ldcS h (i := 10) rfl dX8_describe_51 ?_
      refine j_goto h (tgt := 58) dX8_describe_53 (by decide) ?_
      refine j_callV h (n := 1) (c_X8_writes l D cy ad _ _ hW9 (i := 10) (by decide) (by have := hB9; show _ + 5 ≤ 110; omega)) (xg_V (xr_50 15 rfl) (xr_50 16 rfl) (xr_50 17 rfl) (xr_1 5 rfl) (xr_50 18 rfl)) rfl rfl (by decide +kernel) ⟨Nat.le_of_ble_eq_true rfl, Nat.le_of_ble_eq_true rfl⟩ 0 rfl rfl rfl rfl rfl (Nat.le_of_ble_eq_true rfl) dX8_describe_58 ⟨by decide, by decide⟩ (fun u' hq => ?_)
      obtain ⟨X10, A10, rfl, hW10⟩ := hq
      have hB10 : (([] : List Nat) ++ digs n0 ++ strs 9 ++ digs n1 ++ strs 10).length ≤ 0 + 2 + 1 + 2 + 5 := by rw [List.length_append, strs_len, show lenS.getD 10 0 = 5 from rfl]; have := hB9; omega
      refine j_aload_n h dX8_describe_61 rfl 0 rfl ?_
      refine j_iload_n h dX8_describe_62 rfl 1 rfl ?_
      refine j_iconst h (v := 2) dX8_describe_63 (by decide) ?_
      refine j_callI h (n := 2) (c_X8_ofRink l D cy ad _ _ _ _ (vp_in_nI hr (by decide)) (vp_in_nI (n := 2) (by decide) (by decide))) (xg_V (xr_16 15 rfl) (xr_16 16 rfl) (xr_16 17 rfl) (xr_1 5 rfl) (xr_16 18 rfl)) rfl rfl (by decide +kernel) ⟨Nat.le_of_ble_eq_true rfl, Nat.le_of_ble_eq_true rfl⟩ 0 rfl rfl rfl rfl rfl (Nat.le_of_ble_eq_true rfl) dX8_describe_64 ⟨by decide, by decide⟩ (fun r' u' hq => ?_)
      obtain ⟨rfl, rfl⟩ := hq
      rw [ofk 2 n2 (nI 2) (by decide) e2 _ _ _ hW10]
      refine j_if_le h (tgt := 80) dX8_describe_67 (by decide) (fun _ => ?_) (fun z => absurd (show nI n2 ≤ 0 by rw [q]; exact Int32.le_refl _) z)
      refine k80 _ _ _ (by have := hB10; omega) hW10 (hfin _ (if_pos q))
    · refine j_ldcS h (i := 11) rfl dX8_describe_56 ?_
      refine j_callV h (n := 1) (c_X8_writes l D cy ad _ _ hW9 (i := 11) (by decide) (by have := hB9; show _ + 6 ≤ 110; omega)) (xg_V (xr_50 15 rfl) (xr_50 16 rfl) (xr_50 17 rfl) (xr_1 5 rfl) (xr_50 18 rfl)) rfl rfl (by decide +kernel) ⟨Nat.le_of_ble_eq_true rfl, Nat.le_of_ble_eq_true rfl⟩ 0 rfl rfl rfl rfl rfl (Nat.le_of_ble_eq_true rfl) dX8_describe_58 ⟨by decide, by decide⟩ (fun u' hq => ?_)
      obtain ⟨X11, A11, rfl, hW11⟩ := hq
      have hB11 : (([] : List Nat) ++ digs n0 ++ strs 9 ++ digs n1 ++ strs 11).length ≤ 0 + 2 + 1 + 2 + 6 := by rw [List.length_append, strs_len, show lenS.getD 11 0 = 6 from rfl]; have := hB9; omega
      refine j_aload_n h dX8_describe_61 rfl 0 rfl ?_
      refine j_iload_n h dX8_describe_62 rfl 1 rfl ?_
      refine j_iconst h (v := 2) dX8_describe_63 (by decide) ?_
      refine j_callI h (n := 2) (c_X8_ofRink l D cy ad _ _ _ _ (vp_in_nI hr (by decide)) (vp_in_nI (n := 2) (by decide) (by decide))) (xg_V (xr_16 15 rfl) (xr_16 16 rfl) (xr_16 17 rfl) (xr_1 5 rfl) (xr_16 18 rfl)) rfl rfl (by decide +kernel) ⟨Nat.le_of_ble_eq_true rfl, Nat.le_of_ble_eq_true rfl⟩ 0 rfl rfl rfl rfl rfl (Nat.le_of_ble_eq_true rfl) dX8_describe_64 ⟨by decide, by decide⟩ (fun r' u' hq => ?_)
      obtain ⟨rfl, rfl⟩ := hq
      rw [ofk 2 n2 (nI 2) (by decide) e2 _ _ _ hW11]
      refine j_if_le h (tgt := 80) dX8_describe_67 (by decide) (fun z => absurd (Int32.le_antisymm z (Int32.not_lt.mp (nI_pos (by omega)))) q) (fun _ => ?_)
      refine j_aload_n h dX8_describe_70 rfl 0 rfl ?_
      refine j_aload_n h dX8_describe_71 rfl 0 rfl ?_
      refine j_iload_n h dX8_describe_72 rfl 1 rfl ?_
      refine j_iconst h (v := 2) dX8_describe_73 (by decide) ?_
      refine j_callI h (n := 2) (c_X8_ofRink l D cy ad _ _ _ _ (vp_in_nI hr (by decide)) (vp_in_nI (n := 2) (by decide) (by decide))) (xg_V (xr_16 15 rfl) (xr_16 16 rfl) (xr_16 17 rfl) (xr_1 5 rfl) (xr_16 18 rfl)) rfl rfl (by decide +kernel) ⟨Nat.le_of_ble_eq_true rfl, Nat.le_of_ble_eq_true rfl⟩ 0 rfl rfl rfl rfl rfl (Nat.le_of_ble_eq_true rfl) dX8_describe_74 ⟨by decide, by decide⟩ (fun r' u' hq => ?_)
      obtain ⟨rfl, rfl⟩ := hq
      rw [ofk 2 n2 (nI 2) (by decide) e2 _ _ _ hW11]
      have hx : sb_dg n2 ≤ 2 := dg_2 (by omega)
      refine j_callV h (n := 1) (c_X8_writesNumber l D cy ad 1 n2 _ _ _ hW11 (pw_1 (by omega)) (by omega) (by have := hB11; omega)) (xg_V (xr_50 11 rfl) (xr_50 12 rfl) (xr_50 13 rfl) (xr_1 5 rfl) (xr_50 14 rfl)) rfl rfl (by decide +kernel) ⟨Nat.le_of_ble_eq_true rfl, Nat.le_of_ble_eq_true rfl⟩ 0 rfl rfl rfl rfl rfl (Nat.le_of_ble_eq_true rfl) dX8_describe_77 ⟨by decide, by decide⟩ (fun u' hq => ?_)
      obtain ⟨X12, A12, rfl, hW12⟩ := hq
      have hB12 : (([] : List Nat) ++ digs n0 ++ strs 9 ++ digs n1 ++ strs 11 ++ digs n2).length ≤ 0 + 2 + 1 + 2 + 6 + 2 := by rw [List.length_append, digs_len]; have := hB11; omega
      refine k80 _ _ _ (by have := hB12; omega) hW12 (hfin _ (if_neg q))

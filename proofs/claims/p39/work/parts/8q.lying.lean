/-! ===== the reference describes a rink ===== -/
section DSC
variable {M : gM} {f : Nat → Int32} {p : Int32}
theorem woodsOn_l (h : GR M f) : ∀ n k, n + k = 17 → f_X1_woodsOn_l5 M p 1 n k (nI (cnt (lyB M p) k)) = nI (cnt (lyB M p) 16) := by
  intro n
  induction n with
  | zero =>
    intro k hk
    obtain rfl : k = 17 := by omega
    show nI (cnt (lyB M p) 16 + (lyB M p 16).toNat) = _
    rw [b_f (ly_n (Or.inl (end_16 h)))]
  | succ n ih =>
    intro k hk
    unfold f_X1_woodsOn_l5
    by_cases c : M.1 4 ≤ nI k
    · rw [if_pos c, cnt_stop 16 (show k ≤ 16 by omega) (fun j h1 h2 => ly_n (Or.inl (le_mono c h1 (by omega))))]
    · have r := ih (k + 1) (by omega)
      rw [show cnt (lyB M p) (k + 1) = cnt (lyB M p) k + (lyB M p k).toNat from rfl] at r
      rw [if_neg c]
      by_cases d : M.2.2.1 k 2 = 1
      · rw [if_pos d]
        by_cases e : M.2.2.1 k 3 = p
        · rw [b_t (ly_t c (by unfold f_X6_liesOn; rw [if_pos d, if_pos e]; decide))] at r
          rw [if_pos e, nI_1]; exact r
        · rw [b_f (ly_n (Or.inr (by unfold f_X6_liesOn; rw [if_pos d, if_neg e])))] at r
          rw [if_neg e]; exact r
      · rw [b_f (ly_n (Or.inr (by unfold f_X6_liesOn; rw [if_neg d])))] at r
        rw [if_neg d]; exact r
theorem woodsOn_eq (h : GR M f) : f_X1_woodsOn M p 1 = nI (cnt (lyB M p) 16) := woodsOn_l h 17 0 rfl
theorem cnt_two {L P Q : Nat → Bool} : ∀ n, (∀ j, j < n → L j = true → P j = true ∨ Q j = true) → cnt L n ≤ cnt P n + cnt Q n := by
  intro n
  induction n with
  | zero => intro _; exact Nat.zero_le _
  | succ n ih =>
    intro h
    have a := ih (fun j hj => h j (by omega))
    show cnt L n + (L n).toNat ≤ cnt P n + (P n).toNat + (cnt Q n + (Q n).toNat)
    have b : (L n).toNat ≤ (P n).toNat + (Q n).toNat := by
      cases e : L n
      · exact Nat.zero_le _
      · rcases h n (Nat.lt_succ_self n) e with q | q
        · rw [q]; exact Nat.le_add_right _ _
        · rw [q]; exact Nat.le_add_left _ _
    omega
theorem lying_8r (h : GR M f) {r : Nat} (hr : r < 4) (hc : ¬ M.1 3 ≤ nI r) : cnt (lyB M (nI r)) 16 ≤ 8 := by
  have a0 := h.2.2.2.2.2 r hr hc 0 (by decide)
  have a1 := h.2.2.2.2.2 r hr hc 1 (by decide)
  have hrr := h.r (Nat.le_of_lt hr) hc
  have b0 := vp_lt hrr.2.2.2.2.2.2.2.2.1
  have b1 := vp_lt hrr.2.2.2.2.2.2.2.2.2
  have t := cnt_two (L := lyB M (nI r)) (P := onR M r 0) (Q := onR M r 1) 16 (fun j hj hL => by
    obtain ⟨c1, c2⟩ := ly_i.mp hL
    obtain ⟨d1, d2⟩ := lies_1 c2
    rcases club_of h hL hj with e | e
    · exact Or.inl (decide_eq_true ⟨c1, one_ne d1, d2, e⟩)
    · exact Or.inr (decide_eq_true ⟨c1, one_ne d1, d2, e⟩))
  change cnt (onR M r 0) 16 ≤ (M.2.1 r 8).toNatClampNeg at a0
  change cnt (onR M r 1) 16 ≤ (M.2.1 r 9).toNatClampNeg at a1
  omega
theorem lying_8 (h : GR M f) : f_X1_woodsOn M p 1 ≤ nI 8 := by
  rw [woodsOn_eq h]
  refine nI_le ?_ (by decide)
  by_cases z : cnt (lyB M p) 16 = 0
  · omega
  · obtain ⟨k, hk, hL, -⟩ := least_of (fun _ => 0) 16 (show 0 < cnt (lyB M p) 16 by omega)
    obtain ⟨c1, c2⟩ := ly_i.mp hL
    obtain ⟨d1, d2⟩ := lies_1 c2
    obtain ⟨r, e, hr, hc, -⟩ := (h.w (Nat.le_of_lt hk) c1).p (one_ne d1)
    rw [← d2, e]
    exact lying_8r h hr hc
theorem place_ex (h : GR M f) {k : Nat} (hk : k < cnt (lyB M p) 16) : ∃ i, i < 16 ∧ lyB M p i = true ∧ f_X1_woodInOrder M p (nI k) = nI i := by
  have := cnt_le_n (P := lyB M p) 16
  rcases inOrder (p := p) h (q := k) (by omega) with ⟨i, hi, hL, -, e⟩ | ⟨no, -⟩
  · exact ⟨i, hi, hL, e⟩
  · obtain ⟨i, hi, hL, e⟩ := rank_ex (L := lyB M p) (d := dI M) k hk
    exact absurd e (no i hi hL)
end DSC

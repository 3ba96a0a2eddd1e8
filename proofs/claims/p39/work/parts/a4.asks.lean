/-! ===== all that is asked of an object hangs on its green alone ===== -/
/-- two greens that show alike -/
def SAME (M N : gM) : Prop := ∃ f, GR M f ∧ GR N f
abbrev x0 : Nat → Int32 := fun _ => 0
abbrev a0 : Nat → Nat → Int32 := fun _ _ => 0
section A7
variable {M N : gM} {f : Nat → Int32}
theorem SAME.eq (h : EQG M N) (g : OKG N) : SAME M N := g.elim fun f q => ⟨f, q.congr h (fun _ _ => rfl), q⟩
theorem SAME.rf (g : OKG M) : SAME M M := SAME.eq EQG.rf g
theorem SAME.sy (h : SAME M N) : SAME N M := h.elim fun f q => ⟨f, q.2, q.1⟩
theorem sm_dist (h : GR M f) (g : GR N f) {i : Nat} (hi : i < 16) (hc : ¬ M.1 4 ≤ nI i) (h1 : M.2.2.1 i 2 = 1) : M.2.2.1 i 6 = N.2.2.1 i 6 := by
  have hc' : ¬ N.1 4 ≤ nI i := by rw [← g.n4, h.n4]; exact hc
  have w1 := h.w (by omega) hc
  have w2 := g.w (by omega) hc'
  have h2 : N.2.2.1 i 2 = 1 := by rw [← w2.1.2.2.1, w1.1.2.2.1]; exact h1
  rw [← q_distance (X := x0) (A := fun _ => f) h hi hc h1, ← q_distance (X := x0) (A := fun _ => f) g hi hc' h2]
theorem sm_isRink (h : GR M f) (g : GR N f) (p : Int32) : f_X1_isRink M p = f_X1_isRink N p := by
  unfold f_X1_isRink
  rw [← h.n3, ← g.n3]
theorem sm_isWood (h : GR M f) (g : GR N f) (p : Int32) : f_X1_isWood M p = f_X1_isWood N p := by
  unfold f_X1_isWood
  rw [← h.n4, ← g.n4]
theorem sm_order (h : GR M f) (g : GR N f) (p q : Int32) : f_X1_woodInOrder M p q = f_X1_woodInOrder N p q := (q_atPlace (X := x0) (A := fun _ => f) h p q).symm.trans (q_atPlace (X := x0) (A := fun _ => f) g p q)
theorem sm_write (h : GR M f) (g : GR N f) (p : Int32) {k : Nat} (hk : k < 100) (T : List Nat) : f_X7_writeWood M (f_X1_woodInOrder M p (nI k)) T = f_X7_writeWood N (f_X1_woodInOrder N p (nI k)) T := by
  rw [← sm_order h g p (nI k)]
  unfold f_X7_writeWood
  simp only [bd_x]
  rw [sm_isWood h g]
  rcases inOrder (p := p) h hk with ⟨i, hi, hL, -, e⟩ | ⟨-, e⟩
  · obtain ⟨c1, c2⟩ := ly_i.mp hL
    obtain ⟨d1, -⟩ := lies_1 c2
    rw [e, nI_clamp (show i < 2 ^ 31 by omega), sm_dist h g hi c1 d1]
  · rw [e]
    have : f_X1_isWood N (-4) = 0 := by
      unfold f_X1_isWood
      rw [if_pos (by decide)]
    rw [this, if_pos rfl, if_pos rfl]
theorem sm_l138 (h : GR M f) (g : GR N f) (p z : Int32) : ∀ n k T, n + k ≤ 50 → f_X7_describe_l138 M p z n k T = f_X7_describe_l138 N p z n k T := by
  intro n
  induction n with
  | zero => intro k T _; rfl
  | succ n ih =>
    intro k T hk
    unfold f_X7_describe_l138
    simp only [bd_x]
    rw [sm_write h g p (k := k) (by omega) T, ih (k + 1) _ (by omega)]
theorem sm_describe (h : GR M f) (g : GR N f) (p : Int32) : f_X7_describe M p = f_X7_describe N p := by
  unfold f_X7_describe
  simp only [bd_x]
  rw [← sm_isRink h g]
  by_cases c : f_X1_isRink M p = 0
  · rw [if_pos c, if_pos c]
  · rw [if_neg c, if_neg c]
    obtain ⟨r, rfl, hr, hrc⟩ := rink_of h c
    have hrc' : ¬ N.1 3 ≤ nI r := by rw [← g.n3, h.n3]; exact hrc
    have e : (nI r).toNatClampNeg = r := nI_clamp (by omega)
    have r1 := (h.r (by omega) hrc).1
    have r2 := (g.r (by omega) hrc').1
    have hw : f_X1_woodsOn M (nI r) 1 = f_X1_woodsOn N (nI r) 1 := (q_countOn (X := x0) (A := fun _ => f) h (nI r) (by decide)).symm.trans (q_countOn (X := x0) (A := fun _ => f) g (nI r) (by decide))
    have hp : f_X5_isPlayed M r = f_X5_isPlayed N r := by
      unfold f_X5_isPlayed
      rw [← r1.2.2.2.2.1, ← r2.2.2.2.2.1]
    rw [e, hw, hp, ← r1.1, ← r2.1, ← r1.2.1, ← r2.2.1, ← r1.2.2.1, ← r2.2.2.1, ← r1.2.2.2.2.1, ← r2.2.2.2.2.1]
    rw [sm_l138 h g _ _ 9 0 _ (by decide), sm_l138 h g _ _ 9 0 _ (by decide), sm_l138 h g _ _ 9 0 _ (by decide), sm_l138 h g _ _ 9 0 _ (by decide)]
/-- what is asked: winShare, meanWet, account, rinkOf, nearest, would, bestStrength, shots, wetIn, castsIn, dryIn, describe, woodOf, clubOf, rinkAt, leader -/
abbrev QS : Type := UInt64 × UInt32 × (Int32 → Int32) × (Int32 → Int32 → Int32) × (Int32 → Int32 → Int32) × (Int32 → Int32 → Int32 → Int32 → Int32 → Int32) × (Int32 → Int32 → Int32 → Int32 → Int32) × (Int32 → Int32 → Int32) × (Int32 → Int32 → Int32) × (Int32 → Int32 → Int32) × (Int32 → Int32) × (Int32 → Int32 × List Nat) × (Int32 → Int32 → Int32) × (Int32 → Int32 → Int32) × (Int32 → Int32) × Int32
def qs (M : gM) : QS := (f_X7_winShare M x0 a0, f_X7_meanWet M x0 a0, f_X7_account M x0 a0, f_X7_rinkOf M x0 a0, f_X7_nearest M x0 a0, f_X7_would M x0 a0, f_X7_bestStrength M x0 a0, f_X7_shots M x0 a0, f_X7_wetIn M x0 a0, f_X7_castsIn M x0 a0, f_X7_dryIn M x0 a0, f_X7_describe M, f_X7_woodOf M x0 a0, f_X7_clubOf M x0 a0, f_X7_rinkAt M x0 a0, f_X7_leader M x0 a0)
theorem sm_qs (s : SAME M N) : qs M = qs N := by
  obtain ⟨f, h, g⟩ := s
  unfold qs
  have e1 : f_X7_winShare M x0 a0 = f_X7_winShare N x0 a0 := (Q_winShare (X := x0) (A := fun _ => f) h).symm.trans (Q_winShare g)
  have e2 : f_X7_meanWet M x0 a0 = f_X7_meanWet N x0 a0 := (Q_meanWet (X := x0) (A := fun _ => f) h).symm.trans (Q_meanWet g)
  have e3 : f_X7_account M x0 a0 = f_X7_account N x0 a0 := funext fun p => (Q_account (X := x0) (A := fun _ => f) h rfl rfl p).symm.trans (Q_account g rfl rfl p)
  have e4 : f_X7_rinkOf M x0 a0 = f_X7_rinkOf N x0 a0 := funext fun p => funext fun q => (Q_rinkOf (X := x0) (A := fun _ => f) h p q).symm.trans (Q_rinkOf g p q)
  have e5 : f_X7_nearest M x0 a0 = f_X7_nearest N x0 a0 := funext fun p => funext fun q => (Q_nearest (X := x0) (A := fun _ => f) h p q).symm.trans (Q_nearest g p q)
  have e6 : f_X7_would M x0 a0 = f_X7_would N x0 a0 := funext fun p1 => funext fun p2 => funext fun p3 => funext fun p4 => funext fun p5 => (Q_would (X := x0) (A := fun _ => f) h p1 p2 p3 p4 p5).symm.trans (Q_would g p1 p2 p3 p4 p5)
  have e7 : f_X7_bestStrength M x0 a0 = f_X7_bestStrength N x0 a0 := funext fun p1 => funext fun p2 => funext fun p3 => funext fun p4 => (Q_bestStrength (X := x0) (A := fun _ => f) h p1 p2 p3 p4).symm.trans (Q_bestStrength g p1 p2 p3 p4)
  have e8 : f_X7_shots M x0 a0 = f_X7_shots N x0 a0 := funext fun p => funext fun q => (Q_shots (X := x0) (A := fun _ => f) h p q).symm.trans (Q_shots g p q)
  have e9 : f_X7_wetIn M x0 a0 = f_X7_wetIn N x0 a0 := funext fun p => funext fun q => (Q_wetIn (X := x0) (A := fun _ => f) h p q).symm.trans (Q_wetIn g p q)
  have e10 : f_X7_castsIn M x0 a0 = f_X7_castsIn N x0 a0 := funext fun p => funext fun q => (Q_castsIn (X := x0) (A := fun _ => f) h p q).symm.trans (Q_castsIn g p q)
  have e11 : f_X7_dryIn M x0 a0 = f_X7_dryIn N x0 a0 := funext fun p => (Q_dryIn (X := x0) (A := fun _ => f) h p).symm.trans (Q_dryIn g p)
  have e12 : f_X7_describe M = f_X7_describe N := funext fun p => sm_describe h g p
  have e13 : f_X7_woodOf M x0 a0 = f_X7_woodOf N x0 a0 := funext fun p => funext fun q => (Q_woodOf (X := x0) (A := fun _ => f) h p q).symm.trans (Q_woodOf g p q)
  have e14 : f_X7_clubOf M x0 a0 = f_X7_clubOf N x0 a0 := funext fun p => funext fun q => (Q_clubOf (X := x0) (A := fun _ => f) h p q).symm.trans (Q_clubOf g p q)
  have e15 : f_X7_rinkAt M x0 a0 = f_X7_rinkAt N x0 a0 := funext fun p => (Q_rinkAt (X := x0) (A := fun _ => f) h p).symm.trans (Q_rinkAt g p)
  have e16 : f_X7_leader M x0 a0 = f_X7_leader N x0 a0 := (Q_leader (X := x0) (A := fun _ => f) h).symm.trans (Q_leader g)
  rw [e1, e2, e3, e4, e5, e6, e7, e8, e9, e10, e11, e12, e13, e14, e15, e16]
end A7

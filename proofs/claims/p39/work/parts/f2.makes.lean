/-! ===== makes ===== -/
set_option maxRecDepth 100000
def zY : Nat → Int32 := fun k => if k = 14 then -4 else 0
def zB : Nat → Nat → Int32 := fun _ _ => 0
theorem GI_gZ : GI gZ := ⟨vp_in_nI (n := 0) (by decide) (by decide), vp_in_nI (n := 0) (by decide) (by decide), fun _ _ => vp_in_nI (n := 0) (by decide) (by decide)⟩
theorem GI_0 : GI gM0 := GI_rs GI_gZ rfl
theorem TX_0 : TX 0 16 (fun _ => 0) := ⟨Nat.zero_le _, by decide, sb_fit0, fun _ => 0, fun j hj => absurd hj (Nat.not_lt_zero _)⟩
/-- a new object -/
theorem OBx_0 (byI byL : Nat) : OBx (fun _ => gM0) gM0 cX0 cA0 (byI, 16, byL, 16) (fun _ => gM0) 0 none (fun _ => 0) 0 :=
  ⟨⟨zY, f_X8_begins zY zB, ⟨GR.reset begins_row.2, ⟨0, by decide, rfl, rfl, fun i hi => absurd hi (Nat.not_lt_zero _)⟩, ⟨0, 0, by decide, by decide, rfl, rfl, rfl, fun i hi => absurd hi (Nat.not_lt_zero _)⟩, Or.inl ⟨rfl, rfl⟩, rfl⟩, ⟨by decide, rfl, rfl, fun j hj => absurd hj (Nat.not_lt_zero _)⟩⟩, GI_0, fun _ _ _ => GI_0, ⟨0, by decide, by decide, rfl, rfl, fun i hi => absurd hi (Nat.not_lt_zero _)⟩, rfl, TX_0, 0, by decide, rfl, TX_0⟩
/-- so many rinks and woods, each rink in its ten columns -/
def MK (M : gM) (r w : Nat) : Prop := M.1 3 = nI r ∧ M.1 4 = nI w ∧ ∀ k, k < r → ∃ a c, M.2.1 k 0 = nI a ∧ M.2.1 k 1 = nI c ∧ 10 * k ≤ a ∧ a + 2 ≤ c ∧ c < 10 * k + 10
theorem MK.kp {M N : gM} {r w : Nat} (h : MK M r w) (k : KP M N) : MK N r w := ⟨k.1.trans h.1, k.2.1.trans h.2.1, fun j hj => by
  obtain ⟨a, c, e1, e2, e3⟩ := h.2.2 j hj
  exact ⟨a, c, (k.2.2 j).1.trans e1, (k.2.2 j).2.trans e2, e3⟩⟩
section MKS
variable {M : gM} {X : Nat → Int32} {A : Nat → Nat → Int32} {G : Nat → gM}
theorem lay_0 {r : Nat} {p q : Int32} : (f_X5_lay M r p q).2.1 r 0 = p ∧ (f_X5_lay M r p q).2.1 r 1 = q ∧ ∀ k, k ≠ r → (f_X5_lay M r p q).2.1 k = M.2.1 k := by
  unfold f_X5_lay
  refine ⟨by simp only [sr_r]; rfl, by simp only [sr_r]; rfl, fun k hk => ?_⟩
  simp only [sr, up2_ne _ _ _ hk]
theorem MK.lay {r w a c : Nat} (h : MK M r w) (h1 : 10 * r ≤ a) (h2 : a + 2 ≤ c) (h3 : c < 10 * r + 10) : MK (sg (f_X5_lay M r (nI a) (nI c)) 3 (nI (r + 1))) (r + 1) w := by
  obtain ⟨e0, e1, e2⟩ := lay_0 (M := M) (r := r) (p := nI a) (q := nI c)
  refine ⟨sg_eq, (sg_ne (by decide)).trans h.2.1, fun k hk => ?_⟩
  show ∃ a1 c1, (f_X5_lay M r (nI a) (nI c)).2.1 k 0 = nI a1 ∧ (f_X5_lay M r (nI a) (nI c)).2.1 k 1 = nI c1 ∧ _
  by_cases e : k = r
  · subst e; exact ⟨a, c, e0, e1, h1, h2, h3⟩
  · rw [e2 k e]; exact h.2.2 k (by omega)
theorem MK.clr {r w a c : Nat} (h : MK M r w) (hr : r < 3) (h1 : 10 * r ≤ a) (h2 : a + 2 ≤ c) (h3 : c < 10 * r + 10) : ∀ k, k < r → M.2.1 k 1 < nI a ∧ ¬ nI c < M.2.1 k 0 := by
  intro k hk
  obtain ⟨x, y, e1, e2, e3, e4, e5⟩ := h.2.2 k hk
  rw [e1, e2]
  exact ⟨xlt (by omega) (by omega), xnlt (by omega) (by omega)⟩
theorem MK.wood {r w : Nat} {p q : Int32} (h : MK M r w) : MK (sg (f_X6_make M w p q) 4 (nI (w + 1))) r (w + 1) := ⟨(sg_ne (by decide)).trans h.1, sg_eq, h.2.2⟩
end MKS
theorem vp_in_lt {p : Int32} (h : vp_in p 4) : vp_in p 10 := fun c => h (c.elim Or.inl (fun c => Or.inr (Nat.le_trans (by decide) c)))
theorem mod2 : ∀ k, k < 16 → nI k - nI k / 2 * 2 = nI (k % 2) := by decide +kernel
theorem tens : ∀ k, k < 4 → (10 : Int32) * nI k = nI (10 * k) := by decide +kernel
abbrev rm_L_makes : Room := { frames := 8, cells := 0, slots := 0, locals := 250 }
section MX
variable {l : Launch} {D : gD} {cy : Nat → ClassId} {J : JT va_W} {L : Nat → Nat → Nat} {G : Nat → gM} {M : gM} {X : Nat → Int32} {A : Nat → Nat → Int32} {b : cB} {hh : Nat → gM} {n0 : Nat} {sv : Option gM} {t : Nat → Nat} {k0 : Nat}
theorem mk_1 (h : OKJ l D cy wI J cL_makes 4 yL_makes rm_L_makes) (hL : D.2.2.2.2.1 ≤ 260) (K : (∀ G M X A hh n0, OBx G M X A b hh n0 sv t k0 → MK M 3 0 → M.1 6 = 1 → M.1 7 = 2 → J ([] ++ CW cy L ((va_up G 0 M, X, A), b)) (0, 0) [(2, .int (nI 3)), (0, .ref (L 11 0)), (1, .ref D.2.2.2.1)] 54 [])) : ∀ d k G M X A hh n0, d + k = 3 → OBx G M X A b hh n0 sv t k0 → MK M k 0 → M.1 6 = 1 → M.1 7 = 2 → J ([] ++ CW cy L ((va_up G 0 M, X, A), b)) (0, 0) [(2, .int (nI k)), (0, .ref (L 11 0)), (1, .ref D.2.2.2.1)] 2 [] := by
  intro d
  induction d with
  | zero =>
    intro k G M X A hh n0 hk hO hM h6 h7
    obtain rfl : k = 3 := by omega
    refine j_iload_n h dL_makes_2 rfl 0 rfl ?_
    refine j_iconst h (v := 3) dL_makes_3 (by decide) ?_
    refine j_icmp_ge h (tgt := 54) dL_makes_4 (by decide) (fun _ => ?_) (fun c => absurd (Int32.le_refl _) c)
    exact K _ _ _ _ _ _ hO hM h6 h7
  | succ d ih =>
    intro k G M X A hh n0 hk hO hM h6 h7
    refine j_iload_n h dL_makes_2 rfl 0 rfl ?_
    refine j_iconst h (v := 3) dL_makes_3 (by decide) ?_
    refine j_icmp_ge h (tgt := 54) dL_makes_4 (by decide) (fun c => absurd c (xnle (a := 3) (b := k) (by omega) (by decide))) (fun _ => ?_)
    refine j_bipush h (v := 10) dL_makes_7 (by decide) ?_
    refine j_iload_n h dL_makes_9 rfl 0 rfl ?_
    refine j_imul h dL_makes_10 ?_
    rw [show (10 * (nI k) : Int32) = nI (10 * k) from tens k (by omega)]
    refine j_aload_n h dL_makes_11 rfl 2 rfl ?_
    refine j_iload_n h dL_makes_12 rfl 0 rfl ?_
    refine k_at h rfl (j := k) (by omega) hL ⟨Nat.le_of_ble_eq_true rfl, Nat.le_of_ble_eq_true rfl⟩ (Nat.le_of_ble_eq_true rfl) ⟨Nat.le_refl _, Nat.le_refl _⟩ dL_makes_13 ?_
    refine j_iconst h (v := 4) dL_makes_16 (by decide) ?_
    refine k_some h rfl (by decide) ⟨Nat.le_of_ble_eq_true rfl, Nat.le_of_ble_eq_true rfl⟩ (Nat.le_of_ble_eq_true rfl) ⟨Nat.le_refl _, Nat.le_refl _⟩ dL_makes_17 ?_
    obtain ⟨v1, hv1, ev1⟩ := sm_k (atS D k) (n := 4) (by decide) (by decide)
    rw [show (sm (atS D k) 4 : Int32) = nI v1 from ev1]
    refine j_iadd h dL_makes_20 ?_
    rw [show ((nI (10 * k)) + (nI v1) : Int32) = nI (10 * k + v1) from (nI_add _ _)]
    refine j_istore_n h (lv' := [(3, _), (2, _), (0, _), (1, _)]) dL_makes_21 rfl (by decide) rfl ?_
    refine j_aload_n h dL_makes_22 rfl 2 rfl ?_
    refine j_iload_n h dL_makes_23 rfl 0 rfl ?_
    refine j_iload_n h dL_makes_24 rfl 0 rfl ?_
    refine j_iconst h (v := 2) dL_makes_25 (by decide) ?_
    refine j_iadd h dL_makes_26 ?_
    rw [show ((nI (10 * k + v1)) + 2 : Int32) = nI (10 * k + v1 + 2) from (nI_add _ 2)]
    refine j_aload_n h dL_makes_27 rfl 3 rfl ?_
    refine j_iload_n h dL_makes_28 rfl 1 rfl ?_
    refine k_at h rfl (j := k) (by omega) hL ⟨Nat.le_of_ble_eq_true rfl, Nat.le_of_ble_eq_true rfl⟩ (Nat.le_of_ble_eq_true rfl) ⟨Nat.le_refl _, Nat.le_refl _⟩ dL_makes_29 ?_
    refine j_iconst h (v := 4) dL_makes_32 (by decide) ?_
    refine j_ishr h dL_makes_33 ?_
    refine j_iconst h (v := 5) dL_makes_34 (by decide) ?_
    refine k_some h rfl (by decide) ⟨Nat.le_of_ble_eq_true rfl, Nat.le_of_ble_eq_true rfl⟩ (Nat.le_of_ble_eq_true rfl) ⟨Nat.le_refl _, Nat.le_refl _⟩ dL_makes_35 ?_
    obtain ⟨v2, hv2, ev2⟩ := sm_k (atS D k >>> (4 &&& 31)) (n := 5) (by decide) (by decide)
    rw [show (sm ((atS D k) >>> (4 &&& 31)) 5 : Int32) = nI v2 from ev2]
    refine j_iadd h dL_makes_38 ?_
    rw [show ((nI (10 * k + v1 + 2)) + (nI v2) : Int32) = nI (10 * k + v1 + 2 + v2) from (nI_add _ _)]
    refine o_rink h rfl hO ⟨Nat.le_of_ble_eq_true rfl, Nat.le_of_ble_eq_true rfl⟩ (Nat.le_of_ble_eq_true rfl) ⟨Nat.le_refl _, Nat.le_refl _⟩ dL_makes_39 (fun z hz hS => ?_)
    have hly := lay_ok (M := M) (X := X) (A := A) (r := k) hM.1 (by omega) (a := 10 * k + v1) (c := 10 * k + v1 + 2 + v2) (by omega) (by omega) (by omega) (hM.clr (by omega) (by omega) (by omega) (by omega))
    have hz1 : z.1 = nI k := by rw [hz, z_rink, hly]
    have hz2 : z.2.2.1 = sg (f_X5_lay M k (nI (10 * k + v1)) (nI (10 * k + v1 + 2 + v2))) 3 (nI (k + 1)) := by rw [hz, s_rink, hly]
    rw [hz1]
    refine j_iload_n h dL_makes_42 rfl 1 rfl ?_
    refine j_icmp_eq h (tgt := 48) dL_makes_43 (by decide) (fun _ => ?_) (fun c => absurd rfl c)
    refine j_iinc h (v := nI (k + 1)) (lv' := [(2, _), (3, _), (0, _), (1, _)]) dL_makes_48 (k := 1) rfl (nI_1 k) (by decide) rfl ?_
    refine j_goto h (tgt := 2) dL_makes_51 (by decide) ?_
    refine j_sub h [0, 2, 3] rfl (lv' := [(2, .int (nI (k + 1))), (0, .ref (L 11 0)), (1, .ref D.2.2.2.1)]) ?_
    rcases hS.2 with ⟨c, -⟩ | ⟨-, hO1, -⟩
    · rw [hz1] at c; exact absurd (CODE_lt c) (xnlt (b := 0) (by omega) (by omega))
    · refine ih (k + 1) _ _ _ _ _ _ (by omega) hO1 ?_ ?_ ?_
      · rw [hz2]; exact hM.lay (by omega) (by omega) (by omega)
      · rw [hz2]; exact (sg_ne (by decide)).trans h6
      · rw [hz2]; exact (sg_ne (by decide)).trans h7
theorem mk_2 (h : OKJ l D cy wI J cL_makes 4 yL_makes rm_L_makes) (hL : D.2.2.2.2.1 ≤ 260) (K : (∀ G M X A hh n0, OBx G M X A b hh n0 sv t k0 → MK M 3 16 → M.1 6 = 1 → M.1 7 = 2 → J ([] ++ CW cy L ((va_up G 0 M, X, A), b)) (0, 0) [(2, .int (nI 16)), (0, .ref (L 11 0)), (1, .ref D.2.2.2.1)] 93 [])) : ∀ d k G M X A hh n0, d + k = 16 → OBx G M X A b hh n0 sv t k0 → MK M 3 k → M.1 6 = 1 → M.1 7 = 2 → J ([] ++ CW cy L ((va_up G 0 M, X, A), b)) (0, 0) [(2, .int (nI k)), (0, .ref (L 11 0)), (1, .ref D.2.2.2.1)] 56 [] := by
  intro d
  induction d with
  | zero =>
    intro k G M X A hh n0 hk hO hM h6 h7
    obtain rfl : k = 16 := by omega
    refine j_iload_n h dL_makes_56 rfl 0 rfl ?_
    refine j_bipush h (v := 16) dL_makes_57 (by decide) ?_
    refine j_icmp_ge h (tgt := 93) dL_makes_59 (by decide) (fun _ => ?_) (fun c => absurd (Int32.le_refl _) c)
    exact K _ _ _ _ _ _ hO hM h6 h7
  | succ d ih =>
    intro k G M X A hh n0 hk hO hM h6 h7
    refine j_iload_n h dL_makes_56 rfl 0 rfl ?_
    refine j_bipush h (v := 16) dL_makes_57 (by decide) ?_
    refine j_icmp_ge h (tgt := 93) dL_makes_59 (by decide) (fun c => absurd c (xnle (a := 16) (b := k) (by omega) (by decide))) (fun _ => ?_)
    refine j_aload_n h dL_makes_62 rfl 1 rfl ?_
    refine j_iload_n h dL_makes_63 rfl 0 rfl ?_
    refine j_iconst h (v := 2) dL_makes_64 (by decide) ?_
    refine j_irem h dL_makes_65 (by decide) ?_
    rw [mod2 k (by omega)]
    refine j_aload_n h dL_makes_66 rfl 2 rfl ?_
    refine j_iconst h (v := 3) dL_makes_67 (by decide) ?_
    refine j_iload_n h dL_makes_68 rfl 0 rfl ?_
    refine j_iadd h dL_makes_69 ?_
    rw [show (3 + (nI k) : Int32) = nI (3 + k) from (nI_add 3 k)]
    refine k_at h rfl (j := (3 + k)) (by omega) hL ⟨Nat.le_of_ble_eq_true rfl, Nat.le_of_ble_eq_true rfl⟩ (Nat.le_of_ble_eq_true rfl) ⟨Nat.le_refl _, Nat.le_refl _⟩ dL_makes_70 ?_
    refine j_bipush h (v := 10) dL_makes_73 (by decide) ?_
    refine k_some h rfl (by decide) ⟨Nat.le_of_ble_eq_true rfl, Nat.le_of_ble_eq_true rfl⟩ (Nat.le_of_ble_eq_true rfl) ⟨Nat.le_refl _, Nat.le_refl _⟩ dL_makes_75 ?_
    refine o_wood h rfl hO ⟨Nat.le_of_ble_eq_true rfl, Nat.le_of_ble_eq_true rfl⟩ (Nat.le_of_ble_eq_true rfl) ⟨Nat.le_refl _, Nat.le_refl _⟩ dL_makes_78 (fun z hz hS => ?_)
    have hwd := wood_ok (M := M) (X := X) (A := A) (w := k) hM.2.1 (by omega) (p := k % 2) (by omega) (q := sm (atS D (3 + k)) 10) (sm_in _ (n := 10) (by decide) (by decide))
    have hz1 : z.1 = nI k := by rw [hz, z_wood, hwd]
    have hz2 : z.2.2.1 = sg (f_X6_make M k (nI (k % 2)) (sm (atS D (3 + k)) 10)) 4 (nI (k + 1)) := by rw [hz, s_wood, hwd]
    rw [hz1]
    refine j_iload_n h dL_makes_81 rfl 0 rfl ?_
    refine j_icmp_eq h (tgt := 87) dL_makes_82 (by decide) (fun _ => ?_) (fun c => absurd rfl c)
    refine j_iinc h (v := nI (k + 1)) (lv' := [(2, _), (0, _), (1, _)]) dL_makes_87 (k := 0) rfl (nI_1 k) (by decide) rfl ?_
    refine j_goto h (tgt := 56) dL_makes_90 (by decide) ?_
    rcases hS.2 with ⟨c, -⟩ | ⟨-, hO1, -⟩
    · rw [hz1] at c; exact absurd (CODE_lt c) (xnlt (b := 0) (by omega) (by omega))
    · refine ih (k + 1) _ _ _ _ _ _ (by omega) hO1 ?_ ?_ ?_
      · rw [hz2]; exact hM.wood
      · rw [hz2]; exact (sg_ne (by decide)).trans h6
      · rw [hz2]; exact (sg_ne (by decide)).trans h7
end MX
theorem c_L_makes (l : Launch) (D : gD) (cy : Nat → ClassId) {L : Nat → Nat → Nat} {G : Nat → gM} {M : gM} {X : Nat → Int32} {A : Nat → Nat → Int32} {b : cB} {hh : Nat → gM} {n0 : Nat} {sv : Option gM} {t : Nat → Nat} {k0 : Nat} (hO : OBx G M X A b hh n0 sv t k0) (hM : MK M 0 0) (h6 : M.1 6 = 1) (h7 : M.1 7 = 2) (hL : D.2.2.2.2.1 ≤ 260) : CtI l D cy (CW cy L) yL_makes cL_makes 4 (some .boolean) rm_L_makes [.ref (L 11 0), .ref D.2.2.2.1] ((va_up G 0 M, X, A), b) (fun r u => ∃ G1 M1 X1 A1 h1 n1, r = 1 ∧ u = ((va_up G1 0 M1, X1, A1), b) ∧ OBx G1 M1 X1 A1 b h1 n1 sv t k0 ∧ MK M1 3 16) 0 0 := by
  refine m_entWZ cL_makes 4 (by decide) (Nat.le_of_ble_eq_true rfl) (fun J h hR => ?_)
  show J ([] ++ CW cy L ((va_up G 0 M, X, A), b)) (0, 0) [(0, .ref (L 11 0)), (1, .ref D.2.2.2.1)] 0 []
  refine j_iconst h (v := 0) dL_makes_0 (by decide) ?_
  refine j_istore_n h (lv' := [(2, _), (0, _), (1, _)]) dL_makes_1 rfl (by decide) rfl ?_
  refine mk_1 h hL (fun G M X A hh n0 hO hM h6 h7 => ?_) 3 0 _ _ _ _ _ _ rfl hO hM h6 h7
  refine j_iconst h (v := 0) dL_makes_54 (by decide) ?_
  refine j_istore_n h (lv' := [(2, _), (0, _), (1, _)]) dL_makes_55 rfl (by decide) rfl ?_
  refine mk_2 h hL (fun G M X A hh n0 hO hM h6 h7 => ?_) 16 0 _ _ _ _ _ _ rfl hO hM h6 h7
  refine j_aload_n h dL_makes_93 rfl 1 rfl ?_
  refine j_aload_n h dL_makes_94 rfl 2 rfl ?_
  refine j_bipush h (v := 19) dL_makes_95 (by decide) ?_
  refine k_at h rfl (j := 19) (by omega) hL ⟨Nat.le_of_ble_eq_true rfl, Nat.le_of_ble_eq_true rfl⟩ (Nat.le_of_ble_eq_true rfl) ⟨Nat.le_refl _, Nat.le_refl _⟩ dL_makes_97 ?_
  refine j_iconst h (v := 4) dL_makes_100 (by decide) ?_
  refine k_some h rfl (by decide) ⟨Nat.le_of_ble_eq_true rfl, Nat.le_of_ble_eq_true rfl⟩ (Nat.le_of_ble_eq_true rfl) ⟨Nat.le_refl _, Nat.le_refl _⟩ dL_makes_101 ?_
  refine o_rain h rfl hO ⟨Nat.le_of_ble_eq_true rfl, Nat.le_of_ble_eq_true rfl⟩ (Nat.le_of_ble_eq_true rfl) ⟨Nat.le_refl _, Nat.le_refl _⟩ dL_makes_104 (fun z hz hS => ?_)
  have hq := rain_ok (M := M) (X := X) (A := A) (p := sm (atS D 19) 4) (vp_in_lt (sm_in _ (n := 4) (by decide) (by decide)))
  have hz1 : z.1 = 1 := by rw [hz, z_rain, hq.1, h6]
  have hz2 : z.2.2.1 = sg M 6 (sm (atS D 19) 4) := by rw [hz, s_rain, hq.2]
  rw [hz1]
  refine j_iconst h (v := 1) dL_makes_107 (by decide) ?_
  refine j_icmp_ne h (tgt := 152) dL_makes_108 (by decide) (fun c => absurd rfl c) (fun _ => ?_)
  rcases hS.2 with ⟨c, -⟩ | ⟨-, hO1, -⟩
  · rw [hz1] at c; exact absurd (CODE_lt c) (by decide)
  have hM1 : MK z.2.2.1 3 16 := by rw [hz2]; exact hM.kp (KP.sg (by decide) (by decide) KP.rf)
  have h71 : z.2.2.1.1 7 = 2 := by rw [hz2]; exact (sg_ne (by decide)).trans h7
  clear hz1 hz2 hz hS hO hM h6 h7
  generalize z.2.1 = G at hO1 hM1 h71 ⊢
  generalize z.2.2.1 = M at hO1 hM1 h71 ⊢
  generalize z.2.2.2.1 = X at hO1 hM1 h71 ⊢
  generalize z.2.2.2.2 = A at hO1 hM1 h71 ⊢
  have hO := hO1
  have hM := hM1
  have h7 := h71
  refine j_aload_n h dL_makes_111 rfl 1 rfl ?_
  refine j_aload_n h dL_makes_112 rfl 2 rfl ?_
  refine j_bipush h (v := 20) dL_makes_113 (by decide) ?_
  refine k_at h rfl (j := 20) (by omega) hL ⟨Nat.le_of_ble_eq_true rfl, Nat.le_of_ble_eq_true rfl⟩ (Nat.le_of_ble_eq_true rfl) ⟨Nat.le_refl _, Nat.le_refl _⟩ dL_makes_115 ?_
  refine j_iconst h (v := 4) dL_makes_118 (by decide) ?_
  refine k_some h rfl (by decide) ⟨Nat.le_of_ble_eq_true rfl, Nat.le_of_ble_eq_true rfl⟩ (Nat.le_of_ble_eq_true rfl) ⟨Nat.le_refl _, Nat.le_refl _⟩ dL_makes_119 ?_
  refine o_sun h rfl hO ⟨Nat.le_of_ble_eq_true rfl, Nat.le_of_ble_eq_true rfl⟩ (Nat.le_of_ble_eq_true rfl) ⟨Nat.le_refl _, Nat.le_refl _⟩ dL_makes_122 (fun z hz hS => ?_)
  have hq := sun_ok (M := M) (X := X) (A := A) (p := sm (atS D 20) 4) (vp_in_lt (sm_in _ (n := 4) (by decide) (by decide)))
  have hz1 : z.1 = 2 := by rw [hz, z_sun, hq.1, h7]
  have hz2 : z.2.2.1 = sg M 7 (sm (atS D 20) 4) := by rw [hz, s_sun, hq.2]
  rw [hz1]
  refine j_iconst h (v := 2) dL_makes_125 (by decide) ?_
  refine j_icmp_ne h (tgt := 152) dL_makes_126 (by decide) (fun c => absurd rfl c) (fun _ => ?_)
  rcases hS.2 with ⟨c, -⟩ | ⟨-, hO1, -⟩
  · rw [hz1] at c; exact absurd (CODE_lt c) (by decide)
  have hM1 : MK z.2.2.1 3 16 := by rw [hz2]; exact hM.kp (KP.sg (by decide) (by decide) KP.rf)
  clear hz1 hz2 hz hS hO hM h7
  generalize z.2.1 = G at hO1 hM1 ⊢
  generalize z.2.2.1 = M at hO1 hM1 ⊢
  generalize z.2.2.2.1 = X at hO1 hM1 ⊢
  generalize z.2.2.2.2 = A at hO1 hM1 ⊢
  have hO := hO1
  have hM := hM1
  refine j_aload_n h dL_makes_129 rfl 1 rfl ?_
  refine j_iconst h (v := 1) dL_makes_130 (by decide) ?_
  refine j_aload_n h dL_makes_131 rfl 2 rfl ?_
  refine j_bipush h (v := 21) dL_makes_132 (by decide) ?_
  refine k_at h rfl (j := 21) (by omega) hL ⟨Nat.le_of_ble_eq_true rfl, Nat.le_of_ble_eq_true rfl⟩ (Nat.le_of_ble_eq_true rfl) ⟨Nat.le_refl _, Nat.le_refl _⟩ dL_makes_134 ?_
  refine j_iconst h (v := 5) dL_makes_137 (by decide) ?_
  refine k_some h rfl (by decide) ⟨Nat.le_of_ble_eq_true rfl, Nat.le_of_ble_eq_true rfl⟩ (Nat.le_of_ble_eq_true rfl) ⟨Nat.le_refl _, Nat.le_refl _⟩ dL_makes_138 ?_
  obtain ⟨v, hv, ev⟩ := sm_k (atS D 21) (n := 5) (by decide) (by decide)
  rw [show (sm (atS D 21) 5 : Int32) = nI v from ev]
  refine j_iadd h dL_makes_141 ?_
  rw [show (1 + (nI v) : Int32) = nI (1 + v) from (nI_add 1 v)]
  refine o_hour h rfl hO ⟨Nat.le_of_ble_eq_true rfl, Nat.le_of_ble_eq_true rfl⟩ (Nat.le_of_ble_eq_true rfl) ⟨Nat.le_refl _, Nat.le_refl _⟩ dL_makes_142 (fun z hz hS => ?_)
  obtain ⟨Y, B, hRL, -⟩ := hO.1
  have hp := hour_ok (M := M) (X := X) (A := A) hRL.2.1 hRL.1 (p := nI (1 + v)) (xnlt (b := 1) (by omega) (by omega)) (Int32.not_lt.mp (xnlt (a := 24) (by omega) (by omega)))
  have hz1 : vp_in z.1 37 := by rw [hz, z_hour]; exact hp
  have hM1 : MK z.2.2.1 3 16 := by rw [hz, s_hour]; exact hM.kp kp_hour
  refine j_if_lt h (tgt := 152) dL_makes_145 (by decide) (fun c => absurd c (vin0 hz1)) (fun _ => ?_)
  refine j_iconst h (v := 1) dL_makes_148 (by decide) ?_
  refine j_goto h (tgt := 153) dL_makes_149 (by decide) ?_
  rcases hS.2 with ⟨c, -⟩ | ⟨-, hO1, -⟩
  · exact absurd c (vp_nc hz1)
  exact hR _ ((va_up z.2.1 0 z.2.2.1, z.2.2.2.1, z.2.2.2.2), b) _ _ _ dL_makes_153 (Or.inr rfl) ⟨_, _, _, _, _, _, rfl, rfl, hO1, hM1⟩ (fun H hP => hP) (fun A hD => hD)

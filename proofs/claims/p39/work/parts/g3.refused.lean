/-! ===== refused ===== -/
set_option maxRecDepth 100000
theorem rof0 {M : gM} (h : MK M 3 16) : f_X7_rinkOf M x0 a0 0 0 = M.2.1 0 0 := by
  unfold f_X7_rinkOf
  simp only [bd_x, if_neg (rk0 h), if_true, z0]
theorem rof1 {M : gM} (h : MK M 3 16) : f_X7_rinkOf M x0 a0 0 1 = M.2.1 0 1 := by
  unfold f_X7_rinkOf
  simp only [bd_x, if_neg (rk0 h), if_neg (show ¬ (1 : Int32) = 0 by decide), if_true, z0]
theorem lg_self (x : Int64) : lg_cmp x x = 0 := by
  unfold lg_cmp
  simp
theorem hTz : ∀ j, j < lenS.getD 14 0 → chS 14 j = nI (tz j) ∧ 32 ≤ tz j ∧ tz j ≤ 126 := by decide +kernel
theorem hTr : ∀ j, j < lenS.getD 15 0 → chS 15 j = nI (tr j) ∧ 32 ≤ tr j ∧ tr j ≤ 126 := by decide +kernel
def RFQ (G : Nat → gM) (M : gM) (X0 : Nat → Int32) (A0 : Nat → Nat → Int32) (X : Nat → Int32) (A : Nat → Nat → Int32) (b : cB) (hh : Nat → gM) (n0 : Nat) (sv : Option gM) (t : Nat → Nat) : Prop := OBx G M X A b hh n0 sv t 0 ∧ X 6 = X0 6 ∧ A 2 = A0 2 ∧ A 3 = A0 3
abbrev rm_L_refused : Room := { frames := 12, cells := 403, slots := 89246, locals := 410 }
section RF_o0
variable {l : Launch} {D : gD} {cy : Nat → ClassId} {J : JT va_W} {L : Nat → Nat → Nat} {hh : Nat → gM} {n0 : Nat} {sv : Option gM} {t : Nat → Nat} {M : gM} {X0 : Nat → Int32} {A0 : Nat → Nat → Int32} {f : Nat → Int32} {ac cc : Nat} {s0 : Int64}
theorem rf_o0 (h : OKJ l D cy wI J cL_refused 9 yL_refused rm_L_refused) (hM : MK M 3 16) (hG : GR M f) (ea : M.2.1 0 0 = nI ac) (ec : M.2.1 0 1 = nI cc) (h2 : ac + 2 ≤ cc) (hc : cc < 10) {had : Int32} (hhad : had = f_X7_reason M X0 A0 0 0) (K : ∀ (G : Nat → gM) (X : Nat → Int32) (A : Nat → Nat → Int32) (b : cB), OBx G M X A b hh n0 sv t 0 → X 6 = X0 6 → A 2 = A0 2 → A 3 = A0 3 → J ([] ++ CW cy L ((va_up G 0 M, X, A), b)) (160, 35520) [(7, .int (nI cc)), (6, .int (nI ac)), (5, .int had), (4, .int (nI 16)), (3, .int (nI 3)), (1, .long s0), (0, .ref (L 11 0))] 112 []) : ∀ (G : Nat → gM) (X : Nat → Int32) (A : Nat → Nat → Int32) (b : cB), OBx G M X A b hh n0 sv t 0 → X 6 = X0 6 → A 2 = A0 2 → A 3 = A0 3 → J ([] ++ CW cy L ((va_up G 0 M, X, A), b)) (160, 35520) [(7, .int (nI cc)), (6, .int (nI ac)), (5, .int had), (4, .int (nI 16)), (3, .int (nI 3)), (1, .long s0), (0, .ref (L 11 0))] 42 [] := by
  intro G X A b hO h6 h2A h3A
  refine j_aload_n h dL_refused_42 rfl 6 rfl ?_
  refine j_iconst h (v := (-1)) dL_refused_43 (by decide) ?_
  refine j_iconst h (v := 3) dL_refused_44 (by decide) ?_
  refine o_rink h rfl hO ⟨Nat.le_of_ble_eq_true rfl, Nat.le_of_ble_eq_true rfl⟩ (Nat.le_of_ble_eq_true rfl) ⟨by show 160 ≤ 403; omega, by show 35520 ≤ 89246; omega⟩ dL_refused_45 (fun z hz hS => ?_)
  have hz1 : z.1 = -2 := by rw [hz]; exact an_rink1
  obtain ⟨hO1, e2, e3, e6, e1⟩ := hS.same hz1 (by decide) (fun a q => vp_nc q)
  rw [hz1, e2, e3]
  have h61 := e6.trans h6
  clear hz1 hz hS e1 e2 e3 e6 h6 hO
  generalize z.2.1 = G at hO1 ⊢; generalize z.2.2.2.1 = X at hO1 h61 ⊢; have hO := hO1; have h6 := h61; clear hO1 h61
  refine j_bipush h (v := (-2)) dL_refused_48 (by decide) ?_
  refine j_icmp_ne h (tgt := 395) dL_refused_50 (by decide) (fun c => absurd rfl c) (fun _ => ?_)
  refine j_aload_n h dL_refused_53 rfl 6 rfl ?_
  refine j_iconst h (v := 0) dL_refused_54 (by decide) ?_
  refine j_iconst h (v := 1) dL_refused_55 (by decide) ?_
  refine o_rink h rfl hO ⟨Nat.le_of_ble_eq_true rfl, Nat.le_of_ble_eq_true rfl⟩ (Nat.le_of_ble_eq_true rfl) ⟨by show 160 ≤ 403; omega, by show 35520 ≤ 89246; omega⟩ dL_refused_56 (fun z hz hS => ?_)
  have hz1 : z.1 = -2 := by rw [hz]; exact an_rink2
  obtain ⟨hO1, e2, e3, e6, e1⟩ := hS.same hz1 (by decide) (fun a q => vp_nc q)
  rw [hz1, e2, e3]
  have h61 := e6.trans h6
  clear hz1 hz hS e1 e2 e3 e6 h6 hO
  generalize z.2.1 = G at hO1 ⊢; generalize z.2.2.2.1 = X at hO1 h61 ⊢; have hO := hO1; have h6 := h61; clear hO1 h61
  refine j_bipush h (v := (-2)) dL_refused_59 (by decide) ?_
  refine j_icmp_ne h (tgt := 395) dL_refused_61 (by decide) (fun c => absurd rfl c) (fun _ => ?_)
  refine j_aload_n h dL_refused_64 rfl 6 rfl ?_
  refine j_iconst h (v := 0) dL_refused_65 (by decide) ?_
  refine j_bipush h (v := 10) dL_refused_66 (by decide) ?_
  refine o_rink h rfl hO ⟨Nat.le_of_ble_eq_true rfl, Nat.le_of_ble_eq_true rfl⟩ (Nat.le_of_ble_eq_true rfl) ⟨by show 160 ≤ 403; omega, by show 35520 ≤ 89246; omega⟩ dL_refused_68 (fun z hz hS => ?_)
  have hz1 : z.1 = -2 := by rw [hz]; exact an_rink3
  obtain ⟨hO1, e2, e3, e6, e1⟩ := hS.same hz1 (by decide) (fun a q => vp_nc q)
  rw [hz1, e2, e3]
  have h61 := e6.trans h6
  clear hz1 hz hS e1 e2 e3 e6 h6 hO
  generalize z.2.1 = G at hO1 ⊢; generalize z.2.2.2.1 = X at hO1 h61 ⊢; have hO := hO1; have h6 := h61; clear hO1 h61
  refine j_bipush h (v := (-2)) dL_refused_71 (by decide) ?_
  refine j_icmp_ne h (tgt := 395) dL_refused_73 (by decide) (fun c => absurd rfl c) (fun _ => ?_)
  refine j_aload_n h dL_refused_76 rfl 6 rfl ?_
  refine j_bipush h (v := 28) dL_refused_77 (by decide) ?_
  refine j_bipush h (v := 30) dL_refused_79 (by decide) ?_
  refine o_rink h rfl hO ⟨Nat.le_of_ble_eq_true rfl, Nat.le_of_ble_eq_true rfl⟩ (Nat.le_of_ble_eq_true rfl) ⟨by show 160 ≤ 403; omega, by show 35520 ≤ 89246; omega⟩ dL_refused_81 (fun z hz hS => ?_)
  have hz1 : z.1 = -2 := by rw [hz]; exact an_rink4
  obtain ⟨hO1, e2, e3, e6, e1⟩ := hS.same hz1 (by decide) (fun a q => vp_nc q)
  rw [hz1, e2, e3]
  have h61 := e6.trans h6
  clear hz1 hz hS e1 e2 e3 e6 h6 hO
  generalize z.2.1 = G at hO1 ⊢; generalize z.2.2.2.1 = X at hO1 h61 ⊢; have hO := hO1; have h6 := h61; clear hO1 h61
  refine j_bipush h (v := (-2)) dL_refused_84 (by decide) ?_
  refine j_icmp_ne h (tgt := 395) dL_refused_86 (by decide) (fun c => absurd rfl c) (fun _ => ?_)
  refine j_aload_n h dL_refused_89 rfl 6 rfl ?_
  refine j_bipush h (v := 9) dL_refused_90 (by decide) ?_
  refine j_iconst h (v := 5) dL_refused_92 (by decide) ?_
  refine o_rink h rfl hO ⟨Nat.le_of_ble_eq_true rfl, Nat.le_of_ble_eq_true rfl⟩ (Nat.le_of_ble_eq_true rfl) ⟨by show 160 ≤ 403; omega, by show 35520 ≤ 89246; omega⟩ dL_refused_93 (fun z hz hS => ?_)
  have hz1 : z.1 = -2 := by rw [hz]; exact an_rink5
  obtain ⟨hO1, e2, e3, e6, e1⟩ := hS.same hz1 (by decide) (fun a q => vp_nc q)
  rw [hz1, e2, e3]
  have h61 := e6.trans h6
  clear hz1 hz hS e1 e2 e3 e6 h6 hO
  generalize z.2.1 = G at hO1 ⊢; generalize z.2.2.2.1 = X at hO1 h61 ⊢; have hO := hO1; have h6 := h61; clear hO1 h61
  refine j_bipush h (v := (-2)) dL_refused_96 (by decide) ?_
  refine j_icmp_ne h (tgt := 395) dL_refused_98 (by decide) (fun c => absurd rfl c) (fun _ => ?_)
  refine j_aload_n h dL_refused_101 rfl 6 rfl ?_
  refine j_iconst h (v := 2) dL_refused_102 (by decide) ?_
  refine j_bipush h (v := 99) dL_refused_103 (by decide) ?_
  refine o_wood h rfl hO ⟨Nat.le_of_ble_eq_true rfl, Nat.le_of_ble_eq_true rfl⟩ (Nat.le_of_ble_eq_true rfl) ⟨by show 160 ≤ 403; omega, by show 35520 ≤ 89246; omega⟩ dL_refused_105 (fun z hz hS => ?_)
  have hz1 : z.1 = -1 := by rw [hz]; exact an_wood1
  obtain ⟨hO1, e2, e3, e6, e1⟩ := hS.same hz1 (by decide) (fun a q => vp_nc q)
  rw [hz1, e2, e3]
  have h61 := e6.trans h6
  clear hz1 hz hS e1 e2 e3 e6 h6 hO
  generalize z.2.1 = G at hO1 ⊢; generalize z.2.2.2.1 = X at hO1 h61 ⊢; have hO := hO1; have h6 := h61; clear hO1 h61
  refine j_iconst h (v := (-1)) dL_refused_108 (by decide) ?_
  refine j_icmp_ne h (tgt := 395) dL_refused_109 (by decide) (fun c => absurd rfl c) (fun _ => ?_)
  exact K _ _ _ _ hO h6 h2A h3A
end RF_o0
section RF_o1
variable {l : Launch} {D : gD} {cy : Nat → ClassId} {J : JT va_W} {L : Nat → Nat → Nat} {hh : Nat → gM} {n0 : Nat} {sv : Option gM} {t : Nat → Nat} {M : gM} {X0 : Nat → Int32} {A0 : Nat → Nat → Int32} {f : Nat → Int32} {ac cc : Nat} {s0 : Int64}
theorem rf_o1 (h : OKJ l D cy wI J cL_refused 9 yL_refused rm_L_refused) (hM : MK M 3 16) (hG : GR M f) (ea : M.2.1 0 0 = nI ac) (ec : M.2.1 0 1 = nI cc) (h2 : ac + 2 ≤ cc) (hc : cc < 10) {had : Int32} (hhad : had = f_X7_reason M X0 A0 0 0) (K : ∀ (G : Nat → gM) (X : Nat → Int32) (A : Nat → Nat → Int32) (b : cB), OBx G M X A b hh n0 sv t 0 → X 6 = X0 6 → A 2 = A0 2 → A 3 = A0 3 → J ([] ++ CW cy L ((va_up G 0 M, X, A), b)) (160, 35520) [(7, .int (nI cc)), (6, .int (nI ac)), (5, .int had), (4, .int (nI 16)), (3, .int (nI 3)), (1, .long s0), (0, .ref (L 11 0))] 179 []) : ∀ (G : Nat → gM) (X : Nat → Int32) (A : Nat → Nat → Int32) (b : cB), OBx G M X A b hh n0 sv t 0 → X 6 = X0 6 → A 2 = A0 2 → A 3 = A0 3 → J ([] ++ CW cy L ((va_up G 0 M, X, A), b)) (160, 35520) [(7, .int (nI cc)), (6, .int (nI ac)), (5, .int had), (4, .int (nI 16)), (3, .int (nI 3)), (1, .long s0), (0, .ref (L 11 0))] 112 [] := by
  intro G X A b hO h6 h2A h3A
  refine j_aload_n h dL_refused_112 rfl 6 rfl ?_
  refine j_iconst h (v := (-1)) dL_refused_113 (by decide) ?_
  refine j_iconst h (v := 0) dL_refused_114 (by decide) ?_
  refine o_wood h rfl hO ⟨Nat.le_of_ble_eq_true rfl, Nat.le_of_ble_eq_true rfl⟩ (Nat.le_of_ble_eq_true rfl) ⟨by show 160 ≤ 403; omega, by show 35520 ≤ 89246; omega⟩ dL_refused_115 (fun z hz hS => ?_)
  have hz1 : z.1 = -1 := by rw [hz]; exact an_wood2
  obtain ⟨hO1, e2, e3, e6, e1⟩ := hS.same hz1 (by decide) (fun a q => vp_nc q)
  rw [hz1, e2, e3]
  have h61 := e6.trans h6
  clear hz1 hz hS e1 e2 e3 e6 h6 hO
  generalize z.2.1 = G at hO1 ⊢; generalize z.2.2.2.1 = X at hO1 h61 ⊢; have hO := hO1; have h6 := h61; clear hO1 h61
  refine j_iconst h (v := (-1)) dL_refused_118 (by decide) ?_
  refine j_icmp_ne h (tgt := 395) dL_refused_119 (by decide) (fun c => absurd rfl c) (fun _ => ?_)
  refine j_aload_n h dL_refused_122 rfl 6 rfl ?_
  refine j_iconst h (v := 0) dL_refused_123 (by decide) ?_
  refine j_bipush h (v := 10) dL_refused_124 (by decide) ?_
  refine o_wood h rfl hO ⟨Nat.le_of_ble_eq_true rfl, Nat.le_of_ble_eq_true rfl⟩ (Nat.le_of_ble_eq_true rfl) ⟨by show 160 ≤ 403; omega, by show 35520 ≤ 89246; omega⟩ dL_refused_126 (fun z hz hS => ?_)
  have hz1 : z.1 = -2 := by rw [hz]; exact an_wood3
  obtain ⟨hO1, e2, e3, e6, e1⟩ := hS.same hz1 (by decide) (fun a q => vp_nc q)
  rw [hz1, e2, e3]
  have h61 := e6.trans h6
  clear hz1 hz hS e1 e2 e3 e6 h6 hO
  generalize z.2.1 = G at hO1 ⊢; generalize z.2.2.2.1 = X at hO1 h61 ⊢; have hO := hO1; have h6 := h61; clear hO1 h61
  refine j_bipush h (v := (-2)) dL_refused_129 (by decide) ?_
  refine j_icmp_ne h (tgt := 395) dL_refused_131 (by decide) (fun c => absurd rfl c) (fun _ => ?_)
  refine j_aload_n h dL_refused_134 rfl 6 rfl ?_
  refine j_iconst h (v := 0) dL_refused_135 (by decide) ?_
  refine j_iconst h (v := (-1)) dL_refused_136 (by decide) ?_
  refine o_wood h rfl hO ⟨Nat.le_of_ble_eq_true rfl, Nat.le_of_ble_eq_true rfl⟩ (Nat.le_of_ble_eq_true rfl) ⟨by show 160 ≤ 403; omega, by show 35520 ≤ 89246; omega⟩ dL_refused_137 (fun z hz hS => ?_)
  have hz1 : z.1 = -2 := by rw [hz]; exact an_wood4
  obtain ⟨hO1, e2, e3, e6, e1⟩ := hS.same hz1 (by decide) (fun a q => vp_nc q)
  rw [hz1, e2, e3]
  have h61 := e6.trans h6
  clear hz1 hz hS e1 e2 e3 e6 h6 hO
  generalize z.2.1 = G at hO1 ⊢; generalize z.2.2.2.1 = X at hO1 h61 ⊢; have hO := hO1; have h6 := h61; clear hO1 h61
  refine j_bipush h (v := (-2)) dL_refused_140 (by decide) ?_
  refine j_icmp_ne h (tgt := 395) dL_refused_142 (by decide) (fun c => absurd rfl c) (fun _ => ?_)
  refine j_aload_n h dL_refused_145 rfl 6 rfl ?_
  refine j_iload_n h dL_refused_146 rfl 4 rfl ?_
  refine j_iconst h (v := 0) dL_refused_147 (by decide) ?_
  refine o_begin h rfl hO ⟨Nat.le_of_ble_eq_true rfl, Nat.le_of_ble_eq_true rfl⟩ (Nat.le_of_ble_eq_true rfl) ⟨by show 160 ≤ 403; omega, by show 35520 ≤ 89246; omega⟩ dL_refused_148 (fun z hz hS => ?_)
  have hz1 : z.1 = -1 := by rw [hz]; exact an_begin1 hM
  obtain ⟨hO1, e2, e3, e6, e1⟩ := hS.same hz1 (by decide) (fun a q => vp_nc q)
  rw [hz1, e2, e3]
  have h61 := e6.trans h6
  clear hz1 hz hS e1 e2 e3 e6 h6 hO
  generalize z.2.1 = G at hO1 ⊢; generalize z.2.2.2.1 = X at hO1 h61 ⊢; have hO := hO1; have h6 := h61; clear hO1 h61
  refine j_iconst h (v := (-1)) dL_refused_151 (by decide) ?_
  refine j_icmp_ne h (tgt := 395) dL_refused_152 (by decide) (fun c => absurd rfl c) (fun _ => ?_)
  refine j_aload_n h dL_refused_155 rfl 6 rfl ?_
  refine j_iconst h (v := 0) dL_refused_156 (by decide) ?_
  refine j_bipush h (v := 19) dL_refused_157 (by decide) ?_
  refine o_begin h rfl hO ⟨Nat.le_of_ble_eq_true rfl, Nat.le_of_ble_eq_true rfl⟩ (Nat.le_of_ble_eq_true rfl) ⟨by show 160 ≤ 403; omega, by show 35520 ≤ 89246; omega⟩ dL_refused_159 (fun z hz hS => ?_)
  have hz1 : z.1 = -2 := by rw [hz]; exact an_begin2 hM
  obtain ⟨hO1, e2, e3, e6, e1⟩ := hS.same hz1 (by decide) (fun a q => vp_nc q)
  rw [hz1, e2, e3]
  have h61 := e6.trans h6
  clear hz1 hz hS e1 e2 e3 e6 h6 hO
  generalize z.2.1 = G at hO1 ⊢; generalize z.2.2.2.1 = X at hO1 h61 ⊢; have hO := hO1; have h6 := h61; clear hO1 h61
  refine j_bipush h (v := (-2)) dL_refused_162 (by decide) ?_
  refine j_icmp_ne h (tgt := 395) dL_refused_164 (by decide) (fun c => absurd rfl c) (fun _ => ?_)
  refine j_aload_n h dL_refused_167 rfl 6 rfl ?_
  refine j_iconst h (v := 0) dL_refused_168 (by decide) ?_
  refine j_bipush h (v := 41) dL_refused_169 (by decide) ?_
  refine o_begin h rfl hO ⟨Nat.le_of_ble_eq_true rfl, Nat.le_of_ble_eq_true rfl⟩ (Nat.le_of_ble_eq_true rfl) ⟨by show 160 ≤ 403; omega, by show 35520 ≤ 89246; omega⟩ dL_refused_171 (fun z hz hS => ?_)
  have hz1 : z.1 = -2 := by rw [hz]; exact an_begin3 hM
  obtain ⟨hO1, e2, e3, e6, e1⟩ := hS.same hz1 (by decide) (fun a q => vp_nc q)
  rw [hz1, e2, e3]
  have h61 := e6.trans h6
  clear hz1 hz hS e1 e2 e3 e6 h6 hO
  generalize z.2.1 = G at hO1 ⊢; generalize z.2.2.2.1 = X at hO1 h61 ⊢; have hO := hO1; have h6 := h61; clear hO1 h61
  refine j_bipush h (v := (-2)) dL_refused_174 (by decide) ?_
  refine j_icmp_ne h (tgt := 395) dL_refused_176 (by decide) (fun c => absurd rfl c) (fun _ => ?_)
  exact K _ _ _ _ hO h6 h2A h3A
end RF_o1
section RF_o2
variable {l : Launch} {D : gD} {cy : Nat → ClassId} {J : JT va_W} {L : Nat → Nat → Nat} {hh : Nat → gM} {n0 : Nat} {sv : Option gM} {t : Nat → Nat} {M : gM} {X0 : Nat → Int32} {A0 : Nat → Nat → Int32} {f : Nat → Int32} {ac cc : Nat} {s0 : Int64}
theorem rf_o2 (h : OKJ l D cy wI J cL_refused 9 yL_refused rm_L_refused) (hM : MK M 3 16) (hG : GR M f) (ea : M.2.1 0 0 = nI ac) (ec : M.2.1 0 1 = nI cc) (h2 : ac + 2 ≤ cc) (hc : cc < 10) {had : Int32} (hhad : had = f_X7_reason M X0 A0 0 0) (K : ∀ (G : Nat → gM) (X : Nat → Int32) (A : Nat → Nat → Int32) (b : cB), OBx G M X A b hh n0 sv t 0 → X 6 = X0 6 → A 2 = A0 2 → A 3 = A0 3 → J ([] ++ CW cy L ((va_up G 0 M, X, A), b)) (160, 35520) [(7, .int (nI cc)), (6, .int (nI ac)), (5, .int had), (4, .int (nI 16)), (3, .int (nI 3)), (1, .long s0), (0, .ref (L 11 0))] 271 []) : ∀ (G : Nat → gM) (X : Nat → Int32) (A : Nat → Nat → Int32) (b : cB), OBx G M X A b hh n0 sv t 0 → X 6 = X0 6 → A 2 = A0 2 → A 3 = A0 3 → J ([] ++ CW cy L ((va_up G 0 M, X, A), b)) (160, 35520) [(7, .int (nI cc)), (6, .int (nI ac)), (5, .int had), (4, .int (nI 16)), (3, .int (nI 3)), (1, .long s0), (0, .ref (L 11 0))] 179 [] := by
  intro G X A b hO h6 h2A h3A
  refine j_aload_n h dL_refused_179 rfl 6 rfl ?_
  refine j_iload_n h dL_refused_180 rfl 4 rfl ?_
  refine j_iconst h (v := 0) dL_refused_181 (by decide) ?_
  refine j_iconst h (v := 0) dL_refused_182 (by decide) ?_
  refine j_iconst h (v := 0) dL_refused_183 (by decide) ?_
  refine j_iconst h (v := 1) dL_refused_184 (by decide) ?_
  refine o_bowl h rfl hO ⟨Nat.le_of_ble_eq_true rfl, Nat.le_of_ble_eq_true rfl⟩ (Nat.le_of_ble_eq_true rfl) ⟨by show 160 ≤ 403; omega, by show 35520 ≤ 89246; omega⟩ dL_refused_185 (fun z hz hS => ?_)
  have hz1 : z.1 = -1 := by rw [hz]; exact an_bowl1 hM
  obtain ⟨hO1, e2, e3, e6, e1⟩ := hS.same hz1 (by decide) (fun a q => q.elim (fun e q => CODE_4 q e) (fun e => vp_nc e))
  rw [hz1, e2, e3]
  have h61 := e6.trans h6
  clear hz1 hz hS e1 e2 e3 e6 h6 hO
  generalize z.2.1 = G at hO1 ⊢; generalize z.2.2.2.1 = X at hO1 h61 ⊢; have hO := hO1; have h6 := h61; clear hO1 h61
  refine j_iconst h (v := (-1)) dL_refused_188 (by decide) ?_
  refine j_icmp_ne h (tgt := 395) dL_refused_189 (by decide) (fun c => absurd rfl c) (fun _ => ?_)
  refine j_aload_n h dL_refused_192 rfl 6 rfl ?_
  refine j_iconst h (v := 0) dL_refused_193 (by decide) ?_
  refine j_iload h dL_refused_194 3 rfl ?_
  refine j_iconst h (v := 0) dL_refused_196 (by decide) ?_
  refine j_iconst h (v := 0) dL_refused_197 (by decide) ?_
  refine j_iconst h (v := 1) dL_refused_198 (by decide) ?_
  refine o_bowl h rfl hO ⟨Nat.le_of_ble_eq_true rfl, Nat.le_of_ble_eq_true rfl⟩ (Nat.le_of_ble_eq_true rfl) ⟨by show 160 ≤ 403; omega, by show 35520 ≤ 89246; omega⟩ dL_refused_199 (fun z hz hS => ?_)
  have hz1 : z.1 = -1 := by rw [hz]; exact an_bowl2 hM
  obtain ⟨hO1, e2, e3, e6, e1⟩ := hS.same hz1 (by decide) (fun a q => q.elim (fun e q => CODE_4 q e) (fun e => vp_nc e))
  rw [hz1, e2, e3]
  have h61 := e6.trans h6
  clear hz1 hz hS e1 e2 e3 e6 h6 hO
  generalize z.2.1 = G at hO1 ⊢; generalize z.2.2.2.1 = X at hO1 h61 ⊢; have hO := hO1; have h6 := h61; clear hO1 h61
  refine j_iconst h (v := (-1)) dL_refused_202 (by decide) ?_
  refine j_icmp_ne h (tgt := 395) dL_refused_203 (by decide) (fun c => absurd rfl c) (fun _ => ?_)
  refine j_aload_n h dL_refused_206 rfl 6 rfl ?_
  refine j_iconst h (v := 0) dL_refused_207 (by decide) ?_
  refine j_iconst h (v := 0) dL_refused_208 (by decide) ?_
  refine j_iload h dL_refused_209 1 rfl ?_
  refine j_iconst h (v := 1) dL_refused_211 (by decide) ?_
  refine j_isub h dL_refused_212 ?_
  refine j_iconst h (v := 1) dL_refused_213 (by decide) ?_
  refine j_iconst h (v := 1) dL_refused_214 (by decide) ?_
  refine o_bowl h rfl hO ⟨Nat.le_of_ble_eq_true rfl, Nat.le_of_ble_eq_true rfl⟩ (Nat.le_of_ble_eq_true rfl) ⟨by show 160 ≤ 403; omega, by show 35520 ≤ 89246; omega⟩ dL_refused_215 (fun z hz hS => ?_)
  have hz1 : z.1 = -2 := by rw [hz]; exact an_bowl3 hM ea (by omega)
  obtain ⟨hO1, e2, e3, e6, e1⟩ := hS.same hz1 (by decide) (fun a q => q.elim (fun e q => CODE_4 q e) (fun e => vp_nc e))
  rw [hz1, e2, e3]
  have h61 := e6.trans h6
  clear hz1 hz hS e1 e2 e3 e6 h6 hO
  generalize z.2.1 = G at hO1 ⊢; generalize z.2.2.2.1 = X at hO1 h61 ⊢; have hO := hO1; have h6 := h61; clear hO1 h61
  refine j_bipush h (v := (-2)) dL_refused_218 (by decide) ?_
  refine j_icmp_ne h (tgt := 395) dL_refused_220 (by decide) (fun c => absurd rfl c) (fun _ => ?_)
  refine j_aload_n h dL_refused_223 rfl 6 rfl ?_
  refine j_iconst h (v := 0) dL_refused_224 (by decide) ?_
  refine j_iconst h (v := 0) dL_refused_225 (by decide) ?_
  refine j_iload h dL_refused_226 0 rfl ?_
  refine j_iconst h (v := 1) dL_refused_228 (by decide) ?_
  refine j_iadd h dL_refused_229 ?_
  refine j_iconst h (v := 1) dL_refused_230 (by decide) ?_
  refine j_iconst h (v := 1) dL_refused_231 (by decide) ?_
  refine o_bowl h rfl hO ⟨Nat.le_of_ble_eq_true rfl, Nat.le_of_ble_eq_true rfl⟩ (Nat.le_of_ble_eq_true rfl) ⟨by show 160 ≤ 403; omega, by show 35520 ≤ 89246; omega⟩ dL_refused_232 (fun z hz hS => ?_)
  have hz1 : z.1 = -2 := by rw [hz]; exact an_bowl4 hM ea ec h2 hc
  obtain ⟨hO1, e2, e3, e6, e1⟩ := hS.same hz1 (by decide) (fun a q => q.elim (fun e q => CODE_4 q e) (fun e => vp_nc e))
  rw [hz1, e2, e3]
  have h61 := e6.trans h6
  clear hz1 hz hS e1 e2 e3 e6 h6 hO
  generalize z.2.1 = G at hO1 ⊢; generalize z.2.2.2.1 = X at hO1 h61 ⊢; have hO := hO1; have h6 := h61; clear hO1 h61
  refine j_bipush h (v := (-2)) dL_refused_235 (by decide) ?_
  refine j_icmp_ne h (tgt := 395) dL_refused_237 (by decide) (fun c => absurd rfl c) (fun _ => ?_)
  refine j_aload_n h dL_refused_240 rfl 6 rfl ?_
  refine j_iconst h (v := 0) dL_refused_241 (by decide) ?_
  refine j_iconst h (v := 0) dL_refused_242 (by decide) ?_
  refine j_iload h dL_refused_243 1 rfl ?_
  refine j_iconst h (v := 0) dL_refused_245 (by decide) ?_
  refine j_iconst h (v := 1) dL_refused_246 (by decide) ?_
  refine o_bowl h rfl hO ⟨Nat.le_of_ble_eq_true rfl, Nat.le_of_ble_eq_true rfl⟩ (Nat.le_of_ble_eq_true rfl) ⟨by show 160 ≤ 403; omega, by show 35520 ≤ 89246; omega⟩ dL_refused_247 (fun z hz hS => ?_)
  have hz1 : z.1 = -2 := by rw [hz]; exact an_bowl5 hM ea ec h2 hc
  obtain ⟨hO1, e2, e3, e6, e1⟩ := hS.same hz1 (by decide) (fun a q => q.elim (fun e q => CODE_4 q e) (fun e => vp_nc e))
  rw [hz1, e2, e3]
  have h61 := e6.trans h6
  clear hz1 hz hS e1 e2 e3 e6 h6 hO
  generalize z.2.1 = G at hO1 ⊢; generalize z.2.2.2.1 = X at hO1 h61 ⊢; have hO := hO1; have h6 := h61; clear hO1 h61
  refine j_bipush h (v := (-2)) dL_refused_250 (by decide) ?_
  refine j_icmp_ne h (tgt := 395) dL_refused_252 (by decide) (fun c => absurd rfl c) (fun _ => ?_)
  refine j_aload_n h dL_refused_255 rfl 6 rfl ?_
  refine j_iconst h (v := 0) dL_refused_256 (by decide) ?_
  refine j_iconst h (v := 0) dL_refused_257 (by decide) ?_
  refine j_iload h dL_refused_258 1 rfl ?_
  refine j_bipush h (v := 21) dL_refused_260 (by decide) ?_
  refine j_iconst h (v := 1) dL_refused_262 (by decide) ?_
  refine o_bowl h rfl hO ⟨Nat.le_of_ble_eq_true rfl, Nat.le_of_ble_eq_true rfl⟩ (Nat.le_of_ble_eq_true rfl) ⟨by show 160 ≤ 403; omega, by show 35520 ≤ 89246; omega⟩ dL_refused_263 (fun z hz hS => ?_)
  have hz1 : z.1 = -2 := by rw [hz]; exact an_bowl6 hM ea ec h2 hc
  obtain ⟨hO1, e2, e3, e6, e1⟩ := hS.same hz1 (by decide) (fun a q => q.elim (fun e q => CODE_4 q e) (fun e => vp_nc e))
  rw [hz1, e2, e3]
  have h61 := e6.trans h6
  clear hz1 hz hS e1 e2 e3 e6 h6 hO
  generalize z.2.1 = G at hO1 ⊢; generalize z.2.2.2.1 = X at hO1 h61 ⊢; have hO := hO1; have h6 := h61; clear hO1 h61
  refine j_bipush h (v := (-2)) dL_refused_266 (by decide) ?_
  refine j_icmp_ne h (tgt := 395) dL_refused_268 (by decide) (fun c => absurd rfl c) (fun _ => ?_)
  exact K _ _ _ _ hO h6 h2A h3A
end RF_o2
section RF_o3
variable {l : Launch} {D : gD} {cy : Nat → ClassId} {J : JT va_W} {L : Nat → Nat → Nat} {hh : Nat → gM} {n0 : Nat} {sv : Option gM} {t : Nat → Nat} {M : gM} {X0 : Nat → Int32} {A0 : Nat → Nat → Int32} {f : Nat → Int32} {ac cc : Nat} {s0 : Int64}
theorem rf_o3 (h : OKJ l D cy wI J cL_refused 9 yL_refused rm_L_refused) (hM : MK M 3 16) (hG : GR M f) (ea : M.2.1 0 0 = nI ac) (ec : M.2.1 0 1 = nI cc) (h2 : ac + 2 ≤ cc) (hc : cc < 10) {had : Int32} (hhad : had = f_X7_reason M X0 A0 0 0) (K : ∀ (G : Nat → gM) (X : Nat → Int32) (A : Nat → Nat → Int32) (b : cB), OBx G M X A b hh n0 sv t 0 → X 6 = X0 6 → A 2 = A0 2 → A 3 = A0 3 → J ([] ++ CW cy L ((va_up G 0 M, X, A), b)) (160, 35520) [(7, .int (nI cc)), (6, .int (nI ac)), (5, .int had), (4, .int (nI 16)), (3, .int (nI 3)), (1, .long s0), (0, .ref (L 11 0))] 329 []) : ∀ (G : Nat → gM) (X : Nat → Int32) (A : Nat → Nat → Int32) (b : cB), OBx G M X A b hh n0 sv t 0 → X 6 = X0 6 → A 2 = A0 2 → A 3 = A0 3 → J ([] ++ CW cy L ((va_up G 0 M, X, A), b)) (160, 35520) [(7, .int (nI cc)), (6, .int (nI ac)), (5, .int had), (4, .int (nI 16)), (3, .int (nI 3)), (1, .long s0), (0, .ref (L 11 0))] 271 [] := by
  intro G X A b hO h6 h2A h3A
  refine j_aload_n h dL_refused_271 rfl 6 rfl ?_
  refine j_iload_n h dL_refused_272 rfl 4 rfl ?_
  refine o_close h rfl hO ⟨Nat.le_of_ble_eq_true rfl, Nat.le_of_ble_eq_true rfl⟩ (Nat.le_of_ble_eq_true rfl) ⟨by show 160 ≤ 403; omega, by show 35520 ≤ 89246; omega⟩ dL_refused_273 (fun z hz hS => ?_)
  have hz1 : z.1 = -1 := by rw [hz]; exact an_close1 hM
  obtain ⟨hO1, e2, e3, e6, e1⟩ := hS.same hz1 (by decide) (fun a q => vp_nc q)
  rw [hz1, e2, e3]
  have h61 := e6.trans h6
  clear hz1 hz hS e1 e2 e3 e6 h6 hO
  generalize z.2.1 = G at hO1 ⊢; generalize z.2.2.2.1 = X at hO1 h61 ⊢; have hO := hO1; have h6 := h61; clear hO1 h61
  refine j_iconst h (v := (-1)) dL_refused_276 (by decide) ?_
  refine j_icmp_ne h (tgt := 395) dL_refused_277 (by decide) (fun c => absurd rfl c) (fun _ => ?_)
  refine j_aload_n h dL_refused_280 rfl 6 rfl ?_
  refine j_iconst h (v := (-1)) dL_refused_281 (by decide) ?_
  refine o_close h rfl hO ⟨Nat.le_of_ble_eq_true rfl, Nat.le_of_ble_eq_true rfl⟩ (Nat.le_of_ble_eq_true rfl) ⟨by show 160 ≤ 403; omega, by show 35520 ≤ 89246; omega⟩ dL_refused_282 (fun z hz hS => ?_)
  have hz1 : z.1 = -1 := by rw [hz]; exact an_close2
  obtain ⟨hO1, e2, e3, e6, e1⟩ := hS.same hz1 (by decide) (fun a q => vp_nc q)
  rw [hz1, e2, e3]
  have h61 := e6.trans h6
  clear hz1 hz hS e1 e2 e3 e6 h6 hO
  generalize z.2.1 = G at hO1 ⊢; generalize z.2.2.2.1 = X at hO1 h61 ⊢; have hO := hO1; have h6 := h61; clear hO1 h61
  refine j_iconst h (v := (-1)) dL_refused_285 (by decide) ?_
  refine j_icmp_ne h (tgt := 395) dL_refused_286 (by decide) (fun c => absurd rfl c) (fun _ => ?_)
  refine j_aload_n h dL_refused_289 rfl 6 rfl ?_
  refine j_iload_n h dL_refused_290 rfl 4 rfl ?_
  refine o_sweep h rfl hO ⟨Nat.le_of_ble_eq_true rfl, Nat.le_of_ble_eq_true rfl⟩ (Nat.le_of_ble_eq_true rfl) ⟨by show 160 ≤ 403; omega, by show 35520 ≤ 89246; omega⟩ dL_refused_291 (fun z hz hS => ?_)
  have hz1 : z.1 = -1 := by rw [hz]; exact an_sweep1 hM
  obtain ⟨hO1, e2, e3, e6, e1⟩ := hS.same hz1 (by decide) (fun a q => vp_nc q)
  rw [hz1, e2, e3]
  have h61 := e6.trans h6
  clear hz1 hz hS e1 e2 e3 e6 h6 hO
  generalize z.2.1 = G at hO1 ⊢; generalize z.2.2.2.1 = X at hO1 h61 ⊢; have hO := hO1; have h6 := h61; clear hO1 h61
  refine j_iconst h (v := (-1)) dL_refused_294 (by decide) ?_
  refine j_icmp_ne h (tgt := 395) dL_refused_295 (by decide) (fun c => absurd rfl c) (fun _ => ?_)
  refine j_aload_n h dL_refused_298 rfl 6 rfl ?_
  refine j_iconst h (v := (-1)) dL_refused_299 (by decide) ?_
  refine o_rain h rfl hO ⟨Nat.le_of_ble_eq_true rfl, Nat.le_of_ble_eq_true rfl⟩ (Nat.le_of_ble_eq_true rfl) ⟨by show 160 ≤ 403; omega, by show 35520 ≤ 89246; omega⟩ dL_refused_300 (fun z hz hS => ?_)
  have hz1 : z.1 = -2 := by rw [hz]; exact an_rain1
  obtain ⟨hO1, e2, e3, e6, e1⟩ := hS.same hz1 (by decide) (fun a q => vp_nc q)
  rw [hz1, e2, e3]
  have h61 := e6.trans h6
  clear hz1 hz hS e1 e2 e3 e6 h6 hO
  generalize z.2.1 = G at hO1 ⊢; generalize z.2.2.2.1 = X at hO1 h61 ⊢; have hO := hO1; have h6 := h61; clear hO1 h61
  refine j_bipush h (v := (-2)) dL_refused_303 (by decide) ?_
  refine j_icmp_ne h (tgt := 395) dL_refused_305 (by decide) (fun c => absurd rfl c) (fun _ => ?_)
  refine j_aload_n h dL_refused_308 rfl 6 rfl ?_
  refine j_bipush h (v := 10) dL_refused_309 (by decide) ?_
  refine o_rain h rfl hO ⟨Nat.le_of_ble_eq_true rfl, Nat.le_of_ble_eq_true rfl⟩ (Nat.le_of_ble_eq_true rfl) ⟨by show 160 ≤ 403; omega, by show 35520 ≤ 89246; omega⟩ dL_refused_311 (fun z hz hS => ?_)
  have hz1 : z.1 = -2 := by rw [hz]; exact an_rain2
  obtain ⟨hO1, e2, e3, e6, e1⟩ := hS.same hz1 (by decide) (fun a q => vp_nc q)
  rw [hz1, e2, e3]
  have h61 := e6.trans h6
  clear hz1 hz hS e1 e2 e3 e6 h6 hO
  generalize z.2.1 = G at hO1 ⊢; generalize z.2.2.2.1 = X at hO1 h61 ⊢; have hO := hO1; have h6 := h61; clear hO1 h61
  refine j_bipush h (v := (-2)) dL_refused_314 (by decide) ?_
  refine j_icmp_ne h (tgt := 395) dL_refused_316 (by decide) (fun c => absurd rfl c) (fun _ => ?_)
  refine j_aload_n h dL_refused_319 rfl 6 rfl ?_
  refine j_iconst h (v := (-1)) dL_refused_320 (by decide) ?_
  refine o_sun h rfl hO ⟨Nat.le_of_ble_eq_true rfl, Nat.le_of_ble_eq_true rfl⟩ (Nat.le_of_ble_eq_true rfl) ⟨by show 160 ≤ 403; omega, by show 35520 ≤ 89246; omega⟩ dL_refused_321 (fun z hz hS => ?_)
  have hz1 : z.1 = -2 := by rw [hz]; exact an_sun1
  obtain ⟨hO1, e2, e3, e6, e1⟩ := hS.same hz1 (by decide) (fun a q => vp_nc q)
  rw [hz1, e2, e3]
  have h61 := e6.trans h6
  clear hz1 hz hS e1 e2 e3 e6 h6 hO
  generalize z.2.1 = G at hO1 ⊢; generalize z.2.2.2.1 = X at hO1 h61 ⊢; have hO := hO1; have h6 := h61; clear hO1 h61
  refine j_bipush h (v := (-2)) dL_refused_324 (by decide) ?_
  refine j_icmp_ne h (tgt := 395) dL_refused_326 (by decide) (fun c => absurd rfl c) (fun _ => ?_)
  exact K _ _ _ _ hO h6 h2A h3A
end RF_o3
section RF_o4
variable {l : Launch} {D : gD} {cy : Nat → ClassId} {J : JT va_W} {L : Nat → Nat → Nat} {hh : Nat → gM} {n0 : Nat} {sv : Option gM} {t : Nat → Nat} {M : gM} {X0 : Nat → Int32} {A0 : Nat → Nat → Int32} {f : Nat → Int32} {ac cc : Nat} {s0 : Int64}
theorem rf_o4 (h : OKJ l D cy wI J cL_refused 9 yL_refused rm_L_refused) (hM : MK M 3 16) (hG : GR M f) (ea : M.2.1 0 0 = nI ac) (ec : M.2.1 0 1 = nI cc) (h2 : ac + 2 ≤ cc) (hc : cc < 10) {had : Int32} (hhad : had = f_X7_reason M X0 A0 0 0) (K : ∀ (G : Nat → gM) (X : Nat → Int32) (A : Nat → Nat → Int32) (b : cB), OBx G M X A b hh n0 sv t 0 → X 6 = X0 6 → A 2 = A0 2 → A 3 = A0 3 → J ([] ++ CW cy L ((va_up G 0 M, X, A), b)) (160, 35520) [(8, .int 1), (7, .int (nI cc)), (6, .int (nI ac)), (5, .int had), (4, .int (nI 16)), (3, .int (nI 3)), (1, .long s0), (0, .ref (L 11 0))] 403 []) : ∀ (G : Nat → gM) (X : Nat → Int32) (A : Nat → Nat → Int32) (b : cB), OBx G M X A b hh n0 sv t 0 → X 6 = X0 6 → A 2 = A0 2 → A 3 = A0 3 → J ([] ++ CW cy L ((va_up G 0 M, X, A), b)) (160, 35520) [(7, .int (nI cc)), (6, .int (nI ac)), (5, .int had), (4, .int (nI 16)), (3, .int (nI 3)), (1, .long s0), (0, .ref (L 11 0))] 329 [] := by
  intro G X A b hO h6 h2A h3A
  refine j_aload_n h dL_refused_329 rfl 6 rfl ?_
  refine j_bipush h (v := 10) dL_refused_330 (by decide) ?_
  refine o_sun h rfl hO ⟨Nat.le_of_ble_eq_true rfl, Nat.le_of_ble_eq_true rfl⟩ (Nat.le_of_ble_eq_true rfl) ⟨by show 160 ≤ 403; omega, by show 35520 ≤ 89246; omega⟩ dL_refused_332 (fun z hz hS => ?_)
  have hz1 : z.1 = -2 := by rw [hz]; exact an_sun2
  obtain ⟨hO1, e2, e3, e6, e1⟩ := hS.same hz1 (by decide) (fun a q => vp_nc q)
  rw [hz1, e2, e3]
  have h61 := e6.trans h6
  clear hz1 hz hS e1 e2 e3 e6 h6 hO
  generalize z.2.1 = G at hO1 ⊢; generalize z.2.2.2.1 = X at hO1 h61 ⊢; have hO := hO1; have h6 := h61; clear hO1 h61
  refine j_bipush h (v := (-2)) dL_refused_335 (by decide) ?_
  refine j_icmp_ne h (tgt := 395) dL_refused_337 (by decide) (fun c => absurd rfl c) (fun _ => ?_)
  refine j_aload_n h dL_refused_340 rfl 6 rfl ?_
  refine j_iconst h (v := 0) dL_refused_341 (by decide) ?_
  refine o_brew h rfl hO ⟨Nat.le_of_ble_eq_true rfl, Nat.le_of_ble_eq_true rfl⟩ (Nat.le_of_ble_eq_true rfl) ⟨by show 160 ≤ 403; omega, by show 35520 ≤ 89246; omega⟩ dL_refused_342 (fun z hz hS => ?_)
  have hz1 : z.1 = -2 := by rw [hz]; exact an_brew1
  obtain ⟨hO1, e2, e3, e6, e1⟩ := hS.same hz1 (by decide) (fun a q => vp_nc q)
  rw [hz1, e2, e3]
  have h61 := e6.trans h6
  clear hz1 hz hS e1 e2 e3 e6 h6 hO
  generalize z.2.1 = G at hO1 ⊢; generalize z.2.2.2.1 = X at hO1 h61 ⊢; have hO := hO1; have h6 := h61; clear hO1 h61
  refine j_bipush h (v := (-2)) dL_refused_345 (by decide) ?_
  refine j_icmp_ne h (tgt := 395) dL_refused_347 (by decide) (fun c => absurd rfl c) (fun _ => ?_)
  refine j_aload_n h dL_refused_350 rfl 6 rfl ?_
  refine j_bipush h (v := 21) dL_refused_351 (by decide) ?_
  refine o_brew h rfl hO ⟨Nat.le_of_ble_eq_true rfl, Nat.le_of_ble_eq_true rfl⟩ (Nat.le_of_ble_eq_true rfl) ⟨by show 160 ≤ 403; omega, by show 35520 ≤ 89246; omega⟩ dL_refused_353 (fun z hz hS => ?_)
  have hz1 : z.1 = -2 := by rw [hz]; exact an_brew2
  obtain ⟨hO1, e2, e3, e6, e1⟩ := hS.same hz1 (by decide) (fun a q => vp_nc q)
  rw [hz1, e2, e3]
  have h61 := e6.trans h6
  clear hz1 hz hS e1 e2 e3 e6 h6 hO
  generalize z.2.1 = G at hO1 ⊢; generalize z.2.2.2.1 = X at hO1 h61 ⊢; have hO := hO1; have h6 := h61; clear hO1 h61
  refine j_bipush h (v := (-2)) dL_refused_356 (by decide) ?_
  refine j_icmp_ne h (tgt := 395) dL_refused_358 (by decide) (fun c => absurd rfl c) (fun _ => ?_)
  refine j_aload_n h dL_refused_361 rfl 6 rfl ?_
  refine j_iconst h (v := 2) dL_refused_362 (by decide) ?_
  refine o_tea h rfl hO ⟨Nat.le_of_ble_eq_true rfl, Nat.le_of_ble_eq_true rfl⟩ (Nat.le_of_ble_eq_true rfl) ⟨by show 160 ≤ 403; omega, by show 35520 ≤ 89246; omega⟩ dL_refused_363 (fun z hz hS => ?_)
  have hz1 : z.1 = -1 := by rw [hz]; exact an_tea1
  obtain ⟨hO1, e2, e3, e6, e1⟩ := hS.same hz1 (by decide) (fun a q => vp_nc q)
  rw [hz1, e2, e3]
  have h61 := e6.trans h6
  clear hz1 hz hS e1 e2 e3 e6 h6 hO
  generalize z.2.1 = G at hO1 ⊢; generalize z.2.2.2.1 = X at hO1 h61 ⊢; have hO := hO1; have h6 := h61; clear hO1 h61
  refine j_iconst h (v := (-1)) dL_refused_366 (by decide) ?_
  refine j_icmp_ne h (tgt := 395) dL_refused_367 (by decide) (fun c => absurd rfl c) (fun _ => ?_)
  refine j_aload_n h dL_refused_370 rfl 6 rfl ?_
  refine j_iconst h (v := 0) dL_refused_371 (by decide) ?_
  refine o_hour h rfl hO ⟨Nat.le_of_ble_eq_true rfl, Nat.le_of_ble_eq_true rfl⟩ (Nat.le_of_ble_eq_true rfl) ⟨by show 160 ≤ 403; omega, by show 35520 ≤ 89246; omega⟩ dL_refused_372 (fun z hz hS => ?_)
  have hz1 : z.1 = -2 := by rw [hz]; exact an_hour1
  obtain ⟨hO1, e2, e3, e6, e1⟩ := hS.same hz1 (by decide) (fun a q => vp_nc q)
  rw [hz1, e2, e3]
  have h61 := e6.trans h6
  clear hz1 hz hS e1 e2 e3 e6 h6 hO
  generalize z.2.1 = G at hO1 ⊢; generalize z.2.2.2.1 = X at hO1 h61 ⊢; have hO := hO1; have h6 := h61; clear hO1 h61
  refine j_bipush h (v := (-2)) dL_refused_375 (by decide) ?_
  refine j_icmp_ne h (tgt := 395) dL_refused_377 (by decide) (fun c => absurd rfl c) (fun _ => ?_)
  refine j_aload_n h dL_refused_380 rfl 6 rfl ?_
  refine j_bipush h (v := 25) dL_refused_381 (by decide) ?_
  refine o_hour h rfl hO ⟨Nat.le_of_ble_eq_true rfl, Nat.le_of_ble_eq_true rfl⟩ (Nat.le_of_ble_eq_true rfl) ⟨by show 160 ≤ 403; omega, by show 35520 ≤ 89246; omega⟩ dL_refused_383 (fun z hz hS => ?_)
  have hz1 : z.1 = -2 := by rw [hz]; exact an_hour2
  obtain ⟨hO1, e2, e3, e6, e1⟩ := hS.same hz1 (by decide) (fun a q => vp_nc q)
  rw [hz1, e2, e3]
  have h61 := e6.trans h6
  clear hz1 hz hS e1 e2 e3 e6 h6 hO
  generalize z.2.1 = G at hO1 ⊢; generalize z.2.2.2.1 = X at hO1 h61 ⊢; have hO := hO1; have h6 := h61; clear hO1 h61
  refine j_bipush h (v := (-2)) dL_refused_386 (by decide) ?_
  refine j_icmp_ne h (tgt := 395) dL_refused_388 (by decide) (fun c => absurd rfl c) (fun _ => ?_)
  refine j_iconst h (v := 1) dL_refused_391 (by decide) ?_
  refine j_goto h (tgt := 396) dL_refused_392 (by decide) ?_
  refine j_istore h (lv' := [(8, _), (7, _), (6, _), (5, _), (4, _), (3, _), (1, _), (0, _)]) dL_refused_396 (by decide) rfl ?_
  refine j_iload h dL_refused_398 0 rfl ?_
  refine j_if_eq h (tgt := 818) dL_refused_400 (by decide) (fun c => absurd c (by decide)) (fun _ => ?_)
  exact K _ _ _ _ hO h6 h2A h3A
end RF_o4
section RF_q0
variable {l : Launch} {D : gD} {cy : Nat → ClassId} {J : JT va_W} {L : Nat → Nat → Nat} {hh : Nat → gM} {n0 : Nat} {sv : Option gM} {t : Nat → Nat} {M : gM} {X0 : Nat → Int32} {A0 : Nat → Nat → Int32} {f : Nat → Int32} {ac cc : Nat} {s0 : Int64}
theorem rf_q0 (h : OKJ l D cy wI J cL_refused 9 yL_refused rm_L_refused) (hM : MK M 3 16) (hG : GR M f) (ea : M.2.1 0 0 = nI ac) (ec : M.2.1 0 1 = nI cc) (h2 : ac + 2 ≤ cc) (hc : cc < 10) {had : Int32} (hhad : had = f_X7_reason M X0 A0 0 0) (K : ∀ (G : Nat → gM) (X : Nat → Int32) (A : Nat → Nat → Int32) (b : cB), OBx G M X A b hh n0 sv t 0 → X 6 = X0 6 → A 2 = A0 2 → A 3 = A0 3 → J ([] ++ CW cy L ((va_up G 0 M, X, A), b)) (160, 35520) [(8, .int 1), (7, .int (nI cc)), (6, .int (nI ac)), (5, .int had), (4, .int (nI 16)), (3, .int (nI 3)), (1, .long s0), (0, .ref (L 11 0))] 557 []) : ∀ (G : Nat → gM) (X : Nat → Int32) (A : Nat → Nat → Int32) (b : cB), OBx G M X A b hh n0 sv t 0 → X 6 = X0 6 → A 2 = A0 2 → A 3 = A0 3 → J ([] ++ CW cy L ((va_up G 0 M, X, A), b)) (160, 35520) [(8, .int 1), (7, .int (nI cc)), (6, .int (nI ac)), (5, .int had), (4, .int (nI 16)), (3, .int (nI 3)), (1, .long s0), (0, .ref (L 11 0))] 403 [] := by
  intro G X A b hO h6 h2A h3A
  refine j_aload_n h dL_refused_403 rfl 7 rfl ?_
  refine j_iload_n h dL_refused_404 rfl 5 rfl ?_
  refine j_bipush h (v := 9) dL_refused_405 (by decide) ?_
  refine g_rinkOf h rfl hO ⟨Nat.le_of_ble_eq_true rfl, Nat.le_of_ble_eq_true rfl⟩ (Nat.le_of_ble_eq_true rfl) ⟨by show 160 ≤ 403; omega, by show 35520 ≤ 89246; omega⟩ dL_refused_407 ?_
  rw [an_rinkOf1 hM]
  refine j_iconst h (v := (-1)) dL_refused_410 (by decide) ?_
  refine j_icmp_ne h (tgt := 818) dL_refused_411 (by decide) (fun c => absurd rfl c) (fun _ => ?_)
  refine j_aload_n h dL_refused_414 rfl 7 rfl ?_
  refine j_iconst h (v := 0) dL_refused_415 (by decide) ?_
  refine j_bipush h (v := 9) dL_refused_416 (by decide) ?_
  refine g_rinkOf h rfl hO ⟨Nat.le_of_ble_eq_true rfl, Nat.le_of_ble_eq_true rfl⟩ (Nat.le_of_ble_eq_true rfl) ⟨by show 160 ≤ 403; omega, by show 35520 ≤ 89246; omega⟩ dL_refused_418 ?_
  rw [an_rinkOf2 hM]
  refine j_bipush h (v := (-2)) dL_refused_421 (by decide) ?_
  refine j_icmp_ne h (tgt := 818) dL_refused_423 (by decide) (fun c => absurd rfl c) (fun _ => ?_)
  refine j_aload_n h dL_refused_426 rfl 7 rfl ?_
  refine j_iconst h (v := 0) dL_refused_427 (by decide) ?_
  refine j_iconst h (v := (-1)) dL_refused_428 (by decide) ?_
  refine g_rinkOf h rfl hO ⟨Nat.le_of_ble_eq_true rfl, Nat.le_of_ble_eq_true rfl⟩ (Nat.le_of_ble_eq_true rfl) ⟨by show 160 ≤ 403; omega, by show 35520 ≤ 89246; omega⟩ dL_refused_429 ?_
  rw [an_rinkOf3 hM]
  refine j_bipush h (v := (-2)) dL_refused_432 (by decide) ?_
  refine j_icmp_ne h (tgt := 818) dL_refused_434 (by decide) (fun c => absurd rfl c) (fun _ => ?_)
  refine j_aload_n h dL_refused_437 rfl 7 rfl ?_
  refine j_iload h dL_refused_438 4 rfl ?_
  refine j_bipush h (v := 9) dL_refused_440 (by decide) ?_
  refine g_woodOf h rfl hO ⟨Nat.le_of_ble_eq_true rfl, Nat.le_of_ble_eq_true rfl⟩ (Nat.le_of_ble_eq_true rfl) ⟨by show 160 ≤ 403; omega, by show 35520 ≤ 89246; omega⟩ dL_refused_442 ?_
  rw [an_woodOf1 hM]
  refine j_iconst h (v := (-1)) dL_refused_445 (by decide) ?_
  refine j_icmp_ne h (tgt := 818) dL_refused_446 (by decide) (fun c => absurd rfl c) (fun _ => ?_)
  refine j_aload_n h dL_refused_449 rfl 7 rfl ?_
  refine j_iconst h (v := 0) dL_refused_450 (by decide) ?_
  refine j_bipush h (v := 8) dL_refused_451 (by decide) ?_
  refine g_woodOf h rfl hO ⟨Nat.le_of_ble_eq_true rfl, Nat.le_of_ble_eq_true rfl⟩ (Nat.le_of_ble_eq_true rfl) ⟨by show 160 ≤ 403; omega, by show 35520 ≤ 89246; omega⟩ dL_refused_453 ?_
  rw [an_woodOf2 hM]
  refine j_bipush h (v := (-2)) dL_refused_456 (by decide) ?_
  refine j_icmp_ne h (tgt := 818) dL_refused_458 (by decide) (fun c => absurd rfl c) (fun _ => ?_)
  refine j_aload_n h dL_refused_461 rfl 7 rfl ?_
  refine j_iconst h (v := 0) dL_refused_462 (by decide) ?_
  refine j_iconst h (v := (-1)) dL_refused_463 (by decide) ?_
  refine g_woodOf h rfl hO ⟨Nat.le_of_ble_eq_true rfl, Nat.le_of_ble_eq_true rfl⟩ (Nat.le_of_ble_eq_true rfl) ⟨by show 160 ≤ 403; omega, by show 35520 ≤ 89246; omega⟩ dL_refused_464 ?_
  rw [an_woodOf3 hM]
  refine j_bipush h (v := (-2)) dL_refused_467 (by decide) ?_
  refine j_icmp_ne h (tgt := 818) dL_refused_469 (by decide) (fun c => absurd rfl c) (fun _ => ?_)
  refine j_aload_n h dL_refused_472 rfl 7 rfl ?_
  refine j_iconst h (v := 2) dL_refused_473 (by decide) ?_
  refine j_bipush h (v := 9) dL_refused_474 (by decide) ?_
  refine g_clubOf h rfl hO ⟨Nat.le_of_ble_eq_true rfl, Nat.le_of_ble_eq_true rfl⟩ (Nat.le_of_ble_eq_true rfl) ⟨by show 160 ≤ 403; omega, by show 35520 ≤ 89246; omega⟩ dL_refused_476 ?_
  rw [an_clubOf1]
  refine j_iconst h (v := (-1)) dL_refused_479 (by decide) ?_
  refine j_icmp_ne h (tgt := 818) dL_refused_480 (by decide) (fun c => absurd rfl c) (fun _ => ?_)
  refine j_aload_n h dL_refused_483 rfl 7 rfl ?_
  refine j_iconst h (v := 0) dL_refused_484 (by decide) ?_
  refine j_bipush h (v := 6) dL_refused_485 (by decide) ?_
  refine g_clubOf h rfl hO ⟨Nat.le_of_ble_eq_true rfl, Nat.le_of_ble_eq_true rfl⟩ (Nat.le_of_ble_eq_true rfl) ⟨by show 160 ≤ 403; omega, by show 35520 ≤ 89246; omega⟩ dL_refused_487 ?_
  rw [an_clubOf2]
  refine j_bipush h (v := (-2)) dL_refused_490 (by decide) ?_
  refine j_icmp_ne h (tgt := 818) dL_refused_492 (by decide) (fun c => absurd rfl c) (fun _ => ?_)
  refine j_aload_n h dL_refused_495 rfl 7 rfl ?_
  refine j_iconst h (v := 0) dL_refused_496 (by decide) ?_
  refine j_iconst h (v := (-1)) dL_refused_497 (by decide) ?_
  refine g_clubOf h rfl hO ⟨Nat.le_of_ble_eq_true rfl, Nat.le_of_ble_eq_true rfl⟩ (Nat.le_of_ble_eq_true rfl) ⟨by show 160 ≤ 403; omega, by show 35520 ≤ 89246; omega⟩ dL_refused_498 ?_
  rw [an_clubOf3]
  refine j_bipush h (v := (-2)) dL_refused_501 (by decide) ?_
  refine j_icmp_ne h (tgt := 818) dL_refused_503 (by decide) (fun c => absurd rfl c) (fun _ => ?_)
  refine j_aload_n h dL_refused_506 rfl 7 rfl ?_
  refine j_iload_n h dL_refused_507 rfl 5 rfl ?_
  refine g_rinkAt h rfl hO ⟨Nat.le_of_ble_eq_true rfl, Nat.le_of_ble_eq_true rfl⟩ (Nat.le_of_ble_eq_true rfl) ⟨by show 160 ≤ 403; omega, by show 35520 ≤ 89246; omega⟩ dL_refused_508 ?_
  rw [an_rinkAt hM (by decide) (by decide) (by decide)]
  refine j_iconst h (v := (-1)) dL_refused_511 (by decide) ?_
  refine j_icmp_ne h (tgt := 818) dL_refused_512 (by decide) (fun c => absurd rfl c) (fun _ => ?_)
  refine j_aload_n h dL_refused_515 rfl 7 rfl ?_
  refine j_iconst h (v := (-1)) dL_refused_516 (by decide) ?_
  refine g_rinkAt h rfl hO ⟨Nat.le_of_ble_eq_true rfl, Nat.le_of_ble_eq_true rfl⟩ (Nat.le_of_ble_eq_true rfl) ⟨by show 160 ≤ 403; omega, by show 35520 ≤ 89246; omega⟩ dL_refused_517 ?_
  rw [an_rinkAt hM (by decide) (by decide) (by decide)]
  refine j_iconst h (v := (-1)) dL_refused_520 (by decide) ?_
  refine j_icmp_ne h (tgt := 818) dL_refused_521 (by decide) (fun c => absurd rfl c) (fun _ => ?_)
  refine j_aload_n h dL_refused_524 rfl 7 rfl ?_
  refine j_iload_n h dL_refused_525 rfl 5 rfl ?_
  refine j_iconst h (v := 0) dL_refused_526 (by decide) ?_
  refine g_nearest h rfl hO ⟨Nat.le_of_ble_eq_true rfl, Nat.le_of_ble_eq_true rfl⟩ (Nat.le_of_ble_eq_true rfl) ⟨by show 160 ≤ 403; omega, by show 35520 ≤ 89246; omega⟩ dL_refused_527 ?_
  rw [an_nearest1 hM]
  refine j_iconst h (v := (-1)) dL_refused_530 (by decide) ?_
  refine j_icmp_ne h (tgt := 818) dL_refused_531 (by decide) (fun c => absurd rfl c) (fun _ => ?_)
  refine j_aload_n h dL_refused_534 rfl 7 rfl ?_
  refine j_iconst h (v := 0) dL_refused_535 (by decide) ?_
  refine j_bipush h (v := 16) dL_refused_536 (by decide) ?_
  refine g_nearest h rfl hO ⟨Nat.le_of_ble_eq_true rfl, Nat.le_of_ble_eq_true rfl⟩ (Nat.le_of_ble_eq_true rfl) ⟨by show 160 ≤ 403; omega, by show 35520 ≤ 89246; omega⟩ dL_refused_538 ?_
  rw [an_nearest2 hM hG]
  refine j_bipush h (v := (-4)) dL_refused_541 (by decide) ?_
  refine j_icmp_ne h (tgt := 818) dL_refused_543 (by decide) (fun c => absurd rfl c) (fun _ => ?_)
  refine j_aload_n h dL_refused_546 rfl 7 rfl ?_
  refine j_iconst h (v := 0) dL_refused_547 (by decide) ?_
  refine j_iconst h (v := (-1)) dL_refused_548 (by decide) ?_
  refine g_nearest h rfl hO ⟨Nat.le_of_ble_eq_true rfl, Nat.le_of_ble_eq_true rfl⟩ (Nat.le_of_ble_eq_true rfl) ⟨by show 160 ≤ 403; omega, by show 35520 ≤ 89246; omega⟩ dL_refused_549 ?_
  rw [an_nearest3 hM hG]
  refine j_bipush h (v := (-4)) dL_refused_552 (by decide) ?_
  refine j_icmp_ne h (tgt := 818) dL_refused_554 (by decide) (fun c => absurd rfl c) (fun _ => ?_)
  exact K _ _ _ _ hO h6 h2A h3A
end RF_q0
section RF_q1
variable {l : Launch} {D : gD} {cy : Nat → ClassId} {J : JT va_W} {L : Nat → Nat → Nat} {hh : Nat → gM} {n0 : Nat} {sv : Option gM} {t : Nat → Nat} {M : gM} {X0 : Nat → Int32} {A0 : Nat → Nat → Int32} {f : Nat → Int32} {ac cc : Nat} {s0 : Int64}
theorem rf_q1 (h : OKJ l D cy wI J cL_refused 9 yL_refused rm_L_refused) (hM : MK M 3 16) (hG : GR M f) (ea : M.2.1 0 0 = nI ac) (ec : M.2.1 0 1 = nI cc) (h2 : ac + 2 ≤ cc) (hc : cc < 10) {had : Int32} (hhad : had = f_X7_reason M X0 A0 0 0) (K : ∀ (G : Nat → gM) (X : Nat → Int32) (A : Nat → Nat → Int32) (b : cB), OBx G M X A b hh n0 sv t 0 → X 6 = X0 6 → A 2 = A0 2 → A 3 = A0 3 → J ([] ++ CW cy L ((va_up G 0 M, X, A), b)) (160, 35520) [(8, .int 1), (7, .int (nI cc)), (6, .int (nI ac)), (5, .int had), (4, .int (nI 16)), (3, .int (nI 3)), (1, .long s0), (0, .ref (L 11 0))] 732 []) : ∀ (G : Nat → gM) (X : Nat → Int32) (A : Nat → Nat → Int32) (b : cB), OBx G M X A b hh n0 sv t 0 → X 6 = X0 6 → A 2 = A0 2 → A 3 = A0 3 → J ([] ++ CW cy L ((va_up G 0 M, X, A), b)) (160, 35520) [(8, .int 1), (7, .int (nI cc)), (6, .int (nI ac)), (5, .int had), (4, .int (nI 16)), (3, .int (nI 3)), (1, .long s0), (0, .ref (L 11 0))] 557 [] := by
  intro G X A b hO h6 h2A h3A
  refine j_aload_n h dL_refused_557 rfl 7 rfl ?_
  refine j_iload_n h dL_refused_558 rfl 5 rfl ?_
  refine j_iconst h (v := 1) dL_refused_559 (by decide) ?_
  refine g_shots h rfl hO ⟨Nat.le_of_ble_eq_true rfl, Nat.le_of_ble_eq_true rfl⟩ (Nat.le_of_ble_eq_true rfl) ⟨by show 160 ≤ 403; omega, by show 35520 ≤ 89246; omega⟩ dL_refused_560 ?_
  rw [an_shots1 hM]
  refine j_iconst h (v := (-1)) dL_refused_563 (by decide) ?_
  refine j_icmp_ne h (tgt := 818) dL_refused_564 (by decide) (fun c => absurd rfl c) (fun _ => ?_)
  refine j_aload_n h dL_refused_567 rfl 7 rfl ?_
  refine j_iload_n h dL_refused_568 rfl 5 rfl ?_
  refine j_iconst h (v := 0) dL_refused_569 (by decide) ?_
  refine j_iconst h (v := 0) dL_refused_570 (by decide) ?_
  refine j_iconst h (v := 0) dL_refused_571 (by decide) ?_
  refine j_iconst h (v := 1) dL_refused_572 (by decide) ?_
  refine g_would h rfl hO ⟨Nat.le_of_ble_eq_true rfl, Nat.le_of_ble_eq_true rfl⟩ (Nat.le_of_ble_eq_true rfl) ⟨by show 160 ≤ 403; omega, by show 35520 ≤ 89246; omega⟩ dL_refused_573 ?_
  rw [an_would1 hM]
  refine j_iconst h (v := (-1)) dL_refused_576 (by decide) ?_
  refine j_icmp_ne h (tgt := 818) dL_refused_577 (by decide) (fun c => absurd rfl c) (fun _ => ?_)
  refine j_aload_n h dL_refused_580 rfl 7 rfl ?_
  refine j_iconst h (v := 0) dL_refused_581 (by decide) ?_
  refine j_iload h dL_refused_582 4 rfl ?_
  refine j_iconst h (v := 0) dL_refused_584 (by decide) ?_
  refine j_iconst h (v := 0) dL_refused_585 (by decide) ?_
  refine j_iconst h (v := 1) dL_refused_586 (by decide) ?_
  refine g_would h rfl hO ⟨Nat.le_of_ble_eq_true rfl, Nat.le_of_ble_eq_true rfl⟩ (Nat.le_of_ble_eq_true rfl) ⟨by show 160 ≤ 403; omega, by show 35520 ≤ 89246; omega⟩ dL_refused_587 ?_
  rw [an_would2 hM]
  refine j_iconst h (v := (-1)) dL_refused_590 (by decide) ?_
  refine j_icmp_ne h (tgt := 818) dL_refused_591 (by decide) (fun c => absurd rfl c) (fun _ => ?_)
  refine j_aload_n h dL_refused_594 rfl 7 rfl ?_
  refine j_iconst h (v := 0) dL_refused_595 (by decide) ?_
  refine j_iconst h (v := 0) dL_refused_596 (by decide) ?_
  refine j_iload h dL_refused_597 1 rfl ?_
  refine j_iconst h (v := 1) dL_refused_599 (by decide) ?_
  refine j_iadd h dL_refused_600 ?_
  refine j_iconst h (v := 1) dL_refused_601 (by decide) ?_
  refine j_iconst h (v := 1) dL_refused_602 (by decide) ?_
  refine g_would h rfl hO ⟨Nat.le_of_ble_eq_true rfl, Nat.le_of_ble_eq_true rfl⟩ (Nat.le_of_ble_eq_true rfl) ⟨by show 160 ≤ 403; omega, by show 35520 ≤ 89246; omega⟩ dL_refused_603 ?_
  rw [an_would3 hM ea ec h2 hc]
  refine j_bipush h (v := (-2)) dL_refused_606 (by decide) ?_
  refine j_icmp_ne h (tgt := 818) dL_refused_608 (by decide) (fun c => absurd rfl c) (fun _ => ?_)
  refine j_aload_n h dL_refused_611 rfl 7 rfl ?_
  refine j_iconst h (v := 0) dL_refused_612 (by decide) ?_
  refine j_iconst h (v := 0) dL_refused_613 (by decide) ?_
  refine j_iload h dL_refused_614 2 rfl ?_
  refine j_bipush h (v := 21) dL_refused_616 (by decide) ?_
  refine j_iconst h (v := 1) dL_refused_618 (by decide) ?_
  refine g_would h rfl hO ⟨Nat.le_of_ble_eq_true rfl, Nat.le_of_ble_eq_true rfl⟩ (Nat.le_of_ble_eq_true rfl) ⟨by show 160 ≤ 403; omega, by show 35520 ≤ 89246; omega⟩ dL_refused_619 ?_
  rw [an_would4 hM ea ec h2 hc]
  refine j_bipush h (v := (-2)) dL_refused_622 (by decide) ?_
  refine j_icmp_ne h (tgt := 818) dL_refused_624 (by decide) (fun c => absurd rfl c) (fun _ => ?_)
  refine j_aload_n h dL_refused_627 rfl 7 rfl ?_
  refine j_iload_n h dL_refused_628 rfl 5 rfl ?_
  refine j_iconst h (v := 0) dL_refused_629 (by decide) ?_
  refine j_iconst h (v := 0) dL_refused_630 (by decide) ?_
  refine j_iconst h (v := 1) dL_refused_631 (by decide) ?_
  refine g_bestStrength h rfl hO ⟨Nat.le_of_ble_eq_true rfl, Nat.le_of_ble_eq_true rfl⟩ (Nat.le_of_ble_eq_true rfl) ⟨by show 160 ≤ 403; omega, by show 35520 ≤ 89246; omega⟩ dL_refused_632 ?_
  rw [an_best1 hM]
  refine j_iconst h (v := (-1)) dL_refused_635 (by decide) ?_
  refine j_icmp_ne h (tgt := 818) dL_refused_636 (by decide) (fun c => absurd rfl c) (fun _ => ?_)
  refine j_aload_n h dL_refused_639 rfl 7 rfl ?_
  refine j_iconst h (v := 0) dL_refused_640 (by decide) ?_
  refine j_iconst h (v := (-1)) dL_refused_641 (by decide) ?_
  refine j_iconst h (v := 0) dL_refused_642 (by decide) ?_
  refine j_iconst h (v := 1) dL_refused_643 (by decide) ?_
  refine g_bestStrength h rfl hO ⟨Nat.le_of_ble_eq_true rfl, Nat.le_of_ble_eq_true rfl⟩ (Nat.le_of_ble_eq_true rfl) ⟨by show 160 ≤ 403; omega, by show 35520 ≤ 89246; omega⟩ dL_refused_644 ?_
  rw [an_best2 hM]
  refine j_iconst h (v := (-1)) dL_refused_647 (by decide) ?_
  refine j_icmp_ne h (tgt := 818) dL_refused_648 (by decide) (fun c => absurd rfl c) (fun _ => ?_)
  refine j_aload_n h dL_refused_651 rfl 7 rfl ?_
  refine j_iconst h (v := 0) dL_refused_652 (by decide) ?_
  refine j_iconst h (v := 0) dL_refused_653 (by decide) ?_
  refine j_iload h dL_refused_654 2 rfl ?_
  refine j_iconst h (v := 1) dL_refused_656 (by decide) ?_
  refine j_isub h dL_refused_657 ?_
  refine j_iconst h (v := 1) dL_refused_658 (by decide) ?_
  refine g_bestStrength h rfl hO ⟨Nat.le_of_ble_eq_true rfl, Nat.le_of_ble_eq_true rfl⟩ (Nat.le_of_ble_eq_true rfl) ⟨by show 160 ≤ 403; omega, by show 35520 ≤ 89246; omega⟩ dL_refused_659 ?_
  rw [an_best3 hM ea (by omega)]
  refine j_bipush h (v := (-2)) dL_refused_662 (by decide) ?_
  refine j_icmp_ne h (tgt := 818) dL_refused_664 (by decide) (fun c => absurd rfl c) (fun _ => ?_)
  refine j_aload_n h dL_refused_667 rfl 7 rfl ?_
  refine j_iload_n h dL_refused_668 rfl 5 rfl ?_
  refine j_bipush h (v := 99) dL_refused_669 (by decide) ?_
  refine g_wetIn h rfl hO ⟨Nat.le_of_ble_eq_true rfl, Nat.le_of_ble_eq_true rfl⟩ (Nat.le_of_ble_eq_true rfl) ⟨by show 160 ≤ 403; omega, by show 35520 ≤ 89246; omega⟩ dL_refused_671 ?_
  rw [an_wetIn1 hM]
  refine j_iconst h (v := (-1)) dL_refused_674 (by decide) ?_
  refine j_icmp_ne h (tgt := 818) dL_refused_675 (by decide) (fun c => absurd rfl c) (fun _ => ?_)
  refine j_aload_n h dL_refused_678 rfl 7 rfl ?_
  refine j_iconst h (v := 0) dL_refused_679 (by decide) ?_
  refine j_bipush h (v := 41) dL_refused_680 (by decide) ?_
  refine g_wetIn h rfl hO ⟨Nat.le_of_ble_eq_true rfl, Nat.le_of_ble_eq_true rfl⟩ (Nat.le_of_ble_eq_true rfl) ⟨by show 160 ≤ 403; omega, by show 35520 ≤ 89246; omega⟩ dL_refused_682 ?_
  rw [an_wetIn2 hM]
  refine j_bipush h (v := (-2)) dL_refused_685 (by decide) ?_
  refine j_icmp_ne h (tgt := 818) dL_refused_687 (by decide) (fun c => absurd rfl c) (fun _ => ?_)
  refine j_aload_n h dL_refused_690 rfl 7 rfl ?_
  refine j_iconst h (v := 0) dL_refused_691 (by decide) ?_
  refine j_iconst h (v := (-1)) dL_refused_692 (by decide) ?_
  refine g_wetIn h rfl hO ⟨Nat.le_of_ble_eq_true rfl, Nat.le_of_ble_eq_true rfl⟩ (Nat.le_of_ble_eq_true rfl) ⟨by show 160 ≤ 403; omega, by show 35520 ≤ 89246; omega⟩ dL_refused_693 ?_
  rw [an_wetIn3 hM]
  refine j_bipush h (v := (-2)) dL_refused_696 (by decide) ?_
  refine j_icmp_ne h (tgt := 818) dL_refused_698 (by decide) (fun c => absurd rfl c) (fun _ => ?_)
  refine j_aload_n h dL_refused_701 rfl 7 rfl ?_
  refine j_iconst h (v := (-1)) dL_refused_702 (by decide) ?_
  refine j_iconst h (v := 0) dL_refused_703 (by decide) ?_
  refine g_castsIn h rfl hO ⟨Nat.le_of_ble_eq_true rfl, Nat.le_of_ble_eq_true rfl⟩ (Nat.le_of_ble_eq_true rfl) ⟨by show 160 ≤ 403; omega, by show 35520 ≤ 89246; omega⟩ dL_refused_704 ?_
  rw [an_castsIn1]
  refine j_iconst h (v := (-1)) dL_refused_707 (by decide) ?_
  refine j_icmp_ne h (tgt := 818) dL_refused_708 (by decide) (fun c => absurd rfl c) (fun _ => ?_)
  refine j_aload_n h dL_refused_711 rfl 7 rfl ?_
  refine j_iconst h (v := 0) dL_refused_712 (by decide) ?_
  refine j_bipush h (v := 41) dL_refused_713 (by decide) ?_
  refine g_castsIn h rfl hO ⟨Nat.le_of_ble_eq_true rfl, Nat.le_of_ble_eq_true rfl⟩ (Nat.le_of_ble_eq_true rfl) ⟨by show 160 ≤ 403; omega, by show 35520 ≤ 89246; omega⟩ dL_refused_715 ?_
  rw [an_castsIn2 hM]
  refine j_bipush h (v := (-2)) dL_refused_718 (by decide) ?_
  refine j_icmp_ne h (tgt := 818) dL_refused_720 (by decide) (fun c => absurd rfl c) (fun _ => ?_)
  refine j_aload_n h dL_refused_723 rfl 7 rfl ?_
  refine j_iload_n h dL_refused_724 rfl 5 rfl ?_
  refine g_dryIn h rfl hO ⟨Nat.le_of_ble_eq_true rfl, Nat.le_of_ble_eq_true rfl⟩ (Nat.le_of_ble_eq_true rfl) ⟨by show 160 ≤ 403; omega, by show 35520 ≤ 89246; omega⟩ dL_refused_725 ?_
  rw [an_dryIn1 hM]
  refine j_iconst h (v := (-1)) dL_refused_728 (by decide) ?_
  refine j_icmp_ne h (tgt := 818) dL_refused_729 (by decide) (fun c => absurd rfl c) (fun _ => ?_)
  exact K _ _ _ _ hO h6 h2A h3A
end RF_q1
section RF_d
variable {l : Launch} {D : gD} {cy : Nat → ClassId} {J : JT va_W} {L : Nat → Nat → Nat} {hh : Nat → gM} {n0 : Nat} {sv : Option gM} {t : Nat → Nat} {M : gM} {X0 : Nat → Int32} {A0 : Nat → Nat → Int32} {f : Nat → Int32} {ac cc : Nat} {s0 : Int64}
theorem rf_d (h : OKJ l D cy wI J cL_refused 9 yL_refused rm_L_refused) (hM : MK M 3 16) (hG : GR M f) (ea : M.2.1 0 0 = nI ac) (ec : M.2.1 0 1 = nI cc) (h2 : ac + 2 ≤ cc) (hc : cc < 10) {had : Int32} (hhad : had = f_X7_reason M X0 A0 0 0) (K : ∀ (G : Nat → gM) (X : Nat → Int32) (A : Nat → Nat → Int32) (b : cB), OBx G M X A b hh n0 sv t 0 → X 6 = X0 6 → A 2 = A0 2 → A 3 = A0 3 → J ([] ++ CW cy L ((va_up G 0 M, X, A), b)) (160 + 40 + 1 + 1, 35520 + 8880 + 222 + 222) [(8, .int 1), (7, .int (nI cc)), (6, .int (nI ac)), (5, .int had), (4, .int (nI 16)), (3, .int (nI 3)), (1, .long s0), (0, .ref (L 11 0))] 826 []) : ∀ (G : Nat → gM) (X : Nat → Int32) (A : Nat → Nat → Int32) (b : cB), OBx G M X A b hh n0 sv t 0 → X 6 = X0 6 → A 2 = A0 2 → A 3 = A0 3 → J ([] ++ CW cy L ((va_up G 0 M, X, A), b)) (160, 35520) [(8, .int 1), (7, .int (nI cc)), (6, .int (nI ac)), (5, .int had), (4, .int (nI 16)), (3, .int (nI 3)), (1, .long s0), (0, .ref (L 11 0))] 732 [] := by
  intro G X A b hO h6 h2A h3A
  refine j_aload_n h dL_refused_732 rfl 7 rfl ?_
  refine j_iload_n h dL_refused_733 rfl 5 rfl ?_
  refine g_describe h rfl hO ⟨Nat.le_of_ble_eq_true rfl, Nat.le_of_ble_eq_true rfl⟩ (Nat.le_of_ble_eq_true rfl) ⟨by show 160 + 40 ≤ 403; omega, by show 35520 + 8880 ≤ 89246; omega⟩ dL_refused_734 (fun X1 A1 b1 hO1 hx ha hl => ?_)
  rw [an_desc hM hG]
  clear hl
  have h61 : X1 6 = X0 6 := (hx 6 (by decide) (by decide)).trans h6
  have h2B : A1 2 = A0 2 := (ha 2 (by decide)).trans h2A
  have h3B : A1 3 = A0 3 := (ha 3 (by decide)).trans h3A
  have hO2 := hO1
  obtain ⟨-, -, -, -, -, -, nl, hnl, e8, hln⟩ := hO2
  refine j_iconst h (v := (-1)) dL_refused_737 (by decide) ?_
  refine j_icmp_ne h (tgt := 818) dL_refused_738 (by decide) (fun c => absurd rfl c) (fun _ => ?_)
  refine j_aload_n h dL_refused_741 rfl 7 rfl ?_
  refine j_iconst h (v := (-1)) dL_refused_742 (by decide) ?_
  refine g_written h rfl hO1 ⟨Nat.le_of_ble_eq_true rfl, Nat.le_of_ble_eq_true rfl⟩ (Nat.le_of_ble_eq_true rfl) ⟨by show 160 + 40 ≤ 403; omega, by show 35520 + 8880 ≤ 89246; omega⟩ e8 hln dL_refused_743 ?_
  rw [an_writ1]
  refine j_iconst h (v := (-1)) dL_refused_746 (by decide) ?_
  refine j_icmp_ne h (tgt := 818) dL_refused_747 (by decide) (fun c => absurd rfl c) (fun _ => ?_)
  refine j_aload_n h dL_refused_750 rfl 7 rfl ?_
  refine j_bipush h (v := 110) dL_refused_751 (by decide) ?_
  refine g_written h rfl hO1 ⟨Nat.le_of_ble_eq_true rfl, Nat.le_of_ble_eq_true rfl⟩ (Nat.le_of_ble_eq_true rfl) ⟨by show 160 + 40 ≤ 403; omega, by show 35520 + 8880 ≤ 89246; omega⟩ e8 hln dL_refused_753 ?_
  rw [an_writ2 e8 hnl]
  refine j_iconst h (v := (-1)) dL_refused_756 (by decide) ?_
  refine j_icmp_ne h (tgt := 818) dL_refused_757 (by decide) (fun c => absurd rfl c) (fun _ => ?_)
  refine j_aload_n h dL_refused_760 rfl 7 rfl ?_
  refine j_bipush h (v := 31) dL_refused_761 (by decide) ?_
  refine o_appendBad h rfl hO1 (Or.inl (by decide)) ⟨Nat.le_of_ble_eq_true rfl, Nat.le_of_ble_eq_true rfl⟩ (Nat.le_of_ble_eq_true rfl) ⟨by show 160 + 40 + 1 ≤ 403; omega, by show 35520 + 8880 + 222 ≤ 89246; omega⟩ dL_refused_763 ?_
  refine j_bipush h (v := (-2)) dL_refused_766 (by decide) ?_
  refine j_icmp_ne h (tgt := 818) dL_refused_768 (by decide) (fun c => absurd rfl c) (fun _ => ?_)
  refine j_aload_n h dL_refused_771 rfl 7 rfl ?_
  refine j_bipush h (v := 127) dL_refused_772 (by decide) ?_
  refine o_appendBad h rfl hO1 (Or.inr (Or.inl (by decide))) ⟨Nat.le_of_ble_eq_true rfl, Nat.le_of_ble_eq_true rfl⟩ (Nat.le_of_ble_eq_true rfl) ⟨by show 160 + 40 + 1 + 1 ≤ 403; omega, by show 35520 + 8880 + 222 + 222 ≤ 89246; omega⟩ dL_refused_774 ?_
  refine j_bipush h (v := (-2)) dL_refused_777 (by decide) ?_
  refine j_icmp_ne h (tgt := 818) dL_refused_779 (by decide) (fun c => absurd rfl c) (fun _ => ?_)
  refine j_aload_n h dL_refused_782 rfl 7 rfl ?_
  refine j_bipush h (v := 15) dL_refused_783 (by decide) ?_
  refine g_account h rfl hO1 ⟨Nat.le_of_ble_eq_true rfl, Nat.le_of_ble_eq_true rfl⟩ (Nat.le_of_ble_eq_true rfl) ⟨by show 160 + 40 + 1 + 1 ≤ 403; omega, by show 35520 + 8880 + 222 + 222 ≤ 89246; omega⟩ dL_refused_785 ?_
  rw [an_account1]
  refine j_bipush h (v := (-2)) dL_refused_788 (by decide) ?_
  refine j_icmp_ne h (tgt := 818) dL_refused_790 (by decide) (fun c => absurd rfl c) (fun _ => ?_)
  refine j_aload_n h dL_refused_793 rfl 7 rfl ?_
  refine j_iconst h (v := (-1)) dL_refused_794 (by decide) ?_
  refine g_account h rfl hO1 ⟨Nat.le_of_ble_eq_true rfl, Nat.le_of_ble_eq_true rfl⟩ (Nat.le_of_ble_eq_true rfl) ⟨by show 160 + 40 + 1 + 1 ≤ 403; omega, by show 35520 + 8880 + 222 + 222 ≤ 89246; omega⟩ dL_refused_795 ?_
  rw [an_account2]
  refine j_bipush h (v := (-2)) dL_refused_798 (by decide) ?_
  refine j_icmp_ne h (tgt := 818) dL_refused_800 (by decide) (fun c => absurd rfl c) (fun _ => ?_)
  refine j_aload_n h dL_refused_803 rfl 7 rfl ?_
  refine j_iconst h (v := 0) dL_refused_804 (by decide) ?_
  refine j_iconst h (v := 0) dL_refused_805 (by decide) ?_
  refine g_reason h rfl hO1 ⟨Nat.le_of_ble_eq_true rfl, Nat.le_of_ble_eq_true rfl⟩ (Nat.le_of_ble_eq_true rfl) ⟨by show 160 + 40 + 1 + 1 ≤ 403; omega, by show 35520 + 8880 + 222 + 222 ≤ 89246; omega⟩ dL_refused_806 ?_
  rw [re_same (M := M) h61 h2B h3B, ← hhad]
  refine j_iload h dL_refused_809 3 rfl ?_
  refine j_icmp_ne h (tgt := 818) dL_refused_811 (by decide) (fun c => absurd rfl c) (fun _ => ?_)
  refine j_iconst h (v := 1) dL_refused_814 (by decide) ?_
  refine j_goto h (tgt := 819) dL_refused_815 (by decide) ?_
  refine j_istore h (lv' := [(8, _), (7, _), (6, _), (5, _), (4, _), (3, _), (1, _), (0, _)]) dL_refused_819 (by decide) rfl ?_
  refine j_iload h dL_refused_821 0 rfl ?_
  refine j_if_eq h (tgt := 898) dL_refused_823 (by decide) (fun c => absurd c (by decide)) (fun _ => ?_)
  exact K _ _ _ _ hO1 h61 h2B h3B
end RF_d
section RF_s
variable {l : Launch} {D : gD} {cy : Nat → ClassId} {J : JT va_W} {L : Nat → Nat → Nat} {hh : Nat → gM} {n0 : Nat} {sv : Option gM} {t : Nat → Nat} {M : gM} {X0 : Nat → Int32} {A0 : Nat → Nat → Int32} {f : Nat → Int32} {ac cc : Nat} {s0 : Int64}
theorem rf_s (h : OKJ l D cy wI J cL_refused 9 yL_refused rm_L_refused) (hM : MK M 3 16) (hG : GR M f) (ea : M.2.1 0 0 = nI ac) (ec : M.2.1 0 1 = nI cc) (h2 : ac + 2 ≤ cc) (hc : cc < 10) {had : Int32} (hhad : had = f_X7_reason M X0 A0 0 0) (hs0 : s0 = ask (qs M)) (hR : RtWZ D (CW cy L) J cL_refused (fun r u => ∃ G1 M1 X1 A1 b1 t1, r = 1 ∧ u = ((va_up G1 0 M1, X1, A1), b1) ∧ EQG M1 M ∧ OBx G1 M1 X1 A1 b1 hh n0 sv t1 0) 403 89246) : ∀ (G : Nat → gM) (X : Nat → Int32) (A : Nat → Nat → Int32) (b : cB), OBx G M X A b hh n0 sv t 0 → X 6 = X0 6 → A 2 = A0 2 → A 3 = A0 3 → J ([] ++ CW cy L ((va_up G 0 M, X, A), b)) (160 + 40 + 1 + 1, 35520 + 8880 + 222 + 222) [(8, .int 1), (7, .int (nI cc)), (6, .int (nI ac)), (5, .int had), (4, .int (nI 16)), (3, .int (nI 3)), (1, .long s0), (0, .ref (L 11 0))] 826 [] := by
  intro G X A b hO h6 h2A h3A
  refine j_aload_n h dL_refused_826 rfl 7 rfl ?_
  refine j_ldcS h (i := 14) (tx := "z") rfl dL_refused_827 ?_
  refine j_bS h (n := 2) (c_L_readsK l D cy hO (i := 14) (by decide) (tt := tz) (by decide) hTz) (wr := []) rfl (xg_S (xr_41 20 rfl) (xr_41 21 rfl) (xr_30 2 rfl) (xr_41 22 rfl)) rfl rfl (by decide +kernel) ⟨Nat.le_of_ble_eq_true rfl, Nat.le_of_ble_eq_true rfl⟩ rfl rfl (Nat.le_of_ble_eq_true rfl) dL_refused_829 ⟨by show 160 + 40 + 1 + 1 + 20 ≤ 403; omega, by show 35520 + 8880 + 222 + 222 + 4440 ≤ 89246; omega⟩ (fun rr v hq => ?_)
  obtain ⟨t1, X1, A1, b1, a1, f1, z, ht, hO1, hX1, hA1, hz, hf1, hg, rfl, rfl⟩ := hq
  have hO2 := OBx.txt (t' := tz) hO1 ht
  have hO3 : OBx G M X1 A1 b1 hh n0 sv tz 1 := hO2
  have hP := P_script hO3 (a1 := a1) hf1 (by rw [← hz]; exact hg) z hz
  obtain ⟨⟨Y, B, hRL, hRT⟩, -⟩ := hO3
  obtain ⟨y1, y2, -, -, y5, y6, yA⟩ := (scr_cls hRL hRT f1).2.1 pz.1
  rw [← hz] at y1 y2 y5 y6 yA
  rw [pz.2] at y5
  have hOz : OBx z.2.1 M z.2.2.2.1 z.2.2.2.2 (a1, b1.2.1, b1.2.2) hh n0 sv tz 0 := by
    rcases hP with ⟨-, -, q⟩ | ⟨q, -⟩
    · rw [y2] at q; exact q
    · exact absurd (by rw [y1]; decide) (vin0 q)
  have h61 : z.2.2.2.1 6 = X0 6 := y6.trans ((hX1 6 (by decide)).trans h6)
  have h2B : z.2.2.2.2 2 = A0 2 := (yA 2 (Or.inl rfl)).trans ((hA1 2 (by decide)).trans h2A)
  have h3B : z.2.2.2.2 3 = A0 3 := (yA 3 (Or.inr rfl)).trans ((hA1 3 (by decide)).trans h3A)
  rw [List.nil_append, y1, y2]
  refine j_bipush h (v := (-2)) dL_refused_832 (by decide) ?_
  refine j_icmp_ne h (tgt := 898) dL_refused_834 (by decide) (fun c => absurd rfl c) (fun _ => ?_)
  refine j_aload_n h dL_refused_837 rfl 7 rfl ?_
  refine g_fault (wr := []) h rfl hOz ⟨Nat.le_of_ble_eq_true rfl, Nat.le_of_ble_eq_true rfl⟩ (Nat.le_of_ble_eq_true rfl) ⟨by show 160 + 40 + 1 + 1 + 20 ≤ 403; omega, by show 35520 + 8880 + 222 + 222 + 4440 ≤ 89246; omega⟩ dL_refused_838 ?_
  rw [y5]
  refine j_if_ne h (tgt := 898) dL_refused_841 (by decide) (fun c => absurd rfl c) (fun _ => ?_)
  refine j_aload_n h dL_refused_844 rfl 7 rfl ?_
  refine j_iconst h (v := 0) dL_refused_845 (by decide) ?_
  refine j_iconst h (v := 0) dL_refused_846 (by decide) ?_
  refine g_reason (wr := []) h rfl hOz ⟨Nat.le_of_ble_eq_true rfl, Nat.le_of_ble_eq_true rfl⟩ (Nat.le_of_ble_eq_true rfl) ⟨by show 160 + 40 + 1 + 1 + 20 ≤ 403; omega, by show 35520 + 8880 + 222 + 222 + 4440 ≤ 89246; omega⟩ dL_refused_847 ?_
  rw [re_same (M := M) h61 h2B h3B, ← hhad]
  clear hP yA y5 y6 y1 y2 hz hg hO hO1 hO2 hRL hRT h61 h2B h3B ht hX1 hA1 h6 h2A h3A
  generalize z.2.1 = G at hOz ⊢
  generalize z.2.2.2.1 = X at hOz ⊢
  generalize z.2.2.2.2 = A at hOz ⊢
  generalize (a1, b1.2.1, b1.2.2) = b at hOz ⊢
  clear hf1 z t1 f1
  have hO := hOz
  clear hOz
  refine j_iload h dL_refused_850 3 rfl ?_
  refine j_icmp_ne h (tgt := 898) dL_refused_852 (by decide) (fun c => absurd rfl c) (fun _ => ?_)
  refine j_aload_n h dL_refused_855 rfl 7 rfl ?_
  refine j_ldcS h (i := 15) (tx := "r1;h0") rfl dL_refused_856 ?_
  refine j_bS h (n := 2) (c_L_readsK l D cy hO (i := 15) (by decide) (tt := tr) (by decide) hTr) (wr := []) rfl (xg_S (xr_41 20 rfl) (xr_41 21 rfl) (xr_30 2 rfl) (xr_41 22 rfl)) rfl rfl (by decide +kernel) ⟨Nat.le_of_ble_eq_true rfl, Nat.le_of_ble_eq_true rfl⟩ rfl rfl (Nat.le_of_ble_eq_true rfl) dL_refused_858 ⟨by show 160 + 40 + 1 + 1 + 20 + 20 ≤ 403; omega, by show 35520 + 8880 + 222 + 222 + 4440 + 4440 ≤ 89246; omega⟩ (fun rr v hq => ?_)
  obtain ⟨t1, X1, A1, b1, a1, f1, z, ht, hO1, hX1, hA1, hz, hf1, hg, rfl, rfl⟩ := hq
  have hO3 : OBx G M X1 A1 b1 hh n0 sv tr 5 := OBx.txt (t' := tr) hO1 ht
  have hP := P_script hO3 (a1 := a1) hf1 (by rw [← hz]; exact hg) z hz
  obtain ⟨y1, y6, yA, yB⟩ := scr_rh hO3 z hz
  have hOz : EQG z.2.2.1 M ∧ OBx z.2.1 z.2.2.1 z.2.2.2.1 z.2.2.2.2 (a1, b1.2.1, b1.2.2) hh n0 sv tr 0 := by
    rcases hP with ⟨-, e, q⟩ | ⟨q, -⟩
    · exact ⟨e, q⟩
    · exact absurd (by rw [y1]; decide) (vin0 q)
  obtain ⟨hE, hO4⟩ := hOz
  rw [List.nil_append, y1]
  refine j_bipush h (v := (-3)) dL_refused_861 (by decide) ?_
  refine j_icmp_ne h (tgt := 898) dL_refused_863 (by decide) (fun c => absurd rfl c) (fun _ => ?_)
  refine j_aload_n h dL_refused_866 rfl 7 rfl ?_
  refine j_iconst h (v := 2) dL_refused_867 (by decide) ?_
  refine j_newi h (xr_1 3 rfl) (N := 2) (by decide) (by decide) (by decide) (by show 160 + 40 + 1 + 1 + 20 + 20 + 1 ≤ 403; omega) (by show 35520 + 8880 + 222 + 222 + 4440 + 4440 + 2 ≤ 89246; omega) dL_refused_868 (fun ra => ?_)
  refine j_pm h (w := [(ra, .inl (cy 0, 2, .inl (fun _ => 0)))] ++ CW cy L ((va_up z.2.1 0 z.2.2.1, z.2.2.2.1, z.2.2.2.2), (a1, b1.2.1, b1.2.2))) List.perm_append_comm ?_
  refine j_dup h dL_refused_870 rfl ?_
  refine j_iconst h (v := 0) dL_refused_871 (by decide) ?_
  refine j_bipush h (v := 12) dL_refused_872 (by decide) ?_
  refine j_iastE h 0 rfl 0 rfl (by decide) (by decide) dL_refused_874 (u' := [(ra, .inl (cy 0, 2, .inl (upd (fun _ => 0) 0 12)))] ++ CW cy L ((va_up z.2.1 0 z.2.2.1, z.2.2.2.1, z.2.2.2.2), (a1, b1.2.1, b1.2.2))) rfl ?_
  refine j_dup h dL_refused_875 rfl ?_
  refine j_iconst h (v := 1) dL_refused_876 (by decide) ?_
  refine j_iconst h (v := 1) dL_refused_877 (by decide) ?_
  refine j_iastE h 0 rfl 1 rfl (by decide) (by decide) dL_refused_878 (u' := [(ra, .inl (cy 0, 2, .inl (upd (upd (fun _ => 0) 0 12) 1 1)))] ++ CW cy L ((va_up z.2.1 0 z.2.2.1, z.2.2.2.1, z.2.2.2.2), (a1, b1.2.1, b1.2.2))) rfl ?_
  have hre := re_rh (M := z.2.2.1) y6 yA yB
  refine j_bS h (n := 2) (c_L_are l D cy hO4 (a := ra) (m := 1) (f := (upd (upd (fun _ => 0) 0 12) 1 1)) (by decide) (fun k hk => match k, hk with | 0, _ => ⟨hre.1, hre.2.1⟩) hre.2.2) (wr := []) (List.nil_append _).symm (xg_S (xr_30 0 rfl) (xr_30 1 rfl) (xr_30 2 rfl) (xr_30 3 rfl)) rfl rfl (by decide +kernel) ⟨Nat.le_of_ble_eq_true rfl, Nat.le_of_ble_eq_true rfl⟩ rfl rfl (Nat.le_of_ble_eq_true rfl) dL_refused_879 ⟨by show 160 + 40 + 1 + 1 + 20 + 20 + 1 ≤ 403; omega, by show 35520 + 8880 + 222 + 222 + 4440 + 4440 + 2 ≤ 89246; omega⟩ (fun rr v hq => ?_)
  obtain ⟨rfl, rfl⟩ := hq
  rw [List.nil_append]
  refine j_drop h (a := [(ra, .inl (cy 0, 2, .inl (upd (upd (fun _ => 0) 0 12) 1 1)))]) ?_
  refine j_if_eq h (tgt := 898) dL_refused_882 (by decide) (fun c => absurd c (by decide)) (fun _ => ?_)
  refine j_aload_n h dL_refused_885 rfl 7 rfl ?_
  refine j_bSL h (n := 1) (c_L_asks l D cy hO4) (wr := []) rfl (xg_S (xr_38 13 rfl) (xr_38 14 rfl) (xr_30 2 rfl) (xr_38 15 rfl)) rfl rfl (by decide +kernel) ⟨Nat.le_of_ble_eq_true rfl, Nat.le_of_ble_eq_true rfl⟩ rfl rfl (Nat.le_of_ble_eq_true rfl) dL_refused_886 ⟨by show 160 + 40 + 1 + 1 + 20 + 20 + 1 + 160 ≤ 403; omega, by show 35520 + 8880 + 222 + 222 + 4440 + 4440 + 2 + 35520 ≤ 89246; omega⟩ (fun rr v hq => ?_)
  obtain ⟨rfl, X9, A9, b9, rfl, hO9, hx9, ha9⟩ := hq
  rw [List.nil_append, sm_qs (SAME.eq hE ⟨f, hG⟩), ← hs0]
  refine j_lload_n h dL_refused_889 rfl 6 rfl ?_
  refine j_lcmp h dL_refused_890 ?_
  rw [lg_self]
  refine j_if_ne h (tgt := 898) dL_refused_891 (by decide) (fun c => absurd rfl c) (fun _ => ?_)
  refine j_iconst h (v := 1) dL_refused_894 (by decide) ?_
  refine j_goto h (tgt := 899) dL_refused_895 (by decide) ?_
  refine j_widen h (k := 403) (n := 89246) (by show 160 + 40 + 1 + 1 + 20 + 20 + 1 + 160 ≤ 403; omega) (by show 35520 + 8880 + 222 + 222 + 4440 + 4440 + 2 + 35520 ≤ 89246; omega) ?_
  exact hR _ ((va_up z.2.1 0 z.2.2.1, X9, A9), b9) _ _ _ dL_refused_899 (Or.inr rfl) ⟨_, _, _, _, _, tr, rfl, rfl, hE, hO9⟩ (fun H hP => hP) (fun A hD => hD)
end RF_s
theorem c_L_refused (l : Launch) (D : gD) (cy : Nat → ClassId) {L : Nat → Nat → Nat} {G : Nat → gM} {M : gM} {X : Nat → Int32} {A : Nat → Nat → Int32} {b : cB} {hh : Nat → gM} {n0 : Nat} {sv : Option gM} {t : Nat → Nat} (hO : OBx G M X A b hh n0 sv t 0) (hM : MK M 3 16) : CtI l D cy (CW cy L) yL_refused cL_refused 9 (some .boolean) rm_L_refused [.ref (L 11 0)] ((va_up G 0 M, X, A), b) (fun r u => ∃ G1 M1 X1 A1 b1 t1, r = 1 ∧ u = ((va_up G1 0 M1, X1, A1), b1) ∧ EQG M1 M ∧ OBx G1 M1 X1 A1 b1 hh n0 sv t1 0) 403 89246 := by
  refine m_entWZ cL_refused 9 (by decide) (Nat.le_of_ble_eq_true rfl) (fun J h hR => ?_)
  show J ([] ++ CW cy L ((va_up G 0 M, X, A), b)) (0, 0) [(0, .ref (L 11 0))] 0 []
  obtain ⟨f, hG⟩ := hO.ok
  obtain ⟨ac, cc, ea, ec, h2, hc⟩ := mk0 hM
  refine j_aload_n h dL_refused_0 rfl 0 rfl ?_
  refine j_bSL h (n := 1) (c_L_asks l D cy hO) (wr := []) rfl (xg_S (xr_38 13 rfl) (xr_38 14 rfl) (xr_30 2 rfl) (xr_38 15 rfl)) rfl rfl (by decide +kernel) ⟨Nat.le_of_ble_eq_true rfl, Nat.le_of_ble_eq_true rfl⟩ rfl rfl (Nat.le_of_ble_eq_true rfl) dL_refused_1 ⟨by show 0 + 160 ≤ 403; omega, by show 0 + 35520 ≤ 89246; omega⟩ (fun rr v hq => ?_)
  obtain ⟨rfl, X9, A9, b9, rfl, hO9, hx9, ha9⟩ := hq
  rw [List.nil_append]
  refine j_lstore_n h (lv' := [(1, _), (0, _)]) dL_refused_4 rfl (by decide) rfl ?_
  refine j_aload_n h dL_refused_5 rfl 1 rfl ?_
  refine j_iconst h (v := 3) dL_refused_6 (by decide) ?_
  refine g_account (wr := []) h rfl hO9 ⟨Nat.le_of_ble_eq_true rfl, Nat.le_of_ble_eq_true rfl⟩ (Nat.le_of_ble_eq_true rfl) ⟨by show 0 + 160 ≤ 403; omega, by show 0 + 35520 ≤ 89246; omega⟩ dL_refused_7 ?_
  rw [show f_X7_account M X9 A9 3 = nI 3 from hM.1]
  refine j_istore_n h (lv' := [(3, _), (1, _), (0, _)]) dL_refused_10 rfl (by decide) rfl ?_
  refine j_aload_n h dL_refused_11 rfl 2 rfl ?_
  refine j_iconst h (v := 4) dL_refused_12 (by decide) ?_
  refine g_account (wr := []) h rfl hO9 ⟨Nat.le_of_ble_eq_true rfl, Nat.le_of_ble_eq_true rfl⟩ (Nat.le_of_ble_eq_true rfl) ⟨by show 0 + 160 ≤ 403; omega, by show 0 + 35520 ≤ 89246; omega⟩ dL_refused_13 ?_
  rw [show f_X7_account M X9 A9 4 = nI 16 from hM.2.1]
  refine j_istore h (lv' := [(4, _), (3, _), (1, _), (0, _)]) dL_refused_16 (by decide) rfl ?_
  refine j_aload_n h dL_refused_18 rfl 3 rfl ?_
  refine j_iconst h (v := 0) dL_refused_19 (by decide) ?_
  refine j_iconst h (v := 0) dL_refused_20 (by decide) ?_
  refine g_reason (wr := []) h rfl hO9 ⟨Nat.le_of_ble_eq_true rfl, Nat.le_of_ble_eq_true rfl⟩ (Nat.le_of_ble_eq_true rfl) ⟨by show 0 + 160 ≤ 403; omega, by show 0 + 35520 ≤ 89246; omega⟩ dL_refused_21 ?_
  refine j_istore h (lv' := [(5, _), (4, _), (3, _), (1, _), (0, _)]) dL_refused_24 (by decide) rfl ?_
  refine j_aload_n h dL_refused_26 rfl 4 rfl ?_
  refine j_iconst h (v := 0) dL_refused_27 (by decide) ?_
  refine j_iconst h (v := 0) dL_refused_28 (by decide) ?_
  refine g_rinkOf (wr := []) h rfl hO9 ⟨Nat.le_of_ble_eq_true rfl, Nat.le_of_ble_eq_true rfl⟩ (Nat.le_of_ble_eq_true rfl) ⟨by show 0 + 160 ≤ 403; omega, by show 0 + 35520 ≤ 89246; omega⟩ dL_refused_29 ?_
  rw [rof0 hM, ea]
  refine j_istore h (lv' := [(6, _), (5, _), (4, _), (3, _), (1, _), (0, _)]) dL_refused_32 (by decide) rfl ?_
  refine j_aload_n h dL_refused_34 rfl 5 rfl ?_
  refine j_iconst h (v := 0) dL_refused_35 (by decide) ?_
  refine j_iconst h (v := 1) dL_refused_36 (by decide) ?_
  refine g_rinkOf (wr := []) h rfl hO9 ⟨Nat.le_of_ble_eq_true rfl, Nat.le_of_ble_eq_true rfl⟩ (Nat.le_of_ble_eq_true rfl) ⟨by show 0 + 160 ≤ 403; omega, by show 0 + 35520 ≤ 89246; omega⟩ dL_refused_37 ?_
  rw [rof1 hM, ec]
  refine j_istore h (lv' := [(7, _), (6, _), (5, _), (4, _), (3, _), (1, _), (0, _)]) dL_refused_40 (by decide) rfl ?_
  exact rf_o0 h hM hG ea ec h2 hc rfl (rf_o1 h hM hG ea ec h2 hc rfl (rf_o2 h hM hG ea ec h2 hc rfl (rf_o3 h hM hG ea ec h2 hc rfl (rf_o4 h hM hG ea ec h2 hc rfl (rf_q0 h hM hG ea ec h2 hc rfl (rf_q1 h hM hG ea ec h2 hc rfl (rf_d h hM hG ea ec h2 hc rfl (rf_s h hM hG ea ec h2 hc rfl rfl hR)))))))) _ _ _ _ hO9 rfl rfl rfl

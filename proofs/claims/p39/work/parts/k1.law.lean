/-! ===== the law from its start ===== -/
set_option maxRecDepth 100000
section LK
variable {l : Launch} {D : gD} {cy : Nat → ClassId} {J : JT va_W} {L : Nat → Nat → Nat} {S : gM} {n : Nat} {t : Nat → Nat}
theorem lk_o (ho : OKJo l D cy J cL_law 11 yL_law rm_L_law) (hL : D.2.2.2.2.1 ≤ 260) {uc us : Nat} (huc : uc + 6955 ≤ 659866) (hus : us + 1459856 ≤ 7122651) (hend : ∀ (u : va_W) (q : Nat × Nat) (lv : List (Nat × Value)), q.1 ≤ 659866 → q.2 ≤ 7122651 → J u q lv 1244 [.int 1]) : J [] (uc, us) [(0, .ref D.2.2.2.1)] 821 [] := by
  have h := ho.ok
  refine j_new h inlX7 tyX7 tyX7_ok (xr_1 0 rfl) (xr_1 1 rfl) (xr_1 2 rfl) (ci := 8) rfl (fs := [.null, .null, .int 0, .null, .null, .null, .int 0, .null, .null]) (fun j hj => by rcases (show j = 0 ∨ j = 1 ∨ j = 2 ∨ j = 3 ∨ j = 4 ∨ j = 5 ∨ j = 6 ∨ j = 7 ∨ j = 8 by omega) with rfl | rfl | rfl | rfl | rfl | rfl | rfl | rfl | rfl <;> rfl) (by show uc + 1 ≤ 659866; omega) (by show us + 9 ≤ 7122651; omega) dL_law_821 (fun r => ?_)
  refine j_dup h dL_law_824 rfl ?_
  refine j_initO ho (c_X7_init l D cy r) (xr_1 10 rfl) (xr_1 11 rfl) (xr_1 2 rfl) (xr_1 12 rfl) rfl rfl rfl (by decide +kernel) ⟨Nat.le_of_ble_eq_true rfl, Nat.le_of_ble_eq_true rfl⟩ (lst := []) rfl (Nat.le_of_ble_eq_true rfl) dL_law_825 ⟨by show uc + 1 + 342 ≤ 659866; omega, by show us + 9 + 2588 ≤ 7122651; omega⟩ (fun w hw => ?_)
  obtain ⟨L, byI, byL, hLb, rfl⟩ := hw
  subst hLb
  refine j_astore_n h (lv' := [(2, _), (0, _)]) dL_law_828 rfl (by decide) rfl ?_
  refine j_aload_n h dL_law_829 rfl 0 rfl ?_
  refine j_aload_n h dL_law_830 rfl 1 rfl ?_
  refine j_bS h (n := 2) (c_L_makes l D cy (OBx_0 byI byL) ⟨rfl, rfl, fun k hk => absurd hk (Nat.not_lt_zero _)⟩ rfl rfl hL) (wr := []) rfl (xg_S (xr_38 0 rfl) (xr_38 1 rfl) (xr_30 2 rfl) (xr_38 2 rfl)) rfl rfl (by decide +kernel) ⟨Nat.le_of_ble_eq_true rfl, Nat.le_of_ble_eq_true rfl⟩ rfl rfl (Nat.le_of_ble_eq_true rfl) dL_law_831 ⟨by show (uc + 1 + 342) ≤ 659866; omega, by show (us + 9 + 2588) ≤ 7122651; omega⟩ (fun rr v hq => ?_)
  obtain ⟨G, M, X, A, hh, n, rfl, rfl, hO, hM⟩ := hq
  refine j_if_ne h (tgt := 839) dL_law_834 (by decide) (fun _ => ?_) (fun c => absurd c (by decide))
  refine j_iconst h (v := 0) dL_law_839 (by decide) ?_
  refine j_istore_n h (lv' := [(3, _), (2, _), (0, _)]) dL_law_840 rfl (by decide) rfl ?_
  refine j_sub h [0, 1, 2] rfl (lv' := [(3, .int (nI 0)), (2, .ref (L 11 0)), (0, .ref D.2.2.2.1)]) ?_
  refine j_widen h (k := uc + 343) (n := us + 2597) (by show uc + 1 + 342 + 0 ≤ _; omega) (by show us + 9 + 2588 + 0 ≤ _; omega) ?_
  refine lo_r h hL (uc := uc + 343) (us := us + 2597) (by omega) (by omega) (lo_a h (by omega) (by omega) (fun S s3 hr5 e1 e2 => lo_b h hL (uc := uc + 343 + 883) (us := us + 2597 + 195806) (by omega) (by omega) e1 e2 hend)) 3 0 rfl _ _ _ _ _ _ _ hO hM
theorem lk_c (ho : OKJo l D cy J cL_law 11 yL_law rm_L_law) (hL : D.2.2.2.2.1 ≤ 260) {uc us : Nat} (huc : uc + 6955 ≤ 659866) (hus : us + 1459856 ≤ 7122651) (hend : ∀ (u : va_W) (q : Nat × Nat) (lv : List (Nat × Value)), q.1 ≤ 659866 → q.2 ≤ 7122651 → J u q lv 1244 [.int 1]) : ∀ (G : Nat → gM) (M : gM) (X : Nat → Int32) (A : Nat → Nat → Int32) (b : cB) (hh : Nat → gM), OBx G M X A b hh n (some gM0) t 0 → SAME M (sN 45) → J ([] ++ CW cy L ((va_up G 0 M, X, A), b)) (uc, us) [(2, .int (nI 10)), (1, .ref (L 11 0)), (0, .ref D.2.2.2.1)] 750 [] := by
  intro G M X A b hh hO hs
  have h := ho.ok
  refine j_aload_n h dL_law_750 rfl 1 rfl ?_
  refine o_clear (wr := []) h rfl hO ⟨Nat.le_of_ble_eq_true rfl, Nat.le_of_ble_eq_true rfl⟩ (Nat.le_of_ble_eq_true rfl) ⟨by show uc ≤ 659866; omega, by show us ≤ 7122651; omega⟩ dL_law_751 (fun z hz => ?_)
  obtain ⟨e1, e2, -, hO1⟩ := P_clear hO z hz
  have e3 : M.1 5 = 35 := lw_acc (X := X) (A := A) hs (p := 0) (c := 35) (by decide) (by decide) (by decide +kernel)
  rw [e1, e3]
  rw [e2] at hO1 ⊢
  clear hz hO e1 e2; generalize z.2.2 = X at hO1 ⊢; have hO := hO1; clear hO1
  refine j_bipush h (v := 35) dL_law_754 (by decide) ?_
  refine j_icmp_ne h (tgt := 819) dL_law_756 (by decide) (fun c => absurd rfl c) (fun _ => ?_)
  refine j_aload_n h dL_law_759 rfl 1 rfl ?_
  refine j_iconst h (v := 0) dL_law_760 (by decide) ?_
  refine g_account (wr := []) h rfl hO ⟨Nat.le_of_ble_eq_true rfl, Nat.le_of_ble_eq_true rfl⟩ (Nat.le_of_ble_eq_true rfl) ⟨by show uc ≤ 659866; omega, by show us ≤ 7122651; omega⟩ dL_law_761 ?_
  rw [show f_X7_account (f_X1_reset M) X A 0 = 0 from rfl]
  refine j_if_ne h (tgt := 819) dL_law_764 (by decide) (fun c => absurd rfl c) (fun _ => ?_)
  refine j_aload_n h dL_law_767 rfl 1 rfl ?_
  refine j_iconst h (v := 3) dL_law_768 (by decide) ?_
  refine g_account (wr := []) h rfl hO ⟨Nat.le_of_ble_eq_true rfl, Nat.le_of_ble_eq_true rfl⟩ (Nat.le_of_ble_eq_true rfl) ⟨by show uc ≤ 659866; omega, by show us ≤ 7122651; omega⟩ dL_law_769 ?_
  rw [show f_X7_account (f_X1_reset M) X A 3 = 0 from rfl]
  refine j_if_ne h (tgt := 819) dL_law_772 (by decide) (fun c => absurd rfl c) (fun _ => ?_)
  refine j_aload_n h dL_law_775 rfl 1 rfl ?_
  refine j_bipush h (v := 8) dL_law_776 (by decide) ?_
  refine g_account (wr := []) h rfl hO ⟨Nat.le_of_ble_eq_true rfl, Nat.le_of_ble_eq_true rfl⟩ (Nat.le_of_ble_eq_true rfl) ⟨by show uc ≤ 659866; omega, by show us ≤ 7122651; omega⟩ dL_law_778 ?_
  rw [show f_X7_account (f_X1_reset M) X A 8 = 12 from rfl]
  refine j_bipush h (v := 12) dL_law_781 (by decide) ?_
  refine j_icmp_ne h (tgt := 819) dL_law_783 (by decide) (fun c => absurd rfl c) (fun _ => ?_)
  refine j_aload_n h dL_law_786 rfl 1 rfl ?_
  refine o_undo (wr := []) h rfl hO ⟨Nat.le_of_ble_eq_true rfl, Nat.le_of_ble_eq_true rfl⟩ (Nat.le_of_ble_eq_true rfl) ⟨by show uc ≤ 659866; omega, by show us ≤ 7122651; omega⟩ dL_law_787 (fun z hz => ?_)
  obtain rfl := (P_undo hO z hz).1 rfl
  clear hz
  show J ([] ++ CW cy L ((va_up G 0 (f_X1_reset M), X, A), b)) _ _ _ (.int (-4) :: _)
  refine j_bipush h (v := (-4)) dL_law_790 (by decide) ?_
  refine j_icmp_ne h (tgt := 819) dL_law_792 (by decide) (fun c => absurd rfl c) (fun _ => ?_)
  refine j_aload_n h dL_law_795 rfl 1 rfl ?_
  refine o_restore (wr := []) h rfl hO ⟨Nat.le_of_ble_eq_true rfl, Nat.le_of_ble_eq_true rfl⟩ (Nat.le_of_ble_eq_true rfl) ⟨by show uc ≤ 659866; omega, by show us ≤ 7122651; omega⟩ dL_law_796 (fun z hz => ?_)
  obtain ⟨e1, hE, hO1⟩ := (P_restore hO z hz).2.2 gM0 rfl
  rw [e1, show gM0.1 5 = 0 from rfl]
  clear hz e1 hO hs e3; generalize z.2.1 = M at hE hO1 ⊢; generalize z.2.2 = X at hO1 ⊢; have hO := hO1; clear hO1
  refine j_if_ne h (tgt := 819) dL_law_799 (by decide) (fun c => absurd rfl c) (fun _ => ?_)
  refine j_aload_n h dL_law_802 rfl 1 rfl ?_
  refine j_iconst h (v := 4) dL_law_803 (by decide) ?_
  refine g_account (wr := []) h rfl hO ⟨Nat.le_of_ble_eq_true rfl, Nat.le_of_ble_eq_true rfl⟩ (Nat.le_of_ble_eq_true rfl) ⟨by show uc ≤ 659866; omega, by show us ≤ 7122651; omega⟩ dL_law_804 ?_
  rw [show f_X7_account M X A 4 = 0 from hE.1 4 (by decide) (by decide)]
  refine j_if_ne h (tgt := 819) dL_law_807 (by decide) (fun c => absurd rfl c) (fun _ => ?_)
  refine j_aload_n h dL_law_810 rfl 1 rfl ?_
  refine o_undo (wr := []) h rfl hO ⟨Nat.le_of_ble_eq_true rfl, Nat.le_of_ble_eq_true rfl⟩ (Nat.le_of_ble_eq_true rfl) ⟨by show uc ≤ 659866; omega, by show us ≤ 7122651; omega⟩ dL_law_811 (fun z hz => ?_)
  obtain rfl := (P_undo hO z hz).1 rfl
  clear hz
  show J ([] ++ CW cy L ((va_up G 0 M, X, A), b)) _ _ _ (.int (-4) :: _)
  refine j_bipush h (v := (-4)) dL_law_814 (by decide) ?_
  refine j_icmp_eq h (tgt := 821) dL_law_816 (by decide) (fun _ => ?_) (fun c => absurd rfl c)
  refine j_sub h [2] rfl (lv' := [(0, .ref D.2.2.2.1)]) ?_
  refine j_perm h (w := []) [] rfl rfl ?_
  exact lk_o ho hL huc hus hend
theorem lw_from0 (ho : OKJo l D cy J cL_law 11 yL_law rm_L_law) (hL : D.2.2.2.2.1 ≤ 260) (hend : ∀ (u : va_W) (q : Nat × Nat) (lv : List (Nat × Value)), q.1 ≤ 659866 → q.2 ≤ 7122651 → J u q lv 1244 [.int 1]) : J [] (0, 0) [(0, .ref D.2.2.2.1)] 0 [] := by
  have h := ho.ok
  refine j_new h inlX7 tyX7 tyX7_ok (xr_1 0 rfl) (xr_1 1 rfl) (xr_1 2 rfl) (ci := 8) rfl (fs := [.null, .null, .int 0, .null, .null, .null, .int 0, .null, .null]) (fun j hj => by rcases (show j = 0 ∨ j = 1 ∨ j = 2 ∨ j = 3 ∨ j = 4 ∨ j = 5 ∨ j = 6 ∨ j = 7 ∨ j = 8 by omega) with rfl | rfl | rfl | rfl | rfl | rfl | rfl | rfl | rfl <;> rfl) (by show 0 + 1 ≤ 659866; omega) (by show 0 + 9 ≤ 7122651; omega) dL_law_0 (fun r => ?_)
  refine j_dup h dL_law_3 rfl ?_
  refine j_initO ho (c_X7_init l D cy r) (xr_1 10 rfl) (xr_1 11 rfl) (xr_1 2 rfl) (xr_1 12 rfl) rfl rfl rfl (by decide +kernel) ⟨Nat.le_of_ble_eq_true rfl, Nat.le_of_ble_eq_true rfl⟩ (lst := []) rfl (Nat.le_of_ble_eq_true rfl) dL_law_4 ⟨by show 0 + 1 + 342 ≤ 659866; omega, by show 0 + 9 + 2588 ≤ 7122651; omega⟩ (fun w hw => ?_)
  obtain ⟨L, byI, byL, hLb, rfl⟩ := hw
  subst hLb
  have hO := OBx_0 byI byL
  refine j_astore_n h (lv' := [(1, _), (0, _)]) dL_law_7 rfl (by decide) rfl ?_
  refine j_aload_n h dL_law_8 rfl 0 rfl ?_
  refine o_undo (wr := []) h rfl hO ⟨Nat.le_of_ble_eq_true rfl, Nat.le_of_ble_eq_true rfl⟩ (Nat.le_of_ble_eq_true rfl) ⟨by show (0 + 1 + 342) ≤ 659866; omega, by show (0 + 9 + 2588) ≤ 7122651; omega⟩ dL_law_9 (fun z hz => ?_)
  obtain rfl := (P_undo hO z hz).1 rfl
  clear hz
  show J ([] ++ CW cy L ((va_up (fun _ => gM0) 0 gM0, cX0, cA0), (byI, 16, byL, 16))) _ _ _ (.int (-4) :: _)
  refine j_bipush h (v := (-4)) dL_law_12 (by decide) ?_
  refine j_icmp_ne h (tgt := 52) dL_law_14 (by decide) (fun c => absurd rfl c) (fun _ => ?_)
  refine j_aload_n h dL_law_17 rfl 0 rfl ?_
  refine o_restore (wr := []) h rfl hO ⟨Nat.le_of_ble_eq_true rfl, Nat.le_of_ble_eq_true rfl⟩ (Nat.le_of_ble_eq_true rfl) ⟨by show (0 + 1 + 342) ≤ 659866; omega, by show (0 + 9 + 2588) ≤ 7122651; omega⟩ dL_law_18 (fun z hz => ?_)
  obtain rfl := (P_restore hO z hz).2.1 rfl
  clear hz
  show J ([] ++ CW cy L ((va_up (fun _ => gM0) 0 gM0, cX0, cA0), (byI, 16, byL, 16))) _ _ _ (.int (-4) :: _)
  refine j_bipush h (v := (-4)) dL_law_21 (by decide) ?_
  refine j_icmp_ne h (tgt := 52) dL_law_23 (by decide) (fun c => absurd rfl c) (fun _ => ?_)
  refine j_aload_n h dL_law_26 rfl 0 rfl ?_
  refine o_save (wr := []) h rfl hO ⟨Nat.le_of_ble_eq_true rfl, Nat.le_of_ble_eq_true rfl⟩ (Nat.le_of_ble_eq_true rfl) ⟨by show (0 + 1 + 342) ≤ 659866; omega, by show (0 + 9 + 2588) ≤ 7122651; omega⟩ dL_law_27 (fun z hz => ?_)
  obtain ⟨e1, -, hO1⟩ := P_save hO z hz
  rw [e1, show gM0.1 5 = 0 from rfl]
  clear hz e1 hO
  have hs : SAME gM0 (sN 0) := (SAME.rf hO1.ok).to ck_s
  generalize cA0 = A at hO1 ⊢; generalize (byI, 16, byL, 16) = b at hO1 ⊢; generalize z.2.1 = G at hO1 ⊢; generalize z.2.2 = X at hO1 ⊢
  have hO := hO1; clear hO1
  refine j_if_ne h (tgt := 52) dL_law_30 (by decide) (fun c => absurd rfl c) (fun _ => ?_)
  refine j_aload_n h dL_law_33 rfl 0 rfl ?_
  refine j_bipush h (v := 24) dL_law_34 (by decide) ?_
  refine o_hour (wr := []) h rfl hO ⟨Nat.le_of_ble_eq_true rfl, Nat.le_of_ble_eq_true rfl⟩ (Nat.le_of_ble_eq_true rfl) ⟨by show (0 + 1 + 342) ≤ 659866; omega, by show (0 + 9 + 2588) ≤ 7122651; omega⟩ dL_law_36 (fun z hz hS => ?_)
  have hst := st_hour hO hs _ ck_hour24
  rw [← hz] at hst
  obtain ⟨hz1, hs1, -⟩ := hst
  rcases hS.2 with ⟨cc, -⟩ | ⟨-, hO1, -⟩
  · rw [hz1] at cc; exact absurd (CODE_lt cc) (by decide)
  rw [hz1]
  clear hz1 hz hS hs hO
  generalize z.2.1 = G at hO1 hs1 ⊢; generalize z.2.2.1 = M at hO1 hs1 ⊢; generalize z.2.2.2.1 = X at hO1 hs1 ⊢; generalize z.2.2.2.2 = A at hO1 hs1 ⊢
  generalize pu _ _ = hh at hO1
  have hO := hO1; have hs := hs1; clear hO1 hs1
  refine j_if_ne h (tgt := 52) dL_law_39 (by decide) (fun c => absurd rfl c) (fun _ => ?_)
  refine j_aload_n h dL_law_42 rfl 0 rfl ?_
  refine j_iconst h (v := 0) dL_law_43 (by decide) ?_
  refine g_account (wr := []) h rfl hO ⟨Nat.le_of_ble_eq_true rfl, Nat.le_of_ble_eq_true rfl⟩ (Nat.le_of_ble_eq_true rfl) ⟨by show (0 + 1 + 342) ≤ 659866; omega, by show (0 + 9 + 2588) ≤ 7122651; omega⟩ dL_law_44 ?_
  rw [lw_acc hs (p := 0) (c := 24) (by decide) (by decide) (by decide +kernel)]
  refine j_bipush h (v := 24) dL_law_47 (by decide) ?_
  refine j_icmp_eq h (tgt := 54) dL_law_49 (by decide) (fun _ => ?_) (fun c => absurd rfl c)
  refine j_iconst h (v := 0) dL_law_54 (by decide) ?_
  refine j_istore_n h (lv' := [(2, _), (1, _), (0, _)]) dL_law_55 rfl (by decide) rfl ?_
  refine j_sub h [0, 1, 2] rfl (lv' := [(2, .int (nI 0)), (1, .ref (L 11 0)), (0, .ref D.2.2.2.1)]) ?_
  refine j_widen h (k := 343) (n := 2597) (by decide) (by decide) ?_
  have hO := OBx.txt (t' := fun j => 32 + j) hO (fun j hj => absurd hj (Nat.not_lt_zero _))
  refine e_app h (qc := 343) (qs := 2597) (by decide) (by decide) (fun G M X A b hh hO hs => ?_) 60 0 rfl _ _ _ _ _ _ hO hs
  refine e_scr h (qc := 403) (qs := 15917) (by decide) (by decide) (fun G M X A b hh hO hs => ?_) _ _ _ _ _ _ hO hs
  refine e_rink h (qc := 404) (qs := 16139) (by decide) (by decide) (fun G M X A b hh hO hs => ?_) 4 0 rfl _ _ _ _ _ _ hO hs
  refine j_iconst h (v := 0) dL_law_164 (by decide) ?_
  refine j_istore_n h (lv' := [(2, _), (1, _), (0, _)]) dL_law_165 rfl (by decide) rfl ?_
  refine j_sub h [0, 1, 2] rfl (lv' := [(2, .int (nI 0)), (1, .ref (L 11 0)), (0, .ref D.2.2.2.1)]) ?_
  refine e_wood h (qc := 404) (qs := 16139) (by decide) (by decide) (fun G M X A b hh hO hs => ?_) 16 0 rfl _ _ _ _ _ _ hO hs
  refine e_ref1 h (qc := 404) (qs := 16139) (by decide) (by decide) (fun G M X A b hh hO hs => ?_) _ _ _ _ _ _ hO hs
  refine e_tea h (qc := 406) (qs := 16143) (by decide) (by decide) (fun G M X A b hh hO hs => ?_) 10 0 rfl _ _ _ _ _ _ hO hs
  refine e_tea2 h (qc := 406) (qs := 16143) (by decide) (by decide) (fun G M X A b hh hO hs => ?_) _ _ _ _ _ _ hO hs
  refine e_wet h (qc := 408) (qs := 16147) (by decide) (by decide) (fun G M X A b hh hO hs => ?_) _ _ _ _ _ _ hO hs
  refine e_swp h (qc := 409) (qs := 16151) (by decide) (by decide) (fun G M X A b hh hO hs => ?_) _ _ _ _ _ _ hO hs
  refine e_dry h (qc := 410) (qs := 16153) (by decide) (by decide) (fun G M X A b hh hO hs => ?_) _ _ _ _ _ _ hO hs
  exact lk_c ho hL (uc := 451) (us := 25037) (by decide) (by decide) hend _ _ _ _ _ _ hO hs
end LK

/-! ===== the past is made ===== -/
/-- a green that begins -/
def gM0 : gM := f_X1_reset gZ
def gB (cy : Nat → ClassId) (aa : Nat → Nat → Nat) (i : Nat) : va_W := gW cy (aa i) gM0
theorem gB_s (cy : Nat → ClassId) (aa : Nat → Nat → Nat) (k : Nat) (a : Nat → Nat) : bl (gB cy aa) k ++ gW cy a gM0 = bl (gB cy (va_up aa k a)) (k + 1) := by
  show _ = bl (gB cy (va_up aa k a)) k ++ gB cy (va_up aa k a) k
  rw [bl_congr k (fun i hi => show gB cy (va_up aa k a) i = gB cy aa i by unfold gB; rw [va_up_ne _ _ (by omega)])]
  unfold gB
  rw [va_up_self]
theorem hd_s (aa : Nat → Nat → Nat) (k : Nat) (a : Nat → Nat) : va_up (fun i => aa i 0) k (a 0) = fun i => va_up aa k a i 0 := by
  funext i
  unfold va_up
  split <;> rfl
theorem obj_g {P : va_W} {cy : Nat → ClassId} {c : ClassId} {n g k : Nat} {aa : Nat → Nat → Nat} {a : Nat → Nat} : ((P ++ (g, oA c n (fun i => aa i 0) k) :: bl (gB cy aa) k) ++ gW cy a gM0).set P.length (g, .inl (c, n, .inr (.inr (.inr (.inr (va_up (refs (fun i => aa i 0) k) k (some (a 0)))))))) = P ++ (g, oA c n (fun i => va_up aa k a i 0) (k + 1)) :: bl (gB cy (va_up aa k a)) (k + 1) := by
  rw [← hd_s]
  exact obj_s (gB_s cy aa k a)
theorem at_blk {cy : Nat → ClassId} {a : Nat → Nat} {M : gM} (u : va_W) : (u ++ gW cy a M)[u.length]? = some (a 0, .inr (2, fG (fun _ => a) 0 M)) := by
  rw [List.getElem?_append_right (Nat.le_refl _), Nat.sub_self]
  exact ag_G
abbrev rm_X3_init : Room := { frames := 3, cells := 271, slots := 1926, locals := 61 }
set_option maxRecDepth 100000 in
set_option maxHeartbeats 4000000 in
theorem c_X3_init (l : Launch) (D : gD) (cy : Nat → ClassId) (b : Nat) : CtVo l D cy yX3_init cX3_init 2 rm_X3_init [.ref b] ([(b, .inr (4, [.null, .int 0, .int 0]))]) (fun w => ∃ (ga : Nat) (aa : Nat → Nat → Nat), w = [(b, .inr (4, [.ref ga, .int 0, .int 0]))] ++ (ga, oA (cy 4) 9 (fun i => aa i 0) 9) :: bl (gB cy aa) 9) 271 1926 := by
  refine m_entO cX3_init 2 (by decide) (Nat.le_of_ble_eq_true rfl) (fun J ho hR => ?_)
  show J ([(b, .inr (4, [.null, .int 0, .int 0]))]) (0, 0) [(0, .ref b)] 0 []
  have h := ho.ok
  have lr : ∀ (ga : Nat), ∀ (n k : Nat) (aa : Nat → Nat → Nat), n + k = 9 → J ([(b, .inr (4, [.ref ga, .int 0, .int 0]))] ++ (ga, oA (cy 4) 9 (fun i => aa i 0) k) :: bl (gB cy aa) k) (1 + 30 * k, 9 + 213 * k) [(1, .int (nI k)), (0, .ref b)] 15 [] := by
    intro ga
    have lq : ∀ (n k : Nat) (aa : Nat → Nat → Nat), n + k = 9 → J ([(b, .inr (4, [.ref ga, .int 0, .int 0]))] ++ (ga, oA (cy 4) 9 (fun i => aa i 0) k) :: bl (gB cy aa) k) (1 + 30 * k, 9 + 213 * k) [(1, .int (nI k)), (0, .ref b)] 15 [] := by
      intro n
      induction n with
      | zero =>
        intro k aa hn
        obtain rfl : k = 9 := by omega
        refine j_iload_n h dX3_init_15 rfl 0 rfl ?_
        refine j_bipush h (v := 9) dX3_init_16 (by decide) ?_
        refine j_icmp_ge h (tgt := 40) dX3_init_18 (by decide) (fun _ => ?_) (fun c => absurd (show (9 : Int32) ≤ nI 9 by decide) c)
        exact hR _ _ _ dX3_init_40 ⟨ga, aa, rfl⟩
      | succ n ih =>
        intro k aa hn
        refine j_iload_n h dX3_init_15 rfl 0 rfl ?_
        refine j_bipush h (v := 9) dX3_init_16 (by decide) ?_
        refine j_icmp_ge h (tgt := 40) dX3_init_18 (by decide) (fun c => absurd c (show ¬ (9 : Int32) ≤ nI k from nI_ge (b := 9) (by omega) (by decide))) (fun _ => ?_)
        refine j_aload_n h dX3_init_21 rfl 1 rfl ?_
        refine j_get h inlX3 0 rfl rfl 0 (by decide) (xr_4 20 rfl) rfl (v := .ref ga) rfl dX3_init_22 ?_
        refine j_iload_n h dX3_init_25 rfl 0 rfl ?_
        refine j_new h inlX1 tyX1 tyX1_ok (xr_4 19 rfl) (xr_1 17 rfl) (xr_1 18 rfl) (ci := 2) rfl (fs := [.null, .null, .null, .int 0, .int 0, .int 0, .int 0, .int 0, .int 0, .int 0, .int 0]) (fun j hj => by rcases (show j = 0 ∨ j = 1 ∨ j = 2 ∨ j = 3 ∨ j = 4 ∨ j = 5 ∨ j = 6 ∨ j = 7 ∨ j = 8 ∨ j = 9 ∨ j = 10 by omega) with rfl | rfl | rfl | rfl | rfl | rfl | rfl | rfl | rfl | rfl | rfl <;> rfl) (by show _ + 1 ≤ 271; omega) (by show _ + 11 ≤ 1926; omega) dX3_init_26 (fun r => ?_)
        refine j_dup h dX3_init_29 rfl ?_
        refine j_initO ho (c_X1_init l D cy _) (xr_4 21 rfl) (xr_2 17 rfl) (xr_1 18 rfl) (xr_2 18 rfl) rfl rfl rfl (by decide +kernel) ⟨Nat.le_of_ble_eq_true rfl, Nat.le_of_ble_eq_true rfl⟩ (lst := [(b, .inr (4, [.ref ga, .int 0, .int 0]))] ++ (ga, oA (cy 4) 9 (fun i => aa i 0) k) :: bl (gB cy aa) k) rfl (Nat.le_of_ble_eq_true rfl) dX3_init_30 ⟨by show _ + 1 + 29 ≤ 271; omega, by show _ + 11 + 202 ≤ 1926; omega⟩ (fun w hw => ?_)
        obtain ⟨a, e, rfl⟩ := hw
        subst e
        refine j_aastq h ([(b, .inr (4, [.ref ga, .int 0, .int 0]))] : va_W).length 4 ([(b, .inr (4, [.ref ga, .int 0, .int 0]))] ++ (ga, oA (cy 4) 9 (fun i => aa i 0) k) :: bl (gB cy aa) k : va_W).length 2 (at_end2 _ _ _ _) rfl (at_blk _) rfl k rfl (by omega) (by decide) dX3_init_33 (w := [(b, .inr (4, [.ref ga, .int 0, .int 0]))] ++ (ga, oA (cy 4) 9 (fun i => (va_up aa k a) i 0) (k + 1)) :: bl (gB cy (va_up aa k a)) (k + 1)) obj_g ?_
        refine j_iinc h (v := nI (k + 1)) (lv' := [(1, _), (0, _)]) dX3_init_34 (k := 0) rfl (nI_1 k) (by decide) rfl ?_
        refine j_goto h (tgt := 15) dX3_init_37 (by decide) ?_
        refine j_widen h (k := 1 + 30 * (k + 1)) (n := 9 + 213 * (k + 1)) (by show 1 + 30 * k + 1 + 29 ≤ _; omega) (by show 9 + 213 * k + 11 + 202 ≤ _; omega) ?_
        exact ih (k + 1) (va_up aa k a) (by omega)
    exact lq
  refine j_aload_n h dX3_init_0 rfl 0 rfl ?_
  refine j_objInit h (xr_4 18 rfl) (xr_1 14 rfl) (xr_1 15 rfl) (Nat.le_of_ble_eq_true rfl) (Nat.le_of_ble_eq_true rfl) dX3_init_1 ?_
  refine j_aload_n h dX3_init_4 rfl 0 rfl ?_
  refine j_bipush h (v := 9) dX3_init_5 (by decide) ?_
  refine j_newq ho (xr_4 19 rfl) (fun _ z => z.2.2.2.1) 4 rfl (N := 9) (by decide) (by decide) (by decide) (by decide) (by decide) dX3_init_7 (fun ga => ?_)
  refine j_putF h inlX3 tyX3 tyX3_ok nmX3 0 rfl rfl 0 (by decide) (xr_4 20 rfl) rfl rfl rfl rfl rfl rfl (Nat.le_of_ble_eq_true rfl) dX3_init_10 (u' := [(b, .inr (4, [.ref ga, .int 0, .int 0]))] ++ (ga, .inl (cy 4, 9, .inr (.inr (.inr (.inr (fun _ => none)))))) :: []) rfl ?_
  refine j_iconst h (v := 0) dX3_init_13 (by decide) ?_
  refine j_istore_n h (lv' := [(1, _), (0, _)]) dX3_init_14 rfl (by decide) rfl ?_
  refine j_eqw h (oA_0 _ _ _ _ _ (fun _ => 0)) ?_
  exact lr ga 9 0 (fun _ _ => 0) rfl

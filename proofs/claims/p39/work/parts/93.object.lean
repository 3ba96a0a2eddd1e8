/-! ===== the class's object is made ===== -/
theorem range_bl {α : Type} (f : Nat → Nat → α) : ∀ n, (List.range (30 * n)).map (fun i => f (i / 30) (i % 30)) = (List.range n).flatMap (fun g => (List.range 30).map (f g)) := by
  intro n
  induction n with
  | zero => rfl
  | succ n ih =>
    rw [show 30 * (n + 1) = 30 * n + 30 by omega, List.range_add, List.map_append, ih, (List.range_succ : List.range (n + 1) = _), List.flatMap_append, List.map_map]
    congr 1
    show _ = [n].flatMap _
    rw [List.flatMap_singleton]
    refine List.map_congr_left fun j hj => ?_
    have := List.mem_range.mp hj
    show f ((30 * n + j) / 30) ((30 * n + j) % 30) = f n j
    rw [show (30 * n + j) / 30 = n by omega, show (30 * n + j) % 30 = j by omega]
theorem fm_bl (B : Nat → va_W) : ∀ n, (List.range n).flatMap B = bl B n := by
  intro n
  induction n with
  | zero => rfl
  | succ n ih =>
    rw [List.range_succ, List.flatMap_append, ih, List.flatMap_singleton]
    rfl
theorem glw_bl (cy : Nat → ClassId) (L : Nat → Nat → Nat) (G : Nat → gM) : glw cy L G = bl (fun g => gW cy (L g) (G g)) 11 := by
  rw [← fm_bl]
  exact range_bl (fun g j => (L g j, gcell cy L g (G g) j)) 11
theorem bl_2 (B : Nat → va_W) : ∀ n, bl B (2 + n) = (B 0 ++ B 1) ++ bl (fun i => B (2 + i)) n := by
  intro n
  induction n with
  | zero =>
    show (([] ++ B 0) ++ B 1) = (B 0 ++ B 1) ++ []
    rw [List.nil_append, List.append_nil]
  | succ n ih =>
    show bl B (2 + n) ++ B (2 + n) = _
    rw [ih, List.append_assoc]
    rfl
/-- where the class's cells lie -/
def cL (a0 a1 : Nat → Nat) (aa : Nat → Nat → Nat) (m : List Nat) : Nat → Nat → Nat := fun g => if g = 0 then a0 else if g = 1 then a1 else if g = 11 then (fun j => m.getD j 0) else aa (g - 2)
def cX0 : Nat → Int32 := fun k => if k = 1 then -4 else 0
def cA0 : Nat → Nat → Int32 := fun _ _ => 0
theorem CW_0 (cy : Nat → ClassId) (a0 a1 : Nat → Nat) (aa : Nat → Nat → Nat) (m : List Nat) (b : cB) : CW cy (cL a0 a1 aa m) ((va_up (fun _ => gM0) 0 gM0, cX0, cA0), b) = ((gW cy a0 gM0 ++ gW cy a1 gM0) ++ bl (gB cy aa) 9) ++ mlw cy (cL a0 a1 aa m) (fun _ => gM0, cX0, cA0) b := by
  have e : va_up (fun _ => gM0) 0 gM0 = fun _ => gM0 := va_up_id (fun _ => gM0) 0
  rw [e]
  unfold CW
  rw [glw_bl, show (11 : Nat) = 2 + 9 from rfl, bl_2]
  congr 1
theorem x_perm {α : Type} (x p q s y o1 o2 o3 e1 e2 e3 l m : α) (a b r : List α) : List.Perm (((((((([x] ++ a) ++ b) ++ ([p] ++ q :: r)) ++ [s, y]) ++ [o1, o2, o3]) ++ [e1, e2, e3]) ++ [l, m])) (((a ++ b) ++ r) ++ [x, p, q, o1, o2, o3, e1, e2, e3, s, l, y, m]) := by
  have e : (((((((([x] ++ a) ++ b) ++ ([p] ++ q :: r)) ++ [s, y]) ++ [o1, o2, o3]) ++ [e1, e2, e3]) ++ [l, m])) = (([x] ++ (a ++ b)) ++ ([p, q] ++ r)) ++ [s, y, o1, o2, o3, e1, e2, e3, l, m] := by simp
  rw [e]
  have s1 : List.Perm ([x] ++ (a ++ b)) ((a ++ b) ++ [x]) := List.perm_append_comm
  have s2 : List.Perm ([x] ++ ([p, q] ++ r)) (r ++ [x, p, q]) := (List.perm_append_comm (l₁ := [x, p, q]) (l₂ := r))
  have s3 : List.Perm [s, y, o1, o2, o3, e1, e2, e3, l, m] [o1, o2, o3, e1, e2, e3, s, l, y, m] := List.Perm.map (l₁ := [0, 1, 2, 3, 4, 5, 6, 7, 8, 9]) (l₂ := [2, 3, 4, 5, 6, 7, 0, 8, 1, 9]) (fun i => [s, y, o1, o2, o3, e1, e2, e3, l, m].getD i s) (by decide)
  refine ((s1.append_right _).append_right _).trans ?_
  rw [List.append_assoc (a ++ b)]
  refine ((s2.append_left (a ++ b)).append s3).trans ?_
  refine List.Perm.of_eq ?_
  simp
abbrev rm_X7_init : Room := { frames := 4, cells := 342, slots := 2588, locals := 82 }
set_option maxRecDepth 100000 in
set_option maxHeartbeats 4000000 in
theorem c_X7_init (l : Launch) (D : gD) (cy : Nat → ClassId) (b : Nat) : CtVo l D cy yX7_init cX7_init 1 rm_X7_init [.ref b] ([(b, .inr (8, [.null, .null, .int 0, .null, .null, .null, .int 0, .null, .null]))]) (fun w => ∃ (L : Nat → Nat → Nat) (byI byL : Nat), L 11 0 = b ∧ w = CW cy L ((va_up (fun _ => gM0) 0 gM0, cX0, cA0), (byI, 16, byL, 16))) 342 2588 := by
  refine m_entO cX7_init 1 (by decide) (Nat.le_of_ble_eq_true rfl) (fun J ho hR => ?_)
  show J ([(b, .inr (8, [.null, .null, .int 0, .null, .null, .null, .int 0, .null, .null]))]) (0, 0) [(0, .ref b)] 0 []
  have h := ho.ok
  refine j_aload_n h dX7_init_0 rfl 0 rfl ?_
  refine j_objInit h (xr_1 13 rfl) (xr_1 14 rfl) (xr_1 15 rfl) (Nat.le_of_ble_eq_true rfl) (Nat.le_of_ble_eq_true rfl) dX7_init_1 ?_
  refine j_aload_n h dX7_init_4 rfl 0 rfl ?_
  refine j_new h inlX1 tyX1 tyX1_ok (xr_1 16 rfl) (xr_1 17 rfl) (xr_1 18 rfl) (ci := 2) rfl (fs := [.null, .null, .null, .int 0, .int 0, .int 0, .int 0, .int 0, .int 0, .int 0, .int 0]) (fun j hj => by rcases (show j = 0 ∨ j = 1 ∨ j = 2 ∨ j = 3 ∨ j = 4 ∨ j = 5 ∨ j = 6 ∨ j = 7 ∨ j = 8 ∨ j = 9 ∨ j = 10 by omega) with rfl | rfl | rfl | rfl | rfl | rfl | rfl | rfl | rfl | rfl | rfl <;> rfl) (by decide) (by decide) dX7_init_5 (fun r => ?_)
  refine j_dup h dX7_init_8 rfl ?_
  refine j_initO ho (c_X1_init l D cy _) (xr_2 16 rfl) (xr_2 17 rfl) (xr_1 18 rfl) (xr_2 18 rfl) rfl rfl rfl (by decide +kernel) ⟨Nat.le_of_ble_eq_true rfl, Nat.le_of_ble_eq_true rfl⟩ (lst := [(b, .inr (8, [.null, .null, .int 0, .null, .null, .null, .int 0, .null, .null]))]) rfl (Nat.le_of_ble_eq_true rfl) dX7_init_9 ⟨by decide, by decide⟩ (fun w hw => ?_)
  obtain ⟨a0, e, rfl⟩ := hw
  subst e
  refine j_putF h inlX7 tyX7 tyX7_ok nmX7 0 rfl rfl 0 (by decide) (xr_1 19 rfl) rfl rfl rfl rfl rfl rfl (Nat.le_of_ble_eq_true rfl) dX7_init_12 (u' := ([(b, .inr (8, [.ref (a0 0), .null, .int 0, .null, .null, .null, .int 0, .null, .null]))]) ++ gW cy a0 gM0) rfl ?_
  refine j_aload_n h dX7_init_15 rfl 0 rfl ?_
  refine j_new h inlX1 tyX1 tyX1_ok (xr_1 16 rfl) (xr_1 17 rfl) (xr_1 18 rfl) (ci := 2) rfl (fs := [.null, .null, .null, .int 0, .int 0, .int 0, .int 0, .int 0, .int 0, .int 0, .int 0]) (fun j hj => by rcases (show j = 0 ∨ j = 1 ∨ j = 2 ∨ j = 3 ∨ j = 4 ∨ j = 5 ∨ j = 6 ∨ j = 7 ∨ j = 8 ∨ j = 9 ∨ j = 10 by omega) with rfl | rfl | rfl | rfl | rfl | rfl | rfl | rfl | rfl | rfl | rfl <;> rfl) (by decide) (by decide) dX7_init_16 (fun r => ?_)
  refine j_dup h dX7_init_19 rfl ?_
  refine j_initO ho (c_X1_init l D cy _) (xr_2 16 rfl) (xr_2 17 rfl) (xr_1 18 rfl) (xr_2 18 rfl) rfl rfl rfl (by decide +kernel) ⟨Nat.le_of_ble_eq_true rfl, Nat.le_of_ble_eq_true rfl⟩ (lst := ([(b, .inr (8, [.ref (a0 0), .null, .int 0, .null, .null, .null, .int 0, .null, .null]))]) ++ gW cy a0 gM0) rfl (Nat.le_of_ble_eq_true rfl) dX7_init_20 ⟨by decide, by decide⟩ (fun w hw => ?_)
  obtain ⟨a1, e, rfl⟩ := hw
  subst e
  refine j_putF h inlX7 tyX7 tyX7_ok nmX7 0 rfl rfl 1 (by decide) (xr_1 20 rfl) rfl rfl rfl rfl rfl rfl (Nat.le_of_ble_eq_true rfl) dX7_init_23 (u' := (([(b, .inr (8, [.ref (a0 0), .ref (a1 0), .int 0, .null, .null, .null, .int 0, .null, .null]))]) ++ gW cy a0 gM0) ++ gW cy a1 gM0) rfl ?_
  refine j_aload_n h dX7_init_26 rfl 0 rfl ?_
  refine j_iconst h (v := 0) dX7_init_27 (by decide) ?_
  refine j_put h inlX7 tyX7 tyX7_ok nmX7 0 rfl rfl 2 (by decide) (xr_1 21 rfl) rfl rfl rfl rfl (Nat.le_of_ble_eq_true rfl) dX7_init_28 (u' := (([(b, .inr (8, [.ref (a0 0), .ref (a1 0), .int 0, .null, .null, .null, .int 0, .null, .null]))]) ++ gW cy a0 gM0) ++ gW cy a1 gM0) rfl ?_
  refine j_aload_n h dX7_init_31 rfl 0 rfl ?_
  refine j_new h inlX3 tyX3 tyX3_ok (xr_1 22 rfl) (xr_1 23 rfl) (xr_2 0 rfl) (ci := 4) rfl (fs := [.null, .int 0, .int 0]) (fun j hj => by rcases (show j = 0 ∨ j = 1 ∨ j = 2 by omega) with rfl | rfl | rfl <;> rfl) (by decide) (by decide) dX7_init_32 (fun rp => ?_)
  refine j_dup h dX7_init_35 rfl ?_
  refine j_initO ho (c_X3_init l D cy _) (xr_4 15 rfl) (xr_4 16 rfl) (xr_2 0 rfl) (xr_4 17 rfl) rfl rfl rfl (by decide +kernel) ⟨Nat.le_of_ble_eq_true rfl, Nat.le_of_ble_eq_true rfl⟩ (lst := (([(b, .inr (8, [.ref (a0 0), .ref (a1 0), .int 0, .null, .null, .null, .int 0, .null, .null]))]) ++ gW cy a0 gM0) ++ gW cy a1 gM0) rfl (Nat.le_of_ble_eq_true rfl) dX7_init_36 ⟨by decide, by decide⟩ (fun w hw => ?_)
  obtain ⟨ga, aa, rfl⟩ := hw
  refine j_putF h inlX7 tyX7 tyX7_ok nmX7 0 rfl rfl 3 (by decide) (xr_2 1 rfl) rfl rfl rfl rfl rfl rfl (Nat.le_of_ble_eq_true rfl) dX7_init_39 (u' := ((([(b, .inr (8, [.ref (a0 0), .ref (a1 0), .int 0, .ref rp, .null, .null, .int 0, .null, .null]))]) ++ gW cy a0 gM0) ++ gW cy a1 gM0) ++ ([(rp, .inr (4, [.ref ga, .int 0, .int 0]))] ++ (ga, oA (cy 4) 9 (fun i => aa i 0) 9) :: bl (gB cy aa) 9)) rfl ?_
  refine j_aload_n h dX7_init_42 rfl 0 rfl ?_
  refine j_new h inlJ4 tyJ4 tyJ4_ok (xr_2 2 rfl) (xr_2 3 rfl) (xr_2 4 rfl) (ci := 0) rfl (fs := [.null, .int 0, .int 0, .int 0]) (fun j hj => by rcases (show j = 0 ∨ j = 1 ∨ j = 2 ∨ j = 3 by omega) with rfl | rfl | rfl | rfl <;> rfl) (by decide) (by decide) dX7_init_43 (fun ri => ?_)
  refine j_dup h dX7_init_46 rfl ?_
  refine j_initV0 h (c_J4_init_da8c8 l D cy _) (xr_4 22 rfl) (xr_4 23 rfl) (xr_2 4 rfl) (xr_5 0 rfl) rfl rfl rfl (by decide +kernel) ⟨Nat.le_of_ble_eq_true rfl, Nat.le_of_ble_eq_true rfl⟩ (lst := ((([(b, .inr (8, [.ref (a0 0), .ref (a1 0), .int 0, .ref rp, .null, .null, .int 0, .null, .null]))]) ++ gW cy a0 gM0) ++ gW cy a1 gM0) ++ ([(rp, .inr (4, [.ref ga, .int 0, .int 0]))] ++ (ga, oA (cy 4) 9 (fun i => aa i 0) 9) :: bl (gB cy aa) 9)) rfl (Nat.le_of_ble_eq_true rfl) dX7_init_47 ⟨by decide, by decide⟩ (fun w hw => ?_)
  obtain ⟨byI, rfl⟩ := hw
  refine j_putF h inlX7 tyX7 tyX7_ok nmX7 0 rfl rfl 4 (by decide) (xr_2 5 rfl) rfl rfl rfl rfl rfl rfl (Nat.le_of_ble_eq_true rfl) dX7_init_50 (u' := (((([(b, .inr (8, [.ref (a0 0), .ref (a1 0), .int 0, .ref rp, .ref ri, .null, .int 0, .null, .null]))]) ++ gW cy a0 gM0) ++ gW cy a1 gM0) ++ ([(rp, .inr (4, [.ref ga, .int 0, .int 0]))] ++ (ga, oA (cy 4) 9 (fun i => aa i 0) 9) :: bl (gB cy aa) 9)) ++ [(ri, .inr (0, [.ref byI, .int 0, .int 0, .int 0])), (byI, .inl (cy 5, 16, .inl (fun _ => 0)))]) rfl ?_
  refine j_aload_n h dX7_init_53 rfl 0 rfl ?_
  refine j_new h inlX2 tyX2 tyX2_ok (xr_2 6 rfl) (xr_2 7 rfl) (xr_2 8 rfl) (ci := 3) rfl (fs := [.null, .null, .int 0, .int 0]) (fun j hj => by rcases (show j = 0 ∨ j = 1 ∨ j = 2 ∨ j = 3 by omega) with rfl | rfl | rfl | rfl <;> rfl) (by decide) (by decide) dX7_init_54 (fun ro => ?_)
  refine j_dup h dX7_init_57 rfl ?_
  refine j_initV0 h (c_X2_init l D cy _) (xr_5 18 rfl) (xr_5 19 rfl) (xr_2 8 rfl) (xr_5 20 rfl) rfl rfl rfl (by decide +kernel) ⟨Nat.le_of_ble_eq_true rfl, Nat.le_of_ble_eq_true rfl⟩ (lst := (((([(b, .inr (8, [.ref (a0 0), .ref (a1 0), .int 0, .ref rp, .ref ri, .null, .int 0, .null, .null]))]) ++ gW cy a0 gM0) ++ gW cy a1 gM0) ++ ([(rp, .inr (4, [.ref ga, .int 0, .int 0]))] ++ (ga, oA (cy 4) 9 (fun i => aa i 0) 9) :: bl (gB cy aa) 9)) ++ [(ri, .inr (0, [.ref byI, .int 0, .int 0, .int 0])), (byI, .inl (cy 5, 16, .inl (fun _ => 0)))]) rfl (Nat.le_of_ble_eq_true rfl) dX7_init_58 ⟨by decide, by decide⟩ (fun w hw => ?_)
  obtain ⟨o1, o2, rfl⟩ := hw
  refine j_putF h inlX7 tyX7 tyX7_ok nmX7 0 rfl rfl 5 (by decide) (xr_2 9 rfl) rfl rfl rfl rfl rfl rfl (Nat.le_of_ble_eq_true rfl) dX7_init_61 (u' := ((((([(b, .inr (8, [.ref (a0 0), .ref (a1 0), .int 0, .ref rp, .ref ri, .ref ro, .int 0, .null, .null]))]) ++ gW cy a0 gM0) ++ gW cy a1 gM0) ++ ([(rp, .inr (4, [.ref ga, .int 0, .int 0]))] ++ (ga, oA (cy 4) 9 (fun i => aa i 0) 9) :: bl (gB cy aa) 9)) ++ [(ri, .inr (0, [.ref byI, .int 0, .int 0, .int 0])), (byI, .inl (cy 5, 16, .inl (fun _ => 0)))]) ++ [(ro, .inr (3, [.ref o1, .ref o2, .int 0, .int 0])), (o1, .inl (cy 0, 30, .inl (fun _ => 0))), (o2, .inl (cy 0, 150, .inl (fun _ => 0)))]) rfl ?_
  refine j_aload_n h dX7_init_64 rfl 0 rfl ?_
  refine j_bipush h (v := (-4)) dX7_init_65 (by decide) ?_
  refine j_put h inlX7 tyX7 tyX7_ok nmX7 0 rfl rfl 6 (by decide) (xr_2 10 rfl) rfl rfl rfl rfl (Nat.le_of_ble_eq_true rfl) dX7_init_67 (u' := ((((([(b, .inr (8, [.ref (a0 0), .ref (a1 0), .int 0, .ref rp, .ref ri, .ref ro, .int (-4), .null, .null]))]) ++ gW cy a0 gM0) ++ gW cy a1 gM0) ++ ([(rp, .inr (4, [.ref ga, .int 0, .int 0]))] ++ (ga, oA (cy 4) 9 (fun i => aa i 0) 9) :: bl (gB cy aa) 9)) ++ [(ri, .inr (0, [.ref byI, .int 0, .int 0, .int 0])), (byI, .inl (cy 5, 16, .inl (fun _ => 0)))]) ++ [(ro, .inr (3, [.ref o1, .ref o2, .int 0, .int 0])), (o1, .inl (cy 0, 30, .inl (fun _ => 0))), (o2, .inl (cy 0, 150, .inl (fun _ => 0)))]) rfl ?_
  refine j_aload_n h dX7_init_70 rfl 0 rfl ?_
  refine j_new h inlX4 tyX4 tyX4_ok (xr_2 11 rfl) (xr_2 12 rfl) (xr_2 13 rfl) (ci := 5) rfl (fs := [.null, .null, .int 0]) (fun j hj => by rcases (show j = 0 ∨ j = 1 ∨ j = 2 by omega) with rfl | rfl | rfl <;> rfl) (by decide) (by decide) dX7_init_71 (fun re => ?_)
  refine j_dup h dX7_init_74 rfl ?_
  refine j_initV0 h (c_X4_init l D cy _) (xr_6 0 rfl) (xr_6 1 rfl) (xr_2 13 rfl) (xr_6 2 rfl) rfl rfl rfl (by decide +kernel) ⟨Nat.le_of_ble_eq_true rfl, Nat.le_of_ble_eq_true rfl⟩ (lst := ((((([(b, .inr (8, [.ref (a0 0), .ref (a1 0), .int 0, .ref rp, .ref ri, .ref ro, .int (-4), .null, .null]))]) ++ gW cy a0 gM0) ++ gW cy a1 gM0) ++ ([(rp, .inr (4, [.ref ga, .int 0, .int 0]))] ++ (ga, oA (cy 4) 9 (fun i => aa i 0) 9) :: bl (gB cy aa) 9)) ++ [(ri, .inr (0, [.ref byI, .int 0, .int 0, .int 0])), (byI, .inl (cy 5, 16, .inl (fun _ => 0)))]) ++ [(ro, .inr (3, [.ref o1, .ref o2, .int 0, .int 0])), (o1, .inl (cy 0, 30, .inl (fun _ => 0))), (o2, .inl (cy 0, 150, .inl (fun _ => 0)))]) rfl (Nat.le_of_ble_eq_true rfl) dX7_init_75 ⟨by decide, by decide⟩ (fun w hw => ?_)
  obtain ⟨e1, e2, rfl⟩ := hw
  refine j_putF h inlX7 tyX7 tyX7_ok nmX7 0 rfl rfl 7 (by decide) (xr_2 14 rfl) rfl rfl rfl rfl rfl rfl (Nat.le_of_ble_eq_true rfl) dX7_init_78 (u' := (((((([(b, .inr (8, [.ref (a0 0), .ref (a1 0), .int 0, .ref rp, .ref ri, .ref ro, .int (-4), .ref re, .null]))]) ++ gW cy a0 gM0) ++ gW cy a1 gM0) ++ ([(rp, .inr (4, [.ref ga, .int 0, .int 0]))] ++ (ga, oA (cy 4) 9 (fun i => aa i 0) 9) :: bl (gB cy aa) 9)) ++ [(ri, .inr (0, [.ref byI, .int 0, .int 0, .int 0])), (byI, .inl (cy 5, 16, .inl (fun _ => 0)))]) ++ [(ro, .inr (3, [.ref o1, .ref o2, .int 0, .int 0])), (o1, .inl (cy 0, 30, .inl (fun _ => 0))), (o2, .inl (cy 0, 150, .inl (fun _ => 0)))]) ++ [(re, .inr (5, [.ref e1, .ref e2, .int 0])), (e1, .inl (cy 0, 3, .inl (fun _ => 0))), (e2, .inl (cy 0, 3, .inl (fun _ => 0)))]) rfl ?_
  refine j_aload_n h dX7_init_81 rfl 0 rfl ?_
  refine j_new h inlJ4 tyJ4 tyJ4_ok (xr_2 2 rfl) (xr_2 3 rfl) (xr_2 4 rfl) (ci := 0) rfl (fs := [.null, .int 0, .int 0, .int 0]) (fun j hj => by rcases (show j = 0 ∨ j = 1 ∨ j = 2 ∨ j = 3 by omega) with rfl | rfl | rfl | rfl <;> rfl) (by decide) (by decide) dX7_init_82 (fun rl => ?_)
  refine j_dup h dX7_init_85 rfl ?_
  refine j_initV0 h (c_J4_init_da8c8 l D cy _) (xr_4 22 rfl) (xr_4 23 rfl) (xr_2 4 rfl) (xr_5 0 rfl) rfl rfl rfl (by decide +kernel) ⟨Nat.le_of_ble_eq_true rfl, Nat.le_of_ble_eq_true rfl⟩ (lst := (((((([(b, .inr (8, [.ref (a0 0), .ref (a1 0), .int 0, .ref rp, .ref ri, .ref ro, .int (-4), .ref re, .null]))]) ++ gW cy a0 gM0) ++ gW cy a1 gM0) ++ ([(rp, .inr (4, [.ref ga, .int 0, .int 0]))] ++ (ga, oA (cy 4) 9 (fun i => aa i 0) 9) :: bl (gB cy aa) 9)) ++ [(ri, .inr (0, [.ref byI, .int 0, .int 0, .int 0])), (byI, .inl (cy 5, 16, .inl (fun _ => 0)))]) ++ [(ro, .inr (3, [.ref o1, .ref o2, .int 0, .int 0])), (o1, .inl (cy 0, 30, .inl (fun _ => 0))), (o2, .inl (cy 0, 150, .inl (fun _ => 0)))]) ++ [(re, .inr (5, [.ref e1, .ref e2, .int 0])), (e1, .inl (cy 0, 3, .inl (fun _ => 0))), (e2, .inl (cy 0, 3, .inl (fun _ => 0)))]) rfl (Nat.le_of_ble_eq_true rfl) dX7_init_86 ⟨by decide, by decide⟩ (fun w hw => ?_)
  obtain ⟨byL, rfl⟩ := hw
  refine j_putF h inlX7 tyX7 tyX7_ok nmX7 0 rfl rfl 8 (by decide) (xr_2 15 rfl) rfl rfl rfl rfl rfl rfl (Nat.le_of_ble_eq_true rfl) dX7_init_89 (u' := ((((((([(b, .inr (8, [.ref (a0 0), .ref (a1 0), .int 0, .ref rp, .ref ri, .ref ro, .int (-4), .ref re, .ref rl]))]) ++ gW cy a0 gM0) ++ gW cy a1 gM0) ++ ([(rp, .inr (4, [.ref ga, .int 0, .int 0]))] ++ (ga, oA (cy 4) 9 (fun i => aa i 0) 9) :: bl (gB cy aa) 9)) ++ [(ri, .inr (0, [.ref byI, .int 0, .int 0, .int 0])), (byI, .inl (cy 5, 16, .inl (fun _ => 0)))]) ++ [(ro, .inr (3, [.ref o1, .ref o2, .int 0, .int 0])), (o1, .inl (cy 0, 30, .inl (fun _ => 0))), (o2, .inl (cy 0, 150, .inl (fun _ => 0)))]) ++ [(re, .inr (5, [.ref e1, .ref e2, .int 0])), (e1, .inl (cy 0, 3, .inl (fun _ => 0))), (e2, .inl (cy 0, 3, .inl (fun _ => 0)))]) ++ [(rl, .inr (0, [.ref byL, .int 0, .int 0, .int 0])), (byL, .inl (cy 5, 16, .inl (fun _ => 0)))]) rfl ?_
  refine j_eqw h (w := ((([(b, .inr (8, [.ref (a0 0), .ref (a1 0), .int 0, .ref rp, .ref ri, .ref ro, .int (-4), .ref re, .ref rl]))] ++ gW cy a0 gM0) ++ gW cy a1 gM0) ++ [(rp, .inr (4, [.ref ga, .int 0, .int 0]))]) ++ (ga, .inl (cy 4, 9, .inr (.inr (.inr (.inr (refs (fun i => aa i 0) 9)))))) :: (bl (gB cy aa) 9 ++ [(ri, .inr (0, [.ref byI, .int 0, .int 0, .int 0])), (byI, .inl (cy 5, 16, .inl (fun _ => 0)))] ++ [(ro, .inr (3, [.ref o1, .ref o2, .int 0, .int 0])), (o1, .inl (cy 0, 30, .inl (fun _ => 0))), (o2, .inl (cy 0, 150, .inl (fun _ => 0)))] ++ [(re, .inr (5, [.ref e1, .ref e2, .int 0])), (e1, .inl (cy 0, 3, .inl (fun _ => 0))), (e2, .inl (cy 0, 3, .inl (fun _ => 0)))] ++ [(rl, .inr (0, [.ref byL, .int 0, .int 0, .int 0])), (byL, .inl (cy 5, 16, .inl (fun _ => 0)))])) (by simp [oA]) ?_
  refine j_arr h (g := fun i => some (cL a0 a1 aa [b, rp, ga, ro, o1, o2, re, e1, e2, ri, rl] (2 + i) 0)) (fun j hj => by rcases (show j = 0 ∨ j = 1 ∨ j = 2 ∨ j = 3 ∨ j = 4 ∨ j = 5 ∨ j = 6 ∨ j = 7 ∨ j = 8 by omega) with rfl | rfl | rfl | rfl | rfl | rfl | rfl | rfl | rfl <;> rfl) ?_
  refine j_eqw h (w := (((((([(b, .inr (8, [.ref (a0 0), .ref (a1 0), .int 0, .ref rp, .ref ri, .ref ro, .int (-4), .ref re, .ref rl]))] ++ gW cy a0 gM0) ++ gW cy a1 gM0) ++ ([(rp, .inr (4, [.ref ga, .int 0, .int 0]))] ++ (ga, .inl (cy 4, 9, .inr (.inr (.inr (.inr (fun i => some (cL a0 a1 aa [b, rp, ga, ro, o1, o2, re, e1, e2, ri, rl] (2 + i) 0))))))) :: bl (gB cy aa) 9)) ++ [(ri, .inr (0, [.ref byI, .int 0, .int 0, .int 0])), (byI, .inl (cy 5, 16, .inl (fun _ => 0)))]) ++ [(ro, .inr (3, [.ref o1, .ref o2, .int 0, .int 0])), (o1, .inl (cy 0, 30, .inl (fun _ => 0))), (o2, .inl (cy 0, 150, .inl (fun _ => 0)))]) ++ [(re, .inr (5, [.ref e1, .ref e2, .int 0])), (e1, .inl (cy 0, 3, .inl (fun _ => 0))), (e2, .inl (cy 0, 3, .inl (fun _ => 0)))]) ++ [(rl, .inr (0, [.ref byL, .int 0, .int 0, .int 0])), (byL, .inl (cy 5, 16, .inl (fun _ => 0)))]) (by simp) ?_
  refine j_pm h (x_perm _ _ _ _ _ _ _ _ _ _ _ _ _ _ _ _) ?_
  refine j_eqw h (w := CW cy (cL a0 a1 aa [b, rp, ga, ro, o1, o2, re, e1, e2, ri, rl]) ((va_up (fun _ => gM0) 0 gM0, cX0, cA0), (byI, 16, byL, 16))) (by rw [CW_0]; rfl) ?_
  exact hR _ _ _ dX7_init_92 ⟨cL a0 a1 aa [b, rp, ga, ro, o1, o2, re, e1, e2, ri, rl], byI, byL, rfl, rfl⟩

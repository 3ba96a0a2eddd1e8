/-! ===== a green is made ===== -/
section PM
theorem pm_P {D : gD} {u w : va_W} (hp : u.Perm w) {H : Heap} (h : va_P D.1 vwCl u H) : va_P D.1 vwCl w H := fun k q hk => by
  obtain ⟨i, hi⟩ := List.mem_iff_getElem?.mp (hp.mem_iff.mpr (List.mem_of_getElem? hk))
  exact h i q hi
theorem vD_nd {A : Nat → Prop} {u : va_W} (h : va_D A u) : (u.map Prod.fst).Nodup := List.pairwise_iff_getElem.mpr (fun i j hi hj hij e => by
  rw [List.length_map] at hi hj
  rw [List.getElem_map, List.getElem_map] at e
  have := h.1 i j _ _ (List.getElem?_eq_getElem hi) (List.getElem?_eq_getElem hj) e
  omega)
theorem vD_A {A : Nat → Prop} {u : va_W} (h : va_D A u) : ∀ a ∈ u.map Prod.fst, A a := fun a ha => by
  obtain ⟨q, hq, rfl⟩ := List.mem_map.mp ha
  obtain ⟨i, hi⟩ := List.mem_iff_getElem?.mp hq
  exact h.2 i q hi
theorem vD_of {A : Nat → Prop} {w : va_W} (nd : (w.map Prod.fst).Nodup) (hA : ∀ a ∈ w.map Prod.fst, A a) : va_D A w := by
  refine ⟨fun i j p q hi hj e => ?_, fun k q hk => hA _ (List.mem_map.mpr ⟨q, List.mem_of_getElem? hk, rfl⟩)⟩
  have li : i < (w.map Prod.fst).length := by rw [List.length_map]; exact (List.getElem?_eq_some_iff.mp hi).1
  refine (List.getElem?_inj li nd).mp ?_
  rw [List.getElem?_map, List.getElem?_map, hi, hj]
  show some p.1 = some q.1
  rw [e]
theorem pm_D {A : Nat → Prop} {u w : va_W} (hp : u.Perm w) (h : va_D A u) : va_D A w :=
  vD_of ((hp.map Prod.fst).nodup_iff.mp (vD_nd h)) (fun a ha => vD_A h a ((hp.map Prod.fst).mem_iff.mpr ha))
theorem ar_at {D : gD} {a n : Nat} {c : ClassId} {f g : Nat → Option Nat} (hfg : ∀ j, j < n → f j = g j) {H : Heap} (h : va_at D.1 vwCl (a, .inl (c, n, .inr (.inr (.inr (.inr f))))) H) : va_at D.1 vwCl (a, .inl (c, n, .inr (.inr (.inr (.inr g))))) H := by
  have e : (vp_cell c (n, .inr (.inr (.inr (.inr f)))) : Cell) = vp_cell c (n, .inr (.inr (.inr (.inr g)))) := by
    rw [vp_cell_q, vp_cell_q]
    unfold arrV
    have : (Array.ofFn (n := n) fun j => va_rf (f j.val)) = Array.ofFn (n := n) fun j => va_rf (g j.val) := by
      congr 1
      funext j
      rw [hfg j.val j.isLt]
    exact congrArg (fun s => ({ cls := c, slots := s, vm := .none } : Cell)) this
  exact (show H[a]? = some (vp_cell c (n, .inr (.inr (.inr (.inr f))))) from h).trans (congrArg some e)
variable {l : Launch} {D : gD} {cy : Nat → ClassId} {J : JT va_W} {cc : ByteArray} {nL : Nat} {y0 : MethodName} {R : Room} {u : va_W} {q : Nat × Nat} {lv : List (Nat × Value)} {pc : Nat} {st : List Value}
theorem j_pm (h : OKJ l D cy wI J cc nL y0 R) {w : va_W} (hp : u.Perm w) (kk : J w q lv pc st) : J u q lv pc st := by
  obtain ⟨p, e, s, m, args, below, meth, c, A, H0, Q, h0, hK, hA, hnm', hH0, hZ, rfl⟩ := h
  intro H locs ls hP hD hS hl0
  exact kk H locs ls (pm_P hp hP) (pm_D hp hD) hS hl0
/-- an array of references as another function says it -/
theorem j_arr (h : OKJ l D cy wI J cc nL y0 R) {P t : va_W} {a n : Nat} {c : ClassId} {f g : Nat → Option Nat} (hfg : ∀ j, j < n → f j = g j) (kk : J (P ++ (a, .inl (c, n, .inr (.inr (.inr (.inr g))))) :: t) q lv pc st) : J (P ++ (a, .inl (c, n, .inr (.inr (.inr (.inr f))))) :: t) q lv pc st := by
  obtain ⟨p, e, s, m, args, below, meth, cd, A, H0, Q, h0, hK, hA, hnm', hH0, hZ, rfl⟩ := h
  intro H locs ls hP hD hS hl0
  have em : (P ++ (a, (.inl (c, n, .inr (.inr (.inr (.inr g)))) : va_E)) :: t).map Prod.fst = (P ++ (a, (.inl (c, n, .inr (.inr (.inr (.inr f)))) : va_E)) :: t).map Prod.fst := by simp
  refine kk H locs ls (fun k q hk => ?_) (vD_of (em ▸ vD_nd hD) (fun b hb => vD_A hD b (em ▸ hb))) hS hl0
  have all : ∀ q ∈ P ++ (a, (.inl (c, n, .inr (.inr (.inr (.inr f)))) : va_E)) :: t, va_at D.1 vwCl q H := fun q hq => by
    obtain ⟨i, hi⟩ := List.mem_iff_getElem?.mp hq
    exact hP i q hi
  rcases List.mem_append.mp (List.mem_of_getElem? hk) with x | x
  · exact all q (List.mem_append.mpr (Or.inl x))
  · rcases List.mem_cons.mp x with y | y
    · rw [y]
      exact ar_at hfg (all _ (List.mem_append.mpr (Or.inr List.mem_cons_self)))
    · exact all q (List.mem_append.mpr (Or.inr (List.mem_cons_of_mem _ y)))
theorem j_eqw (h : OKJ l D cy wI J cc nL y0 R) {w : va_W} (hp : u = w) (kk : J w q lv pc st) : J u q lv pc st := hp ▸ kk
end PM
section JN
variable {l : Launch} {D : gD} {cy : Nat → ClassId} {J : JT va_W} {cc : ByteArray} {nL : Nat} {y0 : MethodName} {R : Room} {u : va_W} {q : Nat × Nat} {lv : List (Nat × Value)} {pc : Nat} {rest : List Value}
/-- a private constructor of a nest mate, over the object alone, which comes last -/
theorem j_initN (h : OKJo l D cy J cc nL y0 R) {y : MethodName} {rm : Room} {b : Nat} {eb : va_E} {lst : va_W} {post : va_W → Prop} {mc ms index maxL : Nat} {bytes : ByteArray} {host : String} (hM : CtV l D cy wI y bytes maxL none rm [.ref b] [(b, eb)] post mc ms)
    (hnw : ∀ U, xAO U → va_Nw (.methodLinkNest y0.cls index y host) U) (hin : Cond.instanceMethod y ∈ wsL_law) (hini : Cond.initialized y.cls ∈ wsL_law) (hcd : Cond.code y bytes maxL none ∈ wsL_law) (hy1 : y.name = "<init>") (hrc : rm.cells = mc) (hrs : rm.slots = ms)
    (hd : y.cls ≠ "java/lang/invoke/MethodHandle" ∧ y.cls ≠ "java/lang/invoke/VarHandle" ∧ (parseMethodDescriptor y.desc).map (fun d => d.parameters.length) = some 0) (hR : rm.frames + 1 ≤ R.frames ∧ 8 + (maxL + 11) + rm.locals ≤ R.locals) (hu : u = lst ++ [(b, eb)])
    (hroom : (rest.map fun v => v.category).sum ≤ 8) (hdg : decode cc pc = .ok (.invokespecial index, 3)) (hf : q.1 + mc ≤ R.cells ∧ q.2 + ms ≤ R.slots) (kk : ∀ w, post w → J (lst ++ w) (q.1 + mc, q.2 + ms) lv (pc + 3) rest) : J u q lv pc (.ref b :: rest) := by
  obtain ⟨p, e, s, m, args, below, meth, c, A, H0, Q, ⟨h0, hK, hA, hnm', hH0, hZ, rfl⟩, hO⟩ := h
  intro H locs ls hP hD hS hl0
  subst hu
  have hC : (List.range' lst.length [(b, eb)].length).map (fun i => (lst ++ [(b, eb)])[i]?) = [(b, eb)].map some := rg_r lst [(b, eb)]
  have hFc := va_free (wc := [(b, eb)]) hD hS hA _ hC
  have hPc : va_P D.1 vwCl [(b, eb)] H := hP.sub _ (fm_of hC)
  have hDc : va_D A [(b, eb)] := hD.sub _ (nd_rg _ _) hC
  refine va_callv (va_runIN (As := []) (rest := rest) h0 (hM H.size) ⟨va_cnB 0 h0.2.2.2.2 (xg_cons hcd xg_law) rfl hrc hrs (hnw s hO) (h0.2.2.2.2 _ hini) hd hR, hy1, h0.2.2.2.2 _ hin⟩ ⟨wPre_blind, fun U hU hW => ⟨rfl, by rw [hU], by rw [hU]; exact hPc, va_K.moved hW.alike hK, hDc.weaken (fun _ _ _ _ => trivial), by rw [hU]; exact ((hZ.kept (hH0 ▸ hS.2.1)).narrow hFc).warm hW⟩⟩ rfl rfl hl0.1 rfl (lv_room hroom) hdg hf) hS (fun q _ h => hFc q h) hFc (fun w t H1 locs1 ht hvm hw hB hz1 hk1 hS1 => ?_)
  obtain ⟨hP2, hD2⟩ := va_join hP hD _ (List.range' 0 lst.length) hC (rg_l lst [(b, eb)]) (nd_rg _ _) (rg_dis _ _) hk1 hFc (ht ▸ hB.1) hB.2.2
  exact kk w hw H1 locs1 ls hP2 hD2 hS1 hl0
theorem j_initV0 (h : OKJ l D cy wI J cc nL y0 R) {y : MethodName} {rm : Room} {b : Nat} {eb : va_E} {lst : va_W} {post : va_W → Prop} {mc ms index maxL : Nat} {bytes : ByteArray} (hM : CtV l D cy wI y bytes maxL none rm [.ref b] [(b, eb)] post mc ms)
    (hl : Cond.methodLink y0.cls index y ∈ wsL_law) (hin : Cond.instanceMethod y ∈ wsL_law) (hini : Cond.initialized y.cls ∈ wsL_law) (hcd : Cond.code y bytes maxL none ∈ wsL_law) (hy1 : y.name = "<init>") (hrc : rm.cells = mc) (hrs : rm.slots = ms)
    (hd : y.cls ≠ "java/lang/invoke/MethodHandle" ∧ y.cls ≠ "java/lang/invoke/VarHandle" ∧ (parseMethodDescriptor y.desc).map (fun d => d.parameters.length) = some 0) (hR : rm.frames + 1 ≤ R.frames ∧ 8 + (maxL + 11) + rm.locals ≤ R.locals) (hu : u = lst ++ [(b, eb)])
    (hroom : (rest.map fun v => v.category).sum ≤ 8) (hdg : decode cc pc = .ok (.invokespecial index, 3)) (hf : q.1 + mc ≤ R.cells ∧ q.2 + ms ≤ R.slots) (kk : ∀ w, post w → J (lst ++ w) (q.1 + mc, q.2 + ms) lv (pc + 3) rest) : J u q lv pc (.ref b :: rest) :=
  j_initV h (n := 0) (As := []) (rest := rest) hM hl hin hini hcd hy1 hrc hrs hd hR hu rfl rfl hroom hdg hf kk
end JN
theorem at_end {α : Type} (a t : List α) (x : α) : (a ++ x :: t)[a.length]? = some x := by simp
theorem at_end2 {α : Type} (a t s : List α) (x : α) : ((a ++ x :: t) ++ s)[a.length]? = some x := by simp
theorem set_end2 {α : Type} (a t s : List α) (x y : α) : ((a ++ x :: t) ++ s).set a.length y = a ++ y :: (t ++ s) := by simp
theorem set_end {α : Type} (a t : List α) (x y : α) : (a ++ x :: t).set a.length y = a ++ y :: t := by simp
/-- blocks, one behind the other -/
def bl (B : Nat → va_W) : Nat → va_W
  | 0 => []
  | k + 1 => bl B k ++ B k
theorem bl_congr {B C : Nat → va_W} : ∀ k, (∀ i, i < k → B i = C i) → bl B k = bl C k := by
  intro k
  induction k with
  | zero => intro _; rfl
  | succ k ih =>
    intro h
    show bl B k ++ B k = bl C k ++ C k
    rw [ih (fun i hi => h i (by omega)), h k (by omega)]
/-- the first k places of an array of references -/
def refs (f : Nat → Nat) (k : Nat) : Nat → Option Nat := fun i => if i < k then some (f i) else none
theorem refs_0 (f : Nat → Nat) : (fun _ => none) = refs f 0 := by
  funext i
  exact (if_neg (Nat.not_lt_zero i)).symm
theorem refs_s (f : Nat → Nat) (k r : Nat) : va_up (refs f k) k (some r) = refs (va_up f k r) (k + 1) := by
  funext i
  unfold refs va_up
  by_cases e : i = k
  · subst e
    rw [if_pos rfl, if_pos (Nat.lt_succ_self i), if_pos rfl]
  · rw [if_neg e, if_neg e]
    dsimp only
    by_cases c : i < k
    · rw [if_pos c, if_pos (by omega)]
    · rw [if_neg c, if_neg (by omega)]
theorem refs_all (f : Nat → Nat) (n : Nat) : ∀ i, i < n → refs f n i = some (f i) := fun i hi => if_pos hi
/-- a green's cells at the addresses a -/
def gW (cy : Nat → ClassId) (a : Nat → Nat) (M : gM) : va_W := (List.range 30).map (fun j => (a j, gcell cy (fun _ => a) 0 M j))
theorem gw_get {cy : Nat → ClassId} {a : Nat → Nat} {M : gM} {j : Nat} (hj : j < 30) : (gW cy a M)[j]? = some (a j, gcell cy (fun _ => a) 0 M j) := by
  unfold gW
  rw [List.getElem?_map, List.getElem?_range hj]
  rfl
theorem gw_set {cy : Nat → ClassId} {a : Nat → Nat} {M M' : gM} {j : Nat} (hj : j < 30) (h : ∀ j', j' < 30 → j' ≠ j → gcell cy (fun _ => a) 0 M' j' = gcell cy (fun _ => a) 0 M j') : (gW cy a M).set j (a j, gcell cy (fun _ => a) 0 M' j) = gW cy a M' := by
  refine List.ext_getElem? fun i => ?_
  by_cases hi : i < 30
  · rw [gw_get hi]
    by_cases e : j = i
    · subst e
      rw [List.getElem?_set_self (by simp [gW]; exact hj)]
    · rw [List.getElem?_set_ne e, gw_get hi, h i hi (fun q => e q.symm)]
  · rw [List.getElem?_eq_none (by rw [List.length_set]; simp [gW]; omega), List.getElem?_eq_none (by simp [gW]; omega)]
theorem ag_G {cy : Nat → ClassId} {a : Nat → Nat} {M : gM} : (gW cy a M)[0]? = some (a 0, .inr (2, fG (fun _ => a) 0 M)) := gw_get (by decide)
theorem ag_Ca {cy : Nat → ClassId} {a : Nat → Nat} {M : gM} : (gW cy a M)[3]? = some (a 3, .inl (cy 3, 2, .inr (.inr (.inr (.inr (fun i => some (a (28 + i)))))))) := gw_get (by decide)
theorem ag_C {cy : Nat → ClassId} {a : Nat → Nat} {M : gM} {c : Nat} (hc : c < 2) : (gW cy a M)[28 + c]? = some (a (28 + c), .inr (1, fC M c)) := (gw_get (by omega)).trans (by rw [gc_C hc])
theorem tg_G {cy : Nat → ClassId} {a : Nat → Nat} {M : gM} {k : Nat} {v : Int32} (h3 : 3 ≤ k) (hk : k < 11) : (gW cy a M).set 0 (a 0, .inr (2, (fG (fun _ => a) 0 M).set k (.int v))) = gW cy a (sg M k v) := by
  rw [st_G h3 hk, ← gw_set (show 0 < 30 by omega) (M' := sg M k v) (fun j' _ h' => ni_sg h')]
  rfl
theorem tg_C {cy : Nat → ClassId} {a : Nat → Nat} {M : gM} {c : Nat} (hc : c < 2) {f : Nat} {v : Int32} (hf : f < 4) : (gW cy a M).set (28 + c) (a (28 + c), .inr (1, (fC M c).set f (.int v))) = gW cy a (sc M c f v) := by
  rw [st_C hf, ← gw_set (show 28 + c < 30 by omega) (M' := sc M c f v) (fun j' _ h' => ni_sc h'), gc_C hc]
set_option maxRecDepth 100000 in
set_option maxHeartbeats 4000000 in
theorem c_X0_reset_g (l : Launch) (D : gD) (cy : Nat → ClassId) (a : Nat → Nat) (M : gM) {c : Nat} (hc : c < 2)  : CtV l D cy (gW cy a) yX0_reset cX0_reset 1 none rm_X0_reset [.ref (a (28 + c))] M (fun u => ∃ z : gM, z = f_X0_reset M c ∧ u = z) 0 0 := by
  refine m_entV cX0_reset 1 (by decide) (Nat.le_of_ble_eq_true rfl) (fun J h hR => ?_)
  show J M (0, 0) [(0, .ref (a (28 + c)))] 0 []
  refine j_aload_n h dX0_reset_0 rfl 0 rfl ?_
  refine j_iconst h (v := 0) dX0_reset_1 (by decide) ?_
  refine j_put h inlX0 tyX0 tyX0_ok nmX0 (28 + c) (ag_C (by omega)) rfl 0 (by decide) (xr_4 11 rfl) rfl rfl rfl rfl (Nat.le_of_ble_eq_true rfl) dX0_reset_2 (tg_C (by omega) (by decide)) ?_
  refine j_aload_n h dX0_reset_5 rfl 0 rfl ?_
  refine j_iconst h (v := 0) dX0_reset_6 (by decide) ?_
  refine j_put h inlX0 tyX0 tyX0_ok nmX0 (28 + c) (ag_C (by omega)) rfl 1 (by decide) (xr_4 12 rfl) rfl rfl rfl rfl (Nat.le_of_ble_eq_true rfl) dX0_reset_7 (tg_C (by omega) (by decide)) ?_
  refine j_aload_n h dX0_reset_10 rfl 0 rfl ?_
  refine j_bipush h (v := 10) dX0_reset_11 (by decide) ?_
  refine j_put h inlX0 tyX0 tyX0_ok nmX0 (28 + c) (ag_C (by omega)) rfl 2 (by decide) (xr_4 13 rfl) rfl rfl rfl rfl (Nat.le_of_ble_eq_true rfl) dX0_reset_13 (tg_C (by omega) (by decide)) ?_
  refine j_aload_n h dX0_reset_16 rfl 0 rfl ?_
  refine j_iconst h (v := 0) dX0_reset_17 (by decide) ?_
  refine j_put h inlX0 tyX0 tyX0_ok nmX0 (28 + c) (ag_C (by omega)) rfl 3 (by decide) (xr_4 14 rfl) rfl rfl rfl rfl (Nat.le_of_ble_eq_true rfl) dX0_reset_18 (tg_C (by omega) (by decide)) ?_
  exact hR _ _ _ dX0_reset_21 ⟨_, Eq.symm (rfl), rfl⟩
set_option maxRecDepth 100000 in
set_option maxHeartbeats 4000000 in
theorem c_X1_reset_g (l : Launch) (D : gD) (cy : Nat → ClassId) (a : Nat → Nat) (M : gM)  : CtV l D cy (gW cy a) yX1_reset cX1_reset 1 none rm_X1_reset [.ref (a 0)] M (fun u => ∃ z : gM, z = f_X1_reset M ∧ u = z) 0 0 := by
  refine m_entV cX1_reset 1 (by decide) (Nat.le_of_ble_eq_true rfl) (fun J h hR => ?_)
  show J M (0, 0) [(0, .ref (a 0))] 0 []
  refine j_aload_n h dX1_reset_0 rfl 0 rfl ?_
  refine j_iconst h (v := 0) dX1_reset_1 (by decide) ?_
  refine j_put h inlX1 tyX1 tyX1_ok nmX1 0 ag_G rfl 3 (by decide) (xr_3 23 rfl) rfl rfl rfl rfl (Nat.le_of_ble_eq_true rfl) dX1_reset_2 (tg_G (by decide) (by decide)) ?_
  refine j_aload_n h dX1_reset_5 rfl 0 rfl ?_
  refine j_iconst h (v := 0) dX1_reset_6 (by decide) ?_
  refine j_put h inlX1 tyX1 tyX1_ok nmX1 0 ag_G rfl 4 (by decide) (xr_4 0 rfl) rfl rfl rfl rfl (Nat.le_of_ble_eq_true rfl) dX1_reset_7 (tg_G (by decide) (by decide)) ?_
  refine j_aload_n h dX1_reset_10 rfl 0 rfl ?_
  refine j_get h inlX1 0 ag_G rfl 2 (by decide) (xr_3 5 rfl) rfl (v := .ref (a 3)) rfl dX1_reset_11 ?_
  refine j_iconst h (v := 0) dX1_reset_14 (by decide) ?_
  refine j_aaldE h 3 3 ag_Ca rfl 0 rfl (by decide) (by decide) dX1_reset_15 ?_
  refine j_callV h (n := 0) (c_X0_reset_g l D cy _ _ (by omega)) (xg_V (xr_4 7 rfl) (xr_4 8 rfl) (xr_4 9 rfl) (xr_3 7 rfl) (xr_4 10 rfl)) rfl rfl (by decide +kernel) ⟨Nat.le_of_ble_eq_true rfl, Nat.le_of_ble_eq_true rfl⟩ (28 + 0) (ag_C (by omega)) rfl rfl rfl rfl (Nat.le_of_ble_eq_true rfl) dX1_reset_16 ⟨by decide, by decide⟩ (fun u' hq => ?_)
  obtain ⟨z1, hz1, rfl⟩ := hq
  refine j_aload_n h dX1_reset_19 rfl 0 rfl ?_
  refine j_get h inlX1 0 ag_G rfl 2 (by decide) (xr_3 5 rfl) rfl (v := .ref (a 3)) rfl dX1_reset_20 ?_
  refine j_iconst h (v := 1) dX1_reset_23 (by decide) ?_
  refine j_aaldE h 3 3 ag_Ca rfl 1 rfl (by decide) (by decide) dX1_reset_24 ?_
  refine j_callV h (n := 0) (c_X0_reset_g l D cy _ _ (by omega)) (xg_V (xr_4 7 rfl) (xr_4 8 rfl) (xr_4 9 rfl) (xr_3 7 rfl) (xr_4 10 rfl)) rfl rfl (by decide +kernel) ⟨Nat.le_of_ble_eq_true rfl, Nat.le_of_ble_eq_true rfl⟩ (28 + 1) (ag_C (by omega)) rfl rfl rfl rfl (Nat.le_of_ble_eq_true rfl) dX1_reset_25 ⟨by decide, by decide⟩ (fun u' hq => ?_)
  obtain ⟨z2, hz2, rfl⟩ := hq
  refine j_aload_n h dX1_reset_28 rfl 0 rfl ?_
  refine j_iconst h (v := 0) dX1_reset_29 (by decide) ?_
  refine j_put h inlX1 tyX1 tyX1_ok nmX1 0 ag_G rfl 5 (by decide) (xr_4 1 rfl) rfl rfl rfl rfl (Nat.le_of_ble_eq_true rfl) dX1_reset_30 (tg_G (by decide) (by decide)) ?_
  refine j_aload_n h dX1_reset_33 rfl 0 rfl ?_
  refine j_iconst h (v := 1) dX1_reset_34 (by decide) ?_
  refine j_put h inlX1 tyX1 tyX1_ok nmX1 0 ag_G rfl 6 (by decide) (xr_4 2 rfl) rfl rfl rfl rfl (Nat.le_of_ble_eq_true rfl) dX1_reset_35 (tg_G (by decide) (by decide)) ?_
  refine j_aload_n h dX1_reset_38 rfl 0 rfl ?_
  refine j_iconst h (v := 2) dX1_reset_39 (by decide) ?_
  refine j_put h inlX1 tyX1 tyX1_ok nmX1 0 ag_G rfl 7 (by decide) (xr_4 3 rfl) rfl rfl rfl rfl (Nat.le_of_ble_eq_true rfl) dX1_reset_40 (tg_G (by decide) (by decide)) ?_
  refine j_aload_n h dX1_reset_43 rfl 0 rfl ?_
  refine j_bipush h (v := 12) dX1_reset_44 (by decide) ?_
  refine j_put h inlX1 tyX1 tyX1_ok nmX1 0 ag_G rfl 8 (by decide) (xr_4 4 rfl) rfl rfl rfl rfl (Nat.le_of_ble_eq_true rfl) dX1_reset_46 (tg_G (by decide) (by decide)) ?_
  refine j_aload_n h dX1_reset_49 rfl 0 rfl ?_
  refine j_iconst h (v := 0) dX1_reset_50 (by decide) ?_
  refine j_put h inlX1 tyX1 tyX1_ok nmX1 0 ag_G rfl 9 (by decide) (xr_4 5 rfl) rfl rfl rfl rfl (Nat.le_of_ble_eq_true rfl) dX1_reset_51 (tg_G (by decide) (by decide)) ?_
  refine j_aload_n h dX1_reset_54 rfl 0 rfl ?_
  refine j_iconst h (v := 0) dX1_reset_55 (by decide) ?_
  refine j_put h inlX1 tyX1 tyX1_ok nmX1 0 ag_G rfl 10 (by decide) (xr_4 6 rfl) rfl rfl rfl rfl (Nat.le_of_ble_eq_true rfl) dX1_reset_56 (tg_G (by decide) (by decide)) ?_
  exact hR _ _ _ dX1_reset_59 ⟨_, Eq.symm ((bd_eq hz1 (bd_eq hz2 rfl))), rfl⟩
def rB (cy : Nat → ClassId) (ar br : Nat → Nat) (i : Nat) : va_W := [(ar i, .inr (6, [.int 0, .int 0, .int 0, .int 0, .int 0, .int 0, .int 0, .int 0, .ref (br i)])), (br i, .inl (cy 0, 2, .inl (fun _ => 0)))]
def wB (aw : Nat → Nat) (i : Nat) : va_W := [(aw i, .inr (7, [.int 0, .int 0, .int 0, .int 0, .int 0, .int 0, .int 0, .int 0]))]
def kB (ac : Nat → Nat) (i : Nat) : va_W := [(ac i, .inr (1, [.int 0, .int 0, .int 0, .int 0]))]
def oA (c : ClassId) (n : Nat) (f : Nat → Nat) (k : Nat) : va_E := .inl (c, n, .inr (.inr (.inr (.inr (refs f k)))))
theorem oA_0 (P t : va_W) (a n : Nat) (c : ClassId) (f : Nat → Nat) : P ++ (a, .inl (c, n, .inr (.inr (.inr (.inr (fun _ => none)))))) :: t = P ++ (a, oA c n f 0) :: t := by
  unfold oA
  rw [refs_0 f]
theorem obj_s {P s : va_W} {B B' : Nat → va_W} {c : ClassId} {n a k r : Nat} {f : Nat → Nat} (hB : bl B k ++ s = bl B' (k + 1)) : ((P ++ (a, oA c n f k) :: bl B k) ++ s).set P.length (a, .inl (c, n, .inr (.inr (.inr (.inr (va_up (refs f k) k (some r))))))) = P ++ (a, oA c n (va_up f k r) (k + 1)) :: bl B' (k + 1) := by
  rw [set_end2, refs_s, hB]
  rfl
theorem kB_s (ac : Nat → Nat) (k r : Nat) : bl (kB ac) k ++ [(r, .inr (1, [.int 0, .int 0, .int 0, .int 0]))] = bl (kB (va_up ac k r)) (k + 1) := by
  show _ = bl (kB (va_up ac k r)) k ++ kB (va_up ac k r) k
  rw [bl_congr k (fun i hi => show kB (va_up ac k r) i = kB ac i by unfold kB; rw [va_up_ne _ _ (by omega)])]
  unfold kB
  rw [va_up_self]
theorem wB_s (aw : Nat → Nat) (k r : Nat) : bl (wB aw) k ++ [(r, .inr (7, [.int 0, .int 0, .int 0, .int 0, .int 0, .int 0, .int 0, .int 0]))] = bl (wB (va_up aw k r)) (k + 1) := by
  show _ = bl (wB (va_up aw k r)) k ++ wB (va_up aw k r) k
  rw [bl_congr k (fun i hi => show wB (va_up aw k r) i = wB aw i by unfold wB; rw [va_up_ne _ _ (by omega)])]
  unfold wB
  rw [va_up_self]
theorem rB_s (cy : Nat → ClassId) (ar br : Nat → Nat) (k r r1 : Nat) : bl (rB cy ar br) k ++ [(r, .inr (6, [.int 0, .int 0, .int 0, .int 0, .int 0, .int 0, .int 0, .int 0, .ref r1])), (r1, .inl (cy 0, 2, .inl (fun _ => 0)))] = bl (rB cy (va_up ar k r) (va_up br k r1)) (k + 1) := by
  show _ = bl (rB cy (va_up ar k r) (va_up br k r1)) k ++ rB cy (va_up ar k r) (va_up br k r1) k
  rw [bl_congr k (fun i hi => show rB cy (va_up ar k r) (va_up br k r1) i = rB cy ar br i by unfold rB; rw [va_up_ne _ _ (by omega), va_up_ne _ _ (by omega)])]
  unfold rB
  rw [va_up_self, va_up_self]
def gZ : gM := (fun _ => 0, fun _ _ => 0, fun _ _ => 0, fun _ _ => 0)
def gA (b ra wa ca : Nat) (ar br aw ac : Nat → Nat) : Nat → Nat := fun j => if j = 0 then b else if j = 1 then ra else if j = 2 then wa else if j = 3 then ca else if j < 8 then ar (j - 4) else if j < 12 then br (j - 8) else if j < 28 then aw (j - 12) else ac (j - 28)
theorem g_perm (cy : Nat → ClassId) (b ra wa ca : Nat) (ar br aw ac : Nat → Nat) : List.Perm ((([(b, .inr (2, [.ref ra, .ref wa, .ref ca, .int 0, .int 0, .int 0, .int 0, .int 0, .int 0, .int 0, .int 0]))] ++ (ra, .inl (cy 1, 4, .inr (.inr (.inr (.inr (fun i => some (gA b ra wa ca ar br aw ac (4 + i)))))))) :: bl (rB cy ar br) 4) ++ (wa, .inl (cy 2, 16, .inr (.inr (.inr (.inr (fun i => some (gA b ra wa ca ar br aw ac (12 + i)))))))) :: bl (wB aw) 16) ++ (ca, .inl (cy 3, 2, .inr (.inr (.inr (.inr (fun i => some (gA b ra wa ca ar br aw ac (28 + i)))))))) :: bl (kB ac) 2 : va_W) (gW cy (gA b ra wa ca ar br aw ac) gZ) := by
  have e : ((([(b, .inr (2, [.ref ra, .ref wa, .ref ca, .int 0, .int 0, .int 0, .int 0, .int 0, .int 0, .int 0, .int 0]))] ++ (ra, .inl (cy 1, 4, .inr (.inr (.inr (.inr (fun i => some (gA b ra wa ca ar br aw ac (4 + i)))))))) :: bl (rB cy ar br) 4) ++ (wa, .inl (cy 2, 16, .inr (.inr (.inr (.inr (fun i => some (gA b ra wa ca ar br aw ac (12 + i)))))))) :: bl (wB aw) 16) ++ (ca, .inl (cy 3, 2, .inr (.inr (.inr (.inr (fun i => some (gA b ra wa ca ar br aw ac (28 + i)))))))) :: bl (kB ac) 2 : va_W) = [0, 1, 4, 8, 5, 9, 6, 10, 7, 11, 2, 12, 13, 14, 15, 16, 17, 18, 19, 20, 21, 22, 23, 24, 25, 26, 27, 3, 28, 29].map (fun j => (gA b ra wa ca ar br aw ac j, gcell cy (fun _ => gA b ra wa ca ar br aw ac) 0 gZ j)) := rfl
  rw [e]
  exact List.Perm.map _ (by decide)
abbrev rm_X1_init : Room := { frames := 2, cells := 29, slots := 202, locals := 40 }
set_option maxRecDepth 100000 in
set_option maxHeartbeats 4000000 in
theorem c_X1_init (l : Launch) (D : gD) (cy : Nat → ClassId) (b : Nat) : CtVo l D cy yX1_init cX1_init 2 rm_X1_init [.ref b] ([(b, .inr (2, [.null, .null, .null, .int 0, .int 0, .int 0, .int 0, .int 0, .int 0, .int 0, .int 0]))]) (fun w => ∃ a : Nat → Nat, a 0 = b ∧ w = gW cy a (f_X1_reset gZ)) 29 202 := by
  refine m_entO cX1_init 2 (by decide) (Nat.le_of_ble_eq_true rfl) (fun J ho hR => ?_)
  show J ([(b, .inr (2, [.null, .null, .null, .int 0, .int 0, .int 0, .int 0, .int 0, .int 0, .int 0, .int 0]))]) (0, 0) [(0, .ref b)] 0 []
  have h := ho.ok
  have k108 : ∀ (ra wa ca : Nat) (ar br aw ac : Nat → Nat), J ((([(b, .inr (2, [.ref ra, .ref wa, .ref ca, .int 0, .int 0, .int 0, .int 0, .int 0, .int 0, .int 0, .int 0]))] ++ (ra, oA (cy 1) 4 ar 4) :: bl (rB cy ar br) 4) ++ (wa, oA (cy 2) 16 aw 16) :: bl (wB aw) 16) ++ (ca, oA (cy 3) 2 ac 2) :: bl (kB ac) 2) (29, 202) [(1, .int (nI 2)), (0, .ref b)] 108 [] := by
    intro ra wa ca ar br aw ac
    refine j_eqw h (w := [(b, .inr (2, [.ref ra, .ref wa, .ref ca, .int 0, .int 0, .int 0, .int 0, .int 0, .int 0, .int 0, .int 0]))] ++ (ra, .inl (cy 1, 4, .inr (.inr (.inr (.inr (refs ar 4)))))) :: (bl (rB cy ar br) 4 ++ (wa, oA (cy 2) 16 aw 16) :: (bl (wB aw) 16 ++ (ca, oA (cy 3) 2 ac 2) :: bl (kB ac) 2))) (by simp [oA]) ?_
    refine j_arr h (g := fun i => some (gA b ra wa ca ar br aw ac (4 + i))) (fun j hj => by rcases (show j = 0 ∨ j = 1 ∨ j = 2 ∨ j = 3 by omega) with rfl | rfl | rfl | rfl <;> rfl) ?_
    refine j_eqw h (w := ([(b, .inr (2, [.ref ra, .ref wa, .ref ca, .int 0, .int 0, .int 0, .int 0, .int 0, .int 0, .int 0, .int 0]))] ++ (ra, .inl (cy 1, 4, .inr (.inr (.inr (.inr (fun i => some (gA b ra wa ca ar br aw ac (4 + i)))))))) :: bl (rB cy ar br) 4) ++ (wa, .inl (cy 2, 16, .inr (.inr (.inr (.inr (refs aw 16)))))) :: (bl (wB aw) 16 ++ (ca, oA (cy 3) 2 ac 2) :: bl (kB ac) 2)) (by simp [oA]) ?_
    refine j_arr h (g := fun i => some (gA b ra wa ca ar br aw ac (12 + i))) (fun j hj => by rcases (show j = 0 ∨ j = 1 ∨ j = 2 ∨ j = 3 ∨ j = 4 ∨ j = 5 ∨ j = 6 ∨ j = 7 ∨ j = 8 ∨ j = 9 ∨ j = 10 ∨ j = 11 ∨ j = 12 ∨ j = 13 ∨ j = 14 ∨ j = 15 by omega) with rfl | rfl | rfl | rfl | rfl | rfl | rfl | rfl | rfl | rfl | rfl | rfl | rfl | rfl | rfl | rfl <;> rfl) ?_
    refine j_eqw h (w := (([(b, .inr (2, [.ref ra, .ref wa, .ref ca, .int 0, .int 0, .int 0, .int 0, .int 0, .int 0, .int 0, .int 0]))] ++ (ra, .inl (cy 1, 4, .inr (.inr (.inr (.inr (fun i => some (gA b ra wa ca ar br aw ac (4 + i)))))))) :: bl (rB cy ar br) 4) ++ (wa, .inl (cy 2, 16, .inr (.inr (.inr (.inr (fun i => some (gA b ra wa ca ar br aw ac (12 + i)))))))) :: bl (wB aw) 16) ++ (ca, .inl (cy 3, 2, .inr (.inr (.inr (.inr (refs ac 2)))))) :: bl (kB ac) 2) (by simp [oA]) ?_
    refine j_arr h (g := fun i => some (gA b ra wa ca ar br aw ac (28 + i))) (fun j hj => by rcases (show j = 0 ∨ j = 1 by omega) with rfl | rfl <;> rfl) ?_
    refine j_pm h (g_perm cy b ra wa ca ar br aw ac) ?_
    refine j_aload_n h dX1_init_108 rfl 1 rfl ?_
    refine j_bV h (n := 0) (Wd1 := gW cy (gA b ra wa ca ar br aw ac)) (u1 := gZ) (wr := []) (c_X1_reset_g l D cy (gA b ra wa ca ar br aw ac) gZ) rfl (xg_V (xr_3 19 rfl) (xr_3 20 rfl) (xr_3 21 rfl) (xr_1 18 rfl) (xr_3 22 rfl)) rfl rfl (by decide +kernel) ⟨Nat.le_of_ble_eq_true rfl, Nat.le_of_ble_eq_true rfl⟩ 0 ag_G rfl rfl rfl rfl (Nat.le_of_ble_eq_true rfl) dX1_init_109 ⟨by decide, by decide⟩ (fun v hv => ?_)
    obtain ⟨z, rfl, rfl⟩ := hv
    exact hR _ _ _ dX1_init_112 ⟨gA b ra wa ca ar br aw ac, rfl, rfl⟩
  have lc : ∀ (ra wa ca : Nat) (ar br aw : Nat → Nat), ∀ (n k : Nat) (ac : Nat → Nat), n + k = 2 → J ((([(b, .inr (2, [.ref ra, .ref wa, .ref ca, .int 0, .int 0, .int 0, .int 0, .int 0, .int 0, .int 0, .int 0]))] ++ (ra, oA (cy 1) 4 ar 4) :: bl (rB cy ar br) 4) ++ (wa, oA (cy 2) 16 aw 16) :: bl (wB aw) 16) ++ (ca, oA (cy 3) 2 ac k) :: bl (kB ac) k) (27 + 1 * k, 194 + 4 * k) [(1, .int (nI k)), (0, .ref b)] 84 [] := by
    intro ra wa ca ar br aw
    have lq : ∀ (n k : Nat) (ac : Nat → Nat), n + k = 2 → J ((([(b, .inr (2, [.ref ra, .ref wa, .ref ca, .int 0, .int 0, .int 0, .int 0, .int 0, .int 0, .int 0, .int 0]))] ++ (ra, oA (cy 1) 4 ar 4) :: bl (rB cy ar br) 4) ++ (wa, oA (cy 2) 16 aw 16) :: bl (wB aw) 16) ++ (ca, oA (cy 3) 2 ac k) :: bl (kB ac) k) (27 + 1 * k, 194 + 4 * k) [(1, .int (nI k)), (0, .ref b)] 84 [] := by
      intro n
      induction n with
      | zero =>
        intro k ac hn
        obtain rfl : k = 2 := by omega
        refine j_iload_n h dX1_init_84 rfl 0 rfl ?_
        refine j_iconst h (v := 2) dX1_init_85 (by decide) ?_
        refine j_icmp_ge h (tgt := 108) dX1_init_86 (by decide) (fun _ => ?_) (fun c => absurd (show (2 : Int32) ≤ nI 2 by decide) c)
        exact k108 ra wa ca ar br aw ac
      | succ n ih =>
        intro k ac hn
        refine j_iload_n h dX1_init_84 rfl 0 rfl ?_
        refine j_iconst h (v := 2) dX1_init_85 (by decide) ?_
        refine j_icmp_ge h (tgt := 108) dX1_init_86 (by decide) (fun c => absurd c (show ¬ (2 : Int32) ≤ nI k from nI_ge (b := 2) (by omega) (by decide))) (fun _ => ?_)
        refine j_aload_n h dX1_init_89 rfl 1 rfl ?_
        refine j_get h inlX1 0 rfl rfl 2 (by decide) (xr_3 5 rfl) rfl (v := .ref ca) rfl dX1_init_90 ?_
        refine j_iload_n h dX1_init_93 rfl 0 rfl ?_
        refine j_new h inlX0 tyX0 tyX0_ok (xr_3 4 rfl) (xr_3 6 rfl) (xr_3 7 rfl) (ci := 1) rfl (fs := [.int 0, .int 0, .int 0, .int 0]) (fun j hj => by rcases (show j = 0 ∨ j = 1 ∨ j = 2 ∨ j = 3 by omega) with rfl | rfl | rfl | rfl <;> rfl) (by show _ + 1 ≤ 29; omega) (by show _ + 4 ≤ 202; omega) dX1_init_94 (fun r => ?_)
        refine j_dup h dX1_init_97 rfl ?_
        refine j_initN ho (host := "BowlsGreen") (c_X0_init l D cy _) (fun _ z => z.2.2.2.2.2) (xr_3 16 rfl) (xr_3 7 rfl) (xr_3 17 rfl) rfl rfl rfl (by decide +kernel) ⟨Nat.le_of_ble_eq_true rfl, Nat.le_of_ble_eq_true rfl⟩ (lst := (([(b, .inr (2, [.ref ra, .ref wa, .ref ca, .int 0, .int 0, .int 0, .int 0, .int 0, .int 0, .int 0, .int 0]))] ++ (ra, oA (cy 1) 4 ar 4) :: bl (rB cy ar br) 4) ++ (wa, oA (cy 2) 16 aw 16) :: bl (wB aw) 16) ++ (ca, oA (cy 3) 2 ac k) :: bl (kB ac) k) rfl (Nat.le_of_ble_eq_true rfl) dX1_init_98 ⟨by show _ + 1 + 0 ≤ 29; omega, by show _ + 4 + 0 ≤ 202; omega⟩ (fun w hw => ?_)
        obtain rfl := hw
        refine j_aastq h (([(b, .inr (2, [.ref ra, .ref wa, .ref ca, .int 0, .int 0, .int 0, .int 0, .int 0, .int 0, .int 0, .int 0]))] ++ (ra, oA (cy 1) 4 ar 4) :: bl (rB cy ar br) 4) ++ (wa, oA (cy 2) 16 aw 16) :: bl (wB aw) 16 : va_W).length 3 ((([(b, .inr (2, [.ref ra, .ref wa, .ref ca, .int 0, .int 0, .int 0, .int 0, .int 0, .int 0, .int 0, .int 0]))] ++ (ra, oA (cy 1) 4 ar 4) :: bl (rB cy ar br) 4) ++ (wa, oA (cy 2) 16 aw 16) :: bl (wB aw) 16) ++ (ca, oA (cy 3) 2 ac k) :: bl (kB ac) k : va_W).length 1 (at_end2 _ _ _ _) rfl (at_end _ _ _) rfl k rfl (by omega) (by decide) dX1_init_101 (w := (([(b, .inr (2, [.ref ra, .ref wa, .ref ca, .int 0, .int 0, .int 0, .int 0, .int 0, .int 0, .int 0, .int 0]))] ++ (ra, oA (cy 1) 4 ar 4) :: bl (rB cy ar br) 4) ++ (wa, oA (cy 2) 16 aw 16) :: bl (wB aw) 16) ++ (ca, oA (cy 3) 2 (va_up ac k r) (k + 1)) :: bl (kB (va_up ac k r)) (k + 1)) (obj_s (kB_s ac k r)) ?_
        refine j_iinc h (v := nI (k + 1)) (lv' := [(1, _), (0, _)]) dX1_init_102 (k := 0) rfl (nI_1 k) (by decide) rfl ?_
        refine j_goto h (tgt := 84) dX1_init_105 (by decide) ?_
        refine j_widen h (k := 27 + 1 * (k + 1)) (n := 194 + 4 * (k + 1)) (by show 27 + 1 * k + 1 + 0 ≤ _; omega) (by show 194 + 4 * k + 4 + 0 ≤ _; omega) ?_
        exact ih (k + 1) (va_up ac k r) (by omega)
    exact lq
  have lw : ∀ (ra wa : Nat) (ar br : Nat → Nat), ∀ (n k : Nat) (aw : Nat → Nat), n + k = 16 → J (([(b, .inr (2, [.ref ra, .ref wa, .null, .int 0, .int 0, .int 0, .int 0, .int 0, .int 0, .int 0, .int 0]))] ++ (ra, oA (cy 1) 4 ar 4) :: bl (rB cy ar br) 4) ++ (wa, oA (cy 2) 16 aw k) :: bl (wB aw) k) (10 + 1 * k, 64 + 8 * k) [(1, .int (nI k)), (0, .ref b)] 49 [] := by
    intro ra wa ar br
    have lq : ∀ (n k : Nat) (aw : Nat → Nat), n + k = 16 → J (([(b, .inr (2, [.ref ra, .ref wa, .null, .int 0, .int 0, .int 0, .int 0, .int 0, .int 0, .int 0, .int 0]))] ++ (ra, oA (cy 1) 4 ar 4) :: bl (rB cy ar br) 4) ++ (wa, oA (cy 2) 16 aw k) :: bl (wB aw) k) (10 + 1 * k, 64 + 8 * k) [(1, .int (nI k)), (0, .ref b)] 49 [] := by
      intro n
      induction n with
      | zero =>
        intro k aw hn
        obtain rfl : k = 16 := by omega
        refine j_iload_n h dX1_init_49 rfl 0 rfl ?_
        refine j_bipush h (v := 16) dX1_init_50 (by decide) ?_
        refine j_icmp_ge h (tgt := 74) dX1_init_52 (by decide) (fun _ => ?_) (fun c => absurd (show (16 : Int32) ≤ nI 16 by decide) c)
        refine j_aload_n h dX1_init_74 rfl 1 rfl ?_
        refine j_iconst h (v := 2) dX1_init_75 (by decide) ?_
        refine j_newq ho (xr_3 4 rfl) (fun _ z => z.2.2.1) 3 rfl (N := 2) (by decide) (by decide) (by decide) (by decide) (by decide) dX1_init_76 (fun ca => ?_)
        refine j_putF h inlX1 tyX1 tyX1_ok nmX1 0 rfl rfl 2 (by decide) (xr_3 5 rfl) rfl rfl rfl rfl rfl rfl (Nat.le_of_ble_eq_true rfl) dX1_init_79 (u' := (([(b, .inr (2, [.ref ra, .ref wa, .ref ca, .int 0, .int 0, .int 0, .int 0, .int 0, .int 0, .int 0, .int 0]))] ++ (ra, oA (cy 1) 4 ar 4) :: bl (rB cy ar br) 4) ++ (wa, oA (cy 2) 16 aw 16) :: bl (wB aw) 16) ++ (ca, .inl (cy 3, 2, .inr (.inr (.inr (.inr (fun _ => none)))))) :: []) rfl ?_
        refine j_iconst h (v := 0) dX1_init_82 (by decide) ?_
        refine j_istore_n h (lv' := [(1, _), (0, _)]) dX1_init_83 rfl (by decide) rfl ?_
        refine j_eqw h (oA_0 _ _ _ _ _ (fun _ => 0)) ?_
        exact lc ra wa ca ar br aw 2 0 (fun _ => 0) rfl
      | succ n ih =>
        intro k aw hn
        refine j_iload_n h dX1_init_49 rfl 0 rfl ?_
        refine j_bipush h (v := 16) dX1_init_50 (by decide) ?_
        refine j_icmp_ge h (tgt := 74) dX1_init_52 (by decide) (fun c => absurd c (show ¬ (16 : Int32) ≤ nI k from nI_ge (b := 16) (by omega) (by decide))) (fun _ => ?_)
        refine j_aload_n h dX1_init_55 rfl 1 rfl ?_
        refine j_get h inlX1 0 rfl rfl 1 (by decide) (xr_3 1 rfl) rfl (v := .ref wa) rfl dX1_init_56 ?_
        refine j_iload_n h dX1_init_59 rfl 0 rfl ?_
        refine j_new h inlX6 tyX6 tyX6_ok (xr_3 0 rfl) (xr_3 2 rfl) (xr_3 3 rfl) (ci := 7) rfl (fs := [.int 0, .int 0, .int 0, .int 0, .int 0, .int 0, .int 0, .int 0]) (fun j hj => by rcases (show j = 0 ∨ j = 1 ∨ j = 2 ∨ j = 3 ∨ j = 4 ∨ j = 5 ∨ j = 6 ∨ j = 7 by omega) with rfl | rfl | rfl | rfl | rfl | rfl | rfl | rfl <;> rfl) (by show _ + 1 ≤ 29; omega) (by show _ + 8 ≤ 202; omega) dX1_init_60 (fun r => ?_)
        refine j_dup h dX1_init_63 rfl ?_
        refine j_initN ho (host := "BowlsGreen") (c_X6_init l D cy _) (fun _ z => z.2.2.2.2.1) (xr_3 13 rfl) (xr_3 3 rfl) (xr_3 14 rfl) rfl rfl rfl (by decide +kernel) ⟨Nat.le_of_ble_eq_true rfl, Nat.le_of_ble_eq_true rfl⟩ (lst := ([(b, .inr (2, [.ref ra, .ref wa, .null, .int 0, .int 0, .int 0, .int 0, .int 0, .int 0, .int 0, .int 0]))] ++ (ra, oA (cy 1) 4 ar 4) :: bl (rB cy ar br) 4) ++ (wa, oA (cy 2) 16 aw k) :: bl (wB aw) k) rfl (Nat.le_of_ble_eq_true rfl) dX1_init_64 ⟨by show _ + 1 + 0 ≤ 29; omega, by show _ + 8 + 0 ≤ 202; omega⟩ (fun w hw => ?_)
        obtain rfl := hw
        refine j_aastq h ([(b, .inr (2, [.ref ra, .ref wa, .null, .int 0, .int 0, .int 0, .int 0, .int 0, .int 0, .int 0, .int 0]))] ++ (ra, oA (cy 1) 4 ar 4) :: bl (rB cy ar br) 4 : va_W).length 2 (([(b, .inr (2, [.ref ra, .ref wa, .null, .int 0, .int 0, .int 0, .int 0, .int 0, .int 0, .int 0, .int 0]))] ++ (ra, oA (cy 1) 4 ar 4) :: bl (rB cy ar br) 4) ++ (wa, oA (cy 2) 16 aw k) :: bl (wB aw) k : va_W).length 7 (at_end2 _ _ _ _) rfl (at_end _ _ _) rfl k rfl (by omega) (by decide) dX1_init_67 (w := ([(b, .inr (2, [.ref ra, .ref wa, .null, .int 0, .int 0, .int 0, .int 0, .int 0, .int 0, .int 0, .int 0]))] ++ (ra, oA (cy 1) 4 ar 4) :: bl (rB cy ar br) 4) ++ (wa, oA (cy 2) 16 (va_up aw k r) (k + 1)) :: bl (wB (va_up aw k r)) (k + 1)) (obj_s (wB_s aw k r)) ?_
        refine j_iinc h (v := nI (k + 1)) (lv' := [(1, _), (0, _)]) dX1_init_68 (k := 0) rfl (nI_1 k) (by decide) rfl ?_
        refine j_goto h (tgt := 49) dX1_init_71 (by decide) ?_
        refine j_widen h (k := 10 + 1 * (k + 1)) (n := 64 + 8 * (k + 1)) (by show 10 + 1 * k + 1 + 0 ≤ _; omega) (by show 64 + 8 * k + 8 + 0 ≤ _; omega) ?_
        exact ih (k + 1) (va_up aw k r) (by omega)
    exact lq
  have lr : ∀ (ra : Nat), ∀ (n k : Nat) (ar br : Nat → Nat), n + k = 4 → J ([(b, .inr (2, [.ref ra, .null, .null, .int 0, .int 0, .int 0, .int 0, .int 0, .int 0, .int 0, .int 0]))] ++ (ra, oA (cy 1) 4 ar k) :: bl (rB cy ar br) k) (1 + 2 * k, 4 + 11 * k) [(1, .int (nI k)), (0, .ref b)] 14 [] := by
    intro ra
    have lq : ∀ (n k : Nat) (ar br : Nat → Nat), n + k = 4 → J ([(b, .inr (2, [.ref ra, .null, .null, .int 0, .int 0, .int 0, .int 0, .int 0, .int 0, .int 0, .int 0]))] ++ (ra, oA (cy 1) 4 ar k) :: bl (rB cy ar br) k) (1 + 2 * k, 4 + 11 * k) [(1, .int (nI k)), (0, .ref b)] 14 [] := by
      intro n
      induction n with
      | zero =>
        intro k ar br hn
        obtain rfl : k = 4 := by omega
        refine j_iload_n h dX1_init_14 rfl 0 rfl ?_
        refine j_iconst h (v := 4) dX1_init_15 (by decide) ?_
        refine j_icmp_ge h (tgt := 38) dX1_init_16 (by decide) (fun _ => ?_) (fun c => absurd (show (4 : Int32) ≤ nI 4 by decide) c)
        refine j_aload_n h dX1_init_38 rfl 1 rfl ?_
        refine j_bipush h (v := 16) dX1_init_39 (by decide) ?_
        refine j_newq ho (xr_3 0 rfl) (fun _ z => z.2.1) 2 rfl (N := 16) (by decide) (by decide) (by decide) (by decide) (by decide) dX1_init_41 (fun wa => ?_)
        refine j_putF h inlX1 tyX1 tyX1_ok nmX1 0 rfl rfl 1 (by decide) (xr_3 1 rfl) rfl rfl rfl rfl rfl rfl (Nat.le_of_ble_eq_true rfl) dX1_init_44 (u' := ([(b, .inr (2, [.ref ra, .ref wa, .null, .int 0, .int 0, .int 0, .int 0, .int 0, .int 0, .int 0, .int 0]))] ++ (ra, oA (cy 1) 4 ar 4) :: bl (rB cy ar br) 4) ++ (wa, .inl (cy 2, 16, .inr (.inr (.inr (.inr (fun _ => none)))))) :: []) rfl ?_
        refine j_iconst h (v := 0) dX1_init_47 (by decide) ?_
        refine j_istore_n h (lv' := [(1, _), (0, _)]) dX1_init_48 rfl (by decide) rfl ?_
        refine j_eqw h (oA_0 _ _ _ _ _ (fun _ => 0)) ?_
        exact lw ra wa ar br 16 0 (fun _ => 0) rfl
      | succ n ih =>
        intro k ar br hn
        refine j_iload_n h dX1_init_14 rfl 0 rfl ?_
        refine j_iconst h (v := 4) dX1_init_15 (by decide) ?_
        refine j_icmp_ge h (tgt := 38) dX1_init_16 (by decide) (fun c => absurd c (show ¬ (4 : Int32) ≤ nI k from nI_ge (b := 4) (by omega) (by decide))) (fun _ => ?_)
        refine j_aload_n h dX1_init_19 rfl 1 rfl ?_
        refine j_get h inlX1 0 rfl rfl 0 (by decide) (xr_2 21 rfl) rfl (v := .ref ra) rfl dX1_init_20 ?_
        refine j_iload_n h dX1_init_23 rfl 0 rfl ?_
        refine j_new h inlX5 tyX5 tyX5_ok (xr_2 20 rfl) (xr_2 22 rfl) (xr_2 23 rfl) (ci := 6) rfl (fs := [.int 0, .int 0, .int 0, .int 0, .int 0, .int 0, .int 0, .int 0, .null]) (fun j hj => by rcases (show j = 0 ∨ j = 1 ∨ j = 2 ∨ j = 3 ∨ j = 4 ∨ j = 5 ∨ j = 6 ∨ j = 7 ∨ j = 8 by omega) with rfl | rfl | rfl | rfl | rfl | rfl | rfl | rfl | rfl <;> rfl) (by show _ + 1 ≤ 29; omega) (by show _ + 9 ≤ 202; omega) dX1_init_24 (fun r => ?_)
        refine j_dup h dX1_init_27 rfl ?_
        refine j_initV0 h (c_X5_init l D cy _) (xr_3 8 rfl) (xr_3 9 rfl) (xr_2 23 rfl) (xr_3 10 rfl) rfl rfl rfl (by decide +kernel) ⟨Nat.le_of_ble_eq_true rfl, Nat.le_of_ble_eq_true rfl⟩ (lst := [(b, .inr (2, [.ref ra, .null, .null, .int 0, .int 0, .int 0, .int 0, .int 0, .int 0, .int 0, .int 0]))] ++ (ra, oA (cy 1) 4 ar k) :: bl (rB cy ar br) k) rfl (Nat.le_of_ble_eq_true rfl) dX1_init_28 ⟨by show _ + 1 + 1 ≤ 29; omega, by show _ + 9 + 2 ≤ 202; omega⟩ (fun w hw => ?_)
        obtain ⟨r1, rfl⟩ := hw
        refine j_aastq h ([(b, .inr (2, [.ref ra, .null, .null, .int 0, .int 0, .int 0, .int 0, .int 0, .int 0, .int 0, .int 0]))] : va_W).length 1 ([(b, .inr (2, [.ref ra, .null, .null, .int 0, .int 0, .int 0, .int 0, .int 0, .int 0, .int 0, .int 0]))] ++ (ra, oA (cy 1) 4 ar k) :: bl (rB cy ar br) k : va_W).length 6 (at_end2 _ _ _ _) rfl (at_end _ _ _) rfl k rfl (by omega) (by decide) dX1_init_31 (w := [(b, .inr (2, [.ref ra, .null, .null, .int 0, .int 0, .int 0, .int 0, .int 0, .int 0, .int 0, .int 0]))] ++ (ra, oA (cy 1) 4 (va_up ar k r) (k + 1)) :: bl (rB cy (va_up ar k r) (va_up br k r1)) (k + 1)) (obj_s (rB_s cy ar br k r r1)) ?_
        refine j_iinc h (v := nI (k + 1)) (lv' := [(1, _), (0, _)]) dX1_init_32 (k := 0) rfl (nI_1 k) (by decide) rfl ?_
        refine j_goto h (tgt := 14) dX1_init_35 (by decide) ?_
        refine j_widen h (k := 1 + 2 * (k + 1)) (n := 4 + 11 * (k + 1)) (by show 1 + 2 * k + 1 + 1 ≤ _; omega) (by show 4 + 11 * k + 9 + 2 ≤ _; omega) ?_
        exact ih (k + 1) (va_up ar k r) (va_up br k r1) (by omega)
    exact lq
  refine j_aload_n h dX1_init_0 rfl 0 rfl ?_
  refine j_objInit h (xr_2 19 rfl) (xr_1 14 rfl) (xr_1 15 rfl) (Nat.le_of_ble_eq_true rfl) (Nat.le_of_ble_eq_true rfl) dX1_init_1 ?_
  refine j_aload_n h dX1_init_4 rfl 0 rfl ?_
  refine j_iconst h (v := 4) dX1_init_5 (by decide) ?_
  refine j_newq ho (xr_2 20 rfl) (fun _ z => z.1) 1 rfl (N := 4) (by decide) (by decide) (by decide) (by decide) (by decide) dX1_init_6 (fun ra => ?_)
  refine j_putF h inlX1 tyX1 tyX1_ok nmX1 0 rfl rfl 0 (by decide) (xr_2 21 rfl) rfl rfl rfl rfl rfl rfl (Nat.le_of_ble_eq_true rfl) dX1_init_9 (u' := [(b, .inr (2, [.ref ra, .null, .null, .int 0, .int 0, .int 0, .int 0, .int 0, .int 0, .int 0, .int 0]))] ++ (ra, .inl (cy 1, 4, .inr (.inr (.inr (.inr (fun _ => none)))))) :: []) rfl ?_
  refine j_iconst h (v := 0) dX1_init_12 (by decide) ?_
  refine j_istore_n h (lv' := [(1, _), (0, _)]) dX1_init_13 rfl (by decide) rfl ?_
  refine j_eqw h (oA_0 _ _ _ _ _ (fun _ => 0)) ?_
  exact lr ra 4 0 (fun _ => 0) (fun _ => 0) rfl

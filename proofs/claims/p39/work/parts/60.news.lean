/-! ===== objects are made: worlds as lists; calls whose callee has a part of the world ===== -/
def xAO (U : State) : Prop := va_AO "BowlsGreen$Rink" U ∧ va_AO "BowlsGreen$Wood" U ∧ va_AO "BowlsGreen$Club" U ∧ va_AO "BowlsGreen$Green" U ∧ va_Nw (.methodLinkNest "BowlsGreen$Green" 24 yX6_init "BowlsGreen") U ∧ va_Nw (.methodLinkNest "BowlsGreen$Green" 31 yX0_init "BowlsGreen") U
theorem xAO.warm {u U : State} (hW : u.WarmedH U.vm) (g : xAO u) : xAO U := ⟨g.1.moved hW.alike, g.2.1.moved hW.alike, g.2.2.1.moved hW.alike, g.2.2.2.1.moved hW.alike, va_Nw.warmM hW g.2.2.2.2.1, va_Nw.warmM hW g.2.2.2.2.2⟩
theorem xAO.same {u U : State} (hv : U.vm = u.vm) (g : xAO u) : xAO U := by
  have hA : u.vm.Alike U.vm := hv ▸ Vm.Alike.refl u.vm
  exact ⟨g.1.moved hA, g.2.1.moved hA, g.2.2.1.moved hA, g.2.2.2.1.moved hA, va_Nw.same rfl hv.symm g.2.2.2.2.1, va_Nw.same rfl hv.symm g.2.2.2.2.2⟩
/-- as OKJ; and arrays of the class's objects may be made -/
def OKJo (l : Launch) (D : gD) (cy : Nat → ClassId) (J : JT va_W) (cc : ByteArray) (nL : Nat) (y0 : MethodName) (R : Room) : Prop :=
  ∃ (p : Program) (e : Env) (s : State) (m : MethodId) (args : Array Value) (below : List Frame) (meth : Method) (c : Code) (A : Nat → Prop) (H0 : Heap) (Q : State → Prop),
    (CallFix p m c cc nL s args wsL_law y0.cls ∧ va_K D.1 vwCl (tyC cy) s ∧ (∀ q : Nat, H0.size ≤ q → A q) ∧ meth.name = y0.name ∧ H0 = s.heap ∧ xZ D A s s.heap ∧
    J = fun (u : va_W) (k : Nat × Nat) (lv : List (Nat × Value)) (pc : Nat) (st : List Value) => ∀ (H : Heap) (locs : List Loc) (ls : Array Slot), va_P D.1 vwCl (wI u) H → va_D A (wI u) → va_S A H0 H locs → lv_has ls nL lv → W p l e R s m args below meth c H locs k.1 k.2 Q (F0 m pc ls st)) ∧ xAO s
theorem OKJo.ok {l : Launch} {D : gD} {cy : Nat → ClassId} {J : JT va_W} {cc : ByteArray} {nL : Nat} {y0 : MethodName} {R : Room} (h : OKJo l D cy J cc nL y0 R) : OKJ l D cy wI J cc nL y0 R := by
  obtain ⟨p, e, s, m, args, below, meth, c, A, H0, Q, h, -⟩ := h
  exact ⟨p, e, s, m, args, below, meth, c, A, H0, Q, h⟩
def CtVo (l : Launch) (D : gD) (cy : Nat → ClassId) (y : MethodName) (cc : ByteArray) (n : Nat) (rm : Room) (av : List Value) (u : va_W) (post : va_W → Prop) (mc ms : Nat) : Prop :=
  ∀ sz : Nat, Met l y (wsB y cc n none) rm (va_Pc av (fun U => wPre D cy wI u sz U ∧ xAO U)) (va_Qv post (wPost D cy wI (va_A (wI u) sz)) (va_A (wI u) sz)) mc ms (va_A (wI u) sz)
theorem m_entO {l : Launch} {D : gD} {cy : Nat → ClassId} {y : MethodName} {rm : Room} {av : List Value} {u : va_W} {post : va_W → Prop} {mc ms : Nat} (cc : ByteArray) (n : Nat) (hy : plainName y.cls = true) (hn : (lg_sl av).length ≤ n)
    (body : ∀ J : JT va_W, OKJo l D cy J cc n y rm → RtV J cc post mc ms → J u (0, 0) (lv_args 0 av) 0 []) : CtVo l D cy y cc n rm av u post mc ms := by
  intro sz
  refine Met.ofW (cc := cc) (maxL := n) (ret := none) hy rfl ?_
  intro p e s m args below meth c s₁ B hml hv
  obtain ⟨rfl, ⟨hsz, hP, hK, hD0, hZ0⟩, hO⟩ := hv
  subst hsz
  have hD := hD0.self (sz := s.heap.size)
  have hl := lv_entry av (n := n) hn
  rw [lg_entry_eq]
  generalize (lg_sl av ++ List.replicate (n - (lg_sl av).length) Slot.unset).toArray = ls at hl ⊢
  refine body (fun (u : va_W) (k : Nat × Nat) (lv : List (Nat × Value)) (pc : Nat) (st : List Value) => ∀ (H : Heap) (locs : List Loc) (ls : Array Slot), va_P D.1 vwCl (wI u) H → va_D _ (wI u) → va_S _ s.heap H locs → lv_has ls n lv → W p l e _ s m _ below meth c H locs k.1 k.2 _ (F0 m pc ls st)) ⟨p, e, s, m, _, below, meth, c, va_A (wI u) s.heap.size, s.heap, _, ⟨⟨B.exec, B.bytes, hml, findClass_of_methodNamed B.named, fun w hw => atoms_spec (ws := wsB y cc n none) B.pre w (List.mem_cons_of_mem _ hw)⟩, hK, fun q hq => Or.inr hq, (name_of_methodNamed B.named B.method).1, rfl, hZ0, rfl⟩, hO⟩ ?_ s.heap [] ls hP hD va_S.rf hl
  intro u' lv pc hd hp H locs ls hP' hD' hS' hl'
  exact W.vret B.exec B.bytes B.returns (fun t ht hW => ⟨⟨u', rfl, hp, by rw [ht]; exact hP', va_K.moved hW.alike hK, hD'⟩, hS'.F ht⟩) hS'.2.2 hd B.notSynchronized
theorem wPreO_blind {D : gD} {cy : Nat → ClassId} {u : va_W} {sz : Nat} {av : List Value} : FrameBlind (va_Pc av (fun U => wPre D cy wI u sz U ∧ xAO U)) := fun a U g mk q => by
  obtain ⟨q0, ⟨q1, qP, qK, qD, qZ⟩, qO⟩ := q
  exact ⟨q0, ⟨q1, qP, va_K.moved (u := U) (U := U.calling g mk a) (Vm.Alike.refl U.vm) qK, qD, xZ.same rfl qZ⟩, xAO.same rfl qO⟩
theorem nd_rg : ∀ n s, va_nd (List.range' s n) = true := by
  intro n
  induction n with
  | zero => intro s; rfl
  | succ n ih =>
    intro s
    rw [List.range'_succ]
    show (decide (s ∉ List.range' (s + 1) n) && va_nd (List.range' (s + 1) n)) = true
    rw [ih, Bool.and_true]
    exact decide_eq_true (fun h => by have := List.mem_range'_1.mp h; omega)
theorem rg_l (a t : va_W) : (List.range' 0 a.length).map (fun i => (a ++ t)[i]?) = a.map some := by
  refine List.ext_getElem? fun i => ?_
  rw [List.getElem?_map, List.getElem?_map]
  by_cases h : i < a.length
  · rw [List.getElem?_range' h, Option.map_some]
    show some ((a ++ t)[0 + 1 * i]?) = _
    rw [show 0 + 1 * i = i by omega, List.getElem?_append_left h, List.getElem?_eq_getElem h]
    rfl
  · rw [List.getElem?_eq_none (by rw [List.length_range']; omega), List.getElem?_eq_none (by omega)]
    rfl
theorem rg_r (a t : va_W) : (List.range' a.length t.length).map (fun i => (a ++ t)[i]?) = t.map some := by
  refine List.ext_getElem? fun i => ?_
  rw [List.getElem?_map, List.getElem?_map]
  by_cases h : i < t.length
  · rw [List.getElem?_range' h, Option.map_some]
    show some ((a ++ t)[a.length + 1 * i]?) = _
    rw [show a.length + 1 * i = a.length + i by omega, List.getElem?_append_right (by omega), Nat.add_sub_cancel_left, List.getElem?_eq_getElem h]
    rfl
  · rw [List.getElem?_eq_none (by rw [List.length_range']; omega), List.getElem?_eq_none (by omega)]
    rfl
theorem rg_dis (n k : Nat) : ∀ i ∈ List.range' 0 n, i ∉ List.range' n k := fun i h1 h2 => by
  have a := List.mem_range'_1.mp h1
  have b := List.mem_range'_1.mp h2
  omega
theorem rg_dis' (n k : Nat) : ∀ i ∈ List.range' n k, i ∉ List.range' 0 n := fun i h1 h2 => rg_dis n k i h2 h1
theorem sw_P {D : gD} {a b : va_W} {H : Heap} (h : va_P D.1 vwCl (a ++ b) H) : va_P D.1 vwCl (b ++ a) H := h.by (fun k => if k < b.length then a.length + k else k - b.length) (fun k q hk => by
  by_cases c : k < b.length
  · rw [if_pos c, List.getElem?_append_right (by omega), Nat.add_sub_cancel_left]
    rw [List.getElem?_append_left c] at hk; exact hk
  · rw [if_neg c]
    rw [List.getElem?_append_right (by omega)] at hk
    rw [List.getElem?_append_left (List.getElem?_eq_some_iff.mp hk).1]; exact hk)
theorem sw_D {A : Nat → Prop} {a b : va_W} (h : va_D A (a ++ b)) : va_D A (b ++ a) := h.by (fun k => if k < b.length then a.length + k else k - b.length) (fun k q hk => by
  by_cases c : k < b.length
  · rw [if_pos c, List.getElem?_append_right (by omega), Nat.add_sub_cancel_left]
    rw [List.getElem?_append_left c] at hk; exact hk
  · rw [if_neg c]
    rw [List.getElem?_append_right (by omega)] at hk
    rw [List.getElem?_append_left (List.getElem?_eq_some_iff.mp hk).1]; exact hk) (fun i j hi hj e => by
  rw [List.length_append] at hi hj
  change (if i < b.length then a.length + i else i - b.length) = (if j < b.length then a.length + j else j - b.length) at e
  split at e <;> split at e <;> omega)
theorem fm_of {is : List Nat} {u w : va_W} (h : is.map (fun i => u[i]?) = w.map some) : is.filterMap (fun i => u[i]?) = w := by
  have e : is.filterMap (fun i => u[i]?) = (is.map (fun i => u[i]?)).filterMap id := by rw [List.filterMap_map]; rfl
  rw [e, h, List.filterMap_map]
  show w.filterMap (fun x => some x) = w
  rw [List.filterMap_some]
section J3
variable {l : Launch} {D : gD} {cy : Nat → ClassId} {J : JT va_W} {cc : ByteArray} {nL : Nat} {y0 : MethodName} {R : Room} {u : va_W} {q : Nat × Nat} {lv : List (Nat × Value)} {pc : Nat} {rest : List Value}
/-- the cells in another order -/
theorem j_perm (h : OKJ l D cy wI J cc nL y0 R) {st : List Value} {w : va_W} (is : List Nat) (hn : va_nd is = true) (hs : is.map (fun i => u[i]?) = w.map some) (kk : J w q lv pc st) : J u q lv pc st := by
  obtain ⟨p, e, s, m, args, below, meth, c, A, H0, Q, h0, hK, hA, hnm', hH0, hZ, rfl⟩ := h
  intro H locs ls hP hD hS hl0
  exact kk H locs ls (hP.sub is (fm_of hs)) (hD.sub is hn hs) hS hl0
theorem j_new (h : OKJ l D cy wI J cc nL y0 R) {C : String} {T : u_T} {N ci index : Nat} (hin : ∀ w ∈ u_ws C T N, w ∈ wsL_law) (ty : Nat → FieldType) (hty : ∀ k, k < N → parseFieldDescriptor (T k).2.2.1 = some (ty k)) (hcl : Cond.classLink y0.cls index C ∈ wsL_law) (hinst : Cond.instantiable C N ∈ wsL_law) (hini : Cond.initialized C ∈ wsL_law)
    (hc : vwCl[ci]? = some (C, T, N)) {fs : List Value} (hfs : ∀ j, j < N → defaultValue (ty j) = vp_V fs j) (hcells : q.1 + 1 ≤ R.cells) (hslots : q.2 + N ≤ R.slots) (hdg : decode cc pc = .ok (.new index, 3))
    (kk : ∀ r : Nat, J (u ++ [(r, .inr (ci, fs))]) (q.1 + 1, q.2 + N) lv (pc + 3) (.ref r :: rest)) : J u q lv pc rest := by
  obtain ⟨p, e, s, m, args, below, meth, c, A, H0, Q, h0, hK, hA, hnm', hH0, hZ, rfl⟩ := h
  intro H locs ls hP hD hS hl0
  exact va_new h0.1 h0.2.1 h0.2.2.2.2 hin ty hty h0.2.2.2.1 (h0.2.2.2.2 _ hcl) (h0.2.2.2.2 _ hinst) (h0.2.2.2.2 _ hini) hK hP hD hS hA hc hfs hcells hslots hdg (fun r H1 hP1 hD1 hS1 => kk r H1 locs ls hP1 hD1 hS1 hl0)
theorem j_newi (h : OKJ l D cy wI J cc nL y0 R) (harr : Cond.arrayClass .int ∈ wsL_law) {n : Int32} {N : Nat} (hn : ¬ n < 0) (hN : n.toNatClampNeg = N) (hb : N ≤ 65536) (hc : q.1 + 1 ≤ R.cells) (hs : q.2 + N ≤ R.slots) (hdg : decode cc pc = .ok (.newarray .int, 2))
    (kk : ∀ r : Nat, J (u ++ [(r, .inl (cy 0, N, .inl (fun _ => 0)))]) (q.1 + 1, q.2 + N) lv (pc + 2) (.ref r :: rest)) : J u q lv pc (.int n :: rest) := by
  obtain ⟨p, e, s, m, args, below, meth, c, A, H0, Q, h0, hK, hA, hnm', hH0, hZ, rfl⟩ := h
  intro H locs ls hP hD hS hl0
  refine va_newa (atype := .int) h0.1 h0.2.1 (h0.2.2.2.2 _ harr) (ty := .int) rfl hK hP hD hS hA (N' := N) (a0 := (N, .inl (fun _ => 0))) (fun cA => rfl) hn hN (by show N * 4 ≤ 536870912; omega) hc hs hdg (fun r cA H1 hK1 hP1 hD1 hS1 => ?_)
  have e1 : s.vm.findClass ("[" ++ FieldType.toString .int) = some (cy 0) := (hK.2 0 (cy 0, .int) rfl).2
  have e2 : s.vm.findClass ("[" ++ FieldType.toString .int) = some cA := (hK1.2 7 (cA, .int) rfl).2
  have e3 : cA = cy 0 := Option.some.inj (e2.symm.trans e1)
  subst e3
  exact kk r H1 locs ls hP1 hD1 hS1 hl0
theorem j_newl (h : OKJ l D cy wI J cc nL y0 R) (harr : Cond.arrayClass .long ∈ wsL_law) {n : Int32} {N : Nat} (hn : ¬ n < 0) (hN : n.toNatClampNeg = N) (hb : N ≤ 65536) (hc : q.1 + 1 ≤ R.cells) (hs : q.2 + N ≤ R.slots) (hdg : decode cc pc = .ok (.newarray .long, 2))
    (kk : ∀ r : Nat, J (u ++ [(r, .inl (cy 6, N, .inr (.inl (fun _ => 0))))]) (q.1 + 1, q.2 + N) lv (pc + 2) (.ref r :: rest)) : J u q lv pc (.int n :: rest) := by
  obtain ⟨p, e, s, m, args, below, meth, c, A, H0, Q, h0, hK, hA, hnm', hH0, hZ, rfl⟩ := h
  intro H locs ls hP hD hS hl0
  refine va_newa (atype := .long) h0.1 h0.2.1 (h0.2.2.2.2 _ harr) (ty := .long) rfl hK hP hD hS hA (N' := N) (a0 := (N, .inr (.inl (fun _ => 0)))) (fun cA => rfl) hn hN (by show N * 8 ≤ 536870912; omega) hc hs hdg (fun r cA H1 hK1 hP1 hD1 hS1 => ?_)
  have e1 : s.vm.findClass ("[" ++ FieldType.toString .long) = some (cy 6) := (hK.2 6 (cy 6, .long) rfl).2
  have e2 : s.vm.findClass ("[" ++ FieldType.toString .long) = some cA := (hK1.2 7 (cA, .long) rfl).2
  have e3 : cA = cy 6 := Option.some.inj (e2.symm.trans e1)
  subst e3
  exact kk r H1 locs ls hP1 hD1 hS1 hl0
theorem j_newq (h : OKJo l D cy J cc nL y0 R) {C : String} {index : Nat} (hcl : Cond.classLink y0.cls index C ∈ wsL_law) (hao : ∀ U, xAO U → va_AO C U) (t0 : Nat) {cA : ClassId} (ht : (tyC cy)[t0]? = some (cA, .object C)) {n : Int32} {N : Nat} (hn : ¬ n < 0) (hN : n.toNatClampNeg = N) (hb : N ≤ 65536) (hc : q.1 + 1 ≤ R.cells) (hs : q.2 + N ≤ R.slots) (hdg : decode cc pc = .ok (.anewarray index, 3))
    (kk : ∀ r : Nat, J (u ++ [(r, .inl (cA, N, .inr (.inr (.inr (.inr (fun _ => none))))))]) (q.1 + 1, q.2 + N) lv (pc + 3) (.ref r :: rest)) : J u q lv pc (.int n :: rest) := by
  obtain ⟨p, e, s, m, args, below, meth, c, A, H0, Q, ⟨h0, hK, hA, hnm', hH0, hZ, rfl⟩, hO⟩ := h
  intro H locs ls hP hD hS hl0
  refine va_newq h0.1 h0.2.1 h0.2.2.2.1 (h0.2.2.2.2 _ hcl) (hao s hO) hK hP hD hS hA hn hN (by omega) hc hs hdg (fun r cB H1 hK1 hP1 hD1 hS1 => ?_)
  obtain ⟨kA, comp, -, -, -, e1⟩ := (hK.2 t0 _ ht).2
  obtain ⟨kB, comB, -, -, -, e2⟩ := (hK1.2 7 (cB, .object C) rfl).2
  have e3 : cB = cA := Option.some.inj (e2.symm.trans e1)
  subst e3
  exact kk r H1 locs ls hP1 hD1 hS1 hl0
theorem j_aastq (h : OKJ l D cy wI J cc nL y0 R) (q0 t0 qk ci : Nat) {a : Nat} {cA : ClassId} {r : vw_C} {n v : Nat} {vs : List Value} {f : Nat → Option Nat} (ha : u[q0]? = some (a, .inl (cA, n, .inr (.inr (.inr (.inr f)))))) (ht : (tyC cy)[t0]? = some (cA, .object r.1)) (hv : u[qk]? = some (v, .inr (ci, vs))) (hc : vwCl[ci]? = some r) {i : Int32} (j : Nat) (he : i = nI j) (hj : j < n) (hn : n < 2 ^ 31) (hdg : decode cc pc = .ok (.aastore, 1))
    {w : va_W} (hset : u.set q0 (a, .inl (cA, n, .inr (.inr (.inr (.inr (va_up f j (some v))))))) = w) (kk : J w q lv (pc + 1) rest) : J u q lv pc (.ref v :: .int i :: .ref a :: rest) := by
  subst he
  obtain ⟨p, e, s, m, args, below, meth, c, A, H0, Q, h0, hK, hA, hnm', hH0, hZ, rfl⟩ := h
  intro H locs ls hP hD hS hl0
  refine va_astq h0.1 h0.2.1 hK hP hD hS q0 t0 qk ci ha ht hv hc (vp_in_nI hj hn) hdg (fun H1 locs1 hP1 hD1 hS1 => ?_)
  rw [nI_clamp (Nat.lt_trans hj hn)] at hP1 hD1
  exact kk H1 locs1 ls (hset ▸ hP1) (hset ▸ hD1) hS1 hl0
theorem j_objInit (h : OKJ l D cy wI J cc nL y0 R) {index a : Nat} (h1 : Cond.methodLink y0.cls index Lib.objectInit ∈ wsL_law) (h2 : Cond.instanceMethod Lib.objectInit ∈ wsL_law) (h3 : Cond.code Lib.objectInit ⟨#[0xb1]⟩ 1 none ∈ wsL_law) (hf : 1 ≤ R.frames) (hl : (rest.map fun v => v.category).sum + 12 ≤ R.locals) (hdg : decode cc pc = .ok (.invokespecial index, 3)) (kk : J u q lv (pc + 3) rest) : J u q lv pc (.ref a :: rest) := by
  obtain ⟨p, e, s, m, args, below, meth, c, A, H0, Q, h0, hK, hA, hnm', hH0, hZ, rfl⟩ := h
  intro H locs ls hP hD hS hl0
  refine W.objInit h0.1 h0.2.1 h0.2.2.2.1 (h0.2.2.2.2 _ h1) (h0.2.2.2.2 _ h2) (h0.2.2.2.2 _ h3) (g := F0 _ pc ls (.ref a :: rest)) rfl (hl0.1.trans h0.2.2.1.symm) rfl hdg hf ?_ (kk H locs ls hP hD hS hl0)
  show 2 * 0 + (rest.map fun v => v.category).sum + 12 ≤ R.locals
  omega
/-- a constructor over the object alone, which comes last -/
theorem j_initV (h : OKJ l D cy wI J cc nL y0 R) {y : MethodName} {rm : Room} {b : Nat} {As : List Value} {eb : va_E} {lst : va_W} {post : va_W → Prop} {mc ms index maxL n : Nat} {bytes : ByteArray} (hM : CtV l D cy wI y bytes maxL none rm (.ref b :: As) [(b, eb)] post mc ms)
    (hl : Cond.methodLink y0.cls index y ∈ wsL_law) (hin : Cond.instanceMethod y ∈ wsL_law) (hini : Cond.initialized y.cls ∈ wsL_law) (hcd : Cond.code y bytes maxL none ∈ wsL_law) (hy1 : y.name = "<init>") (hrc : rm.cells = mc) (hrs : rm.slots = ms)
    (hd : y.cls ≠ "java/lang/invoke/MethodHandle" ∧ y.cls ≠ "java/lang/invoke/VarHandle" ∧ (parseMethodDescriptor y.desc).map (fun d => d.parameters.length) = some n) (hR : rm.frames + 1 ≤ R.frames ∧ 8 + (maxL + 11) + rm.locals ≤ R.locals) (hu : u = lst ++ [(b, eb)]) {st : List Value} (hst : st = As.reverse ++ .ref b :: rest) (hn : As.length = n)
    (hroom : (rest.map fun v => v.category).sum ≤ 8) (hdg : decode cc pc = .ok (.invokespecial index, 3)) (hf : q.1 + mc ≤ R.cells ∧ q.2 + ms ≤ R.slots) (kk : ∀ w, post w → J (lst ++ w) (q.1 + mc, q.2 + ms) lv (pc + 3) rest) : J u q lv pc st := by
  obtain ⟨p, e, s, m, args, below, meth, c, A, H0, Q, h0, hK, hA, hnm', hH0, hZ, rfl⟩ := h
  intro H locs ls hP hD hS hl0
  subst hu
  have hC : (List.range' lst.length [(b, eb)].length).map (fun i => (lst ++ [(b, eb)])[i]?) = [(b, eb)].map some := rg_r lst [(b, eb)]
  have hFc := va_free (wc := [(b, eb)]) hD hS hA _ hC
  have hPc : va_P D.1 vwCl [(b, eb)] H := hP.sub _ (fm_of hC)
  have hDc : va_D A [(b, eb)] := hD.sub _ (nd_rg _ _) hC
  refine va_callv (va_runI (As := As) (rest := rest) h0 (hM H.size) (cwI n h0.2.2.2.2 (xg_cons hcd xg_law) rfl hrc hrs (h0.2.2.2.2 _ hini) (h0.2.2.2.2 _ hl) (h0.2.2.2.2 _ hin) hy1 hd hR) ⟨wPre_blind, fun U hU hW => ⟨rfl, by rw [hU], by rw [hU]; exact hPc, va_K.moved hW.alike hK, hDc.weaken (fun _ _ _ _ => trivial), by rw [hU]; exact ((hZ.kept (hH0 ▸ hS.2.1)).narrow hFc).warm hW⟩⟩ rfl hn hl0.1 hst (lv_room hroom) hdg hf) hS (fun q _ h => hFc q h) hFc (fun w t H1 locs1 ht hvm hw hB hz1 hk1 hS1 => ?_)
  obtain ⟨hP2, hD2⟩ := va_join hP hD _ (List.range' 0 lst.length) hC (rg_l lst [(b, eb)]) (nd_rg _ _) (rg_dis _ _) hk1 hFc (ht ▸ hB.1) hB.2.2
  exact kk w hw H1 locs1 ls hP2 hD2 hS1 hl0
theorem j_initO (h : OKJo l D cy J cc nL y0 R) {y : MethodName} {rm : Room} {b : Nat} {eb : va_E} {lst : va_W} {post : va_W → Prop} {mc ms index maxL : Nat} {bytes : ByteArray} (hM : CtVo l D cy y bytes maxL rm [.ref b] [(b, eb)] post mc ms)
    (hl : Cond.methodLink y0.cls index y ∈ wsL_law) (hin : Cond.instanceMethod y ∈ wsL_law) (hini : Cond.initialized y.cls ∈ wsL_law) (hcd : Cond.code y bytes maxL none ∈ wsL_law) (hy1 : y.name = "<init>") (hrc : rm.cells = mc) (hrs : rm.slots = ms)
    (hd : y.cls ≠ "java/lang/invoke/MethodHandle" ∧ y.cls ≠ "java/lang/invoke/VarHandle" ∧ (parseMethodDescriptor y.desc).map (fun d => d.parameters.length) = some 0) (hR : rm.frames + 1 ≤ R.frames ∧ 8 + (maxL + 11) + rm.locals ≤ R.locals) (hu : u = lst ++ [(b, eb)])
    (hroom : (rest.map fun v => v.category).sum ≤ 8) (hdg : decode cc pc = .ok (.invokespecial index, 3)) (hf : q.1 + mc ≤ R.cells ∧ q.2 + ms ≤ R.slots) (kk : ∀ w, post w → J (lst ++ w) (q.1 + mc, q.2 + ms) lv (pc + 3) rest) : J u q lv pc (.ref b :: rest) := by
  obtain ⟨p, e, s, m, args, below, meth, c, A, H0, Q, ⟨h0, hK, hA, hnm', hH0, hZ, rfl⟩, hO⟩ := h
  intro H locs ls hP hD hS hl0
  subst hu
  have hC : (List.range' lst.length [(b, eb)].length).map (fun i => (lst ++ [(b, eb)])[i]?) = [(b, eb)].map some := rg_r lst [(b, eb)]
  have hFc := va_free (wc := [(b, eb)]) hD hS hA _ hC
  have hPc : va_P D.1 vwCl [(b, eb)] H := hP.sub _ (fm_of hC)
  have hDc : va_D A [(b, eb)] := hD.sub _ (nd_rg _ _) hC
  refine va_callv (va_runI (As := []) (rest := rest) h0 (hM H.size) (cwI 0 h0.2.2.2.2 (xg_cons hcd xg_law) rfl hrc hrs (h0.2.2.2.2 _ hini) (h0.2.2.2.2 _ hl) (h0.2.2.2.2 _ hin) hy1 hd hR) ⟨wPreO_blind, fun U hU hW => ⟨rfl, ⟨by rw [hU], by rw [hU]; exact hPc, va_K.moved hW.alike hK, hDc.weaken (fun _ _ _ _ => trivial), by rw [hU]; exact ((hZ.kept (hH0 ▸ hS.2.1)).narrow hFc).warm hW⟩, xAO.warm hW hO⟩⟩ rfl rfl hl0.1 rfl (lv_room hroom) hdg hf) hS (fun q _ h => hFc q h) hFc (fun w t H1 locs1 ht hvm hw hB hz1 hk1 hS1 => ?_)
  obtain ⟨hP2, hD2⟩ := va_join hP hD _ (List.range' 0 lst.length) hC (rg_l lst [(b, eb)]) (nd_rg _ _) (rg_dis _ _) hk1 hFc (ht ▸ hB.1) hB.2.2
  exact kk w hw H1 locs1 ls hP2 hD2 hS1 hl0
theorem j_fI (h : OKJ l D cy wI J cc nL y0 R) {S1 : Type} {Wd1 : S1 → va_W} {u1 : S1} {wr : va_W} {y : MethodName} {rm : Room} {As : List Value} {b : Nat} {post : Int32 → S1 → Prop} {mc ms index n maxL : Nat} {C : String} {bytes : ByteArray} {ret : Option FieldType} (hM : CtI l D cy Wd1 y bytes maxL ret rm (.ref b :: As) u1 post mc ms) (hu : u = Wd1 u1 ++ wr) (hG : GoodIn wsL_law (wsV y0.cls index C y (wsB y bytes maxL ret))) (hrc : rm.cells = mc) (hrs : rm.slots = ms)
    (hd : y.cls = C ∧ y.cls ≠ "java/lang/invoke/MethodHandle" ∧ y.cls ≠ "java/lang/invoke/VarHandle" ∧ (parseMethodDescriptor y.desc).map (fun d => d.parameters.length) = some n) (hR : rm.frames + 1 ≤ R.frames ∧ 8 + (maxL + 11) + rm.locals ≤ R.locals) (q0 : Nat) {ci : Nat} {cq : vw_C} {fs : List Value} (hb : (Wd1 u1)[q0]? = some (b, .inr (ci, fs))) (hc : vwCl[ci]? = some cq) (hC : cq.1 = C)
    {st : List Value} (hst : st = As.reverse ++ .ref b :: rest) (hn : As.length = n) (hroom : (rest.map fun v => v.category).sum ≤ 8) (hdg : decode cc pc = .ok (.invokevirtual index, 3)) (hf : q.1 + mc ≤ R.cells ∧ q.2 + ms ≤ R.slots)
    (kk : ∀ (r : Int32) (v : S1), post r v → J (Wd1 v ++ wr) (q.1 + mc, q.2 + ms) lv (pc + 3) (.int r :: rest)) : J u q lv pc st := by
  obtain ⟨p, e, s, m, args, below, meth, c, A, H0, Q, h0, hK, hA, hnm', hH0, hZ, rfl⟩ := h
  intro H locs ls hP hD hS hl0
  subst hu
  have hCc : (List.range' 0 (Wd1 u1).length).map (fun i => (Wd1 u1 ++ wr)[i]?) = (Wd1 u1).map some := rg_l (Wd1 u1) wr
  have hFc := va_free (wc := Wd1 u1) hD hS hA _ hCc
  have hPc : va_P D.1 vwCl (Wd1 u1) H := hP.sub _ (fm_of hCc)
  have hDc : va_D A (Wd1 u1) := hD.sub _ (nd_rg _ _) hCc
  refine va_calli (va_runV (As := As) (rest := rest) h0 (hM H.size) (cwV n h0.2.2.2.2 hG rfl hrc hrs hd hR) ⟨wPre_blind, hC ▸ va_recv hK hPc hc hb, fun U hU hW => ⟨rfl, by rw [hU], by rw [hU]; exact hPc, va_K.moved hW.alike hK, hDc.weaken (fun _ _ _ _ => trivial), by rw [hU]; exact ((hZ.kept (hH0 ▸ hS.2.1)).narrow hFc).warm hW⟩⟩ rfl hn hl0.1 hst (lv_room hroom) hdg hf) hS (fun q _ h => hFc q h) hFc (fun r v t H1 locs1 ht hvm hw hB hz1 hk1 hS1 => ?_)
  obtain ⟨hP2, hD2⟩ := va_join hP hD _ (List.range' (Wd1 u1).length wr.length) hCc (rg_r (Wd1 u1) wr) (nd_rg _ _) (rg_dis' _ _) hk1 hFc (ht ▸ hB.1) hB.2.2
  exact kk r v hw H1 locs1 ls (sw_P hP2) (sw_D hD2) hS1 hl0
theorem j_fF (h : OKJ l D cy wI J cc nL y0 R) {S1 : Type} {Wd1 : S1 → va_W} {u1 : S1} {wr : va_W} {y : MethodName} {rm : Room} {As : List Value} {b : Nat} {post : UInt32 → S1 → Prop} {mc ms index n maxL : Nat} {C : String} {bytes : ByteArray} {ret : Option FieldType} (hM : CtF l D cy Wd1 y bytes maxL ret rm (.ref b :: As) u1 post mc ms) (hu : u = Wd1 u1 ++ wr) (hG : GoodIn wsL_law (wsV y0.cls index C y (wsB y bytes maxL ret))) (hrc : rm.cells = mc) (hrs : rm.slots = ms)
    (hd : y.cls = C ∧ y.cls ≠ "java/lang/invoke/MethodHandle" ∧ y.cls ≠ "java/lang/invoke/VarHandle" ∧ (parseMethodDescriptor y.desc).map (fun d => d.parameters.length) = some n) (hR : rm.frames + 1 ≤ R.frames ∧ 8 + (maxL + 11) + rm.locals ≤ R.locals) (q0 : Nat) {ci : Nat} {cq : vw_C} {fs : List Value} (hb : (Wd1 u1)[q0]? = some (b, .inr (ci, fs))) (hc : vwCl[ci]? = some cq) (hC : cq.1 = C)
    {st : List Value} (hst : st = As.reverse ++ .ref b :: rest) (hn : As.length = n) (hroom : (rest.map fun v => v.category).sum ≤ 8) (hdg : decode cc pc = .ok (.invokevirtual index, 3)) (hf : q.1 + mc ≤ R.cells ∧ q.2 + ms ≤ R.slots)
    (kk : ∀ (r : UInt32) (v : S1), post r v → J (Wd1 v ++ wr) (q.1 + mc, q.2 + ms) lv (pc + 3) (.float r :: rest)) : J u q lv pc st := by
  obtain ⟨p, e, s, m, args, below, meth, c, A, H0, Q, h0, hK, hA, hnm', hH0, hZ, rfl⟩ := h
  intro H locs ls hP hD hS hl0
  subst hu
  have hCc : (List.range' 0 (Wd1 u1).length).map (fun i => (Wd1 u1 ++ wr)[i]?) = (Wd1 u1).map some := rg_l (Wd1 u1) wr
  have hFc := va_free (wc := Wd1 u1) hD hS hA _ hCc
  have hPc : va_P D.1 vwCl (Wd1 u1) H := hP.sub _ (fm_of hCc)
  have hDc : va_D A (Wd1 u1) := hD.sub _ (nd_rg _ _) hCc
  refine va_callf (va_runV (As := As) (rest := rest) h0 (hM H.size) (cwV n h0.2.2.2.2 hG rfl hrc hrs hd hR) ⟨wPre_blind, hC ▸ va_recv hK hPc hc hb, fun U hU hW => ⟨rfl, by rw [hU], by rw [hU]; exact hPc, va_K.moved hW.alike hK, hDc.weaken (fun _ _ _ _ => trivial), by rw [hU]; exact ((hZ.kept (hH0 ▸ hS.2.1)).narrow hFc).warm hW⟩⟩ rfl hn hl0.1 hst (lv_room hroom) hdg hf) hS (fun q _ h => hFc q h) hFc (fun r v t H1 locs1 ht hvm hw hB hz1 hk1 hS1 => ?_)
  obtain ⟨hP2, hD2⟩ := va_join hP hD _ (List.range' (Wd1 u1).length wr.length) hCc (rg_r (Wd1 u1) wr) (nd_rg _ _) (rg_dis' _ _) hk1 hFc (ht ▸ hB.1) hB.2.2
  exact kk r v hw H1 locs1 ls (sw_P hP2) (sw_D hD2) hS1 hl0
theorem j_fD (h : OKJ l D cy wI J cc nL y0 R) {S1 : Type} {Wd1 : S1 → va_W} {u1 : S1} {wr : va_W} {y : MethodName} {rm : Room} {As : List Value} {b : Nat} {post : UInt64 → S1 → Prop} {mc ms index n maxL : Nat} {C : String} {bytes : ByteArray} {ret : Option FieldType} (hM : CtD l D cy Wd1 y bytes maxL ret rm (.ref b :: As) u1 post mc ms) (hu : u = Wd1 u1 ++ wr) (hG : GoodIn wsL_law (wsV y0.cls index C y (wsB y bytes maxL ret))) (hrc : rm.cells = mc) (hrs : rm.slots = ms)
    (hd : y.cls = C ∧ y.cls ≠ "java/lang/invoke/MethodHandle" ∧ y.cls ≠ "java/lang/invoke/VarHandle" ∧ (parseMethodDescriptor y.desc).map (fun d => d.parameters.length) = some n) (hR : rm.frames + 1 ≤ R.frames ∧ 8 + (maxL + 11) + rm.locals ≤ R.locals) (q0 : Nat) {ci : Nat} {cq : vw_C} {fs : List Value} (hb : (Wd1 u1)[q0]? = some (b, .inr (ci, fs))) (hc : vwCl[ci]? = some cq) (hC : cq.1 = C)
    {st : List Value} (hst : st = As.reverse ++ .ref b :: rest) (hn : As.length = n) (hroom : (rest.map fun v => v.category).sum ≤ 8) (hdg : decode cc pc = .ok (.invokevirtual index, 3)) (hf : q.1 + mc ≤ R.cells ∧ q.2 + ms ≤ R.slots)
    (kk : ∀ (r : UInt64) (v : S1), post r v → J (Wd1 v ++ wr) (q.1 + mc, q.2 + ms) lv (pc + 3) (.double r :: rest)) : J u q lv pc st := by
  obtain ⟨p, e, s, m, args, below, meth, c, A, H0, Q, h0, hK, hA, hnm', hH0, hZ, rfl⟩ := h
  intro H locs ls hP hD hS hl0
  subst hu
  have hCc : (List.range' 0 (Wd1 u1).length).map (fun i => (Wd1 u1 ++ wr)[i]?) = (Wd1 u1).map some := rg_l (Wd1 u1) wr
  have hFc := va_free (wc := Wd1 u1) hD hS hA _ hCc
  have hPc : va_P D.1 vwCl (Wd1 u1) H := hP.sub _ (fm_of hCc)
  have hDc : va_D A (Wd1 u1) := hD.sub _ (nd_rg _ _) hCc
  refine va_calld (va_runV (As := As) (rest := rest) h0 (hM H.size) (cwV n h0.2.2.2.2 hG rfl hrc hrs hd hR) ⟨wPre_blind, hC ▸ va_recv hK hPc hc hb, fun U hU hW => ⟨rfl, by rw [hU], by rw [hU]; exact hPc, va_K.moved hW.alike hK, hDc.weaken (fun _ _ _ _ => trivial), by rw [hU]; exact ((hZ.kept (hH0 ▸ hS.2.1)).narrow hFc).warm hW⟩⟩ rfl hn hl0.1 hst (lv_room hroom) hdg hf) hS (fun q _ h => hFc q h) hFc (fun r v t H1 locs1 ht hvm hw hB hz1 hk1 hS1 => ?_)
  obtain ⟨hP2, hD2⟩ := va_join hP hD _ (List.range' (Wd1 u1).length wr.length) hCc (rg_r (Wd1 u1) wr) (nd_rg _ _) (rg_dis' _ _) hk1 hFc (ht ▸ hB.1) hB.2.2
  exact kk r v hw H1 locs1 ls (sw_P hP2) (sw_D hD2) hS1 hl0
theorem j_bI (h : OKJ l D cy wI J cc nL y0 R) {S1 : Type} {Wd1 : S1 → va_W} {u1 : S1} {wr : va_W} {y : MethodName} {rm : Room} {As : List Value} {b : Nat} {post : Int32 → S1 → Prop} {mc ms index n maxL : Nat} {C : String} {bytes : ByteArray} {ret : Option FieldType} (hM : CtI l D cy Wd1 y bytes maxL ret rm (.ref b :: As) u1 post mc ms) (hu : u = wr ++ Wd1 u1) (hG : GoodIn wsL_law (wsV y0.cls index C y (wsB y bytes maxL ret))) (hrc : rm.cells = mc) (hrs : rm.slots = ms)
    (hd : y.cls = C ∧ y.cls ≠ "java/lang/invoke/MethodHandle" ∧ y.cls ≠ "java/lang/invoke/VarHandle" ∧ (parseMethodDescriptor y.desc).map (fun d => d.parameters.length) = some n) (hR : rm.frames + 1 ≤ R.frames ∧ 8 + (maxL + 11) + rm.locals ≤ R.locals) (q0 : Nat) {ci : Nat} {cq : vw_C} {fs : List Value} (hb : (Wd1 u1)[q0]? = some (b, .inr (ci, fs))) (hc : vwCl[ci]? = some cq) (hC : cq.1 = C)
    {st : List Value} (hst : st = As.reverse ++ .ref b :: rest) (hn : As.length = n) (hroom : (rest.map fun v => v.category).sum ≤ 8) (hdg : decode cc pc = .ok (.invokevirtual index, 3)) (hf : q.1 + mc ≤ R.cells ∧ q.2 + ms ≤ R.slots)
    (kk : ∀ (r : Int32) (v : S1), post r v → J (wr ++ Wd1 v) (q.1 + mc, q.2 + ms) lv (pc + 3) (.int r :: rest)) : J u q lv pc st := by
  obtain ⟨p, e, s, m, args, below, meth, c, A, H0, Q, h0, hK, hA, hnm', hH0, hZ, rfl⟩ := h
  intro H locs ls hP hD hS hl0
  subst hu
  have hCc : (List.range' wr.length (Wd1 u1).length).map (fun i => (wr ++ Wd1 u1)[i]?) = (Wd1 u1).map some := rg_r wr (Wd1 u1)
  have hFc := va_free (wc := Wd1 u1) hD hS hA _ hCc
  have hPc : va_P D.1 vwCl (Wd1 u1) H := hP.sub _ (fm_of hCc)
  have hDc : va_D A (Wd1 u1) := hD.sub _ (nd_rg _ _) hCc
  refine va_calli (va_runV (As := As) (rest := rest) h0 (hM H.size) (cwV n h0.2.2.2.2 hG rfl hrc hrs hd hR) ⟨wPre_blind, hC ▸ va_recv hK hPc hc hb, fun U hU hW => ⟨rfl, by rw [hU], by rw [hU]; exact hPc, va_K.moved hW.alike hK, hDc.weaken (fun _ _ _ _ => trivial), by rw [hU]; exact ((hZ.kept (hH0 ▸ hS.2.1)).narrow hFc).warm hW⟩⟩ rfl hn hl0.1 hst (lv_room hroom) hdg hf) hS (fun q _ h => hFc q h) hFc (fun r v t H1 locs1 ht hvm hw hB hz1 hk1 hS1 => ?_)
  obtain ⟨hP2, hD2⟩ := va_join hP hD _ (List.range' 0 wr.length) hCc (rg_l wr (Wd1 u1)) (nd_rg _ _) (rg_dis _ _) hk1 hFc (ht ▸ hB.1) hB.2.2
  exact kk r v hw H1 locs1 ls (hP2) (hD2) hS1 hl0
theorem j_bF (h : OKJ l D cy wI J cc nL y0 R) {S1 : Type} {Wd1 : S1 → va_W} {u1 : S1} {wr : va_W} {y : MethodName} {rm : Room} {As : List Value} {b : Nat} {post : UInt32 → S1 → Prop} {mc ms index n maxL : Nat} {C : String} {bytes : ByteArray} {ret : Option FieldType} (hM : CtF l D cy Wd1 y bytes maxL ret rm (.ref b :: As) u1 post mc ms) (hu : u = wr ++ Wd1 u1) (hG : GoodIn wsL_law (wsV y0.cls index C y (wsB y bytes maxL ret))) (hrc : rm.cells = mc) (hrs : rm.slots = ms)
    (hd : y.cls = C ∧ y.cls ≠ "java/lang/invoke/MethodHandle" ∧ y.cls ≠ "java/lang/invoke/VarHandle" ∧ (parseMethodDescriptor y.desc).map (fun d => d.parameters.length) = some n) (hR : rm.frames + 1 ≤ R.frames ∧ 8 + (maxL + 11) + rm.locals ≤ R.locals) (q0 : Nat) {ci : Nat} {cq : vw_C} {fs : List Value} (hb : (Wd1 u1)[q0]? = some (b, .inr (ci, fs))) (hc : vwCl[ci]? = some cq) (hC : cq.1 = C)
    {st : List Value} (hst : st = As.reverse ++ .ref b :: rest) (hn : As.length = n) (hroom : (rest.map fun v => v.category).sum ≤ 8) (hdg : decode cc pc = .ok (.invokevirtual index, 3)) (hf : q.1 + mc ≤ R.cells ∧ q.2 + ms ≤ R.slots)
    (kk : ∀ (r : UInt32) (v : S1), post r v → J (wr ++ Wd1 v) (q.1 + mc, q.2 + ms) lv (pc + 3) (.float r :: rest)) : J u q lv pc st := by
  obtain ⟨p, e, s, m, args, below, meth, c, A, H0, Q, h0, hK, hA, hnm', hH0, hZ, rfl⟩ := h
  intro H locs ls hP hD hS hl0
  subst hu
  have hCc : (List.range' wr.length (Wd1 u1).length).map (fun i => (wr ++ Wd1 u1)[i]?) = (Wd1 u1).map some := rg_r wr (Wd1 u1)
  have hFc := va_free (wc := Wd1 u1) hD hS hA _ hCc
  have hPc : va_P D.1 vwCl (Wd1 u1) H := hP.sub _ (fm_of hCc)
  have hDc : va_D A (Wd1 u1) := hD.sub _ (nd_rg _ _) hCc
  refine va_callf (va_runV (As := As) (rest := rest) h0 (hM H.size) (cwV n h0.2.2.2.2 hG rfl hrc hrs hd hR) ⟨wPre_blind, hC ▸ va_recv hK hPc hc hb, fun U hU hW => ⟨rfl, by rw [hU], by rw [hU]; exact hPc, va_K.moved hW.alike hK, hDc.weaken (fun _ _ _ _ => trivial), by rw [hU]; exact ((hZ.kept (hH0 ▸ hS.2.1)).narrow hFc).warm hW⟩⟩ rfl hn hl0.1 hst (lv_room hroom) hdg hf) hS (fun q _ h => hFc q h) hFc (fun r v t H1 locs1 ht hvm hw hB hz1 hk1 hS1 => ?_)
  obtain ⟨hP2, hD2⟩ := va_join hP hD _ (List.range' 0 wr.length) hCc (rg_l wr (Wd1 u1)) (nd_rg _ _) (rg_dis _ _) hk1 hFc (ht ▸ hB.1) hB.2.2
  exact kk r v hw H1 locs1 ls (hP2) (hD2) hS1 hl0
theorem j_bD (h : OKJ l D cy wI J cc nL y0 R) {S1 : Type} {Wd1 : S1 → va_W} {u1 : S1} {wr : va_W} {y : MethodName} {rm : Room} {As : List Value} {b : Nat} {post : UInt64 → S1 → Prop} {mc ms index n maxL : Nat} {C : String} {bytes : ByteArray} {ret : Option FieldType} (hM : CtD l D cy Wd1 y bytes maxL ret rm (.ref b :: As) u1 post mc ms) (hu : u = wr ++ Wd1 u1) (hG : GoodIn wsL_law (wsV y0.cls index C y (wsB y bytes maxL ret))) (hrc : rm.cells = mc) (hrs : rm.slots = ms)
    (hd : y.cls = C ∧ y.cls ≠ "java/lang/invoke/MethodHandle" ∧ y.cls ≠ "java/lang/invoke/VarHandle" ∧ (parseMethodDescriptor y.desc).map (fun d => d.parameters.length) = some n) (hR : rm.frames + 1 ≤ R.frames ∧ 8 + (maxL + 11) + rm.locals ≤ R.locals) (q0 : Nat) {ci : Nat} {cq : vw_C} {fs : List Value} (hb : (Wd1 u1)[q0]? = some (b, .inr (ci, fs))) (hc : vwCl[ci]? = some cq) (hC : cq.1 = C)
    {st : List Value} (hst : st = As.reverse ++ .ref b :: rest) (hn : As.length = n) (hroom : (rest.map fun v => v.category).sum ≤ 8) (hdg : decode cc pc = .ok (.invokevirtual index, 3)) (hf : q.1 + mc ≤ R.cells ∧ q.2 + ms ≤ R.slots)
    (kk : ∀ (r : UInt64) (v : S1), post r v → J (wr ++ Wd1 v) (q.1 + mc, q.2 + ms) lv (pc + 3) (.double r :: rest)) : J u q lv pc st := by
  obtain ⟨p, e, s, m, args, below, meth, c, A, H0, Q, h0, hK, hA, hnm', hH0, hZ, rfl⟩ := h
  intro H locs ls hP hD hS hl0
  subst hu
  have hCc : (List.range' wr.length (Wd1 u1).length).map (fun i => (wr ++ Wd1 u1)[i]?) = (Wd1 u1).map some := rg_r wr (Wd1 u1)
  have hFc := va_free (wc := Wd1 u1) hD hS hA _ hCc
  have hPc : va_P D.1 vwCl (Wd1 u1) H := hP.sub _ (fm_of hCc)
  have hDc : va_D A (Wd1 u1) := hD.sub _ (nd_rg _ _) hCc
  refine va_calld (va_runV (As := As) (rest := rest) h0 (hM H.size) (cwV n h0.2.2.2.2 hG rfl hrc hrs hd hR) ⟨wPre_blind, hC ▸ va_recv hK hPc hc hb, fun U hU hW => ⟨rfl, by rw [hU], by rw [hU]; exact hPc, va_K.moved hW.alike hK, hDc.weaken (fun _ _ _ _ => trivial), by rw [hU]; exact ((hZ.kept (hH0 ▸ hS.2.1)).narrow hFc).warm hW⟩⟩ rfl hn hl0.1 hst (lv_room hroom) hdg hf) hS (fun q _ h => hFc q h) hFc (fun r v t H1 locs1 ht hvm hw hB hz1 hk1 hS1 => ?_)
  obtain ⟨hP2, hD2⟩ := va_join hP hD _ (List.range' 0 wr.length) hCc (rg_l wr (Wd1 u1)) (nd_rg _ _) (rg_dis _ _) hk1 hFc (ht ▸ hB.1) hB.2.2
  exact kk r v hw H1 locs1 ls (hP2) (hD2) hS1 hl0
theorem j_bV (h : OKJ l D cy wI J cc nL y0 R) {S1 : Type} {Wd1 : S1 → va_W} {u1 : S1} {wr : va_W} {y : MethodName} {rm : Room} {As : List Value} {b : Nat} {post : S1 → Prop} {mc ms index n maxL : Nat} {C : String} {bytes : ByteArray} {ret : Option FieldType} (hM : CtV l D cy Wd1 y bytes maxL ret rm (.ref b :: As) u1 post mc ms) (hu : u = wr ++ Wd1 u1) (hG : GoodIn wsL_law (wsV y0.cls index C y (wsB y bytes maxL ret))) (hrc : rm.cells = mc) (hrs : rm.slots = ms)
    (hd : y.cls = C ∧ y.cls ≠ "java/lang/invoke/MethodHandle" ∧ y.cls ≠ "java/lang/invoke/VarHandle" ∧ (parseMethodDescriptor y.desc).map (fun d => d.parameters.length) = some n) (hR : rm.frames + 1 ≤ R.frames ∧ 8 + (maxL + 11) + rm.locals ≤ R.locals) (q0 : Nat) {ci : Nat} {cq : vw_C} {fs : List Value} (hb : (Wd1 u1)[q0]? = some (b, .inr (ci, fs))) (hc : vwCl[ci]? = some cq) (hC : cq.1 = C)
    {st : List Value} (hst : st = As.reverse ++ .ref b :: rest) (hn : As.length = n) (hroom : (rest.map fun v => v.category).sum ≤ 8) (hdg : decode cc pc = .ok (.invokevirtual index, 3)) (hf : q.1 + mc ≤ R.cells ∧ q.2 + ms ≤ R.slots)
    (kk : ∀ (v : S1), post v → J (wr ++ Wd1 v) (q.1 + mc, q.2 + ms) lv (pc + 3) (rest)) : J u q lv pc st := by
  obtain ⟨p, e, s, m, args, below, meth, c, A, H0, Q, h0, hK, hA, hnm', hH0, hZ, rfl⟩ := h
  intro H locs ls hP hD hS hl0
  subst hu
  have hCc : (List.range' wr.length (Wd1 u1).length).map (fun i => (wr ++ Wd1 u1)[i]?) = (Wd1 u1).map some := rg_r wr (Wd1 u1)
  have hFc := va_free (wc := Wd1 u1) hD hS hA _ hCc
  have hPc : va_P D.1 vwCl (Wd1 u1) H := hP.sub _ (fm_of hCc)
  have hDc : va_D A (Wd1 u1) := hD.sub _ (nd_rg _ _) hCc
  refine va_callv (va_runV (As := As) (rest := rest) h0 (hM H.size) (cwV n h0.2.2.2.2 hG rfl hrc hrs hd hR) ⟨wPre_blind, hC ▸ va_recv hK hPc hc hb, fun U hU hW => ⟨rfl, by rw [hU], by rw [hU]; exact hPc, va_K.moved hW.alike hK, hDc.weaken (fun _ _ _ _ => trivial), by rw [hU]; exact ((hZ.kept (hH0 ▸ hS.2.1)).narrow hFc).warm hW⟩⟩ rfl hn hl0.1 hst (lv_room hroom) hdg hf) hS (fun q _ h => hFc q h) hFc (fun v t H1 locs1 ht hvm hw hB hz1 hk1 hS1 => ?_)
  obtain ⟨hP2, hD2⟩ := va_join hP hD _ (List.range' 0 wr.length) hCc (rg_l wr (Wd1 u1)) (nd_rg _ _) (rg_dis _ _) hk1 hFc (ht ▸ hB.1) hB.2.2
  exact kk v hw H1 locs1 ls (hP2) (hD2) hS1 hl0
theorem j_bVp (h : OKJ l D cy wI J cc nL y0 R) {S1 : Type} {Wd1 : S1 → va_W} {u1 : S1} {wr : va_W} {y : MethodName} {rm : Room} {As : List Value} {b : Nat} {post : S1 → Prop} {mc ms index n maxL : Nat} {C : String} {bytes : ByteArray} {ret : Option FieldType} (hM : CtV l D cy Wd1 y bytes maxL ret rm (.ref b :: As) u1 post mc ms) (hu : u = wr ++ Wd1 u1) (hG : GoodIn wsL_law (va_wsU y0.cls index C y.cls y y (wsB y bytes maxL ret))) (hrc : rm.cells = mc) (hrs : rm.slots = ms)
    (hd : y.cls ≠ "java/lang/invoke/MethodHandle" ∧ y.cls ≠ "java/lang/invoke/VarHandle" ∧ (parseMethodDescriptor y.desc).map (fun d => d.parameters.length) = some n) (hR : rm.frames + 1 ≤ R.frames ∧ 8 + (maxL + 11) + rm.locals ≤ R.locals) (q0 : Nat) {ci : Nat} {cq : vw_C} {fs : List Value} (hb : (Wd1 u1)[q0]? = some (b, .inr (ci, fs))) (hc : vwCl[ci]? = some cq) (hC : cq.1 = C)
    {st : List Value} (hst : st = As.reverse ++ .ref b :: rest) (hn : As.length = n) (hroom : (rest.map fun v => v.category).sum ≤ 8) (hdg : decode cc pc = .ok (.invokevirtual index, 3)) (hf : q.1 + mc ≤ R.cells ∧ q.2 + ms ≤ R.slots)
    (kk : ∀ (v : S1), post v → J (wr ++ Wd1 v) (q.1 + mc, q.2 + ms) lv (pc + 3) (rest)) : J u q lv pc st := by
  obtain ⟨p, e, s, m, args, below, meth, c, A, H0, Q, h0, hK, hA, hnm', hH0, hZ, rfl⟩ := h
  intro H locs ls hP hD hS hl0
  subst hu
  have hCc : (List.range' wr.length (Wd1 u1).length).map (fun i => (wr ++ Wd1 u1)[i]?) = (Wd1 u1).map some := rg_r wr (Wd1 u1)
  have hFc := va_free (wc := Wd1 u1) hD hS hA _ hCc
  have hPc : va_P D.1 vwCl (Wd1 u1) H := hP.sub _ (fm_of hCc)
  have hDc : va_D A (Wd1 u1) := hD.sub _ (nd_rg _ _) hCc
  refine va_callv (va_runU (As := As) (rest := rest) h0 (hM H.size) (va_cwU n h0.2.2.2.2 hG rfl hrc hrs rfl hd hR) ⟨wPre_blind, hC ▸ va_recv hK hPc hc hb, fun U hU hW => ⟨rfl, by rw [hU], by rw [hU]; exact hPc, va_K.moved hW.alike hK, hDc.weaken (fun _ _ _ _ => trivial), by rw [hU]; exact ((hZ.kept (hH0 ▸ hS.2.1)).narrow hFc).warm hW⟩⟩ rfl hn hl0.1 hst (lv_room hroom) hdg hf) hS (fun q _ h => hFc q h) hFc (fun v t H1 locs1 ht hvm hw hB hz1 hk1 hS1 => ?_)
  obtain ⟨hP2, hD2⟩ := va_join hP hD _ (List.range' 0 wr.length) hCc (rg_l wr (Wd1 u1)) (nd_rg _ _) (rg_dis _ _) hk1 hFc (ht ▸ hB.1) hB.2.2
  exact kk v hw H1 locs1 ls (hP2) (hD2) hS1 hl0
end J3

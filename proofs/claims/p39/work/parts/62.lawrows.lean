/-! ===== rows for the law's own methods: longs, the script, calls over a longer stack ===== -/
section LR
variable {l : Launch} {D : gD} {cy : Nat → ClassId} {S : Type} {Wd : S → va_W} {J : JT S} {cc : ByteArray} {nL : Nat} {y0 : MethodName} {R : Room} {u : S} {q : Nat × Nat} {lv : List (Nat × Value)} {pc : Nat} {rest : List Value}
theorem j_ladd (h : OKJ l D cy Wd J cc nL y0 R) {x y : Int64} (hdg : decode cc pc = .ok (.ladd, 1)) (k : J u q lv (pc + 1) (.long (x + y) :: rest)) : J u q lv pc (.long y :: .long x :: rest) := by
  obtain ⟨p, e, s, m, args, below, meth, c, A, H0, Q, h0, hK, hA, hnm, hH0, hZ, rfl⟩ := h
  intro H locs ls hP hD hS hl0
  exact lv_ladd h0.1 h0.2.1 hdg (k H locs ls hP hD hS hl0)
theorem j_lmul (h : OKJ l D cy Wd J cc nL y0 R) {x y : Int64} (hdg : decode cc pc = .ok (.lmul, 1)) (k : J u q lv (pc + 1) (.long (x * y) :: rest)) : J u q lv pc (.long y :: .long x :: rest) := by
  obtain ⟨p, e, s, m, args, below, meth, c, A, H0, Q, h0, hK, hA, hnm, hH0, hZ, rfl⟩ := h
  intro H locs ls hP hD hS hl0
  exact lv_lmul h0.1 h0.2.1 hdg (k H locs ls hP hD hS hl0)
theorem j_i2l (h : OKJ l D cy Wd J cc nL y0 R) {x : Int32} (hdg : decode cc pc = .ok (.i2l, 1)) (k : J u q lv (pc + 1) (.long x.toInt64 :: rest)) : J u q lv pc (.int x :: rest) := by
  obtain ⟨p, e, s, m, args, below, meth, c, A, H0, Q, h0, hK, hA, hnm, hH0, hZ, rfl⟩ := h
  intro H locs ls hP hD hS hl0
  exact lv_i2l h0.1 h0.2.1 hdg rfl (k H locs ls hP hD hS hl0)
theorem j_lcmp (h : OKJ l D cy Wd J cc nL y0 R) {x y : Int64} (hdg : decode cc pc = .ok (.lcmp, 1)) (k : J u q lv (pc + 1) (.int (lg_cmp x y) :: rest)) : J u q lv pc (.long y :: .long x :: rest) := by
  obtain ⟨p, e, s, m, args, below, meth, c, A, H0, Q, h0, hK, hA, hnm, hH0, hZ, rfl⟩ := h
  intro H locs ls hP hD hS hl0
  exact W.lcmp h0.1 h0.2.1 hdg (k H locs ls hP hD hS hl0)
theorem j_fcmp (h : OKJ l D cy Wd J cc nL y0 R) {x y : UInt32} {op : CmpOp} (hdg : decode cc pc = .ok (.fcmp op, 1)) (k : J u q lv (pc + 1) (.int (Op.cmpValue (FP.fcmp x y) op) :: rest)) : J u q lv pc (.float y :: .float x :: rest) := by
  obtain ⟨p, e, s, m, args, below, meth, c, A, H0, Q, h0, hK, hA, hnm, hH0, hZ, rfl⟩ := h
  intro H locs ls hP hD hS hl0
  exact lv_fcmp h0.1 h0.2.1 hdg (k H locs ls hP hD hS hl0)
theorem j_null (h : OKJ l D cy Wd J cc nL y0 R) (hdg : decode cc pc = .ok (.aconst_null, 1)) (k : J u q lv (pc + 1) (.null :: rest)) : J u q lv pc (rest) := by
  obtain ⟨p, e, s, m, args, below, meth, c, A, H0, Q, h0, hK, hA, hnm, hH0, hZ, rfl⟩ := h
  intro H locs ls hP hD hS hl0
  exact lv_null h0.1 h0.2.1 hdg (k H locs ls hP hD hS hl0)
theorem j_ldc2 (h : OKJ l D cy Wd J cc nL y0 R) {index : Nat} {v : Int64} (hconst : Cond.constantLong y0.cls index v ∈ wsL_law) (hdg : decode cc pc = .ok (.ldc2_w index, 3)) (k : J u q lv (pc + 3) (.long v :: rest)) : J u q lv pc (rest) := by
  obtain ⟨p, e, s, m, args, below, meth, c, A, H0, Q, h0, hK, hA, hnm, hH0, hZ, rfl⟩ := h
  intro H locs ls hP hD hS hl0
  exact lv_ldc2 h0.1 h0.2.1 h0.2.2.2.1 (h0.2.2.2.2 _ hconst) hdg (k H locs ls hP hD hS hl0)
theorem j_ldcf (h : OKJ l D cy Wd J cc nL y0 R) {index : Nat} {v : UInt32} (hconst : Cond.constantFloat y0.cls index v ∈ wsL_law) (hdg : decode cc pc = .ok (.ldc index, 2)) (k : J u q lv (pc + 2) (.float v :: rest)) : J u q lv pc (rest) := by
  obtain ⟨p, e, s, m, args, below, meth, c, A, H0, Q, h0, hK, hA, hnm, hH0, hZ, rfl⟩ := h
  intro H locs ls hP hD hS hl0
  exact lv_ldcf h0.1 h0.2.1 h0.2.2.2.1 (h0.2.2.2.2 _ hconst) hdg (k H locs ls hP hD hS hl0)
theorem j_lload_n (h : OKJ l D cy Wd J cc nL y0 R) {k : Fin 4} {i : Nat} {x : Int64} (hdg : decode cc pc = .ok (.lload_n k, 1)) (hi : (k : Nat) = i) (kl : Nat) (hl : lv[kl]? = some (i, (.long x))) (k : J u q lv (pc + 1) (.long x :: rest)) : J u q lv pc rest := by
  obtain ⟨p, e, s, m, args, below, meth, c, A, H0, Q, h0, hK, hA, hnm, hH0, hZ, rfl⟩ := h
  intro H locs ls hP hD hS hl0
  exact lv_lload_n h0.1 h0.2.1 hdg hi (lv_at hl0 kl hl) (k H locs ls hP hD hS hl0)
theorem j_fload_n (h : OKJ l D cy Wd J cc nL y0 R) {k : Fin 4} {i : Nat} {x : UInt32} (hdg : decode cc pc = .ok (.fload_n k, 1)) (hi : (k : Nat) = i) (kl : Nat) (hl : lv[kl]? = some (i, (.float x))) (k : J u q lv (pc + 1) (.float x :: rest)) : J u q lv pc rest := by
  obtain ⟨p, e, s, m, args, below, meth, c, A, H0, Q, h0, hK, hA, hnm, hH0, hZ, rfl⟩ := h
  intro H locs ls hP hD hS hl0
  exact lv_fload_n h0.1 h0.2.1 hdg hi (lv_at hl0 kl hl) (k H locs ls hP hD hS hl0)
theorem j_lload (h : OKJ l D cy Wd J cc nL y0 R) {i : Nat} {x : Int64} (hdg : decode cc pc = .ok (.lload i, 2)) (kl : Nat) (hl : lv[kl]? = some (i, (.long x))) (k : J u q lv (pc + 2) (.long x :: rest)) : J u q lv pc rest := by
  obtain ⟨p, e, s, m, args, below, meth, c, A, H0, Q, h0, hK, hA, hnm, hH0, hZ, rfl⟩ := h
  intro H locs ls hP hD hS hl0
  exact lv_lload h0.1 h0.2.1 hdg (lv_at hl0 kl hl) (k H locs ls hP hD hS hl0)
theorem j_lstore_n (h : OKJ l D cy Wd J cc nL y0 R) {k : Fin 4} {i : Nat} {x : Int64} {lv' : List (Nat × Value)} (hdg : decode cc pc = .ok (.lstore_n k, 1)) (hi : (k : Nat) = i) (hn : i + 1 < nL) (hl : (i, Value.long x) :: lv.filter (fun q => !(q.1 == i) && (!(q.1 == i + 1) && !(q.1 + 1 == i && q.2.category == 2))) = lv') (kk : J u q lv' (pc + 1) rest) : J u q lv pc (.long x :: rest) := by
  obtain ⟨p, e, s, m, args, below, meth, c, A, H0, Q, h0, hK, hA, hnm, hH0, hZ, rfl⟩ := h
  intro H locs ls hP hD hS hl0
  exact lv_lstore_n h0.1 h0.2.1 hdg hi hl0 hn hl (fun ls' hl' => kk H locs ls' hP hD hS hl')
theorem j_lstore (h : OKJ l D cy Wd J cc nL y0 R) {i : Nat} {x : Int64} {lv' : List (Nat × Value)} (hdg : decode cc pc = .ok (.lstore i, 2)) (hn : i + 1 < nL) (hl : (i, Value.long x) :: lv.filter (fun q => !(q.1 == i) && (!(q.1 == i + 1) && !(q.1 + 1 == i && q.2.category == 2))) = lv') (kk : J u q lv' (pc + 2) rest) : J u q lv pc (.long x :: rest) := by
  obtain ⟨p, e, s, m, args, below, meth, c, A, H0, Q, h0, hK, hA, hnm, hH0, hZ, rfl⟩ := h
  intro H locs ls hP hD hS hl0
  exact lv_lstore h0.1 h0.2.1 hdg hl0 hn hl (fun ls' hl' => kk H locs ls' hP hD hS hl')
/-- the script, which nobody writes -/
theorem j_xld (h : OKJ l D cy Wd J cc nL y0 R) (j : Nat) (hj : j < D.2.2.2.2.1) (hL : D.2.2.2.2.1 < 2 ^ 31) (hdg : decode cc pc = .ok (.iaload, 1)) (kk : J u q lv (pc + 1) (.int (D.2.2.2.2.2 j) :: rest)) : J u q lv pc (.int (nI j) :: .ref D.2.2.2.1 :: rest) := by
  obtain ⟨p, e, s, m, args, below, meth, c, A, H0, Q, h0, hK, hA, hnm, hH0, hZ, rfl⟩ := h
  intro H locs ls hP hD hS hl0
  subst hH0
  refine va_sld h0.1 h0.2.1 hZ.2.2.2.2.2.2.1 hZ.2.2.2.2.2.2.lt hZ.2.2.2.2.2.2.2 hS (vp_in_nI hj hL) hdg ?_
  rw [nI_clamp (by omega)]
  exact kk H locs ls hP hD hS hl0
theorem j_xlen (h : OKJ l D cy Wd J cc nL y0 R) (hdg : decode cc pc = .ok (.arraylength, 1)) (kk : J u q lv (pc + 1) (.int (nI D.2.2.2.2.1) :: rest)) : J u q lv pc (.ref D.2.2.2.1 :: rest) := by
  obtain ⟨p, e, s, m, args, below, meth, c, A, H0, Q, h0, hK, hA, hnm, hH0, hZ, rfl⟩ := h
  intro H locs ls hP hD hS hl0
  subst hH0
  exact va_slen h0.1 h0.2.1 hZ.2.2.2.2.2.2.1 hZ.2.2.2.2.2.2.lt hZ.2.2.2.2.2.2.2 hS hdg (kk H locs ls hP hD hS hl0)
theorem j_lald (h : OKJ l D cy Wd J cc nL y0 R) (q0 : Nat) {n a : Nat} {f : Nat → Int64} (ha : (Wd u)[q0]? = some (a, .inl (cy 6, n, .inr (.inl f)))) {i : Int32} (j : Nat) (he : i = nI j) (hj : j < n) (hn : n < 2 ^ 31) (hdg : decode cc pc = .ok (.laload, 1)) (kk : J u q lv (pc + 1) (.long (f j) :: rest)) : J u q lv pc (.int i :: .ref a :: rest) := by
  obtain ⟨p, e, s, m, args, below, meth, c, A, H0, Q, h0, hK, hA, hnm, hH0, hZ, rfl⟩ := h
  intro H locs ls hP hD hS hl0
  subst he
  refine va_lald h0.1 h0.2.1 hK hP q0 6 ha rfl (vp_in_nI hj hn) hdg ?_
  rw [nI_clamp (by omega)]
  exact kk H locs ls hP hD hS hl0
theorem j_last (h : OKJ l D cy Wd J cc nL y0 R) (q0 : Nat) {n a : Nat} {f : Nat → Int64} (ha : (Wd u)[q0]? = some (a, .inl (cy 6, n, .inr (.inl f)))) {i : Int32} {x : Int64} (j : Nat) (he : i = nI j) (hj : j < n) (hn : n < 2 ^ 31) (hdg : decode cc pc = .ok (.lastore, 1)) {u' : S} (hset : (Wd u).set q0 (a, .inl (cy 6, n, .inr (.inl (vp_updL f j x)))) = Wd u') (kk : J u' q lv (pc + 1) rest) : J u q lv pc (.long x :: .int i :: .ref a :: rest) := by
  obtain ⟨p, e, s, m, args, below, meth, c, A, H0, Q, h0, hK, hA, hnm, hH0, hZ, rfl⟩ := h
  intro H locs ls hP hD hS hl0
  subst he
  refine va_last h0.1 h0.2.1 hK hP hD hS q0 6 ha rfl (vp_in_nI hj hn) hdg (fun H1 locs1 hP1 hD1 hS1 => ?_)
  rw [nI_clamp (by omega), hset] at hP1 hD1
  exact kk H1 locs1 ls hP1 hD1 hS1 hl0
end LR
def CtL (l : Launch) (D : gD) (cy : Nat → ClassId) {S : Type} (Wd : S → va_W) (y : MethodName) (cc : ByteArray) (n : Nat) (ret : Option FieldType) (rm : Room) (av : List Value) (u : S) (post : Int64 → S → Prop) (mc ms : Nat) : Prop :=
  ∀ sz : Nat, Met l y (wsB y cc n ret) rm (va_Pc av (wPre D cy Wd u sz)) (va_Ql post (wPost D cy Wd (va_A (Wd u) sz)) (va_A (Wd u) sz)) mc ms (va_A (Wd u) sz)
def RtL {S : Type} (J : JT S) (cc : ByteArray) (post : Int64 → S → Prop) (mc ms : Nat) : Prop := ∀ (u : S) (lv : List (Nat × Value)) (pc : Nat) (r : Int64), decode cc pc = .ok (.lreturn, 1) → post r u → J u (mc, ms) lv pc [.long r]
theorem m_entL {l : Launch} {D : gD} {cy : Nat → ClassId} {S : Type} {Wd : S → va_W} {y : MethodName} {rm : Room} {av : List Value} {u : S} {post : Int64 → S → Prop} {mc ms : Nat} (cc : ByteArray) (n : Nat) (hy : plainName y.cls = true) (hn : (lg_sl av).length ≤ n)
    (body : ∀ J : JT S, OKJ l D cy Wd J cc n y rm → RtL J cc post mc ms → J u (0, 0) (lv_args 0 av) 0 []) : CtL l D cy Wd y cc n (some .long) rm av u post mc ms := by
  intro sz
  refine Met.ofW (cc := cc) (maxL := n) (ret := some .long) hy rfl ?_
  intro p e s m args below meth c s₁ B hml hv
  obtain ⟨rfl, hsz, hP, hK, hD0, hZ0⟩ := hv
  subst hsz
  have hD := hD0.self (sz := s.heap.size)
  have hl := lv_entry av (n := n) hn
  rw [lg_entry_eq]
  generalize (lg_sl av ++ List.replicate (n - (lg_sl av).length) Slot.unset).toArray = ls at hl ⊢
  refine body (fun (u : S) (k : Nat × Nat) (lv : List (Nat × Value)) (pc : Nat) (st : List Value) => ∀ (H : Heap) (locs : List Loc) (ls : Array Slot), va_P D.1 vwCl (Wd u) H → va_D _ (Wd u) → va_S _ s.heap H locs → lv_has ls n lv → W p l e _ s m _ below meth c H locs k.1 k.2 _ (F0 m pc ls st)) ⟨p, e, s, m, _, below, meth, c, va_A (Wd u) s.heap.size, s.heap, _, ⟨B.exec, B.bytes, hml, findClass_of_methodNamed B.named, fun w hw => atoms_spec (ws := wsB y cc n (some .long)) B.pre w (List.mem_cons_of_mem _ hw)⟩, hK, fun q hq => Or.inr hq, (name_of_methodNamed B.named B.method).1, rfl, hZ0, rfl⟩ ?_ s.heap [] ls hP hD va_S.rf hl
  intro u' lv pc r hd hp H locs ls hP' hD' hS' hl'
  exact W.lret B.exec B.bytes B.returns (fun t ht hW => ⟨⟨r, u', rfl, hp, by rw [ht]; exact hP', va_K.moved hW.alike hK, hD'⟩, hS'.F ht⟩) hS'.2.2 hd B.notSynchronized
section LC
variable {p : Program} {l : Launch} {e : Env} {R : Room} {s : State} {m : MethodId} {args : Array Value} {below : List Frame} {meth : Method} {c : Code} {H : Heap} {locs : List Loc} {cells slots : Nat}
/-- an instance call over a stack of up to k words -/
theorem xa_runV {y : MethodName} {bytes cc : ByteArray} {maxL nL mc ms n index : Nat} {ret : Option FieldType} {ws : List Cond} {rm : Room} {Pc : Array Value → State → Prop} {Qc : Array Value → State → Outcome → State → Prop} {free : Addr → Prop} {Ts : List Cond} {own C : String} {b : Addr} {As rest : List Value} {g : JFrame} (k : Nat)
    (S : CallFix p m c cc nL s args Ts own) (hM : Met l y ws rm Pc Qc mc ms free) (cw : CallW R s args own C index y bytes maxL ret ws rm mc ms n) (hk : k + (maxL + 11) + rm.locals ≤ R.locals) (hp : PreV s H C b Pc As)
    (hg : g.method = m) (hn : As.length = n) (hsize : g.locals.size = nL) (hstack : g.stack = As.reverse ++ .ref b :: rest) (hW : 2 * g.monitorRoom + (rest.map fun v => v.category).sum ≤ k) (hdg : decode cc g.pc = .ok (.invokevirtual index, 3)) (hf : cells + mc ≤ R.cells ∧ slots + ms ≤ R.slots) :
    va_Run p l e R s m args below meth c H locs cells slots mc ms g rest (Qc (Value.ref b :: As).toArray) free := by
  obtain ⟨⟨hrc, hrs, hfr, hlo, hws, hcw, hcode, hini, hy, hlen, hl⟩, hin, hse⟩ := cw
  obtain ⟨hx, hb, hml, ho, -⟩ := S
  obtain ⟨hbl, ⟨cellB, hcB, hoB, hclB⟩, hPc⟩ := hp
  intro T hT X
  obtain ⟨v, vm₁, g', mk, t, T', L, X', hL, h1, h2, hq, st⟩ := callVK X hx (W := k) (C := C) (bytes := bytes) (maxL := maxL) (ret := ret) hM hbl hrc hrs hfr hk hws hcw ho hl hin hse hcode hini hy (by rw [hT]; exact hcB) hoB hclB hg (hsize.trans hml.symm) (argsL := As) (rest := rest) (fun sig h => hn.trans (hlen sig h)) hstack hW (by rw [hb]; exact hdg) hf.1 hf.2 (fun vm₁ hW₁ => hPc (T.setVm vm₁) hT hW₁)
  exact ⟨v, (T.setVm vm₁).calling g' mk (Value.ref b :: As).toArray, t, T', L, hT, X', hL, h1, h2, hq, st⟩
end LC
section LD
variable {l : Launch} {D : gD} {cy : Nat → ClassId} {S : Type} {Wd : S → va_W} {J : JT S} {cc : ByteArray} {nL : Nat} {y0 : MethodName} {R : Room} {u : S} {q : Nat × Nat} {lv : List (Nat × Value)} {pc : Nat} {rest : List Value}
theorem j_callIk (k : Nat) (h : OKJ l D cy Wd J cc nL y0 R) {y : MethodName} {rm : Room} {As : List Value} {b : Nat} {post : Int32 → S → Prop} {mc ms index n maxL : Nat} {C : String} {bytes : ByteArray} {ret : Option FieldType} (hM : CtI l D cy Wd y bytes maxL ret rm (.ref b :: As) u post mc ms) (hG : GoodIn wsL_law (wsV y0.cls index C y (wsB y bytes maxL ret))) (hrc : rm.cells = mc) (hrs : rm.slots = ms)
    (hd : y.cls = C ∧ y.cls ≠ "java/lang/invoke/MethodHandle" ∧ y.cls ≠ "java/lang/invoke/VarHandle" ∧ (parseMethodDescriptor y.desc).map (fun d => d.parameters.length) = some n) (hR : rm.frames + 1 ≤ R.frames ∧ 8 + (maxL + 11) + rm.locals ≤ R.locals) (hk8 : k + (maxL + 11) + rm.locals ≤ R.locals) (q0 : Nat) {ci : Nat} {cq : vw_C} {fs : List Value} (hb : (Wd u)[q0]? = some (b, .inr (ci, fs))) (hc : vwCl[ci]? = some cq) (hC : cq.1 = C)
    {st : List Value} (hst : st = As.reverse ++ .ref b :: rest) (hn : As.length = n) (hroom : (rest.map fun v => v.category).sum ≤ k) (hdg : decode cc pc = .ok (.invokevirtual index, 3)) (hf : q.1 + mc ≤ R.cells ∧ q.2 + ms ≤ R.slots)
    (kk : ∀ (r : Int32) (u' : S), post r u' → J u' (q.1 + mc, q.2 + ms) lv (pc + 3) (.int r :: rest)) : J u q lv pc st := by
  obtain ⟨p, e, s, m, args, below, meth, c, A, H0, Q, h0, hK, hA, hnm', hH0, hZ, rfl⟩ := h
  intro H locs ls hP hD hS hl0
  have hF : ∀ q, va_A (Wd u) H.size q → A q := fun q hq => hq.elim (fun ⟨k, e, hk⟩ => hD.2 k _ hk) (fun hz => hA q (Nat.le_trans hS.1 hz))
  refine va_calli (xa_runV k (As := As) (rest := rest) h0 (hM H.size) (cwV n h0.2.2.2.2 hG rfl hrc hrs hd hR) hk8 ⟨wPre_blind, hC ▸ va_recv hK hP hc hb, fun U hU hW => ⟨rfl, by rw [hU], by rw [hU]; exact hP, va_K.moved hW.alike hK, hD.weaken (fun _ _ _ _ => trivial), by rw [hU]; exact ((hZ.kept (hH0 ▸ hS.2.1)).narrow hF).warm hW⟩⟩ rfl hn hl0.1 hst (by show 2 * 0 + _ ≤ _; omega) hdg hf) hS (fun q _ h => hF q h) hF (fun r u' t H1 locs1 ht hvm hw hB hz1 hk1 hS1 => ?_)
  exact kk r u' hw H1 locs1 ls (ht ▸ hB.1) (hB.2.2.weaken (fun k q _ hq => hF _ hq)) hS1 hl0
theorem j_callSL (h : OKJ l D cy Wd J cc nL y0 R) {y : MethodName} {rm : Room} {As : List Value} {post : Int64 → S → Prop} {mc ms index n maxL : Nat} {bytes : ByteArray} {ret : Option FieldType} (hM : CtL l D cy Wd y bytes maxL ret rm As u post mc ms) (hG : GoodIn wsL_law (va_wsS y0.cls index y (wsB y bytes maxL ret))) (hrc : rm.cells = mc) (hrs : rm.slots = ms)
    (hd : y.cls ≠ "java/lang/invoke/MethodHandle" ∧ y.cls ≠ "java/lang/invoke/VarHandle" ∧ (parseMethodDescriptor y.desc).map (fun d => d.parameters.length) = some n) (hR : rm.frames + 1 ≤ R.frames ∧ 8 + (maxL + 11) + rm.locals ≤ R.locals)
    {st : List Value} (hst : st = As.reverse ++ rest) (hn : As.length = n) (hroom : (rest.map fun v => v.category).sum ≤ 8) (hdg : decode cc pc = .ok (.invokestatic index, 3)) (hf : q.1 + mc ≤ R.cells ∧ q.2 + ms ≤ R.slots)
    (kk : ∀ (r : Int64) (u' : S), post r u' → J u' (q.1 + mc, q.2 + ms) lv (pc + 3) (.long r :: rest)) : J u q lv pc st := by
  obtain ⟨p, e, s, m, args, below, meth, c, A, H0, Q, h0, hK, hA, hnm', hH0, hZ, rfl⟩ := h
  intro H locs ls hP hD hS hl0
  have hF : ∀ q, va_A (Wd u) H.size q → A q := fun q hq => hq.elim (fun ⟨k, e, hk⟩ => hD.2 k _ hk) (fun hz => hA q (Nat.le_trans hS.1 hz))
  refine va_calll (va_runS (As := As) (rest := rest) h0 (hM H.size) (va_cwS n h0.2.2.2.2 hG rfl hrc hrs hd hR) ⟨wPre_blind, fun U hU hW => ⟨rfl, by rw [hU], by rw [hU]; exact hP, va_K.moved hW.alike hK, hD.weaken (fun _ _ _ _ => trivial), by rw [hU]; exact ((hZ.kept (hH0 ▸ hS.2.1)).narrow hF).warm hW⟩⟩ rfl hn hl0.1 hst (lv_room hroom) hdg hf) hS (fun q _ h => hF q h) hF (fun r u' t H1 locs1 ht hvm hw hB hz1 hk1 hS1 => ?_)
  exact kk r u' hw H1 locs1 ls (ht ▸ hB.1) (hB.2.2.weaken (fun k q _ hq => hF _ hq)) hS1 hl0
end LD
section LB
variable {l : Launch} {D : gD} {cy : Nat → ClassId} {J : JT va_W} {cc : ByteArray} {nL : Nat} {y0 : MethodName} {R : Room} {u : va_W} {q : Nat × Nat} {lv : List (Nat × Value)} {pc : Nat} {rest : List Value}
theorem j_bS (h : OKJ l D cy wI J cc nL y0 R) {S1 : Type} {Wd1 : S1 → va_W} {u1 : S1} {wr : va_W} {y : MethodName} {rm : Room} {As : List Value} {post : Int32 → S1 → Prop} {mc ms index n maxL : Nat} {bytes : ByteArray} {ret : Option FieldType} (hM : CtI l D cy Wd1 y bytes maxL ret rm As u1 post mc ms) (hu : u = wr ++ Wd1 u1) (hG : GoodIn wsL_law (va_wsS y0.cls index y (wsB y bytes maxL ret))) (hrc : rm.cells = mc) (hrs : rm.slots = ms)
    (hd : y.cls ≠ "java/lang/invoke/MethodHandle" ∧ y.cls ≠ "java/lang/invoke/VarHandle" ∧ (parseMethodDescriptor y.desc).map (fun d => d.parameters.length) = some n) (hR : rm.frames + 1 ≤ R.frames ∧ 8 + (maxL + 11) + rm.locals ≤ R.locals)
    {st : List Value} (hst : st = As.reverse ++ rest) (hn : As.length = n) (hroom : (rest.map fun v => v.category).sum ≤ 8) (hdg : decode cc pc = .ok (.invokestatic index, 3)) (hf : q.1 + mc ≤ R.cells ∧ q.2 + ms ≤ R.slots)
    (kk : ∀ (r : Int32) (v : S1), post r v → J (wr ++ Wd1 v) (q.1 + mc, q.2 + ms) lv (pc + 3) (.int r :: rest)) : J u q lv pc st := by
  obtain ⟨p, e, s, m, args, below, meth, c, A, H0, Q, h0, hK, hA, hnm', hH0, hZ, rfl⟩ := h
  intro H locs ls hP hD hS hl0
  subst hu
  have hCc : (List.range' wr.length (Wd1 u1).length).map (fun i => (wr ++ Wd1 u1)[i]?) = (Wd1 u1).map some := rg_r wr (Wd1 u1)
  have hFc := va_free (wc := Wd1 u1) hD hS hA _ hCc
  have hPc : va_P D.1 vwCl (Wd1 u1) H := hP.sub _ (fm_of hCc)
  have hDc : va_D A (Wd1 u1) := hD.sub _ (nd_rg _ _) hCc
  refine va_calli (va_runS (As := As) (rest := rest) h0 (hM H.size) (va_cwS n h0.2.2.2.2 hG rfl hrc hrs hd hR) ⟨wPre_blind, fun U hU hW => ⟨rfl, by rw [hU], by rw [hU]; exact hPc, va_K.moved hW.alike hK, hDc.weaken (fun _ _ _ _ => trivial), by rw [hU]; exact ((hZ.kept (hH0 ▸ hS.2.1)).narrow hFc).warm hW⟩⟩ rfl hn hl0.1 hst (lv_room hroom) hdg hf) hS (fun q _ h => hFc q h) hFc (fun r v t H1 locs1 ht hvm hw hB hz1 hk1 hS1 => ?_)
  obtain ⟨hP2, hD2⟩ := va_join hP hD _ (List.range' 0 wr.length) hCc (rg_l wr (Wd1 u1)) (nd_rg _ _) (rg_dis _ _) hk1 hFc (ht ▸ hB.1) hB.2.2
  exact kk r v hw H1 locs1 ls (hP2) (hD2) hS1 hl0
theorem j_bSL (h : OKJ l D cy wI J cc nL y0 R) {S1 : Type} {Wd1 : S1 → va_W} {u1 : S1} {wr : va_W} {y : MethodName} {rm : Room} {As : List Value} {post : Int64 → S1 → Prop} {mc ms index n maxL : Nat} {bytes : ByteArray} {ret : Option FieldType} (hM : CtL l D cy Wd1 y bytes maxL ret rm As u1 post mc ms) (hu : u = wr ++ Wd1 u1) (hG : GoodIn wsL_law (va_wsS y0.cls index y (wsB y bytes maxL ret))) (hrc : rm.cells = mc) (hrs : rm.slots = ms)
    (hd : y.cls ≠ "java/lang/invoke/MethodHandle" ∧ y.cls ≠ "java/lang/invoke/VarHandle" ∧ (parseMethodDescriptor y.desc).map (fun d => d.parameters.length) = some n) (hR : rm.frames + 1 ≤ R.frames ∧ 8 + (maxL + 11) + rm.locals ≤ R.locals)
    {st : List Value} (hst : st = As.reverse ++ rest) (hn : As.length = n) (hroom : (rest.map fun v => v.category).sum ≤ 8) (hdg : decode cc pc = .ok (.invokestatic index, 3)) (hf : q.1 + mc ≤ R.cells ∧ q.2 + ms ≤ R.slots)
    (kk : ∀ (r : Int64) (v : S1), post r v → J (wr ++ Wd1 v) (q.1 + mc, q.2 + ms) lv (pc + 3) (.long r :: rest)) : J u q lv pc st := by
  obtain ⟨p, e, s, m, args, below, meth, c, A, H0, Q, h0, hK, hA, hnm', hH0, hZ, rfl⟩ := h
  intro H locs ls hP hD hS hl0
  subst hu
  have hCc : (List.range' wr.length (Wd1 u1).length).map (fun i => (wr ++ Wd1 u1)[i]?) = (Wd1 u1).map some := rg_r wr (Wd1 u1)
  have hFc := va_free (wc := Wd1 u1) hD hS hA _ hCc
  have hPc : va_P D.1 vwCl (Wd1 u1) H := hP.sub _ (fm_of hCc)
  have hDc : va_D A (Wd1 u1) := hD.sub _ (nd_rg _ _) hCc
  refine va_calll (va_runS (As := As) (rest := rest) h0 (hM H.size) (va_cwS n h0.2.2.2.2 hG rfl hrc hrs hd hR) ⟨wPre_blind, fun U hU hW => ⟨rfl, by rw [hU], by rw [hU]; exact hPc, va_K.moved hW.alike hK, hDc.weaken (fun _ _ _ _ => trivial), by rw [hU]; exact ((hZ.kept (hH0 ▸ hS.2.1)).narrow hFc).warm hW⟩⟩ rfl hn hl0.1 hst (lv_room hroom) hdg hf) hS (fun q _ h => hFc q h) hFc (fun r v t H1 locs1 ht hvm hw hB hz1 hk1 hS1 => ?_)
  obtain ⟨hP2, hD2⟩ := va_join hP hD _ (List.range' 0 wr.length) hCc (rg_l wr (Wd1 u1)) (nd_rg _ _) (rg_dis _ _) hk1 hFc (ht ▸ hB.1) hB.2.2
  exact kk r v hw H1 locs1 ls (hP2) (hD2) hS1 hl0
theorem j_bIk (k : Nat) (h : OKJ l D cy wI J cc nL y0 R) {S1 : Type} {Wd1 : S1 → va_W} {u1 : S1} {wr : va_W} {y : MethodName} {rm : Room} {As : List Value} {b : Nat} {post : Int32 → S1 → Prop} {mc ms index n maxL : Nat} {C : String} {bytes : ByteArray} {ret : Option FieldType} (hM : CtI l D cy Wd1 y bytes maxL ret rm (.ref b :: As) u1 post mc ms) (hu : u = wr ++ Wd1 u1) (hG : GoodIn wsL_law (wsV y0.cls index C y (wsB y bytes maxL ret))) (hrc : rm.cells = mc) (hrs : rm.slots = ms)
    (hd : y.cls = C ∧ y.cls ≠ "java/lang/invoke/MethodHandle" ∧ y.cls ≠ "java/lang/invoke/VarHandle" ∧ (parseMethodDescriptor y.desc).map (fun d => d.parameters.length) = some n) (hR : rm.frames + 1 ≤ R.frames ∧ 8 + (maxL + 11) + rm.locals ≤ R.locals) (hk8 : k + (maxL + 11) + rm.locals ≤ R.locals) (q0 : Nat) {ci : Nat} {cq : vw_C} {fs : List Value} (hb : (Wd1 u1)[q0]? = some (b, .inr (ci, fs))) (hc : vwCl[ci]? = some cq) (hC : cq.1 = C)
    {st : List Value} (hst : st = As.reverse ++ .ref b :: rest) (hn : As.length = n) (hroom : (rest.map fun v => v.category).sum ≤ k) (hdg : decode cc pc = .ok (.invokevirtual index, 3)) (hf : q.1 + mc ≤ R.cells ∧ q.2 + ms ≤ R.slots)
    (kk : ∀ (r : Int32) (v : S1), post r v → J (wr ++ Wd1 v) (q.1 + mc, q.2 + ms) lv (pc + 3) (.int r :: rest)) : J u q lv pc st := by
  obtain ⟨p, e, s, m, args, below, meth, c, A, H0, Q, h0, hK, hA, hnm', hH0, hZ, rfl⟩ := h
  intro H locs ls hP hD hS hl0
  subst hu
  have hCc : (List.range' wr.length (Wd1 u1).length).map (fun i => (wr ++ Wd1 u1)[i]?) = (Wd1 u1).map some := rg_r wr (Wd1 u1)
  have hFc := va_free (wc := Wd1 u1) hD hS hA _ hCc
  have hPc : va_P D.1 vwCl (Wd1 u1) H := hP.sub _ (fm_of hCc)
  have hDc : va_D A (Wd1 u1) := hD.sub _ (nd_rg _ _) hCc
  refine va_calli (xa_runV k (As := As) (rest := rest) h0 (hM H.size) (cwV n h0.2.2.2.2 hG rfl hrc hrs hd hR) hk8 ⟨wPre_blind, hC ▸ va_recv hK hPc hc hb, fun U hU hW => ⟨rfl, by rw [hU], by rw [hU]; exact hPc, va_K.moved hW.alike hK, hDc.weaken (fun _ _ _ _ => trivial), by rw [hU]; exact ((hZ.kept (hH0 ▸ hS.2.1)).narrow hFc).warm hW⟩⟩ rfl hn hl0.1 hst (by show 2 * 0 + _ ≤ _; omega) hdg hf) hS (fun q _ h => hFc q h) hFc (fun r v t H1 locs1 ht hvm hw hB hz1 hk1 hS1 => ?_)
  obtain ⟨hP2, hD2⟩ := va_join hP hD _ (List.range' 0 wr.length) hCc (rg_l wr (Wd1 u1)) (nd_rg _ _) (rg_dis _ _) hk1 hFc (ht ▸ hB.1) hB.2.2
  exact kk r v hw H1 locs1 ls (hP2) (hD2) hS1 hl0
end LB
def RtWI (D : gD) {S : Type} (Wd : S → va_W) (J : JT va_W) (cc : ByteArray) (post : Int32 → S → Prop) (mc ms : Nat) : Prop := ∀ (w : va_W) (u : S) (lv : List (Nat × Value)) (pc : Nat) (r : Int32), decode cc pc = .ok (.ireturn, 1) → post r u → (∀ H : Heap, va_P D.1 vwCl w H → va_P D.1 vwCl (Wd u) H) → (∀ A : Nat → Prop, va_D A w → va_D A (Wd u)) → J w (mc, ms) lv pc [.int r]
theorem m_entWI {l : Launch} {D : gD} {cy : Nat → ClassId} {S : Type} {Wd : S → va_W} {y : MethodName} {rm : Room} {av : List Value} {u : S} {post : Int32 → S → Prop} {mc ms : Nat} (cc : ByteArray) (n : Nat) (hy : plainName y.cls = true) (hn : (lg_sl av).length ≤ n)
    (body : ∀ J : JT va_W, OKJ l D cy wI J cc n y rm → RtWI D Wd J cc post mc ms → J (Wd u) (0, 0) (lv_args 0 av) 0 []) : CtI l D cy Wd y cc n (some .int) rm av u post mc ms := by
  intro sz
  refine Met.ofW (cc := cc) (maxL := n) (ret := some .int) hy rfl ?_
  intro p e s m args below meth c s₁ B hml hv
  obtain ⟨rfl, hsz, hP, hK, hD0, hZ0⟩ := hv
  subst hsz
  have hD := hD0.self (sz := s.heap.size)
  have hl := lv_entry av (n := n) hn
  rw [lg_entry_eq]
  generalize (lg_sl av ++ List.replicate (n - (lg_sl av).length) Slot.unset).toArray = ls at hl ⊢
  refine body (fun (w : va_W) (k : Nat × Nat) (lv : List (Nat × Value)) (pc : Nat) (st : List Value) => ∀ (H : Heap) (locs : List Loc) (ls : Array Slot), va_P D.1 vwCl w H → va_D _ w → va_S _ s.heap H locs → lv_has ls n lv → W p l e _ s m _ below meth c H locs k.1 k.2 _ (F0 m pc ls st)) ⟨p, e, s, m, _, below, meth, c, va_A (Wd u) s.heap.size, s.heap, _, ⟨B.exec, B.bytes, hml, findClass_of_methodNamed B.named, fun w hw => atoms_spec (ws := wsB y cc n (some .int)) B.pre w (List.mem_cons_of_mem _ hw)⟩, hK, fun q hq => Or.inr hq, (name_of_methodNamed B.named B.method).1, rfl, hZ0, rfl⟩ ?_ s.heap [] ls hP hD va_S.rf hl
  intro w u' lv pc r hd hp hPc hDc H locs ls hP' hD' hS' hl'
  exact W.iret B.exec B.bytes B.returns (fun t ht hW => ⟨⟨r, u', rfl, hp, by rw [ht]; exact hPc _ hP', va_K.moved hW.alike hK, hDc _ hD'⟩, hS'.F ht⟩) hS'.2.2 hd B.notSynchronized
def RtWZ (D : gD) {S : Type} (Wd : S → va_W) (J : JT va_W) (cc : ByteArray) (post : Int32 → S → Prop) (mc ms : Nat) : Prop := ∀ (w : va_W) (u : S) (lv : List (Nat × Value)) (pc : Nat) (r : Int32), decode cc pc = .ok (.ireturn, 1) → (r = 0 ∨ r = 1) → post r u → (∀ H : Heap, va_P D.1 vwCl w H → va_P D.1 vwCl (Wd u) H) → (∀ A : Nat → Prop, va_D A w → va_D A (Wd u)) → J w (mc, ms) lv pc [.int r]
theorem m_entWZ {l : Launch} {D : gD} {cy : Nat → ClassId} {S : Type} {Wd : S → va_W} {y : MethodName} {rm : Room} {av : List Value} {u : S} {post : Int32 → S → Prop} {mc ms : Nat} (cc : ByteArray) (n : Nat) (hy : plainName y.cls = true) (hn : (lg_sl av).length ≤ n)
    (body : ∀ J : JT va_W, OKJ l D cy wI J cc n y rm → RtWZ D Wd J cc post mc ms → J (Wd u) (0, 0) (lv_args 0 av) 0 []) : CtI l D cy Wd y cc n (some .boolean) rm av u post mc ms := by
  intro sz
  refine Met.ofW (cc := cc) (maxL := n) (ret := some .boolean) hy rfl ?_
  intro p e s m args below meth c s₁ B hml hv
  obtain ⟨rfl, hsz, hP, hK, hD0, hZ0⟩ := hv
  subst hsz
  have hD := hD0.self (sz := s.heap.size)
  have hl := lv_entry av (n := n) hn
  rw [lg_entry_eq]
  generalize (lg_sl av ++ List.replicate (n - (lg_sl av).length) Slot.unset).toArray = ls at hl ⊢
  refine body (fun (w : va_W) (k : Nat × Nat) (lv : List (Nat × Value)) (pc : Nat) (st : List Value) => ∀ (H : Heap) (locs : List Loc) (ls : Array Slot), va_P D.1 vwCl w H → va_D _ w → va_S _ s.heap H locs → lv_has ls n lv → W p l e _ s m _ below meth c H locs k.1 k.2 _ (F0 m pc ls st)) ⟨p, e, s, m, _, below, meth, c, va_A (Wd u) s.heap.size, s.heap, _, ⟨B.exec, B.bytes, hml, findClass_of_methodNamed B.named, fun w hw => atoms_spec (ws := wsB y cc n (some .boolean)) B.pre w (List.mem_cons_of_mem _ hw)⟩, hK, fun q hq => Or.inr hq, (name_of_methodNamed B.named B.method).1, rfl, hZ0, rfl⟩ ?_ s.heap [] ls hP hD va_S.rf hl
  intro w u' lv pc r hd hr01 hp hPc hDc H locs ls hP' hD' hS' hl'
  exact W.zret B.exec B.bytes B.returns (by rcases hr01 with rfl | rfl <;> rfl) (fun t ht hW => ⟨⟨r, u', rfl, hp, by rw [ht]; exact hPc _ hP', va_K.moved hW.alike hK, hDc _ hD'⟩, hS'.F ht⟩) hS'.2.2 hd B.notSynchronized
def RtWL (D : gD) {S : Type} (Wd : S → va_W) (J : JT va_W) (cc : ByteArray) (post : Int64 → S → Prop) (mc ms : Nat) : Prop := ∀ (w : va_W) (u : S) (lv : List (Nat × Value)) (pc : Nat) (r : Int64), decode cc pc = .ok (.lreturn, 1) → post r u → (∀ H : Heap, va_P D.1 vwCl w H → va_P D.1 vwCl (Wd u) H) → (∀ A : Nat → Prop, va_D A w → va_D A (Wd u)) → J w (mc, ms) lv pc [.long r]
theorem m_entWL {l : Launch} {D : gD} {cy : Nat → ClassId} {S : Type} {Wd : S → va_W} {y : MethodName} {rm : Room} {av : List Value} {u : S} {post : Int64 → S → Prop} {mc ms : Nat} (cc : ByteArray) (n : Nat) (hy : plainName y.cls = true) (hn : (lg_sl av).length ≤ n)
    (body : ∀ J : JT va_W, OKJ l D cy wI J cc n y rm → RtWL D Wd J cc post mc ms → J (Wd u) (0, 0) (lv_args 0 av) 0 []) : CtL l D cy Wd y cc n (some .long) rm av u post mc ms := by
  intro sz
  refine Met.ofW (cc := cc) (maxL := n) (ret := some .long) hy rfl ?_
  intro p e s m args below meth c s₁ B hml hv
  obtain ⟨rfl, hsz, hP, hK, hD0, hZ0⟩ := hv
  subst hsz
  have hD := hD0.self (sz := s.heap.size)
  have hl := lv_entry av (n := n) hn
  rw [lg_entry_eq]
  generalize (lg_sl av ++ List.replicate (n - (lg_sl av).length) Slot.unset).toArray = ls at hl ⊢
  refine body (fun (w : va_W) (k : Nat × Nat) (lv : List (Nat × Value)) (pc : Nat) (st : List Value) => ∀ (H : Heap) (locs : List Loc) (ls : Array Slot), va_P D.1 vwCl w H → va_D _ w → va_S _ s.heap H locs → lv_has ls n lv → W p l e _ s m _ below meth c H locs k.1 k.2 _ (F0 m pc ls st)) ⟨p, e, s, m, _, below, meth, c, va_A (Wd u) s.heap.size, s.heap, _, ⟨B.exec, B.bytes, hml, findClass_of_methodNamed B.named, fun w hw => atoms_spec (ws := wsB y cc n (some .long)) B.pre w (List.mem_cons_of_mem _ hw)⟩, hK, fun q hq => Or.inr hq, (name_of_methodNamed B.named B.method).1, rfl, hZ0, rfl⟩ ?_ s.heap [] ls hP hD va_S.rf hl
  intro w u' lv pc r hd hp hPc hDc H locs ls hP' hD' hS' hl'
  exact W.lret B.exec B.bytes B.returns (fun t ht hW => ⟨⟨r, u', rfl, hp, by rw [ht]; exact hPc _ hP', va_K.moved hW.alike hK, hDc _ hD'⟩, hS'.F ht⟩) hS'.2.2 hd B.notSynchronized

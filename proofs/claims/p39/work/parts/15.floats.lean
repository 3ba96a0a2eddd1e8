theorem n32 (x y : Int32) (hy : ¬ y = 0) : vf_n32 (FP.fdiv (FP.i2f x) (FP.i2f y)) := by
  have h1 : Jvm.FP.Core.fIsNaN (Jvm.FP.Core.i2f x) = false := by
    have := Jvm.FP.Core.i2f_fin x
    rw [Jvm.FP.Core.notNaN_iff32, Jvm.FP.Core.ne_nan32]
    rw [Jvm.FP.Core.fin_bits32] at this; omega
  have h2 : ¬ Jvm.FP.Core.FZero (Jvm.FP.Core.i2f y) := by
    have := Jvm.FP.Core.i2f_ne_zero hy
    rw [Jvm.FP.Core.zero_bits232]; exact this
  have h3 := Jvm.FP.Core.fdiv_out h1 (Jvm.FP.Core.i2f_fin y) h2
  rw [Jvm.FP.Core.notNaN_iff32, Jvm.FP.Core.ne_nan32] at h3
  have e : FP.fdiv (FP.i2f x) (FP.i2f y) = Jvm.FP.Core.fdiv (Jvm.FP.Core.i2f x) (Jvm.FP.Core.i2f y) := rfl
  rw [e]
  generalize Jvm.FP.Core.fdiv (Jvm.FP.Core.i2f x) (Jvm.FP.Core.i2f y) = r at h3
  unfold vf_n32
  rw [UInt32.le_iff_toNat_le, UInt32.toNat_and]
  have : (0x7fffffff : UInt32).toNat = 2 ^ 31 - 1 := rfl
  rw [this, Nat.and_two_pow_sub_one_eq_mod]
  exact h3
theorem n64 (x y : Int32) (hy : ¬ y = 0) : vf_n64 (FP.ddiv (FP.i2d x) (FP.i2d y)) := by
  have h1 : Jvm.FP.Core.dIsNaN (Jvm.FP.Core.i2d x) = false := by
    have := Jvm.FP.Core.i2d_fin x
    rw [Jvm.FP.Core.notNaN_iff, Jvm.FP.Core.ne_nan]
    rw [Jvm.FP.Core.fin_bits] at this; omega
  have h2 : ¬ Jvm.FP.Core.DZero (Jvm.FP.Core.i2d y) := by
    have := Jvm.FP.Core.i2d_ne_zero hy
    rw [Jvm.FP.Core.zero_bits2]; exact this
  have h3 := Jvm.FP.Core.ddiv_out h1 (Jvm.FP.Core.i2d_fin y) h2
  rw [Jvm.FP.Core.notNaN_iff, Jvm.FP.Core.ne_nan] at h3
  have e : FP.ddiv (FP.i2d x) (FP.i2d y) = Jvm.FP.Core.ddiv (Jvm.FP.Core.i2d x) (Jvm.FP.Core.i2d y) := rfl
  rw [e]
  generalize Jvm.FP.Core.ddiv (Jvm.FP.Core.i2d x) (Jvm.FP.Core.i2d y) = r at h3
  unfold vf_n64
  rw [UInt64.le_iff_toNat_le, UInt64.toNat_and]
  have : (0x7fffffffffffffff : UInt64).toNat = 2 ^ 63 - 1 := rfl
  rw [this, Nat.and_two_pow_sub_one_eq_mod]
  exact h3

def CtF (l : Launch) (D : gD) (cy : Nat → ClassId) {S : Type} (Wd : S → va_W) (y : MethodName) (cc : ByteArray) (n : Nat) (ret : Option FieldType) (rm : Room) (av : List Value) (u : S) (post : UInt32 → S → Prop) (mc ms : Nat) : Prop :=
  ∀ sz : Nat, Met l y (wsB y cc n ret) rm (va_Pc av (wPre D cy Wd u sz)) (va_Qf post (wPost D cy Wd (va_A (Wd u) sz)) (va_A (Wd u) sz)) mc ms (va_A (Wd u) sz)
def RtF {S : Type} (J : JT S) (cc : ByteArray) (post : UInt32 → S → Prop) (mc ms : Nat) : Prop := ∀ (u : S) (lv : List (Nat × Value)) (pc : Nat) (r : UInt32), decode cc pc = .ok (.freturn, 1) → post r u → J u (mc, ms) lv pc [.float r]
theorem m_entF {l : Launch} {D : gD} {cy : Nat → ClassId} {S : Type} {Wd : S → va_W} {y : MethodName} {rm : Room} {av : List Value} {u : S} {post : UInt32 → S → Prop} {mc ms : Nat} (cc : ByteArray) (n : Nat) (hy : plainName y.cls = true) (hn : (lg_sl av).length ≤ n)
    (body : ∀ J : JT S, OKJ l D cy Wd J cc n y rm → RtF J cc post mc ms → J u (0, 0) (lv_args 0 av) 0 []) : CtF l D cy Wd y cc n (some .float) rm av u post mc ms := by
  intro sz
  refine Met.ofW (cc := cc) (maxL := n) (ret := some .float) hy rfl ?_
  intro p e s m args below meth c s₁ B hml hv
  obtain ⟨rfl, hsz, hP, hK, hD0, hZ0⟩ := hv
  subst hsz
  have hD := hD0.self (sz := s.heap.size)
  have hl := lv_entry av (n := n) hn
  rw [lg_entry_eq]
  generalize (lg_sl av ++ List.replicate (n - (lg_sl av).length) Slot.unset).toArray = ls at hl ⊢
  refine body (fun (u : S) (k : Nat × Nat) (lv : List (Nat × Value)) (pc : Nat) (st : List Value) => ∀ (H : Heap) (locs : List Loc) (ls : Array Slot), va_P D.1 vwCl (Wd u) H → va_D _ (Wd u) → va_S _ s.heap H locs → lv_has ls n lv → W p l e _ s m _ below meth c H locs k.1 k.2 _ (F0 m pc ls st)) ⟨p, e, s, m, _, below, meth, c, va_A (Wd u) s.heap.size, s.heap, _, ⟨B.exec, B.bytes, hml, findClass_of_methodNamed B.named, fun w hw => atoms_spec (ws := wsB y cc n (some .float)) B.pre w (List.mem_cons_of_mem _ hw)⟩, hK, fun q hq => Or.inr hq, (name_of_methodNamed B.named B.method).1, rfl, hZ0, rfl⟩ ?_ s.heap [] ls hP hD va_S.rf hl
  intro u' lv pc r hd hp H locs ls hP' hD' hS' hl'
  exact W.fret B.exec B.bytes B.returns (fun t ht hW => ⟨⟨r, u', rfl, hp, by rw [ht]; exact hP', va_K.moved hW.alike hK, hD'⟩, hS'.F ht⟩) hS'.2.2 hd B.notSynchronized
def CtD (l : Launch) (D : gD) (cy : Nat → ClassId) {S : Type} (Wd : S → va_W) (y : MethodName) (cc : ByteArray) (n : Nat) (ret : Option FieldType) (rm : Room) (av : List Value) (u : S) (post : UInt64 → S → Prop) (mc ms : Nat) : Prop :=
  ∀ sz : Nat, Met l y (wsB y cc n ret) rm (va_Pc av (wPre D cy Wd u sz)) (va_Qd post (wPost D cy Wd (va_A (Wd u) sz)) (va_A (Wd u) sz)) mc ms (va_A (Wd u) sz)
def RtD {S : Type} (J : JT S) (cc : ByteArray) (post : UInt64 → S → Prop) (mc ms : Nat) : Prop := ∀ (u : S) (lv : List (Nat × Value)) (pc : Nat) (r : UInt64), decode cc pc = .ok (.dreturn, 1) → post r u → J u (mc, ms) lv pc [.double r]
theorem m_entD {l : Launch} {D : gD} {cy : Nat → ClassId} {S : Type} {Wd : S → va_W} {y : MethodName} {rm : Room} {av : List Value} {u : S} {post : UInt64 → S → Prop} {mc ms : Nat} (cc : ByteArray) (n : Nat) (hy : plainName y.cls = true) (hn : (lg_sl av).length ≤ n)
    (body : ∀ J : JT S, OKJ l D cy Wd J cc n y rm → RtD J cc post mc ms → J u (0, 0) (lv_args 0 av) 0 []) : CtD l D cy Wd y cc n (some .double) rm av u post mc ms := by
  intro sz
  refine Met.ofW (cc := cc) (maxL := n) (ret := some .double) hy rfl ?_
  intro p e s m args below meth c s₁ B hml hv
  obtain ⟨rfl, hsz, hP, hK, hD0, hZ0⟩ := hv
  subst hsz
  have hD := hD0.self (sz := s.heap.size)
  have hl := lv_entry av (n := n) hn
  rw [lg_entry_eq]
  generalize (lg_sl av ++ List.replicate (n - (lg_sl av).length) Slot.unset).toArray = ls at hl ⊢
  refine body (fun (u : S) (k : Nat × Nat) (lv : List (Nat × Value)) (pc : Nat) (st : List Value) => ∀ (H : Heap) (locs : List Loc) (ls : Array Slot), va_P D.1 vwCl (Wd u) H → va_D _ (Wd u) → va_S _ s.heap H locs → lv_has ls n lv → W p l e _ s m _ below meth c H locs k.1 k.2 _ (F0 m pc ls st)) ⟨p, e, s, m, _, below, meth, c, va_A (Wd u) s.heap.size, s.heap, _, ⟨B.exec, B.bytes, hml, findClass_of_methodNamed B.named, fun w hw => atoms_spec (ws := wsB y cc n (some .double)) B.pre w (List.mem_cons_of_mem _ hw)⟩, hK, fun q hq => Or.inr hq, (name_of_methodNamed B.named B.method).1, rfl, hZ0, rfl⟩ ?_ s.heap [] ls hP hD va_S.rf hl
  intro u' lv pc r hd hp H locs ls hP' hD' hS' hl'
  exact W.dret B.exec B.bytes B.returns (fun t ht hW => ⟨⟨r, u', rfl, hp, by rw [ht]; exact hP', va_K.moved hW.alike hK, hD'⟩, hS'.F ht⟩) hS'.2.2 hd B.notSynchronized
section J2
variable {l : Launch} {D : gD} {cy : Nat → ClassId} {S : Type} {Wd : S → va_W} {J : JT S} {cc : ByteArray} {nL : Nat} {y0 : MethodName} {R : Room} {u : S} {q : Nat × Nat} {lv : List (Nat × Value)} {pc : Nat} {rest : List Value}
theorem j_callF (h : OKJ l D cy Wd J cc nL y0 R) {y : MethodName} {rm : Room} {As : List Value} {b : Nat} {post : UInt32 → S → Prop} {mc ms index n maxL : Nat} {C : String} {bytes : ByteArray} {ret : Option FieldType} (hM : CtF l D cy Wd y bytes maxL ret rm (.ref b :: As) u post mc ms) (hG : GoodIn wsL_law (wsV y0.cls index C y (wsB y bytes maxL ret))) (hrc : rm.cells = mc) (hrs : rm.slots = ms)
    (hd : y.cls = C ∧ y.cls ≠ "java/lang/invoke/MethodHandle" ∧ y.cls ≠ "java/lang/invoke/VarHandle" ∧ (parseMethodDescriptor y.desc).map (fun d => d.parameters.length) = some n) (hR : rm.frames + 1 ≤ R.frames ∧ 8 + (maxL + 11) + rm.locals ≤ R.locals) (q0 : Nat) {ci : Nat} {cq : vw_C} {fs : List Value} (hb : (Wd u)[q0]? = some (b, .inr (ci, fs))) (hc : vwCl[ci]? = some cq) (hC : cq.1 = C)
    {st : List Value} (hst : st = As.reverse ++ .ref b :: rest) (hn : As.length = n) (hroom : (rest.map fun v => v.category).sum ≤ 8) (hdg : decode cc pc = .ok (.invokevirtual index, 3)) (hf : q.1 + mc ≤ R.cells ∧ q.2 + ms ≤ R.slots)
    (kk : ∀ (r : UInt32) (u' : S), post r u' → J u' (q.1 + mc, q.2 + ms) lv (pc + 3) (.float r :: rest)) : J u q lv pc st := by
  obtain ⟨p, e, s, m, args, below, meth, c, A, H0, Q, h0, hK, hA, hnm', hH0, hZ, rfl⟩ := h
  intro H locs ls hP hD hS hl0
  have hF : ∀ q, va_A (Wd u) H.size q → A q := fun q hq => hq.elim (fun ⟨k, e, hk⟩ => hD.2 k _ hk) (fun hz => hA q (Nat.le_trans hS.1 hz))
  refine va_callf (va_runV (As := As) (rest := rest) h0 (hM H.size) (cwV n h0.2.2.2.2 hG rfl hrc hrs hd hR) ⟨wPre_blind, hC ▸ va_recv hK hP hc hb, fun U hU hW => ⟨rfl, by rw [hU], by rw [hU]; exact hP, va_K.moved hW.alike hK, hD.weaken (fun _ _ _ _ => trivial), by rw [hU]; exact ((hZ.kept (hH0 ▸ hS.2.1)).narrow hF).warm hW⟩⟩ rfl hn hl0.1 hst (lv_room hroom) hdg hf) hS (fun q _ h => hF q h) hF (fun r u' t H1 locs1 ht hvm hw hB hz1 hk1 hS1 => ?_)
  exact kk r u' hw H1 locs1 ls (ht ▸ hB.1) (hB.2.2.weaken (fun k q _ hq => hF _ hq)) hS1 hl0
theorem j_callD (h : OKJ l D cy Wd J cc nL y0 R) {y : MethodName} {rm : Room} {As : List Value} {b : Nat} {post : UInt64 → S → Prop} {mc ms index n maxL : Nat} {C : String} {bytes : ByteArray} {ret : Option FieldType} (hM : CtD l D cy Wd y bytes maxL ret rm (.ref b :: As) u post mc ms) (hG : GoodIn wsL_law (wsV y0.cls index C y (wsB y bytes maxL ret))) (hrc : rm.cells = mc) (hrs : rm.slots = ms)
    (hd : y.cls = C ∧ y.cls ≠ "java/lang/invoke/MethodHandle" ∧ y.cls ≠ "java/lang/invoke/VarHandle" ∧ (parseMethodDescriptor y.desc).map (fun d => d.parameters.length) = some n) (hR : rm.frames + 1 ≤ R.frames ∧ 8 + (maxL + 11) + rm.locals ≤ R.locals) (q0 : Nat) {ci : Nat} {cq : vw_C} {fs : List Value} (hb : (Wd u)[q0]? = some (b, .inr (ci, fs))) (hc : vwCl[ci]? = some cq) (hC : cq.1 = C)
    {st : List Value} (hst : st = As.reverse ++ .ref b :: rest) (hn : As.length = n) (hroom : (rest.map fun v => v.category).sum ≤ 8) (hdg : decode cc pc = .ok (.invokevirtual index, 3)) (hf : q.1 + mc ≤ R.cells ∧ q.2 + ms ≤ R.slots)
    (kk : ∀ (r : UInt64) (u' : S), post r u' → J u' (q.1 + mc, q.2 + ms) lv (pc + 3) (.double r :: rest)) : J u q lv pc st := by
  obtain ⟨p, e, s, m, args, below, meth, c, A, H0, Q, h0, hK, hA, hnm', hH0, hZ, rfl⟩ := h
  intro H locs ls hP hD hS hl0
  have hF : ∀ q, va_A (Wd u) H.size q → A q := fun q hq => hq.elim (fun ⟨k, e, hk⟩ => hD.2 k _ hk) (fun hz => hA q (Nat.le_trans hS.1 hz))
  refine va_calld (va_runV (As := As) (rest := rest) h0 (hM H.size) (cwV n h0.2.2.2.2 hG rfl hrc hrs hd hR) ⟨wPre_blind, hC ▸ va_recv hK hP hc hb, fun U hU hW => ⟨rfl, by rw [hU], by rw [hU]; exact hP, va_K.moved hW.alike hK, hD.weaken (fun _ _ _ _ => trivial), by rw [hU]; exact ((hZ.kept (hH0 ▸ hS.2.1)).narrow hF).warm hW⟩⟩ rfl hn hl0.1 hst (lv_room hroom) hdg hf) hS (fun q _ h => hF q h) hF (fun r u' t H1 locs1 ht hvm hw hB hz1 hk1 hS1 => ?_)
  exact kk r u' hw H1 locs1 ls (ht ▸ hB.1) (hB.2.2.weaken (fun k q _ hq => hF _ hq)) hS1 hl0
end J2

/-! ===== the judgement J: a method's frame over an abstract world u : S; all that is the machine's own is hidden in OKJ ===== -/
abbrev JT (S : Type) : Type := S → Nat × Nat → List (Nat × Value) → Nat → List Value → Prop
/-- the classes of the arrays: 0 int, 1 Rink, 2 Wood, 3 Club, 4 Green, 5 byte, 6 long -/
abbrev tyC (cy : Nat → ClassId) : List (ClassId × FieldType) := [(cy 0, .int), (cy 1, .object "BowlsGreen$Rink"), (cy 2, .object "BowlsGreen$Wood"), (cy 3, .object "BowlsGreen$Club"), (cy 4, .object "BowlsGreen$Green"), (cy 5, .byte), (cy 6, .long)]
/-- a method's words: its own code, and all the law's -/
abbrev wsB (y : MethodName) (cc : ByteArray) (n : Nat) (ret : Option FieldType) : List Cond := Cond.code y cc n ret :: wsL_law
def OKJ (l : Launch) (D : gD) (cy : Nat → ClassId) {S : Type} (Wd : S → va_W) (J : JT S) (cc : ByteArray) (nL : Nat) (y0 : MethodName) (R : Room) : Prop :=
  ∃ (p : Program) (e : Env) (s : State) (m : MethodId) (args : Array Value) (below : List Frame) (meth : Method) (c : Code) (A : Nat → Prop) (H0 : Heap) (Q : State → Prop),
    CallFix p m c cc nL s args wsL_law y0.cls ∧ va_K D.1 vwCl (tyC cy) s ∧ (∀ q : Nat, H0.size ≤ q → A q) ∧ meth.name = y0.name ∧ H0 = s.heap ∧ xZ D A s s.heap ∧
    J = fun (u : S) (k : Nat × Nat) (lv : List (Nat × Value)) (pc : Nat) (st : List Value) => ∀ (H : Heap) (locs : List Loc) (ls : Array Slot), va_P D.1 vwCl (Wd u) H → va_D A (Wd u) → va_S A H0 H locs → lv_has ls nL lv → W p l e R s m args below meth c H locs k.1 k.2 Q (F0 m pc ls st)
def wPre (D : gD) (cy : Nat → ClassId) {S : Type} (Wd : S → va_W) (u : S) (sz : Nat) : State → Prop := fun U => U.heap.size = sz ∧ va_P D.1 vwCl (Wd u) U.heap ∧ va_K D.1 vwCl (tyC cy) U ∧ va_D (fun _ => True) (Wd u) ∧ xZ D (va_A (Wd u) sz) U U.heap
def wPost (D : gD) (cy : Nat → ClassId) {S : Type} (Wd : S → va_W) (A : Nat → Prop) : S → State → Prop := fun u t => va_P D.1 vwCl (Wd u) t.heap ∧ va_K D.1 vwCl (tyC cy) t ∧ va_D A (Wd u)
/-- contracts: a whole number or a boolean is answered; nothing is answered -/
def CtI (l : Launch) (D : gD) (cy : Nat → ClassId) {S : Type} (Wd : S → va_W) (y : MethodName) (cc : ByteArray) (n : Nat) (ret : Option FieldType) (rm : Room) (av : List Value) (u : S) (post : Int32 → S → Prop) (mc ms : Nat) : Prop :=
  ∀ sz : Nat, Met l y (wsB y cc n ret) rm (va_Pc av (wPre D cy Wd u sz)) (va_Qi post (wPost D cy Wd (va_A (Wd u) sz)) (va_A (Wd u) sz)) mc ms (va_A (Wd u) sz)
def CtV (l : Launch) (D : gD) (cy : Nat → ClassId) {S : Type} (Wd : S → va_W) (y : MethodName) (cc : ByteArray) (n : Nat) (ret : Option FieldType) (rm : Room) (av : List Value) (u : S) (post : S → Prop) (mc ms : Nat) : Prop :=
  ∀ sz : Nat, Met l y (wsB y cc n ret) rm (va_Pc av (wPre D cy Wd u sz)) (va_Qv post (wPost D cy Wd (va_A (Wd u) sz)) (va_A (Wd u) sz)) mc ms (va_A (Wd u) sz)
def RtI {S : Type} (J : JT S) (cc : ByteArray) (post : Int32 → S → Prop) (mc ms : Nat) : Prop := ∀ (u : S) (lv : List (Nat × Value)) (pc : Nat) (r : Int32), decode cc pc = .ok (.ireturn, 1) → post r u → J u (mc, ms) lv pc [.int r]
def RtZ {S : Type} (J : JT S) (cc : ByteArray) (post : Int32 → S → Prop) (mc ms : Nat) : Prop := ∀ (u : S) (lv : List (Nat × Value)) (pc : Nat) (r : Int32), decode cc pc = .ok (.ireturn, 1) → (r = 0 ∨ r = 1) → post r u → J u (mc, ms) lv pc [.int r]
def RtV {S : Type} (J : JT S) (cc : ByteArray) (post : S → Prop) (mc ms : Nat) : Prop := ∀ (u : S) (lv : List (Nat × Value)) (pc : Nat), decode cc pc = .ok (.return_, 1) → post u → J u (mc, ms) lv pc []
section J1
variable {l : Launch} {D : gD} {cy : Nat → ClassId} {S : Type} {Wd : S → va_W} {J : JT S} {cc : ByteArray} {nL : Nat} {y0 : MethodName} {R : Room} {u : S} {q : Nat × Nat} {lv : List (Nat × Value)} {pc : Nat} {rest : List Value}

theorem j_iconst (h : OKJ l D cy Wd J cc nL y0 R) {n : Int} {v : Int32} (hdg : decode cc pc = .ok (.iconst n, 1)) (hv : Int32.ofInt n = v) (k : J u q lv (pc + 1) (.int v :: rest)) : J u q lv pc (rest) := by
  obtain ⟨p, e, s, m, args, below, meth, c, A, H0, Q, h0, hK, hA, hnm, hH0, hZ, rfl⟩ := h
  intro H locs ls hP hD hS hl0
  exact lv_iconst h0.1 h0.2.1 hdg hv (k H locs ls hP hD hS hl0)

theorem j_bipush (h : OKJ l D cy Wd J cc nL y0 R) {n : Int} {v : Int32} (hdg : decode cc pc = .ok (.bipush n, 2)) (hv : (Int8.ofInt n).toInt32 = v) (k : J u q lv (pc + 2) (.int v :: rest)) : J u q lv pc (rest) := by
  obtain ⟨p, e, s, m, args, below, meth, c, A, H0, Q, h0, hK, hA, hnm, hH0, hZ, rfl⟩ := h
  intro H locs ls hP hD hS hl0
  exact lv_bipush h0.1 h0.2.1 hdg hv (k H locs ls hP hD hS hl0)

theorem j_sipush (h : OKJ l D cy Wd J cc nL y0 R) {n : Int} {v : Int32} (hdg : decode cc pc = .ok (.sipush n, 3)) (hv : (Int16.ofInt n).toInt32 = v) (k : J u q lv (pc + 3) (.int v :: rest)) : J u q lv pc (rest) := by
  obtain ⟨p, e, s, m, args, below, meth, c, A, H0, Q, h0, hK, hA, hnm, hH0, hZ, rfl⟩ := h
  intro H locs ls hP hD hS hl0
  exact lv_sipush h0.1 h0.2.1 hdg hv (k H locs ls hP hD hS hl0)

theorem j_iload_n (h : OKJ l D cy Wd J cc nL y0 R) {k : Fin 4} {i : Nat} {x : Int32} (hdg : decode cc pc = .ok (.iload_n k, 1)) (hi : (k : Nat) = i) (kl : Nat) (hl : lv[kl]? = some (i, (.int x))) (k : J u q lv (pc + 1) (.int x :: rest)) : J u q lv pc (rest) := by
  obtain ⟨p, e, s, m, args, below, meth, c, A, H0, Q, h0, hK, hA, hnm, hH0, hZ, rfl⟩ := h
  intro H locs ls hP hD hS hl0
  exact lv_iload_n h0.1 h0.2.1 hdg hi (lv_at hl0 kl hl) (k H locs ls hP hD hS hl0)

theorem j_iload (h : OKJ l D cy Wd J cc nL y0 R) {i : Nat} {x : Int32} (hdg : decode cc pc = .ok (.iload i, 2)) (kl : Nat) (hl : lv[kl]? = some (i, (.int x))) (k : J u q lv (pc + 2) (.int x :: rest)) : J u q lv pc (rest) := by
  obtain ⟨p, e, s, m, args, below, meth, c, A, H0, Q, h0, hK, hA, hnm, hH0, hZ, rfl⟩ := h
  intro H locs ls hP hD hS hl0
  exact lv_iload h0.1 h0.2.1 hdg (lv_at hl0 kl hl) (k H locs ls hP hD hS hl0)

theorem j_aload_n (h : OKJ l D cy Wd J cc nL y0 R) {k : Fin 4} {i : Nat} {x : Nat} (hdg : decode cc pc = .ok (.aload_n k, 1)) (hi : (k : Nat) = i) (kl : Nat) (hl : lv[kl]? = some (i, (.ref x))) (k : J u q lv (pc + 1) (.ref x :: rest)) : J u q lv pc (rest) := by
  obtain ⟨p, e, s, m, args, below, meth, c, A, H0, Q, h0, hK, hA, hnm, hH0, hZ, rfl⟩ := h
  intro H locs ls hP hD hS hl0
  exact lv_aload_n h0.1 h0.2.1 hdg hi (lv_at hl0 kl hl) (k H locs ls hP hD hS hl0)

theorem j_aload (h : OKJ l D cy Wd J cc nL y0 R) {i : Nat} {x : Nat} (hdg : decode cc pc = .ok (.aload i, 2)) (kl : Nat) (hl : lv[kl]? = some (i, (.ref x))) (k : J u q lv (pc + 2) (.ref x :: rest)) : J u q lv pc (rest) := by
  obtain ⟨p, e, s, m, args, below, meth, c, A, H0, Q, h0, hK, hA, hnm, hH0, hZ, rfl⟩ := h
  intro H locs ls hP hD hS hl0
  exact lv_aload h0.1 h0.2.1 hdg (lv_at hl0 kl hl) (k H locs ls hP hD hS hl0)

theorem j_istore_n (h : OKJ l D cy Wd J cc nL y0 R) {k : Fin 4} {i : Nat} {x : Int32} {lv' : List (Nat × Value)} (hdg : decode cc pc = .ok (.istore_n k, 1)) (hi : (k : Nat) = i) (hn : i < nL) (hl : (i, Value.int x) :: lv.filter (fun q => !(q.1 == i) && !(q.1 + 1 == i && q.2.category == 2)) = lv') (kk : J u q lv' (pc + 1) rest) : J u q lv pc (.int x :: rest) := by
  obtain ⟨p, e, s, m, args, below, meth, c, A, H0, Q, h0, hK, hA, hnm, hH0, hZ, rfl⟩ := h
  intro H locs ls hP hD hS hl0
  exact lv_istore_n h0.1 h0.2.1 hdg hi hl0 hn hl (fun ls' hl' => kk H locs ls' hP hD hS hl')

theorem j_istore (h : OKJ l D cy Wd J cc nL y0 R) {i : Nat} {x : Int32} {lv' : List (Nat × Value)} (hdg : decode cc pc = .ok (.istore i, 2)) (hn : i < nL) (hl : (i, Value.int x) :: lv.filter (fun q => !(q.1 == i) && !(q.1 + 1 == i && q.2.category == 2)) = lv') (kk : J u q lv' (pc + 2) rest) : J u q lv pc (.int x :: rest) := by
  obtain ⟨p, e, s, m, args, below, meth, c, A, H0, Q, h0, hK, hA, hnm, hH0, hZ, rfl⟩ := h
  intro H locs ls hP hD hS hl0
  exact lv_istore h0.1 h0.2.1 hdg hl0 hn hl (fun ls' hl' => kk H locs ls' hP hD hS hl')

theorem j_astore_n (h : OKJ l D cy Wd J cc nL y0 R) {k : Fin 4} {i : Nat} {x : Nat} {lv' : List (Nat × Value)} (hdg : decode cc pc = .ok (.astore_n k, 1)) (hi : (k : Nat) = i) (hn : i < nL) (hl : (i, Value.ref x) :: lv.filter (fun q => !(q.1 == i) && !(q.1 + 1 == i && q.2.category == 2)) = lv') (kk : J u q lv' (pc + 1) rest) : J u q lv pc (.ref x :: rest) := by
  obtain ⟨p, e, s, m, args, below, meth, c, A, H0, Q, h0, hK, hA, hnm, hH0, hZ, rfl⟩ := h
  intro H locs ls hP hD hS hl0
  exact lv_astore_n h0.1 h0.2.1 hdg hi hl0 hn hl (fun ls' hl' => kk H locs ls' hP hD hS hl')

theorem j_astore (h : OKJ l D cy Wd J cc nL y0 R) {i : Nat} {x : Nat} {lv' : List (Nat × Value)} (hdg : decode cc pc = .ok (.astore i, 2)) (hn : i < nL) (hl : (i, Value.ref x) :: lv.filter (fun q => !(q.1 == i) && !(q.1 + 1 == i && q.2.category == 2)) = lv') (kk : J u q lv' (pc + 2) rest) : J u q lv pc (.ref x :: rest) := by
  obtain ⟨p, e, s, m, args, below, meth, c, A, H0, Q, h0, hK, hA, hnm, hH0, hZ, rfl⟩ := h
  intro H locs ls hP hD hS hl0
  exact lv_astore h0.1 h0.2.1 hdg hl0 hn hl (fun ls' hl' => kk H locs ls' hP hD hS hl')

theorem j_iinc (h : OKJ l D cy Wd J cc nL y0 R) {i k : Nat} {n : Int} {x v : Int32} {lv' : List (Nat × Value)} (hdg : decode cc pc = .ok (.iinc i n, 3)) (hk : lv[k]? = some (i, .int x)) (hv : x + Int32.ofInt n = v) (hn : i < nL) (hl : (i, Value.int v) :: lv.filter (fun q => !(q.1 == i) && !(q.1 + 1 == i && q.2.category == 2)) = lv') (kk : J u q lv' (pc + 3) rest) : J u q lv pc rest := by
  obtain ⟨p, e, s, m, args, below, meth, c, A, H0, Q, h0, hK, hA, hnm, hH0, hZ, rfl⟩ := h
  intro H locs ls hP hD hS hl0
  exact lv_iinc h0.1 h0.2.1 hdg hl0 hk hv hn hl (fun ls' hl' => kk H locs ls' hP hD hS hl')

theorem j_iadd (h : OKJ l D cy Wd J cc nL y0 R) {x y : Int32} (hdg : decode cc pc = .ok (.iadd, 1)) (k : J u q lv (pc + 1) (.int (x + y) :: rest)) : J u q lv pc (.int y :: .int x :: rest) := by
  obtain ⟨p, e, s, m, args, below, meth, c, A, H0, Q, h0, hK, hA, hnm, hH0, hZ, rfl⟩ := h
  intro H locs ls hP hD hS hl0
  exact lv_iadd h0.1 h0.2.1 hdg (k H locs ls hP hD hS hl0)

theorem j_isub (h : OKJ l D cy Wd J cc nL y0 R) {x y : Int32} (hdg : decode cc pc = .ok (.isub, 1)) (k : J u q lv (pc + 1) (.int (x - y) :: rest)) : J u q lv pc (.int y :: .int x :: rest) := by
  obtain ⟨p, e, s, m, args, below, meth, c, A, H0, Q, h0, hK, hA, hnm, hH0, hZ, rfl⟩ := h
  intro H locs ls hP hD hS hl0
  exact lv_isub h0.1 h0.2.1 hdg (k H locs ls hP hD hS hl0)

theorem j_imul (h : OKJ l D cy Wd J cc nL y0 R) {x y : Int32} (hdg : decode cc pc = .ok (.imul, 1)) (k : J u q lv (pc + 1) (.int (x * y) :: rest)) : J u q lv pc (.int y :: .int x :: rest) := by
  obtain ⟨p, e, s, m, args, below, meth, c, A, H0, Q, h0, hK, hA, hnm, hH0, hZ, rfl⟩ := h
  intro H locs ls hP hD hS hl0
  exact lv_imul h0.1 h0.2.1 hdg (k H locs ls hP hD hS hl0)

theorem j_iand (h : OKJ l D cy Wd J cc nL y0 R) {x y : Int32} (hdg : decode cc pc = .ok (.iand, 1)) (k : J u q lv (pc + 1) (.int (x &&& y) :: rest)) : J u q lv pc (.int y :: .int x :: rest) := by
  obtain ⟨p, e, s, m, args, below, meth, c, A, H0, Q, h0, hK, hA, hnm, hH0, hZ, rfl⟩ := h
  intro H locs ls hP hD hS hl0
  exact lv_iand h0.1 h0.2.1 hdg (k H locs ls hP hD hS hl0)

theorem j_ior (h : OKJ l D cy Wd J cc nL y0 R) {x y : Int32} (hdg : decode cc pc = .ok (.ior, 1)) (k : J u q lv (pc + 1) (.int (x ||| y) :: rest)) : J u q lv pc (.int y :: .int x :: rest) := by
  obtain ⟨p, e, s, m, args, below, meth, c, A, H0, Q, h0, hK, hA, hnm, hH0, hZ, rfl⟩ := h
  intro H locs ls hP hD hS hl0
  exact lv_ior h0.1 h0.2.1 hdg (k H locs ls hP hD hS hl0)

theorem j_idiv (h : OKJ l D cy Wd J cc nL y0 R) {x y : Int32} (hdg : decode cc pc = .ok (.idiv, 1)) (hne : ¬ y = 0) (k : J u q lv (pc + 1) (.int (x / y) :: rest)) : J u q lv pc (.int y :: .int x :: rest) := by
  obtain ⟨p, e, s, m, args, below, meth, c, A, H0, Q, h0, hK, hA, hnm, hH0, hZ, rfl⟩ := h
  intro H locs ls hP hD hS hl0
  exact lv_idiv h0.1 h0.2.1 hdg hne (k H locs ls hP hD hS hl0)

theorem j_irem (h : OKJ l D cy Wd J cc nL y0 R) {x y : Int32} (hdg : decode cc pc = .ok (.irem, 1)) (hne : ¬ y = 0) (k : J u q lv (pc + 1) (.int (x - x / y * y) :: rest)) : J u q lv pc (.int y :: .int x :: rest) := by
  obtain ⟨p, e, s, m, args, below, meth, c, A, H0, Q, h0, hK, hA, hnm, hH0, hZ, rfl⟩ := h
  intro H locs ls hP hD hS hl0
  exact lv_irem h0.1 h0.2.1 hdg hne (k H locs ls hP hD hS hl0)

theorem j_ineg (h : OKJ l D cy Wd J cc nL y0 R) {x : Int32} (hdg : decode cc pc = .ok (.ineg, 1)) (k : J u q lv (pc + 1) (.int (-x) :: rest)) : J u q lv pc (.int x :: rest) := by
  obtain ⟨p, e, s, m, args, below, meth, c, A, H0, Q, h0, hK, hA, hnm, hH0, hZ, rfl⟩ := h
  intro H locs ls hP hD hS hl0
  exact lv_ineg h0.1 h0.2.1 hdg (k H locs ls hP hD hS hl0)

theorem j_ishl (h : OKJ l D cy Wd J cc nL y0 R) {x y : Int32} (hdg : decode cc pc = .ok (.ishl, 1)) (k : J u q lv (pc + 1) (.int (x <<< (y &&& 31)) :: rest)) : J u q lv pc (.int y :: .int x :: rest) := by
  obtain ⟨p, e, s, m, args, below, meth, c, A, H0, Q, h0, hK, hA, hnm, hH0, hZ, rfl⟩ := h
  intro H locs ls hP hD hS hl0
  exact lv_ishl h0.1 h0.2.1 hdg (k H locs ls hP hD hS hl0)

theorem j_ishr (h : OKJ l D cy Wd J cc nL y0 R) {x y : Int32} (hdg : decode cc pc = .ok (.ishr, 1)) (k : J u q lv (pc + 1) (.int (x >>> (y &&& 31)) :: rest)) : J u q lv pc (.int y :: .int x :: rest) := by
  obtain ⟨p, e, s, m, args, below, meth, c, A, H0, Q, h0, hK, hA, hnm, hH0, hZ, rfl⟩ := h
  intro H locs ls hP hD hS hl0
  exact lv_ishr h0.1 h0.2.1 hdg (k H locs ls hP hD hS hl0)

theorem j_i2b (h : OKJ l D cy Wd J cc nL y0 R) {x : Int32} {v : Int32} (hdg : decode cc pc = .ok (.i2b, 1)) (hv : x.toInt8.toInt32 = v) (k : J u q lv (pc + 1) (.int v :: rest)) : J u q lv pc (.int x :: rest) := by
  obtain ⟨p, e, s, m, args, below, meth, c, A, H0, Q, h0, hK, hA, hnm, hH0, hZ, rfl⟩ := h
  intro H locs ls hP hD hS hl0
  exact lv_i2b h0.1 h0.2.1 hdg hv (k H locs ls hP hD hS hl0)

theorem j_i2c (h : OKJ l D cy Wd J cc nL y0 R) {x : Int32} {v : Int32} (hdg : decode cc pc = .ok (.i2c, 1)) (hv : (x.toUInt32 % 65536).toInt32 = v) (k : J u q lv (pc + 1) (.int v :: rest)) : J u q lv pc (.int x :: rest) := by
  obtain ⟨p, e, s, m, args, below, meth, c, A, H0, Q, h0, hK, hA, hnm, hH0, hZ, rfl⟩ := h
  intro H locs ls hP hD hS hl0
  exact lv_i2c h0.1 h0.2.1 hdg hv (k H locs ls hP hD hS hl0)

theorem j_iushr (h : OKJ l D cy Wd J cc nL y0 R) {x y v : Int32} (hdg : decode cc pc = .ok (.iushr, 1)) (hv : (x.toUInt32 >>> (y.toUInt32 &&& Int32.toUInt32 31)).toInt32 = v) (k : J u q lv (pc + 1) (.int v :: rest)) : J u q lv pc (.int y :: .int x :: rest) := by
  obtain ⟨p, e, s, m, args, below, meth, c, A, H0, Q, h0, hK, hA, hnm, hH0, hZ, rfl⟩ := h
  intro H locs ls hP hD hS hl0
  exact lv_iushr h0.1 h0.2.1 hdg hv (k H locs ls hP hD hS hl0)

theorem j_dup (h : OKJ l D cy Wd J cc nL y0 R) {va : Value} (hdg : decode cc pc = .ok (.dup, 1)) (hva : va.category = 1) (k : J u q lv (pc + 1) (va :: va :: rest)) : J u q lv pc (va :: rest) := by
  obtain ⟨p, e, s, m, args, below, meth, c, A, H0, Q, h0, hK, hA, hnm, hH0, hZ, rfl⟩ := h
  intro H locs ls hP hD hS hl0
  exact lv_dup h0.1 h0.2.1 hdg hva (k H locs ls hP hD hS hl0)

theorem j_pop (h : OKJ l D cy Wd J cc nL y0 R) {va : Value} (hdg : decode cc pc = .ok (.pop, 1)) (hva : va.category = 1) (k : J u q lv (pc + 1) (rest)) : J u q lv pc (va :: rest) := by
  obtain ⟨p, e, s, m, args, below, meth, c, A, H0, Q, h0, hK, hA, hnm, hH0, hZ, rfl⟩ := h
  intro H locs ls hP hD hS hl0
  exact lv_pop h0.1 h0.2.1 hdg hva (k H locs ls hP hD hS hl0)

theorem j_dup_x1 (h : OKJ l D cy Wd J cc nL y0 R) {va vb : Value} (hdg : decode cc pc = .ok (.dup_x1, 1)) (hva : va.category = 1) (hvb : vb.category = 1) (k : J u q lv (pc + 1) (va :: vb :: va :: rest)) : J u q lv pc (va :: vb :: rest) := by
  obtain ⟨p, e, s, m, args, below, meth, c, A, H0, Q, h0, hK, hA, hnm, hH0, hZ, rfl⟩ := h
  intro H locs ls hP hD hS hl0
  exact lv_dup_x1 h0.1 h0.2.1 hdg hva hvb (k H locs ls hP hD hS hl0)

theorem j_if_eq (h : OKJ l D cy Wd J cc nL y0 R) {x : Int32} {off : Int} {tgt : Nat} (hdg : decode cc pc = .ok (.ifCond .eq off, 3)) (ht : (pc : Int) + off = (tgt : Int)) (kt : x = 0 → J u q lv tgt rest) (kf : ¬ x = 0 → J u q lv (pc + 3) rest) : J u q lv pc (.int x :: rest) := by
  obtain ⟨p, e, s, m, args, below, meth, c, A, H0, Q, h0, hK, hA, hnm, hH0, hZ, rfl⟩ := h
  intro H locs ls hP hD hS hl0
  exact lv_if_eq h0.1 h0.2.1 hdg ht (fun c0 => kt c0 H locs ls hP hD hS hl0) (fun c0 => kf c0 H locs ls hP hD hS hl0)

theorem j_icmp_eq (h : OKJ l D cy Wd J cc nL y0 R) {x y : Int32} {off : Int} {tgt : Nat} (hdg : decode cc pc = .ok (.if_icmp .eq off, 3)) (ht : (pc : Int) + off = (tgt : Int)) (kt : x = y → J u q lv tgt rest) (kf : ¬ x = y → J u q lv (pc + 3) rest) : J u q lv pc (.int y :: .int x :: rest) := by
  obtain ⟨p, e, s, m, args, below, meth, c, A, H0, Q, h0, hK, hA, hnm, hH0, hZ, rfl⟩ := h
  intro H locs ls hP hD hS hl0
  exact lv_icmp_eq h0.1 h0.2.1 hdg ht (fun c0 => kt c0 H locs ls hP hD hS hl0) (fun c0 => kf c0 H locs ls hP hD hS hl0)

theorem j_if_ne (h : OKJ l D cy Wd J cc nL y0 R) {x : Int32} {off : Int} {tgt : Nat} (hdg : decode cc pc = .ok (.ifCond .ne off, 3)) (ht : (pc : Int) + off = (tgt : Int)) (kt : ¬ x = 0 → J u q lv tgt rest) (kf : x = 0 → J u q lv (pc + 3) rest) : J u q lv pc (.int x :: rest) := by
  obtain ⟨p, e, s, m, args, below, meth, c, A, H0, Q, h0, hK, hA, hnm, hH0, hZ, rfl⟩ := h
  intro H locs ls hP hD hS hl0
  exact lv_if_ne h0.1 h0.2.1 hdg ht (fun c0 => kt c0 H locs ls hP hD hS hl0) (fun c0 => kf c0 H locs ls hP hD hS hl0)

theorem j_icmp_ne (h : OKJ l D cy Wd J cc nL y0 R) {x y : Int32} {off : Int} {tgt : Nat} (hdg : decode cc pc = .ok (.if_icmp .ne off, 3)) (ht : (pc : Int) + off = (tgt : Int)) (kt : ¬ x = y → J u q lv tgt rest) (kf : x = y → J u q lv (pc + 3) rest) : J u q lv pc (.int y :: .int x :: rest) := by
  obtain ⟨p, e, s, m, args, below, meth, c, A, H0, Q, h0, hK, hA, hnm, hH0, hZ, rfl⟩ := h
  intro H locs ls hP hD hS hl0
  exact lv_icmp_ne h0.1 h0.2.1 hdg ht (fun c0 => kt c0 H locs ls hP hD hS hl0) (fun c0 => kf c0 H locs ls hP hD hS hl0)

theorem j_if_lt (h : OKJ l D cy Wd J cc nL y0 R) {x : Int32} {off : Int} {tgt : Nat} (hdg : decode cc pc = .ok (.ifCond .lt off, 3)) (ht : (pc : Int) + off = (tgt : Int)) (kt : x < 0 → J u q lv tgt rest) (kf : ¬ x < 0 → J u q lv (pc + 3) rest) : J u q lv pc (.int x :: rest) := by
  obtain ⟨p, e, s, m, args, below, meth, c, A, H0, Q, h0, hK, hA, hnm, hH0, hZ, rfl⟩ := h
  intro H locs ls hP hD hS hl0
  exact lv_if_lt h0.1 h0.2.1 hdg ht (fun c0 => kt c0 H locs ls hP hD hS hl0) (fun c0 => kf c0 H locs ls hP hD hS hl0)

theorem j_icmp_lt (h : OKJ l D cy Wd J cc nL y0 R) {x y : Int32} {off : Int} {tgt : Nat} (hdg : decode cc pc = .ok (.if_icmp .lt off, 3)) (ht : (pc : Int) + off = (tgt : Int)) (kt : x < y → J u q lv tgt rest) (kf : ¬ x < y → J u q lv (pc + 3) rest) : J u q lv pc (.int y :: .int x :: rest) := by
  obtain ⟨p, e, s, m, args, below, meth, c, A, H0, Q, h0, hK, hA, hnm, hH0, hZ, rfl⟩ := h
  intro H locs ls hP hD hS hl0
  exact lv_icmp_lt h0.1 h0.2.1 hdg ht (fun c0 => kt c0 H locs ls hP hD hS hl0) (fun c0 => kf c0 H locs ls hP hD hS hl0)

theorem j_if_ge (h : OKJ l D cy Wd J cc nL y0 R) {x : Int32} {off : Int} {tgt : Nat} (hdg : decode cc pc = .ok (.ifCond .ge off, 3)) (ht : (pc : Int) + off = (tgt : Int)) (kt : 0 ≤ x → J u q lv tgt rest) (kf : ¬ 0 ≤ x → J u q lv (pc + 3) rest) : J u q lv pc (.int x :: rest) := by
  obtain ⟨p, e, s, m, args, below, meth, c, A, H0, Q, h0, hK, hA, hnm, hH0, hZ, rfl⟩ := h
  intro H locs ls hP hD hS hl0
  exact lv_if_ge h0.1 h0.2.1 hdg ht (fun c0 => kt c0 H locs ls hP hD hS hl0) (fun c0 => kf c0 H locs ls hP hD hS hl0)

theorem j_icmp_ge (h : OKJ l D cy Wd J cc nL y0 R) {x y : Int32} {off : Int} {tgt : Nat} (hdg : decode cc pc = .ok (.if_icmp .ge off, 3)) (ht : (pc : Int) + off = (tgt : Int)) (kt : y ≤ x → J u q lv tgt rest) (kf : ¬ y ≤ x → J u q lv (pc + 3) rest) : J u q lv pc (.int y :: .int x :: rest) := by
  obtain ⟨p, e, s, m, args, below, meth, c, A, H0, Q, h0, hK, hA, hnm, hH0, hZ, rfl⟩ := h
  intro H locs ls hP hD hS hl0
  exact lv_icmp_ge h0.1 h0.2.1 hdg ht (fun c0 => kt c0 H locs ls hP hD hS hl0) (fun c0 => kf c0 H locs ls hP hD hS hl0)

theorem j_if_gt (h : OKJ l D cy Wd J cc nL y0 R) {x : Int32} {off : Int} {tgt : Nat} (hdg : decode cc pc = .ok (.ifCond .gt off, 3)) (ht : (pc : Int) + off = (tgt : Int)) (kt : 0 < x → J u q lv tgt rest) (kf : ¬ 0 < x → J u q lv (pc + 3) rest) : J u q lv pc (.int x :: rest) := by
  obtain ⟨p, e, s, m, args, below, meth, c, A, H0, Q, h0, hK, hA, hnm, hH0, hZ, rfl⟩ := h
  intro H locs ls hP hD hS hl0
  exact lv_if_gt h0.1 h0.2.1 hdg ht (fun c0 => kt c0 H locs ls hP hD hS hl0) (fun c0 => kf c0 H locs ls hP hD hS hl0)

theorem j_icmp_gt (h : OKJ l D cy Wd J cc nL y0 R) {x y : Int32} {off : Int} {tgt : Nat} (hdg : decode cc pc = .ok (.if_icmp .gt off, 3)) (ht : (pc : Int) + off = (tgt : Int)) (kt : y < x → J u q lv tgt rest) (kf : ¬ y < x → J u q lv (pc + 3) rest) : J u q lv pc (.int y :: .int x :: rest) := by
  obtain ⟨p, e, s, m, args, below, meth, c, A, H0, Q, h0, hK, hA, hnm, hH0, hZ, rfl⟩ := h
  intro H locs ls hP hD hS hl0
  exact lv_icmp_gt h0.1 h0.2.1 hdg ht (fun c0 => kt c0 H locs ls hP hD hS hl0) (fun c0 => kf c0 H locs ls hP hD hS hl0)

theorem j_if_le (h : OKJ l D cy Wd J cc nL y0 R) {x : Int32} {off : Int} {tgt : Nat} (hdg : decode cc pc = .ok (.ifCond .le off, 3)) (ht : (pc : Int) + off = (tgt : Int)) (kt : x ≤ 0 → J u q lv tgt rest) (kf : ¬ x ≤ 0 → J u q lv (pc + 3) rest) : J u q lv pc (.int x :: rest) := by
  obtain ⟨p, e, s, m, args, below, meth, c, A, H0, Q, h0, hK, hA, hnm, hH0, hZ, rfl⟩ := h
  intro H locs ls hP hD hS hl0
  exact lv_if_le h0.1 h0.2.1 hdg ht (fun c0 => kt c0 H locs ls hP hD hS hl0) (fun c0 => kf c0 H locs ls hP hD hS hl0)

theorem j_icmp_le (h : OKJ l D cy Wd J cc nL y0 R) {x y : Int32} {off : Int} {tgt : Nat} (hdg : decode cc pc = .ok (.if_icmp .le off, 3)) (ht : (pc : Int) + off = (tgt : Int)) (kt : x ≤ y → J u q lv tgt rest) (kf : ¬ x ≤ y → J u q lv (pc + 3) rest) : J u q lv pc (.int y :: .int x :: rest) := by
  obtain ⟨p, e, s, m, args, below, meth, c, A, H0, Q, h0, hK, hA, hnm, hH0, hZ, rfl⟩ := h
  intro H locs ls hP hD hS hl0
  exact lv_icmp_le h0.1 h0.2.1 hdg ht (fun c0 => kt c0 H locs ls hP hD hS hl0) (fun c0 => kf c0 H locs ls hP hD hS hl0)

theorem j_goto (h : OKJ l D cy Wd J cc nL y0 R) {off : Int} {tgt : Nat} (hdg : decode cc pc = .ok (.goto off, 3)) (ht : (pc : Int) + off = (tgt : Int)) (k : J u q lv tgt rest) : J u q lv pc rest := by
  obtain ⟨p, e, s, m, args, below, meth, c, A, H0, Q, h0, hK, hA, hnm, hH0, hZ, rfl⟩ := h
  intro H locs ls hP hD hS hl0
  exact lv_goto h0.1 h0.2.1 hdg ht (k H locs ls hP hD hS hl0)

theorem j_fdiv (h : OKJ l D cy Wd J cc nL y0 R) {x y : UInt32} (hdg : decode cc pc = .ok (.fdiv, 1)) (hne : vf_n32 (FP.fdiv x y)) (k : J u q lv (pc + 1) (.float (FP.fdiv x y) :: rest)) : J u q lv pc (.float y :: .float x :: rest) := by
  obtain ⟨p, e, s, m, args, below, meth, c, A, H0, Q, h0, hK, hA, hnm, hH0, hZ, rfl⟩ := h
  intro H locs ls hP hD hS hl0
  exact lv_fdiv h0.1 h0.2.1 hdg hne (k H locs ls hP hD hS hl0)

theorem j_i2f (h : OKJ l D cy Wd J cc nL y0 R) {x : Int32} (hdg : decode cc pc = .ok (.i2f, 1)) (k : J u q lv (pc + 1) (.float (FP.i2f x) :: rest)) : J u q lv pc (.int x :: rest) := by
  obtain ⟨p, e, s, m, args, below, meth, c, A, H0, Q, h0, hK, hA, hnm, hH0, hZ, rfl⟩ := h
  intro H locs ls hP hD hS hl0
  exact lv_i2f h0.1 h0.2.1 hdg (k H locs ls hP hD hS hl0)

theorem j_dload_n (h : OKJ l D cy Wd J cc nL y0 R) {k : Fin 4} {i : Nat} {x : UInt64} (hdg : decode cc pc = .ok (.dload_n k, 1)) (hi : (k : Nat) = i) (kl : Nat) (hl : lv[kl]? = some (i, (.double x))) (k : J u q lv (pc + 1) (.double x :: rest)) : J u q lv pc (rest) := by
  obtain ⟨p, e, s, m, args, below, meth, c, A, H0, Q, h0, hK, hA, hnm, hH0, hZ, rfl⟩ := h
  intro H locs ls hP hD hS hl0
  exact lv_dload_n h0.1 h0.2.1 hdg hi (lv_at hl0 kl hl) (k H locs ls hP hD hS hl0)

theorem j_dload (h : OKJ l D cy Wd J cc nL y0 R) {i : Nat} {x : UInt64} (hdg : decode cc pc = .ok (.dload i, 2)) (kl : Nat) (hl : lv[kl]? = some (i, (.double x))) (k : J u q lv (pc + 2) (.double x :: rest)) : J u q lv pc (rest) := by
  obtain ⟨p, e, s, m, args, below, meth, c, A, H0, Q, h0, hK, hA, hnm, hH0, hZ, rfl⟩ := h
  intro H locs ls hP hD hS hl0
  exact lv_dload h0.1 h0.2.1 hdg (lv_at hl0 kl hl) (k H locs ls hP hD hS hl0)

theorem j_ddiv (h : OKJ l D cy Wd J cc nL y0 R) {x y : UInt64} (hdg : decode cc pc = .ok (.ddiv, 1)) (hne : vf_n64 (FP.ddiv x y)) (k : J u q lv (pc + 1) (.double (FP.ddiv x y) :: rest)) : J u q lv pc (.double y :: .double x :: rest) := by
  obtain ⟨p, e, s, m, args, below, meth, c, A, H0, Q, h0, hK, hA, hnm, hH0, hZ, rfl⟩ := h
  intro H locs ls hP hD hS hl0
  exact lv_ddiv h0.1 h0.2.1 hdg hne (k H locs ls hP hD hS hl0)

theorem j_dcmp (h : OKJ l D cy Wd J cc nL y0 R) {x y : UInt64} {op : CmpOp} (hdg : decode cc pc = .ok (.dcmp op, 1)) (k : J u q lv (pc + 1) (.int (Op.cmpValue (FP.dcmp x y) op) :: rest)) : J u q lv pc (.double y :: .double x :: rest) := by
  obtain ⟨p, e, s, m, args, below, meth, c, A, H0, Q, h0, hK, hA, hnm, hH0, hZ, rfl⟩ := h
  intro H locs ls hP hD hS hl0
  exact lv_dcmp h0.1 h0.2.1 hdg (k H locs ls hP hD hS hl0)

theorem j_i2d (h : OKJ l D cy Wd J cc nL y0 R) {x : Int32} (hdg : decode cc pc = .ok (.i2d, 1)) (k : J u q lv (pc + 1) (.double (FP.i2d x) :: rest)) : J u q lv pc (.int x :: rest) := by
  obtain ⟨p, e, s, m, args, below, meth, c, A, H0, Q, h0, hK, hA, hnm, hH0, hZ, rfl⟩ := h
  intro H locs ls hP hD hS hl0
  exact lv_i2d h0.1 h0.2.1 hdg (k H locs ls hP hD hS hl0)

theorem j_f2d (h : OKJ l D cy Wd J cc nL y0 R) {x : UInt32} (hdg : decode cc pc = .ok (.f2d, 1)) (hne : vf_n64 (FP.f2d x)) (k : J u q lv (pc + 1) (.double (FP.f2d x) :: rest)) : J u q lv pc (.float x :: rest) := by
  obtain ⟨p, e, s, m, args, below, meth, c, A, H0, Q, h0, hK, hA, hnm, hH0, hZ, rfl⟩ := h
  intro H locs ls hP hD hS hl0
  exact lv_f2d h0.1 h0.2.1 hdg hne (k H locs ls hP hD hS hl0)

theorem j_dstore_n (h : OKJ l D cy Wd J cc nL y0 R) {k : Fin 4} {i : Nat} {x : UInt64} {lv' : List (Nat × Value)} (hdg : decode cc pc = .ok (.dstore_n k, 1)) (hi : (k : Nat) = i) (hn : i + 1 < nL) (hl : (i, Value.double x) :: lv.filter (fun q => !(q.1 == i) && (!(q.1 == i + 1) && !(q.1 + 1 == i && q.2.category == 2))) = lv') (kk : J u q lv' (pc + 1) rest) : J u q lv pc (.double x :: rest) := by
  obtain ⟨p, e, s, m, args, below, meth, c, A, H0, Q, h0, hK, hA, hnm, hH0, hZ, rfl⟩ := h
  intro H locs ls hP hD hS hl0
  exact lv_dstore_n h0.1 h0.2.1 hdg hi hl0 hn hl (fun ls' hl' => kk H locs ls' hP hD hS hl')

theorem j_dstore (h : OKJ l D cy Wd J cc nL y0 R) {i : Nat} {x : UInt64} {lv' : List (Nat × Value)} (hdg : decode cc pc = .ok (.dstore i, 2)) (hn : i + 1 < nL) (hl : (i, Value.double x) :: lv.filter (fun q => !(q.1 == i) && (!(q.1 == i + 1) && !(q.1 + 1 == i && q.2.category == 2))) = lv') (kk : J u q lv' (pc + 2) rest) : J u q lv pc (.double x :: rest) := by
  obtain ⟨p, e, s, m, args, below, meth, c, A, H0, Q, h0, hK, hA, hnm, hH0, hZ, rfl⟩ := h
  intro H locs ls hP hD hS hl0
  exact lv_dstore h0.1 h0.2.1 hdg hl0 hn hl (fun ls' hl' => kk H locs ls' hP hD hS hl')

theorem j_ldc (h : OKJ l D cy Wd J cc nL y0 R) {index : Nat} {v : Int32} (hconst : Cond.constant y0.cls index v ∈ wsL_law) (hdg : decode cc pc = .ok (.ldc index, 2)) (k : J u q lv (pc + 2) (.int v :: rest)) : J u q lv pc rest := by
  obtain ⟨p, e, s, m, args, below, meth, c, A, H0, Q, h0, hK, hA, hnm, hH0, hZ, rfl⟩ := h
  intro H locs ls hP hD hS hl0
  exact lv_ldc h0.1 h0.2.1 h0.2.2.2.1 (h0.2.2.2.2 _ hconst) hdg (k H locs ls hP hD hS hl0)

theorem j_lookup (h : OKJ l D cy Wd J cc nL y0 R) {dflt : Int} {ps : Array (Int × Int)} {len : Nat} {x : Int32} {off : Int} {tgt : Nat} (hdg : decode cc pc = .ok (.lookupswitch dflt ps, len)) (hp : (ps.toList.zip (ps.toList.drop 1)).all (fun (a, next) => a.1 < next.1) = true) (ho : Op.lookupswitch.offset ps.toList dflt x.toInt = off) (ht : (pc : Int) + off = (tgt : Int)) (k : J u q lv tgt rest) : J u q lv pc (.int x :: rest) := by
  obtain ⟨p, e, s, m, args, below, meth, c, A, H0, Q, h0, hK, hA, hnm, hH0, hZ, rfl⟩ := h
  intro H locs ls hP hD hS hl0
  exact lv_lookup h0.1 h0.2.1 hdg hp ho ht (k H locs ls hP hD hS hl0)

theorem j_tableOut (h : OKJ l D cy Wd J cc nL y0 R) {dflt lo hi : Int} {offs : Array Int} {len : Nat} {x : Int32} {tgt : Nat} (hdg : decode cc pc = .ok (.tableswitch dflt lo hi offs, len)) (h9 : x.toInt < lo ∨ hi < x.toInt) (ht : (pc : Int) + dflt = (tgt : Int)) (k : J u q lv tgt rest) : J u q lv pc (.int x :: rest) := by
  obtain ⟨p, e, s, m, args, below, meth, c, A, H0, Q, h0, hK, hA, hnm, hH0, hZ, rfl⟩ := h
  intro H locs ls hP hD hS hl0
  exact lv_tableOut h0.1 h0.2.1 hdg h9 ht (k H locs ls hP hD hS hl0)

theorem j_tableIn (h : OKJ l D cy Wd J cc nL y0 R) {dflt lo hi : Int} {offs : Array Int} {len : Nat} {x : Int32} {off : Int} {tgt : Nat} (hdg : decode cc pc = .ok (.tableswitch dflt lo hi offs, len)) (h1 : ¬ x.toInt < lo) (h2 : ¬ hi < x.toInt) (ho : offs[(x.toInt - lo).toNat]? = some off) (ht : (pc : Int) + off = (tgt : Int)) (k : J u q lv tgt rest) : J u q lv pc (.int x :: rest) := by
  obtain ⟨p, e, s, m, args, below, meth, c, A, H0, Q, h0, hK, hA, hnm, hH0, hZ, rfl⟩ := h
  intro H locs ls hP hD hS hl0
  exact lv_tableIn h0.1 h0.2.1 hdg h1 h2 ho ht (k H locs ls hP hD hS hl0)

theorem j_ldcw (h : OKJ l D cy Wd J cc nL y0 R) {index : Nat} {v : Int32} (hconst : Cond.constant y0.cls index v ∈ wsL_law) (hdg : decode cc pc = .ok (.ldc_w index, 3)) (k : J u q lv (pc + 3) (.int v :: rest)) : J u q lv pc rest := by
  obtain ⟨p, e, s, m, args, below, meth, c, A, H0, Q, h0, hK, hA, hnm, hH0, hZ, rfl⟩ := h
  intro H locs ls hP hD hS hl0
  exact lv_ldcw h0.1 h0.2.1 h0.2.2.2.1 (h0.2.2.2.2 _ hconst) hdg (k H locs ls hP hD hS hl0)

theorem j_dup2 (h : OKJ l D cy Wd J cc nL y0 R) {va vb : Value} (hdg : decode cc pc = .ok (.dup2, 1)) (hva : va.category = 1) (hvb : vb.category = 1) (k : J u q lv (pc + 1) (va :: vb :: va :: vb :: rest)) : J u q lv pc (va :: vb :: rest) := by
  obtain ⟨p, e, s, m, args, below, meth, c, A, H0, Q, h0, hK, hA, hnm, hH0, hZ, rfl⟩ := h
  intro H locs ls hP hD hS hl0
  exact lv_dup2_11 h0.1 h0.2.1 hdg hva hvb (k H locs ls hP hD hS hl0)
theorem j_fconst0 (h : OKJ l D cy Wd J cc nL y0 R) (hdg : decode cc pc = .ok (.fconst 0, 1)) (k : J u q lv (pc + 1) (.float FP.fconst0 :: rest)) : J u q lv pc rest := by
  obtain ⟨p, e, s, m, args, below, meth, c, A, H0, Q, h0, hK, hA, hnm, hH0, hZ, rfl⟩ := h
  intro H locs ls hP hD hS hl0
  exact lv_fconst0 h0.1 h0.2.1 hdg (k H locs ls hP hD hS hl0)
theorem j_dconst0 (h : OKJ l D cy Wd J cc nL y0 R) (hdg : decode cc pc = .ok (.dconst 0, 1)) (k : J u q lv (pc + 1) (.double FP.dconst0 :: rest)) : J u q lv pc rest := by
  obtain ⟨p, e, s, m, args, below, meth, c, A, H0, Q, h0, hK, hA, hnm, hH0, hZ, rfl⟩ := h
  intro H locs ls hP hD hS hl0
  exact lv_dconst0 h0.1 h0.2.1 hdg (k H locs ls hP hD hS hl0)
/-- fewer locals -/
theorem j_sub (h : OKJ l D cy Wd J cc nL y0 R) {st : List Value} (ks : List Nat) {lv' : List (Nat × Value)} (hl : lv_pick lv ks = lv') (k : J u q lv' pc st) : J u q lv pc st := by
  obtain ⟨p, e, s, m, args, below, meth, c, A, H0, Q, h0, hK, hA, hnm, hH0, hZ, rfl⟩ := h
  intro H locs ls hP hD hS hl0
  exact k H locs ls hP hD hS (lv_sub hl0 ks hl)
theorem j_widen (h : OKJ l D cy Wd J cc nL y0 R) {st : List Value} {k n : Nat} (h1 : q.1 ≤ k) (h2 : q.2 ≤ n) (kk : J u (k, n) lv pc st) : J u q lv pc st := by
  obtain ⟨p, e, s, m, args, below, meth, c, A, H0, Q, h0, hK, hA, hnm, hH0, hZ, rfl⟩ := h
  intro H locs ls hP hD hS hl0
  exact W.widen h1 h2 (kk H locs ls hP hD hS hl0)
/-- the same world, seen as another -/
theorem j_world (h : OKJ l D cy Wd J cc nL y0 R) {st : List Value} {u' : S} (hw : Wd u = Wd u') (k : J u' q lv pc st) : J u q lv pc st := by
  obtain ⟨p, e, s, m, args, below, meth, c, A, H0, Q, h0, hK, hA, hnm, hH0, hZ, rfl⟩ := h
  intro H locs ls hP hD hS hl0
  exact k H locs ls (hw ▸ hP) (hw ▸ hD) hS hl0
theorem j_get (h : OKJ l D cy Wd J cc nL y0 R) {ref C : String} {T : u_T} {N ci index a : Nat} (hin : ∀ w ∈ u_ws C T N, w ∈ wsL_law) (q0 : Nat) {fs : List Value} (he : (Wd u)[q0]? = some (a, .inr (ci, fs))) (hc : vwCl[ci]? = some (C, T, N)) (k : Nat) (hk : k < N) (hlink : Cond.fieldLink y0.cls index ref (T k).2.1 (T k).2.2.1 ∈ wsL_law) (href : (T k).1 = ref) {v : Value} (hv : fs[k]? = some v) (hdg : decode cc pc = .ok (.getfield index, 3))
    (kk : J u q lv (pc + 3) (v :: rest)) : J u q lv pc (.ref a :: rest) := by
  obtain ⟨p, e, s, m, args, below, meth, c, A, H0, Q, h0, hK, hA, hnm, hH0, hZ, rfl⟩ := h
  intro H locs ls hP hD hS hl0
  exact va_get (D := D.1) h0.1 h0.2.1 h0.2.2.2.2 hin h0.2.2.2.1 hK hP q0 he hc k hk (h0.2.2.2.2 _ hlink) (fun x hx => href ▸ hx) hv hdg (kk H locs ls hP hD hS hl0)
theorem j_put (h : OKJ l D cy Wd J cc nL y0 R) {ref C : String} {T : u_T} {N ci index a : Nat} (hin : ∀ w ∈ u_ws C T N, w ∈ wsL_law) (ty0 : Nat → FieldType) (hty : ∀ k, k < N → parseFieldDescriptor (T k).2.2.1 = some (ty0 k)) (hnm : ∀ a, a < N → ∀ b, b < N → a ≠ b → (T a).2.1 ≠ (T b).2.1) (q0 : Nat) {fs : List Value} (he : (Wd u)[q0]? = some (a, .inr (ci, fs))) (hc : vwCl[ci]? = some (C, T, N)) (k : Nat) (hk : k < N) (hlink : Cond.fieldLink y0.cls index ref (T k).2.1 (T k).2.2.1 ∈ wsL_law) (href : (T k).1 = ref) (hfin : (T k).2.2.2 = false) {v : Value} (hn : narrow (ty0 k) v = v) (hfit : fits (ty0 k) v = true) (hl : k < fs.length) (hdg : decode cc pc = .ok (.putfield index, 3))
    {u' : S} (hset : (Wd u).set q0 (a, .inr (ci, fs.set k v)) = Wd u') (kk : J u' q lv (pc + 3) rest) : J u q lv pc (v :: .ref a :: rest) := by
  obtain ⟨p, e, s, m, args, below, meth, c, A, H0, Q, h0, hK, hA, hnm', hH0, hZ, rfl⟩ := h
  intro H locs ls hP hD hS hl0
  exact va_put (D := D.1) h0.1 h0.2.1 h0.2.2.2.2 hin ty0 hty hnm h0.2.2.2.1 hK hP hD hS q0 he hc k hk (h0.2.2.2.2 _ hlink) (fun x hx => href ▸ hx) hfin (hty k hk) hn hfit hl hdg (fun H1 locs1 hP1 hD1 hS1 => kk H1 locs1 ls (hset ▸ hP1) (hset ▸ hD1) hS1 hl0)
/-- a final field, in its constructor -/
theorem j_putF (h : OKJ l D cy Wd J cc nL y0 R) {ref C : String} {T : u_T} {N ci index a : Nat} (hin : ∀ w ∈ u_ws C T N, w ∈ wsL_law) (ty0 : Nat → FieldType) (hty : ∀ k, k < N → parseFieldDescriptor (T k).2.2.1 = some (ty0 k)) (hnm : ∀ a, a < N → ∀ b, b < N → a ≠ b → (T a).2.1 ≠ (T b).2.1) (q0 : Nat) {fs : List Value} (he : (Wd u)[q0]? = some (a, .inr (ci, fs))) (hc : vwCl[ci]? = some (C, T, N)) (k : Nat) (hk : k < N) (hlink : Cond.fieldLink y0.cls index ref (T k).2.1 (T k).2.2.1 ∈ wsL_law) (href : (T k).1 = ref) (hfin : (T k).2.2.2 = true) (hini : y0.name = "<init>") (hdecl : (T k).1 = y0.cls) {v : Value} (hn : narrow (ty0 k) v = v) (hfit : fits (ty0 k) v = true) (hl : k < fs.length) (hdg : decode cc pc = .ok (.putfield index, 3))
    {u' : S} (hset : (Wd u).set q0 (a, .inr (ci, fs.set k v)) = Wd u') (kk : J u' q lv (pc + 3) rest) : J u q lv pc (v :: .ref a :: rest) := by
  obtain ⟨p, e, s, m, args, below, meth, c, A, H0, Q, h0, hK, hA, hnm', hH0, hZ, rfl⟩ := h
  intro H locs ls hP hD hS hl0
  exact va_putF (D := D.1) h0.1 h0.2.1 h0.2.2.2.2 hin ty0 hty hnm h0.2.2.2.1 hK hP hD hS q0 he hc k hk (h0.2.2.2.2 _ hlink) (fun x hx => href ▸ hx) hfin (hnm'.trans hini) hdecl (hty k hk) hn hfit hl hdg (fun H1 locs1 hP1 hD1 hS1 => kk H1 locs1 ls (hset ▸ hP1) (hset ▸ hD1) hS1 hl0)
theorem j_iald (h : OKJ l D cy Wd J cc nL y0 R) (q0 : Nat) {n a : Nat} {f : Nat → Int32} (ha : (Wd u)[q0]? = some (a, .inl (cy 0, n, .inl f))) {i : Int32} (hin : vp_in i n) (hdg : decode cc pc = .ok (.iaload, 1)) (kk : J u q lv (pc + 1) (.int (f i.toNatClampNeg) :: rest)) : J u q lv pc (.int i :: .ref a :: rest) := by
  obtain ⟨p, e, s, m, args, below, meth, c, A, H0, Q, h0, hK, hA, hnm', hH0, hZ, rfl⟩ := h
  intro H locs ls hP hD hS hl0
  exact va_iald h0.1 h0.2.1 hK hP q0 0 ha rfl hin hdg (kk H locs ls hP hD hS hl0)
theorem j_bald (h : OKJ l D cy Wd J cc nL y0 R) (q0 : Nat) {n a : Nat} {f : Nat → Int32} (ha : (Wd u)[q0]? = some (a, .inl (cy 5, n, .inl f))) {i : Int32} (hin : vp_in i n) (hdg : decode cc pc = .ok (.baload, 1)) (kk : J u q lv (pc + 1) (.int (f i.toNatClampNeg) :: rest)) : J u q lv pc (.int i :: .ref a :: rest) := by
  obtain ⟨p, e, s, m, args, below, meth, c, A, H0, Q, h0, hK, hA, hnm', hH0, hZ, rfl⟩ := h
  intro H locs ls hP hD hS hl0
  exact va_bald h0.1 h0.2.1 hK hP q0 5 ha rfl hin hdg (kk H locs ls hP hD hS hl0)
theorem j_iast (h : OKJ l D cy Wd J cc nL y0 R) (q0 : Nat) {n a : Nat} {f : Nat → Int32} (ha : (Wd u)[q0]? = some (a, .inl (cy 0, n, .inl f))) {i x : Int32} (hin : vp_in i n) (hdg : decode cc pc = .ok (.iastore, 1)) {u' : S} (hset : (Wd u).set q0 (a, .inl (cy 0, n, .inl (upd f i.toNatClampNeg x))) = Wd u') (kk : J u' q lv (pc + 1) rest) : J u q lv pc (.int x :: .int i :: .ref a :: rest) := by
  obtain ⟨p, e, s, m, args, below, meth, c, A, H0, Q, h0, hK, hA, hnm', hH0, hZ, rfl⟩ := h
  intro H locs ls hP hD hS hl0
  exact va_iast h0.1 h0.2.1 hK hP hD hS q0 0 ha rfl hin hdg (fun H1 locs1 hP1 hD1 hS1 => kk H1 locs1 ls (hset ▸ hP1) (hset ▸ hD1) hS1 hl0)
theorem j_bast (h : OKJ l D cy Wd J cc nL y0 R) (q0 : Nat) {n a : Nat} {f : Nat → Int32} (ha : (Wd u)[q0]? = some (a, .inl (cy 5, n, .inl f))) {i x : Int32} (hin : vp_in i n) (hdg : decode cc pc = .ok (.bastore, 1)) {u' : S} (hset : (Wd u).set q0 (a, .inl (cy 5, n, .inl (upd f i.toNatClampNeg (vp_nar .byte x)))) = Wd u') (kk : J u' q lv (pc + 1) rest) : J u q lv pc (.int x :: .int i :: .ref a :: rest) := by
  obtain ⟨p, e, s, m, args, below, meth, c, A, H0, Q, h0, hK, hA, hnm', hH0, hZ, rfl⟩ := h
  intro H locs ls hP hD hS hl0
  exact va_bast h0.1 h0.2.1 hK hP hD hS q0 5 ha rfl hin hdg (fun H1 locs1 hP1 hD1 hS1 => kk H1 locs1 ls (hset ▸ hP1) (hset ▸ hD1) hS1 hl0)
/-- an array of objects, each known -/
theorem j_aald (h : OKJ l D cy Wd J cc nL y0 R) (q0 t0 : Nat) {n a : Nat} {cA : ClassId} {C : String} {f : Nat → Nat} (ha : (Wd u)[q0]? = some (a, .inl (cA, n, .inr (.inr (.inr (.inr (fun i => some (f i)))))))) (ht : (tyC cy)[t0]? = some (cA, .object C)) {i : Int32} (hin : vp_in i n) (hdg : decode cc pc = .ok (.aaload, 1)) (kk : J u q lv (pc + 1) (.ref (f i.toNatClampNeg) :: rest)) : J u q lv pc (.int i :: .ref a :: rest) := by
  obtain ⟨p, e, s, m, args, below, meth, c, A, H0, Q, h0, hK, hA, hnm', hH0, hZ, rfl⟩ := h
  intro H locs ls hP hD hS hl0
  exact va_aldq h0.1 h0.2.1 hK hP q0 t0 ha ht hin hdg (kk H locs ls hP hD hS hl0)
theorem j_alen (h : OKJ l D cy Wd J cc nL y0 R) (q0 t0 : Nat) {a : Nat} {cA : ClassId} {x : vp_A} (ha : (Wd u)[q0]? = some (a, .inl (cA, x))) {ty : FieldType} (ht : (tyC cy)[t0]? = some (cA, ty)) {v : Int32} (hv : Int32.ofNat x.1 = v) (hdg : decode cc pc = .ok (.arraylength, 1)) (kk : J u q lv (pc + 1) (.int v :: rest)) : J u q lv pc (.ref a :: rest) := by
  obtain ⟨p, e, s, m, args, below, meth, c, A, H0, Q, h0, hK, hA, hnm', hH0, hZ, rfl⟩ := h
  intro H locs ls hP hD hS hl0
  exact va_alen h0.1 h0.2.1 hK hP q0 t0 ha ht hv hdg (kk H locs ls hP hD hS hl0)
theorem j_mmax (h : OKJ l D cy Wd J cc nL y0 R) {index : Nat} (h1 : Cond.methodLink y0.cls index Lib.Math.max.name ∈ wsL_law) (h2 : Cond.static Lib.Math.max.name ∈ wsL_law) (h3 : Cond.initialized "java/lang/Math" ∈ wsL_law) (h4 : Cond.code Lib.Math.max.name Lib.Math.max.code 2 (some .int) ∈ wsL_law) (hf : 1 ≤ R.frames) (hl : (rest.map fun v => v.category).sum + 13 ≤ R.locals) (hc : q.1 ≤ R.cells) (hs : q.2 ≤ R.slots) {x y : Int32} (hdg : decode cc pc = .ok (.invokestatic index, 3)) (kk : J u q lv (pc + 3) (.int (if x < y then y else x) :: rest)) : J u q lv pc (.int y :: .int x :: rest) := by
  obtain ⟨p, e, s, m, args, below, meth, c, A, H0, Q, h0, hK, hA, hnm', hH0, hZ, rfl⟩ := h
  intro H locs ls hP hD hS hl0
  exact va_mmax h0.1 h0.2.1 (h0.2.2.1.trans hl0.1.symm) h0.2.2.2.1 (h0.2.2.2.2 _ h1) (h0.2.2.2.2 _ h2) (h0.2.2.2.2 _ h3) (h0.2.2.2.2 _ h4) hf hl hc hs hdg (kk H locs ls hP hD hS hl0)
theorem j_mmin (h : OKJ l D cy Wd J cc nL y0 R) {index : Nat} (h1 : Cond.methodLink y0.cls index Lib.Math.min.name ∈ wsL_law) (h2 : Cond.static Lib.Math.min.name ∈ wsL_law) (h3 : Cond.initialized "java/lang/Math" ∈ wsL_law) (h4 : Cond.code Lib.Math.min.name Lib.Math.min.code 2 (some .int) ∈ wsL_law) (hf : 1 ≤ R.frames) (hl : (rest.map fun v => v.category).sum + 13 ≤ R.locals) (hc : q.1 ≤ R.cells) (hs : q.2 ≤ R.slots) {x y : Int32} (hdg : decode cc pc = .ok (.invokestatic index, 3)) (kk : J u q lv (pc + 3) (.int (if y < x then y else x) :: rest)) : J u q lv pc (.int y :: .int x :: rest) := by
  obtain ⟨p, e, s, m, args, below, meth, c, A, H0, Q, h0, hK, hA, hnm', hH0, hZ, rfl⟩ := h
  intro H locs ls hP hD hS hl0
  exact va_mmin h0.1 h0.2.1 (h0.2.2.1.trans hl0.1.symm) h0.2.2.2.1 (h0.2.2.2.2 _ h1) (h0.2.2.2.2 _ h2) (h0.2.2.2.2 _ h3) (h0.2.2.2.2 _ h4) hf hl hc hs hdg (kk H locs ls hP hD hS hl0)
end J1
/-! ===== entries: a contract out of a walk ===== -/
theorem m_entI {l : Launch} {D : gD} {cy : Nat → ClassId} {S : Type} {Wd : S → va_W} {y : MethodName} {rm : Room} {av : List Value} {u : S} {post : Int32 → S → Prop} {mc ms : Nat} (cc : ByteArray) (n : Nat) (hy : plainName y.cls = true) (hn : (lg_sl av).length ≤ n)
    (body : ∀ J : JT S, OKJ l D cy Wd J cc n y rm → RtI J cc post mc ms → J u (0, 0) (lv_args 0 av) 0 []) : CtI l D cy Wd y cc n (some .int) rm av u post mc ms := by
  intro sz
  refine Met.ofW (cc := cc) (maxL := n) (ret := some .int) hy rfl ?_
  intro p e s m args below meth c s₁ B hml hv
  obtain ⟨rfl, hsz, hP, hK, hD0, hZ0⟩ := hv
  subst hsz
  have hD := hD0.self (sz := s.heap.size)
  have hl := lv_entry av (n := n) hn
  rw [lg_entry_eq]
  generalize (lg_sl av ++ List.replicate (n - (lg_sl av).length) Slot.unset).toArray = ls at hl ⊢
  refine body (fun (u : S) (k : Nat × Nat) (lv : List (Nat × Value)) (pc : Nat) (st : List Value) => ∀ (H : Heap) (locs : List Loc) (ls : Array Slot), va_P D.1 vwCl (Wd u) H → va_D _ (Wd u) → va_S _ s.heap H locs → lv_has ls n lv → W p l e _ s m _ below meth c H locs k.1 k.2 _ (F0 m pc ls st)) ⟨p, e, s, m, _, below, meth, c, va_A (Wd u) s.heap.size, s.heap, _, ⟨B.exec, B.bytes, hml, findClass_of_methodNamed B.named, fun w hw => atoms_spec (ws := wsB y cc n (some .int)) B.pre w (List.mem_cons_of_mem _ hw)⟩, hK, fun q hq => Or.inr hq, (name_of_methodNamed B.named B.method).1, rfl, hZ0, rfl⟩ ?_ s.heap [] ls hP hD va_S.rf hl
  intro u' lv pc r hd hp H locs ls hP' hD' hS' hl'
  exact W.iret B.exec B.bytes B.returns (fun t ht hW => ⟨⟨r, u', rfl, hp, by rw [ht]; exact hP', va_K.moved hW.alike hK, hD'⟩, hS'.F ht⟩) hS'.2.2 hd B.notSynchronized
theorem m_entZ {l : Launch} {D : gD} {cy : Nat → ClassId} {S : Type} {Wd : S → va_W} {y : MethodName} {rm : Room} {av : List Value} {u : S} {post : Int32 → S → Prop} {mc ms : Nat} (cc : ByteArray) (n : Nat) (hy : plainName y.cls = true) (hn : (lg_sl av).length ≤ n)
    (body : ∀ J : JT S, OKJ l D cy Wd J cc n y rm → RtZ J cc post mc ms → J u (0, 0) (lv_args 0 av) 0 []) : CtI l D cy Wd y cc n (some .boolean) rm av u post mc ms := by
  intro sz
  refine Met.ofW (cc := cc) (maxL := n) (ret := some .boolean) hy rfl ?_
  intro p e s m args below meth c s₁ B hml hv
  obtain ⟨rfl, hsz, hP, hK, hD0, hZ0⟩ := hv
  subst hsz
  have hD := hD0.self (sz := s.heap.size)
  have hl := lv_entry av (n := n) hn
  rw [lg_entry_eq]
  generalize (lg_sl av ++ List.replicate (n - (lg_sl av).length) Slot.unset).toArray = ls at hl ⊢
  refine body (fun (u : S) (k : Nat × Nat) (lv : List (Nat × Value)) (pc : Nat) (st : List Value) => ∀ (H : Heap) (locs : List Loc) (ls : Array Slot), va_P D.1 vwCl (Wd u) H → va_D _ (Wd u) → va_S _ s.heap H locs → lv_has ls n lv → W p l e _ s m _ below meth c H locs k.1 k.2 _ (F0 m pc ls st)) ⟨p, e, s, m, _, below, meth, c, va_A (Wd u) s.heap.size, s.heap, _, ⟨B.exec, B.bytes, hml, findClass_of_methodNamed B.named, fun w hw => atoms_spec (ws := wsB y cc n (some .boolean)) B.pre w (List.mem_cons_of_mem _ hw)⟩, hK, fun q hq => Or.inr hq, (name_of_methodNamed B.named B.method).1, rfl, hZ0, rfl⟩ ?_ s.heap [] ls hP hD va_S.rf hl
  intro u' lv pc r hd hr01 hp H locs ls hP' hD' hS' hl'
  exact W.zret B.exec B.bytes B.returns (by rcases hr01 with rfl | rfl <;> rfl) (fun t ht hW => ⟨⟨r, u', rfl, hp, by rw [ht]; exact hP', va_K.moved hW.alike hK, hD'⟩, hS'.F ht⟩) hS'.2.2 hd B.notSynchronized
theorem m_entV {l : Launch} {D : gD} {cy : Nat → ClassId} {S : Type} {Wd : S → va_W} {y : MethodName} {rm : Room} {av : List Value} {u : S} {post : S → Prop} {mc ms : Nat} (cc : ByteArray) (n : Nat) (hy : plainName y.cls = true) (hn : (lg_sl av).length ≤ n)
    (body : ∀ J : JT S, OKJ l D cy Wd J cc n y rm → RtV J cc post mc ms → J u (0, 0) (lv_args 0 av) 0 []) : CtV l D cy Wd y cc n none rm av u post mc ms := by
  intro sz
  refine Met.ofW (cc := cc) (maxL := n) (ret := none) hy rfl ?_
  intro p e s m args below meth c s₁ B hml hv
  obtain ⟨rfl, hsz, hP, hK, hD0, hZ0⟩ := hv
  subst hsz
  have hD := hD0.self (sz := s.heap.size)
  have hl := lv_entry av (n := n) hn
  rw [lg_entry_eq]
  generalize (lg_sl av ++ List.replicate (n - (lg_sl av).length) Slot.unset).toArray = ls at hl ⊢
  refine body (fun (u : S) (k : Nat × Nat) (lv : List (Nat × Value)) (pc : Nat) (st : List Value) => ∀ (H : Heap) (locs : List Loc) (ls : Array Slot), va_P D.1 vwCl (Wd u) H → va_D _ (Wd u) → va_S _ s.heap H locs → lv_has ls n lv → W p l e _ s m _ below meth c H locs k.1 k.2 _ (F0 m pc ls st)) ⟨p, e, s, m, _, below, meth, c, va_A (Wd u) s.heap.size, s.heap, _, ⟨B.exec, B.bytes, hml, findClass_of_methodNamed B.named, fun w hw => atoms_spec (ws := wsB y cc n none) B.pre w (List.mem_cons_of_mem _ hw)⟩, hK, fun q hq => Or.inr hq, (name_of_methodNamed B.named B.method).1, rfl, hZ0, rfl⟩ ?_ s.heap [] ls hP hD va_S.rf hl
  intro u' lv pc hd hp H locs ls hP' hD' hS' hl'
  exact W.vret B.exec B.bytes B.returns (fun t ht hW => ⟨⟨u', rfl, hp, by rw [ht]; exact hP', va_K.moved hW.alike hK, hD'⟩, hS'.F ht⟩) hS'.2.2 hd B.notSynchronized
/-! ===== calls whose callee has the whole world ===== -/
theorem wPre_blind {D : gD} {cy : Nat → ClassId} {S : Type} {Wd : S → va_W} {u : S} {sz : Nat} {av : List Value} : FrameBlind (va_Pc av (wPre D cy Wd u sz)) := fun a U g mk q => by
  obtain ⟨q0, q1, qP, qK, qD, qZ⟩ := q
  exact ⟨q0, q1, qP, va_K.moved (u := U) (U := U.calling g mk a) (Vm.Alike.refl U.vm) qK, qD, xZ.same rfl qZ⟩
section J2
variable {l : Launch} {D : gD} {cy : Nat → ClassId} {S : Type} {Wd : S → va_W} {J : JT S} {cc : ByteArray} {nL : Nat} {y0 : MethodName} {R : Room} {u : S} {q : Nat × Nat} {lv : List (Nat × Value)} {pc : Nat} {rest : List Value}
theorem j_callI (h : OKJ l D cy Wd J cc nL y0 R) {y : MethodName} {rm : Room} {As : List Value} {b : Nat} {post : Int32 → S → Prop} {mc ms index n maxL : Nat} {C : String} {bytes : ByteArray} {ret : Option FieldType} (hM : CtI l D cy Wd y bytes maxL ret rm (.ref b :: As) u post mc ms) (hG : GoodIn wsL_law (wsV y0.cls index C y (wsB y bytes maxL ret))) (hrc : rm.cells = mc) (hrs : rm.slots = ms)
    (hd : y.cls = C ∧ y.cls ≠ "java/lang/invoke/MethodHandle" ∧ y.cls ≠ "java/lang/invoke/VarHandle" ∧ (parseMethodDescriptor y.desc).map (fun d => d.parameters.length) = some n) (hR : rm.frames + 1 ≤ R.frames ∧ 8 + (maxL + 11) + rm.locals ≤ R.locals) (q0 : Nat) {ci : Nat} {cq : vw_C} {fs : List Value} (hb : (Wd u)[q0]? = some (b, .inr (ci, fs))) (hc : vwCl[ci]? = some cq) (hC : cq.1 = C)
    {st : List Value} (hst : st = As.reverse ++ .ref b :: rest) (hn : As.length = n) (hroom : (rest.map fun v => v.category).sum ≤ 8) (hdg : decode cc pc = .ok (.invokevirtual index, 3)) (hf : q.1 + mc ≤ R.cells ∧ q.2 + ms ≤ R.slots)
    (kk : ∀ (r : Int32) (u' : S), post r u' → J u' (q.1 + mc, q.2 + ms) lv (pc + 3) (.int r :: rest)) : J u q lv pc st := by
  obtain ⟨p, e, s, m, args, below, meth, c, A, H0, Q, h0, hK, hA, hnm', hH0, hZ, rfl⟩ := h
  intro H locs ls hP hD hS hl0
  have hF : ∀ q, va_A (Wd u) H.size q → A q := fun q hq => hq.elim (fun ⟨k, e, hk⟩ => hD.2 k _ hk) (fun hz => hA q (Nat.le_trans hS.1 hz))
  refine va_calli (va_runV (As := As) (rest := rest) h0 (hM H.size) (cwV n h0.2.2.2.2 hG rfl hrc hrs hd hR) ⟨wPre_blind, hC ▸ va_recv hK hP hc hb, fun U hU hW => ⟨rfl, by rw [hU], by rw [hU]; exact hP, va_K.moved hW.alike hK, hD.weaken (fun _ _ _ _ => trivial), by rw [hU]; exact ((hZ.kept (hH0 ▸ hS.2.1)).narrow hF).warm hW⟩⟩ rfl hn hl0.1 hst (lv_room hroom) hdg hf) hS (fun q _ h => hF q h) hF (fun r u' t H1 locs1 ht hvm hw hB hz1 hk1 hS1 => ?_)
  exact kk r u' hw H1 locs1 ls (ht ▸ hB.1) (hB.2.2.weaken (fun k q _ hq => hF _ hq)) hS1 hl0
theorem j_callV (h : OKJ l D cy Wd J cc nL y0 R) {y : MethodName} {rm : Room} {As : List Value} {b : Nat} {post : S → Prop} {mc ms index n maxL : Nat} {C : String} {bytes : ByteArray} {ret : Option FieldType} (hM : CtV l D cy Wd y bytes maxL ret rm (.ref b :: As) u post mc ms) (hG : GoodIn wsL_law (wsV y0.cls index C y (wsB y bytes maxL ret))) (hrc : rm.cells = mc) (hrs : rm.slots = ms)
    (hd : y.cls = C ∧ y.cls ≠ "java/lang/invoke/MethodHandle" ∧ y.cls ≠ "java/lang/invoke/VarHandle" ∧ (parseMethodDescriptor y.desc).map (fun d => d.parameters.length) = some n) (hR : rm.frames + 1 ≤ R.frames ∧ 8 + (maxL + 11) + rm.locals ≤ R.locals) (q0 : Nat) {ci : Nat} {cq : vw_C} {fs : List Value} (hb : (Wd u)[q0]? = some (b, .inr (ci, fs))) (hc : vwCl[ci]? = some cq) (hC : cq.1 = C)
    {st : List Value} (hst : st = As.reverse ++ .ref b :: rest) (hn : As.length = n) (hroom : (rest.map fun v => v.category).sum ≤ 8) (hdg : decode cc pc = .ok (.invokevirtual index, 3)) (hf : q.1 + mc ≤ R.cells ∧ q.2 + ms ≤ R.slots)
    (kk : ∀ u' : S, post u' → J u' (q.1 + mc, q.2 + ms) lv (pc + 3) rest) : J u q lv pc st := by
  obtain ⟨p, e, s, m, args, below, meth, c, A, H0, Q, h0, hK, hA, hnm', hH0, hZ, rfl⟩ := h
  intro H locs ls hP hD hS hl0
  have hF : ∀ q, va_A (Wd u) H.size q → A q := fun q hq => hq.elim (fun ⟨k, e, hk⟩ => hD.2 k _ hk) (fun hz => hA q (Nat.le_trans hS.1 hz))
  refine va_callv (va_runV (As := As) (rest := rest) h0 (hM H.size) (cwV n h0.2.2.2.2 hG rfl hrc hrs hd hR) ⟨wPre_blind, hC ▸ va_recv hK hP hc hb, fun U hU hW => ⟨rfl, by rw [hU], by rw [hU]; exact hP, va_K.moved hW.alike hK, hD.weaken (fun _ _ _ _ => trivial), by rw [hU]; exact ((hZ.kept (hH0 ▸ hS.2.1)).narrow hF).warm hW⟩⟩ rfl hn hl0.1 hst (lv_room hroom) hdg hf) hS (fun q _ h => hF q h) hF (fun u' t H1 locs1 ht hvm hw hB hz1 hk1 hS1 => ?_)
  exact kk u' hw H1 locs1 ls (ht ▸ hB.1) (hB.2.2.weaken (fun k q _ hq => hF _ hq)) hS1 hl0
/-- a static method of the same class -/
theorem j_callS (h : OKJ l D cy Wd J cc nL y0 R) {y : MethodName} {rm : Room} {As : List Value} {post : Int32 → S → Prop} {mc ms index n maxL : Nat} {bytes : ByteArray} {ret : Option FieldType} (hM : CtI l D cy Wd y bytes maxL ret rm As u post mc ms) (hG : GoodIn wsL_law (va_wsS y0.cls index y (wsB y bytes maxL ret))) (hrc : rm.cells = mc) (hrs : rm.slots = ms)
    (hd : y.cls ≠ "java/lang/invoke/MethodHandle" ∧ y.cls ≠ "java/lang/invoke/VarHandle" ∧ (parseMethodDescriptor y.desc).map (fun d => d.parameters.length) = some n) (hR : rm.frames + 1 ≤ R.frames ∧ 8 + (maxL + 11) + rm.locals ≤ R.locals)
    {st : List Value} (hst : st = As.reverse ++ rest) (hn : As.length = n) (hroom : (rest.map fun v => v.category).sum ≤ 8) (hdg : decode cc pc = .ok (.invokestatic index, 3)) (hf : q.1 + mc ≤ R.cells ∧ q.2 + ms ≤ R.slots)
    (kk : ∀ (r : Int32) (u' : S), post r u' → J u' (q.1 + mc, q.2 + ms) lv (pc + 3) (.int r :: rest)) : J u q lv pc st := by
  obtain ⟨p, e, s, m, args, below, meth, c, A, H0, Q, h0, hK, hA, hnm', hH0, hZ, rfl⟩ := h
  intro H locs ls hP hD hS hl0
  have hF : ∀ q, va_A (Wd u) H.size q → A q := fun q hq => hq.elim (fun ⟨k, e, hk⟩ => hD.2 k _ hk) (fun hz => hA q (Nat.le_trans hS.1 hz))
  refine va_calli (va_runS (As := As) (rest := rest) h0 (hM H.size) (va_cwS n h0.2.2.2.2 hG rfl hrc hrs hd hR) ⟨wPre_blind, fun U hU hW => ⟨rfl, by rw [hU], by rw [hU]; exact hP, va_K.moved hW.alike hK, hD.weaken (fun _ _ _ _ => trivial), by rw [hU]; exact ((hZ.kept (hH0 ▸ hS.2.1)).narrow hF).warm hW⟩⟩ rfl hn hl0.1 hst (lv_room hroom) hdg hf) hS (fun q _ h => hF q h) hF (fun r u' t H1 locs1 ht hvm hw hB hz1 hk1 hS1 => ?_)
  exact kk r u' hw H1 locs1 ls (ht ▸ hB.1) (hB.2.2.weaken (fun k q _ hq => hF _ hq)) hS1 hl0
end J2

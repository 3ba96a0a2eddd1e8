/-! ===== what nobody writes: a static of String, the tables of digits, the String constants of the classes ===== -/
/-- the kit's numbers of classes; where the String constants lie, and their bytes; the script: its place, length, numbers -/
abbrev gD : Type := va_G × (Nat → Nat) × (Nat → Nat) × (Nat × Nat × (Nat → Int32))
def nS : List (String × Nat × String) := [("BowlsGreen$Orders", 62, "d:n"), ("BowlsGreen$Orders", 64, "d,n@n*n+"), ("BowlsGreen$Orders", 66, "d"), ("BowlsGreen$Orders", 68, "n"), ("BowlsGreen$Orders", 70, ""), ("BowlsGreen", 375, ": "), ("BowlsGreen", 380, "dry"), ("BowlsGreen", 382, "wet "), ("BowlsGreen", 384, " j"), ("BowlsGreenLaw", 146, "r"), ("BowlsGreenLaw", 154, ";h"), ("BowlsGreenLaw", 160, "c"), ("BowlsGreenLaw", 162, ";e"), ("BowlsGreenLaw", 164, ":"), ("BowlsGreenLaw", 174, "z"), ("BowlsGreenLaw", 179, "r1;h0"), ("BowlsGreenLaw", 196, "3-5: wet 2 j20")]
def lenS : List Nat := [3, 8, 1, 1, 0, 2, 3, 4, 2, 1, 2, 1, 2, 1, 1, 5, 14]
def bytS : List (List Int32) := [[100, 58, 110], [100, 44, 110, 64, 110, 42, 110, 43], [100], [110], [], [58, 32], [100, 114, 121], [119, 101, 116, 32], [32, 106], [114], [59, 104], [99], [59, 101], [58], [122], [114, 49, 59, 104, 48], [51, 45, 53, 58, 32, 119, 101, 116, 32, 50, 32, 106, 50, 48]]
/-- the String constants, one by one: two of one text lie at one place -/
def xS (aK aV : Nat → Nat) (A : Nat → Prop) (U : State) (H : Heap) : Prop := ∀ i : Nat, i < 17 → vk_S 1 [lenS.getD i 0] [bytS.getD i []] (fun _ => aK i) (fun _ => aV i) A U H
section XS
variable {aK aV : Nat → Nat} {A B : Nat → Prop} {u U : State} {H H1 : Heap}
theorem xS.kept (h : xS aK aV A U H) (hq : ∀ a : Nat, a < H.size → ¬ A a → H1[a]? = H[a]?) : xS aK aV A U H1 := fun i hi => (h i hi).kept hq
theorem xS.narrow (h : xS aK aV A U H) (hAB : ∀ q, B q → A q) : xS aK aV B U H := fun i hi => (h i hi).narrow hAB
theorem xS.moved (h : xS aK aV A u H) (hvm : u.vm.Alike U.vm) : xS aK aV A U H := fun i hi => vk_S.moved hvm (h i hi)
theorem xS.got (h : xS aK aV A U H) {i : Nat} (hi : i < 17) : va_O "java/lang/String" (aK i) A U H ∧ va_OF "java/lang/String" "coder" "B" (.int 0) (aK i) A U H ∧ va_OF "java/lang/String" "value" "[B" (.ref (aV i)) (aK i) A U H ∧ va_T .byte (aV i) (lenS.getD i 0) (fun j => .int ((bytS.getD i []).getD j 0)) A U H := (h i hi).1 0 Nat.zero_lt_one
theorem xS.recv {s : State} {locs : List Loc} (h : xS aK aV A s s.heap) {i : Nat} (hi : i < 17) (hS : va_S A s.heap H locs) : ∃ cell : Cell, H[aK i]? = some cell ∧ cell.vm.isStatics = false ∧ s.vm.findClass "java/lang/String" = some cell.cls := by
  obtain ⟨cell, h1, h2, h3, -⟩ := (h.got hi).1.kept hS.2.1
  exact ⟨cell, h1, h2, h3⟩
end XS
/-- the law's script -/
def xX (D : gD) (A : Nat → Prop) (U : State) (H : Heap) : Prop := va_X D.2.2.2.1 D.2.2.2.2.1 D.2.2.2.2.2 U H ∧ ¬ A D.2.2.2.1
theorem xX.lt {D : gD} {A : Nat → Prop} {U : State} {H : Heap} (h : xX D A U H) : D.2.2.2.1 < H.size := by
  obtain ⟨⟨scr, h1, -⟩, -⟩ := h
  exact (Array.getElem?_eq_some_iff.mp h1).1
theorem xX.kept {D : gD} {A : Nat → Prop} {U : State} {H H1 : Heap} (h : xX D A U H) (hq : ∀ a : Nat, a < H.size → ¬ A a → H1[a]? = H[a]?) : xX D A U H1 := ⟨h.1.kept (hq _ h.lt h.2), h.2⟩
theorem xX.narrow {D : gD} {A B : Nat → Prop} {U : State} {H : Heap} (h : xX D A U H) (hAB : ∀ q, B q → A q) : xX D B U H := ⟨h.1, fun q => h.2 (hAB _ q)⟩
theorem xX.moved {D : gD} {A : Nat → Prop} {u U : State} {H : Heap} (hvm : u.vm.Alike U.vm) (h : xX D A u H) : xX D A U H := ⟨va_X.moved hvm h.1, h.2⟩
def xZ (D : gD) (A : Nat → Prop) (U : State) (H : Heap) : Prop :=
  va_Z "java/lang/String" "COMPACT_STRINGS" "Z" (.int 1) A U H ∧ va_Zq "jdk/internal/util/Preconditions" "SIOOBE_FORMATTER" "Ljava/util/function/BiFunction;" A U H ∧
  (∃ t : Nat, va_Z "java/lang/Integer" "DigitOnes" "[B" (.ref t) A U H ∧ va_T .byte t 100 (fun j => .int (nI (48 + j % 10))) A U H) ∧
  (∃ t : Nat, va_Z "java/lang/Integer" "DigitTens" "[B" (.ref t) A U H ∧ va_T .byte t 100 (fun j => .int (nI (48 + j / 10))) A U H) ∧
  xS D.2.1 D.2.2.1 A U H ∧ (∀ (i : Nat) (x : String × Nat × String), nS[i]? = some x → vk_R x.1 x.2.1 x.2.2 (D.2.1 i) U) ∧ xX D A U H
theorem xZ.kept {D : gD} {A : Nat → Prop} {U : State} {H H1 : Heap} (h : xZ D A U H) (hq : ∀ a : Nat, a < H.size → ¬ A a → H1[a]? = H[a]?) : xZ D A U H1 :=
  ⟨h.1.kept hq, h.2.1.kept hq, h.2.2.1.elim fun t g => ⟨t, g.1.kept hq, g.2.kept hq⟩, h.2.2.2.1.elim fun t g => ⟨t, g.1.kept hq, g.2.kept hq⟩, h.2.2.2.2.1.kept hq, h.2.2.2.2.2.1, h.2.2.2.2.2.2.kept hq⟩
theorem xZ.narrow {D : gD} {A B : Nat → Prop} {U : State} {H : Heap} (h : xZ D A U H) (hAB : ∀ q, B q → A q) : xZ D B U H :=
  ⟨h.1.narrow hAB, h.2.1.narrow hAB, h.2.2.1.elim fun t g => ⟨t, g.1.narrow hAB, g.2.narrow hAB⟩, h.2.2.2.1.elim fun t g => ⟨t, g.1.narrow hAB, g.2.narrow hAB⟩, h.2.2.2.2.1.narrow hAB, h.2.2.2.2.2.1, h.2.2.2.2.2.2.narrow hAB⟩
theorem xZ.warm {D : gD} {A : Nat → Prop} {u U : State} {H : Heap} (hW : u.WarmedH U.vm) (h : xZ D A u H) : xZ D A U H :=
  ⟨h.1.moved hW.alike, h.2.1.moved hW.alike, h.2.2.1.elim fun t g => ⟨t, g.1.moved hW.alike, g.2.moved hW.alike⟩, h.2.2.2.1.elim fun t g => ⟨t, g.1.moved hW.alike, g.2.moved hW.alike⟩, h.2.2.2.2.1.moved hW.alike, fun i x hx => (h.2.2.2.2.2.1 i x hx).warm hW, h.2.2.2.2.2.2.moved hW.alike⟩
theorem xZ.same {D : gD} {A : Nat → Prop} {u U : State} {H : Heap} (hv : U.vm = u.vm) (h : xZ D A u H) : xZ D A U H := by
  have hA : u.vm.Alike U.vm := hv ▸ Vm.Alike.refl u.vm
  exact ⟨h.1.moved hA, h.2.1.moved hA, h.2.2.1.elim fun t g => ⟨t, g.1.moved hA, g.2.moved hA⟩, h.2.2.2.1.elim fun t g => ⟨t, g.1.moved hA, g.2.moved hA⟩, h.2.2.2.2.1.moved hA, fun i x hx => vk_R.same hv (h.2.2.2.2.2.1 i x hx), h.2.2.2.2.2.2.moved hA⟩

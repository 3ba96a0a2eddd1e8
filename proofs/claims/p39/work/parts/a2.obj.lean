/-! ===== what holds of an object between its calls ===== -/
section A3
variable {M N P : gM}
theorem EQG.rf : EQG M M := ⟨fun _ _ _ => rfl, fun _ _ _ _ _ => rfl, fun _ _ _ _ _ => rfl, fun _ _ _ _ => rfl⟩
theorem EQG.sy (h : EQG M N) : EQG N M :=
  ⟨fun k a b => (h.1 k a b).symm, fun r a b j c => (h.2.1 r a (by rw [← h.1 3 (by decide) (by decide)]; exact b) j c).symm, fun w a b j c => (h.2.2.1 w a (by rw [← h.1 4 (by decide) (by decide)]; exact b) j c).symm, fun c a i b => (h.2.2.2 c a i b).symm⟩
theorem EQG.tr (h : EQG M N) (g : EQG N P) : EQG M P :=
  ⟨fun k a b => (h.1 k a b).trans (g.1 k a b), fun r a b j c => (h.2.1 r a (by rw [g.1 3 (by decide) (by decide)]; exact b) j c).trans (g.2.1 r a b j c), fun w a b j c => (h.2.2.1 w a (by rw [g.1 4 (by decide) (by decide)]; exact b) j c).trans (g.2.2.1 w a b j c), fun c a i b => (h.2.2.2 c a i b).trans (g.2.2.2 c a i b)⟩
/-- a green that can be -/
def OKG (M : gM) : Prop := ∃ f, GR M f
theorem OKG.eq (h : OKG N) (e : EQG M N) : OKG M := h.elim fun f g => ⟨f, g.congr e (fun _ _ => rfl)⟩
end A3
/-- the greens that undo gives back: the latest first -/
def HI (G : Nat → gM) (X : Nat → Int32) (h : Nat → gM) (n : Nat) : Prop := ∃ fr, fr < 9 ∧ n ≤ 8 ∧ X 2 = nI fr ∧ X 3 = nI n ∧ ∀ i, i < n → EQG (G (2 + (fr + 8 - i) % 9)) (h i) ∧ OKG (h i)
/-- what is saved -/
def SV (G : Nat → gM) (X : Nat → Int32) : Option gM → Prop
  | none => X 0 = 0
  | some S => X 0 = 1 ∧ EQG (G 1) S ∧ OKG S
/-- one more before the rest -/
def pu (M : gM) (h : Nat → gM) : Nat → gM := fun i => if i = 0 then M else h (i - 1)
/-- all that holds of an object -/
def OBx (G : Nat → gM) (M : gM) (X : Nat → Int32) (A : Nat → Nat → Int32) (b : cB) (h : Nat → gM) (n : Nat) (sv : Option gM) (t : Nat → Nat) (k : Nat) : Prop :=
  (∃ Y B, RLL G M X A Y B ∧ RT X A Y B t k) ∧ GI M ∧ (∀ g, 1 ≤ g → g < 11 → GI (G g)) ∧ HI G X h n ∧ SV G X sv ∧ TX k b.2.1 (A 4) ∧ ∃ nl, nl ≤ 110 ∧ X 8 = nI nl ∧ TX nl b.2.2.2 (A 5)
section A4
variable {G : Nat → gM} {M N : gM} {X X1 : Nat → Int32} {A A1 : Nat → Nat → Int32} {b : cB} {h : Nat → gM} {n : Nat} {sv : Option gM} {t : Nat → Nat} {k : Nat}
theorem kq2 : ∀ fr : Nat, fr < 9 → (nI fr + 1) - (nI fr + 1) / 9 * 9 = nI ((fr + 1) % 9) := by decide +kernel
theorem kq3 : ∀ n : Nat, n ≤ 8 → (if nI n + 1 < 8 then nI n + 1 else 8) = nI (min 8 (n + 1)) := by
  intro n hn
  have h : ∀ n : Nat, n < 9 → (if nI n + 1 < 8 then nI n + 1 else 8) = nI (min 8 (n + 1)) := by decide +kernel
  exact h n (by omega)
theorem kq4 : ∀ fr : Nat, fr < 9 → tbx (nI fr) = nI ((fr + 8) % 9) := by decide +kernel
theorem HI.note (hh : HI G X h n) : HI (va_up G (2 + (X 2).toNatClampNeg) N) X h n := by
  obtain ⟨fr, hf, hn, e2, e3, hr⟩ := hh
  refine ⟨fr, hf, hn, e2, e3, fun i hi => ?_⟩
  have hk : (X 2).toNatClampNeg = fr := by rw [e2, nI_clamp (by omega)]
  rw [hk, va_up_ne _ _ (by omega)]
  exact hr i hi
theorem HI.frame (hh : HI G X h n) (e2 : X1 2 = X 2) (e3 : X1 3 = X 3) : HI G X1 h n := by
  obtain ⟨fr, hf, hn, x2, x3, hr⟩ := hh
  exact ⟨fr, hf, hn, e2.trans x2, e3.trans x3, hr⟩
theorem HI.keep (hh : HI G X h n) (hM : OKG M) : HI (va_up G (2 + (X 2).toNatClampNeg) (f_X1_become (G (2 + (X 2).toNatClampNeg)) M)) (f_X3_keep N X A) (pu M h) (min 8 (n + 1)) := by
  obtain ⟨fr, hf, hn, e2, e3, hr⟩ := hh
  have hk : (X 2).toNatClampNeg = fr := by rw [e2, nI_clamp (by omega)]
  refine ⟨(fr + 1) % 9, by omega, by omega, ?_, ?_, fun i hi => ?_⟩
  · unfold f_X3_keep
    rw [upd_ne _ _ (by decide), upd_eq, e2]
    exact kq2 fr hf
  · unfold f_X3_keep
    rw [upd_eq, upd_ne _ _ (by decide), e3]
    exact kq3 n hn
  · rw [hk]
    by_cases hi0 : i = 0
    · subst hi0
      rw [show 2 + ((fr + 1) % 9 + 8 - 0) % 9 = 2 + fr by omega, va_up_self]
      exact ⟨become_eq _ _, hM⟩
    · rw [va_up_ne _ _ (show 2 + ((fr + 1) % 9 + 8 - i) % 9 ≠ 2 + fr by omega), show 2 + ((fr + 1) % 9 + 8 - i) % 9 = 2 + (fr + 8 - (i - 1)) % 9 by omega]
      have e : pu M h i = h (i - 1) := if_neg hi0
      rw [e]
      exact hr (i - 1) (by omega)
theorem SV.note (hs : SV G X sv) : SV (va_up G (2 + n) N) X sv := by
  cases sv with
  | none => exact hs
  | some S =>
    refine ⟨hs.1, ?_, hs.2.2⟩
    rw [va_up_ne _ _ (by omega)]
    exact hs.2.1
theorem SV.frame (hs : SV G X sv) (e : X1 0 = X 0) : SV G X1 sv := by
  cases sv with
  | none => exact e.trans hs
  | some S => exact ⟨e.trans hs.1, hs.2⟩
theorem GI.note (hM : GI M) (hg : ∀ g, 1 ≤ g → g < 11 → GI (G g)) (h2 : vp_in (X 2) 9) : ∀ g, 1 ≤ g → g < 11 → GI (va_up G (2 + (X 2).toNatClampNeg) (f_X1_become (G (2 + (X 2).toNatClampNeg)) M) g) := by
  intro g h1 h11
  have := vp_lt h2
  show GI (if g = 2 + (X 2).toNatClampNeg then f_X1_become (G (2 + (X 2).toNatClampNeg)) M else G g)
  by_cases e : g = 2 + (X 2).toNatClampNeg
  · rw [if_pos e]
    exact GI_bc (hg _ (by omega) (by omega)) hM rfl
  · rw [if_neg e]; exact hg g h1 h11
theorem HI.v2 (hh : HI G X h n) : vp_in (X 2) 9 := by
  obtain ⟨fr, hf, hn, e2, -⟩ := hh
  rw [e2]; exact vp_in_nI hf (by decide)
theorem OBx.ok (hO : OBx G M X A b h n sv t k) : OKG M := by
  obtain ⟨⟨Y, B, hL, -⟩, -⟩ := hO
  exact ⟨_, hL.1⟩
/-- a change: its answer; a code, and all is as it was but the reasons; or done, and what was is kept -/
def RES (G : Nat → gM) (M : gM) (X : Nat → Int32) (A : Nat → Nat → Int32) (b : cB) (h : Nat → gM) (n : Nat) (sv : Option gM) (t : Nat → Nat) (k : Nat) (z : Int32 × (Nat → gM) × gM × (Nat → Int32) × (Nat → Nat → Int32)) (P : Int32 → Prop) : Prop :=
  z.2.2.2.1 1 = X 1 ∧ ((CODE z.1 ∧ z.2.2.1 = M ∧ OBx z.2.1 M z.2.2.2.1 z.2.2.2.2 b h n sv t k ∧ (z.1 = -3 ∨ (z.2.2.2.1 6 = X 6 ∧ z.2.2.2.2 = A))) ∨
    (P z.1 ∧ OBx z.2.1 z.2.2.1 z.2.2.2.1 z.2.2.2.2 b (pu M h) (min 8 (n + 1)) sv t k ∧ z.2.2.2.1 6 = X 6 ∧ z.2.2.2.2 = A))
theorem OBx.op (hO : OBx G M X A b h n sv t k) {z : Int32 × gM × (Nat → Int32) × (Nat → Nat → Int32)} {zz : Int32 × (Nat → gM) × gM × (Nat → Int32) × (Nat → Nat → Int32)} {P : Int32 → Prop} (hi : INN M X A z P) (hP : ∀ a, P a → ¬ CODE a)
    (he : zz = ((f_X7_settle z.2.1 z.2.2.1 z.2.2.2 z.1).1, f_X3_note G M X A, z.2.1, (f_X7_settle z.2.1 z.2.2.1 z.2.2.2 z.1).2, z.2.2.2)) (hg : GI zz.2.2.1) (hc : ∀ Y B, RLL G M X A Y B → ∃ w, CHG G M X A Y B zz w) : RES G M X A b h n sv t k zz P := by
  obtain ⟨⟨Y, B, hL, hT⟩, hM, hGs, hh, hs, htx, nl, hnl, e8, hln⟩ := hO
  have hok : OKG M := ⟨_, hL.1⟩
  obtain ⟨w, -, c2, f1, fa, f3, f4, -⟩ := hc Y B hL
  have hT' := hT.far (f1 7 (by decide) (by decide) (by decide)) (f3 9 (by decide) (by decide) (by decide)) (fa 4 (by decide) (by decide)) (f4 5 (by decide) (by decide) (by decide) (by decide))
  obtain ⟨i1, i2, i3, i4⟩ := hi
  have hL2 : TX nl b.2.2.2 (zz.2.2.2.2 5) := by rw [fa 5 (by decide) (by decide)]; exact hln
  have hL1 : TX k b.2.1 (zz.2.2.2.2 4) := by rw [fa 4 (by decide) (by decide)]; exact htx
  have hX8 : zz.2.2.2.1 8 = nI nl := (f1 8 (by decide) (by decide) (by decide)).trans e8
  have hs' : SV zz.2.1 zz.2.2.2.1 sv := by
    refine SV.frame ?_ (f1 0 (by decide) (by decide) (by decide))
    rw [he]
    show SV (f_X3_note G M X A) X sv
    rw [note_eq]
    exact hs.note
  have hgs' : ∀ g, 1 ≤ g → g < 11 → GI (zz.2.1 g) := by
    rw [he]
    show ∀ g, 1 ≤ g → g < 11 → GI (f_X3_note G M X A g)
    rw [note_eq]
    exact GI.note hM hGs hh.v2
  refine ⟨f1 1 (by decide) (by decide) (by decide), ?_⟩
  rcases i3 with ⟨hcode, hMM⟩ | ⟨hPz, hXX, hAA⟩
  · have es : f_X7_settle z.2.1 z.2.2.1 z.2.2.2 z.1 = (z.1, z.2.2.1) := settle_c hcode
    have eM : zz.2.2.1 = M := by rw [he]; exact hMM
    refine Or.inl ⟨by rw [he, es]; exact hcode, eM, ⟨⟨w.2.1, w.2.2, eM ▸ c2, hT'⟩, hM, hgs', ?_, hs', hL1, nl, hnl, hX8, hL2⟩, ?_⟩
    · rw [he, es]
      show HI (f_X3_note G M X A) z.2.2.1 h n
      rw [note_eq]
      exact hh.note.frame (i1 2 (by decide)) (i1 3 (by decide))
    · rw [he, es]
      exact i4.imp id (fun q => ⟨by show z.2.2.1 6 = X 6; rw [q.1], q.2⟩)
  · have es : f_X7_settle z.2.1 z.2.2.1 z.2.2.2 z.1 = (z.1, f_X3_keep z.2.1 z.2.2.1 z.2.2.2) := settle_d ⟨fun q => hP _ hPz (Or.inl q), fun q => hP _ hPz (Or.inr (Or.inl q)), fun q => hP _ hPz (Or.inr (Or.inr q))⟩
    refine Or.inr ⟨by rw [he, es]; exact hPz, ⟨⟨w.2.1, w.2.2, c2, hT'⟩, hg, hgs', ?_, hs', hL1, nl, hnl, hX8, hL2⟩, ?_, by rw [he]; exact hAA⟩
    · rw [he, es]
      show HI (f_X3_note G M X A) (f_X3_keep z.2.1 z.2.2.1 z.2.2.2) (pu M h) (min 8 (n + 1))
      rw [note_eq, hXX]
      exact hh.keep hok
    · rw [he, es]
      show f_X3_keep z.2.1 z.2.2.1 z.2.2.2 6 = X 6
      unfold f_X3_keep
      rw [upd_ne _ _ (by decide), upd_ne _ _ (by decide), hXX]
end A4

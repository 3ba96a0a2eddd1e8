section RO2
variable {M : gM} {X Y : Nat → Int32} {A B : Nat → Nat → Int32} {t : Nat → Nat} {n : Nat}
theorem io_no (hne : ¬ Y 10 = Y 9) {c : Int32} (hL : B 5 (Y 10).toNatClampNeg = c) (h98 : ¬ c = 98) (h99 : ¬ c = 99) (h101 : ¬ c = 101) (h104 : ¬ c = 104) (h114 : ¬ c = 114) (h115 : ¬ c = 115) (h116 : ¬ c = 116) (h119 : ¬ c = 119) : f_X8_isOrder Y B = (0, (upd Y 11 c, B)) := by
  unfold f_X8_isOrder
  rw [if_neg hne, hL]
  simp only [upd_eq, if_neg h98, if_neg h99, if_neg h101, if_neg h104, if_neg h114, if_neg h115, if_neg h116, if_neg h119, ite_self]
theorem io_98 (hne : ¬ Y 10 = Y 9) (hL : B 5 (Y 10).toNatClampNeg = nI 98) : f_X8_isOrder Y B = rO [100, 44, 110, 64, 110, 42, 110, 43] 0 (upd (upd Y 11 (nI 98)) 10 (upd Y 11 (nI 98) 10 + 1)) B := by
  unfold f_X8_isOrder
  rw [if_neg hne, hL, upd_eq, if_pos (show nI 98 = 98 from rfl)]
  simp only [rO, reduceIte, Nat.reduceEqDiff, Nat.reduceAdd, Nat.zero_add, show nI 0 = 0 from rfl, show nI 1 = 1 from rfl, show nI 2 = 2 from rfl, show nI 3 = 3 from rfl, show nI 44 = 44 from rfl, show nI 64 = 64 from rfl, show nI 42 = 42 from rfl, show nI 58 = 58 from rfl]
theorem io_101 (hne : ¬ Y 10 = Y 9) (hL : B 5 (Y 10).toNatClampNeg = nI 101) : f_X8_isOrder Y B = rO [100, 58, 110] 0 (upd (upd Y 11 (nI 101)) 10 (upd Y 11 (nI 101) 10 + 1)) B := by
  unfold f_X8_isOrder
  rw [if_neg hne, hL, upd_eq, if_neg (show ¬ (nI 101 : Int32) = 98 by decide), if_neg (show ¬ (nI 101 : Int32) = 99 by decide), if_neg (show ¬ (nI 101 : Int32) = 100 by decide), if_pos (show nI 101 = 101 from rfl)]
  simp only [rO, reduceIte, Nat.reduceEqDiff, Nat.reduceAdd, Nat.zero_add, show nI 0 = 0 from rfl, show nI 1 = 1 from rfl, show nI 2 = 2 from rfl, show nI 3 = 3 from rfl, show nI 44 = 44 from rfl, show nI 64 = 64 from rfl, show nI 42 = 42 from rfl, show nI 58 = 58 from rfl]
theorem io_99 (hne : ¬ Y 10 = Y 9) (hL : B 5 (Y 10).toNatClampNeg = nI 99) : f_X8_isOrder Y B = f_X8_digits (upd (upd Y 11 (nI 99)) 10 (upd Y 11 (nI 99) 10 + 1)) B (nI 0) (nI 1) := by
  unfold f_X8_isOrder
  rw [if_neg hne, hL, upd_eq, if_neg (show ¬ (nI 99 : Int32) = 98 by decide), if_pos (show nI 99 = 99 from rfl), bd_x]
  rfl
theorem io_104 (hne : ¬ Y 10 = Y 9) (hL : B 5 (Y 10).toNatClampNeg = nI 104) : f_X8_isOrder Y B = f_X8_digits (upd (upd Y 11 (nI 104)) 10 (upd Y 11 (nI 104) 10 + 1)) B (nI 0) (nI 2) := by
  unfold f_X8_isOrder
  rw [if_neg hne, hL, upd_eq, if_neg (show ¬ (nI 104 : Int32) = 98 by decide), if_neg (show ¬ (nI 104 : Int32) = 99 by decide), if_neg (show ¬ (nI 104 : Int32) = 100 by decide), if_neg (show ¬ (nI 104 : Int32) = 101 by decide), if_neg (show ¬ (nI 104 : Int32) = 102 by decide), if_neg (show ¬ (nI 104 : Int32) = 103 by decide), if_pos (show nI 104 = 104 from rfl), bd_x]
  rfl
theorem io_114 (hne : ¬ Y 10 = Y 9) (hL : B 5 (Y 10).toNatClampNeg = nI 114) : f_X8_isOrder Y B = f_X8_digits (upd (upd Y 11 (nI 114)) 10 (upd Y 11 (nI 114) 10 + 1)) B (nI 0) (nI 1) := by
  unfold f_X8_isOrder
  rw [if_neg hne, hL, upd_eq, if_neg (show ¬ (nI 114 : Int32) = 98 by decide), if_neg (show ¬ (nI 114 : Int32) = 99 by decide), if_neg (show ¬ (nI 114 : Int32) = 100 by decide), if_neg (show ¬ (nI 114 : Int32) = 101 by decide), if_neg (show ¬ (nI 114 : Int32) = 102 by decide), if_neg (show ¬ (nI 114 : Int32) = 103 by decide), if_neg (show ¬ (nI 114 : Int32) = 104 by decide), if_neg (show ¬ (nI 114 : Int32) = 105 by decide), if_neg (show ¬ (nI 114 : Int32) = 106 by decide), if_neg (show ¬ (nI 114 : Int32) = 107 by decide), if_neg (show ¬ (nI 114 : Int32) = 108 by decide), if_neg (show ¬ (nI 114 : Int32) = 109 by decide), if_neg (show ¬ (nI 114 : Int32) = 110 by decide), if_neg (show ¬ (nI 114 : Int32) = 111 by decide), if_neg (show ¬ (nI 114 : Int32) = 112 by decide), if_neg (show ¬ (nI 114 : Int32) = 113 by decide), if_pos (show nI 114 = 114 from rfl), bd_x]
  rfl
theorem io_115 (hne : ¬ Y 10 = Y 9) (hL : B 5 (Y 10).toNatClampNeg = nI 115) : f_X8_isOrder Y B = f_X8_digits (upd (upd Y 11 (nI 115)) 10 (upd Y 11 (nI 115) 10 + 1)) B (nI 0) (nI 1) := by
  unfold f_X8_isOrder
  rw [if_neg hne, hL, upd_eq, if_neg (show ¬ (nI 115 : Int32) = 98 by decide), if_neg (show ¬ (nI 115 : Int32) = 99 by decide), if_neg (show ¬ (nI 115 : Int32) = 100 by decide), if_neg (show ¬ (nI 115 : Int32) = 101 by decide), if_neg (show ¬ (nI 115 : Int32) = 102 by decide), if_neg (show ¬ (nI 115 : Int32) = 103 by decide), if_neg (show ¬ (nI 115 : Int32) = 104 by decide), if_neg (show ¬ (nI 115 : Int32) = 105 by decide), if_neg (show ¬ (nI 115 : Int32) = 106 by decide), if_neg (show ¬ (nI 115 : Int32) = 107 by decide), if_neg (show ¬ (nI 115 : Int32) = 108 by decide), if_neg (show ¬ (nI 115 : Int32) = 109 by decide), if_neg (show ¬ (nI 115 : Int32) = 110 by decide), if_neg (show ¬ (nI 115 : Int32) = 111 by decide), if_neg (show ¬ (nI 115 : Int32) = 112 by decide), if_neg (show ¬ (nI 115 : Int32) = 113 by decide), if_neg (show ¬ (nI 115 : Int32) = 114 by decide), if_pos (show nI 115 = 115 from rfl), bd_x]
  rfl
theorem io_116 (hne : ¬ Y 10 = Y 9) (hL : B 5 (Y 10).toNatClampNeg = nI 116) : f_X8_isOrder Y B = f_X8_digits (upd (upd Y 11 (nI 116)) 10 (upd Y 11 (nI 116) 10 + 1)) B (nI 0) (nI 1) := by
  unfold f_X8_isOrder
  rw [if_neg hne, hL, upd_eq, if_neg (show ¬ (nI 116 : Int32) = 98 by decide), if_neg (show ¬ (nI 116 : Int32) = 99 by decide), if_neg (show ¬ (nI 116 : Int32) = 100 by decide), if_neg (show ¬ (nI 116 : Int32) = 101 by decide), if_neg (show ¬ (nI 116 : Int32) = 102 by decide), if_neg (show ¬ (nI 116 : Int32) = 103 by decide), if_neg (show ¬ (nI 116 : Int32) = 104 by decide), if_neg (show ¬ (nI 116 : Int32) = 105 by decide), if_neg (show ¬ (nI 116 : Int32) = 106 by decide), if_neg (show ¬ (nI 116 : Int32) = 107 by decide), if_neg (show ¬ (nI 116 : Int32) = 108 by decide), if_neg (show ¬ (nI 116 : Int32) = 109 by decide), if_neg (show ¬ (nI 116 : Int32) = 110 by decide), if_neg (show ¬ (nI 116 : Int32) = 111 by decide), if_neg (show ¬ (nI 116 : Int32) = 112 by decide), if_neg (show ¬ (nI 116 : Int32) = 113 by decide), if_neg (show ¬ (nI 116 : Int32) = 114 by decide), if_neg (show ¬ (nI 116 : Int32) = 115 by decide), if_pos (show nI 116 = 116 from rfl), bd_x]
  rfl
theorem io_119 (hne : ¬ Y 10 = Y 9) (hL : B 5 (Y 10).toNatClampNeg = nI 119) : f_X8_isOrder Y B = f_X8_digits (upd (upd Y 11 (nI 119)) 10 (upd Y 11 (nI 119) 10 + 1)) B (nI 0) (nI 1) := by
  unfold f_X8_isOrder
  rw [if_neg hne, hL, upd_eq, if_neg (show ¬ (nI 119 : Int32) = 98 by decide), if_neg (show ¬ (nI 119 : Int32) = 99 by decide), if_neg (show ¬ (nI 119 : Int32) = 100 by decide), if_neg (show ¬ (nI 119 : Int32) = 101 by decide), if_neg (show ¬ (nI 119 : Int32) = 102 by decide), if_neg (show ¬ (nI 119 : Int32) = 103 by decide), if_neg (show ¬ (nI 119 : Int32) = 104 by decide), if_neg (show ¬ (nI 119 : Int32) = 105 by decide), if_neg (show ¬ (nI 119 : Int32) = 106 by decide), if_neg (show ¬ (nI 119 : Int32) = 107 by decide), if_neg (show ¬ (nI 119 : Int32) = 108 by decide), if_neg (show ¬ (nI 119 : Int32) = 109 by decide), if_neg (show ¬ (nI 119 : Int32) = 110 by decide), if_neg (show ¬ (nI 119 : Int32) = 111 by decide), if_neg (show ¬ (nI 119 : Int32) = 112 by decide), if_neg (show ¬ (nI 119 : Int32) = 113 by decide), if_neg (show ¬ (nI 119 : Int32) = 114 by decide), if_neg (show ¬ (nI 119 : Int32) = 115 by decide), if_neg (show ¬ (nI 119 : Int32) = 116 by decide), if_neg (show ¬ (nI 119 : Int32) = 117 by decide), if_neg (show ¬ (nI 119 : Int32) = 118 by decide), if_pos (show nI 119 = 119 from rfl), bd_x]
  rfl
end RO2

/-! ===== the first object's states ===== -/
set_option maxRecDepth 100000
def mkN (t : List Int32 × List (List Int32) × Nat × List (List Int32)) : gM := (fun k => t.1.getD k 0, fun r j => (t.2.1.getD r []).getD j 0, fun w j => if j = 0 ∧ 8 ≤ w ∧ w < t.2.2.1 then 1 else 0, fun c j => (t.2.2.2.getD c []).getD j 0)
def tbN : List (List Int32 × List (List Int32) × Nat × List (List Int32)) := [
  ([0, 0, 0, 0, 0, 0, 1, 2, 12, 0, 0], [], 0, [[0, 0, 10, 0], [0, 0, 10, 0]]),
  ([0, 0, 0, 0, 0, 24, 1, 2, 12, 0, 0], [], 0, [[0, 0, 10, 0], [0, 0, 10, 0]]),
  ([0, 0, 0, 1, 0, 24, 1, 2, 12, 0, 0], [[0, 2, 0, 0, 0, 0, 0, 0, 0, 0]], 0, [[0, 0, 10, 0], [0, 0, 10, 0]]),
  ([0, 0, 0, 2, 0, 24, 1, 2, 12, 0, 0], [[0, 2, 0, 0, 0, 0, 0, 0, 0, 0], [3, 5, 0, 0, 0, 0, 0, 0, 0, 0]], 0, [[0, 0, 10, 0], [0, 0, 10, 0]]),
  ([0, 0, 0, 3, 0, 24, 1, 2, 12, 0, 0], [[0, 2, 0, 0, 0, 0, 0, 0, 0, 0], [3, 5, 0, 0, 0, 0, 0, 0, 0, 0], [6, 8, 0, 0, 0, 0, 0, 0, 0, 0]], 0, [[0, 0, 10, 0], [0, 0, 10, 0]]),
  ([0, 0, 0, 4, 0, 24, 1, 2, 12, 0, 0], [[0, 2, 0, 0, 0, 0, 0, 0, 0, 0], [3, 5, 0, 0, 0, 0, 0, 0, 0, 0], [6, 8, 0, 0, 0, 0, 0, 0, 0, 0], [9, 18, 0, 0, 0, 0, 0, 0, 0, 0]], 0, [[0, 0, 10, 0], [0, 0, 10, 0]]),
  ([0, 0, 0, 4, 1, 24, 1, 2, 12, 0, 0], [[0, 2, 0, 0, 0, 0, 0, 0, 0, 0], [3, 5, 0, 0, 0, 0, 0, 0, 0, 0], [6, 8, 0, 0, 0, 0, 0, 0, 0, 0], [9, 18, 0, 0, 0, 0, 0, 0, 0, 0]], 1, [[0, 0, 10, 0], [0, 0, 10, 0]]),
  ([0, 0, 0, 4, 2, 24, 1, 2, 12, 0, 0], [[0, 2, 0, 0, 0, 0, 0, 0, 0, 0], [3, 5, 0, 0, 0, 0, 0, 0, 0, 0], [6, 8, 0, 0, 0, 0, 0, 0, 0, 0], [9, 18, 0, 0, 0, 0, 0, 0, 0, 0]], 2, [[0, 0, 10, 0], [0, 0, 10, 0]]),
  ([0, 0, 0, 4, 3, 24, 1, 2, 12, 0, 0], [[0, 2, 0, 0, 0, 0, 0, 0, 0, 0], [3, 5, 0, 0, 0, 0, 0, 0, 0, 0], [6, 8, 0, 0, 0, 0, 0, 0, 0, 0], [9, 18, 0, 0, 0, 0, 0, 0, 0, 0]], 3, [[0, 0, 10, 0], [0, 0, 10, 0]]),
  ([0, 0, 0, 4, 4, 24, 1, 2, 12, 0, 0], [[0, 2, 0, 0, 0, 0, 0, 0, 0, 0], [3, 5, 0, 0, 0, 0, 0, 0, 0, 0], [6, 8, 0, 0, 0, 0, 0, 0, 0, 0], [9, 18, 0, 0, 0, 0, 0, 0, 0, 0]], 4, [[0, 0, 10, 0], [0, 0, 10, 0]]),
  ([0, 0, 0, 4, 5, 24, 1, 2, 12, 0, 0], [[0, 2, 0, 0, 0, 0, 0, 0, 0, 0], [3, 5, 0, 0, 0, 0, 0, 0, 0, 0], [6, 8, 0, 0, 0, 0, 0, 0, 0, 0], [9, 18, 0, 0, 0, 0, 0, 0, 0, 0]], 5, [[0, 0, 10, 0], [0, 0, 10, 0]]),
  ([0, 0, 0, 4, 6, 24, 1, 2, 12, 0, 0], [[0, 2, 0, 0, 0, 0, 0, 0, 0, 0], [3, 5, 0, 0, 0, 0, 0, 0, 0, 0], [6, 8, 0, 0, 0, 0, 0, 0, 0, 0], [9, 18, 0, 0, 0, 0, 0, 0, 0, 0]], 6, [[0, 0, 10, 0], [0, 0, 10, 0]]),
  ([0, 0, 0, 4, 7, 24, 1, 2, 12, 0, 0], [[0, 2, 0, 0, 0, 0, 0, 0, 0, 0], [3, 5, 0, 0, 0, 0, 0, 0, 0, 0], [6, 8, 0, 0, 0, 0, 0, 0, 0, 0], [9, 18, 0, 0, 0, 0, 0, 0, 0, 0]], 7, [[0, 0, 10, 0], [0, 0, 10, 0]]),
  ([0, 0, 0, 4, 8, 24, 1, 2, 12, 0, 0], [[0, 2, 0, 0, 0, 0, 0, 0, 0, 0], [3, 5, 0, 0, 0, 0, 0, 0, 0, 0], [6, 8, 0, 0, 0, 0, 0, 0, 0, 0], [9, 18, 0, 0, 0, 0, 0, 0, 0, 0]], 8, [[0, 0, 10, 0], [0, 0, 10, 0]]),
  ([0, 0, 0, 4, 9, 24, 1, 2, 12, 0, 0], [[0, 2, 0, 0, 0, 0, 0, 0, 0, 0], [3, 5, 0, 0, 0, 0, 0, 0, 0, 0], [6, 8, 0, 0, 0, 0, 0, 0, 0, 0], [9, 18, 0, 0, 0, 0, 0, 0, 0, 0]], 9, [[0, 0, 10, 0], [0, 0, 10, 0]]),
  ([0, 0, 0, 4, 10, 24, 1, 2, 12, 0, 0], [[0, 2, 0, 0, 0, 0, 0, 0, 0, 0], [3, 5, 0, 0, 0, 0, 0, 0, 0, 0], [6, 8, 0, 0, 0, 0, 0, 0, 0, 0], [9, 18, 0, 0, 0, 0, 0, 0, 0, 0]], 10, [[0, 0, 10, 0], [0, 0, 10, 0]]),
  ([0, 0, 0, 4, 11, 24, 1, 2, 12, 0, 0], [[0, 2, 0, 0, 0, 0, 0, 0, 0, 0], [3, 5, 0, 0, 0, 0, 0, 0, 0, 0], [6, 8, 0, 0, 0, 0, 0, 0, 0, 0], [9, 18, 0, 0, 0, 0, 0, 0, 0, 0]], 11, [[0, 0, 10, 0], [0, 0, 10, 0]]),
  ([0, 0, 0, 4, 12, 24, 1, 2, 12, 0, 0], [[0, 2, 0, 0, 0, 0, 0, 0, 0, 0], [3, 5, 0, 0, 0, 0, 0, 0, 0, 0], [6, 8, 0, 0, 0, 0, 0, 0, 0, 0], [9, 18, 0, 0, 0, 0, 0, 0, 0, 0]], 12, [[0, 0, 10, 0], [0, 0, 10, 0]]),
  ([0, 0, 0, 4, 13, 24, 1, 2, 12, 0, 0], [[0, 2, 0, 0, 0, 0, 0, 0, 0, 0], [3, 5, 0, 0, 0, 0, 0, 0, 0, 0], [6, 8, 0, 0, 0, 0, 0, 0, 0, 0], [9, 18, 0, 0, 0, 0, 0, 0, 0, 0]], 13, [[0, 0, 10, 0], [0, 0, 10, 0]]),
  ([0, 0, 0, 4, 14, 24, 1, 2, 12, 0, 0], [[0, 2, 0, 0, 0, 0, 0, 0, 0, 0], [3, 5, 0, 0, 0, 0, 0, 0, 0, 0], [6, 8, 0, 0, 0, 0, 0, 0, 0, 0], [9, 18, 0, 0, 0, 0, 0, 0, 0, 0]], 14, [[0, 0, 10, 0], [0, 0, 10, 0]]),
  ([0, 0, 0, 4, 15, 24, 1, 2, 12, 0, 0], [[0, 2, 0, 0, 0, 0, 0, 0, 0, 0], [3, 5, 0, 0, 0, 0, 0, 0, 0, 0], [6, 8, 0, 0, 0, 0, 0, 0, 0, 0], [9, 18, 0, 0, 0, 0, 0, 0, 0, 0]], 15, [[0, 0, 10, 0], [0, 0, 10, 0]]),
  ([0, 0, 0, 4, 16, 24, 1, 2, 12, 0, 0], [[0, 2, 0, 0, 0, 0, 0, 0, 0, 0], [3, 5, 0, 0, 0, 0, 0, 0, 0, 0], [6, 8, 0, 0, 0, 0, 0, 0, 0, 0], [9, 18, 0, 0, 0, 0, 0, 0, 0, 0]], 16, [[0, 0, 10, 0], [0, 0, 10, 0]]),
  ([0, 0, 0, 4, 16, 24, 1, 2, 11, 1, 0], [[0, 2, 0, 0, 0, 0, 0, 0, 0, 0], [3, 5, 0, 0, 0, 0, 0, 0, 0, 0], [6, 8, 0, 0, 0, 0, 0, 0, 0, 0], [9, 18, 0, 0, 0, 0, 0, 0, 0, 0]], 16, [[0, 0, 9, 1], [0, 0, 10, 0]]),
  ([0, 0, 0, 4, 16, 24, 1, 2, 10, 2, 0], [[0, 2, 0, 0, 0, 0, 0, 0, 0, 0], [3, 5, 0, 0, 0, 0, 0, 0, 0, 0], [6, 8, 0, 0, 0, 0, 0, 0, 0, 0], [9, 18, 0, 0, 0, 0, 0, 0, 0, 0]], 16, [[0, 0, 8, 2], [0, 0, 10, 0]]),
  ([0, 0, 0, 4, 16, 24, 1, 2, 9, 3, 0], [[0, 2, 0, 0, 0, 0, 0, 0, 0, 0], [3, 5, 0, 0, 0, 0, 0, 0, 0, 0], [6, 8, 0, 0, 0, 0, 0, 0, 0, 0], [9, 18, 0, 0, 0, 0, 0, 0, 0, 0]], 16, [[0, 0, 7, 3], [0, 0, 10, 0]]),
  ([0, 0, 0, 4, 16, 24, 1, 2, 8, 4, 0], [[0, 2, 0, 0, 0, 0, 0, 0, 0, 0], [3, 5, 0, 0, 0, 0, 0, 0, 0, 0], [6, 8, 0, 0, 0, 0, 0, 0, 0, 0], [9, 18, 0, 0, 0, 0, 0, 0, 0, 0]], 16, [[0, 0, 6, 4], [0, 0, 10, 0]]),
  ([0, 0, 0, 4, 16, 24, 1, 2, 7, 5, 0], [[0, 2, 0, 0, 0, 0, 0, 0, 0, 0], [3, 5, 0, 0, 0, 0, 0, 0, 0, 0], [6, 8, 0, 0, 0, 0, 0, 0, 0, 0], [9, 18, 0, 0, 0, 0, 0, 0, 0, 0]], 16, [[0, 0, 5, 5], [0, 0, 10, 0]]),
  ([0, 0, 0, 4, 16, 24, 1, 2, 6, 6, 0], [[0, 2, 0, 0, 0, 0, 0, 0, 0, 0], [3, 5, 0, 0, 0, 0, 0, 0, 0, 0], [6, 8, 0, 0, 0, 0, 0, 0, 0, 0], [9, 18, 0, 0, 0, 0, 0, 0, 0, 0]], 16, [[0, 0, 4, 6], [0, 0, 10, 0]]),
  ([0, 0, 0, 4, 16, 24, 1, 2, 5, 7, 0], [[0, 2, 0, 0, 0, 0, 0, 0, 0, 0], [3, 5, 0, 0, 0, 0, 0, 0, 0, 0], [6, 8, 0, 0, 0, 0, 0, 0, 0, 0], [9, 18, 0, 0, 0, 0, 0, 0, 0, 0]], 16, [[0, 0, 3, 7], [0, 0, 10, 0]]),
  ([0, 0, 0, 4, 16, 24, 1, 2, 4, 8, 0], [[0, 2, 0, 0, 0, 0, 0, 0, 0, 0], [3, 5, 0, 0, 0, 0, 0, 0, 0, 0], [6, 8, 0, 0, 0, 0, 0, 0, 0, 0], [9, 18, 0, 0, 0, 0, 0, 0, 0, 0]], 16, [[0, 0, 2, 8], [0, 0, 10, 0]]),
  ([0, 0, 0, 4, 16, 24, 1, 2, 3, 9, 0], [[0, 2, 0, 0, 0, 0, 0, 0, 0, 0], [3, 5, 0, 0, 0, 0, 0, 0, 0, 0], [6, 8, 0, 0, 0, 0, 0, 0, 0, 0], [9, 18, 0, 0, 0, 0, 0, 0, 0, 0]], 16, [[0, 0, 1, 9], [0, 0, 10, 0]]),
  ([0, 0, 0, 4, 16, 24, 1, 2, 2, 10, 0], [[0, 2, 0, 0, 0, 0, 0, 0, 0, 0], [3, 5, 0, 0, 0, 0, 0, 0, 0, 0], [6, 8, 0, 0, 0, 0, 0, 0, 0, 0], [9, 18, 0, 0, 0, 0, 0, 0, 0, 0]], 16, [[0, 0, 0, 10], [0, 0, 10, 0]]),
  ([0, 0, 0, 4, 16, 24, 1, 2, 1, 11, 0], [[0, 2, 0, 0, 0, 0, 0, 0, 0, 0], [3, 5, 0, 0, 0, 0, 0, 0, 0, 0], [6, 8, 0, 0, 0, 0, 0, 0, 0, 0], [9, 18, 0, 0, 0, 0, 0, 0, 0, 0]], 16, [[0, 0, 0, 10], [0, 0, 9, 1]]),
  ([0, 0, 0, 4, 16, 24, 1, 2, 0, 12, 0], [[0, 2, 0, 0, 0, 0, 0, 0, 0, 0], [3, 5, 0, 0, 0, 0, 0, 0, 0, 0], [6, 8, 0, 0, 0, 0, 0, 0, 0, 0], [9, 18, 0, 0, 0, 0, 0, 0, 0, 0]], 16, [[0, 0, 0, 10], [0, 0, 8, 2]]),
  ([0, 0, 0, 4, 16, 24, 1, 2, 20, 12, 0], [[0, 2, 0, 0, 0, 0, 0, 0, 0, 0], [3, 5, 0, 0, 0, 0, 0, 0, 0, 0], [6, 8, 0, 0, 0, 0, 0, 0, 0, 0], [9, 18, 0, 0, 0, 0, 0, 0, 0, 0]], 16, [[0, 0, 0, 10], [0, 0, 8, 2]]),
  ([0, 0, 0, 4, 16, 24, 1, 2, 40, 12, 0], [[0, 2, 0, 0, 0, 0, 0, 0, 0, 0], [3, 5, 0, 0, 0, 0, 0, 0, 0, 0], [6, 8, 0, 0, 0, 0, 0, 0, 0, 0], [9, 18, 0, 0, 0, 0, 0, 0, 0, 0]], 16, [[0, 0, 0, 10], [0, 0, 8, 2]]),
  ([0, 0, 0, 4, 16, 24, 1, 2, 40, 12, 0], [[0, 2, 0, 0, 0, 0, 0, 0, 0, 0], [3, 5, 0, 0, 0, 0, 0, 0, 0, 0], [6, 8, 0, 0, 0, 0, 0, 0, 0, 0], [9, 18, 0, 0, 0, 0, 0, 0, 0, 0]], 16, [[0, 0, 0, 10], [0, 0, 8, 2]]),
  ([0, 0, 0, 4, 16, 24, 9, 2, 40, 12, 0], [[0, 2, 0, 0, 0, 0, 0, 0, 0, 0], [3, 5, 0, 0, 0, 0, 0, 0, 0, 0], [6, 8, 0, 0, 0, 0, 0, 0, 0, 0], [9, 18, 0, 0, 0, 0, 0, 0, 0, 0]], 16, [[0, 0, 0, 10], [0, 0, 8, 2]]),
  ([0, 0, 0, 4, 16, 24, 9, 0, 40, 12, 0], [[0, 2, 0, 0, 0, 0, 0, 0, 0, 0], [3, 5, 0, 0, 0, 0, 0, 0, 0, 0], [6, 8, 0, 0, 0, 0, 0, 0, 0, 0], [9, 18, 0, 0, 0, 0, 0, 0, 0, 0]], 16, [[0, 0, 0, 10], [0, 0, 8, 2]]),
  ([0, 0, 0, 4, 16, 25, 9, 0, 40, 12, 0], [[0, 2, 9, 1, 0, 0, 0, 0, 0, 0], [3, 5, 9, 1, 0, 0, 0, 0, 0, 0], [6, 8, 9, 1, 0, 0, 0, 0, 0, 0], [9, 18, 9, 1, 0, 0, 0, 0, 0, 0]], 16, [[0, 0, 0, 10], [0, 0, 8, 2]]),
  ([0, 0, 0, 4, 16, 33, 9, 0, 40, 12, 0], [[0, 2, 20, 9, 0, 0, 0, 0, 0, 0], [3, 5, 20, 9, 0, 0, 0, 0, 0, 0], [6, 8, 20, 9, 0, 0, 0, 0, 0, 0], [9, 18, 20, 9, 0, 0, 0, 0, 0, 0]], 16, [[0, 0, 0, 10], [0, 0, 8, 2]]),
  ([0, 0, 0, 4, 16, 33, 9, 0, 37, 15, 9], [[0, 2, 20, 0, 0, 0, 0, 0, 0, 0], [3, 5, 20, 9, 0, 0, 0, 0, 0, 0], [6, 8, 20, 9, 0, 0, 0, 0, 0, 0], [9, 18, 20, 9, 0, 0, 0, 0, 0, 0]], 16, [[0, 0, 0, 10], [0, 0, 8, 2]]),
  ([0, 0, 0, 4, 16, 33, 0, 0, 37, 15, 9], [[0, 2, 20, 0, 0, 0, 0, 0, 0, 0], [3, 5, 20, 9, 0, 0, 0, 0, 0, 0], [6, 8, 20, 9, 0, 0, 0, 0, 0, 0], [9, 18, 20, 9, 0, 0, 0, 0, 0, 0]], 16, [[0, 0, 0, 10], [0, 0, 8, 2]]),
  ([0, 0, 0, 4, 16, 33, 0, 9, 37, 15, 9], [[0, 2, 20, 0, 0, 0, 0, 0, 0, 0], [3, 5, 20, 9, 0, 0, 0, 0, 0, 0], [6, 8, 20, 9, 0, 0, 0, 0, 0, 0], [9, 18, 20, 9, 0, 0, 0, 0, 0, 0]], 16, [[0, 0, 0, 10], [0, 0, 8, 2]]),
  ([0, 0, 0, 4, 16, 35, 0, 9, 37, 15, 9], [[0, 2, 2, 1, 0, 0, 0, 0, 0, 0], [3, 5, 2, 9, 0, 0, 0, 0, 0, 0], [6, 8, 2, 9, 0, 0, 0, 0, 0, 0], [9, 18, 2, 9, 0, 0, 0, 0, 0, 0]], 16, [[0, 0, 0, 10], [0, 0, 8, 2]]),
  ([0, 0, 0, 4, 16, 35, 0, 9, 37, 15, 9], [[0, 2, 2, 1, 0, 0, 0, 0, 0, 0], [3, 5, 2, 9, 20, 0, 0, 0, 0, 0], [6, 8, 2, 9, 0, 0, 0, 0, 0, 0], [9, 18, 2, 9, 0, 0, 0, 0, 0, 0]], 16, [[0, 0, 0, 10], [0, 0, 8, 2]])]
def sN (i : Nat) : gM := mkN (tbN.getD i ([], [], 0, []))
def anN : List Int32 := [0, 0, 1, 2, 3, 0, 1, 2, 3, 4, 5, 6, 7, 8, 9, 10, 11, 12, 13, 14, 15, 1, 2, 3, 4, 5, 6, 7, 8, 9, 10, 1, 2, 20, 40, 40, 1, 2, 4, 36, 9, 9, 0, 28, 0]
def eqgB (M N : gM) : Bool := (List.range 11).all (fun k => M.1 k == N.1 k) && (List.range 4).all (fun r => (List.range 10).all fun j => M.2.1 r j == N.2.1 r j) && (List.range 16).all (fun w => (List.range 8).all fun j => M.2.2.1 w j == N.2.2.1 w j) && (List.range 2).all (fun c => (List.range 4).all fun j => M.2.2.2 c j == N.2.2.2 c j)
theorem eqgB_ok {M N : gM} (h : eqgB M N = true) : EQG M N := by
  unfold eqgB at h
  simp only [Bool.and_eq_true, List.all_eq_true, List.mem_range, beq_iff_eq] at h
  obtain ⟨⟨⟨h1, h2⟩, h3⟩, h4⟩ := h
  exact ⟨fun k _ hk => h1 k (by omega), fun r hr _ j hj => h2 r hr j hj, fun w hw _ j hj => h3 w hw j hj, fun c hc i hi => h4 c hc i hi⟩
section H1
variable {M N : gM} {X Y : Nat → Int32} {A B : Nat → Nat → Int32} {G : Nat → gM} {b : cB} {hh : Nat → gM} {n : Nat} {sv : Option gM} {t : Nat → Nat} {k : Nat}
theorem SAME.to {S : gM} (s : SAME M N) (e : eqgB S N = true) : SAME M S := s.elim fun f q => ⟨f, q.1, q.2.congr (eqgB_ok e) (fun _ _ => rfl)⟩
theorem same_op (s : SAME M N) (hL : RLL G M X A Y B) {zM zN : Int32 × (Nat → gM) × gM × (Nat → Int32) × (Nat → Nat → Int32)} (w : (Nat → Int32) → (Nat → Nat → Int32) → Int32 × (Nat → Int32) × (Nat → Nat → Int32)) (hM : ∀ Y B, RLL G M X A Y B → CHG G M X A Y B zM (w Y B)) (hN : ∀ Y B, RLL G N X A Y B → CHG G N X A Y B zN (w Y B)) : zM.1 = zN.1 ∧ SAME zM.2.2.1 zN.2.2.1 ∧ ∀ a b, f_X7_reason M zM.2.2.2.1 zM.2.2.2.2 a b = f_X7_reason N zN.2.2.2.1 zN.2.2.2.2 a b := by
  obtain ⟨f, g1, g2⟩ := s
  obtain ⟨-, hR, h3, h4, h5⟩ := hL
  have hR' : RS X A Y (fun k => if k = 0 then f else B k) := hR.keep rfl rfl
  obtain ⟨a1, ⟨b1, b2, -⟩, -⟩ := hM Y (fun k => if k = 0 then f else B k) ⟨g1, hR', h3, h4, h5⟩
  obtain ⟨c1, ⟨d1, d2, -⟩, -⟩ := hN Y (fun k => if k = 0 then f else B k) ⟨g2, hR', h3, h4, h5⟩
  exact ⟨a1.trans c1.symm, ⟨_, b1, d1⟩, fun a b => (Q_reason (M := M) b2 a b).symm.trans (Q_reason (M := N) d2 a b)⟩
theorem cl_rink (p1 p2 : Int32) : (f_X7_layRink M X A p1 p2).1 = (f_X7_layRink M x0 a0 p1 p2).1 ∧ (f_X7_layRink M X A p1 p2).2.1 = (f_X7_layRink M x0 a0 p1 p2).2.1 := by
  unfold f_X7_layRink
  try simp only [bd_x, f_X7_isClub, f_X7_isWeather]
  repeat' split
  all_goals exact ⟨rfl, rfl⟩
theorem st_rink (hO : OBx G M X A b hh n sv t k) (s : SAME M N) (p1 p2 : Int32) {c : Int32} {S : gM} (e : (f_X7_layRink N x0 a0 p1 p2).1 = c ∧ eqgB S (f_X7_layRink N x0 a0 p1 p2).2.1 = true) : (f_X7_rink G M X A p1 p2).1 = c ∧ SAME (f_X7_rink G M X A p1 p2).2.2.1 S ∧ ∀ a b, f_X7_reason M (f_X7_rink G M X A p1 p2).2.2.2.1 (f_X7_rink G M X A p1 p2).2.2.2.2 a b = f_X7_reason N (f_X7_rink G N X A p1 p2).2.2.2.1 (f_X7_rink G N X A p1 p2).2.2.2.2 a b := by
  obtain ⟨⟨Y, B, hL, -⟩, -⟩ := hO
  obtain ⟨h1, h2, h3⟩ := same_op s hL (fun Y B => f_X8_rink Y B p1 p2) (fun Y B h => C_rink h p1 p2) (fun Y B h => C_rink (M := N) h p1 p2)
  refine ⟨?_, ?_, h3⟩
  · rw [h1, show (f_X7_rink G N X A p1 p2).1 = (f_X7_layRink N X A p1 p2).1 from set_1, (cl_rink p1 p2).1]
    exact e.1
  · rw [show (f_X7_rink G N X A p1 p2).2.2.1 = (f_X7_layRink N X A p1 p2).2.1 from rfl, (cl_rink p1 p2).2] at h2
    exact h2.to e.2
theorem cl_wood (p1 p2 : Int32) : (f_X7_addWood M X A p1 p2).1 = (f_X7_addWood M x0 a0 p1 p2).1 ∧ (f_X7_addWood M X A p1 p2).2.1 = (f_X7_addWood M x0 a0 p1 p2).2.1 := by
  unfold f_X7_addWood
  try simp only [bd_x, f_X7_isClub, f_X7_isWeather]
  repeat' split
  all_goals exact ⟨rfl, rfl⟩
theorem st_wood (hO : OBx G M X A b hh n sv t k) (s : SAME M N) (p1 p2 : Int32) {c : Int32} {S : gM} (e : (f_X7_addWood N x0 a0 p1 p2).1 = c ∧ eqgB S (f_X7_addWood N x0 a0 p1 p2).2.1 = true) : (f_X7_wood G M X A p1 p2).1 = c ∧ SAME (f_X7_wood G M X A p1 p2).2.2.1 S ∧ ∀ a b, f_X7_reason M (f_X7_wood G M X A p1 p2).2.2.2.1 (f_X7_wood G M X A p1 p2).2.2.2.2 a b = f_X7_reason N (f_X7_wood G N X A p1 p2).2.2.2.1 (f_X7_wood G N X A p1 p2).2.2.2.2 a b := by
  obtain ⟨⟨Y, B, hL, -⟩, -⟩ := hO
  obtain ⟨h1, h2, h3⟩ := same_op s hL (fun Y B => f_X8_wood Y B p1 p2) (fun Y B h => C_wood h p1 p2) (fun Y B h => C_wood (M := N) h p1 p2)
  refine ⟨?_, ?_, h3⟩
  · rw [h1, show (f_X7_wood G N X A p1 p2).1 = (f_X7_addWood N X A p1 p2).1 from set_1, (cl_wood p1 p2).1]
    exact e.1
  · rw [show (f_X7_wood G N X A p1 p2).2.2.1 = (f_X7_addWood N X A p1 p2).2.1 from rfl, (cl_wood p1 p2).2] at h2
    exact h2.to e.2
theorem cl_tea (p1 : Int32) : (f_X7_giveTea M X A p1).1 = (f_X7_giveTea M x0 a0 p1).1 ∧ (f_X7_giveTea M X A p1).2.1 = (f_X7_giveTea M x0 a0 p1).2.1 := by
  unfold f_X7_giveTea
  try simp only [bd_x, f_X7_isClub, f_X7_isWeather]
  repeat' split
  all_goals exact ⟨rfl, rfl⟩
theorem st_tea (hO : OBx G M X A b hh n sv t k) (s : SAME M N) (p1 : Int32) {c : Int32} {S : gM} (e : (f_X7_giveTea N x0 a0 p1).1 = c ∧ eqgB S (f_X7_giveTea N x0 a0 p1).2.1 = true) : (f_X7_tea G M X A p1).1 = c ∧ SAME (f_X7_tea G M X A p1).2.2.1 S ∧ ∀ a b, f_X7_reason M (f_X7_tea G M X A p1).2.2.2.1 (f_X7_tea G M X A p1).2.2.2.2 a b = f_X7_reason N (f_X7_tea G N X A p1).2.2.2.1 (f_X7_tea G N X A p1).2.2.2.2 a b := by
  obtain ⟨⟨Y, B, hL, -⟩, -⟩ := hO
  obtain ⟨h1, h2, h3⟩ := same_op s hL (fun Y B => f_X8_tea Y B p1) (fun Y B h => C_tea h p1) (fun Y B h => C_tea (M := N) h p1)
  refine ⟨?_, ?_, h3⟩
  · rw [h1, show (f_X7_tea G N X A p1).1 = (f_X7_giveTea N X A p1).1 from set_1, (cl_tea p1).1]
    exact e.1
  · rw [show (f_X7_tea G N X A p1).2.2.1 = (f_X7_giveTea N X A p1).2.1 from rfl, (cl_tea p1).2] at h2
    exact h2.to e.2
theorem cl_brew (p1 : Int32) : (f_X7_brewCups M X A p1).1 = (f_X7_brewCups M x0 a0 p1).1 ∧ (f_X7_brewCups M X A p1).2.1 = (f_X7_brewCups M x0 a0 p1).2.1 := by
  unfold f_X7_brewCups
  try simp only [bd_x, f_X7_isClub, f_X7_isWeather]
  repeat' split
  all_goals exact ⟨rfl, rfl⟩
theorem st_brew (hO : OBx G M X A b hh n sv t k) (s : SAME M N) (p1 : Int32) {c : Int32} {S : gM} (e : (f_X7_brewCups N x0 a0 p1).1 = c ∧ eqgB S (f_X7_brewCups N x0 a0 p1).2.1 = true) : (f_X7_brew G M X A p1).1 = c ∧ SAME (f_X7_brew G M X A p1).2.2.1 S ∧ ∀ a b, f_X7_reason M (f_X7_brew G M X A p1).2.2.2.1 (f_X7_brew G M X A p1).2.2.2.2 a b = f_X7_reason N (f_X7_brew G N X A p1).2.2.2.1 (f_X7_brew G N X A p1).2.2.2.2 a b := by
  obtain ⟨⟨Y, B, hL, -⟩, -⟩ := hO
  obtain ⟨h1, h2, h3⟩ := same_op s hL (fun Y B => f_X8_brew Y B p1) (fun Y B h => C_brew h p1) (fun Y B h => C_brew (M := N) h p1)
  refine ⟨?_, ?_, h3⟩
  · rw [h1, show (f_X7_brew G N X A p1).1 = (f_X7_brewCups N X A p1).1 from set_1, (cl_brew p1).1]
    exact e.1
  · rw [show (f_X7_brew G N X A p1).2.2.1 = (f_X7_brewCups N X A p1).2.1 from rfl, (cl_brew p1).2] at h2
    exact h2.to e.2
theorem cl_rain (p1 : Int32) : (f_X7_setRain M X A p1).1 = (f_X7_setRain M x0 a0 p1).1 ∧ (f_X7_setRain M X A p1).2.1 = (f_X7_setRain M x0 a0 p1).2.1 := by
  unfold f_X7_setRain
  try simp only [bd_x, f_X7_isClub, f_X7_isWeather]
  repeat' split
  all_goals exact ⟨rfl, rfl⟩
theorem st_rain (hO : OBx G M X A b hh n sv t k) (s : SAME M N) (p1 : Int32) {c : Int32} {S : gM} (e : (f_X7_setRain N x0 a0 p1).1 = c ∧ eqgB S (f_X7_setRain N x0 a0 p1).2.1 = true) : (f_X7_rain G M X A p1).1 = c ∧ SAME (f_X7_rain G M X A p1).2.2.1 S ∧ ∀ a b, f_X7_reason M (f_X7_rain G M X A p1).2.2.2.1 (f_X7_rain G M X A p1).2.2.2.2 a b = f_X7_reason N (f_X7_rain G N X A p1).2.2.2.1 (f_X7_rain G N X A p1).2.2.2.2 a b := by
  obtain ⟨⟨Y, B, hL, -⟩, -⟩ := hO
  obtain ⟨h1, h2, h3⟩ := same_op s hL (fun Y B => f_X8_rain Y B p1) (fun Y B h => C_rain h p1) (fun Y B h => C_rain (M := N) h p1)
  refine ⟨?_, ?_, h3⟩
  · rw [h1, show (f_X7_rain G N X A p1).1 = (f_X7_setRain N X A p1).1 from set_1, (cl_rain p1).1]
    exact e.1
  · rw [show (f_X7_rain G N X A p1).2.2.1 = (f_X7_setRain N X A p1).2.1 from rfl, (cl_rain p1).2] at h2
    exact h2.to e.2
theorem cl_sun (p1 : Int32) : (f_X7_setSun M X A p1).1 = (f_X7_setSun M x0 a0 p1).1 ∧ (f_X7_setSun M X A p1).2.1 = (f_X7_setSun M x0 a0 p1).2.1 := by
  unfold f_X7_setSun
  try simp only [bd_x, f_X7_isClub, f_X7_isWeather]
  repeat' split
  all_goals exact ⟨rfl, rfl⟩
theorem st_sun (hO : OBx G M X A b hh n sv t k) (s : SAME M N) (p1 : Int32) {c : Int32} {S : gM} (e : (f_X7_setSun N x0 a0 p1).1 = c ∧ eqgB S (f_X7_setSun N x0 a0 p1).2.1 = true) : (f_X7_sun G M X A p1).1 = c ∧ SAME (f_X7_sun G M X A p1).2.2.1 S ∧ ∀ a b, f_X7_reason M (f_X7_sun G M X A p1).2.2.2.1 (f_X7_sun G M X A p1).2.2.2.2 a b = f_X7_reason N (f_X7_sun G N X A p1).2.2.2.1 (f_X7_sun G N X A p1).2.2.2.2 a b := by
  obtain ⟨⟨Y, B, hL, -⟩, -⟩ := hO
  obtain ⟨h1, h2, h3⟩ := same_op s hL (fun Y B => f_X8_sun Y B p1) (fun Y B h => C_sun h p1) (fun Y B h => C_sun (M := N) h p1)
  refine ⟨?_, ?_, h3⟩
  · rw [h1, show (f_X7_sun G N X A p1).1 = (f_X7_setSun N X A p1).1 from set_1, (cl_sun p1).1]
    exact e.1
  · rw [show (f_X7_sun G N X A p1).2.2.1 = (f_X7_setSun N X A p1).2.1 from rfl, (cl_sun p1).2] at h2
    exact h2.to e.2
theorem cl_sweep (p1 : Int32) : (f_X7_sweepRink M X A p1).1 = (f_X7_sweepRink M x0 a0 p1).1 ∧ (f_X7_sweepRink M X A p1).2.1 = (f_X7_sweepRink M x0 a0 p1).2.1 := by
  unfold f_X7_sweepRink
  try simp only [bd_x, f_X7_isClub, f_X7_isWeather]
  repeat' split
  all_goals exact ⟨rfl, rfl⟩
theorem st_sweep (hO : OBx G M X A b hh n sv t k) (s : SAME M N) (p1 : Int32) {c : Int32} {S : gM} (e : (f_X7_sweepRink N x0 a0 p1).1 = c ∧ eqgB S (f_X7_sweepRink N x0 a0 p1).2.1 = true) : (f_X7_sweep G M X A p1).1 = c ∧ SAME (f_X7_sweep G M X A p1).2.2.1 S ∧ ∀ a b, f_X7_reason M (f_X7_sweep G M X A p1).2.2.2.1 (f_X7_sweep G M X A p1).2.2.2.2 a b = f_X7_reason N (f_X7_sweep G N X A p1).2.2.2.1 (f_X7_sweep G N X A p1).2.2.2.2 a b := by
  obtain ⟨⟨Y, B, hL, -⟩, -⟩ := hO
  obtain ⟨h1, h2, h3⟩ := same_op s hL (fun Y B => f_X8_sweep Y B p1) (fun Y B h => C_sweep h p1) (fun Y B h => C_sweep (M := N) h p1)
  refine ⟨?_, ?_, h3⟩
  · rw [h1, show (f_X7_sweep G N X A p1).1 = (f_X7_sweepRink N X A p1).1 from set_1, (cl_sweep p1).1]
    exact e.1
  · rw [show (f_X7_sweep G N X A p1).2.2.1 = (f_X7_sweepRink N X A p1).2.1 from rfl, (cl_sweep p1).2] at h2
    exact h2.to e.2
theorem cl_begin (p1 p2 : Int32) : (f_X7_beginEnd M X A p1 p2).1 = (f_X7_beginEnd M x0 a0 p1 p2).1 ∧ (f_X7_beginEnd M X A p1 p2).2.1 = (f_X7_beginEnd M x0 a0 p1 p2).2.1 := by
  unfold f_X7_beginEnd
  simp only [bd_x]
  by_cases h1 : f_X1_isRink M p1 = 0
  · simp only [if_pos h1, and_self]
  by_cases h2 : p2 < 20
  · simp only [if_neg h1, if_pos h2, and_self]
  by_cases h3 : p2 ≤ 40
  · by_cases h4 : f_X5_isPlayed M p1.toNatClampNeg = 0
    · by_cases h5 : M.2.1 p1.toNatClampNeg 2 < 8
      · simp only [if_neg h1, if_neg h2, if_pos h3, if_pos h4, if_pos h5, and_self]
      · simp only [if_neg h1, if_neg h2, if_pos h3, if_pos h4, if_neg h5]
        exact ⟨rfl, trivial⟩
    · simp only [if_neg h1, if_neg h2, if_pos h3, if_neg h4]
      exact ⟨rfl, trivial⟩
  · simp only [if_neg h1, if_neg h2, if_neg h3, and_self]
theorem st_begin (hO : OBx G M X A b hh n sv t k) (s : SAME M N) (p1 p2 : Int32) {c : Int32} {S : gM} (e : (f_X7_beginEnd N x0 a0 p1 p2).1 = c ∧ eqgB S (f_X7_beginEnd N x0 a0 p1 p2).2.1 = true) : (f_X7_begin G M X A p1 p2).1 = c ∧ SAME (f_X7_begin G M X A p1 p2).2.2.1 S ∧ ∀ a b, f_X7_reason M (f_X7_begin G M X A p1 p2).2.2.2.1 (f_X7_begin G M X A p1 p2).2.2.2.2 a b = f_X7_reason N (f_X7_begin G N X A p1 p2).2.2.2.1 (f_X7_begin G N X A p1 p2).2.2.2.2 a b := by
  obtain ⟨⟨Y, B, hL, -⟩, -⟩ := hO
  obtain ⟨h1, h2, h3⟩ := same_op s hL (fun Y B => f_X8_begin Y B p1 p2) (fun Y B h => C_begin h p1 p2) (fun Y B h => C_begin (M := N) h p1 p2)
  refine ⟨?_, ?_, h3⟩
  · rw [h1, show (f_X7_begin G N X A p1 p2).1 = (f_X7_beginEnd N X A p1 p2).1 from set_1, (cl_begin p1 p2).1]
    exact e.1
  · rw [show (f_X7_begin G N X A p1 p2).2.2.1 = (f_X7_beginEnd N X A p1 p2).2.1 from rfl, (cl_begin p1 p2).2] at h2
    exact h2.to e.2
theorem hour_x {p : Int32} : ∀ n k (M : gM), f_X7_passHours_l16 X A p n k M = f_X7_passHours_l16 x0 a0 p n k M := by
  intro n
  induction n with
  | zero => exact fun k M => rfl
  | succ n ih =>
    intro k M
    unfold f_X7_passHours_l16
    simp only [bd_x]
    split
    · rfl
    · exact ih _ _
theorem cl_hour (p1 : Int32) : (f_X7_passHours M X A p1).1 = (f_X7_passHours M x0 a0 p1).1 ∧ (f_X7_passHours M X A p1).2.1 = (f_X7_passHours M x0 a0 p1).2.1 := by
  unfold f_X7_passHours
  simp only [bd_x, hour_x (X := X) (A := A)]
  repeat' split
  all_goals exact ⟨rfl, rfl⟩
theorem st_hour (hO : OBx G M X A b hh n sv t k) (s : SAME M N) (p1 : Int32) {c : Int32} {S : gM} (e : (f_X7_passHours N x0 a0 p1).1 = c ∧ eqgB S (f_X7_passHours N x0 a0 p1).2.1 = true) : (f_X7_hour G M X A p1).1 = c ∧ SAME (f_X7_hour G M X A p1).2.2.1 S ∧ ∀ a b, f_X7_reason M (f_X7_hour G M X A p1).2.2.2.1 (f_X7_hour G M X A p1).2.2.2.2 a b = f_X7_reason N (f_X7_hour G N X A p1).2.2.2.1 (f_X7_hour G N X A p1).2.2.2.2 a b := by
  obtain ⟨⟨Y, B, hL, -⟩, -⟩ := hO
  obtain ⟨h1, h2, h3⟩ := same_op s hL (fun Y B => f_X8_hour Y B p1) (fun Y B h => C_hour h p1) (fun Y B h => C_hour (M := N) h p1)
  refine ⟨?_, ?_, h3⟩
  · rw [h1, show (f_X7_hour G N X A p1).1 = (f_X7_passHours N X A p1).1 from set_1, (cl_hour p1).1]
    exact e.1
  · rw [show (f_X7_hour G N X A p1).2.2.1 = (f_X7_passHours N X A p1).2.1 from rfl, (cl_hour p1).2] at h2
    exact h2.to e.2
theorem sq_winShare (s : SAME M N) : f_X7_winShare M x0 a0 = f_X7_winShare N x0 a0 := congrArg (fun Q : QS => Q.1) (sm_qs s)
theorem sq_meanWet (s : SAME M N) : f_X7_meanWet M x0 a0 = f_X7_meanWet N x0 a0 := congrArg (fun Q : QS => Q.2.1) (sm_qs s)
theorem sq_account (s : SAME M N) : f_X7_account M x0 a0 = f_X7_account N x0 a0 := congrArg (fun Q : QS => Q.2.2.1) (sm_qs s)
theorem sq_rinkOf (s : SAME M N) : f_X7_rinkOf M x0 a0 = f_X7_rinkOf N x0 a0 := congrArg (fun Q : QS => Q.2.2.2.1) (sm_qs s)
theorem sq_nearest (s : SAME M N) : f_X7_nearest M x0 a0 = f_X7_nearest N x0 a0 := congrArg (fun Q : QS => Q.2.2.2.2.1) (sm_qs s)
theorem sq_would (s : SAME M N) : f_X7_would M x0 a0 = f_X7_would N x0 a0 := congrArg (fun Q : QS => Q.2.2.2.2.2.1) (sm_qs s)
theorem sq_bestStrength (s : SAME M N) : f_X7_bestStrength M x0 a0 = f_X7_bestStrength N x0 a0 := congrArg (fun Q : QS => Q.2.2.2.2.2.2.1) (sm_qs s)
theorem sq_shots (s : SAME M N) : f_X7_shots M x0 a0 = f_X7_shots N x0 a0 := congrArg (fun Q : QS => Q.2.2.2.2.2.2.2.1) (sm_qs s)
theorem sq_wetIn (s : SAME M N) : f_X7_wetIn M x0 a0 = f_X7_wetIn N x0 a0 := congrArg (fun Q : QS => Q.2.2.2.2.2.2.2.2.1) (sm_qs s)
theorem sq_castsIn (s : SAME M N) : f_X7_castsIn M x0 a0 = f_X7_castsIn N x0 a0 := congrArg (fun Q : QS => Q.2.2.2.2.2.2.2.2.2.1) (sm_qs s)
theorem sq_dryIn (s : SAME M N) : f_X7_dryIn M x0 a0 = f_X7_dryIn N x0 a0 := congrArg (fun Q : QS => Q.2.2.2.2.2.2.2.2.2.2.1) (sm_qs s)
theorem sq_describe (s : SAME M N) : f_X7_describe M = f_X7_describe N := congrArg (fun Q : QS => Q.2.2.2.2.2.2.2.2.2.2.2.1) (sm_qs s)
theorem sq_woodOf (s : SAME M N) : f_X7_woodOf M x0 a0 = f_X7_woodOf N x0 a0 := congrArg (fun Q : QS => Q.2.2.2.2.2.2.2.2.2.2.2.2.1) (sm_qs s)
theorem sq_clubOf (s : SAME M N) : f_X7_clubOf M x0 a0 = f_X7_clubOf N x0 a0 := congrArg (fun Q : QS => Q.2.2.2.2.2.2.2.2.2.2.2.2.2.1) (sm_qs s)
theorem sq_rinkAt (s : SAME M N) : f_X7_rinkAt M x0 a0 = f_X7_rinkAt N x0 a0 := congrArg (fun Q : QS => Q.2.2.2.2.2.2.2.2.2.2.2.2.2.2.1) (sm_qs s)
theorem sq_leader (s : SAME M N) : f_X7_leader M x0 a0 = f_X7_leader N x0 a0 := congrArg (fun Q : QS => Q.2.2.2.2.2.2.2.2.2.2.2.2.2.2.2) (sm_qs s)
end H1
theorem ck_s : eqgB (sN 0) gM0 = true := by decide +kernel
theorem ck_hour24 : (f_X7_passHours (sN 0) x0 a0 24).1 = 0 ∧ eqgB (sN (1)) (f_X7_passHours (sN 0) x0 a0 24).2.1 = true := by decide +kernel
theorem ck_rinks : ∀ k, k < 4 → (f_X7_layRink (sN (1 + k)) x0 a0 (nI (3 * k)) (nI (if k = 3 then 18 else 3 * k + 2))).1 = nI k ∧ eqgB (sN (1 + (k + 1))) (f_X7_layRink (sN (1 + k)) x0 a0 (nI (3 * k)) (nI (if k = 3 then 18 else 3 * k + 2))).2.1 = true := by decide +kernel
theorem ck_woods : ∀ k, k < 16 → (f_X7_addWood (sN (5 + k)) x0 a0 (nI (k / 8)) 0).1 = nI k ∧ eqgB (sN (5 + (k + 1))) (f_X7_addWood (sN (5 + k)) x0 a0 (nI (k / 8)) 0).2.1 = true := by decide +kernel
theorem ck_teas : ∀ k, k < 10 → (f_X7_giveTea (sN (21 + k)) x0 a0 0).1 = nI (k + 1) ∧ eqgB (sN (21 + (k + 1))) (f_X7_giveTea (sN (21 + k)) x0 a0 0).2.1 = true := by decide +kernel
theorem ck_tea1 : (f_X7_giveTea (sN 31) x0 a0 1).1 = 1 ∧ eqgB (sN (32)) (f_X7_giveTea (sN 31) x0 a0 1).2.1 = true := by decide +kernel
theorem ck_tea2 : (f_X7_giveTea (sN 32) x0 a0 1).1 = 2 ∧ eqgB (sN (33)) (f_X7_giveTea (sN 32) x0 a0 1).2.1 = true := by decide +kernel
theorem ck_brew1 : (f_X7_brewCups (sN 33) x0 a0 20).1 = 20 ∧ eqgB (sN (34)) (f_X7_brewCups (sN 33) x0 a0 20).2.1 = true := by decide +kernel
theorem ck_brew2 : (f_X7_brewCups (sN 34) x0 a0 20).1 = 40 ∧ eqgB (sN (35)) (f_X7_brewCups (sN 34) x0 a0 20).2.1 = true := by decide +kernel
theorem ck_brew3 : (f_X7_brewCups (sN 35) x0 a0 20).1 = 40 ∧ eqgB (sN (36)) (f_X7_brewCups (sN 35) x0 a0 20).2.1 = true := by decide +kernel
theorem ck_rain9 : (f_X7_setRain (sN 36) x0 a0 9).1 = 1 ∧ eqgB (sN (37)) (f_X7_setRain (sN 36) x0 a0 9).2.1 = true := by decide +kernel
theorem ck_sun0 : (f_X7_setSun (sN 37) x0 a0 0).1 = 2 ∧ eqgB (sN (38)) (f_X7_setSun (sN 37) x0 a0 0).2.1 = true := by decide +kernel
theorem ck_hour1 : (f_X7_passHours (sN 38) x0 a0 1).1 = 4 ∧ eqgB (sN (39)) (f_X7_passHours (sN 38) x0 a0 1).2.1 = true := by decide +kernel
theorem ck_hour8 : (f_X7_passHours (sN 39) x0 a0 8).1 = 36 ∧ eqgB (sN (40)) (f_X7_passHours (sN 39) x0 a0 8).2.1 = true := by decide +kernel
theorem ck_sweep : (f_X7_sweepRink (sN 40) x0 a0 0).1 = 9 ∧ eqgB (sN (41)) (f_X7_sweepRink (sN 40) x0 a0 0).2.1 = true := by decide +kernel
theorem ck_rain0 : (f_X7_setRain (sN 41) x0 a0 0).1 = 9 ∧ eqgB (sN (42)) (f_X7_setRain (sN 41) x0 a0 0).2.1 = true := by decide +kernel
theorem ck_sun9 : (f_X7_setSun (sN 42) x0 a0 9).1 = 0 ∧ eqgB (sN (43)) (f_X7_setSun (sN 42) x0 a0 9).2.1 = true := by decide +kernel
theorem ck_hour2 : (f_X7_passHours (sN 43) x0 a0 2).1 = 28 ∧ eqgB (sN (44)) (f_X7_passHours (sN 43) x0 a0 2).2.1 = true := by decide +kernel
theorem ck_begin : (f_X7_beginEnd (sN 44) x0 a0 1 20).1 = 0 ∧ eqgB (sN (45)) (f_X7_beginEnd (sN 44) x0 a0 1 20).2.1 = true := by decide +kernel
theorem ck_r_rink : (f_X7_layRink (sN 21) x0 a0 20 22).1 = -3 ∧ eqgB (sN (21)) (f_X7_layRink (sN 21) x0 a0 20 22).2.1 = true := by decide +kernel
theorem ck_r_wood : (f_X7_addWood (sN 21) x0 a0 0 0).1 = -3 ∧ eqgB (sN (21)) (f_X7_addWood (sN 21) x0 a0 0 0).2.1 = true := by decide +kernel
theorem ck_r_tea0 : (f_X7_giveTea (sN 31) x0 a0 0).1 = -3 ∧ eqgB (sN (31)) (f_X7_giveTea (sN 31) x0 a0 0).2.1 = true := by decide +kernel
theorem ck_r_tea1 : (f_X7_giveTea (sN 33) x0 a0 1).1 = -3 ∧ eqgB (sN (33)) (f_X7_giveTea (sN 33) x0 a0 1).2.1 = true := by decide +kernel
theorem ck_r_begin1 : (f_X7_beginEnd (sN 40) x0 a0 1 20).1 = -3 ∧ eqgB (sN (40)) (f_X7_beginEnd (sN 40) x0 a0 1 20).2.1 = true := by decide +kernel
theorem ck_r_sweep : (f_X7_sweepRink (sN 41) x0 a0 0).1 = -3 ∧ eqgB (sN (41)) (f_X7_sweepRink (sN 41) x0 a0 0).2.1 = true := by decide +kernel
theorem ck_r_begin2 : (f_X7_beginEnd (sN 43) x0 a0 1 20).1 = -3 ∧ eqgB (sN (43)) (f_X7_beginEnd (sN 43) x0 a0 1 20).2.1 = true := by decide +kernel

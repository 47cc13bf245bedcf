theorem sm_m {f : Nat → Int32} {a x : Int32} {n : Nat} (h : f n = x) : a - sm f (n + 1) = a - sm f n - x := by
  rw [← h]
  show a - (sm f n + f n) = _
  apply Int32.toBitVec_inj.mp
  simp only [Int32.toBitVec_sub, Int32.toBitVec_add]
  exact (BitVec.sub_sub _ _ _).symm
theorem left_1 {S : St} {k : Nat} {b : Int32} : leftL S k b 1 = S.tb 1 (k * 4 + 0) - costInA S (nI k) (nI 0) b := by
  show S.tb 1 (k * 4 + 0) + maxI 0 0 * S.tb 2 (k * 1 + 0) / 100 - costInA S (nI k) (nI 0) b = _
  rw [show maxI (0 : Int32) 0 = 0 from rfl, Int32.zero_mul, show (0 : Int32) / 100 = 0 from rfl, Int32.add_zero]
theorem plB_e {S : St} {k n : Nat} (h : n < 4) : plB S k n = S.tb 1 (k * 4 + n) := if_pos h
theorem caB_e {S : St} {k : Nat} (h : k < 4) : caB S k = S.tb 2 (k * 1 + 0) := if_pos h

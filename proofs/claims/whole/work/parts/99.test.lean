theorem tt_1 (v m : Int32) (h : ¬ v < 0) (g : ¬ m < v) (q : m ≤ 255) : v.toInt ≤ 255 := by
  simp only [Int32.lt_iff_toInt_lt, Int32.le_iff_toInt_le] at *
  simp at *
  omega
theorem tt_2 (v : Int32) (h : ¬ v = -1) (h2 : -1 ≤ v) : 0 ≤ v := by
  simp only [Int32.lt_iff_toInt_lt, Int32.le_iff_toInt_le, ← Int32.toInt_inj] at *
  simp at *
  omega
theorem tt_3 (k : Nat) (h : k < 9) : ¬ nI 9 ≤ nI k := by
  simp only [Int32.le_iff_toInt_le, nI_toInt (show 9 < 2^31 by omega), nI_toInt (show k < 2^31 by omega)]
  omega
theorem tt_4 (v : Int32) (h : ¬ v < 48) (h2 : ¬ 55 < v) : 0 ≤ v - 48 ∧ v - 48 ≤ 7 := by
  have e : (v - 48).toInt = v.toInt - 48 := by
    rw [Int32.toInt_sub]
    simp only [Int32.lt_iff_toInt_lt] at *
    simp at *
    rw [Int.bmod_eq_of_le] <;> omega
  simp only [Int32.lt_iff_toInt_lt, Int32.le_iff_toInt_le, e] at *
  simp at *
  omega

/-! comparisons of longs -/
theorem lc_lt {x y : Int64} (h : x.toInt < y.toInt) : lg_cmp x y = -1 := by
  have h1 : x < y := Int64.lt_iff_toInt_lt.mpr h
  have h2 : ¬ y < x := fun q => by have := Int64.lt_iff_toInt_lt.mp q; omega
  have h3 : ¬ x = y := fun q => by rw [q] at h; omega
  simp [lg_cmp, h2, h3]
theorem lc_gt {x y : Int64} (h : y.toInt < x.toInt) : lg_cmp x y = 1 := by
  have h1 : y < x := Int64.lt_iff_toInt_lt.mpr h
  simp [lg_cmp, h1]
theorem lc_le {x y : Int64} (h : x.toInt ≤ y.toInt) : (lg_cmp x y).toInt ≤ 0 := by
  have h2 : ¬ y < x := fun q => by have := Int64.lt_iff_toInt_lt.mp q; omega
  by_cases h3 : x = y
  · simp [lg_cmp, h2, h3]
  · have : lg_cmp x y = -1 := by simp [lg_cmp, h2, h3]
    rw [this]; decide
theorem lc_ge {x y : Int64} (h : y.toInt ≤ x.toInt) : 0 ≤ (lg_cmp x y).toInt := by
  by_cases h1 : y < x
  · have : lg_cmp x y = 1 := by simp [lg_cmp, h1]
    rw [this]; decide
  · have h2 : ¬ y.toInt < x.toInt := fun q => h1 (Int64.lt_iff_toInt_lt.mpr q)
    have h3 : x = y := Int64.toInt_inj.mp (by omega)
    have : lg_cmp x y = 0 := by simp [lg_cmp, h3]
    rw [this]; decide
/-- what the reference's row of numbers holds at an end's start, and at the beginning -/
def s0f (k : Nat) : Int32 := if k = 3 then 1 else if k = 6 then 1 else if k = 7 then 13 else if k = 8 then 6 else if k = 16 then -4 else if k = 17 then -4 else 0
def w0f (j : Nat) : Int32 := if j < 288 then s0f j else if j < 576 then s0f (j - 288) else 0

/-- a value of a floor expression -/
def vR (x : Int32) : Prop := -1000000 ≤ x.toInt ∧ x.toInt ≤ 1000000
theorem i64_of (x : Int32) : x.toInt64.toInt = x.toInt := Int32.toInt_toInt64 x
theorem i32_lt {x y : Int32} : x < y ↔ x.toInt < y.toInt := Int32.lt_iff_toInt_lt
theorem i64_lt {x y : Int64} : x < y ↔ x.toInt < y.toInt := Int64.lt_iff_toInt_lt
theorem i64_eq {x y : Int64} (h : x.toInt = y.toInt) : x = y := Int64.toInt_inj.mp h
theorem i32_add {x y : Int32} (hx : vR x) (hy : vR y) : (x + y).toInt = x.toInt + y.toInt := by
  rw [Int32.toInt_add]
  obtain ⟨a, b⟩ := hx
  obtain ⟨c, d⟩ := hy
  exact Int.bmod_eq_of_le (by omega) (by omega)
theorem i32_sub {x y : Int32} (hx : vR x) (hy : vR y) : (x - y).toInt = x.toInt - y.toInt := by
  rw [Int32.toInt_sub]
  obtain ⟨a, b⟩ := hx
  obtain ⟨c, d⟩ := hy
  exact Int.bmod_eq_of_le (by omega) (by omega)
theorem i64_add {x y : Int32} (hx : vR x) (hy : vR y) : (x.toInt64 + y.toInt64).toInt = x.toInt + y.toInt := by
  rw [Int64.toInt_add, i64_of, i64_of]
  obtain ⟨a, b⟩ := hx
  obtain ⟨c, d⟩ := hy
  exact Int.bmod_eq_of_le (by omega) (by omega)
theorem i64_sub {x y : Int32} (hx : vR x) (hy : vR y) : (x.toInt64 - y.toInt64).toInt = x.toInt - y.toInt := by
  rw [Int64.toInt_sub, i64_of, i64_of]
  obtain ⟨a, b⟩ := hx
  obtain ⟨c, d⟩ := hy
  exact Int.bmod_eq_of_le (by omega) (by omega)
theorem lim_eq {v : Int32} {w : Int64} (h : w.toInt = v.toInt) : rLimL w = (pLim v (-1000000) 1000000).toInt64 ∧ vR (pLim v (-1000000) 1000000) := by
  have c1 : (1000000 : Int32).toInt = 1000000 := by decide
  have c2 : (-1000000 : Int32).toInt = -1000000 := by decide
  have c3 : (1000000 : Int64).toInt = 1000000 := by decide
  have c4 : (-1000000 : Int64).toInt = -1000000 := by decide
  unfold rLimL pLim vR
  by_cases g1 : v < -1000000
  · have g2 := i32_lt.mp g1
    rw [if_pos g1, if_neg (fun q => by have := i64_lt.mp q; omega), if_pos (i64_lt.mpr (by omega))]
    exact ⟨by decide, by decide, by decide⟩
  · have g2 : ¬ v.toInt < -1000000 := fun q => g1 (i32_lt.mpr (by omega))
    by_cases g3 : 1000000 < v
    · have g4 := i32_lt.mp g3
      rw [if_neg g1, if_pos g3, if_pos (i64_lt.mpr (by omega))]
      exact ⟨by decide, by decide, by decide⟩
    · have g4 : ¬ 1000000 < v.toInt := fun q => g3 (i32_lt.mpr (by omega))
      rw [if_neg g1, if_neg g3, if_neg (fun q => by have := i64_lt.mp q; omega), if_neg (fun q => by have := i64_lt.mp q; omega)]
      exact ⟨i64_eq (by rw [i64_of]; exact h), by omega, by omega⟩
theorem rOp_2 {a b : Int64} : rOp 2 a b = rLimL (a + b) := by
  unfold rOp
  rw [if_neg (by decide), if_pos rfl]
theorem rOp_3 {a b : Int64} : rOp 3 a b = rLimL (a - b) := by
  unfold rOp
  rw [if_neg (by decide), if_neg (by decide), if_pos rfl]
theorem rOp_4 {a b : Int64} : rOp 4 a b = rLimL (a * b) := by
  unfold rOp
  rw [if_neg (by decide), if_neg (by decide), if_neg (by decide)]
theorem rOp_5 {a b : Int64} : rOp 5 a b = if b = 0 then 0 else a / b := by
  unfold rOp
  rw [if_pos rfl]
theorem op_add {x y : Int32} (hx : vR x) (hy : vR y) : rOp 2 x.toInt64 y.toInt64 = (pLim (x + y) (-1000000) 1000000).toInt64 ∧ vR (pLim (x + y) (-1000000) 1000000) := by
  rw [rOp_2]
  exact lim_eq ((i64_add hx hy).trans (i32_add hx hy).symm)
theorem op_sub {x y : Int32} (hx : vR x) (hy : vR y) : rOp 3 x.toInt64 y.toInt64 = (pLim (x - y) (-1000000) 1000000).toInt64 ∧ vR (pLim (x - y) (-1000000) 1000000) := by
  rw [rOp_3]
  exact lim_eq ((i64_sub hx hy).trans (i32_sub hx hy).symm)
theorem i3264 {q : Int64} (h : -1000000 ≤ q.toInt ∧ q.toInt ≤ 1000000) : q.toInt32.toInt = q.toInt := by
  rw [Int64.toInt_toInt32]
  exact Int.bmod_eq_of_le (by omega) (by omega)
theorem lim_mx {w : Int64} : rLimL w = (lMax (-1000000) (lMin 1000000 w)) ∧ (-1000000 ≤ (rLimL w).toInt ∧ (rLimL w).toInt ≤ 1000000) := by
  have c3 : (1000000 : Int64).toInt = 1000000 := by decide
  have c4 : (-1000000 : Int64).toInt = -1000000 := by decide
  unfold rLimL lMax lMin
  by_cases g1 : 1000000 < w
  · have h1 := i64_lt.mp g1
    have h2 : ¬ w < 1000000 := fun q => by have := i64_lt.mp q; omega
    rw [if_pos g1, if_neg h2, if_neg (by decide)]
    exact ⟨rfl, by omega, by omega⟩
  · have h1 : ¬ 1000000 < w.toInt := fun q => g1 (i64_lt.mpr (by omega))
    rw [if_neg g1]
    by_cases g2 : w < 1000000
    · rw [if_pos g2]
      by_cases g3 : w < -1000000
      · have h3 := i64_lt.mp g3
        rw [if_pos g3]
        exact ⟨rfl, by omega, by omega⟩
      · have h3 : ¬ w.toInt < -1000000 := fun q => g3 (i64_lt.mpr (by omega))
        rw [if_neg g3]
        exact ⟨rfl, by omega, by omega⟩
    · have h2 : ¬ w.toInt < 1000000 := fun q => g2 (i64_lt.mpr (by omega))
      have e : w = 1000000 := i64_eq (by omega)
      rw [if_neg g2, e]
      exact ⟨by decide, by decide, by decide⟩
theorem op_mul {x y : Int32} : rOp 4 x.toInt64 y.toInt64 = (cProd x y).toInt64 ∧ vR (cProd x y) := by
  rw [rOp_4]
  unfold cProd
  obtain ⟨h1, h2⟩ := lim_mx (w := x.toInt64 * y.toInt64)
  rw [← h1]
  have h3 := i3264 h2
  refine ⟨i64_eq ?_, ?_⟩
  · rw [i64_of, h3]
  · unfold vR
    rw [h3]
    exact h2
theorem tdiv_r {a b : Int} (h : -1000000 ≤ a ∧ a ≤ 1000000) : -1000000 ≤ a.tdiv b ∧ a.tdiv b ≤ 1000000 := by
  have h1 : (a.tdiv b).natAbs ≤ a.natAbs := by
    rw [Int.natAbs_tdiv]
    exact Nat.div_le_self _ _
  omega
theorem op_div {x y : Int32} (hx : vR x) (hy : vR y) : rOp 5 x.toInt64 y.toInt64 = (cQuo x y).toInt64 ∧ vR (cQuo x y) := by
  rw [rOp_5]
  unfold cQuo
  by_cases h : y = 0
  · subst h
    rw [if_pos (by decide), if_pos rfl]
    exact ⟨by decide, by decide, by decide⟩
  · have h2 : ¬ y.toInt64 = 0 := fun q => h (Int32.toInt_inj.mp (by rw [← i64_of, q]; decide))
    have hr := tdiv_r (b := y.toInt) hx
    have e1 : (x / y).toInt = x.toInt.tdiv y.toInt := by
      rw [Int32.toInt_div]
      exact Int.bmod_eq_of_le (by omega) (by omega)
    rw [if_neg h2, if_neg h]
    refine ⟨i64_eq ?_, ?_⟩
    · rw [i64_of, e1, Int64.toInt_div, i64_of, i64_of]
      exact Int.bmod_eq_of_le (by omega) (by omega)
    · unfold vR
      rw [e1]
      exact hr

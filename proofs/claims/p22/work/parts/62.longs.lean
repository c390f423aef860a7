-- LONGS: compared, divided as if they had no sign; an int and a long by their numbers
def MINL : Int64 := -9223372036854775808
theorem l_ti {m : Nat} (h : m < 2 ^ 64) : (lN m).toInt = if m < 2 ^ 63 then (m : Int) else (m : Int) - 2 ^ 64 := lN_ti h
theorem ltU {u v : Nat} (hu : u < 2 ^ 64) (hv : v < 2 ^ 64) : lN u + (-9223372036854775808) < lN v + (-9223372036854775808) ↔ u < v := by
  have e : ∀ {m : Nat}, m < 2 ^ 64 → (lN m + (-9223372036854775808)).toInt = (m : Int) - 2 ^ 63 := fun {m} hm => by
    rw [show (-9223372036854775808 : Int64) = lN (2 ^ 63) by decide, lN_add]
    rcases Nat.lt_or_ge m (2 ^ 63) with h | h
    · rw [l_ti (by omega), if_neg (by omega)]
      omega
    · rw [wb_mod, show (m + 2 ^ 63) % 2 ^ 64 = m - 2 ^ 63 by omega, l_ti (by omega), if_pos (by omega)]
      omega
  rw [Int64.lt_iff_toInt_lt, e hu, e hv]
  omega
theorem lN_inj {u v : Nat} (hu : u < 2 ^ 64) (hv : v < 2 ^ 64) : lN u = lN v ↔ u = v := by
  constructor
  · intro h
    have h1 := congrArg (fun x : Int64 => x.toBitVec.toNat) h
    simpa [wb_tn hu, wb_tn hv] using h1
  · intro h
    rw [h]
theorem lc_ge {x y : Int64} (h : 0 ≤ lg_cmp x y) : ¬ x < y := Int64.not_lt.mpr ((lg_cmp_ge x y).mp h)
theorem lc_nge {x y : Int64} (h : ¬ 0 ≤ lg_cmp x y) : x < y := Int64.not_le.mp (fun z => h ((lg_cmp_ge x y).mpr z))
theorem lc_eq {x y : Int64} (h : lg_cmp x y = 0) : x = y := (lg_cmp_eq x y).mp h
theorem lc_ne {x y : Int64} (h : ¬ lg_cmp x y = 0) : x ≠ y := fun z => h ((lg_cmp_eq x y).mpr z)
theorem lc_le {x y : Int64} (h : lg_cmp x y ≤ 0) : x ≤ y := (lg_cmp_le x y).mp h
theorem lc_nle {x y : Int64} (h : ¬ lg_cmp x y ≤ 0) : ¬ x ≤ y := fun z => h ((lg_cmp_le x y).mpr z)
theorem neg_lN {v : Nat} (hv : v < 2 ^ 64) : lN v < lN 0 ↔ 2 ^ 63 ≤ v := by
  rw [Int64.lt_iff_toInt_lt, l_ti hv, l_ti (by decide)]
  split <;> omega
theorem quo_big {u v : Nat} (hu : u < 2 ^ 64) (hv : 2 ^ 63 ≤ v) : u / v = if u < v then 0 else 1 := by
  split
  · rename_i h
    exact Nat.div_eq_of_lt h
  · rename_i h
    have h1 : u / v < 2 := Nat.div_lt_of_lt_mul (by omega)
    have h2 : 0 < u / v := Nat.div_pos (by omega) (by omega)
    omega
theorem quo_half {u v : Nat} (hv : 0 < v) : (u / 2 / v * 2 * v ≤ u) ∧ (u - u / 2 / v * 2 * v < v → u / v = u / 2 / v * 2) ∧ (¬ u - u / 2 / v * 2 * v < v → u / v = u / 2 / v * 2 + 1) := by
  have e : u / 2 / v * v ≤ u / 2 := Nat.div_mul_le_self _ _
  have e2 : u / 2 < (u / 2 / v + 1) * v := by
    rw [Nat.mul_comm]
    exact Nat.lt_mul_div_succ _ hv
  generalize hq : u / 2 / v = q at *
  have e3 : q * 2 * v = 2 * (q * v) := by rw [Nat.mul_comm q 2, Nat.mul_assoc]
  rw [Nat.add_mul, Nat.one_mul] at e2
  refine ⟨by omega, fun h => ?_, fun h => ?_⟩
  · refine Nat.div_eq_of_lt_le (by omega) ?_
    rw [Nat.add_mul, Nat.one_mul]
    omega
  · refine Nat.div_eq_of_lt_le ?_ ?_
    · rw [Nat.add_mul, Nat.one_mul]
      omega
    · rw [Nat.add_mul, Nat.add_mul, Nat.one_mul]
      omega

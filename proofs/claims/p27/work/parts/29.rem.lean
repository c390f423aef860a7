-- the rest by 32 or 64, with a sign
theorem rem_abs {z : Int} {N : Int} (hN : N = 32 ∨ N = 64) (h1 : -2147483648 ≤ z) (h2 : z < 2147483648) : (z - (z.tdiv N).bmod 4294967296 * N).bmod 4294967296 = z.tmod N ∧ ((z.tdiv N).bmod 4294967296 * N).bmod 4294967296 = (z.tdiv N).bmod 4294967296 * N ∧ -N < z.tmod N ∧ z.tmod N < N := by
  have e := Int.tmod_add_tdiv_mul z N
  rcases Int.lt_or_le z 0 with hz | hz
  · obtain ⟨w, rfl⟩ : ∃ w : Nat, z = -(w : Int) := ⟨z.natAbs, by omega⟩
    have e1 : (-(w : Int)).tdiv N = -((w : Int) / N) := by
      rw [Int.neg_tdiv, Int.tdiv_eq_ediv_of_nonneg (by omega)]
    rw [e1] at e ⊢
    rcases hN with rfl | rfl
    · rw [show (-((w : Int) / 32)).bmod 4294967296 = -((w : Int) / 32) from Int.bmod_eq_of_le (by omega) (by omega), Int.bmod_eq_of_le (by omega) (by omega), Int.bmod_eq_of_le (by omega) (by omega)]
      omega
    · rw [show (-((w : Int) / 64)).bmod 4294967296 = -((w : Int) / 64) from Int.bmod_eq_of_le (by omega) (by omega), Int.bmod_eq_of_le (by omega) (by omega), Int.bmod_eq_of_le (by omega) (by omega)]
      omega
  · rw [Int.tdiv_eq_ediv_of_nonneg hz] at e ⊢
    rcases hN with rfl | rfl
    · rw [show (z / 32).bmod 4294967296 = z / 32 from Int.bmod_eq_of_le (by omega) (by omega), Int.bmod_eq_of_le (by omega) (by omega), Int.bmod_eq_of_le (by omega) (by omega)]
      omega
    · rw [show (z / 64).bmod 4294967296 = z / 64 from Int.bmod_eq_of_le (by omega) (by omega), Int.bmod_eq_of_le (by omega) (by omega), Int.bmod_eq_of_le (by omega) (by omega)]
      omega
/-- by how many places to the left, from N on -/
def tby (N : Nat) (y : Int32) : Nat := (y.toInt.tmod (N : Int) + (N : Int)).toNat
theorem tby_lt {n : Nat} (hn : n = 2 ∨ n = 4) (y : Int32) : tby (16 * n) y < 1000 := by
  unfold tby
  have h1 := y.minValue_le_toInt
  have h2 := y.toInt_lt
  rcases hn with rfl | rfl
  · have h := rem_abs (z := y.toInt) (N := 32) (Or.inl rfl) (by exact h1) (by exact h2)
    have h3 : (((16 * 2 : Nat)) : Int) = 32 := rfl
    rw [h3]
    omega
  · have h := rem_abs (z := y.toInt) (N := 64) (Or.inr rfl) (by exact h1) (by exact h2)
    have h3 : (((16 * 4 : Nat)) : Int) = 64 := rfl
    rw [h3]
    omega
theorem tby_eq {n : Nat} (hn : n = 2 ∨ n = 4) (y : Int32) : y - y / nI (16 * n) * nI (16 * n) + nI (16 * n) = nI (tby (16 * n) y) := by
  have h1 := y.minValue_le_toInt
  have h2 := y.toInt_lt
  have hl := tby_lt hn y
  refine Int32.toInt_inj.mp ?_
  rw [nI_toInt (by omega), Int32.toInt_add, Int32.toInt_sub, Int32.toInt_mul, Int32.toInt_div]
  unfold tby at hl ⊢
  rcases hn with rfl | rfl
  · have h := rem_abs (z := y.toInt) (N := 32) (Or.inl rfl) (by exact h1) (by exact h2)
    have h3 : (((16 * 2 : Nat)) : Int) = 32 := rfl
    have h4 : (nI (16 * 2)).toInt = 32 := nI_toInt (by decide)
    rw [h3] at hl ⊢
    rw [h4]
    show ((y.toInt - ((y.toInt.tdiv 32).bmod 4294967296 * 32).bmod 4294967296).bmod 4294967296 + 32).bmod 4294967296 = _
    rw [h.2.1, h.1, Int.bmod_eq_of_le (by omega) (by omega)]
    omega
  · have h := rem_abs (z := y.toInt) (N := 64) (Or.inr rfl) (by exact h1) (by exact h2)
    have h3 : (((16 * 4 : Nat)) : Int) = 64 := rfl
    have h4 : (nI (16 * 4)).toInt = 64 := nI_toInt (by decide)
    rw [h3] at hl ⊢
    rw [h4]
    show ((y.toInt - ((y.toInt.tdiv 64).bmod 4294967296 * 64).bmod 4294967296).bmod 4294967296 + 64).bmod 4294967296 = _
    rw [h.2.1, h.1, Int.bmod_eq_of_le (by omega) (by omega)]
    omega

-- the rest by 65536, with a sign
theorem oi_abs {z : Int} (h1 : -2147483648 ≤ z) (h2 : z < 2147483648) : (z - ((z.tdiv 65536).bmod 4294967296 * 65536).bmod 4294967296).bmod 4294967296 = z.tmod 65536 ∧ -65536 < z.tmod 65536 ∧ z.tmod 65536 < 65536 ∧ (z.tmod 65536 - z) % 65536 = 0 := by
  have e := Int.tmod_add_tdiv_mul z 65536
  rcases Int.lt_or_le z 0 with hz | hz
  · obtain ⟨w, rfl⟩ : ∃ w : Nat, z = -(w : Int) := ⟨z.natAbs, by omega⟩
    have e1 : (-(w : Int)).tdiv 65536 = -((w : Int) / 65536) := by
      rw [Int.neg_tdiv, Int.tdiv_eq_ediv_of_nonneg (by omega)]
    rw [e1] at e ⊢
    rw [show (-((w : Int) / 65536)).bmod 4294967296 = -((w : Int) / 65536) from Int.bmod_eq_of_le (by omega) (by omega), show (-((w : Int) / 65536) * 65536).bmod 4294967296 = -((w : Int) / 65536) * 65536 from Int.bmod_eq_of_le (by omega) (by omega), Int.bmod_eq_of_le (by omega) (by omega)]
    omega
  · rw [Int.tdiv_eq_ediv_of_nonneg hz] at e ⊢
    rw [show (z / 65536).bmod 4294967296 = z / 65536 from Int.bmod_eq_of_le (by omega) (by omega), show (z / 65536 * 65536).bmod 4294967296 = z / 65536 * 65536 from Int.bmod_eq_of_le (by omega) (by omega), Int.bmod_eq_of_le (by omega) (by omega)]
    omega
/-- the rest of an int by 65536, with its sign -/
def oiT (x : Int32) : Int32 := x - x / nI 65536 * nI 65536
theorem oiT_toInt (x : Int32) : (oiT x).toInt = x.toInt.tmod 65536 := by
  have h1 := x.minValue_le_toInt
  have h2 := x.toInt_lt
  have h := oi_abs (z := x.toInt) (by exact h1) (by exact h2)
  have h4 : (nI 65536).toInt = 65536 := nI_toInt (by decide)
  unfold oiT
  rw [Int32.toInt_sub, Int32.toInt_mul, Int32.toInt_div, h4]
  exact h.1

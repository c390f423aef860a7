-- isSound's bound: the quotients' bits, round the ring of eight cells
theorem pcN_zero (w : Nat) : ∀ k, w = 0 → pcN w k = 0
  | 0, _ => rfl
  | k + 1, h => by
    show pcN w k + w / 2 ^ k % 2 = 0
    rw [pcN_zero w k h, h, Nat.zero_div]
theorem pcN_small {q b N : Nat} (h : q < 2 ^ b) : pcN q N ≤ b := by
  rcases Nat.lt_or_ge N b with z | z
  · exact Nat.le_trans (pcN_le q N) (Nat.le_of_lt z)
  · have h1 := pcN_split q b (N - b)
    rw [show b + (N - b) = N by omega, Nat.div_eq_of_lt h, pcN_zero 0 _ rfl] at h1
    have h2 := pcN_le q b
    omega
theorem pc_quot {u v : Nat} (hv : v ≠ 0) : pcN (u / v) 64 ≤ Nat.log2 u + 1 - Nat.log2 v := by
  by_cases hu : u = 0
  · rw [hu, Nat.zero_div, pcN_zero 0 _ rfl]
    exact Nat.zero_le _
  · have h1 : 2 ^ Nat.log2 v ≤ v := Nat.log2_self_le hv
    have h2 : u < 2 ^ (Nat.log2 u + 1) := Nat.lt_log2_self
    rcases Nat.lt_or_ge (Nat.log2 u) (Nat.log2 v) with z | z
    · have h3 : 2 ^ (Nat.log2 u + 1) ≤ 2 ^ Nat.log2 v := Nat.pow_le_pow_right (by decide) z
      rw [Nat.div_eq_of_lt (by omega), pcN_zero 0 _ rfl]
      exact Nat.zero_le _
    · refine pcN_small (Nat.div_lt_of_lt_mul ?_)
      have h3 : 2 ^ (Nat.log2 u + 1) = 2 ^ Nat.log2 v * 2 ^ (Nat.log2 u + 1 - Nat.log2 v) := by
        rw [← Nat.pow_add]
        congr 1
        omega
      have h4 : 2 ^ Nat.log2 v * 2 ^ (Nat.log2 u + 1 - Nat.log2 v) ≤ v * 2 ^ (Nat.log2 u + 1 - Nat.log2 v) := Nat.mul_le_mul_right _ h1
      omega
theorem log_le {v : Nat} (hv : v < 65536 ^ 4) : Nat.log2 v ≤ 63 := by
  by_cases h : v = 0
  · rw [h]
    decide
  · have h1 : 2 ^ Nat.log2 v ≤ v := Nat.log2_self_le h
    rcases Nat.lt_or_ge 63 (Nat.log2 v) with z | z
    · have h2 : 2 ^ 64 ≤ 2 ^ Nat.log2 v := Nat.pow_le_pow_right (by decide) z
      have h3 : (65536 : Nat) ^ 4 = 2 ^ 64 := by decide
      omega
    · exact z
theorem icost_le {V : Nat → Nat} {i : Nat} (h1 : V i < 65536 ^ 4) (h2 : V ((i + 1) % 8) < 65536 ^ 4) : 2 * icost V i + 3 * Nat.log2 (V ((i + 1) % 8)) ≤ 461 + 3 * Nat.log2 (V i) := by
  have a1 := log_le h1
  have a2 := log_le h2
  unfold icost
  split
  · omega
  · next h =>
    have h3 := pc_quot (u := V i) h
    omega
theorem scost_le {V : Nat → Nat} (hV : ∀ i, i < 8 → V i < 65536 ^ 4) : scost V 8 ≤ 1908 := by
  have e0 := icost_le (V := V) (i := 0) (hV 0 (by decide)) (hV 1 (by decide))
  have e1 := icost_le (V := V) (i := 1) (hV 1 (by decide)) (hV 2 (by decide))
  have e2 := icost_le (V := V) (i := 2) (hV 2 (by decide)) (hV 3 (by decide))
  have e3 := icost_le (V := V) (i := 3) (hV 3 (by decide)) (hV 4 (by decide))
  have e4 := icost_le (V := V) (i := 4) (hV 4 (by decide)) (hV 5 (by decide))
  have e5 := icost_le (V := V) (i := 5) (hV 5 (by decide)) (hV 6 (by decide))
  have e6 := icost_le (V := V) (i := 6) (hV 6 (by decide)) (hV 7 (by decide))
  have e7 := icost_le (V := V) (i := 7) (hV 7 (by decide)) (hV 0 (by decide))
  have s : scost V 8 = 0 + icost V 0 + 8 + icost V 1 + 8 + icost V 2 + 8 + icost V 3 + 8 + icost V 4 + 8 + icost V 5 + 8 + icost V 6 + 8 + icost V 7 + 8 := rfl
  simp only [show (0 + 1) % 8 = 1 from rfl, show (1 + 1) % 8 = 2 from rfl, show (2 + 1) % 8 = 3 from rfl, show (3 + 1) % 8 = 4 from rfl, show (4 + 1) % 8 = 5 from rfl, show (5 + 1) % 8 = 6 from rfl, show (6 + 1) % 8 = 7 from rfl, show (7 + 1) % 8 = 0 from rfl] at e0 e1 e2 e3 e4 e5 e6 e7
  omega

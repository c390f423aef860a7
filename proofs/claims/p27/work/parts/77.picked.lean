-- THE CLASS AND THE MODEL: picking comes to the same
theorem nI_lt_i {a b : Nat} (ha : a < 2 ^ 31) (hb : b < 2 ^ 31) : nI a < nI b ↔ a < b := by
  rw [Int32.lt_iff_toInt_lt, nI_toInt ha, nI_toInt hb]
  omega
theorem shr1_n {u c : Nat} (hu : u < 2 ^ 32) (hc : c < 32) : shr1 (nI u) (nI c) = nI (u / 2 ^ c) := by
  unfold shr1
  have h2 : (nI c).toUInt32 &&& Int32.toUInt32 31 = UInt32.ofNat c := by
    have h3 := congrArg Int32.toUInt32 (nI_and31 c)
    rw [Nat.mod_eq_of_lt hc] at h3
    exact h3
  rw [h2]
  have h4 : UInt32.ofNat u >>> UInt32.ofNat c = UInt32.ofNat (u / 2 ^ c) := by
    have tn : ∀ {z : Nat}, z < 2 ^ 32 → (UInt32.ofNat z).toNat = z := fun h => Nat.mod_eq_of_lt h
    refine UInt32.toNat_inj.mp ?_
    rw [UInt32.toNat_shiftRight, tn hu, tn (by omega), tn (Nat.lt_of_le_of_lt (Nat.div_le_self _ _) hu), Nat.mod_eq_of_lt hc, Nat.shiftRight_eq_div_pow]
  exact congrArg UInt32.toInt32 h4
theorem nz_lo {u m sh : Nat} {mns : Int32} (hu : u < 2 ^ 31) (hp : 2 ^ sh < 2 ^ 31) (h : u < 2 ^ sh) : nzS (nI (2 ^ sh)) (nI sh) mns (nI u, nI m) = (nI u, nI m) := by
  have h9 : nI u < nI (2 ^ sh) := (nI_lt_i hu hp).mpr h
  generalize nI (2 ^ sh) = L at h9 ⊢
  exact if_pos h9
theorem nz_hi {u m sh : Nat} {mns : Int32} (hu : u < 2 ^ 31) (hp : 2 ^ sh < 2 ^ 31) (hs : sh < 31) (h : ¬ u < 2 ^ sh) : nzS (nI (2 ^ sh)) (nI sh) mns (nI u, nI m) = (nI (u / 2 ^ sh), nI m + mns) := by
  have h9 : ¬ nI u < nI (2 ^ sh) := fun z => h ((nI_lt_i hu hp).mp z)
  have e := shr1_n (u := u) (c := sh) (by omega) (by omega)
  rw [← e]
  generalize nI (2 ^ sh) = L at h9 ⊢
  exact if_neg h9
theorem nz_step {w s sh : Nat} {mns : Int32} (hm : mns = -(nI sh)) (hsl : sh < 31) (hs : s + sh ≤ 31) (h1 : 1 ≤ w / 2 ^ s) (h2 : w / 2 ^ s < 2 ^ sh * 2 ^ sh) (hw : w < 2 ^ 31) : ∃ s2, nzS (nI (2 ^ sh)) (nI sh) mns (nI (w / 2 ^ s), nI (31 - s)) = (nI (w / 2 ^ s2), nI (31 - s2)) ∧ 1 ≤ w / 2 ^ s2 ∧ w / 2 ^ s2 < 2 ^ sh ∧ s2 ≤ s + sh := by
  have hu : w / 2 ^ s < 2 ^ 31 := Nat.lt_of_le_of_lt (Nat.div_le_self _ _) hw
  have hp : 2 ^ sh < 2 ^ 31 := Nat.pow_lt_pow_right (by decide) hsl
  have e1 : w / 2 ^ s / 2 ^ sh = w / 2 ^ (s + sh) := by rw [Nat.div_div_eq_div_mul, Nat.pow_add]
  by_cases h : w / 2 ^ s < 2 ^ sh
  · exact ⟨s, nz_lo hu hp h, h1, h, by omega⟩
  · refine ⟨s + sh, ?_, ?_, ?_, Nat.le_refl _⟩
    · rw [nz_hi hu hp hsl h, e1, hm, ← Int32.sub_eq_add_neg, pk_sub (by omega), Nat.sub_sub]
    · rw [← e1]
      exact Nat.div_pos (Nat.le_of_not_lt h) (Nat.pow_pos (by decide))
    · rw [← e1]
      exact Nat.div_lt_of_lt_mul h2
/-- the leading zeros of an int -/
theorem jNz_n {w k : Nat} (h1 : 2 ^ k ≤ w) (h2 : w < 2 ^ (k + 1)) (hk : k < 32) : jNz (nI w) = nI (31 - k) := by
  by_cases h31 : k = 31
  · subst h31
    have e : (nI w).toInt = (w : Int) - 2 ^ 32 := by rw [nI_ti (by omega), if_neg (by omega)]
    have n1 : ¬ nI w > 0 := fun z => by
      have := Int32.lt_iff_toInt_lt.mp z
      rw [e] at this
      have h0 : (0 : Int32).toInt = 0 := rfl
      omega
    have n2 : ¬ nI w = 0 := fun z => by
      rw [z] at e
      have h0 : (0 : Int32).toInt = 0 := rfl
      omega
    unfold jNz
    rw [if_neg n1, if_neg n2]
  · have hw : w < 2 ^ 31 := Nat.lt_of_lt_of_le h2 (Nat.pow_le_pow_right (by decide) (by omega))
    have hp : 0 < w := Nat.lt_of_lt_of_le (Nat.pow_pos (by decide)) h1
    have n1 : nI w > 0 := (nI_lt_i (by decide) hw).mpr hp
    obtain ⟨s1, q1, a1, b1, c1⟩ := nz_step (w := w) (s := 0) (sh := 16) (mns := -16) (by decide) (by decide) (by decide) (by rw [Nat.pow_zero, Nat.div_one]; exact hp) (by rw [Nat.pow_zero, Nat.div_one]; omega) hw
    obtain ⟨s2, q2, a2, b2, c2⟩ := nz_step (w := w) (s := s1) (sh := 8) (mns := -8) (by decide) (by decide) (by omega) a1 (by omega) hw
    obtain ⟨s3, q3, a3, b3, c3⟩ := nz_step (w := w) (s := s2) (sh := 4) (mns := -4) (by decide) (by decide) (by omega) a2 (by omega) hw
    obtain ⟨s4, q4, a4, b4, c4⟩ := nz_step (w := w) (s := s3) (sh := 2) (mns := -2) (by decide) (by decide) (by omega) a3 (by omega) hw
    have hq : nzQ (nI w) = (nI (w / 2 ^ s4), nI (31 - s4)) := by
      unfold nzQ
      rw [Nat.pow_zero, Nat.div_one] at q1
      rw [show (nI 65536) = nI (2 ^ 16) from rfl, show nI 256 = nI (2 ^ 8) from rfl, show nI 16 = nI (2 ^ 4) from rfl]
      exact (congrArg (nzS (nI 4) (nI 2) (-2)) ((congrArg (nzS (nI 16) (nI 4) (-4)) ((congrArg (nzS (nI 256) (nI 8) (-8)) q1).trans q2)).trans q3)).trans q4
    unfold jNz
    rw [if_pos n1, hq]
    show nI (31 - s4) - shr1 (nI (w / 2 ^ s4)) (nI 1) = _
    rw [shr1_n (by omega) (by decide), pk_sub (by omega)]
    have m1 := Nat.div_add_mod w (2 ^ s4)
    have m2 := Nat.mod_lt w (show 2 ^ s4 > 0 from Nat.pow_pos (by decide))
    have hs4 : 2 ^ (s4 + 1) = 2 * 2 ^ s4 := by rw [Nat.pow_succ, Nat.mul_comm]
    have hs5 : 2 ^ (s4 + 2) = 4 * 2 ^ s4 := by rw [Nat.pow_succ, Nat.pow_succ]; omega
    have up : ∀ {x y : Nat}, 2 ^ x ≤ w → w < 2 ^ y → x < y := fun {x y} hx hy => by
      rcases Nat.lt_or_ge x y with e | e
      · exact e
      · exact absurd (Nat.le_trans (Nat.pow_le_pow_right (by decide) e) hx) (by omega)
    rcases (show w / 2 ^ s4 = 1 ∨ w / 2 ^ s4 = 2 ∨ w / 2 ^ s4 = 3 by omega) with e | e | e
    · rw [e] at m1 ⊢
      have u1 := up (x := s4) (y := k + 1) (by omega) h2
      have u2 := up (x := k) (y := s4 + 1) h1 (by omega)
      rw [show s4 = k by omega]
      exact congrArg nI (by omega)
    · rw [e] at m1 ⊢
      have u1 := up (x := s4 + 1) (y := k + 1) (by omega) h2
      have u2 := up (x := k) (y := s4 + 2) h1 (by omega)
      rw [show k = s4 + 1 by omega]
      exact congrArg nI (by omega)
    · rw [e] at m1 ⊢
      have u1 := up (x := s4 + 1) (y := k + 1) (by omega) h2
      have u2 := up (x := k) (y := s4 + 2) h1 (by omega)
      rw [show k = s4 + 1 by omega]
      exact congrArg nI (by omega)
/-- what lies below the lowest place that is set -/
theorem ntY_n {w t m : Nat} (hw : w = 2 ^ (t + 1) * m + 2 ^ t) (hlt : w < 2 ^ 32) (ht : t < 32) : ntY (nI w) = nI (2 ^ t - 1) := by
  have h0 : 0 < 2 ^ t := Nat.pow_pos (by decide)
  have h1 : 2 ^ t < 2 ^ 32 := Nat.pow_lt_pow_right (by decide) ht
  have hs : 2 ^ (t + 1) = 2 * 2 ^ t := by rw [Nat.pow_succ, Nat.mul_comm]
  have hw1 : w - 1 = 2 ^ (t + 1) * m + (2 ^ t - 1) := by omega
  have hp : 1 ≤ w := by omega
  unfold ntY
  rw [pk_sub hp]
  refine Int32.toBitVec_inj.mp ?_
  rw [Int32.toBitVec_and, Int32.toBitVec_xor]
  refine BitVec.eq_of_toNat_eq ?_
  rw [BitVec.toNat_and, BitVec.toNat_xor]
  show ((w % 2 ^ 32) ^^^ (2 ^ 32 - 1)) &&& ((w - 1) % 2 ^ 32) = (2 ^ t - 1) % 2 ^ 32
  rw [Nat.mod_eq_of_lt hlt, Nat.mod_eq_of_lt (by omega), Nat.mod_eq_of_lt (by omega)]
  refine Nat.eq_of_testBit_eq (fun i => ?_)
  have b1 : w.testBit i = if i < t + 1 then decide (t = i) else m.testBit (i - (t + 1)) := by
    rw [hw, Nat.testBit_two_pow_mul_add _ (by omega), Nat.testBit_two_pow]
  have b2 : (w - 1).testBit i = if i < t + 1 then decide (i < t) else m.testBit (i - (t + 1)) := by
    rw [hw1, Nat.testBit_two_pow_mul_add _ (by omega), Nat.testBit_two_pow_sub_one]
  rw [Nat.testBit_and, Nat.testBit_xor, Nat.testBit_two_pow_sub_one, Nat.testBit_two_pow_sub_one, b1, b2]
  by_cases hi : i < t + 1
  · rw [if_pos hi, if_pos hi]
    by_cases hit : i < t
    · rw [decide_eq_true hit, decide_eq_false (show ¬ t = i by omega), decide_eq_true (show i < 32 by omega)]
      rfl
    · rw [decide_eq_false hit, Bool.and_false]
  · rw [if_neg hi, if_neg hi, decide_eq_false (show ¬ i < t by omega)]
    by_cases h32 : i < 32
    · rw [decide_eq_true h32]
      cases m.testBit (i - (t + 1)) <;> rfl
    · have h9 : w.testBit i = false := Nat.testBit_lt_two_pow (Nat.lt_of_lt_of_le hlt (Nat.pow_le_pow_right (by decide) (by omega)))
      rw [b1, if_neg hi] at h9
      rw [h9, Bool.and_false]
theorem jNt_d : ∀ t, t < 32 → (if nI (2 ^ t - 1) > 0 then (ntQ (nI (2 ^ t - 1))).2 + shr1 (ntQ (nI (2 ^ t - 1))).1 (nI 1) else nI (2 ^ t - 1) &&& nI 32) = nI t := by decide +kernel
/-- the trailing zeros of an int -/
theorem jNt_n {w t m : Nat} (hw : w = 2 ^ (t + 1) * m + 2 ^ t) (hlt : w < 2 ^ 32) (ht : t < 32) : jNt (nI w) = nI t := by
  unfold jNt
  rw [ntY_n hw hlt ht]
  exact jNt_d t ht
theorem hi64_n {w : Nat} (hw : w < 2 ^ 64) : hi64 (lN w) = nI (w / 2 ^ 32) := by
  unfold hi64
  rw [wb_shr hw (by decide)]
  exact lN_i _
theorem lo64_n (w : Nat) : (lN w).toInt32 = nI (w % 65536 ^ 2) := (lN_i w).trans (nI_mod w).symm
theorem nI_z {a : Nat} (h : a < 2 ^ 32) : nI a = 0 ↔ a = 0 := by
  constructor
  · intro z
    have e := nI_ti h
    rw [z] at e
    have h0 : (0 : Int32).toInt = 0 := rfl
    rw [h0] at e
    split at e <;> omega
  · intro z
    rw [z]
    rfl
/-- the leading zeros of a long -/
theorem jNz64_n {w k : Nat} (h1 : 2 ^ k ≤ w) (h2 : w < 2 ^ (k + 1)) (hk : k < 64) : jNz64 (lN w) = nI (63 - k) := by
  have hw : w < 2 ^ 64 := Nat.lt_of_lt_of_le h2 (Nat.pow_le_pow_right (by decide) hk)
  have hh : w / 2 ^ 32 < 2 ^ 32 := by omega
  unfold jNz64
  rw [hi64_n hw, lo64_n]
  rcases Nat.lt_or_ge k 32 with e | e
  · have h9 : w < 2 ^ 32 := Nat.lt_of_lt_of_le h2 (Nat.pow_le_pow_right (by decide) e)
    rw [if_pos ((nI_z hh).mpr (Nat.div_eq_of_lt h9)), Nat.mod_eq_of_lt (show w < 65536 ^ 2 from h9), jNz_n h1 h2 e, nI_add]
    congr 1
    omega
  · have e1 : 2 ^ k = 2 ^ (k - 32) * 2 ^ 32 := by rw [← Nat.pow_add]; congr 1; omega
    have e2 : 2 ^ (k + 1) = 2 ^ (k - 32 + 1) * 2 ^ 32 := by rw [← Nat.pow_add]; congr 1; omega
    have p1 : 2 ^ (k - 32) ≤ w / 2 ^ 32 := (Nat.le_div_iff_mul_le (by decide)).mpr (by rw [← e1]; exact h1)
    have p2 : w / 2 ^ 32 < 2 ^ (k - 32 + 1) := (Nat.div_lt_iff_lt_mul (by decide)).mpr (by rw [← e2]; exact h2)
    have p0 : 0 < 2 ^ (k - 32) := Nat.pow_pos (by decide)
    rw [if_neg (fun z => by have := (nI_z hh).mp z; omega), jNz_n p1 p2 (by omega)]
    congr 1
    omega
/-- the trailing zeros of a long -/
theorem jNt64_n {w t m : Nat} (hw : w = 2 ^ (t + 1) * m + 2 ^ t) (hlt : w < 2 ^ 64) (ht : t < 64) : jNt64 (lN w) = nI t := by
  have hh : w / 2 ^ 32 < 2 ^ 32 := by omega
  have h0 : 0 < 2 ^ t := Nat.pow_pos (by decide)
  have hs : 2 ^ (t + 1) = 2 * 2 ^ t := by rw [Nat.pow_succ, Nat.mul_comm]
  have hl : w % 65536 ^ 2 < 2 ^ 32 := Nat.mod_lt _ (by decide)
  unfold jNt64
  rw [hi64_n hlt, lo64_n]
  rcases Nat.lt_or_ge t 32 with e | e
  · have e2 : 2 ^ 32 = 2 ^ (t + 1) * 2 ^ (31 - t) := by rw [← Nat.pow_add]; congr 1; omega
    have e3 : w % 65536 ^ 2 = 2 ^ (t + 1) * (m % 2 ^ (31 - t)) + 2 ^ t := by
      show w % 2 ^ 32 = _
      have d1 : w / 2 ^ (t + 1) = m := by
        rw [hw, Nat.mul_add_div (by omega), Nat.div_eq_of_lt (by omega), Nat.add_zero]
      have d2 : w % 2 ^ (t + 1) = 2 ^ t := by
        rw [hw, Nat.mul_add_mod, Nat.mod_eq_of_lt (by omega)]
      rw [e2, Nat.mod_mul, d1, d2, Nat.add_comm]
    rw [if_neg (fun z => by have := (nI_z hl).mp z; omega), jNt_n e3 hl e]
  · have e1 : 2 ^ t = 2 ^ 32 * 2 ^ (t - 32) := by rw [← Nat.pow_add]; congr 1; omega
    have e2 : 2 ^ (t + 1) = 2 ^ 32 * 2 ^ (t - 32 + 1) := by rw [← Nat.pow_add]; congr 1; omega
    have e3 : w = 2 ^ 32 * (2 ^ (t - 32 + 1) * m + 2 ^ (t - 32)) := by rw [hw, e1, e2, Nat.mul_add, Nat.mul_assoc]
    have e4 : w / 2 ^ 32 = 2 ^ (t - 32 + 1) * m + 2 ^ (t - 32) := by
      rw [e3, Nat.mul_div_cancel_left _ (by decide)]
    have e5 : w % 65536 ^ 2 = 0 := by
      show w % 2 ^ 32 = 0
      rw [e3, Nat.mul_mod_right]
    rw [if_pos ((nI_z hl).mpr e5), jNt_n e4 hh (by omega), nI_add]
    congr 1
    omega
theorem oneN_hi {v : Nat} : ∀ n k, k < n → v / 2 ^ k % 2 = 1 → (∀ j, k < j → j < n → v / 2 ^ j % 2 = 0) → oneN v true n = nI k := by
  intro n
  induction n with
  | zero => intro k h; exact absurd h (Nat.not_lt_zero _)
  | succ n ih =>
    intro k hk hb hz
    unfold oneN
    by_cases e : k = n
    · subst e
      rw [if_pos ⟨hb, Or.inl rfl⟩]
    · rw [if_neg (fun z => by have := hz n (by omega) (by omega); omega)]
      exact ih k (by omega) hb (fun j h1 h2 => hz j h1 (by omega))
theorem oneN_lo0 {v : Nat} : ∀ n, (∀ j, j < n → v / 2 ^ j % 2 = 0) → oneN v false n = -1 := by
  intro n
  induction n with
  | zero => intro _; rfl
  | succ n ih =>
    intro hz
    unfold oneN
    rw [if_neg (fun z => by have := hz n (by omega); omega)]
    exact ih (fun j h => hz j (by omega))
theorem oneN_lo {v : Nat} : ∀ n k, k < n → k < 64 → v / 2 ^ k % 2 = 1 → (∀ j, j < k → v / 2 ^ j % 2 = 0) → oneN v false n = nI k := by
  intro n
  induction n with
  | zero => intro k h; exact absurd h (Nat.not_lt_zero _)
  | succ n ih =>
    intro k hk h64 hb hz
    unfold oneN
    by_cases e : k = n
    · subst e
      rw [if_pos ⟨hb, Or.inr (oneN_lo0 k hz)⟩]
    · have h9 := ih k (by omega) h64 hb hz
      have hne : ¬ nI k = -1 := fun z => by
        have e1 := nI_toInt (show k < 2 ^ 31 by omega)
        rw [z] at e1
        have e2 : (-1 : Int32).toInt = -1 := rfl
        omega
      rw [if_neg (fun z => by rcases z.2 with y | y; exact absurd y (by decide); exact hne (h9.symm.trans y)), h9]
theorem low_place : ∀ N : Nat, 0 < N → ∃ t m, N = 2 ^ t * (2 * m + 1) := by
  intro N
  induction N using Nat.strongRecOn with
  | ind N ih =>
    intro h
    rcases Nat.mod_two_eq_zero_or_one N with e | e
    · obtain ⟨t, m, h2⟩ := ih (N / 2) (by omega) (by omega)
      refine ⟨t + 1, m, ?_⟩
      rw [Nat.pow_succ, Nat.mul_comm (2 ^ t) 2, Nat.mul_assoc, ← h2]
      omega
    · exact ⟨0, N / 2, by rw [Nat.pow_zero, Nat.one_mul]; omega⟩
/-- the place that the class picks is the model's -/
theorem pkP_eq {N W : Nat} (hW : W = 32 ∨ W = 64) (h0 : 0 < N) (hN : N < 2 ^ W) (zh : Bool) : ∃ k, k < W ∧ pkP zh N = nI k ∧ oneN N zh W = nI k := by
  have h64 : N < 2 ^ 64 := Nat.lt_of_lt_of_le hN (Nat.pow_le_pow_right (by decide) (by omega))
  cases zh
  · obtain ⟨t, m, e⟩ := low_place N h0
    have hp : 0 < 2 ^ t := Nat.pow_pos (by decide)
    have ht : t < W := by
      rcases Nat.lt_or_ge t W with h | h
      · exact h
      · have h1 := Nat.pow_le_pow_right (show 0 < 2 by decide) h
        have h2 : 2 ^ t * 1 ≤ 2 ^ t * (2 * m + 1) := Nat.mul_le_mul_left _ (by omega)
        omega
    have e2 : N = 2 ^ (t + 1) * m + 2 ^ t := by rw [e, Nat.pow_succ, Nat.mul_add, Nat.mul_one, Nat.mul_assoc]
    refine ⟨t, ht, ?_, oneN_lo W t ht (by omega) ?_ (fun j hj => ?_)⟩
    · show (if false = true then _ else jNt64 (lN N)) = _
      rw [if_neg (by decide), jNt64_n e2 h64 (by omega)]
    · rw [e, Nat.mul_div_cancel_left _ hp]
      omega
    · have e3 : N = 2 ^ j * (2 * (2 ^ (t - j - 1) * (2 * m + 1))) := by
        rw [e, show 2 ^ t = 2 ^ j * (2 * 2 ^ (t - j - 1)) by rw [← Nat.pow_succ', ← Nat.pow_add]; congr 1; omega]
        simp only [Nat.mul_assoc]
      rw [e3, Nat.mul_div_cancel_left _ (Nat.pow_pos (by decide)), Nat.mul_mod_right]
  · have l1 := Nat.log2_self_le (show N ≠ 0 by omega)
    have l2 := @Nat.lt_log2_self N
    generalize Nat.log2 N = k at l1 l2
    have hk : k < W := by
      rcases Nat.lt_or_ge k W with h | h
      · exact h
      · have h1 := Nat.pow_le_pow_right (show 0 < 2 by decide) h
        omega
    have hp : 0 < 2 ^ k := Nat.pow_pos (by decide)
    refine ⟨k, hk, ?_, oneN_hi W k hk ?_ (fun j h1 h2 => ?_)⟩
    · show (if true = true then nI 63 - jNz64 (lN N) else _) = _
      rw [if_pos rfl, jNz64_n l1 l2 (by omega), pk_sub (by omega)]
      congr 1
      omega
    · have e1 : N / 2 ^ k = 1 := by
        rw [Nat.pow_succ] at l2
        have a1 : N / 2 ^ k < 2 := (Nat.div_lt_iff_lt_mul hp).mpr (by omega)
        have a2 : 0 < N / 2 ^ k := Nat.div_pos l1 hp
        omega
      rw [e1]
    · rw [Nat.div_eq_of_lt (Nat.lt_of_lt_of_le l2 (Nat.pow_le_pow_right (by decide) h1))]
theorem oneN_0 (zh : Bool) : ∀ n, oneN 0 zh n = -1 := by
  intro n
  induction n with
  | zero => rfl
  | succ n ih =>
    unfold oneN
    rw [if_neg (fun z => by have := z.1; rw [Nat.zero_div] at this; omega)]
    exact ih
/-- what the class's pick writes is what the model's writes -/
theorem pkW_eq (zi zh : Bool) {N : Nat} (hN : N < 65536 ^ nP zi) : pkW zi zh N = wideN (nP zi) (pkN (oneN N zh (16 * nP zi))) ∧ (if N = 0 then -1 else pkP zh N) = oneN N zh (16 * nP zi) := by
  by_cases h0 : N = 0
  · subst h0
    rw [oneN_0, if_pos rfl]
    refine ⟨?_, rfl⟩
    unfold pkW
    rw [if_pos rfl]
    cases zi <;> decide
  · have hW : 16 * nP zi = 32 ∨ 16 * nP zi = 64 := by rcases nP_or zi with e | e <;> rw [e] <;> decide
    have hM : 65536 ^ nP zi = 2 ^ (16 * nP zi) := by rw [show 65536 = 2 ^ 16 from rfl, ← Nat.pow_mul]
    obtain ⟨k, hk, e1, e2⟩ := pkP_eq hW (by omega) (hM ▸ hN) zh
    refine ⟨?_, by rw [if_neg h0, e1, e2]⟩
    have hne : ¬ nI k = -1 := fun z => by
      have e3 := nI_toInt (show k < 2 ^ 31 by omega)
      rw [z] at e3
      have e4 : (-1 : Int32).toInt = -1 := rfl
      omega
    unfold pkW pkN
    rw [if_neg h0, e1, e2, if_neg hne, nI_clamp (by omega), wb_shl _ (by omega), Nat.one_mul, tN_lN (Nat.pow_lt_pow_right (by decide) (by omega)), hM, Nat.mod_eq_of_lt (Nat.pow_lt_pow_right (by decide) hk)]

-- THE CLASS AND THE MODEL: putting and turning come to the same
theorem uN_nI {a : Nat} (h : a < 2 ^ 32) : uN (nI a) = a := by
  unfold uN
  rw [nI_ti h]
  split <;> omega
theorem i2l_w {a : Nat} (h : a < 2 ^ 32) : (nI a).toInt64 = lN (wideN 2 a) := by
  rw [i2l_sx, Nat.mod_eq_of_lt (show a < 65536 ^ 2 from h)]
theorem tN_lN {m : Nat} (h : m < 2 ^ 64) : tN (lN m) = m := lN_nat h
theorem put_tN (x y : Int32) : tN ((x.toInt64 <<< ((nI 32).toInt64 &&& 63)) ||| (y.toInt64 &&& lN 4294967295)) = uN y + 4294967296 * uN x := by
  obtain ⟨a, ha, rfl⟩ := wb_of32 x
  obtain ⟨b, hb, rfl⟩ := wb_of32 y
  rw [uN_nI ha, uN_nI hb, i2l_w ha, i2l_w hb, wb_shl _ (show 32 < 64 by decide), wb_mod]
  have e1 : wideN 2 a * 2 ^ 32 % 2 ^ 64 = a * 2 ^ 32 := by unfold wideN; split <;> omega
  have e2 : wideN 2 b % 65536 ^ 2 = b := by unfold wideN; split <;> omega
  rw [e1, land32 (wideN_lt (Or.inl rfl) hb), e2, g_or (k := 32) rfl hb (by omega), tN_lN (by omega)]
  omega
/-- the places of u turned to the left by c, as the machine makes them -/
theorem rot_ts {n u b c d : Nat} (hn : n = 2 ∨ n = 4) (hu : u < 2 ^ (16 * n)) (hc : c = b % (16 * n)) (hd : d = (16 * n - c) % (16 * n)) : (u * 2 ^ c % 2 ^ (16 * n)) ||| (u / 2 ^ d) = tsum u (tpl (16 * n) b) (16 * n) % 2 ^ (16 * n) := by
  have hw : 16 * n = 32 ∨ 16 * n = 64 := by omega
  have hin := tpl_inj (b := b) hn
  have hc2 : c < 16 * n := by rw [hc]; exact Nat.mod_lt _ (by omega)
  refine Nat.eq_of_testBit_eq (fun i => ?_)
  rw [Nat.testBit_or, Nat.testBit_mod_two_pow, Nat.testBit_mod_two_pow, ← Nat.shiftLeft_eq, ← Nat.shiftRight_eq_div_pow, Nat.testBit_shiftLeft, Nat.testBit_shiftRight]
  have hbig : ∀ j, 16 * n ≤ j → u.testBit j = false := fun j hj => Nat.testBit_lt_two_pow (Nat.lt_of_lt_of_le hu (Nat.pow_le_pow_right (by decide) hj))
  by_cases hi : i < 16 * n
  · have hk : (i + 16 * n - c) % (16 * n) < 16 * n := Nat.mod_lt _ (by omega)
    have hki : tpl (16 * n) b ((i + 16 * n - c) % (16 * n)) = i := by
      unfold tpl
      rcases hw with e | e <;> rw [e] at hc hi hc2 ⊢ <;> omega
    have hb := (tsum_bits (v := u) (f := tpl (16 * n) b) (16 * n) hin).1 _ hk
    rw [hki] at hb
    have e2 : (tsum u (tpl (16 * n) b) (16 * n)).testBit i = u.testBit ((i + 16 * n - c) % (16 * n)) := by
      rw [Nat.testBit_eq_decide_div_mod_eq, Nat.testBit_eq_decide_div_mod_eq, hb]
    rw [e2, decide_eq_true hi, Bool.true_and, Bool.true_and]
    by_cases h1 : c ≤ i
    · have ek : (i + 16 * n - c) % (16 * n) = i - c := by
        rcases hw with e | e <;> rw [e] at hi hc2 ⊢ <;> omega
      rw [ek, decide_eq_true (show i ≥ c from h1), Bool.true_and]
      by_cases h0 : c = 0
      · have hd0 : d = 0 := by rw [hd, h0, Nat.sub_zero, Nat.mod_self]
        rw [hd0, h0, Nat.zero_add, Nat.sub_zero, Bool.or_self]
      · have hd1 : d = 16 * n - c := by rw [hd, Nat.mod_eq_of_lt (by omega)]
        rw [hbig (d + i) (by omega), Bool.or_false]
    · have ek : (i + 16 * n - c) % (16 * n) = d + i := by
        have hd1 : d = 16 * n - c := by rw [hd, Nat.mod_eq_of_lt (by omega)]
        rw [hd1, Nat.mod_eq_of_lt (by omega)]
        omega
      rw [ek, decide_eq_false (show ¬ i ≥ c from h1), Bool.false_and, Bool.false_or]
  · rw [decide_eq_false hi, Bool.false_and, Bool.false_and, Bool.false_or, hbig _ (by omega)]
theorem smk {a : Nat} (h : a < 2 ^ 32) : (nI a).toInt64 &&& 63 = lN (a % 64) := by
  rw [i2l_w h, show (63 : Int64) = lN (64 - 1) from rfl, g_mask (s := 6) rfl (by decide) (wideN_lt (Or.inl rfl) h)]
  congr 1
  unfold wideN
  split <;> omega
theorem umk {a : Nat} (h : a < 2 ^ 32) : (nI a).toInt64.toUInt64 &&& Int64.toUInt64 63 = UInt64.ofNat (a % 64) := congrArg Int64.toUInt64 (smk h)
theorem nI_neg {a : Nat} (h : a < 2 ^ 32) : -(nI a) = nI ((2 ^ 32 - a) % 2 ^ 32) := by
  refine Int32.toBitVec_inj.mp ?_
  rw [Int32.toBitVec_neg]
  refine BitVec.eq_of_toNat_eq ?_
  rw [BitVec.toNat_neg]
  show (2 ^ 32 - a % 2 ^ 32) % 2 ^ 32 = (2 ^ 32 - a) % 2 ^ 32 % 2 ^ 32
  rw [Nat.mod_eq_of_lt h, Nat.mod_mod]
theorem jR64_eq {u a : Nat} (hu : u < 2 ^ 64) (ha : a < 2 ^ 32) : jR64 (lN u) (nI a) = lN ((u * 2 ^ (a % 64) % 2 ^ 64) ||| (u / 2 ^ ((64 - a % 64) % 64))) := by
  unfold jR64
  rw [nI_neg ha, smk ha, umk (Nat.mod_lt _ (by decide)), g_shl (y := lN (a % 64)) (wb_sm _ (Nat.mod_lt _ (by decide))) (Nat.mod_lt _ (by decide)) rfl hu, g_ushr rfl (Nat.mod_lt _ (by decide)) rfl hu, wb_mod, wb_or (Nat.mod_lt _ (by decide)) (Nat.lt_of_le_of_lt (Nat.div_le_self _ _) hu)]
  rw [show (2 ^ 32 - a) % 2 ^ 32 % 64 = (64 - a % 64) % 64 by omega]
theorem sm32 : ∀ k, k < 32 → (BitVec.ofNat 32 k).smod 32 = BitVec.ofNat 32 k := by decide +kernel
theorem nI_and31 (a : Nat) : nI a &&& 31 = nI (a % 32) := by
  refine Int32.toBitVec_inj.mp ?_
  rw [Int32.toBitVec_and]
  refine BitVec.eq_of_toNat_eq ?_
  rw [BitVec.toNat_and]
  show (a % 2 ^ 32) &&& 31 = a % 32 % 2 ^ 32
  rw [Nat.and_two_pow_sub_one_eq_mod _ 5]
  omega
theorem jR32_eq {u a : Nat} (hu : u < 2 ^ 32) (ha : a < 2 ^ 32) : jR32 (nI u) (nI a) = nI ((u * 2 ^ (a % 32) % 2 ^ 32) ||| (u / 2 ^ ((32 - a % 32) % 32))) := by
  have hc : a % 32 < 32 := Nat.mod_lt _ (by decide)
  have hd : (32 - a % 32) % 32 < 32 := Nat.mod_lt _ (by decide)
  have e1 : nI u <<< (nI a &&& 31) = nI (u * 2 ^ (a % 32) % 2 ^ 32) := by
    rw [nI_and31]
    refine Int32.toBitVec_inj.mp ?_
    rw [Int32.toBitVec_shiftLeft]
    have h1 : (nI (a % 32)).toBitVec.smod 32 = BitVec.ofNat 32 (a % 32) := sm32 _ hc
    rw [h1]
    refine BitVec.eq_of_toNat_eq ?_
    rw [BitVec.shiftLeft_eq', BitVec.toNat_shiftLeft, BitVec.toNat_ofNat, Nat.mod_eq_of_lt (show a % 32 < 2 ^ 32 by omega), Nat.shiftLeft_eq]
    show (u % 2 ^ 32) * 2 ^ (a % 32) % 2 ^ 32 = u * 2 ^ (a % 32) % 2 ^ 32 % 2 ^ 32
    rw [Nat.mod_eq_of_lt hu, Nat.mod_mod]
  have e2 : ((nI u).toUInt32 >>> ((-(nI a)).toUInt32 &&& Int32.toUInt32 31)).toInt32 = nI (u / 2 ^ ((32 - a % 32) % 32)) := by
    have h2 : (-(nI a)).toUInt32 &&& Int32.toUInt32 31 = UInt32.ofNat ((32 - a % 32) % 32) := by
      rw [nI_neg ha]
      have h3 := congrArg Int32.toUInt32 (nI_and31 ((2 ^ 32 - a) % 2 ^ 32))
      rw [show (2 ^ 32 - a) % 2 ^ 32 % 32 = (32 - a % 32) % 32 by omega] at h3
      exact h3
    rw [h2]
    have h4 : UInt32.ofNat u >>> UInt32.ofNat ((32 - a % 32) % 32) = UInt32.ofNat (u / 2 ^ ((32 - a % 32) % 32)) := by
      have tn : ∀ {z : Nat}, z < 2 ^ 32 → (UInt32.ofNat z).toNat = z := fun h => Nat.mod_eq_of_lt h
      refine UInt32.toNat_inj.mp ?_
      rw [UInt32.toNat_shiftRight, tn hu, tn (by omega), tn (Nat.lt_of_le_of_lt (Nat.div_le_self _ _) hu), Nat.mod_eq_of_lt hd, Nat.shiftRight_eq_div_pow]
    exact congrArg UInt32.toInt32 h4
  unfold jR32
  rw [e1, e2]
  refine Int32.toBitVec_inj.mp ?_
  rw [Int32.toBitVec_or]
  refine BitVec.eq_of_toNat_eq ?_
  rw [BitVec.toNat_or]
  have m1 : u * 2 ^ (a % 32) % 2 ^ 32 < 2 ^ 32 := Nat.mod_lt _ (by decide)
  have m2 : u / 2 ^ ((32 - a % 32) % 32) < 2 ^ 32 := Nat.lt_of_le_of_lt (Nat.div_le_self _ _) hu
  show (u * 2 ^ (a % 32) % 2 ^ 32 % 2 ^ 32) ||| (u / 2 ^ ((32 - a % 32) % 32) % 2 ^ 32) = ((u * 2 ^ (a % 32) % 2 ^ 32) ||| (u / 2 ^ ((32 - a % 32) % 32))) % 2 ^ 32
  rw [Nat.mod_eq_of_lt m1, Nat.mod_eq_of_lt m2, Nat.mod_eq_of_lt (Nat.or_lt_two_pow m1 m2)]
theorem tby_mod {n a : Nat} (hn : n = 2 ∨ n = 4) (ha : a < 2 ^ 32) : tby (16 * n) (nI a) % (16 * n) = a % (16 * n) := by
  unfold tby
  have h1 := (nI a).minValue_le_toInt
  have h2 := (nI a).toInt_lt
  have hz := nI_ti ha
  rcases hn with rfl | rfl
  · have h := rem_abs (z := (nI a).toInt) (N := 32) (Or.inl rfl) (by exact h1) (by exact h2)
    have h3 : (((16 * 2 : Nat)) : Int) = 32 := rfl
    have h4 := Int.tmod_add_mul_tdiv (nI a).toInt 32
    rw [h3]
    split at hz <;> omega
  · have h := rem_abs (z := (nI a).toInt) (N := 64) (Or.inr rfl) (by exact h1) (by exact h2)
    have h3 : (((16 * 4 : Nat)) : Int) = 64 := rfl
    have h4 := Int.tmod_add_mul_tdiv (nI a).toInt 64
    rw [h3]
    split at hz <;> omega
/-- a cell turned by the class is what the model makes of it -/
theorem tuV_eq (zi : Bool) {v : Nat} (hv : v < 65536 ^ 4) (y : Int32) : tuV zi v y = wideN (nP zi) (tsum (v % 65536 ^ nP zi) (tpl (16 * nP zi) (tby (16 * nP zi) y)) (16 * nP zi) % 65536 ^ nP zi) := by
  obtain ⟨a, ha, rfl⟩ := wb_of32 y
  cases zi
  · show tN (jR64 (lN v) (nI a)) = wideN 4 (tsum (v % 65536 ^ 4) (tpl 64 (tby 64 (nI a))) 64 % 65536 ^ 4)
    have hb := tby_mod (n := 4) (Or.inr rfl) ha
    have hr := rot_ts (n := 4) (u := v) (b := tby 64 (nI a)) (c := a % 64) (d := (64 - a % 64) % 64) (Or.inr rfl) hv hb.symm rfl
    have hm := Nat.mod_lt (tsum v (tpl 64 (tby 64 (nI a))) 64) (show 65536 ^ 4 > 0 by decide)
    rw [Nat.mod_eq_of_lt hv, wideN_4 hm, jR64_eq hv ha]
    have hr : (v * 2 ^ (a % 64) % 2 ^ 64) ||| (v / 2 ^ ((64 - a % 64) % 64)) = tsum v (tpl 64 (tby 64 (nI a))) 64 % 65536 ^ 4 := hr
    rw [hr, tN_lN hm]
  · show tN ((jR32 (nI v) (nI a)).toInt64) = wideN 2 (tsum (v % 65536 ^ 2) (tpl 32 (tby 32 (nI a))) 32 % 65536 ^ 2)
    have hu : v % 65536 ^ 2 < 2 ^ 32 := Nat.mod_lt _ (by decide)
    have hb := tby_mod (n := 2) (Or.inl rfl) ha
    have hr := rot_ts (n := 2) (u := v % 65536 ^ 2) (b := tby 32 (nI a)) (c := a % 32) (d := (32 - a % 32) % 32) (Or.inl rfl) hu hb.symm rfl
    have hm := Nat.mod_lt (tsum (v % 65536 ^ 2) (tpl 32 (tby 32 (nI a))) 32) (show 65536 ^ 2 > 0 by decide)
    have hr : ((v % 65536 ^ 2) * 2 ^ (a % 32) % 2 ^ 32) ||| ((v % 65536 ^ 2) / 2 ^ ((32 - a % 32) % 32)) = tsum (v % 65536 ^ 2) (tpl 32 (tby 32 (nI a))) 32 % 65536 ^ 2 := hr
    rw [show nI v = nI (v % 65536 ^ 2) from (nI_mod v).symm, jR32_eq hu ha, hr, i2l_w hm, tN_lN (wideN_lt (Or.inl rfl) hm)]

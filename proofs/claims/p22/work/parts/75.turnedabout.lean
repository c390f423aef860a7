-- THE CLASS AND THE MODEL: turning about comes to the same
/-- what takes the places one by one -/
def Lnh (F : Int64 → Int64) : Prop := ∀ x y, F (x ||| y) = F x ||| F y
theorem or4h (a b c d : Int64) : (a ||| b) ||| (c ||| d) = (a ||| c) ||| (b ||| d) := by
  rw [Int64.or_assoc, Int64.or_assoc, ← Int64.or_assoc b, Int64.or_comm b c, Int64.or_assoc c]
theorem Lnh.id : Lnh (fun x => x) := fun _ _ => rfl
theorem Lnh.or {F G : Int64 → Int64} (hF : Lnh F) (hG : Lnh G) : Lnh (fun x => F x ||| G x) := fun x y => by
  show F (x ||| y) ||| G (x ||| y) = (F x ||| G x) ||| (F y ||| G y)
  rw [hF x y, hG x y, or4h]
theorem Lnh.and {F : Int64 → Int64} (hF : Lnh F) (c : Int64) : Lnh (fun x => F x &&& c) := fun x y => by
  show F (x ||| y) &&& c = (F x &&& c) ||| (F y &&& c)
  rw [hF x y]
  refine Int64.toBitVec_inj.mp ?_
  rw [Int64.toBitVec_and, Int64.toBitVec_or, Int64.toBitVec_or, Int64.toBitVec_and, Int64.toBitVec_and]
  refine BitVec.eq_of_getLsbD_eq (fun i hi => ?_)
  rw [BitVec.getLsbD_and, BitVec.getLsbD_or, BitVec.getLsbD_or, BitVec.getLsbD_and, BitVec.getLsbD_and, Bool.and_or_distrib_right]
theorem Lnh.shl {F : Int64 → Int64} (hF : Lnh F) (c : Int64) : Lnh (fun x => F x <<< c) := fun x y => by
  show F (x ||| y) <<< c = (F x <<< c) ||| (F y <<< c)
  rw [hF x y]
  refine Int64.toBitVec_inj.mp ?_
  rw [Int64.toBitVec_shiftLeft, Int64.toBitVec_or, Int64.toBitVec_or, Int64.toBitVec_shiftLeft, Int64.toBitVec_shiftLeft, BitVec.shiftLeft_eq', BitVec.shiftLeft_eq', BitVec.shiftLeft_eq', BitVec.shiftLeft_or_distrib]
theorem Lnh.ushr {F : Int64 → Int64} (hF : Lnh F) (c : UInt64) : Lnh (fun x => ((F x).toUInt64 >>> c).toInt64) := fun x y => by
  show ((F (x ||| y)).toUInt64 >>> c).toInt64 = ((F x).toUInt64 >>> c).toInt64 ||| ((F y).toUInt64 >>> c).toInt64
  rw [hF x y]
  have h : ((F x).toUInt64 ||| (F y).toUInt64) >>> c = ((F x).toUInt64 >>> c) ||| ((F y).toUInt64 >>> c) := by
    refine UInt64.toNat_inj.mp ?_
    rw [UInt64.toNat_shiftRight, UInt64.toNat_or, UInt64.toNat_or, UInt64.toNat_shiftRight, UInt64.toNat_shiftRight, Nat.shiftRight_or_distrib]
  exact congrArg UInt64.toInt64 h
theorem Lnh.comp {F G : Int64 → Int64} (hF : Lnh F) (hG : Lnh G) : Lnh (fun x => F (G x)) := fun x y => by
  show F (G (x ||| y)) = F (G x) ||| F (G y)
  rw [hG x y, hF]
def tnh (v : Int64) : Nat := v.toBitVec.toNat
theorem tnh_or (x y : Int64) : tnh (x ||| y) = tnh x ||| tnh y := by unfold tnh; rw [Int64.toBitVec_or, BitVec.toNat_or]
theorem tnh_l {m : Nat} (h : m < 2 ^ 64) : tnh (lN m) = m := by
  show m % 2 ^ 64 = m
  exact Nat.mod_eq_of_lt h
theorem lh_or {a k : Nat} (hk : k < 64) (ha : a < 2 ^ k) : lN (a + 2 ^ k) = lN a ||| lN (2 ^ k) := by
  have hp : 2 ^ k < 2 ^ 64 := Nat.pow_lt_pow_right (by decide) hk
  have hs : 2 ^ (k + 1) ≤ 2 ^ 64 := Nat.pow_le_pow_right (by decide) hk
  rw [Nat.pow_succ] at hs
  refine Int64.toBitVec_inj.mp ?_
  rw [Int64.toBitVec_or]
  refine BitVec.eq_of_toNat_eq ?_
  rw [BitVec.toNat_or]
  show (a + 2 ^ k) % 2 ^ 64 = (a % 2 ^ 64) ||| (2 ^ k % 2 ^ 64)
  rw [Nat.mod_eq_of_lt (by omega), Nat.mod_eq_of_lt (by omega), Nat.mod_eq_of_lt hp]
  have h := Nat.two_pow_add_eq_or_of_lt ha 1
  rw [Nat.mul_one] at h
  rw [Nat.add_comm, h, Nat.or_comm]
/-- such a map is the sum of its places -/
theorem linh {F : Int64 → Int64} (hF : Lnh F) (h0 : F (lN 0) = lN 0) {f : Nat → Nat} (hk : ∀ k, k < 64 → F (lN (2 ^ k)) = lN (2 ^ f k)) (hlt : ∀ k, k < 64 → f k < 64) (hff : ∀ k, k < 64 → f (f k) = k) {v : Nat} (hv : v < 2 ^ 64) : F (lN v) = lN (tsum v f 64 % 2 ^ 64) := by
  have hin : ∀ a b, a < 64 → b < 64 → f a = f b → a = b := fun a b ha hb e => by rw [← hff a ha, ← hff b hb, e]
  have C : ∀ j, j ≤ 64 → ∀ k, k < 64 → (tnh (F (lN (v % 2 ^ j)))).testBit (f k) = (decide (k < j) && v.testBit k) := by
    intro j
    induction j with
    | zero =>
      intro _ k _
      rw [Nat.pow_zero, Nat.mod_one, h0, tnh_l (by decide), Nat.zero_testBit, decide_eq_false (Nat.not_lt_zero _), Bool.false_and]
    | succ j ih =>
      intro hj k hkn
      have i9 := ih (by omega) k hkn
      have hb : v.testBit j = decide (v / 2 ^ j % 2 = 1) := Nat.testBit_eq_decide_div_mod_eq
      rw [Nat.mod_pow_succ]
      rcases Nat.mod_two_eq_zero_or_one (v / 2 ^ j) with e | e
      · rw [e, Nat.mul_zero, Nat.add_zero, i9]
        by_cases ek : k = j
        · rw [ek, hb, e, decide_eq_false (Nat.lt_irrefl _)]
          simp
        · rw [decide_eq_decide.mpr (show k < j ↔ k < j + 1 by omega)]
      · rw [e, Nat.mul_one, lh_or (by omega) (Nat.mod_lt _ (Nat.pow_pos (by decide))), hF, hk j (by omega), tnh_or, Nat.testBit_or, i9, tnh_l (Nat.pow_lt_pow_right (by decide) (hlt j (by omega))), Nat.testBit_two_pow]
        by_cases ek : k = j
        · rw [ek, hb, e, decide_eq_true (rfl : f j = f j), decide_eq_true (Nat.lt_succ_self j), Bool.or_true]
          rfl
        · rw [decide_eq_false (fun z : f j = f k => ek (hin k j hkn (by omega) z.symm)), Bool.or_false, decide_eq_decide.mpr (show k < j ↔ k < j + 1 by omega)]
  have C9 := C 64 (Nat.le_refl _)
  rw [Nat.mod_eq_of_lt hv] at C9
  have key : tnh (F (lN v)) = tsum v f 64 % 2 ^ 64 := by
    refine Nat.eq_of_testBit_eq (fun i => ?_)
    rw [Nat.testBit_mod_two_pow]
    by_cases hi : i < 64
    · have hb := (tsum_bits (v := v) (f := f) 64 hin).1 (f i) (hlt i hi)
      have c := C9 (f i) (hlt i hi)
      rw [hff i hi] at hb c
      rw [c, decide_eq_true (hlt i hi), decide_eq_true hi, Bool.true_and, Bool.true_and, Nat.testBit_eq_decide_div_mod_eq, Nat.testBit_eq_decide_div_mod_eq, hb]
    · rw [decide_eq_false hi, Bool.false_and]
      exact Nat.testBit_lt_two_pow (Nat.lt_of_lt_of_le (F (lN v)).toBitVec.isLt (Nat.pow_le_pow_right (by decide) (by omega)))
  have e9 : F (lN v) = lN (tnh (F (lN v))) := by
    refine Int64.toBitVec_inj.mp ?_
    exact (BitVec.ofNat_toNat 64 (F (lN v)).toBitVec ▸ (BitVec.setWidth_eq _).symm : _)
  rw [e9, key]
/-- what takes the places one by one -/
def Lni (F : Int32 → Int32) : Prop := ∀ x y, F (x ||| y) = F x ||| F y
theorem or4i (a b c d : Int32) : (a ||| b) ||| (c ||| d) = (a ||| c) ||| (b ||| d) := by
  rw [Int32.or_assoc, Int32.or_assoc, ← Int32.or_assoc b, Int32.or_comm b c, Int32.or_assoc c]
theorem Lni.id : Lni (fun x => x) := fun _ _ => rfl
theorem Lni.or {F G : Int32 → Int32} (hF : Lni F) (hG : Lni G) : Lni (fun x => F x ||| G x) := fun x y => by
  show F (x ||| y) ||| G (x ||| y) = (F x ||| G x) ||| (F y ||| G y)
  rw [hF x y, hG x y, or4i]
theorem Lni.and {F : Int32 → Int32} (hF : Lni F) (c : Int32) : Lni (fun x => F x &&& c) := fun x y => by
  show F (x ||| y) &&& c = (F x &&& c) ||| (F y &&& c)
  rw [hF x y]
  refine Int32.toBitVec_inj.mp ?_
  rw [Int32.toBitVec_and, Int32.toBitVec_or, Int32.toBitVec_or, Int32.toBitVec_and, Int32.toBitVec_and]
  refine BitVec.eq_of_getLsbD_eq (fun i hi => ?_)
  rw [BitVec.getLsbD_and, BitVec.getLsbD_or, BitVec.getLsbD_or, BitVec.getLsbD_and, BitVec.getLsbD_and, Bool.and_or_distrib_right]
theorem Lni.shl {F : Int32 → Int32} (hF : Lni F) (c : Int32) : Lni (fun x => F x <<< c) := fun x y => by
  show F (x ||| y) <<< c = (F x <<< c) ||| (F y <<< c)
  rw [hF x y]
  refine Int32.toBitVec_inj.mp ?_
  rw [Int32.toBitVec_shiftLeft, Int32.toBitVec_or, Int32.toBitVec_or, Int32.toBitVec_shiftLeft, Int32.toBitVec_shiftLeft, BitVec.shiftLeft_eq', BitVec.shiftLeft_eq', BitVec.shiftLeft_eq', BitVec.shiftLeft_or_distrib]
theorem Lni.ushr {F : Int32 → Int32} (hF : Lni F) (c : UInt32) : Lni (fun x => ((F x).toUInt32 >>> c).toInt32) := fun x y => by
  show ((F (x ||| y)).toUInt32 >>> c).toInt32 = ((F x).toUInt32 >>> c).toInt32 ||| ((F y).toUInt32 >>> c).toInt32
  rw [hF x y]
  have h : ((F x).toUInt32 ||| (F y).toUInt32) >>> c = ((F x).toUInt32 >>> c) ||| ((F y).toUInt32 >>> c) := by
    refine UInt32.toNat_inj.mp ?_
    rw [UInt32.toNat_shiftRight, UInt32.toNat_or, UInt32.toNat_or, UInt32.toNat_shiftRight, UInt32.toNat_shiftRight, Nat.shiftRight_or_distrib]
  exact congrArg UInt32.toInt32 h
theorem Lni.comp {F G : Int32 → Int32} (hF : Lni F) (hG : Lni G) : Lni (fun x => F (G x)) := fun x y => by
  show F (G (x ||| y)) = F (G x) ||| F (G y)
  rw [hG x y, hF]
def tni (v : Int32) : Nat := v.toBitVec.toNat
theorem tni_or (x y : Int32) : tni (x ||| y) = tni x ||| tni y := by unfold tni; rw [Int32.toBitVec_or, BitVec.toNat_or]
theorem tni_l {m : Nat} (h : m < 2 ^ 32) : tni (nI m) = m := by
  show m % 2 ^ 32 = m
  exact Nat.mod_eq_of_lt h
theorem li_or {a k : Nat} (hk : k < 32) (ha : a < 2 ^ k) : nI (a + 2 ^ k) = nI a ||| nI (2 ^ k) := by
  have hp : 2 ^ k < 2 ^ 32 := Nat.pow_lt_pow_right (by decide) hk
  have hs : 2 ^ (k + 1) ≤ 2 ^ 32 := Nat.pow_le_pow_right (by decide) hk
  rw [Nat.pow_succ] at hs
  refine Int32.toBitVec_inj.mp ?_
  rw [Int32.toBitVec_or]
  refine BitVec.eq_of_toNat_eq ?_
  rw [BitVec.toNat_or]
  show (a + 2 ^ k) % 2 ^ 32 = (a % 2 ^ 32) ||| (2 ^ k % 2 ^ 32)
  rw [Nat.mod_eq_of_lt (by omega), Nat.mod_eq_of_lt (by omega), Nat.mod_eq_of_lt hp]
  have h := Nat.two_pow_add_eq_or_of_lt ha 1
  rw [Nat.mul_one] at h
  rw [Nat.add_comm, h, Nat.or_comm]
/-- such a map is the sum of its places -/
theorem lini {F : Int32 → Int32} (hF : Lni F) (h0 : F (nI 0) = nI 0) {f : Nat → Nat} (hk : ∀ k, k < 32 → F (nI (2 ^ k)) = nI (2 ^ f k)) (hlt : ∀ k, k < 32 → f k < 32) (hff : ∀ k, k < 32 → f (f k) = k) {v : Nat} (hv : v < 2 ^ 32) : F (nI v) = nI (tsum v f 32 % 2 ^ 32) := by
  have hin : ∀ a b, a < 32 → b < 32 → f a = f b → a = b := fun a b ha hb e => by rw [← hff a ha, ← hff b hb, e]
  have C : ∀ j, j ≤ 32 → ∀ k, k < 32 → (tni (F (nI (v % 2 ^ j)))).testBit (f k) = (decide (k < j) && v.testBit k) := by
    intro j
    induction j with
    | zero =>
      intro _ k _
      rw [Nat.pow_zero, Nat.mod_one, h0, tni_l (by decide), Nat.zero_testBit, decide_eq_false (Nat.not_lt_zero _), Bool.false_and]
    | succ j ih =>
      intro hj k hkn
      have i9 := ih (by omega) k hkn
      have hb : v.testBit j = decide (v / 2 ^ j % 2 = 1) := Nat.testBit_eq_decide_div_mod_eq
      rw [Nat.mod_pow_succ]
      rcases Nat.mod_two_eq_zero_or_one (v / 2 ^ j) with e | e
      · rw [e, Nat.mul_zero, Nat.add_zero, i9]
        by_cases ek : k = j
        · rw [ek, hb, e, decide_eq_false (Nat.lt_irrefl _)]
          simp
        · rw [decide_eq_decide.mpr (show k < j ↔ k < j + 1 by omega)]
      · rw [e, Nat.mul_one, li_or (by omega) (Nat.mod_lt _ (Nat.pow_pos (by decide))), hF, hk j (by omega), tni_or, Nat.testBit_or, i9, tni_l (Nat.pow_lt_pow_right (by decide) (hlt j (by omega))), Nat.testBit_two_pow]
        by_cases ek : k = j
        · rw [ek, hb, e, decide_eq_true (rfl : f j = f j), decide_eq_true (Nat.lt_succ_self j), Bool.or_true]
          rfl
        · rw [decide_eq_false (fun z : f j = f k => ek (hin k j hkn (by omega) z.symm)), Bool.or_false, decide_eq_decide.mpr (show k < j ↔ k < j + 1 by omega)]
  have C9 := C 32 (Nat.le_refl _)
  rw [Nat.mod_eq_of_lt hv] at C9
  have key : tni (F (nI v)) = tsum v f 32 % 2 ^ 32 := by
    refine Nat.eq_of_testBit_eq (fun i => ?_)
    rw [Nat.testBit_mod_two_pow]
    by_cases hi : i < 32
    · have hb := (tsum_bits (v := v) (f := f) 32 hin).1 (f i) (hlt i hi)
      have c := C9 (f i) (hlt i hi)
      rw [hff i hi] at hb c
      rw [c, decide_eq_true (hlt i hi), decide_eq_true hi, Bool.true_and, Bool.true_and, Nat.testBit_eq_decide_div_mod_eq, Nat.testBit_eq_decide_div_mod_eq, hb]
    · rw [decide_eq_false hi, Bool.false_and]
      exact Nat.testBit_lt_two_pow (Nat.lt_of_lt_of_le (F (nI v)).toBitVec.isLt (Nat.pow_le_pow_right (by decide) (by omega)))
  have e9 : F (nI v) = nI (tni (F (nI v))) := by
    refine Int32.toBitVec_inj.mp ?_
    exact (BitVec.ofNat_toNat 32 (F (nI v)).toBitVec ▸ (BitVec.setWidth_eq _).symm : _)
  rw [e9, key]
theorem jB32_L : Lni jB32 := by
  show Lni (fun x => (((x <<< ((nI 24) &&& 31)) ||| ((x &&& (nI 65280)) <<< ((nI 8) &&& 31))) ||| (((x.toUInt32 >>> ((nI 8).toUInt32 &&& Int32.toUInt32 31)).toInt32) &&& (nI 65280))) ||| ((x.toUInt32 >>> ((nI 24).toUInt32 &&& Int32.toUInt32 31)).toInt32))
  repeat' first | with_reducible exact Lni.id | with_reducible apply Lni.or | with_reducible apply Lni.and | with_reducible apply Lni.shl | with_reducible apply Lni.ushr
theorem jB32r0_L : Lni jB32r0 := by
  show Lni (fun x => ((x &&& (nI 1431655765)) <<< ((nI 1) &&& 31)) ||| (((x.toUInt32 >>> ((nI 1).toUInt32 &&& Int32.toUInt32 31)).toInt32) &&& (nI 1431655765)))
  repeat' first | with_reducible exact Lni.id | with_reducible apply Lni.or | with_reducible apply Lni.and | with_reducible apply Lni.shl | with_reducible apply Lni.ushr
theorem jB32r1_L : Lni jB32r1 := by
  show Lni (fun x => ((x &&& (nI 858993459)) <<< ((nI 2) &&& 31)) ||| (((x.toUInt32 >>> ((nI 2).toUInt32 &&& Int32.toUInt32 31)).toInt32) &&& (nI 858993459)))
  repeat' first | with_reducible exact Lni.id | with_reducible apply Lni.or | with_reducible apply Lni.and | with_reducible apply Lni.shl | with_reducible apply Lni.ushr
theorem jB32r2_L : Lni jB32r2 := by
  show Lni (fun x => ((x &&& (nI 252645135)) <<< ((nI 4) &&& 31)) ||| (((x.toUInt32 >>> ((nI 4).toUInt32 &&& Int32.toUInt32 31)).toInt32) &&& (nI 252645135)))
  repeat' first | with_reducible exact Lni.id | with_reducible apply Lni.or | with_reducible apply Lni.and | with_reducible apply Lni.shl | with_reducible apply Lni.ushr
theorem jB32v_L : Lni jB32v := by
  have h1 := Lni.comp (F := jB32r1) (G := jB32r0) jB32r1_L jB32r0_L
  have h2 := Lni.comp (F := jB32r2) (G := fun x => jB32r1 (jB32r0 x)) jB32r2_L h1
  exact Lni.comp (F := jB32) (G := fun x => jB32r2 (jB32r1 (jB32r0 x))) jB32_L h2
theorem jB640_L : Lnh jB640 := by
  show Lnh (fun x => ((x &&& (lN 71777214294589695)) <<< ((nI 8).toInt64 &&& 63)) ||| (((x.toUInt64 >>> ((nI 8).toInt64.toUInt64 &&& Int64.toUInt64 63)).toInt64) &&& (lN 71777214294589695)))
  repeat' first | with_reducible exact Lnh.id | with_reducible apply Lnh.or | with_reducible apply Lnh.and | with_reducible apply Lnh.shl | with_reducible apply Lnh.ushr
theorem jB64_L : Lnh jB64 := by
  have h : Lnh (fun x => (((x <<< ((nI 48).toInt64 &&& 63)) ||| ((x &&& (lN 4294901760)) <<< ((nI 16).toInt64 &&& 63))) ||| (((x.toUInt64 >>> ((nI 16).toInt64.toUInt64 &&& Int64.toUInt64 63)).toInt64) &&& (lN 4294901760))) ||| ((x.toUInt64 >>> ((nI 48).toInt64.toUInt64 &&& Int64.toUInt64 63)).toInt64)) := by
    repeat' first | with_reducible exact Lnh.id | with_reducible apply Lnh.or | with_reducible apply Lnh.and | with_reducible apply Lnh.shl | with_reducible apply Lnh.ushr
  exact Lnh.comp (F := (fun x => (((x <<< ((nI 48).toInt64 &&& 63)) ||| ((x &&& (lN 4294901760)) <<< ((nI 16).toInt64 &&& 63))) ||| (((x.toUInt64 >>> ((nI 16).toInt64.toUInt64 &&& Int64.toUInt64 63)).toInt64) &&& (lN 4294901760))) ||| ((x.toUInt64 >>> ((nI 48).toInt64.toUInt64 &&& Int64.toUInt64 63)).toInt64))) (G := jB640) h jB640_L
theorem jB64r0_L : Lnh jB64r0 := by
  show Lnh (fun x => ((x &&& (lN 6148914691236517205)) <<< ((nI 1).toInt64 &&& 63)) ||| (((x.toUInt64 >>> ((nI 1).toInt64.toUInt64 &&& Int64.toUInt64 63)).toInt64) &&& (lN 6148914691236517205)))
  repeat' first | with_reducible exact Lnh.id | with_reducible apply Lnh.or | with_reducible apply Lnh.and | with_reducible apply Lnh.shl | with_reducible apply Lnh.ushr
theorem jB64r1_L : Lnh jB64r1 := by
  show Lnh (fun x => ((x &&& (lN 3689348814741910323)) <<< ((nI 2).toInt64 &&& 63)) ||| (((x.toUInt64 >>> ((nI 2).toInt64.toUInt64 &&& Int64.toUInt64 63)).toInt64) &&& (lN 3689348814741910323)))
  repeat' first | with_reducible exact Lnh.id | with_reducible apply Lnh.or | with_reducible apply Lnh.and | with_reducible apply Lnh.shl | with_reducible apply Lnh.ushr
theorem jB64r2_L : Lnh jB64r2 := by
  show Lnh (fun x => ((x &&& (lN 1085102592571150095)) <<< ((nI 4).toInt64 &&& 63)) ||| (((x.toUInt64 >>> ((nI 4).toInt64.toUInt64 &&& Int64.toUInt64 63)).toInt64) &&& (lN 1085102592571150095)))
  repeat' first | with_reducible exact Lnh.id | with_reducible apply Lnh.or | with_reducible apply Lnh.and | with_reducible apply Lnh.shl | with_reducible apply Lnh.ushr
theorem jB64v_L : Lnh jB64v := by
  have h1 := Lnh.comp (F := jB64r1) (G := jB64r0) jB64r1_L jB64r0_L
  have h2 := Lnh.comp (F := jB64r2) (G := fun x => jB64r1 (jB64r0 x)) jB64r2_L h1
  exact Lnh.comp (F := jB64) (G := fun x => jB64r2 (jB64r1 (jB64r0 x))) jB64_L h2
theorem jB64_eq {v : Nat} (hv : v < 2 ^ 64) : jB64 (lN v) = lN (tsum v (bpl 64 true) 64 % 2 ^ 64) :=
  linh jB64_L (by decide +kernel) (f := bpl 64 true) (by decide +kernel) (by decide +kernel) (by decide +kernel) hv
theorem jB64v_eq {v : Nat} (hv : v < 2 ^ 64) : jB64v (lN v) = lN (tsum v (bpl 64 false) 64 % 2 ^ 64) :=
  linh jB64v_L (by decide +kernel) (f := bpl 64 false) (by decide +kernel) (by decide +kernel) (by decide +kernel) hv
theorem jB32_eq {v : Nat} (hv : v < 2 ^ 32) : jB32 (nI v) = nI (tsum v (bpl 32 true) 32 % 2 ^ 32) :=
  lini jB32_L (by decide +kernel) (f := bpl 32 true) (by decide +kernel) (by decide +kernel) (by decide +kernel) hv
theorem jB32v_eq {v : Nat} (hv : v < 2 ^ 32) : jB32v (nI v) = nI (tsum v (bpl 32 false) 32 % 2 ^ 32) :=
  lini jB32v_L (by decide +kernel) (f := bpl 32 false) (by decide +kernel) (by decide +kernel) (by decide +kernel) hv
/-- a cell turned about by the class is what the model makes of it -/
theorem abV_eq (zb zi : Bool) {v : Nat} (hv : v < 65536 ^ 4) : abV zb zi v = wideN (nP zi) (tsum (v % 65536 ^ nP zi) (bpl (16 * nP zi) zb) (16 * nP zi) % 65536 ^ nP zi) := by
  cases zi
  · show tN (if zb = true then jB64 (lN v) else jB64v (lN v)) = wideN 4 (tsum (v % 65536 ^ 4) (bpl 64 zb) 64 % 65536 ^ 4)
    rw [Nat.mod_eq_of_lt hv]
    have hm := Nat.mod_lt (tsum v (bpl 64 zb) 64) (show 65536 ^ 4 > 0 by decide)
    rw [wideN_4 hm]
    cases zb
    · exact (congrArg tN (jB64v_eq hv)).trans (tN_lN hm)
    · exact (congrArg tN (jB64_eq hv)).trans (tN_lN hm)
  · show tN ((if zb = true then jB32 (nI v) else jB32v (nI v)).toInt64) = wideN 2 (tsum (v % 65536 ^ 2) (bpl 32 zb) 32 % 65536 ^ 2)
    have hu : v % 65536 ^ 2 < 2 ^ 32 := Nat.mod_lt _ (by decide)
    have hm := Nat.mod_lt (tsum (v % 65536 ^ 2) (bpl 32 zb) 32) (show 65536 ^ 2 > 0 by decide)
    rw [show nI v = nI (v % 65536 ^ 2) from (nI_mod v).symm]
    cases zb
    · exact (congrArg (fun z : Int32 => tN z.toInt64) (jB32v_eq hu)).trans ((congrArg tN (i2l_w hm)).trans (tN_lN (wideN_lt (Or.inl rfl) hm)))
    · exact (congrArg (fun z : Int32 => tN z.toInt64) (jB32_eq hu)).trans ((congrArg tN (i2l_w hm)).trans (tN_lN (wideN_lt (Or.inl rfl) hm)))

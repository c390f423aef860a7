-- the reference's further small ones
theorem nI_mod (n : Nat) : nI (n % 4294967296) = nI n := by
  refine Int32.toBitVec_inj.mp ?_
  show BitVec.ofNat 32 (n % 4294967296) = BitVec.ofNat 32 n
  apply BitVec.eq_of_toNat_eq
  rw [BitVec.toNat_ofNat, BitVec.toNat_ofNat]
  exact Nat.mod_mod n (2 ^ 32)
theorem nI_sub16 (h : Nat) : nI h - nI 65536 = nI (h + 4294901760) := by
  rw [Int32.sub_eq_add_neg, ← nI_add]
  rfl
theorem half_num (h l9 : Nat) : nI ((h + 4294901760) * 65536 + l9) = nI (h * 65536 + l9) := by
  rw [← nI_mod, ← nI_mod (h * 65536 + l9)]
  refine congrArg nI ?_
  omega
theorem half_dig (v f9 : Nat) : v / 65536 ^ (f9 + 1) % 65536 * 65536 + v / 65536 ^ f9 % 65536 = v / 65536 ^ f9 % 4294967296 := by
  rw [Nat.pow_succ, ← Nat.div_div_eq_div_mul]
  omega
/-- how many of the first k bits are 1 -/
def pcN (v : Nat) : Nat → Nat
  | 0 => 0
  | k + 1 => pcN v k + v / 2 ^ k % 2
theorem pcN_le (v : Nat) : ∀ k, pcN v k ≤ k
  | 0 => Nat.le_refl 0
  | k + 1 => by
    have h := pcN_le v k
    have h2 := Nat.mod_lt (v / 2 ^ k) (show 0 < 2 by decide)
    show pcN v k + v / 2 ^ k % 2 ≤ k + 1
    omega
/-- the place of the highest 1 of the first k bits (or of the lowest), -1 -/
def oneN (v : Nat) (hi : Bool) : Nat → Int32
  | 0 => (-1)
  | k + 1 => if v / 2 ^ k % 2 = 1 ∧ (hi = true ∨ oneN v hi k = (-1)) then nI k else oneN v hi k
/-- a number of n parts as one of four: what is missing is as the first bit -/
def wideN (n v : Nat) : Nat := if 65536 ^ n ≤ 2 * v then v + (65536 ^ 4 - 65536 ^ n) else v
theorem wide_lo {n v k : Nat} (hn : n = 2 ∨ n = 4) (hv : v < 65536 ^ n) (hk : k < n) : rw16 v k = rw16 (wideN n v) k := by
  unfold wideN rw16
  split
  · refine congrArg nI ?_
    rcases hn with rfl | rfl
    · rcases (show k = 0 ∨ k = 1 by omega) with rfl | rfl <;> omega
    · rw [Nat.sub_self, Nat.add_zero]
  · rfl
theorem wide_hi {n v k : Nat} (hn : n = 2 ∨ n = 4) (hv : v < 65536 ^ n) (hk : n ≤ k) (hk4 : k < 4) : (if 65536 ^ n ≤ 2 * v then nI 65535 else nI 0) = rw16 (wideN n v) k := by
  rcases hn with rfl | rfl
  · unfold wideN rw16
    split
    · refine congrArg nI ?_
      rcases (show k = 2 ∨ k = 3 by omega) with rfl | rfl <;> omega
    · refine congrArg nI ?_
      rcases (show k = 2 ∨ k = 3 by omega) with rfl | rfl <;> omega
  · omega
section M13
variable {p : Program} {l : Launch} {e : Env} {s : State} {m : MethodId} {args : Array Value} {below : List Frame} {meth : Method} {c : Code} {H H0 : Heap} {locs : List Loc} {cells slots : Nat} {Q : State → Prop} {A : Nat → Prop} {g : Gx}
abbrev rmX4_isRight : Room := { frames := 1, cells := 0, slots := 0, locals := 22 }
set_option maxHeartbeats 4000000 in
set_option maxRecDepth 100000 in
/-- isRight(radix, kind) -/
theorem c_isRight (l : Launch) (g : Gx) (H0 : Heap) (x y : Int32) : Met l yX4_isRight wsX4_isRight rmX4_isRight (va_Pc [.int x, .int y] (hB g H0)) (pQ (some (.int (bI (decide ((nI 2 ≤ x ∧ x ≤ nI 36) ∧ (nI 0 ≤ y ∧ y ≤ nI 3)))))) H0) 0 0 (fun q => H0.size ≤ q) := by
  refine cx_met (own := RX4) (cc := cX4_isRight) (maxL := 2) (by decide) rfl rfl (Nat.le_of_ble_eq_true rfl) ?_
  intro p e s m below meth c ls C0 hB0 hnm hl
  obtain ⟨hH, hK⟩ := hB0
  obtain ⟨hx, hb, hr, hml, hown, hts, hlk⟩ := id C0
  subst hH
  have hS : va_S (fun q => s.heap.size ≤ q) s.heap s.heap [] := va_S.rf
  have hA : ∀ q : Nat, s.heap.size ≤ q → s.heap.size ≤ q := fun q h => h
  have hl : lv_has ls 2 [(0, .int x), (1, .int y)] := hl
  refine lv_iload_n hx hb dX4_isRight_0 rfl (lv_at hl 0 rfl) ?_
  refine lv_iconst (v := nI 2) hx hb dX4_isRight_1 (by decide) ?_
  refine lv_bipush (v := nI 36) hx hb dX4_isRight_2 (by decide) ?_
  refine cp_S (As := [.int x, .int (nI 2), .int (nI 36)]) (rest := []) C0 hl hK hS hA (c_is l g s.heap x (nI 2) (nI 36)) gX4_isRight_X4_is rfl ⟨rfl, rfl⟩ (show hd_ok yX4_is 3 from ⟨by decide, by decide, by decide +kernel⟩) ⟨Nat.le_of_ble_eq_true rfl, Nat.le_of_ble_eq_true rfl⟩ rfl (Nat.le_of_ble_eq_true rfl) ⟨Nat.zero_le _, Nat.zero_le _⟩ dX4_isRight_4 (fun locs hS => ?_)
  refine lv_if_eq (tgt := 23) hx hb dX4_isRight_7 (by decide) (fun h1 => ?_) (fun h1 => ?_)
  · skip
    refine lv_iconst (v := nI 0) hx hb dX4_isRight_23 (by decide) ?_
    exact rt_z C0 (bI_f (decide_eq_false (fun h => absurd h.1 (of_decide_eq_false (bI_0 h1))))).symm z0 hS rfl dX4_isRight_24
  · skip
    refine lv_iload_n hx hb dX4_isRight_10 rfl (lv_at hl 1 rfl) ?_
    refine lv_iconst (v := nI 0) hx hb dX4_isRight_11 (by decide) ?_
    refine lv_iconst (v := nI 3) hx hb dX4_isRight_12 (by decide) ?_
    refine cp_S (As := [.int y, .int (nI 0), .int (nI 3)]) (rest := []) C0 hl hK hS hA (c_is l g s.heap y (nI 0) (nI 3)) gX4_isRight_X4_is rfl ⟨rfl, rfl⟩ (show hd_ok yX4_is 3 from ⟨by decide, by decide, by decide +kernel⟩) ⟨Nat.le_of_ble_eq_true rfl, Nat.le_of_ble_eq_true rfl⟩ rfl (Nat.le_of_ble_eq_true rfl) ⟨Nat.zero_le _, Nat.zero_le _⟩ dX4_isRight_13 (fun locs hS => ?_)
    refine lv_if_eq (tgt := 23) hx hb dX4_isRight_16 (by decide) (fun h2 => ?_) (fun h2 => ?_)
    · skip
      refine lv_iconst (v := nI 0) hx hb dX4_isRight_23 (by decide) ?_
      exact rt_z C0 (bI_f (decide_eq_false (fun h => absurd h.2 (of_decide_eq_false (bI_0 h2))))).symm z0 hS rfl dX4_isRight_24
    · skip
      refine lv_iconst (v := nI 1) hx hb dX4_isRight_19 (by decide) ?_
      refine lv_goto (tgt := 24) hx hb dX4_isRight_20 (by decide) ?_
      exact rt_z C0 (bI_t (decide_eq_true ⟨of_decide_eq_true (bI_n0 h1), of_decide_eq_true (bI_n0 h2)⟩)).symm z1 hS rfl dX4_isRight_24
/-- with signs: the numbers of n parts as signed ones -/
def cmpS (n u v : Nat) : Int32 := if decide (65536 ^ n ≤ 2 * u) = decide (65536 ^ n ≤ 2 * v) then cmpI u v else if 65536 ^ n ≤ 2 * u then (-1) else nI 1
theorem bI_inj {a b : Bool} (h : bI a = bI b) : a = b := by cases a <;> cases b <;> first | rfl | exact absurd h (by decide)
abbrev rmX4_compareSigned : Room := { frames := 1, cells := 0, slots := 0, locals := 22 }
set_option maxHeartbeats 4000000 in
set_option maxRecDepth 100000 in
/-- compareSigned(one, other) -/
theorem c_compareSigned (l : Launch) (g : Gx) (H0 : Heap) (a b n9 u v : Nat) (hn9 : n9 < 999) (hu : u < 65536 ^ (n9 + 1)) (hv : v < 65536 ^ (n9 + 1)) (ha : va_at g.1 vwCl (a, .inl (g.2 0, n9 + 1, .inl (rw16 u))) H0) (hb9 : va_at g.1 vwCl (b, .inl (g.2 0, n9 + 1, .inl (rw16 v))) H0) : Met l yX4_compareSigned wsX4_compareSigned rmX4_compareSigned (va_Pc [.ref a, .ref b] (hB g H0)) (pQ (some (.int (cmpS (n9 + 1) u v))) H0) 0 0 (fun q => H0.size ≤ q) := by
  refine cx_met (own := RX4) (cc := cX4_compareSigned) (maxL := 2) (by decide) rfl rfl (Nat.le_of_ble_eq_true rfl) ?_
  intro p e s m below meth c ls C0 hB0 hnm hl
  obtain ⟨hH, hK⟩ := hB0
  obtain ⟨hx, hb, hr, hml, hown, hts, hlk⟩ := id C0
  subst hH
  have hS : va_S (fun q => s.heap.size ≤ q) s.heap s.heap [] := va_S.rf
  have hA : ∀ q : Nat, s.heap.size ≤ q → s.heap.size ≤ q := fun q h => h
  have hl : lv_has ls 2 [(0, .ref a), (1, .ref b)] := hl
  refine lv_aload_n hx hb dX4_compareSigned_0 rfl (lv_at hl 0 rfl) ?_
  refine cp_S (As := [.ref a]) (rest := []) C0 hl hK hS hA (c_isNegative l g s.heap a n9 u (by omega) hu ha) gX4_compareSigned_X4_isNegative rfl ⟨rfl, rfl⟩ (show hd_ok yX4_isNegative 1 from ⟨by decide, by decide, by decide +kernel⟩) ⟨Nat.le_of_ble_eq_true rfl, Nat.le_of_ble_eq_true rfl⟩ rfl (Nat.le_of_ble_eq_true rfl) ⟨Nat.zero_le _, Nat.zero_le _⟩ dX4_compareSigned_1 (fun locs hS => ?_)
  refine lv_aload_n hx hb dX4_compareSigned_4 rfl (lv_at hl 1 rfl) ?_
  refine cp_S (As := [.ref b]) (rest := [.int (bI (decide (65536 ^ (n9 + 1) ≤ 2 * u)))]) C0 hl hK hS hA (c_isNegative l g s.heap b n9 v (by omega) hv hb9) gX4_compareSigned_X4_isNegative rfl ⟨rfl, rfl⟩ (show hd_ok yX4_isNegative 1 from ⟨by decide, by decide, by decide +kernel⟩) ⟨Nat.le_of_ble_eq_true rfl, Nat.le_of_ble_eq_true rfl⟩ rfl (Nat.le_of_ble_eq_true rfl) ⟨Nat.zero_le _, Nat.zero_le _⟩ dX4_compareSigned_5 (fun locs hS => ?_)
  refine lv_icmp_eq (tgt := 24) hx hb dX4_compareSigned_8 (by decide) (fun h1 => ?_) (fun h1 => ?_)
  · skip
    refine lv_aload_n hx hb dX4_compareSigned_24 rfl (lv_at hl 0 rfl) ?_
    refine lv_aload_n hx hb dX4_compareSigned_25 rfl (lv_at hl 1 rfl) ?_
    refine cp_S (As := [.ref a, .ref b]) (rest := []) C0 hl hK hS hA (c_compare l g s.heap a b (n9 + 1) u v (by omega) hu hv ha hb9) gX4_compareSigned_X4_compare rfl ⟨rfl, rfl⟩ (show hd_ok yX4_compare 2 from ⟨by decide, by decide, by decide +kernel⟩) ⟨Nat.le_of_ble_eq_true rfl, Nat.le_of_ble_eq_true rfl⟩ rfl (Nat.le_of_ble_eq_true rfl) ⟨Nat.zero_le _, Nat.zero_le _⟩ dX4_compareSigned_26 (fun locs hS => ?_)
    exact rt_i C0 (by unfold cmpS; rw [if_pos (bI_inj h1)]) hS rfl dX4_compareSigned_29
  · skip
    refine lv_aload_n hx hb dX4_compareSigned_11 rfl (lv_at hl 0 rfl) ?_
    refine cp_S (As := [.ref a]) (rest := []) C0 hl hK hS hA (c_isNegative l g s.heap a n9 u (by omega) hu ha) gX4_compareSigned_X4_isNegative rfl ⟨rfl, rfl⟩ (show hd_ok yX4_isNegative 1 from ⟨by decide, by decide, by decide +kernel⟩) ⟨Nat.le_of_ble_eq_true rfl, Nat.le_of_ble_eq_true rfl⟩ rfl (Nat.le_of_ble_eq_true rfl) ⟨Nat.zero_le _, Nat.zero_le _⟩ dX4_compareSigned_12 (fun locs hS => ?_)
    refine lv_if_eq (tgt := 22) hx hb dX4_compareSigned_15 (by decide) (fun h2 => ?_) (fun h2 => ?_)
    · skip
      refine lv_iconst (v := nI 1) hx hb dX4_compareSigned_22 (by decide) ?_
      exact rt_i C0 (by unfold cmpS; rw [if_neg (fun z => h1 (congrArg bI z)), if_neg (of_decide_eq_false (bI_0 h2))]) hS rfl dX4_compareSigned_23
    · skip
      refine lv_iconst (v := (-1)) hx hb dX4_compareSigned_18 (by decide) ?_
      refine lv_goto (tgt := 23) hx hb dX4_compareSigned_19 (by decide) ?_
      exact rt_i C0 (by unfold cmpS; rw [if_neg (fun z => h1 (congrArg bI z)), if_pos (of_decide_eq_true (bI_n0 h2))]) hS rfl dX4_compareSigned_23
abbrev rmX4_half : Room := { frames := 0, cells := 0, slots := 0, locals := 0 }
set_option maxHeartbeats 4000000 in
set_option maxRecDepth 100000 in
/-- half(cell, from) -/
theorem c_half (l : Launch) (g : Gx) (H0 : Heap) (a n9 v f9 : Nat) (hn9 : n9 < 1000) (hf9 : f9 + 1 < n9) (ha : va_at g.1 vwCl (a, .inl (g.2 0, n9, .inl (rw16 v))) H0) : Met l yX4_half wsX4_half rmX4_half (va_Pc [.ref a, .int (nI f9)] (hB g H0)) (pQ (some (.int (nI (v / 65536 ^ f9 % 4294967296)))) H0) 0 0 (fun q => H0.size ≤ q) := by
  refine cx_met (own := RX4) (cc := cX4_half) (maxL := 3) (by decide) rfl rfl (Nat.le_of_ble_eq_true rfl) ?_
  intro p e s m below meth c ls C0 hB0 hnm hl
  obtain ⟨hH, hK⟩ := hB0
  obtain ⟨hx, hb, hr, hml, hown, hts, hlk⟩ := id C0
  subst hH
  have hS : va_S (fun q => s.heap.size ≤ q) s.heap s.heap [] := va_S.rf
  have hA : ∀ q : Nat, s.heap.size ≤ q → s.heap.size ≤ q := fun q h => h
  have hl : lv_has ls 3 [(0, .ref a), (1, .int (nI f9))] := hl
  refine lv_aload_n hx hb dX4_half_0 rfl (lv_at hl 0 rfl) ?_
  refine lv_iload_n hx hb dX4_half_1 rfl (lv_at hl 1 rfl) ?_
  refine lv_iconst (v := nI 1) hx hb dX4_half_2 (by decide) ?_
  refine lv_iadd hx hb dX4_half_3 ?_
  refine tp_i (y := nI (f9 + 1)) (nI_add _ _) ?_
  refine r_iald (j := f9 + 1) hx hb hK hS ha (nA ha) (by omega) (by omega) dX4_half_4 ?_
  refine tp_i (y := nI (v / 65536 ^ (f9 + 1) % 65536)) (rfl) ?_
  refine lv_ldc (v := nI 32768) hx hb hown (hts (.constant RX4 43 (32768)) (by decide +kernel)) dX4_half_5 ?_
  refine lv_icmp_lt (tgt := 21) hx hb dX4_half_7 (by decide) (fun h1 => ?_) (fun h1 => ?_)
  · skip
    refine lv_aload_n hx hb dX4_half_21 rfl (lv_at hl 0 rfl) ?_
    refine lv_iload_n hx hb dX4_half_22 rfl (lv_at hl 1 rfl) ?_
    refine lv_iconst (v := nI 1) hx hb dX4_half_23 (by decide) ?_
    refine lv_iadd hx hb dX4_half_24 ?_
    refine tp_i (y := nI (f9 + 1)) (nI_add _ _) ?_
    refine r_iald (j := f9 + 1) hx hb hK hS ha (nA ha) (by omega) (by omega) dX4_half_25 ?_
    refine tp_i (y := nI (v / 65536 ^ (f9 + 1) % 65536)) (rfl) ?_
    refine lv_istore_n (lv' := [(2, .int (nI (v / 65536 ^ (f9 + 1) % 65536))), (0, .ref a), (1, .int (nI f9))]) hx hb dX4_half_26 rfl hl (by decide) rfl (fun ls hl => ?_)
    refine lv_iload_n hx hb dX4_half_27 rfl (lv_at hl 0 rfl) ?_
    refine lv_ldc (v := nI 65536) hx hb hown (hts (.constant RX4 52 (65536)) (by decide +kernel)) dX4_half_28 ?_
    refine lv_imul hx hb dX4_half_30 ?_
    refine tp_i (y := nI ((v / 65536 ^ (f9 + 1) % 65536) * 65536)) (pk_mul _ _) ?_
    refine lv_aload_n hx hb dX4_half_31 rfl (lv_at hl 1 rfl) ?_
    refine lv_iload_n hx hb dX4_half_32 rfl (lv_at hl 2 rfl) ?_
    refine r_iald (j := f9) hx hb hK hS ha (nA ha) (by omega) (by omega) dX4_half_33 ?_
    refine tp_i (y := nI (v / 65536 ^ f9 % 65536)) (rfl) ?_
    refine lv_iadd hx hb dX4_half_34 ?_
    refine tp_i (y := nI (((v / 65536 ^ (f9 + 1) % 65536) * 65536) + (v / 65536 ^ f9 % 65536))) (nI_add _ _) ?_
    exact rt_i C0 (congrArg nI (half_dig v f9)) hS rfl dX4_half_35
  · skip
    refine lv_aload_n hx hb dX4_half_10 rfl (lv_at hl 0 rfl) ?_
    refine lv_iload_n hx hb dX4_half_11 rfl (lv_at hl 1 rfl) ?_
    refine lv_iconst (v := nI 1) hx hb dX4_half_12 (by decide) ?_
    refine lv_iadd hx hb dX4_half_13 ?_
    refine tp_i (y := nI (f9 + 1)) (nI_add _ _) ?_
    refine r_iald (j := f9 + 1) hx hb hK hS ha (nA ha) (by omega) (by omega) dX4_half_14 ?_
    refine tp_i (y := nI (v / 65536 ^ (f9 + 1) % 65536)) (rfl) ?_
    refine lv_ldc (v := nI 65536) hx hb hown (hts (.constant RX4 52 (65536)) (by decide +kernel)) dX4_half_15 ?_
    refine lv_isub hx hb dX4_half_17 ?_
    refine tp_i (y := nI (v / 65536 ^ (f9 + 1) % 65536 + 4294901760)) (nI_sub16 _) ?_
    refine lv_goto (tgt := 26) hx hb dX4_half_18 (by decide) ?_
    refine lv_istore_n (lv' := [(2, .int (nI (v / 65536 ^ (f9 + 1) % 65536 + 4294901760))), (0, .ref a), (1, .int (nI f9))]) hx hb dX4_half_26 rfl hl (by decide) rfl (fun ls hl => ?_)
    refine lv_iload_n hx hb dX4_half_27 rfl (lv_at hl 0 rfl) ?_
    refine lv_ldc (v := nI 65536) hx hb hown (hts (.constant RX4 52 (65536)) (by decide +kernel)) dX4_half_28 ?_
    refine lv_imul hx hb dX4_half_30 ?_
    refine tp_i (y := nI ((v / 65536 ^ (f9 + 1) % 65536 + 4294901760) * 65536)) (pk_mul _ _) ?_
    refine lv_aload_n hx hb dX4_half_31 rfl (lv_at hl 1 rfl) ?_
    refine lv_iload_n hx hb dX4_half_32 rfl (lv_at hl 2 rfl) ?_
    refine r_iald (j := f9) hx hb hK hS ha (nA ha) (by omega) (by omega) dX4_half_33 ?_
    refine tp_i (y := nI (v / 65536 ^ f9 % 65536)) (rfl) ?_
    refine lv_iadd hx hb dX4_half_34 ?_
    refine tp_i (y := nI (((v / 65536 ^ (f9 + 1) % 65536 + 4294901760) * 65536) + (v / 65536 ^ f9 % 65536))) (nI_add _ _) ?_
    exact rt_i C0 ((half_num _ _).trans (congrArg nI (half_dig v f9))) hS rfl dX4_half_35
abbrev rmX4_count : Room := { frames := 2, cells := 0, slots := 0, locals := 43 }
set_option maxHeartbeats 4000000 in
set_option maxRecDepth 100000 in
theorem L_count (C0 : Cx p s m args meth c RX4 cX4_count 3 (some .int) wsX4_count) (hK : KK g s) {a n9 v : Nat} (hn9 : n9 < 1000) (ha : va_at g.1 vwCl (a, .inl (g.2 0, n9, .inl (rw16 v))) H) (K : ∀ (ls : Array Slot) (locs : List Loc), va_S (fun q => H.size ≤ q) H H locs → lv_has ls 3 [(2, .int (nI (16 * n9))), (1, .int (nI (pcN v (16 * n9)))), (0, .ref a)] → W p l e rmX4_count s m args below meth c H locs 0 0 Q (F0 m 26 ls [])) : ∀ (n : Nat) (j : Nat), j ≤ 16 * n9 → 16 * n9 - j < n → ∀ (ls : Array Slot) (locs : List Loc), va_S (fun q => H.size ≤ q) H H locs → lv_has ls 3 [(2, .int (nI j)), (1, .int (nI (pcN v j))), (0, .ref a)] → W p l e rmX4_count s m args below meth c H locs 0 0 Q (F0 m 4 ls []) := by
  obtain ⟨hx, hb, hr, hml, hown, hts, hlk⟩ := id C0
  have hA : ∀ q : Nat, H.size ≤ q → H.size ≤ q := fun _ h => h
  intro n
  induction n with
  | zero => intro j _ h; exact absurd h (Nat.not_lt_zero _)
  | succ n ih =>
    intro j hj hn ls locs hS hl
    refine lv_iload_n hx hb dX4_count_4 rfl (lv_at hl 0 rfl) ?_
    refine lv_aload_n hx hb dX4_count_5 rfl (lv_at hl 2 rfl) ?_
    refine cp_S (As := [.ref a]) (rest := [.int (nI j)]) C0 hl hK hS hA (c_bits l g H a n9 (rw16 v) ha) gX4_count_X4_bits rfl ⟨rfl, rfl⟩ (show hd_ok yX4_bits 1 from ⟨by decide, by decide, by decide +kernel⟩) ⟨Nat.le_of_ble_eq_true rfl, Nat.le_of_ble_eq_true rfl⟩ rfl (Nat.le_of_ble_eq_true rfl) ⟨Nat.zero_le _, Nat.zero_le _⟩ dX4_count_6 (fun locs hS => ?_)
    refine lv_icmp_ge (tgt := 26) hx hb dX4_count_9 (by decide) (fun h1 => ?_) (fun h1 => ?_)
    · skip
      have hge : 16 * n9 ≤ j := by
        rcases Nat.lt_or_ge j (16 * n9) with h | h
        · exact absurd h1 (nI_ge h (by omega))
        · exact h
      obtain rfl : j = 16 * n9 := by omega
      exact K ls locs hS hl
    · skip
      have hlt : j < 16 * n9 := by
        rcases Nat.lt_or_ge j (16 * n9) with h | h
        · exact h
        · exact absurd (nI_le h (by omega)) h1
      refine lv_iload_n hx hb dX4_count_12 rfl (lv_at hl 1 rfl) ?_
      refine lv_aload_n hx hb dX4_count_13 rfl (lv_at hl 2 rfl) ?_
      refine lv_iload_n hx hb dX4_count_14 rfl (lv_at hl 0 rfl) ?_
      refine cp_S (As := [.ref a, .int (nI j)]) (rest := [.int (nI (pcN v j))]) C0 hl hK hS hA (c_bit l g H a n9 v j ha hlt hn9) gX4_count_X4_bit rfl ⟨rfl, rfl⟩ (show hd_ok yX4_bit 2 from ⟨by decide, by decide, by decide +kernel⟩) ⟨Nat.le_of_ble_eq_true rfl, Nat.le_of_ble_eq_true rfl⟩ rfl (Nat.le_of_ble_eq_true rfl) ⟨Nat.zero_le _, Nat.zero_le _⟩ dX4_count_15 (fun locs hS => ?_)
      refine lv_iadd hx hb dX4_count_18 ?_
      refine tp_i (y := nI (pcN v (j + 1))) (nI_add _ _) ?_
      refine lv_istore_n (lv' := [(1, .int (nI (pcN v (j + 1)))), (2, .int (nI j)), (0, .ref a)]) hx hb dX4_count_19 rfl hl (by decide) rfl (fun ls hl => ?_)
      refine lv_iinc (v := nI (j + 1)) (lv' := [(2, .int (nI (j + 1))), (1, .int (nI (pcN v (j + 1)))), (0, .ref a)]) hx hb dX4_count_20 hl (k := 1) rfl (nI_1 _) (by decide) rfl (fun ls hl => ?_)
      refine lv_goto (tgt := 4) hx hb dX4_count_23 (by decide) ?_
      exact ih (j + 1) hlt (by omega) ls locs hS hl
set_option maxHeartbeats 4000000 in
set_option maxRecDepth 100000 in
/-- count(own) -/
theorem c_count (l : Launch) (g : Gx) (H0 : Heap) (a n9 v : Nat) (hn9 : n9 < 1000) (ha : va_at g.1 vwCl (a, .inl (g.2 0, n9, .inl (rw16 v))) H0) : Met l yX4_count wsX4_count rmX4_count (va_Pc [.ref a] (hB g H0)) (pQ (some (.int (nI (pcN v (16 * n9))))) H0) 0 0 (fun q => H0.size ≤ q) := by
  refine cx_met (own := RX4) (cc := cX4_count) (maxL := 3) (by decide) rfl rfl (Nat.le_of_ble_eq_true rfl) ?_
  intro p e s m below meth c ls C0 hB0 hnm hl
  obtain ⟨hH, hK⟩ := hB0
  obtain ⟨hx, hb, hr, hml, hown, hts, hlk⟩ := id C0
  subst hH
  have hS : va_S (fun q => s.heap.size ≤ q) s.heap s.heap [] := va_S.rf
  have hA : ∀ q : Nat, s.heap.size ≤ q → s.heap.size ≤ q := fun q h => h
  have hl : lv_has ls 3 [(0, .ref a)] := hl
  refine lv_iconst (v := nI 0) hx hb dX4_count_0 (by decide) ?_
  refine lv_istore_n (lv' := [(1, .int (nI 0)), (0, .ref a)]) hx hb dX4_count_1 rfl hl (by decide) rfl (fun ls hl => ?_)
  refine lv_iconst (v := nI 0) hx hb dX4_count_2 (by decide) ?_
  refine lv_istore_n (lv' := [(2, .int (nI 0)), (1, .int (nI 0)), (0, .ref a)]) hx hb dX4_count_3 rfl hl (by decide) rfl (fun ls hl => ?_)
  refine L_count C0 hK hn9 ha (fun ls locs hS hl => ?_) (16 * n9 + 1) 0 (Nat.zero_le _) (by omega) ls [] hS hl
  refine lv_iload_n hx hb dX4_count_26 rfl (lv_at hl 1 rfl) ?_
  exact rt_i C0 rfl hS rfl dX4_count_27
abbrev rmX4_one : Room := { frames := 2, cells := 0, slots := 0, locals := 43 }
set_option maxHeartbeats 4000000 in
set_option maxRecDepth 100000 in
theorem L_one (C0 : Cx p s m args meth c RX4 cX4_one 4 (some .int) wsX4_one) (hK : KK g s) {a n9 v : Nat} {hi : Bool} (hn9 : n9 < 1000) (ha : va_at g.1 vwCl (a, .inl (g.2 0, n9, .inl (rw16 v))) H) (K : ∀ (ls : Array Slot) (locs : List Loc), va_S (fun q => H.size ≤ q) H H locs → lv_has ls 4 [(3, .int (nI (16 * n9))), (2, .int (oneN v hi (16 * n9))), (0, .ref a), (1, .int (bI hi))] → W p l e rmX4_one s m args below meth c H locs 0 0 Q (F0 m 38 ls [])) : ∀ (n : Nat) (j : Nat), j ≤ 16 * n9 → 16 * n9 - j < n → ∀ (ls : Array Slot) (locs : List Loc), va_S (fun q => H.size ≤ q) H H locs → lv_has ls 4 [(3, .int (nI j)), (2, .int (oneN v hi j)), (0, .ref a), (1, .int (bI hi))] → W p l e rmX4_one s m args below meth c H locs 0 0 Q (F0 m 4 ls []) := by
  obtain ⟨hx, hb, hr, hml, hown, hts, hlk⟩ := id C0
  have hA : ∀ q : Nat, H.size ≤ q → H.size ≤ q := fun _ h => h
  intro n
  induction n with
  | zero => intro j _ h; exact absurd h (Nat.not_lt_zero _)
  | succ n ih =>
    intro j hj hn ls locs hS hl
    refine lv_iload_n hx hb dX4_one_4 rfl (lv_at hl 0 rfl) ?_
    refine lv_aload_n hx hb dX4_one_5 rfl (lv_at hl 2 rfl) ?_
    refine cp_S (As := [.ref a]) (rest := [.int (nI j)]) C0 hl hK hS hA (c_bits l g H a n9 (rw16 v) ha) gX4_one_X4_bits rfl ⟨rfl, rfl⟩ (show hd_ok yX4_bits 1 from ⟨by decide, by decide, by decide +kernel⟩) ⟨Nat.le_of_ble_eq_true rfl, Nat.le_of_ble_eq_true rfl⟩ rfl (Nat.le_of_ble_eq_true rfl) ⟨Nat.zero_le _, Nat.zero_le _⟩ dX4_one_6 (fun locs hS => ?_)
    refine lv_icmp_ge (tgt := 38) hx hb dX4_one_9 (by decide) (fun h1 => ?_) (fun h1 => ?_)
    · skip
      have hge : 16 * n9 ≤ j := by
        rcases Nat.lt_or_ge j (16 * n9) with h | h
        · exact absurd h1 (nI_ge h (by omega))
        · exact h
      obtain rfl : j = 16 * n9 := by omega
      exact K ls locs hS hl
    · skip
      have hlt : j < 16 * n9 := by
        rcases Nat.lt_or_ge j (16 * n9) with h | h
        · exact h
        · exact absurd (nI_le h (by omega)) h1
      have h2l := Nat.mod_lt (v / 2 ^ j) (show 0 < 2 by decide)
      refine lv_aload_n hx hb dX4_one_12 rfl (lv_at hl 2 rfl) ?_
      refine lv_iload_n hx hb dX4_one_13 rfl (lv_at hl 0 rfl) ?_
      refine cp_S (As := [.ref a, .int (nI j)]) (rest := []) C0 hl hK hS hA (c_bit l g H a n9 v j ha hlt hn9) gX4_one_X4_bit rfl ⟨rfl, rfl⟩ (show hd_ok yX4_bit 2 from ⟨by decide, by decide, by decide +kernel⟩) ⟨Nat.le_of_ble_eq_true rfl, Nat.le_of_ble_eq_true rfl⟩ rfl (Nat.le_of_ble_eq_true rfl) ⟨Nat.zero_le _, Nat.zero_le _⟩ dX4_one_14 (fun locs hS => ?_)
      refine lv_iconst (v := nI 1) hx hb dX4_one_17 (by decide) ?_
      refine lv_icmp_ne (tgt := 32) hx hb dX4_one_18 (by decide) (fun h2 => ?_) (fun h2 => ?_)
      · skip
        refine lv_iinc (v := nI (j + 1)) (lv' := [(3, .int (nI (j + 1))), (2, .int (oneN v hi j)), (0, .ref a), (1, .int (bI hi))]) hx hb dX4_one_32 hl (k := 0) rfl (nI_1 _) (by decide) rfl (fun ls hl => ?_)
        refine lv_goto (tgt := 4) hx hb dX4_one_35 (by decide) ?_
        have e9 : oneN v hi (j + 1) = oneN v hi j := by
          show (if _ ∧ _ then _ else _) = _
          rw [if_neg (fun z => h2 (congrArg nI z.1))]
        exact ih (j + 1) hlt (by omega) ls locs hS (by rw [e9]; exact lv_sub hl [0, 1, 2, 3] rfl)
      · skip
        have h3 : v / 2 ^ j % 2 = 1 := nI_inj (by omega) (by decide) h2
        refine lv_iload_n hx hb dX4_one_21 rfl (lv_at hl 3 rfl) ?_
        refine lv_if_ne (tgt := 30) hx hb dX4_one_22 (by decide) (fun h4 => ?_) (fun h4 => ?_)
        · skip
          refine lv_iload_n hx hb dX4_one_30 rfl (lv_at hl 0 rfl) ?_
          refine lv_istore_n (lv' := [(2, .int (nI j)), (3, .int (nI j)), (0, .ref a), (1, .int (bI hi))]) hx hb dX4_one_31 rfl hl (by decide) rfl (fun ls hl => ?_)
          refine lv_iinc (v := nI (j + 1)) (lv' := [(3, .int (nI (j + 1))), (2, .int (nI j)), (0, .ref a), (1, .int (bI hi))]) hx hb dX4_one_32 hl (k := 1) rfl (nI_1 _) (by decide) rfl (fun ls hl => ?_)
          refine lv_goto (tgt := 4) hx hb dX4_one_35 (by decide) ?_
          have e9 : oneN v hi (j + 1) = nI j := by
            show (if _ ∧ _ then _ else _) = _
            rw [if_pos ⟨h3, Or.inl (bI_n0 h4)⟩]
          exact ih (j + 1) hlt (by omega) ls locs hS (by rw [e9]; exact lv_sub hl [0, 1, 2, 3] rfl)
        · skip
          refine lv_iload_n hx hb dX4_one_25 rfl (lv_at hl 1 rfl) ?_
          refine lv_iconst (v := (-1)) hx hb dX4_one_26 (by decide) ?_
          refine lv_icmp_ne (tgt := 32) hx hb dX4_one_27 (by decide) (fun h5 => ?_) (fun h5 => ?_)
          · skip
            refine lv_iinc (v := nI (j + 1)) (lv' := [(3, .int (nI (j + 1))), (2, .int (oneN v hi j)), (0, .ref a), (1, .int (bI hi))]) hx hb dX4_one_32 hl (k := 0) rfl (nI_1 _) (by decide) rfl (fun ls hl => ?_)
            refine lv_goto (tgt := 4) hx hb dX4_one_35 (by decide) ?_
            have e9 : oneN v hi (j + 1) = oneN v hi j := by
              show (if _ ∧ _ then _ else _) = _
              rw [if_neg (fun z => z.2.elim (fun z => by rw [z] at h4; exact absurd h4 (by decide)) (fun z => h5 z))]
            exact ih (j + 1) hlt (by omega) ls locs hS (by rw [e9]; exact lv_sub hl [0, 1, 2, 3] rfl)
          · skip
            refine lv_iload_n hx hb dX4_one_30 rfl (lv_at hl 0 rfl) ?_
            refine lv_istore_n (lv' := [(2, .int (nI j)), (3, .int (nI j)), (0, .ref a), (1, .int (bI hi))]) hx hb dX4_one_31 rfl hl (by decide) rfl (fun ls hl => ?_)
            refine lv_iinc (v := nI (j + 1)) (lv' := [(3, .int (nI (j + 1))), (2, .int (nI j)), (0, .ref a), (1, .int (bI hi))]) hx hb dX4_one_32 hl (k := 1) rfl (nI_1 _) (by decide) rfl (fun ls hl => ?_)
            refine lv_goto (tgt := 4) hx hb dX4_one_35 (by decide) ?_
            have e9 : oneN v hi (j + 1) = nI j := by
              show (if _ ∧ _ then _ else _) = _
              rw [if_pos ⟨h3, Or.inr h5⟩]
            exact ih (j + 1) hlt (by omega) ls locs hS (by rw [e9]; exact lv_sub hl [0, 1, 2, 3] rfl)
set_option maxHeartbeats 4000000 in
set_option maxRecDepth 100000 in
/-- one(own, isHighest) -/
theorem c_one (l : Launch) (g : Gx) (H0 : Heap) (a n9 v : Nat) (hi : Bool) (hn9 : n9 < 1000) (ha : va_at g.1 vwCl (a, .inl (g.2 0, n9, .inl (rw16 v))) H0) : Met l yX4_one wsX4_one rmX4_one (va_Pc [.ref a, .int (bI hi)] (hB g H0)) (pQ (some (.int (oneN v hi (16 * n9)))) H0) 0 0 (fun q => H0.size ≤ q) := by
  refine cx_met (own := RX4) (cc := cX4_one) (maxL := 4) (by decide) rfl rfl (Nat.le_of_ble_eq_true rfl) ?_
  intro p e s m below meth c ls C0 hB0 hnm hl
  obtain ⟨hH, hK⟩ := hB0
  obtain ⟨hx, hb, hr, hml, hown, hts, hlk⟩ := id C0
  subst hH
  have hS : va_S (fun q => s.heap.size ≤ q) s.heap s.heap [] := va_S.rf
  have hA : ∀ q : Nat, s.heap.size ≤ q → s.heap.size ≤ q := fun q h => h
  have hl : lv_has ls 4 [(0, .ref a), (1, .int (bI hi))] := hl
  refine lv_iconst (v := (-1)) hx hb dX4_one_0 (by decide) ?_
  refine lv_istore_n (lv' := [(2, .int (-1)), (0, .ref a), (1, .int (bI hi))]) hx hb dX4_one_1 rfl hl (by decide) rfl (fun ls hl => ?_)
  refine lv_iconst (v := nI 0) hx hb dX4_one_2 (by decide) ?_
  refine lv_istore_n (lv' := [(3, .int (nI 0)), (2, .int (-1)), (0, .ref a), (1, .int (bI hi))]) hx hb dX4_one_3 rfl hl (by decide) rfl (fun ls hl => ?_)
  refine L_one C0 hK hn9 ha (fun ls locs hS hl => ?_) (16 * n9 + 1) 0 (Nat.zero_le _) (by omega) ls [] hS hl
  refine lv_iload_n hx hb dX4_one_38 rfl (lv_at hl 1 rfl) ?_
  exact rt_i C0 rfl hS rfl dX4_one_39
end M13

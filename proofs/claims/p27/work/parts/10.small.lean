-- the reference's small ones
def bI (b : Bool) : Int32 := if b then 1 else 0
theorem bI_t {b : Bool} (h : b = true) : bI b = 1 := by subst h; rfl
theorem bI_f {b : Bool} (h : b = false) : bI b = 0 := by subst h; rfl
theorem bI_0 {b : Bool} (h : bI b = 0) : b = false := by cases b with | false => rfl | true => exact absurd h (by decide)
theorem bI_n0 {b : Bool} (h : ¬ bI b = 0) : b = true := by cases b with | true => rfl | false => exact absurd rfl h
theorem bI_nar (b : Bool) : narrow .boolean (.int (bI b)) = .int (bI b) := by cases b <;> rfl
theorem z1 : narrow .boolean (.int (nI 1)) = .int (nI 1) := by rfl
theorem z0 : narrow .boolean (.int (nI 0)) = .int (nI 0) := by rfl
/-- a row of 16 bits each, the lowest first: what the number v has there -/
def rw16 (v : Nat) : Nat → Int32 := fun k => nI (v / 65536 ^ k % 65536)
theorem rw16_lt (v k : Nat) : v / 65536 ^ k % 65536 < 65536 := Nat.mod_lt _ (by decide)
section M10
variable {p : Program} {l : Launch} {e : Env} {s : State} {m : MethodId} {args : Array Value} {below : List Frame} {meth : Method} {c : Code} {H H0 : Heap} {locs : List Loc} {cells slots : Nat} {Q : State → Prop} {A : Nat → Prop} {g : Gx}
abbrev rmX4_is : Room := { frames := 0, cells := 0, slots := 0, locals := 0 }
set_option maxHeartbeats 4000000 in
set_option maxRecDepth 100000 in
/-- is(value, low, high) -/
theorem c_is (l : Launch) (g : Gx) (H0 : Heap) (v a b : Int32) : Met l yX4_is wsX4_is rmX4_is (va_Pc [.int v, .int a, .int b] (hB g H0)) (pQ (some (.int (bI (decide (a ≤ v ∧ v ≤ b))))) H0) 0 0 (fun q => H0.size ≤ q) := by
  refine cx_met (own := RX4) (cc := cX4_is) (maxL := 3) (by decide) rfl rfl (Nat.le_of_ble_eq_true rfl) ?_
  intro p e s m below meth c ls C0 hB0 hnm hl
  obtain ⟨hH, hK⟩ := hB0
  obtain ⟨hx, hb, hr, hml, hown, hts, hlk⟩ := id C0
  subst hH
  have hS : va_S (fun q => s.heap.size ≤ q) s.heap s.heap [] := va_S.rf
  have hA : ∀ q : Nat, s.heap.size ≤ q → s.heap.size ≤ q := fun q h => h
  have hl : lv_has ls 3 [(0, .int v), (1, .int a), (2, .int b)] := hl
  refine lv_iload_n hx hb dX4_is_0 rfl (lv_at hl 0 rfl) ?_
  refine lv_iload_n hx hb dX4_is_1 rfl (lv_at hl 1 rfl) ?_
  refine lv_icmp_lt (tgt := 14) hx hb dX4_is_2 (by decide) (fun h1 => ?_) (fun h1 => ?_)
  · skip
    refine lv_iconst (v := nI 0) hx hb dX4_is_14 (by decide) ?_
    exact rt_z C0 (bI_f (decide_eq_false (fun h => absurd h.1 (Int32.not_le.mpr h1)))).symm z0 hS rfl dX4_is_15
  · skip
    refine lv_iload_n hx hb dX4_is_5 rfl (lv_at hl 0 rfl) ?_
    refine lv_iload_n hx hb dX4_is_6 rfl (lv_at hl 2 rfl) ?_
    refine lv_icmp_gt (tgt := 14) hx hb dX4_is_7 (by decide) (fun h2 => ?_) (fun h2 => ?_)
    · skip
      refine lv_iconst (v := nI 0) hx hb dX4_is_14 (by decide) ?_
      exact rt_z C0 (bI_f (decide_eq_false (fun h => absurd h.2 (Int32.not_le.mpr h2)))).symm z0 hS rfl dX4_is_15
    · skip
      refine lv_iconst (v := nI 1) hx hb dX4_is_10 (by decide) ?_
      refine lv_goto (tgt := 15) hx hb dX4_is_11 (by decide) ?_
      exact rt_z C0 (bI_t (decide_eq_true ⟨Int32.not_lt.mp h1, Int32.not_lt.mp h2⟩)).symm z1 hS rfl dX4_is_15
abbrev rmX4_isCell : Room := { frames := 1, cells := 0, slots := 0, locals := 22 }
set_option maxHeartbeats 4000000 in
set_option maxRecDepth 100000 in
/-- isCell(cell) -/
theorem c_isCell (l : Launch) (g : Gx) (H0 : Heap) (v : Int32) : Met l yX4_isCell wsX4_isCell rmX4_isCell (va_Pc [.int v] (hB g H0)) (pQ (some (.int (bI (decide (nI 0 ≤ v ∧ v ≤ nI 7))))) H0) 0 0 (fun q => H0.size ≤ q) := by
  refine cx_met (own := RX4) (cc := cX4_isCell) (maxL := 1) (by decide) rfl rfl (Nat.le_of_ble_eq_true rfl) ?_
  intro p e s m below meth c ls C0 hB0 hnm hl
  obtain ⟨hH, hK⟩ := hB0
  obtain ⟨hx, hb, hr, hml, hown, hts, hlk⟩ := id C0
  subst hH
  have hS : va_S (fun q => s.heap.size ≤ q) s.heap s.heap [] := va_S.rf
  have hA : ∀ q : Nat, s.heap.size ≤ q → s.heap.size ≤ q := fun q h => h
  have hl : lv_has ls 1 [(0, .int v)] := hl
  refine lv_iload_n hx hb dX4_isCell_0 rfl (lv_at hl 0 rfl) ?_
  refine lv_iconst (v := nI 0) hx hb dX4_isCell_1 (by decide) ?_
  refine lv_bipush (v := nI 7) hx hb dX4_isCell_2 (by decide) ?_
  refine cp_S (As := [.int v, .int (nI 0), .int (nI 7)]) (rest := []) C0 hl hK hS hA (c_is l g s.heap v (nI 0) (nI 7)) gX4_isCell_X4_is rfl ⟨rfl, rfl⟩ (show hd_ok yX4_is 3 from ⟨by decide, by decide, by decide +kernel⟩) ⟨Nat.le_of_ble_eq_true rfl, Nat.le_of_ble_eq_true rfl⟩ rfl (Nat.le_of_ble_eq_true rfl) ⟨Nat.zero_le _, Nat.zero_le _⟩ dX4_isCell_4 (fun locs hS => ?_)
  exact rt_z C0 rfl (bI_nar _) hS rfl dX4_isCell_7
abbrev rmX4_power : Room := { frames := 0, cells := 0, slots := 0, locals := 0 }
set_option maxHeartbeats 4000000 in
set_option maxRecDepth 100000 in
theorem L_power (C0 : Cx p s m args meth c RX4 cX4_power 3 (some .int) wsX4_power) {k : Nat} (hk : k < 31) (hS : va_S A H0 H locs) (K : ∀ ls, lv_has ls 3 [(2, .int (nI k)), (1, .int (nI (2 ^ k))), (0, .int (nI k))] → W p l e rmX4_power s m args below meth c H locs 0 0 Q (F0 m 19 ls [])) : ∀ n j, j ≤ k → k - j < n → ∀ ls, lv_has ls 3 [(2, .int (nI j)), (1, .int (nI (2 ^ j))), (0, .int (nI k))] → W p l e rmX4_power s m args below meth c H locs 0 0 Q (F0 m 4 ls []) := by
  obtain ⟨hx, hb, hr, hml, hown, hts, hlk⟩ := id C0
  intro n
  induction n with
  | zero => intro j h1 h2; exact absurd h2 (Nat.not_lt_zero _)
  | succ n ih =>
    intro j hj hn ls hl
    refine lv_iload_n hx hb dX4_power_4 rfl (lv_at hl 0 rfl) ?_
    refine lv_iload_n hx hb dX4_power_5 rfl (lv_at hl 2 rfl) ?_
    refine lv_icmp_ge (tgt := 19) hx hb dX4_power_6 (by decide) (fun h1 => ?_) (fun h1 => ?_)
    · skip
      have e : j = k := by
        rcases Nat.lt_or_ge j k with h | h
        · exact absurd h1 (nI_ge h (by omega))
        · omega
      subst e
      exact K ls hl
    · skip
      have hlt : j < k := by
        rcases Nat.lt_or_ge j k with h | h
        · exact h
        · exact absurd (nI_le h (by omega)) h1
      refine lv_iload_n hx hb dX4_power_9 rfl (lv_at hl 1 rfl) ?_
      refine lv_iconst (v := nI 2) hx hb dX4_power_10 (by decide) ?_
      refine lv_imul hx hb dX4_power_11 ?_
      refine tp_i (y := nI ((2 ^ j) * 2)) (pk_mul _ _) ?_
      refine lv_istore_n (lv' := [(1, .int (nI ((2 ^ j) * 2))), (2, .int (nI j)), (0, .int (nI k))]) hx hb dX4_power_12 rfl hl (by decide) rfl (fun ls hl => ?_)
      refine lv_iinc (v := nI (j + 1)) (lv' := [(2, .int (nI (j + 1))), (1, .int (nI ((2 ^ j) * 2))), (0, .int (nI k))]) hx hb dX4_power_13 hl (k := 1) rfl (nI_1 _) (by decide) rfl (fun ls hl => ?_)
      refine lv_goto (tgt := 4) hx hb dX4_power_16 (by decide) ?_
      exact ih (j + 1) hlt (by omega) ls (by rw [Nat.pow_succ]; exact lv_sub hl [0, 1, 2] rfl)
set_option maxHeartbeats 4000000 in
set_option maxRecDepth 100000 in
/-- power(times) -/
theorem c_power (l : Launch) (g : Gx) (H0 : Heap) (k : Nat) (hk : k < 31) : Met l yX4_power wsX4_power rmX4_power (va_Pc [.int (nI k)] (hB g H0)) (pQ (some (.int (nI (2 ^ k)))) H0) 0 0 (fun q => H0.size ≤ q) := by
  refine cx_met (own := RX4) (cc := cX4_power) (maxL := 3) (by decide) rfl rfl (Nat.le_of_ble_eq_true rfl) ?_
  intro p e s m below meth c ls C0 hB0 hnm hl
  obtain ⟨hH, hK⟩ := hB0
  obtain ⟨hx, hb, hr, hml, hown, hts, hlk⟩ := id C0
  subst hH
  have hS : va_S (fun q => s.heap.size ≤ q) s.heap s.heap [] := va_S.rf
  have hA : ∀ q : Nat, s.heap.size ≤ q → s.heap.size ≤ q := fun q h => h
  have hl : lv_has ls 3 [(0, .int (nI k))] := hl
  refine lv_iconst (v := nI 1) hx hb dX4_power_0 (by decide) ?_
  refine lv_istore_n (lv' := [(1, .int (nI 1)), (0, .int (nI k))]) hx hb dX4_power_1 rfl hl (by decide) rfl (fun ls hl => ?_)
  refine lv_iconst (v := nI 0) hx hb dX4_power_2 (by decide) ?_
  refine lv_istore_n (lv' := [(2, .int (nI 0)), (1, .int (nI 1)), (0, .int (nI k))]) hx hb dX4_power_3 rfl hl (by decide) rfl (fun ls hl => ?_)
  refine L_power C0 hk hS (fun ls hl => ?_) (k + 1) 0 (Nat.zero_le k) (by omega) ls hl
  refine lv_iload_n hx hb dX4_power_19 rfl (lv_at hl 1 rfl) ?_
  exact rt_i C0 rfl hS rfl dX4_power_20
abbrev rmX4_bits : Room := { frames := 0, cells := 0, slots := 0, locals := 0 }
set_option maxHeartbeats 4000000 in
set_option maxRecDepth 100000 in
/-- bits(own) -/
theorem c_bits (l : Launch) (g : Gx) (H0 : Heap) (a n : Nat) (f : Nat → Int32) (ha : va_at g.1 vwCl (a, .inl (g.2 0, n, .inl f)) H0) : Met l yX4_bits wsX4_bits rmX4_bits (va_Pc [.ref a] (hB g H0)) (pQ (some (.int (nI (16 * n)))) H0) 0 0 (fun q => H0.size ≤ q) := by
  refine cx_met (own := RX4) (cc := cX4_bits) (maxL := 1) (by decide) rfl rfl (Nat.le_of_ble_eq_true rfl) ?_
  intro p e s m below meth c ls C0 hB0 hnm hl
  obtain ⟨hH, hK⟩ := hB0
  obtain ⟨hx, hb, hr, hml, hown, hts, hlk⟩ := id C0
  subst hH
  have hS : va_S (fun q => s.heap.size ≤ q) s.heap s.heap [] := va_S.rf
  have hA : ∀ q : Nat, s.heap.size ≤ q → s.heap.size ≤ q := fun q h => h
  have hl : lv_has ls 1 [(0, .ref a)] := hl
  refine lv_bipush (v := nI 16) hx hb dX4_bits_0 (by decide) ?_
  refine lv_aload_n hx hb dX4_bits_2 rfl (lv_at hl 0 rfl) ?_
  refine r_alen hx hb hK hS ha (nA ha) dX4_bits_3 ?_
  refine lv_imul hx hb dX4_bits_4 ?_
  refine tp_i (y := nI (16 * n)) (pk_mul _ _) ?_
  exact rt_i C0 rfl hS rfl dX4_bits_5
abbrev rmX4_bit : Room := { frames := 1, cells := 0, slots := 0, locals := 22 }
theorem bit_num (v k : Nat) : v / 65536 ^ (k / 16) % 65536 / 2 ^ (k % 16) % 2 = v / 2 ^ k % 2 := by
  have e : (65536 : Nat) ^ (k / 16) = 2 ^ (16 * (k / 16)) := by rw [Nat.pow_mul]
  have h : k % 16 < 16 := Nat.mod_lt _ (by decide)
  have h2 : (65536 : Nat) = 2 ^ (k % 16) * 2 ^ (16 - k % 16) := by
    rw [← Nat.pow_add, show k % 16 + (16 - k % 16) = 16 by omega]
  rw [e]
  have h3 : ∀ x : Nat, x % 65536 / 2 ^ (k % 16) = x / 2 ^ (k % 16) % 2 ^ (16 - k % 16) := fun x => by
    rw [show x % 65536 = x % (2 ^ (k % 16) * 2 ^ (16 - k % 16)) by rw [← h2]]
    exact Nat.mod_mul_right_div_self x (2 ^ (k % 16)) (2 ^ (16 - k % 16))
  rw [h3, Nat.mod_mod_of_dvd _ (show 2 ∣ 2 ^ (16 - k % 16) from ⟨2 ^ (15 - k % 16), by rw [← Nat.pow_succ']; congr 1; omega⟩), Nat.div_div_eq_div_mul, ← Nat.pow_add, show 16 * (k / 16) + k % 16 = k by omega]
set_option maxHeartbeats 4000000 in
set_option maxRecDepth 100000 in
/-- bit(own, place) -/
theorem c_bit (l : Launch) (g : Gx) (H0 : Heap) (a n v k : Nat) (ha : va_at g.1 vwCl (a, .inl (g.2 0, n, .inl (rw16 v))) H0) (hk : k < 16 * n) (hn : n < 1000) : Met l yX4_bit wsX4_bit rmX4_bit (va_Pc [.ref a, .int (nI k)] (hB g H0)) (pQ (some (.int (nI (v / 2 ^ k % 2)))) H0) 0 0 (fun q => H0.size ≤ q) := by
  refine cx_met (own := RX4) (cc := cX4_bit) (maxL := 2) (by decide) rfl rfl (Nat.le_of_ble_eq_true rfl) ?_
  intro p e s m below meth c ls C0 hB0 hnm hl
  obtain ⟨hH, hK⟩ := hB0
  obtain ⟨hx, hb, hr, hml, hown, hts, hlk⟩ := id C0
  subst hH
  have hS : va_S (fun q => s.heap.size ≤ q) s.heap s.heap [] := va_S.rf
  have hA : ∀ q : Nat, s.heap.size ≤ q → s.heap.size ≤ q := fun q h => h
  have hl : lv_has ls 2 [(0, .ref a), (1, .int (nI k))] := hl
  refine lv_aload_n hx hb dX4_bit_0 rfl (lv_at hl 0 rfl) ?_
  refine lv_iload_n hx hb dX4_bit_1 rfl (lv_at hl 1 rfl) ?_
  refine lv_bipush (v := nI 16) hx hb dX4_bit_2 (by decide) ?_
  refine lv_idiv hx hb dX4_bit_4 (by decide) ?_
  refine tp_i (y := nI (k / 16)) (pk_div (by omega) (by omega) (by omega)) ?_
  refine r_iald (j := k / 16) hx hb hK hS ha (nA ha) (by omega) (by omega) dX4_bit_5 ?_
  refine tp_i (y := nI (v / 65536 ^ (k / 16) % 65536)) (rfl) ?_
  refine lv_iload_n hx hb dX4_bit_6 rfl (lv_at hl 1 rfl) ?_
  refine lv_bipush (v := nI 16) hx hb dX4_bit_7 (by decide) ?_
  refine lv_irem hx hb dX4_bit_9 (by decide) ?_
  refine tp_i (y := nI (k % 16)) (pk_rem (by omega) (by omega) (by omega)) ?_
  refine cp_S (As := [.int (nI (k % 16))]) (rest := [.int (nI (v / 65536 ^ (k / 16) % 65536))]) C0 hl hK hS hA (c_power l g s.heap (k % 16) (by omega)) gX4_bit_X4_power rfl ⟨rfl, rfl⟩ (show hd_ok yX4_power 1 from ⟨by decide, by decide, by decide +kernel⟩) ⟨Nat.le_of_ble_eq_true rfl, Nat.le_of_ble_eq_true rfl⟩ rfl (Nat.le_of_ble_eq_true rfl) ⟨Nat.zero_le _, Nat.zero_le _⟩ dX4_bit_10 (fun locs hS => ?_)
  refine lv_idiv hx hb dX4_bit_13 (nI_ne0 (Nat.pow_pos (by decide)) (Nat.lt_of_le_of_lt (Nat.pow_le_pow_right (by decide) (show k % 16 ≤ 15 by omega)) (by decide))) ?_
  refine tp_i (y := nI ((v / 65536 ^ (k / 16) % 65536) / (2 ^ (k % 16)))) (pk_div (Nat.lt_trans (rw16_lt v (k / 16)) (by decide)) (Nat.pow_pos (by decide)) (Nat.lt_of_le_of_lt (Nat.pow_le_pow_right (by decide) (show k % 16 ≤ 15 by omega)) (by decide))) ?_
  refine lv_iconst (v := nI 2) hx hb dX4_bit_14 (by decide) ?_
  refine lv_irem hx hb dX4_bit_15 (by decide) ?_
  refine tp_i (y := nI (((v / 65536 ^ (k / 16) % 65536) / (2 ^ (k % 16))) % 2)) (pk_rem (Nat.lt_of_le_of_lt (Nat.div_le_self _ _) (Nat.lt_trans (rw16_lt v (k / 16)) (by decide))) (by decide) (by decide)) ?_
  exact rt_i C0 (congrArg nI (bit_num v k)) hS rfl dX4_bit_16
end M10

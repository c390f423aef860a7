-- THE MODEL's READING: ranged, said
/-- a number of k9 places that is out of its kind's range -/
def rgB (k9 v : Nat) (ym ys : Bool) : Prop := ys = true ∧ 65536 ^ k9 ≤ 2 * v ∧ ¬ (ym = true ∧ 2 * v = 65536 ^ k9)
def rgV (k9 v : Nat) (ym : Bool) : Nat := if ym = true then (65536 ^ k9 - v) % 65536 ^ k9 else v
theorem rgV_lt {k9 v : Nat} {ym : Bool} (h : v < 65536 ^ k9) : rgV k9 v ym < 65536 ^ k9 := by
  unfold rgV
  split
  · exact Nat.mod_lt _ (Nat.pow_pos (by decide))
  · exact h
theorem least_eq {k9 v : Nat} (hv : v < 65536 ^ k9) (hn : 65536 ^ k9 ≤ 2 * v) : (65536 ^ k9 - v) % 65536 ^ k9 = v ↔ 2 * v = 65536 ^ k9 := by
  rw [Nat.mod_eq_of_lt (by omega)]
  omega
/-- the sign's place, the first digit's place, what the digits say -/
def miB (n : Nat) (t : Nat → Nat) (d : Nat) : Bool := decide (0 < n ∧ t 0 = 45 ∧ d % 2 = 0)
def frN (n : Nat) (t : Nat → Nat) (d : Nat) : Nat := if miB n t d = true ∨ (0 < n ∧ t 0 = 43) then 1 else 0
def valN (r : Nat) (t : Nat → Nat) (f : Nat) : Nat → Nat
  | 0 => 0
  | k + 1 => valN r t f k * r + wor (t (f + k))
theorem valN_mono {r f : Nat} {t : Nat → Nat} (hr : 1 ≤ r) {k m : Nat} (h : k ≤ m) : valN r t f k ≤ valN r t f m := by
  induction m with
  | zero => rw [Nat.le_zero.mp h]; exact Nat.le_refl _
  | succ m ih =>
    rcases Nat.lt_or_ge k (m + 1) with e | e
    · have h1 := ih (by omega)
      have h2 : valN r t f m * 1 ≤ valN r t f m * r := Nat.mul_le_mul_left _ hr
      show valN r t f k ≤ valN r t f m * r + wor (t (f + m))
      omega
    · rw [show k = m + 1 by omega]
      exact Nat.le_refl _
def okD (r : Nat) (t : Nat → Nat) (f n k9 : Nat) : Prop := f < n ∧ (∀ j, f ≤ j → j < n → wor (t j) < r) ∧ valN r t f (n - f) < 65536 ^ k9
def saX (r n : Nat) (t : Nat → Nat) (d : Nat) : Nat := valN r t (frN n t d) (n - frN n t d)
def saOK (r n : Nat) (t : Nat → Nat) (d : Nat) : Prop := okD r t (frN n t d) n (nP (decide (d < 2))) ∧ ¬ rgB (nP (decide (d < 2))) (saX r n t d) (miB n t d) (decide (d % 2 = 0))
def saV (r n : Nat) (t : Nat → Nat) (d : Nat) : Nat := rgV (nP (decide (d < 2))) (saX r n t d) (miB n t d)
/-- what is carried, when x is taken r times and c put to it -/
def mac (x r c j : Nat) : Nat := (x % 65536 ^ j * r + c) / 65536 ^ j
theorem mac_0 (x r c : Nat) : mac x r c 0 = c := by unfold mac; rw [Nat.pow_zero, Nat.mod_one, Nat.zero_mul, Nat.zero_add, Nat.div_one]
theorem mac_lt {x r c j : Nat} (hc : c < r) : mac x r c j < r := by
  unfold mac
  have hB : 0 < 65536 ^ j := Nat.pow_pos (by decide)
  refine Nat.div_lt_of_lt_mul ?_
  have h1 : x % 65536 ^ j < 65536 ^ j := Nat.mod_lt _ hB
  have h2 : (x % 65536 ^ j + 1) * r ≤ 65536 ^ j * r := Nat.mul_le_mul_right _ h1
  rw [Nat.add_mul, Nat.one_mul] at h2
  omega
theorem mac_s (x r c j : Nat) : (x / 65536 ^ j % 65536 * r + mac x r c j) / 65536 = mac x r c (j + 1) ∧ (x / 65536 ^ j % 65536 * r + mac x r c j) % 65536 = (x * r + c) / 65536 ^ j % 65536 := by
  have hB : 0 < 65536 ^ j := Nat.pow_pos (by decide)
  have e1 : x % 65536 ^ (j + 1) = x % 65536 ^ j + 65536 ^ j * (x / 65536 ^ j % 65536) := by rw [Nat.pow_succ, Nat.mod_mul]
  have e2 : x / 65536 ^ j % 65536 * r + mac x r c j = (x % 65536 ^ (j + 1) * r + c) / 65536 ^ j := by
    unfold mac
    rw [e1, Nat.add_mul, Nat.mul_assoc, Nat.add_right_comm, Nat.add_mul_div_left _ _ hB]
    omega
  constructor
  · rw [e2, Nat.div_div_eq_div_mul, ← Nat.pow_succ]
    rfl
  · have e3 : (x * r + c) / 65536 ^ j = x / 65536 ^ j * r + mac x r c j := by
      conv => lhs; rw [← Nat.div_add_mod x (65536 ^ j)]
      unfold mac
      rw [Nat.add_mul, Nat.mul_assoc, Nat.add_assoc, Nat.mul_add_div hB]
    rw [e3]
    have e4 : x / 65536 ^ j * r = 65536 * (x / 65536 ^ j / 65536 * r) + x / 65536 ^ j % 65536 * r := by
      conv => lhs; rw [← Nat.div_add_mod (x / 65536 ^ j) 65536]
      rw [Nat.add_mul, Nat.mul_assoc]
    rw [e4, Nat.add_assoc, Nat.mul_add_mod]
theorem mac_top {x r c n : Nat} (h : x < 65536 ^ n) : mac x r c n = (x * r + c) / 65536 ^ n := by unfold mac; rw [Nat.mod_eq_of_lt h]
section RAN
variable {p : Program} {l : Launch} {e : Env} {R : Room} {s : State} {m : MethodId} {args : Array Value} {below : List Frame} {meth : Method} {c : Code} {H H0 : Heap} {locs : List Loc} {cells slots : Nat}
variable {Ts : List Cond} {cc : ByteArray} {nL mc ms pc : Nat} {own : String} {ls : Array Slot}
/-- null comes back -/
theorem rt_an {rt : FieldType} {mu : Nat → Prop} {P : Option Value → Heap → Prop} (C0 : Cx p s m args meth c own cc nL (some rt) Ts) (hrt : (∃ n, rt = .object n) ∨ ∃ t, rt = .array t) (hP : P (some .null) H) (hS : va_S (fun q => mu q ∨ H0.size ≤ q) H0 H locs) (hH : s.heap = H0) (hdg : decode cc pc = .ok (.areturn, 1)) : W p l e R s m args below meth c H locs mc ms (MQ below (nQ H0 mu P) args s mc ms (fun q => mu q ∨ H0.size ≤ q)) (F0 m pc ls [.null]) := by
  obtain ⟨hx, hb, hr, hml, hown, hts, hlk⟩ := C0
  exact W.aret hx hb hr hrt (Or.inl rfl) (fun t ht _ => ⟨_, rfl, by rw [ht]; exact hP, by rw [ht]; exact hS.1, fun z h1 h2 => by rw [ht]; exact hS.2.1 z h1 (fun h => h.elim h2 (fun h => absurd h1 (Nat.not_lt.mpr h)))⟩) hS.2.2 hdg hlk
end RAN
section M54
variable {p : Program} {l : Launch} {e : Env} {s : State} {m : MethodId} {args : Array Value} {below : List Frame} {meth : Method} {c : Code} {H H0 : Heap} {locs : List Loc} {cells slots : Nat} {Q : State → Prop} {A : Nat → Prop} {g : Gx}
abbrev rmX4_ranged : Room := { frames := 1, cells := 2, slots := 8, locals := 24 }
set_option maxHeartbeats 4000000 in
set_option maxRecDepth 100000 in
/-- ranged(own, isMinus, isSigned) -/
theorem c_ranged (l : Launch) (g : Gx) (H0 : Heap) (a k9 v : Nat) (ym ys : Bool) (hk9 : k9 = 2 ∨ k9 = 4) (hv9 : v < 65536 ^ k9) (ha : va_at g.1 vwCl (a, .inl (g.2 0, k9, .inl (rw16 v))) H0) : Met l yX4_ranged wsX4_ranged rmX4_ranged (va_Pc [.ref a, .int (bI ym), .int (bI ys)] (hB g H0)) (nQ H0 (fun _ => False) (fun r H1 => (rgB k9 v ym ys ∧ r = some .null) ∨ (¬ rgB k9 v ym ys ∧ ∃ q : Nat, r = some (.ref q) ∧ (q = a ∨ H0.size ≤ q) ∧ va_at g.1 vwCl (q, .inl (g.2 0, k9, .inl (rw16 (rgV k9 v ym)))) H1))) 2 8 (fun q => False ∨ H0.size ≤ q) := by
  refine cx_met (own := RX4) (cc := cX4_ranged) (maxL := 4) (by decide) rfl rfl (Nat.le_of_ble_eq_true rfl) ?_
  intro p e s m below meth c ls C0 hB0 hnm hl
  obtain ⟨hH, hK⟩ := hB0
  obtain ⟨hx, hb, hr, hml, hown, hts, hlk⟩ := id C0
  subst hH
  have hS : va_S (fun q => False ∨ s.heap.size ≤ q) s.heap s.heap [] := va_S.rf
  have hA : ∀ q : Nat, s.heap.size ≤ q → (fun q => False ∨ s.heap.size ≤ q) q := fun q h => Or.inr h
  have hl : lv_has ls 4 [(0, .ref a), (1, .int (bI ym)), (2, .int (bI ys))] := hl
  have e91 : k9 - 1 + 1 = k9 := by omega
  refine lv_iload_n hx hb dX4_ranged_0 rfl (lv_at hl 1 rfl) ?_
  refine lv_if_eq (tgt := 19) hx hb dX4_ranged_1 (by decide) (fun h1 => ?_) (fun h1 => ?_)
  · skip
    skip
    refine lv_iconst (v := nI 0) hx hb dX4_ranged_19 (by decide) ?_
    refine lv_istore_n (lv' := [(3, .int (nI 0)), (0, .ref a), (1, .int (bI ym)), (2, .int (bI ys))]) hx hb dX4_ranged_20 rfl hl (by decide) rfl (fun ls hl => ?_)
    refine lv_iload_n hx hb dX4_ranged_21 rfl (lv_at hl 3 rfl) ?_
    refine lv_if_eq (tgt := 38) hx hb dX4_ranged_22 (by decide) (fun h5 => ?_) (fun h5 => ?_)
    · skip
      refine lv_iload_n hx hb dX4_ranged_38 rfl (lv_at hl 2 rfl) ?_
      refine lv_if_eq (tgt := 49) hx hb dX4_ranged_39 (by decide) (fun h8 => ?_) (fun h8 => ?_)
      · skip
        refine lv_aload_n hx hb dX4_ranged_49 rfl (lv_at hl 1 rfl) ?_
        refine W.widen (k := 2) (n := 8) (by omega) (by omega) ?_
        exact rt_a (mu := fun _ => False) C0 (Or.inr ⟨_, rfl⟩) (Or.inr ⟨fun z => absurd z.1 (by rw [bI_0 h5]; decide), a, rfl, Or.inl rfl, by unfold rgV; rw [if_neg (by rw [bI_0 h8]; decide)]; exact ha⟩) hS rfl dX4_ranged_50
      · skip
        refine lv_aload_n hx hb dX4_ranged_42 rfl (lv_at hl 1 rfl) ?_
        refine cn_S (As := [.ref a]) (rest := []) C0 hl hK hS hA (fun z h => absurd h (fun z => z)) (c_negative l g s.heap a k9 v (by omega) hv9 ha) gX4_ranged_X4_negative rfl ⟨rfl, rfl⟩ (show hd_ok yX4_negative 1 from ⟨by decide, by decide, by decide +kernel⟩) ⟨Nat.le_of_ble_eq_true rfl, Nat.le_of_ble_eq_true rfl⟩ rfl (Nat.le_of_ble_eq_true rfl) ⟨by show _ ≤ 2; omega, by show _ ≤ 8; omega⟩ dX4_ranged_43 (fun r1 H9 locs hv hzz hk9 hS => ?_)
        obtain ⟨q9, rfl, hq9, g9⟩ := hv
        refine lv_goto (tgt := 50) hx hb dX4_ranged_46 (by decide) ?_
        refine W.widen (k := 2) (n := 8) (by omega) (by omega) ?_
        exact rt_a (mu := fun _ => False) C0 (Or.inr ⟨_, rfl⟩) (Or.inr ⟨fun z => absurd z.1 (by rw [bI_0 h5]; decide), q9, rfl, Or.inr (hq9), by unfold rgV; rw [if_pos (bI_n0 h8)]; exact g9⟩) hS rfl dX4_ranged_50
    · skip
      refine lv_aload_n hx hb dX4_ranged_25 rfl (lv_at hl 1 rfl) ?_
      refine cp_S (As := [.ref a]) (rest := []) C0 hl hK hS hA (c_isNegative l g s.heap a (k9 - 1) v (by omega) (by rw [e91]; exact hv9) (by rw [e91]; exact ha)) gX4_ranged_X4_isNegative rfl ⟨rfl, rfl⟩ (show hd_ok yX4_isNegative 1 from ⟨by decide, by decide, by decide +kernel⟩) ⟨Nat.le_of_ble_eq_true rfl, Nat.le_of_ble_eq_true rfl⟩ rfl (Nat.le_of_ble_eq_true rfl) ⟨by show 0 ≤ 2; omega, by show 0 ≤ 8; omega⟩ dX4_ranged_26 (fun locs hS => ?_)
      refine lv_if_eq (tgt := 38) hx hb dX4_ranged_29 (by decide) (fun h6 => ?_) (fun h6 => ?_)
      · skip
        have hn := of_decide_eq_false (bI_0 h6)
        rw [e91] at hn
        refine lv_iload_n hx hb dX4_ranged_38 rfl (lv_at hl 2 rfl) ?_
        refine lv_if_eq (tgt := 49) hx hb dX4_ranged_39 (by decide) (fun h8 => ?_) (fun h8 => ?_)
        · skip
          refine lv_aload_n hx hb dX4_ranged_49 rfl (lv_at hl 1 rfl) ?_
          refine W.widen (k := 2) (n := 8) (by omega) (by omega) ?_
          exact rt_a (mu := fun _ => False) C0 (Or.inr ⟨_, rfl⟩) (Or.inr ⟨fun z => hn z.2.1, a, rfl, Or.inl rfl, by unfold rgV; rw [if_neg (by rw [bI_0 h8]; decide)]; exact ha⟩) hS rfl dX4_ranged_50
        · skip
          refine lv_aload_n hx hb dX4_ranged_42 rfl (lv_at hl 1 rfl) ?_
          refine cn_S (As := [.ref a]) (rest := []) C0 hl hK hS hA (fun z h => absurd h (fun z => z)) (c_negative l g s.heap a k9 v (by omega) hv9 ha) gX4_ranged_X4_negative rfl ⟨rfl, rfl⟩ (show hd_ok yX4_negative 1 from ⟨by decide, by decide, by decide +kernel⟩) ⟨Nat.le_of_ble_eq_true rfl, Nat.le_of_ble_eq_true rfl⟩ rfl (Nat.le_of_ble_eq_true rfl) ⟨by show _ ≤ 2; omega, by show _ ≤ 8; omega⟩ dX4_ranged_43 (fun r1 H9 locs hv hzz hk9 hS => ?_)
          obtain ⟨q9, rfl, hq9, g9⟩ := hv
          refine lv_goto (tgt := 50) hx hb dX4_ranged_46 (by decide) ?_
          refine W.widen (k := 2) (n := 8) (by omega) (by omega) ?_
          exact rt_a (mu := fun _ => False) C0 (Or.inr ⟨_, rfl⟩) (Or.inr ⟨fun z => hn z.2.1, q9, rfl, Or.inr (hq9), by unfold rgV; rw [if_pos (bI_n0 h8)]; exact g9⟩) hS rfl dX4_ranged_50
      · skip
        have hn := of_decide_eq_true (bI_n0 h6)
        rw [e91] at hn
        refine lv_iload_n hx hb dX4_ranged_32 rfl (lv_at hl 0 rfl) ?_
        refine lv_if_ne (tgt := 38) hx hb dX4_ranged_33 (by decide) (fun h7 => absurd rfl h7) (fun h7 => ?_)
        refine lv_null hx hb dX4_ranged_36 ?_
        refine W.widen (k := 2) (n := 8) (by omega) (by omega) ?_
        exact rt_an (mu := fun _ => False) C0 (Or.inr ⟨_, rfl⟩) (Or.inl ⟨⟨bI_n0 h5, hn, fun z => absurd z.1 (by rw [bI_0 h1]; decide)⟩, rfl⟩) hS rfl dX4_ranged_37
  · skip
    refine lv_aload_n hx hb dX4_ranged_4 rfl (lv_at hl 0 rfl) ?_
    refine cn_S (As := [.ref a]) (rest := []) C0 hl hK hS hA (fun z h => absurd h (fun z => z)) (c_negative l g s.heap a k9 v (by omega) hv9 ha) gX4_ranged_X4_negative rfl ⟨rfl, rfl⟩ (show hd_ok yX4_negative 1 from ⟨by decide, by decide, by decide +kernel⟩) ⟨Nat.le_of_ble_eq_true rfl, Nat.le_of_ble_eq_true rfl⟩ rfl (Nat.le_of_ble_eq_true rfl) ⟨by show _ ≤ 2; omega, by show _ ≤ 8; omega⟩ dX4_ranged_5 (fun r1 H1 locs hv hzz hk1 hS => ?_)
    obtain ⟨q1, rfl, hq1, g1⟩ := hv
    have ha1 := ha.kept (hk1 _ ha.lt (fun z => z))
    have hz1 := hzz
    refine lv_aload_n hx hb dX4_ranged_8 rfl (lv_at hl 0 rfl) ?_
    refine cp_S (As := [.ref q1, .ref a]) (rest := []) C0 hl hK hS hA (c_isSame l g H1 q1 a k9 ((65536 ^ k9 - v) % 65536 ^ k9) v (by omega) (Nat.mod_lt _ (Nat.pow_pos (by decide))) hv9 g1 ha1) gX4_ranged_X4_isSame rfl ⟨rfl, rfl⟩ (show hd_ok yX4_isSame 2 from ⟨by decide, by decide, by decide +kernel⟩) ⟨Nat.le_of_ble_eq_true rfl, Nat.le_of_ble_eq_true rfl⟩ rfl (Nat.le_of_ble_eq_true rfl) ⟨by show 0 + 1 ≤ 2; omega, by show 0 + 4 ≤ 8; omega⟩ dX4_ranged_9 (fun locs hS => ?_)
    refine lv_if_eq (tgt := 19) hx hb dX4_ranged_12 (by decide) (fun h2 => ?_) (fun h2 => ?_)
    · skip
      skip
      refine lv_iconst (v := nI 0) hx hb dX4_ranged_19 (by decide) ?_
      refine lv_istore_n (lv' := [(3, .int (nI 0)), (0, .ref a), (1, .int (bI ym)), (2, .int (bI ys))]) hx hb dX4_ranged_20 rfl hl (by decide) rfl (fun ls hl => ?_)
      refine lv_iload_n hx hb dX4_ranged_21 rfl (lv_at hl 3 rfl) ?_
      refine lv_if_eq (tgt := 38) hx hb dX4_ranged_22 (by decide) (fun h5 => ?_) (fun h5 => ?_)
      · skip
        refine lv_iload_n hx hb dX4_ranged_38 rfl (lv_at hl 2 rfl) ?_
        refine lv_if_eq (tgt := 49) hx hb dX4_ranged_39 (by decide) (fun h8 => ?_) (fun h8 => ?_)
        · skip
          refine lv_aload_n hx hb dX4_ranged_49 rfl (lv_at hl 1 rfl) ?_
          refine W.widen (k := 2) (n := 8) (by omega) (by omega) ?_
          exact rt_a (mu := fun _ => False) C0 (Or.inr ⟨_, rfl⟩) (Or.inr ⟨fun z => absurd z.1 (by rw [bI_0 h5]; decide), a, rfl, Or.inl rfl, by unfold rgV; rw [if_neg (by rw [bI_0 h8]; decide)]; exact ha1⟩) hS rfl dX4_ranged_50
        · skip
          refine lv_aload_n hx hb dX4_ranged_42 rfl (lv_at hl 1 rfl) ?_
          refine cn_S (As := [.ref a]) (rest := []) C0 hl hK hS hA (fun z h => absurd h (fun z => z)) (c_negative l g H1 a k9 v (by omega) hv9 ha1) gX4_ranged_X4_negative rfl ⟨rfl, rfl⟩ (show hd_ok yX4_negative 1 from ⟨by decide, by decide, by decide +kernel⟩) ⟨Nat.le_of_ble_eq_true rfl, Nat.le_of_ble_eq_true rfl⟩ rfl (Nat.le_of_ble_eq_true rfl) ⟨by show _ ≤ 2; omega, by show _ ≤ 8; omega⟩ dX4_ranged_43 (fun r1 H9 locs hv hzz hk9 hS => ?_)
          obtain ⟨q9, rfl, hq9, g9⟩ := hv
          refine lv_goto (tgt := 50) hx hb dX4_ranged_46 (by decide) ?_
          refine W.widen (k := 2) (n := 8) (by omega) (by omega) ?_
          exact rt_a (mu := fun _ => False) C0 (Or.inr ⟨_, rfl⟩) (Or.inr ⟨fun z => absurd z.1 (by rw [bI_0 h5]; decide), q9, rfl, Or.inr (by omega), by unfold rgV; rw [if_pos (bI_n0 h8)]; exact g9⟩) hS rfl dX4_ranged_50
      · skip
        refine lv_aload_n hx hb dX4_ranged_25 rfl (lv_at hl 1 rfl) ?_
        refine cp_S (As := [.ref a]) (rest := []) C0 hl hK hS hA (c_isNegative l g H1 a (k9 - 1) v (by omega) (by rw [e91]; exact hv9) (by rw [e91]; exact ha1)) gX4_ranged_X4_isNegative rfl ⟨rfl, rfl⟩ (show hd_ok yX4_isNegative 1 from ⟨by decide, by decide, by decide +kernel⟩) ⟨Nat.le_of_ble_eq_true rfl, Nat.le_of_ble_eq_true rfl⟩ rfl (Nat.le_of_ble_eq_true rfl) ⟨by show 0 + 1 ≤ 2; omega, by show 0 + 4 ≤ 8; omega⟩ dX4_ranged_26 (fun locs hS => ?_)
        refine lv_if_eq (tgt := 38) hx hb dX4_ranged_29 (by decide) (fun h6 => ?_) (fun h6 => ?_)
        · skip
          have hn := of_decide_eq_false (bI_0 h6)
          rw [e91] at hn
          refine lv_iload_n hx hb dX4_ranged_38 rfl (lv_at hl 2 rfl) ?_
          refine lv_if_eq (tgt := 49) hx hb dX4_ranged_39 (by decide) (fun h8 => ?_) (fun h8 => ?_)
          · skip
            refine lv_aload_n hx hb dX4_ranged_49 rfl (lv_at hl 1 rfl) ?_
            refine W.widen (k := 2) (n := 8) (by omega) (by omega) ?_
            exact rt_a (mu := fun _ => False) C0 (Or.inr ⟨_, rfl⟩) (Or.inr ⟨fun z => hn z.2.1, a, rfl, Or.inl rfl, by unfold rgV; rw [if_neg (by rw [bI_0 h8]; decide)]; exact ha1⟩) hS rfl dX4_ranged_50
          · skip
            refine lv_aload_n hx hb dX4_ranged_42 rfl (lv_at hl 1 rfl) ?_
            refine cn_S (As := [.ref a]) (rest := []) C0 hl hK hS hA (fun z h => absurd h (fun z => z)) (c_negative l g H1 a k9 v (by omega) hv9 ha1) gX4_ranged_X4_negative rfl ⟨rfl, rfl⟩ (show hd_ok yX4_negative 1 from ⟨by decide, by decide, by decide +kernel⟩) ⟨Nat.le_of_ble_eq_true rfl, Nat.le_of_ble_eq_true rfl⟩ rfl (Nat.le_of_ble_eq_true rfl) ⟨by show _ ≤ 2; omega, by show _ ≤ 8; omega⟩ dX4_ranged_43 (fun r1 H9 locs hv hzz hk9 hS => ?_)
            obtain ⟨q9, rfl, hq9, g9⟩ := hv
            refine lv_goto (tgt := 50) hx hb dX4_ranged_46 (by decide) ?_
            refine W.widen (k := 2) (n := 8) (by omega) (by omega) ?_
            exact rt_a (mu := fun _ => False) C0 (Or.inr ⟨_, rfl⟩) (Or.inr ⟨fun z => hn z.2.1, q9, rfl, Or.inr (by omega), by unfold rgV; rw [if_pos (bI_n0 h8)]; exact g9⟩) hS rfl dX4_ranged_50
        · skip
          have hn := of_decide_eq_true (bI_n0 h6)
          rw [e91] at hn
          refine lv_iload_n hx hb dX4_ranged_32 rfl (lv_at hl 0 rfl) ?_
          refine lv_if_ne (tgt := 38) hx hb dX4_ranged_33 (by decide) (fun h7 => absurd rfl h7) (fun h7 => ?_)
          refine lv_null hx hb dX4_ranged_36 ?_
          refine W.widen (k := 2) (n := 8) (by omega) (by omega) ?_
          exact rt_an (mu := fun _ => False) C0 (Or.inr ⟨_, rfl⟩) (Or.inl ⟨⟨bI_n0 h5, hn, fun z => of_decide_eq_false (bI_0 h2) ((least_eq hv9 hn).mpr z.2)⟩, rfl⟩) hS rfl dX4_ranged_37
    · skip
      skip
      refine lv_iconst (v := nI 1) hx hb dX4_ranged_15 (by decide) ?_
      refine lv_goto (tgt := 20) hx hb dX4_ranged_16 (by decide) ?_
      refine lv_istore_n (lv' := [(3, .int (nI 1)), (0, .ref a), (1, .int (bI ym)), (2, .int (bI ys))]) hx hb dX4_ranged_20 rfl hl (by decide) rfl (fun ls hl => ?_)
      refine lv_iload_n hx hb dX4_ranged_21 rfl (lv_at hl 3 rfl) ?_
      refine lv_if_eq (tgt := 38) hx hb dX4_ranged_22 (by decide) (fun h5 => ?_) (fun h5 => ?_)
      · skip
        refine lv_iload_n hx hb dX4_ranged_38 rfl (lv_at hl 2 rfl) ?_
        refine lv_if_eq (tgt := 49) hx hb dX4_ranged_39 (by decide) (fun h8 => ?_) (fun h8 => ?_)
        · skip
          refine lv_aload_n hx hb dX4_ranged_49 rfl (lv_at hl 1 rfl) ?_
          refine W.widen (k := 2) (n := 8) (by omega) (by omega) ?_
          exact rt_a (mu := fun _ => False) C0 (Or.inr ⟨_, rfl⟩) (Or.inr ⟨fun z => absurd z.1 (by rw [bI_0 h5]; decide), a, rfl, Or.inl rfl, by unfold rgV; rw [if_neg (by rw [bI_0 h8]; decide)]; exact ha1⟩) hS rfl dX4_ranged_50
        · skip
          refine lv_aload_n hx hb dX4_ranged_42 rfl (lv_at hl 1 rfl) ?_
          refine cn_S (As := [.ref a]) (rest := []) C0 hl hK hS hA (fun z h => absurd h (fun z => z)) (c_negative l g H1 a k9 v (by omega) hv9 ha1) gX4_ranged_X4_negative rfl ⟨rfl, rfl⟩ (show hd_ok yX4_negative 1 from ⟨by decide, by decide, by decide +kernel⟩) ⟨Nat.le_of_ble_eq_true rfl, Nat.le_of_ble_eq_true rfl⟩ rfl (Nat.le_of_ble_eq_true rfl) ⟨by show _ ≤ 2; omega, by show _ ≤ 8; omega⟩ dX4_ranged_43 (fun r1 H9 locs hv hzz hk9 hS => ?_)
          obtain ⟨q9, rfl, hq9, g9⟩ := hv
          refine lv_goto (tgt := 50) hx hb dX4_ranged_46 (by decide) ?_
          refine W.widen (k := 2) (n := 8) (by omega) (by omega) ?_
          exact rt_a (mu := fun _ => False) C0 (Or.inr ⟨_, rfl⟩) (Or.inr ⟨fun z => absurd z.1 (by rw [bI_0 h5]; decide), q9, rfl, Or.inr (by omega), by unfold rgV; rw [if_pos (bI_n0 h8)]; exact g9⟩) hS rfl dX4_ranged_50
      · skip
        refine lv_aload_n hx hb dX4_ranged_25 rfl (lv_at hl 1 rfl) ?_
        refine cp_S (As := [.ref a]) (rest := []) C0 hl hK hS hA (c_isNegative l g H1 a (k9 - 1) v (by omega) (by rw [e91]; exact hv9) (by rw [e91]; exact ha1)) gX4_ranged_X4_isNegative rfl ⟨rfl, rfl⟩ (show hd_ok yX4_isNegative 1 from ⟨by decide, by decide, by decide +kernel⟩) ⟨Nat.le_of_ble_eq_true rfl, Nat.le_of_ble_eq_true rfl⟩ rfl (Nat.le_of_ble_eq_true rfl) ⟨by show 0 + 1 ≤ 2; omega, by show 0 + 4 ≤ 8; omega⟩ dX4_ranged_26 (fun locs hS => ?_)
        refine lv_if_eq (tgt := 38) hx hb dX4_ranged_29 (by decide) (fun h6 => ?_) (fun h6 => ?_)
        · skip
          have hn := of_decide_eq_false (bI_0 h6)
          rw [e91] at hn
          refine lv_iload_n hx hb dX4_ranged_38 rfl (lv_at hl 2 rfl) ?_
          refine lv_if_eq (tgt := 49) hx hb dX4_ranged_39 (by decide) (fun h8 => ?_) (fun h8 => ?_)
          · skip
            refine lv_aload_n hx hb dX4_ranged_49 rfl (lv_at hl 1 rfl) ?_
            refine W.widen (k := 2) (n := 8) (by omega) (by omega) ?_
            exact rt_a (mu := fun _ => False) C0 (Or.inr ⟨_, rfl⟩) (Or.inr ⟨fun z => hn z.2.1, a, rfl, Or.inl rfl, by unfold rgV; rw [if_neg (by rw [bI_0 h8]; decide)]; exact ha1⟩) hS rfl dX4_ranged_50
          · skip
            refine lv_aload_n hx hb dX4_ranged_42 rfl (lv_at hl 1 rfl) ?_
            refine cn_S (As := [.ref a]) (rest := []) C0 hl hK hS hA (fun z h => absurd h (fun z => z)) (c_negative l g H1 a k9 v (by omega) hv9 ha1) gX4_ranged_X4_negative rfl ⟨rfl, rfl⟩ (show hd_ok yX4_negative 1 from ⟨by decide, by decide, by decide +kernel⟩) ⟨Nat.le_of_ble_eq_true rfl, Nat.le_of_ble_eq_true rfl⟩ rfl (Nat.le_of_ble_eq_true rfl) ⟨by show _ ≤ 2; omega, by show _ ≤ 8; omega⟩ dX4_ranged_43 (fun r1 H9 locs hv hzz hk9 hS => ?_)
            obtain ⟨q9, rfl, hq9, g9⟩ := hv
            refine lv_goto (tgt := 50) hx hb dX4_ranged_46 (by decide) ?_
            refine W.widen (k := 2) (n := 8) (by omega) (by omega) ?_
            exact rt_a (mu := fun _ => False) C0 (Or.inr ⟨_, rfl⟩) (Or.inr ⟨fun z => hn z.2.1, q9, rfl, Or.inr (by omega), by unfold rgV; rw [if_pos (bI_n0 h8)]; exact g9⟩) hS rfl dX4_ranged_50
        · skip
          have hn := of_decide_eq_true (bI_n0 h6)
          rw [e91] at hn
          refine lv_iload_n hx hb dX4_ranged_32 rfl (lv_at hl 0 rfl) ?_
          refine lv_if_ne (tgt := 38) hx hb dX4_ranged_33 (by decide) (fun h7 => ?_) (fun h7 => absurd h7 (by decide))
          refine lv_iload_n hx hb dX4_ranged_38 rfl (lv_at hl 2 rfl) ?_
          refine lv_if_eq (tgt := 49) hx hb dX4_ranged_39 (by decide) (fun h8 => ?_) (fun h8 => ?_)
          · skip
            refine lv_aload_n hx hb dX4_ranged_49 rfl (lv_at hl 1 rfl) ?_
            refine W.widen (k := 2) (n := 8) (by omega) (by omega) ?_
            exact rt_a (mu := fun _ => False) C0 (Or.inr ⟨_, rfl⟩) (Or.inr ⟨fun z => z.2.2 ⟨bI_n0 h1, (least_eq hv9 hn).mp (of_decide_eq_true (bI_n0 h2))⟩, a, rfl, Or.inl rfl, by unfold rgV; rw [if_neg (by rw [bI_0 h8]; decide)]; exact ha1⟩) hS rfl dX4_ranged_50
          · skip
            refine lv_aload_n hx hb dX4_ranged_42 rfl (lv_at hl 1 rfl) ?_
            refine cn_S (As := [.ref a]) (rest := []) C0 hl hK hS hA (fun z h => absurd h (fun z => z)) (c_negative l g H1 a k9 v (by omega) hv9 ha1) gX4_ranged_X4_negative rfl ⟨rfl, rfl⟩ (show hd_ok yX4_negative 1 from ⟨by decide, by decide, by decide +kernel⟩) ⟨Nat.le_of_ble_eq_true rfl, Nat.le_of_ble_eq_true rfl⟩ rfl (Nat.le_of_ble_eq_true rfl) ⟨by show _ ≤ 2; omega, by show _ ≤ 8; omega⟩ dX4_ranged_43 (fun r1 H9 locs hv hzz hk9 hS => ?_)
            obtain ⟨q9, rfl, hq9, g9⟩ := hv
            refine lv_goto (tgt := 50) hx hb dX4_ranged_46 (by decide) ?_
            refine W.widen (k := 2) (n := 8) (by omega) (by omega) ?_
            exact rt_a (mu := fun _ => False) C0 (Or.inr ⟨_, rfl⟩) (Or.inr ⟨fun z => z.2.2 ⟨bI_n0 h1, (least_eq hv9 hn).mp (of_decide_eq_true (bI_n0 h2))⟩, q9, rfl, Or.inr (by omega), by unfold rgV; rw [if_pos (bI_n0 h8)]; exact g9⟩) hS rfl dX4_ranged_50
end M54

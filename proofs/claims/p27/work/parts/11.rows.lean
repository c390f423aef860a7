-- the reference's readers of rows
theorem nI_inj {a b : Nat} (ha : a < 2 ^ 31) (hb : b < 2 ^ 31) (h : nI a = nI b) : a = b := (nI_eq ha hb).mp h
theorem nI_ltn {a b : Nat} (ha : a < 2 ^ 31) (hb : b < 2 ^ 31) (h : nI a < nI b) : a < b := (nI_ltI ha hb).mp h
theorem rw16_lt31 (v k : Nat) : v / 65536 ^ k % 65536 < 2 ^ 31 := Nat.lt_trans (rw16_lt v k) (by decide)
/-- all places alike: the numbers are the same -/
theorem rows_eq : ∀ (n u v : Nat), u < 65536 ^ n → v < 65536 ^ n → (∀ k, k < n → u / 65536 ^ k % 65536 = v / 65536 ^ k % 65536) → u = v
  | 0, u, v, hu, hv, _ => by
    rw [Nat.pow_zero] at hu hv
    omega
  | n + 1, u, v, hu, hv, h => by
    rw [Nat.pow_succ] at hu hv
    have h0 := h 0 (Nat.succ_pos n)
    rw [Nat.pow_zero, Nat.div_one, Nat.div_one] at h0
    have h1 := rows_eq n (u / 65536) (v / 65536) (Nat.div_lt_of_lt_mul (by rw [Nat.mul_comm]; exact hu)) (Nat.div_lt_of_lt_mul (by rw [Nat.mul_comm]; exact hv)) (fun k hk => by
      have h2 := h (k + 1) (Nat.succ_lt_succ hk)
      rw [Nat.pow_succ, Nat.mul_comm, ← Nat.div_div_eq_div_mul, ← Nat.div_div_eq_div_mul] at h2
      exact h2)
    omega
theorem rows_0 {n v : Nat} (hv : v < 65536 ^ n) (h : ∀ k, k < n → v / 65536 ^ k % 65536 = 0) : v = 0 :=
  rows_eq n v 0 hv (Nat.pow_pos (by decide)) (fun k hk => by rw [h k hk, Nat.zero_div])
/-- less, the same, more -/
def cmpI (u v : Nat) : Int32 := if u < v then (-1) else if u = v then nI 0 else nI 1
theorem top_lt {u v j : Nat} (h : u / 65536 ^ (j + 1) = v / 65536 ^ (j + 1)) (h2 : u / 65536 ^ j % 65536 < v / 65536 ^ j % 65536) : u < v := by
  rw [Nat.pow_succ, ← Nat.div_div_eq_div_mul, ← Nat.div_div_eq_div_mul] at h
  have h3 : u / 65536 ^ j < v / 65536 ^ j := by omega
  rcases Nat.lt_or_ge u v with q | q
  · exact q
  · exact absurd (Nat.div_le_div_right (c := 65536 ^ j) q) (Nat.not_le.mpr h3)
theorem top_eq {u v j : Nat} (h : u / 65536 ^ (j + 1) = v / 65536 ^ (j + 1)) (h2 : u / 65536 ^ j % 65536 = v / 65536 ^ j % 65536) : u / 65536 ^ j = v / 65536 ^ j := by
  rw [Nat.pow_succ, ← Nat.div_div_eq_div_mul, ← Nat.div_div_eq_div_mul] at h
  omega
theorem neg_num {n v : Nat} (hv : v < 65536 ^ (n + 1)) : (32768 ≤ v / 65536 ^ n % 65536) ↔ 65536 ^ (n + 1) ≤ 2 * v := by
  have h1 : v / 65536 ^ n < 65536 := Nat.div_lt_of_lt_mul (by rw [← Nat.pow_succ]; exact hv)
  rw [Nat.mod_eq_of_lt h1, Nat.le_div_iff_mul_le (Nat.pow_pos (by decide)), Nat.pow_succ]
  omega
section M11
variable {p : Program} {l : Launch} {e : Env} {s : State} {m : MethodId} {args : Array Value} {below : List Frame} {meth : Method} {c : Code} {H H0 : Heap} {locs : List Loc} {cells slots : Nat} {Q : State → Prop} {A : Nat → Prop} {g : Gx}
abbrev rmX4_isZero : Room := { frames := 0, cells := 0, slots := 0, locals := 0 }
set_option maxHeartbeats 4000000 in
set_option maxRecDepth 100000 in
theorem L_isZero (C0 : Cx p s m args meth c RX4 cX4_isZero 5 (some .boolean) wsX4_isZero) (hK : KK g s) {a n9 v : Nat} (hn9 : n9 < 1000) (ha : va_at g.1 vwCl (a, .inl (g.2 0, n9, .inl (rw16 v))) H) (K : (∀ k, k < n9 → v / 65536 ^ k % 65536 = 0) → ∀ (ls : Array Slot) (locs : List Loc), va_S (fun q => H.size ≤ q) H H locs → lv_has ls 5 [(3, .int (nI n9)), (2, .int (nI n9)), (1, .ref a), (0, .ref a)] → W p l e rmX4_isZero s m args below meth c H locs 0 0 Q (F0 m 30 ls [])) (K2 : ∀ (j : Nat) (hj : j < n9) (h : ¬ v / 65536 ^ j % 65536 = 0) (ls : Array Slot) (locs : List Loc), va_S (fun q => H.size ≤ q) H H locs → lv_has ls 5 [(4, .int (rw16 v j)), (3, .int (nI j)), (2, .int (nI n9)), (1, .ref a), (0, .ref a)] → W p l e rmX4_isZero s m args below meth c H locs 0 0 Q (F0 m 22 ls [])) : ∀ (n : Nat) (j : Nat), j ≤ n9 → (∀ k, k < j → v / 65536 ^ k % 65536 = 0) → n9 - j < n → ∀ (ls : Array Slot) (locs : List Loc), va_S (fun q => H.size ≤ q) H H locs → lv_has ls 5 [(3, .int (nI j)), (2, .int (nI n9)), (1, .ref a), (0, .ref a)] → W p l e rmX4_isZero s m args below meth c H locs 0 0 Q (F0 m 7 ls []) := by
  obtain ⟨hx, hb, hr, hml, hown, hts, hlk⟩ := id C0
  have hA : ∀ q : Nat, H.size ≤ q → H.size ≤ q := fun _ h => h
  intro n
  induction n with
  | zero => intro j _ _ h; exact absurd h (Nat.not_lt_zero _)
  | succ n ih =>
    intro j hj hz hn ls locs hS hl
    refine lv_iload_n hx hb dX4_isZero_7 rfl (lv_at hl 0 rfl) ?_
    refine lv_iload_n hx hb dX4_isZero_8 rfl (lv_at hl 1 rfl) ?_
    refine lv_icmp_ge (tgt := 30) hx hb dX4_isZero_9 (by decide) (fun h1 => ?_) (fun h1 => ?_)
    · skip
      have hge : n9 ≤ j := by
        rcases Nat.lt_or_ge j n9 with h | h
        · exact absurd h1 (nI_ge h (by omega))
        · exact h
      obtain rfl : j = n9 := by omega
      exact K hz ls locs hS hl
    · skip
      have hlt : j < n9 := by
        rcases Nat.lt_or_ge j n9 with h | h
        · exact h
        · exact absurd (nI_le h (by omega)) h1
      refine lv_aload_n hx hb dX4_isZero_12 rfl (lv_at hl 2 rfl) ?_
      refine lv_iload_n hx hb dX4_isZero_13 rfl (lv_at hl 0 rfl) ?_
      refine r_iald (j := j) hx hb hK hS ha (nA ha) hlt (by omega) dX4_isZero_14 ?_
      refine lv_istore (lv' := [(4, .int (rw16 v j)), (3, .int (nI j)), (2, .int (nI n9)), (1, .ref a), (0, .ref a)]) hx hb dX4_isZero_15 hl (by decide) rfl (fun ls hl => ?_)
      refine lv_iload hx hb dX4_isZero_17 (lv_at hl 0 rfl) ?_
      refine lv_if_le (tgt := 24) hx hb dX4_isZero_19 (by decide) (fun h2 => ?_) (fun h2 => ?_)
      · skip
        have h3 : v / 65536 ^ j % 65536 = 0 := by
          have h4 : v / 65536 ^ j % 65536 ≤ 0 := (nI_leI (rw16_lt31 v j) (by decide)).mp h2
          omega
        refine lv_iinc (v := nI (j + 1)) (lv' := [(3, .int (nI (j + 1))), (4, .int (rw16 v j)), (2, .int (nI n9)), (1, .ref a), (0, .ref a)]) hx hb dX4_isZero_24 hl (k := 1) rfl (nI_1 _) (by decide) rfl (fun ls hl => ?_)
        refine lv_goto (tgt := 7) hx hb dX4_isZero_27 (by decide) ?_
        exact ih (j + 1) hlt (fun k hk => by rcases Nat.lt_or_ge k j with q | q; exact hz k q; rw [show k = j by omega]; exact h3) (by omega) ls locs hS (lv_sub hl [0, 2, 3, 4] rfl)
      · skip
        exact K2 j hlt (fun h => h2 (by show nI (v / 65536 ^ j % 65536) ≤ 0; rw [h]; decide)) ls locs hS hl
set_option maxHeartbeats 4000000 in
set_option maxRecDepth 100000 in
/-- isZero(own) -/
theorem c_isZero (l : Launch) (g : Gx) (H0 : Heap) (a n9 v : Nat) (hn9 : n9 < 1000) (hv : v < 65536 ^ n9) (ha : va_at g.1 vwCl (a, .inl (g.2 0, n9, .inl (rw16 v))) H0) : Met l yX4_isZero wsX4_isZero rmX4_isZero (va_Pc [.ref a] (hB g H0)) (pQ (some (.int (bI (decide (v = 0))))) H0) 0 0 (fun q => H0.size ≤ q) := by
  refine cx_met (own := RX4) (cc := cX4_isZero) (maxL := 5) (by decide) rfl rfl (Nat.le_of_ble_eq_true rfl) ?_
  intro p e s m below meth c ls C0 hB0 hnm hl
  obtain ⟨hH, hK⟩ := hB0
  obtain ⟨hx, hb, hr, hml, hown, hts, hlk⟩ := id C0
  subst hH
  have hS : va_S (fun q => s.heap.size ≤ q) s.heap s.heap [] := va_S.rf
  have hA : ∀ q : Nat, s.heap.size ≤ q → s.heap.size ≤ q := fun q h => h
  have hl : lv_has ls 5 [(0, .ref a)] := hl
  refine lv_aload_n hx hb dX4_isZero_0 rfl (lv_at hl 0 rfl) ?_
  refine lv_astore_n (lv' := [(1, .ref a), (0, .ref a)]) hx hb dX4_isZero_1 rfl hl (by decide) rfl (fun ls hl => ?_)
  refine lv_aload_n hx hb dX4_isZero_2 rfl (lv_at hl 0 rfl) ?_
  refine r_alen hx hb hK hS ha (nA ha) dX4_isZero_3 ?_
  refine lv_istore_n (lv' := [(2, .int (nI n9)), (1, .ref a), (0, .ref a)]) hx hb dX4_isZero_4 rfl hl (by decide) rfl (fun ls hl => ?_)
  refine lv_iconst (v := nI 0) hx hb dX4_isZero_5 (by decide) ?_
  refine lv_istore_n (lv' := [(3, .int (nI 0)), (2, .int (nI n9)), (1, .ref a), (0, .ref a)]) hx hb dX4_isZero_6 rfl hl (by decide) rfl (fun ls hl => ?_)
  refine L_isZero C0 hK hn9 ha (fun hz ls locs hS hl => ?_) (fun j hj h ls locs hS hl => ?_) (n9 + 1) 0 (Nat.zero_le _) (fun k hk => absurd hk (Nat.not_lt_zero _)) (by omega) ls [] hS hl
  · skip
    refine lv_iconst (v := nI 1) hx hb dX4_isZero_30 (by decide) ?_
    exact rt_z C0 (bI_t (decide_eq_true (rows_0 hv hz))).symm z1 hS rfl dX4_isZero_31
  · skip
    refine lv_iconst (v := nI 0) hx hb dX4_isZero_22 (by decide) ?_
    exact rt_z C0 (bI_f (decide_eq_false (fun e => h (by rw [e, Nat.zero_div])))).symm z0 hS rfl dX4_isZero_23
abbrev rmX4_isNegative : Room := { frames := 0, cells := 0, slots := 0, locals := 0 }
set_option maxHeartbeats 4000000 in
set_option maxRecDepth 100000 in
/-- isNegative(own) -/
theorem c_isNegative (l : Launch) (g : Gx) (H0 : Heap) (a n9 v : Nat) (hn9 : n9 < 1000) (hv : v < 65536 ^ (n9 + 1)) (ha : va_at g.1 vwCl (a, .inl (g.2 0, n9 + 1, .inl (rw16 v))) H0) : Met l yX4_isNegative wsX4_isNegative rmX4_isNegative (va_Pc [.ref a] (hB g H0)) (pQ (some (.int (bI (decide (65536 ^ (n9 + 1) ≤ 2 * v))))) H0) 0 0 (fun q => H0.size ≤ q) := by
  refine cx_met (own := RX4) (cc := cX4_isNegative) (maxL := 1) (by decide) rfl rfl (Nat.le_of_ble_eq_true rfl) ?_
  intro p e s m below meth c ls C0 hB0 hnm hl
  obtain ⟨hH, hK⟩ := hB0
  obtain ⟨hx, hb, hr, hml, hown, hts, hlk⟩ := id C0
  subst hH
  have hS : va_S (fun q => s.heap.size ≤ q) s.heap s.heap [] := va_S.rf
  have hA : ∀ q : Nat, s.heap.size ≤ q → s.heap.size ≤ q := fun q h => h
  have hl : lv_has ls 1 [(0, .ref a)] := hl
  refine lv_aload_n hx hb dX4_isNegative_0 rfl (lv_at hl 0 rfl) ?_
  refine lv_aload_n hx hb dX4_isNegative_1 rfl (lv_at hl 0 rfl) ?_
  refine r_alen hx hb hK hS ha (nA ha) dX4_isNegative_2 ?_
  refine lv_iconst (v := nI 1) hx hb dX4_isNegative_3 (by decide) ?_
  refine lv_isub hx hb dX4_isNegative_4 ?_
  refine tp_i (y := nI n9) (pk_sub (Nat.le_add_left 1 n9)) ?_
  refine r_iald (j := n9) hx hb hK hS ha (nA ha) (Nat.lt_succ_self n9) (by omega) dX4_isNegative_5 ?_
  refine lv_ldc (v := nI 32768) hx hb hown (hts (.constant RX4 43 (32768)) (by decide +kernel)) dX4_isNegative_6 ?_
  refine lv_icmp_lt (tgt := 15) hx hb dX4_isNegative_8 (by decide) (fun h1 => ?_) (fun h1 => ?_)
  · skip
    refine lv_iconst (v := nI 0) hx hb dX4_isNegative_15 (by decide) ?_
    exact rt_z C0 (bI_f (decide_eq_false (fun h => absurd ((neg_num hv).mpr h) (Nat.not_le.mpr ((nI_ltI (rw16_lt31 v n9) (by decide)).mp h1))))).symm z0 hS rfl dX4_isNegative_16
  · skip
    refine lv_iconst (v := nI 1) hx hb dX4_isNegative_11 (by decide) ?_
    refine lv_goto (tgt := 16) hx hb dX4_isNegative_12 (by decide) ?_
    exact rt_z C0 (bI_t (decide_eq_true ((neg_num hv).mp (Nat.not_lt.mp (fun h => h1 ((nI_ltI (rw16_lt31 v n9) (by decide)).mpr h)))))).symm z1 hS rfl dX4_isNegative_16
abbrev rmX4_isSame : Room := { frames := 0, cells := 0, slots := 0, locals := 0 }
set_option maxHeartbeats 4000000 in
set_option maxRecDepth 100000 in
theorem L_isSame (C0 : Cx p s m args meth c RX4 cX4_isSame 3 (some .boolean) wsX4_isSame) (hK : KK g s) {a b n9 u v : Nat} (hn9 : n9 < 1000) (ha : va_at g.1 vwCl (a, .inl (g.2 0, n9, .inl (rw16 u))) H) (hb9 : va_at g.1 vwCl (b, .inl (g.2 0, n9, .inl (rw16 v))) H) (K : ∀ (hz : ∀ k, k < n9 → u / 65536 ^ k % 65536 = v / 65536 ^ k % 65536) (ls : Array Slot) (locs : List Loc), va_S (fun q => H.size ≤ q) H H locs → lv_has ls 3 [(2, .int (nI n9)), (0, .ref a), (1, .ref b)] → W p l e rmX4_isSame s m args below meth c H locs 0 0 Q (F0 m 25 ls [])) (K2 : ∀ (j : Nat) (hj : j < n9) (h : ¬ u / 65536 ^ j % 65536 = v / 65536 ^ j % 65536) (ls : Array Slot) (locs : List Loc), va_S (fun q => H.size ≤ q) H H locs → lv_has ls 3 [(2, .int (nI j)), (0, .ref a), (1, .ref b)] → W p l e rmX4_isSame s m args below meth c H locs 0 0 Q (F0 m 17 ls [])) : ∀ (n : Nat) (j : Nat), j ≤ n9 → (∀ k, k < j → u / 65536 ^ k % 65536 = v / 65536 ^ k % 65536) → n9 - j < n → ∀ (ls : Array Slot) (locs : List Loc), va_S (fun q => H.size ≤ q) H H locs → lv_has ls 3 [(2, .int (nI j)), (0, .ref a), (1, .ref b)] → W p l e rmX4_isSame s m args below meth c H locs 0 0 Q (F0 m 2 ls []) := by
  obtain ⟨hx, hb, hr, hml, hown, hts, hlk⟩ := id C0
  have hA : ∀ q : Nat, H.size ≤ q → H.size ≤ q := fun _ h => h
  intro n
  induction n with
  | zero => intro j _ _ h; exact absurd h (Nat.not_lt_zero _)
  | succ n ih =>
    intro j hj hz hn ls locs hS hl
    refine lv_iload_n hx hb dX4_isSame_2 rfl (lv_at hl 0 rfl) ?_
    refine lv_aload_n hx hb dX4_isSame_3 rfl (lv_at hl 1 rfl) ?_
    refine r_alen hx hb hK hS ha (nA ha) dX4_isSame_4 ?_
    refine lv_icmp_ge (tgt := 25) hx hb dX4_isSame_5 (by decide) (fun h1 => ?_) (fun h1 => ?_)
    · skip
      have hge : n9 ≤ j := by
        rcases Nat.lt_or_ge j n9 with h | h
        · exact absurd h1 (nI_ge h (by omega))
        · exact h
      obtain rfl : j = n9 := by omega
      exact K hz ls locs hS hl
    · skip
      have hlt : j < n9 := by
        rcases Nat.lt_or_ge j n9 with h | h
        · exact h
        · exact absurd (nI_le h (by omega)) h1
      refine lv_aload_n hx hb dX4_isSame_8 rfl (lv_at hl 1 rfl) ?_
      refine lv_iload_n hx hb dX4_isSame_9 rfl (lv_at hl 0 rfl) ?_
      refine r_iald (j := j) hx hb hK hS ha (nA ha) hlt (by omega) dX4_isSame_10 ?_
      refine lv_aload_n hx hb dX4_isSame_11 rfl (lv_at hl 2 rfl) ?_
      refine lv_iload_n hx hb dX4_isSame_12 rfl (lv_at hl 0 rfl) ?_
      refine r_iald (j := j) hx hb hK hS hb9 (nA hb9) hlt (by omega) dX4_isSame_13 ?_
      refine lv_icmp_eq (tgt := 19) hx hb dX4_isSame_14 (by decide) (fun h2 => ?_) (fun h2 => ?_)
      · skip
        have h3 := nI_inj (rw16_lt31 u j) (rw16_lt31 v j) h2
        refine lv_iinc (v := nI (j + 1)) (lv' := [(2, .int (nI (j + 1))), (0, .ref a), (1, .ref b)]) hx hb dX4_isSame_19 hl (k := 0) rfl (nI_1 _) (by decide) rfl (fun ls hl => ?_)
        refine lv_goto (tgt := 2) hx hb dX4_isSame_22 (by decide) ?_
        exact ih (j + 1) hlt (fun k hk => by rcases Nat.lt_or_ge k j with q | q; exact hz k q; rw [show k = j by omega]; exact h3) (by omega) ls locs hS (lv_sub hl [0, 1, 2] rfl)
      · skip
        exact K2 j hlt (fun h => h2 (congrArg nI h)) ls locs hS hl
set_option maxHeartbeats 4000000 in
set_option maxRecDepth 100000 in
/-- isSame(one, other) -/
theorem c_isSame (l : Launch) (g : Gx) (H0 : Heap) (a b n9 u v : Nat) (hn9 : n9 < 1000) (hu : u < 65536 ^ n9) (hv : v < 65536 ^ n9) (ha : va_at g.1 vwCl (a, .inl (g.2 0, n9, .inl (rw16 u))) H0) (hb9 : va_at g.1 vwCl (b, .inl (g.2 0, n9, .inl (rw16 v))) H0) : Met l yX4_isSame wsX4_isSame rmX4_isSame (va_Pc [.ref a, .ref b] (hB g H0)) (pQ (some (.int (bI (decide (u = v))))) H0) 0 0 (fun q => H0.size ≤ q) := by
  refine cx_met (own := RX4) (cc := cX4_isSame) (maxL := 3) (by decide) rfl rfl (Nat.le_of_ble_eq_true rfl) ?_
  intro p e s m below meth c ls C0 hB0 hnm hl
  obtain ⟨hH, hK⟩ := hB0
  obtain ⟨hx, hb, hr, hml, hown, hts, hlk⟩ := id C0
  subst hH
  have hS : va_S (fun q => s.heap.size ≤ q) s.heap s.heap [] := va_S.rf
  have hA : ∀ q : Nat, s.heap.size ≤ q → s.heap.size ≤ q := fun q h => h
  have hl : lv_has ls 3 [(0, .ref a), (1, .ref b)] := hl
  refine lv_iconst (v := nI 0) hx hb dX4_isSame_0 (by decide) ?_
  refine lv_istore_n (lv' := [(2, .int (nI 0)), (0, .ref a), (1, .ref b)]) hx hb dX4_isSame_1 rfl hl (by decide) rfl (fun ls hl => ?_)
  refine L_isSame C0 hK hn9 ha hb9 (fun hz ls locs hS hl => ?_) (fun j hj h ls locs hS hl => ?_) (n9 + 1) 0 (Nat.zero_le _) (fun k hk => absurd hk (Nat.not_lt_zero _)) (by omega) ls [] hS hl
  · skip
    refine lv_iconst (v := nI 1) hx hb dX4_isSame_25 (by decide) ?_
    exact rt_z C0 (bI_t (decide_eq_true (rows_eq n9 u v hu hv hz))).symm z1 hS rfl dX4_isSame_26
  · skip
    refine lv_iconst (v := nI 0) hx hb dX4_isSame_17 (by decide) ?_
    exact rt_z C0 (bI_f (decide_eq_false (fun e => h (by rw [e])))).symm z0 hS rfl dX4_isSame_18
abbrev rmX4_compare : Room := { frames := 0, cells := 0, slots := 0, locals := 0 }
set_option maxHeartbeats 4000000 in
set_option maxRecDepth 100000 in
theorem L_compare (C0 : Cx p s m args meth c RX4 cX4_compare 3 (some .int) wsX4_compare) (hK : KK g s) {a b n9 u v : Nat} (hn9 : n9 < 1000) (ha : va_at g.1 vwCl (a, .inl (g.2 0, n9, .inl (rw16 u))) H) (hb9 : va_at g.1 vwCl (b, .inl (g.2 0, n9, .inl (rw16 v))) H) (K : ∀ (x : Int32) (h : u = v) (ls : Array Slot) (locs : List Loc), va_S (fun q => H.size ≤ q) H H locs → lv_has ls 3 [(2, .int x), (0, .ref a), (1, .ref b)] → W p l e rmX4_compare s m args below meth c H locs 0 0 Q (F0 m 39 ls [])) (K2 : ∀ (x : Int32) (r : Int32) (h : r = cmpI u v) (ls : Array Slot) (locs : List Loc), va_S (fun q => H.size ≤ q) H H locs → lv_has ls 3 [(2, .int x), (0, .ref a), (1, .ref b)] → W p l e rmX4_compare s m args below meth c H locs 0 0 Q (F0 m 32 ls [.int r])) : ∀ (n : Nat) (i : Nat) (x : Int32), x = nI i - nI 1 → i ≤ n9 → u / 65536 ^ i = v / 65536 ^ i → i < n → ∀ (ls : Array Slot) (locs : List Loc), va_S (fun q => H.size ≤ q) H H locs → lv_has ls 3 [(2, .int x), (0, .ref a), (1, .ref b)] → W p l e rmX4_compare s m args below meth c H locs 0 0 Q (F0 m 5 ls []) := by
  obtain ⟨hx, hb, hr, hml, hown, hts, hlk⟩ := id C0
  have hA : ∀ q : Nat, H.size ≤ q → H.size ≤ q := fun _ h => h
  intro n
  induction n with
  | zero => intro i x _ _ _ h; exact absurd h (Nat.not_lt_zero _)
  | succ n ih =>
    intro i x ex hi ht hn ls locs hS hl
    refine lv_iload_n hx hb dX4_compare_5 rfl (lv_at hl 0 rfl) ?_
    refine lv_if_lt (tgt := 39) hx hb dX4_compare_6 (by decide) (fun h1 => ?_) (fun h1 => ?_)
    · skip
      cases i with
      | zero =>
        rw [Nat.pow_zero, Nat.div_one, Nat.div_one] at ht
        exact K x ht ls locs hS hl
      | succ j =>
        rw [ex, pk_sub (Nat.le_add_left 1 j), Nat.add_sub_cancel] at h1
        exact absurd h1 (nI_pos (by omega))
    · skip
      cases i with
      | zero => exact absurd (by rw [ex]; decide) h1
      | succ j =>
        obtain rfl : x = nI j := by rw [ex, pk_sub (Nat.le_add_left 1 j), Nat.add_sub_cancel]
        refine lv_aload_n hx hb dX4_compare_9 rfl (lv_at hl 1 rfl) ?_
        refine lv_iload_n hx hb dX4_compare_10 rfl (lv_at hl 0 rfl) ?_
        refine r_iald (j := j) hx hb hK hS ha (nA ha) (by omega) (by omega) dX4_compare_11 ?_
        refine lv_aload_n hx hb dX4_compare_12 rfl (lv_at hl 2 rfl) ?_
        refine lv_iload_n hx hb dX4_compare_13 rfl (lv_at hl 0 rfl) ?_
        refine r_iald (j := j) hx hb hK hS hb9 (nA hb9) (by omega) (by omega) dX4_compare_14 ?_
        refine lv_icmp_eq (tgt := 33) hx hb dX4_compare_15 (by decide) (fun h2 => ?_) (fun h2 => ?_)
        · skip
          have h3 := nI_inj (rw16_lt31 u j) (rw16_lt31 v j) h2
          refine lv_iinc (v := nI j - nI 1) (lv' := [(2, .int (nI j - nI 1)), (0, .ref a), (1, .ref b)]) hx hb dX4_compare_33 hl (k := 0) rfl ((by rw [show nI j - nI 1 = nI j + -nI 1 from Int32.sub_eq_add_neg _ _]; rfl)) (by decide) rfl (fun ls hl => ?_)
          refine lv_goto (tgt := 5) hx hb dX4_compare_36 (by decide) ?_
          exact ih j _ rfl (by omega) (top_eq ht h3) (by omega) ls locs hS (lv_sub hl [0, 1, 2] rfl)
        · skip
          refine lv_aload_n hx hb dX4_compare_18 rfl (lv_at hl 1 rfl) ?_
          refine lv_iload_n hx hb dX4_compare_19 rfl (lv_at hl 0 rfl) ?_
          refine r_iald (j := j) hx hb hK hS ha (nA ha) (by omega) (by omega) dX4_compare_20 ?_
          refine lv_aload_n hx hb dX4_compare_21 rfl (lv_at hl 2 rfl) ?_
          refine lv_iload_n hx hb dX4_compare_22 rfl (lv_at hl 0 rfl) ?_
          refine r_iald (j := j) hx hb hK hS hb9 (nA hb9) (by omega) (by omega) dX4_compare_23 ?_
          refine lv_icmp_ge (tgt := 31) hx hb dX4_compare_24 (by decide) (fun h3 => ?_) (fun h3 => ?_)
          · skip
            refine lv_iconst (v := nI 1) hx hb dX4_compare_31 (by decide) ?_
            refine K2 (nI j) (nI 1) ?_ ls locs hS hl
            have h4 : v / 65536 ^ j % 65536 < u / 65536 ^ j % 65536 := Nat.lt_of_le_of_ne ((nI_leI (rw16_lt31 v j) (rw16_lt31 u j)).mp h3) (fun e => h2 (congrArg nI e.symm))
            have h5 := top_lt ht.symm h4
            unfold cmpI
            rw [if_neg (by omega), if_neg (by omega)]
          · skip
            refine lv_iconst (v := (-1)) hx hb dX4_compare_27 (by decide) ?_
            refine lv_goto (tgt := 32) hx hb dX4_compare_28 (by decide) ?_
            refine K2 (nI j) (-1) ?_ ls locs hS hl
            have h4 : u / 65536 ^ j % 65536 < v / 65536 ^ j % 65536 := Nat.not_le.mp (fun z => h3 ((nI_leI (rw16_lt31 v j) (rw16_lt31 u j)).mpr z))
            have h5 := top_lt ht h4
            unfold cmpI
            rw [if_pos h5]
set_option maxHeartbeats 4000000 in
set_option maxRecDepth 100000 in
/-- compare(one, other) -/
theorem c_compare (l : Launch) (g : Gx) (H0 : Heap) (a b n9 u v : Nat) (hn9 : n9 < 1000) (hu : u < 65536 ^ n9) (hv : v < 65536 ^ n9) (ha : va_at g.1 vwCl (a, .inl (g.2 0, n9, .inl (rw16 u))) H0) (hb9 : va_at g.1 vwCl (b, .inl (g.2 0, n9, .inl (rw16 v))) H0) : Met l yX4_compare wsX4_compare rmX4_compare (va_Pc [.ref a, .ref b] (hB g H0)) (pQ (some (.int (cmpI u v))) H0) 0 0 (fun q => H0.size ≤ q) := by
  refine cx_met (own := RX4) (cc := cX4_compare) (maxL := 3) (by decide) rfl rfl (Nat.le_of_ble_eq_true rfl) ?_
  intro p e s m below meth c ls C0 hB0 hnm hl
  obtain ⟨hH, hK⟩ := hB0
  obtain ⟨hx, hb, hr, hml, hown, hts, hlk⟩ := id C0
  subst hH
  have hS : va_S (fun q => s.heap.size ≤ q) s.heap s.heap [] := va_S.rf
  have hA : ∀ q : Nat, s.heap.size ≤ q → s.heap.size ≤ q := fun q h => h
  have hl : lv_has ls 3 [(0, .ref a), (1, .ref b)] := hl
  refine lv_aload_n hx hb dX4_compare_0 rfl (lv_at hl 0 rfl) ?_
  refine r_alen hx hb hK hS ha (nA ha) dX4_compare_1 ?_
  refine lv_iconst (v := nI 1) hx hb dX4_compare_2 (by decide) ?_
  refine lv_isub hx hb dX4_compare_3 ?_
  refine tp_i (y := nI n9 - nI 1) (rfl) ?_
  refine lv_istore_n (lv' := [(2, .int (nI n9 - nI 1)), (0, .ref a), (1, .ref b)]) hx hb dX4_compare_4 rfl hl (by decide) rfl (fun ls hl => ?_)
  refine L_compare C0 hK hn9 ha hb9 (fun x h ls locs hS hl => ?_) (fun x r h ls locs hS hl => ?_) (n9 + 1) n9 _ rfl (Nat.le_refl _) (by rw [Nat.div_eq_of_lt hu, Nat.div_eq_of_lt hv]) (by omega) ls [] hS hl
  · skip
    refine lv_iconst (v := nI 0) hx hb dX4_compare_39 (by decide) ?_
    exact rt_i C0 (by unfold cmpI; rw [if_neg (by omega), if_pos h]) hS rfl dX4_compare_40
  · skip
    exact rt_i C0 h hS rfl dX4_compare_32
end M11

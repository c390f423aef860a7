-- the reference's long division
theorem div_step {U v b : Nat} (h : 0 < v) : (2 * U + b) / v = 2 * (U / v) + (2 * (U % v) + b) / v ∧ (2 * U + b) % v = (2 * (U % v) + b) % v := by
  obtain ⟨q, r, e1, e2⟩ : ∃ q r, U / v = q ∧ U % v = r := ⟨_, _, rfl, rfl⟩
  have e : 2 * U + b = v * (2 * q) + (2 * r + b) := by
    have h1 := Nat.div_add_mod U v
    rw [e1, e2] at h1
    rw [Nat.mul_left_comm]
    omega
  rw [e1, e2, e, Nat.mul_add_div h, Nat.mul_add_mod]
  exact ⟨rfl, rfl⟩
theorem half_up (u j : Nat) : u / 2 ^ j = 2 * (u / 2 ^ (j + 1)) + u / 2 ^ j % 2 := by
  rw [Nat.pow_succ, ← Nat.div_div_eq_div_mul]
  omega
theorem pcN_split (w p : Nat) : ∀ k, pcN w (p + k) = pcN w p + pcN (w / 2 ^ p) k
  | 0 => rfl
  | k + 1 => by
    show pcN w (p + k) + w / 2 ^ (p + k) % 2 = pcN w p + (pcN (w / 2 ^ p) k + w / 2 ^ p / 2 ^ k % 2)
    rw [pcN_split w p k, Nat.div_div_eq_div_mul, ← Nat.pow_add]
    omega
theorem pcN_top {w p N : Nat} (h : p ≤ N) : pcN (w / 2 ^ p) (N - p) ≤ pcN w N := by
  have h1 := pcN_split w p (N - p)
  rw [show p + (N - p) = N by omega] at h1
  omega
/-- what the division makes down to the place p -/
def dcost (N u v p : Nat) : Nat := 3 + (N - p) + 2 * pcN (u / 2 ^ p / v) (N - p)
theorem dc_step {N u v j b : Nat} (hj : j < N) (hb : b < 2) (h : u / 2 ^ j / v = 2 * (u / 2 ^ (j + 1) / v) + b) : dcost N u v j = dcost N u v (j + 1) + 1 + 2 * b := by
  unfold dcost
  have h1 := pcN_split (u / 2 ^ j / v) 1 (N - (j + 1))
  rw [show 1 + (N - (j + 1)) = N - j by omega] at h1
  have h2 : pcN (u / 2 ^ j / v) 1 = b := by
    show 0 + u / 2 ^ j / v / 2 ^ 0 % 2 = b
    rw [Nat.pow_zero, Nat.div_one]
    omega
  have h3 : u / 2 ^ j / v / 2 ^ 1 = u / 2 ^ (j + 1) / v := by rw [Nat.pow_one]; omega
  rw [h1, h2, h3]
  omega
theorem dc_le {N u v j : Nat} (hj : j ≤ N) : dcost N u v j ≤ dcost N u v 0 := by
  unfold dcost
  have h : u / 2 ^ j / v = u / v / 2 ^ j := by rw [Nat.div_div_eq_div_mul, Nat.div_div_eq_div_mul, Nat.mul_comm]
  have h1 := pcN_top (w := u / v) hj
  rw [h, Nat.pow_zero, Nat.div_one, Nat.sub_zero]
  omega
theorem c_isNeg (l : Launch) (g : Gx) (H0 : Heap) (a n9 v : Nat) (hn9 : n9 = 2 ∨ n9 = 4) (hv : v < 65536 ^ n9) (ha : va_at g.1 vwCl (a, .inl (g.2 0, n9, .inl (rw16 v))) H0) : Met l yX4_isNegative wsX4_isNegative rmX4_isNegative (va_Pc [.ref a] (hB g H0)) (pQ (some (.int (bI (decide (65536 ^ n9 ≤ 2 * v))))) H0) 0 0 (fun q => H0.size ≤ q) := by
  rcases hn9 with rfl | rfl
  · exact c_isNegative l g H0 a 1 v (by decide) hv ha
  · exact c_isNegative l g H0 a 3 v (by decide) hv ha
/-- quotient and rest, as two new rows of a new one -/
def dvR (g : Gx) (H0 : Heap) (n x y : Nat) : Option Value → Heap → Prop := fun r H1 => ∃ (q r0 r1 : Nat) (f : Nat → Option Nat), r = some (.ref q) ∧ H0.size ≤ q ∧ H0.size ≤ r0 ∧ H0.size ≤ r1 ∧ f 0 = some r0 ∧ f 1 = some r1 ∧
  va_at g.1 vwCl (q, gRow 2 f g) H1 ∧ va_at g.1 vwCl (r0, .inl (g.2 0, n, .inl (rw16 x))) H1 ∧ va_at g.1 vwCl (r1, .inl (g.2 0, n, .inl (rw16 y))) H1
theorem dbl_even {n9 r : Nat} (hn9 : n9 = 2 ∨ n9 = 4) : (r + r) % 65536 ^ n9 / 2 ^ 0 % 2 = 0 := by
  rcases hn9 with rfl | rfl <;> omega
theorem sub_num {n9 r b v : Nat} (hn9 : n9 = 2 ∨ n9 = 4) (hv : v < 65536 ^ n9) (hr : r < v) (hb : b < 2) (h : v ≤ 2 * r + b) : ((r + r) % 65536 ^ n9 + b + (65536 ^ n9 - v) % 65536 ^ n9) % 65536 ^ n9 = 2 * r + b - v := by
  rcases hn9 with rfl | rfl <;> omega
section M16
variable {p : Program} {l : Launch} {e : Env} {s : State} {m : MethodId} {args : Array Value} {below : List Frame} {meth : Method} {c : Code} {H H0 : Heap} {locs : List Loc} {cells slots : Nat} {Q : State → Prop} {A : Nat → Prop} {g : Gx}
abbrev rmX4_divided (k : Nat) : Room := { frames := 3, cells := k, slots := 4 * k, locals := 66 }
set_option maxHeartbeats 4000000 in
set_option maxRecDepth 100000 in
theorem L_divided (C0 : Cx p s m args meth c RX4 cX4_divided 5 (some (.array (.array .int))) wsX4_divided) (hK : KK g s) {a b q r0 n9 u v k9 : Nat} (hn9 : n9 = 2 ∨ n9 = 4) (hu : u < 65536 ^ n9) (hvb : v < 65536 ^ n9) (hv0 : 0 < v) (ha : va_at g.1 vwCl (a, .inl (g.2 0, n9, .inl (rw16 u))) H0) (hb9 : va_at g.1 vwCl (b, .inl (g.2 0, n9, .inl (rw16 v))) H0) (hk9 : dcost (16 * n9) u v 0 ≤ k9)
    (K : ∀ (x : Int32) (r1 : Nat) (f : Nat → Option Nat) (ls : Array Slot) (H : Heap) (locs : List Loc), f 0 = some r0 → f 1 = some r1 → va_P g.1 vwCl [(q, gRow 2 f g), (r0, .inl (g.2 0, n9, .inl (rw16 (u / v)))), (r1, .inl (g.2 0, n9, .inl (rw16 (u % v))))] H → va_D (fun q => False ∨ H0.size ≤ q) [(q, gRow 2 f g), (r0, .inl (g.2 0, n9, .inl (rw16 (u / v)))), (r1, .inl (g.2 0, n9, .inl (rw16 (u % v))))] → va_S (fun q => False ∨ H0.size ≤ q) H0 H locs → lv_has ls 5 [(3, .int x), (2, .ref q), (0, .ref a), (1, .ref b)] → W p l e (rmX4_divided k9) s m args below meth c H locs (dcost (16 * n9) u v 0) (4 * dcost (16 * n9) u v 0) Q (F0 m 97 ls [])) :
    ∀ (n p9 : Nat) (x : Int32) (r1 : Nat) (f : Nat → Option Nat), x = nI p9 - nI 1 → p9 ≤ 16 * n9 → f 0 = some r0 → f 1 = some r1 → p9 < n → ∀ (ls : Array Slot) (H : Heap) (locs : List Loc), va_P g.1 vwCl [(q, gRow 2 f g), (r0, .inl (g.2 0, n9, .inl (rw16 ((u / 2 ^ p9 / v) * 2 ^ p9)))), (r1, .inl (g.2 0, n9, .inl (rw16 (u / 2 ^ p9 % v))))] H → va_D (fun q => False ∨ H0.size ≤ q) [(q, gRow 2 f g), (r0, .inl (g.2 0, n9, .inl (rw16 ((u / 2 ^ p9 / v) * 2 ^ p9)))), (r1, .inl (g.2 0, n9, .inl (rw16 (u / 2 ^ p9 % v))))] → va_S (fun q => False ∨ H0.size ≤ q) H0 H locs → lv_has ls 5 [(3, .int x), (2, .ref q), (0, .ref a), (1, .ref b)] → W p l e (rmX4_divided k9) s m args below meth c H locs (dcost (16 * n9) u v p9) (4 * dcost (16 * n9) u v p9) Q (F0 m 15 ls []) := by
  obtain ⟨hx, hb, hr, hml, hown, hts, hlk⟩ := id C0
  have hA : ∀ q : Nat, H0.size ≤ q → (fun q => False ∨ H0.size ≤ q) q := fun _ h => Or.inr h
  intro n
  induction n with
  | zero => intro p9 x r1 f _ _ _ _ h; exact absurd h (Nat.not_lt_zero _)
  | succ n ih =>
    intro p9 x r1 f ex hp9 hf0 hf1 hn ls H locs hP hD hS hl
    refine lv_iload_n hx hb dX4_divided_15 rfl (lv_at hl 0 rfl) ?_
    refine lv_if_lt (tgt := 97) hx hb dX4_divided_16 (by decide) (fun h1 => ?_) (fun h1 => ?_)
    · skip
      cases p9 with
      | zero =>
        rw [Nat.pow_zero, Nat.div_one, Nat.mul_one] at hP hD
        exact K x r1 f ls H locs hf0 hf1 hP hD hS hl
      | succ j =>
        rw [ex, pk_sub (Nat.le_add_left 1 j), Nat.add_sub_cancel] at h1
        exact absurd h1 (nI_pos (by omega))
    · skip
      cases p9 with
      | zero => exact absurd (by rw [ex]; decide) h1
      | succ j =>
        obtain rfl : x = nI j := by rw [ex, pk_sub (Nat.le_add_left 1 j), Nat.add_sub_cancel]
        obtain ⟨y9, ey9⟩ : ∃ y, y = u / 2 ^ (j + 1) % v := ⟨_, rfl⟩
        obtain ⟨z9, ez9⟩ : ∃ y, y = u / 2 ^ j % 2 := ⟨_, rfl⟩
        have hy9 : y9 < v := by rw [ey9]; exact Nat.mod_lt _ hv0
        have hz9 : z9 < 2 := by rw [ez9]; exact Nat.mod_lt _ (by decide)
        have hst := div_step (U := u / 2 ^ (j + 1)) (b := z9) hv0
        rw [ez9, ← half_up u j, ← ez9, ← ey9] at hst
        have hbd : dcost (16 * n9) u v j ≤ k9 := Nat.le_trans (dc_le (by omega)) hk9
        have hbd1 : dcost (16 * n9) u v (j + 1) + 1 ≤ dcost (16 * n9) u v j := by
          have hq9 : (2 * y9 + z9) / v < 2 := Nat.div_lt_of_lt_mul (by omega)
          rw [dc_step (by omega) hq9 hst.1]
          omega
        have hcc : dcost (16 * n9) u v (j + 1) ≤ (rmX4_divided k9).cells ∧ 4 * dcost (16 * n9) u v (j + 1) ≤ (rmX4_divided k9).slots := ⟨by show _ ≤ k9; omega, by show _ ≤ 4 * k9; omega⟩
        rw [← ey9] at hP hD
        refine lv_aload_n hx hb dX4_divided_19 rfl (lv_at hl 1 rfl) ?_
        refine lv_iconst (v := nI 1) hx hb dX4_divided_20 (by decide) ?_
        refine w_aald (j := 1) hx hb hK (hP 0 _ rfl) (by decide) (by decide) hf1 dX4_divided_21 ?_
        refine cp_S (As := [.ref r1]) (rest := []) C0 hl hK hS hA (c_isNeg l g H r1 n9 y9 hn9 (Nat.lt_trans hy9 hvb) (hP 2 _ rfl)) gX4_divided_X4_isNegative rfl ⟨rfl, rfl⟩ (show hd_ok yX4_isNegative 1 from ⟨by decide, by decide, by decide +kernel⟩) ⟨Nat.le_of_ble_eq_true rfl, Nat.le_of_ble_eq_true rfl⟩ rfl (Nat.le_of_ble_eq_true rfl) hcc dX4_divided_22 (fun locs hS => ?_)
        refine lv_istore (lv' := [(4, .int (bI (decide (65536 ^ n9 ≤ 2 * y9)))), (3, .int (nI j)), (2, .ref q), (0, .ref a), (1, .ref b)]) hx hb dX4_divided_25 hl (by decide) rfl (fun ls hl => ?_)
        refine lv_aload_n hx hb dX4_divided_27 rfl (lv_at hl 2 rfl) ?_
        refine lv_iconst (v := nI 1) hx hb dX4_divided_28 (by decide) ?_
        refine lv_aload_n hx hb dX4_divided_29 rfl (lv_at hl 2 rfl) ?_
        refine lv_iconst (v := nI 1) hx hb dX4_divided_30 (by decide) ?_
        refine w_aald (j := 1) hx hb hK (hP 0 _ rfl) (by decide) (by decide) hf1 dX4_divided_31 ?_
        refine lv_aload_n hx hb dX4_divided_32 rfl (lv_at hl 2 rfl) ?_
        refine lv_iconst (v := nI 1) hx hb dX4_divided_33 (by decide) ?_
        refine w_aald (j := 1) hx hb hK (hP 0 _ rfl) (by decide) (by decide) hf1 dX4_divided_34 ?_
        have hS0 := hS
        refine cn_S (As := [.ref r1, .ref r1]) (rest := [.int (nI 1), .ref q]) C0 hl hK hS hA (fun q h => absurd h id) (c_sum l g H r1 r1 n9 y9 y9 (by omega) (hP 2 _ rfl) (hP 2 _ rfl)) gX4_divided_X4_sum rfl ⟨rfl, rfl⟩ (show hd_ok yX4_sum 2 from ⟨by decide, by decide, by decide +kernel⟩) ⟨Nat.le_of_ble_eq_true rfl, Nat.le_of_ble_eq_true rfl⟩ rfl (Nat.le_of_ble_eq_true rfl) ⟨by show _ ≤ k9; omega, by show _ ≤ 4 * k9; omega⟩ dX4_divided_35 (fun r9 H1 locs hv hzz hk1 hS => ?_)
        obtain ⟨q2, rfl, hq2, h2⟩ := hv
        have hP1 : va_P g.1 vwCl [(q, gRow 2 f g), (r0, .inl (g.2 0, n9, .inl (rw16 ((u / 2 ^ (j + 1) / v) * 2 ^ (j + 1))))), (r1, .inl (g.2 0, n9, .inl (rw16 y9)))] H1 := hP.kept (fun k z hz => hk1 _ (hP k z hz).lt (fun z => z))
        have hq2q : q2 ≠ q := fun z => by have := (hP 0 _ rfl).lt; omega
        have hq2r : r0 ≠ q2 := fun z => by have := (hP 1 _ rfl).lt; omega
        have hqr : q ≠ r0 := fun z => by have := hD.1 0 1 _ _ rfl rfl z; omega
        have hAq : False ∨ H0.size ≤ q := hD.2 0 _ rfl
        have hAr : False ∨ H0.size ≤ r0 := hD.2 1 _ rfl
        have hAq : False ∨ H0.size ≤ q := hD.2 0 _ rfl
        have hAr : False ∨ H0.size ≤ r0 := hD.2 1 _ rfl
        have hA2 : False ∨ H0.size ≤ q2 := Or.inr (Nat.le_trans hS0.1 hq2)
        refine w_aast (j := 1) hx hb hK hP1 hD hS 0 rfl (by decide) (by decide) h2 dX4_divided_38 (fun H2 locs hPa hDa hS hza hoq => ?_)
        have hf0 : (va_up f 1 (some q2)) 0 = some r0 := hf0
        have hf1 : (va_up f 1 (some q2)) 1 = some q2 := if_pos rfl
        have hP : va_P g.1 vwCl [(q, gRow 2 (va_up f 1 (some q2)) g), (r0, .inl (g.2 0, n9, .inl (rw16 ((u / 2 ^ (j + 1) / v) * 2 ^ (j + 1))))), (q2, .inl (g.2 0, n9, .inl (rw16 ((y9 + y9) % 65536 ^ n9))))] H2 := p3 (hPa 0 _ rfl) (hPa 1 _ rfl) (h2.kept (hoq _ hq2q))
        have hD : va_D (fun q => False ∨ H0.size ≤ q) [(q, gRow 2 (va_up f 1 (some q2)) g), (r0, .inl (g.2 0, n9, .inl (rw16 ((u / 2 ^ (j + 1) / v) * 2 ^ (j + 1))))), (q2, .inl (g.2 0, n9, .inl (rw16 ((y9 + y9) % 65536 ^ n9))))] := d3 hqr (fun z => hq2q z.symm) hq2r hAq hAr hA2
        obtain ⟨f2, ef2⟩ : ∃ f2, f2 = va_up f 1 (some q2) := ⟨_, rfl⟩
        rw [← ef2] at hf0 hf1 hP hD
        refine lv_aload_n hx hb dX4_divided_39 rfl (lv_at hl 2 rfl) ?_
        refine lv_iconst (v := nI 1) hx hb dX4_divided_40 (by decide) ?_
        refine w_aald (j := 1) hx hb hK (hP 0 _ rfl) (by decide) (by decide) hf1 dX4_divided_41 ?_
        refine lv_iconst (v := nI 0) hx hb dX4_divided_42 (by decide) ?_
        refine lv_dup2_11 hx hb dX4_divided_43 rfl rfl ?_
        refine w_iald (j := 0) hx hb hK hP 2 rfl (by omega) (by omega) dX4_divided_44 ?_
        refine tp_i (y := nI ((y9 + y9) % 65536 ^ n9 / 65536 ^ 0 % 65536)) (rfl) ?_
        refine lv_aload_n hx hb dX4_divided_45 rfl (lv_at hl 3 rfl) ?_
        refine lv_iload_n hx hb dX4_divided_46 rfl (lv_at hl 1 rfl) ?_
        refine cp_S (As := [.ref a, .int (nI j)]) (rest := [.int (nI ((y9 + y9) % 65536 ^ n9 / 65536 ^ 0 % 65536)), .int (nI 0), .ref q2]) C0 hl hK hS hA (c_bit l g H2 a n9 u j (ha.kp hS (nA' ha (fun z => z))) (by omega) (by omega)) gX4_divided_X4_bit rfl ⟨rfl, rfl⟩ (show hd_ok yX4_bit 2 from ⟨by decide, by decide, by decide +kernel⟩) ⟨Nat.le_of_ble_eq_true rfl, Nat.le_of_ble_eq_true rfl⟩ rfl (Nat.le_of_ble_eq_true rfl) ⟨by show _ ≤ k9; omega, by show _ ≤ 4 * k9; omega⟩ dX4_divided_47 (fun locs hS => ?_)
        refine tp_i (y := nI z9) (congrArg nI ez9.symm) ?_
        refine lv_iadd hx hb dX4_divided_50 ?_
        refine tp_i (y := nI ((y9 + y9) % 65536 ^ n9 / 65536 ^ (0 / 16) % 65536 + z9 * 2 ^ (0 % 16))) ((nI_add _ _).trans (congrArg nI (by rw [show 0 % 16 = 0 from rfl, Nat.pow_zero, Nat.mul_one]))) ?_
        refine w_iast (j := 0) hx hb hK hP hD hS 2 rfl (by omega) (by omega) dX4_divided_51 (fun H locs hP hD hS => ?_)
        have hP : va_P g.1 vwCl [(q, gRow 2 f2 g), (r0, .inl (g.2 0, n9, .inl (rw16 ((u / 2 ^ (j + 1) / v) * 2 ^ (j + 1))))), (q2, .inl (g.2 0, n9, .inl (upd (rw16 ((y9 + y9) % 65536 ^ n9)) 0 (nI ((y9 + y9) % 65536 ^ n9 / 65536 ^ (0 / 16) % 65536 + z9 * 2 ^ (0 % 16))))))] H := hP
        have hD : va_D _ [(q, gRow 2 f2 g), (r0, .inl (g.2 0, n9, .inl (rw16 ((u / 2 ^ (j + 1) / v) * 2 ^ (j + 1))))), (q2, .inl (g.2 0, n9, .inl (upd (rw16 ((y9 + y9) % 65536 ^ n9)) 0 (nI ((y9 + y9) % 65536 ^ n9 / 65536 ^ (0 / 16) % 65536 + z9 * 2 ^ (0 % 16))))))] := hD
        have hR9 := at_cong (hP 2 _ rfl) (fun i _ => set_num (v := (y9 + y9) % 65536 ^ n9) (k := 0) (b := z9) (dbl_even hn9) hz9 i)
        rw [Nat.pow_zero, Nat.mul_one] at hR9
        have hP : va_P g.1 vwCl [(q, gRow 2 f2 g), (r0, .inl (g.2 0, n9, .inl (rw16 ((u / 2 ^ (j + 1) / v) * 2 ^ (j + 1))))), (q2, .inl (g.2 0, n9, .inl (rw16 ((y9 + y9) % 65536 ^ n9 + z9))))] H := p3 (hP 0 _ rfl) (hP 1 _ rfl) hR9
        have hD : va_D (fun q => False ∨ H0.size ≤ q) [(q, gRow 2 f2 g), (r0, .inl (g.2 0, n9, .inl (rw16 ((u / 2 ^ (j + 1) / v) * 2 ^ (j + 1))))), (q2, .inl (g.2 0, n9, .inl (rw16 ((y9 + y9) % 65536 ^ n9 + z9))))] := d3 hqr (fun z => hq2q z.symm) hq2r hAq hAr hA2
        refine lv_iload hx hb dX4_divided_52 (lv_at hl 0 rfl) ?_
        refine lv_if_ne (tgt := 70) hx hb dX4_divided_54 (by decide) (fun h3 => ?_) (fun h3 => ?_)
        · skip
          have h4 := of_decide_eq_true (bI_n0 h3)
          have hge : v ≤ 2 * y9 + z9 := (by omega)
          have hq9 : (2 * y9 + z9) / v = 1 := by
            rw [show 2 * y9 + z9 = v * 1 + (2 * y9 + z9 - v) by omega, Nat.mul_add_div hv0, Nat.div_eq_of_lt (by omega)]
          have hr9 : (2 * y9 + z9) % v = 2 * y9 + z9 - v := by
            rw [Nat.mod_eq_sub_mod hge, Nat.mod_eq_of_lt (by omega)]
          have hc3 : dcost (16 * n9) u v j = dcost (16 * n9) u v (j + 1) + 1 + 2 * 1 := dc_step (by omega) (by decide) (by rw [hst.1, hq9])
          refine lv_aload_n hx hb dX4_divided_70 rfl (lv_at hl 2 rfl) ?_
          refine lv_iconst (v := nI 1) hx hb dX4_divided_71 (by decide) ?_
          refine lv_aload_n hx hb dX4_divided_72 rfl (lv_at hl 2 rfl) ?_
          refine lv_iconst (v := nI 1) hx hb dX4_divided_73 (by decide) ?_
          refine w_aald (j := 1) hx hb hK (hP 0 _ rfl) (by decide) (by decide) hf1 dX4_divided_74 ?_
          refine lv_aload_n hx hb dX4_divided_75 rfl (lv_at hl 4 rfl) ?_
          refine cn_S (As := [.ref b]) (rest := [.ref q2, .int (nI 1), .ref q]) C0 hl hK hS hA (fun q h => absurd h id) (c_negative l g H b n9 v (by omega) hvb (hb9.kp hS (nA' hb9 (fun z => z)))) gX4_divided_X4_negative rfl ⟨rfl, rfl⟩ (show hd_ok yX4_negative 1 from ⟨by decide, by decide, by decide +kernel⟩) ⟨Nat.le_of_ble_eq_true rfl, Nat.le_of_ble_eq_true rfl⟩ rfl (Nat.le_of_ble_eq_true rfl) ⟨by show _ ≤ k9; omega, by show _ ≤ 4 * k9; omega⟩ dX4_divided_76 (fun r9 H3 locs hv hzz hk3 hS => ?_)
          obtain ⟨q3, rfl, hq3, h3v⟩ := hv
          have hP3 : va_P g.1 vwCl [(q, gRow 2 f2 g), (r0, .inl (g.2 0, n9, .inl (rw16 ((u / 2 ^ (j + 1) / v) * 2 ^ (j + 1))))), (q2, .inl (g.2 0, n9, .inl (rw16 ((y9 + y9) % 65536 ^ n9 + z9))))] H3 := hP.kept (fun k z hz => hk3 _ (hP k z hz).lt (fun z => z))
          have hS3 := hS
          refine cn_S (As := [.ref q2, .ref q3]) (rest := [.int (nI 1), .ref q]) C0 hl hK hS hA (fun q h => absurd h id) (c_sum l g H3 q2 q3 n9 ((y9 + y9) % 65536 ^ n9 + z9) ((65536 ^ n9 - v) % 65536 ^ n9) (by omega) (hP3 2 _ rfl) h3v) gX4_divided_X4_sum rfl ⟨rfl, rfl⟩ (show hd_ok yX4_sum 2 from ⟨by decide, by decide, by decide +kernel⟩) ⟨Nat.le_of_ble_eq_true rfl, Nat.le_of_ble_eq_true rfl⟩ rfl (Nat.le_of_ble_eq_true rfl) ⟨by show _ ≤ k9; omega, by show _ ≤ 4 * k9; omega⟩ dX4_divided_79 (fun r9 H4 locs hv hzz hk4 hS => ?_)
          obtain ⟨q4, rfl, hq4, h4⟩ := hv
          rw [sub_num hn9 hvb hy9 hz9 hge] at h4
          have hP4 : va_P g.1 vwCl [(q, gRow 2 f2 g), (r0, .inl (g.2 0, n9, .inl (rw16 ((u / 2 ^ (j + 1) / v) * 2 ^ (j + 1))))), (q2, .inl (g.2 0, n9, .inl (rw16 ((y9 + y9) % 65536 ^ n9 + z9))))] H4 := hP3.kept (fun k z hz => hk4 _ (hP3 k z hz).lt (fun z => z))
          have hq4q : q4 ≠ q := fun z => by have := (hP3 0 _ rfl).lt; omega
          have hq4r : r0 ≠ q4 := fun z => by have := (hP3 1 _ rfl).lt; omega
          have hA4 : False ∨ H0.size ≤ q4 := Or.inr (Nat.le_trans hS3.1 hq4)
          refine w_aast (j := 1) hx hb hK hP4 hD hS 0 rfl (by decide) (by decide) h4 dX4_divided_82 (fun H5 locs hPa hDa hS hza hoq => ?_)
          have hf0 : (va_up f2 1 (some q4)) 0 = some r0 := hf0
          have hf1 : (va_up f2 1 (some q4)) 1 = some q4 := if_pos rfl
          have hP : va_P g.1 vwCl [(q, gRow 2 (va_up f2 1 (some q4)) g), (r0, .inl (g.2 0, n9, .inl (rw16 ((u / 2 ^ (j + 1) / v) * 2 ^ (j + 1))))), (q4, .inl (g.2 0, n9, .inl (rw16 (2 * y9 + z9 - v))))] H5 := p3 (hPa 0 _ rfl) (hPa 1 _ rfl) (h4.kept (hoq _ hq4q))
          have hD : va_D (fun q => False ∨ H0.size ≤ q) [(q, gRow 2 (va_up f2 1 (some q4)) g), (r0, .inl (g.2 0, n9, .inl (rw16 ((u / 2 ^ (j + 1) / v) * 2 ^ (j + 1))))), (q4, .inl (g.2 0, n9, .inl (rw16 (2 * y9 + z9 - v))))] := d3 hqr (fun z => hq4q z.symm) hq4r hAq hAr hA4
          obtain ⟨f4, ef4⟩ : ∃ f4, f4 = va_up f2 1 (some q4) := ⟨_, rfl⟩
          rw [← ef4] at hf0 hf1 hP hD
          refine lv_aload_n hx hb dX4_divided_83 rfl (lv_at hl 2 rfl) ?_
          refine lv_iconst (v := nI 0) hx hb dX4_divided_84 (by decide) ?_
          refine w_aald (j := 0) hx hb hK (hP 0 _ rfl) (by decide) (by decide) hf0 dX4_divided_85 ?_
          refine lv_iload_n hx hb dX4_divided_86 rfl (lv_at hl 1 rfl) ?_
          refine lv_iconst (v := nI 1) hx hb dX4_divided_87 (by decide) ?_
          have hb0 : u / 2 ^ (j + 1) / v * 2 ^ (j + 1) / 2 ^ j % 2 = 0 := by
            rw [Nat.pow_succ, show u / (2 ^ j * 2) / v * (2 ^ j * 2) = (u / (2 ^ j * 2) / v * 2) * 2 ^ j by rw [Nat.mul_assoc, Nat.mul_comm 2 (2 ^ j)], Nat.mul_div_cancel _ (Nat.pow_pos (by decide))]
            omega
          refine cn_S (As := [.ref r0, .int (nI j), .int (nI 1)]) (rest := []) C0 hl hK hS hA (fun z h => by subst h; exact hAr) (c_set l g H5 r0 n9 ((u / 2 ^ (j + 1) / v) * 2 ^ (j + 1)) j 1 (by omega) (by omega) (by decide) hb0 (hP 1 _ rfl)) gX4_divided_X4_set rfl ⟨rfl, rfl⟩ (show hd_ok yX4_set 3 from ⟨by decide, by decide, by decide +kernel⟩) ⟨Nat.le_of_ble_eq_true rfl, Nat.le_of_ble_eq_true rfl⟩ rfl (Nat.le_of_ble_eq_true rfl) ⟨by show _ ≤ k9; omega, by show _ ≤ 4 * k9; omega⟩ dX4_divided_88 (fun r9 H6 locs hv hzz hk6 hS => ?_)
          obtain ⟨rfl, h6⟩ := hv
          have eq9 : (u / 2 ^ (j + 1) / v) * 2 ^ (j + 1) + 1 * 2 ^ j = (u / 2 ^ j / v) * 2 ^ j := by
            rw [hst.1, hq9, Nat.pow_succ, Nat.add_mul, ← Nat.mul_assoc, Nat.mul_comm (u / (2 ^ j * 2) / v * 2 ^ j) 2, ← Nat.mul_assoc]
          rw [eq9] at h6
          have er9 : 2 * y9 + z9 - v = u / 2 ^ j % v := by rw [hst.2, hr9]
          rw [er9] at hP hD
          have hP6 : va_P g.1 vwCl [(q, gRow 2 f4 g), (r0, .inl (g.2 0, n9, .inl (rw16 ((u / 2 ^ j / v) * 2 ^ j)))), (q4, .inl (g.2 0, n9, .inl (rw16 (u / 2 ^ j % v))))] H6 := p3 ((hP 0 _ rfl).kept (hk6 _ (hP 0 _ rfl).lt hqr)) h6 ((hP 2 _ rfl).kept (hk6 _ (hP 2 _ rfl).lt hq4r.symm))
          have hD6 : va_D (fun q => False ∨ H0.size ≤ q) [(q, gRow 2 f4 g), (r0, .inl (g.2 0, n9, .inl (rw16 ((u / 2 ^ j / v) * 2 ^ j)))), (q4, .inl (g.2 0, n9, .inl (rw16 (u / 2 ^ j % v))))] := d3 hqr (fun z => hq4q z.symm) hq4r hAq hAr hA4
          refine lv_iinc (v := nI j - nI 1) (lv' := [(3, .int (nI j - nI 1)), (4, .int (bI (decide (65536 ^ n9 ≤ 2 * y9)))), (2, .ref q), (0, .ref a), (1, .ref b)]) hx hb dX4_divided_91 hl (k := 1) rfl ((by rw [show nI j - nI 1 = nI j + -nI 1 from Int32.sub_eq_add_neg _ _]; rfl)) (by decide) rfl (fun ls hl => ?_)
          refine lv_goto (tgt := 15) hx hb dX4_divided_94 (by decide) ?_
          refine W.widen (k := dcost (16 * n9) u v j) (n := 4 * dcost (16 * n9) u v j) (by omega) (by omega) ?_
          exact ih j _ q4 f4 rfl (by omega) hf0 hf1 (by omega) ls H6 locs hP6 hD6 hS (lv_sub hl [0, 2, 3, 4] rfl)
        · skip
          have h4 := of_decide_eq_false (bI_0 h3)
          have hm9 : (y9 + y9) % 65536 ^ n9 = y9 + y9 := Nat.mod_eq_of_lt (by omega)
          refine lv_aload_n hx hb dX4_divided_57 rfl (lv_at hl 2 rfl) ?_
          refine lv_iconst (v := nI 1) hx hb dX4_divided_58 (by decide) ?_
          refine w_aald (j := 1) hx hb hK (hP 0 _ rfl) (by decide) (by decide) hf1 dX4_divided_59 ?_
          refine lv_aload_n hx hb dX4_divided_60 rfl (lv_at hl 4 rfl) ?_
          refine cp_S (As := [.ref q2, .ref b]) (rest := []) C0 hl hK hS hA (c_compare l g H q2 b n9 ((y9 + y9) % 65536 ^ n9 + z9) v (by omega) (by rw [hm9]; rcases hn9 with rfl | rfl <;> omega) hvb (hP 2 _ rfl) (hb9.kp hS (nA' hb9 (fun z => z)))) gX4_divided_X4_compare rfl ⟨rfl, rfl⟩ (show hd_ok yX4_compare 2 from ⟨by decide, by decide, by decide +kernel⟩) ⟨Nat.le_of_ble_eq_true rfl, Nat.le_of_ble_eq_true rfl⟩ rfl (Nat.le_of_ble_eq_true rfl) ⟨by show _ ≤ k9; omega, by show _ ≤ 4 * k9; omega⟩ dX4_divided_61 (fun locs hS => ?_)
          refine lv_if_ge (tgt := 70) hx hb dX4_divided_64 (by decide) (fun h5 => ?_) (fun h5 => ?_)
          · skip
            have h6 : v ≤ 2 * y9 + z9 := by
              rcases Nat.lt_or_ge (2 * y9 + z9) v with z | z
              · rw [hm9] at h5
                unfold cmpI at h5
                rw [if_pos (by omega)] at h5
                exact absurd h5 (by decide)
              · exact z
            have hge : v ≤ 2 * y9 + z9 := h6
            have hq9 : (2 * y9 + z9) / v = 1 := by
              rw [show 2 * y9 + z9 = v * 1 + (2 * y9 + z9 - v) by omega, Nat.mul_add_div hv0, Nat.div_eq_of_lt (by omega)]
            have hr9 : (2 * y9 + z9) % v = 2 * y9 + z9 - v := by
              rw [Nat.mod_eq_sub_mod hge, Nat.mod_eq_of_lt (by omega)]
            have hc3 : dcost (16 * n9) u v j = dcost (16 * n9) u v (j + 1) + 1 + 2 * 1 := dc_step (by omega) (by decide) (by rw [hst.1, hq9])
            refine lv_aload_n hx hb dX4_divided_70 rfl (lv_at hl 2 rfl) ?_
            refine lv_iconst (v := nI 1) hx hb dX4_divided_71 (by decide) ?_
            refine lv_aload_n hx hb dX4_divided_72 rfl (lv_at hl 2 rfl) ?_
            refine lv_iconst (v := nI 1) hx hb dX4_divided_73 (by decide) ?_
            refine w_aald (j := 1) hx hb hK (hP 0 _ rfl) (by decide) (by decide) hf1 dX4_divided_74 ?_
            refine lv_aload_n hx hb dX4_divided_75 rfl (lv_at hl 4 rfl) ?_
            refine cn_S (As := [.ref b]) (rest := [.ref q2, .int (nI 1), .ref q]) C0 hl hK hS hA (fun q h => absurd h id) (c_negative l g H b n9 v (by omega) hvb (hb9.kp hS (nA' hb9 (fun z => z)))) gX4_divided_X4_negative rfl ⟨rfl, rfl⟩ (show hd_ok yX4_negative 1 from ⟨by decide, by decide, by decide +kernel⟩) ⟨Nat.le_of_ble_eq_true rfl, Nat.le_of_ble_eq_true rfl⟩ rfl (Nat.le_of_ble_eq_true rfl) ⟨by show _ ≤ k9; omega, by show _ ≤ 4 * k9; omega⟩ dX4_divided_76 (fun r9 H3 locs hv hzz hk3 hS => ?_)
            obtain ⟨q3, rfl, hq3, h3v⟩ := hv
            have hP3 : va_P g.1 vwCl [(q, gRow 2 f2 g), (r0, .inl (g.2 0, n9, .inl (rw16 ((u / 2 ^ (j + 1) / v) * 2 ^ (j + 1))))), (q2, .inl (g.2 0, n9, .inl (rw16 ((y9 + y9) % 65536 ^ n9 + z9))))] H3 := hP.kept (fun k z hz => hk3 _ (hP k z hz).lt (fun z => z))
            have hS3 := hS
            refine cn_S (As := [.ref q2, .ref q3]) (rest := [.int (nI 1), .ref q]) C0 hl hK hS hA (fun q h => absurd h id) (c_sum l g H3 q2 q3 n9 ((y9 + y9) % 65536 ^ n9 + z9) ((65536 ^ n9 - v) % 65536 ^ n9) (by omega) (hP3 2 _ rfl) h3v) gX4_divided_X4_sum rfl ⟨rfl, rfl⟩ (show hd_ok yX4_sum 2 from ⟨by decide, by decide, by decide +kernel⟩) ⟨Nat.le_of_ble_eq_true rfl, Nat.le_of_ble_eq_true rfl⟩ rfl (Nat.le_of_ble_eq_true rfl) ⟨by show _ ≤ k9; omega, by show _ ≤ 4 * k9; omega⟩ dX4_divided_79 (fun r9 H4 locs hv hzz hk4 hS => ?_)
            obtain ⟨q4, rfl, hq4, h4⟩ := hv
            rw [sub_num hn9 hvb hy9 hz9 hge] at h4
            have hP4 : va_P g.1 vwCl [(q, gRow 2 f2 g), (r0, .inl (g.2 0, n9, .inl (rw16 ((u / 2 ^ (j + 1) / v) * 2 ^ (j + 1))))), (q2, .inl (g.2 0, n9, .inl (rw16 ((y9 + y9) % 65536 ^ n9 + z9))))] H4 := hP3.kept (fun k z hz => hk4 _ (hP3 k z hz).lt (fun z => z))
            have hq4q : q4 ≠ q := fun z => by have := (hP3 0 _ rfl).lt; omega
            have hq4r : r0 ≠ q4 := fun z => by have := (hP3 1 _ rfl).lt; omega
            have hA4 : False ∨ H0.size ≤ q4 := Or.inr (Nat.le_trans hS3.1 hq4)
            refine w_aast (j := 1) hx hb hK hP4 hD hS 0 rfl (by decide) (by decide) h4 dX4_divided_82 (fun H5 locs hPa hDa hS hza hoq => ?_)
            have hf0 : (va_up f2 1 (some q4)) 0 = some r0 := hf0
            have hf1 : (va_up f2 1 (some q4)) 1 = some q4 := if_pos rfl
            have hP : va_P g.1 vwCl [(q, gRow 2 (va_up f2 1 (some q4)) g), (r0, .inl (g.2 0, n9, .inl (rw16 ((u / 2 ^ (j + 1) / v) * 2 ^ (j + 1))))), (q4, .inl (g.2 0, n9, .inl (rw16 (2 * y9 + z9 - v))))] H5 := p3 (hPa 0 _ rfl) (hPa 1 _ rfl) (h4.kept (hoq _ hq4q))
            have hD : va_D (fun q => False ∨ H0.size ≤ q) [(q, gRow 2 (va_up f2 1 (some q4)) g), (r0, .inl (g.2 0, n9, .inl (rw16 ((u / 2 ^ (j + 1) / v) * 2 ^ (j + 1))))), (q4, .inl (g.2 0, n9, .inl (rw16 (2 * y9 + z9 - v))))] := d3 hqr (fun z => hq4q z.symm) hq4r hAq hAr hA4
            obtain ⟨f4, ef4⟩ : ∃ f4, f4 = va_up f2 1 (some q4) := ⟨_, rfl⟩
            rw [← ef4] at hf0 hf1 hP hD
            refine lv_aload_n hx hb dX4_divided_83 rfl (lv_at hl 2 rfl) ?_
            refine lv_iconst (v := nI 0) hx hb dX4_divided_84 (by decide) ?_
            refine w_aald (j := 0) hx hb hK (hP 0 _ rfl) (by decide) (by decide) hf0 dX4_divided_85 ?_
            refine lv_iload_n hx hb dX4_divided_86 rfl (lv_at hl 1 rfl) ?_
            refine lv_iconst (v := nI 1) hx hb dX4_divided_87 (by decide) ?_
            have hb0 : u / 2 ^ (j + 1) / v * 2 ^ (j + 1) / 2 ^ j % 2 = 0 := by
              rw [Nat.pow_succ, show u / (2 ^ j * 2) / v * (2 ^ j * 2) = (u / (2 ^ j * 2) / v * 2) * 2 ^ j by rw [Nat.mul_assoc, Nat.mul_comm 2 (2 ^ j)], Nat.mul_div_cancel _ (Nat.pow_pos (by decide))]
              omega
            refine cn_S (As := [.ref r0, .int (nI j), .int (nI 1)]) (rest := []) C0 hl hK hS hA (fun z h => by subst h; exact hAr) (c_set l g H5 r0 n9 ((u / 2 ^ (j + 1) / v) * 2 ^ (j + 1)) j 1 (by omega) (by omega) (by decide) hb0 (hP 1 _ rfl)) gX4_divided_X4_set rfl ⟨rfl, rfl⟩ (show hd_ok yX4_set 3 from ⟨by decide, by decide, by decide +kernel⟩) ⟨Nat.le_of_ble_eq_true rfl, Nat.le_of_ble_eq_true rfl⟩ rfl (Nat.le_of_ble_eq_true rfl) ⟨by show _ ≤ k9; omega, by show _ ≤ 4 * k9; omega⟩ dX4_divided_88 (fun r9 H6 locs hv hzz hk6 hS => ?_)
            obtain ⟨rfl, h6⟩ := hv
            have eq9 : (u / 2 ^ (j + 1) / v) * 2 ^ (j + 1) + 1 * 2 ^ j = (u / 2 ^ j / v) * 2 ^ j := by
              rw [hst.1, hq9, Nat.pow_succ, Nat.add_mul, ← Nat.mul_assoc, Nat.mul_comm (u / (2 ^ j * 2) / v * 2 ^ j) 2, ← Nat.mul_assoc]
            rw [eq9] at h6
            have er9 : 2 * y9 + z9 - v = u / 2 ^ j % v := by rw [hst.2, hr9]
            rw [er9] at hP hD
            have hP6 : va_P g.1 vwCl [(q, gRow 2 f4 g), (r0, .inl (g.2 0, n9, .inl (rw16 ((u / 2 ^ j / v) * 2 ^ j)))), (q4, .inl (g.2 0, n9, .inl (rw16 (u / 2 ^ j % v))))] H6 := p3 ((hP 0 _ rfl).kept (hk6 _ (hP 0 _ rfl).lt hqr)) h6 ((hP 2 _ rfl).kept (hk6 _ (hP 2 _ rfl).lt hq4r.symm))
            have hD6 : va_D (fun q => False ∨ H0.size ≤ q) [(q, gRow 2 f4 g), (r0, .inl (g.2 0, n9, .inl (rw16 ((u / 2 ^ j / v) * 2 ^ j)))), (q4, .inl (g.2 0, n9, .inl (rw16 (u / 2 ^ j % v))))] := d3 hqr (fun z => hq4q z.symm) hq4r hAq hAr hA4
            refine lv_iinc (v := nI j - nI 1) (lv' := [(3, .int (nI j - nI 1)), (4, .int (bI (decide (65536 ^ n9 ≤ 2 * y9)))), (2, .ref q), (0, .ref a), (1, .ref b)]) hx hb dX4_divided_91 hl (k := 1) rfl ((by rw [show nI j - nI 1 = nI j + -nI 1 from Int32.sub_eq_add_neg _ _]; rfl)) (by decide) rfl (fun ls hl => ?_)
            refine lv_goto (tgt := 15) hx hb dX4_divided_94 (by decide) ?_
            refine W.widen (k := dcost (16 * n9) u v j) (n := 4 * dcost (16 * n9) u v j) (by omega) (by omega) ?_
            exact ih j _ q4 f4 rfl (by omega) hf0 hf1 (by omega) ls H6 locs hP6 hD6 hS (lv_sub hl [0, 2, 3, 4] rfl)
          · skip
            have h6 : 2 * y9 + z9 < v := by
              rcases Nat.lt_or_ge (2 * y9 + z9) v with z | z
              · exact z
              · rw [hm9] at h5
                unfold cmpI at h5
                rw [if_neg (by omega)] at h5
                split at h5 <;> exact absurd (by decide) h5
            have hq9 : (2 * y9 + z9) / v = 0 := Nat.div_eq_of_lt h6
            have hr9 : (2 * y9 + z9) % v = 2 * y9 + z9 := Nat.mod_eq_of_lt h6
            have eq9 : (u / 2 ^ (j + 1) / v) * 2 ^ (j + 1) = (u / 2 ^ j / v) * 2 ^ j := by
              rw [hst.1, hq9, Nat.pow_succ, Nat.add_zero, Nat.mul_comm (2 ^ j) 2, Nat.mul_left_comm, ← Nat.mul_assoc]
            have er9 : ((y9 + y9) % 65536 ^ n9 + z9) = u / 2 ^ j % v := by rw [hst.2, hr9, hm9]; omega
            rw [eq9, er9] at hP hD
            refine lv_goto (tgt := 91) hx hb dX4_divided_67 (by decide) ?_
            refine lv_iinc (v := nI j - nI 1) (lv' := [(3, .int (nI j - nI 1)), (4, .int (bI (decide (65536 ^ n9 ≤ 2 * y9)))), (2, .ref q), (0, .ref a), (1, .ref b)]) hx hb dX4_divided_91 hl (k := 1) rfl ((by rw [show nI j - nI 1 = nI j + -nI 1 from Int32.sub_eq_add_neg _ _]; rfl)) (by decide) rfl (fun ls hl => ?_)
            refine lv_goto (tgt := 15) hx hb dX4_divided_94 (by decide) ?_
            refine W.widen (k := dcost (16 * n9) u v j) (n := 4 * dcost (16 * n9) u v j) (by omega) (by omega) ?_
            exact ih j _ q2 f2 rfl (by omega) hf0 hf1 (by omega) ls H locs hP hD hS (lv_sub hl [0, 2, 3, 4] rfl)
end M16

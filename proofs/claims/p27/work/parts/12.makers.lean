-- the reference's makers of rows
/-- a new row of n places comes back, that holds w -/
def mkR (g : Gx) (H0 : Heap) (n w : Nat) : Option Value → Heap → Prop := fun v H1 => ∃ q : Nat, v = some (.ref q) ∧ H0.size ≤ q ∧ va_at g.1 vwCl (q, .inl (g.2 0, n, .inl (rw16 w))) H1
theorem upd_step {f t : Nat → Int32} {j : Nat} {x : Int32} (h : ∀ k, k < j → f k = t k) (hx : x = t j) : ∀ k, k < j + 1 → upd f j x k = t k := fun k hk => by
  by_cases e : k = j
  · subst e
    exact pk_us.trans hx
  · exact (pk_un e).trans (h k (by omega))
theorem add_car (u v j : Nat) : (u / 65536 ^ j % 65536 + v / 65536 ^ j % 65536 + (u % 65536 ^ j + v % 65536 ^ j) / 65536 ^ j) / 65536 = (u % 65536 ^ (j + 1) + v % 65536 ^ (j + 1)) / 65536 ^ (j + 1) := by
  have hD : 0 < 65536 ^ j := Nat.pow_pos (by decide)
  rw [Nat.pow_succ, Nat.mod_mul, Nat.mod_mul, ← Nat.div_div_eq_div_mul]
  congr 1
  rw [show u % 65536 ^ j + 65536 ^ j * (u / 65536 ^ j % 65536) + (v % 65536 ^ j + 65536 ^ j * (v / 65536 ^ j % 65536)) = u % 65536 ^ j + v % 65536 ^ j + 65536 ^ j * (u / 65536 ^ j % 65536 + v / 65536 ^ j % 65536) by rw [Nat.mul_add]; omega]
  rw [Nat.add_mul_div_left _ _ hD]
  omega
theorem add_div (u v j : Nat) : (u + v) / 65536 ^ j = u / 65536 ^ j + v / 65536 ^ j + (u % 65536 ^ j + v % 65536 ^ j) / 65536 ^ j := by
  have hD : 0 < 65536 ^ j := Nat.pow_pos (by decide)
  have h1 := Nat.div_add_mod u (65536 ^ j)
  have h2 := Nat.div_add_mod v (65536 ^ j)
  have h3 : u + v = u % 65536 ^ j + v % 65536 ^ j + 65536 ^ j * (u / 65536 ^ j + v / 65536 ^ j) := by rw [Nat.mul_add]; omega
  rw [show (u + v) / 65536 ^ j = (u % 65536 ^ j + v % 65536 ^ j + 65536 ^ j * (u / 65536 ^ j + v / 65536 ^ j)) / 65536 ^ j by rw [← h3], Nat.add_mul_div_left _ _ hD]
  omega
theorem add_dig (u v j : Nat) : (u / 65536 ^ j % 65536 + v / 65536 ^ j % 65536 + (u % 65536 ^ j + v % 65536 ^ j) / 65536 ^ j) % 65536 = (u + v) / 65536 ^ j % 65536 := by
  rw [add_div u v j]
  omega
theorem car_le (u v j : Nat) : (u % 65536 ^ j + v % 65536 ^ j) / 65536 ^ j < 2 := by
  have hD : 0 < 65536 ^ j := Nat.pow_pos (by decide)
  have h1 := Nat.mod_lt u hD
  have h2 := Nat.mod_lt v hD
  exact Nat.div_lt_of_lt_mul (by omega)
theorem rw_top {n w k : Nat} (hk : k < n) : rw16 (w % 65536 ^ n) k = rw16 w k := by
  unfold rw16
  refine congrArg nI ?_
  have h1 : w % 65536 ^ n / 65536 ^ k = w / 65536 ^ k % 65536 ^ (n - k) := by
    rw [show 65536 ^ n = 65536 ^ k * 65536 ^ (n - k) by rw [← Nat.pow_add]; congr 1; omega]
    exact Nat.mod_mul_right_div_self w _ _
  rw [h1, Nat.mod_mod_of_dvd _ (show 65536 ∣ 65536 ^ (n - k) from ⟨65536 ^ (n - k - 1), by rw [← Nat.pow_succ']; congr 1; omega⟩)]
/-- the complement, digit by digit -/
theorem cmp_dig {n v k : Nat} (hv : v < 65536 ^ n) (hk : k < n) : (65536 ^ n - 1 - v) / 65536 ^ k % 65536 = 65535 - v / 65536 ^ k % 65536 := by
  have e : 65536 ^ n = 65536 ^ k * 65536 ^ (n - k) := by rw [← Nat.pow_add]; congr 1; omega
  have h1 : (65536 ^ n - 1 - v) / 65536 ^ k = 65536 ^ (n - k) - (v / 65536 ^ k + 1) := by
    rw [show 65536 ^ n - 1 - v = 65536 ^ k * 65536 ^ (n - k) - (v + 1) by rw [← e]; omega]
    exact Nat.mul_sub_div v (65536 ^ k) _ (by rw [← e]; exact hv)
  have h2 : v / 65536 ^ k < 65536 ^ (n - k) := Nat.div_lt_of_lt_mul (by rw [← e]; exact hv)
  have h3 : 65536 ^ (n - k) = 65536 * 65536 ^ (n - k - 1) := by rw [← Nat.pow_succ']; congr 1; omega
  rw [h1]
  rw [h3] at h2 ⊢
  omega
section M12
variable {p : Program} {l : Launch} {e : Env} {s : State} {m : MethodId} {args : Array Value} {below : List Frame} {meth : Method} {c : Code} {H H0 : Heap} {locs : List Loc} {cells slots : Nat} {Q : State → Prop} {A : Nat → Prop} {g : Gx}
abbrev rmX4_sum : Room := { frames := 0, cells := 1, slots := 4, locals := 0 }
set_option maxHeartbeats 4000000 in
set_option maxRecDepth 100000 in
theorem L_sum (C0 : Cx p s m args meth c RX4 cX4_sum 6 (some (.array .int)) wsX4_sum) (hK : KK g s) {a b q n9 u v : Nat} (hn9 : n9 < 1000) (ha : va_at g.1 vwCl (a, .inl (g.2 0, n9, .inl (rw16 u))) H0) (hb9 : va_at g.1 vwCl (b, .inl (g.2 0, n9, .inl (rw16 v))) H0) (K : ∀ (f : Nat → Int32) (x : Int32) (hf : ∀ k, k < n9 → f k = rw16 (u + v) k) (ls : Array Slot) (H : Heap) (locs : List Loc), va_P g.1 vwCl [(q, .inl (g.2 0, n9, .inl f))] H → va_D (fun q => False ∨ H0.size ≤ q) [(q, .inl (g.2 0, n9, .inl f))] → va_S (fun q => False ∨ H0.size ≤ q) H0 H locs → lv_has ls 6 [(4, .int (nI n9)), (3, .int x), (2, .ref q), (0, .ref a), (1, .ref b)] → W p l e rmX4_sum s m args below meth c H locs 1 4 Q (F0 m 51 ls [])) : ∀ (n : Nat) (j : Nat) (f : Nat → Int32), j ≤ n9 → (∀ k, k < j → f k = rw16 (u + v) k) → n9 - j < n → ∀ (ls : Array Slot) (H : Heap) (locs : List Loc), va_P g.1 vwCl [(q, .inl (g.2 0, n9, .inl f))] H → va_D (fun q => False ∨ H0.size ≤ q) [(q, .inl (g.2 0, n9, .inl f))] → va_S (fun q => False ∨ H0.size ≤ q) H0 H locs → lv_has ls 6 [(4, .int (nI j)), (3, .int (nI ((u % 65536 ^ j + v % 65536 ^ j) / 65536 ^ j))), (2, .ref q), (0, .ref a), (1, .ref b)] → W p l e rmX4_sum s m args below meth c H locs 1 4 Q (F0 m 10 ls []) := by
  obtain ⟨hx, hb, hr, hml, hown, hts, hlk⟩ := id C0
  have hA : ∀ q : Nat, H0.size ≤ q → (fun q => False ∨ H0.size ≤ q) q := fun _ h => Or.inr h
  intro n
  induction n with
  | zero => intro j f _ _ h; exact absurd h (Nat.not_lt_zero _)
  | succ n ih =>
    intro j f hj hf hn ls H locs hP hD hS hl
    refine lv_iload hx hb dX4_sum_10 (lv_at hl 0 rfl) ?_
    refine lv_aload_n hx hb dX4_sum_12 rfl (lv_at hl 2 rfl) ?_
    refine w_alen hx hb hK hP 0 rfl dX4_sum_13 ?_
    refine lv_icmp_ge (tgt := 51) hx hb dX4_sum_14 (by decide) (fun h1 => ?_) (fun h1 => ?_)
    · skip
      have hge : n9 ≤ j := by
        rcases Nat.lt_or_ge j n9 with h | h
        · exact absurd h1 (nI_ge h (by omega))
        · exact h
      obtain rfl : j = n9 := by omega
      exact K f _ hf ls H locs hP hD hS hl
    · skip
      have hlt : j < n9 := by
        rcases Nat.lt_or_ge j n9 with h | h
        · exact h
        · exact absurd (nI_le h (by omega)) h1
      have hc9 := car_le u v j
      have hx9 := rw16_lt u j
      have hy9 := rw16_lt v j
      refine lv_aload_n hx hb dX4_sum_17 rfl (lv_at hl 3 rfl) ?_
      refine lv_iload hx hb dX4_sum_18 (lv_at hl 0 rfl) ?_
      refine r_iald (j := j) hx hb hK hS ha (nA' ha (fun z => z)) hlt (by omega) dX4_sum_20 ?_
      refine tp_i (y := nI (u / 65536 ^ j % 65536)) (rfl) ?_
      refine lv_aload_n hx hb dX4_sum_21 rfl (lv_at hl 4 rfl) ?_
      refine lv_iload hx hb dX4_sum_22 (lv_at hl 0 rfl) ?_
      refine r_iald (j := j) hx hb hK hS hb9 (nA' hb9 (fun z => z)) hlt (by omega) dX4_sum_24 ?_
      refine tp_i (y := nI (v / 65536 ^ j % 65536)) (rfl) ?_
      refine lv_iadd hx hb dX4_sum_25 ?_
      refine tp_i (y := nI ((u / 65536 ^ j % 65536) + (v / 65536 ^ j % 65536))) (nI_add _ _) ?_
      refine lv_iload_n hx hb dX4_sum_26 rfl (lv_at hl 1 rfl) ?_
      refine lv_iadd hx hb dX4_sum_27 ?_
      refine tp_i (y := nI (u / 65536 ^ j % 65536 + v / 65536 ^ j % 65536 + (u % 65536 ^ j + v % 65536 ^ j) / 65536 ^ j)) (nI_add _ _) ?_
      refine lv_istore (lv' := [(5, .int (nI (u / 65536 ^ j % 65536 + v / 65536 ^ j % 65536 + (u % 65536 ^ j + v % 65536 ^ j) / 65536 ^ j))), (4, .int (nI j)), (3, .int (nI ((u % 65536 ^ j + v % 65536 ^ j) / 65536 ^ j))), (2, .ref q), (0, .ref a), (1, .ref b)]) hx hb dX4_sum_28 hl (by decide) rfl (fun ls hl => ?_)
      refine lv_aload_n hx hb dX4_sum_30 rfl (lv_at hl 3 rfl) ?_
      refine lv_iload hx hb dX4_sum_31 (lv_at hl 1 rfl) ?_
      refine lv_iload hx hb dX4_sum_33 (lv_at hl 0 rfl) ?_
      refine lv_ldc (v := nI 65536) hx hb hown (hts (.constant RX4 52 (65536)) (by decide +kernel)) dX4_sum_35 ?_
      refine lv_irem hx hb dX4_sum_37 (by decide) ?_
      refine tp_i (y := nI ((u + v) / 65536 ^ j % 65536)) ((pk_rem (by omega) (by decide) (by decide)).trans (congrArg nI (add_dig u v j))) ?_
      refine w_iast (j := j) hx hb hK hP hD hS 0 rfl hlt (by omega) dX4_sum_38 (fun H locs hP hD hS => ?_)
      have hP : va_P g.1 vwCl [(q, .inl (g.2 0, n9, .inl (upd f j (nI ((u + v) / 65536 ^ j % 65536)))))] H := hP
      have hD : va_D _ [(q, .inl (g.2 0, n9, .inl (upd f j (nI ((u + v) / 65536 ^ j % 65536)))))] := hD
      refine lv_iload hx hb dX4_sum_39 (lv_at hl 0 rfl) ?_
      refine lv_ldc (v := nI 65536) hx hb hown (hts (.constant RX4 52 (65536)) (by decide +kernel)) dX4_sum_41 ?_
      refine lv_idiv hx hb dX4_sum_43 (by decide) ?_
      refine tp_i (y := nI ((u % 65536 ^ (j + 1) + v % 65536 ^ (j + 1)) / 65536 ^ (j + 1))) ((pk_div (by omega) (by decide) (by decide)).trans (congrArg nI (add_car u v j))) ?_
      refine lv_istore_n (lv' := [(3, .int (nI ((u % 65536 ^ (j + 1) + v % 65536 ^ (j + 1)) / 65536 ^ (j + 1)))), (5, .int (nI (u / 65536 ^ j % 65536 + v / 65536 ^ j % 65536 + (u % 65536 ^ j + v % 65536 ^ j) / 65536 ^ j))), (4, .int (nI j)), (2, .ref q), (0, .ref a), (1, .ref b)]) hx hb dX4_sum_44 rfl hl (by decide) rfl (fun ls hl => ?_)
      refine lv_iinc (v := nI (j + 1)) (lv' := [(4, .int (nI (j + 1))), (3, .int (nI ((u % 65536 ^ (j + 1) + v % 65536 ^ (j + 1)) / 65536 ^ (j + 1)))), (5, .int (nI (u / 65536 ^ j % 65536 + v / 65536 ^ j % 65536 + (u % 65536 ^ j + v % 65536 ^ j) / 65536 ^ j))), (2, .ref q), (0, .ref a), (1, .ref b)]) hx hb dX4_sum_45 hl (k := 2) rfl (nI_1 _) (by decide) rfl (fun ls hl => ?_)
      refine lv_goto (tgt := 10) hx hb dX4_sum_48 (by decide) ?_
      exact ih (j + 1) _ hlt (upd_step hf rfl) (by omega) ls H locs hP hD hS (lv_sub hl [0, 1, 3, 4, 5] rfl)
set_option maxHeartbeats 4000000 in
set_option maxRecDepth 100000 in
/-- sum(one, other) -/
theorem c_sum (l : Launch) (g : Gx) (H0 : Heap) (a b n9 u v : Nat) (hn9 : n9 ≤ 4) (ha : va_at g.1 vwCl (a, .inl (g.2 0, n9, .inl (rw16 u))) H0) (hb9 : va_at g.1 vwCl (b, .inl (g.2 0, n9, .inl (rw16 v))) H0) : Met l yX4_sum wsX4_sum rmX4_sum (va_Pc [.ref a, .ref b] (hB g H0)) (nQ H0 (fun _ => False) (mkR g H0 n9 ((u + v) % 65536 ^ n9))) 1 4 (fun q => False ∨ H0.size ≤ q) := by
  refine cx_met (own := RX4) (cc := cX4_sum) (maxL := 6) (by decide) rfl rfl (Nat.le_of_ble_eq_true rfl) ?_
  intro p e s m below meth c ls C0 hB0 hnm hl
  obtain ⟨hH, hK⟩ := hB0
  obtain ⟨hx, hb, hr, hml, hown, hts, hlk⟩ := id C0
  subst hH
  have hS : va_S (fun q => False ∨ s.heap.size ≤ q) s.heap s.heap [] := va_S.rf
  have hA : ∀ q : Nat, s.heap.size ≤ q → (fun q => False ∨ s.heap.size ≤ q) q := fun q h => Or.inr h
  have hl : lv_has ls 6 [(0, .ref a), (1, .ref b)] := hl
  refine lv_aload_n hx hb dX4_sum_0 rfl (lv_at hl 0 rfl) ?_
  refine r_alen hx hb hK hS ha (nA' ha (fun z => z)) dX4_sum_1 ?_
  refine w_newi hx hb (hts (.arrayClass .int) (by decide +kernel)) hK p0 d0 hS hA (by omega) (by decide) (by show _ ≤ 4; omega) dX4_sum_2 (fun q H1 hq hP hD hS => ?_)
  have hP : va_P g.1 vwCl [(q, .inl (g.2 0, n9, .inl (fun _ => 0)))] H1 := hP
  have hD : va_D _ [(q, .inl (g.2 0, n9, .inl (fun _ => 0)))] := hD
  refine lv_astore_n (lv' := [(2, .ref q), (0, .ref a), (1, .ref b)]) hx hb dX4_sum_4 rfl hl (by decide) rfl (fun ls hl => ?_)
  refine lv_iconst (v := nI 0) hx hb dX4_sum_5 (by decide) ?_
  refine lv_istore_n (lv' := [(3, .int (nI 0)), (2, .ref q), (0, .ref a), (1, .ref b)]) hx hb dX4_sum_6 rfl hl (by decide) rfl (fun ls hl => ?_)
  refine lv_iconst (v := nI 0) hx hb dX4_sum_7 (by decide) ?_
  refine lv_istore (lv' := [(4, .int (nI 0)), (3, .int (nI 0)), (2, .ref q), (0, .ref a), (1, .ref b)]) hx hb dX4_sum_8 hl (by decide) rfl (fun ls hl => ?_)
  refine W.widen (k := 1) (n := 4) (by omega) (by omega) ?_
  refine L_sum C0 hK (by omega) ha hb9 (fun f x hf ls H locs hP hD hS hl => ?_) (n9 + 1) 0 _ (Nat.zero_le _) (fun k hk => absurd hk (Nat.not_lt_zero _)) (by omega) ls H1 [] hP hD hS (by rw [Nat.pow_zero, Nat.mod_one, Nat.mod_one]; exact hl)
  refine lv_aload_n hx hb dX4_sum_51 rfl (lv_at hl 2 rfl) ?_
  exact rt_a (mu := fun _ => False) C0 (Or.inr ⟨_, rfl⟩) ⟨q, rfl, hq, at_cong (hP 0 _ rfl) (fun k hk => (hf k hk).trans (rw_top hk).symm)⟩ hS rfl dX4_sum_52
abbrev rmX4_negative : Room := { frames := 0, cells := 1, slots := 4, locals := 0 }
theorem neg_c0 (w : Nat) : (w % 65536 ^ 1 + 1 % 65536 ^ 1) / 65536 ^ 1 = (w % 65536 + 1) / 65536 := rfl
/-- the carry of adding one -/
def ncar (w j : Nat) : Nat := (w % 65536 ^ j + 1) / 65536 ^ j
theorem ncar_0 (w : Nat) : ncar w 0 = 1 := by unfold ncar; rw [Nat.pow_zero, Nat.mod_one]
theorem ncar_lt (w j : Nat) : ncar w j < 2 := by
  have hD : 0 < 65536 ^ j := Nat.pow_pos (by decide)
  have h1 := Nat.mod_lt w hD
  exact Nat.div_lt_of_lt_mul (by omega)
theorem ncar_s (w j : Nat) : (w / 65536 ^ j % 65536 + ncar w j) / 65536 = ncar w (j + 1) := by
  have hD : 0 < 65536 ^ j := Nat.pow_pos (by decide)
  unfold ncar
  rw [Nat.pow_succ, Nat.mod_mul, ← Nat.div_div_eq_div_mul]
  congr 1
  rw [show w % 65536 ^ j + 65536 ^ j * (w / 65536 ^ j % 65536) + 1 = w % 65536 ^ j + 1 + 65536 ^ j * (w / 65536 ^ j % 65536) by omega, Nat.add_mul_div_left _ _ hD]
  omega
theorem ncar_d (w j : Nat) : (w / 65536 ^ j % 65536 + ncar w j) % 65536 = (w + 1) / 65536 ^ j % 65536 := by
  have hD : 0 < 65536 ^ j := Nat.pow_pos (by decide)
  have h1 := Nat.div_add_mod w (65536 ^ j)
  have h2 : (w + 1) / 65536 ^ j = ncar w j + w / 65536 ^ j := by
    rw [show w + 1 = w % 65536 ^ j + 1 + 65536 ^ j * (w / 65536 ^ j) by omega, Nat.add_mul_div_left _ _ hD]
    rfl
  rw [h2]
  omega
set_option maxHeartbeats 4000000 in
set_option maxRecDepth 100000 in
theorem L_negative (C0 : Cx p s m args meth c RX4 cX4_negative 5 (some (.array .int)) wsX4_negative) (hK : KK g s) {a q n9 v : Nat} (hn9 : n9 < 1000) (hv : v < 65536 ^ n9) (ha : va_at g.1 vwCl (a, .inl (g.2 0, n9, .inl (rw16 v))) H0) (K : ∀ (f : Nat → Int32) (x : Int32) (hf : ∀ k, k < n9 → f k = rw16 (65536 ^ n9 - v) k) (ls : Array Slot) (H : Heap) (locs : List Loc), va_P g.1 vwCl [(q, .inl (g.2 0, n9, .inl f))] H → va_D (fun q => False ∨ H0.size ≤ q) [(q, .inl (g.2 0, n9, .inl f))] → va_S (fun q => False ∨ H0.size ≤ q) H0 H locs → lv_has ls 5 [(3, .int (nI n9)), (2, .int x), (1, .ref q), (0, .ref a)] → W p l e rmX4_negative s m args below meth c H locs 1 4 Q (F0 m 45 ls [])) : ∀ (n : Nat) (j : Nat) (f : Nat → Int32), j ≤ n9 → (∀ k, k < j → f k = rw16 (65536 ^ n9 - v) k) → n9 - j < n → ∀ (ls : Array Slot) (H : Heap) (locs : List Loc), va_P g.1 vwCl [(q, .inl (g.2 0, n9, .inl f))] H → va_D (fun q => False ∨ H0.size ≤ q) [(q, .inl (g.2 0, n9, .inl f))] → va_S (fun q => False ∨ H0.size ≤ q) H0 H locs → lv_has ls 5 [(3, .int (nI j)), (2, .int (nI (ncar (65536 ^ n9 - 1 - v) j))), (1, .ref q), (0, .ref a)] → W p l e rmX4_negative s m args below meth c H locs 1 4 Q (F0 m 9 ls []) := by
  obtain ⟨hx, hb, hr, hml, hown, hts, hlk⟩ := id C0
  have hA : ∀ q : Nat, H0.size ≤ q → (fun q => False ∨ H0.size ≤ q) q := fun _ h => Or.inr h
  intro n
  induction n with
  | zero => intro j f _ _ h; exact absurd h (Nat.not_lt_zero _)
  | succ n ih =>
    intro j f hj hf hn ls H locs hP hD hS hl
    refine lv_iload_n hx hb dX4_negative_9 rfl (lv_at hl 0 rfl) ?_
    refine lv_aload_n hx hb dX4_negative_10 rfl (lv_at hl 2 rfl) ?_
    refine w_alen hx hb hK hP 0 rfl dX4_negative_11 ?_
    refine lv_icmp_ge (tgt := 45) hx hb dX4_negative_12 (by decide) (fun h1 => ?_) (fun h1 => ?_)
    · skip
      have hge : n9 ≤ j := by
        rcases Nat.lt_or_ge j n9 with h | h
        · exact absurd h1 (nI_ge h (by omega))
        · exact h
      obtain rfl : j = n9 := by omega
      exact K f _ hf ls H locs hP hD hS hl
    · skip
      have hlt : j < n9 := by
        rcases Nat.lt_or_ge j n9 with h | h
        · exact h
        · exact absurd (nI_le h (by omega)) h1
      have hx9 := rw16_lt v j
      have hc9 := ncar_lt (65536 ^ n9 - 1 - v) j
      have hd9 := cmp_dig hv hlt
      have he9 : 65536 ^ n9 - 1 - v + 1 = 65536 ^ n9 - v := by omega
      refine lv_ldc (v := nI 65535) hx hb hown (hts (.constant RX4 53 (65535)) (by decide +kernel)) dX4_negative_15 ?_
      refine lv_aload_n hx hb dX4_negative_17 rfl (lv_at hl 3 rfl) ?_
      refine lv_iload_n hx hb dX4_negative_18 rfl (lv_at hl 0 rfl) ?_
      refine r_iald (j := j) hx hb hK hS ha (nA' ha (fun z => z)) hlt (by omega) dX4_negative_19 ?_
      refine tp_i (y := nI (v / 65536 ^ j % 65536)) (rfl) ?_
      refine lv_isub hx hb dX4_negative_20 ?_
      refine tp_i (y := nI ((65536 ^ n9 - 1 - v) / 65536 ^ j % 65536)) ((pk_sub (by omega)).trans (congrArg nI hd9.symm)) ?_
      refine lv_iload_n hx hb dX4_negative_21 rfl (lv_at hl 1 rfl) ?_
      refine lv_iadd hx hb dX4_negative_22 ?_
      refine tp_i (y := nI (((65536 ^ n9 - 1 - v) / 65536 ^ j % 65536) + (ncar (65536 ^ n9 - 1 - v) j))) (nI_add _ _) ?_
      refine lv_istore (lv' := [(4, .int (nI (((65536 ^ n9 - 1 - v) / 65536 ^ j % 65536) + (ncar (65536 ^ n9 - 1 - v) j)))), (3, .int (nI j)), (2, .int (nI (ncar (65536 ^ n9 - 1 - v) j))), (1, .ref q), (0, .ref a)]) hx hb dX4_negative_23 hl (by decide) rfl (fun ls hl => ?_)
      refine lv_aload_n hx hb dX4_negative_25 rfl (lv_at hl 3 rfl) ?_
      refine lv_iload_n hx hb dX4_negative_26 rfl (lv_at hl 1 rfl) ?_
      refine lv_iload hx hb dX4_negative_27 (lv_at hl 0 rfl) ?_
      refine lv_ldc (v := nI 65536) hx hb hown (hts (.constant RX4 52 (65536)) (by decide +kernel)) dX4_negative_29 ?_
      refine lv_irem hx hb dX4_negative_31 (by decide) ?_
      refine tp_i (y := nI ((65536 ^ n9 - v) / 65536 ^ j % 65536)) ((pk_rem (by omega) (by decide) (by decide)).trans (congrArg nI ((ncar_d _ j).trans (by rw [he9])))) ?_
      refine w_iast (j := j) hx hb hK hP hD hS 0 rfl hlt (by omega) dX4_negative_32 (fun H locs hP hD hS => ?_)
      have hP : va_P g.1 vwCl [(q, .inl (g.2 0, n9, .inl (upd f j (nI ((65536 ^ n9 - v) / 65536 ^ j % 65536)))))] H := hP
      have hD : va_D _ [(q, .inl (g.2 0, n9, .inl (upd f j (nI ((65536 ^ n9 - v) / 65536 ^ j % 65536)))))] := hD
      refine lv_iload hx hb dX4_negative_33 (lv_at hl 0 rfl) ?_
      refine lv_ldc (v := nI 65536) hx hb hown (hts (.constant RX4 52 (65536)) (by decide +kernel)) dX4_negative_35 ?_
      refine lv_idiv hx hb dX4_negative_37 (by decide) ?_
      refine tp_i (y := nI (ncar (65536 ^ n9 - 1 - v) (j + 1))) ((pk_div (by omega) (by decide) (by decide)).trans (congrArg nI (ncar_s _ j))) ?_
      refine lv_istore_n (lv' := [(2, .int (nI (ncar (65536 ^ n9 - 1 - v) (j + 1)))), (4, .int (nI (((65536 ^ n9 - 1 - v) / 65536 ^ j % 65536) + (ncar (65536 ^ n9 - 1 - v) j)))), (3, .int (nI j)), (1, .ref q), (0, .ref a)]) hx hb dX4_negative_38 rfl hl (by decide) rfl (fun ls hl => ?_)
      refine lv_iinc (v := nI (j + 1)) (lv' := [(3, .int (nI (j + 1))), (2, .int (nI (ncar (65536 ^ n9 - 1 - v) (j + 1)))), (4, .int (nI (((65536 ^ n9 - 1 - v) / 65536 ^ j % 65536) + (ncar (65536 ^ n9 - 1 - v) j)))), (1, .ref q), (0, .ref a)]) hx hb dX4_negative_39 hl (k := 2) rfl (nI_1 _) (by decide) rfl (fun ls hl => ?_)
      refine lv_goto (tgt := 9) hx hb dX4_negative_42 (by decide) ?_
      exact ih (j + 1) _ hlt (upd_step hf rfl) (by omega) ls H locs hP hD hS (lv_sub hl [0, 1, 3, 4] rfl)
set_option maxHeartbeats 4000000 in
set_option maxRecDepth 100000 in
/-- negative(own) -/
theorem c_negative (l : Launch) (g : Gx) (H0 : Heap) (a n9 v : Nat) (hn9 : n9 ≤ 4) (hv : v < 65536 ^ n9) (ha : va_at g.1 vwCl (a, .inl (g.2 0, n9, .inl (rw16 v))) H0) : Met l yX4_negative wsX4_negative rmX4_negative (va_Pc [.ref a] (hB g H0)) (nQ H0 (fun _ => False) (mkR g H0 n9 ((65536 ^ n9 - v) % 65536 ^ n9))) 1 4 (fun q => False ∨ H0.size ≤ q) := by
  refine cx_met (own := RX4) (cc := cX4_negative) (maxL := 5) (by decide) rfl rfl (Nat.le_of_ble_eq_true rfl) ?_
  intro p e s m below meth c ls C0 hB0 hnm hl
  obtain ⟨hH, hK⟩ := hB0
  obtain ⟨hx, hb, hr, hml, hown, hts, hlk⟩ := id C0
  subst hH
  have hS : va_S (fun q => False ∨ s.heap.size ≤ q) s.heap s.heap [] := va_S.rf
  have hA : ∀ q : Nat, s.heap.size ≤ q → (fun q => False ∨ s.heap.size ≤ q) q := fun q h => Or.inr h
  have hl : lv_has ls 5 [(0, .ref a)] := hl
  refine lv_aload_n hx hb dX4_negative_0 rfl (lv_at hl 0 rfl) ?_
  refine r_alen hx hb hK hS ha (nA' ha (fun z => z)) dX4_negative_1 ?_
  refine w_newi hx hb (hts (.arrayClass .int) (by decide +kernel)) hK p0 d0 hS hA (by omega) (by decide) (by show _ ≤ 4; omega) dX4_negative_2 (fun q H1 hq hP hD hS => ?_)
  have hP : va_P g.1 vwCl [(q, .inl (g.2 0, n9, .inl (fun _ => 0)))] H1 := hP
  have hD : va_D _ [(q, .inl (g.2 0, n9, .inl (fun _ => 0)))] := hD
  refine lv_astore_n (lv' := [(1, .ref q), (0, .ref a)]) hx hb dX4_negative_4 rfl hl (by decide) rfl (fun ls hl => ?_)
  refine lv_iconst (v := nI 1) hx hb dX4_negative_5 (by decide) ?_
  refine lv_istore_n (lv' := [(2, .int (nI 1)), (1, .ref q), (0, .ref a)]) hx hb dX4_negative_6 rfl hl (by decide) rfl (fun ls hl => ?_)
  refine lv_iconst (v := nI 0) hx hb dX4_negative_7 (by decide) ?_
  refine lv_istore_n (lv' := [(3, .int (nI 0)), (2, .int (nI 1)), (1, .ref q), (0, .ref a)]) hx hb dX4_negative_8 rfl hl (by decide) rfl (fun ls hl => ?_)
  refine W.widen (k := 1) (n := 4) (by omega) (by omega) ?_
  refine L_negative C0 hK (by omega) hv ha (fun f x hf ls H locs hP hD hS hl => ?_) (n9 + 1) 0 _ (Nat.zero_le _) (fun k hk => absurd hk (Nat.not_lt_zero _)) (by omega) ls H1 [] hP hD hS (by rw [ncar_0]; exact hl)
  refine lv_aload_n hx hb dX4_negative_45 rfl (lv_at hl 2 rfl) ?_
  exact rt_a (mu := fun _ => False) C0 (Or.inr ⟨_, rfl⟩) ⟨q, rfl, hq, at_cong (hP 0 _ rfl) (fun k hk => (hf k hk).trans (rw_top hk).symm)⟩ hS rfl dX4_negative_46
abbrev rmX4_part : Room := { frames := 0, cells := 1, slots := 4, locals := 0 }
set_option maxHeartbeats 4000000 in
set_option maxRecDepth 100000 in
theorem L_part (C0 : Cx p s m args meth c RX4 cX4_part 4 (some (.array .int)) wsX4_part) (hK : KK g s) {a q n9 k9 v : Nat} (hn9 : n9 < 1000) (hk9 : k9 ≤ n9) (ha : va_at g.1 vwCl (a, .inl (g.2 0, n9, .inl (rw16 v))) H0) (K : ∀ (f : Nat → Int32) (hf : ∀ k, k < k9 → f k = rw16 v k) (ls : Array Slot) (H : Heap) (locs : List Loc), va_P g.1 vwCl [(q, .inl (g.2 0, k9, .inl f))] H → va_D (fun q => False ∨ H0.size ≤ q) [(q, .inl (g.2 0, k9, .inl f))] → va_S (fun q => False ∨ H0.size ≤ q) H0 H locs → lv_has ls 4 [(3, .int (nI k9)), (2, .ref q), (0, .ref a), (1, .int (nI k9))] → W p l e rmX4_part s m args below meth c H locs 1 4 Q (F0 m 23 ls [])) : ∀ (n : Nat) (j : Nat) (f : Nat → Int32), j ≤ k9 → (∀ k, k < j → f k = rw16 v k) → k9 - j < n → ∀ (ls : Array Slot) (H : Heap) (locs : List Loc), va_P g.1 vwCl [(q, .inl (g.2 0, k9, .inl f))] H → va_D (fun q => False ∨ H0.size ≤ q) [(q, .inl (g.2 0, k9, .inl f))] → va_S (fun q => False ∨ H0.size ≤ q) H0 H locs → lv_has ls 4 [(3, .int (nI j)), (2, .ref q), (0, .ref a), (1, .int (nI k9))] → W p l e rmX4_part s m args below meth c H locs 1 4 Q (F0 m 6 ls []) := by
  obtain ⟨hx, hb, hr, hml, hown, hts, hlk⟩ := id C0
  have hA : ∀ q : Nat, H0.size ≤ q → (fun q => False ∨ H0.size ≤ q) q := fun _ h => Or.inr h
  intro n
  induction n with
  | zero => intro j f _ _ h; exact absurd h (Nat.not_lt_zero _)
  | succ n ih =>
    intro j f hj hf hn ls H locs hP hD hS hl
    refine lv_iload_n hx hb dX4_part_6 rfl (lv_at hl 0 rfl) ?_
    refine lv_iload_n hx hb dX4_part_7 rfl (lv_at hl 3 rfl) ?_
    refine lv_icmp_ge (tgt := 23) hx hb dX4_part_8 (by decide) (fun h1 => ?_) (fun h1 => ?_)
    · skip
      have hge : k9 ≤ j := by
        rcases Nat.lt_or_ge j k9 with h | h
        · exact absurd h1 (nI_ge h (by omega))
        · exact h
      obtain rfl : j = k9 := by omega
      exact K f hf ls H locs hP hD hS hl
    · skip
      have hlt : j < k9 := by
        rcases Nat.lt_or_ge j k9 with h | h
        · exact h
        · exact absurd (nI_le h (by omega)) h1
      refine lv_aload_n hx hb dX4_part_11 rfl (lv_at hl 1 rfl) ?_
      refine lv_iload_n hx hb dX4_part_12 rfl (lv_at hl 0 rfl) ?_
      refine lv_aload_n hx hb dX4_part_13 rfl (lv_at hl 2 rfl) ?_
      refine lv_iload_n hx hb dX4_part_14 rfl (lv_at hl 0 rfl) ?_
      refine r_iald (j := j) hx hb hK hS ha (nA' ha (fun z => z)) (by omega) (by omega) dX4_part_15 ?_
      refine w_iast (j := j) hx hb hK hP hD hS 0 rfl hlt (by omega) dX4_part_16 (fun H locs hP hD hS => ?_)
      have hP : va_P g.1 vwCl [(q, .inl (g.2 0, k9, .inl (upd f j (rw16 v j))))] H := hP
      have hD : va_D _ [(q, .inl (g.2 0, k9, .inl (upd f j (rw16 v j))))] := hD
      refine lv_iinc (v := nI (j + 1)) (lv' := [(3, .int (nI (j + 1))), (2, .ref q), (0, .ref a), (1, .int (nI k9))]) hx hb dX4_part_17 hl (k := 0) rfl (nI_1 _) (by decide) rfl (fun ls hl => ?_)
      refine lv_goto (tgt := 6) hx hb dX4_part_20 (by decide) ?_
      exact ih (j + 1) _ hlt (upd_step hf rfl) (by omega) ls H locs hP hD hS (lv_sub hl [0, 1, 2, 3] rfl)
set_option maxHeartbeats 4000000 in
set_option maxRecDepth 100000 in
/-- part(cell, many) -/
theorem c_part (l : Launch) (g : Gx) (H0 : Heap) (a n9 k9 v : Nat) (hn9 : n9 ≤ 4) (hk9 : k9 ≤ n9) (ha : va_at g.1 vwCl (a, .inl (g.2 0, n9, .inl (rw16 v))) H0) : Met l yX4_part wsX4_part rmX4_part (va_Pc [.ref a, .int (nI k9)] (hB g H0)) (nQ H0 (fun _ => False) (mkR g H0 k9 (v % 65536 ^ k9))) 1 4 (fun q => False ∨ H0.size ≤ q) := by
  refine cx_met (own := RX4) (cc := cX4_part) (maxL := 4) (by decide) rfl rfl (Nat.le_of_ble_eq_true rfl) ?_
  intro p e s m below meth c ls C0 hB0 hnm hl
  obtain ⟨hH, hK⟩ := hB0
  obtain ⟨hx, hb, hr, hml, hown, hts, hlk⟩ := id C0
  subst hH
  have hS : va_S (fun q => False ∨ s.heap.size ≤ q) s.heap s.heap [] := va_S.rf
  have hA : ∀ q : Nat, s.heap.size ≤ q → (fun q => False ∨ s.heap.size ≤ q) q := fun q h => Or.inr h
  have hl : lv_has ls 4 [(0, .ref a), (1, .int (nI k9))] := hl
  refine lv_iload_n hx hb dX4_part_0 rfl (lv_at hl 1 rfl) ?_
  refine w_newi hx hb (hts (.arrayClass .int) (by decide +kernel)) hK p0 d0 hS hA (by omega) (by decide) (by show _ ≤ 4; omega) dX4_part_1 (fun q H1 hq hP hD hS => ?_)
  have hP : va_P g.1 vwCl [(q, .inl (g.2 0, k9, .inl (fun _ => 0)))] H1 := hP
  have hD : va_D _ [(q, .inl (g.2 0, k9, .inl (fun _ => 0)))] := hD
  refine lv_astore_n (lv' := [(2, .ref q), (0, .ref a), (1, .int (nI k9))]) hx hb dX4_part_3 rfl hl (by decide) rfl (fun ls hl => ?_)
  refine lv_iconst (v := nI 0) hx hb dX4_part_4 (by decide) ?_
  refine lv_istore_n (lv' := [(3, .int (nI 0)), (2, .ref q), (0, .ref a), (1, .int (nI k9))]) hx hb dX4_part_5 rfl hl (by decide) rfl (fun ls hl => ?_)
  refine W.widen (k := 1) (n := 4) (by omega) (by omega) ?_
  refine L_part C0 hK (by omega) hk9 ha (fun f hf ls H locs hP hD hS hl => ?_) (k9 + 1) 0 _ (Nat.zero_le _) (fun k hk => absurd hk (Nat.not_lt_zero _)) (by omega) ls H1 [] hP hD hS hl
  refine lv_aload_n hx hb dX4_part_23 rfl (lv_at hl 1 rfl) ?_
  exact rt_a (mu := fun _ => False) C0 (Or.inr ⟨_, rfl⟩) ⟨q, rfl, hq, at_cong (hP 0 _ rfl) (fun k hk => (hf k hk).trans (rw_top hk).symm)⟩ hS rfl dX4_part_24
end M12

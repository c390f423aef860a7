-- the reference: wide, set, turned, backward
theorem va_at.kp {A : Nat → Prop} {D : va_G} {cl : List vw_C} {q : Nat × va_E} {H0 H : Heap} {locs : List Loc} (h : va_at D cl q H0) (hS : va_S A H0 H locs) (hA : ¬ A q.1) : va_at D cl q H := h.kept (hS.2.1 q.1 h.lt hA)
theorem d1c {A : Nat → Prop} {a : Nat} {e e' : va_E} (h : va_D A [(a, e)]) : va_D A [(a, e')] := d1 (q := (a, e')) (h.2 0 (a, e) rfl)
/-- a bit that is 0 becomes b: the others stay -/
theorem bitadd {v k b : Nat} (hw : v / 2 ^ k % 2 = 0) (hb : b < 2) (i : Nat) : (v + b * 2 ^ k) / 2 ^ i % 2 = if i = k then b else v / 2 ^ i % 2 := by
  have hk : 0 < 2 ^ k := Nat.pow_pos (by decide)
  split
  · next e =>
    subst e
    rw [Nat.add_mul_div_right _ _ hk]
    omega
  · next e =>
    rcases Nat.lt_or_ge i k with h | h
    · have hi : 0 < 2 ^ i := Nat.pow_pos (by decide)
      rw [show b * 2 ^ k = (b * (2 * 2 ^ (k - i - 1))) * 2 ^ i by rw [← Nat.pow_succ', Nat.mul_assoc, ← Nat.pow_add]; congr 2; omega, Nat.add_mul_div_right _ _ hi, show b * (2 * 2 ^ (k - i - 1)) = 2 * (b * 2 ^ (k - i - 1)) by rw [Nat.mul_left_comm]]
      omega
    · have e1 : (v + b * 2 ^ k) / 2 ^ (k + 1) = v / 2 ^ (k + 1) := by
        rw [Nat.pow_succ, ← Nat.div_div_eq_div_mul, ← Nat.div_div_eq_div_mul, Nat.add_mul_div_right _ _ hk]
        omega
      rw [show 2 ^ i = 2 ^ (k + 1) * 2 ^ (i - k - 1) by rw [← Nat.pow_add]; congr 1; omega, ← Nat.div_div_eq_div_mul, ← Nat.div_div_eq_div_mul, e1]
theorem low_free {x r b : Nat} (hr : r < 16) (hb : b < 2) (h : x / 2 ^ r % 2 = 0) : x % 65536 + b * 2 ^ r < 65536 := by
  rcases (show r = 0 ∨ r = 1 ∨ r = 2 ∨ r = 3 ∨ r = 4 ∨ r = 5 ∨ r = 6 ∨ r = 7 ∨ r = 8 ∨ r = 9 ∨ r = 10 ∨ r = 11 ∨ r = 12 ∨ r = 13 ∨ r = 14 ∨ r = 15 by omega) with rfl | rfl | rfl | rfl | rfl | rfl | rfl | rfl | rfl | rfl | rfl | rfl | rfl | rfl | rfl | rfl <;> omega
/-- .. and so the row: one place grows -/
theorem set_num {v k b : Nat} (hw : v / 2 ^ k % 2 = 0) (hb : b < 2) (i : Nat) : upd (rw16 v) (k / 16) (nI (v / 65536 ^ (k / 16) % 65536 + b * 2 ^ (k % 16))) i = rw16 (v + b * 2 ^ k) i := by
  have hB : ∀ j : Nat, 0 < 65536 ^ j := fun j => Nat.pow_pos (by decide)
  have e2 : 2 ^ k = 65536 ^ (k / 16) * 2 ^ (k % 16) := by
    rw [show (65536 : Nat) = 2 ^ 16 from rfl, ← Nat.pow_mul, ← Nat.pow_add]
    congr 1
    omega
  have hx : v / 65536 ^ (k / 16) / 2 ^ (k % 16) % 2 = 0 := by rw [Nat.div_div_eq_div_mul, ← e2]; exact hw
  have hf := low_free (Nat.mod_lt k (show 0 < 16 by decide)) hb hx
  have hd : (v + b * 2 ^ k) / 65536 ^ (k / 16) = v / 65536 ^ (k / 16) + b * 2 ^ (k % 16) := by
    rw [e2, show b * (65536 ^ (k / 16) * 2 ^ (k % 16)) = (b * 2 ^ (k % 16)) * 65536 ^ (k / 16) by rw [Nat.mul_left_comm, Nat.mul_comm], Nat.add_mul_div_right _ _ (hB _)]
  by_cases e : i = k / 16
  · subst e
    rw [pk_us]
    unfold rw16
    rw [hd]
    refine congrArg nI ?_
    omega
  · rw [pk_un e]
    unfold rw16
    refine congrArg nI ?_
    rcases Nat.lt_or_ge i (k / 16) with h | h
    · rw [show b * 2 ^ k = (65536 * (65536 ^ (k / 16 - i - 1) * (b * 2 ^ (k % 16)))) * 65536 ^ i by
        rw [e2, show 65536 ^ (k / 16) = 65536 * 65536 ^ (k / 16 - i - 1) * 65536 ^ i by rw [← Nat.pow_succ', ← Nat.pow_add]; congr 1; omega]
        simp only [Nat.mul_assoc, Nat.mul_left_comm, Nat.mul_comm], Nat.add_mul_div_right _ _ (hB _)]
      omega
    · have e1 : (v + b * 2 ^ k) / 65536 ^ (k / 16 + 1) = v / 65536 ^ (k / 16 + 1) := by
        rw [Nat.pow_succ, ← Nat.div_div_eq_div_mul, ← Nat.div_div_eq_div_mul, hd]
        omega
      rw [show 65536 ^ i = 65536 ^ (k / 16 + 1) * 65536 ^ (i - k / 16 - 1) by rw [← Nat.pow_add]; congr 1; omega, ← Nat.div_div_eq_div_mul, ← Nat.div_div_eq_div_mul, e1]
/-- the first j bits of v, each at its own place -/
def tsum (v : Nat) (f : Nat → Nat) : Nat → Nat
  | 0 => 0
  | k + 1 => tsum v f k + (v / 2 ^ k % 2) * 2 ^ f k
theorem tsum_bits {v : Nat} {f : Nat → Nat} : ∀ j : Nat, (∀ a b, a < j → b < j → f a = f b → a = b) → (∀ k, k < j → tsum v f j / 2 ^ f k % 2 = v / 2 ^ k % 2) ∧ ∀ i, (∀ k, k < j → f k ≠ i) → tsum v f j / 2 ^ i % 2 = 0
  | 0, _ => ⟨fun k hk => absurd hk (Nat.not_lt_zero k), fun i _ => by show 0 / 2 ^ i % 2 = 0; rw [Nat.zero_div]⟩
  | j + 1, hi => by
    obtain ⟨h1, h2⟩ := tsum_bits (v := v) (f := f) j (fun a b ha hb e => hi a b (by omega) (by omega) e)
    have hw : tsum v f j / 2 ^ f j % 2 = 0 := h2 (f j) (fun k hk e => by have := hi k j (by omega) (by omega) e; omega)
    have hb : v / 2 ^ j % 2 < 2 := Nat.mod_lt _ (by decide)
    refine ⟨fun k hk => ?_, fun i hni => ?_⟩
    · show (tsum v f j + (v / 2 ^ j % 2) * 2 ^ f j) / 2 ^ f k % 2 = _
      rw [bitadd hw hb]
      split
      · next e => rw [hi k j hk (by omega) e]
      · next e =>
        rcases Nat.lt_or_ge k j with q | q
        · exact h1 k q
        · rw [show k = j by omega] at e
          exact absurd rfl e
    · show (tsum v f j + (v / 2 ^ j % 2) * 2 ^ f j) / 2 ^ i % 2 = _
      rw [bitadd hw hb, if_neg (fun e => hni j (by omega) e.symm)]
      exact h2 i (fun k hk => hni k (by omega))
theorem tsum_free {v : Nat} {f : Nat → Nat} {N j : Nat} (hj : j < N) (hi : ∀ a b, a < N → b < N → f a = f b → a = b) : tsum v f j / 2 ^ f j % 2 = 0 :=
  (tsum_bits j (fun a b ha hb => hi a b (by omega) (by omega))).2 (f j) (fun k hk e => by have := hi k j (by omega) hj e; omega)
theorem rw16_0 (k : Nat) : (fun _ : Nat => (0 : Int32)) k = rw16 0 k := by
  show (0 : Int32) = nI (0 / 65536 ^ k % 65536)
  rw [Nat.zero_div]
  rfl
section M14
variable {p : Program} {l : Launch} {e : Env} {s : State} {m : MethodId} {args : Array Value} {below : List Frame} {meth : Method} {c : Code} {H H0 : Heap} {locs : List Loc} {cells slots : Nat} {Q : State → Prop} {A : Nat → Prop} {g : Gx}
abbrev rmX4_wide : Room := { frames := 1, cells := 1, slots := 4, locals := 20 }
set_option maxHeartbeats 4000000 in
set_option maxRecDepth 100000 in
theorem L_wide (C0 : Cx p s m args meth c RX4 cX4_wide 3 (some (.array .int)) wsX4_wide) (hK : KK g s) {a q n9 v : Nat} (hn9 : n9 = 2 ∨ n9 = 4) (hv : v < 65536 ^ n9) (ha : va_at g.1 vwCl (a, .inl (g.2 0, n9, .inl (rw16 v))) H0) (K : ∀ (f : Nat → Int32) (hf : ∀ k, k < 4 → f k = rw16 (wideN n9 v) k) (ls : Array Slot) (H : Heap) (locs : List Loc), va_P g.1 vwCl [(q, .inl (g.2 0, 4, .inl f))] H → va_D (fun q => False ∨ H0.size ≤ q) [(q, .inl (g.2 0, 4, .inl f))] → va_S (fun q => False ∨ H0.size ≤ q) H0 H locs → lv_has ls 3 [(2, .int (nI 4)), (1, .ref q), (0, .ref a)] → W p l e rmX4_wide s m args below meth c H locs 1 4 Q (F0 m 45 ls [])) : ∀ (n : Nat) (j : Nat) (f : Nat → Int32), j ≤ 4 → (∀ k, k < j → f k = rw16 (wideN n9 v) k) → 4 - j < n → ∀ (ls : Array Slot) (H : Heap) (locs : List Loc), va_P g.1 vwCl [(q, .inl (g.2 0, 4, .inl f))] H → va_D (fun q => False ∨ H0.size ≤ q) [(q, .inl (g.2 0, 4, .inl f))] → va_S (fun q => False ∨ H0.size ≤ q) H0 H locs → lv_has ls 3 [(2, .int (nI j)), (1, .ref q), (0, .ref a)] → W p l e rmX4_wide s m args below meth c H locs 1 4 Q (F0 m 6 ls []) := by
  obtain ⟨hx, hb, hr, hml, hown, hts, hlk⟩ := id C0
  have hA : ∀ q : Nat, H0.size ≤ q → (fun q => False ∨ H0.size ≤ q) q := fun _ h => Or.inr h
  intro n
  induction n with
  | zero => intro j f _ _ h; exact absurd h (Nat.not_lt_zero _)
  | succ n ih =>
    intro j f hj hf hn ls H locs hP hD hS hl
    refine lv_iload_n hx hb dX4_wide_6 rfl (lv_at hl 0 rfl) ?_
    refine lv_iconst (v := nI 4) hx hb dX4_wide_7 (by decide) ?_
    refine lv_icmp_ge (tgt := 45) hx hb dX4_wide_8 (by decide) (fun h1 => ?_) (fun h1 => ?_)
    · skip
      have hge : 4 ≤ j := by
        rcases Nat.lt_or_ge j 4 with h | h
        · exact absurd h1 (nI_ge h (by omega))
        · exact h
      obtain rfl : j = 4 := by omega
      exact K f hf ls H locs hP hD hS hl
    · skip
      have hlt : j < 4 := by
        rcases Nat.lt_or_ge j 4 with h | h
        · exact h
        · exact absurd (nI_le h (by omega)) h1
      refine lv_aload_n hx hb dX4_wide_11 rfl (lv_at hl 1 rfl) ?_
      refine lv_iload_n hx hb dX4_wide_12 rfl (lv_at hl 0 rfl) ?_
      refine lv_iload_n hx hb dX4_wide_13 rfl (lv_at hl 0 rfl) ?_
      refine lv_aload_n hx hb dX4_wide_14 rfl (lv_at hl 2 rfl) ?_
      refine r_alen hx hb hK hS ha (nA' ha (fun z => z)) dX4_wide_15 ?_
      refine lv_icmp_ge (tgt := 25) hx hb dX4_wide_16 (by decide) (fun h2 => ?_) (fun h2 => ?_)
      · skip
        have hge2 : n9 ≤ j := by
          rcases Nat.lt_or_ge j n9 with h | h
          · exact absurd h2 (nI_ge h (by omega))
          · exact h
        refine lv_aload_n hx hb dX4_wide_25 rfl (lv_at hl 2 rfl) ?_
        refine cp_S (As := [.ref a]) (rest := [.int (nI j), .ref q]) C0 hl hK hS hA (c_isNegative l g H a (n9 - 1) v (by omega) (by rw [show n9 - 1 + 1 = n9 by omega]; exact hv) (by rw [show n9 - 1 + 1 = n9 by omega]; exact (ha.kp hS (nA' ha (fun z => z))))) gX4_wide_X4_isNegative rfl ⟨rfl, rfl⟩ (show hd_ok yX4_isNegative 1 from ⟨by decide, by decide, by decide +kernel⟩) ⟨Nat.le_of_ble_eq_true rfl, Nat.le_of_ble_eq_true rfl⟩ rfl (Nat.le_of_ble_eq_true rfl) ⟨by decide, by decide⟩ dX4_wide_26 (fun locs hS => ?_)
        refine lv_if_eq (tgt := 37) hx hb dX4_wide_29 (by decide) (fun h3 => ?_) (fun h3 => ?_)
        · skip
          refine lv_iconst (v := nI 0) hx hb dX4_wide_37 (by decide) ?_
          refine w_iast (j := j) hx hb hK hP hD hS 0 rfl hlt (by omega) dX4_wide_38 (fun H locs hP hD hS => ?_)
          have hP : va_P g.1 vwCl [(q, .inl (g.2 0, 4, .inl (upd f j (nI 0))))] H := hP
          have hD : va_D _ [(q, .inl (g.2 0, 4, .inl (upd f j (nI 0))))] := hD
          refine lv_iinc (v := nI (j + 1)) (lv' := [(2, .int (nI (j + 1))), (1, .ref q), (0, .ref a)]) hx hb dX4_wide_39 hl (k := 0) rfl (nI_1 _) (by decide) rfl (fun ls hl => ?_)
          refine lv_goto (tgt := 6) hx hb dX4_wide_42 (by decide) ?_
          have h4 := of_decide_eq_false (bI_0 h3)
          rw [show n9 - 1 + 1 = n9 by omega] at h4
          exact ih (j + 1) _ hlt (upd_step hf ((if_neg h4).symm.trans (wide_hi hn9 hv hge2 hlt))) (by omega) ls H locs hP hD hS (lv_sub hl [0, 1, 2] rfl)
        · skip
          refine lv_ldc (v := nI 65535) hx hb hown (hts (.constant RX4 53 (65535)) (by decide +kernel)) dX4_wide_32 ?_
          refine lv_goto (tgt := 38) hx hb dX4_wide_34 (by decide) ?_
          refine w_iast (j := j) hx hb hK hP hD hS 0 rfl hlt (by omega) dX4_wide_38 (fun H locs hP hD hS => ?_)
          have hP : va_P g.1 vwCl [(q, .inl (g.2 0, 4, .inl (upd f j (nI 65535))))] H := hP
          have hD : va_D _ [(q, .inl (g.2 0, 4, .inl (upd f j (nI 65535))))] := hD
          refine lv_iinc (v := nI (j + 1)) (lv' := [(2, .int (nI (j + 1))), (1, .ref q), (0, .ref a)]) hx hb dX4_wide_39 hl (k := 0) rfl (nI_1 _) (by decide) rfl (fun ls hl => ?_)
          refine lv_goto (tgt := 6) hx hb dX4_wide_42 (by decide) ?_
          have h4 := of_decide_eq_true (bI_n0 h3)
          rw [show n9 - 1 + 1 = n9 by omega] at h4
          exact ih (j + 1) _ hlt (upd_step hf ((if_pos h4).symm.trans (wide_hi hn9 hv hge2 hlt))) (by omega) ls H locs hP hD hS (lv_sub hl [0, 1, 2] rfl)
      · skip
        have hlt2 : j < n9 := by
          rcases Nat.lt_or_ge j n9 with h | h
          · exact h
          · exact absurd (nI_le h (by omega)) h2
        refine lv_aload_n hx hb dX4_wide_19 rfl (lv_at hl 2 rfl) ?_
        refine lv_iload_n hx hb dX4_wide_20 rfl (lv_at hl 0 rfl) ?_
        refine r_iald (j := j) hx hb hK hS ha (nA' ha (fun z => z)) hlt2 (by omega) dX4_wide_21 ?_
        refine lv_goto (tgt := 38) hx hb dX4_wide_22 (by decide) ?_
        refine w_iast (j := j) hx hb hK hP hD hS 0 rfl hlt (by omega) dX4_wide_38 (fun H locs hP hD hS => ?_)
        have hP : va_P g.1 vwCl [(q, .inl (g.2 0, 4, .inl (upd f j (rw16 v j))))] H := hP
        have hD : va_D _ [(q, .inl (g.2 0, 4, .inl (upd f j (rw16 v j))))] := hD
        refine lv_iinc (v := nI (j + 1)) (lv' := [(2, .int (nI (j + 1))), (1, .ref q), (0, .ref a)]) hx hb dX4_wide_39 hl (k := 0) rfl (nI_1 _) (by decide) rfl (fun ls hl => ?_)
        refine lv_goto (tgt := 6) hx hb dX4_wide_42 (by decide) ?_
        exact ih (j + 1) _ hlt (upd_step hf (wide_lo hn9 hv hlt2)) (by omega) ls H locs hP hD hS (lv_sub hl [0, 1, 2] rfl)
set_option maxHeartbeats 4000000 in
set_option maxRecDepth 100000 in
/-- wide(own) -/
theorem c_wide (l : Launch) (g : Gx) (H0 : Heap) (a n9 v : Nat) (hn9 : n9 = 2 ∨ n9 = 4) (hv : v < 65536 ^ n9) (ha : va_at g.1 vwCl (a, .inl (g.2 0, n9, .inl (rw16 v))) H0) : Met l yX4_wide wsX4_wide rmX4_wide (va_Pc [.ref a] (hB g H0)) (nQ H0 (fun _ => False) (mkR g H0 4 (wideN n9 v))) 1 4 (fun q => False ∨ H0.size ≤ q) := by
  refine cx_met (own := RX4) (cc := cX4_wide) (maxL := 3) (by decide) rfl rfl (Nat.le_of_ble_eq_true rfl) ?_
  intro p e s m below meth c ls C0 hB0 hnm hl
  obtain ⟨hH, hK⟩ := hB0
  obtain ⟨hx, hb, hr, hml, hown, hts, hlk⟩ := id C0
  subst hH
  have hS : va_S (fun q => False ∨ s.heap.size ≤ q) s.heap s.heap [] := va_S.rf
  have hA : ∀ q : Nat, s.heap.size ≤ q → (fun q => False ∨ s.heap.size ≤ q) q := fun q h => Or.inr h
  have hl : lv_has ls 3 [(0, .ref a)] := hl
  refine lv_iconst (v := nI 4) hx hb dX4_wide_0 (by decide) ?_
  refine w_newi hx hb (hts (.arrayClass .int) (by decide +kernel)) hK p0 d0 hS hA (by omega) (by decide) (by decide) dX4_wide_1 (fun q H1 hq hP hD hS => ?_)
  have hP : va_P g.1 vwCl [(q, .inl (g.2 0, 4, .inl (fun _ => 0)))] H1 := hP
  have hD : va_D _ [(q, .inl (g.2 0, 4, .inl (fun _ => 0)))] := hD
  refine lv_astore_n (lv' := [(1, .ref q), (0, .ref a)]) hx hb dX4_wide_3 rfl hl (by decide) rfl (fun ls hl => ?_)
  refine lv_iconst (v := nI 0) hx hb dX4_wide_4 (by decide) ?_
  refine lv_istore_n (lv' := [(2, .int (nI 0)), (1, .ref q), (0, .ref a)]) hx hb dX4_wide_5 rfl hl (by decide) rfl (fun ls hl => ?_)
  refine W.widen (k := 1) (n := 4) (by omega) (by omega) ?_
  refine L_wide C0 hK hn9 hv ha (fun f hf ls H locs hP hD hS hl => ?_) (4 + 1) 0 _ (Nat.zero_le _) (fun k hk => absurd hk (Nat.not_lt_zero _)) (by omega) ls H1 [] hP hD hS hl
  refine lv_aload_n hx hb dX4_wide_45 rfl (lv_at hl 1 rfl) ?_
  exact rt_a (mu := fun _ => False) C0 (Or.inr ⟨_, rfl⟩) ⟨q, rfl, hq, at_cong (hP 0 _ rfl) hf⟩ hS rfl dX4_wide_46
abbrev rmX4_set : Room := { frames := 2, cells := 0, slots := 0, locals := 43 }
set_option maxHeartbeats 4000000 in
set_option maxRecDepth 100000 in
/-- set(own, place, bit): of a bit that is 0 -/
theorem c_set (l : Launch) (g : Gx) (H0 : Heap) (a n9 v k b : Nat) (hn9 : n9 < 1000) (hk : k < 16 * n9) (hb2 : b < 2) (hw : v / 2 ^ k % 2 = 0) (ha : va_at g.1 vwCl (a, .inl (g.2 0, n9, .inl (rw16 v))) H0) : Met l yX4_set wsX4_set rmX4_set (va_Pc [.ref a, .int (nI k), .int (nI b)] (hB g H0)) (nQ H0 (fun q => q = a) (fun r H1 => r = none ∧ va_at g.1 vwCl (a, .inl (g.2 0, n9, .inl (rw16 (v + b * 2 ^ k)))) H1)) 0 0 (fun q => q = a ∨ H0.size ≤ q) := by
  refine cx_met (own := RX4) (cc := cX4_set) (maxL := 4) (by decide) rfl rfl (Nat.le_of_ble_eq_true rfl) ?_
  intro p e s m below meth c ls C0 hB0 hnm hl
  obtain ⟨hH, hK⟩ := hB0
  obtain ⟨hx, hb, hr, hml, hown, hts, hlk⟩ := id C0
  subst hH
  have hS : va_S (fun q => q = a ∨ s.heap.size ≤ q) s.heap s.heap [] := va_S.rf
  have hA : ∀ q : Nat, s.heap.size ≤ q → (fun q => q = a ∨ s.heap.size ≤ q) q := fun q h => Or.inr h
  have hl : lv_has ls 4 [(0, .ref a), (1, .int (nI k)), (2, .int (nI b))] := hl
  have hP : va_P g.1 vwCl [(a, .inl (g.2 0, n9, .inl (rw16 v)))] s.heap := p1 ha
  have hD : va_D (fun q => q = a ∨ s.heap.size ≤ q) [(a, .inl (g.2 0, n9, .inl (rw16 v)))] := d1 (Or.inl rfl)
  refine lv_aload_n hx hb dX4_set_0 rfl (lv_at hl 0 rfl) ?_
  refine lv_iload_n hx hb dX4_set_1 rfl (lv_at hl 1 rfl) ?_
  refine cp_S (As := [.ref a, .int (nI k)]) (rest := []) C0 hl hK hS hA (c_bit l g s.heap a n9 v k ha hk hn9) gX4_set_X4_bit rfl ⟨rfl, rfl⟩ (show hd_ok yX4_bit 2 from ⟨by decide, by decide, by decide +kernel⟩) ⟨Nat.le_of_ble_eq_true rfl, Nat.le_of_ble_eq_true rfl⟩ rfl (Nat.le_of_ble_eq_true rfl) ⟨Nat.zero_le _, Nat.zero_le _⟩ dX4_set_2 (fun locs hS => ?_)
  refine tp_i (y := nI 0) (congrArg nI hw) ?_
  refine lv_istore_n (lv' := [(3, .int (nI 0)), (0, .ref a), (1, .int (nI k)), (2, .int (nI b))]) hx hb dX4_set_5 rfl hl (by decide) rfl (fun ls hl => ?_)
  refine lv_aload_n hx hb dX4_set_6 rfl (lv_at hl 1 rfl) ?_
  refine lv_iload_n hx hb dX4_set_7 rfl (lv_at hl 2 rfl) ?_
  refine lv_bipush (v := nI 16) hx hb dX4_set_8 (by decide) ?_
  refine lv_idiv hx hb dX4_set_10 (by decide) ?_
  refine tp_i (y := nI (k / 16)) (pk_div (by omega) (by omega) (by omega)) ?_
  refine lv_dup2_11 hx hb dX4_set_11 rfl rfl ?_
  refine w_iald (j := k / 16) hx hb hK hP 0 rfl (by omega) (by omega) dX4_set_12 ?_
  refine tp_i (y := nI (v / 65536 ^ (k / 16) % 65536)) (rfl) ?_
  refine lv_iload_n hx hb dX4_set_13 rfl (lv_at hl 3 rfl) ?_
  refine lv_iload_n hx hb dX4_set_14 rfl (lv_at hl 0 rfl) ?_
  refine lv_isub hx hb dX4_set_15 ?_
  refine tp_i (y := nI b) (pk_sub (Nat.zero_le b)) ?_
  refine lv_iload_n hx hb dX4_set_16 rfl (lv_at hl 2 rfl) ?_
  refine lv_bipush (v := nI 16) hx hb dX4_set_17 (by decide) ?_
  refine lv_irem hx hb dX4_set_19 (by decide) ?_
  refine tp_i (y := nI (k % 16)) (pk_rem (by omega) (by omega) (by omega)) ?_
  refine cp_S (As := [.int (nI (k % 16))]) (rest := [.int (nI b), .int (nI (v / 65536 ^ (k / 16) % 65536)), .int (nI (k / 16)), .ref a]) C0 hl hK hS hA (c_power l g s.heap (k % 16) (by omega)) gX4_set_X4_power rfl ⟨rfl, rfl⟩ (show hd_ok yX4_power 1 from ⟨by decide, by decide, by decide +kernel⟩) ⟨Nat.le_of_ble_eq_true rfl, Nat.le_of_ble_eq_true rfl⟩ rfl (Nat.le_of_ble_eq_true rfl) ⟨Nat.zero_le _, Nat.zero_le _⟩ dX4_set_20 (fun locs hS => ?_)
  refine lv_imul hx hb dX4_set_23 ?_
  refine tp_i (y := nI (b * (2 ^ (k % 16)))) (pk_mul _ _) ?_
  refine lv_iadd hx hb dX4_set_24 ?_
  refine tp_i (y := nI ((v / 65536 ^ (k / 16) % 65536) + (b * (2 ^ (k % 16))))) (nI_add _ _) ?_
  refine w_iast (j := k / 16) hx hb hK hP hD hS 0 rfl (by omega) (by omega) dX4_set_25 (fun H locs hP hD hS => ?_)
  have hP : va_P g.1 vwCl [(a, .inl (g.2 0, n9, .inl (upd (rw16 v) (k / 16) (nI ((v / 65536 ^ (k / 16) % 65536) + (b * (2 ^ (k % 16))))))))] H := hP
  have hD : va_D _ [(a, .inl (g.2 0, n9, .inl (upd (rw16 v) (k / 16) (nI ((v / 65536 ^ (k / 16) % 65536) + (b * (2 ^ (k % 16))))))))] := hD
  exact rt_v (mu := fun q => q = a) C0 ⟨rfl, at_cong (hP 0 _ rfl) (fun i _ => set_num hw hb2 i)⟩ hS rfl dX4_set_26
/-- the place to which a bit is turned -/
def tpl (N b : Nat) (k : Nat) : Nat := (k + b) % N
theorem tpl_inj {n b : Nat} (hn : n = 2 ∨ n = 4) : ∀ x y, x < 16 * n → y < 16 * n → tpl (16 * n) b x = tpl (16 * n) b y → x = y := by
  intro x y hx hy h
  unfold tpl at h
  rcases hn with rfl | rfl <;> omega
/-- .. about: the bits, or the bytes -/
def bpl (N : Nat) (yb : Bool) (k : Nat) : Nat := if yb then 8 * (N / 8 - 1 - k / 8) + k % 8 else N - 1 - k
theorem bpl_inj {n : Nat} {yb : Bool} (hn : n = 2 ∨ n = 4) : ∀ x y, x < 16 * n → y < 16 * n → bpl (16 * n) yb x = bpl (16 * n) yb y → x = y := by
  intro x y hx hy h
  unfold bpl at h
  rcases hn with rfl | rfl <;> cases yb <;> simp at h <;> omega
theorem bpl_lt {n : Nat} {yb : Bool} (hn : n = 2 ∨ n = 4) {x : Nat} (hx : x < 16 * n) : bpl (16 * n) yb x < 16 * n := by
  unfold bpl
  rcases hn with rfl | rfl <;> cases yb <;> simp <;> omega
abbrev rmX4_turned : Room := { frames := 3, cells := 1, slots := 4, locals := 66 }
set_option maxHeartbeats 4000000 in
set_option maxRecDepth 100000 in
theorem L_turned (C0 : Cx p s m args meth c RX4 cX4_turned 5 (some (.array .int)) wsX4_turned) (hK : KK g s) {a q n9 v b9 : Nat} {x : Int32} (hn9 : n9 = 2 ∨ n9 = 4) (hb9 : b9 < 1000) (ha : va_at g.1 vwCl (a, .inl (g.2 0, n9, .inl (rw16 v))) H0) (K : ∀ (ls : Array Slot) (H : Heap) (locs : List Loc), va_P g.1 vwCl [(q, .inl (g.2 0, n9, .inl (rw16 (tsum v (tpl (16 * n9) b9) (16 * n9)))))] H → va_D (fun q => False ∨ H0.size ≤ q) [(q, .inl (g.2 0, n9, .inl (rw16 (tsum v (tpl (16 * n9) b9) (16 * n9)))))] → va_S (fun q => False ∨ H0.size ≤ q) H0 H locs → lv_has ls 5 [(4, .int (nI (16 * n9))), (3, .int (nI b9)), (2, .ref q), (0, .ref a), (1, .int x)] → W p l e rmX4_turned s m args below meth c H locs 1 4 Q (F0 m 54 ls [])) : ∀ (n : Nat) (j : Nat), j ≤ 16 * n9 → 16 * n9 - j < n → ∀ (ls : Array Slot) (H : Heap) (locs : List Loc), va_P g.1 vwCl [(q, .inl (g.2 0, n9, .inl (rw16 (tsum v (tpl (16 * n9) b9) j))))] H → va_D (fun q => False ∨ H0.size ≤ q) [(q, .inl (g.2 0, n9, .inl (rw16 (tsum v (tpl (16 * n9) b9) j))))] → va_S (fun q => False ∨ H0.size ≤ q) H0 H locs → lv_has ls 5 [(4, .int (nI j)), (3, .int (nI b9)), (2, .ref q), (0, .ref a), (1, .int x)] → W p l e rmX4_turned s m args below meth c H locs 1 4 Q (F0 m 20 ls []) := by
  obtain ⟨hx, hb, hr, hml, hown, hts, hlk⟩ := id C0
  have hA : ∀ q : Nat, H0.size ≤ q → (fun q => False ∨ H0.size ≤ q) q := fun _ h => Or.inr h
  intro n
  induction n with
  | zero => intro j _ h; exact absurd h (Nat.not_lt_zero _)
  | succ n ih =>
    intro j hj hn ls H locs hP hD hS hl
    refine lv_iload hx hb dX4_turned_20 (lv_at hl 0 rfl) ?_
    refine lv_aload_n hx hb dX4_turned_22 rfl (lv_at hl 3 rfl) ?_
    refine cp_S (As := [.ref a]) (rest := [.int (nI j)]) C0 hl hK hS hA (c_bits l g H a n9 (rw16 v) (ha.kp hS (nA' ha (fun z => z)))) gX4_turned_X4_bits rfl ⟨rfl, rfl⟩ (show hd_ok yX4_bits 1 from ⟨by decide, by decide, by decide +kernel⟩) ⟨Nat.le_of_ble_eq_true rfl, Nat.le_of_ble_eq_true rfl⟩ rfl (Nat.le_of_ble_eq_true rfl) ⟨by decide, by decide⟩ dX4_turned_23 (fun locs hS => ?_)
    refine lv_icmp_ge (tgt := 54) hx hb dX4_turned_26 (by decide) (fun h1 => ?_) (fun h1 => ?_)
    · skip
      have hge : 16 * n9 ≤ j := by
        rcases Nat.lt_or_ge j (16 * n9) with h | h
        · exact absurd h1 (nI_ge h (by omega))
        · exact h
      obtain rfl : j = 16 * n9 := by omega
      exact K ls H locs hP hD hS hl
    · skip
      have hlt : j < 16 * n9 := by
        rcases Nat.lt_or_ge j (16 * n9) with h | h
        · exact h
        · exact absurd (nI_le h (by omega)) h1
      refine lv_aload_n hx hb dX4_turned_29 rfl (lv_at hl 2 rfl) ?_
      refine lv_iload hx hb dX4_turned_30 (lv_at hl 0 rfl) ?_
      refine lv_iload_n hx hb dX4_turned_32 rfl (lv_at hl 1 rfl) ?_
      refine lv_iadd hx hb dX4_turned_33 ?_
      refine tp_i (y := nI (j + b9)) (nI_add _ _) ?_
      refine lv_aload_n hx hb dX4_turned_34 rfl (lv_at hl 3 rfl) ?_
      refine cp_S (As := [.ref a]) (rest := [.int (nI (j + b9)), .ref q]) C0 hl hK hS hA (c_bits l g H a n9 (rw16 v) (ha.kp hS (nA' ha (fun z => z)))) gX4_turned_X4_bits rfl ⟨rfl, rfl⟩ (show hd_ok yX4_bits 1 from ⟨by decide, by decide, by decide +kernel⟩) ⟨Nat.le_of_ble_eq_true rfl, Nat.le_of_ble_eq_true rfl⟩ rfl (Nat.le_of_ble_eq_true rfl) ⟨by decide, by decide⟩ dX4_turned_35 (fun locs hS => ?_)
      refine lv_irem hx hb dX4_turned_38 (nI_ne0 (by omega) (by omega)) ?_
      refine tp_i (y := nI ((j + b9) % (16 * n9))) (pk_rem (by omega) (by omega) (by omega)) ?_
      refine lv_aload_n hx hb dX4_turned_39 rfl (lv_at hl 3 rfl) ?_
      refine lv_iload hx hb dX4_turned_40 (lv_at hl 0 rfl) ?_
      refine cp_S (As := [.ref a, .int (nI j)]) (rest := [.int (nI ((j + b9) % (16 * n9))), .ref q]) C0 hl hK hS hA (c_bit l g H a n9 v j (ha.kp hS (nA' ha (fun z => z))) hlt (by omega)) gX4_turned_X4_bit rfl ⟨rfl, rfl⟩ (show hd_ok yX4_bit 2 from ⟨by decide, by decide, by decide +kernel⟩) ⟨Nat.le_of_ble_eq_true rfl, Nat.le_of_ble_eq_true rfl⟩ rfl (Nat.le_of_ble_eq_true rfl) ⟨by decide, by decide⟩ dX4_turned_42 (fun locs hS => ?_)
      refine cn_S (As := [.ref q, .int (nI ((j + b9) % (16 * n9))), .int (nI (v / 2 ^ j % 2))]) (rest := []) C0 hl hK hS hA (fun z h => by subst h; exact hD.2 0 _ rfl) (c_set l g H q n9 (tsum v (tpl (16 * n9) b9) j) ((tpl (16 * n9) b9) j) (v / 2 ^ j % 2) (by omega) (Nat.mod_lt _ (by omega)) (Nat.mod_lt _ (by decide)) (tsum_free hlt (tpl_inj hn9)) (hP 0 _ rfl)) gX4_turned_X4_set rfl ⟨rfl, rfl⟩ (show hd_ok yX4_set 3 from ⟨by decide, by decide, by decide +kernel⟩) ⟨Nat.le_of_ble_eq_true rfl, Nat.le_of_ble_eq_true rfl⟩ rfl (Nat.le_of_ble_eq_true rfl) ⟨by decide, by decide⟩ dX4_turned_45 (fun r9 H1 locs hv hzz hk hS => ?_)
      obtain ⟨rfl, hq1⟩ := hv
      have hP : va_P g.1 vwCl [(q, .inl (g.2 0, n9, .inl (rw16 (tsum v (tpl (16 * n9) b9) (j + 1)))))] H1 := p1 hq1
      have hD : va_D (fun q => False ∨ H0.size ≤ q) [(q, .inl (g.2 0, n9, .inl (rw16 (tsum v (tpl (16 * n9) b9) (j + 1)))))] := d1c hD
      refine lv_iinc (v := nI (j + 1)) (lv' := [(4, .int (nI (j + 1))), (3, .int (nI b9)), (2, .ref q), (0, .ref a), (1, .int x)]) hx hb dX4_turned_48 hl (k := 0) rfl (nI_1 _) (by decide) rfl (fun ls hl => ?_)
      refine lv_goto (tgt := 20) hx hb dX4_turned_51 (by decide) ?_
      exact ih (j + 1) hlt (by omega) ls H1 locs hP hD hS (lv_sub hl [0, 1, 2, 3, 4] rfl)
set_option maxHeartbeats 4000000 in
set_option maxRecDepth 100000 in
/-- turned(own, places) -/
theorem c_turned (l : Launch) (g : Gx) (H0 : Heap) (a n9 v b9 : Nat) (x : Int32) (hn9 : n9 = 2 ∨ n9 = 4) (hb9 : b9 < 1000) (hx9 : x - x / nI (16 * n9) * nI (16 * n9) + nI (16 * n9) = nI b9) (ha : va_at g.1 vwCl (a, .inl (g.2 0, n9, .inl (rw16 v))) H0) : Met l yX4_turned wsX4_turned rmX4_turned (va_Pc [.ref a, .int x] (hB g H0)) (nQ H0 (fun _ => False) (mkR g H0 n9 (tsum v (tpl (16 * n9) b9) (16 * n9)))) 1 4 (fun q => False ∨ H0.size ≤ q) := by
  refine cx_met (own := RX4) (cc := cX4_turned) (maxL := 5) (by decide) rfl rfl (Nat.le_of_ble_eq_true rfl) ?_
  intro p e s m below meth c ls C0 hB0 hnm hl
  obtain ⟨hH, hK⟩ := hB0
  obtain ⟨hx, hb, hr, hml, hown, hts, hlk⟩ := id C0
  subst hH
  have hS : va_S (fun q => False ∨ s.heap.size ≤ q) s.heap s.heap [] := va_S.rf
  have hA : ∀ q : Nat, s.heap.size ≤ q → (fun q => False ∨ s.heap.size ≤ q) q := fun q h => Or.inr h
  have hl : lv_has ls 5 [(0, .ref a), (1, .int x)] := hl
  refine lv_aload_n hx hb dX4_turned_0 rfl (lv_at hl 0 rfl) ?_
  refine r_alen hx hb hK hS ha (nA' ha (fun z => z)) dX4_turned_1 ?_
  refine w_newi hx hb (hts (.arrayClass .int) (by decide +kernel)) hK p0 d0 hS hA (by omega) (by decide) (by show _ ≤ 4; omega) dX4_turned_2 (fun q H1 hq hP hD hS => ?_)
  have hP : va_P g.1 vwCl [(q, .inl (g.2 0, n9, .inl (fun _ => 0)))] H1 := hP
  have hD : va_D _ [(q, .inl (g.2 0, n9, .inl (fun _ => 0)))] := hD
  refine lv_astore_n (lv' := [(2, .ref q), (0, .ref a), (1, .int x)]) hx hb dX4_turned_4 rfl hl (by decide) rfl (fun ls hl => ?_)
  refine lv_iload_n hx hb dX4_turned_5 rfl (lv_at hl 2 rfl) ?_
  refine lv_aload_n hx hb dX4_turned_6 rfl (lv_at hl 1 rfl) ?_
  refine W.widen (k := 1) (n := 4) (by omega) (by omega) ?_
  refine cp_S (As := [.ref a]) (rest := [.int x]) C0 hl hK hS hA (c_bits l g H1 a n9 (rw16 v) (ha.kp hS (nA' ha (fun z => z)))) gX4_turned_X4_bits rfl ⟨rfl, rfl⟩ (show hd_ok yX4_bits 1 from ⟨by decide, by decide, by decide +kernel⟩) ⟨Nat.le_of_ble_eq_true rfl, Nat.le_of_ble_eq_true rfl⟩ rfl (Nat.le_of_ble_eq_true rfl) ⟨by decide, by decide⟩ dX4_turned_7 (fun locs hS => ?_)
  refine lv_irem hx hb dX4_turned_10 (nI_ne0 (by omega) (by omega)) ?_
  refine lv_aload_n hx hb dX4_turned_11 rfl (lv_at hl 1 rfl) ?_
  refine cp_S (As := [.ref a]) (rest := [.int (x - x / (nI (16 * n9)) * (nI (16 * n9)))]) C0 hl hK hS hA (c_bits l g H1 a n9 (rw16 v) (ha.kp hS (nA' ha (fun z => z)))) gX4_turned_X4_bits rfl ⟨rfl, rfl⟩ (show hd_ok yX4_bits 1 from ⟨by decide, by decide, by decide +kernel⟩) ⟨Nat.le_of_ble_eq_true rfl, Nat.le_of_ble_eq_true rfl⟩ rfl (Nat.le_of_ble_eq_true rfl) ⟨by decide, by decide⟩ dX4_turned_12 (fun locs hS => ?_)
  refine lv_iadd hx hb dX4_turned_15 ?_
  refine tp_i (y := nI b9) (hx9) ?_
  refine lv_istore_n (lv' := [(3, .int (nI b9)), (2, .ref q), (0, .ref a), (1, .int x)]) hx hb dX4_turned_16 rfl hl (by decide) rfl (fun ls hl => ?_)
  refine lv_iconst (v := nI 0) hx hb dX4_turned_17 (by decide) ?_
  refine lv_istore (lv' := [(4, .int (nI 0)), (3, .int (nI b9)), (2, .ref q), (0, .ref a), (1, .int x)]) hx hb dX4_turned_18 hl (by decide) rfl (fun ls hl => ?_)
  refine L_turned C0 hK hn9 hb9 ha (fun ls H locs hP hD hS hl => ?_) (16 * n9 + 1) 0 (Nat.zero_le _) (by omega) ls H1 locs (p1 (at_cong (hP 0 _ rfl) (fun k _ => rw16_0 k))) (d1c hD) hS hl
  refine lv_aload_n hx hb dX4_turned_54 rfl (lv_at hl 2 rfl) ?_
  exact rt_a (mu := fun _ => False) C0 (Or.inr ⟨_, rfl⟩) ⟨q, rfl, hq, hP 0 _ rfl⟩ hS rfl dX4_turned_55
abbrev rmX4_backward : Room := { frames := 3, cells := 1, slots := 4, locals := 66 }
set_option maxHeartbeats 4000000 in
set_option maxRecDepth 100000 in
theorem L_backward (C0 : Cx p s m args meth c RX4 cX4_backward 6 (some (.array .int)) wsX4_backward) (hK : KK g s) {a q n9 v : Nat} {yb : Bool} (hn9 : n9 = 2 ∨ n9 = 4) (ha : va_at g.1 vwCl (a, .inl (g.2 0, n9, .inl (rw16 v))) H0) (K : ∀ (ls : Array Slot) (H : Heap) (locs : List Loc), va_P g.1 vwCl [(q, .inl (g.2 0, n9, .inl (rw16 (tsum v (bpl (16 * n9) yb) (16 * n9)))))] H → va_D (fun q => False ∨ H0.size ≤ q) [(q, .inl (g.2 0, n9, .inl (rw16 (tsum v (bpl (16 * n9) yb) (16 * n9)))))] → va_S (fun q => False ∨ H0.size ≤ q) H0 H locs → lv_has ls 6 [(4, .int (nI (16 * n9))), (3, .int (nI (16 * n9))), (2, .ref q), (0, .ref a), (1, .int (bI yb))] → W p l e rmX4_backward s m args below meth c H locs 1 4 Q (F0 m 73 ls [])) : ∀ (n : Nat) (j : Nat), j ≤ 16 * n9 → 16 * n9 - j < n → ∀ (ls : Array Slot) (H : Heap) (locs : List Loc), va_P g.1 vwCl [(q, .inl (g.2 0, n9, .inl (rw16 (tsum v (bpl (16 * n9) yb) j))))] H → va_D (fun q => False ∨ H0.size ≤ q) [(q, .inl (g.2 0, n9, .inl (rw16 (tsum v (bpl (16 * n9) yb) j))))] → va_S (fun q => False ∨ H0.size ≤ q) H0 H locs → lv_has ls 6 [(4, .int (nI j)), (3, .int (nI (16 * n9))), (2, .ref q), (0, .ref a), (1, .int (bI yb))] → W p l e rmX4_backward s m args below meth c H locs 1 4 Q (F0 m 13 ls []) := by
  obtain ⟨hx, hb, hr, hml, hown, hts, hlk⟩ := id C0
  have hA : ∀ q : Nat, H0.size ≤ q → (fun q => False ∨ H0.size ≤ q) q := fun _ h => Or.inr h
  intro n
  induction n with
  | zero => intro j _ h; exact absurd h (Nat.not_lt_zero _)
  | succ n ih =>
    intro j hj hn ls H locs hP hD hS hl
    refine lv_iload hx hb dX4_backward_13 (lv_at hl 0 rfl) ?_
    refine lv_iload_n hx hb dX4_backward_15 rfl (lv_at hl 1 rfl) ?_
    refine lv_icmp_ge (tgt := 73) hx hb dX4_backward_16 (by decide) (fun h1 => ?_) (fun h1 => ?_)
    · skip
      have hge : 16 * n9 ≤ j := by
        rcases Nat.lt_or_ge j (16 * n9) with h | h
        · exact absurd h1 (nI_ge h (by omega))
        · exact h
      obtain rfl : j = 16 * n9 := by omega
      exact K ls H locs hP hD hS hl
    · skip
      have hlt : j < 16 * n9 := by
        rcases Nat.lt_or_ge j (16 * n9) with h | h
        · exact h
        · exact absurd (nI_le h (by omega)) h1
      refine lv_iload_n hx hb dX4_backward_19 rfl (lv_at hl 4 rfl) ?_
      refine lv_if_eq (tgt := 47) hx hb dX4_backward_20 (by decide) (fun h2 => ?_) (fun h2 => ?_)
      · skip
        have h3 := bI_0 h2
        refine lv_iload_n hx hb dX4_backward_47 rfl (lv_at hl 1 rfl) ?_
        refine lv_iconst (v := nI 1) hx hb dX4_backward_48 (by decide) ?_
        refine lv_isub hx hb dX4_backward_49 ?_
        refine tp_i (y := nI (16 * n9 - 1)) (pk_sub (by omega)) ?_
        refine lv_iload hx hb dX4_backward_50 (lv_at hl 0 rfl) ?_
        refine lv_isub hx hb dX4_backward_52 ?_
        refine tp_i (y := nI (16 * n9 - 1 - j)) (pk_sub (by omega)) ?_
        refine tp_i (y := nI ((bpl (16 * n9) yb) j)) (congrArg nI (show _ = if _ then _ else _ by rw [h3]; rfl)) ?_
        refine lv_istore (lv' := [(5, .int (nI ((bpl (16 * n9) yb) j))), (4, .int (nI j)), (3, .int (nI (16 * n9))), (2, .ref q), (0, .ref a), (1, .int (bI yb))]) hx hb dX4_backward_53 hl (by decide) rfl (fun ls hl => ?_)
        refine lv_aload_n hx hb dX4_backward_55 rfl (lv_at hl 3 rfl) ?_
        refine lv_iload hx hb dX4_backward_56 (lv_at hl 0 rfl) ?_
        refine lv_aload_n hx hb dX4_backward_58 rfl (lv_at hl 4 rfl) ?_
        refine lv_iload hx hb dX4_backward_59 (lv_at hl 1 rfl) ?_
        refine cp_S (As := [.ref a, .int (nI j)]) (rest := [.int (nI ((bpl (16 * n9) yb) j)), .ref q]) C0 hl hK hS hA (c_bit l g H a n9 v j (ha.kp hS (nA' ha (fun z => z))) hlt (by omega)) gX4_backward_X4_bit rfl ⟨rfl, rfl⟩ (show hd_ok yX4_bit 2 from ⟨by decide, by decide, by decide +kernel⟩) ⟨Nat.le_of_ble_eq_true rfl, Nat.le_of_ble_eq_true rfl⟩ rfl (Nat.le_of_ble_eq_true rfl) ⟨by decide, by decide⟩ dX4_backward_61 (fun locs hS => ?_)
        refine cn_S (As := [.ref q, .int (nI ((bpl (16 * n9) yb) j)), .int (nI (v / 2 ^ j % 2))]) (rest := []) C0 hl hK hS hA (fun z h => by subst h; exact hD.2 0 _ rfl) (c_set l g H q n9 (tsum v (bpl (16 * n9) yb) j) ((bpl (16 * n9) yb) j) (v / 2 ^ j % 2) (by omega) (bpl_lt hn9 hlt) (Nat.mod_lt _ (by decide)) (tsum_free hlt (bpl_inj hn9)) (hP 0 _ rfl)) gX4_backward_X4_set rfl ⟨rfl, rfl⟩ (show hd_ok yX4_set 3 from ⟨by decide, by decide, by decide +kernel⟩) ⟨Nat.le_of_ble_eq_true rfl, Nat.le_of_ble_eq_true rfl⟩ rfl (Nat.le_of_ble_eq_true rfl) ⟨by decide, by decide⟩ dX4_backward_64 (fun r9 H1 locs hv hzz hk hS => ?_)
        obtain ⟨rfl, hq1⟩ := hv
        have hP : va_P g.1 vwCl [(q, .inl (g.2 0, n9, .inl (rw16 (tsum v (bpl (16 * n9) yb) (j + 1)))))] H1 := p1 hq1
        have hD : va_D (fun q => False ∨ H0.size ≤ q) [(q, .inl (g.2 0, n9, .inl (rw16 (tsum v (bpl (16 * n9) yb) (j + 1)))))] := d1c hD
        refine lv_iinc (v := nI (j + 1)) (lv' := [(4, .int (nI (j + 1))), (5, .int (nI ((bpl (16 * n9) yb) j))), (3, .int (nI (16 * n9))), (2, .ref q), (0, .ref a), (1, .int (bI yb))]) hx hb dX4_backward_67 hl (k := 1) rfl (nI_1 _) (by decide) rfl (fun ls hl => ?_)
        refine lv_goto (tgt := 13) hx hb dX4_backward_70 (by decide) ?_
        exact ih (j + 1) hlt (by omega) ls H1 locs hP hD hS (lv_sub hl [0, 2, 3, 4, 5] rfl)
      · skip
        have h3 := bI_n0 h2
        refine lv_bipush (v := nI 8) hx hb dX4_backward_23 (by decide) ?_
        refine lv_iload_n hx hb dX4_backward_25 rfl (lv_at hl 1 rfl) ?_
        refine lv_bipush (v := nI 8) hx hb dX4_backward_26 (by decide) ?_
        refine lv_idiv hx hb dX4_backward_28 (by decide) ?_
        refine tp_i (y := nI ((16 * n9) / 8)) (pk_div (by omega) (by omega) (by omega)) ?_
        refine lv_iconst (v := nI 1) hx hb dX4_backward_29 (by decide) ?_
        refine lv_isub hx hb dX4_backward_30 ?_
        refine tp_i (y := nI (16 * n9 / 8 - 1)) (pk_sub (by omega)) ?_
        refine lv_iload hx hb dX4_backward_31 (lv_at hl 0 rfl) ?_
        refine lv_bipush (v := nI 8) hx hb dX4_backward_33 (by decide) ?_
        refine lv_idiv hx hb dX4_backward_35 (by decide) ?_
        refine tp_i (y := nI (j / 8)) (pk_div (by omega) (by omega) (by omega)) ?_
        refine lv_isub hx hb dX4_backward_36 ?_
        refine tp_i (y := nI (16 * n9 / 8 - 1 - j / 8)) (pk_sub (by omega)) ?_
        refine lv_imul hx hb dX4_backward_37 ?_
        refine tp_i (y := nI (8 * (16 * n9 / 8 - 1 - j / 8))) (pk_mul _ _) ?_
        refine lv_iload hx hb dX4_backward_38 (lv_at hl 0 rfl) ?_
        refine lv_bipush (v := nI 8) hx hb dX4_backward_40 (by decide) ?_
        refine lv_irem hx hb dX4_backward_42 (by decide) ?_
        refine tp_i (y := nI (j % 8)) (pk_rem (by omega) (by omega) (by omega)) ?_
        refine lv_iadd hx hb dX4_backward_43 ?_
        refine tp_i (y := nI ((8 * (16 * n9 / 8 - 1 - j / 8)) + (j % 8))) (nI_add _ _) ?_
        refine lv_goto (tgt := 53) hx hb dX4_backward_44 (by decide) ?_
        refine tp_i (y := nI ((bpl (16 * n9) yb) j)) (congrArg nI (show _ = if _ then _ else _ by rw [h3]; rfl)) ?_
        refine lv_istore (lv' := [(5, .int (nI ((bpl (16 * n9) yb) j))), (4, .int (nI j)), (3, .int (nI (16 * n9))), (2, .ref q), (0, .ref a), (1, .int (bI yb))]) hx hb dX4_backward_53 hl (by decide) rfl (fun ls hl => ?_)
        refine lv_aload_n hx hb dX4_backward_55 rfl (lv_at hl 3 rfl) ?_
        refine lv_iload hx hb dX4_backward_56 (lv_at hl 0 rfl) ?_
        refine lv_aload_n hx hb dX4_backward_58 rfl (lv_at hl 4 rfl) ?_
        refine lv_iload hx hb dX4_backward_59 (lv_at hl 1 rfl) ?_
        refine cp_S (As := [.ref a, .int (nI j)]) (rest := [.int (nI ((bpl (16 * n9) yb) j)), .ref q]) C0 hl hK hS hA (c_bit l g H a n9 v j (ha.kp hS (nA' ha (fun z => z))) hlt (by omega)) gX4_backward_X4_bit rfl ⟨rfl, rfl⟩ (show hd_ok yX4_bit 2 from ⟨by decide, by decide, by decide +kernel⟩) ⟨Nat.le_of_ble_eq_true rfl, Nat.le_of_ble_eq_true rfl⟩ rfl (Nat.le_of_ble_eq_true rfl) ⟨by decide, by decide⟩ dX4_backward_61 (fun locs hS => ?_)
        refine cn_S (As := [.ref q, .int (nI ((bpl (16 * n9) yb) j)), .int (nI (v / 2 ^ j % 2))]) (rest := []) C0 hl hK hS hA (fun z h => by subst h; exact hD.2 0 _ rfl) (c_set l g H q n9 (tsum v (bpl (16 * n9) yb) j) ((bpl (16 * n9) yb) j) (v / 2 ^ j % 2) (by omega) (bpl_lt hn9 hlt) (Nat.mod_lt _ (by decide)) (tsum_free hlt (bpl_inj hn9)) (hP 0 _ rfl)) gX4_backward_X4_set rfl ⟨rfl, rfl⟩ (show hd_ok yX4_set 3 from ⟨by decide, by decide, by decide +kernel⟩) ⟨Nat.le_of_ble_eq_true rfl, Nat.le_of_ble_eq_true rfl⟩ rfl (Nat.le_of_ble_eq_true rfl) ⟨by decide, by decide⟩ dX4_backward_64 (fun r9 H1 locs hv hzz hk hS => ?_)
        obtain ⟨rfl, hq1⟩ := hv
        have hP : va_P g.1 vwCl [(q, .inl (g.2 0, n9, .inl (rw16 (tsum v (bpl (16 * n9) yb) (j + 1)))))] H1 := p1 hq1
        have hD : va_D (fun q => False ∨ H0.size ≤ q) [(q, .inl (g.2 0, n9, .inl (rw16 (tsum v (bpl (16 * n9) yb) (j + 1)))))] := d1c hD
        refine lv_iinc (v := nI (j + 1)) (lv' := [(4, .int (nI (j + 1))), (5, .int (nI ((bpl (16 * n9) yb) j))), (3, .int (nI (16 * n9))), (2, .ref q), (0, .ref a), (1, .int (bI yb))]) hx hb dX4_backward_67 hl (k := 1) rfl (nI_1 _) (by decide) rfl (fun ls hl => ?_)
        refine lv_goto (tgt := 13) hx hb dX4_backward_70 (by decide) ?_
        exact ih (j + 1) hlt (by omega) ls H1 locs hP hD hS (lv_sub hl [0, 2, 3, 4, 5] rfl)
set_option maxHeartbeats 4000000 in
set_option maxRecDepth 100000 in
/-- backward(own, isBytes) -/
theorem c_backward (l : Launch) (g : Gx) (H0 : Heap) (a n9 v : Nat) (yb : Bool) (hn9 : n9 = 2 ∨ n9 = 4) (ha : va_at g.1 vwCl (a, .inl (g.2 0, n9, .inl (rw16 v))) H0) : Met l yX4_backward wsX4_backward rmX4_backward (va_Pc [.ref a, .int (bI yb)] (hB g H0)) (nQ H0 (fun _ => False) (mkR g H0 n9 (tsum v (bpl (16 * n9) yb) (16 * n9)))) 1 4 (fun q => False ∨ H0.size ≤ q) := by
  refine cx_met (own := RX4) (cc := cX4_backward) (maxL := 6) (by decide) rfl rfl (Nat.le_of_ble_eq_true rfl) ?_
  intro p e s m below meth c ls C0 hB0 hnm hl
  obtain ⟨hH, hK⟩ := hB0
  obtain ⟨hx, hb, hr, hml, hown, hts, hlk⟩ := id C0
  subst hH
  have hS : va_S (fun q => False ∨ s.heap.size ≤ q) s.heap s.heap [] := va_S.rf
  have hA : ∀ q : Nat, s.heap.size ≤ q → (fun q => False ∨ s.heap.size ≤ q) q := fun q h => Or.inr h
  have hl : lv_has ls 6 [(0, .ref a), (1, .int (bI yb))] := hl
  refine lv_aload_n hx hb dX4_backward_0 rfl (lv_at hl 0 rfl) ?_
  refine r_alen hx hb hK hS ha (nA' ha (fun z => z)) dX4_backward_1 ?_
  refine w_newi hx hb (hts (.arrayClass .int) (by decide +kernel)) hK p0 d0 hS hA (by omega) (by decide) (by show _ ≤ 4; omega) dX4_backward_2 (fun q H1 hq hP hD hS => ?_)
  have hP : va_P g.1 vwCl [(q, .inl (g.2 0, n9, .inl (fun _ => 0)))] H1 := hP
  have hD : va_D _ [(q, .inl (g.2 0, n9, .inl (fun _ => 0)))] := hD
  refine lv_astore_n (lv' := [(2, .ref q), (0, .ref a), (1, .int (bI yb))]) hx hb dX4_backward_4 rfl hl (by decide) rfl (fun ls hl => ?_)
  refine lv_aload_n hx hb dX4_backward_5 rfl (lv_at hl 1 rfl) ?_
  refine W.widen (k := 1) (n := 4) (by omega) (by omega) ?_
  refine cp_S (As := [.ref a]) (rest := []) C0 hl hK hS hA (c_bits l g H1 a n9 (rw16 v) (ha.kp hS (nA' ha (fun z => z)))) gX4_backward_X4_bits rfl ⟨rfl, rfl⟩ (show hd_ok yX4_bits 1 from ⟨by decide, by decide, by decide +kernel⟩) ⟨Nat.le_of_ble_eq_true rfl, Nat.le_of_ble_eq_true rfl⟩ rfl (Nat.le_of_ble_eq_true rfl) ⟨by decide, by decide⟩ dX4_backward_6 (fun locs hS => ?_)
  refine lv_istore_n (lv' := [(3, .int (nI (16 * n9))), (2, .ref q), (0, .ref a), (1, .int (bI yb))]) hx hb dX4_backward_9 rfl hl (by decide) rfl (fun ls hl => ?_)
  refine lv_iconst (v := nI 0) hx hb dX4_backward_10 (by decide) ?_
  refine lv_istore (lv' := [(4, .int (nI 0)), (3, .int (nI (16 * n9))), (2, .ref q), (0, .ref a), (1, .int (bI yb))]) hx hb dX4_backward_11 hl (by decide) rfl (fun ls hl => ?_)
  refine L_backward C0 hK hn9 ha (fun ls H locs hP hD hS hl => ?_) (16 * n9 + 1) 0 (Nat.zero_le _) (by omega) ls H1 locs (p1 (at_cong (hP 0 _ rfl) (fun k _ => rw16_0 k))) (d1c hD) hS hl
  refine lv_aload_n hx hb dX4_backward_73 rfl (lv_at hl 2 rfl) ?_
  exact rt_a (mu := fun _ => False) C0 (Or.inr ⟨_, rfl⟩) ⟨q, rfl, hq, hP 0 _ rfl⟩ hS rfl dX4_backward_74
end M14

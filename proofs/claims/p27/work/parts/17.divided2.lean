-- divided, isDivided
theorem pow16 (n : Nat) : 65536 ^ n = 2 ^ (16 * n) := by
  rw [show (65536 : Nat) = 2 ^ 16 from rfl, ← Nat.pow_mul]
theorem dcost_N (N u v : Nat) : dcost N u v N = 3 := by
  unfold dcost
  rw [Nat.sub_self]
  rfl
section M17
variable {p : Program} {l : Launch} {e : Env} {s : State} {m : MethodId} {args : Array Value} {below : List Frame} {meth : Method} {c : Code} {H H0 : Heap} {locs : List Loc} {cells slots : Nat} {Q : State → Prop} {A : Nat → Prop} {g : Gx}
set_option maxHeartbeats 4000000 in
set_option maxRecDepth 100000 in
/-- divided(own, by) -/
theorem c_divided (l : Launch) (g : Gx) (H0 : Heap) (a b n9 u v k9 : Nat) (hn9 : n9 = 2 ∨ n9 = 4) (hu : u < 65536 ^ n9) (hvb : v < 65536 ^ n9) (hv0 : 0 < v) (ha : va_at g.1 vwCl (a, .inl (g.2 0, n9, .inl (rw16 u))) H0) (hb9 : va_at g.1 vwCl (b, .inl (g.2 0, n9, .inl (rw16 v))) H0) (hk9 : dcost (16 * n9) u v 0 ≤ k9) : Met l yX4_divided wsX4_divided (rmX4_divided k9) (va_Pc [.ref a, .ref b] (hB g H0)) (nQ H0 (fun _ => False) (dvR g H0 n9 (u / v) (u % v))) k9 (4 * k9) (fun q => False ∨ H0.size ≤ q) := by
  refine cx_met (own := RX4) (cc := cX4_divided) (maxL := 5) (by decide) rfl rfl (Nat.le_of_ble_eq_true rfl) ?_
  intro p e s m below meth c ls C0 hB0 hnm hl
  obtain ⟨hH, hK⟩ := hB0
  obtain ⟨hx, hb, hr, hml, hown, hts, hlk⟩ := id C0
  subst hH
  have hS : va_S (fun q => False ∨ s.heap.size ≤ q) s.heap s.heap [] := va_S.rf
  have hA : ∀ q : Nat, s.heap.size ≤ q → (fun q => False ∨ s.heap.size ≤ q) q := fun q h => Or.inr h
  have hl : lv_has ls 5 [(0, .ref a), (1, .ref b)] := hl
  have hk3 : 3 ≤ k9 := by
    have h1 := dc_le (N := 16 * n9) (u := u) (v := v) (Nat.le_refl (16 * n9))
    rw [dcost_N] at h1
    omega
  refine lv_iconst (v := nI 2) hx hb dX4_divided_0 (by decide) ?_
  refine lv_aload_n hx hb dX4_divided_1 rfl (lv_at hl 0 rfl) ?_
  refine r_alen hx hb hK hS ha (nA' ha (fun z => z)) dX4_divided_2 ?_
  refine w_mna (N := 2) (K := n9) hx hb hown (hts (.classLink RX4 9 "[[I") (by decide +kernel)) (hts (.arrayClass .int) (by decide +kernel)) hK hS (by decide) (by omega) (by show 0 + 3 ≤ k9; omega) (by show 0 + (2 + 2 * n9) ≤ 4 * k9; omega) dX4_divided_3 (fun H1 hq1 hr1 hz1 ho1 hS => ?_)
  refine lv_astore_n (lv' := [(2, .ref s.heap.size), (0, .ref a), (1, .ref b)]) hx hb dX4_divided_7 rfl hl (by decide) rfl (fun ls hl => ?_)
  refine lv_aload_n hx hb dX4_divided_8 rfl (lv_at hl 1 rfl) ?_
  refine W.widen (k := 3) (n := 12) (by omega) (by omega) ?_
  refine cp_S (As := [.ref a]) (rest := []) C0 hl hK hS hA (c_bits l g H1 a n9 (rw16 u) (ha.kp hS (nA' ha (fun z => z)))) gX4_divided_X4_bits rfl ⟨rfl, rfl⟩ (show hd_ok yX4_bits 1 from ⟨by decide, by decide, by decide +kernel⟩) ⟨Nat.le_of_ble_eq_true rfl, Nat.le_of_ble_eq_true rfl⟩ rfl (Nat.le_of_ble_eq_true rfl) ⟨hk3, by show 12 ≤ 4 * k9; omega⟩ dX4_divided_9 (fun locs hS => ?_)
  refine lv_iconst (v := nI 1) hx hb dX4_divided_12 (by decide) ?_
  refine lv_isub hx hb dX4_divided_13 ?_
  refine tp_i (y := nI (16 * n9) - nI 1) (rfl) ?_
  refine lv_istore_n (lv' := [(3, .int (nI (16 * n9) - nI 1)), (2, .ref s.heap.size), (0, .ref a), (1, .ref b)]) hx hb dX4_divided_14 rfl hl (by decide) rfl (fun ls hl => ?_)
  have hu2 : u / 2 ^ (16 * n9) = 0 := Nat.div_eq_of_lt (by rw [← pow16]; exact hu)
  obtain ⟨f, ef⟩ : ∃ f : Nat → Option Nat, f = fun i => if i < 2 then some (s.heap.size + 1 + i) else none := ⟨_, rfl⟩
  rw [← ef] at hq1
  have hf0 : f 0 = some (s.heap.size + 1) := by rw [ef]; rfl
  have hf1 : f 1 = some (s.heap.size + 2) := by rw [ef]; rfl
  have hP : va_P g.1 vwCl [(s.heap.size, gRow 2 f g), (s.heap.size + 1, .inl (g.2 0, n9, .inl (rw16 ((u / 2 ^ (16 * n9) / v) * 2 ^ (16 * n9))))), (s.heap.size + 2, .inl (g.2 0, n9, .inl (rw16 (u / 2 ^ (16 * n9) % v))))] H1 := by
    rw [hu2, Nat.zero_div, Nat.zero_mul, Nat.zero_mod]
    exact p3 hq1 (at_cong (hr1 0 (by decide)) (fun k _ => rw16_0 k)) (at_cong (hr1 1 (by decide)) (fun k _ => rw16_0 k))
  have hD : va_D (fun q => False ∨ s.heap.size ≤ q) [(s.heap.size, gRow 2 f g), (s.heap.size + 1, .inl (g.2 0, n9, .inl (rw16 ((u / 2 ^ (16 * n9) / v) * 2 ^ (16 * n9))))), (s.heap.size + 2, .inl (g.2 0, n9, .inl (rw16 (u / 2 ^ (16 * n9) % v))))] := d3 (by omega) (by omega) (by omega) (Or.inr (Nat.le_refl _)) (Or.inr (by omega)) (Or.inr (by omega))
  refine W.widen (k := dcost (16 * n9) u v (16 * n9)) (n := 4 * dcost (16 * n9) u v (16 * n9)) (by rw [dcost_N]; exact Nat.le_refl _) (by rw [dcost_N]; exact Nat.le_refl _) ?_
  refine L_divided (q := s.heap.size) (r0 := s.heap.size + 1) C0 hK hn9 hu hvb hv0 ha hb9 hk9 (fun x r1 f ls H locs hf0 hf1 hP hD hS hl => ?_) (16 * n9 + 1) (16 * n9) _ (s.heap.size + 2) f rfl (Nat.le_refl _) hf0 hf1 (by omega) ls H1 locs hP hD hS hl
  refine W.widen (k := k9) (n := 4 * k9) hk9 (by omega) ?_
  refine lv_aload_n hx hb dX4_divided_97 rfl (lv_at hl 1 rfl) ?_
  exact rt_a (mu := fun _ => False) C0 (Or.inr ⟨_, rfl⟩) ⟨s.heap.size, s.heap.size + 1, r1, f, rfl, Nat.le_refl _, Nat.le_succ _, (hD.2 2 _ rfl).elim False.elim id, hf0, hf1, hP 0 _ rfl, hP 1 _ rfl, hP 2 _ rfl⟩ hS rfl dX4_divided_98
end M17

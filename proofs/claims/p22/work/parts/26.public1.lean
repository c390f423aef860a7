-- the model's public calls: high, low, knock, isSound
theorem cell_of {x : Int32} (h : nI 0 ≤ x ∧ x ≤ nI 7) : ∃ i : Nat, i < 8 ∧ x = nI i := by
  obtain ⟨j, hj, rfl⟩ := nI_of2 (x := x) (M := nI 7) (n := 7) (by decide) (Int32.not_lt.mpr h.1) h.2
  exact ⟨j, by omega, rfl⟩
section M26
variable {p : Program} {l : Launch} {e : Env} {s : State} {m : MethodId} {args : Array Value} {below : List Frame} {meth : Method} {c : Code} {H H0 : Heap} {locs : List Loc} {cells slots : Nat} {Q : State → Prop} {A : Nat → Prop} {g : Gx}
abbrev rmX4_high : Room := { frames := 2, cells := 0, slots := 0, locals := 42 }
set_option maxHeartbeats 4000000 in
set_option maxRecDepth 100000 in
/-- high(cell): that it ends -/
theorem c_high (l : Launch) (g : Gx) (H0 : Heap) (z0 mc lf dg : Nat) (fs : List Value) (rr V : Nat → Nat) (hM : MD g H0 z0 mc lf dg fs rr V) (x : Int32) : Met l yX4_high wsX4_high rmX4_high (va_Pc [.ref z0, .int x] (hB g H0)) (nQ H0 (zM z0 mc lf dg) (zQ g z0 mc lf dg (fun r fs2 V2 => (∃ y : Int32, r = some (.int y)) ∧ (∃ t : Int32, fs2 = fs.set 0 (.int t)) ∧ V2 = V))) 0 0 (fun q => zM z0 mc lf dg q ∨ H0.size ≤ q) := by
  refine cx_met (own := RX4) (cc := cX4_high) (maxL := 2) (by decide) rfl rfl (Nat.le_of_ble_eq_true rfl) ?_
  intro p e s m below meth c ls C0 hB0 hnm hl
  obtain ⟨hH, hK⟩ := hB0
  obtain ⟨hx, hb, hr, hml, hown, hts, hlk⟩ := id C0
  subst hH
  have hS : va_S (fun q => zM z0 mc lf dg q ∨ s.heap.size ≤ q) s.heap s.heap [] := va_S.rf
  have hA : ∀ q : Nat, s.heap.size ≤ q → (fun q => zM z0 mc lf dg q ∨ s.heap.size ≤ q) q := fun q h => Or.inr h
  have hl : lv_has ls 2 [(0, .ref z0), (1, .int x)] := hl
  obtain ⟨hz, hfl, -⟩ := id hM
  refine lv_aload_n hx hb dX4_high_0 rfl (lv_at hl 0 rfl) ?_
  refine lv_iconst (v := nI 0) hx hb dX4_high_1 (by decide) ?_
  refine w_putf (ci := 5) (C := RX4) (T := TX4) (N := 10) (ty := .int) hx hb hts (by decide +kernel) tyX4 tyX4_ok nmX4 hown hK hS hz (Or.inl (Or.inl rfl)) rfl 0 (by decide) (hts (.fieldLink RX4 27 "RadixbenchModel" "thrown" "I") (by decide +kernel)) (fun _ h9 => h9) rfl (by decide +kernel) rfl rfl (by rw [hfl]; decide) dX4_high_2 (fun H1 locs hz1 hs1 ho1 hS => ?_)
  have hM1 := hM.fset (by decide) (by decide) (by decide) ho1 hz1
  obtain ⟨-, hfl1, hmc, hdg, hlf, ⟨fr, hg9, hfr⟩, hrr, -, -, -⟩ := id hM1
  refine lv_iload_n hx hb dX4_high_5 rfl (lv_at hl 1 rfl) ?_
  refine cp_S (As := [.int x]) (rest := []) C0 hl hK hS hA (c_isCell l g H1 x) gX4_high_X4_isCell rfl ⟨rfl, rfl⟩ (show hd_ok yX4_isCell 1 from ⟨by decide, by decide, by decide +kernel⟩) ⟨Nat.le_of_ble_eq_true rfl, Nat.le_of_ble_eq_true rfl⟩ rfl (Nat.le_of_ble_eq_true rfl) ⟨Nat.zero_le _, Nat.zero_le _⟩ dX4_high_6 (fun locs hS => ?_)
  refine lv_if_eq (tgt := 25) hx hb dX4_high_9 (by decide) (fun h1 => ?_) (fun h1 => ?_)
  · skip
    refine lv_aload_n hx hb dX4_high_25 rfl (lv_at hl 0 rfl) ?_
    refine lv_iconst (v := nI 1) hx hb dX4_high_26 (by decide) ?_
    refine cn_V (As := [.int (nI 1)]) (rest := []) C0 hl hK hS hA (fun z h => Or.inl h) (c_refuse l g H1 z0 mc lf dg _ rr V hM1 (nI 1)) gX4_high_X4_refuse rfl ⟨rfl, rfl⟩ ((va_recv hK.1 (p1 hz1) (ci := 5) (q0 := 0) rfl rfl)) ⟨rfl, (show hd_ok yX4_refuse 1 from ⟨by decide, by decide, by decide +kernel⟩)⟩ ⟨Nat.le_of_ble_eq_true rfl, Nat.le_of_ble_eq_true rfl⟩ rfl (Nat.le_of_ble_eq_true rfl) ⟨Nat.zero_le _, Nat.zero_le _⟩ dX4_high_27 (fun r1 H2 locs hv hzz hk2 hS => ?_)
    obtain ⟨fs2, rr2, V2, ⟨rfl, rfl, rfl⟩, hM2⟩ := hv
    exact rt_ni (mu := zM z0 mc lf dg) C0 rfl ⟨_, _, _, ⟨⟨_, rfl⟩, ⟨nI 1, List.set_set _⟩, rfl⟩, hM2⟩ hS rfl dX4_high_30
  · skip
    obtain ⟨i, hi, rfl⟩ := cell_of (of_decide_eq_true (bI_n0 h1))
    refine lv_aload_n hx hb dX4_high_12 rfl (lv_at hl 0 rfl) ?_
    refine va_get (ci := 5) (C := RX4) (T := TX4) (N := 10) (v := .ref mc) hx hb hts (by decide +kernel) hown hK.1 (p1 hz1) 0 rfl rfl 1 (by decide) (hts (.fieldLink RX4 11 "RadixbenchModel" "cells" "[[I") (by decide +kernel)) (fun _ h9 => h9) hmc dX4_high_13 ?_
    refine lv_iload_n hx hb dX4_high_16 rfl (lv_at hl 1 rfl) ?_
    refine w_aald (j := i) hx hb hK hg9 hi (by decide) (hfr i hi) dX4_high_17 ?_
    refine lv_iconst (v := nI 2) hx hb dX4_high_18 (by decide) ?_
    refine cp_S (As := [.ref (rr i), .int (nI 2)]) (rest := []) C0 hl hK hS hA (c_half l g H1 (rr i) 4 (V i) 2 (by decide) (by decide) (hrr i hi).1) gX4_high_X4_half rfl ⟨rfl, rfl⟩ (show hd_ok yX4_half 2 from ⟨by decide, by decide, by decide +kernel⟩) ⟨Nat.le_of_ble_eq_true rfl, Nat.le_of_ble_eq_true rfl⟩ rfl (Nat.le_of_ble_eq_true rfl) ⟨Nat.zero_le _, Nat.zero_le _⟩ dX4_high_19 (fun locs hS => ?_)
    refine lv_goto (tgt := 30) hx hb dX4_high_22 (by decide) ?_
    exact rt_ni (mu := zM z0 mc lf dg) C0 rfl ⟨_, _, _, ⟨⟨_, rfl⟩, ⟨nI 0, rfl⟩, rfl⟩, hM1⟩ hS rfl dX4_high_30
abbrev rmX4_low : Room := { frames := 2, cells := 0, slots := 0, locals := 42 }
set_option maxHeartbeats 4000000 in
set_option maxRecDepth 100000 in
/-- low(cell): that it ends -/
theorem c_low (l : Launch) (g : Gx) (H0 : Heap) (z0 mc lf dg : Nat) (fs : List Value) (rr V : Nat → Nat) (hM : MD g H0 z0 mc lf dg fs rr V) (x : Int32) : Met l yX4_low wsX4_low rmX4_low (va_Pc [.ref z0, .int x] (hB g H0)) (nQ H0 (zM z0 mc lf dg) (zQ g z0 mc lf dg (fun r fs2 V2 => (∃ y : Int32, r = some (.int y)) ∧ (∃ t : Int32, fs2 = fs.set 0 (.int t)) ∧ V2 = V))) 0 0 (fun q => zM z0 mc lf dg q ∨ H0.size ≤ q) := by
  refine cx_met (own := RX4) (cc := cX4_low) (maxL := 2) (by decide) rfl rfl (Nat.le_of_ble_eq_true rfl) ?_
  intro p e s m below meth c ls C0 hB0 hnm hl
  obtain ⟨hH, hK⟩ := hB0
  obtain ⟨hx, hb, hr, hml, hown, hts, hlk⟩ := id C0
  subst hH
  have hS : va_S (fun q => zM z0 mc lf dg q ∨ s.heap.size ≤ q) s.heap s.heap [] := va_S.rf
  have hA : ∀ q : Nat, s.heap.size ≤ q → (fun q => zM z0 mc lf dg q ∨ s.heap.size ≤ q) q := fun q h => Or.inr h
  have hl : lv_has ls 2 [(0, .ref z0), (1, .int x)] := hl
  obtain ⟨hz, hfl, -⟩ := id hM
  refine lv_aload_n hx hb dX4_low_0 rfl (lv_at hl 0 rfl) ?_
  refine lv_iconst (v := nI 0) hx hb dX4_low_1 (by decide) ?_
  refine w_putf (ci := 5) (C := RX4) (T := TX4) (N := 10) (ty := .int) hx hb hts (by decide +kernel) tyX4 tyX4_ok nmX4 hown hK hS hz (Or.inl (Or.inl rfl)) rfl 0 (by decide) (hts (.fieldLink RX4 27 "RadixbenchModel" "thrown" "I") (by decide +kernel)) (fun _ h9 => h9) rfl (by decide +kernel) rfl rfl (by rw [hfl]; decide) dX4_low_2 (fun H1 locs hz1 hs1 ho1 hS => ?_)
  have hM1 := hM.fset (by decide) (by decide) (by decide) ho1 hz1
  obtain ⟨-, hfl1, hmc, hdg, hlf, ⟨fr, hg9, hfr⟩, hrr, -, -, -⟩ := id hM1
  refine lv_iload_n hx hb dX4_low_5 rfl (lv_at hl 1 rfl) ?_
  refine cp_S (As := [.int x]) (rest := []) C0 hl hK hS hA (c_isCell l g H1 x) gX4_low_X4_isCell rfl ⟨rfl, rfl⟩ (show hd_ok yX4_isCell 1 from ⟨by decide, by decide, by decide +kernel⟩) ⟨Nat.le_of_ble_eq_true rfl, Nat.le_of_ble_eq_true rfl⟩ rfl (Nat.le_of_ble_eq_true rfl) ⟨Nat.zero_le _, Nat.zero_le _⟩ dX4_low_6 (fun locs hS => ?_)
  refine lv_if_eq (tgt := 25) hx hb dX4_low_9 (by decide) (fun h1 => ?_) (fun h1 => ?_)
  · skip
    refine lv_aload_n hx hb dX4_low_25 rfl (lv_at hl 0 rfl) ?_
    refine lv_iconst (v := nI 1) hx hb dX4_low_26 (by decide) ?_
    refine cn_V (As := [.int (nI 1)]) (rest := []) C0 hl hK hS hA (fun z h => Or.inl h) (c_refuse l g H1 z0 mc lf dg _ rr V hM1 (nI 1)) gX4_low_X4_refuse rfl ⟨rfl, rfl⟩ ((va_recv hK.1 (p1 hz1) (ci := 5) (q0 := 0) rfl rfl)) ⟨rfl, (show hd_ok yX4_refuse 1 from ⟨by decide, by decide, by decide +kernel⟩)⟩ ⟨Nat.le_of_ble_eq_true rfl, Nat.le_of_ble_eq_true rfl⟩ rfl (Nat.le_of_ble_eq_true rfl) ⟨Nat.zero_le _, Nat.zero_le _⟩ dX4_low_27 (fun r1 H2 locs hv hzz hk2 hS => ?_)
    obtain ⟨fs2, rr2, V2, ⟨rfl, rfl, rfl⟩, hM2⟩ := hv
    exact rt_ni (mu := zM z0 mc lf dg) C0 rfl ⟨_, _, _, ⟨⟨_, rfl⟩, ⟨nI 1, List.set_set _⟩, rfl⟩, hM2⟩ hS rfl dX4_low_30
  · skip
    obtain ⟨i, hi, rfl⟩ := cell_of (of_decide_eq_true (bI_n0 h1))
    refine lv_aload_n hx hb dX4_low_12 rfl (lv_at hl 0 rfl) ?_
    refine va_get (ci := 5) (C := RX4) (T := TX4) (N := 10) (v := .ref mc) hx hb hts (by decide +kernel) hown hK.1 (p1 hz1) 0 rfl rfl 1 (by decide) (hts (.fieldLink RX4 11 "RadixbenchModel" "cells" "[[I") (by decide +kernel)) (fun _ h9 => h9) hmc dX4_low_13 ?_
    refine lv_iload_n hx hb dX4_low_16 rfl (lv_at hl 1 rfl) ?_
    refine w_aald (j := i) hx hb hK hg9 hi (by decide) (hfr i hi) dX4_low_17 ?_
    refine lv_iconst (v := nI 0) hx hb dX4_low_18 (by decide) ?_
    refine cp_S (As := [.ref (rr i), .int (nI 0)]) (rest := []) C0 hl hK hS hA (c_half l g H1 (rr i) 4 (V i) 0 (by decide) (by decide) (hrr i hi).1) gX4_low_X4_half rfl ⟨rfl, rfl⟩ (show hd_ok yX4_half 2 from ⟨by decide, by decide, by decide +kernel⟩) ⟨Nat.le_of_ble_eq_true rfl, Nat.le_of_ble_eq_true rfl⟩ rfl (Nat.le_of_ble_eq_true rfl) ⟨Nat.zero_le _, Nat.zero_le _⟩ dX4_low_19 (fun locs hS => ?_)
    refine lv_goto (tgt := 30) hx hb dX4_low_22 (by decide) ?_
    exact rt_ni (mu := zM z0 mc lf dg) C0 rfl ⟨_, _, _, ⟨⟨_, rfl⟩, ⟨nI 0, rfl⟩, rfl⟩, hM1⟩ hS rfl dX4_low_30
abbrev rmX4_isSound (k : Nat) : Room := { frames := 6, cells := k, slots := 4 * k, locals := 138 }
set_option maxHeartbeats 4000000 in
set_option maxRecDepth 100000 in
/-- isSound(): that it ends, and what it makes -/
theorem c_isSound (l : Launch) (g : Gx) (H0 : Heap) (z0 mc lf dg : Nat) (fs : List Value) (rr V : Nat → Nat) (hM : MD g H0 z0 mc lf dg fs rr V) (k9 : Nat) (hk9 : scost V 8 ≤ k9) : Met l yX4_isSound wsX4_isSound (rmX4_isSound k9) (va_Pc [.ref z0] (hB g H0)) (nQ H0 (zM z0 mc lf dg) (zQ g z0 mc lf dg (fun r fs2 V2 => (∃ y : Int32, r = some (.int y)) ∧ (∃ t : Int32, fs2 = fs.set 0 (.int t)) ∧ V2 = V))) k9 (4 * k9) (fun q => zM z0 mc lf dg q ∨ H0.size ≤ q) := by
  refine cx_met (own := RX4) (cc := cX4_isSound) (maxL := 1) (by decide) rfl rfl (Nat.le_of_ble_eq_true rfl) ?_
  intro p e s m below meth c ls C0 hB0 hnm hl
  obtain ⟨hH, hK⟩ := hB0
  obtain ⟨hx, hb, hr, hml, hown, hts, hlk⟩ := id C0
  subst hH
  have hS : va_S (fun q => zM z0 mc lf dg q ∨ s.heap.size ≤ q) s.heap s.heap [] := va_S.rf
  have hA : ∀ q : Nat, s.heap.size ≤ q → (fun q => zM z0 mc lf dg q ∨ s.heap.size ≤ q) q := fun q h => Or.inr h
  have hl : lv_has ls 1 [(0, .ref z0)] := hl
  obtain ⟨hz, hfl, -⟩ := id hM
  refine lv_aload_n hx hb dX4_isSound_0 rfl (lv_at hl 0 rfl) ?_
  refine lv_iconst (v := nI 0) hx hb dX4_isSound_1 (by decide) ?_
  refine w_putf (ci := 5) (C := RX4) (T := TX4) (N := 10) (ty := .int) hx hb hts (by decide +kernel) tyX4 tyX4_ok nmX4 hown hK hS hz (Or.inl (Or.inl rfl)) rfl 0 (by decide) (hts (.fieldLink RX4 27 "RadixbenchModel" "thrown" "I") (by decide +kernel)) (fun _ h9 => h9) rfl (by decide +kernel) rfl rfl (by rw [hfl]; decide) dX4_isSound_2 (fun H1 locs hz1 hs1 ho1 hS => ?_)
  have hM1 := hM.fset (by decide) (by decide) (by decide) ho1 hz1
  obtain ⟨-, hfl1, hmc, hdg, hlf, ⟨fr, hg9, hfr⟩, hrr, -, -, -⟩ := id hM1
  refine lv_aload_n hx hb dX4_isSound_5 rfl (lv_at hl 0 rfl) ?_
  refine cn_V (As := []) (rest := []) C0 hl hK hS hA (fun z h => Or.inl (Or.inr (Or.inr h))) (c_isSoundNow l g H1 z0 mc lf dg k9 _ rr V hM1 hk9) gX4_isSound_X4_isSoundNow rfl ⟨rfl, rfl⟩ ((va_recv hK.1 (p1 hz1) (ci := 5) (q0 := 0) rfl rfl)) ⟨rfl, (show hd_ok yX4_isSoundNow 0 from ⟨by decide, by decide, by decide +kernel⟩)⟩ ⟨Nat.le_of_ble_eq_true rfl, Nat.le_of_ble_eq_true rfl⟩ rfl (Nat.le_of_ble_eq_true rfl) ⟨by show 0 + k9 ≤ k9; omega, by show 0 + 4 * k9 ≤ 4 * k9; omega⟩ dX4_isSound_6 (fun r1 H2 locs hv hzz hk2 hS => ?_)
  obtain ⟨b1, f1, d1v, rfl, hl1, hd1⟩ := hv
  have hM2 := hM1.keep (fun q h1 h2 => hk2 q h1 h2) hl1 hd1
  refine W.widen (k := k9) (n := 4 * k9) (by omega) (by omega) ?_
  exact rt_ni (mu := zM z0 mc lf dg) C0 (bI_nar _) ⟨_, _, _, ⟨⟨_, rfl⟩, ⟨nI 0, rfl⟩, rfl⟩, hM2⟩ hS rfl dX4_isSound_9
end M26

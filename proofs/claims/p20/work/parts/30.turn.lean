-- the model's public calls: turn
section M30
variable {p : Program} {l : Launch} {e : Env} {s : State} {m : MethodId} {args : Array Value} {below : List Frame} {meth : Method} {c : Code} {H H0 : Heap} {locs : List Loc} {cells slots : Nat} {Q : State → Prop} {A : Nat → Prop} {g : Gx}
abbrev rmX4_turn : Room := { frames := 4, cells := 3, slots := 12, locals := 90 }
set_option maxHeartbeats 4000000 in
set_option maxRecDepth 100000 in
/-- turn(cell, places, isInt) -/
theorem c_turn (l : Launch) (g : Gx) (H0 : Heap) (z0 mc lf dg : Nat) (fs : List Value) (rr V : Nat → Nat) (hM : MD g H0 z0 mc lf dg fs rr V) (x y : Int32) (zi : Bool) : Met l yX4_turn wsX4_turn rmX4_turn (va_Pc [.ref z0, .int x, .int y, .int (bI zi)] (hB g H0)) (nQ H0 (zM z0 mc lf dg) (zQ g z0 mc lf dg (fun r fs2 V2 => (∃ i : Nat, i < 8 ∧ x = nI i ∧ (r = some (.int (bI (!decide (wideN (nP zi) (tsum (V i % 65536 ^ nP zi) (tpl (16 * nP zi) (tby (16 * nP zi) y)) (16 * nP zi) % 65536 ^ nP zi) = V i)))) ∧ V2 = va_up V i (wideN (nP zi) (tsum (V i % 65536 ^ nP zi) (tpl (16 * nP zi) (tby (16 * nP zi) y)) (16 * nP zi) % 65536 ^ nP zi))) ∧ fs2 = fs.set 0 (.int (nI 0))) ∨ (¬ isC x ∧ r = some (.int (nI 0)) ∧ fs2 = fs.set 0 (.int (nI 1)) ∧ V2 = V)))) 3 12 (fun q => zM z0 mc lf dg q ∨ H0.size ≤ q) := by
  refine cx_met (own := RX4) (cc := cX4_turn) (maxL := 4) (by decide) rfl rfl (Nat.le_of_ble_eq_true rfl) ?_
  intro p e s m below meth c ls C0 hB0 hnm hl
  obtain ⟨hH, hK⟩ := hB0
  obtain ⟨hx, hb, hr, hml, hown, hts, hlk⟩ := id C0
  subst hH
  have hS : va_S (fun q => zM z0 mc lf dg q ∨ s.heap.size ≤ q) s.heap s.heap [] := va_S.rf
  have hA : ∀ q : Nat, s.heap.size ≤ q → (fun q => zM z0 mc lf dg q ∨ s.heap.size ≤ q) q := fun q h => Or.inr h
  have hl : lv_has ls 4 [(0, .ref z0), (1, .int x), (2, .int y), (3, .int (bI zi))] := hl
  obtain ⟨hz, hfl, -⟩ := id hM
  refine lv_aload_n hx hb dX4_turn_0 rfl (lv_at hl 0 rfl) ?_
  refine lv_iconst (v := nI 0) hx hb dX4_turn_1 (by decide) ?_
  refine w_putf (ci := 5) (C := RX4) (T := TX4) (N := 10) (ty := .int) hx hb hts (by decide +kernel) tyX4 tyX4_ok nmX4 hown hK hS hz (Or.inl (Or.inl rfl)) rfl 0 (by decide) (hts (.fieldLink RX4 27 "RadixbenchModel" "thrown" "I") (by decide +kernel)) (fun _ h9 => h9) rfl (by decide +kernel) rfl rfl (by rw [hfl]; decide) dX4_turn_2 (fun H1 locs hz1 hs1 ho1 hS => ?_)
  have hM1 := hM.fset (by decide) (by decide) (by decide) ho1 hz1
  obtain ⟨-, hfl1, hmc, hdg, hlf, ⟨fr, hg9, hfr⟩, hrr, -, -, -⟩ := id hM1
  refine lv_iload_n hx hb dX4_turn_5 rfl (lv_at hl 1 rfl) ?_
  refine cp_S (As := [.int x]) (rest := []) C0 hl hK hS hA (c_isCell l g H1 x) gX4_turn_X4_isCell rfl ⟨rfl, rfl⟩ (show hd_ok yX4_isCell 1 from ⟨by decide, by decide, by decide +kernel⟩) ⟨Nat.le_of_ble_eq_true rfl, Nat.le_of_ble_eq_true rfl⟩ rfl (Nat.le_of_ble_eq_true rfl) ⟨by decide, by decide⟩ dX4_turn_6 (fun locs hS => ?_)
  refine lv_if_ne (tgt := 18) hx hb dX4_turn_9 (by decide) (fun h1 => ?_) (fun h1 => ?_)
  · skip
    obtain ⟨i, hi, rfl⟩ := cell_of (of_decide_eq_true (bI_n0 h1))
    refine lv_aload_n hx hb dX4_turn_18 rfl (lv_at hl 0 rfl) ?_
    refine lv_iload_n hx hb dX4_turn_19 rfl (lv_at hl 1 rfl) ?_
    refine lv_aload_n hx hb dX4_turn_20 rfl (lv_at hl 0 rfl) ?_
    refine lv_iload_n hx hb dX4_turn_21 rfl (lv_at hl 1 rfl) ?_
    refine lv_iload_n hx hb dX4_turn_22 rfl (lv_at hl 3 rfl) ?_
    refine cn_V (As := [.int (nI i), .int (bI zi)]) (rest := [.int (nI i), .ref z0]) C0 hl hK hS hA (fun z h => absurd h (fun z => z)) (c_of l g H1 z0 mc i (rr i) (V i) zi _ fr hz1 hmc hg9 (hfr i hi) hi (hrr i hi).1) gX4_turn_X4_of rfl ⟨rfl, rfl⟩ ((va_recv hK.1 (p1 hz1) (ci := 5) (q0 := 0) rfl rfl)) ⟨rfl, (show hd_ok yX4_of 2 from ⟨by decide, by decide, by decide +kernel⟩)⟩ ⟨Nat.le_of_ble_eq_true rfl, Nat.le_of_ble_eq_true rfl⟩ rfl (Nat.le_of_ble_eq_true rfl) ⟨by decide, by decide⟩ dX4_turn_23 (fun r1 H2 locs hv hzz hk2 hS => ?_)
    obtain ⟨q1, rfl, hq1, g1⟩ := hv
    have hM2 : MD g H2 z0 mc lf dg _ rr V := hM1.same (fun q h => hk2 q h (fun z => z))
    refine lv_iload_n hx hb dX4_turn_26 rfl (lv_at hl 2 rfl) ?_
    refine cn_S (As := [.ref q1, .int y]) (rest := [.int (nI i), .ref z0]) C0 hl hK hS hA (fun z h => absurd h (fun z => z)) (c_turned l g H2 q1 (nP zi) _ (tby (16 * nP zi) y) y (nP_or zi) (tby_lt (nP_or zi) y) (tby_eq (nP_or zi) y) g1) gX4_turn_X4_turned rfl ⟨rfl, rfl⟩ (show hd_ok yX4_turned 2 from ⟨by decide, by decide, by decide +kernel⟩) ⟨Nat.le_of_ble_eq_true rfl, Nat.le_of_ble_eq_true rfl⟩ rfl (Nat.le_of_ble_eq_true rfl) ⟨by decide, by decide⟩ dX4_turn_27 (fun r1 H3 locs hv hzz hk3 hS => ?_)
    obtain ⟨q2, rfl, hq2, g2⟩ := hv
    have hM3 : MD g H3 z0 mc lf dg _ rr V := hM2.same (fun q h => hk3 q h (fun z => z))
    obtain ⟨hz3, -⟩ := id hM3
    refine cn_V (As := [.int (nI i), .ref q2]) (rest := []) C0 hl hK hS hA (fun z h => Or.inl (Or.inr (Or.inl h))) (c_become l g H3 z0 mc lf dg i q2 (nP zi) _ _ rr V hM3 hi (nP_or zi) (Nat.mod_lt _ (Nat.pow_pos (by decide))) (row_modn g2)) gX4_turn_X4_become rfl ⟨rfl, rfl⟩ ((va_recv hK.1 (p1 hz3) (ci := 5) (q0 := 0) rfl rfl)) ⟨rfl, (show hd_ok yX4_become 2 from ⟨by decide, by decide, by decide +kernel⟩)⟩ ⟨Nat.le_of_ble_eq_true rfl, Nat.le_of_ble_eq_true rfl⟩ rfl (Nat.le_of_ble_eq_true rfl) ⟨by decide, by decide⟩ dX4_turn_30 (fun r1 H4 locs hv hzz hk4 hS => ?_)
    obtain ⟨q9, hq9, rfl, hM4⟩ := hv
    exact rt_ni (mu := zM z0 mc lf dg) C0 (bI_nar _) ⟨_, _, _, Or.inl ⟨i, hi, rfl, ⟨rfl, rfl⟩, rfl⟩, hM4⟩ hS rfl dX4_turn_33
  · skip
    have h3 := h1
    refine lv_aload_n hx hb dX4_turn_12 rfl (lv_at hl 0 rfl) ?_
    refine lv_iconst (v := nI 1) hx hb dX4_turn_13 (by decide) ?_
    refine cn_V (As := [.int (nI 1)]) (rest := []) C0 hl hK hS hA (fun z h => Or.inl h) (c_refuses l g H1 z0 mc lf dg _ rr V hM1 (nI 1)) gX4_turn_X4_refuses rfl ⟨rfl, rfl⟩ ((va_recv hK.1 (p1 hz1) (ci := 5) (q0 := 0) rfl rfl)) ⟨rfl, (show hd_ok yX4_refuses 1 from ⟨by decide, by decide, by decide +kernel⟩)⟩ ⟨Nat.le_of_ble_eq_true rfl, Nat.le_of_ble_eq_true rfl⟩ rfl (Nat.le_of_ble_eq_true rfl) ⟨by decide, by decide⟩ dX4_turn_14 (fun r1 H2 locs hv hzz hk2 hS => ?_)
    obtain ⟨fs2, rr2, V2, ⟨rfl, rfl, rfl⟩, hM2⟩ := hv
    refine W.widen (k := 3) (n := 12) (by decide) (by decide) ?_
    exact rt_ni (mu := zM z0 mc lf dg) C0 rfl ⟨_, _, _, Or.inr ⟨fun z => of_decide_eq_false (bI_0 h3) z, rfl, List.set_set _, rfl⟩, hM2⟩ hS rfl dX4_turn_17
end M30

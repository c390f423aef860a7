-- the model's public calls: copy, about
theorem wideN_4 {v : Nat} (h : v < 65536 ^ 4) : wideN 4 v = v := by
  unfold wideN
  split
  · rw [Nat.sub_self, Nat.add_zero]
  · rfl
/-- a cell's number -/
def isC (x : Int32) : Prop := nI 0 ≤ x ∧ x ≤ nI 7
theorem isC_nI {i : Nat} (h : i < 8) : isC (nI i) := ⟨nI_le (Nat.zero_le i) (by omega), nI_le (by omega) (by decide)⟩
/-- how many parts -/
def nP (y : Bool) : Nat := if y then 2 else 4
theorem nP_or (y : Bool) : nP y = 2 ∨ nP y = 4 := by cases y <;> simp [nP]
theorem row_modn {g : Gx} {q w n : Nat} {H : Heap} (h : va_at g.1 vwCl (q, .inl (g.2 0, n, .inl (rw16 w))) H) : va_at g.1 vwCl (q, .inl (g.2 0, n, .inl (rw16 (w % 65536 ^ n)))) H := at_cong h (fun k hk => (rw_top hk).symm)
/-- the model where no old cell has changed -/
theorem MD.same {g : Gx} {H0 H : Heap} {z0 mc lf dg : Nat} {fs : List Value} {rr V : Nat → Nat} (h : MD g H0 z0 mc lf dg fs rr V) (hk : ∀ q : Nat, q < H0.size → H[q]? = H0[q]?) : MD g H z0 mc lf dg fs rr V := by
  obtain ⟨f, hf⟩ := h.2.2.2.2.2.2.2.1
  obtain ⟨d, hd⟩ := h.2.2.2.2.2.2.2.2.1
  exact h.keep (fun q h1 _ => hk q h1) (hf.kept (hk _ hf.lt)) (hd.kept (hk _ hd.lt))
section M28
variable {p : Program} {l : Launch} {e : Env} {s : State} {m : MethodId} {args : Array Value} {below : List Frame} {meth : Method} {c : Code} {H H0 : Heap} {locs : List Loc} {cells slots : Nat} {Q : State → Prop} {A : Nat → Prop} {g : Gx}
abbrev rmX4_copy : Room := { frames := 3, cells := 1, slots := 4, locals := 66 }
set_option maxHeartbeats 4000000 in
set_option maxRecDepth 100000 in
/-- copy(to, from) -/
theorem c_copy (l : Launch) (g : Gx) (H0 : Heap) (z0 mc lf dg : Nat) (fs : List Value) (rr V : Nat → Nat) (hM : MD g H0 z0 mc lf dg fs rr V) (x y : Int32) : Met l yX4_copy wsX4_copy rmX4_copy (va_Pc [.ref z0, .int x, .int y] (hB g H0)) (nQ H0 (zM z0 mc lf dg) (zQ g z0 mc lf dg (fun r fs2 V2 => (∃ i j : Nat, i < 8 ∧ j < 8 ∧ x = nI i ∧ y = nI j ∧ (r = some (.int (bI (!decide (V j = V i)))) ∧ V2 = va_up V i (V j)) ∧ fs2 = fs.set 0 (.int (nI 0))) ∨ (¬ (isC x ∧ isC y) ∧ r = some (.int (nI 0)) ∧ fs2 = fs.set 0 (.int (nI 1)) ∧ V2 = V)))) 1 4 (fun q => zM z0 mc lf dg q ∨ H0.size ≤ q) := by
  refine cx_met (own := RX4) (cc := cX4_copy) (maxL := 3) (by decide) rfl rfl (Nat.le_of_ble_eq_true rfl) ?_
  intro p e s m below meth c ls C0 hB0 hnm hl
  obtain ⟨hH, hK⟩ := hB0
  obtain ⟨hx, hb, hr, hml, hown, hts, hlk⟩ := id C0
  subst hH
  have hS : va_S (fun q => zM z0 mc lf dg q ∨ s.heap.size ≤ q) s.heap s.heap [] := va_S.rf
  have hA : ∀ q : Nat, s.heap.size ≤ q → (fun q => zM z0 mc lf dg q ∨ s.heap.size ≤ q) q := fun q h => Or.inr h
  have hl : lv_has ls 3 [(0, .ref z0), (1, .int x), (2, .int y)] := hl
  obtain ⟨hz, hfl, -⟩ := id hM
  refine lv_aload_n hx hb dX4_copy_0 rfl (lv_at hl 0 rfl) ?_
  refine lv_iconst (v := nI 0) hx hb dX4_copy_1 (by decide) ?_
  refine w_putf (ci := 5) (C := RX4) (T := TX4) (N := 10) (ty := .int) hx hb hts (by decide +kernel) tyX4 tyX4_ok nmX4 hown hK hS hz (Or.inl (Or.inl rfl)) rfl 0 (by decide) (hts (.fieldLink RX4 27 "RadixbenchModel" "thrown" "I") (by decide +kernel)) (fun _ h9 => h9) rfl (by decide +kernel) rfl rfl (by rw [hfl]; decide) dX4_copy_2 (fun H1 locs hz1 hs1 ho1 hS => ?_)
  have hM1 := hM.fset (by decide) (by decide) (by decide) ho1 hz1
  obtain ⟨-, hfl1, hmc, hdg, hlf, ⟨fr, hg9, hfr⟩, hrr, -, -, -⟩ := id hM1
  refine lv_iload_n hx hb dX4_copy_5 rfl (lv_at hl 1 rfl) ?_
  refine cp_S (As := [.int x]) (rest := []) C0 hl hK hS hA (c_isCell l g H1 x) gX4_copy_X4_isCell rfl ⟨rfl, rfl⟩ (show hd_ok yX4_isCell 1 from ⟨by decide, by decide, by decide +kernel⟩) ⟨Nat.le_of_ble_eq_true rfl, Nat.le_of_ble_eq_true rfl⟩ rfl (Nat.le_of_ble_eq_true rfl) ⟨by decide, by decide⟩ dX4_copy_6 (fun locs hS => ?_)
  refine lv_if_eq (tgt := 19) hx hb dX4_copy_9 (by decide) (fun h1 => ?_) (fun h1 => ?_)
  · skip
    refine lv_aload_n hx hb dX4_copy_19 rfl (lv_at hl 0 rfl) ?_
    refine lv_iconst (v := nI 1) hx hb dX4_copy_20 (by decide) ?_
    refine cn_V (As := [.int (nI 1)]) (rest := []) C0 hl hK hS hA (fun z h => Or.inl h) (c_refuses l g H1 z0 mc lf dg _ rr V hM1 (nI 1)) gX4_copy_X4_refuses rfl ⟨rfl, rfl⟩ ((va_recv hK.1 (p1 hz1) (ci := 5) (q0 := 0) rfl rfl)) ⟨rfl, (show hd_ok yX4_refuses 1 from ⟨by decide, by decide, by decide +kernel⟩)⟩ ⟨Nat.le_of_ble_eq_true rfl, Nat.le_of_ble_eq_true rfl⟩ rfl (Nat.le_of_ble_eq_true rfl) ⟨by decide, by decide⟩ dX4_copy_21 (fun r1 H2 locs hv hzz hk2 hS => ?_)
    obtain ⟨fs2, rr2, V2, ⟨rfl, rfl, rfl⟩, hM2⟩ := hv
    refine W.widen (k := 1) (n := 4) (by decide) (by decide) ?_
    exact rt_ni (mu := zM z0 mc lf dg) C0 rfl ⟨_, _, _, Or.inr ⟨fun z => of_decide_eq_false (bI_0 h1) z.1, rfl, List.set_set _, rfl⟩, hM2⟩ hS rfl dX4_copy_24
  · skip
    refine lv_iload_n hx hb dX4_copy_12 rfl (lv_at hl 2 rfl) ?_
    refine cp_S (As := [.int y]) (rest := []) C0 hl hK hS hA (c_isCell l g H1 y) gX4_copy_X4_isCell rfl ⟨rfl, rfl⟩ (show hd_ok yX4_isCell 1 from ⟨by decide, by decide, by decide +kernel⟩) ⟨Nat.le_of_ble_eq_true rfl, Nat.le_of_ble_eq_true rfl⟩ rfl (Nat.le_of_ble_eq_true rfl) ⟨by decide, by decide⟩ dX4_copy_13 (fun locs hS => ?_)
    refine lv_if_ne (tgt := 25) hx hb dX4_copy_16 (by decide) (fun h2 => ?_) (fun h2 => ?_)
    · skip
      obtain ⟨i, hi, rfl⟩ := cell_of (of_decide_eq_true (bI_n0 h1))
      obtain ⟨j, hj, rfl⟩ := cell_of (of_decide_eq_true (bI_n0 h2))
      refine lv_aload_n hx hb dX4_copy_25 rfl (lv_at hl 0 rfl) ?_
      refine lv_iload_n hx hb dX4_copy_26 rfl (lv_at hl 1 rfl) ?_
      refine lv_aload_n hx hb dX4_copy_27 rfl (lv_at hl 0 rfl) ?_
      refine va_get (ci := 5) (C := RX4) (T := TX4) (N := 10) (v := .ref mc) hx hb hts (by decide +kernel) hown hK.1 (p1 hz1) 0 rfl rfl 1 (by decide) (hts (.fieldLink RX4 11 "RadixbenchModel" "cells" "[[I") (by decide +kernel)) (fun _ h9 => h9) hmc dX4_copy_28 ?_
      refine lv_iload_n hx hb dX4_copy_31 rfl (lv_at hl 2 rfl) ?_
      refine w_aald (j := j) hx hb hK hg9 hj (by decide) (hfr j hj) dX4_copy_32 ?_
      refine cn_V (As := [.int (nI i), .ref (rr j)]) (rest := []) C0 hl hK hS hA (fun z h => Or.inl (Or.inr (Or.inl h))) (c_become l g H1 z0 mc lf dg i (rr j) 4 (V j) _ rr V hM1 hi (Or.inr rfl) (hrr j hj).2.1 (hrr j hj).1) gX4_copy_X4_become rfl ⟨rfl, rfl⟩ ((va_recv hK.1 (p1 hz1) (ci := 5) (q0 := 0) rfl rfl)) ⟨rfl, (show hd_ok yX4_become 2 from ⟨by decide, by decide, by decide +kernel⟩)⟩ ⟨Nat.le_of_ble_eq_true rfl, Nat.le_of_ble_eq_true rfl⟩ rfl (Nat.le_of_ble_eq_true rfl) ⟨by decide, by decide⟩ dX4_copy_33 (fun r1 H2 locs hv hzz hk2 hS => ?_)
      obtain ⟨q9, hq9, rfl, hM2⟩ := hv
      rw [wideN_4 (hrr j hj).2.1] at hM2
      exact rt_ni (mu := zM z0 mc lf dg) C0 (bI_nar _) ⟨_, _, _, Or.inl ⟨i, j, hi, hj, rfl, rfl, ⟨by rw [wideN_4 (hrr j hj).2.1], rfl⟩, rfl⟩, hM2⟩ hS rfl dX4_copy_36
    · skip
      have h3 := h2
      refine lv_aload_n hx hb dX4_copy_19 rfl (lv_at hl 0 rfl) ?_
      refine lv_iconst (v := nI 1) hx hb dX4_copy_20 (by decide) ?_
      refine cn_V (As := [.int (nI 1)]) (rest := []) C0 hl hK hS hA (fun z h => Or.inl h) (c_refuses l g H1 z0 mc lf dg _ rr V hM1 (nI 1)) gX4_copy_X4_refuses rfl ⟨rfl, rfl⟩ ((va_recv hK.1 (p1 hz1) (ci := 5) (q0 := 0) rfl rfl)) ⟨rfl, (show hd_ok yX4_refuses 1 from ⟨by decide, by decide, by decide +kernel⟩)⟩ ⟨Nat.le_of_ble_eq_true rfl, Nat.le_of_ble_eq_true rfl⟩ rfl (Nat.le_of_ble_eq_true rfl) ⟨by decide, by decide⟩ dX4_copy_21 (fun r1 H2 locs hv hzz hk2 hS => ?_)
      obtain ⟨fs2, rr2, V2, ⟨rfl, rfl, rfl⟩, hM2⟩ := hv
      refine W.widen (k := 1) (n := 4) (by decide) (by decide) ?_
      exact rt_ni (mu := zM z0 mc lf dg) C0 rfl ⟨_, _, _, Or.inr ⟨fun z => of_decide_eq_false (bI_0 h3) z.2, rfl, List.set_set _, rfl⟩, hM2⟩ hS rfl dX4_copy_24
abbrev rmX4_about : Room := { frames := 4, cells := 3, slots := 12, locals := 91 }
set_option maxHeartbeats 4000000 in
set_option maxRecDepth 100000 in
/-- about(cell, isBytes, isInt) -/
theorem c_about (l : Launch) (g : Gx) (H0 : Heap) (z0 mc lf dg : Nat) (fs : List Value) (rr V : Nat → Nat) (hM : MD g H0 z0 mc lf dg fs rr V) (x : Int32) (zb zi : Bool) : Met l yX4_about wsX4_about rmX4_about (va_Pc [.ref z0, .int x, .int (bI zb), .int (bI zi)] (hB g H0)) (nQ H0 (zM z0 mc lf dg) (zQ g z0 mc lf dg (fun r fs2 V2 => (∃ i : Nat, i < 8 ∧ x = nI i ∧ (r = some (.int (bI (!decide (wideN (nP zi) (tsum (V i % 65536 ^ nP zi) (bpl (16 * nP zi) zb) (16 * nP zi) % 65536 ^ nP zi) = V i)))) ∧ V2 = va_up V i (wideN (nP zi) (tsum (V i % 65536 ^ nP zi) (bpl (16 * nP zi) zb) (16 * nP zi) % 65536 ^ nP zi))) ∧ fs2 = fs.set 0 (.int (nI 0))) ∨ (¬ isC x ∧ r = some (.int (nI 0)) ∧ fs2 = fs.set 0 (.int (nI 1)) ∧ V2 = V)))) 3 12 (fun q => zM z0 mc lf dg q ∨ H0.size ≤ q) := by
  refine cx_met (own := RX4) (cc := cX4_about) (maxL := 4) (by decide) rfl rfl (Nat.le_of_ble_eq_true rfl) ?_
  intro p e s m below meth c ls C0 hB0 hnm hl
  obtain ⟨hH, hK⟩ := hB0
  obtain ⟨hx, hb, hr, hml, hown, hts, hlk⟩ := id C0
  subst hH
  have hS : va_S (fun q => zM z0 mc lf dg q ∨ s.heap.size ≤ q) s.heap s.heap [] := va_S.rf
  have hA : ∀ q : Nat, s.heap.size ≤ q → (fun q => zM z0 mc lf dg q ∨ s.heap.size ≤ q) q := fun q h => Or.inr h
  have hl : lv_has ls 4 [(0, .ref z0), (1, .int x), (2, .int (bI zb)), (3, .int (bI zi))] := hl
  obtain ⟨hz, hfl, -⟩ := id hM
  refine lv_aload_n hx hb dX4_about_0 rfl (lv_at hl 0 rfl) ?_
  refine lv_iconst (v := nI 0) hx hb dX4_about_1 (by decide) ?_
  refine w_putf (ci := 5) (C := RX4) (T := TX4) (N := 10) (ty := .int) hx hb hts (by decide +kernel) tyX4 tyX4_ok nmX4 hown hK hS hz (Or.inl (Or.inl rfl)) rfl 0 (by decide) (hts (.fieldLink RX4 27 "RadixbenchModel" "thrown" "I") (by decide +kernel)) (fun _ h9 => h9) rfl (by decide +kernel) rfl rfl (by rw [hfl]; decide) dX4_about_2 (fun H1 locs hz1 hs1 ho1 hS => ?_)
  have hM1 := hM.fset (by decide) (by decide) (by decide) ho1 hz1
  obtain ⟨-, hfl1, hmc, hdg, hlf, ⟨fr, hg9, hfr⟩, hrr, -, -, -⟩ := id hM1
  refine lv_iload_n hx hb dX4_about_5 rfl (lv_at hl 1 rfl) ?_
  refine cp_S (As := [.int x]) (rest := []) C0 hl hK hS hA (c_isCell l g H1 x) gX4_about_X4_isCell rfl ⟨rfl, rfl⟩ (show hd_ok yX4_isCell 1 from ⟨by decide, by decide, by decide +kernel⟩) ⟨Nat.le_of_ble_eq_true rfl, Nat.le_of_ble_eq_true rfl⟩ rfl (Nat.le_of_ble_eq_true rfl) ⟨by decide, by decide⟩ dX4_about_6 (fun locs hS => ?_)
  refine lv_if_ne (tgt := 18) hx hb dX4_about_9 (by decide) (fun h1 => ?_) (fun h1 => ?_)
  · skip
    obtain ⟨i, hi, rfl⟩ := cell_of (of_decide_eq_true (bI_n0 h1))
    refine lv_aload_n hx hb dX4_about_18 rfl (lv_at hl 0 rfl) ?_
    refine lv_iload_n hx hb dX4_about_19 rfl (lv_at hl 1 rfl) ?_
    refine lv_aload_n hx hb dX4_about_20 rfl (lv_at hl 0 rfl) ?_
    refine lv_iload_n hx hb dX4_about_21 rfl (lv_at hl 1 rfl) ?_
    refine lv_iload_n hx hb dX4_about_22 rfl (lv_at hl 3 rfl) ?_
    refine cn_V (As := [.int (nI i), .int (bI zi)]) (rest := [.int (nI i), .ref z0]) C0 hl hK hS hA (fun z h => absurd h (fun z => z)) (c_of l g H1 z0 mc i (rr i) (V i) zi _ fr hz1 hmc hg9 (hfr i hi) hi (hrr i hi).1) gX4_about_X4_of rfl ⟨rfl, rfl⟩ ((va_recv hK.1 (p1 hz1) (ci := 5) (q0 := 0) rfl rfl)) ⟨rfl, (show hd_ok yX4_of 2 from ⟨by decide, by decide, by decide +kernel⟩)⟩ ⟨Nat.le_of_ble_eq_true rfl, Nat.le_of_ble_eq_true rfl⟩ rfl (Nat.le_of_ble_eq_true rfl) ⟨by decide, by decide⟩ dX4_about_23 (fun r1 H2 locs hv hzz hk2 hS => ?_)
    obtain ⟨q1, rfl, hq1, g1⟩ := hv
    have hM2 : MD g H2 z0 mc lf dg _ rr V := hM1.same (fun q h => hk2 q h (fun z => z))
    refine lv_iload_n hx hb dX4_about_26 rfl (lv_at hl 2 rfl) ?_
    refine cn_S (As := [.ref q1, .int (bI zb)]) (rest := [.int (nI i), .ref z0]) C0 hl hK hS hA (fun z h => absurd h (fun z => z)) (c_backward l g H2 q1 (nP zi) _ zb (nP_or zi) g1) gX4_about_X4_backward rfl ⟨rfl, rfl⟩ (show hd_ok yX4_backward 2 from ⟨by decide, by decide, by decide +kernel⟩) ⟨Nat.le_of_ble_eq_true rfl, Nat.le_of_ble_eq_true rfl⟩ rfl (Nat.le_of_ble_eq_true rfl) ⟨by decide, by decide⟩ dX4_about_27 (fun r1 H3 locs hv hzz hk3 hS => ?_)
    obtain ⟨q2, rfl, hq2, g2⟩ := hv
    have hM3 : MD g H3 z0 mc lf dg _ rr V := hM2.same (fun q h => hk3 q h (fun z => z))
    obtain ⟨hz3, -⟩ := id hM3
    refine cn_V (As := [.int (nI i), .ref q2]) (rest := []) C0 hl hK hS hA (fun z h => Or.inl (Or.inr (Or.inl h))) (c_become l g H3 z0 mc lf dg i q2 (nP zi) _ _ rr V hM3 hi (nP_or zi) (Nat.mod_lt _ (Nat.pow_pos (by decide))) (row_modn g2)) gX4_about_X4_become rfl ⟨rfl, rfl⟩ ((va_recv hK.1 (p1 hz3) (ci := 5) (q0 := 0) rfl rfl)) ⟨rfl, (show hd_ok yX4_become 2 from ⟨by decide, by decide, by decide +kernel⟩)⟩ ⟨Nat.le_of_ble_eq_true rfl, Nat.le_of_ble_eq_true rfl⟩ rfl (Nat.le_of_ble_eq_true rfl) ⟨by decide, by decide⟩ dX4_about_30 (fun r1 H4 locs hv hzz hk4 hS => ?_)
    obtain ⟨q9, hq9, rfl, hM4⟩ := hv
    exact rt_ni (mu := zM z0 mc lf dg) C0 (bI_nar _) ⟨_, _, _, Or.inl ⟨i, hi, rfl, ⟨rfl, rfl⟩, rfl⟩, hM4⟩ hS rfl dX4_about_33
  · skip
    have h3 := h1
    refine lv_aload_n hx hb dX4_about_12 rfl (lv_at hl 0 rfl) ?_
    refine lv_iconst (v := nI 1) hx hb dX4_about_13 (by decide) ?_
    refine cn_V (As := [.int (nI 1)]) (rest := []) C0 hl hK hS hA (fun z h => Or.inl h) (c_refuses l g H1 z0 mc lf dg _ rr V hM1 (nI 1)) gX4_about_X4_refuses rfl ⟨rfl, rfl⟩ ((va_recv hK.1 (p1 hz1) (ci := 5) (q0 := 0) rfl rfl)) ⟨rfl, (show hd_ok yX4_refuses 1 from ⟨by decide, by decide, by decide +kernel⟩)⟩ ⟨Nat.le_of_ble_eq_true rfl, Nat.le_of_ble_eq_true rfl⟩ rfl (Nat.le_of_ble_eq_true rfl) ⟨by decide, by decide⟩ dX4_about_14 (fun r1 H2 locs hv hzz hk2 hS => ?_)
    obtain ⟨fs2, rr2, V2, ⟨rfl, rfl, rfl⟩, hM2⟩ := hv
    refine W.widen (k := 3) (n := 12) (by decide) (by decide) ?_
    exact rt_ni (mu := zM z0 mc lf dg) C0 rfl ⟨_, _, _, Or.inr ⟨fun z => of_decide_eq_false (bI_0 h3) z, rfl, List.set_set _, rfl⟩, hM2⟩ hS rfl dX4_about_17
end M28

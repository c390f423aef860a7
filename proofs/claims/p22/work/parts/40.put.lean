-- the model's public calls: put, count
theorem put_row (y z : Int32) : ∀ k, k < 4 → upd (upd (upd (upd (fun _ => 0) 0 (rw16 (uN z) 0)) 1 (rw16 (uN z) 1)) 2 (rw16 (uN y) 0)) 3 (rw16 (uN y) 1) k = rw16 (uN z + 4294967296 * uN y) k := fun k hk => by
  have h1 := uN_lt y
  have h2 := uN_lt z
  rcases (show k = 0 ∨ k = 1 ∨ k = 2 ∨ k = 3 by omega) with rfl | rfl | rfl | rfl
  · show nI (uN z / 1 % 65536) = nI ((uN z + 4294967296 * uN y) / 1 % 65536)
    congr 1; omega
  · show nI (uN z / 65536 % 65536) = nI ((uN z + 4294967296 * uN y) / 65536 % 65536)
    congr 1; omega
  · show nI (uN y / 1 % 65536) = nI ((uN z + 4294967296 * uN y) / 4294967296 % 65536)
    congr 1; omega
  · show nI (uN y / 65536 % 65536) = nI ((uN z + 4294967296 * uN y) / 281474976710656 % 65536)
    congr 1; omega
section M40
variable {p : Program} {l : Launch} {e : Env} {s : State} {m : MethodId} {args : Array Value} {below : List Frame} {meth : Method} {c : Code} {H H0 : Heap} {locs : List Loc} {cells slots : Nat} {Q : State → Prop} {A : Nat → Prop} {g : Gx}
abbrev rmX4_put : Room := { frames := 3, cells := 3, slots := 12, locals := 65 }
set_option maxHeartbeats 4000000 in
set_option maxRecDepth 100000 in
/-- put(cell, high, low) -/
theorem c_put (l : Launch) (g : Gx) (H0 : Heap) (z0 mc lf dg : Nat) (fs : List Value) (rr V : Nat → Nat) (hM : MD g H0 z0 mc lf dg fs rr V) (x y z : Int32) : Met l yX4_put wsX4_put rmX4_put (va_Pc [.ref z0, .int x, .int y, .int z] (hB g H0)) (nQ H0 (zM z0 mc lf dg) (zQ g z0 mc lf dg (fun r fs2 V2 => (∃ i : Nat, i < 8 ∧ x = nI i ∧ r = some (.int (nI (pcN (uN z + 4294967296 * uN y) 64))) ∧ V2 = va_up V i (uN z + 4294967296 * uN y) ∧ fs2 = fs.set 0 (.int (nI 0))) ∨ (¬ isC x ∧ r = some (.int (nI 0)) ∧ fs2 = fs.set 0 (.int (nI 1)) ∧ V2 = V)))) 3 12 (fun q => zM z0 mc lf dg q ∨ H0.size ≤ q) := by
  refine cx_met (own := RX4) (cc := cX4_put) (maxL := 6) (by decide) rfl rfl (Nat.le_of_ble_eq_true rfl) ?_
  intro p e s m below meth c ls C0 hB0 hnm hl
  obtain ⟨hH, hK⟩ := hB0
  obtain ⟨hx, hb, hr, hml, hown, hts, hlk⟩ := id C0
  subst hH
  have hS : va_S (fun q => zM z0 mc lf dg q ∨ s.heap.size ≤ q) s.heap s.heap [] := va_S.rf
  have hA : ∀ q : Nat, s.heap.size ≤ q → (fun q => zM z0 mc lf dg q ∨ s.heap.size ≤ q) q := fun q h => Or.inr h
  have hl : lv_has ls 6 [(0, .ref z0), (1, .int x), (2, .int y), (3, .int z)] := hl
  obtain ⟨hz, hfl, -⟩ := id hM
  refine lv_aload_n hx hb dX4_put_0 rfl (lv_at hl 0 rfl) ?_
  refine lv_iconst (v := nI 0) hx hb dX4_put_1 (by decide) ?_
  refine w_putf (ci := 5) (C := RX4) (T := TX4) (N := 10) (ty := .int) hx hb hts (by decide +kernel) tyX4 tyX4_ok nmX4 hown hK hS hz (Or.inl (Or.inl rfl)) rfl 0 (by decide) (hts (.fieldLink RX4 27 "RadixbenchModel" "thrown" "I") (by decide +kernel)) (fun _ h9 => h9) rfl (by decide +kernel) rfl rfl (by rw [hfl]; decide) dX4_put_2 (fun H1 locs hz1 hs1 ho1 hS => ?_)
  have hM1 := hM.fset (by decide) (by decide) (by decide) ho1 hz1
  obtain ⟨-, hfl1, hmc, hdg, hlf, ⟨fr, hg9, hfr⟩, hrr, -, -, -⟩ := id hM1
  refine lv_iload_n hx hb dX4_put_5 rfl (lv_at hl 1 rfl) ?_
  refine cp_S (As := [.int x]) (rest := []) C0 hl hK hS hA (c_isCell l g H1 x) gX4_put_X4_isCell rfl ⟨rfl, rfl⟩ (show hd_ok yX4_isCell 1 from ⟨by decide, by decide, by decide +kernel⟩) ⟨Nat.le_of_ble_eq_true rfl, Nat.le_of_ble_eq_true rfl⟩ rfl (Nat.le_of_ble_eq_true rfl) ⟨by decide, by decide⟩ dX4_put_6 (fun locs hS => ?_)
  refine lv_if_ne (tgt := 18) hx hb dX4_put_9 (by decide) (fun h1 => ?_) (fun h1 => ?_)
  · skip
    obtain ⟨i, hi, rfl⟩ := cell_of (of_decide_eq_true (bI_n0 h1))
    refine lv_iload_n hx hb dX4_put_18 rfl (lv_at hl 3 rfl) ?_
    refine cn_S (As := [.int z]) (rest := []) C0 hl hK hS hA (fun z h => absurd h (fun z => z)) (c_ofInt l g H1 z) gX4_put_X4_ofInt rfl ⟨rfl, rfl⟩ (show hd_ok yX4_ofInt 1 from ⟨by decide, by decide, by decide +kernel⟩) ⟨Nat.le_of_ble_eq_true rfl, Nat.le_of_ble_eq_true rfl⟩ rfl (Nat.le_of_ble_eq_true rfl) ⟨by decide, by decide⟩ dX4_put_19 (fun r1 H2 locs hv hzz hk2 hS => ?_)
    obtain ⟨q1, rfl, hq1, g1⟩ := hv
    have hM2 := hM1.same (fun q h => hk2 q h (fun z => z))
    refine lv_astore (lv' := [(4, .ref q1), (0, .ref z0), (1, .int (nI i)), (2, .int y), (3, .int z)]) hx hb dX4_put_22 hl (by decide) rfl (fun ls hl => ?_)
    refine lv_iload_n hx hb dX4_put_24 rfl (lv_at hl 3 rfl) ?_
    refine cn_S (As := [.int y]) (rest := []) C0 hl hK hS hA (fun z h => absurd h (fun z => z)) (c_ofInt l g H2 y) gX4_put_X4_ofInt rfl ⟨rfl, rfl⟩ (show hd_ok yX4_ofInt 1 from ⟨by decide, by decide, by decide +kernel⟩) ⟨Nat.le_of_ble_eq_true rfl, Nat.le_of_ble_eq_true rfl⟩ rfl (Nat.le_of_ble_eq_true rfl) ⟨by decide, by decide⟩ dX4_put_25 (fun r1 H3 locs hv hzz hk3 hS => ?_)
    obtain ⟨q2, rfl, hq2, g2⟩ := hv
    have hM3 := hM2.same (fun q h => hk3 q h (fun z => z))
    have g1 := g1.kept (hk3 _ g1.lt (fun z => z))
    have l1 := g1.lt
    have l2 := g2.lt
    dsimp only at l1 l2
    obtain ⟨hz3, hfl3, -, -, -, ⟨fr3, hg93, hfr3⟩, -, -, -, n31, -⟩ := id hM3
    have l0 := hS.1
    refine lv_astore (lv' := [(5, .ref q2), (4, .ref q1), (0, .ref z0), (1, .int (nI i)), (2, .int y), (3, .int z)]) hx hb dX4_put_28 hl (by decide) rfl (fun ls hl => ?_)
    refine lv_aload_n hx hb dX4_put_30 rfl (lv_at hl 2 rfl) ?_
    refine va_get (ci := 5) (C := RX4) (T := TX4) (N := 10) (v := .ref mc) hx hb hts (by decide +kernel) hown hK.1 (p1 hz3) 0 rfl rfl 1 (by decide) (hts (.fieldLink RX4 11 "RadixbenchModel" "cells" "[[I") (by decide +kernel)) (fun _ h9 => h9) hmc dX4_put_31 ?_
    refine lv_iload_n hx hb dX4_put_34 rfl (lv_at hl 3 rfl) ?_
    refine lv_iconst (v := nI 4) hx hb dX4_put_35 (by decide) ?_
    refine w_newF hx hb (hts (.arrayClass .int) (by decide +kernel)) hK hS (N := 4) (by decide) (by decide) (by decide) dX4_put_36 (fun q6 H4 hq6 g6 hz34 hkk hS => ?_)
    have a6 : (fun q => zM z0 mc lf dg q ∨ s.heap.size ≤ q) q6 := Or.inr (by omega)
    refine lv_dup hx hb dX4_put_38 rfl ?_
    refine lv_iconst (v := nI 0) hx hb dX4_put_39 (by decide) ?_
    refine lv_aload hx hb dX4_put_40 (lv_at hl 1 rfl) ?_
    refine lv_iconst (v := nI 0) hx hb dX4_put_42 (by decide) ?_
    refine f_iald (j := 0) hx hb hK (g1.kept (hkk _ l1)) (by decide) (by decide) dX4_put_43 ?_
    refine f_iast (j := 0) hx hb hK hS g6 a6 (by decide) (by decide) dX4_put_44 (fun H5 locs g6 hz9 ho hS => ?_)
    have hkk : ∀ q, q < H3.size → H5[q]? = H3[q]? := fun q h => (ho q (by omega)).trans (hkk q h)
    refine lv_dup hx hb dX4_put_45 rfl ?_
    refine lv_iconst (v := nI 1) hx hb dX4_put_46 (by decide) ?_
    refine lv_aload hx hb dX4_put_47 (lv_at hl 1 rfl) ?_
    refine lv_iconst (v := nI 1) hx hb dX4_put_49 (by decide) ?_
    refine f_iald (j := 1) hx hb hK (g1.kept (hkk _ l1)) (by decide) (by decide) dX4_put_50 ?_
    refine f_iast (j := 1) hx hb hK hS g6 a6 (by decide) (by decide) dX4_put_51 (fun H6 locs g6 hz9 ho hS => ?_)
    have hkk : ∀ q, q < H3.size → H6[q]? = H3[q]? := fun q h => (ho q (by omega)).trans (hkk q h)
    refine lv_dup hx hb dX4_put_52 rfl ?_
    refine lv_iconst (v := nI 2) hx hb dX4_put_53 (by decide) ?_
    refine lv_aload hx hb dX4_put_54 (lv_at hl 0 rfl) ?_
    refine lv_iconst (v := nI 0) hx hb dX4_put_56 (by decide) ?_
    refine f_iald (j := 0) hx hb hK (g2.kept (hkk _ l2)) (by decide) (by decide) dX4_put_57 ?_
    refine f_iast (j := 2) hx hb hK hS g6 a6 (by decide) (by decide) dX4_put_58 (fun H7 locs g6 hz9 ho hS => ?_)
    have hkk : ∀ q, q < H3.size → H7[q]? = H3[q]? := fun q h => (ho q (by omega)).trans (hkk q h)
    refine lv_dup hx hb dX4_put_59 rfl ?_
    refine lv_iconst (v := nI 3) hx hb dX4_put_60 (by decide) ?_
    refine lv_aload hx hb dX4_put_61 (lv_at hl 0 rfl) ?_
    refine lv_iconst (v := nI 1) hx hb dX4_put_63 (by decide) ?_
    refine f_iald (j := 1) hx hb hK (g2.kept (hkk _ l2)) (by decide) (by decide) dX4_put_64 ?_
    refine f_iast (j := 3) hx hb hK hS g6 a6 (by decide) (by decide) dX4_put_65 (fun H8 locs g6 hz9 ho hS => ?_)
    have hkk : ∀ q, q < H3.size → H8[q]? = H3[q]? := fun q h => (ho q (by omega)).trans (hkk q h)
    have g6 := at_cong g6 (put_row y z)
    have hpv : (uN z + 4294967296 * uN y) < 65536 ^ 4 := by have h1 := uN_lt y; have h2 := uN_lt z; omega
    refine w_aast (j := i) hx hb hK (ws := [(mc, gRow 8 fr3 g)]) (p1 (hg93.kept (hkk _ hg93.lt))) (d1 (Or.inl (Or.inr (Or.inl rfl)))) hS 0 rfl hi (by decide) g6 dX4_put_66 (fun H9 locs hP hD hS hz9 ho9 => ?_)
    have hq6m : q6 ≠ mc := fun e => by have := hg93.lt; dsimp only at this; omega
    have hM9 := hM3.put (i := i) (q := q6) (v := (uN z + 4294967296 * uN y)) (H := H9) (fun x h1 h2 => (ho9 x h2).trans (hkk x h1)) hq6 hpv (g6.kept (ho9 _ hq6m)) (hP 0 _ rfl) (fun j hj => by by_cases e : j = i; exact (by subst e; rw [ups, ups]); exact (by rw [va_up_ne _ _ e, va_up_ne _ _ e]; exact hfr3 j hj))
    obtain ⟨hz9, -, -, -, -, ⟨fr9, hg99, hfr9⟩, hrr9, -⟩ := id hM9
    have hr9 := (hrr9 i hi).1
    have hf9 := hfr9 i hi
    rw [ups] at hr9 hf9
    rw [ups] at hr9
    refine lv_aload_n hx hb dX4_put_67 rfl (lv_at hl 2 rfl) ?_
    refine va_get (ci := 5) (C := RX4) (T := TX4) (N := 10) (v := .ref mc) hx hb hts (by decide +kernel) hown hK.1 (p1 hz9) 0 rfl rfl 1 (by decide) (hts (.fieldLink RX4 11 "RadixbenchModel" "cells" "[[I") (by decide +kernel)) (fun _ h9 => h9) hmc dX4_put_68 ?_
    refine lv_iload_n hx hb dX4_put_71 rfl (lv_at hl 3 rfl) ?_
    refine w_aald (j := i) hx hb hK hg99 hi (by decide) hf9 dX4_put_72 ?_
    refine cp_S (As := [.ref q6]) (rest := []) C0 hl hK hS hA (c_count l g H9 q6 4 (uN z + 4294967296 * uN y) (by decide) hr9) gX4_put_X4_count rfl ⟨rfl, rfl⟩ (show hd_ok yX4_count 1 from ⟨by decide, by decide, by decide +kernel⟩) ⟨Nat.le_of_ble_eq_true rfl, Nat.le_of_ble_eq_true rfl⟩ rfl (Nat.le_of_ble_eq_true rfl) ⟨by decide, by decide⟩ dX4_put_73 (fun locs hS => ?_)
    refine W.widen (k := 3) (n := 12) (by decide) (by decide) ?_
    exact rt_ni (mu := zM z0 mc lf dg) C0 rfl ⟨_, _, _, Or.inl ⟨i, hi, rfl, rfl, rfl, rfl⟩, hM9⟩ hS rfl dX4_put_76
  · skip
    refine lv_aload_n hx hb dX4_put_12 rfl (lv_at hl 0 rfl) ?_
    refine lv_iconst (v := nI 1) hx hb dX4_put_13 (by decide) ?_
    refine cn_V (As := [.int (nI 1)]) (rest := []) C0 hl hK hS hA (fun z h => Or.inl h) (c_refuse l g H1 z0 mc lf dg _ rr V hM1 (nI 1)) gX4_put_X4_refuse rfl ⟨rfl, rfl⟩ ((va_recv hK.1 (p1 hz1) (ci := 5) (q0 := 0) rfl rfl)) ⟨rfl, (show hd_ok yX4_refuse 1 from ⟨by decide, by decide, by decide +kernel⟩)⟩ ⟨Nat.le_of_ble_eq_true rfl, Nat.le_of_ble_eq_true rfl⟩ rfl (Nat.le_of_ble_eq_true rfl) ⟨by decide, by decide⟩ dX4_put_14 (fun r1 H2 locs hv hzz hk2 hS => ?_)
    obtain ⟨fs2, rr2, V2, ⟨rfl, rfl, rfl⟩, hM2⟩ := hv
    refine W.widen (k := 3) (n := 12) (by decide) (by decide) ?_
    exact rt_ni (mu := zM z0 mc lf dg) C0 rfl ⟨_, _, _, Or.inr ⟨fun z => of_decide_eq_false (bI_0 h1) z, rfl, List.set_set _, rfl⟩, hM2⟩ hS rfl dX4_put_17
abbrev rmX4_countNow : Room := { frames := 3, cells := 1, slots := 4, locals := 66 }
set_option maxHeartbeats 4000000 in
set_option maxRecDepth 100000 in
/-- countNow(cell, what, isInt): that it ends -/
theorem c_countNow (l : Launch) (g : Gx) (H0 : Heap) (z0 mc lf dg : Nat) (fs : List Value) (rr V : Nat → Nat) (hM : MD g H0 z0 mc lf dg fs rr V) (i : Nat) (hi : i < 8) (y : Int32) (zi : Bool) : Met l yX4_countNow wsX4_countNow rmX4_countNow (va_Pc [.ref z0, .int (nI i), .int y, .int (bI zi)] (hB g H0)) (nQ H0 (fun _ => False) (fun r _ => ∃ t : Int32, r = some (.int t))) 1 4 (fun q => False ∨ H0.size ≤ q) := by
  refine cx_met (own := RX4) (cc := cX4_countNow) (maxL := 5) (by decide) rfl rfl (Nat.le_of_ble_eq_true rfl) ?_
  intro p e s m below meth c ls C0 hB0 hnm hl
  obtain ⟨hH, hK⟩ := hB0
  obtain ⟨hx, hb, hr, hml, hown, hts, hlk⟩ := id C0
  subst hH
  have hS : va_S (fun q => False ∨ s.heap.size ≤ q) s.heap s.heap [] := va_S.rf
  have hA : ∀ q : Nat, s.heap.size ≤ q → (fun q => False ∨ s.heap.size ≤ q) q := fun q h => Or.inr h
  have hl : lv_has ls 5 [(0, .ref z0), (1, .int (nI i)), (2, .int y), (3, .int (bI zi))] := hl
  obtain ⟨hz, hfl, hmc, hdg, hlf, ⟨fr, hg9, hfr⟩, hrr, -, -, -⟩ := id hM
  refine lv_aload_n hx hb dX4_countNow_0 rfl (lv_at hl 0 rfl) ?_
  refine lv_iload_n hx hb dX4_countNow_1 rfl (lv_at hl 1 rfl) ?_
  refine lv_iload_n hx hb dX4_countNow_2 rfl (lv_at hl 3 rfl) ?_
  refine cn_V (As := [.int (nI i), .int (bI zi)]) (rest := []) C0 hl hK hS hA (fun z h => absurd h (fun z => z)) (c_of l g s.heap z0 mc i (rr i) (V i) zi _ fr hz hmc hg9 (hfr i hi) hi (hrr i hi).1) gX4_countNow_X4_of rfl ⟨rfl, rfl⟩ ((va_recv hK.1 (p1 hz) (ci := 5) (q0 := 0) rfl rfl)) ⟨rfl, (show hd_ok yX4_of 2 from ⟨by decide, by decide, by decide +kernel⟩)⟩ ⟨Nat.le_of_ble_eq_true rfl, Nat.le_of_ble_eq_true rfl⟩ rfl (Nat.le_of_ble_eq_true rfl) ⟨by decide, by decide⟩ dX4_countNow_3 (fun r1 H2 locs hv hzz hk2 hS => ?_)
  obtain ⟨q1, rfl, hq1, g1⟩ := hv
  have hu : (V i % 65536 ^ nP zi) < 65536 ^ nP zi := Nat.mod_lt _ (Nat.pow_pos (by decide))
  have g1 : va_at g.1 vwCl (q1, .inl (g.2 0, nP zi, .inl (rw16 (V i % 65536 ^ nP zi)))) H2 := g1
  have hN : nP zi < 1000 := by rcases nP_or zi with h | h <;> omega
  refine lv_astore (lv' := [(4, .ref q1), (0, .ref z0), (1, .int (nI i)), (2, .int y), (3, .int (bI zi))]) hx hb dX4_countNow_6 hl (by decide) rfl (fun ls hl => ?_)
  refine lv_iload_n hx hb dX4_countNow_8 rfl (lv_at hl 3 rfl) ?_
  rcases Int.lt_or_le y.toInt 0 with e0 | e0
  · skip
    refine lv_tableOut (tgt := 80) (h := Or.inl e0) (ht := by decide) hx hb dX4_countNow_9 ?_
    refine lv_aload hx hb dX4_countNow_80 (lv_at hl 0 rfl) ?_
    refine cp_S (As := [.ref q1]) (rest := []) C0 hl hK hS hA (c_isZero l g H2 q1 (nP zi) (V i % 65536 ^ nP zi) hN hu g1) gX4_countNow_X4_isZero rfl ⟨rfl, rfl⟩ (show hd_ok yX4_isZero 1 from ⟨by decide, by decide, by decide +kernel⟩) ⟨Nat.le_of_ble_eq_true rfl, Nat.le_of_ble_eq_true rfl⟩ rfl (Nat.le_of_ble_eq_true rfl) ⟨by decide, by decide⟩ dX4_countNow_82 (fun locs hS => ?_)
    refine lv_if_eq (tgt := 92) hx hb dX4_countNow_85 (by decide) (fun h3 => ?_) (fun h3 => ?_)
    · skip
      refine lv_aload hx hb dX4_countNow_92 (lv_at hl 0 rfl) ?_
      refine cp_S (As := [.ref q1]) (rest := []) C0 hl hK hS hA (c_isNegative l g H2 q1 (nP zi - 1) (V i % 65536 ^ nP zi) (by omega) (by rw [nP_pred]; exact hu) (by rw [nP_pred]; exact g1)) gX4_countNow_X4_isNegative rfl ⟨rfl, rfl⟩ (show hd_ok yX4_isNegative 1 from ⟨by decide, by decide, by decide +kernel⟩) ⟨Nat.le_of_ble_eq_true rfl, Nat.le_of_ble_eq_true rfl⟩ rfl (Nat.le_of_ble_eq_true rfl) ⟨by decide, by decide⟩ dX4_countNow_94 (fun locs hS => ?_)
      refine lv_if_eq (tgt := 104) hx hb dX4_countNow_97 (by decide) (fun h4 => ?_) (fun h4 => ?_)
      · skip
        refine lv_iconst (v := nI 1) hx hb dX4_countNow_104 (by decide) ?_
        exact rt_ni (mu := fun _ => False) C0 rfl ⟨_, rfl⟩ hS rfl dX4_countNow_105
      · skip
        refine lv_iconst (v := (-1)) hx hb dX4_countNow_100 (by decide) ?_
        refine lv_goto (tgt := 105) hx hb dX4_countNow_101 (by decide) ?_
        exact rt_ni (mu := fun _ => False) C0 rfl ⟨_, rfl⟩ hS rfl dX4_countNow_105
    · skip
      refine lv_iconst (v := nI 0) hx hb dX4_countNow_88 (by decide) ?_
      refine lv_goto (tgt := 105) hx hb dX4_countNow_89 (by decide) ?_
      exact rt_ni (mu := fun _ => False) C0 rfl ⟨_, rfl⟩ hS rfl dX4_countNow_105
  · skip
    rcases Int.lt_or_le 2 y.toInt with e2 | e2
    · skip
      refine lv_tableOut (tgt := 80) (h := Or.inr e2) (ht := by decide) hx hb dX4_countNow_9 ?_
      refine lv_aload hx hb dX4_countNow_80 (lv_at hl 0 rfl) ?_
      refine cp_S (As := [.ref q1]) (rest := []) C0 hl hK hS hA (c_isZero l g H2 q1 (nP zi) (V i % 65536 ^ nP zi) hN hu g1) gX4_countNow_X4_isZero rfl ⟨rfl, rfl⟩ (show hd_ok yX4_isZero 1 from ⟨by decide, by decide, by decide +kernel⟩) ⟨Nat.le_of_ble_eq_true rfl, Nat.le_of_ble_eq_true rfl⟩ rfl (Nat.le_of_ble_eq_true rfl) ⟨by decide, by decide⟩ dX4_countNow_82 (fun locs hS => ?_)
      refine lv_if_eq (tgt := 92) hx hb dX4_countNow_85 (by decide) (fun h3 => ?_) (fun h3 => ?_)
      · skip
        refine lv_aload hx hb dX4_countNow_92 (lv_at hl 0 rfl) ?_
        refine cp_S (As := [.ref q1]) (rest := []) C0 hl hK hS hA (c_isNegative l g H2 q1 (nP zi - 1) (V i % 65536 ^ nP zi) (by omega) (by rw [nP_pred]; exact hu) (by rw [nP_pred]; exact g1)) gX4_countNow_X4_isNegative rfl ⟨rfl, rfl⟩ (show hd_ok yX4_isNegative 1 from ⟨by decide, by decide, by decide +kernel⟩) ⟨Nat.le_of_ble_eq_true rfl, Nat.le_of_ble_eq_true rfl⟩ rfl (Nat.le_of_ble_eq_true rfl) ⟨by decide, by decide⟩ dX4_countNow_94 (fun locs hS => ?_)
        refine lv_if_eq (tgt := 104) hx hb dX4_countNow_97 (by decide) (fun h4 => ?_) (fun h4 => ?_)
        · skip
          refine lv_iconst (v := nI 1) hx hb dX4_countNow_104 (by decide) ?_
          exact rt_ni (mu := fun _ => False) C0 rfl ⟨_, rfl⟩ hS rfl dX4_countNow_105
        · skip
          refine lv_iconst (v := (-1)) hx hb dX4_countNow_100 (by decide) ?_
          refine lv_goto (tgt := 105) hx hb dX4_countNow_101 (by decide) ?_
          exact rt_ni (mu := fun _ => False) C0 rfl ⟨_, rfl⟩ hS rfl dX4_countNow_105
      · skip
        refine lv_iconst (v := nI 0) hx hb dX4_countNow_88 (by decide) ?_
        refine lv_goto (tgt := 105) hx hb dX4_countNow_89 (by decide) ?_
        exact rt_ni (mu := fun _ => False) C0 rfl ⟨_, rfl⟩ hS rfl dX4_countNow_105
    · skip
      have e3 : y.toInt = 0 ∨ y.toInt = 1 ∨ y.toInt = 2 := by omega
      rcases e3 with e3 | e3 | e3
      · skip
        refine lv_tableIn (tgt := 36) (off := 27) (h1 := by omega) (h2 := by omega) (ho := by rw [e3]; rfl) (ht := by decide) hx hb dX4_countNow_9 ?_
        refine lv_aload hx hb dX4_countNow_36 (lv_at hl 0 rfl) ?_
        refine cp_S (As := [.ref q1]) (rest := []) C0 hl hK hS hA (c_count l g H2 q1 (nP zi) (V i % 65536 ^ nP zi) hN g1) gX4_countNow_X4_count rfl ⟨rfl, rfl⟩ (show hd_ok yX4_count 1 from ⟨by decide, by decide, by decide +kernel⟩) ⟨Nat.le_of_ble_eq_true rfl, Nat.le_of_ble_eq_true rfl⟩ rfl (Nat.le_of_ble_eq_true rfl) ⟨by decide, by decide⟩ dX4_countNow_38 (fun locs hS => ?_)
        exact rt_ni (mu := fun _ => False) C0 rfl ⟨_, rfl⟩ hS rfl dX4_countNow_41
      · skip
        refine lv_tableIn (tgt := 42) (off := 33) (h1 := by omega) (h2 := by omega) (ho := by rw [e3]; rfl) (ht := by decide) hx hb dX4_countNow_9 ?_
        refine lv_aload hx hb dX4_countNow_42 (lv_at hl 0 rfl) ?_
        refine cp_S (As := [.ref q1]) (rest := []) C0 hl hK hS hA (c_bits l g H2 q1 (nP zi) _ g1) gX4_countNow_X4_bits rfl ⟨rfl, rfl⟩ (show hd_ok yX4_bits 1 from ⟨by decide, by decide, by decide +kernel⟩) ⟨Nat.le_of_ble_eq_true rfl, Nat.le_of_ble_eq_true rfl⟩ rfl (Nat.le_of_ble_eq_true rfl) ⟨by decide, by decide⟩ dX4_countNow_44 (fun locs hS => ?_)
        refine lv_iconst (v := nI 1) hx hb dX4_countNow_47 (by decide) ?_
        refine lv_isub hx hb dX4_countNow_48 ?_
        refine lv_aload hx hb dX4_countNow_49 (lv_at hl 0 rfl) ?_
        refine lv_iconst (v := nI 1) hx hb dX4_countNow_51 (by decide) ?_
        refine tp_i (y := bI true) (rfl) ?_
        refine cp_S (As := [.ref q1, .int (bI true)]) (rest := [.int ((nI (16 * nP zi)) - (nI 1))]) C0 hl hK hS hA (c_one l g H2 q1 (nP zi) (V i % 65536 ^ nP zi) true hN g1) gX4_countNow_X4_one rfl ⟨rfl, rfl⟩ (show hd_ok yX4_one 2 from ⟨by decide, by decide, by decide +kernel⟩) ⟨Nat.le_of_ble_eq_true rfl, Nat.le_of_ble_eq_true rfl⟩ rfl (Nat.le_of_ble_eq_true rfl) ⟨by decide, by decide⟩ dX4_countNow_52 (fun locs hS => ?_)
        refine lv_isub hx hb dX4_countNow_55 ?_
        exact rt_ni (mu := fun _ => False) C0 rfl ⟨_, rfl⟩ hS rfl dX4_countNow_56
      · skip
        refine lv_tableIn (tgt := 57) (off := 48) (h1 := by omega) (h2 := by omega) (ho := by rw [e3]; rfl) (ht := by decide) hx hb dX4_countNow_9 ?_
        refine lv_aload hx hb dX4_countNow_57 (lv_at hl 0 rfl) ?_
        refine cp_S (As := [.ref q1]) (rest := []) C0 hl hK hS hA (c_isZero l g H2 q1 (nP zi) (V i % 65536 ^ nP zi) hN hu g1) gX4_countNow_X4_isZero rfl ⟨rfl, rfl⟩ (show hd_ok yX4_isZero 1 from ⟨by decide, by decide, by decide +kernel⟩) ⟨Nat.le_of_ble_eq_true rfl, Nat.le_of_ble_eq_true rfl⟩ rfl (Nat.le_of_ble_eq_true rfl) ⟨by decide, by decide⟩ dX4_countNow_59 (fun locs hS => ?_)
        refine lv_if_eq (tgt := 73) hx hb dX4_countNow_62 (by decide) (fun h3 => ?_) (fun h3 => ?_)
        · skip
          refine lv_aload hx hb dX4_countNow_73 (lv_at hl 0 rfl) ?_
          refine lv_iconst (v := nI 0) hx hb dX4_countNow_75 (by decide) ?_
          refine tp_i (y := bI false) (rfl) ?_
          refine cp_S (As := [.ref q1, .int (bI false)]) (rest := []) C0 hl hK hS hA (c_one l g H2 q1 (nP zi) (V i % 65536 ^ nP zi) false hN g1) gX4_countNow_X4_one rfl ⟨rfl, rfl⟩ (show hd_ok yX4_one 2 from ⟨by decide, by decide, by decide +kernel⟩) ⟨Nat.le_of_ble_eq_true rfl, Nat.le_of_ble_eq_true rfl⟩ rfl (Nat.le_of_ble_eq_true rfl) ⟨by decide, by decide⟩ dX4_countNow_76 (fun locs hS => ?_)
          exact rt_ni (mu := fun _ => False) C0 rfl ⟨_, rfl⟩ hS rfl dX4_countNow_79
        · skip
          refine lv_aload hx hb dX4_countNow_65 (lv_at hl 0 rfl) ?_
          refine cp_S (As := [.ref q1]) (rest := []) C0 hl hK hS hA (c_bits l g H2 q1 (nP zi) _ g1) gX4_countNow_X4_bits rfl ⟨rfl, rfl⟩ (show hd_ok yX4_bits 1 from ⟨by decide, by decide, by decide +kernel⟩) ⟨Nat.le_of_ble_eq_true rfl, Nat.le_of_ble_eq_true rfl⟩ rfl (Nat.le_of_ble_eq_true rfl) ⟨by decide, by decide⟩ dX4_countNow_67 (fun locs hS => ?_)
          refine lv_goto (tgt := 79) hx hb dX4_countNow_70 (by decide) ?_
          exact rt_ni (mu := fun _ => False) C0 rfl ⟨_, rfl⟩ hS rfl dX4_countNow_79
abbrev rmX4_count_ : Room := { frames := 4, cells := 1, slots := 4, locals := 90 }
set_option maxHeartbeats 4000000 in
set_option maxRecDepth 100000 in
/-- count(cell, what, isInt): that it ends -/
theorem c_count_ (l : Launch) (g : Gx) (H0 : Heap) (z0 mc lf dg : Nat) (fs : List Value) (rr V : Nat → Nat) (hM : MD g H0 z0 mc lf dg fs rr V) (x y : Int32) (zi : Bool) : Met l yX4_count_ wsX4_count_ rmX4_count_ (va_Pc [.ref z0, .int x, .int y, .int (bI zi)] (hB g H0)) (nQ H0 (zM z0 mc lf dg) (zQ g z0 mc lf dg (fun r fs2 V2 => (∃ y : Int32, r = some (.int y)) ∧ (∃ t : Int32, fs2 = fs.set 0 (.int t)) ∧ V2 = V))) 1 4 (fun q => zM z0 mc lf dg q ∨ H0.size ≤ q) := by
  refine cx_met (own := RX4) (cc := cX4_count_) (maxL := 4) (by decide) rfl rfl (Nat.le_of_ble_eq_true rfl) ?_
  intro p e s m below meth c ls C0 hB0 hnm hl
  obtain ⟨hH, hK⟩ := hB0
  obtain ⟨hx, hb, hr, hml, hown, hts, hlk⟩ := id C0
  subst hH
  have hS : va_S (fun q => zM z0 mc lf dg q ∨ s.heap.size ≤ q) s.heap s.heap [] := va_S.rf
  have hA : ∀ q : Nat, s.heap.size ≤ q → (fun q => zM z0 mc lf dg q ∨ s.heap.size ≤ q) q := fun q h => Or.inr h
  have hl : lv_has ls 4 [(0, .ref z0), (1, .int x), (2, .int y), (3, .int (bI zi))] := hl
  obtain ⟨hz, hfl, -⟩ := id hM
  refine lv_aload_n hx hb dX4_count__0 rfl (lv_at hl 0 rfl) ?_
  refine lv_iconst (v := nI 0) hx hb dX4_count__1 (by decide) ?_
  refine w_putf (ci := 5) (C := RX4) (T := TX4) (N := 10) (ty := .int) hx hb hts (by decide +kernel) tyX4 tyX4_ok nmX4 hown hK hS hz (Or.inl (Or.inl rfl)) rfl 0 (by decide) (hts (.fieldLink RX4 27 "RadixbenchModel" "thrown" "I") (by decide +kernel)) (fun _ h9 => h9) rfl (by decide +kernel) rfl rfl (by rw [hfl]; decide) dX4_count__2 (fun H1 locs hz1 hs1 ho1 hS => ?_)
  have hM1 := hM.fset (by decide) (by decide) (by decide) ho1 hz1
  obtain ⟨-, hfl1, hmc, hdg, hlf, ⟨fr, hg9, hfr⟩, hrr, -, -, -⟩ := id hM1
  refine lv_iload_n hx hb dX4_count__5 rfl (lv_at hl 1 rfl) ?_
  refine cp_S (As := [.int x]) (rest := []) C0 hl hK hS hA (c_isCell l g H1 x) gX4_count__X4_isCell rfl ⟨rfl, rfl⟩ (show hd_ok yX4_isCell 1 from ⟨by decide, by decide, by decide +kernel⟩) ⟨Nat.le_of_ble_eq_true rfl, Nat.le_of_ble_eq_true rfl⟩ rfl (Nat.le_of_ble_eq_true rfl) ⟨by decide, by decide⟩ dX4_count__6 (fun locs hS => ?_)
  refine lv_if_ne (tgt := 18) hx hb dX4_count__9 (by decide) (fun h1 => ?_) (fun h1 => ?_)
  · skip
    obtain ⟨i, hi, rfl⟩ := cell_of (of_decide_eq_true (bI_n0 h1))
    refine lv_iload_n hx hb dX4_count__18 rfl (lv_at hl 2 rfl) ?_
    refine lv_iconst (v := nI 0) hx hb dX4_count__19 (by decide) ?_
    refine lv_iconst (v := nI 3) hx hb dX4_count__20 (by decide) ?_
    refine cp_S (As := [.int y, .int (nI 0), .int (nI 3)]) (rest := []) C0 hl hK hS hA (c_is l g H1 y (nI 0) (nI 3)) gX4_count__X4_is rfl ⟨rfl, rfl⟩ (show hd_ok yX4_is 3 from ⟨by decide, by decide, by decide +kernel⟩) ⟨Nat.le_of_ble_eq_true rfl, Nat.le_of_ble_eq_true rfl⟩ rfl (Nat.le_of_ble_eq_true rfl) ⟨by decide, by decide⟩ dX4_count__21 (fun locs hS => ?_)
    refine lv_if_eq (tgt := 37) hx hb dX4_count__24 (by decide) (fun h2 => ?_) (fun h2 => ?_)
    · skip
      refine lv_aload_n hx hb dX4_count__37 rfl (lv_at hl 0 rfl) ?_
      refine lv_iconst (v := nI 2) hx hb dX4_count__38 (by decide) ?_
      refine cn_V (As := [.int (nI 2)]) (rest := []) C0 hl hK hS hA (fun z h => Or.inl h) (c_refuse l g H1 z0 mc lf dg _ rr V hM1 (nI 2)) gX4_count__X4_refuse rfl ⟨rfl, rfl⟩ ((va_recv hK.1 (p1 hz1) (ci := 5) (q0 := 0) rfl rfl)) ⟨rfl, (show hd_ok yX4_refuse 1 from ⟨by decide, by decide, by decide +kernel⟩)⟩ ⟨Nat.le_of_ble_eq_true rfl, Nat.le_of_ble_eq_true rfl⟩ rfl (Nat.le_of_ble_eq_true rfl) ⟨by decide, by decide⟩ dX4_count__39 (fun r1 H2 locs hv hzz hk2 hS => ?_)
      obtain ⟨fs2, rr2, V2, ⟨rfl, rfl, rfl⟩, hM2⟩ := hv
      refine W.widen (k := 1) (n := 4) (by decide) (by decide) ?_
      exact rt_ni (mu := zM z0 mc lf dg) C0 rfl ⟨_, _, _, ⟨⟨_, rfl⟩, ⟨_, List.set_set _⟩, rfl⟩, hM2⟩ hS rfl dX4_count__42
    · skip
      refine lv_aload_n hx hb dX4_count__27 rfl (lv_at hl 0 rfl) ?_
      refine lv_iload_n hx hb dX4_count__28 rfl (lv_at hl 1 rfl) ?_
      refine lv_iload_n hx hb dX4_count__29 rfl (lv_at hl 2 rfl) ?_
      refine lv_iload_n hx hb dX4_count__30 rfl (lv_at hl 3 rfl) ?_
      refine cn_V (As := [.int (nI i), .int y, .int (bI zi)]) (rest := []) C0 hl hK hS hA (fun z h => absurd h (fun z => z)) (c_countNow l g H1 z0 mc lf dg _ rr V hM1 i hi y zi) gX4_count__X4_countNow rfl ⟨rfl, rfl⟩ ((va_recv hK.1 (p1 hz1) (ci := 5) (q0 := 0) rfl rfl)) ⟨rfl, (show hd_ok yX4_countNow 3 from ⟨by decide, by decide, by decide +kernel⟩)⟩ ⟨Nat.le_of_ble_eq_true rfl, Nat.le_of_ble_eq_true rfl⟩ rfl (Nat.le_of_ble_eq_true rfl) ⟨by decide, by decide⟩ dX4_count__31 (fun r1 H2 locs hv hzz hk2 hS => ?_)
      obtain ⟨t1, rfl⟩ := hv
      have hM2 := hM1.same (fun q h => hk2 q h (fun z => z))
      refine lv_goto (tgt := 42) hx hb dX4_count__34 (by decide) ?_
      exact rt_ni (mu := zM z0 mc lf dg) C0 rfl ⟨_, _, _, ⟨⟨_, rfl⟩, ⟨_, rfl⟩, rfl⟩, hM2⟩ hS rfl dX4_count__42
  · skip
    refine lv_aload_n hx hb dX4_count__12 rfl (lv_at hl 0 rfl) ?_
    refine lv_iconst (v := nI 1) hx hb dX4_count__13 (by decide) ?_
    refine cn_V (As := [.int (nI 1)]) (rest := []) C0 hl hK hS hA (fun z h => Or.inl h) (c_refuse l g H1 z0 mc lf dg _ rr V hM1 (nI 1)) gX4_count__X4_refuse rfl ⟨rfl, rfl⟩ ((va_recv hK.1 (p1 hz1) (ci := 5) (q0 := 0) rfl rfl)) ⟨rfl, (show hd_ok yX4_refuse 1 from ⟨by decide, by decide, by decide +kernel⟩)⟩ ⟨Nat.le_of_ble_eq_true rfl, Nat.le_of_ble_eq_true rfl⟩ rfl (Nat.le_of_ble_eq_true rfl) ⟨by decide, by decide⟩ dX4_count__14 (fun r1 H2 locs hv hzz hk2 hS => ?_)
    obtain ⟨fs2, rr2, V2, ⟨rfl, rfl, rfl⟩, hM2⟩ := hv
    refine W.widen (k := 1) (n := 4) (by decide) (by decide) ?_
    exact rt_ni (mu := zM z0 mc lf dg) C0 rfl ⟨_, _, _, ⟨⟨_, rfl⟩, ⟨_, List.set_set _⟩, rfl⟩, hM2⟩ hS rfl dX4_count__17
end M40

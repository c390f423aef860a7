-- the model's public calls: divide, rest
theorem dc_195 {n u v : Nat} (h : n = 2 ∨ n = 4) : dcost (16 * n) u v 0 ≤ 195 := by
  rw [dc_0]
  have h1 := pcN_le (u / v) (16 * n)
  omega
theorem fau_ok {x y : Int32} {zi : Bool} {V : Nat → Nat} {t : Int32} (h : fauQ x y zi V t) (h1 : t ≤ 0) : ∃ i j : Nat, i < 8 ∧ j < 8 ∧ x = nI i ∧ y = nI j ∧ 0 < V j % 65536 ^ nP zi ∧ t = nI 0 := by
  rcases h with ⟨-, rfl⟩ | ⟨i, j, hi, hj, rfl, rfl, rfl⟩
  · exact absurd h1 (by decide)
  · by_cases e : V j % 65536 ^ nP zi = 0
    · rw [if_pos e] at h1
      exact absurd h1 (by decide)
    · exact ⟨i, j, hi, hj, rfl, rfl, Nat.pos_of_ne_zero e, if_neg e⟩
section M32
variable {p : Program} {l : Launch} {e : Env} {s : State} {m : MethodId} {args : Array Value} {below : List Frame} {meth : Method} {c : Code} {H H0 : Heap} {locs : List Loc} {cells slots : Nat} {Q : State → Prop} {A : Nat → Prop} {g : Gx}
abbrev rmX4_divide : Room := { frames := 4, cells := 199, slots := 796, locals := 90 }
set_option maxHeartbeats 4000000 in
set_option maxRecDepth 100000 in
/-- divide(own, by, isInt) -/
theorem c_divide (l : Launch) (g : Gx) (H0 : Heap) (z0 mc lf dg : Nat) (fs : List Value) (rr V : Nat → Nat) (hM : MD g H0 z0 mc lf dg fs rr V) (x y : Int32) (zi : Bool) : Met l yX4_divide wsX4_divide rmX4_divide (va_Pc [.ref z0, .int x, .int y, .int (bI zi)] (hB g H0)) (nQ H0 (zM z0 mc lf dg) (zQ g z0 mc lf dg (fun r fs2 V2 => (∃ i j : Nat, i < 8 ∧ j < 8 ∧ x = nI i ∧ y = nI j ∧ 0 < V j % 65536 ^ nP zi ∧ r = some (.int (bI (!decide ((V i % 65536 ^ nP zi) % (V j % 65536 ^ nP zi) = 0)))) ∧ V2 = va_up V i (wideN (nP zi) ((V i % 65536 ^ nP zi) / (V j % 65536 ^ nP zi))) ∧ fs2 = fs.set 0 (.int (nI 0))) ∨ (∃ t : Int32, ¬ t ≤ 0 ∧ fauQ x y zi V t ∧ r = some (.int (nI 0)) ∧ fs2 = fs.set 0 (.int t) ∧ V2 = V)))) 199 796 (fun q => zM z0 mc lf dg q ∨ H0.size ≤ q) := by
  refine cx_met (own := RX4) (cc := cX4_divide) (maxL := 5) (by decide) rfl rfl (Nat.le_of_ble_eq_true rfl) ?_
  intro p e s m below meth c ls C0 hB0 hnm hl
  obtain ⟨hH, hK⟩ := hB0
  obtain ⟨hx, hb, hr, hml, hown, hts, hlk⟩ := id C0
  subst hH
  have hS : va_S (fun q => zM z0 mc lf dg q ∨ s.heap.size ≤ q) s.heap s.heap [] := va_S.rf
  have hA : ∀ q : Nat, s.heap.size ≤ q → (fun q => zM z0 mc lf dg q ∨ s.heap.size ≤ q) q := fun q h => Or.inr h
  have hl : lv_has ls 5 [(0, .ref z0), (1, .int x), (2, .int y), (3, .int (bI zi))] := hl
  obtain ⟨hz, hfl, -⟩ := id hM
  refine lv_aload_n hx hb dX4_divide_0 rfl (lv_at hl 0 rfl) ?_
  refine lv_aload_n hx hb dX4_divide_1 rfl (lv_at hl 0 rfl) ?_
  refine lv_iload_n hx hb dX4_divide_2 rfl (lv_at hl 1 rfl) ?_
  refine lv_iload_n hx hb dX4_divide_3 rfl (lv_at hl 2 rfl) ?_
  refine lv_iload_n hx hb dX4_divide_4 rfl (lv_at hl 3 rfl) ?_
  refine cn_V (As := [.int x, .int y, .int (bI zi)]) (rest := [.ref z0]) C0 hl hK hS hA (fun z h => absurd h (fun z => z)) (c_faultOf l g s.heap z0 mc lf dg fs rr V hM x y zi) gX4_divide_X4_faultOf rfl ⟨rfl, rfl⟩ ((va_recv hK.1 (p1 hz) (ci := 5) (q0 := 0) rfl rfl)) ⟨rfl, (show hd_ok yX4_faultOf 3 from ⟨by decide, by decide, by decide +kernel⟩)⟩ ⟨Nat.le_of_ble_eq_true rfl, Nat.le_of_ble_eq_true rfl⟩ rfl (Nat.le_of_ble_eq_true rfl) ⟨by decide, by decide⟩ dX4_divide_5 (fun r1 H1 locs hv hzz hk1 hS => ?_)
  obtain ⟨t, rfl, hf9⟩ := hv
  have hM1 : MD g H1 z0 mc lf dg fs rr V := hM.same (fun q h => hk1 q h (fun z => z))
  obtain ⟨hz1, -⟩ := id hM1
  refine w_putf (ci := 5) (C := RX4) (T := TX4) (N := 10) (ty := .int) hx hb hts (by decide +kernel) tyX4 tyX4_ok nmX4 hown hK hS hz1 (Or.inl (Or.inl rfl)) rfl 0 (by decide) (hts (.fieldLink RX4 27 "RadixbenchModel" "thrown" "I") (by decide +kernel)) (fun _ h9 => h9) rfl (by decide +kernel) rfl rfl (by rw [hfl]; decide) dX4_divide_8 (fun H2 locs hz2 hs2 ho2 hS => ?_)
  have hM2 := hM1.fset (by decide) (by decide) (by decide) ho2 hz2
  obtain ⟨-, hfl2, hmc, hdg, hlf, ⟨fr, hg9, hfr⟩, hrr, -, -, -⟩ := id hM2
  refine lv_aload_n hx hb dX4_divide_11 rfl (lv_at hl 0 rfl) ?_
  refine va_get (ci := 5) (C := RX4) (T := TX4) (N := 10) (v := .int t) hx hb hts (by decide +kernel) hown hK.1 (p1 hz2) 0 rfl rfl 0 (by decide) (hts (.fieldLink RX4 27 "RadixbenchModel" "thrown" "I") (by decide +kernel)) (fun _ h9 => h9) (List.getElem?_set_self (by rw [hfl]; decide)) dX4_divide_12 ?_
  refine lv_if_le (tgt := 20) hx hb dX4_divide_15 (by decide) (fun h1 => ?_) (fun h1 => ?_)
  · skip
    obtain ⟨i, j, hi, hj, rfl, rfl, hv0, rfl⟩ := fau_ok hf9 h1
    refine lv_aload_n hx hb dX4_divide_20 rfl (lv_at hl 0 rfl) ?_
    refine lv_iload_n hx hb dX4_divide_21 rfl (lv_at hl 1 rfl) ?_
    refine lv_iload_n hx hb dX4_divide_22 rfl (lv_at hl 3 rfl) ?_
    refine cn_V (As := [.int (nI i), .int (bI zi)]) (rest := []) C0 hl hK hS hA (fun z h => absurd h (fun z => z)) (c_of l g H2 z0 mc i (rr i) (V i) zi _ fr hz2 hmc hg9 (hfr i hi) hi (hrr i hi).1) gX4_divide_X4_of rfl ⟨rfl, rfl⟩ ((va_recv hK.1 (p1 hz2) (ci := 5) (q0 := 0) rfl rfl)) ⟨rfl, (show hd_ok yX4_of 2 from ⟨by decide, by decide, by decide +kernel⟩)⟩ ⟨Nat.le_of_ble_eq_true rfl, Nat.le_of_ble_eq_true rfl⟩ rfl (Nat.le_of_ble_eq_true rfl) ⟨by decide, by decide⟩ dX4_divide_23 (fun r1 H3 locs hv hzz hk3 hS => ?_)
    obtain ⟨q1, rfl, hq1, g1⟩ := hv
    have hM3 := hM2.same (fun q h => hk3 q h (fun z => z))
    obtain ⟨hz3, -, -, -, -, ⟨fr3, hg93, hfr3⟩, hrr3, -⟩ := id hM3
    refine lv_aload_n hx hb dX4_divide_26 rfl (lv_at hl 0 rfl) ?_
    refine lv_iload_n hx hb dX4_divide_27 rfl (lv_at hl 2 rfl) ?_
    refine lv_iload_n hx hb dX4_divide_28 rfl (lv_at hl 3 rfl) ?_
    refine cn_V (As := [.int (nI j), .int (bI zi)]) (rest := [.ref q1]) C0 hl hK hS hA (fun z h => absurd h (fun z => z)) (c_of l g H3 z0 mc j (rr j) (V j) zi _ fr3 hz3 hmc hg93 (hfr3 j hj) hj (hrr3 j hj).1) gX4_divide_X4_of rfl ⟨rfl, rfl⟩ ((va_recv hK.1 (p1 hz3) (ci := 5) (q0 := 0) rfl rfl)) ⟨rfl, (show hd_ok yX4_of 2 from ⟨by decide, by decide, by decide +kernel⟩)⟩ ⟨Nat.le_of_ble_eq_true rfl, Nat.le_of_ble_eq_true rfl⟩ rfl (Nat.le_of_ble_eq_true rfl) ⟨by decide, by decide⟩ dX4_divide_29 (fun r1 H4 locs hv hzz hk4 hS => ?_)
    obtain ⟨q2, rfl, hq2, g2⟩ := hv
    have hM4 := hM3.same (fun q h => hk4 q h (fun z => z))
    obtain ⟨hz4, -, -, -, -, ⟨fr4, hg94, hfr4⟩, hrr4, -⟩ := id hM4
    have g14 := g1.kept (hk4 _ g1.lt (fun z => z))
    refine cn_S (As := [.ref q1, .ref q2]) (rest := []) C0 hl hK hS hA (fun z h => absurd h (fun z => z)) (c_divided l g H4 q1 q2 (nP zi) _ _ 195 (nP_or zi) (Nat.mod_lt _ (Nat.pow_pos (by decide))) (Nat.mod_lt _ (Nat.pow_pos (by decide))) hv0 g14 g2 (dc_195 (nP_or zi))) gX4_divide_X4_divided rfl ⟨rfl, rfl⟩ (show hd_ok yX4_divided 2 from ⟨by decide, by decide, by decide +kernel⟩) ⟨Nat.le_of_ble_eq_true rfl, Nat.le_of_ble_eq_true rfl⟩ rfl (Nat.le_of_ble_eq_true rfl) ⟨by decide, by decide⟩ dX4_divide_32 (fun r1 H5 locs hv hzz hk5 hS => ?_)
    obtain ⟨q3, r0, r1, f, rfl, hq9, hr0, hr1, hf0, hf1, g5, g6, g7⟩ := hv
    have hM5 := hM4.same (fun q h => hk5 q h (fun z => z))
    obtain ⟨hz5, -⟩ := id hM5
    have hmc4 : mc < H4.size := hg94.lt
    refine lv_astore (lv' := [(4, .ref q3), (0, .ref z0), (1, .int (nI i)), (2, .int (nI j)), (3, .int (bI zi))]) hx hb dX4_divide_35 hl (by decide) rfl (fun ls hl => ?_)
    refine lv_aload_n hx hb dX4_divide_37 rfl (lv_at hl 1 rfl) ?_
    refine lv_iload_n hx hb dX4_divide_38 rfl (lv_at hl 2 rfl) ?_
    refine lv_aload hx hb dX4_divide_39 (lv_at hl 0 rfl) ?_
    refine lv_iconst (v := nI 0) hx hb dX4_divide_41 (by decide) ?_
    refine w_aald (j := 0) hx hb hK g5 (by decide) (by decide) hf0 dX4_divide_42 ?_
    refine cn_V (As := [.int (nI i), .ref r0]) (rest := []) C0 hl hK hS hA (fun z h => Or.inl (Or.inr (Or.inl h))) (c_become l g H5 z0 mc lf dg i r0 (nP zi) _ _ rr V hM5 hi (nP_or zi) (Nat.lt_of_le_of_lt (Nat.div_le_self _ _) (Nat.mod_lt _ (Nat.pow_pos (by decide)))) g6) gX4_divide_X4_become rfl ⟨rfl, rfl⟩ ((va_recv hK.1 (p1 hz5) (ci := 5) (q0 := 0) rfl rfl)) ⟨rfl, (show hd_ok yX4_become 2 from ⟨by decide, by decide, by decide +kernel⟩)⟩ ⟨Nat.le_of_ble_eq_true rfl, Nat.le_of_ble_eq_true rfl⟩ rfl (Nat.le_of_ble_eq_true rfl) ⟨by decide, by decide⟩ dX4_divide_43 (fun r1 H6 locs hv hzz hk6 hS => ?_)
    obtain ⟨q9, hq9, rfl, hM6⟩ := hv
    have g56 := g5.kept (hk6 _ g5.lt (fun z => by omega))
    have g76 := g7.kept (hk6 _ g7.lt (fun z => by omega))
    refine lv_pop hx hb dX4_divide_46 rfl ?_
    refine lv_aload hx hb dX4_divide_47 (lv_at hl 0 rfl) ?_
    refine lv_iconst (v := nI 1) hx hb dX4_divide_49 (by decide) ?_
    refine w_aald (j := 1) hx hb hK g56 (by decide) (by decide) hf1 dX4_divide_50 ?_
    refine cp_S (As := [.ref r1]) (rest := []) C0 hl hK hS hA (c_isZero l g H6 r1 (nP zi) _ (by rcases nP_or zi with h | h <;> omega) (Nat.lt_of_le_of_lt (Nat.mod_le _ _) (Nat.mod_lt _ (Nat.pow_pos (by decide)))) g76) gX4_divide_X4_isZero rfl ⟨rfl, rfl⟩ (show hd_ok yX4_isZero 1 from ⟨by decide, by decide, by decide +kernel⟩) ⟨Nat.le_of_ble_eq_true rfl, Nat.le_of_ble_eq_true rfl⟩ rfl (Nat.le_of_ble_eq_true rfl) ⟨by decide, by decide⟩ dX4_divide_51 (fun locs hS => ?_)
    refine lv_if_ne (tgt := 61) hx hb dX4_divide_54 (by decide) (fun h2 => ?_) (fun h2 => ?_)
    · skip
      refine lv_iconst (v := nI 0) hx hb dX4_divide_61 (by decide) ?_
      exact rt_ni (mu := zM z0 mc lf dg) C0 rfl ⟨_, _, _, Or.inl ⟨i, j, hi, hj, rfl, rfl, hv0, by rw [decide_eq_true (of_decide_eq_true (bI_n0 h2))]; rfl, rfl, rfl⟩, hM6⟩ hS rfl dX4_divide_62
    · skip
      refine lv_iconst (v := nI 1) hx hb dX4_divide_57 (by decide) ?_
      refine lv_goto (tgt := 62) hx hb dX4_divide_58 (by decide) ?_
      exact rt_ni (mu := zM z0 mc lf dg) C0 rfl ⟨_, _, _, Or.inl ⟨i, j, hi, hj, rfl, rfl, hv0, by rw [decide_eq_false (of_decide_eq_false (bI_0 h2))]; rfl, rfl, rfl⟩, hM6⟩ hS rfl dX4_divide_62
  · skip
    refine W.widen (k := 199) (n := 796) (by decide) (by decide) ?_
    refine lv_iconst (v := nI 0) hx hb dX4_divide_18 (by decide) ?_
    exact rt_ni (mu := zM z0 mc lf dg) C0 rfl ⟨_, _, _, Or.inr ⟨t, h1, hf9, rfl, rfl, rfl⟩, hM2⟩ hS rfl dX4_divide_19
abbrev rmX4_rest : Room := { frames := 4, cells := 199, slots := 796, locals := 90 }
set_option maxHeartbeats 4000000 in
set_option maxRecDepth 100000 in
/-- rest(own, by, isInt) -/
theorem c_rest (l : Launch) (g : Gx) (H0 : Heap) (z0 mc lf dg : Nat) (fs : List Value) (rr V : Nat → Nat) (hM : MD g H0 z0 mc lf dg fs rr V) (x y : Int32) (zi : Bool) : Met l yX4_rest wsX4_rest rmX4_rest (va_Pc [.ref z0, .int x, .int y, .int (bI zi)] (hB g H0)) (nQ H0 (zM z0 mc lf dg) (zQ g z0 mc lf dg (fun r fs2 V2 => (∃ i j : Nat, i < 8 ∧ j < 8 ∧ x = nI i ∧ y = nI j ∧ 0 < V j % 65536 ^ nP zi ∧ r = some (.int (bI (decide ((V i % 65536 ^ nP zi) % (V j % 65536 ^ nP zi) = 0)))) ∧ V2 = va_up V i (wideN (nP zi) ((V i % 65536 ^ nP zi) % (V j % 65536 ^ nP zi))) ∧ fs2 = fs.set 0 (.int (nI 0))) ∨ (∃ t : Int32, ¬ t ≤ 0 ∧ fauQ x y zi V t ∧ r = some (.int (nI 0)) ∧ fs2 = fs.set 0 (.int t) ∧ V2 = V)))) 199 796 (fun q => zM z0 mc lf dg q ∨ H0.size ≤ q) := by
  refine cx_met (own := RX4) (cc := cX4_rest) (maxL := 5) (by decide) rfl rfl (Nat.le_of_ble_eq_true rfl) ?_
  intro p e s m below meth c ls C0 hB0 hnm hl
  obtain ⟨hH, hK⟩ := hB0
  obtain ⟨hx, hb, hr, hml, hown, hts, hlk⟩ := id C0
  subst hH
  have hS : va_S (fun q => zM z0 mc lf dg q ∨ s.heap.size ≤ q) s.heap s.heap [] := va_S.rf
  have hA : ∀ q : Nat, s.heap.size ≤ q → (fun q => zM z0 mc lf dg q ∨ s.heap.size ≤ q) q := fun q h => Or.inr h
  have hl : lv_has ls 5 [(0, .ref z0), (1, .int x), (2, .int y), (3, .int (bI zi))] := hl
  obtain ⟨hz, hfl, -⟩ := id hM
  refine lv_aload_n hx hb dX4_rest_0 rfl (lv_at hl 0 rfl) ?_
  refine lv_aload_n hx hb dX4_rest_1 rfl (lv_at hl 0 rfl) ?_
  refine lv_iload_n hx hb dX4_rest_2 rfl (lv_at hl 1 rfl) ?_
  refine lv_iload_n hx hb dX4_rest_3 rfl (lv_at hl 2 rfl) ?_
  refine lv_iload_n hx hb dX4_rest_4 rfl (lv_at hl 3 rfl) ?_
  refine cn_V (As := [.int x, .int y, .int (bI zi)]) (rest := [.ref z0]) C0 hl hK hS hA (fun z h => absurd h (fun z => z)) (c_faultOf l g s.heap z0 mc lf dg fs rr V hM x y zi) gX4_rest_X4_faultOf rfl ⟨rfl, rfl⟩ ((va_recv hK.1 (p1 hz) (ci := 5) (q0 := 0) rfl rfl)) ⟨rfl, (show hd_ok yX4_faultOf 3 from ⟨by decide, by decide, by decide +kernel⟩)⟩ ⟨Nat.le_of_ble_eq_true rfl, Nat.le_of_ble_eq_true rfl⟩ rfl (Nat.le_of_ble_eq_true rfl) ⟨by decide, by decide⟩ dX4_rest_5 (fun r1 H1 locs hv hzz hk1 hS => ?_)
  obtain ⟨t, rfl, hf9⟩ := hv
  have hM1 : MD g H1 z0 mc lf dg fs rr V := hM.same (fun q h => hk1 q h (fun z => z))
  obtain ⟨hz1, -⟩ := id hM1
  refine w_putf (ci := 5) (C := RX4) (T := TX4) (N := 10) (ty := .int) hx hb hts (by decide +kernel) tyX4 tyX4_ok nmX4 hown hK hS hz1 (Or.inl (Or.inl rfl)) rfl 0 (by decide) (hts (.fieldLink RX4 27 "RadixbenchModel" "thrown" "I") (by decide +kernel)) (fun _ h9 => h9) rfl (by decide +kernel) rfl rfl (by rw [hfl]; decide) dX4_rest_8 (fun H2 locs hz2 hs2 ho2 hS => ?_)
  have hM2 := hM1.fset (by decide) (by decide) (by decide) ho2 hz2
  obtain ⟨-, hfl2, hmc, hdg, hlf, ⟨fr, hg9, hfr⟩, hrr, -, -, -⟩ := id hM2
  refine lv_aload_n hx hb dX4_rest_11 rfl (lv_at hl 0 rfl) ?_
  refine va_get (ci := 5) (C := RX4) (T := TX4) (N := 10) (v := .int t) hx hb hts (by decide +kernel) hown hK.1 (p1 hz2) 0 rfl rfl 0 (by decide) (hts (.fieldLink RX4 27 "RadixbenchModel" "thrown" "I") (by decide +kernel)) (fun _ h9 => h9) (List.getElem?_set_self (by rw [hfl]; decide)) dX4_rest_12 ?_
  refine lv_if_le (tgt := 20) hx hb dX4_rest_15 (by decide) (fun h1 => ?_) (fun h1 => ?_)
  · skip
    obtain ⟨i, j, hi, hj, rfl, rfl, hv0, rfl⟩ := fau_ok hf9 h1
    refine lv_aload_n hx hb dX4_rest_20 rfl (lv_at hl 0 rfl) ?_
    refine lv_iload_n hx hb dX4_rest_21 rfl (lv_at hl 1 rfl) ?_
    refine lv_iload_n hx hb dX4_rest_22 rfl (lv_at hl 3 rfl) ?_
    refine cn_V (As := [.int (nI i), .int (bI zi)]) (rest := []) C0 hl hK hS hA (fun z h => absurd h (fun z => z)) (c_of l g H2 z0 mc i (rr i) (V i) zi _ fr hz2 hmc hg9 (hfr i hi) hi (hrr i hi).1) gX4_rest_X4_of rfl ⟨rfl, rfl⟩ ((va_recv hK.1 (p1 hz2) (ci := 5) (q0 := 0) rfl rfl)) ⟨rfl, (show hd_ok yX4_of 2 from ⟨by decide, by decide, by decide +kernel⟩)⟩ ⟨Nat.le_of_ble_eq_true rfl, Nat.le_of_ble_eq_true rfl⟩ rfl (Nat.le_of_ble_eq_true rfl) ⟨by decide, by decide⟩ dX4_rest_23 (fun r1 H3 locs hv hzz hk3 hS => ?_)
    obtain ⟨q1, rfl, hq1, g1⟩ := hv
    have hM3 := hM2.same (fun q h => hk3 q h (fun z => z))
    obtain ⟨hz3, -, -, -, -, ⟨fr3, hg93, hfr3⟩, hrr3, -⟩ := id hM3
    refine lv_aload_n hx hb dX4_rest_26 rfl (lv_at hl 0 rfl) ?_
    refine lv_iload_n hx hb dX4_rest_27 rfl (lv_at hl 2 rfl) ?_
    refine lv_iload_n hx hb dX4_rest_28 rfl (lv_at hl 3 rfl) ?_
    refine cn_V (As := [.int (nI j), .int (bI zi)]) (rest := [.ref q1]) C0 hl hK hS hA (fun z h => absurd h (fun z => z)) (c_of l g H3 z0 mc j (rr j) (V j) zi _ fr3 hz3 hmc hg93 (hfr3 j hj) hj (hrr3 j hj).1) gX4_rest_X4_of rfl ⟨rfl, rfl⟩ ((va_recv hK.1 (p1 hz3) (ci := 5) (q0 := 0) rfl rfl)) ⟨rfl, (show hd_ok yX4_of 2 from ⟨by decide, by decide, by decide +kernel⟩)⟩ ⟨Nat.le_of_ble_eq_true rfl, Nat.le_of_ble_eq_true rfl⟩ rfl (Nat.le_of_ble_eq_true rfl) ⟨by decide, by decide⟩ dX4_rest_29 (fun r1 H4 locs hv hzz hk4 hS => ?_)
    obtain ⟨q2, rfl, hq2, g2⟩ := hv
    have hM4 := hM3.same (fun q h => hk4 q h (fun z => z))
    obtain ⟨hz4, -, -, -, -, ⟨fr4, hg94, hfr4⟩, hrr4, -⟩ := id hM4
    have g14 := g1.kept (hk4 _ g1.lt (fun z => z))
    refine cn_S (As := [.ref q1, .ref q2]) (rest := []) C0 hl hK hS hA (fun z h => absurd h (fun z => z)) (c_divided l g H4 q1 q2 (nP zi) _ _ 195 (nP_or zi) (Nat.mod_lt _ (Nat.pow_pos (by decide))) (Nat.mod_lt _ (Nat.pow_pos (by decide))) hv0 g14 g2 (dc_195 (nP_or zi))) gX4_rest_X4_divided rfl ⟨rfl, rfl⟩ (show hd_ok yX4_divided 2 from ⟨by decide, by decide, by decide +kernel⟩) ⟨Nat.le_of_ble_eq_true rfl, Nat.le_of_ble_eq_true rfl⟩ rfl (Nat.le_of_ble_eq_true rfl) ⟨by decide, by decide⟩ dX4_rest_32 (fun r1 H5 locs hv hzz hk5 hS => ?_)
    obtain ⟨q3, r0, r1, f, rfl, hq9, hr0, hr1, hf0, hf1, g5, g6, g7⟩ := hv
    have hM5 := hM4.same (fun q h => hk5 q h (fun z => z))
    obtain ⟨hz5, -⟩ := id hM5
    have hmc4 : mc < H4.size := hg94.lt
    refine lv_iconst (v := nI 1) hx hb dX4_rest_35 (by decide) ?_
    refine w_aald (j := 1) hx hb hK g5 (by decide) (by decide) hf1 dX4_rest_36 ?_
    refine lv_astore (lv' := [(4, .ref r1), (0, .ref z0), (1, .int (nI i)), (2, .int (nI j)), (3, .int (bI zi))]) hx hb dX4_rest_37 hl (by decide) rfl (fun ls hl => ?_)
    refine lv_aload_n hx hb dX4_rest_39 rfl (lv_at hl 1 rfl) ?_
    refine lv_iload_n hx hb dX4_rest_40 rfl (lv_at hl 2 rfl) ?_
    refine lv_aload hx hb dX4_rest_41 (lv_at hl 0 rfl) ?_
    refine cn_V (As := [.int (nI i), .ref r1]) (rest := []) C0 hl hK hS hA (fun z h => Or.inl (Or.inr (Or.inl h))) (c_become l g H5 z0 mc lf dg i r1 (nP zi) _ _ rr V hM5 hi (nP_or zi) (Nat.lt_of_le_of_lt (Nat.mod_le _ _) (Nat.mod_lt _ (Nat.pow_pos (by decide)))) g7) gX4_rest_X4_become rfl ⟨rfl, rfl⟩ ((va_recv hK.1 (p1 hz5) (ci := 5) (q0 := 0) rfl rfl)) ⟨rfl, (show hd_ok yX4_become 2 from ⟨by decide, by decide, by decide +kernel⟩)⟩ ⟨Nat.le_of_ble_eq_true rfl, Nat.le_of_ble_eq_true rfl⟩ rfl (Nat.le_of_ble_eq_true rfl) ⟨by decide, by decide⟩ dX4_rest_43 (fun r1 H6 locs hv hzz hk6 hS => ?_)
    obtain ⟨q9, hq9, rfl, hM6⟩ := hv
    have g76 := g7.kept (hk6 _ g7.lt (fun z => by omega))
    refine lv_pop hx hb dX4_rest_46 rfl ?_
    refine lv_aload hx hb dX4_rest_47 (lv_at hl 0 rfl) ?_
    refine cp_S (As := [.ref r1]) (rest := []) C0 hl hK hS hA (c_isZero l g H6 r1 (nP zi) _ (by rcases nP_or zi with h | h <;> omega) (Nat.lt_of_le_of_lt (Nat.mod_le _ _) (Nat.mod_lt _ (Nat.pow_pos (by decide)))) g76) gX4_rest_X4_isZero rfl ⟨rfl, rfl⟩ (show hd_ok yX4_isZero 1 from ⟨by decide, by decide, by decide +kernel⟩) ⟨Nat.le_of_ble_eq_true rfl, Nat.le_of_ble_eq_true rfl⟩ rfl (Nat.le_of_ble_eq_true rfl) ⟨by decide, by decide⟩ dX4_rest_49 (fun locs hS => ?_)
    exact rt_ni (mu := zM z0 mc lf dg) C0 (bI_nar _) ⟨_, _, _, Or.inl ⟨i, j, hi, hj, rfl, rfl, hv0, rfl, rfl, rfl⟩, hM6⟩ hS rfl dX4_rest_52
  · skip
    refine W.widen (k := 199) (n := 796) (by decide) (by decide) ?_
    refine lv_iconst (v := nI 0) hx hb dX4_rest_18 (by decide) ?_
    exact rt_ni (mu := zM z0 mc lf dg) C0 rfl ⟨_, _, _, Or.inr ⟨t, h1, hf9, rfl, rfl, rfl⟩, hM2⟩ hS rfl dX4_rest_19
end M32

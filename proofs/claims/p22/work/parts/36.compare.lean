-- the model's public calls: compare
section M36
variable {p : Program} {l : Launch} {e : Env} {s : State} {m : MethodId} {args : Array Value} {below : List Frame} {meth : Method} {c : Code} {H H0 : Heap} {locs : List Loc} {cells slots : Nat} {Q : State → Prop} {A : Nat → Prop} {g : Gx}
abbrev rmX4_compare_ : Room := { frames := 2, cells := 2, slots := 8, locals := 45 }
set_option maxHeartbeats 4000000 in
set_option maxRecDepth 100000 in
/-- compare(one, other, isUnsigned, isInt) -/
theorem c_compare_ (l : Launch) (g : Gx) (H0 : Heap) (z0 mc lf dg : Nat) (fs : List Value) (rr V : Nat → Nat) (hM : MD g H0 z0 mc lf dg fs rr V) (x y : Int32) (zu zi : Bool) : Met l yX4_compare_ wsX4_compare_ rmX4_compare_ (va_Pc [.ref z0, .int x, .int y, .int (bI zu), .int (bI zi)] (hB g H0)) (nQ H0 (zM z0 mc lf dg) (zQ g z0 mc lf dg (fun r fs2 V2 => (∃ i j : Nat, i < 8 ∧ j < 8 ∧ x = nI i ∧ y = nI j ∧ r = some (.int (if zu = true then cmpI (V i % 65536 ^ nP zi) (V j % 65536 ^ nP zi) else cmpS (nP zi - 1 + 1) (V i % 65536 ^ nP zi) (V j % 65536 ^ nP zi))) ∧ V2 = V ∧ fs2 = fs.set 0 (.int (nI 0))) ∨ (¬ (isC x ∧ isC y) ∧ r = some (.int (nI 0)) ∧ fs2 = fs.set 0 (.int (nI 1)) ∧ V2 = V)))) 2 8 (fun q => zM z0 mc lf dg q ∨ H0.size ≤ q) := by
  refine cx_met (own := RX4) (cc := cX4_compare_) (maxL := 5) (by decide) rfl rfl (Nat.le_of_ble_eq_true rfl) ?_
  intro p e s m below meth c ls C0 hB0 hnm hl
  obtain ⟨hH, hK⟩ := hB0
  obtain ⟨hx, hb, hr, hml, hown, hts, hlk⟩ := id C0
  subst hH
  have hS : va_S (fun q => zM z0 mc lf dg q ∨ s.heap.size ≤ q) s.heap s.heap [] := va_S.rf
  have hA : ∀ q : Nat, s.heap.size ≤ q → (fun q => zM z0 mc lf dg q ∨ s.heap.size ≤ q) q := fun q h => Or.inr h
  have hl : lv_has ls 5 [(0, .ref z0), (1, .int x), (2, .int y), (3, .int (bI zu)), (4, .int (bI zi))] := hl
  obtain ⟨hz, hfl, -⟩ := id hM
  refine lv_aload_n hx hb dX4_compare__0 rfl (lv_at hl 0 rfl) ?_
  refine lv_iconst (v := nI 0) hx hb dX4_compare__1 (by decide) ?_
  refine w_putf (ci := 5) (C := RX4) (T := TX4) (N := 10) (ty := .int) hx hb hts (by decide +kernel) tyX4 tyX4_ok nmX4 hown hK hS hz (Or.inl (Or.inl rfl)) rfl 0 (by decide) (hts (.fieldLink RX4 27 "RadixbenchModel" "thrown" "I") (by decide +kernel)) (fun _ h9 => h9) rfl (by decide +kernel) rfl rfl (by rw [hfl]; decide) dX4_compare__2 (fun H1 locs hz1 hs1 ho1 hS => ?_)
  have hM1 := hM.fset (by decide) (by decide) (by decide) ho1 hz1
  obtain ⟨-, hfl1, hmc, hdg, hlf, ⟨fr, hg9, hfr⟩, hrr, -, -, -⟩ := id hM1
  refine lv_iload_n hx hb dX4_compare__5 rfl (lv_at hl 1 rfl) ?_
  refine cp_S (As := [.int x]) (rest := []) C0 hl hK hS hA (c_isCell l g H1 x) gX4_compare__X4_isCell rfl ⟨rfl, rfl⟩ (show hd_ok yX4_isCell 1 from ⟨by decide, by decide, by decide +kernel⟩) ⟨Nat.le_of_ble_eq_true rfl, Nat.le_of_ble_eq_true rfl⟩ rfl (Nat.le_of_ble_eq_true rfl) ⟨by decide, by decide⟩ dX4_compare__6 (fun locs hS => ?_)
  refine lv_if_eq (tgt := 19) hx hb dX4_compare__9 (by decide) (fun h1 => ?_) (fun h1 => ?_)
  · skip
    refine lv_aload_n hx hb dX4_compare__19 rfl (lv_at hl 0 rfl) ?_
    refine lv_iconst (v := nI 1) hx hb dX4_compare__20 (by decide) ?_
    refine cn_V (As := [.int (nI 1)]) (rest := []) C0 hl hK hS hA (fun z h => Or.inl h) (c_refuse l g H1 z0 mc lf dg _ rr V hM1 (nI 1)) gX4_compare__X4_refuse rfl ⟨rfl, rfl⟩ ((va_recv hK.1 (p1 hz1) (ci := 5) (q0 := 0) rfl rfl)) ⟨rfl, (show hd_ok yX4_refuse 1 from ⟨by decide, by decide, by decide +kernel⟩)⟩ ⟨Nat.le_of_ble_eq_true rfl, Nat.le_of_ble_eq_true rfl⟩ rfl (Nat.le_of_ble_eq_true rfl) ⟨by decide, by decide⟩ dX4_compare__21 (fun r1 H2 locs hv hzz hk2 hS => ?_)
    obtain ⟨fs2, rr2, V2, ⟨rfl, rfl, rfl⟩, hM2⟩ := hv
    refine W.widen (k := 2) (n := 8) (by decide) (by decide) ?_
    exact rt_ni (mu := zM z0 mc lf dg) C0 rfl ⟨_, _, _, Or.inr ⟨fun z => of_decide_eq_false (bI_0 h1) z.1, rfl, List.set_set _, rfl⟩, hM2⟩ hS rfl dX4_compare__24
  · skip
    refine lv_iload_n hx hb dX4_compare__12 rfl (lv_at hl 2 rfl) ?_
    refine cp_S (As := [.int y]) (rest := []) C0 hl hK hS hA (c_isCell l g H1 y) gX4_compare__X4_isCell rfl ⟨rfl, rfl⟩ (show hd_ok yX4_isCell 1 from ⟨by decide, by decide, by decide +kernel⟩) ⟨Nat.le_of_ble_eq_true rfl, Nat.le_of_ble_eq_true rfl⟩ rfl (Nat.le_of_ble_eq_true rfl) ⟨by decide, by decide⟩ dX4_compare__13 (fun locs hS => ?_)
    refine lv_if_ne (tgt := 25) hx hb dX4_compare__16 (by decide) (fun h2 => ?_) (fun h2 => ?_)
    · skip
      obtain ⟨i, hi, rfl⟩ := cell_of (of_decide_eq_true (bI_n0 h1))
      obtain ⟨j, hj, rfl⟩ := cell_of (of_decide_eq_true (bI_n0 h2))
      refine lv_iload_n hx hb dX4_compare__25 rfl (lv_at hl 3 rfl) ?_
      refine lv_if_eq (tgt := 49) hx hb dX4_compare__26 (by decide) (fun h4 => ?_) (fun h4 => ?_)
      · skip
        have e9 : zu = false := bI_0 h4
        refine lv_aload_n hx hb dX4_compare__49 rfl (lv_at hl 0 rfl) ?_
        refine lv_iload_n hx hb dX4_compare__50 rfl (lv_at hl 1 rfl) ?_
        refine lv_iload hx hb dX4_compare__51 (lv_at hl 4 rfl) ?_
        refine cn_V (As := [.int (nI i), .int (bI zi)]) (rest := []) C0 hl hK hS hA (fun z h => absurd h (fun z => z)) (c_of l g H1 z0 mc i (rr i) (V i) zi _ fr hz1 hmc hg9 (hfr i hi) hi (hrr i hi).1) gX4_compare__X4_of rfl ⟨rfl, rfl⟩ ((va_recv hK.1 (p1 hz1) (ci := 5) (q0 := 0) rfl rfl)) ⟨rfl, (show hd_ok yX4_of 2 from ⟨by decide, by decide, by decide +kernel⟩)⟩ ⟨Nat.le_of_ble_eq_true rfl, Nat.le_of_ble_eq_true rfl⟩ rfl (Nat.le_of_ble_eq_true rfl) ⟨by decide, by decide⟩ dX4_compare__53 (fun r1 H3 locs hv hzz hk3 hS => ?_)
        obtain ⟨q1, rfl, hq1, g1⟩ := hv
        have hM3 := hM1.same (fun q h => hk3 q h (fun z => z))
        obtain ⟨hz3, -, -, -, -, ⟨fr3, hg93, hfr3⟩, hrr3, -⟩ := id hM3
        refine lv_aload_n hx hb dX4_compare__56 rfl (lv_at hl 0 rfl) ?_
        refine lv_iload_n hx hb dX4_compare__57 rfl (lv_at hl 2 rfl) ?_
        refine lv_iload hx hb dX4_compare__58 (lv_at hl 4 rfl) ?_
        refine cn_V (As := [.int (nI j), .int (bI zi)]) (rest := [.ref q1]) C0 hl hK hS hA (fun z h => absurd h (fun z => z)) (c_of l g H3 z0 mc j (rr j) (V j) zi _ fr3 hz3 hmc hg93 (hfr3 j hj) hj (hrr3 j hj).1) gX4_compare__X4_of rfl ⟨rfl, rfl⟩ ((va_recv hK.1 (p1 hz3) (ci := 5) (q0 := 0) rfl rfl)) ⟨rfl, (show hd_ok yX4_of 2 from ⟨by decide, by decide, by decide +kernel⟩)⟩ ⟨Nat.le_of_ble_eq_true rfl, Nat.le_of_ble_eq_true rfl⟩ rfl (Nat.le_of_ble_eq_true rfl) ⟨by decide, by decide⟩ dX4_compare__60 (fun r1 H4 locs hv hzz hk4 hS => ?_)
        obtain ⟨q2, rfl, hq2, g2⟩ := hv
        have hM4 := hM3.same (fun q h => hk4 q h (fun z => z))
        have g14 := g1.kept (hk4 _ g1.lt (fun z => z))
        have hu : (V i % 65536 ^ nP zi) < 65536 ^ nP zi := Nat.mod_lt _ (Nat.pow_pos (by decide))
        have hv : (V j % 65536 ^ nP zi) < 65536 ^ nP zi := Nat.mod_lt _ (Nat.pow_pos (by decide))
        refine cp_S (As := [.ref q1, .ref q2]) (rest := []) C0 hl hK hS hA (c_compareSigned l g H4 q1 q2 (nP zi - 1) (V i % 65536 ^ nP zi) (V j % 65536 ^ nP zi) (by rcases nP_or zi with h | h <;> omega) (by rw [nP_pred]; exact hu) (by rw [nP_pred]; exact hv) (by rw [nP_pred]; exact g14) (by rw [nP_pred]; exact g2)) gX4_compare__X4_compareSigned rfl ⟨rfl, rfl⟩ (show hd_ok yX4_compareSigned 2 from ⟨by decide, by decide, by decide +kernel⟩) ⟨Nat.le_of_ble_eq_true rfl, Nat.le_of_ble_eq_true rfl⟩ rfl (Nat.le_of_ble_eq_true rfl) ⟨by decide, by decide⟩ dX4_compare__63 (fun locs hS => ?_)
        exact rt_ni (mu := zM z0 mc lf dg) C0 rfl ⟨_, _, _, Or.inl ⟨i, j, hi, hj, rfl, rfl, by rw [if_neg (by rw [e9]; decide)], rfl, rfl⟩, hM4⟩ hS rfl dX4_compare__66
      · skip
        have e9 : zu = true := bI_n0 h4
        refine lv_aload_n hx hb dX4_compare__29 rfl (lv_at hl 0 rfl) ?_
        refine lv_iload_n hx hb dX4_compare__30 rfl (lv_at hl 1 rfl) ?_
        refine lv_iload hx hb dX4_compare__31 (lv_at hl 4 rfl) ?_
        refine cn_V (As := [.int (nI i), .int (bI zi)]) (rest := []) C0 hl hK hS hA (fun z h => absurd h (fun z => z)) (c_of l g H1 z0 mc i (rr i) (V i) zi _ fr hz1 hmc hg9 (hfr i hi) hi (hrr i hi).1) gX4_compare__X4_of rfl ⟨rfl, rfl⟩ ((va_recv hK.1 (p1 hz1) (ci := 5) (q0 := 0) rfl rfl)) ⟨rfl, (show hd_ok yX4_of 2 from ⟨by decide, by decide, by decide +kernel⟩)⟩ ⟨Nat.le_of_ble_eq_true rfl, Nat.le_of_ble_eq_true rfl⟩ rfl (Nat.le_of_ble_eq_true rfl) ⟨by decide, by decide⟩ dX4_compare__33 (fun r1 H3 locs hv hzz hk3 hS => ?_)
        obtain ⟨q1, rfl, hq1, g1⟩ := hv
        have hM3 := hM1.same (fun q h => hk3 q h (fun z => z))
        obtain ⟨hz3, -, -, -, -, ⟨fr3, hg93, hfr3⟩, hrr3, -⟩ := id hM3
        refine lv_aload_n hx hb dX4_compare__36 rfl (lv_at hl 0 rfl) ?_
        refine lv_iload_n hx hb dX4_compare__37 rfl (lv_at hl 2 rfl) ?_
        refine lv_iload hx hb dX4_compare__38 (lv_at hl 4 rfl) ?_
        refine cn_V (As := [.int (nI j), .int (bI zi)]) (rest := [.ref q1]) C0 hl hK hS hA (fun z h => absurd h (fun z => z)) (c_of l g H3 z0 mc j (rr j) (V j) zi _ fr3 hz3 hmc hg93 (hfr3 j hj) hj (hrr3 j hj).1) gX4_compare__X4_of rfl ⟨rfl, rfl⟩ ((va_recv hK.1 (p1 hz3) (ci := 5) (q0 := 0) rfl rfl)) ⟨rfl, (show hd_ok yX4_of 2 from ⟨by decide, by decide, by decide +kernel⟩)⟩ ⟨Nat.le_of_ble_eq_true rfl, Nat.le_of_ble_eq_true rfl⟩ rfl (Nat.le_of_ble_eq_true rfl) ⟨by decide, by decide⟩ dX4_compare__40 (fun r1 H4 locs hv hzz hk4 hS => ?_)
        obtain ⟨q2, rfl, hq2, g2⟩ := hv
        have hM4 := hM3.same (fun q h => hk4 q h (fun z => z))
        have g14 := g1.kept (hk4 _ g1.lt (fun z => z))
        have hu : (V i % 65536 ^ nP zi) < 65536 ^ nP zi := Nat.mod_lt _ (Nat.pow_pos (by decide))
        have hv : (V j % 65536 ^ nP zi) < 65536 ^ nP zi := Nat.mod_lt _ (Nat.pow_pos (by decide))
        refine cp_S (As := [.ref q1, .ref q2]) (rest := []) C0 hl hK hS hA (c_compare l g H4 q1 q2 (nP zi) (V i % 65536 ^ nP zi) (V j % 65536 ^ nP zi) (by rcases nP_or zi with h | h <;> omega) hu hv g14 g2) gX4_compare__X4_compare rfl ⟨rfl, rfl⟩ (show hd_ok yX4_compare 2 from ⟨by decide, by decide, by decide +kernel⟩) ⟨Nat.le_of_ble_eq_true rfl, Nat.le_of_ble_eq_true rfl⟩ rfl (Nat.le_of_ble_eq_true rfl) ⟨by decide, by decide⟩ dX4_compare__43 (fun locs hS => ?_)
        refine lv_goto (tgt := 66) hx hb dX4_compare__46 (by decide) ?_
        exact rt_ni (mu := zM z0 mc lf dg) C0 rfl ⟨_, _, _, Or.inl ⟨i, j, hi, hj, rfl, rfl, by rw [if_pos e9], rfl, rfl⟩, hM4⟩ hS rfl dX4_compare__66
    · skip
      have h3 := h2
      refine lv_aload_n hx hb dX4_compare__19 rfl (lv_at hl 0 rfl) ?_
      refine lv_iconst (v := nI 1) hx hb dX4_compare__20 (by decide) ?_
      refine cn_V (As := [.int (nI 1)]) (rest := []) C0 hl hK hS hA (fun z h => Or.inl h) (c_refuse l g H1 z0 mc lf dg _ rr V hM1 (nI 1)) gX4_compare__X4_refuse rfl ⟨rfl, rfl⟩ ((va_recv hK.1 (p1 hz1) (ci := 5) (q0 := 0) rfl rfl)) ⟨rfl, (show hd_ok yX4_refuse 1 from ⟨by decide, by decide, by decide +kernel⟩)⟩ ⟨Nat.le_of_ble_eq_true rfl, Nat.le_of_ble_eq_true rfl⟩ rfl (Nat.le_of_ble_eq_true rfl) ⟨by decide, by decide⟩ dX4_compare__21 (fun r1 H2 locs hv hzz hk2 hS => ?_)
      obtain ⟨fs2, rr2, V2, ⟨rfl, rfl, rfl⟩, hM2⟩ := hv
      refine W.widen (k := 2) (n := 8) (by decide) (by decide) ?_
      exact rt_ni (mu := zM z0 mc lf dg) C0 rfl ⟨_, _, _, Or.inr ⟨fun z => of_decide_eq_false (bI_0 h3) z.2, rfl, List.set_set _, rfl⟩, hM2⟩ hS rfl dX4_compare__24
end M36

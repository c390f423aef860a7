-- the model's public calls: join
theorem nP_pred (zi : Bool) : nP zi - 1 + 1 = nP zi := by cases zi <;> rfl
/-- the sum, the greater or the less of two numbers -/
def jnN (zi : Bool) (k : Int32) (u v : Nat) : Nat := if k = 0 then (u + v) % 65536 ^ nP zi else if k = nI 1 then (if cmpS (nP zi - 1 + 1) u v < 0 then v else u) else (if cmpS (nP zi - 1 + 1) u v > 0 then v else u)
section M33
variable {p : Program} {l : Launch} {e : Env} {s : State} {m : MethodId} {args : Array Value} {below : List Frame} {meth : Method} {c : Code} {H H0 : Heap} {locs : List Loc} {cells slots : Nat} {Q : State → Prop} {A : Nat → Prop} {g : Gx}
abbrev rmX4_join : Room := { frames := 3, cells := 4, slots := 16, locals := 66 }
set_option maxHeartbeats 4000000 in
set_option maxRecDepth 100000 in
/-- join(own, by, kind, isInt) -/
theorem c_join (l : Launch) (g : Gx) (H0 : Heap) (z0 mc lf dg : Nat) (fs : List Value) (rr V : Nat → Nat) (hM : MD g H0 z0 mc lf dg fs rr V) (x y k : Int32) (zi : Bool) : Met l yX4_join wsX4_join rmX4_join (va_Pc [.ref z0, .int x, .int y, .int k, .int (bI zi)] (hB g H0)) (nQ H0 (zM z0 mc lf dg) (zQ g z0 mc lf dg (fun r fs2 V2 => (∃ i j : Nat, i < 8 ∧ j < 8 ∧ x = nI i ∧ y = nI j ∧ (nI 0 ≤ k ∧ k ≤ nI 2) ∧ r = some (.int (bI (!decide (wideN (nP zi) (jnN zi k (V i % 65536 ^ nP zi) (V j % 65536 ^ nP zi)) = V i)))) ∧ V2 = va_up V i (wideN (nP zi) (jnN zi k (V i % 65536 ^ nP zi) (V j % 65536 ^ nP zi))) ∧ fs2 = fs.set 0 (.int (nI 0))) ∨ (¬ (isC x ∧ isC y) ∧ r = some (.int (nI 0)) ∧ fs2 = fs.set 0 (.int (nI 1)) ∧ V2 = V) ∨ (isC x ∧ isC y ∧ ¬ (nI 0 ≤ k ∧ k ≤ nI 2) ∧ r = some (.int (nI 0)) ∧ fs2 = fs.set 0 (.int (nI 2)) ∧ V2 = V)))) 4 16 (fun q => zM z0 mc lf dg q ∨ H0.size ≤ q) := by
  refine cx_met (own := RX4) (cc := cX4_join) (maxL := 8) (by decide) rfl rfl (Nat.le_of_ble_eq_true rfl) ?_
  intro p e s m below meth c ls C0 hB0 hnm hl
  obtain ⟨hH, hK⟩ := hB0
  obtain ⟨hx, hb, hr, hml, hown, hts, hlk⟩ := id C0
  subst hH
  have hS : va_S (fun q => zM z0 mc lf dg q ∨ s.heap.size ≤ q) s.heap s.heap [] := va_S.rf
  have hA : ∀ q : Nat, s.heap.size ≤ q → (fun q => zM z0 mc lf dg q ∨ s.heap.size ≤ q) q := fun q h => Or.inr h
  have hl : lv_has ls 8 [(0, .ref z0), (1, .int x), (2, .int y), (3, .int k), (4, .int (bI zi))] := hl
  obtain ⟨hz, hfl, -⟩ := id hM
  refine lv_aload_n hx hb dX4_join_0 rfl (lv_at hl 0 rfl) ?_
  refine lv_iconst (v := nI 0) hx hb dX4_join_1 (by decide) ?_
  refine w_putf (ci := 5) (C := RX4) (T := TX4) (N := 10) (ty := .int) hx hb hts (by decide +kernel) tyX4 tyX4_ok nmX4 hown hK hS hz (Or.inl (Or.inl rfl)) rfl 0 (by decide) (hts (.fieldLink RX4 27 "RadixbenchModel" "thrown" "I") (by decide +kernel)) (fun _ h9 => h9) rfl (by decide +kernel) rfl rfl (by rw [hfl]; decide) dX4_join_2 (fun H1 locs hz1 hs1 ho1 hS => ?_)
  have hM1 := hM.fset (by decide) (by decide) (by decide) ho1 hz1
  obtain ⟨-, hfl1, hmc, hdg, hlf, ⟨fr, hg9, hfr⟩, hrr, -, -, -⟩ := id hM1
  refine lv_iload_n hx hb dX4_join_5 rfl (lv_at hl 1 rfl) ?_
  refine cp_S (As := [.int x]) (rest := []) C0 hl hK hS hA (c_isCell l g H1 x) gX4_join_X4_isCell rfl ⟨rfl, rfl⟩ (show hd_ok yX4_isCell 1 from ⟨by decide, by decide, by decide +kernel⟩) ⟨Nat.le_of_ble_eq_true rfl, Nat.le_of_ble_eq_true rfl⟩ rfl (Nat.le_of_ble_eq_true rfl) ⟨by decide, by decide⟩ dX4_join_6 (fun locs hS => ?_)
  refine lv_if_eq (tgt := 19) hx hb dX4_join_9 (by decide) (fun h1 => ?_) (fun h1 => ?_)
  · skip
    refine lv_aload_n hx hb dX4_join_19 rfl (lv_at hl 0 rfl) ?_
    refine lv_iconst (v := nI 1) hx hb dX4_join_20 (by decide) ?_
    refine cn_V (As := [.int (nI 1)]) (rest := []) C0 hl hK hS hA (fun z h => Or.inl h) (c_refuses l g H1 z0 mc lf dg _ rr V hM1 (nI 1)) gX4_join_X4_refuses rfl ⟨rfl, rfl⟩ ((va_recv hK.1 (p1 hz1) (ci := 5) (q0 := 0) rfl rfl)) ⟨rfl, (show hd_ok yX4_refuses 1 from ⟨by decide, by decide, by decide +kernel⟩)⟩ ⟨Nat.le_of_ble_eq_true rfl, Nat.le_of_ble_eq_true rfl⟩ rfl (Nat.le_of_ble_eq_true rfl) ⟨by decide, by decide⟩ dX4_join_21 (fun r1 H2 locs hv hzz hk2 hS => ?_)
    obtain ⟨fs2, rr2, V2, ⟨rfl, rfl, rfl⟩, hM2⟩ := hv
    refine W.widen (k := 4) (n := 16) (by decide) (by decide) ?_
    exact rt_ni (mu := zM z0 mc lf dg) C0 rfl ⟨_, _, _, Or.inr (Or.inl ⟨fun z => of_decide_eq_false (bI_0 h1) z.1, rfl, List.set_set _, rfl⟩), hM2⟩ hS rfl dX4_join_24
  · skip
    refine lv_iload_n hx hb dX4_join_12 rfl (lv_at hl 2 rfl) ?_
    refine cp_S (As := [.int y]) (rest := []) C0 hl hK hS hA (c_isCell l g H1 y) gX4_join_X4_isCell rfl ⟨rfl, rfl⟩ (show hd_ok yX4_isCell 1 from ⟨by decide, by decide, by decide +kernel⟩) ⟨Nat.le_of_ble_eq_true rfl, Nat.le_of_ble_eq_true rfl⟩ rfl (Nat.le_of_ble_eq_true rfl) ⟨by decide, by decide⟩ dX4_join_13 (fun locs hS => ?_)
    refine lv_if_ne (tgt := 25) hx hb dX4_join_16 (by decide) (fun h2 => ?_) (fun h2 => ?_)
    · skip
      refine lv_iload_n hx hb dX4_join_25 rfl (lv_at hl 3 rfl) ?_
      refine lv_iconst (v := nI 0) hx hb dX4_join_26 (by decide) ?_
      refine lv_iconst (v := nI 2) hx hb dX4_join_27 (by decide) ?_
      refine cp_S (As := [.int k, .int (nI 0), .int (nI 2)]) (rest := []) C0 hl hK hS hA (c_is l g H1 k (nI 0) (nI 2)) gX4_join_X4_is rfl ⟨rfl, rfl⟩ (show hd_ok yX4_is 3 from ⟨by decide, by decide, by decide +kernel⟩) ⟨Nat.le_of_ble_eq_true rfl, Nat.le_of_ble_eq_true rfl⟩ rfl (Nat.le_of_ble_eq_true rfl) ⟨by decide, by decide⟩ dX4_join_28 (fun locs hS => ?_)
      refine lv_if_ne (tgt := 40) hx hb dX4_join_31 (by decide) (fun h4 => ?_) (fun h4 => ?_)
      · skip
        have hk9 := of_decide_eq_true (bI_n0 h4)
        obtain ⟨i, hi, rfl⟩ := cell_of (of_decide_eq_true (bI_n0 h1))
        obtain ⟨j, hj, rfl⟩ := cell_of (of_decide_eq_true (bI_n0 h2))
        refine lv_aload_n hx hb dX4_join_40 rfl (lv_at hl 0 rfl) ?_
        refine lv_iload_n hx hb dX4_join_41 rfl (lv_at hl 1 rfl) ?_
        refine lv_iload hx hb dX4_join_42 (lv_at hl 4 rfl) ?_
        refine cn_V (As := [.int (nI i), .int (bI zi)]) (rest := []) C0 hl hK hS hA (fun z h => absurd h (fun z => z)) (c_of l g H1 z0 mc i (rr i) (V i) zi _ fr hz1 hmc hg9 (hfr i hi) hi (hrr i hi).1) gX4_join_X4_of rfl ⟨rfl, rfl⟩ ((va_recv hK.1 (p1 hz1) (ci := 5) (q0 := 0) rfl rfl)) ⟨rfl, (show hd_ok yX4_of 2 from ⟨by decide, by decide, by decide +kernel⟩)⟩ ⟨Nat.le_of_ble_eq_true rfl, Nat.le_of_ble_eq_true rfl⟩ rfl (Nat.le_of_ble_eq_true rfl) ⟨by decide, by decide⟩ dX4_join_44 (fun r1 H3 locs hv hzz hk3 hS => ?_)
        obtain ⟨q1, rfl, hq1, g1⟩ := hv
        have hM3 := hM1.same (fun q h => hk3 q h (fun z => z))
        obtain ⟨hz3, -, -, -, -, ⟨fr3, hg93, hfr3⟩, hrr3, -⟩ := id hM3
        refine lv_astore (lv' := [(5, .ref q1), (0, .ref z0), (1, .int (nI i)), (2, .int (nI j)), (3, .int k), (4, .int (bI zi))]) hx hb dX4_join_47 hl (by decide) rfl (fun ls hl => ?_)
        refine lv_aload_n hx hb dX4_join_49 rfl (lv_at hl 1 rfl) ?_
        refine lv_iload_n hx hb dX4_join_50 rfl (lv_at hl 3 rfl) ?_
        refine lv_iload hx hb dX4_join_51 (lv_at hl 5 rfl) ?_
        refine cn_V (As := [.int (nI j), .int (bI zi)]) (rest := []) C0 hl hK hS hA (fun z h => absurd h (fun z => z)) (c_of l g H3 z0 mc j (rr j) (V j) zi _ fr3 hz3 hmc hg93 (hfr3 j hj) hj (hrr3 j hj).1) gX4_join_X4_of rfl ⟨rfl, rfl⟩ ((va_recv hK.1 (p1 hz3) (ci := 5) (q0 := 0) rfl rfl)) ⟨rfl, (show hd_ok yX4_of 2 from ⟨by decide, by decide, by decide +kernel⟩)⟩ ⟨Nat.le_of_ble_eq_true rfl, Nat.le_of_ble_eq_true rfl⟩ rfl (Nat.le_of_ble_eq_true rfl) ⟨by decide, by decide⟩ dX4_join_53 (fun r1 H4 locs hv hzz hk4 hS => ?_)
        obtain ⟨q2, rfl, hq2, g2⟩ := hv
        have hM4 := hM3.same (fun q h => hk4 q h (fun z => z))
        have g14 := g1.kept (hk4 _ g1.lt (fun z => z))
        obtain ⟨hz4, -⟩ := id hM4
        have hu : (V i % 65536 ^ nP zi) < 65536 ^ nP zi := Nat.mod_lt _ (Nat.pow_pos (by decide))
        have hv : (V j % 65536 ^ nP zi) < 65536 ^ nP zi := Nat.mod_lt _ (Nat.pow_pos (by decide))
        refine lv_astore (lv' := [(6, .ref q2), (5, .ref q1), (0, .ref z0), (1, .int (nI i)), (2, .int (nI j)), (3, .int k), (4, .int (bI zi))]) hx hb dX4_join_56 hl (by decide) rfl (fun ls hl => ?_)
        refine lv_aload hx hb dX4_join_58 (lv_at hl 1 rfl) ?_
        refine lv_aload hx hb dX4_join_60 (lv_at hl 0 rfl) ?_
        refine cp_S (As := [.ref q1, .ref q2]) (rest := []) C0 hl hK hS hA (c_compareSigned l g H4 q1 q2 (nP zi - 1) (V i % 65536 ^ nP zi) (V j % 65536 ^ nP zi) (by rcases nP_or zi with h | h <;> omega) (by rw [nP_pred]; exact hu) (by rw [nP_pred]; exact hv) (by rw [nP_pred]; exact g14) (by rw [nP_pred]; exact g2)) gX4_join_X4_compareSigned rfl ⟨rfl, rfl⟩ (show hd_ok yX4_compareSigned 2 from ⟨by decide, by decide, by decide +kernel⟩) ⟨Nat.le_of_ble_eq_true rfl, Nat.le_of_ble_eq_true rfl⟩ rfl (Nat.le_of_ble_eq_true rfl) ⟨by decide, by decide⟩ dX4_join_62 (fun locs hS => ?_)
        refine lv_istore (lv' := [(7, .int (cmpS (nP zi - 1 + 1) (V i % 65536 ^ nP zi) (V j % 65536 ^ nP zi))), (6, .ref q2), (5, .ref q1), (0, .ref z0), (1, .int (nI i)), (2, .int (nI j)), (3, .int k), (4, .int (bI zi))]) hx hb dX4_join_65 hl (by decide) rfl (fun ls hl => ?_)
        refine lv_aload_n hx hb dX4_join_67 rfl (lv_at hl 3 rfl) ?_
        refine lv_iload_n hx hb dX4_join_68 rfl (lv_at hl 4 rfl) ?_
        refine lv_iload_n hx hb dX4_join_69 rfl (lv_at hl 6 rfl) ?_
        refine lv_if_ne (tgt := 83) hx hb dX4_join_70 (by decide) (fun h5 => ?_) (fun h5 => ?_)
        · skip
          refine lv_iload_n hx hb dX4_join_83 rfl (lv_at hl 6 rfl) ?_
          refine lv_iconst (v := nI 1) hx hb dX4_join_84 (by decide) ?_
          refine lv_icmp_ne (tgt := 96) hx hb dX4_join_85 (by decide) (fun h6 => ?_) (fun h6 => ?_)
          · skip
            refine lv_iload hx hb dX4_join_96 (lv_at hl 0 rfl) ?_
            refine lv_if_gt (tgt := 106) hx hb dX4_join_98 (by decide) (fun h7 => ?_) (fun h7 => ?_)
            · skip
              refine lv_aload hx hb dX4_join_106 (lv_at hl 1 rfl) ?_
              refine cn_V (As := [.int (nI i), .ref q2]) (rest := []) C0 hl hK hS hA (fun z h => Or.inl (Or.inr (Or.inl h))) (c_become l g H4 z0 mc lf dg i q2 (nP zi) ((V j % 65536 ^ nP zi)) _ rr V hM4 hi (nP_or zi) hv g2) gX4_join_X4_become rfl ⟨rfl, rfl⟩ ((va_recv hK.1 (p1 hz4) (ci := 5) (q0 := 0) rfl rfl)) ⟨rfl, (show hd_ok yX4_become 2 from ⟨by decide, by decide, by decide +kernel⟩)⟩ ⟨Nat.le_of_ble_eq_true rfl, Nat.le_of_ble_eq_true rfl⟩ rfl (Nat.le_of_ble_eq_true rfl) ⟨by decide, by decide⟩ dX4_join_108 (fun r1 H6 locs hv hzz hk6 hS => ?_)
              obtain ⟨q9, hq9, rfl, hM6⟩ := hv
              refine W.widen (k := 4) (n := 16) (by decide) (by decide) ?_
              have ej : jnN zi k (V i % 65536 ^ nP zi) (V j % 65536 ^ nP zi) = (V j % 65536 ^ nP zi) := by unfold jnN; rw [if_neg h5, if_neg h6, if_pos h7]
              exact rt_ni (mu := zM z0 mc lf dg) C0 (bI_nar _) ⟨_, _, _, Or.inl ⟨i, j, hi, hj, rfl, rfl, hk9, by rw [ej], by rw [ej], rfl⟩, hM6⟩ hS rfl dX4_join_111
            · skip
              refine lv_aload hx hb dX4_join_101 (lv_at hl 2 rfl) ?_
              refine lv_goto (tgt := 108) hx hb dX4_join_103 (by decide) ?_
              refine cn_V (As := [.int (nI i), .ref q1]) (rest := []) C0 hl hK hS hA (fun z h => Or.inl (Or.inr (Or.inl h))) (c_become l g H4 z0 mc lf dg i q1 (nP zi) ((V i % 65536 ^ nP zi)) _ rr V hM4 hi (nP_or zi) hu g14) gX4_join_X4_become rfl ⟨rfl, rfl⟩ ((va_recv hK.1 (p1 hz4) (ci := 5) (q0 := 0) rfl rfl)) ⟨rfl, (show hd_ok yX4_become 2 from ⟨by decide, by decide, by decide +kernel⟩)⟩ ⟨Nat.le_of_ble_eq_true rfl, Nat.le_of_ble_eq_true rfl⟩ rfl (Nat.le_of_ble_eq_true rfl) ⟨by decide, by decide⟩ dX4_join_108 (fun r1 H6 locs hv hzz hk6 hS => ?_)
              obtain ⟨q9, hq9, rfl, hM6⟩ := hv
              refine W.widen (k := 4) (n := 16) (by decide) (by decide) ?_
              have ej : jnN zi k (V i % 65536 ^ nP zi) (V j % 65536 ^ nP zi) = (V i % 65536 ^ nP zi) := by unfold jnN; rw [if_neg h5, if_neg h6, if_neg h7]
              exact rt_ni (mu := zM z0 mc lf dg) C0 (bI_nar _) ⟨_, _, _, Or.inl ⟨i, j, hi, hj, rfl, rfl, hk9, by rw [ej], by rw [ej], rfl⟩, hM6⟩ hS rfl dX4_join_111
          · skip
            refine lv_iload hx hb dX4_join_88 (lv_at hl 0 rfl) ?_
            refine lv_if_lt (tgt := 106) hx hb dX4_join_90 (by decide) (fun h7 => ?_) (fun h7 => ?_)
            · skip
              refine lv_aload hx hb dX4_join_106 (lv_at hl 1 rfl) ?_
              refine cn_V (As := [.int (nI i), .ref q2]) (rest := []) C0 hl hK hS hA (fun z h => Or.inl (Or.inr (Or.inl h))) (c_become l g H4 z0 mc lf dg i q2 (nP zi) ((V j % 65536 ^ nP zi)) _ rr V hM4 hi (nP_or zi) hv g2) gX4_join_X4_become rfl ⟨rfl, rfl⟩ ((va_recv hK.1 (p1 hz4) (ci := 5) (q0 := 0) rfl rfl)) ⟨rfl, (show hd_ok yX4_become 2 from ⟨by decide, by decide, by decide +kernel⟩)⟩ ⟨Nat.le_of_ble_eq_true rfl, Nat.le_of_ble_eq_true rfl⟩ rfl (Nat.le_of_ble_eq_true rfl) ⟨by decide, by decide⟩ dX4_join_108 (fun r1 H6 locs hv hzz hk6 hS => ?_)
              obtain ⟨q9, hq9, rfl, hM6⟩ := hv
              refine W.widen (k := 4) (n := 16) (by decide) (by decide) ?_
              have ej : jnN zi k (V i % 65536 ^ nP zi) (V j % 65536 ^ nP zi) = (V j % 65536 ^ nP zi) := by unfold jnN; rw [if_neg h5, if_pos h6, if_pos h7]
              exact rt_ni (mu := zM z0 mc lf dg) C0 (bI_nar _) ⟨_, _, _, Or.inl ⟨i, j, hi, hj, rfl, rfl, hk9, by rw [ej], by rw [ej], rfl⟩, hM6⟩ hS rfl dX4_join_111
            · skip
              refine lv_goto (tgt := 101) hx hb dX4_join_93 (by decide) ?_
              refine lv_aload hx hb dX4_join_101 (lv_at hl 2 rfl) ?_
              refine lv_goto (tgt := 108) hx hb dX4_join_103 (by decide) ?_
              refine cn_V (As := [.int (nI i), .ref q1]) (rest := []) C0 hl hK hS hA (fun z h => Or.inl (Or.inr (Or.inl h))) (c_become l g H4 z0 mc lf dg i q1 (nP zi) ((V i % 65536 ^ nP zi)) _ rr V hM4 hi (nP_or zi) hu g14) gX4_join_X4_become rfl ⟨rfl, rfl⟩ ((va_recv hK.1 (p1 hz4) (ci := 5) (q0 := 0) rfl rfl)) ⟨rfl, (show hd_ok yX4_become 2 from ⟨by decide, by decide, by decide +kernel⟩)⟩ ⟨Nat.le_of_ble_eq_true rfl, Nat.le_of_ble_eq_true rfl⟩ rfl (Nat.le_of_ble_eq_true rfl) ⟨by decide, by decide⟩ dX4_join_108 (fun r1 H6 locs hv hzz hk6 hS => ?_)
              obtain ⟨q9, hq9, rfl, hM6⟩ := hv
              refine W.widen (k := 4) (n := 16) (by decide) (by decide) ?_
              have ej : jnN zi k (V i % 65536 ^ nP zi) (V j % 65536 ^ nP zi) = (V i % 65536 ^ nP zi) := by unfold jnN; rw [if_neg h5, if_pos h6, if_neg h7]
              exact rt_ni (mu := zM z0 mc lf dg) C0 (bI_nar _) ⟨_, _, _, Or.inl ⟨i, j, hi, hj, rfl, rfl, hk9, by rw [ej], by rw [ej], rfl⟩, hM6⟩ hS rfl dX4_join_111
        · skip
          refine lv_aload hx hb dX4_join_73 (lv_at hl 2 rfl) ?_
          refine lv_aload hx hb dX4_join_75 (lv_at hl 1 rfl) ?_
          refine cn_S (As := [.ref q1, .ref q2]) (rest := [.int (nI i), .ref z0]) C0 hl hK hS hA (fun z h => absurd h (fun z => z)) (c_sum l g H4 q1 q2 (nP zi) (V i % 65536 ^ nP zi) (V j % 65536 ^ nP zi) (by rcases nP_or zi with h | h <;> omega) g14 g2) gX4_join_X4_sum rfl ⟨rfl, rfl⟩ (show hd_ok yX4_sum 2 from ⟨by decide, by decide, by decide +kernel⟩) ⟨Nat.le_of_ble_eq_true rfl, Nat.le_of_ble_eq_true rfl⟩ rfl (Nat.le_of_ble_eq_true rfl) ⟨by decide, by decide⟩ dX4_join_77 (fun r1 H5 locs hv hzz hk5 hS => ?_)
          obtain ⟨q3, rfl, hq3, g3⟩ := hv
          have hM5 := hM4.same (fun q h => hk5 q h (fun z => z))
          obtain ⟨hz5, -⟩ := id hM5
          refine lv_goto (tgt := 108) hx hb dX4_join_80 (by decide) ?_
          refine cn_V (As := [.int (nI i), .ref q3]) (rest := []) C0 hl hK hS hA (fun z h => Or.inl (Or.inr (Or.inl h))) (c_become l g H5 z0 mc lf dg i q3 (nP zi) (((V i % 65536 ^ nP zi) + (V j % 65536 ^ nP zi)) % 65536 ^ nP zi) _ rr V hM5 hi (nP_or zi) (Nat.mod_lt _ (Nat.pow_pos (by decide))) g3) gX4_join_X4_become rfl ⟨rfl, rfl⟩ ((va_recv hK.1 (p1 hz5) (ci := 5) (q0 := 0) rfl rfl)) ⟨rfl, (show hd_ok yX4_become 2 from ⟨by decide, by decide, by decide +kernel⟩)⟩ ⟨Nat.le_of_ble_eq_true rfl, Nat.le_of_ble_eq_true rfl⟩ rfl (Nat.le_of_ble_eq_true rfl) ⟨by decide, by decide⟩ dX4_join_108 (fun r1 H6 locs hv hzz hk6 hS => ?_)
          obtain ⟨q9, hq9, rfl, hM6⟩ := hv
          have ej : jnN zi k (V i % 65536 ^ nP zi) (V j % 65536 ^ nP zi) = ((V i % 65536 ^ nP zi) + (V j % 65536 ^ nP zi)) % 65536 ^ nP zi := by unfold jnN; rw [if_pos h5]
          exact rt_ni (mu := zM z0 mc lf dg) C0 (bI_nar _) ⟨_, _, _, Or.inl ⟨i, j, hi, hj, rfl, rfl, hk9, by rw [ej], by rw [ej], rfl⟩, hM6⟩ hS rfl dX4_join_111
      · skip
        have h3 := h4
        have h91 := of_decide_eq_true (bI_n0 h1)
        have h92 := of_decide_eq_true (bI_n0 h2)
        refine lv_aload_n hx hb dX4_join_34 rfl (lv_at hl 0 rfl) ?_
        refine lv_iconst (v := nI 2) hx hb dX4_join_35 (by decide) ?_
        refine cn_V (As := [.int (nI 2)]) (rest := []) C0 hl hK hS hA (fun z h => Or.inl h) (c_refuses l g H1 z0 mc lf dg _ rr V hM1 (nI 2)) gX4_join_X4_refuses rfl ⟨rfl, rfl⟩ ((va_recv hK.1 (p1 hz1) (ci := 5) (q0 := 0) rfl rfl)) ⟨rfl, (show hd_ok yX4_refuses 1 from ⟨by decide, by decide, by decide +kernel⟩)⟩ ⟨Nat.le_of_ble_eq_true rfl, Nat.le_of_ble_eq_true rfl⟩ rfl (Nat.le_of_ble_eq_true rfl) ⟨by decide, by decide⟩ dX4_join_36 (fun r1 H2 locs hv hzz hk2 hS => ?_)
        obtain ⟨fs2, rr2, V2, ⟨rfl, rfl, rfl⟩, hM2⟩ := hv
        refine W.widen (k := 4) (n := 16) (by decide) (by decide) ?_
        exact rt_ni (mu := zM z0 mc lf dg) C0 rfl ⟨_, _, _, Or.inr (Or.inr ⟨h91, h92, of_decide_eq_false (bI_0 h3), rfl, List.set_set _, rfl⟩), hM2⟩ hS rfl dX4_join_39
    · skip
      have h3 := h2
      refine lv_aload_n hx hb dX4_join_19 rfl (lv_at hl 0 rfl) ?_
      refine lv_iconst (v := nI 1) hx hb dX4_join_20 (by decide) ?_
      refine cn_V (As := [.int (nI 1)]) (rest := []) C0 hl hK hS hA (fun z h => Or.inl h) (c_refuses l g H1 z0 mc lf dg _ rr V hM1 (nI 1)) gX4_join_X4_refuses rfl ⟨rfl, rfl⟩ ((va_recv hK.1 (p1 hz1) (ci := 5) (q0 := 0) rfl rfl)) ⟨rfl, (show hd_ok yX4_refuses 1 from ⟨by decide, by decide, by decide +kernel⟩)⟩ ⟨Nat.le_of_ble_eq_true rfl, Nat.le_of_ble_eq_true rfl⟩ rfl (Nat.le_of_ble_eq_true rfl) ⟨by decide, by decide⟩ dX4_join_21 (fun r1 H2 locs hv hzz hk2 hS => ?_)
      obtain ⟨fs2, rr2, V2, ⟨rfl, rfl, rfl⟩, hM2⟩ := hv
      refine W.widen (k := 4) (n := 16) (by decide) (by decide) ?_
      exact rt_ni (mu := zM z0 mc lf dg) C0 rfl ⟨_, _, _, Or.inr (Or.inl ⟨fun z => of_decide_eq_false (bI_0 h3) z.2, rfl, List.set_set _, rfl⟩), hM2⟩ hS rfl dX4_join_24
end M33

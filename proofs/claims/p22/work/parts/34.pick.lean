-- the model's public calls: pick
theorem oneN_of (v : Nat) (hi : Bool) : ∀ n, oneN v hi n = -1 ∨ ∃ k, k < n ∧ oneN v hi n = nI k
  | 0 => Or.inl rfl
  | n + 1 => by
    unfold oneN
    split
    · exact Or.inr ⟨n, by omega, rfl⟩
    · rcases oneN_of v hi n with h | ⟨j, hj, h⟩
      · exact Or.inl h
      · exact Or.inr ⟨j, by omega, h⟩
/-- one place alone, or none -/
def pkN (t : Int32) : Nat := if t = -1 then 0 else 2 ^ t.toNatClampNeg
section M34
variable {p : Program} {l : Launch} {e : Env} {s : State} {m : MethodId} {args : Array Value} {below : List Frame} {meth : Method} {c : Code} {H H0 : Heap} {locs : List Loc} {cells slots : Nat} {Q : State → Prop} {A : Nat → Prop} {g : Gx}
abbrev rmX4_pick : Room := { frames := 3, cells := 3, slots := 12, locals := 66 }
set_option maxHeartbeats 4000000 in
set_option maxRecDepth 100000 in
/-- pick(cell, isHighest, isInt) -/
theorem c_pick (l : Launch) (g : Gx) (H0 : Heap) (z0 mc lf dg : Nat) (fs : List Value) (rr V : Nat → Nat) (hM : MD g H0 z0 mc lf dg fs rr V) (x : Int32) (zh zi : Bool) : Met l yX4_pick wsX4_pick rmX4_pick (va_Pc [.ref z0, .int x, .int (bI zh), .int (bI zi)] (hB g H0)) (nQ H0 (zM z0 mc lf dg) (zQ g z0 mc lf dg (fun r fs2 V2 => (∃ i : Nat, i < 8 ∧ x = nI i ∧ r = some (.int (oneN (V i % 65536 ^ nP zi) zh (16 * nP zi))) ∧ V2 = va_up V i (wideN (nP zi) (pkN (oneN (V i % 65536 ^ nP zi) zh (16 * nP zi)))) ∧ fs2 = fs.set 0 (.int (nI 0))) ∨ (¬ isC x ∧ r = some (.int (nI 0)) ∧ fs2 = fs.set 0 (.int (nI 1)) ∧ V2 = V)))) 3 12 (fun q => zM z0 mc lf dg q ∨ H0.size ≤ q) := by
  refine cx_met (own := RX4) (cc := cX4_pick) (maxL := 7) (by decide) rfl rfl (Nat.le_of_ble_eq_true rfl) ?_
  intro p e s m below meth c ls C0 hB0 hnm hl
  obtain ⟨hH, hK⟩ := hB0
  obtain ⟨hx, hb, hr, hml, hown, hts, hlk⟩ := id C0
  subst hH
  have hS : va_S (fun q => zM z0 mc lf dg q ∨ s.heap.size ≤ q) s.heap s.heap [] := va_S.rf
  have hA : ∀ q : Nat, s.heap.size ≤ q → (fun q => zM z0 mc lf dg q ∨ s.heap.size ≤ q) q := fun q h => Or.inr h
  have hl : lv_has ls 7 [(0, .ref z0), (1, .int x), (2, .int (bI zh)), (3, .int (bI zi))] := hl
  obtain ⟨hz, hfl, -⟩ := id hM
  refine lv_aload_n hx hb dX4_pick_0 rfl (lv_at hl 0 rfl) ?_
  refine lv_iconst (v := nI 0) hx hb dX4_pick_1 (by decide) ?_
  refine w_putf (ci := 5) (C := RX4) (T := TX4) (N := 10) (ty := .int) hx hb hts (by decide +kernel) tyX4 tyX4_ok nmX4 hown hK hS hz (Or.inl (Or.inl rfl)) rfl 0 (by decide) (hts (.fieldLink RX4 27 "RadixbenchModel" "thrown" "I") (by decide +kernel)) (fun _ h9 => h9) rfl (by decide +kernel) rfl rfl (by rw [hfl]; decide) dX4_pick_2 (fun H1 locs hz1 hs1 ho1 hS => ?_)
  have hM1 := hM.fset (by decide) (by decide) (by decide) ho1 hz1
  obtain ⟨-, hfl1, hmc, hdg, hlf, ⟨fr, hg9, hfr⟩, hrr, -, -, -⟩ := id hM1
  refine lv_iload_n hx hb dX4_pick_5 rfl (lv_at hl 1 rfl) ?_
  refine cp_S (As := [.int x]) (rest := []) C0 hl hK hS hA (c_isCell l g H1 x) gX4_pick_X4_isCell rfl ⟨rfl, rfl⟩ (show hd_ok yX4_isCell 1 from ⟨by decide, by decide, by decide +kernel⟩) ⟨Nat.le_of_ble_eq_true rfl, Nat.le_of_ble_eq_true rfl⟩ rfl (Nat.le_of_ble_eq_true rfl) ⟨by decide, by decide⟩ dX4_pick_6 (fun locs hS => ?_)
  refine lv_if_ne (tgt := 18) hx hb dX4_pick_9 (by decide) (fun h1 => ?_) (fun h1 => ?_)
  · skip
    obtain ⟨i, hi, rfl⟩ := cell_of (of_decide_eq_true (bI_n0 h1))
    refine lv_aload_n hx hb dX4_pick_18 rfl (lv_at hl 0 rfl) ?_
    refine lv_iload_n hx hb dX4_pick_19 rfl (lv_at hl 1 rfl) ?_
    refine lv_iload_n hx hb dX4_pick_20 rfl (lv_at hl 3 rfl) ?_
    refine cn_V (As := [.int (nI i), .int (bI zi)]) (rest := []) C0 hl hK hS hA (fun z h => absurd h (fun z => z)) (c_of l g H1 z0 mc i (rr i) (V i) zi _ fr hz1 hmc hg9 (hfr i hi) hi (hrr i hi).1) gX4_pick_X4_of rfl ⟨rfl, rfl⟩ ((va_recv hK.1 (p1 hz1) (ci := 5) (q0 := 0) rfl rfl)) ⟨rfl, (show hd_ok yX4_of 2 from ⟨by decide, by decide, by decide +kernel⟩)⟩ ⟨Nat.le_of_ble_eq_true rfl, Nat.le_of_ble_eq_true rfl⟩ rfl (Nat.le_of_ble_eq_true rfl) ⟨by decide, by decide⟩ dX4_pick_21 (fun r1 H2 locs hv hzz hk2 hS => ?_)
    obtain ⟨q1, rfl, hq1, g1⟩ := hv
    have hM2 := hM1.same (fun q h => hk2 q h (fun z => z))
    have hz12 := hzz
    have hN : nP zi ≤ 4 := by rcases nP_or zi with h | h <;> omega
    have g1 : va_at g.1 vwCl (q1, .inl (g.2 0, nP zi, .inl (rw16 (V i % 65536 ^ nP zi)))) H2 := g1
    refine lv_astore (lv' := [(4, .ref q1), (0, .ref z0), (1, .int (nI i)), (2, .int (bI zh)), (3, .int (bI zi))]) hx hb dX4_pick_24 hl (by decide) rfl (fun ls hl => ?_)
    refine lv_aload hx hb dX4_pick_26 (lv_at hl 0 rfl) ?_
    refine lv_iload_n hx hb dX4_pick_28 rfl (lv_at hl 3 rfl) ?_
    refine cp_S (As := [.ref q1, .int (bI zh)]) (rest := []) C0 hl hK hS hA (c_one l g H2 q1 (nP zi) (V i % 65536 ^ nP zi) zh (by omega) g1) gX4_pick_X4_one rfl ⟨rfl, rfl⟩ (show hd_ok yX4_one 2 from ⟨by decide, by decide, by decide +kernel⟩) ⟨Nat.le_of_ble_eq_true rfl, Nat.le_of_ble_eq_true rfl⟩ rfl (Nat.le_of_ble_eq_true rfl) ⟨by decide, by decide⟩ dX4_pick_29 (fun locs hS => ?_)
    refine lv_istore (lv' := [(5, .int (oneN (V i % 65536 ^ nP zi) zh (16 * nP zi))), (4, .ref q1), (0, .ref z0), (1, .int (nI i)), (2, .int (bI zh)), (3, .int (bI zi))]) hx hb dX4_pick_32 hl (by decide) rfl (fun ls hl => ?_)
    refine lv_aload hx hb dX4_pick_34 (lv_at hl 1 rfl) ?_
    refine w_alen hx hb hK (p1 g1) 0 rfl dX4_pick_36 ?_
    refine w_newF hx hb (hts (.arrayClass .int) (by decide +kernel)) hK hS (by omega) (by decide) (by show _ ≤ 12; omega) dX4_pick_37 (fun q6 H3 hq6 g6 hz23 hk3 hS => ?_)
    refine W.widen (k := 2) (n := 8) (by decide) (by omega) ?_
    have hM3 := hM2.same hk3
    obtain ⟨hz3, -⟩ := id hM3
    refine lv_astore (lv' := [(6, .ref q6), (5, .int (oneN (V i % 65536 ^ nP zi) zh (16 * nP zi))), (4, .ref q1), (0, .ref z0), (1, .int (nI i)), (2, .int (bI zh)), (3, .int (bI zi))]) hx hb dX4_pick_39 hl (by decide) rfl (fun ls hl => ?_)
    refine lv_iload hx hb dX4_pick_41 (lv_at hl 1 rfl) ?_
    refine lv_iconst (v := (-1)) hx hb dX4_pick_43 (by decide) ?_
    refine lv_icmp_eq (tgt := 55) hx hb dX4_pick_44 (by decide) (fun h2 => ?_) (fun h2 => ?_)
    · skip
      have ep : pkN (oneN (V i % 65536 ^ nP zi) zh (16 * nP zi)) = 0 := by unfold pkN; exact if_pos h2
      refine lv_aload_n hx hb dX4_pick_55 rfl (lv_at hl 3 rfl) ?_
      refine lv_iload_n hx hb dX4_pick_56 rfl (lv_at hl 4 rfl) ?_
      refine lv_aload hx hb dX4_pick_57 (lv_at hl 0 rfl) ?_
      refine cn_V (As := [.int (nI i), .ref q6]) (rest := []) C0 hl hK hS hA (fun z h => Or.inl (Or.inr (Or.inl h))) (c_become l g H3 z0 mc lf dg i q6 (nP zi) (0) _ rr V hM3 hi (nP_or zi) (Nat.pow_pos (by decide)) (at_cong g6 (fun k _ => rw16_0 k))) gX4_pick_X4_become rfl ⟨rfl, rfl⟩ ((va_recv hK.1 (p1 hz3) (ci := 5) (q0 := 0) rfl rfl)) ⟨rfl, (show hd_ok yX4_become 2 from ⟨by decide, by decide, by decide +kernel⟩)⟩ ⟨Nat.le_of_ble_eq_true rfl, Nat.le_of_ble_eq_true rfl⟩ rfl (Nat.le_of_ble_eq_true rfl) ⟨by decide, by decide⟩ dX4_pick_59 (fun r1 H6 locs hv hzz hk6 hS => ?_)
      obtain ⟨q9, hq9, rfl, hM6⟩ := hv
      refine lv_pop hx hb dX4_pick_62 rfl ?_
      refine lv_iload hx hb dX4_pick_63 (lv_at hl 1 rfl) ?_
      exact rt_ni (mu := zM z0 mc lf dg) C0 rfl ⟨_, _, _, Or.inl ⟨i, hi, rfl, rfl, by rw [ep], rfl⟩, hM6⟩ hS rfl dX4_pick_65
    · skip
      obtain ⟨k, hk, e⟩ : ∃ k, k < 16 * nP zi ∧ oneN (V i % 65536 ^ nP zi) zh (16 * nP zi) = nI k := (oneN_of (V i % 65536 ^ nP zi) zh (16 * nP zi)).resolve_left h2
      have hk64 : k < 64 := by omega
      have hp : 2 ^ k < 65536 ^ nP zi := by rw [show (65536 : Nat) = 2 ^ 16 from rfl, ← Nat.pow_mul]; exact Nat.pow_lt_pow_right (by decide) hk
      have ep9 : pkN (oneN (V i % 65536 ^ nP zi) zh (16 * nP zi)) = 2 ^ k := by unfold pkN; rw [if_neg h2, e, nI_clamp (by omega)]
      rw [e] at hl
      refine lv_aload hx hb dX4_pick_47 (lv_at hl 0 rfl) ?_
      refine lv_iload hx hb dX4_pick_49 (lv_at hl 1 rfl) ?_
      refine lv_iconst (v := nI 1) hx hb dX4_pick_51 (by decide) ?_
      refine cn_S (As := [.ref q6, .int (nI k), .int (nI 1)]) (rest := []) C0 hl hK hS hA (fun z h => by subst h; exact Or.inr (by omega)) (c_set l g H3 q6 (nP zi) 0 k 1 (by omega) hk (by decide) (by rw [Nat.zero_div]) (at_cong g6 (fun k _ => rw16_0 k))) gX4_pick_X4_set rfl ⟨rfl, rfl⟩ (show hd_ok yX4_set 3 from ⟨by decide, by decide, by decide +kernel⟩) ⟨Nat.le_of_ble_eq_true rfl, Nat.le_of_ble_eq_true rfl⟩ rfl (Nat.le_of_ble_eq_true rfl) ⟨by decide, by decide⟩ dX4_pick_52 (fun r1 H4 locs hv hzz hk4 hS => ?_)
      obtain ⟨rfl, g64⟩ := hv
      rw [Nat.zero_add, Nat.one_mul] at g64
      have hM4 := hM2.same (fun q h => (hk4 q (Nat.lt_of_lt_of_le h hz23) (fun z => by omega)).trans (hk3 q h))
      obtain ⟨hz4, -⟩ := id hM4
      refine lv_aload_n hx hb dX4_pick_55 rfl (lv_at hl 3 rfl) ?_
      refine lv_iload_n hx hb dX4_pick_56 rfl (lv_at hl 4 rfl) ?_
      refine lv_aload hx hb dX4_pick_57 (lv_at hl 0 rfl) ?_
      refine cn_V (As := [.int (nI i), .ref q6]) (rest := []) C0 hl hK hS hA (fun z h => Or.inl (Or.inr (Or.inl h))) (c_become l g H4 z0 mc lf dg i q6 (nP zi) (2 ^ k) _ rr V hM4 hi (nP_or zi) hp g64) gX4_pick_X4_become rfl ⟨rfl, rfl⟩ ((va_recv hK.1 (p1 hz4) (ci := 5) (q0 := 0) rfl rfl)) ⟨rfl, (show hd_ok yX4_become 2 from ⟨by decide, by decide, by decide +kernel⟩)⟩ ⟨Nat.le_of_ble_eq_true rfl, Nat.le_of_ble_eq_true rfl⟩ rfl (Nat.le_of_ble_eq_true rfl) ⟨by decide, by decide⟩ dX4_pick_59 (fun r1 H6 locs hv hzz hk6 hS => ?_)
      obtain ⟨q9, hq9, rfl, hM6⟩ := hv
      refine lv_pop hx hb dX4_pick_62 rfl ?_
      refine lv_iload hx hb dX4_pick_63 (lv_at hl 1 rfl) ?_
      exact rt_ni (mu := zM z0 mc lf dg) C0 rfl ⟨_, _, _, Or.inl ⟨i, hi, rfl, by rw [e], by rw [ep9], rfl⟩, hM6⟩ hS rfl dX4_pick_65
  · skip
    refine lv_aload_n hx hb dX4_pick_12 rfl (lv_at hl 0 rfl) ?_
    refine lv_iconst (v := nI 1) hx hb dX4_pick_13 (by decide) ?_
    refine cn_V (As := [.int (nI 1)]) (rest := []) C0 hl hK hS hA (fun z h => Or.inl h) (c_refuse l g H1 z0 mc lf dg _ rr V hM1 (nI 1)) gX4_pick_X4_refuse rfl ⟨rfl, rfl⟩ ((va_recv hK.1 (p1 hz1) (ci := 5) (q0 := 0) rfl rfl)) ⟨rfl, (show hd_ok yX4_refuse 1 from ⟨by decide, by decide, by decide +kernel⟩)⟩ ⟨Nat.le_of_ble_eq_true rfl, Nat.le_of_ble_eq_true rfl⟩ rfl (Nat.le_of_ble_eq_true rfl) ⟨by decide, by decide⟩ dX4_pick_14 (fun r1 H2 locs hv hzz hk2 hS => ?_)
    obtain ⟨fs2, rr2, V2, ⟨rfl, rfl, rfl⟩, hM2⟩ := hv
    refine W.widen (k := 3) (n := 12) (by decide) (by decide) ?_
    exact rt_ni (mu := zM z0 mc lf dg) C0 rfl ⟨_, _, _, Or.inr ⟨fun z => of_decide_eq_false (bI_0 h1) z, rfl, List.set_set _, rfl⟩, hM2⟩ hS rfl dX4_pick_17
end M34

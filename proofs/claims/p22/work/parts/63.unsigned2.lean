-- THE CLASS: Unsigned
section M63
variable {p : Program} {l : Launch} {e : Env} {s : State} {m : MethodId} {args : Array Value} {below : List Frame} {meth : Method} {c : Code} {H H0 : Heap} {locs : List Loc} {cells slots : Nat} {Q : State → Prop} {A : Nat → Prop} {g : Gx}
abbrev rmX1_isLess : Room := { frames := 0, cells := 0, slots := 0, locals := 0 }
set_option maxHeartbeats 4000000 in
set_option maxRecDepth 100000 in
/-- isLess(one, other) -/
theorem c_uLess (l : Launch) (g : Gx) (H0 : Heap) (u v : Nat) (hu : u < 2 ^ 64) (hv : v < 2 ^ 64) : Met l yX1_isLess wsX1_isLess rmX1_isLess (va_Pc [.long (lN u), .long (lN v)] (hB g H0)) (pQ (some (.int (bI (decide (u < v))))) H0) 0 0 (fun q => H0.size ≤ q) := by
  refine cx_met (own := RX1) (cc := cX1_isLess) (maxL := 4) (by decide) rfl rfl (Nat.le_of_ble_eq_true rfl) ?_
  intro p e s m below meth c ls C0 hB0 hnm hl
  obtain ⟨hH, hK⟩ := hB0
  obtain ⟨hx, hb, hr, hml, hown, hts, hlk⟩ := id C0
  subst hH
  have hS : va_S (fun q => s.heap.size ≤ q) s.heap s.heap [] := va_S.rf
  have hA : ∀ q : Nat, s.heap.size ≤ q → s.heap.size ≤ q := fun q h => h
  have hl : lv_has ls 4 [(0, .long (lN u)), (2, .long (lN v))] := hl
  refine lv_lload_n hx hb dX1_isLess_0 rfl (lv_at hl 0 rfl) ?_
  refine lv_ldc2 (v := (-9223372036854775808)) hx hb hown (hts (.constantLong RX1 9 (-9223372036854775808)) (by decide +kernel)) dX1_isLess_1 ?_
  refine lv_ladd hx hb dX1_isLess_4 ?_
  refine lv_lload_n hx hb dX1_isLess_5 rfl (lv_at hl 1 rfl) ?_
  refine lv_ldc2 (v := (-9223372036854775808)) hx hb hown (hts (.constantLong RX1 9 (-9223372036854775808)) (by decide +kernel)) dX1_isLess_6 ?_
  refine lv_ladd hx hb dX1_isLess_9 ?_
  refine W.lcmp hx hb dX1_isLess_10 ?_
  refine lv_if_ge (tgt := 18) hx hb dX1_isLess_11 (by decide) (fun h1 => ?_) (fun h1 => ?_)
  · skip
    refine lv_iconst (v := nI 0) hx hb dX1_isLess_18 (by decide) ?_
    exact rt_z C0 (by rw [bI_f (decide_eq_false (fun z => lc_ge h1 ((ltU hu hv).mpr z)))]; rfl) (by rfl) hS rfl dX1_isLess_19
  · skip
    refine lv_iconst (v := nI 1) hx hb dX1_isLess_14 (by decide) ?_
    refine lv_goto (tgt := 19) hx hb dX1_isLess_15 (by decide) ?_
    exact rt_z C0 (by rw [bI_t (decide_eq_true ((ltU hu hv).mp (lc_nge h1)))]; rfl) (by rfl) hS rfl dX1_isLess_19
abbrev rmX1_quotient : Room := { frames := 1, cells := 0, slots := 0, locals := 23 }
set_option maxHeartbeats 4000000 in
set_option maxRecDepth 100000 in
/-- quotient(number, by) -/
theorem c_uQuo (l : Launch) (g : Gx) (H0 : Heap) (u v : Nat) (hu : u < 2 ^ 64) (hv : v < 2 ^ 64) : Met l yX1_quotient wsX1_quotient rmX1_quotient (va_Pc [.long (lN u), .long (lN v)] (hB g H0)) (pQ (some (.long (lN (u / v)))) H0) 0 0 (fun q => H0.size ≤ q) := by
  refine cx_met (own := RX1) (cc := cX1_quotient) (maxL := 6) (by decide) rfl rfl (Nat.le_of_ble_eq_true rfl) ?_
  intro p e s m below meth c ls C0 hB0 hnm hl
  obtain ⟨hH, hK⟩ := hB0
  obtain ⟨hx, hb, hr, hml, hown, hts, hlk⟩ := id C0
  subst hH
  have hS : va_S (fun q => s.heap.size ≤ q) s.heap s.heap [] := va_S.rf
  have hA : ∀ q : Nat, s.heap.size ≤ q → s.heap.size ≤ q := fun q h => h
  have hl : lv_has ls 6 [(0, .long (lN u)), (2, .long (lN v))] := hl
  refine lv_lload_n hx hb dX1_quotient_0 rfl (lv_at hl 1 rfl) ?_
  refine lv_lconst (v := lN 0) hx hb dX1_quotient_1 rfl ?_
  refine W.lcmp hx hb dX1_quotient_2 ?_
  refine lv_if_ne (tgt := 8) hx hb dX1_quotient_3 (by decide) (fun h1 => ?_) (fun h1 => ?_)
  · skip
    have hv0 : v ≠ 0 := fun z => lc_ne h1 (by rw [z])
    refine lv_lload_n hx hb dX1_quotient_8 rfl (lv_at hl 1 rfl) ?_
    refine lv_lconst (v := lN 0) hx hb dX1_quotient_9 rfl ?_
    refine W.lcmp hx hb dX1_quotient_10 ?_
    refine lv_if_ge (tgt := 28) hx hb dX1_quotient_11 (by decide) (fun h2 => ?_) (fun h2 => ?_)
    · skip
      have hv63 : v < 2 ^ 63 := Nat.lt_of_not_le (fun z => lc_ge h2 ((neg_lN hv).mpr z))
      obtain ⟨q1, q2, q3⟩ := quo_half (u := u) (v := v) (by omega)
      refine lv_lload_n hx hb dX1_quotient_28 rfl (lv_at hl 0 rfl) ?_
      refine lv_iconst (v := nI 1) hx hb dX1_quotient_29 (by decide) ?_
      refine lv_lushr (v := lN (u / 2)) hx hb dX1_quotient_30 (wb_shr hu (k := 1) (by decide)) ?_
      refine lv_lload_n hx hb dX1_quotient_31 rfl (lv_at hl 1 rfl) ?_
      refine lv_ldiv hx hb dX1_quotient_32 (fun z => hv0 ((lN_inj hv (v := 0) (by decide)).mp z)) ?_
      refine tp_l (y := lN (u / 2 / v)) (pk_lDiv (by omega) (by omega) hv63) ?_
      refine lv_iconst (v := nI 1) hx hb dX1_quotient_33 (by decide) ?_
      refine lv_lshl (v := lN (u / 2 / v * 2)) hx hb dX1_quotient_34 (wb_shl (u / 2 / v) (k := 1) (by decide)) ?_
      refine lv_lstore (lv' := [(4, .long (lN (u / 2 / v * 2))), (0, .long (lN u)), (2, .long (lN v))]) hx hb dX1_quotient_35 hl (by decide) rfl (fun ls hl => ?_)
      refine lv_lload_n hx hb dX1_quotient_37 rfl (lv_at hl 1 rfl) ?_
      refine lv_lload hx hb dX1_quotient_38 (lv_at hl 0 rfl) ?_
      refine lv_lload_n hx hb dX1_quotient_40 rfl (lv_at hl 2 rfl) ?_
      refine lv_lmul hx hb dX1_quotient_41 ?_
      refine tp_l (y := lN (u / 2 / v * 2 * v)) (lN_mul _ _) ?_
      refine lv_lsub hx hb dX1_quotient_42 ?_
      refine tp_l (y := lN (u - u / 2 / v * 2 * v)) (lN_sub q1) ?_
      refine lv_lload_n hx hb dX1_quotient_43 rfl (lv_at hl 2 rfl) ?_
      refine cp_S (As := [.long (lN (u - u / 2 / v * 2 * v)), .long (lN v)]) (rest := []) C0 hl hK hS hA (c_uLess l g s.heap (u - u / 2 / v * 2 * v) v (by omega) hv) gX1_quotient_X1_isLess rfl ⟨rfl, rfl⟩ (show hd_ok yX1_isLess 2 from ⟨by decide, by decide, by decide +kernel⟩) ⟨Nat.le_of_ble_eq_true rfl, Nat.le_of_ble_eq_true rfl⟩ rfl (Nat.le_of_ble_eq_true rfl) ⟨Nat.zero_le _, Nat.zero_le _⟩ dX1_quotient_44 (fun locs hS => ?_)
      refine lv_if_eq (tgt := 55) hx hb dX1_quotient_47 (by decide) (fun h3 => ?_) (fun h3 => ?_)
      · skip
        refine lv_lload hx hb dX1_quotient_55 (lv_at hl 0 rfl) ?_
        refine lv_lconst (v := lN 1) hx hb dX1_quotient_57 rfl ?_
        refine lv_ladd hx hb dX1_quotient_58 ?_
        refine tp_l (y := lN (u / 2 / v * 2 + 1)) (lN_add _ _) ?_
        exact rt_l C0 (by rw [q3 (of_decide_eq_false (bI_0 h3))]) hS rfl dX1_quotient_59
      · skip
        refine lv_lload hx hb dX1_quotient_50 (lv_at hl 0 rfl) ?_
        refine lv_goto (tgt := 59) hx hb dX1_quotient_52 (by decide) ?_
        exact rt_l C0 (by rw [q2 (of_decide_eq_true (bI_n0 h3))]) hS rfl dX1_quotient_59
    · skip
      have hv63 : 2 ^ 63 ≤ v := (neg_lN hv).mp (lc_nge h2)
      refine lv_lload_n hx hb dX1_quotient_14 rfl (lv_at hl 0 rfl) ?_
      refine lv_lload_n hx hb dX1_quotient_15 rfl (lv_at hl 1 rfl) ?_
      refine cp_S (As := [.long (lN u), .long (lN v)]) (rest := []) C0 hl hK hS hA (c_uLess l g s.heap u v hu hv) gX1_quotient_X1_isLess rfl ⟨rfl, rfl⟩ (show hd_ok yX1_isLess 2 from ⟨by decide, by decide, by decide +kernel⟩) ⟨Nat.le_of_ble_eq_true rfl, Nat.le_of_ble_eq_true rfl⟩ rfl (Nat.le_of_ble_eq_true rfl) ⟨Nat.zero_le _, Nat.zero_le _⟩ dX1_quotient_16 (fun locs hS => ?_)
      refine lv_if_eq (tgt := 26) hx hb dX1_quotient_19 (by decide) (fun h3 => ?_) (fun h3 => ?_)
      · skip
        refine lv_lconst (v := lN 1) hx hb dX1_quotient_26 rfl ?_
        exact rt_l C0 (by rw [quo_big hu hv63, if_neg (of_decide_eq_false (bI_0 h3))]) hS rfl dX1_quotient_27
      · skip
        refine lv_lconst (v := lN 0) hx hb dX1_quotient_22 rfl ?_
        refine lv_goto (tgt := 27) hx hb dX1_quotient_23 (by decide) ?_
        exact rt_l C0 (by rw [quo_big hu hv63, if_pos (of_decide_eq_true (bI_n0 h3))]) hS rfl dX1_quotient_27
  · skip
    have hv0 : v = 0 := (lN_inj hv (by decide)).mp (lc_eq h1)
    refine lv_lconst (v := lN 0) hx hb dX1_quotient_6 rfl ?_
    exact rt_l C0 (by rw [hv0, Nat.div_zero]) hS rfl dX1_quotient_7
end M63

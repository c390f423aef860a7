-- THE MODEL's READING: read, isNumber, would
section M56
variable {p : Program} {l : Launch} {e : Env} {s : State} {m : MethodId} {args : Array Value} {below : List Frame} {meth : Method} {c : Code} {H H0 : Heap} {locs : List Loc} {cells slots : Nat} {Q : State → Prop} {A : Nat → Prop} {g : Gx} {b0 : Nat}
abbrev rmX4_read : Room := { frames := 5, cells := 4, slots := 16, locals := 114 }
set_option maxHeartbeats 4000000 in
set_option maxRecDepth 100000 in
/-- read(cell, radix, kind) -/
theorem c_read (l : Launch) (g : Gx) (b0 : Nat) (H0 : Heap) (z0 mc lf dg : Nat) (fs : List Value) (rr V : Nat → Nat) (a b n : Nat) (t : Nat → Nat) (hT : MT g H0 z0 mc lf dg fs rr V a b n t) (hmb : ∀ q : Nat, zM z0 mc lf dg q → b0 ≤ q) (x y kd : Int32) : Met l yX4_read wsX4_read rmX4_read (va_Pc [.ref z0, .int x, .int y, .int kd] (hJ g b0 H0)) (nQ H0 (zM z0 mc lf dg) (zT g z0 mc lf dg (fun r V2 n2 t2 => (∃ rv : Int32, r = some (.int rv)) ∧ n2 = n ∧ t2 = t ∧ ((∃ i r9 d9 : Nat, i < 8 ∧ (2 ≤ r9 ∧ r9 ≤ 36) ∧ d9 < 4 ∧ x = nI i ∧ y = nI r9 ∧ kd = nI d9 ∧ ((saOK r9 n t d9 ∧ V2 = va_up V i (wideN (nP (decide (d9 < 2))) (saV r9 n t d9))) ∨ (¬ saOK r9 n t d9 ∧ V2 = V))) ∨ (¬ (isC x ∧ ((nI 2 ≤ y ∧ y ≤ nI 36) ∧ nI 0 ≤ kd ∧ kd ≤ nI 3)) ∧ V2 = V))))) 4 16 (fun q => (zM z0 mc lf dg) q ∨ H0.size ≤ q) := by
  refine cx_met (own := RX4) (cc := cX4_read) (maxL := 5) (by decide) rfl rfl (Nat.le_of_ble_eq_true rfl) ?_
  intro p e s m below meth c ls C0 hB0 hnm hl
  obtain ⟨hH, hK, hZ⟩ := hB0
  obtain ⟨hx, hb, hr, hml, hown, hts, hlk⟩ := id C0
  subst hH
  have hS : va_S (fun q => (zM z0 mc lf dg) q ∨ s.heap.size ≤ q) s.heap s.heap [] := va_S.rf
  have hA : ∀ q : Nat, s.heap.size ≤ q → (fun q => (zM z0 mc lf dg) q ∨ s.heap.size ≤ q) q := fun q h => Or.inr h
  have h0Z := hZ.1
  have hAb : ∀ q : Nat, (fun q => (zM z0 mc lf dg) q ∨ s.heap.size ≤ q) q → b0 ≤ q := fun q h => h.elim (hmb q) (fun h => Nat.le_trans h0Z h)
  have hl : lv_has ls 5 [(0, .ref z0), (1, .int x), (2, .int y), (3, .int kd)] := hl
  obtain ⟨hM, hFT, htx, hs, hna, hnb, hn70, ht128⟩ := id hT
  obtain ⟨hz, hfl, -⟩ := id hM
  refine lv_aload_n hx hb dX4_read_0 rfl (lv_at hl 0 rfl) ?_
  refine lv_iconst (v := nI 0) hx hb dX4_read_1 (by decide) ?_
  refine w_putf (ci := 5) (C := RX4) (T := TX4) (N := 10) (ty := .int) hx hb hts (by decide +kernel) tyX4 tyX4_ok nmX4 hown hK hS hz (Or.inl (Or.inl rfl)) rfl 0 (by decide) (hts (.fieldLink RX4 27 "RadixbenchModel" "thrown" "I") (by decide +kernel)) (fun _ h9 => h9) rfl (by decide +kernel) rfl rfl (by rw [hfl]; decide) dX4_read_2 (fun H1 locs hz1 hs1 ho1 hS => ?_)
  have hM1 := hM.fset (by decide) (by decide) (by decide) ho1 hz1
  obtain ⟨-, hfl1, hmc, hdg, hlf, ⟨fr, hg9, hfr⟩, hrr, -, -, -⟩ := id hM1
  have htx1 : (fs.set 0 (.int (nI 0)))[2]? = some (.ref a) := by rw [List.getElem?_set_ne (by decide)]; exact htx
  have hs1 := hs.kept (ho1 _ (fun z => hna (Or.inl z))) (ho1 _ (fun z => hnb (Or.inl z)))
  have hFT1 : FT (fs.set 0 (.int (nI 0))) := hFT.i (by decide)
  refine lv_iload_n hx hb dX4_read_5 rfl (lv_at hl 1 rfl) ?_
  refine cp_S (As := [.int x]) (rest := []) C0 hl hK hS hA (c_isCell l g H1 x) gX4_read_X4_isCell rfl ⟨rfl, rfl⟩ (show hd_ok yX4_isCell 1 from ⟨by decide, by decide, by decide +kernel⟩) ⟨Nat.le_of_ble_eq_true rfl, Nat.le_of_ble_eq_true rfl⟩ rfl (Nat.le_of_ble_eq_true rfl) ⟨by decide, by decide⟩ dX4_read_6 (fun locs hS => ?_)
  refine lv_if_ne (tgt := 18) hx hb dX4_read_9 (by decide) (fun h1 => ?_) (fun h1 => ?_)
  · skip
    obtain ⟨i, hi, rfl⟩ := cell_of (of_decide_eq_true (bI_n0 h1))
    refine lv_iload_n hx hb dX4_read_18 rfl (lv_at hl 2 rfl) ?_
    refine lv_iload_n hx hb dX4_read_19 rfl (lv_at hl 3 rfl) ?_
    refine cp_S (As := [.int y, .int kd]) (rest := []) C0 hl hK hS hA (c_isRight l g H1 y kd) gX4_read_X4_isRight rfl ⟨rfl, rfl⟩ (show hd_ok yX4_isRight 2 from ⟨by decide, by decide, by decide +kernel⟩) ⟨Nat.le_of_ble_eq_true rfl, Nat.le_of_ble_eq_true rfl⟩ rfl (Nat.le_of_ble_eq_true rfl) ⟨by decide, by decide⟩ dX4_read_20 (fun locs hS => ?_)
    refine lv_if_ne (tgt := 32) hx hb dX4_read_23 (by decide) (fun h2 => ?_) (fun h2 => ?_)
    · skip
      have h3 := of_decide_eq_true (bI_n0 h2)
      obtain ⟨r9, hr9, rfl⟩ := rad_of h3.1
      obtain ⟨d9, hd9, rfl⟩ := kin_of h3.2
      obtain ⟨x4, h4⟩ := hFT1.2.2.1
      refine lv_aload_n hx hb dX4_read_32 rfl (lv_at hl 0 rfl) ?_
      refine lv_dup hx hb dX4_read_33 rfl ?_
      refine va_get (ci := 5) (C := RX4) (T := TX4) (N := 10) (v := .int x4) hx hb hts (by decide +kernel) hown hK.1 (p1 hz1) 0 rfl rfl 4 (by decide) (hts (.fieldLink RX4 176 "RadixbenchModel" "reads" "I") (by decide +kernel)) (fun _ h9 => h9) h4 dX4_read_34 ?_
      refine lv_iconst (v := nI 1) hx hb dX4_read_37 (by decide) ?_
      refine lv_iadd hx hb dX4_read_38 ?_
      refine w_putf (ci := 5) (C := RX4) (T := TX4) (N := 10) (ty := .int) hx hb hts (by decide +kernel) tyX4 tyX4_ok nmX4 hown hK hS hz1 (Or.inl (Or.inl rfl)) rfl 4 (by decide) (hts (.fieldLink RX4 176 "RadixbenchModel" "reads" "I") (by decide +kernel)) (fun _ h9 => h9) rfl (by decide +kernel) rfl rfl (by rw [hfl1]; decide) dX4_read_39 (fun H2 locs hz2 hs2x ho2 hS => ?_)
      have hM2 := hM1.fset (by decide) (by decide) (by decide) ho2 hz2
      have hFT2 : FT ((fs.set 0 (.int (nI 0))).set 4 (.int (x4 + nI 1))) := hFT1.i (by decide)
      have htx2 : ((fs.set 0 (.int (nI 0))).set 4 (.int (x4 + nI 1)))[2]? = some (.ref a) := by rw [List.getElem?_set_ne (by decide)]; exact htx1
      have hs2 := hs1.kept (ho2 _ (fun z => hna (Or.inl z))) (ho2 _ (fun z => hnb (Or.inl z)))
      refine lv_aload_n hx hb dX4_read_42 rfl (lv_at hl 0 rfl) ?_
      refine va_get (ci := 5) (C := RX4) (T := TX4) (N := 10) (v := .ref a) hx hb hts (by decide +kernel) hown hK.1 (p1 hz2) 0 rfl rfl 2 (by decide) (hts (.fieldLink RX4 16 "RadixbenchModel" "text" "Ljava/lang/String;") (by decide +kernel)) (fun _ h9 => h9) htx2 dX4_read_43 ?_
      refine lv_iload_n hx hb dX4_read_46 rfl (lv_at hl 2 rfl) ?_
      refine lv_iload_n hx hb dX4_read_47 rfl (lv_at hl 3 rfl) ?_
      refine jn_S (As := [.ref a, .int (nI r9), .int (nI d9)]) (rest := []) C0 hl hK hS hA (fun q h => absurd h id) (zat hZ hS hAb) (c_said l g b0 H2 a b n r9 d9 t hs2 hn70 ht128 hr9 hd9) gX4_read_X4_said rfl ⟨rfl, rfl⟩ (show hd_ok yX4_said 3 from ⟨by decide, by decide, by decide +kernel⟩) ⟨Nat.le_of_ble_eq_true rfl, Nat.le_of_ble_eq_true rfl⟩ rfl (Nat.le_of_ble_eq_true rfl) ⟨by decide, by decide⟩ dX4_read_48 (fun v H3 locs hv hzz hk3 hS => ?_)
      have hM3 := hM2.same (fun q h => hk3 q h (fun z => z))
      have hs3 := hs2.kept (hk3 _ hs2.lt (fun z => z)) (hk3 _ hs2.2.lt (fun z => z))
      obtain ⟨hz3, hfl3, -⟩ := id hM3
      rcases hv with ⟨hno, rfl⟩ | ⟨hok, q6, rfl, hq6, g6⟩
      · skip
        refine lv_astoreN (lv' := [(4, .null), (0, .ref z0), (1, .int (nI i)), (2, .int (nI r9)), (3, .int (nI d9))]) hx hb dX4_read_51 hl (by decide) rfl (fun ls hl => ?_)
        refine lv_aloadN hx hb dX4_read_53 (lv_at hl 0 rfl) ?_
        refine lv_ifnonnullN hx hb dX4_read_55 ?_
        obtain ⟨x3, h3f⟩ := hFT2.2.1
        refine lv_aload_n hx hb dX4_read_58 rfl (lv_at hl 1 rfl) ?_
        refine lv_dup hx hb dX4_read_59 rfl ?_
        refine va_get (ci := 5) (C := RX4) (T := TX4) (N := 10) (v := .int x3) hx hb hts (by decide +kernel) hown hK.1 (p1 hz3) 0 rfl rfl 3 (by decide) (hts (.fieldLink RX4 183 "RadixbenchModel" "faults" "I") (by decide +kernel)) (fun _ h9 => h9) h3f dX4_read_60 ?_
        refine lv_iconst (v := nI 1) hx hb dX4_read_63 (by decide) ?_
        refine lv_iadd hx hb dX4_read_64 ?_
        refine w_putf (ci := 5) (C := RX4) (T := TX4) (N := 10) (ty := .int) hx hb hts (by decide +kernel) tyX4 tyX4_ok nmX4 hown hK hS hz3 (Or.inl (Or.inl rfl)) rfl 3 (by decide) (hts (.fieldLink RX4 183 "RadixbenchModel" "faults" "I") (by decide +kernel)) (fun _ h9 => h9) rfl (by decide +kernel) rfl rfl (by rw [hfl3]; decide) dX4_read_65 (fun H4 locs hz4 hs4x ho4 hS => ?_)
        refine lv_iconst (v := nI 0) hx hb dX4_read_68 (by decide) ?_
        refine W.widen (k := 4) (n := 16) (by decide) (by decide) ?_
        exact rt_ni (mu := zM z0 mc lf dg) C0 rfl ⟨_, _, _, a, b, n, t, ⟨⟨_, rfl⟩, rfl, rfl, Or.inl ⟨i, r9, d9, hi, hr9, hd9, rfl, rfl, rfl, Or.inr ⟨hno, rfl⟩⟩⟩, hM3.fset (by decide) (by decide) (by decide) ho4 hz4, hFT2.i (by decide), by rw [List.getElem?_set_ne (by decide)]; exact htx2, hs3.kept (ho4 _ (fun z => hna (Or.inl z))) (ho4 _ (fun z => hnb (Or.inl z))), hna, hnb, hn70, ht128⟩ hS rfl dX4_read_69
      · skip
        refine lv_astore (lv' := [(4, .ref q6), (0, .ref z0), (1, .int (nI i)), (2, .int (nI r9)), (3, .int (nI d9))]) hx hb dX4_read_51 hl (by decide) rfl (fun ls hl => ?_)
        refine lv_aload hx hb dX4_read_53 (lv_at hl 0 rfl) ?_
        refine lv_ifnonnull (tgt := 70) hx hb dX4_read_55 (by decide) ?_
        have hok9 := hok.1.2.2
        refine lv_aload_n hx hb dX4_read_70 rfl (lv_at hl 1 rfl) ?_
        refine lv_iload_n hx hb dX4_read_71 rfl (lv_at hl 2 rfl) ?_
        refine lv_aload hx hb dX4_read_72 (lv_at hl 0 rfl) ?_
        refine cn_V (As := [.int (nI i), .ref q6]) (rest := []) C0 hl hK hS hA (fun z h => Or.inl (Or.inr (Or.inl h))) (c_become l g H3 z0 mc lf dg i q6 (nP (decide (d9 < 2))) (saV r9 n t d9) _ rr V hM3 hi (nP_or _) (rgV_lt hok9) g6) gX4_read_X4_become rfl ⟨rfl, rfl⟩ ((va_recv hK.1 (p1 hz3) (ci := 5) (q0 := 0) rfl rfl)) ⟨rfl, (show hd_ok yX4_become 2 from ⟨by decide, by decide, by decide +kernel⟩)⟩ ⟨Nat.le_of_ble_eq_true rfl, Nat.le_of_ble_eq_true rfl⟩ rfl (Nat.le_of_ble_eq_true rfl) ⟨by decide, by decide⟩ dX4_read_74 (fun r1 H4 locs hv hzz hk4 hS => ?_)
        obtain ⟨q9, hq9, rfl, hM4⟩ := hv
        refine lv_pop hx hb dX4_read_77 rfl ?_
        refine lv_iconst (v := nI 1) hx hb dX4_read_78 (by decide) ?_
        exact rt_ni (mu := zM z0 mc lf dg) C0 rfl ⟨_, _, _, a, b, n, t, ⟨⟨_, rfl⟩, rfl, rfl, Or.inl ⟨i, r9, d9, hi, hr9, hd9, rfl, rfl, rfl, Or.inl ⟨hok, rfl⟩⟩⟩, hM4, hFT2, htx2, hs3.kept (hk4 _ hs3.lt (fun z => hna (Or.inr (Or.inl z)))) (hk4 _ hs3.2.lt (fun z => hnb (Or.inr (Or.inl z)))), hna, hnb, hn70, ht128⟩ hS rfl dX4_read_79
    · skip
      have h3 := of_decide_eq_false (bI_0 h2)
      refine lv_aload_n hx hb dX4_read_26 rfl (lv_at hl 0 rfl) ?_
      refine lv_iconst (v := nI 2) hx hb dX4_read_27 (by decide) ?_
      refine cn_V (As := [.int (nI 2)]) (rest := []) C0 hl hK hS hA (fun z h => Or.inl h) (c_refuse l g H1 z0 mc lf dg _ rr V hM1 (nI 2)) gX4_read_X4_refuse rfl ⟨rfl, rfl⟩ ((va_recv hK.1 (p1 hz1) (ci := 5) (q0 := 0) rfl rfl)) ⟨rfl, (show hd_ok yX4_refuse 1 from ⟨by decide, by decide, by decide +kernel⟩)⟩ ⟨Nat.le_of_ble_eq_true rfl, Nat.le_of_ble_eq_true rfl⟩ rfl (Nat.le_of_ble_eq_true rfl) ⟨by decide, by decide⟩ dX4_read_28 (fun r1 H2 locs hv hzz hk2 hS => ?_)
      obtain ⟨fs2, rr2, V2, ⟨rfl, rfl, rfl⟩, hM2⟩ := hv
      refine W.widen (k := 4) (n := 16) (by decide) (by decide) ?_
      exact rt_ni (mu := zM z0 mc lf dg) C0 rfl ⟨_, _, _, a, b, n, t, ⟨⟨_, rfl⟩, rfl, rfl, Or.inr ⟨fun z => h3 z.2, rfl⟩⟩, hM2, hFT1.i (by decide), by rw [List.getElem?_set_ne (by decide)]; exact htx1, hs1.kept (hk2 _ hs1.lt hna) (hk2 _ hs1.2.lt hnb), hna, hnb, hn70, ht128⟩ hS rfl dX4_read_31
  · skip
    have h4 := of_decide_eq_false (bI_0 h1)
    refine lv_aload_n hx hb dX4_read_12 rfl (lv_at hl 0 rfl) ?_
    refine lv_iconst (v := nI 1) hx hb dX4_read_13 (by decide) ?_
    refine cn_V (As := [.int (nI 1)]) (rest := []) C0 hl hK hS hA (fun z h => Or.inl h) (c_refuse l g H1 z0 mc lf dg _ rr V hM1 (nI 1)) gX4_read_X4_refuse rfl ⟨rfl, rfl⟩ ((va_recv hK.1 (p1 hz1) (ci := 5) (q0 := 0) rfl rfl)) ⟨rfl, (show hd_ok yX4_refuse 1 from ⟨by decide, by decide, by decide +kernel⟩)⟩ ⟨Nat.le_of_ble_eq_true rfl, Nat.le_of_ble_eq_true rfl⟩ rfl (Nat.le_of_ble_eq_true rfl) ⟨by decide, by decide⟩ dX4_read_14 (fun r1 H2 locs hv hzz hk2 hS => ?_)
    obtain ⟨fs2, rr2, V2, ⟨rfl, rfl, rfl⟩, hM2⟩ := hv
    refine W.widen (k := 4) (n := 16) (by decide) (by decide) ?_
    exact rt_ni (mu := zM z0 mc lf dg) C0 rfl ⟨_, _, _, a, b, n, t, ⟨⟨_, rfl⟩, rfl, rfl, Or.inr ⟨fun z => h4 z.1, rfl⟩⟩, hM2, hFT1.i (by decide), by rw [List.getElem?_set_ne (by decide)]; exact htx1, hs1.kept (hk2 _ hs1.lt hna) (hk2 _ hs1.2.lt hnb), hna, hnb, hn70, ht128⟩ hS rfl dX4_read_17
abbrev rmX4_isNumber : Room := { frames := 5, cells := 3, slots := 12, locals := 114 }
set_option maxHeartbeats 4000000 in
set_option maxRecDepth 100000 in
/-- isNumber(radix, kind): that it ends -/
theorem c_isNum (l : Launch) (g : Gx) (b0 : Nat) (H0 : Heap) (z0 mc lf dg : Nat) (fs : List Value) (rr V : Nat → Nat) (a b n : Nat) (t : Nat → Nat) (hT : MT g H0 z0 mc lf dg fs rr V a b n t) (hmb : ∀ q : Nat, zM z0 mc lf dg q → b0 ≤ q) (x y : Int32) : Met l yX4_isNumber wsX4_isNumber rmX4_isNumber (va_Pc [.ref z0, .int x, .int y] (hJ g b0 H0)) (nQ H0 (zM z0 mc lf dg) (zT g z0 mc lf dg (fun r V2 n2 t2 => (∃ rv : Int32, r = some (.int rv)) ∧ V2 = V ∧ n2 = n ∧ t2 = t))) 3 12 (fun q => (zM z0 mc lf dg) q ∨ H0.size ≤ q) := by
  refine cx_met (own := RX4) (cc := cX4_isNumber) (maxL := 3) (by decide) rfl rfl (Nat.le_of_ble_eq_true rfl) ?_
  intro p e s m below meth c ls C0 hB0 hnm hl
  obtain ⟨hH, hK, hZ⟩ := hB0
  obtain ⟨hx, hb, hr, hml, hown, hts, hlk⟩ := id C0
  subst hH
  have hS : va_S (fun q => (zM z0 mc lf dg) q ∨ s.heap.size ≤ q) s.heap s.heap [] := va_S.rf
  have hA : ∀ q : Nat, s.heap.size ≤ q → (fun q => (zM z0 mc lf dg) q ∨ s.heap.size ≤ q) q := fun q h => Or.inr h
  have h0Z := hZ.1
  have hAb : ∀ q : Nat, (fun q => (zM z0 mc lf dg) q ∨ s.heap.size ≤ q) q → b0 ≤ q := fun q h => h.elim (hmb q) (fun h => Nat.le_trans h0Z h)
  have hl : lv_has ls 3 [(0, .ref z0), (1, .int x), (2, .int y)] := hl
  obtain ⟨hM, hFT, htx, hs, hna, hnb, hn70, ht128⟩ := id hT
  obtain ⟨hz, hfl, -⟩ := id hM
  refine lv_aload_n hx hb dX4_isNumber_0 rfl (lv_at hl 0 rfl) ?_
  refine lv_iconst (v := nI 0) hx hb dX4_isNumber_1 (by decide) ?_
  refine w_putf (ci := 5) (C := RX4) (T := TX4) (N := 10) (ty := .int) hx hb hts (by decide +kernel) tyX4 tyX4_ok nmX4 hown hK hS hz (Or.inl (Or.inl rfl)) rfl 0 (by decide) (hts (.fieldLink RX4 27 "RadixbenchModel" "thrown" "I") (by decide +kernel)) (fun _ h9 => h9) rfl (by decide +kernel) rfl rfl (by rw [hfl]; decide) dX4_isNumber_2 (fun H1 locs hz1 hs1 ho1 hS => ?_)
  have hM1 := hM.fset (by decide) (by decide) (by decide) ho1 hz1
  obtain ⟨-, hfl1, hmc, hdg, hlf, ⟨fr, hg9, hfr⟩, hrr, -, -, -⟩ := id hM1
  have htx1 : (fs.set 0 (.int (nI 0)))[2]? = some (.ref a) := by rw [List.getElem?_set_ne (by decide)]; exact htx
  have hs1 := hs.kept (ho1 _ (fun z => hna (Or.inl z))) (ho1 _ (fun z => hnb (Or.inl z)))
  have hFT1 : FT (fs.set 0 (.int (nI 0))) := hFT.i (by decide)
  refine lv_iload_n hx hb dX4_isNumber_5 rfl (lv_at hl 1 rfl) ?_
  refine lv_iload_n hx hb dX4_isNumber_6 rfl (lv_at hl 2 rfl) ?_
  refine cp_S (As := [.int x, .int y]) (rest := []) C0 hl hK hS hA (c_isRight l g H1 x y) gX4_isNumber_X4_isRight rfl ⟨rfl, rfl⟩ (show hd_ok yX4_isRight 2 from ⟨by decide, by decide, by decide +kernel⟩) ⟨Nat.le_of_ble_eq_true rfl, Nat.le_of_ble_eq_true rfl⟩ rfl (Nat.le_of_ble_eq_true rfl) ⟨by decide, by decide⟩ dX4_isNumber_7 (fun locs hS => ?_)
  refine lv_if_ne (tgt := 19) hx hb dX4_isNumber_10 (by decide) (fun h2 => ?_) (fun h2 => ?_)
  · skip
    have h3 := of_decide_eq_true (bI_n0 h2)
    obtain ⟨r9, hr9, rfl⟩ := rad_of h3.1
    obtain ⟨d9, hd9, rfl⟩ := kin_of h3.2
    refine lv_aload_n hx hb dX4_isNumber_19 rfl (lv_at hl 0 rfl) ?_
    refine va_get (ci := 5) (C := RX4) (T := TX4) (N := 10) (v := .ref a) hx hb hts (by decide +kernel) hown hK.1 (p1 hz1) 0 rfl rfl 2 (by decide) (hts (.fieldLink RX4 16 "RadixbenchModel" "text" "Ljava/lang/String;") (by decide +kernel)) (fun _ h9 => h9) htx1 dX4_isNumber_20 ?_
    refine lv_iload_n hx hb dX4_isNumber_23 rfl (lv_at hl 1 rfl) ?_
    refine lv_iload_n hx hb dX4_isNumber_24 rfl (lv_at hl 2 rfl) ?_
    refine jn_S (As := [.ref a, .int (nI r9), .int (nI d9)]) (rest := []) C0 hl hK hS hA (fun q h => absurd h id) (zat hZ hS hAb) (c_said l g b0 H1 a b n r9 d9 t hs1 hn70 ht128 hr9 hd9) gX4_isNumber_X4_said rfl ⟨rfl, rfl⟩ (show hd_ok yX4_said 3 from ⟨by decide, by decide, by decide +kernel⟩) ⟨Nat.le_of_ble_eq_true rfl, Nat.le_of_ble_eq_true rfl⟩ rfl (Nat.le_of_ble_eq_true rfl) ⟨by decide, by decide⟩ dX4_isNumber_25 (fun v H3 locs hv hzz hk3 hS => ?_)
    rcases hv with ⟨hno, rfl⟩ | ⟨hok, q6, rfl, hq6, g6⟩
    · skip
      refine lv_ifnullN (tgt := 35) hx hb dX4_isNumber_28 (by decide) ?_
      refine lv_iconst (v := nI 0) hx hb dX4_isNumber_35 (by decide) ?_
      exact rt_ni (mu := zM z0 mc lf dg) C0 (by rfl) ⟨_, _, _, a, b, n, t, ⟨⟨_, rfl⟩, rfl, rfl, rfl⟩, hM1.same (fun q h => hk3 q h (fun z => z)), hFT1, htx1, hs1.kept (hk3 _ hs1.lt (fun z => z)) (hk3 _ hs1.2.lt (fun z => z)), hna, hnb, hn70, ht128⟩ hS rfl dX4_isNumber_36
    · skip
      refine lv_ifnull hx hb dX4_isNumber_28 ?_
      refine lv_iconst (v := nI 1) hx hb dX4_isNumber_31 (by decide) ?_
      refine lv_goto (tgt := 36) hx hb dX4_isNumber_32 (by decide) ?_
      exact rt_ni (mu := zM z0 mc lf dg) C0 (by rfl) ⟨_, _, _, a, b, n, t, ⟨⟨_, rfl⟩, rfl, rfl, rfl⟩, hM1.same (fun q h => hk3 q h (fun z => z)), hFT1, htx1, hs1.kept (hk3 _ hs1.lt (fun z => z)) (hk3 _ hs1.2.lt (fun z => z)), hna, hnb, hn70, ht128⟩ hS rfl dX4_isNumber_36
  · skip
    refine lv_aload_n hx hb dX4_isNumber_13 rfl (lv_at hl 0 rfl) ?_
    refine lv_iconst (v := nI 1) hx hb dX4_isNumber_14 (by decide) ?_
    refine cn_V (As := [.int (nI 1)]) (rest := []) C0 hl hK hS hA (fun z h => Or.inl h) (c_refuses l g H1 z0 mc lf dg _ rr V hM1 (nI 1)) gX4_isNumber_X4_refuses rfl ⟨rfl, rfl⟩ ((va_recv hK.1 (p1 hz1) (ci := 5) (q0 := 0) rfl rfl)) ⟨rfl, (show hd_ok yX4_refuses 1 from ⟨by decide, by decide, by decide +kernel⟩)⟩ ⟨Nat.le_of_ble_eq_true rfl, Nat.le_of_ble_eq_true rfl⟩ rfl (Nat.le_of_ble_eq_true rfl) ⟨by decide, by decide⟩ dX4_isNumber_15 (fun r1 H2 locs hv hzz hk2 hS => ?_)
    obtain ⟨fs2, rr2, V2, ⟨rfl, rfl, rfl⟩, hM2⟩ := hv
    refine W.widen (k := 3) (n := 12) (by decide) (by decide) ?_
    exact rt_ni (mu := zM z0 mc lf dg) C0 rfl ⟨_, _, _, a, b, n, t, ⟨⟨_, rfl⟩, rfl, rfl, rfl⟩, hM2, hFT1.i (by decide), by rw [List.getElem?_set_ne (by decide)]; exact htx1, hs1.kept (hk2 _ hs1.lt hna) (hk2 _ hs1.2.lt hnb), hna, hnb, hn70, ht128⟩ hS rfl dX4_isNumber_18
abbrev rmX4_wouldNow : Room := { frames := 5, cells := 4, slots := 16, locals := 114 }
set_option maxHeartbeats 4000000 in
set_option maxRecDepth 100000 in
/-- wouldNow(radix, kind, isHigh): that it ends -/
theorem c_wouldNow (l : Launch) (g : Gx) (b0 : Nat) (H0 : Heap) (z0 : Nat) (fs : List Value) (a b n : Nat) (t : Nat → Nat) (hz : va_at g.1 vwCl (z0, .inr (5, fs)) H0) (htx : fs[2]? = some (.ref a)) (hs : sS g a b n t H0) (hn70 : n ≤ 70) (ht128 : ∀ j, j < n → t j < 128) (r9 d9 : Nat) (hr9 : 2 ≤ r9 ∧ r9 ≤ 36) (hd9 : d9 < 4) (zh : Bool) : Met l yX4_wouldNow wsX4_wouldNow rmX4_wouldNow (va_Pc [.ref z0, .int (nI r9), .int (nI d9), .int (bI zh)] (hJ g b0 H0)) (nQ H0 (fun _ => False) (fun r _ => ∃ rv : Int32, r = some (.int rv))) 4 16 (fun q => (fun _ => False) q ∨ H0.size ≤ q) := by
  refine cx_met (own := RX4) (cc := cX4_wouldNow) (maxL := 5) (by decide) rfl rfl (Nat.le_of_ble_eq_true rfl) ?_
  intro p e s m below meth c ls C0 hB0 hnm hl
  obtain ⟨hH, hK, hZ⟩ := hB0
  obtain ⟨hx, hb, hr, hml, hown, hts, hlk⟩ := id C0
  subst hH
  have hS : va_S (fun q => (fun _ => False) q ∨ s.heap.size ≤ q) s.heap s.heap [] := va_S.rf
  have hA : ∀ q : Nat, s.heap.size ≤ q → (fun q => (fun _ => False) q ∨ s.heap.size ≤ q) q := fun q h => Or.inr h
  have h0Z := hZ.1
  have hAb : ∀ q : Nat, (fun q => (fun _ => False) q ∨ s.heap.size ≤ q) q → b0 ≤ q := fun q h => h.elim (fun z => absurd z id) (fun h => Nat.le_trans h0Z h)
  have hl : lv_has ls 5 [(0, .ref z0), (1, .int (nI r9)), (2, .int (nI d9)), (3, .int (bI zh))] := hl
  refine lv_aload_n hx hb dX4_wouldNow_0 rfl (lv_at hl 0 rfl) ?_
  refine va_get (ci := 5) (C := RX4) (T := TX4) (N := 10) (v := .ref a) hx hb hts (by decide +kernel) hown hK.1 (p1 hz) 0 rfl rfl 2 (by decide) (hts (.fieldLink RX4 16 "RadixbenchModel" "text" "Ljava/lang/String;") (by decide +kernel)) (fun _ h9 => h9) htx dX4_wouldNow_1 ?_
  refine lv_iload_n hx hb dX4_wouldNow_4 rfl (lv_at hl 1 rfl) ?_
  refine lv_iload_n hx hb dX4_wouldNow_5 rfl (lv_at hl 2 rfl) ?_
  refine jn_S (As := [.ref a, .int (nI r9), .int (nI d9)]) (rest := []) C0 hl hK hS hA (fun q h => absurd h id) (zat hZ hS hAb) (c_said l g b0 s.heap a b n r9 d9 t hs hn70 ht128 hr9 hd9) gX4_wouldNow_X4_said rfl ⟨rfl, rfl⟩ (show hd_ok yX4_said 3 from ⟨by decide, by decide, by decide +kernel⟩) ⟨Nat.le_of_ble_eq_true rfl, Nat.le_of_ble_eq_true rfl⟩ rfl (Nat.le_of_ble_eq_true rfl) ⟨by decide, by decide⟩ dX4_wouldNow_6 (fun v H3 locs hv hzz hk3 hS => ?_)
  rcases hv with ⟨hno, rfl⟩ | ⟨hok, q6, rfl, hq6, g6⟩
  · skip
    refine lv_astoreN (lv' := [(4, .null), (0, .ref z0), (1, .int (nI r9)), (2, .int (nI d9)), (3, .int (bI zh))]) hx hb dX4_wouldNow_9 hl (by decide) rfl (fun ls hl => ?_)
    refine lv_aloadN hx hb dX4_wouldNow_11 (lv_at hl 0 rfl) ?_
    refine lv_ifnonnullN hx hb dX4_wouldNow_13 ?_
    refine lv_iconst (v := nI 0) hx hb dX4_wouldNow_16 (by decide) ?_
    refine lv_goto (tgt := 37) hx hb dX4_wouldNow_17 (by decide) ?_
    refine W.widen (k := 4) (n := 16) (by decide) (by decide) ?_
    exact rt_ni (mu := (fun _ => False)) C0 rfl ⟨_, rfl⟩ hS rfl dX4_wouldNow_37
  · skip
    refine lv_astore (lv' := [(4, .ref q6), (0, .ref z0), (1, .int (nI r9)), (2, .int (nI d9)), (3, .int (bI zh))]) hx hb dX4_wouldNow_9 hl (by decide) rfl (fun ls hl => ?_)
    refine lv_aload hx hb dX4_wouldNow_11 (lv_at hl 0 rfl) ?_
    refine lv_ifnonnull (tgt := 20) hx hb dX4_wouldNow_13 (by decide) ?_
    refine lv_aload hx hb dX4_wouldNow_20 (lv_at hl 0 rfl) ?_
    refine cn_S (As := [.ref q6]) (rest := []) C0 hl hK hS hA (fun z h => absurd h (fun z => z)) (c_wide l g H3 q6 (nP (decide (d9 < 2))) (saV r9 n t d9) (nP_or _) (rgV_lt hok.1.2.2) g6) gX4_wouldNow_X4_wide rfl ⟨rfl, rfl⟩ (show hd_ok yX4_wide 1 from ⟨by decide, by decide, by decide +kernel⟩) ⟨Nat.le_of_ble_eq_true rfl, Nat.le_of_ble_eq_true rfl⟩ rfl (Nat.le_of_ble_eq_true rfl) ⟨by decide, by decide⟩ dX4_wouldNow_22 (fun r1 H4 locs hv hzz hk4 hS => ?_)
    obtain ⟨q7, rfl, hq7, g7⟩ := hv
    refine lv_iload_n hx hb dX4_wouldNow_25 rfl (lv_at hl 4 rfl) ?_
    refine lv_if_eq (tgt := 33) hx hb dX4_wouldNow_26 (by decide) (fun h5 => ?_) (fun h5 => ?_)
    · skip
      refine lv_iconst (v := nI 0) hx hb dX4_wouldNow_33 (by decide) ?_
      refine cp_S (As := [.ref q7, .int (nI 0)]) (rest := []) C0 hl hK hS hA (c_half l g H4 q7 4 _ 0 (by decide) (by decide) g7) gX4_wouldNow_X4_half rfl ⟨rfl, rfl⟩ (show hd_ok yX4_half 2 from ⟨by decide, by decide, by decide +kernel⟩) ⟨Nat.le_of_ble_eq_true rfl, Nat.le_of_ble_eq_true rfl⟩ rfl (Nat.le_of_ble_eq_true rfl) ⟨by decide, by decide⟩ dX4_wouldNow_34 (fun locs hS => ?_)
      exact rt_ni (mu := (fun _ => False)) C0 rfl ⟨_, rfl⟩ hS rfl dX4_wouldNow_37
    · skip
      refine lv_iconst (v := nI 2) hx hb dX4_wouldNow_29 (by decide) ?_
      refine lv_goto (tgt := 34) hx hb dX4_wouldNow_30 (by decide) ?_
      refine cp_S (As := [.ref q7, .int (nI 2)]) (rest := []) C0 hl hK hS hA (c_half l g H4 q7 4 _ 2 (by decide) (by decide) g7) gX4_wouldNow_X4_half rfl ⟨rfl, rfl⟩ (show hd_ok yX4_half 2 from ⟨by decide, by decide, by decide +kernel⟩) ⟨Nat.le_of_ble_eq_true rfl, Nat.le_of_ble_eq_true rfl⟩ rfl (Nat.le_of_ble_eq_true rfl) ⟨by decide, by decide⟩ dX4_wouldNow_34 (fun locs hS => ?_)
      exact rt_ni (mu := (fun _ => False)) C0 rfl ⟨_, rfl⟩ hS rfl dX4_wouldNow_37
abbrev rmX4_would : Room := { frames := 6, cells := 4, slots := 16, locals := 138 }
set_option maxHeartbeats 4000000 in
set_option maxRecDepth 100000 in
/-- would(radix, kind, isHigh): that it ends -/
theorem c_would (l : Launch) (g : Gx) (b0 : Nat) (H0 : Heap) (z0 mc lf dg : Nat) (fs : List Value) (rr V : Nat → Nat) (a b n : Nat) (t : Nat → Nat) (hT : MT g H0 z0 mc lf dg fs rr V a b n t) (hmb : ∀ q : Nat, zM z0 mc lf dg q → b0 ≤ q) (x y : Int32) (zh : Bool) : Met l yX4_would wsX4_would rmX4_would (va_Pc [.ref z0, .int x, .int y, .int (bI zh)] (hJ g b0 H0)) (nQ H0 (zM z0 mc lf dg) (zT g z0 mc lf dg (fun r V2 n2 t2 => (∃ rv : Int32, r = some (.int rv)) ∧ V2 = V ∧ n2 = n ∧ t2 = t))) 4 16 (fun q => (zM z0 mc lf dg) q ∨ H0.size ≤ q) := by
  refine cx_met (own := RX4) (cc := cX4_would) (maxL := 4) (by decide) rfl rfl (Nat.le_of_ble_eq_true rfl) ?_
  intro p e s m below meth c ls C0 hB0 hnm hl
  obtain ⟨hH, hK, hZ⟩ := hB0
  obtain ⟨hx, hb, hr, hml, hown, hts, hlk⟩ := id C0
  subst hH
  have hS : va_S (fun q => (zM z0 mc lf dg) q ∨ s.heap.size ≤ q) s.heap s.heap [] := va_S.rf
  have hA : ∀ q : Nat, s.heap.size ≤ q → (fun q => (zM z0 mc lf dg) q ∨ s.heap.size ≤ q) q := fun q h => Or.inr h
  have h0Z := hZ.1
  have hAb : ∀ q : Nat, (fun q => (zM z0 mc lf dg) q ∨ s.heap.size ≤ q) q → b0 ≤ q := fun q h => h.elim (hmb q) (fun h => Nat.le_trans h0Z h)
  have hl : lv_has ls 4 [(0, .ref z0), (1, .int x), (2, .int y), (3, .int (bI zh))] := hl
  obtain ⟨hM, hFT, htx, hs, hna, hnb, hn70, ht128⟩ := id hT
  obtain ⟨hz, hfl, -⟩ := id hM
  refine lv_aload_n hx hb dX4_would_0 rfl (lv_at hl 0 rfl) ?_
  refine lv_iconst (v := nI 0) hx hb dX4_would_1 (by decide) ?_
  refine w_putf (ci := 5) (C := RX4) (T := TX4) (N := 10) (ty := .int) hx hb hts (by decide +kernel) tyX4 tyX4_ok nmX4 hown hK hS hz (Or.inl (Or.inl rfl)) rfl 0 (by decide) (hts (.fieldLink RX4 27 "RadixbenchModel" "thrown" "I") (by decide +kernel)) (fun _ h9 => h9) rfl (by decide +kernel) rfl rfl (by rw [hfl]; decide) dX4_would_2 (fun H1 locs hz1 hs1 ho1 hS => ?_)
  have hM1 := hM.fset (by decide) (by decide) (by decide) ho1 hz1
  obtain ⟨-, hfl1, hmc, hdg, hlf, ⟨fr, hg9, hfr⟩, hrr, -, -, -⟩ := id hM1
  have htx1 : (fs.set 0 (.int (nI 0)))[2]? = some (.ref a) := by rw [List.getElem?_set_ne (by decide)]; exact htx
  have hs1 := hs.kept (ho1 _ (fun z => hna (Or.inl z))) (ho1 _ (fun z => hnb (Or.inl z)))
  have hFT1 : FT (fs.set 0 (.int (nI 0))) := hFT.i (by decide)
  refine lv_iload_n hx hb dX4_would_5 rfl (lv_at hl 1 rfl) ?_
  refine lv_iload_n hx hb dX4_would_6 rfl (lv_at hl 2 rfl) ?_
  refine cp_S (As := [.int x, .int y]) (rest := []) C0 hl hK hS hA (c_isRight l g H1 x y) gX4_would_X4_isRight rfl ⟨rfl, rfl⟩ (show hd_ok yX4_isRight 2 from ⟨by decide, by decide, by decide +kernel⟩) ⟨Nat.le_of_ble_eq_true rfl, Nat.le_of_ble_eq_true rfl⟩ rfl (Nat.le_of_ble_eq_true rfl) ⟨by decide, by decide⟩ dX4_would_7 (fun locs hS => ?_)
  refine lv_if_eq (tgt := 23) hx hb dX4_would_10 (by decide) (fun h2 => ?_) (fun h2 => ?_)
  · skip
    refine lv_aload_n hx hb dX4_would_23 rfl (lv_at hl 0 rfl) ?_
    refine lv_iconst (v := nI 1) hx hb dX4_would_24 (by decide) ?_
    refine cn_V (As := [.int (nI 1)]) (rest := []) C0 hl hK hS hA (fun z h => Or.inl h) (c_refuse l g H1 z0 mc lf dg _ rr V hM1 (nI 1)) gX4_would_X4_refuse rfl ⟨rfl, rfl⟩ ((va_recv hK.1 (p1 hz1) (ci := 5) (q0 := 0) rfl rfl)) ⟨rfl, (show hd_ok yX4_refuse 1 from ⟨by decide, by decide, by decide +kernel⟩)⟩ ⟨Nat.le_of_ble_eq_true rfl, Nat.le_of_ble_eq_true rfl⟩ rfl (Nat.le_of_ble_eq_true rfl) ⟨by decide, by decide⟩ dX4_would_25 (fun r1 H2 locs hv hzz hk2 hS => ?_)
    obtain ⟨fs2, rr2, V2, ⟨rfl, rfl, rfl⟩, hM2⟩ := hv
    refine W.widen (k := 4) (n := 16) (by decide) (by decide) ?_
    exact rt_ni (mu := zM z0 mc lf dg) C0 rfl ⟨_, _, _, a, b, n, t, ⟨⟨_, rfl⟩, rfl, rfl, rfl⟩, hM2, hFT1.i (by decide), by rw [List.getElem?_set_ne (by decide)]; exact htx1, hs1.kept (hk2 _ hs1.lt hna) (hk2 _ hs1.2.lt hnb), hna, hnb, hn70, ht128⟩ hS rfl dX4_would_28
  · skip
    have h3 := of_decide_eq_true (bI_n0 h2)
    obtain ⟨r9, hr9, rfl⟩ := rad_of h3.1
    obtain ⟨d9, hd9, rfl⟩ := kin_of h3.2
    refine lv_aload_n hx hb dX4_would_13 rfl (lv_at hl 0 rfl) ?_
    refine lv_iload_n hx hb dX4_would_14 rfl (lv_at hl 1 rfl) ?_
    refine lv_iload_n hx hb dX4_would_15 rfl (lv_at hl 2 rfl) ?_
    refine lv_iload_n hx hb dX4_would_16 rfl (lv_at hl 3 rfl) ?_
    refine jn_V (As := [.int (nI r9), .int (nI d9), .int (bI zh)]) (rest := []) C0 hl hK hS hA (fun q h => absurd h id) (zat hZ hS hAb) (c_wouldNow l g b0 H1 z0 _ a b n t hz1 htx1 hs1 hn70 ht128 r9 d9 hr9 hd9 zh) gX4_would_X4_wouldNow rfl ⟨rfl, rfl⟩ ((va_recv hK.1 (p1 hz1) (ci := 5) (q0 := 0) rfl rfl)) ⟨rfl, (show hd_ok yX4_wouldNow 3 from ⟨by decide, by decide, by decide +kernel⟩)⟩ ⟨Nat.le_of_ble_eq_true rfl, Nat.le_of_ble_eq_true rfl⟩ rfl (Nat.le_of_ble_eq_true rfl) ⟨by decide, by decide⟩ dX4_would_17 (fun v H3 locs hv hzz hk3 hS => ?_)
    obtain ⟨rv, rfl⟩ := hv
    refine lv_goto (tgt := 28) hx hb dX4_would_20 (by decide) ?_
    exact rt_ni (mu := zM z0 mc lf dg) C0 rfl ⟨_, _, _, a, b, n, t, ⟨⟨_, rfl⟩, rfl, rfl, rfl⟩, hM1.same (fun q h => hk3 q h (fun z => z)), hFT1, htx1, hs1.kept (hk3 _ hs1.lt (fun z => z)) (hk3 _ hs1.2.lt (fun z => z)), hna, hnb, hn70, ht128⟩ hS rfl dX4_would_28
end M56

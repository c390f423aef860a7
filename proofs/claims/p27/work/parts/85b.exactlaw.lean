-- EXACT ANSWERS: the law's own methods, the model's calls
section M92
variable {p : Program} {l : Launch} {e : Env} {s : State} {m : MethodId} {args : Array Value} {below : List Frame} {meth : Method} {c : Code} {H H0 : Heap} {locs : List Loc} {cells slots : Nat} {Q : State → Prop} {A : Nat → Prop} {g : Gx} {b0 : Nat}
set_option maxHeartbeats 4000000 in
set_option maxRecDepth 100000 in
theorem s_restE (l : Launch) (hnt : l.stackTraces = false) (g : Gx) (b0 : Nat) (H0 : Heap) (x0 lc tr tc sr sc o0 : Nat) (V : Nat → Nat) (n : Nat) (t : Nat → Nat) (v0 : Int64) (hL : LQ g H0 x0 lc tr tc sr sc o0 V n t v0) (hmb : ∀ q : Nat, mL x0 lc tr tc sr sc o0 q → b0 ≤ q) (x y : Int32) (zi : Bool) : Met l yL_rest wsL_rest rmL_rest (va_Pc [.ref x0, .int x, .int y, .int (bI zi), .ref o0] (hX g b0 H0)) (nQ H0 (mL x0 lc tr tc sr sc o0) (zL g x0 lc tr tc sr sc o0 (fun r v2 V2 n2 t2 => n2 = n ∧ t2 = t ∧ oC2 x y (fun w => 0 < w % 65536 ^ nP zi) (fun u w => wideN (nP zi) ((u % 65536 ^ nP zi) % (w % 65536 ^ nP zi))) V V2 ∧ ((∃ i j, i < 8 ∧ j < 8 ∧ x = nI i ∧ y = nI j ∧ 0 < V j % 65536 ^ nP zi ∧ r = some (.int (nI 0)) ∧ v2 = lB (decide ((V i % 65536 ^ nP zi) % (V j % 65536 ^ nP zi) = 0))) ∨ (¬ (isC x ∧ isC y) ∧ r = some (.int (nI 1))) ∨ (∃ i j, i < 8 ∧ j < 8 ∧ x = nI i ∧ y = nI j ∧ V j % 65536 ^ nP zi = 0 ∧ r = some (.int (nI 2))))))) 1 6 (fun q => mL x0 lc tr tc sr sc o0 q ∨ H0.size ≤ q) := by
  refine cxw_met (own := RL) (cc := cL_rest) (maxL := 6) (hh := [(0, 20, 23, 19), (0, 20, 27, 31)]) (by decide) rfl rfl (Nat.le_of_ble_eq_true rfl) ?_
  intro p e s m below meth c ls C0 hB0 htab hl
  obtain ⟨⟨hH, hK, hZ⟩, hE⟩ := hB0
  obtain ⟨hx, hb, hr, hml, hown, hts, hlk⟩ := id C0
  subst hH
  have hS : va_S (fun q => mL x0 lc tr tc sr sc o0 q ∨ s.heap.size ≤ q) s.heap s.heap [] := va_S.rf
  have hA : ∀ q : Nat, s.heap.size ≤ q → (fun q => mL x0 lc tr tc sr sc o0 q ∨ s.heap.size ≤ q) q := fun q h => Or.inr h
  have h0Z := hZ.1
  have hAb : ∀ q : Nat, (fun q => mL x0 lc tr tc sr sc o0 q ∨ s.heap.size ≤ q) q → b0 ≤ q := fun q h => h.elim (hmb q) (fun h => Nat.le_trans h0Z h)
  have hmb1 : ∀ q : Nat, mC x0 lc tr tc sr sc q → b0 ≤ q := fun q h => hmb q (Or.inl h)
  obtain ⟨⟨i3, i4, i5, i6, hC⟩, ⟨w0, ho⟩, hno⟩ := id hL
  have hl : lv_has ls 6 [(0, .ref x0), (1, .int x), (2, .int y), (3, .int (bI zi)), (4, .ref o0)] := hl
  refine lv_aload hx hb dL_rest_0 (lv_at hl 4 rfl) ?_
  refine lv_aload_n hx hb dL_rest_2 rfl (lv_at hl 0 rfl) ?_
  refine lv_iload_n hx hb dL_rest_3 rfl (lv_at hl 1 rfl) ?_
  refine lv_iload_n hx hb dL_rest_4 rfl (lv_at hl 2 rfl) ?_
  refine lv_iload_n hx hb dL_rest_5 rfl (lv_at hl 3 rfl) ?_
  by_cases hq : isC x ∧ isC y
  · skip
    obtain ⟨i, hi, rfl⟩ := cell_of hq.1
    obtain ⟨j, hj, rfl⟩ := cell_of hq.2
    by_cases hz0 : V j % 65536 ^ nP zi = 0
    · skip
      refine tx_CV (As := [.int (nI i), .int (nI j), .int (bI zi)]) (rest := [.ref o0]) C0 hl hK hS hA hZ hE (t_xRest2 l hnt g b0 s.heap x0 lc tr tc sr sc i3 i4 i5 i6 V n t hC i j hi hj zi hz0) gL_rest_X2_rest rfl ⟨rfl, rfl⟩ (hC.1.recv hK) ⟨rfl, (show hd_ok yX2_rest 3 from ⟨by decide, by decide, by decide +kernel⟩)⟩ ⟨Nat.le_of_ble_eq_true rfl, Nat.le_of_ble_eq_true rfl⟩ rfl (Nat.le_of_ble_eq_true rfl) ⟨Nat.le_of_ble_eq_true rfl, Nat.le_of_ble_eq_true rfl⟩ dL_rest_6 [⟨0, 20, 23, 19⟩] ⟨0, 20, 27, 31⟩ [] (by rw [htab]; rfl) (fun z hz => (List.mem_cons.mp hz).elim (fun h => by rw [h]; exact Or.inr ⟨by decide, _, hts (.classLink RL 19 nE1) (by decide +kernel), hE.2.2.1⟩) (fun h => absurd h List.not_mem_nil)) (by decide) (by decide) (hts (.classLink RL 31 nE3) (by decide +kernel)) (va_Nw.use rfl hE.1.2.2) (fun q1 H1 locs hzz hk1 hS => ?_)
      refine lv_astore (lv' := [(5, .ref q1), (0, .ref x0), (1, .int (nI i)), (2, .int (nI j)), (3, .int (bI zi)), (4, .ref o0)]) hx hb dL_rest_27 hl (by decide) rfl (fun ls hl => ?_)
      refine lv_iconst (v := nI 2) hx hb dL_rest_29 (by decide) ?_
      refine W.widen (k := 1) (n := 6) (by decide) (by decide) ?_
      exact rt_ni (mu := mL x0 lc tr tc sr sc o0) C0 rfl ⟨_, V, n, t, ⟨rfl, rfl, Or.inr ⟨fun i2 j2 hi2 hj2 e1 e2 h9 => by rw [nI_inj (by omega) (by omega) e2] at hz0; omega, rfl⟩, Or.inr (Or.inr ⟨i, j, hi, hj, rfl, rfl, hz0, rfl⟩)⟩, hL.kept (fun q hq => hk1 q (hL.lt q hq))⟩ hS rfl dL_rest_30
    · skip
      refine cn_V (As := [.int (nI i), .int (nI j), .int (bI zi)]) (rest := [.ref o0]) C0 hl hK hS hA (fun q h => Or.inl (Or.inl h)) (c_xRestE l g s.heap x0 lc tr tc sr sc i3 i4 i5 i6 V n t hC i j zi hi hj hz0) gL_rest_X2_rest rfl ⟨rfl, rfl⟩ (hC.1.recv hK) ⟨rfl, (show hd_ok yX2_rest 3 from ⟨by decide, by decide, by decide +kernel⟩)⟩ ⟨Nat.le_of_ble_eq_true rfl, Nat.le_of_ble_eq_true rfl⟩ rfl (Nat.le_of_ble_eq_true rfl) ⟨Nat.zero_le _, Nat.zero_le _⟩ dL_rest_6 (fun r1 H1 locs hv hzz hk1 hS => ?_)
      obtain ⟨j3, j4, j5, j6, V2, n2, t2, ⟨rfl, rfl, rfl, rfl⟩, hC1⟩ := hv
      have ho1 := ho.kept (hk1 _ ho.lt hno)
      refine lw_zl hx hb dL_rest_9 dL_rest_12 dL_rest_13 dL_rest_16 ?_
      refine w_putN (ci := 4) (C := RX3) (T := TX3) (N := 2) (ty := .long) (v := .long (lB (decide ((V i % 65536 ^ nP zi) % (V j % 65536 ^ nP zi) = 0)))) hx hb hts (by decide +kernel) tyX3 tyX3_ok nmX3 hown hK hS ho1 (Or.inl (Or.inr rfl)) rfl 0 (by decide) (va_Nw.use rfl hZ.2.2.2.2.2.1.2.2.2.2.1) (fun _ h9 => h9) rfl (by decide +kernel) rfl rfl (by show 0 < 2; decide) dL_rest_17 (fun H2 locs ho2 hs2 hk2 hS => ?_)
      refine lv_goto (tgt := 31) hx hb dL_rest_20 (by decide) ?_
      refine lv_iconst (v := nI 0) hx hb dL_rest_31 (by decide) ?_
      refine W.widen (k := 1) (n := 6) (by decide) (by decide) ?_
      exact rt_ni (mu := mL x0 lc tr tc sr sc o0) C0 rfl ⟨_, _, _, _, ⟨rfl, rfl, Or.inl ⟨i, j, hi, hj, rfl, rfl, by omega, rfl⟩, Or.inl ⟨i, j, hi, hj, rfl, rfl, by omega, rfl, rfl⟩⟩, ⟨_, _, _, _, hC1.kept (fun q _ hq => hk2 q (fun e => hno (by rw [← e]; exact hq)))⟩, ⟨_, ho2⟩, hno⟩ hS rfl dL_rest_32
  · skip
    refine tx_CV (As := [.int x, .int y, .int (bI zi)]) (rest := [.ref o0]) C0 hl hK hS hA hZ hE (t_xRest1 l hnt g b0 s.heap x0 lc tr tc sr sc i3 i4 i5 i6 V n t hC x y zi hq) gL_rest_X2_rest rfl ⟨rfl, rfl⟩ (hC.1.recv hK) ⟨rfl, (show hd_ok yX2_rest 3 from ⟨by decide, by decide, by decide +kernel⟩)⟩ ⟨Nat.le_of_ble_eq_true rfl, Nat.le_of_ble_eq_true rfl⟩ rfl (Nat.le_of_ble_eq_true rfl) ⟨Nat.le_of_ble_eq_true rfl, Nat.le_of_ble_eq_true rfl⟩ dL_rest_6 [] ⟨0, 20, 23, 19⟩ [⟨0, 20, 27, 31⟩] (by rw [htab]; rfl) (fun z hz => nomatch hz) (by decide) (by decide) (hts (.classLink RL 19 nE1) (by decide +kernel)) (va_Nw.use rfl hE.1.1) (fun q1 H1 locs hzz hk1 hS => ?_)
    refine lv_astore (lv' := [(5, .ref q1), (0, .ref x0), (1, .int x), (2, .int y), (3, .int (bI zi)), (4, .ref o0)]) hx hb dL_rest_23 hl (by decide) rfl (fun ls hl => ?_)
    refine lv_iconst (v := nI 1) hx hb dL_rest_25 (by decide) ?_
    refine W.widen (k := 1) (n := 6) (by decide) (by decide) ?_
    exact rt_ni (mu := mL x0 lc tr tc sr sc o0) C0 rfl ⟨_, V, n, t, ⟨rfl, rfl, Or.inr ⟨(fun i j hi hj e1 e2 _ => hq (by rw [e1, e2]; exact ⟨isC_nI hi, isC_nI hj⟩)), rfl⟩, Or.inr (Or.inl ⟨hq, rfl⟩)⟩, hL.kept (fun q hq => hk1 q (hL.lt q hq))⟩ hS rfl dL_rest_26
set_option maxHeartbeats 4000000 in
set_option maxRecDepth 100000 in
theorem s_compareE (l : Launch) (hnt : l.stackTraces = false) (g : Gx) (b0 : Nat) (H0 : Heap) (x0 lc tr tc sr sc o0 : Nat) (V : Nat → Nat) (n : Nat) (t : Nat → Nat) (v0 : Int64) (hL : LQ g H0 x0 lc tr tc sr sc o0 V n t v0) (hmb : ∀ q : Nat, mL x0 lc tr tc sr sc o0 q → b0 ≤ q) (x y : Int32) (zu zi : Bool) : Met l yL_compare wsL_compare rmL_compare (va_Pc [.ref x0, .int x, .int y, .int (bI zu), .int (bI zi), .ref o0] (hX g b0 H0)) (nQ H0 (mL x0 lc tr tc sr sc o0) (zL g x0 lc tr tc sr sc o0 (fun r v2 V2 n2 t2 => V2 = V ∧ n2 = n ∧ t2 = t ∧ ((∃ i j, i < 8 ∧ j < 8 ∧ x = nI i ∧ y = nI j ∧ r = some (.int (nI 0)) ∧ v2 = (if zu = true then cmpI (V i % 65536 ^ nP zi) (V j % 65536 ^ nP zi) else cmpS (nP zi - 1 + 1) (V i % 65536 ^ nP zi) (V j % 65536 ^ nP zi)).toInt64) ∨ (¬ (isC x ∧ isC y) ∧ r = some (.int (nI 1))))))) 1 6 (fun q => mL x0 lc tr tc sr sc o0 q ∨ H0.size ≤ q) := by
  refine cxw_met (own := RL) (cc := cL_compare) (maxL := 7) (hh := [(0, 15, 18, 19)]) (by decide) rfl rfl (Nat.le_of_ble_eq_true rfl) ?_
  intro p e s m below meth c ls C0 hB0 htab hl
  obtain ⟨⟨hH, hK, hZ⟩, hE⟩ := hB0
  obtain ⟨hx, hb, hr, hml, hown, hts, hlk⟩ := id C0
  subst hH
  have hS : va_S (fun q => mL x0 lc tr tc sr sc o0 q ∨ s.heap.size ≤ q) s.heap s.heap [] := va_S.rf
  have hA : ∀ q : Nat, s.heap.size ≤ q → (fun q => mL x0 lc tr tc sr sc o0 q ∨ s.heap.size ≤ q) q := fun q h => Or.inr h
  have h0Z := hZ.1
  have hAb : ∀ q : Nat, (fun q => mL x0 lc tr tc sr sc o0 q ∨ s.heap.size ≤ q) q → b0 ≤ q := fun q h => h.elim (hmb q) (fun h => Nat.le_trans h0Z h)
  have hmb1 : ∀ q : Nat, mC x0 lc tr tc sr sc q → b0 ≤ q := fun q h => hmb q (Or.inl h)
  obtain ⟨⟨i3, i4, i5, i6, hC⟩, ⟨w0, ho⟩, hno⟩ := id hL
  have hl : lv_has ls 7 [(0, .ref x0), (1, .int x), (2, .int y), (3, .int (bI zu)), (4, .int (bI zi)), (5, .ref o0)] := hl
  refine lv_aload hx hb dL_compare_0 (lv_at hl 5 rfl) ?_
  refine lv_aload_n hx hb dL_compare_2 rfl (lv_at hl 0 rfl) ?_
  refine lv_iload_n hx hb dL_compare_3 rfl (lv_at hl 1 rfl) ?_
  refine lv_iload_n hx hb dL_compare_4 rfl (lv_at hl 2 rfl) ?_
  refine lv_iload_n hx hb dL_compare_5 rfl (lv_at hl 3 rfl) ?_
  refine lv_iload hx hb dL_compare_6 (lv_at hl 4 rfl) ?_
  by_cases hq : isC x ∧ isC y
  · skip
    obtain ⟨i, hi, rfl⟩ := cell_of hq.1
    obtain ⟨j, hj, rfl⟩ := cell_of hq.2
    refine cn_V (As := [.int (nI i), .int (nI j), .int (bI zu), .int (bI zi)]) (rest := [.ref o0]) C0 hl hK hS hA (fun q h => Or.inl (Or.inl h)) (c_xCompareE l g s.heap x0 lc tr tc sr sc i3 i4 i5 i6 V n t hC i j zu zi hi hj) gL_compare_X2_compare rfl ⟨rfl, rfl⟩ (hC.1.recv hK) ⟨rfl, (show hd_ok yX2_compare 4 from ⟨by decide, by decide, by decide +kernel⟩)⟩ ⟨Nat.le_of_ble_eq_true rfl, Nat.le_of_ble_eq_true rfl⟩ rfl (Nat.le_of_ble_eq_true rfl) ⟨Nat.zero_le _, Nat.zero_le _⟩ dL_compare_8 (fun r1 H1 locs hv hzz hk1 hS => ?_)
    obtain ⟨j3, j4, j5, j6, V2, n2, t2, ⟨rfl, eV9, en9, et9⟩, hC1⟩ := hv
    have ho1 := ho.kept (hk1 _ ho.lt hno)
    refine lv_i2l (v := (if zu = true then cmpI (V i % 65536 ^ nP zi) (V j % 65536 ^ nP zi) else cmpS (nP zi - 1 + 1) (V i % 65536 ^ nP zi) (V j % 65536 ^ nP zi)).toInt64) hx hb dL_compare_11 (rfl) ?_
    refine w_putN (ci := 4) (C := RX3) (T := TX3) (N := 2) (ty := .long) (v := .long ((if zu = true then cmpI (V i % 65536 ^ nP zi) (V j % 65536 ^ nP zi) else cmpS (nP zi - 1 + 1) (V i % 65536 ^ nP zi) (V j % 65536 ^ nP zi)).toInt64)) hx hb hts (by decide +kernel) tyX3 tyX3_ok nmX3 hown hK hS ho1 (Or.inl (Or.inr rfl)) rfl 0 (by decide) (va_Nw.use rfl hZ.2.2.2.2.2.1.2.2.2.2.1) (fun _ h9 => h9) rfl (by decide +kernel) rfl rfl (by show 0 < 2; decide) dL_compare_12 (fun H2 locs ho2 hs2 hk2 hS => ?_)
    refine lv_goto (tgt := 22) hx hb dL_compare_15 (by decide) ?_
    refine lv_iconst (v := nI 0) hx hb dL_compare_22 (by decide) ?_
    refine W.widen (k := 1) (n := 6) (by decide) (by decide) ?_
    exact rt_ni (mu := mL x0 lc tr tc sr sc o0) C0 rfl ⟨_, _, _, _, ⟨eV9, en9, et9, Or.inl ⟨i, j, hi, hj, rfl, rfl, rfl, rfl⟩⟩, ⟨_, _, _, _, hC1.kept (fun q _ hq => hk2 q (fun e => hno (by rw [← e]; exact hq)))⟩, ⟨_, ho2⟩, hno⟩ hS rfl dL_compare_23
  · skip
    refine tx_CV (As := [.int x, .int y, .int (bI zu), .int (bI zi)]) (rest := [.ref o0]) C0 hl hK hS hA hZ hE (t_xCompare l hnt g b0 s.heap x0 lc tr tc sr sc i3 i4 i5 i6 V n t hC x y zu zi hq) gL_compare_X2_compare rfl ⟨rfl, rfl⟩ (hC.1.recv hK) ⟨rfl, (show hd_ok yX2_compare 4 from ⟨by decide, by decide, by decide +kernel⟩)⟩ ⟨Nat.le_of_ble_eq_true rfl, Nat.le_of_ble_eq_true rfl⟩ rfl (Nat.le_of_ble_eq_true rfl) ⟨Nat.le_of_ble_eq_true rfl, Nat.le_of_ble_eq_true rfl⟩ dL_compare_8 [] ⟨0, 15, 18, 19⟩ [] (by rw [htab]; rfl) (fun z hz => nomatch hz) (by decide) (by decide) (hts (.classLink RL 19 nE1) (by decide +kernel)) (va_Nw.use rfl hE.1.1) (fun q1 H1 locs hzz hk1 hS => ?_)
    refine lv_astore (lv' := [(6, .ref q1), (0, .ref x0), (1, .int x), (2, .int y), (3, .int (bI zu)), (4, .int (bI zi)), (5, .ref o0)]) hx hb dL_compare_18 hl (by decide) rfl (fun ls hl => ?_)
    refine lv_iconst (v := nI 1) hx hb dL_compare_20 (by decide) ?_
    refine W.widen (k := 1) (n := 6) (by decide) (by decide) ?_
    exact rt_ni (mu := mL x0 lc tr tc sr sc o0) C0 rfl ⟨_, V, n, t, ⟨rfl, rfl, rfl, Or.inr ⟨hq, rfl⟩⟩, hL.kept (fun q hq => hk1 q (hL.lt q hq))⟩ hS rfl dL_compare_21
set_option maxHeartbeats 4000000 in
set_option maxRecDepth 100000 in
theorem s_digitE (l : Launch) (hnt : l.stackTraces = false) (g : Gx) (b0 : Nat) (H0 : Heap) (x0 lc tr tc sr sc o0 : Nat) (V : Nat → Nat) (n : Nat) (t : Nat → Nat) (v0 : Int64) (hL : LQ g H0 x0 lc tr tc sr sc o0 V n t v0) (hmb : ∀ q : Nat, mL x0 lc tr tc sr sc o0 q → b0 ≤ q) (x y : Int32) : Met l yL_digit wsL_digit rmL_digit (va_Pc [.ref x0, .int x, .int y, .ref o0] (hX g b0 H0)) (nQ H0 (mL x0 lc tr tc sr sc o0) (zL g x0 lc tr tc sr sc o0 (fun r v2 V2 n2 t2 => V2 = V ∧ n2 = n ∧ t2 = t ∧ ((∃ j r9 : Nat, j < n ∧ (2 ≤ r9 ∧ r9 ≤ 36) ∧ x = nI j ∧ y = nI r9 ∧ r = some (.int (nI 0)) ∧ v2 = (dgC (t j) r9).toInt64) ∨ (¬ (nI 0 ≤ x ∧ x < nI n) ∧ r = some (.int (nI 1))) ∨ ((nI 0 ≤ x ∧ x < nI n) ∧ ¬ (nI 2 ≤ y ∧ y ≤ nI 36) ∧ r = some (.int (nI 2))))))) 1 6 (fun q => mL x0 lc tr tc sr sc o0 q ∨ H0.size ≤ q) := by
  refine cxw_met (own := RL) (cc := cL_digit) (maxL := 5) (hh := [(0, 11, 14, 19), (0, 11, 18, 29)]) (by decide) rfl rfl (Nat.le_of_ble_eq_true rfl) ?_
  intro p e s m below meth c ls C0 hB0 htab hl
  obtain ⟨⟨hH, hK, hZ⟩, hE⟩ := hB0
  obtain ⟨hx, hb, hr, hml, hown, hts, hlk⟩ := id C0
  subst hH
  have hS : va_S (fun q => mL x0 lc tr tc sr sc o0 q ∨ s.heap.size ≤ q) s.heap s.heap [] := va_S.rf
  have hA : ∀ q : Nat, s.heap.size ≤ q → (fun q => mL x0 lc tr tc sr sc o0 q ∨ s.heap.size ≤ q) q := fun q h => Or.inr h
  have h0Z := hZ.1
  have hAb : ∀ q : Nat, (fun q => mL x0 lc tr tc sr sc o0 q ∨ s.heap.size ≤ q) q → b0 ≤ q := fun q h => h.elim (hmb q) (fun h => Nat.le_trans h0Z h)
  have hmb1 : ∀ q : Nat, mC x0 lc tr tc sr sc q → b0 ≤ q := fun q h => hmb q (Or.inl h)
  obtain ⟨⟨i3, i4, i5, i6, hC⟩, ⟨w0, ho⟩, hno⟩ := id hL
  have hl : lv_has ls 5 [(0, .ref x0), (1, .int x), (2, .int y), (3, .ref o0)] := hl
  refine lv_aload_n hx hb dL_digit_0 rfl (lv_at hl 3 rfl) ?_
  refine lv_aload_n hx hb dL_digit_1 rfl (lv_at hl 0 rfl) ?_
  refine lv_iload_n hx hb dL_digit_2 rfl (lv_at hl 1 rfl) ?_
  refine lv_iload_n hx hb dL_digit_3 rfl (lv_at hl 2 rfl) ?_
  obtain ⟨-, ⟨f9, -, -, -, hn70, -⟩, -⟩ := id hC
  by_cases hq : nI 0 ≤ x ∧ x < nI n
  · skip
    obtain ⟨j, hj, rfl⟩ := at_of2 hn70 hq
    by_cases hq2 : nI 2 ≤ y ∧ y ≤ nI 36
    · skip
      obtain ⟨r9, hr9, rfl⟩ := rad_of hq2
      refine cn_V (As := [.int (nI j), .int (nI r9)]) (rest := [.ref o0]) C0 hl hK hS hA (fun q h => Or.inl (Or.inl h)) (c_xDigitE l g s.heap x0 lc tr tc sr sc i3 i4 i5 i6 V n t hC j r9 hj hr9) gL_digit_X2_digit rfl ⟨rfl, rfl⟩ (hC.1.recv hK) ⟨rfl, (show hd_ok yX2_digit 2 from ⟨by decide, by decide, by decide +kernel⟩)⟩ ⟨Nat.le_of_ble_eq_true rfl, Nat.le_of_ble_eq_true rfl⟩ rfl (Nat.le_of_ble_eq_true rfl) ⟨Nat.zero_le _, Nat.zero_le _⟩ dL_digit_4 (fun r1 H1 locs hv hzz hk1 hS => ?_)
      obtain ⟨j3, j4, j5, j6, V2, n2, t2, ⟨rfl, eV9, en9, et9⟩, hC1⟩ := hv
      have ho1 := ho.kept (hk1 _ ho.lt hno)
      refine lv_i2l (v := (dgC (t j) r9).toInt64) hx hb dL_digit_7 (rfl) ?_
      refine w_putN (ci := 4) (C := RX3) (T := TX3) (N := 2) (ty := .long) (v := .long ((dgC (t j) r9).toInt64)) hx hb hts (by decide +kernel) tyX3 tyX3_ok nmX3 hown hK hS ho1 (Or.inl (Or.inr rfl)) rfl 0 (by decide) (va_Nw.use rfl hZ.2.2.2.2.2.1.2.2.2.2.1) (fun _ h9 => h9) rfl (by decide +kernel) rfl rfl (by show 0 < 2; decide) dL_digit_8 (fun H2 locs ho2 hs2 hk2 hS => ?_)
      refine lv_goto (tgt := 22) hx hb dL_digit_11 (by decide) ?_
      refine lv_iconst (v := nI 0) hx hb dL_digit_22 (by decide) ?_
      refine W.widen (k := 1) (n := 6) (by decide) (by decide) ?_
      exact rt_ni (mu := mL x0 lc tr tc sr sc o0) C0 rfl ⟨_, _, _, _, ⟨eV9, en9, et9, Or.inl ⟨j, r9, hj, hr9, rfl, rfl, rfl, rfl⟩⟩, ⟨_, _, _, _, hC1.kept (fun q _ hq => hk2 q (fun e => hno (by rw [← e]; exact hq)))⟩, ⟨_, ho2⟩, hno⟩ hS rfl dL_digit_23
    · skip
      refine tx_CV (As := [.int (nI j), .int y]) (rest := [.ref o0]) C0 hl hK hS hA hZ hE (t_xDigit2 l hnt g b0 s.heap x0 lc tr tc sr sc i3 i4 i5 i6 V n t hC j hj y hq2) gL_digit_X2_digit rfl ⟨rfl, rfl⟩ (hC.1.recv hK) ⟨rfl, (show hd_ok yX2_digit 2 from ⟨by decide, by decide, by decide +kernel⟩)⟩ ⟨Nat.le_of_ble_eq_true rfl, Nat.le_of_ble_eq_true rfl⟩ rfl (Nat.le_of_ble_eq_true rfl) ⟨Nat.le_of_ble_eq_true rfl, Nat.le_of_ble_eq_true rfl⟩ dL_digit_4 [⟨0, 11, 14, 19⟩] ⟨0, 11, 18, 29⟩ [] (by rw [htab]; rfl) (fun z hz => (List.mem_cons.mp hz).elim (fun h => by rw [h]; exact Or.inr ⟨by decide, _, hts (.classLink RL 19 nE1) (by decide +kernel), hE.2.1⟩) (fun h => absurd h List.not_mem_nil)) (by decide) (by decide) (hts (.classLink RL 29 nE2) (by decide +kernel)) (va_Nw.use rfl hE.1.2.1) (fun q1 H1 locs hzz hk1 hS => ?_)
      refine lv_astore (lv' := [(4, .ref q1), (0, .ref x0), (1, .int (nI j)), (2, .int y), (3, .ref o0)]) hx hb dL_digit_18 hl (by decide) rfl (fun ls hl => ?_)
      refine lv_iconst (v := nI 2) hx hb dL_digit_20 (by decide) ?_
      refine W.widen (k := 1) (n := 6) (by decide) (by decide) ?_
      exact rt_ni (mu := mL x0 lc tr tc sr sc o0) C0 rfl ⟨_, V, n, t, ⟨rfl, rfl, rfl, Or.inr (Or.inr ⟨hq, hq2, rfl⟩)⟩, hL.kept (fun q hq => hk1 q (hL.lt q hq))⟩ hS rfl dL_digit_21
  · skip
    refine tx_CV (As := [.int x, .int y]) (rest := [.ref o0]) C0 hl hK hS hA hZ hE (t_xDigit1 l hnt g b0 s.heap x0 lc tr tc sr sc i3 i4 i5 i6 V n t hC x y hq) gL_digit_X2_digit rfl ⟨rfl, rfl⟩ (hC.1.recv hK) ⟨rfl, (show hd_ok yX2_digit 2 from ⟨by decide, by decide, by decide +kernel⟩)⟩ ⟨Nat.le_of_ble_eq_true rfl, Nat.le_of_ble_eq_true rfl⟩ rfl (Nat.le_of_ble_eq_true rfl) ⟨Nat.le_of_ble_eq_true rfl, Nat.le_of_ble_eq_true rfl⟩ dL_digit_4 [] ⟨0, 11, 14, 19⟩ [⟨0, 11, 18, 29⟩] (by rw [htab]; rfl) (fun z hz => nomatch hz) (by decide) (by decide) (hts (.classLink RL 19 nE1) (by decide +kernel)) (va_Nw.use rfl hE.1.1) (fun q1 H1 locs hzz hk1 hS => ?_)
    refine lv_astore (lv' := [(4, .ref q1), (0, .ref x0), (1, .int x), (2, .int y), (3, .ref o0)]) hx hb dL_digit_14 hl (by decide) rfl (fun ls hl => ?_)
    refine lv_iconst (v := nI 1) hx hb dL_digit_16 (by decide) ?_
    refine W.widen (k := 1) (n := 6) (by decide) (by decide) ?_
    exact rt_ni (mu := mL x0 lc tr tc sr sc o0) C0 rfl ⟨_, V, n, t, ⟨rfl, rfl, rfl, Or.inr (Or.inl ⟨hq, rfl⟩)⟩, hL.kept (fun q hq => hk1 q (hL.lt q hq))⟩ hS rfl dL_digit_17
set_option maxHeartbeats 4000000 in
set_option maxRecDepth 100000 in
theorem s_sameE (l : Launch) (hnt : l.stackTraces = false) (g : Gx) (b0 : Nat) (H0 : Heap) (x0 lc tr tc sr sc o0 : Nat) (V : Nat → Nat) (n : Nat) (t : Nat → Nat) (v0 : Int64) (hL : LQ g H0 x0 lc tr tc sr sc o0 V n t v0) (hmb : ∀ q : Nat, mL x0 lc tr tc sr sc o0 q → b0 ≤ q) (y kd : Int32) : Met l yL_same wsL_same rmL_same (va_Pc [.ref x0, .int y, .int kd, .ref o0] (hX g b0 H0)) (nQ H0 (mL x0 lc tr tc sr sc o0) (zL g x0 lc tr tc sr sc o0 (fun r v2 V2 n2 t2 => V2 = V ∧ n2 = n ∧ t2 = t ∧ ((∃ r9 d9 : Nat, ∃ q9 : Int32, (2 ≤ r9 ∧ r9 ≤ 36) ∧ d9 < 4 ∧ y = nI r9 ∧ kd = nI d9 ∧ SMQ V n t r9 d9 q9 ∧ r = some (.int (nI 0)) ∧ v2 = q9.toInt64) ∨ (¬ rkOK y kd ∧ r = some (.int (nI 1))))))) 1 6 (fun q => mL x0 lc tr tc sr sc o0 q ∨ H0.size ≤ q) := by
  refine cxw_met (own := RL) (cc := cL_same) (maxL := 5) (hh := [(0, 11, 14, 29)]) (by decide) rfl rfl (Nat.le_of_ble_eq_true rfl) ?_
  intro p e s m below meth c ls C0 hB0 htab hl
  obtain ⟨⟨hH, hK, hZ⟩, hE⟩ := hB0
  obtain ⟨hx, hb, hr, hml, hown, hts, hlk⟩ := id C0
  subst hH
  have hS : va_S (fun q => mL x0 lc tr tc sr sc o0 q ∨ s.heap.size ≤ q) s.heap s.heap [] := va_S.rf
  have hA : ∀ q : Nat, s.heap.size ≤ q → (fun q => mL x0 lc tr tc sr sc o0 q ∨ s.heap.size ≤ q) q := fun q h => Or.inr h
  have h0Z := hZ.1
  have hAb : ∀ q : Nat, (fun q => mL x0 lc tr tc sr sc o0 q ∨ s.heap.size ≤ q) q → b0 ≤ q := fun q h => h.elim (hmb q) (fun h => Nat.le_trans h0Z h)
  have hmb1 : ∀ q : Nat, mC x0 lc tr tc sr sc q → b0 ≤ q := fun q h => hmb q (Or.inl h)
  obtain ⟨⟨i3, i4, i5, i6, hC⟩, ⟨w0, ho⟩, hno⟩ := id hL
  have hl : lv_has ls 5 [(0, .ref x0), (1, .int y), (2, .int kd), (3, .ref o0)] := hl
  refine lv_aload_n hx hb dL_same_0 rfl (lv_at hl 3 rfl) ?_
  refine lv_aload_n hx hb dL_same_1 rfl (lv_at hl 0 rfl) ?_
  refine lv_iload_n hx hb dL_same_2 rfl (lv_at hl 1 rfl) ?_
  refine lv_iload_n hx hb dL_same_3 rfl (lv_at hl 2 rfl) ?_
  by_cases hq : rkOK y kd
  · skip
    obtain ⟨r9, d9, hr9, hd9, rfl, rfl⟩ := rkOK_of hq
    refine jn_V (As := [.int (nI r9), .int (nI d9)]) (rest := [.ref o0]) C0 hl hK hS hA (fun q h => Or.inl (Or.inl h)) (zat hZ hS hAb) (c_xSameE l g b0 s.heap x0 lc tr tc sr sc i3 i4 i5 i6 V n t hC hmb1 r9 d9 hr9 hd9) gL_same_X2_same rfl ⟨rfl, rfl⟩ (hC.1.recv hK) ⟨rfl, (show hd_ok yX2_same 2 from ⟨by decide, by decide, by decide +kernel⟩)⟩ ⟨Nat.le_of_ble_eq_true rfl, Nat.le_of_ble_eq_true rfl⟩ rfl (Nat.le_of_ble_eq_true rfl) ⟨Nat.zero_le _, Nat.zero_le _⟩ dL_same_4 (fun r1 H1 locs hv hzz hk1 hS => ?_)
    obtain ⟨j3, j4, j5, j6, V2, n2, t2, ⟨⟨rv, rfl, hP9⟩, eV9, en9, et9⟩, hC1⟩ := hv
    have ho1 := ho.kept (hk1 _ ho.lt hno)
    refine lv_i2l (v := rv.toInt64) hx hb dL_same_7 (rfl) ?_
    refine w_putN (ci := 4) (C := RX3) (T := TX3) (N := 2) (ty := .long) (v := .long rv.toInt64) hx hb hts (by decide +kernel) tyX3 tyX3_ok nmX3 hown hK hS ho1 (Or.inl (Or.inr rfl)) rfl 0 (by decide) (va_Nw.use rfl hZ.2.2.2.2.2.1.2.2.2.2.1) (fun _ h9 => h9) rfl (by decide +kernel) rfl rfl (by show 0 < 2; decide) dL_same_8 (fun H2 locs ho2 hs2 hk2 hS => ?_)
    refine lv_goto (tgt := 18) hx hb dL_same_11 (by decide) ?_
    refine lv_iconst (v := nI 0) hx hb dL_same_18 (by decide) ?_
    refine W.widen (k := 1) (n := 6) (by decide) (by decide) ?_
    exact rt_ni (mu := mL x0 lc tr tc sr sc o0) C0 rfl ⟨_, _, _, _, ⟨eV9, en9, et9, Or.inl ⟨r9, d9, rv, hr9, hd9, rfl, rfl, hP9, rfl, rfl⟩⟩, ⟨_, _, _, _, hC1.kept (fun q _ hq => hk2 q (fun e => hno (by rw [← e]; exact hq)))⟩, ⟨_, ho2⟩, hno⟩ hS rfl dL_same_19
  · skip
    refine tx_CV (As := [.int y, .int kd]) (rest := [.ref o0]) C0 hl hK hS hA hZ hE (t_xSame l hnt g b0 s.heap x0 lc tr tc sr sc i3 i4 i5 i6 V n t hC y kd hq) gL_same_X2_same rfl ⟨rfl, rfl⟩ (hC.1.recv hK) ⟨rfl, (show hd_ok yX2_same 2 from ⟨by decide, by decide, by decide +kernel⟩)⟩ ⟨Nat.le_of_ble_eq_true rfl, Nat.le_of_ble_eq_true rfl⟩ rfl (Nat.le_of_ble_eq_true rfl) ⟨Nat.le_of_ble_eq_true rfl, Nat.le_of_ble_eq_true rfl⟩ dL_same_4 [] ⟨0, 11, 14, 29⟩ [] (by rw [htab]; rfl) (fun z hz => nomatch hz) (by decide) (by decide) (hts (.classLink RL 29 nE2) (by decide +kernel)) (va_Nw.use rfl hE.1.2.1) (fun q1 H1 locs hzz hk1 hS => ?_)
    refine lv_astore (lv' := [(4, .ref q1), (0, .ref x0), (1, .int y), (2, .int kd), (3, .ref o0)]) hx hb dL_same_14 hl (by decide) rfl (fun ls hl => ?_)
    refine lv_iconst (v := nI 1) hx hb dL_same_16 (by decide) ?_
    refine W.widen (k := 1) (n := 6) (by decide) (by decide) ?_
    exact rt_ni (mu := mL x0 lc tr tc sr sc o0) C0 rfl ⟨_, V, n, t, ⟨rfl, rfl, rfl, Or.inr ⟨hq, rfl⟩⟩, hL.kept (fun q hq => hk1 q (hL.lt q hq))⟩ hS rfl dL_same_17
theorem m_restE (l : Launch) (g : Gx) (H0 : Heap) (z0 mc lf dg : Nat) (fs : List Value) (rr V : Nat → Nat) (a b n : Nat) (t : Nat → Nat) (hT : MT g H0 z0 mc lf dg fs rr V a b n t) (x y : Int32) (zi : Bool) : Met l yX4_rest wsX4_rest rmX4_rest (va_Pc [.ref z0, .int x, .int y, .int (bI zi)] (hB g H0)) (nQ H0 (zM z0 mc lf dg) (zU g z0 mc lf dg (fun r fs2 V2 n2 t2 => n2 = n ∧ t2 = t ∧ oC2 x y (fun w => 0 < w % 65536 ^ nP zi) (fun u w => wideN (nP zi) ((u % 65536 ^ nP zi) % (w % 65536 ^ nP zi))) V V2 ∧ ((∃ i j, i < 8 ∧ j < 8 ∧ x = nI i ∧ y = nI j ∧ 0 < V j % 65536 ^ nP zi ∧ r = some (.int (bI (decide ((V i % 65536 ^ nP zi) % (V j % 65536 ^ nP zi) = 0)))) ∧ fs2[0]? = some (.int (nI 0))) ∨ (¬ (isC x ∧ isC y) ∧ r = some (.int (nI 0)) ∧ fs2[0]? = some (.int (nI 1))) ∨ (∃ i j, i < 8 ∧ j < 8 ∧ x = nI i ∧ y = nI j ∧ V j % 65536 ^ nP zi = 0 ∧ r = some (.int (nI 0)) ∧ fs2[0]? = some (.int (nI 2))))))) 199 796 (fun q => zM z0 mc lf dg q ∨ H0.size ≤ q) := by
  refine mpost (c_rest l g H0 z0 mc lf dg fs rr V hT.1 x y zi) ?_
  intro v H1 ⟨fs2, rr2, V2, hP, hD⟩ _ hk
  have h10 : fs.length = 10 := hT.1.2.1
  rcases hP with ⟨i, j, hi, hj, e, e2, h0, h1, h2, h3⟩ | ⟨tt, ht, hq, h1, h3, h2⟩
  · exact ⟨fs2, rr2, V2, a, b, n, t, ⟨rfl, rfl, Or.inl ⟨i, j, hi, hj, e, e2, h0, h2⟩, Or.inl ⟨i, j, hi, hj, e, e2, h0, h1, by rw [h3, List.getElem?_set_self (by omega)]⟩⟩, mt_md hT hD (ft0' hT.2.1 ⟨_, h3⟩) hk⟩
  · rcases hq with ⟨hn, ht1⟩ | ⟨i9, j9, hi9, hj9, e9, e8, hq⟩
    · refine ⟨fs2, rr2, V2, a, b, n, t, ⟨rfl, rfl, Or.inr ⟨fun i j hi hj e e2 h0 => hn (by rw [e, e2]; exact ⟨isC_nI hi, isC_nI hj⟩), h2⟩, Or.inr (Or.inl ⟨hn, h1, by rw [h3, List.getElem?_set_self (by omega), ht1]⟩)⟩, mt_md hT hD (ft0' hT.2.1 ⟨_, h3⟩) hk⟩
    · by_cases hz : V j9 % 65536 ^ nP zi = 0
      · rw [if_pos hz] at hq
        refine ⟨fs2, rr2, V2, a, b, n, t, ⟨rfl, rfl, Or.inr ⟨fun i j hi hj e e2 h0 => ?_, h2⟩, Or.inr (Or.inr ⟨i9, j9, hi9, hj9, e9, e8, hz, h1, by rw [h3, List.getElem?_set_self (by omega), hq]⟩)⟩, mt_md hT hD (ft0' hT.2.1 ⟨_, h3⟩) hk⟩
        rw [nI_inj (by omega) (by omega) (e2.symm.trans e8)] at h0
        omega
      · rw [if_neg hz] at hq
        exact absurd (by rw [hq]; decide) ht
theorem m_compareE (l : Launch) (g : Gx) (H0 : Heap) (z0 mc lf dg : Nat) (fs : List Value) (rr V : Nat → Nat) (a b n : Nat) (t : Nat → Nat) (hT : MT g H0 z0 mc lf dg fs rr V a b n t) (x y : Int32) (zu zi : Bool) : Met l yX4_compare_ wsX4_compare_ rmX4_compare_ (va_Pc [.ref z0, .int x, .int y, .int (bI zu), .int (bI zi)] (hB g H0)) (nQ H0 (zM z0 mc lf dg) (zU g z0 mc lf dg (fun r fs2 V2 n2 t2 => n2 = n ∧ t2 = t ∧ V2 = V ∧ ((∃ i j, i < 8 ∧ j < 8 ∧ x = nI i ∧ y = nI j ∧ r = some (.int (if zu = true then cmpI (V i % 65536 ^ nP zi) (V j % 65536 ^ nP zi) else cmpS (nP zi - 1 + 1) (V i % 65536 ^ nP zi) (V j % 65536 ^ nP zi))) ∧ fs2[0]? = some (.int (nI 0))) ∨ (¬ (isC x ∧ isC y) ∧ r = some (.int (nI 0)) ∧ fs2[0]? = some (.int (nI 1))))))) 2 8 (fun q => zM z0 mc lf dg q ∨ H0.size ≤ q) := by
  refine mpost (c_compare_ l g H0 z0 mc lf dg fs rr V hT.1 x y zu zi) ?_
  intro v H1 ⟨fs2, rr2, V2, hP, hD⟩ _ hk
  have h10 : fs.length = 10 := hT.1.2.1
  rcases hP with ⟨i, j, hi, hj, e, e2, h1, h2, h3⟩ | ⟨hn, h1, h3, h2⟩
  · exact ⟨fs2, rr2, V2, a, b, n, t, ⟨rfl, rfl, h2, Or.inl ⟨i, j, hi, hj, e, e2, h1, by rw [h3, List.getElem?_set_self (by omega)]⟩⟩, mt_md hT hD (ft0' hT.2.1 ⟨_, h3⟩) hk⟩
  · exact ⟨fs2, rr2, V2, a, b, n, t, ⟨rfl, rfl, h2, Or.inr ⟨hn, h1, by rw [h3, List.getElem?_set_self (by omega)]⟩⟩, mt_md hT hD (ft0' hT.2.1 ⟨_, h3⟩) hk⟩
end M92

-- THE LAW'S OWN METHODS: the class is asked, and what it throws is caught
section M83
variable {p : Program} {l : Launch} {e : Env} {s : State} {m : MethodId} {args : Array Value} {below : List Frame} {meth : Method} {c : Code} {H H0 : Heap} {locs : List Loc} {cells slots : Nat} {Q : State → Prop} {A : Nat → Prop} {g : Gx} {b0 : Nat}
abbrev rmL_put : Room := { frames := 8, cells := 1, slots := 6, locals := 133 }
set_option maxHeartbeats 4000000 in
set_option maxRecDepth 100000 in
theorem s_put (l : Launch) (hnt : l.stackTraces = false) (g : Gx) (b0 : Nat) (H0 : Heap) (x0 lc tr tc sr sc o0 : Nat) (V : Nat → Nat) (n : Nat) (t : Nat → Nat) (v0 : Int64) (hL : LQ g H0 x0 lc tr tc sr sc o0 V n t v0) (hmb : ∀ q : Nat, mL x0 lc tr tc sr sc o0 q → b0 ≤ q) (x y z : Int32) : Met l yL_put wsL_put rmL_put (va_Pc [.ref x0, .int x, .int y, .int z, .ref o0] (hX g b0 H0)) (nQ H0 (mL x0 lc tr tc sr sc o0) (zL g x0 lc tr tc sr sc o0 (fun r v2 V2 n2 t2 => (∃ k9 : Int32, r = some (.int k9)) ∧ n2 = n ∧ t2 = t ∧ oC1 x (fun _ => uN z + 4294967296 * uN y) V V2))) 1 6 (fun q => mL x0 lc tr tc sr sc o0 q ∨ H0.size ≤ q) := by
  refine cxw_met (own := RL) (cc := cL_put) (maxL := 6) (hh := [(0, 13, 16, 19)]) (by decide) rfl rfl (Nat.le_of_ble_eq_true rfl) ?_
  intro p e s m below meth c ls C0 hB0 htab hl
  obtain ⟨⟨hH, hK, hZ⟩, hE⟩ := hB0
  obtain ⟨hx, hb, hr, hml, hown, hts, hlk⟩ := id C0
  subst hH
  have hS : va_S (fun q => mL x0 lc tr tc sr sc o0 q ∨ s.heap.size ≤ q) s.heap s.heap [] := va_S.rf
  have hA : ∀ q : Nat, s.heap.size ≤ q → (fun q => mL x0 lc tr tc sr sc o0 q ∨ s.heap.size ≤ q) q := fun q h => Or.inr h
  have h0Z := hZ.1
  have hAb : ∀ q : Nat, (fun q => mL x0 lc tr tc sr sc o0 q ∨ s.heap.size ≤ q) q → b0 ≤ q := fun q h => h.elim (hmb q) (fun h => Nat.le_trans h0Z h)
  have hmb1 : ∀ q : Nat, mC x0 lc tr tc sr sc q → b0 ≤ q := fun q h => hmb q (Or.inl h)
  obtain ⟨⟨i3, i4, i5, i6, hC⟩, ⟨w0, ho⟩, hno⟩ := id hL
  have hl : lv_has ls 6 [(0, .ref x0), (1, .int x), (2, .int y), (3, .int z), (4, .ref o0)] := hl
  refine lv_aload hx hb dL_put_0 (lv_at hl 4 rfl) ?_
  refine lv_aload_n hx hb dL_put_2 rfl (lv_at hl 0 rfl) ?_
  refine lv_iload_n hx hb dL_put_3 rfl (lv_at hl 1 rfl) ?_
  refine lv_iload_n hx hb dL_put_4 rfl (lv_at hl 2 rfl) ?_
  refine lv_iload_n hx hb dL_put_5 rfl (lv_at hl 3 rfl) ?_
  by_cases hq : isC x
  · skip
    obtain ⟨i, hi, rfl⟩ := cell_of hq
    refine cn_V (As := [.int (nI i), .int y, .int z]) (rest := [.ref o0]) C0 hl hK hS hA (fun q h => Or.inl (Or.inl h)) (c_xPut l g s.heap x0 lc tr tc sr sc i3 i4 i5 i6 V n t hC i hi y z) gL_put_X2_put rfl ⟨rfl, rfl⟩ (hC.1.recv hK) ⟨rfl, (show hd_ok yX2_put 3 from ⟨by decide, by decide, by decide +kernel⟩)⟩ ⟨Nat.le_of_ble_eq_true rfl, Nat.le_of_ble_eq_true rfl⟩ rfl (Nat.le_of_ble_eq_true rfl) ⟨Nat.zero_le _, Nat.zero_le _⟩ dL_put_6 (fun r1 H1 locs hv hzz hk1 hS => ?_)
    obtain ⟨j3, j4, j5, j6, V2, n2, t2, ⟨⟨rv, rfl⟩, rfl, rfl, rfl⟩, hC1⟩ := hv
    have ho1 := ho.kept (hk1 _ ho.lt hno)
    refine lv_i2l (v := rv.toInt64) hx hb dL_put_9 (rfl) ?_
    refine w_putN (ci := 4) (C := RX3) (T := TX3) (N := 2) (ty := .long) (v := .long rv.toInt64) hx hb hts (by decide +kernel) tyX3 tyX3_ok nmX3 hown hK hS ho1 (Or.inl (Or.inr rfl)) rfl 0 (by decide) (va_Nw.use rfl hZ.2.2.2.2.2.1.2.2.2.2.1) (fun _ h9 => h9) rfl (by decide +kernel) rfl rfl (by show 0 < 2; decide) dL_put_10 (fun H2 locs ho2 hs2 hk2 hS => ?_)
    refine lv_goto (tgt := 20) hx hb dL_put_13 (by decide) ?_
    refine lv_iconst (v := nI 0) hx hb dL_put_20 (by decide) ?_
    refine W.widen (k := 1) (n := 6) (by decide) (by decide) ?_
    exact rt_ni (mu := mL x0 lc tr tc sr sc o0) C0 rfl ⟨_, _, _, _, ⟨⟨_, rfl⟩, rfl, rfl, Or.inl ⟨i, hi, rfl, by rw [put_tN]⟩⟩, ⟨_, _, _, _, hC1.kept (fun q _ hq => hk2 q (fun e => hno (by rw [← e]; exact hq)))⟩, ⟨_, ho2⟩, hno⟩ hS rfl dL_put_21
  · skip
    refine tx_CV (As := [.int x, .int y, .int z]) (rest := [.ref o0]) C0 hl hK hS hA hZ hE (t_xPut l hnt g b0 s.heap x0 lc tr tc sr sc i3 i4 i5 i6 V n t hC x y z hq) gL_put_X2_put rfl ⟨rfl, rfl⟩ (hC.1.recv hK) ⟨rfl, (show hd_ok yX2_put 3 from ⟨by decide, by decide, by decide +kernel⟩)⟩ ⟨Nat.le_of_ble_eq_true rfl, Nat.le_of_ble_eq_true rfl⟩ rfl (Nat.le_of_ble_eq_true rfl) ⟨Nat.le_of_ble_eq_true rfl, Nat.le_of_ble_eq_true rfl⟩ dL_put_6 [] ⟨0, 13, 16, 19⟩ [] (by rw [htab]; rfl) (fun z hz => nomatch hz) (by decide) (by decide) (hts (.classLink RL 19 nE1) (by decide +kernel)) (va_Nw.use rfl hE.1.1) (fun q1 H1 locs hzz hk1 hS => ?_)
    refine lv_astore (lv' := [(5, .ref q1), (0, .ref x0), (1, .int x), (2, .int y), (3, .int z), (4, .ref o0)]) hx hb dL_put_16 hl (by decide) rfl (fun ls hl => ?_)
    refine lv_iconst (v := nI 1) hx hb dL_put_18 (by decide) ?_
    refine W.widen (k := 1) (n := 6) (by decide) (by decide) ?_
    exact rt_ni (mu := mL x0 lc tr tc sr sc o0) C0 rfl ⟨_, V, n, t, ⟨⟨_, rfl⟩, rfl, rfl, Or.inr ⟨hq, rfl⟩⟩, hL.kept (fun q hq => hk1 q (hL.lt q hq))⟩ hS rfl dL_put_19
abbrev rmL_copy : Room := { frames := 8, cells := 1, slots := 6, locals := 132 }
set_option maxHeartbeats 4000000 in
set_option maxRecDepth 100000 in
theorem s_copy (l : Launch) (hnt : l.stackTraces = false) (g : Gx) (b0 : Nat) (H0 : Heap) (x0 lc tr tc sr sc o0 : Nat) (V : Nat → Nat) (n : Nat) (t : Nat → Nat) (v0 : Int64) (hL : LQ g H0 x0 lc tr tc sr sc o0 V n t v0) (hmb : ∀ q : Nat, mL x0 lc tr tc sr sc o0 q → b0 ≤ q) (x y : Int32) : Met l yL_copy wsL_copy rmL_copy (va_Pc [.ref x0, .int x, .int y, .ref o0] (hX g b0 H0)) (nQ H0 (mL x0 lc tr tc sr sc o0) (zL g x0 lc tr tc sr sc o0 (fun r v2 V2 n2 t2 => (∃ k9 : Int32, r = some (.int k9)) ∧ n2 = n ∧ t2 = t ∧ oC2 x y (fun _ => True) (fun _ w => w) V V2))) 1 6 (fun q => mL x0 lc tr tc sr sc o0 q ∨ H0.size ≤ q) := by
  refine cxw_met (own := RL) (cc := cL_copy) (maxL := 5) (hh := [(0, 18, 21, 19)]) (by decide) rfl rfl (Nat.le_of_ble_eq_true rfl) ?_
  intro p e s m below meth c ls C0 hB0 htab hl
  obtain ⟨⟨hH, hK, hZ⟩, hE⟩ := hB0
  obtain ⟨hx, hb, hr, hml, hown, hts, hlk⟩ := id C0
  subst hH
  have hS : va_S (fun q => mL x0 lc tr tc sr sc o0 q ∨ s.heap.size ≤ q) s.heap s.heap [] := va_S.rf
  have hA : ∀ q : Nat, s.heap.size ≤ q → (fun q => mL x0 lc tr tc sr sc o0 q ∨ s.heap.size ≤ q) q := fun q h => Or.inr h
  have h0Z := hZ.1
  have hAb : ∀ q : Nat, (fun q => mL x0 lc tr tc sr sc o0 q ∨ s.heap.size ≤ q) q → b0 ≤ q := fun q h => h.elim (hmb q) (fun h => Nat.le_trans h0Z h)
  have hmb1 : ∀ q : Nat, mC x0 lc tr tc sr sc q → b0 ≤ q := fun q h => hmb q (Or.inl h)
  obtain ⟨⟨i3, i4, i5, i6, hC⟩, ⟨w0, ho⟩, hno⟩ := id hL
  have hl : lv_has ls 5 [(0, .ref x0), (1, .int x), (2, .int y), (3, .ref o0)] := hl
  refine lv_aload_n hx hb dL_copy_0 rfl (lv_at hl 3 rfl) ?_
  refine lv_aload_n hx hb dL_copy_1 rfl (lv_at hl 0 rfl) ?_
  refine lv_iload_n hx hb dL_copy_2 rfl (lv_at hl 1 rfl) ?_
  refine lv_iload_n hx hb dL_copy_3 rfl (lv_at hl 2 rfl) ?_
  by_cases hq : isC x ∧ isC y
  · skip
    obtain ⟨i, hi, rfl⟩ := cell_of hq.1
    obtain ⟨j, hj, rfl⟩ := cell_of hq.2
    refine cn_V (As := [.int (nI i), .int (nI j)]) (rest := [.ref o0]) C0 hl hK hS hA (fun q h => Or.inl (Or.inl h)) (c_xCopy l g s.heap x0 lc tr tc sr sc i3 i4 i5 i6 V n t hC i j hi hj) gL_copy_X2_copy rfl ⟨rfl, rfl⟩ (hC.1.recv hK) ⟨rfl, (show hd_ok yX2_copy 2 from ⟨by decide, by decide, by decide +kernel⟩)⟩ ⟨Nat.le_of_ble_eq_true rfl, Nat.le_of_ble_eq_true rfl⟩ rfl (Nat.le_of_ble_eq_true rfl) ⟨Nat.zero_le _, Nat.zero_le _⟩ dL_copy_4 (fun r1 H1 locs hv hzz hk1 hS => ?_)
    obtain ⟨j3, j4, j5, j6, V2, n2, t2, ⟨rfl, rfl, rfl, rfl⟩, hC1⟩ := hv
    have ho1 := ho.kept (hk1 _ ho.lt hno)
    refine lw_zl hx hb dL_copy_7 dL_copy_10 dL_copy_11 dL_copy_14 ?_
    refine w_putN (ci := 4) (C := RX3) (T := TX3) (N := 2) (ty := .long) (v := .long (lB (!decide (V j = V i)))) hx hb hts (by decide +kernel) tyX3 tyX3_ok nmX3 hown hK hS ho1 (Or.inl (Or.inr rfl)) rfl 0 (by decide) (va_Nw.use rfl hZ.2.2.2.2.2.1.2.2.2.2.1) (fun _ h9 => h9) rfl (by decide +kernel) rfl rfl (by show 0 < 2; decide) dL_copy_15 (fun H2 locs ho2 hs2 hk2 hS => ?_)
    refine lv_goto (tgt := 25) hx hb dL_copy_18 (by decide) ?_
    refine lv_iconst (v := nI 0) hx hb dL_copy_25 (by decide) ?_
    refine W.widen (k := 1) (n := 6) (by decide) (by decide) ?_
    exact rt_ni (mu := mL x0 lc tr tc sr sc o0) C0 rfl ⟨_, _, _, _, ⟨⟨_, rfl⟩, rfl, rfl, Or.inl ⟨i, j, hi, hj, rfl, rfl, trivial, rfl⟩⟩, ⟨_, _, _, _, hC1.kept (fun q _ hq => hk2 q (fun e => hno (by rw [← e]; exact hq)))⟩, ⟨_, ho2⟩, hno⟩ hS rfl dL_copy_26
  · skip
    refine tx_CV (As := [.int x, .int y]) (rest := [.ref o0]) C0 hl hK hS hA hZ hE (t_xCopy l hnt g b0 s.heap x0 lc tr tc sr sc i3 i4 i5 i6 V n t hC x y hq) gL_copy_X2_copy rfl ⟨rfl, rfl⟩ (hC.1.recv hK) ⟨rfl, (show hd_ok yX2_copy 2 from ⟨by decide, by decide, by decide +kernel⟩)⟩ ⟨Nat.le_of_ble_eq_true rfl, Nat.le_of_ble_eq_true rfl⟩ rfl (Nat.le_of_ble_eq_true rfl) ⟨Nat.le_of_ble_eq_true rfl, Nat.le_of_ble_eq_true rfl⟩ dL_copy_4 [] ⟨0, 18, 21, 19⟩ [] (by rw [htab]; rfl) (fun z hz => nomatch hz) (by decide) (by decide) (hts (.classLink RL 19 nE1) (by decide +kernel)) (va_Nw.use rfl hE.1.1) (fun q1 H1 locs hzz hk1 hS => ?_)
    refine lv_astore (lv' := [(4, .ref q1), (0, .ref x0), (1, .int x), (2, .int y), (3, .ref o0)]) hx hb dL_copy_21 hl (by decide) rfl (fun ls hl => ?_)
    refine lv_iconst (v := nI 1) hx hb dL_copy_23 (by decide) ?_
    refine W.widen (k := 1) (n := 6) (by decide) (by decide) ?_
    exact rt_ni (mu := mL x0 lc tr tc sr sc o0) C0 rfl ⟨_, V, n, t, ⟨⟨_, rfl⟩, rfl, rfl, Or.inr ⟨(fun i j hi hj e1 e2 _ => hq (by rw [e1, e2]; exact ⟨isC_nI hi, isC_nI hj⟩)), rfl⟩⟩, hL.kept (fun q hq => hk1 q (hL.lt q hq))⟩ hS rfl dL_copy_24
abbrev rmL_type : Room := { frames := 7, cells := 1, slots := 6, locals := 112 }
set_option maxHeartbeats 4000000 in
set_option maxRecDepth 100000 in
theorem s_type (l : Launch) (hnt : l.stackTraces = false) (g : Gx) (b0 : Nat) (H0 : Heap) (x0 lc tr tc sr sc o0 : Nat) (V : Nat → Nat) (n : Nat) (t : Nat → Nat) (v0 : Int64) (hL : LQ g H0 x0 lc tr tc sr sc o0 V n t v0) (hmb : ∀ q : Nat, mL x0 lc tr tc sr sc o0 q → b0 ≤ q) (x : Int32) (zg : Bool) : Met l yL_type wsL_type rmL_type (va_Pc [.ref x0, .int x, .int (bI zg), .ref o0] (hX g b0 H0)) (nQ H0 (mL x0 lc tr tc sr sc o0) (zL g x0 lc tr tc sr sc o0 (fun r v2 V2 n2 t2 => (∃ k9 : Int32, r = some (.int k9)) ∧ V2 = V ∧ oTy x zg n t n2 t2))) 1 6 (fun q => mL x0 lc tr tc sr sc o0 q ∨ H0.size ≤ q) := by
  refine cxw_met (own := RL) (cc := cL_type) (maxL := 5) (hh := [(0, 11, 14, 29), (0, 11, 18, 31)]) (by decide) rfl rfl (Nat.le_of_ble_eq_true rfl) ?_
  intro p e s m below meth c ls C0 hB0 htab hl
  obtain ⟨⟨hH, hK, hZ⟩, hE⟩ := hB0
  obtain ⟨hx, hb, hr, hml, hown, hts, hlk⟩ := id C0
  subst hH
  have hS : va_S (fun q => mL x0 lc tr tc sr sc o0 q ∨ s.heap.size ≤ q) s.heap s.heap [] := va_S.rf
  have hA : ∀ q : Nat, s.heap.size ≤ q → (fun q => mL x0 lc tr tc sr sc o0 q ∨ s.heap.size ≤ q) q := fun q h => Or.inr h
  have h0Z := hZ.1
  have hAb : ∀ q : Nat, (fun q => mL x0 lc tr tc sr sc o0 q ∨ s.heap.size ≤ q) q → b0 ≤ q := fun q h => h.elim (hmb q) (fun h => Nat.le_trans h0Z h)
  have hmb1 : ∀ q : Nat, mC x0 lc tr tc sr sc q → b0 ≤ q := fun q h => hmb q (Or.inl h)
  obtain ⟨⟨i3, i4, i5, i6, hC⟩, ⟨w0, ho⟩, hno⟩ := id hL
  have hl : lv_has ls 5 [(0, .ref x0), (1, .int x), (2, .int (bI zg)), (3, .ref o0)] := hl
  refine lv_aload_n hx hb dL_type_0 rfl (lv_at hl 3 rfl) ?_
  refine lv_aload_n hx hb dL_type_1 rfl (lv_at hl 0 rfl) ?_
  refine lv_iload_n hx hb dL_type_2 rfl (lv_at hl 1 rfl) ?_
  refine lv_iload_n hx hb dL_type_3 rfl (lv_at hl 2 rfl) ?_
  obtain ⟨-, ⟨f9, -, -, -, hn70, -⟩, -⟩ := id hC
  by_cases hq : nI 0 ≤ x ∧ x ≤ nI 37
  · skip
    obtain ⟨i, hi, rfl⟩ := sg_of hq
    by_cases hf : n = 70
    · skip
      refine tx_CV (As := [.int (nI i), .int (bI zg)]) (rest := [.ref o0]) C0 hl hK hS hA hZ hE (t_xType2 l hnt g b0 s.heap x0 lc tr tc sr sc i3 i4 i5 i6 V n t hC i hi zg hf) gL_type_X2_type rfl ⟨rfl, rfl⟩ (hC.1.recv hK) ⟨rfl, (show hd_ok yX2_type 2 from ⟨by decide, by decide, by decide +kernel⟩)⟩ ⟨Nat.le_of_ble_eq_true rfl, Nat.le_of_ble_eq_true rfl⟩ rfl (Nat.le_of_ble_eq_true rfl) ⟨Nat.le_of_ble_eq_true rfl, Nat.le_of_ble_eq_true rfl⟩ dL_type_4 [⟨0, 11, 14, 29⟩] ⟨0, 11, 18, 31⟩ [] (by rw [htab]; rfl) (fun z hz => (List.mem_cons.mp hz).elim (fun h => by rw [h]; exact Or.inr ⟨by decide, _, hts (.classLink RL 29 nE2) (by decide +kernel), hE.2.2.2.1⟩) (fun h => absurd h List.not_mem_nil)) (by decide) (by decide) (hts (.classLink RL 31 nE3) (by decide +kernel)) (va_Nw.use rfl hE.1.2.2) (fun q1 H1 locs hzz hk1 hS => ?_)
      refine lv_astore (lv' := [(4, .ref q1), (0, .ref x0), (1, .int (nI i)), (2, .int (bI zg)), (3, .ref o0)]) hx hb dL_type_18 hl (by decide) rfl (fun ls hl => ?_)
      refine lv_iconst (v := nI 2) hx hb dL_type_20 (by decide) ?_
      refine W.widen (k := 1) (n := 6) (by decide) (by decide) ?_
      exact rt_ni (mu := mL x0 lc tr tc sr sc o0) C0 rfl ⟨_, V, n, t, ⟨⟨_, rfl⟩, rfl, Or.inr ⟨Or.inr hf, rfl, rfl⟩⟩, hL.kept (fun q hq => hk1 q (hL.lt q hq))⟩ hS rfl dL_type_21
    · skip
      refine cn_V (As := [.int (nI i), .int (bI zg)]) (rest := [.ref o0]) C0 hl hK hS hA (fun q h => Or.inl (Or.inl h)) (c_xType l g s.heap x0 lc tr tc sr sc i3 i4 i5 i6 V n t hC i zg hi (by omega)) gL_type_X2_type rfl ⟨rfl, rfl⟩ (hC.1.recv hK) ⟨rfl, (show hd_ok yX2_type 2 from ⟨by decide, by decide, by decide +kernel⟩)⟩ ⟨Nat.le_of_ble_eq_true rfl, Nat.le_of_ble_eq_true rfl⟩ rfl (Nat.le_of_ble_eq_true rfl) ⟨Nat.zero_le _, Nat.zero_le _⟩ dL_type_4 (fun r1 H1 locs hv hzz hk1 hS => ?_)
      obtain ⟨j3, j4, j5, j6, V2, n2, t2, ⟨rfl, rfl, rfl, rfl⟩, hC1⟩ := hv
      have ho1 := ho.kept (hk1 _ ho.lt hno)
      refine lv_i2l (v := (nI (n + 1)).toInt64) hx hb dL_type_7 (rfl) ?_
      refine w_putN (ci := 4) (C := RX3) (T := TX3) (N := 2) (ty := .long) (v := .long ((nI (n + 1)).toInt64)) hx hb hts (by decide +kernel) tyX3 tyX3_ok nmX3 hown hK hS ho1 (Or.inl (Or.inr rfl)) rfl 0 (by decide) (va_Nw.use rfl hZ.2.2.2.2.2.1.2.2.2.2.1) (fun _ h9 => h9) rfl (by decide +kernel) rfl rfl (by show 0 < 2; decide) dL_type_8 (fun H2 locs ho2 hs2 hk2 hS => ?_)
      refine lv_goto (tgt := 22) hx hb dL_type_11 (by decide) ?_
      refine lv_iconst (v := nI 0) hx hb dL_type_22 (by decide) ?_
      refine W.widen (k := 1) (n := 6) (by decide) (by decide) ?_
      exact rt_ni (mu := mL x0 lc tr tc sr sc o0) C0 rfl ⟨_, _, _, _, ⟨⟨_, rfl⟩, rfl, Or.inl ⟨i, hi, rfl, by omega, rfl, rfl⟩⟩, ⟨_, _, _, _, hC1.kept (fun q _ hq => hk2 q (fun e => hno (by rw [← e]; exact hq)))⟩, ⟨_, ho2⟩, hno⟩ hS rfl dL_type_23
  · skip
    refine tx_CV (As := [.int x, .int (bI zg)]) (rest := [.ref o0]) C0 hl hK hS hA hZ hE (t_xType1 l hnt g b0 s.heap x0 lc tr tc sr sc i3 i4 i5 i6 V n t hC x zg hq) gL_type_X2_type rfl ⟨rfl, rfl⟩ (hC.1.recv hK) ⟨rfl, (show hd_ok yX2_type 2 from ⟨by decide, by decide, by decide +kernel⟩)⟩ ⟨Nat.le_of_ble_eq_true rfl, Nat.le_of_ble_eq_true rfl⟩ rfl (Nat.le_of_ble_eq_true rfl) ⟨Nat.le_of_ble_eq_true rfl, Nat.le_of_ble_eq_true rfl⟩ dL_type_4 [] ⟨0, 11, 14, 29⟩ [⟨0, 11, 18, 31⟩] (by rw [htab]; rfl) (fun z hz => nomatch hz) (by decide) (by decide) (hts (.classLink RL 29 nE2) (by decide +kernel)) (va_Nw.use rfl hE.1.2.1) (fun q1 H1 locs hzz hk1 hS => ?_)
    refine lv_astore (lv' := [(4, .ref q1), (0, .ref x0), (1, .int x), (2, .int (bI zg)), (3, .ref o0)]) hx hb dL_type_14 hl (by decide) rfl (fun ls hl => ?_)
    refine lv_iconst (v := nI 1) hx hb dL_type_16 (by decide) ?_
    refine W.widen (k := 1) (n := 6) (by decide) (by decide) ?_
    exact rt_ni (mu := mL x0 lc tr tc sr sc o0) C0 rfl ⟨_, V, n, t, ⟨⟨_, rfl⟩, rfl, Or.inr ⟨Or.inl hq, rfl, rfl⟩⟩, hL.kept (fun q hq => hk1 q (hL.lt q hq))⟩ hS rfl dL_type_17
abbrev rmL_erase : Room := { frames := 7, cells := 1, slots := 6, locals := 110 }
set_option maxHeartbeats 4000000 in
set_option maxRecDepth 100000 in
theorem s_erase (l : Launch) (hnt : l.stackTraces = false) (g : Gx) (b0 : Nat) (H0 : Heap) (x0 lc tr tc sr sc o0 : Nat) (V : Nat → Nat) (n : Nat) (t : Nat → Nat) (v0 : Int64) (hL : LQ g H0 x0 lc tr tc sr sc o0 V n t v0) (hmb : ∀ q : Nat, mL x0 lc tr tc sr sc o0 q → b0 ≤ q) : Met l yL_erase wsL_erase rmL_erase (va_Pc [.ref x0, .ref o0] (hX g b0 H0)) (nQ H0 (mL x0 lc tr tc sr sc o0) (zL g x0 lc tr tc sr sc o0 (fun r v2 V2 n2 t2 => (∃ k9 : Int32, r = some (.int k9)) ∧ V2 = V ∧ n2 = n - 1 ∧ t2 = t))) 1 6 (fun q => mL x0 lc tr tc sr sc o0 q ∨ H0.size ≤ q) := by
  refine cxw_met (own := RL) (cc := cL_erase) (maxL := 3) (hh := [(0, 9, 12, 31)]) (by decide) rfl rfl (Nat.le_of_ble_eq_true rfl) ?_
  intro p e s m below meth c ls C0 hB0 htab hl
  obtain ⟨⟨hH, hK, hZ⟩, hE⟩ := hB0
  obtain ⟨hx, hb, hr, hml, hown, hts, hlk⟩ := id C0
  subst hH
  have hS : va_S (fun q => mL x0 lc tr tc sr sc o0 q ∨ s.heap.size ≤ q) s.heap s.heap [] := va_S.rf
  have hA : ∀ q : Nat, s.heap.size ≤ q → (fun q => mL x0 lc tr tc sr sc o0 q ∨ s.heap.size ≤ q) q := fun q h => Or.inr h
  have h0Z := hZ.1
  have hAb : ∀ q : Nat, (fun q => mL x0 lc tr tc sr sc o0 q ∨ s.heap.size ≤ q) q → b0 ≤ q := fun q h => h.elim (hmb q) (fun h => Nat.le_trans h0Z h)
  have hmb1 : ∀ q : Nat, mC x0 lc tr tc sr sc q → b0 ≤ q := fun q h => hmb q (Or.inl h)
  obtain ⟨⟨i3, i4, i5, i6, hC⟩, ⟨w0, ho⟩, hno⟩ := id hL
  have hl : lv_has ls 3 [(0, .ref x0), (1, .ref o0)] := hl
  refine lv_aload_n hx hb dL_erase_0 rfl (lv_at hl 1 rfl) ?_
  refine lv_aload_n hx hb dL_erase_1 rfl (lv_at hl 0 rfl) ?_
  by_cases hq : 0 < n
  · skip
    refine cn_V (As := []) (rest := [.ref o0]) C0 hl hK hS hA (fun q h => Or.inl (Or.inl h)) (c_xErase l g s.heap x0 lc tr tc sr sc i3 i4 i5 i6 V n t hC hq) gL_erase_X2_erase rfl ⟨rfl, rfl⟩ (hC.1.recv hK) ⟨rfl, (show hd_ok yX2_erase 0 from ⟨by decide, by decide, by decide +kernel⟩)⟩ ⟨Nat.le_of_ble_eq_true rfl, Nat.le_of_ble_eq_true rfl⟩ rfl (Nat.le_of_ble_eq_true rfl) ⟨Nat.zero_le _, Nat.zero_le _⟩ dL_erase_2 (fun r1 H1 locs hv hzz hk1 hS => ?_)
    obtain ⟨j3, j4, j5, j6, V2, n2, t2, ⟨rfl, rfl, rfl, rfl⟩, hC1⟩ := hv
    have ho1 := ho.kept (hk1 _ ho.lt hno)
    refine lv_i2l (v := (nI (n - 1)).toInt64) hx hb dL_erase_5 (rfl) ?_
    refine w_putN (ci := 4) (C := RX3) (T := TX3) (N := 2) (ty := .long) (v := .long ((nI (n - 1)).toInt64)) hx hb hts (by decide +kernel) tyX3 tyX3_ok nmX3 hown hK hS ho1 (Or.inl (Or.inr rfl)) rfl 0 (by decide) (va_Nw.use rfl hZ.2.2.2.2.2.1.2.2.2.2.1) (fun _ h9 => h9) rfl (by decide +kernel) rfl rfl (by show 0 < 2; decide) dL_erase_6 (fun H2 locs ho2 hs2 hk2 hS => ?_)
    refine lv_goto (tgt := 15) hx hb dL_erase_9 (by decide) ?_
    refine lv_iconst (v := nI 0) hx hb dL_erase_15 (by decide) ?_
    refine W.widen (k := 1) (n := 6) (by decide) (by decide) ?_
    exact rt_ni (mu := mL x0 lc tr tc sr sc o0) C0 rfl ⟨_, _, _, _, ⟨⟨_, rfl⟩, rfl, rfl, rfl⟩, ⟨_, _, _, _, hC1.kept (fun q _ hq => hk2 q (fun e => hno (by rw [← e]; exact hq)))⟩, ⟨_, ho2⟩, hno⟩ hS rfl dL_erase_16
  · skip
    refine tx_CV (As := []) (rest := [.ref o0]) C0 hl hK hS hA hZ hE (t_xErase l hnt g b0 s.heap x0 lc tr tc sr sc i3 i4 i5 i6 V n t hC (by omega)) gL_erase_X2_erase rfl ⟨rfl, rfl⟩ (hC.1.recv hK) ⟨rfl, (show hd_ok yX2_erase 0 from ⟨by decide, by decide, by decide +kernel⟩)⟩ ⟨Nat.le_of_ble_eq_true rfl, Nat.le_of_ble_eq_true rfl⟩ rfl (Nat.le_of_ble_eq_true rfl) ⟨Nat.le_of_ble_eq_true rfl, Nat.le_of_ble_eq_true rfl⟩ dL_erase_2 [] ⟨0, 9, 12, 31⟩ [] (by rw [htab]; rfl) (fun z hz => nomatch hz) (by decide) (by decide) (hts (.classLink RL 31 nE3) (by decide +kernel)) (va_Nw.use rfl hE.1.2.2) (fun q1 H1 locs hzz hk1 hS => ?_)
    refine lv_astore_n (lv' := [(2, .ref q1), (0, .ref x0), (1, .ref o0)]) hx hb dL_erase_12 rfl hl (by decide) rfl (fun ls hl => ?_)
    refine lv_iconst (v := nI 1) hx hb dL_erase_13 (by decide) ?_
    refine W.widen (k := 1) (n := 6) (by decide) (by decide) ?_
    exact rt_ni (mu := mL x0 lc tr tc sr sc o0) C0 rfl ⟨_, V, n, t, ⟨⟨_, rfl⟩, rfl, by omega, rfl⟩, hL.kept (fun q hq => hk1 q (hL.lt q hq))⟩ hS rfl dL_erase_14
abbrev rmL_read : Room := { frames := 9, cells := 1, slots := 6, locals := 155 }
set_option maxHeartbeats 4000000 in
set_option maxRecDepth 100000 in
theorem s_read (l : Launch) (hnt : l.stackTraces = false) (g : Gx) (b0 : Nat) (H0 : Heap) (x0 lc tr tc sr sc o0 : Nat) (V : Nat → Nat) (n : Nat) (t : Nat → Nat) (v0 : Int64) (hL : LQ g H0 x0 lc tr tc sr sc o0 V n t v0) (hmb : ∀ q : Nat, mL x0 lc tr tc sr sc o0 q → b0 ≤ q) (x y kd : Int32) : Met l yL_read wsL_read rmL_read (va_Pc [.ref x0, .int x, .int y, .int kd, .ref o0] (hX g b0 H0)) (nQ H0 (mL x0 lc tr tc sr sc o0) (zL g x0 lc tr tc sr sc o0 (fun r v2 V2 n2 t2 => (∃ k9 : Int32, r = some (.int k9)) ∧ n2 = n ∧ t2 = t ∧ oRd x y kd n t V V2))) 1 6 (fun q => mL x0 lc tr tc sr sc o0 q ∨ H0.size ≤ q) := by
  refine cxw_met (own := RL) (cc := cL_read) (maxL := 6) (hh := [(0, 13, 16, 19), (0, 13, 20, 29)]) (by decide) rfl rfl (Nat.le_of_ble_eq_true rfl) ?_
  intro p e s m below meth c ls C0 hB0 htab hl
  obtain ⟨⟨hH, hK, hZ⟩, hE⟩ := hB0
  obtain ⟨hx, hb, hr, hml, hown, hts, hlk⟩ := id C0
  subst hH
  have hS : va_S (fun q => mL x0 lc tr tc sr sc o0 q ∨ s.heap.size ≤ q) s.heap s.heap [] := va_S.rf
  have hA : ∀ q : Nat, s.heap.size ≤ q → (fun q => mL x0 lc tr tc sr sc o0 q ∨ s.heap.size ≤ q) q := fun q h => Or.inr h
  have h0Z := hZ.1
  have hAb : ∀ q : Nat, (fun q => mL x0 lc tr tc sr sc o0 q ∨ s.heap.size ≤ q) q → b0 ≤ q := fun q h => h.elim (hmb q) (fun h => Nat.le_trans h0Z h)
  have hmb1 : ∀ q : Nat, mC x0 lc tr tc sr sc q → b0 ≤ q := fun q h => hmb q (Or.inl h)
  obtain ⟨⟨i3, i4, i5, i6, hC⟩, ⟨w0, ho⟩, hno⟩ := id hL
  have hl : lv_has ls 6 [(0, .ref x0), (1, .int x), (2, .int y), (3, .int kd), (4, .ref o0)] := hl
  refine lv_aload hx hb dL_read_0 (lv_at hl 4 rfl) ?_
  refine lv_aload_n hx hb dL_read_2 rfl (lv_at hl 0 rfl) ?_
  refine lv_iload_n hx hb dL_read_3 rfl (lv_at hl 1 rfl) ?_
  refine lv_iload_n hx hb dL_read_4 rfl (lv_at hl 2 rfl) ?_
  refine lv_iload_n hx hb dL_read_5 rfl (lv_at hl 3 rfl) ?_
  by_cases hq : isC x
  · skip
    obtain ⟨i, hi, rfl⟩ := cell_of hq
    by_cases hq2 : rkOK y kd
    · skip
      obtain ⟨r9, d9, hr9, hd9, rfl, rfl⟩ := rkOK_of hq2
      refine jn_V (As := [.int (nI i), .int (nI r9), .int (nI d9)]) (rest := [.ref o0]) C0 hl hK hS hA (fun q h => Or.inl (Or.inl h)) (zat hZ hS hAb) (c_xRead l g b0 s.heap x0 lc tr tc sr sc i3 i4 i5 i6 V n t hC hmb1 i r9 d9 hi hr9 hd9) gL_read_X2_read rfl ⟨rfl, rfl⟩ (hC.1.recv hK) ⟨rfl, (show hd_ok yX2_read 3 from ⟨by decide, by decide, by decide +kernel⟩)⟩ ⟨Nat.le_of_ble_eq_true rfl, Nat.le_of_ble_eq_true rfl⟩ rfl (Nat.le_of_ble_eq_true rfl) ⟨Nat.zero_le _, Nat.zero_le _⟩ dL_read_6 (fun r1 H1 locs hv hzz hk1 hS => ?_)
      obtain ⟨j3, j4, j5, j6, V2, n2, t2, ⟨⟨rv, rfl⟩, rfl, rfl, hP⟩, hC1⟩ := hv
      have ho1 := ho.kept (hk1 _ ho.lt hno)
      refine lv_i2l (v := rv.toInt64) hx hb dL_read_9 (rfl) ?_
      refine w_putN (ci := 4) (C := RX3) (T := TX3) (N := 2) (ty := .long) (v := .long rv.toInt64) hx hb hts (by decide +kernel) tyX3 tyX3_ok nmX3 hown hK hS ho1 (Or.inl (Or.inr rfl)) rfl 0 (by decide) (va_Nw.use rfl hZ.2.2.2.2.2.1.2.2.2.2.1) (fun _ h9 => h9) rfl (by decide +kernel) rfl rfl (by show 0 < 2; decide) dL_read_10 (fun H2 locs ho2 hs2 hk2 hS => ?_)
      refine lv_goto (tgt := 24) hx hb dL_read_13 (by decide) ?_
      refine lv_iconst (v := nI 0) hx hb dL_read_24 (by decide) ?_
      refine W.widen (k := 1) (n := 6) (by decide) (by decide) ?_
      exact rt_ni (mu := mL x0 lc tr tc sr sc o0) C0 rfl ⟨_, _, _, _, ⟨⟨_, rfl⟩, rfl, rfl, Or.inl ⟨i, r9, d9, hi, hr9, hd9, rfl, rfl, rfl, hP⟩⟩, ⟨_, _, _, _, hC1.kept (fun q _ hq => hk2 q (fun e => hno (by rw [← e]; exact hq)))⟩, ⟨_, ho2⟩, hno⟩ hS rfl dL_read_25
    · skip
      refine tx_CV (As := [.int (nI i), .int y, .int kd]) (rest := [.ref o0]) C0 hl hK hS hA hZ hE (t_xRead2 l hnt g b0 s.heap x0 lc tr tc sr sc i3 i4 i5 i6 V n t hC i hi y kd hq2) gL_read_X2_read rfl ⟨rfl, rfl⟩ (hC.1.recv hK) ⟨rfl, (show hd_ok yX2_read 3 from ⟨by decide, by decide, by decide +kernel⟩)⟩ ⟨Nat.le_of_ble_eq_true rfl, Nat.le_of_ble_eq_true rfl⟩ rfl (Nat.le_of_ble_eq_true rfl) ⟨Nat.le_of_ble_eq_true rfl, Nat.le_of_ble_eq_true rfl⟩ dL_read_6 [⟨0, 13, 16, 19⟩] ⟨0, 13, 20, 29⟩ [] (by rw [htab]; rfl) (fun z hz => (List.mem_cons.mp hz).elim (fun h => by rw [h]; exact Or.inr ⟨by decide, _, hts (.classLink RL 19 nE1) (by decide +kernel), hE.2.1⟩) (fun h => absurd h List.not_mem_nil)) (by decide) (by decide) (hts (.classLink RL 29 nE2) (by decide +kernel)) (va_Nw.use rfl hE.1.2.1) (fun q1 H1 locs hzz hk1 hS => ?_)
      refine lv_astore (lv' := [(5, .ref q1), (0, .ref x0), (1, .int (nI i)), (2, .int y), (3, .int kd), (4, .ref o0)]) hx hb dL_read_20 hl (by decide) rfl (fun ls hl => ?_)
      refine lv_iconst (v := nI 2) hx hb dL_read_22 (by decide) ?_
      refine W.widen (k := 1) (n := 6) (by decide) (by decide) ?_
      exact rt_ni (mu := mL x0 lc tr tc sr sc o0) C0 rfl ⟨_, V, n, t, ⟨⟨_, rfl⟩, rfl, rfl, Or.inr ⟨fun z => hq2 z.2, rfl⟩⟩, hL.kept (fun q hq => hk1 q (hL.lt q hq))⟩ hS rfl dL_read_23
  · skip
    refine tx_CV (As := [.int x, .int y, .int kd]) (rest := [.ref o0]) C0 hl hK hS hA hZ hE (t_xRead1 l hnt g b0 s.heap x0 lc tr tc sr sc i3 i4 i5 i6 V n t hC x y kd hq) gL_read_X2_read rfl ⟨rfl, rfl⟩ (hC.1.recv hK) ⟨rfl, (show hd_ok yX2_read 3 from ⟨by decide, by decide, by decide +kernel⟩)⟩ ⟨Nat.le_of_ble_eq_true rfl, Nat.le_of_ble_eq_true rfl⟩ rfl (Nat.le_of_ble_eq_true rfl) ⟨Nat.le_of_ble_eq_true rfl, Nat.le_of_ble_eq_true rfl⟩ dL_read_6 [] ⟨0, 13, 16, 19⟩ [⟨0, 13, 20, 29⟩] (by rw [htab]; rfl) (fun z hz => nomatch hz) (by decide) (by decide) (hts (.classLink RL 19 nE1) (by decide +kernel)) (va_Nw.use rfl hE.1.1) (fun q1 H1 locs hzz hk1 hS => ?_)
    refine lv_astore (lv' := [(5, .ref q1), (0, .ref x0), (1, .int x), (2, .int y), (3, .int kd), (4, .ref o0)]) hx hb dL_read_16 hl (by decide) rfl (fun ls hl => ?_)
    refine lv_iconst (v := nI 1) hx hb dL_read_18 (by decide) ?_
    refine W.widen (k := 1) (n := 6) (by decide) (by decide) ?_
    exact rt_ni (mu := mL x0 lc tr tc sr sc o0) C0 rfl ⟨_, V, n, t, ⟨⟨_, rfl⟩, rfl, rfl, Or.inr ⟨fun z => hq z.1, rfl⟩⟩, hL.kept (fun q hq => hk1 q (hL.lt q hq))⟩ hS rfl dL_read_19
abbrev rmL_write : Room := { frames := 9, cells := 1, slots := 6, locals := 155 }
set_option maxHeartbeats 4000000 in
set_option maxRecDepth 100000 in
theorem s_write (l : Launch) (hnt : l.stackTraces = false) (g : Gx) (b0 : Nat) (H0 : Heap) (x0 lc tr tc sr sc o0 : Nat) (V : Nat → Nat) (n : Nat) (t : Nat → Nat) (v0 : Int64) (hL : LQ g H0 x0 lc tr tc sr sc o0 V n t v0) (hmb : ∀ q : Nat, mL x0 lc tr tc sr sc o0 q → b0 ≤ q) (x y kd : Int32) : Met l yL_write wsL_write rmL_write (va_Pc [.ref x0, .int x, .int y, .int kd, .ref o0] (hX g b0 H0)) (nQ H0 (mL x0 lc tr tc sr sc o0) (zL g x0 lc tr tc sr sc o0 (fun r v2 V2 n2 t2 => (∃ k9 : Int32, r = some (.int k9)) ∧ V2 = V ∧ oWr x y kd V n t n2 t2))) 1 6 (fun q => mL x0 lc tr tc sr sc o0 q ∨ H0.size ≤ q) := by
  refine cxw_met (own := RL) (cc := cL_write) (maxL := 6) (hh := [(0, 13, 16, 19), (0, 13, 20, 29)]) (by decide) rfl rfl (Nat.le_of_ble_eq_true rfl) ?_
  intro p e s m below meth c ls C0 hB0 htab hl
  obtain ⟨⟨hH, hK, hZ⟩, hE⟩ := hB0
  obtain ⟨hx, hb, hr, hml, hown, hts, hlk⟩ := id C0
  subst hH
  have hS : va_S (fun q => mL x0 lc tr tc sr sc o0 q ∨ s.heap.size ≤ q) s.heap s.heap [] := va_S.rf
  have hA : ∀ q : Nat, s.heap.size ≤ q → (fun q => mL x0 lc tr tc sr sc o0 q ∨ s.heap.size ≤ q) q := fun q h => Or.inr h
  have h0Z := hZ.1
  have hAb : ∀ q : Nat, (fun q => mL x0 lc tr tc sr sc o0 q ∨ s.heap.size ≤ q) q → b0 ≤ q := fun q h => h.elim (hmb q) (fun h => Nat.le_trans h0Z h)
  have hmb1 : ∀ q : Nat, mC x0 lc tr tc sr sc q → b0 ≤ q := fun q h => hmb q (Or.inl h)
  obtain ⟨⟨i3, i4, i5, i6, hC⟩, ⟨w0, ho⟩, hno⟩ := id hL
  have hl : lv_has ls 6 [(0, .ref x0), (1, .int x), (2, .int y), (3, .int kd), (4, .ref o0)] := hl
  refine lv_aload hx hb dL_write_0 (lv_at hl 4 rfl) ?_
  refine lv_aload_n hx hb dL_write_2 rfl (lv_at hl 0 rfl) ?_
  refine lv_iload_n hx hb dL_write_3 rfl (lv_at hl 1 rfl) ?_
  refine lv_iload_n hx hb dL_write_4 rfl (lv_at hl 2 rfl) ?_
  refine lv_iload_n hx hb dL_write_5 rfl (lv_at hl 3 rfl) ?_
  by_cases hq : isC x
  · skip
    obtain ⟨i, hi, rfl⟩ := cell_of hq
    by_cases hq2 : rkOK y kd
    · skip
      obtain ⟨r9, d9, hr9, hd9, rfl, rfl⟩ := rkOK_of hq2
      refine cn_V (As := [.int (nI i), .int (nI r9), .int (nI d9)]) (rest := [.ref o0]) C0 hl hK hS hA (fun q h => Or.inl (Or.inl h)) (c_xWrite l g s.heap x0 lc tr tc sr sc i3 i4 i5 i6 V n t hC i r9 d9 hi hr9 hd9) gL_write_X2_write rfl ⟨rfl, rfl⟩ (hC.1.recv hK) ⟨rfl, (show hd_ok yX2_write 3 from ⟨by decide, by decide, by decide +kernel⟩)⟩ ⟨Nat.le_of_ble_eq_true rfl, Nat.le_of_ble_eq_true rfl⟩ rfl (Nat.le_of_ble_eq_true rfl) ⟨Nat.zero_le _, Nat.zero_le _⟩ dL_write_6 (fun r1 H1 locs hv hzz hk1 hS => ?_)
      obtain ⟨j3, j4, j5, j6, V2, n2, t2, ⟨⟨rv, rfl⟩, rfl, hP⟩, hC1⟩ := hv
      have ho1 := ho.kept (hk1 _ ho.lt hno)
      refine lv_i2l (v := rv.toInt64) hx hb dL_write_9 (rfl) ?_
      refine w_putN (ci := 4) (C := RX3) (T := TX3) (N := 2) (ty := .long) (v := .long rv.toInt64) hx hb hts (by decide +kernel) tyX3 tyX3_ok nmX3 hown hK hS ho1 (Or.inl (Or.inr rfl)) rfl 0 (by decide) (va_Nw.use rfl hZ.2.2.2.2.2.1.2.2.2.2.1) (fun _ h9 => h9) rfl (by decide +kernel) rfl rfl (by show 0 < 2; decide) dL_write_10 (fun H2 locs ho2 hs2 hk2 hS => ?_)
      refine lv_goto (tgt := 24) hx hb dL_write_13 (by decide) ?_
      refine lv_iconst (v := nI 0) hx hb dL_write_24 (by decide) ?_
      refine W.widen (k := 1) (n := 6) (by decide) (by decide) ?_
      exact rt_ni (mu := mL x0 lc tr tc sr sc o0) C0 rfl ⟨_, _, _, _, ⟨⟨_, rfl⟩, rfl, Or.inl ⟨i, r9, d9, hi, hr9, hd9, rfl, rfl, rfl, hP⟩⟩, ⟨_, _, _, _, hC1.kept (fun q _ hq => hk2 q (fun e => hno (by rw [← e]; exact hq)))⟩, ⟨_, ho2⟩, hno⟩ hS rfl dL_write_25
    · skip
      refine tx_CV (As := [.int (nI i), .int y, .int kd]) (rest := [.ref o0]) C0 hl hK hS hA hZ hE (t_xWrite2 l hnt g b0 s.heap x0 lc tr tc sr sc i3 i4 i5 i6 V n t hC i hi y kd hq2) gL_write_X2_write rfl ⟨rfl, rfl⟩ (hC.1.recv hK) ⟨rfl, (show hd_ok yX2_write 3 from ⟨by decide, by decide, by decide +kernel⟩)⟩ ⟨Nat.le_of_ble_eq_true rfl, Nat.le_of_ble_eq_true rfl⟩ rfl (Nat.le_of_ble_eq_true rfl) ⟨Nat.le_of_ble_eq_true rfl, Nat.le_of_ble_eq_true rfl⟩ dL_write_6 [⟨0, 13, 16, 19⟩] ⟨0, 13, 20, 29⟩ [] (by rw [htab]; rfl) (fun z hz => (List.mem_cons.mp hz).elim (fun h => by rw [h]; exact Or.inr ⟨by decide, _, hts (.classLink RL 19 nE1) (by decide +kernel), hE.2.1⟩) (fun h => absurd h List.not_mem_nil)) (by decide) (by decide) (hts (.classLink RL 29 nE2) (by decide +kernel)) (va_Nw.use rfl hE.1.2.1) (fun q1 H1 locs hzz hk1 hS => ?_)
      refine lv_astore (lv' := [(5, .ref q1), (0, .ref x0), (1, .int (nI i)), (2, .int y), (3, .int kd), (4, .ref o0)]) hx hb dL_write_20 hl (by decide) rfl (fun ls hl => ?_)
      refine lv_iconst (v := nI 2) hx hb dL_write_22 (by decide) ?_
      refine W.widen (k := 1) (n := 6) (by decide) (by decide) ?_
      exact rt_ni (mu := mL x0 lc tr tc sr sc o0) C0 rfl ⟨_, V, n, t, ⟨⟨_, rfl⟩, rfl, Or.inr ⟨fun z => hq2 z.2, rfl, rfl⟩⟩, hL.kept (fun q hq => hk1 q (hL.lt q hq))⟩ hS rfl dL_write_23
  · skip
    refine tx_CV (As := [.int x, .int y, .int kd]) (rest := [.ref o0]) C0 hl hK hS hA hZ hE (t_xWrite1 l hnt g b0 s.heap x0 lc tr tc sr sc i3 i4 i5 i6 V n t hC x y kd hq) gL_write_X2_write rfl ⟨rfl, rfl⟩ (hC.1.recv hK) ⟨rfl, (show hd_ok yX2_write 3 from ⟨by decide, by decide, by decide +kernel⟩)⟩ ⟨Nat.le_of_ble_eq_true rfl, Nat.le_of_ble_eq_true rfl⟩ rfl (Nat.le_of_ble_eq_true rfl) ⟨Nat.le_of_ble_eq_true rfl, Nat.le_of_ble_eq_true rfl⟩ dL_write_6 [] ⟨0, 13, 16, 19⟩ [⟨0, 13, 20, 29⟩] (by rw [htab]; rfl) (fun z hz => nomatch hz) (by decide) (by decide) (hts (.classLink RL 19 nE1) (by decide +kernel)) (va_Nw.use rfl hE.1.1) (fun q1 H1 locs hzz hk1 hS => ?_)
    refine lv_astore (lv' := [(5, .ref q1), (0, .ref x0), (1, .int x), (2, .int y), (3, .int kd), (4, .ref o0)]) hx hb dL_write_16 hl (by decide) rfl (fun ls hl => ?_)
    refine lv_iconst (v := nI 1) hx hb dL_write_18 (by decide) ?_
    refine W.widen (k := 1) (n := 6) (by decide) (by decide) ?_
    exact rt_ni (mu := mL x0 lc tr tc sr sc o0) C0 rfl ⟨_, V, n, t, ⟨⟨_, rfl⟩, rfl, Or.inr ⟨fun z => hq z.1, rfl, rfl⟩⟩, hL.kept (fun q hq => hk1 q (hL.lt q hq))⟩ hS rfl dL_write_19
abbrev rmL_written : Room := { frames := 9, cells := 6, slots := 198, locals := 216 }
set_option maxHeartbeats 4000000 in
set_option maxRecDepth 100000 in
theorem s_written (l : Launch) (hnt : l.stackTraces = false) (g : Gx) (b0 : Nat) (H0 : Heap) (x0 lc tr tc sr sc o0 : Nat) (V : Nat → Nat) (n : Nat) (t : Nat → Nat) (v0 : Int64) (hL : LQ g H0 x0 lc tr tc sr sc o0 V n t v0) (hmb : ∀ q : Nat, mL x0 lc tr tc sr sc o0 q → b0 ≤ q) (x y kd : Int32) : Met l yL_written wsL_written rmL_written (va_Pc [.ref x0, .int x, .int y, .int kd, .ref o0] (hX g b0 H0)) (nQ H0 (mL x0 lc tr tc sr sc o0) (zL g x0 lc tr tc sr sc o0 (fun r v2 V2 n2 t2 => (∃ k9 : Int32, r = some (.int k9)) ∧ V2 = V ∧ n2 = n ∧ t2 = t))) 6 198 (fun q => mL x0 lc tr tc sr sc o0 q ∨ H0.size ≤ q) := by
  refine cxw_met (own := RL) (cc := cL_written) (maxL := 6) (hh := [(0, 12, 15, 19), (0, 12, 19, 29)]) (by decide) rfl rfl (Nat.le_of_ble_eq_true rfl) ?_
  intro p e s m below meth c ls C0 hB0 htab hl
  obtain ⟨⟨hH, hK, hZ⟩, hE⟩ := hB0
  obtain ⟨hx, hb, hr, hml, hown, hts, hlk⟩ := id C0
  subst hH
  have hS : va_S (fun q => mL x0 lc tr tc sr sc o0 q ∨ s.heap.size ≤ q) s.heap s.heap [] := va_S.rf
  have hA : ∀ q : Nat, s.heap.size ≤ q → (fun q => mL x0 lc tr tc sr sc o0 q ∨ s.heap.size ≤ q) q := fun q h => Or.inr h
  have h0Z := hZ.1
  have hAb : ∀ q : Nat, (fun q => mL x0 lc tr tc sr sc o0 q ∨ s.heap.size ≤ q) q → b0 ≤ q := fun q h => h.elim (hmb q) (fun h => Nat.le_trans h0Z h)
  have hmb1 : ∀ q : Nat, mC x0 lc tr tc sr sc q → b0 ≤ q := fun q h => hmb q (Or.inl h)
  obtain ⟨⟨i3, i4, i5, i6, hC⟩, ⟨w0, ho⟩, hno⟩ := id hL
  have hl : lv_has ls 6 [(0, .ref x0), (1, .int x), (2, .int y), (3, .int kd), (4, .ref o0)] := hl
  refine lv_aload hx hb dL_written_0 (lv_at hl 4 rfl) ?_
  refine lv_aload_n hx hb dL_written_2 rfl (lv_at hl 0 rfl) ?_
  refine lv_iload_n hx hb dL_written_3 rfl (lv_at hl 1 rfl) ?_
  refine lv_iload_n hx hb dL_written_4 rfl (lv_at hl 2 rfl) ?_
  refine lv_iload_n hx hb dL_written_5 rfl (lv_at hl 3 rfl) ?_
  by_cases hq : isC x
  · skip
    obtain ⟨i, hi, rfl⟩ := cell_of hq
    by_cases hq2 : rkOK y kd
    · skip
      obtain ⟨r9, d9, hr9, hd9, rfl, rfl⟩ := rkOK_of hq2
      refine jn_V (As := [.int (nI i), .int (nI r9), .int (nI d9)]) (rest := [.ref o0]) C0 hl hK hS hA (fun q h => Or.inl (Or.inl h)) (zat hZ hS hAb) (c_xWritten l g b0 s.heap x0 lc tr tc sr sc i3 i4 i5 i6 V n t hC hmb1 i r9 d9 hi hr9 hd9) gL_written_X2_written rfl ⟨rfl, rfl⟩ (hC.1.recv hK) ⟨rfl, (show hd_ok yX2_written 3 from ⟨by decide, by decide, by decide +kernel⟩)⟩ ⟨Nat.le_of_ble_eq_true rfl, Nat.le_of_ble_eq_true rfl⟩ rfl (Nat.le_of_ble_eq_true rfl) ⟨by decide, by decide⟩ dL_written_6 (fun r1 H1 locs hv hzz hk1 hS => ?_)
      obtain ⟨j3, j4, j5, j6, V2, n2, t2, ⟨⟨rv, rfl⟩, rfl, rfl, rfl⟩, hC1⟩ := hv
      have ho1 := ho.kept (hk1 _ ho.lt hno)
      refine w_putN (ci := 4) (C := RX3) (T := TX3) (N := 2) (ty := .object "java/lang/String") (v := .ref rv) hx hb hts (by decide +kernel) tyX3 tyX3_ok nmX3 hown hK hS ho1 (Or.inl (Or.inr rfl)) rfl 1 (by decide) (va_Nw.use rfl hZ.2.2.2.2.2.1.2.2.2.2.2) (fun _ h9 => h9) rfl (by decide +kernel) rfl rfl (by show 1 < 2; decide) dL_written_9 (fun H2 locs ho2 hs2 hk2 hS => ?_)
      refine lv_goto (tgt := 23) hx hb dL_written_12 (by decide) ?_
      refine lv_iconst (v := nI 0) hx hb dL_written_23 (by decide) ?_
      refine W.widen (k := 6) (n := 198) (by decide) (by decide) ?_
      exact rt_ni (mu := mL x0 lc tr tc sr sc o0) C0 rfl ⟨_, _, _, _, ⟨⟨_, rfl⟩, rfl, rfl, rfl⟩, ⟨_, _, _, _, hC1.kept (fun q _ hq => hk2 q (fun e => hno (by rw [← e]; exact hq)))⟩, ⟨_, ho2⟩, hno⟩ hS rfl dL_written_24
    · skip
      refine tx_CV (As := [.int (nI i), .int y, .int kd]) (rest := [.ref o0]) C0 hl hK hS hA hZ hE (t_xWritten2 l hnt g b0 s.heap x0 lc tr tc sr sc i3 i4 i5 i6 V n t hC i hi y kd hq2) gL_written_X2_written rfl ⟨rfl, rfl⟩ (hC.1.recv hK) ⟨rfl, (show hd_ok yX2_written 3 from ⟨by decide, by decide, by decide +kernel⟩)⟩ ⟨Nat.le_of_ble_eq_true rfl, Nat.le_of_ble_eq_true rfl⟩ rfl (Nat.le_of_ble_eq_true rfl) ⟨Nat.le_of_ble_eq_true rfl, Nat.le_of_ble_eq_true rfl⟩ dL_written_6 [⟨0, 12, 15, 19⟩] ⟨0, 12, 19, 29⟩ [] (by rw [htab]; rfl) (fun z hz => (List.mem_cons.mp hz).elim (fun h => by rw [h]; exact Or.inr ⟨by decide, _, hts (.classLink RL 19 nE1) (by decide +kernel), hE.2.1⟩) (fun h => absurd h List.not_mem_nil)) (by decide) (by decide) (hts (.classLink RL 29 nE2) (by decide +kernel)) (va_Nw.use rfl hE.1.2.1) (fun q1 H1 locs hzz hk1 hS => ?_)
      refine lv_astore (lv' := [(5, .ref q1), (0, .ref x0), (1, .int (nI i)), (2, .int y), (3, .int kd), (4, .ref o0)]) hx hb dL_written_19 hl (by decide) rfl (fun ls hl => ?_)
      refine lv_iconst (v := nI 2) hx hb dL_written_21 (by decide) ?_
      refine W.widen (k := 6) (n := 198) (by decide) (by decide) ?_
      exact rt_ni (mu := mL x0 lc tr tc sr sc o0) C0 rfl ⟨_, V, n, t, ⟨⟨_, rfl⟩, rfl, rfl, rfl⟩, hL.kept (fun q hq => hk1 q (hL.lt q hq))⟩ hS rfl dL_written_22
  · skip
    refine tx_CV (As := [.int x, .int y, .int kd]) (rest := [.ref o0]) C0 hl hK hS hA hZ hE (t_xWritten1 l hnt g b0 s.heap x0 lc tr tc sr sc i3 i4 i5 i6 V n t hC x y kd hq) gL_written_X2_written rfl ⟨rfl, rfl⟩ (hC.1.recv hK) ⟨rfl, (show hd_ok yX2_written 3 from ⟨by decide, by decide, by decide +kernel⟩)⟩ ⟨Nat.le_of_ble_eq_true rfl, Nat.le_of_ble_eq_true rfl⟩ rfl (Nat.le_of_ble_eq_true rfl) ⟨Nat.le_of_ble_eq_true rfl, Nat.le_of_ble_eq_true rfl⟩ dL_written_6 [] ⟨0, 12, 15, 19⟩ [⟨0, 12, 19, 29⟩] (by rw [htab]; rfl) (fun z hz => nomatch hz) (by decide) (by decide) (hts (.classLink RL 19 nE1) (by decide +kernel)) (va_Nw.use rfl hE.1.1) (fun q1 H1 locs hzz hk1 hS => ?_)
    refine lv_astore (lv' := [(5, .ref q1), (0, .ref x0), (1, .int x), (2, .int y), (3, .int kd), (4, .ref o0)]) hx hb dL_written_15 hl (by decide) rfl (fun ls hl => ?_)
    refine lv_iconst (v := nI 1) hx hb dL_written_17 (by decide) ?_
    refine W.widen (k := 6) (n := 198) (by decide) (by decide) ?_
    exact rt_ni (mu := mL x0 lc tr tc sr sc o0) C0 rfl ⟨_, V, n, t, ⟨⟨_, rfl⟩, rfl, rfl, rfl⟩, hL.kept (fun q hq => hk1 q (hL.lt q hq))⟩ hS rfl dL_written_18
abbrev rmL_bits : Room := { frames := 8, cells := 1, slots := 6, locals := 134 }
set_option maxHeartbeats 4000000 in
set_option maxRecDepth 100000 in
theorem s_bits (l : Launch) (hnt : l.stackTraces = false) (g : Gx) (b0 : Nat) (H0 : Heap) (x0 lc tr tc sr sc o0 : Nat) (V : Nat → Nat) (n : Nat) (t : Nat → Nat) (v0 : Int64) (hL : LQ g H0 x0 lc tr tc sr sc o0 V n t v0) (hmb : ∀ q : Nat, mL x0 lc tr tc sr sc o0 q → b0 ≤ q) (x y : Int32) (zi : Bool) : Met l yL_bits wsL_bits rmL_bits (va_Pc [.ref x0, .int x, .int y, .int (bI zi), .ref o0] (hX g b0 H0)) (nQ H0 (mL x0 lc tr tc sr sc o0) (zL g x0 lc tr tc sr sc o0 (fun r v2 V2 n2 t2 => (∃ k9 : Int32, r = some (.int k9)) ∧ V2 = V ∧ oBi x y zi V n t n2 t2))) 1 6 (fun q => mL x0 lc tr tc sr sc o0 q ∨ H0.size ≤ q) := by
  refine cxw_met (own := RL) (cc := cL_bits) (maxL := 6) (hh := [(0, 13, 16, 19), (0, 13, 20, 29)]) (by decide) rfl rfl (Nat.le_of_ble_eq_true rfl) ?_
  intro p e s m below meth c ls C0 hB0 htab hl
  obtain ⟨⟨hH, hK, hZ⟩, hE⟩ := hB0
  obtain ⟨hx, hb, hr, hml, hown, hts, hlk⟩ := id C0
  subst hH
  have hS : va_S (fun q => mL x0 lc tr tc sr sc o0 q ∨ s.heap.size ≤ q) s.heap s.heap [] := va_S.rf
  have hA : ∀ q : Nat, s.heap.size ≤ q → (fun q => mL x0 lc tr tc sr sc o0 q ∨ s.heap.size ≤ q) q := fun q h => Or.inr h
  have h0Z := hZ.1
  have hAb : ∀ q : Nat, (fun q => mL x0 lc tr tc sr sc o0 q ∨ s.heap.size ≤ q) q → b0 ≤ q := fun q h => h.elim (hmb q) (fun h => Nat.le_trans h0Z h)
  have hmb1 : ∀ q : Nat, mC x0 lc tr tc sr sc q → b0 ≤ q := fun q h => hmb q (Or.inl h)
  obtain ⟨⟨i3, i4, i5, i6, hC⟩, ⟨w0, ho⟩, hno⟩ := id hL
  have hl : lv_has ls 6 [(0, .ref x0), (1, .int x), (2, .int y), (3, .int (bI zi)), (4, .ref o0)] := hl
  refine lv_aload hx hb dL_bits_0 (lv_at hl 4 rfl) ?_
  refine lv_aload_n hx hb dL_bits_2 rfl (lv_at hl 0 rfl) ?_
  refine lv_iload_n hx hb dL_bits_3 rfl (lv_at hl 1 rfl) ?_
  refine lv_iload_n hx hb dL_bits_4 rfl (lv_at hl 2 rfl) ?_
  refine lv_iload_n hx hb dL_bits_5 rfl (lv_at hl 3 rfl) ?_
  by_cases hq : isC x
  · skip
    obtain ⟨i, hi, rfl⟩ := cell_of hq
    by_cases hq2 : nI 0 ≤ y ∧ y ≤ nI 2
    · skip
      obtain ⟨d9, hd9, rfl⟩ := bas_of hq2
      refine cn_V (As := [.int (nI i), .int (nI d9), .int (bI zi)]) (rest := [.ref o0]) C0 hl hK hS hA (fun q h => Or.inl (Or.inl h)) (c_xBits l g s.heap x0 lc tr tc sr sc i3 i4 i5 i6 V n t hC i d9 zi hi hd9) gL_bits_X2_bits rfl ⟨rfl, rfl⟩ (hC.1.recv hK) ⟨rfl, (show hd_ok yX2_bits 3 from ⟨by decide, by decide, by decide +kernel⟩)⟩ ⟨Nat.le_of_ble_eq_true rfl, Nat.le_of_ble_eq_true rfl⟩ rfl (Nat.le_of_ble_eq_true rfl) ⟨Nat.zero_le _, Nat.zero_le _⟩ dL_bits_6 (fun r1 H1 locs hv hzz hk1 hS => ?_)
      obtain ⟨j3, j4, j5, j6, V2, n2, t2, ⟨⟨rv, rfl⟩, rfl, hP⟩, hC1⟩ := hv
      have ho1 := ho.kept (hk1 _ ho.lt hno)
      refine lv_i2l (v := rv.toInt64) hx hb dL_bits_9 (rfl) ?_
      refine w_putN (ci := 4) (C := RX3) (T := TX3) (N := 2) (ty := .long) (v := .long rv.toInt64) hx hb hts (by decide +kernel) tyX3 tyX3_ok nmX3 hown hK hS ho1 (Or.inl (Or.inr rfl)) rfl 0 (by decide) (va_Nw.use rfl hZ.2.2.2.2.2.1.2.2.2.2.1) (fun _ h9 => h9) rfl (by decide +kernel) rfl rfl (by show 0 < 2; decide) dL_bits_10 (fun H2 locs ho2 hs2 hk2 hS => ?_)
      refine lv_goto (tgt := 24) hx hb dL_bits_13 (by decide) ?_
      refine lv_iconst (v := nI 0) hx hb dL_bits_24 (by decide) ?_
      refine W.widen (k := 1) (n := 6) (by decide) (by decide) ?_
      exact rt_ni (mu := mL x0 lc tr tc sr sc o0) C0 rfl ⟨_, _, _, _, ⟨⟨_, rfl⟩, rfl, Or.inl ⟨i, d9, hi, hd9, rfl, rfl, hP⟩⟩, ⟨_, _, _, _, hC1.kept (fun q _ hq => hk2 q (fun e => hno (by rw [← e]; exact hq)))⟩, ⟨_, ho2⟩, hno⟩ hS rfl dL_bits_25
    · skip
      refine tx_CV (As := [.int (nI i), .int y, .int (bI zi)]) (rest := [.ref o0]) C0 hl hK hS hA hZ hE (t_xBits2 l hnt g b0 s.heap x0 lc tr tc sr sc i3 i4 i5 i6 V n t hC i hi y zi hq2) gL_bits_X2_bits rfl ⟨rfl, rfl⟩ (hC.1.recv hK) ⟨rfl, (show hd_ok yX2_bits 3 from ⟨by decide, by decide, by decide +kernel⟩)⟩ ⟨Nat.le_of_ble_eq_true rfl, Nat.le_of_ble_eq_true rfl⟩ rfl (Nat.le_of_ble_eq_true rfl) ⟨Nat.le_of_ble_eq_true rfl, Nat.le_of_ble_eq_true rfl⟩ dL_bits_6 [⟨0, 13, 16, 19⟩] ⟨0, 13, 20, 29⟩ [] (by rw [htab]; rfl) (fun z hz => (List.mem_cons.mp hz).elim (fun h => by rw [h]; exact Or.inr ⟨by decide, _, hts (.classLink RL 19 nE1) (by decide +kernel), hE.2.1⟩) (fun h => absurd h List.not_mem_nil)) (by decide) (by decide) (hts (.classLink RL 29 nE2) (by decide +kernel)) (va_Nw.use rfl hE.1.2.1) (fun q1 H1 locs hzz hk1 hS => ?_)
      refine lv_astore (lv' := [(5, .ref q1), (0, .ref x0), (1, .int (nI i)), (2, .int y), (3, .int (bI zi)), (4, .ref o0)]) hx hb dL_bits_20 hl (by decide) rfl (fun ls hl => ?_)
      refine lv_iconst (v := nI 2) hx hb dL_bits_22 (by decide) ?_
      refine W.widen (k := 1) (n := 6) (by decide) (by decide) ?_
      exact rt_ni (mu := mL x0 lc tr tc sr sc o0) C0 rfl ⟨_, V, n, t, ⟨⟨_, rfl⟩, rfl, Or.inr ⟨fun z => hq2 z.2, rfl, rfl⟩⟩, hL.kept (fun q hq => hk1 q (hL.lt q hq))⟩ hS rfl dL_bits_23
  · skip
    refine tx_CV (As := [.int x, .int y, .int (bI zi)]) (rest := [.ref o0]) C0 hl hK hS hA hZ hE (t_xBits1 l hnt g b0 s.heap x0 lc tr tc sr sc i3 i4 i5 i6 V n t hC x y zi hq) gL_bits_X2_bits rfl ⟨rfl, rfl⟩ (hC.1.recv hK) ⟨rfl, (show hd_ok yX2_bits 3 from ⟨by decide, by decide, by decide +kernel⟩)⟩ ⟨Nat.le_of_ble_eq_true rfl, Nat.le_of_ble_eq_true rfl⟩ rfl (Nat.le_of_ble_eq_true rfl) ⟨Nat.le_of_ble_eq_true rfl, Nat.le_of_ble_eq_true rfl⟩ dL_bits_6 [] ⟨0, 13, 16, 19⟩ [⟨0, 13, 20, 29⟩] (by rw [htab]; rfl) (fun z hz => nomatch hz) (by decide) (by decide) (hts (.classLink RL 19 nE1) (by decide +kernel)) (va_Nw.use rfl hE.1.1) (fun q1 H1 locs hzz hk1 hS => ?_)
    refine lv_astore (lv' := [(5, .ref q1), (0, .ref x0), (1, .int x), (2, .int y), (3, .int (bI zi)), (4, .ref o0)]) hx hb dL_bits_16 hl (by decide) rfl (fun ls hl => ?_)
    refine lv_iconst (v := nI 1) hx hb dL_bits_18 (by decide) ?_
    refine W.widen (k := 1) (n := 6) (by decide) (by decide) ?_
    exact rt_ni (mu := mL x0 lc tr tc sr sc o0) C0 rfl ⟨_, V, n, t, ⟨⟨_, rfl⟩, rfl, Or.inr ⟨fun z => hq z.1, rfl, rfl⟩⟩, hL.kept (fun q hq => hk1 q (hL.lt q hq))⟩ hS rfl dL_bits_19
abbrev rmL_count : Room := { frames := 8, cells := 1, slots := 6, locals := 134 }
set_option maxHeartbeats 4000000 in
set_option maxRecDepth 100000 in
theorem s_count (l : Launch) (hnt : l.stackTraces = false) (g : Gx) (b0 : Nat) (H0 : Heap) (x0 lc tr tc sr sc o0 : Nat) (V : Nat → Nat) (n : Nat) (t : Nat → Nat) (v0 : Int64) (hL : LQ g H0 x0 lc tr tc sr sc o0 V n t v0) (hmb : ∀ q : Nat, mL x0 lc tr tc sr sc o0 q → b0 ≤ q) (x y : Int32) (zi : Bool) : Met l yL_count wsL_count rmL_count (va_Pc [.ref x0, .int x, .int y, .int (bI zi), .ref o0] (hX g b0 H0)) (nQ H0 (mL x0 lc tr tc sr sc o0) (zL g x0 lc tr tc sr sc o0 (fun r v2 V2 n2 t2 => (∃ k9 : Int32, r = some (.int k9)) ∧ V2 = V ∧ n2 = n ∧ t2 = t))) 1 6 (fun q => mL x0 lc tr tc sr sc o0 q ∨ H0.size ≤ q) := by
  refine cxw_met (own := RL) (cc := cL_count) (maxL := 6) (hh := [(0, 13, 16, 19), (0, 13, 20, 29)]) (by decide) rfl rfl (Nat.le_of_ble_eq_true rfl) ?_
  intro p e s m below meth c ls C0 hB0 htab hl
  obtain ⟨⟨hH, hK, hZ⟩, hE⟩ := hB0
  obtain ⟨hx, hb, hr, hml, hown, hts, hlk⟩ := id C0
  subst hH
  have hS : va_S (fun q => mL x0 lc tr tc sr sc o0 q ∨ s.heap.size ≤ q) s.heap s.heap [] := va_S.rf
  have hA : ∀ q : Nat, s.heap.size ≤ q → (fun q => mL x0 lc tr tc sr sc o0 q ∨ s.heap.size ≤ q) q := fun q h => Or.inr h
  have h0Z := hZ.1
  have hAb : ∀ q : Nat, (fun q => mL x0 lc tr tc sr sc o0 q ∨ s.heap.size ≤ q) q → b0 ≤ q := fun q h => h.elim (hmb q) (fun h => Nat.le_trans h0Z h)
  have hmb1 : ∀ q : Nat, mC x0 lc tr tc sr sc q → b0 ≤ q := fun q h => hmb q (Or.inl h)
  obtain ⟨⟨i3, i4, i5, i6, hC⟩, ⟨w0, ho⟩, hno⟩ := id hL
  have hl : lv_has ls 6 [(0, .ref x0), (1, .int x), (2, .int y), (3, .int (bI zi)), (4, .ref o0)] := hl
  refine lv_aload hx hb dL_count_0 (lv_at hl 4 rfl) ?_
  refine lv_aload_n hx hb dL_count_2 rfl (lv_at hl 0 rfl) ?_
  refine lv_iload_n hx hb dL_count_3 rfl (lv_at hl 1 rfl) ?_
  refine lv_iload_n hx hb dL_count_4 rfl (lv_at hl 2 rfl) ?_
  refine lv_iload_n hx hb dL_count_5 rfl (lv_at hl 3 rfl) ?_
  by_cases hq : isC x
  · skip
    obtain ⟨i, hi, rfl⟩ := cell_of hq
    by_cases hq2 : nI 0 ≤ y ∧ y ≤ nI 3
    · skip
      obtain ⟨d9, hd9, rfl⟩ := kin_of hq2
      refine cn_V (As := [.int (nI i), .int (nI d9), .int (bI zi)]) (rest := [.ref o0]) C0 hl hK hS hA (fun q h => Or.inl (Or.inl h)) (c_xCount l g s.heap x0 lc tr tc sr sc i3 i4 i5 i6 V n t hC i d9 zi hi hd9) gL_count_X2_count rfl ⟨rfl, rfl⟩ (hC.1.recv hK) ⟨rfl, (show hd_ok yX2_count 3 from ⟨by decide, by decide, by decide +kernel⟩)⟩ ⟨Nat.le_of_ble_eq_true rfl, Nat.le_of_ble_eq_true rfl⟩ rfl (Nat.le_of_ble_eq_true rfl) ⟨Nat.zero_le _, Nat.zero_le _⟩ dL_count_6 (fun r1 H1 locs hv hzz hk1 hS => ?_)
      obtain ⟨j3, j4, j5, j6, V2, n2, t2, ⟨⟨rv, rfl⟩, rfl, rfl, rfl⟩, hC1⟩ := hv
      have ho1 := ho.kept (hk1 _ ho.lt hno)
      refine lv_i2l (v := rv.toInt64) hx hb dL_count_9 (rfl) ?_
      refine w_putN (ci := 4) (C := RX3) (T := TX3) (N := 2) (ty := .long) (v := .long rv.toInt64) hx hb hts (by decide +kernel) tyX3 tyX3_ok nmX3 hown hK hS ho1 (Or.inl (Or.inr rfl)) rfl 0 (by decide) (va_Nw.use rfl hZ.2.2.2.2.2.1.2.2.2.2.1) (fun _ h9 => h9) rfl (by decide +kernel) rfl rfl (by show 0 < 2; decide) dL_count_10 (fun H2 locs ho2 hs2 hk2 hS => ?_)
      refine lv_goto (tgt := 24) hx hb dL_count_13 (by decide) ?_
      refine lv_iconst (v := nI 0) hx hb dL_count_24 (by decide) ?_
      refine W.widen (k := 1) (n := 6) (by decide) (by decide) ?_
      exact rt_ni (mu := mL x0 lc tr tc sr sc o0) C0 rfl ⟨_, _, _, _, ⟨⟨_, rfl⟩, rfl, rfl, rfl⟩, ⟨_, _, _, _, hC1.kept (fun q _ hq => hk2 q (fun e => hno (by rw [← e]; exact hq)))⟩, ⟨_, ho2⟩, hno⟩ hS rfl dL_count_25
    · skip
      refine tx_CV (As := [.int (nI i), .int y, .int (bI zi)]) (rest := [.ref o0]) C0 hl hK hS hA hZ hE (t_xCount2 l hnt g b0 s.heap x0 lc tr tc sr sc i3 i4 i5 i6 V n t hC i hi y zi hq2) gL_count_X2_count rfl ⟨rfl, rfl⟩ (hC.1.recv hK) ⟨rfl, (show hd_ok yX2_count 3 from ⟨by decide, by decide, by decide +kernel⟩)⟩ ⟨Nat.le_of_ble_eq_true rfl, Nat.le_of_ble_eq_true rfl⟩ rfl (Nat.le_of_ble_eq_true rfl) ⟨Nat.le_of_ble_eq_true rfl, Nat.le_of_ble_eq_true rfl⟩ dL_count_6 [⟨0, 13, 16, 19⟩] ⟨0, 13, 20, 29⟩ [] (by rw [htab]; rfl) (fun z hz => (List.mem_cons.mp hz).elim (fun h => by rw [h]; exact Or.inr ⟨by decide, _, hts (.classLink RL 19 nE1) (by decide +kernel), hE.2.1⟩) (fun h => absurd h List.not_mem_nil)) (by decide) (by decide) (hts (.classLink RL 29 nE2) (by decide +kernel)) (va_Nw.use rfl hE.1.2.1) (fun q1 H1 locs hzz hk1 hS => ?_)
      refine lv_astore (lv' := [(5, .ref q1), (0, .ref x0), (1, .int (nI i)), (2, .int y), (3, .int (bI zi)), (4, .ref o0)]) hx hb dL_count_20 hl (by decide) rfl (fun ls hl => ?_)
      refine lv_iconst (v := nI 2) hx hb dL_count_22 (by decide) ?_
      refine W.widen (k := 1) (n := 6) (by decide) (by decide) ?_
      exact rt_ni (mu := mL x0 lc tr tc sr sc o0) C0 rfl ⟨_, V, n, t, ⟨⟨_, rfl⟩, rfl, rfl, rfl⟩, hL.kept (fun q hq => hk1 q (hL.lt q hq))⟩ hS rfl dL_count_23
  · skip
    refine tx_CV (As := [.int x, .int y, .int (bI zi)]) (rest := [.ref o0]) C0 hl hK hS hA hZ hE (t_xCount1 l hnt g b0 s.heap x0 lc tr tc sr sc i3 i4 i5 i6 V n t hC x y zi hq) gL_count_X2_count rfl ⟨rfl, rfl⟩ (hC.1.recv hK) ⟨rfl, (show hd_ok yX2_count 3 from ⟨by decide, by decide, by decide +kernel⟩)⟩ ⟨Nat.le_of_ble_eq_true rfl, Nat.le_of_ble_eq_true rfl⟩ rfl (Nat.le_of_ble_eq_true rfl) ⟨Nat.le_of_ble_eq_true rfl, Nat.le_of_ble_eq_true rfl⟩ dL_count_6 [] ⟨0, 13, 16, 19⟩ [⟨0, 13, 20, 29⟩] (by rw [htab]; rfl) (fun z hz => nomatch hz) (by decide) (by decide) (hts (.classLink RL 19 nE1) (by decide +kernel)) (va_Nw.use rfl hE.1.1) (fun q1 H1 locs hzz hk1 hS => ?_)
    refine lv_astore (lv' := [(5, .ref q1), (0, .ref x0), (1, .int x), (2, .int y), (3, .int (bI zi)), (4, .ref o0)]) hx hb dL_count_16 hl (by decide) rfl (fun ls hl => ?_)
    refine lv_iconst (v := nI 1) hx hb dL_count_18 (by decide) ?_
    refine W.widen (k := 1) (n := 6) (by decide) (by decide) ?_
    exact rt_ni (mu := mL x0 lc tr tc sr sc o0) C0 rfl ⟨_, V, n, t, ⟨⟨_, rfl⟩, rfl, rfl, rfl⟩, hL.kept (fun q hq => hk1 q (hL.lt q hq))⟩ hS rfl dL_count_19
abbrev rmL_divide : Room := { frames := 8, cells := 1, slots := 6, locals := 141 }
set_option maxHeartbeats 4000000 in
set_option maxRecDepth 100000 in
theorem s_divide (l : Launch) (hnt : l.stackTraces = false) (g : Gx) (b0 : Nat) (H0 : Heap) (x0 lc tr tc sr sc o0 : Nat) (V : Nat → Nat) (n : Nat) (t : Nat → Nat) (v0 : Int64) (hL : LQ g H0 x0 lc tr tc sr sc o0 V n t v0) (hmb : ∀ q : Nat, mL x0 lc tr tc sr sc o0 q → b0 ≤ q) (x y : Int32) (zi : Bool) : Met l yL_divide wsL_divide rmL_divide (va_Pc [.ref x0, .int x, .int y, .int (bI zi), .ref o0] (hX g b0 H0)) (nQ H0 (mL x0 lc tr tc sr sc o0) (zL g x0 lc tr tc sr sc o0 (fun r v2 V2 n2 t2 => (∃ k9 : Int32, r = some (.int k9)) ∧ n2 = n ∧ t2 = t ∧ oC2 x y (fun w => 0 < w % 65536 ^ nP zi) (fun u w => wideN (nP zi) ((u % 65536 ^ nP zi) / (w % 65536 ^ nP zi))) V V2))) 1 6 (fun q => mL x0 lc tr tc sr sc o0 q ∨ H0.size ≤ q) := by
  refine cxw_met (own := RL) (cc := cL_divide) (maxL := 6) (hh := [(0, 20, 23, 19), (0, 20, 27, 31)]) (by decide) rfl rfl (Nat.le_of_ble_eq_true rfl) ?_
  intro p e s m below meth c ls C0 hB0 htab hl
  obtain ⟨⟨hH, hK, hZ⟩, hE⟩ := hB0
  obtain ⟨hx, hb, hr, hml, hown, hts, hlk⟩ := id C0
  subst hH
  have hS : va_S (fun q => mL x0 lc tr tc sr sc o0 q ∨ s.heap.size ≤ q) s.heap s.heap [] := va_S.rf
  have hA : ∀ q : Nat, s.heap.size ≤ q → (fun q => mL x0 lc tr tc sr sc o0 q ∨ s.heap.size ≤ q) q := fun q h => Or.inr h
  have h0Z := hZ.1
  have hAb : ∀ q : Nat, (fun q => mL x0 lc tr tc sr sc o0 q ∨ s.heap.size ≤ q) q → b0 ≤ q := fun q h => h.elim (hmb q) (fun h => Nat.le_trans h0Z h)
  have hmb1 : ∀ q : Nat, mC x0 lc tr tc sr sc q → b0 ≤ q := fun q h => hmb q (Or.inl h)
  obtain ⟨⟨i3, i4, i5, i6, hC⟩, ⟨w0, ho⟩, hno⟩ := id hL
  have hl : lv_has ls 6 [(0, .ref x0), (1, .int x), (2, .int y), (3, .int (bI zi)), (4, .ref o0)] := hl
  refine lv_aload hx hb dL_divide_0 (lv_at hl 4 rfl) ?_
  refine lv_aload_n hx hb dL_divide_2 rfl (lv_at hl 0 rfl) ?_
  refine lv_iload_n hx hb dL_divide_3 rfl (lv_at hl 1 rfl) ?_
  refine lv_iload_n hx hb dL_divide_4 rfl (lv_at hl 2 rfl) ?_
  refine lv_iload_n hx hb dL_divide_5 rfl (lv_at hl 3 rfl) ?_
  by_cases hq : isC x ∧ isC y
  · skip
    obtain ⟨i, hi, rfl⟩ := cell_of hq.1
    obtain ⟨j, hj, rfl⟩ := cell_of hq.2
    by_cases hz0 : V j % 65536 ^ nP zi = 0
    · skip
      refine tx_CV (As := [.int (nI i), .int (nI j), .int (bI zi)]) (rest := [.ref o0]) C0 hl hK hS hA hZ hE (t_xDivide2 l hnt g b0 s.heap x0 lc tr tc sr sc i3 i4 i5 i6 V n t hC i j hi hj zi hz0) gL_divide_X2_divide rfl ⟨rfl, rfl⟩ (hC.1.recv hK) ⟨rfl, (show hd_ok yX2_divide 3 from ⟨by decide, by decide, by decide +kernel⟩)⟩ ⟨Nat.le_of_ble_eq_true rfl, Nat.le_of_ble_eq_true rfl⟩ rfl (Nat.le_of_ble_eq_true rfl) ⟨Nat.le_of_ble_eq_true rfl, Nat.le_of_ble_eq_true rfl⟩ dL_divide_6 [⟨0, 20, 23, 19⟩] ⟨0, 20, 27, 31⟩ [] (by rw [htab]; rfl) (fun z hz => (List.mem_cons.mp hz).elim (fun h => by rw [h]; exact Or.inr ⟨by decide, _, hts (.classLink RL 19 nE1) (by decide +kernel), hE.2.2.1⟩) (fun h => absurd h List.not_mem_nil)) (by decide) (by decide) (hts (.classLink RL 31 nE3) (by decide +kernel)) (va_Nw.use rfl hE.1.2.2) (fun q1 H1 locs hzz hk1 hS => ?_)
      refine lv_astore (lv' := [(5, .ref q1), (0, .ref x0), (1, .int (nI i)), (2, .int (nI j)), (3, .int (bI zi)), (4, .ref o0)]) hx hb dL_divide_27 hl (by decide) rfl (fun ls hl => ?_)
      refine lv_iconst (v := nI 2) hx hb dL_divide_29 (by decide) ?_
      refine W.widen (k := 1) (n := 6) (by decide) (by decide) ?_
      exact rt_ni (mu := mL x0 lc tr tc sr sc o0) C0 rfl ⟨_, V, n, t, ⟨⟨_, rfl⟩, rfl, rfl, Or.inr ⟨fun i2 j2 hi2 hj2 e1 e2 h9 => by rw [nI_inj (by omega) (by omega) e2] at hz0; omega, rfl⟩⟩, hL.kept (fun q hq => hk1 q (hL.lt q hq))⟩ hS rfl dL_divide_30
    · skip
      refine cn_V (As := [.int (nI i), .int (nI j), .int (bI zi)]) (rest := [.ref o0]) C0 hl hK hS hA (fun q h => Or.inl (Or.inl h)) (c_xDivide l g s.heap x0 lc tr tc sr sc i3 i4 i5 i6 V n t hC i j zi hi hj hz0) gL_divide_X2_divide rfl ⟨rfl, rfl⟩ (hC.1.recv hK) ⟨rfl, (show hd_ok yX2_divide 3 from ⟨by decide, by decide, by decide +kernel⟩)⟩ ⟨Nat.le_of_ble_eq_true rfl, Nat.le_of_ble_eq_true rfl⟩ rfl (Nat.le_of_ble_eq_true rfl) ⟨Nat.zero_le _, Nat.zero_le _⟩ dL_divide_6 (fun r1 H1 locs hv hzz hk1 hS => ?_)
      obtain ⟨j3, j4, j5, j6, V2, n2, t2, ⟨⟨rv, rfl⟩, rfl, rfl, rfl⟩, hC1⟩ := hv
      have ho1 := ho.kept (hk1 _ ho.lt hno)
      refine lw_zv hx hb dL_divide_9 dL_divide_12 dL_divide_13 dL_divide_16 ?_
      refine w_putN (ci := 4) (C := RX3) (T := TX3) (N := 2) (ty := .long) (v := .long (lB (decide (rv ≠ 0)))) hx hb hts (by decide +kernel) tyX3 tyX3_ok nmX3 hown hK hS ho1 (Or.inl (Or.inr rfl)) rfl 0 (by decide) (va_Nw.use rfl hZ.2.2.2.2.2.1.2.2.2.2.1) (fun _ h9 => h9) rfl (by decide +kernel) rfl rfl (by show 0 < 2; decide) dL_divide_17 (fun H2 locs ho2 hs2 hk2 hS => ?_)
      refine lv_goto (tgt := 31) hx hb dL_divide_20 (by decide) ?_
      refine lv_iconst (v := nI 0) hx hb dL_divide_31 (by decide) ?_
      refine W.widen (k := 1) (n := 6) (by decide) (by decide) ?_
      exact rt_ni (mu := mL x0 lc tr tc sr sc o0) C0 rfl ⟨_, _, _, _, ⟨⟨_, rfl⟩, rfl, rfl, Or.inl ⟨i, j, hi, hj, rfl, rfl, by omega, rfl⟩⟩, ⟨_, _, _, _, hC1.kept (fun q _ hq => hk2 q (fun e => hno (by rw [← e]; exact hq)))⟩, ⟨_, ho2⟩, hno⟩ hS rfl dL_divide_32
  · skip
    refine tx_CV (As := [.int x, .int y, .int (bI zi)]) (rest := [.ref o0]) C0 hl hK hS hA hZ hE (t_xDivide1 l hnt g b0 s.heap x0 lc tr tc sr sc i3 i4 i5 i6 V n t hC x y zi hq) gL_divide_X2_divide rfl ⟨rfl, rfl⟩ (hC.1.recv hK) ⟨rfl, (show hd_ok yX2_divide 3 from ⟨by decide, by decide, by decide +kernel⟩)⟩ ⟨Nat.le_of_ble_eq_true rfl, Nat.le_of_ble_eq_true rfl⟩ rfl (Nat.le_of_ble_eq_true rfl) ⟨Nat.le_of_ble_eq_true rfl, Nat.le_of_ble_eq_true rfl⟩ dL_divide_6 [] ⟨0, 20, 23, 19⟩ [⟨0, 20, 27, 31⟩] (by rw [htab]; rfl) (fun z hz => nomatch hz) (by decide) (by decide) (hts (.classLink RL 19 nE1) (by decide +kernel)) (va_Nw.use rfl hE.1.1) (fun q1 H1 locs hzz hk1 hS => ?_)
    refine lv_astore (lv' := [(5, .ref q1), (0, .ref x0), (1, .int x), (2, .int y), (3, .int (bI zi)), (4, .ref o0)]) hx hb dL_divide_23 hl (by decide) rfl (fun ls hl => ?_)
    refine lv_iconst (v := nI 1) hx hb dL_divide_25 (by decide) ?_
    refine W.widen (k := 1) (n := 6) (by decide) (by decide) ?_
    exact rt_ni (mu := mL x0 lc tr tc sr sc o0) C0 rfl ⟨_, V, n, t, ⟨⟨_, rfl⟩, rfl, rfl, Or.inr ⟨(fun i j hi hj e1 e2 _ => hq (by rw [e1, e2]; exact ⟨isC_nI hi, isC_nI hj⟩)), rfl⟩⟩, hL.kept (fun q hq => hk1 q (hL.lt q hq))⟩ hS rfl dL_divide_26
abbrev rmL_rest : Room := { frames := 8, cells := 1, slots := 6, locals := 141 }
set_option maxHeartbeats 4000000 in
set_option maxRecDepth 100000 in
theorem s_rest (l : Launch) (hnt : l.stackTraces = false) (g : Gx) (b0 : Nat) (H0 : Heap) (x0 lc tr tc sr sc o0 : Nat) (V : Nat → Nat) (n : Nat) (t : Nat → Nat) (v0 : Int64) (hL : LQ g H0 x0 lc tr tc sr sc o0 V n t v0) (hmb : ∀ q : Nat, mL x0 lc tr tc sr sc o0 q → b0 ≤ q) (x y : Int32) (zi : Bool) : Met l yL_rest wsL_rest rmL_rest (va_Pc [.ref x0, .int x, .int y, .int (bI zi), .ref o0] (hX g b0 H0)) (nQ H0 (mL x0 lc tr tc sr sc o0) (zL g x0 lc tr tc sr sc o0 (fun r v2 V2 n2 t2 => (∃ k9 : Int32, r = some (.int k9)) ∧ n2 = n ∧ t2 = t ∧ oC2 x y (fun w => 0 < w % 65536 ^ nP zi) (fun u w => wideN (nP zi) ((u % 65536 ^ nP zi) % (w % 65536 ^ nP zi))) V V2))) 1 6 (fun q => mL x0 lc tr tc sr sc o0 q ∨ H0.size ≤ q) := by
  refine cxw_met (own := RL) (cc := cL_rest) (maxL := 6) (hh := [(0, 20, 23, 19), (0, 20, 27, 31)]) (by decide) rfl rfl (Nat.le_of_ble_eq_true rfl) ?_
  intro p e s m below meth c ls C0 hB0 htab hl
  obtain ⟨⟨hH, hK, hZ⟩, hE⟩ := hB0
  obtain ⟨hx, hb, hr, hml, hown, hts, hlk⟩ := id C0
  subst hH
  have hS : va_S (fun q => mL x0 lc tr tc sr sc o0 q ∨ s.heap.size ≤ q) s.heap s.heap [] := va_S.rf
  have hA : ∀ q : Nat, s.heap.size ≤ q → (fun q => mL x0 lc tr tc sr sc o0 q ∨ s.heap.size ≤ q) q := fun q h => Or.inr h
  have h0Z := hZ.1
  have hAb : ∀ q : Nat, (fun q => mL x0 lc tr tc sr sc o0 q ∨ s.heap.size ≤ q) q → b0 ≤ q := fun q h => h.elim (hmb q) (fun h => Nat.le_trans h0Z h)
  have hmb1 : ∀ q : Nat, mC x0 lc tr tc sr sc q → b0 ≤ q := fun q h => hmb q (Or.inl h)
  obtain ⟨⟨i3, i4, i5, i6, hC⟩, ⟨w0, ho⟩, hno⟩ := id hL
  have hl : lv_has ls 6 [(0, .ref x0), (1, .int x), (2, .int y), (3, .int (bI zi)), (4, .ref o0)] := hl
  refine lv_aload hx hb dL_rest_0 (lv_at hl 4 rfl) ?_
  refine lv_aload_n hx hb dL_rest_2 rfl (lv_at hl 0 rfl) ?_
  refine lv_iload_n hx hb dL_rest_3 rfl (lv_at hl 1 rfl) ?_
  refine lv_iload_n hx hb dL_rest_4 rfl (lv_at hl 2 rfl) ?_
  refine lv_iload_n hx hb dL_rest_5 rfl (lv_at hl 3 rfl) ?_
  by_cases hq : isC x ∧ isC y
  · skip
    obtain ⟨i, hi, rfl⟩ := cell_of hq.1
    obtain ⟨j, hj, rfl⟩ := cell_of hq.2
    by_cases hz0 : V j % 65536 ^ nP zi = 0
    · skip
      refine tx_CV (As := [.int (nI i), .int (nI j), .int (bI zi)]) (rest := [.ref o0]) C0 hl hK hS hA hZ hE (t_xRest2 l hnt g b0 s.heap x0 lc tr tc sr sc i3 i4 i5 i6 V n t hC i j hi hj zi hz0) gL_rest_X2_rest rfl ⟨rfl, rfl⟩ (hC.1.recv hK) ⟨rfl, (show hd_ok yX2_rest 3 from ⟨by decide, by decide, by decide +kernel⟩)⟩ ⟨Nat.le_of_ble_eq_true rfl, Nat.le_of_ble_eq_true rfl⟩ rfl (Nat.le_of_ble_eq_true rfl) ⟨Nat.le_of_ble_eq_true rfl, Nat.le_of_ble_eq_true rfl⟩ dL_rest_6 [⟨0, 20, 23, 19⟩] ⟨0, 20, 27, 31⟩ [] (by rw [htab]; rfl) (fun z hz => (List.mem_cons.mp hz).elim (fun h => by rw [h]; exact Or.inr ⟨by decide, _, hts (.classLink RL 19 nE1) (by decide +kernel), hE.2.2.1⟩) (fun h => absurd h List.not_mem_nil)) (by decide) (by decide) (hts (.classLink RL 31 nE3) (by decide +kernel)) (va_Nw.use rfl hE.1.2.2) (fun q1 H1 locs hzz hk1 hS => ?_)
      refine lv_astore (lv' := [(5, .ref q1), (0, .ref x0), (1, .int (nI i)), (2, .int (nI j)), (3, .int (bI zi)), (4, .ref o0)]) hx hb dL_rest_27 hl (by decide) rfl (fun ls hl => ?_)
      refine lv_iconst (v := nI 2) hx hb dL_rest_29 (by decide) ?_
      refine W.widen (k := 1) (n := 6) (by decide) (by decide) ?_
      exact rt_ni (mu := mL x0 lc tr tc sr sc o0) C0 rfl ⟨_, V, n, t, ⟨⟨_, rfl⟩, rfl, rfl, Or.inr ⟨fun i2 j2 hi2 hj2 e1 e2 h9 => by rw [nI_inj (by omega) (by omega) e2] at hz0; omega, rfl⟩⟩, hL.kept (fun q hq => hk1 q (hL.lt q hq))⟩ hS rfl dL_rest_30
    · skip
      refine cn_V (As := [.int (nI i), .int (nI j), .int (bI zi)]) (rest := [.ref o0]) C0 hl hK hS hA (fun q h => Or.inl (Or.inl h)) (c_xRest l g s.heap x0 lc tr tc sr sc i3 i4 i5 i6 V n t hC i j zi hi hj hz0) gL_rest_X2_rest rfl ⟨rfl, rfl⟩ (hC.1.recv hK) ⟨rfl, (show hd_ok yX2_rest 3 from ⟨by decide, by decide, by decide +kernel⟩)⟩ ⟨Nat.le_of_ble_eq_true rfl, Nat.le_of_ble_eq_true rfl⟩ rfl (Nat.le_of_ble_eq_true rfl) ⟨Nat.zero_le _, Nat.zero_le _⟩ dL_rest_6 (fun r1 H1 locs hv hzz hk1 hS => ?_)
      obtain ⟨j3, j4, j5, j6, V2, n2, t2, ⟨⟨rv, rfl⟩, rfl, rfl, rfl⟩, hC1⟩ := hv
      have ho1 := ho.kept (hk1 _ ho.lt hno)
      refine lw_zv hx hb dL_rest_9 dL_rest_12 dL_rest_13 dL_rest_16 ?_
      refine w_putN (ci := 4) (C := RX3) (T := TX3) (N := 2) (ty := .long) (v := .long (lB (decide (rv ≠ 0)))) hx hb hts (by decide +kernel) tyX3 tyX3_ok nmX3 hown hK hS ho1 (Or.inl (Or.inr rfl)) rfl 0 (by decide) (va_Nw.use rfl hZ.2.2.2.2.2.1.2.2.2.2.1) (fun _ h9 => h9) rfl (by decide +kernel) rfl rfl (by show 0 < 2; decide) dL_rest_17 (fun H2 locs ho2 hs2 hk2 hS => ?_)
      refine lv_goto (tgt := 31) hx hb dL_rest_20 (by decide) ?_
      refine lv_iconst (v := nI 0) hx hb dL_rest_31 (by decide) ?_
      refine W.widen (k := 1) (n := 6) (by decide) (by decide) ?_
      exact rt_ni (mu := mL x0 lc tr tc sr sc o0) C0 rfl ⟨_, _, _, _, ⟨⟨_, rfl⟩, rfl, rfl, Or.inl ⟨i, j, hi, hj, rfl, rfl, by omega, rfl⟩⟩, ⟨_, _, _, _, hC1.kept (fun q _ hq => hk2 q (fun e => hno (by rw [← e]; exact hq)))⟩, ⟨_, ho2⟩, hno⟩ hS rfl dL_rest_32
  · skip
    refine tx_CV (As := [.int x, .int y, .int (bI zi)]) (rest := [.ref o0]) C0 hl hK hS hA hZ hE (t_xRest1 l hnt g b0 s.heap x0 lc tr tc sr sc i3 i4 i5 i6 V n t hC x y zi hq) gL_rest_X2_rest rfl ⟨rfl, rfl⟩ (hC.1.recv hK) ⟨rfl, (show hd_ok yX2_rest 3 from ⟨by decide, by decide, by decide +kernel⟩)⟩ ⟨Nat.le_of_ble_eq_true rfl, Nat.le_of_ble_eq_true rfl⟩ rfl (Nat.le_of_ble_eq_true rfl) ⟨Nat.le_of_ble_eq_true rfl, Nat.le_of_ble_eq_true rfl⟩ dL_rest_6 [] ⟨0, 20, 23, 19⟩ [⟨0, 20, 27, 31⟩] (by rw [htab]; rfl) (fun z hz => nomatch hz) (by decide) (by decide) (hts (.classLink RL 19 nE1) (by decide +kernel)) (va_Nw.use rfl hE.1.1) (fun q1 H1 locs hzz hk1 hS => ?_)
    refine lv_astore (lv' := [(5, .ref q1), (0, .ref x0), (1, .int x), (2, .int y), (3, .int (bI zi)), (4, .ref o0)]) hx hb dL_rest_23 hl (by decide) rfl (fun ls hl => ?_)
    refine lv_iconst (v := nI 1) hx hb dL_rest_25 (by decide) ?_
    refine W.widen (k := 1) (n := 6) (by decide) (by decide) ?_
    exact rt_ni (mu := mL x0 lc tr tc sr sc o0) C0 rfl ⟨_, V, n, t, ⟨⟨_, rfl⟩, rfl, rfl, Or.inr ⟨(fun i j hi hj e1 e2 _ => hq (by rw [e1, e2]; exact ⟨isC_nI hi, isC_nI hj⟩)), rfl⟩⟩, hL.kept (fun q hq => hk1 q (hL.lt q hq))⟩ hS rfl dL_rest_26
abbrev rmL_turn : Room := { frames := 8, cells := 1, slots := 6, locals := 135 }
set_option maxHeartbeats 4000000 in
set_option maxRecDepth 100000 in
theorem s_turn (l : Launch) (hnt : l.stackTraces = false) (g : Gx) (b0 : Nat) (H0 : Heap) (x0 lc tr tc sr sc o0 : Nat) (V : Nat → Nat) (n : Nat) (t : Nat → Nat) (v0 : Int64) (hL : LQ g H0 x0 lc tr tc sr sc o0 V n t v0) (hmb : ∀ q : Nat, mL x0 lc tr tc sr sc o0 q → b0 ≤ q) (x y : Int32) (zi : Bool) : Met l yL_turn wsL_turn rmL_turn (va_Pc [.ref x0, .int x, .int y, .int (bI zi), .ref o0] (hX g b0 H0)) (nQ H0 (mL x0 lc tr tc sr sc o0) (zL g x0 lc tr tc sr sc o0 (fun r v2 V2 n2 t2 => n2 = n ∧ t2 = t ∧ oC1 x (fun u => wideN (nP zi) (tsum (u % 65536 ^ nP zi) (tpl (16 * nP zi) (tby (16 * nP zi) y)) (16 * nP zi) % 65536 ^ nP zi)) V V2 ∧ ((∃ i, i < 8 ∧ x = nI i ∧ r = some (.int (nI 0)) ∧ v2 = lB (!decide ((fun u => wideN (nP zi) (tsum (u % 65536 ^ nP zi) (tpl (16 * nP zi) (tby (16 * nP zi) y)) (16 * nP zi) % 65536 ^ nP zi)) (V i) = V i))) ∨ (¬ isC x ∧ r = some (.int (nI 1))))))) 1 6 (fun q => mL x0 lc tr tc sr sc o0 q ∨ H0.size ≤ q) := by
  refine cxw_met (own := RL) (cc := cL_turn) (maxL := 6) (hh := [(0, 20, 23, 19)]) (by decide) rfl rfl (Nat.le_of_ble_eq_true rfl) ?_
  intro p e s m below meth c ls C0 hB0 htab hl
  obtain ⟨⟨hH, hK, hZ⟩, hE⟩ := hB0
  obtain ⟨hx, hb, hr, hml, hown, hts, hlk⟩ := id C0
  subst hH
  have hS : va_S (fun q => mL x0 lc tr tc sr sc o0 q ∨ s.heap.size ≤ q) s.heap s.heap [] := va_S.rf
  have hA : ∀ q : Nat, s.heap.size ≤ q → (fun q => mL x0 lc tr tc sr sc o0 q ∨ s.heap.size ≤ q) q := fun q h => Or.inr h
  have h0Z := hZ.1
  have hAb : ∀ q : Nat, (fun q => mL x0 lc tr tc sr sc o0 q ∨ s.heap.size ≤ q) q → b0 ≤ q := fun q h => h.elim (hmb q) (fun h => Nat.le_trans h0Z h)
  have hmb1 : ∀ q : Nat, mC x0 lc tr tc sr sc q → b0 ≤ q := fun q h => hmb q (Or.inl h)
  obtain ⟨⟨i3, i4, i5, i6, hC⟩, ⟨w0, ho⟩, hno⟩ := id hL
  have hl : lv_has ls 6 [(0, .ref x0), (1, .int x), (2, .int y), (3, .int (bI zi)), (4, .ref o0)] := hl
  refine lv_aload hx hb dL_turn_0 (lv_at hl 4 rfl) ?_
  refine lv_aload_n hx hb dL_turn_2 rfl (lv_at hl 0 rfl) ?_
  refine lv_iload_n hx hb dL_turn_3 rfl (lv_at hl 1 rfl) ?_
  refine lv_iload_n hx hb dL_turn_4 rfl (lv_at hl 2 rfl) ?_
  refine lv_iload_n hx hb dL_turn_5 rfl (lv_at hl 3 rfl) ?_
  by_cases hq : isC x
  · skip
    obtain ⟨i, hi, rfl⟩ := cell_of hq
    refine cn_V (As := [.int (nI i), .int y, .int (bI zi)]) (rest := [.ref o0]) C0 hl hK hS hA (fun q h => Or.inl (Or.inl h)) (c_xTurn l g s.heap x0 lc tr tc sr sc i3 i4 i5 i6 V n t hC i hi y zi) gL_turn_X2_turn rfl ⟨rfl, rfl⟩ (hC.1.recv hK) ⟨rfl, (show hd_ok yX2_turn 3 from ⟨by decide, by decide, by decide +kernel⟩)⟩ ⟨Nat.le_of_ble_eq_true rfl, Nat.le_of_ble_eq_true rfl⟩ rfl (Nat.le_of_ble_eq_true rfl) ⟨Nat.zero_le _, Nat.zero_le _⟩ dL_turn_6 (fun r1 H1 locs hv hzz hk1 hS => ?_)
    obtain ⟨j3, j4, j5, j6, V2, n2, t2, ⟨rfl, rfl, rfl, rfl⟩, hC1⟩ := hv
    have ho1 := ho.kept (hk1 _ ho.lt hno)
    refine lw_zl hx hb dL_turn_9 dL_turn_12 dL_turn_13 dL_turn_16 ?_
    refine w_putN (ci := 4) (C := RX3) (T := TX3) (N := 2) (ty := .long) (v := .long (lB (!decide (tuV zi (V i) y = V i)))) hx hb hts (by decide +kernel) tyX3 tyX3_ok nmX3 hown hK hS ho1 (Or.inl (Or.inr rfl)) rfl 0 (by decide) (va_Nw.use rfl hZ.2.2.2.2.2.1.2.2.2.2.1) (fun _ h9 => h9) rfl (by decide +kernel) rfl rfl (by show 0 < 2; decide) dL_turn_17 (fun H2 locs ho2 hs2 hk2 hS => ?_)
    refine lv_goto (tgt := 27) hx hb dL_turn_20 (by decide) ?_
    refine lv_iconst (v := nI 0) hx hb dL_turn_27 (by decide) ?_
    refine W.widen (k := 1) (n := 6) (by decide) (by decide) ?_
    exact rt_ni (mu := mL x0 lc tr tc sr sc o0) C0 rfl ⟨_, _, _, _, ⟨rfl, rfl, Or.inl ⟨i, hi, rfl, by rw [tuV_eq zi (hC.1.2.2.2.2.1 i hi)]⟩, Or.inl ⟨i, hi, rfl, rfl, by rw [tuV_eq zi (hC.1.2.2.2.2.1 i hi)]⟩⟩, ⟨_, _, _, _, hC1.kept (fun q _ hq => hk2 q (fun e => hno (by rw [← e]; exact hq)))⟩, ⟨_, ho2⟩, hno⟩ hS rfl dL_turn_28
  · skip
    refine tx_CV (As := [.int x, .int y, .int (bI zi)]) (rest := [.ref o0]) C0 hl hK hS hA hZ hE (t_xTurn l hnt g b0 s.heap x0 lc tr tc sr sc i3 i4 i5 i6 V n t hC x y zi hq) gL_turn_X2_turn rfl ⟨rfl, rfl⟩ (hC.1.recv hK) ⟨rfl, (show hd_ok yX2_turn 3 from ⟨by decide, by decide, by decide +kernel⟩)⟩ ⟨Nat.le_of_ble_eq_true rfl, Nat.le_of_ble_eq_true rfl⟩ rfl (Nat.le_of_ble_eq_true rfl) ⟨Nat.le_of_ble_eq_true rfl, Nat.le_of_ble_eq_true rfl⟩ dL_turn_6 [] ⟨0, 20, 23, 19⟩ [] (by rw [htab]; rfl) (fun z hz => nomatch hz) (by decide) (by decide) (hts (.classLink RL 19 nE1) (by decide +kernel)) (va_Nw.use rfl hE.1.1) (fun q1 H1 locs hzz hk1 hS => ?_)
    refine lv_astore (lv' := [(5, .ref q1), (0, .ref x0), (1, .int x), (2, .int y), (3, .int (bI zi)), (4, .ref o0)]) hx hb dL_turn_23 hl (by decide) rfl (fun ls hl => ?_)
    refine lv_iconst (v := nI 1) hx hb dL_turn_25 (by decide) ?_
    refine W.widen (k := 1) (n := 6) (by decide) (by decide) ?_
    exact rt_ni (mu := mL x0 lc tr tc sr sc o0) C0 rfl ⟨_, V, n, t, ⟨rfl, rfl, Or.inr ⟨hq, rfl⟩, Or.inr ⟨hq, rfl⟩⟩, hL.kept (fun q hq => hk1 q (hL.lt q hq))⟩ hS rfl dL_turn_26
abbrev rmL_about : Room := { frames := 8, cells := 1, slots := 6, locals := 136 }
set_option maxHeartbeats 4000000 in
set_option maxRecDepth 100000 in
theorem s_about (l : Launch) (hnt : l.stackTraces = false) (g : Gx) (b0 : Nat) (H0 : Heap) (x0 lc tr tc sr sc o0 : Nat) (V : Nat → Nat) (n : Nat) (t : Nat → Nat) (v0 : Int64) (hL : LQ g H0 x0 lc tr tc sr sc o0 V n t v0) (hmb : ∀ q : Nat, mL x0 lc tr tc sr sc o0 q → b0 ≤ q) (x : Int32) (zb zi : Bool) : Met l yL_about wsL_about rmL_about (va_Pc [.ref x0, .int x, .int (bI zb), .int (bI zi), .ref o0] (hX g b0 H0)) (nQ H0 (mL x0 lc tr tc sr sc o0) (zL g x0 lc tr tc sr sc o0 (fun r v2 V2 n2 t2 => (∃ k9 : Int32, r = some (.int k9)) ∧ n2 = n ∧ t2 = t ∧ oC1 x (fun u => wideN (nP zi) (tsum (u % 65536 ^ nP zi) (bpl (16 * nP zi) zb) (16 * nP zi) % 65536 ^ nP zi)) V V2))) 1 6 (fun q => mL x0 lc tr tc sr sc o0 q ∨ H0.size ≤ q) := by
  refine cxw_met (own := RL) (cc := cL_about) (maxL := 6) (hh := [(0, 20, 23, 19)]) (by decide) rfl rfl (Nat.le_of_ble_eq_true rfl) ?_
  intro p e s m below meth c ls C0 hB0 htab hl
  obtain ⟨⟨hH, hK, hZ⟩, hE⟩ := hB0
  obtain ⟨hx, hb, hr, hml, hown, hts, hlk⟩ := id C0
  subst hH
  have hS : va_S (fun q => mL x0 lc tr tc sr sc o0 q ∨ s.heap.size ≤ q) s.heap s.heap [] := va_S.rf
  have hA : ∀ q : Nat, s.heap.size ≤ q → (fun q => mL x0 lc tr tc sr sc o0 q ∨ s.heap.size ≤ q) q := fun q h => Or.inr h
  have h0Z := hZ.1
  have hAb : ∀ q : Nat, (fun q => mL x0 lc tr tc sr sc o0 q ∨ s.heap.size ≤ q) q → b0 ≤ q := fun q h => h.elim (hmb q) (fun h => Nat.le_trans h0Z h)
  have hmb1 : ∀ q : Nat, mC x0 lc tr tc sr sc q → b0 ≤ q := fun q h => hmb q (Or.inl h)
  obtain ⟨⟨i3, i4, i5, i6, hC⟩, ⟨w0, ho⟩, hno⟩ := id hL
  have hl : lv_has ls 6 [(0, .ref x0), (1, .int x), (2, .int (bI zb)), (3, .int (bI zi)), (4, .ref o0)] := hl
  refine lv_aload hx hb dL_about_0 (lv_at hl 4 rfl) ?_
  refine lv_aload_n hx hb dL_about_2 rfl (lv_at hl 0 rfl) ?_
  refine lv_iload_n hx hb dL_about_3 rfl (lv_at hl 1 rfl) ?_
  refine lv_iload_n hx hb dL_about_4 rfl (lv_at hl 2 rfl) ?_
  refine lv_iload_n hx hb dL_about_5 rfl (lv_at hl 3 rfl) ?_
  by_cases hq : isC x
  · skip
    obtain ⟨i, hi, rfl⟩ := cell_of hq
    refine cn_V (As := [.int (nI i), .int (bI zb), .int (bI zi)]) (rest := [.ref o0]) C0 hl hK hS hA (fun q h => Or.inl (Or.inl h)) (c_xAbout l g s.heap x0 lc tr tc sr sc i3 i4 i5 i6 V n t hC i hi zb zi) gL_about_X2_about rfl ⟨rfl, rfl⟩ (hC.1.recv hK) ⟨rfl, (show hd_ok yX2_about 3 from ⟨by decide, by decide, by decide +kernel⟩)⟩ ⟨Nat.le_of_ble_eq_true rfl, Nat.le_of_ble_eq_true rfl⟩ rfl (Nat.le_of_ble_eq_true rfl) ⟨Nat.zero_le _, Nat.zero_le _⟩ dL_about_6 (fun r1 H1 locs hv hzz hk1 hS => ?_)
    obtain ⟨j3, j4, j5, j6, V2, n2, t2, ⟨rfl, rfl, rfl, rfl⟩, hC1⟩ := hv
    have ho1 := ho.kept (hk1 _ ho.lt hno)
    refine lw_zl hx hb dL_about_9 dL_about_12 dL_about_13 dL_about_16 ?_
    refine w_putN (ci := 4) (C := RX3) (T := TX3) (N := 2) (ty := .long) (v := .long (lB (!decide (abV zb zi (V i) = V i)))) hx hb hts (by decide +kernel) tyX3 tyX3_ok nmX3 hown hK hS ho1 (Or.inl (Or.inr rfl)) rfl 0 (by decide) (va_Nw.use rfl hZ.2.2.2.2.2.1.2.2.2.2.1) (fun _ h9 => h9) rfl (by decide +kernel) rfl rfl (by show 0 < 2; decide) dL_about_17 (fun H2 locs ho2 hs2 hk2 hS => ?_)
    refine lv_goto (tgt := 27) hx hb dL_about_20 (by decide) ?_
    refine lv_iconst (v := nI 0) hx hb dL_about_27 (by decide) ?_
    refine W.widen (k := 1) (n := 6) (by decide) (by decide) ?_
    exact rt_ni (mu := mL x0 lc tr tc sr sc o0) C0 rfl ⟨_, _, _, _, ⟨⟨_, rfl⟩, rfl, rfl, Or.inl ⟨i, hi, rfl, by rw [abV_eq zb zi (hC.1.2.2.2.2.1 i hi)]⟩⟩, ⟨_, _, _, _, hC1.kept (fun q _ hq => hk2 q (fun e => hno (by rw [← e]; exact hq)))⟩, ⟨_, ho2⟩, hno⟩ hS rfl dL_about_28
  · skip
    refine tx_CV (As := [.int x, .int (bI zb), .int (bI zi)]) (rest := [.ref o0]) C0 hl hK hS hA hZ hE (t_xAbout l hnt g b0 s.heap x0 lc tr tc sr sc i3 i4 i5 i6 V n t hC x zb zi hq) gL_about_X2_about rfl ⟨rfl, rfl⟩ (hC.1.recv hK) ⟨rfl, (show hd_ok yX2_about 3 from ⟨by decide, by decide, by decide +kernel⟩)⟩ ⟨Nat.le_of_ble_eq_true rfl, Nat.le_of_ble_eq_true rfl⟩ rfl (Nat.le_of_ble_eq_true rfl) ⟨Nat.le_of_ble_eq_true rfl, Nat.le_of_ble_eq_true rfl⟩ dL_about_6 [] ⟨0, 20, 23, 19⟩ [] (by rw [htab]; rfl) (fun z hz => nomatch hz) (by decide) (by decide) (hts (.classLink RL 19 nE1) (by decide +kernel)) (va_Nw.use rfl hE.1.1) (fun q1 H1 locs hzz hk1 hS => ?_)
    refine lv_astore (lv' := [(5, .ref q1), (0, .ref x0), (1, .int x), (2, .int (bI zb)), (3, .int (bI zi)), (4, .ref o0)]) hx hb dL_about_23 hl (by decide) rfl (fun ls hl => ?_)
    refine lv_iconst (v := nI 1) hx hb dL_about_25 (by decide) ?_
    refine W.widen (k := 1) (n := 6) (by decide) (by decide) ?_
    exact rt_ni (mu := mL x0 lc tr tc sr sc o0) C0 rfl ⟨_, V, n, t, ⟨⟨_, rfl⟩, rfl, rfl, Or.inr ⟨hq, rfl⟩⟩, hL.kept (fun q hq => hk1 q (hL.lt q hq))⟩ hS rfl dL_about_26
abbrev rmL_pick : Room := { frames := 8, cells := 1, slots := 6, locals := 136 }
set_option maxHeartbeats 4000000 in
set_option maxRecDepth 100000 in
theorem s_pick (l : Launch) (hnt : l.stackTraces = false) (g : Gx) (b0 : Nat) (H0 : Heap) (x0 lc tr tc sr sc o0 : Nat) (V : Nat → Nat) (n : Nat) (t : Nat → Nat) (v0 : Int64) (hL : LQ g H0 x0 lc tr tc sr sc o0 V n t v0) (hmb : ∀ q : Nat, mL x0 lc tr tc sr sc o0 q → b0 ≤ q) (x : Int32) (zb zi : Bool) : Met l yL_pick wsL_pick rmL_pick (va_Pc [.ref x0, .int x, .int (bI zb), .int (bI zi), .ref o0] (hX g b0 H0)) (nQ H0 (mL x0 lc tr tc sr sc o0) (zL g x0 lc tr tc sr sc o0 (fun r v2 V2 n2 t2 => (∃ k9 : Int32, r = some (.int k9)) ∧ n2 = n ∧ t2 = t ∧ oC1 x (fun u => wideN (nP zi) (pkN (oneN (u % 65536 ^ nP zi) zb (16 * nP zi)))) V V2))) 1 6 (fun q => mL x0 lc tr tc sr sc o0 q ∨ H0.size ≤ q) := by
  refine cxw_met (own := RL) (cc := cL_pick) (maxL := 6) (hh := [(0, 13, 16, 19)]) (by decide) rfl rfl (Nat.le_of_ble_eq_true rfl) ?_
  intro p e s m below meth c ls C0 hB0 htab hl
  obtain ⟨⟨hH, hK, hZ⟩, hE⟩ := hB0
  obtain ⟨hx, hb, hr, hml, hown, hts, hlk⟩ := id C0
  subst hH
  have hS : va_S (fun q => mL x0 lc tr tc sr sc o0 q ∨ s.heap.size ≤ q) s.heap s.heap [] := va_S.rf
  have hA : ∀ q : Nat, s.heap.size ≤ q → (fun q => mL x0 lc tr tc sr sc o0 q ∨ s.heap.size ≤ q) q := fun q h => Or.inr h
  have h0Z := hZ.1
  have hAb : ∀ q : Nat, (fun q => mL x0 lc tr tc sr sc o0 q ∨ s.heap.size ≤ q) q → b0 ≤ q := fun q h => h.elim (hmb q) (fun h => Nat.le_trans h0Z h)
  have hmb1 : ∀ q : Nat, mC x0 lc tr tc sr sc q → b0 ≤ q := fun q h => hmb q (Or.inl h)
  obtain ⟨⟨i3, i4, i5, i6, hC⟩, ⟨w0, ho⟩, hno⟩ := id hL
  have hl : lv_has ls 6 [(0, .ref x0), (1, .int x), (2, .int (bI zb)), (3, .int (bI zi)), (4, .ref o0)] := hl
  refine lv_aload hx hb dL_pick_0 (lv_at hl 4 rfl) ?_
  refine lv_aload_n hx hb dL_pick_2 rfl (lv_at hl 0 rfl) ?_
  refine lv_iload_n hx hb dL_pick_3 rfl (lv_at hl 1 rfl) ?_
  refine lv_iload_n hx hb dL_pick_4 rfl (lv_at hl 2 rfl) ?_
  refine lv_iload_n hx hb dL_pick_5 rfl (lv_at hl 3 rfl) ?_
  by_cases hq : isC x
  · skip
    obtain ⟨i, hi, rfl⟩ := cell_of hq
    refine cn_V (As := [.int (nI i), .int (bI zb), .int (bI zi)]) (rest := [.ref o0]) C0 hl hK hS hA (fun q h => Or.inl (Or.inl h)) (c_xPick l g s.heap x0 lc tr tc sr sc i3 i4 i5 i6 V n t hC i hi zb zi) gL_pick_X2_pick rfl ⟨rfl, rfl⟩ (hC.1.recv hK) ⟨rfl, (show hd_ok yX2_pick 3 from ⟨by decide, by decide, by decide +kernel⟩)⟩ ⟨Nat.le_of_ble_eq_true rfl, Nat.le_of_ble_eq_true rfl⟩ rfl (Nat.le_of_ble_eq_true rfl) ⟨Nat.zero_le _, Nat.zero_le _⟩ dL_pick_6 (fun r1 H1 locs hv hzz hk1 hS => ?_)
    obtain ⟨j3, j4, j5, j6, V2, n2, t2, ⟨rfl, rfl, rfl, rfl⟩, hC1⟩ := hv
    have ho1 := ho.kept (hk1 _ ho.lt hno)
    refine lv_i2l (v := (if V i % 65536 ^ nP zi = 0 then -1 else pkP zb (V i % 65536 ^ nP zi)).toInt64) hx hb dL_pick_9 (rfl) ?_
    refine w_putN (ci := 4) (C := RX3) (T := TX3) (N := 2) (ty := .long) (v := .long ((if V i % 65536 ^ nP zi = 0 then -1 else pkP zb (V i % 65536 ^ nP zi)).toInt64)) hx hb hts (by decide +kernel) tyX3 tyX3_ok nmX3 hown hK hS ho1 (Or.inl (Or.inr rfl)) rfl 0 (by decide) (va_Nw.use rfl hZ.2.2.2.2.2.1.2.2.2.2.1) (fun _ h9 => h9) rfl (by decide +kernel) rfl rfl (by show 0 < 2; decide) dL_pick_10 (fun H2 locs ho2 hs2 hk2 hS => ?_)
    refine lv_goto (tgt := 20) hx hb dL_pick_13 (by decide) ?_
    refine lv_iconst (v := nI 0) hx hb dL_pick_20 (by decide) ?_
    refine W.widen (k := 1) (n := 6) (by decide) (by decide) ?_
    exact rt_ni (mu := mL x0 lc tr tc sr sc o0) C0 rfl ⟨_, _, _, _, ⟨⟨_, rfl⟩, rfl, rfl, Or.inl ⟨i, hi, rfl, by rw [(pkW_eq zi zb (Nat.mod_lt _ (Nat.pow_pos (by decide)))).1]⟩⟩, ⟨_, _, _, _, hC1.kept (fun q _ hq => hk2 q (fun e => hno (by rw [← e]; exact hq)))⟩, ⟨_, ho2⟩, hno⟩ hS rfl dL_pick_21
  · skip
    refine tx_CV (As := [.int x, .int (bI zb), .int (bI zi)]) (rest := [.ref o0]) C0 hl hK hS hA hZ hE (t_xPick l hnt g b0 s.heap x0 lc tr tc sr sc i3 i4 i5 i6 V n t hC x zb zi hq) gL_pick_X2_pick rfl ⟨rfl, rfl⟩ (hC.1.recv hK) ⟨rfl, (show hd_ok yX2_pick 3 from ⟨by decide, by decide, by decide +kernel⟩)⟩ ⟨Nat.le_of_ble_eq_true rfl, Nat.le_of_ble_eq_true rfl⟩ rfl (Nat.le_of_ble_eq_true rfl) ⟨Nat.le_of_ble_eq_true rfl, Nat.le_of_ble_eq_true rfl⟩ dL_pick_6 [] ⟨0, 13, 16, 19⟩ [] (by rw [htab]; rfl) (fun z hz => nomatch hz) (by decide) (by decide) (hts (.classLink RL 19 nE1) (by decide +kernel)) (va_Nw.use rfl hE.1.1) (fun q1 H1 locs hzz hk1 hS => ?_)
    refine lv_astore (lv' := [(5, .ref q1), (0, .ref x0), (1, .int x), (2, .int (bI zb)), (3, .int (bI zi)), (4, .ref o0)]) hx hb dL_pick_16 hl (by decide) rfl (fun ls hl => ?_)
    refine lv_iconst (v := nI 1) hx hb dL_pick_18 (by decide) ?_
    refine W.widen (k := 1) (n := 6) (by decide) (by decide) ?_
    exact rt_ni (mu := mL x0 lc tr tc sr sc o0) C0 rfl ⟨_, V, n, t, ⟨⟨_, rfl⟩, rfl, rfl, Or.inr ⟨hq, rfl⟩⟩, hL.kept (fun q hq => hk1 q (hL.lt q hq))⟩ hS rfl dL_pick_19
abbrev rmL_join : Room := { frames := 8, cells := 1, slots := 6, locals := 141 }
set_option maxHeartbeats 4000000 in
set_option maxRecDepth 100000 in
theorem s_join (l : Launch) (hnt : l.stackTraces = false) (g : Gx) (b0 : Nat) (H0 : Heap) (x0 lc tr tc sr sc o0 : Nat) (V : Nat → Nat) (n : Nat) (t : Nat → Nat) (v0 : Int64) (hL : LQ g H0 x0 lc tr tc sr sc o0 V n t v0) (hmb : ∀ q : Nat, mL x0 lc tr tc sr sc o0 q → b0 ≤ q) (x y k : Int32) (zi : Bool) : Met l yL_join wsL_join rmL_join (va_Pc [.ref x0, .int x, .int y, .int k, .int (bI zi), .ref o0] (hX g b0 H0)) (nQ H0 (mL x0 lc tr tc sr sc o0) (zL g x0 lc tr tc sr sc o0 (fun r v2 V2 n2 t2 => (∃ k9 : Int32, r = some (.int k9)) ∧ n2 = n ∧ t2 = t ∧ oC2 x y (fun _ => nI 0 ≤ k ∧ k ≤ nI 2) (fun u w => wideN (nP zi) (jnN zi k (u % 65536 ^ nP zi) (w % 65536 ^ nP zi))) V V2))) 1 6 (fun q => mL x0 lc tr tc sr sc o0 q ∨ H0.size ≤ q) := by
  refine cxw_met (own := RL) (cc := cL_join) (maxL := 7) (hh := [(0, 22, 25, 19), (0, 22, 29, 29)]) (by decide) rfl rfl (Nat.le_of_ble_eq_true rfl) ?_
  intro p e s m below meth c ls C0 hB0 htab hl
  obtain ⟨⟨hH, hK, hZ⟩, hE⟩ := hB0
  obtain ⟨hx, hb, hr, hml, hown, hts, hlk⟩ := id C0
  subst hH
  have hS : va_S (fun q => mL x0 lc tr tc sr sc o0 q ∨ s.heap.size ≤ q) s.heap s.heap [] := va_S.rf
  have hA : ∀ q : Nat, s.heap.size ≤ q → (fun q => mL x0 lc tr tc sr sc o0 q ∨ s.heap.size ≤ q) q := fun q h => Or.inr h
  have h0Z := hZ.1
  have hAb : ∀ q : Nat, (fun q => mL x0 lc tr tc sr sc o0 q ∨ s.heap.size ≤ q) q → b0 ≤ q := fun q h => h.elim (hmb q) (fun h => Nat.le_trans h0Z h)
  have hmb1 : ∀ q : Nat, mC x0 lc tr tc sr sc q → b0 ≤ q := fun q h => hmb q (Or.inl h)
  obtain ⟨⟨i3, i4, i5, i6, hC⟩, ⟨w0, ho⟩, hno⟩ := id hL
  have hl : lv_has ls 7 [(0, .ref x0), (1, .int x), (2, .int y), (3, .int k), (4, .int (bI zi)), (5, .ref o0)] := hl
  refine lv_aload hx hb dL_join_0 (lv_at hl 5 rfl) ?_
  refine lv_aload_n hx hb dL_join_2 rfl (lv_at hl 0 rfl) ?_
  refine lv_iload_n hx hb dL_join_3 rfl (lv_at hl 1 rfl) ?_
  refine lv_iload_n hx hb dL_join_4 rfl (lv_at hl 2 rfl) ?_
  refine lv_iload_n hx hb dL_join_5 rfl (lv_at hl 3 rfl) ?_
  refine lv_iload hx hb dL_join_6 (lv_at hl 4 rfl) ?_
  by_cases hq : isC x ∧ isC y
  · skip
    obtain ⟨i, hi, rfl⟩ := cell_of hq.1
    obtain ⟨j, hj, rfl⟩ := cell_of hq.2
    by_cases hq2 : nI 0 ≤ k ∧ k ≤ nI 2
    · skip
      obtain ⟨d9, hd9, rfl⟩ := bas_of hq2
      refine cn_V (As := [.int (nI i), .int (nI j), .int (nI d9), .int (bI zi)]) (rest := [.ref o0]) C0 hl hK hS hA (fun q h => Or.inl (Or.inl h)) (c_xJoin l g s.heap x0 lc tr tc sr sc i3 i4 i5 i6 V n t hC i j d9 zi hi hj hd9) gL_join_X2_join rfl ⟨rfl, rfl⟩ (hC.1.recv hK) ⟨rfl, (show hd_ok yX2_join 4 from ⟨by decide, by decide, by decide +kernel⟩)⟩ ⟨Nat.le_of_ble_eq_true rfl, Nat.le_of_ble_eq_true rfl⟩ rfl (Nat.le_of_ble_eq_true rfl) ⟨Nat.zero_le _, Nat.zero_le _⟩ dL_join_8 (fun r1 H1 locs hv hzz hk1 hS => ?_)
      obtain ⟨j3, j4, j5, j6, V2, n2, t2, ⟨rfl, rfl, rfl, rfl⟩, hC1⟩ := hv
      have ho1 := ho.kept (hk1 _ ho.lt hno)
      refine lw_zl hx hb dL_join_11 dL_join_14 dL_join_15 dL_join_18 ?_
      refine w_putN (ci := 4) (C := RX3) (T := TX3) (N := 2) (ty := .long) (v := .long (lB (!decide (wideN (nP zi) (jnN zi (nI d9) (V i % 65536 ^ nP zi) (V j % 65536 ^ nP zi)) = V i)))) hx hb hts (by decide +kernel) tyX3 tyX3_ok nmX3 hown hK hS ho1 (Or.inl (Or.inr rfl)) rfl 0 (by decide) (va_Nw.use rfl hZ.2.2.2.2.2.1.2.2.2.2.1) (fun _ h9 => h9) rfl (by decide +kernel) rfl rfl (by show 0 < 2; decide) dL_join_19 (fun H2 locs ho2 hs2 hk2 hS => ?_)
      refine lv_goto (tgt := 33) hx hb dL_join_22 (by decide) ?_
      refine lv_iconst (v := nI 0) hx hb dL_join_33 (by decide) ?_
      refine W.widen (k := 1) (n := 6) (by decide) (by decide) ?_
      exact rt_ni (mu := mL x0 lc tr tc sr sc o0) C0 rfl ⟨_, _, _, _, ⟨⟨_, rfl⟩, rfl, rfl, Or.inl ⟨i, j, hi, hj, rfl, rfl, hq2, rfl⟩⟩, ⟨_, _, _, _, hC1.kept (fun q _ hq => hk2 q (fun e => hno (by rw [← e]; exact hq)))⟩, ⟨_, ho2⟩, hno⟩ hS rfl dL_join_34
    · skip
      refine tx_CV (As := [.int (nI i), .int (nI j), .int k, .int (bI zi)]) (rest := [.ref o0]) C0 hl hK hS hA hZ hE (t_xJoin2 l hnt g b0 s.heap x0 lc tr tc sr sc i3 i4 i5 i6 V n t hC i j hi hj k zi hq2) gL_join_X2_join rfl ⟨rfl, rfl⟩ (hC.1.recv hK) ⟨rfl, (show hd_ok yX2_join 4 from ⟨by decide, by decide, by decide +kernel⟩)⟩ ⟨Nat.le_of_ble_eq_true rfl, Nat.le_of_ble_eq_true rfl⟩ rfl (Nat.le_of_ble_eq_true rfl) ⟨Nat.le_of_ble_eq_true rfl, Nat.le_of_ble_eq_true rfl⟩ dL_join_8 [⟨0, 22, 25, 19⟩] ⟨0, 22, 29, 29⟩ [] (by rw [htab]; rfl) (fun z hz => (List.mem_cons.mp hz).elim (fun h => by rw [h]; exact Or.inr ⟨by decide, _, hts (.classLink RL 19 nE1) (by decide +kernel), hE.2.1⟩) (fun h => absurd h List.not_mem_nil)) (by decide) (by decide) (hts (.classLink RL 29 nE2) (by decide +kernel)) (va_Nw.use rfl hE.1.2.1) (fun q1 H1 locs hzz hk1 hS => ?_)
      refine lv_astore (lv' := [(6, .ref q1), (0, .ref x0), (1, .int (nI i)), (2, .int (nI j)), (3, .int k), (4, .int (bI zi)), (5, .ref o0)]) hx hb dL_join_29 hl (by decide) rfl (fun ls hl => ?_)
      refine lv_iconst (v := nI 2) hx hb dL_join_31 (by decide) ?_
      refine W.widen (k := 1) (n := 6) (by decide) (by decide) ?_
      exact rt_ni (mu := mL x0 lc tr tc sr sc o0) C0 rfl ⟨_, V, n, t, ⟨⟨_, rfl⟩, rfl, rfl, Or.inr ⟨fun _ _ _ _ _ _ z => hq2 z, rfl⟩⟩, hL.kept (fun q hq => hk1 q (hL.lt q hq))⟩ hS rfl dL_join_32
  · skip
    refine tx_CV (As := [.int x, .int y, .int k, .int (bI zi)]) (rest := [.ref o0]) C0 hl hK hS hA hZ hE (t_xJoin1 l hnt g b0 s.heap x0 lc tr tc sr sc i3 i4 i5 i6 V n t hC x y k zi hq) gL_join_X2_join rfl ⟨rfl, rfl⟩ (hC.1.recv hK) ⟨rfl, (show hd_ok yX2_join 4 from ⟨by decide, by decide, by decide +kernel⟩)⟩ ⟨Nat.le_of_ble_eq_true rfl, Nat.le_of_ble_eq_true rfl⟩ rfl (Nat.le_of_ble_eq_true rfl) ⟨Nat.le_of_ble_eq_true rfl, Nat.le_of_ble_eq_true rfl⟩ dL_join_8 [] ⟨0, 22, 25, 19⟩ [⟨0, 22, 29, 29⟩] (by rw [htab]; rfl) (fun z hz => nomatch hz) (by decide) (by decide) (hts (.classLink RL 19 nE1) (by decide +kernel)) (va_Nw.use rfl hE.1.1) (fun q1 H1 locs hzz hk1 hS => ?_)
    refine lv_astore (lv' := [(6, .ref q1), (0, .ref x0), (1, .int x), (2, .int y), (3, .int k), (4, .int (bI zi)), (5, .ref o0)]) hx hb dL_join_25 hl (by decide) rfl (fun ls hl => ?_)
    refine lv_iconst (v := nI 1) hx hb dL_join_27 (by decide) ?_
    refine W.widen (k := 1) (n := 6) (by decide) (by decide) ?_
    exact rt_ni (mu := mL x0 lc tr tc sr sc o0) C0 rfl ⟨_, V, n, t, ⟨⟨_, rfl⟩, rfl, rfl, Or.inr ⟨(fun i j hi hj e1 e2 _ => hq (by rw [e1, e2]; exact ⟨isC_nI hi, isC_nI hj⟩)), rfl⟩⟩, hL.kept (fun q hq => hk1 q (hL.lt q hq))⟩ hS rfl dL_join_28
abbrev rmL_high : Room := { frames := 8, cells := 1, slots := 6, locals := 131 }
set_option maxHeartbeats 4000000 in
set_option maxRecDepth 100000 in
theorem s_high (l : Launch) (hnt : l.stackTraces = false) (g : Gx) (b0 : Nat) (H0 : Heap) (x0 lc tr tc sr sc o0 : Nat) (V : Nat → Nat) (n : Nat) (t : Nat → Nat) (v0 : Int64) (hL : LQ g H0 x0 lc tr tc sr sc o0 V n t v0) (hmb : ∀ q : Nat, mL x0 lc tr tc sr sc o0 q → b0 ≤ q) (x : Int32) : Met l yL_high wsL_high rmL_high (va_Pc [.ref x0, .int x, .ref o0] (hX g b0 H0)) (nQ H0 (mL x0 lc tr tc sr sc o0) (zL g x0 lc tr tc sr sc o0 (fun r v2 V2 n2 t2 => (∃ k9 : Int32, r = some (.int k9)) ∧ V2 = V ∧ n2 = n ∧ t2 = t))) 1 6 (fun q => mL x0 lc tr tc sr sc o0 q ∨ H0.size ≤ q) := by
  refine cxw_met (own := RL) (cc := cL_high) (maxL := 4) (hh := [(0, 10, 13, 19)]) (by decide) rfl rfl (Nat.le_of_ble_eq_true rfl) ?_
  intro p e s m below meth c ls C0 hB0 htab hl
  obtain ⟨⟨hH, hK, hZ⟩, hE⟩ := hB0
  obtain ⟨hx, hb, hr, hml, hown, hts, hlk⟩ := id C0
  subst hH
  have hS : va_S (fun q => mL x0 lc tr tc sr sc o0 q ∨ s.heap.size ≤ q) s.heap s.heap [] := va_S.rf
  have hA : ∀ q : Nat, s.heap.size ≤ q → (fun q => mL x0 lc tr tc sr sc o0 q ∨ s.heap.size ≤ q) q := fun q h => Or.inr h
  have h0Z := hZ.1
  have hAb : ∀ q : Nat, (fun q => mL x0 lc tr tc sr sc o0 q ∨ s.heap.size ≤ q) q → b0 ≤ q := fun q h => h.elim (hmb q) (fun h => Nat.le_trans h0Z h)
  have hmb1 : ∀ q : Nat, mC x0 lc tr tc sr sc q → b0 ≤ q := fun q h => hmb q (Or.inl h)
  obtain ⟨⟨i3, i4, i5, i6, hC⟩, ⟨w0, ho⟩, hno⟩ := id hL
  have hl : lv_has ls 4 [(0, .ref x0), (1, .int x), (2, .ref o0)] := hl
  refine lv_aload_n hx hb dL_high_0 rfl (lv_at hl 2 rfl) ?_
  refine lv_aload_n hx hb dL_high_1 rfl (lv_at hl 0 rfl) ?_
  refine lv_iload_n hx hb dL_high_2 rfl (lv_at hl 1 rfl) ?_
  by_cases hq : isC x
  · skip
    obtain ⟨i, hi, rfl⟩ := cell_of hq
    refine cn_V (As := [.int (nI i)]) (rest := [.ref o0]) C0 hl hK hS hA (fun q h => Or.inl (Or.inl h)) (c_xHigh l g s.heap x0 lc tr tc sr sc i3 i4 i5 i6 V n t hC i hi) gL_high_X2_high rfl ⟨rfl, rfl⟩ (hC.1.recv hK) ⟨rfl, (show hd_ok yX2_high 1 from ⟨by decide, by decide, by decide +kernel⟩)⟩ ⟨Nat.le_of_ble_eq_true rfl, Nat.le_of_ble_eq_true rfl⟩ rfl (Nat.le_of_ble_eq_true rfl) ⟨Nat.zero_le _, Nat.zero_le _⟩ dL_high_3 (fun r1 H1 locs hv hzz hk1 hS => ?_)
    obtain ⟨j3, j4, j5, j6, V2, n2, t2, ⟨⟨rv, rfl⟩, rfl, rfl, rfl⟩, hC1⟩ := hv
    have ho1 := ho.kept (hk1 _ ho.lt hno)
    refine lv_i2l (v := rv.toInt64) hx hb dL_high_6 (rfl) ?_
    refine w_putN (ci := 4) (C := RX3) (T := TX3) (N := 2) (ty := .long) (v := .long rv.toInt64) hx hb hts (by decide +kernel) tyX3 tyX3_ok nmX3 hown hK hS ho1 (Or.inl (Or.inr rfl)) rfl 0 (by decide) (va_Nw.use rfl hZ.2.2.2.2.2.1.2.2.2.2.1) (fun _ h9 => h9) rfl (by decide +kernel) rfl rfl (by show 0 < 2; decide) dL_high_7 (fun H2 locs ho2 hs2 hk2 hS => ?_)
    refine lv_goto (tgt := 16) hx hb dL_high_10 (by decide) ?_
    refine lv_iconst (v := nI 0) hx hb dL_high_16 (by decide) ?_
    refine W.widen (k := 1) (n := 6) (by decide) (by decide) ?_
    exact rt_ni (mu := mL x0 lc tr tc sr sc o0) C0 rfl ⟨_, _, _, _, ⟨⟨_, rfl⟩, rfl, rfl, rfl⟩, ⟨_, _, _, _, hC1.kept (fun q _ hq => hk2 q (fun e => hno (by rw [← e]; exact hq)))⟩, ⟨_, ho2⟩, hno⟩ hS rfl dL_high_17
  · skip
    refine tx_CV (As := [.int x]) (rest := [.ref o0]) C0 hl hK hS hA hZ hE (t_xHigh l hnt g b0 s.heap x0 lc tr tc sr sc i3 i4 i5 i6 V n t hC x hq) gL_high_X2_high rfl ⟨rfl, rfl⟩ (hC.1.recv hK) ⟨rfl, (show hd_ok yX2_high 1 from ⟨by decide, by decide, by decide +kernel⟩)⟩ ⟨Nat.le_of_ble_eq_true rfl, Nat.le_of_ble_eq_true rfl⟩ rfl (Nat.le_of_ble_eq_true rfl) ⟨Nat.le_of_ble_eq_true rfl, Nat.le_of_ble_eq_true rfl⟩ dL_high_3 [] ⟨0, 10, 13, 19⟩ [] (by rw [htab]; rfl) (fun z hz => nomatch hz) (by decide) (by decide) (hts (.classLink RL 19 nE1) (by decide +kernel)) (va_Nw.use rfl hE.1.1) (fun q1 H1 locs hzz hk1 hS => ?_)
    refine lv_astore_n (lv' := [(3, .ref q1), (0, .ref x0), (1, .int x), (2, .ref o0)]) hx hb dL_high_13 rfl hl (by decide) rfl (fun ls hl => ?_)
    refine lv_iconst (v := nI 1) hx hb dL_high_14 (by decide) ?_
    refine W.widen (k := 1) (n := 6) (by decide) (by decide) ?_
    exact rt_ni (mu := mL x0 lc tr tc sr sc o0) C0 rfl ⟨_, V, n, t, ⟨⟨_, rfl⟩, rfl, rfl, rfl⟩, hL.kept (fun q hq => hk1 q (hL.lt q hq))⟩ hS rfl dL_high_15
abbrev rmL_low : Room := { frames := 8, cells := 1, slots := 6, locals := 131 }
set_option maxHeartbeats 4000000 in
set_option maxRecDepth 100000 in
theorem s_low (l : Launch) (hnt : l.stackTraces = false) (g : Gx) (b0 : Nat) (H0 : Heap) (x0 lc tr tc sr sc o0 : Nat) (V : Nat → Nat) (n : Nat) (t : Nat → Nat) (v0 : Int64) (hL : LQ g H0 x0 lc tr tc sr sc o0 V n t v0) (hmb : ∀ q : Nat, mL x0 lc tr tc sr sc o0 q → b0 ≤ q) (x : Int32) : Met l yL_low wsL_low rmL_low (va_Pc [.ref x0, .int x, .ref o0] (hX g b0 H0)) (nQ H0 (mL x0 lc tr tc sr sc o0) (zL g x0 lc tr tc sr sc o0 (fun r v2 V2 n2 t2 => (∃ k9 : Int32, r = some (.int k9)) ∧ V2 = V ∧ n2 = n ∧ t2 = t))) 1 6 (fun q => mL x0 lc tr tc sr sc o0 q ∨ H0.size ≤ q) := by
  refine cxw_met (own := RL) (cc := cL_low) (maxL := 4) (hh := [(0, 10, 13, 19)]) (by decide) rfl rfl (Nat.le_of_ble_eq_true rfl) ?_
  intro p e s m below meth c ls C0 hB0 htab hl
  obtain ⟨⟨hH, hK, hZ⟩, hE⟩ := hB0
  obtain ⟨hx, hb, hr, hml, hown, hts, hlk⟩ := id C0
  subst hH
  have hS : va_S (fun q => mL x0 lc tr tc sr sc o0 q ∨ s.heap.size ≤ q) s.heap s.heap [] := va_S.rf
  have hA : ∀ q : Nat, s.heap.size ≤ q → (fun q => mL x0 lc tr tc sr sc o0 q ∨ s.heap.size ≤ q) q := fun q h => Or.inr h
  have h0Z := hZ.1
  have hAb : ∀ q : Nat, (fun q => mL x0 lc tr tc sr sc o0 q ∨ s.heap.size ≤ q) q → b0 ≤ q := fun q h => h.elim (hmb q) (fun h => Nat.le_trans h0Z h)
  have hmb1 : ∀ q : Nat, mC x0 lc tr tc sr sc q → b0 ≤ q := fun q h => hmb q (Or.inl h)
  obtain ⟨⟨i3, i4, i5, i6, hC⟩, ⟨w0, ho⟩, hno⟩ := id hL
  have hl : lv_has ls 4 [(0, .ref x0), (1, .int x), (2, .ref o0)] := hl
  refine lv_aload_n hx hb dL_low_0 rfl (lv_at hl 2 rfl) ?_
  refine lv_aload_n hx hb dL_low_1 rfl (lv_at hl 0 rfl) ?_
  refine lv_iload_n hx hb dL_low_2 rfl (lv_at hl 1 rfl) ?_
  by_cases hq : isC x
  · skip
    obtain ⟨i, hi, rfl⟩ := cell_of hq
    refine cn_V (As := [.int (nI i)]) (rest := [.ref o0]) C0 hl hK hS hA (fun q h => Or.inl (Or.inl h)) (c_xLow l g s.heap x0 lc tr tc sr sc i3 i4 i5 i6 V n t hC i hi) gL_low_X2_low rfl ⟨rfl, rfl⟩ (hC.1.recv hK) ⟨rfl, (show hd_ok yX2_low 1 from ⟨by decide, by decide, by decide +kernel⟩)⟩ ⟨Nat.le_of_ble_eq_true rfl, Nat.le_of_ble_eq_true rfl⟩ rfl (Nat.le_of_ble_eq_true rfl) ⟨Nat.zero_le _, Nat.zero_le _⟩ dL_low_3 (fun r1 H1 locs hv hzz hk1 hS => ?_)
    obtain ⟨j3, j4, j5, j6, V2, n2, t2, ⟨⟨rv, rfl⟩, rfl, rfl, rfl⟩, hC1⟩ := hv
    have ho1 := ho.kept (hk1 _ ho.lt hno)
    refine lv_i2l (v := rv.toInt64) hx hb dL_low_6 (rfl) ?_
    refine w_putN (ci := 4) (C := RX3) (T := TX3) (N := 2) (ty := .long) (v := .long rv.toInt64) hx hb hts (by decide +kernel) tyX3 tyX3_ok nmX3 hown hK hS ho1 (Or.inl (Or.inr rfl)) rfl 0 (by decide) (va_Nw.use rfl hZ.2.2.2.2.2.1.2.2.2.2.1) (fun _ h9 => h9) rfl (by decide +kernel) rfl rfl (by show 0 < 2; decide) dL_low_7 (fun H2 locs ho2 hs2 hk2 hS => ?_)
    refine lv_goto (tgt := 16) hx hb dL_low_10 (by decide) ?_
    refine lv_iconst (v := nI 0) hx hb dL_low_16 (by decide) ?_
    refine W.widen (k := 1) (n := 6) (by decide) (by decide) ?_
    exact rt_ni (mu := mL x0 lc tr tc sr sc o0) C0 rfl ⟨_, _, _, _, ⟨⟨_, rfl⟩, rfl, rfl, rfl⟩, ⟨_, _, _, _, hC1.kept (fun q _ hq => hk2 q (fun e => hno (by rw [← e]; exact hq)))⟩, ⟨_, ho2⟩, hno⟩ hS rfl dL_low_17
  · skip
    refine tx_CV (As := [.int x]) (rest := [.ref o0]) C0 hl hK hS hA hZ hE (t_xLow l hnt g b0 s.heap x0 lc tr tc sr sc i3 i4 i5 i6 V n t hC x hq) gL_low_X2_low rfl ⟨rfl, rfl⟩ (hC.1.recv hK) ⟨rfl, (show hd_ok yX2_low 1 from ⟨by decide, by decide, by decide +kernel⟩)⟩ ⟨Nat.le_of_ble_eq_true rfl, Nat.le_of_ble_eq_true rfl⟩ rfl (Nat.le_of_ble_eq_true rfl) ⟨Nat.le_of_ble_eq_true rfl, Nat.le_of_ble_eq_true rfl⟩ dL_low_3 [] ⟨0, 10, 13, 19⟩ [] (by rw [htab]; rfl) (fun z hz => nomatch hz) (by decide) (by decide) (hts (.classLink RL 19 nE1) (by decide +kernel)) (va_Nw.use rfl hE.1.1) (fun q1 H1 locs hzz hk1 hS => ?_)
    refine lv_astore_n (lv' := [(3, .ref q1), (0, .ref x0), (1, .int x), (2, .ref o0)]) hx hb dL_low_13 rfl hl (by decide) rfl (fun ls hl => ?_)
    refine lv_iconst (v := nI 1) hx hb dL_low_14 (by decide) ?_
    refine W.widen (k := 1) (n := 6) (by decide) (by decide) ?_
    exact rt_ni (mu := mL x0 lc tr tc sr sc o0) C0 rfl ⟨_, V, n, t, ⟨⟨_, rfl⟩, rfl, rfl, rfl⟩, hL.kept (fun q hq => hk1 q (hL.lt q hq))⟩ hS rfl dL_low_15
abbrev rmL_compare : Room := { frames := 8, cells := 1, slots := 6, locals := 139 }
set_option maxHeartbeats 4000000 in
set_option maxRecDepth 100000 in
theorem s_compare (l : Launch) (hnt : l.stackTraces = false) (g : Gx) (b0 : Nat) (H0 : Heap) (x0 lc tr tc sr sc o0 : Nat) (V : Nat → Nat) (n : Nat) (t : Nat → Nat) (v0 : Int64) (hL : LQ g H0 x0 lc tr tc sr sc o0 V n t v0) (hmb : ∀ q : Nat, mL x0 lc tr tc sr sc o0 q → b0 ≤ q) (x y : Int32) (zu zi : Bool) : Met l yL_compare wsL_compare rmL_compare (va_Pc [.ref x0, .int x, .int y, .int (bI zu), .int (bI zi), .ref o0] (hX g b0 H0)) (nQ H0 (mL x0 lc tr tc sr sc o0) (zL g x0 lc tr tc sr sc o0 (fun r v2 V2 n2 t2 => (∃ k9 : Int32, r = some (.int k9)) ∧ V2 = V ∧ n2 = n ∧ t2 = t))) 1 6 (fun q => mL x0 lc tr tc sr sc o0 q ∨ H0.size ≤ q) := by
  refine cxw_met (own := RL) (cc := cL_compare) (maxL := 7) (hh := [(0, 15, 18, 19)]) (by decide) rfl rfl (Nat.le_of_ble_eq_true rfl) ?_
  intro p e s m below meth c ls C0 hB0 htab hl
  obtain ⟨⟨hH, hK, hZ⟩, hE⟩ := hB0
  obtain ⟨hx, hb, hr, hml, hown, hts, hlk⟩ := id C0
  subst hH
  have hS : va_S (fun q => mL x0 lc tr tc sr sc o0 q ∨ s.heap.size ≤ q) s.heap s.heap [] := va_S.rf
  have hA : ∀ q : Nat, s.heap.size ≤ q → (fun q => mL x0 lc tr tc sr sc o0 q ∨ s.heap.size ≤ q) q := fun q h => Or.inr h
  have h0Z := hZ.1
  have hAb : ∀ q : Nat, (fun q => mL x0 lc tr tc sr sc o0 q ∨ s.heap.size ≤ q) q → b0 ≤ q := fun q h => h.elim (hmb q) (fun h => Nat.le_trans h0Z h)
  have hmb1 : ∀ q : Nat, mC x0 lc tr tc sr sc q → b0 ≤ q := fun q h => hmb q (Or.inl h)
  obtain ⟨⟨i3, i4, i5, i6, hC⟩, ⟨w0, ho⟩, hno⟩ := id hL
  have hl : lv_has ls 7 [(0, .ref x0), (1, .int x), (2, .int y), (3, .int (bI zu)), (4, .int (bI zi)), (5, .ref o0)] := hl
  refine lv_aload hx hb dL_compare_0 (lv_at hl 5 rfl) ?_
  refine lv_aload_n hx hb dL_compare_2 rfl (lv_at hl 0 rfl) ?_
  refine lv_iload_n hx hb dL_compare_3 rfl (lv_at hl 1 rfl) ?_
  refine lv_iload_n hx hb dL_compare_4 rfl (lv_at hl 2 rfl) ?_
  refine lv_iload_n hx hb dL_compare_5 rfl (lv_at hl 3 rfl) ?_
  refine lv_iload hx hb dL_compare_6 (lv_at hl 4 rfl) ?_
  by_cases hq : isC x ∧ isC y
  · skip
    obtain ⟨i, hi, rfl⟩ := cell_of hq.1
    obtain ⟨j, hj, rfl⟩ := cell_of hq.2
    refine cn_V (As := [.int (nI i), .int (nI j), .int (bI zu), .int (bI zi)]) (rest := [.ref o0]) C0 hl hK hS hA (fun q h => Or.inl (Or.inl h)) (c_xCompare l g s.heap x0 lc tr tc sr sc i3 i4 i5 i6 V n t hC i j zu zi hi hj) gL_compare_X2_compare rfl ⟨rfl, rfl⟩ (hC.1.recv hK) ⟨rfl, (show hd_ok yX2_compare 4 from ⟨by decide, by decide, by decide +kernel⟩)⟩ ⟨Nat.le_of_ble_eq_true rfl, Nat.le_of_ble_eq_true rfl⟩ rfl (Nat.le_of_ble_eq_true rfl) ⟨Nat.zero_le _, Nat.zero_le _⟩ dL_compare_8 (fun r1 H1 locs hv hzz hk1 hS => ?_)
    obtain ⟨j3, j4, j5, j6, V2, n2, t2, ⟨⟨rv, rfl⟩, rfl, rfl, rfl⟩, hC1⟩ := hv
    have ho1 := ho.kept (hk1 _ ho.lt hno)
    refine lv_i2l (v := rv.toInt64) hx hb dL_compare_11 (rfl) ?_
    refine w_putN (ci := 4) (C := RX3) (T := TX3) (N := 2) (ty := .long) (v := .long rv.toInt64) hx hb hts (by decide +kernel) tyX3 tyX3_ok nmX3 hown hK hS ho1 (Or.inl (Or.inr rfl)) rfl 0 (by decide) (va_Nw.use rfl hZ.2.2.2.2.2.1.2.2.2.2.1) (fun _ h9 => h9) rfl (by decide +kernel) rfl rfl (by show 0 < 2; decide) dL_compare_12 (fun H2 locs ho2 hs2 hk2 hS => ?_)
    refine lv_goto (tgt := 22) hx hb dL_compare_15 (by decide) ?_
    refine lv_iconst (v := nI 0) hx hb dL_compare_22 (by decide) ?_
    refine W.widen (k := 1) (n := 6) (by decide) (by decide) ?_
    exact rt_ni (mu := mL x0 lc tr tc sr sc o0) C0 rfl ⟨_, _, _, _, ⟨⟨_, rfl⟩, rfl, rfl, rfl⟩, ⟨_, _, _, _, hC1.kept (fun q _ hq => hk2 q (fun e => hno (by rw [← e]; exact hq)))⟩, ⟨_, ho2⟩, hno⟩ hS rfl dL_compare_23
  · skip
    refine tx_CV (As := [.int x, .int y, .int (bI zu), .int (bI zi)]) (rest := [.ref o0]) C0 hl hK hS hA hZ hE (t_xCompare l hnt g b0 s.heap x0 lc tr tc sr sc i3 i4 i5 i6 V n t hC x y zu zi hq) gL_compare_X2_compare rfl ⟨rfl, rfl⟩ (hC.1.recv hK) ⟨rfl, (show hd_ok yX2_compare 4 from ⟨by decide, by decide, by decide +kernel⟩)⟩ ⟨Nat.le_of_ble_eq_true rfl, Nat.le_of_ble_eq_true rfl⟩ rfl (Nat.le_of_ble_eq_true rfl) ⟨Nat.le_of_ble_eq_true rfl, Nat.le_of_ble_eq_true rfl⟩ dL_compare_8 [] ⟨0, 15, 18, 19⟩ [] (by rw [htab]; rfl) (fun z hz => nomatch hz) (by decide) (by decide) (hts (.classLink RL 19 nE1) (by decide +kernel)) (va_Nw.use rfl hE.1.1) (fun q1 H1 locs hzz hk1 hS => ?_)
    refine lv_astore (lv' := [(6, .ref q1), (0, .ref x0), (1, .int x), (2, .int y), (3, .int (bI zu)), (4, .int (bI zi)), (5, .ref o0)]) hx hb dL_compare_18 hl (by decide) rfl (fun ls hl => ?_)
    refine lv_iconst (v := nI 1) hx hb dL_compare_20 (by decide) ?_
    refine W.widen (k := 1) (n := 6) (by decide) (by decide) ?_
    exact rt_ni (mu := mL x0 lc tr tc sr sc o0) C0 rfl ⟨_, V, n, t, ⟨⟨_, rfl⟩, rfl, rfl, rfl⟩, hL.kept (fun q hq => hk1 q (hL.lt q hq))⟩ hS rfl dL_compare_21
abbrev rmL_digit : Room := { frames := 8, cells := 1, slots := 6, locals := 132 }
set_option maxHeartbeats 4000000 in
set_option maxRecDepth 100000 in
theorem s_digit (l : Launch) (hnt : l.stackTraces = false) (g : Gx) (b0 : Nat) (H0 : Heap) (x0 lc tr tc sr sc o0 : Nat) (V : Nat → Nat) (n : Nat) (t : Nat → Nat) (v0 : Int64) (hL : LQ g H0 x0 lc tr tc sr sc o0 V n t v0) (hmb : ∀ q : Nat, mL x0 lc tr tc sr sc o0 q → b0 ≤ q) (x y : Int32) : Met l yL_digit wsL_digit rmL_digit (va_Pc [.ref x0, .int x, .int y, .ref o0] (hX g b0 H0)) (nQ H0 (mL x0 lc tr tc sr sc o0) (zL g x0 lc tr tc sr sc o0 (fun r v2 V2 n2 t2 => (∃ k9 : Int32, r = some (.int k9)) ∧ V2 = V ∧ n2 = n ∧ t2 = t))) 1 6 (fun q => mL x0 lc tr tc sr sc o0 q ∨ H0.size ≤ q) := by
  refine cxw_met (own := RL) (cc := cL_digit) (maxL := 5) (hh := [(0, 11, 14, 19), (0, 11, 18, 29)]) (by decide) rfl rfl (Nat.le_of_ble_eq_true rfl) ?_
  intro p e s m below meth c ls C0 hB0 htab hl
  obtain ⟨⟨hH, hK, hZ⟩, hE⟩ := hB0
  obtain ⟨hx, hb, hr, hml, hown, hts, hlk⟩ := id C0
  subst hH
  have hS : va_S (fun q => mL x0 lc tr tc sr sc o0 q ∨ s.heap.size ≤ q) s.heap s.heap [] := va_S.rf
  have hA : ∀ q : Nat, s.heap.size ≤ q → (fun q => mL x0 lc tr tc sr sc o0 q ∨ s.heap.size ≤ q) q := fun q h => Or.inr h
  have h0Z := hZ.1
  have hAb : ∀ q : Nat, (fun q => mL x0 lc tr tc sr sc o0 q ∨ s.heap.size ≤ q) q → b0 ≤ q := fun q h => h.elim (hmb q) (fun h => Nat.le_trans h0Z h)
  have hmb1 : ∀ q : Nat, mC x0 lc tr tc sr sc q → b0 ≤ q := fun q h => hmb q (Or.inl h)
  obtain ⟨⟨i3, i4, i5, i6, hC⟩, ⟨w0, ho⟩, hno⟩ := id hL
  have hl : lv_has ls 5 [(0, .ref x0), (1, .int x), (2, .int y), (3, .ref o0)] := hl
  refine lv_aload_n hx hb dL_digit_0 rfl (lv_at hl 3 rfl) ?_
  refine lv_aload_n hx hb dL_digit_1 rfl (lv_at hl 0 rfl) ?_
  refine lv_iload_n hx hb dL_digit_2 rfl (lv_at hl 1 rfl) ?_
  refine lv_iload_n hx hb dL_digit_3 rfl (lv_at hl 2 rfl) ?_
  obtain ⟨-, ⟨f9, -, -, -, hn70, -⟩, -⟩ := id hC
  by_cases hq : nI 0 ≤ x ∧ x < nI n
  · skip
    obtain ⟨j, hj, rfl⟩ := at_of2 hn70 hq
    by_cases hq2 : nI 2 ≤ y ∧ y ≤ nI 36
    · skip
      obtain ⟨r9, hr9, rfl⟩ := rad_of hq2
      refine cn_V (As := [.int (nI j), .int (nI r9)]) (rest := [.ref o0]) C0 hl hK hS hA (fun q h => Or.inl (Or.inl h)) (c_xDigit l g s.heap x0 lc tr tc sr sc i3 i4 i5 i6 V n t hC j r9 hj hr9) gL_digit_X2_digit rfl ⟨rfl, rfl⟩ (hC.1.recv hK) ⟨rfl, (show hd_ok yX2_digit 2 from ⟨by decide, by decide, by decide +kernel⟩)⟩ ⟨Nat.le_of_ble_eq_true rfl, Nat.le_of_ble_eq_true rfl⟩ rfl (Nat.le_of_ble_eq_true rfl) ⟨Nat.zero_le _, Nat.zero_le _⟩ dL_digit_4 (fun r1 H1 locs hv hzz hk1 hS => ?_)
      obtain ⟨j3, j4, j5, j6, V2, n2, t2, ⟨⟨rv, rfl⟩, rfl, rfl, rfl⟩, hC1⟩ := hv
      have ho1 := ho.kept (hk1 _ ho.lt hno)
      refine lv_i2l (v := rv.toInt64) hx hb dL_digit_7 (rfl) ?_
      refine w_putN (ci := 4) (C := RX3) (T := TX3) (N := 2) (ty := .long) (v := .long rv.toInt64) hx hb hts (by decide +kernel) tyX3 tyX3_ok nmX3 hown hK hS ho1 (Or.inl (Or.inr rfl)) rfl 0 (by decide) (va_Nw.use rfl hZ.2.2.2.2.2.1.2.2.2.2.1) (fun _ h9 => h9) rfl (by decide +kernel) rfl rfl (by show 0 < 2; decide) dL_digit_8 (fun H2 locs ho2 hs2 hk2 hS => ?_)
      refine lv_goto (tgt := 22) hx hb dL_digit_11 (by decide) ?_
      refine lv_iconst (v := nI 0) hx hb dL_digit_22 (by decide) ?_
      refine W.widen (k := 1) (n := 6) (by decide) (by decide) ?_
      exact rt_ni (mu := mL x0 lc tr tc sr sc o0) C0 rfl ⟨_, _, _, _, ⟨⟨_, rfl⟩, rfl, rfl, rfl⟩, ⟨_, _, _, _, hC1.kept (fun q _ hq => hk2 q (fun e => hno (by rw [← e]; exact hq)))⟩, ⟨_, ho2⟩, hno⟩ hS rfl dL_digit_23
    · skip
      refine tx_CV (As := [.int (nI j), .int y]) (rest := [.ref o0]) C0 hl hK hS hA hZ hE (t_xDigit2 l hnt g b0 s.heap x0 lc tr tc sr sc i3 i4 i5 i6 V n t hC j hj y hq2) gL_digit_X2_digit rfl ⟨rfl, rfl⟩ (hC.1.recv hK) ⟨rfl, (show hd_ok yX2_digit 2 from ⟨by decide, by decide, by decide +kernel⟩)⟩ ⟨Nat.le_of_ble_eq_true rfl, Nat.le_of_ble_eq_true rfl⟩ rfl (Nat.le_of_ble_eq_true rfl) ⟨Nat.le_of_ble_eq_true rfl, Nat.le_of_ble_eq_true rfl⟩ dL_digit_4 [⟨0, 11, 14, 19⟩] ⟨0, 11, 18, 29⟩ [] (by rw [htab]; rfl) (fun z hz => (List.mem_cons.mp hz).elim (fun h => by rw [h]; exact Or.inr ⟨by decide, _, hts (.classLink RL 19 nE1) (by decide +kernel), hE.2.1⟩) (fun h => absurd h List.not_mem_nil)) (by decide) (by decide) (hts (.classLink RL 29 nE2) (by decide +kernel)) (va_Nw.use rfl hE.1.2.1) (fun q1 H1 locs hzz hk1 hS => ?_)
      refine lv_astore (lv' := [(4, .ref q1), (0, .ref x0), (1, .int (nI j)), (2, .int y), (3, .ref o0)]) hx hb dL_digit_18 hl (by decide) rfl (fun ls hl => ?_)
      refine lv_iconst (v := nI 2) hx hb dL_digit_20 (by decide) ?_
      refine W.widen (k := 1) (n := 6) (by decide) (by decide) ?_
      exact rt_ni (mu := mL x0 lc tr tc sr sc o0) C0 rfl ⟨_, V, n, t, ⟨⟨_, rfl⟩, rfl, rfl, rfl⟩, hL.kept (fun q hq => hk1 q (hL.lt q hq))⟩ hS rfl dL_digit_21
  · skip
    refine tx_CV (As := [.int x, .int y]) (rest := [.ref o0]) C0 hl hK hS hA hZ hE (t_xDigit1 l hnt g b0 s.heap x0 lc tr tc sr sc i3 i4 i5 i6 V n t hC x y hq) gL_digit_X2_digit rfl ⟨rfl, rfl⟩ (hC.1.recv hK) ⟨rfl, (show hd_ok yX2_digit 2 from ⟨by decide, by decide, by decide +kernel⟩)⟩ ⟨Nat.le_of_ble_eq_true rfl, Nat.le_of_ble_eq_true rfl⟩ rfl (Nat.le_of_ble_eq_true rfl) ⟨Nat.le_of_ble_eq_true rfl, Nat.le_of_ble_eq_true rfl⟩ dL_digit_4 [] ⟨0, 11, 14, 19⟩ [⟨0, 11, 18, 29⟩] (by rw [htab]; rfl) (fun z hz => nomatch hz) (by decide) (by decide) (hts (.classLink RL 19 nE1) (by decide +kernel)) (va_Nw.use rfl hE.1.1) (fun q1 H1 locs hzz hk1 hS => ?_)
    refine lv_astore (lv' := [(4, .ref q1), (0, .ref x0), (1, .int x), (2, .int y), (3, .ref o0)]) hx hb dL_digit_14 hl (by decide) rfl (fun ls hl => ?_)
    refine lv_iconst (v := nI 1) hx hb dL_digit_16 (by decide) ?_
    refine W.widen (k := 1) (n := 6) (by decide) (by decide) ?_
    exact rt_ni (mu := mL x0 lc tr tc sr sc o0) C0 rfl ⟨_, V, n, t, ⟨⟨_, rfl⟩, rfl, rfl, rfl⟩, hL.kept (fun q hq => hk1 q (hL.lt q hq))⟩ hS rfl dL_digit_17
abbrev rmL_bench : Room := { frames := 8, cells := 1, slots := 6, locals := 132 }
set_option maxHeartbeats 4000000 in
set_option maxRecDepth 100000 in
theorem s_bench (l : Launch) (hnt : l.stackTraces = false) (g : Gx) (b0 : Nat) (H0 : Heap) (x0 lc tr tc sr sc o0 : Nat) (V : Nat → Nat) (n : Nat) (t : Nat → Nat) (v0 : Int64) (hL : LQ g H0 x0 lc tr tc sr sc o0 V n t v0) (hmb : ∀ q : Nat, mL x0 lc tr tc sr sc o0 q → b0 ≤ q) (y : Int32) : Met l yL_bench wsL_bench rmL_bench (va_Pc [.ref x0, .int y, .ref o0] (hX g b0 H0)) (nQ H0 (mL x0 lc tr tc sr sc o0) (zL g x0 lc tr tc sr sc o0 (fun r v2 V2 n2 t2 => (∃ k9 : Int32, r = some (.int k9)) ∧ V2 = V ∧ n2 = n ∧ t2 = t))) 1 6 (fun q => mL x0 lc tr tc sr sc o0 q ∨ H0.size ≤ q) := by
  refine cxw_met (own := RL) (cc := cL_bench) (maxL := 4) (hh := [(0, 10, 13, 29)]) (by decide) rfl rfl (Nat.le_of_ble_eq_true rfl) ?_
  intro p e s m below meth c ls C0 hB0 htab hl
  obtain ⟨⟨hH, hK, hZ⟩, hE⟩ := hB0
  obtain ⟨hx, hb, hr, hml, hown, hts, hlk⟩ := id C0
  subst hH
  have hS : va_S (fun q => mL x0 lc tr tc sr sc o0 q ∨ s.heap.size ≤ q) s.heap s.heap [] := va_S.rf
  have hA : ∀ q : Nat, s.heap.size ≤ q → (fun q => mL x0 lc tr tc sr sc o0 q ∨ s.heap.size ≤ q) q := fun q h => Or.inr h
  have h0Z := hZ.1
  have hAb : ∀ q : Nat, (fun q => mL x0 lc tr tc sr sc o0 q ∨ s.heap.size ≤ q) q → b0 ≤ q := fun q h => h.elim (hmb q) (fun h => Nat.le_trans h0Z h)
  have hmb1 : ∀ q : Nat, mC x0 lc tr tc sr sc q → b0 ≤ q := fun q h => hmb q (Or.inl h)
  obtain ⟨⟨i3, i4, i5, i6, hC⟩, ⟨w0, ho⟩, hno⟩ := id hL
  have hl : lv_has ls 4 [(0, .ref x0), (1, .int y), (2, .ref o0)] := hl
  refine lv_aload_n hx hb dL_bench_0 rfl (lv_at hl 2 rfl) ?_
  refine lv_aload_n hx hb dL_bench_1 rfl (lv_at hl 0 rfl) ?_
  refine lv_iload_n hx hb dL_bench_2 rfl (lv_at hl 1 rfl) ?_
  by_cases hq : nI 0 ≤ y ∧ y ≤ nI 4
  · skip
    obtain ⟨d9, hd9, rfl⟩ := ben_of hq
    refine cn_V (As := [.int (nI d9)]) (rest := [.ref o0]) C0 hl hK hS hA (fun q h => Or.inl (Or.inl h)) (c_xBench l g s.heap x0 lc tr tc sr sc i3 i4 i5 i6 V n t hC d9 hd9) gL_bench_X2_bench rfl ⟨rfl, rfl⟩ (hC.1.recv hK) ⟨rfl, (show hd_ok yX2_bench 1 from ⟨by decide, by decide, by decide +kernel⟩)⟩ ⟨Nat.le_of_ble_eq_true rfl, Nat.le_of_ble_eq_true rfl⟩ rfl (Nat.le_of_ble_eq_true rfl) ⟨Nat.zero_le _, Nat.zero_le _⟩ dL_bench_3 (fun r1 H1 locs hv hzz hk1 hS => ?_)
    obtain ⟨j3, j4, j5, j6, V2, n2, t2, ⟨⟨rv, rfl⟩, rfl, rfl, rfl⟩, hC1⟩ := hv
    have ho1 := ho.kept (hk1 _ ho.lt hno)
    refine lv_i2l (v := rv.toInt64) hx hb dL_bench_6 (rfl) ?_
    refine w_putN (ci := 4) (C := RX3) (T := TX3) (N := 2) (ty := .long) (v := .long rv.toInt64) hx hb hts (by decide +kernel) tyX3 tyX3_ok nmX3 hown hK hS ho1 (Or.inl (Or.inr rfl)) rfl 0 (by decide) (va_Nw.use rfl hZ.2.2.2.2.2.1.2.2.2.2.1) (fun _ h9 => h9) rfl (by decide +kernel) rfl rfl (by show 0 < 2; decide) dL_bench_7 (fun H2 locs ho2 hs2 hk2 hS => ?_)
    refine lv_goto (tgt := 16) hx hb dL_bench_10 (by decide) ?_
    refine lv_iconst (v := nI 0) hx hb dL_bench_16 (by decide) ?_
    refine W.widen (k := 1) (n := 6) (by decide) (by decide) ?_
    exact rt_ni (mu := mL x0 lc tr tc sr sc o0) C0 rfl ⟨_, _, _, _, ⟨⟨_, rfl⟩, rfl, rfl, rfl⟩, ⟨_, _, _, _, hC1.kept (fun q _ hq => hk2 q (fun e => hno (by rw [← e]; exact hq)))⟩, ⟨_, ho2⟩, hno⟩ hS rfl dL_bench_17
  · skip
    refine tx_CV (As := [.int y]) (rest := [.ref o0]) C0 hl hK hS hA hZ hE (t_xBench l hnt g b0 s.heap x0 lc tr tc sr sc i3 i4 i5 i6 V n t hC y hq) gL_bench_X2_bench rfl ⟨rfl, rfl⟩ (hC.1.recv hK) ⟨rfl, (show hd_ok yX2_bench 1 from ⟨by decide, by decide, by decide +kernel⟩)⟩ ⟨Nat.le_of_ble_eq_true rfl, Nat.le_of_ble_eq_true rfl⟩ rfl (Nat.le_of_ble_eq_true rfl) ⟨Nat.le_of_ble_eq_true rfl, Nat.le_of_ble_eq_true rfl⟩ dL_bench_3 [] ⟨0, 10, 13, 29⟩ [] (by rw [htab]; rfl) (fun z hz => nomatch hz) (by decide) (by decide) (hts (.classLink RL 29 nE2) (by decide +kernel)) (va_Nw.use rfl hE.1.2.1) (fun q1 H1 locs hzz hk1 hS => ?_)
    refine lv_astore_n (lv' := [(3, .ref q1), (0, .ref x0), (1, .int y), (2, .ref o0)]) hx hb dL_bench_13 rfl hl (by decide) rfl (fun ls hl => ?_)
    refine lv_iconst (v := nI 1) hx hb dL_bench_14 (by decide) ?_
    refine W.widen (k := 1) (n := 6) (by decide) (by decide) ?_
    exact rt_ni (mu := mL x0 lc tr tc sr sc o0) C0 rfl ⟨_, V, n, t, ⟨⟨_, rfl⟩, rfl, rfl, rfl⟩, hL.kept (fun q hq => hk1 q (hL.lt q hq))⟩ hS rfl dL_bench_15
abbrev rmL_isNumber : Room := { frames := 9, cells := 1, slots := 6, locals := 154 }
set_option maxHeartbeats 4000000 in
set_option maxRecDepth 100000 in
theorem s_isNo (l : Launch) (hnt : l.stackTraces = false) (g : Gx) (b0 : Nat) (H0 : Heap) (x0 lc tr tc sr sc o0 : Nat) (V : Nat → Nat) (n : Nat) (t : Nat → Nat) (v0 : Int64) (hL : LQ g H0 x0 lc tr tc sr sc o0 V n t v0) (hmb : ∀ q : Nat, mL x0 lc tr tc sr sc o0 q → b0 ≤ q) (y kd : Int32) : Met l yL_isNumber wsL_isNumber rmL_isNumber (va_Pc [.ref x0, .int y, .int kd, .ref o0] (hX g b0 H0)) (nQ H0 (mL x0 lc tr tc sr sc o0) (zL g x0 lc tr tc sr sc o0 (fun r v2 V2 n2 t2 => (∃ k9 : Int32, r = some (.int k9)) ∧ V2 = V ∧ n2 = n ∧ t2 = t))) 1 6 (fun q => mL x0 lc tr tc sr sc o0 q ∨ H0.size ≤ q) := by
  refine cxw_met (own := RL) (cc := cL_isNumber) (maxL := 5) (hh := [(0, 18, 21, 29)]) (by decide) rfl rfl (Nat.le_of_ble_eq_true rfl) ?_
  intro p e s m below meth c ls C0 hB0 htab hl
  obtain ⟨⟨hH, hK, hZ⟩, hE⟩ := hB0
  obtain ⟨hx, hb, hr, hml, hown, hts, hlk⟩ := id C0
  subst hH
  have hS : va_S (fun q => mL x0 lc tr tc sr sc o0 q ∨ s.heap.size ≤ q) s.heap s.heap [] := va_S.rf
  have hA : ∀ q : Nat, s.heap.size ≤ q → (fun q => mL x0 lc tr tc sr sc o0 q ∨ s.heap.size ≤ q) q := fun q h => Or.inr h
  have h0Z := hZ.1
  have hAb : ∀ q : Nat, (fun q => mL x0 lc tr tc sr sc o0 q ∨ s.heap.size ≤ q) q → b0 ≤ q := fun q h => h.elim (hmb q) (fun h => Nat.le_trans h0Z h)
  have hmb1 : ∀ q : Nat, mC x0 lc tr tc sr sc q → b0 ≤ q := fun q h => hmb q (Or.inl h)
  obtain ⟨⟨i3, i4, i5, i6, hC⟩, ⟨w0, ho⟩, hno⟩ := id hL
  have hl : lv_has ls 5 [(0, .ref x0), (1, .int y), (2, .int kd), (3, .ref o0)] := hl
  refine lv_aload_n hx hb dL_isNumber_0 rfl (lv_at hl 3 rfl) ?_
  refine lv_aload_n hx hb dL_isNumber_1 rfl (lv_at hl 0 rfl) ?_
  refine lv_iload_n hx hb dL_isNumber_2 rfl (lv_at hl 1 rfl) ?_
  refine lv_iload_n hx hb dL_isNumber_3 rfl (lv_at hl 2 rfl) ?_
  by_cases hq : rkOK y kd
  · skip
    obtain ⟨r9, d9, hr9, hd9, rfl, rfl⟩ := rkOK_of hq
    refine jn_V (As := [.int (nI r9), .int (nI d9)]) (rest := [.ref o0]) C0 hl hK hS hA (fun q h => Or.inl (Or.inl h)) (zat hZ hS hAb) (c_xIsNo l g b0 s.heap x0 lc tr tc sr sc i3 i4 i5 i6 V n t hC hmb1 r9 d9 hr9 hd9) gL_isNumber_X2_isNumber rfl ⟨rfl, rfl⟩ (hC.1.recv hK) ⟨rfl, (show hd_ok yX2_isNumber 2 from ⟨by decide, by decide, by decide +kernel⟩)⟩ ⟨Nat.le_of_ble_eq_true rfl, Nat.le_of_ble_eq_true rfl⟩ rfl (Nat.le_of_ble_eq_true rfl) ⟨Nat.zero_le _, Nat.zero_le _⟩ dL_isNumber_4 (fun r1 H1 locs hv hzz hk1 hS => ?_)
    obtain ⟨j3, j4, j5, j6, V2, n2, t2, ⟨⟨rv, rfl⟩, rfl, rfl, rfl⟩, hC1⟩ := hv
    have ho1 := ho.kept (hk1 _ ho.lt hno)
    refine lw_zv hx hb dL_isNumber_7 dL_isNumber_10 dL_isNumber_11 dL_isNumber_14 ?_
    refine w_putN (ci := 4) (C := RX3) (T := TX3) (N := 2) (ty := .long) (v := .long (lB (decide (rv ≠ 0)))) hx hb hts (by decide +kernel) tyX3 tyX3_ok nmX3 hown hK hS ho1 (Or.inl (Or.inr rfl)) rfl 0 (by decide) (va_Nw.use rfl hZ.2.2.2.2.2.1.2.2.2.2.1) (fun _ h9 => h9) rfl (by decide +kernel) rfl rfl (by show 0 < 2; decide) dL_isNumber_15 (fun H2 locs ho2 hs2 hk2 hS => ?_)
    refine lv_goto (tgt := 25) hx hb dL_isNumber_18 (by decide) ?_
    refine lv_iconst (v := nI 0) hx hb dL_isNumber_25 (by decide) ?_
    refine W.widen (k := 1) (n := 6) (by decide) (by decide) ?_
    exact rt_ni (mu := mL x0 lc tr tc sr sc o0) C0 rfl ⟨_, _, _, _, ⟨⟨_, rfl⟩, rfl, rfl, rfl⟩, ⟨_, _, _, _, hC1.kept (fun q _ hq => hk2 q (fun e => hno (by rw [← e]; exact hq)))⟩, ⟨_, ho2⟩, hno⟩ hS rfl dL_isNumber_26
  · skip
    refine tx_CV (As := [.int y, .int kd]) (rest := [.ref o0]) C0 hl hK hS hA hZ hE (t_xIsNo l hnt g b0 s.heap x0 lc tr tc sr sc i3 i4 i5 i6 V n t hC y kd hq) gL_isNumber_X2_isNumber rfl ⟨rfl, rfl⟩ (hC.1.recv hK) ⟨rfl, (show hd_ok yX2_isNumber 2 from ⟨by decide, by decide, by decide +kernel⟩)⟩ ⟨Nat.le_of_ble_eq_true rfl, Nat.le_of_ble_eq_true rfl⟩ rfl (Nat.le_of_ble_eq_true rfl) ⟨Nat.le_of_ble_eq_true rfl, Nat.le_of_ble_eq_true rfl⟩ dL_isNumber_4 [] ⟨0, 18, 21, 29⟩ [] (by rw [htab]; rfl) (fun z hz => nomatch hz) (by decide) (by decide) (hts (.classLink RL 29 nE2) (by decide +kernel)) (va_Nw.use rfl hE.1.2.1) (fun q1 H1 locs hzz hk1 hS => ?_)
    refine lv_astore (lv' := [(4, .ref q1), (0, .ref x0), (1, .int y), (2, .int kd), (3, .ref o0)]) hx hb dL_isNumber_21 hl (by decide) rfl (fun ls hl => ?_)
    refine lv_iconst (v := nI 1) hx hb dL_isNumber_23 (by decide) ?_
    refine W.widen (k := 1) (n := 6) (by decide) (by decide) ?_
    exact rt_ni (mu := mL x0 lc tr tc sr sc o0) C0 rfl ⟨_, V, n, t, ⟨⟨_, rfl⟩, rfl, rfl, rfl⟩, hL.kept (fun q hq => hk1 q (hL.lt q hq))⟩ hS rfl dL_isNumber_24
abbrev rmL_would : Room := { frames := 9, cells := 1, slots := 6, locals := 157 }
set_option maxHeartbeats 4000000 in
set_option maxRecDepth 100000 in
theorem s_would (l : Launch) (hnt : l.stackTraces = false) (g : Gx) (b0 : Nat) (H0 : Heap) (x0 lc tr tc sr sc o0 : Nat) (V : Nat → Nat) (n : Nat) (t : Nat → Nat) (v0 : Int64) (hL : LQ g H0 x0 lc tr tc sr sc o0 V n t v0) (hmb : ∀ q : Nat, mL x0 lc tr tc sr sc o0 q → b0 ≤ q) (y kd : Int32) (zh : Bool) : Met l yL_would wsL_would rmL_would (va_Pc [.ref x0, .int y, .int kd, .int (bI zh), .ref o0] (hX g b0 H0)) (nQ H0 (mL x0 lc tr tc sr sc o0) (zL g x0 lc tr tc sr sc o0 (fun r v2 V2 n2 t2 => (∃ k9 : Int32, r = some (.int k9)) ∧ V2 = V ∧ n2 = n ∧ t2 = t))) 1 6 (fun q => mL x0 lc tr tc sr sc o0 q ∨ H0.size ≤ q) := by
  refine cxw_met (own := RL) (cc := cL_would) (maxL := 6) (hh := [(0, 13, 16, 29)]) (by decide) rfl rfl (Nat.le_of_ble_eq_true rfl) ?_
  intro p e s m below meth c ls C0 hB0 htab hl
  obtain ⟨⟨hH, hK, hZ⟩, hE⟩ := hB0
  obtain ⟨hx, hb, hr, hml, hown, hts, hlk⟩ := id C0
  subst hH
  have hS : va_S (fun q => mL x0 lc tr tc sr sc o0 q ∨ s.heap.size ≤ q) s.heap s.heap [] := va_S.rf
  have hA : ∀ q : Nat, s.heap.size ≤ q → (fun q => mL x0 lc tr tc sr sc o0 q ∨ s.heap.size ≤ q) q := fun q h => Or.inr h
  have h0Z := hZ.1
  have hAb : ∀ q : Nat, (fun q => mL x0 lc tr tc sr sc o0 q ∨ s.heap.size ≤ q) q → b0 ≤ q := fun q h => h.elim (hmb q) (fun h => Nat.le_trans h0Z h)
  have hmb1 : ∀ q : Nat, mC x0 lc tr tc sr sc q → b0 ≤ q := fun q h => hmb q (Or.inl h)
  obtain ⟨⟨i3, i4, i5, i6, hC⟩, ⟨w0, ho⟩, hno⟩ := id hL
  have hl : lv_has ls 6 [(0, .ref x0), (1, .int y), (2, .int kd), (3, .int (bI zh)), (4, .ref o0)] := hl
  refine lv_aload hx hb dL_would_0 (lv_at hl 4 rfl) ?_
  refine lv_aload_n hx hb dL_would_2 rfl (lv_at hl 0 rfl) ?_
  refine lv_iload_n hx hb dL_would_3 rfl (lv_at hl 1 rfl) ?_
  refine lv_iload_n hx hb dL_would_4 rfl (lv_at hl 2 rfl) ?_
  refine lv_iload_n hx hb dL_would_5 rfl (lv_at hl 3 rfl) ?_
  by_cases hq : rkOK y kd
  · skip
    obtain ⟨r9, d9, hr9, hd9, rfl, rfl⟩ := rkOK_of hq
    refine jn_V (As := [.int (nI r9), .int (nI d9), .int (bI zh)]) (rest := [.ref o0]) C0 hl hK hS hA (fun q h => Or.inl (Or.inl h)) (zat hZ hS hAb) (c_xWould l g b0 s.heap x0 lc tr tc sr sc i3 i4 i5 i6 V n t hC hmb1 r9 d9 hr9 hd9 zh) gL_would_X2_would rfl ⟨rfl, rfl⟩ (hC.1.recv hK) ⟨rfl, (show hd_ok yX2_would 3 from ⟨by decide, by decide, by decide +kernel⟩)⟩ ⟨Nat.le_of_ble_eq_true rfl, Nat.le_of_ble_eq_true rfl⟩ rfl (Nat.le_of_ble_eq_true rfl) ⟨Nat.zero_le _, Nat.zero_le _⟩ dL_would_6 (fun r1 H1 locs hv hzz hk1 hS => ?_)
    obtain ⟨j3, j4, j5, j6, V2, n2, t2, ⟨⟨rv, rfl⟩, rfl, rfl, rfl⟩, hC1⟩ := hv
    have ho1 := ho.kept (hk1 _ ho.lt hno)
    refine lv_i2l (v := rv.toInt64) hx hb dL_would_9 (rfl) ?_
    refine w_putN (ci := 4) (C := RX3) (T := TX3) (N := 2) (ty := .long) (v := .long rv.toInt64) hx hb hts (by decide +kernel) tyX3 tyX3_ok nmX3 hown hK hS ho1 (Or.inl (Or.inr rfl)) rfl 0 (by decide) (va_Nw.use rfl hZ.2.2.2.2.2.1.2.2.2.2.1) (fun _ h9 => h9) rfl (by decide +kernel) rfl rfl (by show 0 < 2; decide) dL_would_10 (fun H2 locs ho2 hs2 hk2 hS => ?_)
    refine lv_goto (tgt := 20) hx hb dL_would_13 (by decide) ?_
    refine lv_iconst (v := nI 0) hx hb dL_would_20 (by decide) ?_
    refine W.widen (k := 1) (n := 6) (by decide) (by decide) ?_
    exact rt_ni (mu := mL x0 lc tr tc sr sc o0) C0 rfl ⟨_, _, _, _, ⟨⟨_, rfl⟩, rfl, rfl, rfl⟩, ⟨_, _, _, _, hC1.kept (fun q _ hq => hk2 q (fun e => hno (by rw [← e]; exact hq)))⟩, ⟨_, ho2⟩, hno⟩ hS rfl dL_would_21
  · skip
    refine tx_CV (As := [.int y, .int kd, .int (bI zh)]) (rest := [.ref o0]) C0 hl hK hS hA hZ hE (t_xWould l hnt g b0 s.heap x0 lc tr tc sr sc i3 i4 i5 i6 V n t hC y kd zh hq) gL_would_X2_would rfl ⟨rfl, rfl⟩ (hC.1.recv hK) ⟨rfl, (show hd_ok yX2_would 3 from ⟨by decide, by decide, by decide +kernel⟩)⟩ ⟨Nat.le_of_ble_eq_true rfl, Nat.le_of_ble_eq_true rfl⟩ rfl (Nat.le_of_ble_eq_true rfl) ⟨Nat.le_of_ble_eq_true rfl, Nat.le_of_ble_eq_true rfl⟩ dL_would_6 [] ⟨0, 13, 16, 29⟩ [] (by rw [htab]; rfl) (fun z hz => nomatch hz) (by decide) (by decide) (hts (.classLink RL 29 nE2) (by decide +kernel)) (va_Nw.use rfl hE.1.2.1) (fun q1 H1 locs hzz hk1 hS => ?_)
    refine lv_astore (lv' := [(5, .ref q1), (0, .ref x0), (1, .int y), (2, .int kd), (3, .int (bI zh)), (4, .ref o0)]) hx hb dL_would_16 hl (by decide) rfl (fun ls hl => ?_)
    refine lv_iconst (v := nI 1) hx hb dL_would_18 (by decide) ?_
    refine W.widen (k := 1) (n := 6) (by decide) (by decide) ?_
    exact rt_ni (mu := mL x0 lc tr tc sr sc o0) C0 rfl ⟨_, V, n, t, ⟨⟨_, rfl⟩, rfl, rfl, rfl⟩, hL.kept (fun q hq => hk1 q (hL.lt q hq))⟩ hS rfl dL_would_19
abbrev rmL_same : Room := { frames := 9, cells := 1, slots := 6, locals := 158 }
set_option maxHeartbeats 4000000 in
set_option maxRecDepth 100000 in
theorem s_same (l : Launch) (hnt : l.stackTraces = false) (g : Gx) (b0 : Nat) (H0 : Heap) (x0 lc tr tc sr sc o0 : Nat) (V : Nat → Nat) (n : Nat) (t : Nat → Nat) (v0 : Int64) (hL : LQ g H0 x0 lc tr tc sr sc o0 V n t v0) (hmb : ∀ q : Nat, mL x0 lc tr tc sr sc o0 q → b0 ≤ q) (y kd : Int32) : Met l yL_same wsL_same rmL_same (va_Pc [.ref x0, .int y, .int kd, .ref o0] (hX g b0 H0)) (nQ H0 (mL x0 lc tr tc sr sc o0) (zL g x0 lc tr tc sr sc o0 (fun r v2 V2 n2 t2 => (∃ k9 : Int32, r = some (.int k9)) ∧ V2 = V ∧ n2 = n ∧ t2 = t))) 1 6 (fun q => mL x0 lc tr tc sr sc o0 q ∨ H0.size ≤ q) := by
  refine cxw_met (own := RL) (cc := cL_same) (maxL := 5) (hh := [(0, 11, 14, 29)]) (by decide) rfl rfl (Nat.le_of_ble_eq_true rfl) ?_
  intro p e s m below meth c ls C0 hB0 htab hl
  obtain ⟨⟨hH, hK, hZ⟩, hE⟩ := hB0
  obtain ⟨hx, hb, hr, hml, hown, hts, hlk⟩ := id C0
  subst hH
  have hS : va_S (fun q => mL x0 lc tr tc sr sc o0 q ∨ s.heap.size ≤ q) s.heap s.heap [] := va_S.rf
  have hA : ∀ q : Nat, s.heap.size ≤ q → (fun q => mL x0 lc tr tc sr sc o0 q ∨ s.heap.size ≤ q) q := fun q h => Or.inr h
  have h0Z := hZ.1
  have hAb : ∀ q : Nat, (fun q => mL x0 lc tr tc sr sc o0 q ∨ s.heap.size ≤ q) q → b0 ≤ q := fun q h => h.elim (hmb q) (fun h => Nat.le_trans h0Z h)
  have hmb1 : ∀ q : Nat, mC x0 lc tr tc sr sc q → b0 ≤ q := fun q h => hmb q (Or.inl h)
  obtain ⟨⟨i3, i4, i5, i6, hC⟩, ⟨w0, ho⟩, hno⟩ := id hL
  have hl : lv_has ls 5 [(0, .ref x0), (1, .int y), (2, .int kd), (3, .ref o0)] := hl
  refine lv_aload_n hx hb dL_same_0 rfl (lv_at hl 3 rfl) ?_
  refine lv_aload_n hx hb dL_same_1 rfl (lv_at hl 0 rfl) ?_
  refine lv_iload_n hx hb dL_same_2 rfl (lv_at hl 1 rfl) ?_
  refine lv_iload_n hx hb dL_same_3 rfl (lv_at hl 2 rfl) ?_
  by_cases hq : rkOK y kd
  · skip
    obtain ⟨r9, d9, hr9, hd9, rfl, rfl⟩ := rkOK_of hq
    refine jn_V (As := [.int (nI r9), .int (nI d9)]) (rest := [.ref o0]) C0 hl hK hS hA (fun q h => Or.inl (Or.inl h)) (zat hZ hS hAb) (c_xSame l g b0 s.heap x0 lc tr tc sr sc i3 i4 i5 i6 V n t hC hmb1 r9 d9 hr9 hd9) gL_same_X2_same rfl ⟨rfl, rfl⟩ (hC.1.recv hK) ⟨rfl, (show hd_ok yX2_same 2 from ⟨by decide, by decide, by decide +kernel⟩)⟩ ⟨Nat.le_of_ble_eq_true rfl, Nat.le_of_ble_eq_true rfl⟩ rfl (Nat.le_of_ble_eq_true rfl) ⟨Nat.zero_le _, Nat.zero_le _⟩ dL_same_4 (fun r1 H1 locs hv hzz hk1 hS => ?_)
    obtain ⟨j3, j4, j5, j6, V2, n2, t2, ⟨⟨rv, rfl⟩, rfl, rfl, rfl⟩, hC1⟩ := hv
    have ho1 := ho.kept (hk1 _ ho.lt hno)
    refine lv_i2l (v := rv.toInt64) hx hb dL_same_7 (rfl) ?_
    refine w_putN (ci := 4) (C := RX3) (T := TX3) (N := 2) (ty := .long) (v := .long rv.toInt64) hx hb hts (by decide +kernel) tyX3 tyX3_ok nmX3 hown hK hS ho1 (Or.inl (Or.inr rfl)) rfl 0 (by decide) (va_Nw.use rfl hZ.2.2.2.2.2.1.2.2.2.2.1) (fun _ h9 => h9) rfl (by decide +kernel) rfl rfl (by show 0 < 2; decide) dL_same_8 (fun H2 locs ho2 hs2 hk2 hS => ?_)
    refine lv_goto (tgt := 18) hx hb dL_same_11 (by decide) ?_
    refine lv_iconst (v := nI 0) hx hb dL_same_18 (by decide) ?_
    refine W.widen (k := 1) (n := 6) (by decide) (by decide) ?_
    exact rt_ni (mu := mL x0 lc tr tc sr sc o0) C0 rfl ⟨_, _, _, _, ⟨⟨_, rfl⟩, rfl, rfl, rfl⟩, ⟨_, _, _, _, hC1.kept (fun q _ hq => hk2 q (fun e => hno (by rw [← e]; exact hq)))⟩, ⟨_, ho2⟩, hno⟩ hS rfl dL_same_19
  · skip
    refine tx_CV (As := [.int y, .int kd]) (rest := [.ref o0]) C0 hl hK hS hA hZ hE (t_xSame l hnt g b0 s.heap x0 lc tr tc sr sc i3 i4 i5 i6 V n t hC y kd hq) gL_same_X2_same rfl ⟨rfl, rfl⟩ (hC.1.recv hK) ⟨rfl, (show hd_ok yX2_same 2 from ⟨by decide, by decide, by decide +kernel⟩)⟩ ⟨Nat.le_of_ble_eq_true rfl, Nat.le_of_ble_eq_true rfl⟩ rfl (Nat.le_of_ble_eq_true rfl) ⟨Nat.le_of_ble_eq_true rfl, Nat.le_of_ble_eq_true rfl⟩ dL_same_4 [] ⟨0, 11, 14, 29⟩ [] (by rw [htab]; rfl) (fun z hz => nomatch hz) (by decide) (by decide) (hts (.classLink RL 29 nE2) (by decide +kernel)) (va_Nw.use rfl hE.1.2.1) (fun q1 H1 locs hzz hk1 hS => ?_)
    refine lv_astore (lv' := [(4, .ref q1), (0, .ref x0), (1, .int y), (2, .int kd), (3, .ref o0)]) hx hb dL_same_14 hl (by decide) rfl (fun ls hl => ?_)
    refine lv_iconst (v := nI 1) hx hb dL_same_16 (by decide) ?_
    refine W.widen (k := 1) (n := 6) (by decide) (by decide) ?_
    exact rt_ni (mu := mL x0 lc tr tc sr sc o0) C0 rfl ⟨_, V, n, t, ⟨⟨_, rfl⟩, rfl, rfl, rfl⟩, hL.kept (fun q hq => hk1 q (hL.lt q hq))⟩ hS rfl dL_same_17
end M83

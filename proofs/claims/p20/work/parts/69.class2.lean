-- THE CLASS: dividing, comparing, what must be so
theorem le_c (k m : Nat) (h : m < 65536 ^ 4) : m = m % 65536 ^ 4 := (Nat.mod_eq_of_lt h).symm
section M69
variable {p : Program} {l : Launch} {e : Env} {s : State} {m : MethodId} {args : Array Value} {below : List Frame} {meth : Method} {c : Code} {H H0 : Heap} {locs : List Loc} {cells slots : Nat} {Q : State → Prop} {A : Nat → Prop} {g : Gx} {b0 : Nat}
abbrev rmX2_divide : Room := { frames := 2, cells := 0, slots := 0, locals := 48 }
set_option maxHeartbeats 4000000 in
set_option maxRecDepth 100000 in
theorem c_xDivide (l : Launch) (g : Gx) (H0 : Heap) (x0 lc tr tc sr sc : Nat) (i3 i4 i5 i6 : Int32) (V : Nat → Nat) (n : Nat) (t : Nat → Nat) (hL : CL g H0 x0 lc tr tc sr sc i3 i4 i5 i6 V n t) (i j : Nat) (zi : Bool) (hi : i < 8) (hj : j < 8) (hnz : V j % 65536 ^ nP zi ≠ 0) : Met l yX2_divide wsX2_divide rmX2_divide (va_Pc [.ref x0, .int (nI i), .int (nI j), .int (bI zi)] (hB g H0)) (nQ H0 (mC x0 lc tr tc sr sc) (zC g x0 lc tr tc sr sc (fun r V2 n2 t2 => (∃ rv : Int32, r = some (.int rv)) ∧ n2 = n ∧ t2 = t ∧ V2 = va_up V i (wideN (nP zi) ((V i % 65536 ^ nP zi) / (V j % 65536 ^ nP zi)))))) 0 0 (fun q => (mC x0 lc tr tc sr sc) q ∨ H0.size ≤ q) := by
  refine cx_met (own := RX2) (cc := cX2_divide) (maxL := 10) (by decide) rfl rfl (Nat.le_of_ble_eq_true rfl) ?_
  intro p e s m below meth c ls C0 hB0 hnm hl
  obtain ⟨hH, hK⟩ := hB0
  obtain ⟨hx, hb, hr, hml, hown, hts, hlk⟩ := id C0
  subst hH
  have hS : va_S (fun q => (mC x0 lc tr tc sr sc) q ∨ s.heap.size ≤ q) s.heap s.heap [] := va_S.rf
  have hA : ∀ q : Nat, s.heap.size ≤ q → (fun q => (mC x0 lc tr tc sr sc) q ∨ s.heap.size ≤ q) q := fun q h => Or.inr h
  have hl : lv_has ls 10 [(0, .ref x0), (1, .int (nI i)), (2, .int (nI j)), (3, .int (bI zi))] := hl
  obtain ⟨hC, hR, hSp, hap⟩ := id hL
  obtain ⟨hf, hfl, hlc, ⟨f, hg9, hfv⟩, hV, hxl⟩ := id hC
  have hM9 : 0 < 65536 ^ nP zi := Nat.pow_pos (by decide)
  have hN9 : V i % 65536 ^ nP zi < 65536 ^ nP zi := Nat.mod_lt _ hM9
  have hD9 : V j % 65536 ^ nP zi < 65536 ^ nP zi := Nat.mod_lt _ hM9
  have hM4 : 65536 ^ nP zi ≤ 2 ^ 64 := by cases zi <;> decide
  have hq0 : (V i % 65536 ^ nP zi) / (V j % 65536 ^ nP zi) * (V j % 65536 ^ nP zi) ≤ V i % 65536 ^ nP zi := Nat.div_mul_le_self _ _
  have hq1 : (V i % 65536 ^ nP zi) / (V j % 65536 ^ nP zi) ≤ V i % 65536 ^ nP zi := Nat.div_le_self _ _
  have hem : V i % 65536 ^ nP zi - (V i % 65536 ^ nP zi) / (V j % 65536 ^ nP zi) * (V j % 65536 ^ nP zi) = (V i % 65536 ^ nP zi) % (V j % 65536 ^ nP zi) := by have := Nat.div_add_mod (V i % 65536 ^ nP zi) (V j % 65536 ^ nP zi); rw [Nat.mul_comm] at this; omega
  have hr9 : (V i % 65536 ^ nP zi) % (V j % 65536 ^ nP zi) ≤ V i % 65536 ^ nP zi := Nat.mod_le _ _
  have hw9 : wideN (nP zi) ((V i % 65536 ^ nP zi) / (V j % 65536 ^ nP zi)) < 65536 ^ 4 := wideN_lt (nP_or _) (by omega)
  have hs9 : wideN (nP zi) ((V i % 65536 ^ nP zi) / (V j % 65536 ^ nP zi) % 65536 ^ nP zi) = wideN (nP zi) ((V i % 65536 ^ nP zi) / (V j % 65536 ^ nP zi)) := congrArg _ (Nat.mod_eq_of_lt (by omega))
  refine lv_iload_n hx hb dX2_divide_0 rfl (lv_at hl 1 rfl) ?_
  refine cp_S (As := [.int (nI i)]) (rest := []) C0 hl hK hS hA (c_ckCell l g s.heap i (by assumption)) gX2_divide_X2_checkCell rfl ⟨rfl, rfl⟩ (show hd_ok yX2_checkCell 1 from ⟨by decide, by decide, by decide +kernel⟩) ⟨Nat.le_of_ble_eq_true rfl, Nat.le_of_ble_eq_true rfl⟩ rfl (Nat.le_of_ble_eq_true rfl) ⟨Nat.zero_le _, Nat.zero_le _⟩ dX2_divide_1 (fun locs hS => ?_)
  refine lv_iload_n hx hb dX2_divide_4 rfl (lv_at hl 2 rfl) ?_
  refine cp_S (As := [.int (nI j)]) (rest := []) C0 hl hK hS hA (c_ckCell l g s.heap j (by assumption)) gX2_divide_X2_checkCell rfl ⟨rfl, rfl⟩ (show hd_ok yX2_checkCell 1 from ⟨by decide, by decide, by decide +kernel⟩) ⟨Nat.le_of_ble_eq_true rfl, Nat.le_of_ble_eq_true rfl⟩ rfl (Nat.le_of_ble_eq_true rfl) ⟨Nat.zero_le _, Nat.zero_le _⟩ dX2_divide_5 (fun locs hS => ?_)
  refine lv_aload_n hx hb dX2_divide_8 rfl (lv_at hl 0 rfl) ?_
  refine lv_iload_n hx hb dX2_divide_9 rfl (lv_at hl 2 rfl) ?_
  refine lv_iload_n hx hb dX2_divide_10 rfl (lv_at hl 3 rfl) ?_
  refine cp_V (As := [.int (nI j), .int (bI zi)]) (rest := []) C0 hl hK hS hA (c_ckDiv l g s.heap x0 lc _ V hC j zi hj hnz) gX2_divide_X2_checkDivisor rfl ⟨rfl, rfl⟩ (hC.recv hK) ⟨rfl, (show hd_ok yX2_checkDivisor 2 from ⟨by decide, by decide, by decide +kernel⟩)⟩ ⟨Nat.le_of_ble_eq_true rfl, Nat.le_of_ble_eq_true rfl⟩ rfl (Nat.le_of_ble_eq_true rfl) ⟨Nat.zero_le _, Nat.zero_le _⟩ dX2_divide_11 (fun locs hS => ?_)
  refine lv_aload_n hx hb dX2_divide_14 rfl (lv_at hl 0 rfl) ?_
  refine lv_iload_n hx hb dX2_divide_15 rfl (lv_at hl 1 rfl) ?_
  refine lv_iload_n hx hb dX2_divide_16 rfl (lv_at hl 3 rfl) ?_
  refine cp_V (As := [.int (nI i), .int (bI zi)]) (rest := []) C0 hl hK hS hA (c_unsOf l g s.heap x0 lc _ V hC i zi (by assumption)) gX2_divide_X2_unsignedOf rfl ⟨rfl, rfl⟩ (hC.recv hK) ⟨rfl, (show hd_ok yX2_unsignedOf 2 from ⟨by decide, by decide, by decide +kernel⟩)⟩ ⟨Nat.le_of_ble_eq_true rfl, Nat.le_of_ble_eq_true rfl⟩ rfl (Nat.le_of_ble_eq_true rfl) ⟨Nat.zero_le _, Nat.zero_le _⟩ dX2_divide_17 (fun locs hS => ?_)
  refine lv_lstore (lv' := [(4, .long (lN (V i % 65536 ^ nP zi))), (0, .ref x0), (1, .int (nI i)), (2, .int (nI j)), (3, .int (bI zi))]) hx hb dX2_divide_20 hl (by decide) rfl (fun ls hl => ?_)
  refine lv_aload_n hx hb dX2_divide_22 rfl (lv_at hl 1 rfl) ?_
  refine lv_iload_n hx hb dX2_divide_23 rfl (lv_at hl 3 rfl) ?_
  refine lv_iload_n hx hb dX2_divide_24 rfl (lv_at hl 4 rfl) ?_
  refine cp_V (As := [.int (nI j), .int (bI zi)]) (rest := []) C0 hl hK hS hA (c_unsOf l g s.heap x0 lc _ V hC j zi (by assumption)) gX2_divide_X2_unsignedOf rfl ⟨rfl, rfl⟩ (hC.recv hK) ⟨rfl, (show hd_ok yX2_unsignedOf 2 from ⟨by decide, by decide, by decide +kernel⟩)⟩ ⟨Nat.le_of_ble_eq_true rfl, Nat.le_of_ble_eq_true rfl⟩ rfl (Nat.le_of_ble_eq_true rfl) ⟨Nat.zero_le _, Nat.zero_le _⟩ dX2_divide_25 (fun locs hS => ?_)
  refine lv_lstore (lv' := [(6, .long (lN (V j % 65536 ^ nP zi))), (4, .long (lN (V i % 65536 ^ nP zi))), (0, .ref x0), (1, .int (nI i)), (2, .int (nI j)), (3, .int (bI zi))]) hx hb dX2_divide_28 hl (by decide) rfl (fun ls hl => ?_)
  refine lv_lload hx hb dX2_divide_30 (lv_at hl 1 rfl) ?_
  refine lv_lload hx hb dX2_divide_32 (lv_at hl 0 rfl) ?_
  refine cp_S (As := [.long (lN (V i % 65536 ^ nP zi)), .long (lN (V j % 65536 ^ nP zi))]) (rest := []) C0 hl hK hS hA (c_uQuo l g s.heap (V i % 65536 ^ nP zi) (V j % 65536 ^ nP zi) (by omega) (by omega)) gX2_divide_X1_quotient rfl ⟨rfl, rfl⟩ (show hd_ok yX1_quotient 2 from ⟨by decide, by decide, by decide +kernel⟩) ⟨Nat.le_of_ble_eq_true rfl, Nat.le_of_ble_eq_true rfl⟩ rfl (Nat.le_of_ble_eq_true rfl) ⟨Nat.zero_le _, Nat.zero_le _⟩ dX2_divide_34 (fun locs hS => ?_)
  refine lv_lstore (lv' := [(8, .long (lN ((V i % 65536 ^ nP zi) / (V j % 65536 ^ nP zi)))), (6, .long (lN (V j % 65536 ^ nP zi))), (4, .long (lN (V i % 65536 ^ nP zi))), (0, .ref x0), (1, .int (nI i)), (2, .int (nI j)), (3, .int (bI zi))]) hx hb dX2_divide_37 hl (by decide) rfl (fun ls hl => ?_)
  refine lv_aload_n hx hb dX2_divide_39 rfl (lv_at hl 3 rfl) ?_
  refine lv_iload_n hx hb dX2_divide_40 rfl (lv_at hl 4 rfl) ?_
  refine lv_lload hx hb dX2_divide_41 (lv_at hl 0 rfl) ?_
  refine lv_iload_n hx hb dX2_divide_43 rfl (lv_at hl 6 rfl) ?_
  refine cp_S (As := [.long (lN ((V i % 65536 ^ nP zi) / (V j % 65536 ^ nP zi))), .int (bI zi)]) (rest := [.int (nI i), .ref x0]) C0 hl hK hS hA (c_setting l g s.heap ((V i % 65536 ^ nP zi) / (V j % 65536 ^ nP zi)) zi (by show _ < 2 ^ 64; omega)) gX2_divide_X2_setting rfl ⟨rfl, rfl⟩ (show hd_ok yX2_setting 2 from ⟨by decide, by decide, by decide +kernel⟩) ⟨Nat.le_of_ble_eq_true rfl, Nat.le_of_ble_eq_true rfl⟩ rfl (Nat.le_of_ble_eq_true rfl) ⟨Nat.zero_le _, Nat.zero_le _⟩ dX2_divide_44 (fun locs hS => ?_)
  refine tp_l (y := lN (wideN (nP zi) ((V i % 65536 ^ nP zi) / (V j % 65536 ^ nP zi)))) ((by rw [hs9])) ?_
  refine cn_V (As := [.int (nI i), .long (lN (wideN (nP zi) ((V i % 65536 ^ nP zi) / (V j % 65536 ^ nP zi))))]) (rest := []) C0 hl hK hS hA (fun q h => Or.inl (mC_l h)) (c_becC l g s.heap x0 lc _ V hC i (wideN (nP zi) ((V i % 65536 ^ nP zi) / (V j % 65536 ^ nP zi))) (by assumption) hw9) gX2_divide_X2_become rfl ⟨rfl, rfl⟩ (hC.recv hK) ⟨rfl, (show hd_ok yX2_become 2 from ⟨by decide, by decide, by decide +kernel⟩)⟩ ⟨Nat.le_of_ble_eq_true rfl, Nat.le_of_ble_eq_true rfl⟩ rfl (Nat.le_of_ble_eq_true rfl) ⟨Nat.zero_le _, Nat.zero_le _⟩ dX2_divide_47 (fun r1 H1 locs hv hzz hk1 hS => ?_)
  obtain ⟨rfl, hC1⟩ := hv
  refine lv_pop hx hb dX2_divide_50 rfl ?_
  refine lv_lload hx hb dX2_divide_51 (lv_at hl 2 rfl) ?_
  refine lv_lload hx hb dX2_divide_53 (lv_at hl 0 rfl) ?_
  refine lv_lload hx hb dX2_divide_55 (lv_at hl 1 rfl) ?_
  refine lv_lmul hx hb dX2_divide_57 ?_
  refine W.lcmp hx hb dX2_divide_58 ?_
  refine lv_if_eq (tgt := 66) hx hb dX2_divide_59 (by decide) (fun h1 => ?_) (fun h1 => ?_)
  · skip
    refine lv_iconst (v := nI 0) hx hb dX2_divide_66 (by decide) ?_
    refine tp_i (y := bI false) (rfl) ?_
    refine W.widen (k := 0) (n := 0) (by decide) (by decide) ?_
    exact rt_ni (mu := mC x0 lc tr tc sr sc) C0 (bI_nar _) ⟨_, _, _, _, _, n, t, ⟨⟨_, rfl⟩, rfl, rfl, rfl⟩, hL.setV hC1 hk1⟩ hS rfl dX2_divide_67
  · skip
    refine lv_iconst (v := nI 1) hx hb dX2_divide_62 (by decide) ?_
    refine lv_goto (tgt := 67) hx hb dX2_divide_63 (by decide) ?_
    refine tp_i (y := bI true) (rfl) ?_
    refine W.widen (k := 0) (n := 0) (by decide) (by decide) ?_
    exact rt_ni (mu := mC x0 lc tr tc sr sc) C0 (bI_nar _) ⟨_, _, _, _, _, n, t, ⟨⟨_, rfl⟩, rfl, rfl, rfl⟩, hL.setV hC1 hk1⟩ hS rfl dX2_divide_67
abbrev rmX2_rest : Room := { frames := 2, cells := 0, slots := 0, locals := 48 }
set_option maxHeartbeats 4000000 in
set_option maxRecDepth 100000 in
theorem c_xRest (l : Launch) (g : Gx) (H0 : Heap) (x0 lc tr tc sr sc : Nat) (i3 i4 i5 i6 : Int32) (V : Nat → Nat) (n : Nat) (t : Nat → Nat) (hL : CL g H0 x0 lc tr tc sr sc i3 i4 i5 i6 V n t) (i j : Nat) (zi : Bool) (hi : i < 8) (hj : j < 8) (hnz : V j % 65536 ^ nP zi ≠ 0) : Met l yX2_rest wsX2_rest rmX2_rest (va_Pc [.ref x0, .int (nI i), .int (nI j), .int (bI zi)] (hB g H0)) (nQ H0 (mC x0 lc tr tc sr sc) (zC g x0 lc tr tc sr sc (fun r V2 n2 t2 => (∃ rv : Int32, r = some (.int rv)) ∧ n2 = n ∧ t2 = t ∧ V2 = va_up V i (wideN (nP zi) ((V i % 65536 ^ nP zi) % (V j % 65536 ^ nP zi)))))) 0 0 (fun q => (mC x0 lc tr tc sr sc) q ∨ H0.size ≤ q) := by
  refine cx_met (own := RX2) (cc := cX2_rest) (maxL := 10) (by decide) rfl rfl (Nat.le_of_ble_eq_true rfl) ?_
  intro p e s m below meth c ls C0 hB0 hnm hl
  obtain ⟨hH, hK⟩ := hB0
  obtain ⟨hx, hb, hr, hml, hown, hts, hlk⟩ := id C0
  subst hH
  have hS : va_S (fun q => (mC x0 lc tr tc sr sc) q ∨ s.heap.size ≤ q) s.heap s.heap [] := va_S.rf
  have hA : ∀ q : Nat, s.heap.size ≤ q → (fun q => (mC x0 lc tr tc sr sc) q ∨ s.heap.size ≤ q) q := fun q h => Or.inr h
  have hl : lv_has ls 10 [(0, .ref x0), (1, .int (nI i)), (2, .int (nI j)), (3, .int (bI zi))] := hl
  obtain ⟨hC, hR, hSp, hap⟩ := id hL
  obtain ⟨hf, hfl, hlc, ⟨f, hg9, hfv⟩, hV, hxl⟩ := id hC
  have hM9 : 0 < 65536 ^ nP zi := Nat.pow_pos (by decide)
  have hN9 : V i % 65536 ^ nP zi < 65536 ^ nP zi := Nat.mod_lt _ hM9
  have hD9 : V j % 65536 ^ nP zi < 65536 ^ nP zi := Nat.mod_lt _ hM9
  have hM4 : 65536 ^ nP zi ≤ 2 ^ 64 := by cases zi <;> decide
  have hq0 : (V i % 65536 ^ nP zi) / (V j % 65536 ^ nP zi) * (V j % 65536 ^ nP zi) ≤ V i % 65536 ^ nP zi := Nat.div_mul_le_self _ _
  have hq1 : (V i % 65536 ^ nP zi) / (V j % 65536 ^ nP zi) ≤ V i % 65536 ^ nP zi := Nat.div_le_self _ _
  have hem : V i % 65536 ^ nP zi - (V i % 65536 ^ nP zi) / (V j % 65536 ^ nP zi) * (V j % 65536 ^ nP zi) = (V i % 65536 ^ nP zi) % (V j % 65536 ^ nP zi) := by have := Nat.div_add_mod (V i % 65536 ^ nP zi) (V j % 65536 ^ nP zi); rw [Nat.mul_comm] at this; omega
  have hr9 : (V i % 65536 ^ nP zi) % (V j % 65536 ^ nP zi) ≤ V i % 65536 ^ nP zi := Nat.mod_le _ _
  have hw9 : wideN (nP zi) ((V i % 65536 ^ nP zi) % (V j % 65536 ^ nP zi)) < 65536 ^ 4 := wideN_lt (nP_or _) (by omega)
  have hs9 : wideN (nP zi) ((V i % 65536 ^ nP zi) % (V j % 65536 ^ nP zi) % 65536 ^ nP zi) = wideN (nP zi) ((V i % 65536 ^ nP zi) % (V j % 65536 ^ nP zi)) := congrArg _ (Nat.mod_eq_of_lt (by omega))
  refine lv_iload_n hx hb dX2_rest_0 rfl (lv_at hl 1 rfl) ?_
  refine cp_S (As := [.int (nI i)]) (rest := []) C0 hl hK hS hA (c_ckCell l g s.heap i (by assumption)) gX2_rest_X2_checkCell rfl ⟨rfl, rfl⟩ (show hd_ok yX2_checkCell 1 from ⟨by decide, by decide, by decide +kernel⟩) ⟨Nat.le_of_ble_eq_true rfl, Nat.le_of_ble_eq_true rfl⟩ rfl (Nat.le_of_ble_eq_true rfl) ⟨Nat.zero_le _, Nat.zero_le _⟩ dX2_rest_1 (fun locs hS => ?_)
  refine lv_iload_n hx hb dX2_rest_4 rfl (lv_at hl 2 rfl) ?_
  refine cp_S (As := [.int (nI j)]) (rest := []) C0 hl hK hS hA (c_ckCell l g s.heap j (by assumption)) gX2_rest_X2_checkCell rfl ⟨rfl, rfl⟩ (show hd_ok yX2_checkCell 1 from ⟨by decide, by decide, by decide +kernel⟩) ⟨Nat.le_of_ble_eq_true rfl, Nat.le_of_ble_eq_true rfl⟩ rfl (Nat.le_of_ble_eq_true rfl) ⟨Nat.zero_le _, Nat.zero_le _⟩ dX2_rest_5 (fun locs hS => ?_)
  refine lv_aload_n hx hb dX2_rest_8 rfl (lv_at hl 0 rfl) ?_
  refine lv_iload_n hx hb dX2_rest_9 rfl (lv_at hl 2 rfl) ?_
  refine lv_iload_n hx hb dX2_rest_10 rfl (lv_at hl 3 rfl) ?_
  refine cp_V (As := [.int (nI j), .int (bI zi)]) (rest := []) C0 hl hK hS hA (c_ckDiv l g s.heap x0 lc _ V hC j zi hj hnz) gX2_rest_X2_checkDivisor rfl ⟨rfl, rfl⟩ (hC.recv hK) ⟨rfl, (show hd_ok yX2_checkDivisor 2 from ⟨by decide, by decide, by decide +kernel⟩)⟩ ⟨Nat.le_of_ble_eq_true rfl, Nat.le_of_ble_eq_true rfl⟩ rfl (Nat.le_of_ble_eq_true rfl) ⟨Nat.zero_le _, Nat.zero_le _⟩ dX2_rest_11 (fun locs hS => ?_)
  refine lv_aload_n hx hb dX2_rest_14 rfl (lv_at hl 0 rfl) ?_
  refine lv_iload_n hx hb dX2_rest_15 rfl (lv_at hl 1 rfl) ?_
  refine lv_iload_n hx hb dX2_rest_16 rfl (lv_at hl 3 rfl) ?_
  refine cp_V (As := [.int (nI i), .int (bI zi)]) (rest := []) C0 hl hK hS hA (c_unsOf l g s.heap x0 lc _ V hC i zi (by assumption)) gX2_rest_X2_unsignedOf rfl ⟨rfl, rfl⟩ (hC.recv hK) ⟨rfl, (show hd_ok yX2_unsignedOf 2 from ⟨by decide, by decide, by decide +kernel⟩)⟩ ⟨Nat.le_of_ble_eq_true rfl, Nat.le_of_ble_eq_true rfl⟩ rfl (Nat.le_of_ble_eq_true rfl) ⟨Nat.zero_le _, Nat.zero_le _⟩ dX2_rest_17 (fun locs hS => ?_)
  refine lv_lstore (lv' := [(4, .long (lN (V i % 65536 ^ nP zi))), (0, .ref x0), (1, .int (nI i)), (2, .int (nI j)), (3, .int (bI zi))]) hx hb dX2_rest_20 hl (by decide) rfl (fun ls hl => ?_)
  refine lv_aload_n hx hb dX2_rest_22 rfl (lv_at hl 1 rfl) ?_
  refine lv_iload_n hx hb dX2_rest_23 rfl (lv_at hl 3 rfl) ?_
  refine lv_iload_n hx hb dX2_rest_24 rfl (lv_at hl 4 rfl) ?_
  refine cp_V (As := [.int (nI j), .int (bI zi)]) (rest := []) C0 hl hK hS hA (c_unsOf l g s.heap x0 lc _ V hC j zi (by assumption)) gX2_rest_X2_unsignedOf rfl ⟨rfl, rfl⟩ (hC.recv hK) ⟨rfl, (show hd_ok yX2_unsignedOf 2 from ⟨by decide, by decide, by decide +kernel⟩)⟩ ⟨Nat.le_of_ble_eq_true rfl, Nat.le_of_ble_eq_true rfl⟩ rfl (Nat.le_of_ble_eq_true rfl) ⟨Nat.zero_le _, Nat.zero_le _⟩ dX2_rest_25 (fun locs hS => ?_)
  refine lv_lstore (lv' := [(6, .long (lN (V j % 65536 ^ nP zi))), (4, .long (lN (V i % 65536 ^ nP zi))), (0, .ref x0), (1, .int (nI i)), (2, .int (nI j)), (3, .int (bI zi))]) hx hb dX2_rest_28 hl (by decide) rfl (fun ls hl => ?_)
  refine lv_lload hx hb dX2_rest_30 (lv_at hl 1 rfl) ?_
  refine lv_lload hx hb dX2_rest_32 (lv_at hl 1 rfl) ?_
  refine lv_lload hx hb dX2_rest_34 (lv_at hl 0 rfl) ?_
  refine cp_S (As := [.long (lN (V i % 65536 ^ nP zi)), .long (lN (V j % 65536 ^ nP zi))]) (rest := [.long (lN (V i % 65536 ^ nP zi))]) C0 hl hK hS hA (c_uQuo l g s.heap (V i % 65536 ^ nP zi) (V j % 65536 ^ nP zi) (by omega) (by omega)) gX2_rest_X1_quotient rfl ⟨rfl, rfl⟩ (show hd_ok yX1_quotient 2 from ⟨by decide, by decide, by decide +kernel⟩) ⟨Nat.le_of_ble_eq_true rfl, Nat.le_of_ble_eq_true rfl⟩ rfl (Nat.le_of_ble_eq_true rfl) ⟨Nat.zero_le _, Nat.zero_le _⟩ dX2_rest_36 (fun locs hS => ?_)
  refine lv_lload hx hb dX2_rest_39 (lv_at hl 0 rfl) ?_
  refine lv_lmul hx hb dX2_rest_41 ?_
  refine tp_l (y := lN ((V i % 65536 ^ nP zi) / (V j % 65536 ^ nP zi) * (V j % 65536 ^ nP zi))) (lN_mul _ _) ?_
  refine lv_lsub hx hb dX2_rest_42 ?_
  refine tp_l (y := lN ((V i % 65536 ^ nP zi) % (V j % 65536 ^ nP zi))) ((lN_sub hq0).trans (congrArg lN hem)) ?_
  refine lv_lstore (lv' := [(8, .long (lN ((V i % 65536 ^ nP zi) % (V j % 65536 ^ nP zi)))), (6, .long (lN (V j % 65536 ^ nP zi))), (4, .long (lN (V i % 65536 ^ nP zi))), (0, .ref x0), (1, .int (nI i)), (2, .int (nI j)), (3, .int (bI zi))]) hx hb dX2_rest_43 hl (by decide) rfl (fun ls hl => ?_)
  refine lv_aload_n hx hb dX2_rest_45 rfl (lv_at hl 3 rfl) ?_
  refine lv_iload_n hx hb dX2_rest_46 rfl (lv_at hl 4 rfl) ?_
  refine lv_lload hx hb dX2_rest_47 (lv_at hl 0 rfl) ?_
  refine lv_iload_n hx hb dX2_rest_49 rfl (lv_at hl 6 rfl) ?_
  refine cp_S (As := [.long (lN ((V i % 65536 ^ nP zi) % (V j % 65536 ^ nP zi))), .int (bI zi)]) (rest := [.int (nI i), .ref x0]) C0 hl hK hS hA (c_setting l g s.heap ((V i % 65536 ^ nP zi) % (V j % 65536 ^ nP zi)) zi (by show _ < 2 ^ 64; omega)) gX2_rest_X2_setting rfl ⟨rfl, rfl⟩ (show hd_ok yX2_setting 2 from ⟨by decide, by decide, by decide +kernel⟩) ⟨Nat.le_of_ble_eq_true rfl, Nat.le_of_ble_eq_true rfl⟩ rfl (Nat.le_of_ble_eq_true rfl) ⟨Nat.zero_le _, Nat.zero_le _⟩ dX2_rest_50 (fun locs hS => ?_)
  refine tp_l (y := lN (wideN (nP zi) ((V i % 65536 ^ nP zi) % (V j % 65536 ^ nP zi)))) ((by rw [hs9])) ?_
  refine cn_V (As := [.int (nI i), .long (lN (wideN (nP zi) ((V i % 65536 ^ nP zi) % (V j % 65536 ^ nP zi))))]) (rest := []) C0 hl hK hS hA (fun q h => Or.inl (mC_l h)) (c_becC l g s.heap x0 lc _ V hC i (wideN (nP zi) ((V i % 65536 ^ nP zi) % (V j % 65536 ^ nP zi))) (by assumption) hw9) gX2_rest_X2_become rfl ⟨rfl, rfl⟩ (hC.recv hK) ⟨rfl, (show hd_ok yX2_become 2 from ⟨by decide, by decide, by decide +kernel⟩)⟩ ⟨Nat.le_of_ble_eq_true rfl, Nat.le_of_ble_eq_true rfl⟩ rfl (Nat.le_of_ble_eq_true rfl) ⟨Nat.zero_le _, Nat.zero_le _⟩ dX2_rest_53 (fun r1 H1 locs hv hzz hk1 hS => ?_)
  obtain ⟨rfl, hC1⟩ := hv
  refine lv_pop hx hb dX2_rest_56 rfl ?_
  refine lv_lload hx hb dX2_rest_57 (lv_at hl 0 rfl) ?_
  refine lv_lconst (v := lN 0) hx hb dX2_rest_59 rfl ?_
  refine W.lcmp hx hb dX2_rest_60 ?_
  refine lv_if_ne (tgt := 68) hx hb dX2_rest_61 (by decide) (fun h1 => ?_) (fun h1 => ?_)
  · skip
    refine lv_iconst (v := nI 0) hx hb dX2_rest_68 (by decide) ?_
    refine tp_i (y := bI false) (rfl) ?_
    refine W.widen (k := 0) (n := 0) (by decide) (by decide) ?_
    exact rt_ni (mu := mC x0 lc tr tc sr sc) C0 (bI_nar _) ⟨_, _, _, _, _, n, t, ⟨⟨_, rfl⟩, rfl, rfl, rfl⟩, hL.setV hC1 hk1⟩ hS rfl dX2_rest_69
  · skip
    refine lv_iconst (v := nI 1) hx hb dX2_rest_64 (by decide) ?_
    refine lv_goto (tgt := 69) hx hb dX2_rest_65 (by decide) ?_
    refine tp_i (y := bI true) (rfl) ?_
    refine W.widen (k := 0) (n := 0) (by decide) (by decide) ?_
    exact rt_ni (mu := mC x0 lc tr tc sr sc) C0 (bI_nar _) ⟨_, _, _, _, _, n, t, ⟨⟨_, rfl⟩, rfl, rfl, rfl⟩, hL.setV hC1 hk1⟩ hS rfl dX2_rest_69
abbrev rmX2_compare : Room := { frames := 2, cells := 0, slots := 0, locals := 44 }
set_option maxHeartbeats 4000000 in
set_option maxRecDepth 100000 in
theorem c_xCompare (l : Launch) (g : Gx) (H0 : Heap) (x0 lc tr tc sr sc : Nat) (i3 i4 i5 i6 : Int32) (V : Nat → Nat) (n : Nat) (t : Nat → Nat) (hL : CL g H0 x0 lc tr tc sr sc i3 i4 i5 i6 V n t) (i j : Nat) (zu zi : Bool) (hi : i < 8) (hj : j < 8) : Met l yX2_compare wsX2_compare rmX2_compare (va_Pc [.ref x0, .int (nI i), .int (nI j), .int (bI zu), .int (bI zi)] (hB g H0)) (nQ H0 (mC x0 lc tr tc sr sc) (zC g x0 lc tr tc sr sc (fun r V2 n2 t2 => (∃ rv : Int32, r = some (.int rv)) ∧ V2 = V ∧ n2 = n ∧ t2 = t))) 0 0 (fun q => (mC x0 lc tr tc sr sc) q ∨ H0.size ≤ q) := by
  refine cx_met (own := RX2) (cc := cX2_compare) (maxL := 10) (by decide) rfl rfl (Nat.le_of_ble_eq_true rfl) ?_
  intro p e s m below meth c ls C0 hB0 hnm hl
  obtain ⟨hH, hK⟩ := hB0
  obtain ⟨hx, hb, hr, hml, hown, hts, hlk⟩ := id C0
  subst hH
  have hS : va_S (fun q => (mC x0 lc tr tc sr sc) q ∨ s.heap.size ≤ q) s.heap s.heap [] := va_S.rf
  have hA : ∀ q : Nat, s.heap.size ≤ q → (fun q => (mC x0 lc tr tc sr sc) q ∨ s.heap.size ≤ q) q := fun q h => Or.inr h
  have hl : lv_has ls 10 [(0, .ref x0), (1, .int (nI i)), (2, .int (nI j)), (3, .int (bI zu)), (4, .int (bI zi))] := hl
  obtain ⟨hC, hR, hSp, hap⟩ := id hL
  obtain ⟨hf, hfl, hlc, ⟨f, hg9, hfv⟩, hV, hxl⟩ := id hC
  have hM9 : 0 < 65536 ^ nP zi := Nat.pow_pos (by decide)
  have hM4 : 65536 ^ nP zi ≤ 2 ^ 64 := by cases zi <;> decide
  have hN9 : V i % 65536 ^ nP zi < 65536 ^ nP zi := Nat.mod_lt _ hM9
  have hD9 : V j % 65536 ^ nP zi < 65536 ^ nP zi := Nat.mod_lt _ hM9
  refine lv_iload_n hx hb dX2_compare_0 rfl (lv_at hl 1 rfl) ?_
  refine cp_S (As := [.int (nI i)]) (rest := []) C0 hl hK hS hA (c_ckCell l g s.heap i (by assumption)) gX2_compare_X2_checkCell rfl ⟨rfl, rfl⟩ (show hd_ok yX2_checkCell 1 from ⟨by decide, by decide, by decide +kernel⟩) ⟨Nat.le_of_ble_eq_true rfl, Nat.le_of_ble_eq_true rfl⟩ rfl (Nat.le_of_ble_eq_true rfl) ⟨Nat.zero_le _, Nat.zero_le _⟩ dX2_compare_1 (fun locs hS => ?_)
  refine lv_iload_n hx hb dX2_compare_4 rfl (lv_at hl 2 rfl) ?_
  refine cp_S (As := [.int (nI j)]) (rest := []) C0 hl hK hS hA (c_ckCell l g s.heap j (by assumption)) gX2_compare_X2_checkCell rfl ⟨rfl, rfl⟩ (show hd_ok yX2_checkCell 1 from ⟨by decide, by decide, by decide +kernel⟩) ⟨Nat.le_of_ble_eq_true rfl, Nat.le_of_ble_eq_true rfl⟩ rfl (Nat.le_of_ble_eq_true rfl) ⟨Nat.zero_le _, Nat.zero_le _⟩ dX2_compare_5 (fun locs hS => ?_)
  refine lv_iload_n hx hb dX2_compare_8 rfl (lv_at hl 3 rfl) ?_
  refine lv_if_eq (tgt := 22) hx hb dX2_compare_9 (by decide) (fun h1 => ?_) (fun h1 => ?_)
  · skip
    refine lv_aload_n hx hb dX2_compare_22 rfl (lv_at hl 0 rfl) ?_
    refine lv_iload_n hx hb dX2_compare_23 rfl (lv_at hl 1 rfl) ?_
    refine lv_iload hx hb dX2_compare_24 (lv_at hl 4 rfl) ?_
    refine cp_V (As := [.int (nI i), .int (bI zi)]) (rest := []) C0 hl hK hS hA (c_sgnOf l g s.heap x0 lc _ V hC i zi (by assumption)) gX2_compare_X2_signedOf rfl ⟨rfl, rfl⟩ (hC.recv hK) ⟨rfl, (show hd_ok yX2_signedOf 2 from ⟨by decide, by decide, by decide +kernel⟩)⟩ ⟨Nat.le_of_ble_eq_true rfl, Nat.le_of_ble_eq_true rfl⟩ rfl (Nat.le_of_ble_eq_true rfl) ⟨Nat.zero_le _, Nat.zero_le _⟩ dX2_compare_26 (fun locs hS => ?_)
    refine lv_lstore (lv' := [(5, .long (lN (wideN (nP zi) (V i % 65536 ^ nP zi)))), (0, .ref x0), (1, .int (nI i)), (2, .int (nI j)), (3, .int (bI zu)), (4, .int (bI zi))]) hx hb dX2_compare_29 hl (by decide) rfl (fun ls hl => ?_)
    refine lv_iload_n hx hb dX2_compare_31 rfl (lv_at hl 4 rfl) ?_
    refine lv_if_eq (tgt := 45) hx hb dX2_compare_32 (by decide) (fun h2 => ?_) (fun h2 => absurd (bI_n0 h2) (by rw [bI_0 h1]; decide))
    refine lv_aload_n hx hb dX2_compare_45 rfl (lv_at hl 1 rfl) ?_
    refine lv_iload_n hx hb dX2_compare_46 rfl (lv_at hl 3 rfl) ?_
    refine lv_iload hx hb dX2_compare_47 (lv_at hl 5 rfl) ?_
    refine cp_V (As := [.int (nI j), .int (bI zi)]) (rest := []) C0 hl hK hS hA (c_sgnOf l g s.heap x0 lc _ V hC j zi (by assumption)) gX2_compare_X2_signedOf rfl ⟨rfl, rfl⟩ (hC.recv hK) ⟨rfl, (show hd_ok yX2_signedOf 2 from ⟨by decide, by decide, by decide +kernel⟩)⟩ ⟨Nat.le_of_ble_eq_true rfl, Nat.le_of_ble_eq_true rfl⟩ rfl (Nat.le_of_ble_eq_true rfl) ⟨Nat.zero_le _, Nat.zero_le _⟩ dX2_compare_49 (fun locs hS => ?_)
    refine lv_lstore (lv' := [(7, .long (lN (wideN (nP zi) (V j % 65536 ^ nP zi)))), (5, .long (lN (wideN (nP zi) (V i % 65536 ^ nP zi)))), (0, .ref x0), (1, .int (nI i)), (2, .int (nI j)), (3, .int (bI zu)), (4, .int (bI zi))]) hx hb dX2_compare_52 hl (by decide) rfl (fun ls hl => ?_)
    refine lv_lload hx hb dX2_compare_54 (lv_at hl 1 rfl) ?_
    refine lv_lload hx hb dX2_compare_56 (lv_at hl 0 rfl) ?_
    refine W.lcmp hx hb dX2_compare_58 ?_
    refine lv_if_ne (tgt := 64) hx hb dX2_compare_59 (by decide) (fun h3 => ?_) (fun h3 => ?_)
    · skip
      refine lv_iload_n hx hb dX2_compare_64 rfl (lv_at hl 5 rfl) ?_
      refine lv_if_eq (tgt := 78) hx hb dX2_compare_65 (by decide) (fun h4 => ?_) (fun h4 => absurd (bI_n0 h4) (by rw [bI_0 h1]; decide))
      refine lv_lload hx hb dX2_compare_78 (lv_at hl 1 rfl) ?_
      refine lv_lload hx hb dX2_compare_80 (lv_at hl 0 rfl) ?_
      refine W.lcmp hx hb dX2_compare_82 ?_
      refine lv_if_ge (tgt := 90) hx hb dX2_compare_83 (by decide) (fun h5 => ?_) (fun h5 => ?_)
      · skip
        refine lv_iconst (v := nI 0) hx hb dX2_compare_90 (by decide) ?_
        refine lv_istore (lv' := [(9, .int (nI 0)), (7, .long (lN (wideN (nP zi) (V j % 65536 ^ nP zi)))), (5, .long (lN (wideN (nP zi) (V i % 65536 ^ nP zi)))), (0, .ref x0), (1, .int (nI i)), (2, .int (nI j)), (3, .int (bI zu)), (4, .int (bI zi))]) hx hb dX2_compare_91 hl (by decide) rfl (fun ls hl => ?_)
        refine lv_iload hx hb dX2_compare_93 (lv_at hl 0 rfl) ?_
        refine lv_if_eq (tgt := 102) hx hb dX2_compare_95 (by decide) (fun h6 => ?_) (fun h6 => absurd rfl h6)
        refine lv_iconst (v := nI 1) hx hb dX2_compare_102 (by decide) ?_
        exact rt_ni (mu := mC x0 lc tr tc sr sc) C0 rfl ⟨_, _, _, _, V, n, t, ⟨⟨_, rfl⟩, rfl, rfl, rfl⟩, hL⟩ hS rfl dX2_compare_103
      · skip
        refine lv_iconst (v := nI 1) hx hb dX2_compare_86 (by decide) ?_
        refine lv_goto (tgt := 91) hx hb dX2_compare_87 (by decide) ?_
        refine lv_istore (lv' := [(9, .int (nI 1)), (7, .long (lN (wideN (nP zi) (V j % 65536 ^ nP zi)))), (5, .long (lN (wideN (nP zi) (V i % 65536 ^ nP zi)))), (0, .ref x0), (1, .int (nI i)), (2, .int (nI j)), (3, .int (bI zu)), (4, .int (bI zi))]) hx hb dX2_compare_91 hl (by decide) rfl (fun ls hl => ?_)
        refine lv_iload hx hb dX2_compare_93 (lv_at hl 0 rfl) ?_
        refine lv_if_eq (tgt := 102) hx hb dX2_compare_95 (by decide) (fun h6 => absurd h6 (by decide)) (fun h6 => ?_)
        refine lv_iconst (v := (-1)) hx hb dX2_compare_98 (by decide) ?_
        refine lv_goto (tgt := 103) hx hb dX2_compare_99 (by decide) ?_
        exact rt_ni (mu := mC x0 lc tr tc sr sc) C0 rfl ⟨_, _, _, _, V, n, t, ⟨⟨_, rfl⟩, rfl, rfl, rfl⟩, hL⟩ hS rfl dX2_compare_103
    · skip
      refine lv_iconst (v := nI 0) hx hb dX2_compare_62 (by decide) ?_
      exact rt_ni (mu := mC x0 lc tr tc sr sc) C0 rfl ⟨_, _, _, _, V, n, t, ⟨⟨_, rfl⟩, rfl, rfl, rfl⟩, hL⟩ hS rfl dX2_compare_63
  · skip
    refine lv_aload_n hx hb dX2_compare_12 rfl (lv_at hl 0 rfl) ?_
    refine lv_iload_n hx hb dX2_compare_13 rfl (lv_at hl 1 rfl) ?_
    refine lv_iload hx hb dX2_compare_14 (lv_at hl 4 rfl) ?_
    refine cp_V (As := [.int (nI i), .int (bI zi)]) (rest := []) C0 hl hK hS hA (c_unsOf l g s.heap x0 lc _ V hC i zi (by assumption)) gX2_compare_X2_unsignedOf rfl ⟨rfl, rfl⟩ (hC.recv hK) ⟨rfl, (show hd_ok yX2_unsignedOf 2 from ⟨by decide, by decide, by decide +kernel⟩)⟩ ⟨Nat.le_of_ble_eq_true rfl, Nat.le_of_ble_eq_true rfl⟩ rfl (Nat.le_of_ble_eq_true rfl) ⟨Nat.zero_le _, Nat.zero_le _⟩ dX2_compare_16 (fun locs hS => ?_)
    refine lv_goto (tgt := 29) hx hb dX2_compare_19 (by decide) ?_
    refine lv_lstore (lv' := [(5, .long (lN (V i % 65536 ^ nP zi))), (0, .ref x0), (1, .int (nI i)), (2, .int (nI j)), (3, .int (bI zu)), (4, .int (bI zi))]) hx hb dX2_compare_29 hl (by decide) rfl (fun ls hl => ?_)
    refine lv_iload_n hx hb dX2_compare_31 rfl (lv_at hl 4 rfl) ?_
    refine lv_if_eq (tgt := 45) hx hb dX2_compare_32 (by decide) (fun h2 => absurd (bI_0 h2) (by rw [bI_n0 h1]; decide)) (fun h2 => ?_)
    refine lv_aload_n hx hb dX2_compare_35 rfl (lv_at hl 1 rfl) ?_
    refine lv_iload_n hx hb dX2_compare_36 rfl (lv_at hl 3 rfl) ?_
    refine lv_iload hx hb dX2_compare_37 (lv_at hl 5 rfl) ?_
    refine cp_V (As := [.int (nI j), .int (bI zi)]) (rest := []) C0 hl hK hS hA (c_unsOf l g s.heap x0 lc _ V hC j zi (by assumption)) gX2_compare_X2_unsignedOf rfl ⟨rfl, rfl⟩ (hC.recv hK) ⟨rfl, (show hd_ok yX2_unsignedOf 2 from ⟨by decide, by decide, by decide +kernel⟩)⟩ ⟨Nat.le_of_ble_eq_true rfl, Nat.le_of_ble_eq_true rfl⟩ rfl (Nat.le_of_ble_eq_true rfl) ⟨Nat.zero_le _, Nat.zero_le _⟩ dX2_compare_39 (fun locs hS => ?_)
    refine lv_goto (tgt := 52) hx hb dX2_compare_42 (by decide) ?_
    refine lv_lstore (lv' := [(7, .long (lN (V j % 65536 ^ nP zi))), (5, .long (lN (V i % 65536 ^ nP zi))), (0, .ref x0), (1, .int (nI i)), (2, .int (nI j)), (3, .int (bI zu)), (4, .int (bI zi))]) hx hb dX2_compare_52 hl (by decide) rfl (fun ls hl => ?_)
    refine lv_lload hx hb dX2_compare_54 (lv_at hl 1 rfl) ?_
    refine lv_lload hx hb dX2_compare_56 (lv_at hl 0 rfl) ?_
    refine W.lcmp hx hb dX2_compare_58 ?_
    refine lv_if_ne (tgt := 64) hx hb dX2_compare_59 (by decide) (fun h3 => ?_) (fun h3 => ?_)
    · skip
      refine lv_iload_n hx hb dX2_compare_64 rfl (lv_at hl 5 rfl) ?_
      refine lv_if_eq (tgt := 78) hx hb dX2_compare_65 (by decide) (fun h4 => absurd (bI_0 h4) (by rw [bI_n0 h1]; decide)) (fun h4 => ?_)
      refine lv_lload hx hb dX2_compare_68 (lv_at hl 1 rfl) ?_
      refine lv_lload hx hb dX2_compare_70 (lv_at hl 0 rfl) ?_
      refine cp_S (As := [.long (lN (V i % 65536 ^ nP zi)), .long (lN (V j % 65536 ^ nP zi))]) (rest := []) C0 hl hK hS hA (c_uLess l g s.heap (V i % 65536 ^ nP zi) (V j % 65536 ^ nP zi) (by omega) (by omega)) gX2_compare_X1_isLess rfl ⟨rfl, rfl⟩ (show hd_ok yX1_isLess 2 from ⟨by decide, by decide, by decide +kernel⟩) ⟨Nat.le_of_ble_eq_true rfl, Nat.le_of_ble_eq_true rfl⟩ rfl (Nat.le_of_ble_eq_true rfl) ⟨Nat.zero_le _, Nat.zero_le _⟩ dX2_compare_72 (fun locs hS => ?_)
      refine lv_goto (tgt := 91) hx hb dX2_compare_75 (by decide) ?_
      refine lv_istore (lv' := [(9, .int (bI (decide (V i % 65536 ^ nP zi < V j % 65536 ^ nP zi)))), (7, .long (lN (V j % 65536 ^ nP zi))), (5, .long (lN (V i % 65536 ^ nP zi))), (0, .ref x0), (1, .int (nI i)), (2, .int (nI j)), (3, .int (bI zu)), (4, .int (bI zi))]) hx hb dX2_compare_91 hl (by decide) rfl (fun ls hl => ?_)
      refine lv_iload hx hb dX2_compare_93 (lv_at hl 0 rfl) ?_
      refine lv_if_eq (tgt := 102) hx hb dX2_compare_95 (by decide) (fun h5 => ?_) (fun h5 => ?_)
      · skip
        refine lv_iconst (v := nI 1) hx hb dX2_compare_102 (by decide) ?_
        exact rt_ni (mu := mC x0 lc tr tc sr sc) C0 rfl ⟨_, _, _, _, V, n, t, ⟨⟨_, rfl⟩, rfl, rfl, rfl⟩, hL⟩ hS rfl dX2_compare_103
      · skip
        refine lv_iconst (v := (-1)) hx hb dX2_compare_98 (by decide) ?_
        refine lv_goto (tgt := 103) hx hb dX2_compare_99 (by decide) ?_
        exact rt_ni (mu := mC x0 lc tr tc sr sc) C0 rfl ⟨_, _, _, _, V, n, t, ⟨⟨_, rfl⟩, rfl, rfl, rfl⟩, hL⟩ hS rfl dX2_compare_103
    · skip
      refine lv_iconst (v := nI 0) hx hb dX2_compare_62 (by decide) ?_
      exact rt_ni (mu := mC x0 lc tr tc sr sc) C0 rfl ⟨_, _, _, _, V, n, t, ⟨⟨_, rfl⟩, rfl, rfl, rfl⟩, hL⟩ hS rfl dX2_compare_63
abbrev rmX2_isDivided : Room := { frames := 2, cells := 0, slots := 0, locals := 48 }
set_option maxHeartbeats 4000000 in
set_option maxRecDepth 100000 in
theorem c_xIsDiv (l : Launch) (g : Gx) (H0 : Heap) (u v : Nat) (hu : u < 2 ^ 64) (hv : v < 2 ^ 64) : Met l yX2_isDivided wsX2_isDivided rmX2_isDivided (va_Pc [.long (lN u), .long (lN v)] (hB g H0)) (nQ H0 (fun _ => False) (fun r H1 => H0 = H1 ∧ ∃ b : Bool, r = some (.int (bI b)))) 0 0 (fun q => (fun _ => False) q ∨ H0.size ≤ q) := by
  refine cx_met (own := RX2) (cc := cX2_isDivided) (maxL := 8) (by decide) rfl rfl (Nat.le_of_ble_eq_true rfl) ?_
  intro p e s m below meth c ls C0 hB0 hnm hl
  obtain ⟨hH, hK⟩ := hB0
  obtain ⟨hx, hb, hr, hml, hown, hts, hlk⟩ := id C0
  subst hH
  have hS : va_S (fun q => (fun _ => False) q ∨ s.heap.size ≤ q) s.heap s.heap [] := va_S.rf
  have hA : ∀ q : Nat, s.heap.size ≤ q → (fun q => (fun _ => False) q ∨ s.heap.size ≤ q) q := fun q h => Or.inr h
  have hl : lv_has ls 8 [(0, .long (lN u)), (2, .long (lN v))] := hl
  have hq0 : u / v * v ≤ u := Nat.div_mul_le_self _ _
  have hq1 : u - u / v * v < 2 ^ 64 := by omega
  refine lv_lload_n hx hb dX2_isDivided_0 rfl (lv_at hl 1 rfl) ?_
  refine lv_lconst (v := lN 0) hx hb dX2_isDivided_1 rfl ?_
  refine W.lcmp hx hb dX2_isDivided_2 ?_
  refine lv_if_ne (tgt := 8) hx hb dX2_isDivided_3 (by decide) (fun h1 => ?_) (fun h1 => ?_)
  · skip
    refine lv_lload_n hx hb dX2_isDivided_8 rfl (lv_at hl 0 rfl) ?_
    refine lv_lload_n hx hb dX2_isDivided_9 rfl (lv_at hl 1 rfl) ?_
    refine cp_S (As := [.long (lN u), .long (lN v)]) (rest := []) C0 hl hK hS hA (c_uQuo l g s.heap u v hu hv) gX2_isDivided_X1_quotient rfl ⟨rfl, rfl⟩ (show hd_ok yX1_quotient 2 from ⟨by decide, by decide, by decide +kernel⟩) ⟨Nat.le_of_ble_eq_true rfl, Nat.le_of_ble_eq_true rfl⟩ rfl (Nat.le_of_ble_eq_true rfl) ⟨Nat.zero_le _, Nat.zero_le _⟩ dX2_isDivided_10 (fun locs hS => ?_)
    refine lv_lstore (lv' := [(4, .long (lN (u / v))), (0, .long (lN u)), (2, .long (lN v))]) hx hb dX2_isDivided_13 hl (by decide) rfl (fun ls hl => ?_)
    refine lv_lload_n hx hb dX2_isDivided_15 rfl (lv_at hl 1 rfl) ?_
    refine lv_lload hx hb dX2_isDivided_16 (lv_at hl 0 rfl) ?_
    refine lv_lload_n hx hb dX2_isDivided_18 rfl (lv_at hl 2 rfl) ?_
    refine lv_lmul hx hb dX2_isDivided_19 ?_
    refine tp_l (y := lN (u / v * v)) (lN_mul _ _) ?_
    refine lv_lsub hx hb dX2_isDivided_20 ?_
    refine tp_l (y := lN (u - u / v * v)) (lN_sub hq0) ?_
    refine lv_lstore (lv' := [(6, .long (lN (u - u / v * v))), (4, .long (lN (u / v))), (0, .long (lN u)), (2, .long (lN v))]) hx hb dX2_isDivided_21 hl (by decide) rfl (fun ls hl => ?_)
    refine lv_lload hx hb dX2_isDivided_23 (lv_at hl 1 rfl) ?_
    refine lv_lload_n hx hb dX2_isDivided_25 rfl (lv_at hl 3 rfl) ?_
    refine lv_lmul hx hb dX2_isDivided_26 ?_
    refine lv_lload hx hb dX2_isDivided_27 (lv_at hl 0 rfl) ?_
    refine lv_ladd hx hb dX2_isDivided_29 ?_
    refine lv_lload_n hx hb dX2_isDivided_30 rfl (lv_at hl 2 rfl) ?_
    refine W.lcmp hx hb dX2_isDivided_31 ?_
    refine lv_if_ne (tgt := 48) hx hb dX2_isDivided_32 (by decide) (fun h2 => ?_) (fun h2 => ?_)
    · skip
      refine lv_iconst (v := nI 0) hx hb dX2_isDivided_48 (by decide) ?_
      refine tp_i (y := bI false) (rfl) ?_
      exact rt_ni (mu := (fun _ => False)) C0 (bI_nar _) ⟨rfl, false, rfl⟩ hS rfl dX2_isDivided_49
    · skip
      refine lv_lload hx hb dX2_isDivided_35 (lv_at hl 0 rfl) ?_
      refine lv_lload_n hx hb dX2_isDivided_37 rfl (lv_at hl 3 rfl) ?_
      refine cp_S (As := [.long (lN (u - u / v * v)), .long (lN v)]) (rest := []) C0 hl hK hS hA (c_uLess l g s.heap (u - u / v * v) v hq1 hv) gX2_isDivided_X1_isLess rfl ⟨rfl, rfl⟩ (show hd_ok yX1_isLess 2 from ⟨by decide, by decide, by decide +kernel⟩) ⟨Nat.le_of_ble_eq_true rfl, Nat.le_of_ble_eq_true rfl⟩ rfl (Nat.le_of_ble_eq_true rfl) ⟨Nat.zero_le _, Nat.zero_le _⟩ dX2_isDivided_38 (fun locs hS => ?_)
      refine lv_if_eq (tgt := 48) hx hb dX2_isDivided_41 (by decide) (fun h3 => ?_) (fun h3 => ?_)
      · skip
        refine lv_iconst (v := nI 0) hx hb dX2_isDivided_48 (by decide) ?_
        refine tp_i (y := bI false) (rfl) ?_
        exact rt_ni (mu := (fun _ => False)) C0 (bI_nar _) ⟨rfl, false, rfl⟩ hS rfl dX2_isDivided_49
      · skip
        refine lv_iconst (v := nI 1) hx hb dX2_isDivided_44 (by decide) ?_
        refine lv_goto (tgt := 49) hx hb dX2_isDivided_45 (by decide) ?_
        refine tp_i (y := bI true) (rfl) ?_
        exact rt_ni (mu := (fun _ => False)) C0 (bI_nar _) ⟨rfl, true, rfl⟩ hS rfl dX2_isDivided_49
  · skip
    refine lv_iconst (v := nI 1) hx hb dX2_isDivided_6 (by decide) ?_
    refine tp_i (y := bI true) (rfl) ?_
    exact rt_ni (mu := (fun _ => False)) C0 (bI_nar _) ⟨rfl, true, rfl⟩ hS rfl dX2_isDivided_7
abbrev rmX2_same : Room := { frames := 4, cells := 0, slots := 0, locals := 104 }
set_option maxHeartbeats 4000000 in
set_option maxRecDepth 100000 in
theorem L_xSame (C0 : Cx p s m args meth c RX2 cX2_same 7 (some .int) wsX2_same) (hK : KK g s) (hA : ∀ q, s.heap.size ≤ q → A q) {x0 lc tr tc sr sc : Nat} {i3 i4 i5 i6 : Int32} {V : Nat → Nat} {n : Nat} {t : Nat → Nat} (hL : CL g s.heap x0 lc tr tc sr sc i3 i4 i5 i6 V n t) {d9 u : Nat} (hd9 : d9 < 4) (hu : u < 65536 ^ 4)
    (K : ∀ (x : Int32) (ls : Array Slot) (locs : List Loc), va_S A s.heap s.heap locs → lv_has ls 7 [(5, .int x)] → W p l e rmX2_same s m args below meth c s.heap locs 0 0 Q (F0 m 71 ls [])) :
    ∀ (n9 k : Nat) (x : Int32), k ≤ 8 → 8 - k < n9 → ∀ (ls : Array Slot) (locs : List Loc), va_S A s.heap s.heap locs → lv_has ls 7 [(6, .int (nI k)), (5, .int x), (0, .ref x0), (2, .int (nI d9)), (3, .long (lN u))] → W p l e rmX2_same s m args below meth c s.heap locs 0 0 Q (F0 m 34 ls []) := by
  obtain ⟨hx, hb, hr, hml, hown, hts, hlk⟩ := id C0
  obtain ⟨hC, hR, hSp, hap⟩ := id hL
  obtain ⟨hf, hfl, hlc, ⟨f, hg9, hfv⟩, hV, hxl⟩ := id hC
  intro n9
  induction n9 with
  | zero => intro k x _ h; exact absurd h (Nat.not_lt_zero _)
  | succ n9 ih =>
    intro k x hk hn9 ls locs hS hl
    refine lv_iload hx hb dX2_same_34 (lv_at hl 0 rfl) ?_
    refine lv_bipush (v := nI 8) hx hb dX2_same_36 (by decide) ?_
    refine lv_icmp_ge (tgt := 71) hx hb dX2_same_38 (by decide) (fun h1 => ?_) (fun h1 => ?_)
    · skip
      exact K x ls _ hS (lv_sub hl [1] rfl)
    · skip
      have hk8 : k < 8 := nle_n (by omega) h1
      refine lv_iload_n hx hb dX2_same_41 rfl (lv_at hl 3 rfl) ?_
      refine lv_aload_n hx hb dX2_same_42 rfl (lv_at hl 2 rfl) ?_
      refine va_get (ci := 3) (C := RX2) (T := TX2) (N := 7) (v := .ref lc) hx hb hts (by decide +kernel) hown hK.1 (p1 hf) 0 rfl rfl 0 (by decide) (hts (.fieldLink RX2 9 "Radixbench" "cells" "[J") (by decide +kernel)) (fun _ h9 => h9) rfl dX2_same_43 ?_
      refine lv_iload hx hb dX2_same_46 (lv_at hl 0 rfl) ?_
      refine f_lald (j := k) hx hb hK hg9 (by assumption) (by decide) dX2_same_48 ?_
      refine tp_l (y := lN (V k)) (hfv k (by assumption)) ?_
      refine lv_lload_n hx hb dX2_same_49 rfl (lv_at hl 4 rfl) ?_
      refine cp_S (As := [.int (nI d9), .long (lN (V k)), .long (lN u)]) (rest := []) C0 hl hK hS hA (c_smOf l g s.heap d9 (V k) u hd9 (hV k hk8) hu) gX2_same_X2_isSameOf rfl ⟨rfl, rfl⟩ (show hd_ok yX2_isSameOf 3 from ⟨by decide, by decide, by decide +kernel⟩) ⟨Nat.le_of_ble_eq_true rfl, Nat.le_of_ble_eq_true rfl⟩ rfl (Nat.le_of_ble_eq_true rfl) ⟨Nat.zero_le _, Nat.zero_le _⟩ dX2_same_50 (fun locs hS => ?_)
      refine lv_if_eq (tgt := 65) hx hb dX2_same_53 (by decide) (fun h2 => ?_) (fun h2 => ?_)
      · skip
        refine lv_iinc (v := nI (k + 1)) (lv' := [(6, .int (nI (k + 1))), (5, .int x), (0, .ref x0), (2, .int (nI d9)), (3, .long (lN u))]) hx hb dX2_same_65 hl (k := 0) rfl (nI_1 _) (by decide) rfl (fun ls hl => ?_)
        refine lv_goto (tgt := 34) hx hb dX2_same_68 (by decide) ?_
        exact ih (k + 1) _ (by omega) (by omega) ls _ hS (lv_sub hl [0, 1, 2, 3, 4] rfl)
      · skip
        refine lv_iload hx hb dX2_same_56 (lv_at hl 1 rfl) ?_
        refine lv_iconst (v := nI 1) hx hb dX2_same_58 (by decide) ?_
        refine lv_iload hx hb dX2_same_59 (lv_at hl 0 rfl) ?_
        refine lv_ishl hx hb dX2_same_61 ?_
        refine lv_ior hx hb dX2_same_62 ?_
        refine lv_istore (lv' := [(5, .int (x ||| ((nI 1) <<< ((nI k) &&& 31)))), (6, .int (nI k)), (0, .ref x0), (2, .int (nI d9)), (3, .long (lN u))]) hx hb dX2_same_63 hl (by decide) rfl (fun ls hl => ?_)
        refine lv_iinc (v := nI (k + 1)) (lv' := [(6, .int (nI (k + 1))), (5, .int (x ||| ((nI 1) <<< ((nI k) &&& 31)))), (0, .ref x0), (2, .int (nI d9)), (3, .long (lN u))]) hx hb dX2_same_65 hl (k := 1) rfl (nI_1 _) (by decide) rfl (fun ls hl => ?_)
        refine lv_goto (tgt := 34) hx hb dX2_same_68 (by decide) ?_
        exact ih (k + 1) _ (by omega) (by omega) ls _ hS (lv_sub hl [0, 1, 2, 3, 4] rfl)
set_option maxHeartbeats 4000000 in
set_option maxRecDepth 100000 in
theorem c_xSame (l : Launch) (g : Gx) (b0 : Nat) (H0 : Heap) (x0 lc tr tc sr sc : Nat) (i3 i4 i5 i6 : Int32) (V : Nat → Nat) (n : Nat) (t : Nat → Nat) (hL : CL g H0 x0 lc tr tc sr sc i3 i4 i5 i6 V n t) (hmb : ∀ q : Nat, mC x0 lc tr tc sr sc q → b0 ≤ q) (r9 d9 : Nat) (hr9 : 2 ≤ r9 ∧ r9 ≤ 36) (hd9 : d9 < 4) : Met l yX2_same wsX2_same rmX2_same (va_Pc [.ref x0, .int (nI r9), .int (nI d9)] (hJ g b0 H0)) (nQ H0 (mC x0 lc tr tc sr sc) (zC g x0 lc tr tc sr sc (fun r V2 n2 t2 => (∃ rv : Int32, r = some (.int rv)) ∧ V2 = V ∧ n2 = n ∧ t2 = t))) 0 0 (fun q => (mC x0 lc tr tc sr sc) q ∨ H0.size ≤ q) := by
  refine cx_met (own := RX2) (cc := cX2_same) (maxL := 7) (by decide) rfl rfl (Nat.le_of_ble_eq_true rfl) ?_
  intro p e s m below meth c ls C0 hB0 hnm hl
  obtain ⟨hH, hK, hZ⟩ := hB0
  obtain ⟨hx, hb, hr, hml, hown, hts, hlk⟩ := id C0
  subst hH
  have hS : va_S (fun q => (mC x0 lc tr tc sr sc) q ∨ s.heap.size ≤ q) s.heap s.heap [] := va_S.rf
  have hA : ∀ q : Nat, s.heap.size ≤ q → (fun q => (mC x0 lc tr tc sr sc) q ∨ s.heap.size ≤ q) q := fun q h => Or.inr h
  have h0Z := hZ.1
  have hAb : ∀ q : Nat, (fun q => (mC x0 lc tr tc sr sc) q ∨ s.heap.size ≤ q) q → b0 ≤ q := fun q h => h.elim (hmb q) (fun h => Nat.le_trans h0Z h)
  have hl : lv_has ls 7 [(0, .ref x0), (1, .int (nI r9)), (2, .int (nI d9))] := hl
  obtain ⟨hC, hR, hSp, hap⟩ := id hL
  obtain ⟨hf, hfl, hlc, ⟨f, hg9, hfv⟩, hV, hxl⟩ := id hC
  refine lv_iload_n hx hb dX2_same_0 rfl (lv_at hl 1 rfl) ?_
  refine lv_iload_n hx hb dX2_same_1 rfl (lv_at hl 2 rfl) ?_
  refine cp_S (As := [.int (nI r9), .int (nI d9)]) (rest := []) C0 hl hK hS hA (c_ckRK l g s.heap r9 d9 hr9 hd9) gX2_same_X2_checkRadixAndKind rfl ⟨rfl, rfl⟩ (show hd_ok yX2_checkRadixAndKind 2 from ⟨by decide, by decide, by decide +kernel⟩) ⟨Nat.le_of_ble_eq_true rfl, Nat.le_of_ble_eq_true rfl⟩ rfl (Nat.le_of_ble_eq_true rfl) ⟨Nat.zero_le _, Nat.zero_le _⟩ dX2_same_2 (fun locs hS => ?_)
  refine lv_aload_n hx hb dX2_same_5 rfl (lv_at hl 0 rfl) ?_
  refine va_get (ci := 3) (C := RX2) (T := TX2) (N := 7) (v := .ref tr) hx hb hts (by decide +kernel) hown hK.1 (p1 hf) 0 rfl rfl 1 (by decide) (hts (.fieldLink RX2 16 "Radixbench" "text" "LRadixbench$Row;") (by decide +kernel)) (fun _ h9 => h9) rfl dX2_same_6 ?_
  refine lv_iload_n hx hb dX2_same_9 rfl (lv_at hl 1 rfl) ?_
  refine lv_iload_n hx hb dX2_same_10 rfl (lv_at hl 2 rfl) ?_
  refine jp_V (As := [.int (nI r9), .int (nI d9)]) (rest := []) C0 hl hK hS hA (zat hZ hS hAb) (c_isNo l g b0 s.heap tr tc n t hR r9 d9 hr9 hd9) gX2_same_X0_isNumberOf rfl ⟨rfl, rfl⟩ (hR.recv hK) ⟨rfl, (show hd_ok yX0_isNumberOf 2 from ⟨by decide, by decide, by decide +kernel⟩)⟩ ⟨Nat.le_of_ble_eq_true rfl, Nat.le_of_ble_eq_true rfl⟩ rfl (Nat.le_of_ble_eq_true rfl) ⟨Nat.zero_le _, Nat.zero_le _⟩ dX2_same_11 (fun locs hS => ?_)
  by_cases hsa : saOK r9 n t d9
  · rw [bP_t hsa]
    refine lv_if_ne (tgt := 19) hx hb dX2_same_14 (by decide) (fun h1 => ?_) (fun h1 => absurd h1 (by decide))
    obtain ⟨z1, z2, z3, z4⟩ := nh_sa hr9.2 hd9 hsa
    refine lv_aload_n hx hb dX2_same_19 rfl (lv_at hl 0 rfl) ?_
    refine va_get (ci := 3) (C := RX2) (T := TX2) (N := 7) (v := .ref tr) hx hb hts (by decide +kernel) hown hK.1 (p1 hf) 0 rfl rfl 1 (by decide) (hts (.fieldLink RX2 16 "Radixbench" "text" "LRadixbench$Row;") (by decide +kernel)) (fun _ h9 => h9) rfl dX2_same_20 ?_
    refine lv_iload_n hx hb dX2_same_23 rfl (lv_at hl 1 rfl) ?_
    refine cp_V (As := [.int (nI r9)]) (rest := []) C0 hl hK hS hA (c_held l g s.heap tr tc n t hR r9 hr9 z1 z2 z3) gX2_same_X0_numberHeld rfl ⟨rfl, rfl⟩ (hR.recv hK) ⟨rfl, (show hd_ok yX0_numberHeld 1 from ⟨by decide, by decide, by decide +kernel⟩)⟩ ⟨Nat.le_of_ble_eq_true rfl, Nat.le_of_ble_eq_true rfl⟩ rfl (Nat.le_of_ble_eq_true rfl) ⟨Nat.zero_le _, Nat.zero_le _⟩ dX2_same_24 (fun locs hS => ?_)
    refine tp_l (y := lN (nhN r9 n t % 2 ^ 64)) (lN_m _) ?_
    refine lv_lstore_n (lv' := [(3, .long (lN (nhN r9 n t % 2 ^ 64))), (0, .ref x0), (1, .int (nI r9)), (2, .int (nI d9))]) hx hb dX2_same_27 rfl hl (by decide) rfl (fun ls hl => ?_)
    refine lv_iconst (v := nI 0) hx hb dX2_same_28 (by decide) ?_
    refine lv_istore (lv' := [(5, .int (nI 0)), (3, .long (lN (nhN r9 n t % 2 ^ 64))), (0, .ref x0), (1, .int (nI r9)), (2, .int (nI d9))]) hx hb dX2_same_29 hl (by decide) rfl (fun ls hl => ?_)
    refine lv_iconst (v := nI 0) hx hb dX2_same_31 (by decide) ?_
    refine lv_istore (lv' := [(6, .int (nI 0)), (5, .int (nI 0)), (3, .long (lN (nhN r9 n t % 2 ^ 64))), (0, .ref x0), (1, .int (nI r9)), (2, .int (nI d9))]) hx hb dX2_same_32 hl (by decide) rfl (fun ls hl => ?_)
    refine L_xSame C0 hK hA hL hd9 (u := nhN r9 n t % 2 ^ 64) (Nat.mod_lt _ (by decide)) (fun x ls locs hS hl => ?_) 9 0 _ (by decide) (by decide) ls _ hS (lv_sub hl [0, 1, 3, 5, 2] rfl)
    refine lv_iload hx hb dX2_same_71 (lv_at hl 0 rfl) ?_
    exact rt_ni (mu := mC x0 lc tr tc sr sc) C0 rfl ⟨_, _, _, _, V, n, t, ⟨⟨_, rfl⟩, rfl, rfl, rfl⟩, hL⟩ hS rfl dX2_same_73
  · rw [bP_f hsa]
    refine lv_if_ne (tgt := 19) hx hb dX2_same_14 (by decide) (fun h1 => absurd rfl h1) (fun h1 => ?_)
    refine lv_iconst (v := nI 0) hx hb dX2_same_17 (by decide) ?_
    exact rt_ni (mu := mC x0 lc tr tc sr sc) C0 rfl ⟨_, _, _, _, V, n, t, ⟨⟨_, rfl⟩, rfl, rfl, rfl⟩, hL⟩ hS rfl dX2_same_18
abbrev rmX2_isReadBack : Room := { frames := 4, cells := 0, slots := 0, locals := 104 }
set_option maxHeartbeats 4000000 in
set_option maxRecDepth 100000 in
theorem L_rb1 (C0 : Cx p s m args meth c RX2 cX2_isReadBack 4 (some .boolean) wsX2_isReadBack) (hK : KK g s) (hZ : ZW g b0 s s.heap) (hA : ∀ q, s.heap.size ≤ q → A q) (hAb : ∀ q, A q → b0 ≤ q) {x0 lc tr tc sr sc : Nat} {i3 i4 i5 i6 : Int32} {V : Nat → Nat} {n : Nat} {t : Nat → Nat} (hmA : ∀ q, mC x0 lc tr tc sr sc q → A q) {i : Nat} (hi : i < 8) {r9 : Nat} (hr9 : 2 ≤ r9 ∧ r9 ≤ 36) (Kf : ∀ (ls : Array Slot) (H : Heap) (locs : List Loc), CL g H x0 lc tr tc sr sc i3 i4 i5 i6 V n t → va_S A s.heap H locs → W p l e rmX2_isReadBack s m args below meth c H locs 0 0 Q (F0 m 59 ls []))
    (K : ∀ (ls : Array Slot) (H : Heap) (locs : List Loc), CL g H x0 lc tr tc sr sc i3 i4 i5 i6 V n t → va_S A s.heap H locs → lv_has ls 4 [(2, .int (nI r9)), (1, .int (nI i)), (0, .ref x0)] → W p l e rmX2_isReadBack s m args below meth c H locs 0 0 Q (F0 m 67 ls [])) :
    ∀ (n9 k : Nat), k ≤ 4 → 4 - k < n9 → ∀ (ls : Array Slot) (H : Heap) (locs : List Loc), CL g H x0 lc tr tc sr sc i3 i4 i5 i6 V n t → va_S A s.heap H locs → lv_has ls 4 [(3, .int (nI k)), (2, .int (nI r9)), (1, .int (nI i)), (0, .ref x0)] → W p l e rmX2_isReadBack s m args below meth c H locs 0 0 Q (F0 m 10 ls []) := by
  obtain ⟨hx, hb, hr, hml, hown, hts, hlk⟩ := id C0
  intro n9
  induction n9 with
  | zero => intro k _ h; exact absurd h (Nat.not_lt_zero _)
  | succ n9 ih =>
    intro k hk hn9 ls H locs hL hS hl
    obtain ⟨hC, hR, hSp, hap⟩ := id hL
    obtain ⟨hf, hfl, hlc, ⟨f, hg9, hfv⟩, hV, hxl⟩ := id hC
    obtain ⟨ks, us, hR9⟩ := hSp
    refine lv_iload_n hx hb dX2_isReadBack_10 rfl (lv_at hl 0 rfl) ?_
    refine lv_iconst (v := nI 4) hx hb dX2_isReadBack_11 (by decide) ?_
    refine lv_icmp_ge (tgt := 67) hx hb dX2_isReadBack_12 (by decide) (fun h1 => ?_) (fun h1 => ?_)
    · skip
      exact K ls H _ hL hS (lv_sub hl [1, 2, 3] rfl)
    · skip
      have hk4 : k < 4 := nle_n (by omega) h1
      refine lv_aload_n hx hb dX2_isReadBack_15 rfl (lv_at hl 3 rfl) ?_
      refine lv_aload_n hx hb dX2_isReadBack_16 rfl (lv_at hl 3 rfl) ?_
      refine va_get (ci := 3) (C := RX2) (T := TX2) (N := 7) (v := .ref sr) hx hb hts (by decide +kernel) hown hK.1 (p1 hf) 0 rfl rfl 2 (by decide) (hts (.fieldLink RX2 20 "Radixbench" "spare" "LRadixbench$Row;") (by decide +kernel)) (fun _ h9 => h9) rfl dX2_isReadBack_17 ?_
      refine lv_iload_n hx hb dX2_isReadBack_20 rfl (lv_at hl 2 rfl) ?_
      refine lv_iload_n hx hb dX2_isReadBack_21 rfl (lv_at hl 1 rfl) ?_
      refine lv_iload_n hx hb dX2_isReadBack_22 rfl (lv_at hl 0 rfl) ?_
      refine cn_V (As := [.ref sr, .int (nI i), .int (nI r9), .int (nI k)]) (rest := []) C0 hl hK hS hA (fun q h => hmA q (mC_s h)) (c_tellIn l g H x0 lc _ V hC sr sc ks us hR9 i r9 k hi hr9 hk4) gX2_isReadBack_X2_tellInto rfl ⟨rfl, rfl⟩ (hC.recv hK) ⟨rfl, (show hd_ok yX2_tellInto 4 from ⟨by decide, by decide, by decide +kernel⟩)⟩ ⟨Nat.le_of_ble_eq_true rfl, Nat.le_of_ble_eq_true rfl⟩ rfl (Nat.le_of_ble_eq_true rfl) ⟨Nat.zero_le _, Nat.zero_le _⟩ dX2_isReadBack_23 (fun r1 H1 locs hv hzz hk1 hS => ?_)
      obtain ⟨rfl, k2, t2, hT, hR1⟩ := hv
      have hL1 := hL.setS hR1 hk1
      have hC1 := hL1.1
      obtain ⟨hf1, -, -, ⟨f1, hg1, hfv1⟩, -, -⟩ := id hC1
      refine W.widen (k := 0) (n := 0) (by decide) (by decide) ?_
      refine lv_aload_n hx hb dX2_isReadBack_26 rfl (lv_at hl 3 rfl) ?_
      refine va_get (ci := 3) (C := RX2) (T := TX2) (N := 7) (v := .ref sr) hx hb hts (by decide +kernel) hown hK.1 (p1 hf1) 0 rfl rfl 2 (by decide) (hts (.fieldLink RX2 20 "Radixbench" "spare" "LRadixbench$Row;") (by decide +kernel)) (fun _ h9 => h9) rfl dX2_isReadBack_27 ?_
      refine lv_iload_n hx hb dX2_isReadBack_30 rfl (lv_at hl 1 rfl) ?_
      refine lv_iload_n hx hb dX2_isReadBack_31 rfl (lv_at hl 0 rfl) ?_
      refine jp_V (As := [.int (nI r9), .int (nI k)]) (rest := []) C0 hl hK hS hA (zat hZ hS hAb) (c_isNo l g b0 H1 sr sc k2 t2 hR1 r9 k hr9 hk4) gX2_isReadBack_X0_isNumberOf rfl ⟨rfl, rfl⟩ (hR1.recv hK) ⟨rfl, (show hd_ok yX0_isNumberOf 2 from ⟨by decide, by decide, by decide +kernel⟩)⟩ ⟨Nat.le_of_ble_eq_true rfl, Nat.le_of_ble_eq_true rfl⟩ rfl (Nat.le_of_ble_eq_true rfl) ⟨Nat.zero_le _, Nat.zero_le _⟩ dX2_isReadBack_32 (fun locs hS => ?_)
      by_cases hsa : saOK r9 k2 t2 k
      · rw [bP_t hsa]
        refine lv_if_eq (tgt := 59) hx hb dX2_isReadBack_35 (by decide) (fun h2 => absurd h2 (by decide)) (fun h2 => ?_)
        obtain ⟨z1, z2, z3, z4⟩ := nh_sa hr9.2 hk4 hsa
        refine lv_iload_n hx hb dX2_isReadBack_38 rfl (lv_at hl 0 rfl) ?_
        refine lv_aload_n hx hb dX2_isReadBack_39 rfl (lv_at hl 3 rfl) ?_
        refine va_get (ci := 3) (C := RX2) (T := TX2) (N := 7) (v := .ref lc) hx hb hts (by decide +kernel) hown hK.1 (p1 hf1) 0 rfl rfl 0 (by decide) (hts (.fieldLink RX2 9 "Radixbench" "cells" "[J") (by decide +kernel)) (fun _ h9 => h9) rfl dX2_isReadBack_40 ?_
        refine lv_iload_n hx hb dX2_isReadBack_43 rfl (lv_at hl 2 rfl) ?_
        refine f_lald (j := i) hx hb hK hg1 hi (by decide) dX2_isReadBack_44 ?_
        refine tp_l (y := lN (V i)) (hfv1 i hi) ?_
        refine lv_aload_n hx hb dX2_isReadBack_45 rfl (lv_at hl 3 rfl) ?_
        refine va_get (ci := 3) (C := RX2) (T := TX2) (N := 7) (v := .ref sr) hx hb hts (by decide +kernel) hown hK.1 (p1 hf1) 0 rfl rfl 2 (by decide) (hts (.fieldLink RX2 20 "Radixbench" "spare" "LRadixbench$Row;") (by decide +kernel)) (fun _ h9 => h9) rfl dX2_isReadBack_46 ?_
        refine lv_iload_n hx hb dX2_isReadBack_49 rfl (lv_at hl 1 rfl) ?_
        refine cp_V (As := [.int (nI r9)]) (rest := [.long (lN (V i)), .int (nI k)]) C0 hl hK hS hA (c_held l g H1 sr sc k2 t2 hR1 r9 hr9 z1 z2 z3) gX2_isReadBack_X0_numberHeld rfl ⟨rfl, rfl⟩ (hR1.recv hK) ⟨rfl, (show hd_ok yX0_numberHeld 1 from ⟨by decide, by decide, by decide +kernel⟩)⟩ ⟨Nat.le_of_ble_eq_true rfl, Nat.le_of_ble_eq_true rfl⟩ rfl (Nat.le_of_ble_eq_true rfl) ⟨Nat.zero_le _, Nat.zero_le _⟩ dX2_isReadBack_50 (fun locs hS => ?_)
        refine tp_l (y := lN (nhN r9 k2 t2 % 2 ^ 64)) (lN_m _) ?_
        refine cp_S (As := [.int (nI k), .long (lN (V i)), .long (lN (nhN r9 k2 t2 % 2 ^ 64))]) (rest := []) C0 hl hK hS hA (c_smOf l g H1 k (V i) (nhN r9 k2 t2 % 2 ^ 64) hk4 (hV i hi) (Nat.mod_lt _ (by decide))) gX2_isReadBack_X2_isSameOf rfl ⟨rfl, rfl⟩ (show hd_ok yX2_isSameOf 3 from ⟨by decide, by decide, by decide +kernel⟩) ⟨Nat.le_of_ble_eq_true rfl, Nat.le_of_ble_eq_true rfl⟩ rfl (Nat.le_of_ble_eq_true rfl) ⟨Nat.zero_le _, Nat.zero_le _⟩ dX2_isReadBack_53 (fun locs hS => ?_)
        refine lv_if_ne (tgt := 61) hx hb dX2_isReadBack_56 (by decide) (fun h3 => ?_) (fun h3 => ?_)
        · skip
          refine lv_iinc (v := nI (k + 1)) (lv' := [(3, .int (nI (k + 1))), (2, .int (nI r9)), (1, .int (nI i)), (0, .ref x0)]) hx hb dX2_isReadBack_61 hl (k := 0) rfl (nI_1 _) (by decide) rfl (fun ls hl => ?_)
          refine lv_goto (tgt := 10) hx hb dX2_isReadBack_64 (by decide) ?_
          exact ih (k + 1) (by omega) (by omega) ls H1 _ hL1 hS (lv_sub hl [0, 1, 2, 3] rfl)
        · skip
          exact Kf ls H1 _ hL1 hS
      · rw [bP_f hsa]
        refine lv_if_eq (tgt := 59) hx hb dX2_isReadBack_35 (by decide) (fun h2 => ?_) (fun h2 => absurd rfl h2)
        exact Kf ls H1 _ hL1 hS
set_option maxHeartbeats 4000000 in
set_option maxRecDepth 100000 in
theorem L_rb2 (C0 : Cx p s m args meth c RX2 cX2_isReadBack 4 (some .boolean) wsX2_isReadBack) (hK : KK g s) (hZ : ZW g b0 s s.heap) (hA : ∀ q, s.heap.size ≤ q → A q) (hAb : ∀ q, A q → b0 ≤ q) {x0 lc tr tc sr sc : Nat} {i3 i4 i5 i6 : Int32} {V : Nat → Nat} {n : Nat} {t : Nat → Nat} (hmA : ∀ q, mC x0 lc tr tc sr sc q → A q) {i : Nat} (hi : i < 8) (Kf : ∀ (ls : Array Slot) (H : Heap) (locs : List Loc), CL g H x0 lc tr tc sr sc i3 i4 i5 i6 V n t → va_S A s.heap H locs → W p l e rmX2_isReadBack s m args below meth c H locs 0 0 Q (F0 m 59 ls []))
    (K : ∀ (ls : Array Slot) (H : Heap) (locs : List Loc), CL g H x0 lc tr tc sr sc i3 i4 i5 i6 V n t → va_S A s.heap H locs → W p l e rmX2_isReadBack s m args below meth c H locs 0 0 Q (F0 m 73 ls [])) :
    ∀ (n9 r9 : Nat), 2 ≤ r9 → 37 - r9 < n9 → ∀ (ls : Array Slot) (H : Heap) (locs : List Loc), r9 ≤ 37 → CL g H x0 lc tr tc sr sc i3 i4 i5 i6 V n t → va_S A s.heap H locs → lv_has ls 4 [(2, .int (nI r9)), (1, .int (nI i)), (0, .ref x0)] → W p l e rmX2_isReadBack s m args below meth c H locs 0 0 Q (F0 m 2 ls []) := by
  obtain ⟨hx, hb, hr, hml, hown, hts, hlk⟩ := id C0
  intro n9
  induction n9 with
  | zero => intro r9 _ h; exact absurd h (Nat.not_lt_zero _)
  | succ n9 ih =>
    intro r9 h2 hn9 ls H locs h37 hL hS hl
    refine lv_iload_n hx hb dX2_isReadBack_2 rfl (lv_at hl 0 rfl) ?_
    refine lv_bipush (v := nI 36) hx hb dX2_isReadBack_3 (by decide) ?_
    refine lv_icmp_gt (tgt := 73) hx hb dX2_isReadBack_5 (by decide) (fun h1 => ?_) (fun h1 => ?_)
    · skip
      exact K ls H _ hL hS
    · skip
      have h36 : r9 ≤ 36 := nlt_n (by omega) h1
      refine lv_iconst (v := nI 0) hx hb dX2_isReadBack_8 (by decide) ?_
      refine lv_istore_n (lv' := [(3, .int (nI 0)), (2, .int (nI r9)), (1, .int (nI i)), (0, .ref x0)]) hx hb dX2_isReadBack_9 rfl hl (by decide) rfl (fun ls hl => ?_)
      refine L_rb1 C0 hK hZ hA hAb hmA hi ⟨h2, h36⟩ Kf (fun ls H locs hL hS hl => ?_) 5 0 (by decide) (by decide) ls H _ hL hS (lv_sub hl [0, 1, 2, 3] rfl)
      refine lv_iinc (v := nI (r9 + 1)) (lv' := [(2, .int (nI (r9 + 1))), (1, .int (nI i)), (0, .ref x0)]) hx hb dX2_isReadBack_67 hl (k := 0) rfl (nI_1 _) (by decide) rfl (fun ls hl => ?_)
      refine lv_goto (tgt := 2) hx hb dX2_isReadBack_70 (by decide) ?_
      exact ih (r9 + 1) (by omega) (by omega) ls H _ (by omega) hL hS (lv_sub hl [0, 1, 2] rfl)
set_option maxHeartbeats 4000000 in
set_option maxRecDepth 100000 in
theorem c_xReadBack (l : Launch) (g : Gx) (b0 : Nat) (H0 : Heap) (x0 lc tr tc sr sc : Nat) (i3 i4 i5 i6 : Int32) (V : Nat → Nat) (n : Nat) (t : Nat → Nat) (hL : CL g H0 x0 lc tr tc sr sc i3 i4 i5 i6 V n t) (hmb : ∀ q : Nat, mC x0 lc tr tc sr sc q → b0 ≤ q) (i : Nat) (hi : i < 8) : Met l yX2_isReadBack wsX2_isReadBack rmX2_isReadBack (va_Pc [.ref x0, .int (nI i)] (hJ g b0 H0)) (nQ H0 (mC x0 lc tr tc sr sc) (zC g x0 lc tr tc sr sc (fun r V2 n2 t2 => (∃ b : Bool, r = some (.int (bI b))) ∧ V2 = V ∧ n2 = n ∧ t2 = t))) 0 0 (fun q => (mC x0 lc tr tc sr sc) q ∨ H0.size ≤ q) := by
  refine cx_met (own := RX2) (cc := cX2_isReadBack) (maxL := 4) (by decide) rfl rfl (Nat.le_of_ble_eq_true rfl) ?_
  intro p e s m below meth c ls C0 hB0 hnm hl
  obtain ⟨hH, hK, hZ⟩ := hB0
  obtain ⟨hx, hb, hr, hml, hown, hts, hlk⟩ := id C0
  subst hH
  have hS : va_S (fun q => (mC x0 lc tr tc sr sc) q ∨ s.heap.size ≤ q) s.heap s.heap [] := va_S.rf
  have hA : ∀ q : Nat, s.heap.size ≤ q → (fun q => (mC x0 lc tr tc sr sc) q ∨ s.heap.size ≤ q) q := fun q h => Or.inr h
  have h0Z := hZ.1
  have hAb : ∀ q : Nat, (fun q => (mC x0 lc tr tc sr sc) q ∨ s.heap.size ≤ q) q → b0 ≤ q := fun q h => h.elim (hmb q) (fun h => Nat.le_trans h0Z h)
  have hl : lv_has ls 4 [(0, .ref x0), (1, .int (nI i))] := hl
  obtain ⟨hC, hR, hSp, hap⟩ := id hL
  obtain ⟨hf, hfl, hlc, ⟨f, hg9, hfv⟩, hV, hxl⟩ := id hC
  refine lv_iconst (v := nI 2) hx hb dX2_isReadBack_0 (by decide) ?_
  refine lv_istore_n (lv' := [(2, .int (nI 2)), (0, .ref x0), (1, .int (nI i))]) hx hb dX2_isReadBack_1 rfl hl (by decide) rfl (fun ls hl => ?_)
  refine L_rb2 C0 hK hZ hA hAb (fun q h => Or.inl h) hi (fun ls H locs hL hS => ?_) (fun ls H locs hL hS => ?_) 36 2 (by decide) (by decide) ls s.heap _ (by decide) hL hS (lv_sub hl [0, 2, 1] rfl)
  · skip
    refine lv_iconst (v := nI 0) hx hb dX2_isReadBack_59 (by decide) ?_
    refine tp_i (y := bI false) (rfl) ?_
    exact rt_ni (mu := mC x0 lc tr tc sr sc) C0 (bI_nar _) ⟨_, _, _, _, V, n, t, ⟨⟨false, rfl⟩, rfl, rfl, rfl⟩, hL⟩ hS rfl dX2_isReadBack_60
  · skip
    refine lv_iconst (v := nI 1) hx hb dX2_isReadBack_73 (by decide) ?_
    refine tp_i (y := bI true) (rfl) ?_
    exact rt_ni (mu := mC x0 lc tr tc sr sc) C0 (bI_nar _) ⟨_, _, _, _, V, n, t, ⟨⟨true, rfl⟩, rfl, rfl, rfl⟩, hL⟩ hS rfl dX2_isReadBack_74
end M69

-- EXACT ANSWERS: rest, compare, digit, same
theorem cmpI_c (u v : Nat) : cmpI u v = -1 ∨ cmpI u v = nI 0 ∨ cmpI u v = nI 1 := by
  unfold cmpI
  split
  · exact Or.inl rfl
  · split
    · exact Or.inr (Or.inl rfl)
    · exact Or.inr (Or.inr rfl)
theorem cmpS_c (n u v : Nat) : cmpS n u v = -1 ∨ cmpS n u v = nI 0 ∨ cmpS n u v = nI 1 := by
  unfold cmpS
  split
  · exact cmpI_c u v
  · split
    · exact Or.inl rfl
    · exact Or.inr (Or.inr rfl)
theorem cS_m {zi : Bool} {u v : Nat} (hu : u < 65536 ^ nP zi) (hv : v < 65536 ^ nP zi) (h : lN (wideN (nP zi) u) < lN (wideN (nP zi) v)) : cmpS (nP zi - 1 + 1) u v = -1 := by
  have h1 := (cmpS_lt hu hv).1.mpr h
  rcases cmpS_c (nP zi - 1 + 1) u v with e | e | e
  · exact e
  · rw [e] at h1; exact absurd h1 (by decide)
  · rw [e] at h1; exact absurd h1 (by decide)
theorem cS_1 {zi : Bool} {u v : Nat} (hu : u < 65536 ^ nP zi) (hv : v < 65536 ^ nP zi) (h : ¬ lN (wideN (nP zi) u) < lN (wideN (nP zi) v)) (hn : lN (wideN (nP zi) u) ≠ lN (wideN (nP zi) v)) : cmpS (nP zi - 1 + 1) u v = nI 1 := by
  have h2 : lN (wideN (nP zi) v) < lN (wideN (nP zi) u) := by
    have h3 := Int64.le_iff_toInt_le.mp (Int64.not_lt.mp h)
    have h4 : (lN (wideN (nP zi) u)).toInt ≠ (lN (wideN (nP zi) v)).toInt := fun z => hn (Int64.toInt_inj.mp z)
    exact Int64.lt_iff_toInt_lt.mpr (by omega)
  have h1 := (cmpS_lt hu hv).2.mpr h2
  rcases cmpS_c (nP zi - 1 + 1) u v with e | e | e
  · rw [e] at h1; exact absurd h1 (by decide)
  · rw [e] at h1; exact absurd h1 (by decide)
  · exact e
theorem cS_0 {zi : Bool} {u v : Nat} (hu : u < 65536 ^ nP zi) (hv : v < 65536 ^ nP zi) (h : lN (wideN (nP zi) u) = lN (wideN (nP zi) v)) : cmpS (nP zi - 1 + 1) u v = nI 0 := by
  have h1 : ¬ cmpS (nP zi - 1 + 1) u v < 0 := fun z => by
    have := (cmpS_lt hu hv).1.mp z
    rw [h] at this
    exact Int64.lt_irrefl this
  have h2 : ¬ cmpS (nP zi - 1 + 1) u v > 0 := fun z => by
    have := (cmpS_lt hu hv).2.mp z
    rw [h] at this
    exact Int64.lt_irrefl this
  rcases cmpS_c (nP zi - 1 + 1) u v with e | e | e
  · rw [e] at h1; exact absurd (by decide) h1
  · exact e
  · rw [e] at h2; exact absurd (by decide) h2
theorem smN_lt (V : Nat → Nat) (m w : Nat) : ∀ k, smN V m w k < 2 ^ k
  | 0 => by show 0 < 1; decide
  | k + 1 => by
    have h := smN_lt V m w k
    show (if w = V k % 65536 ^ m then smN V m w k + 2 ^ k else smN V m w k) < 2 ^ (k + 1)
    have e : 2 ^ (k + 1) = 2 ^ k + 2 ^ k := by rw [Nat.pow_succ]; omega
    split <;> omega
theorem or_pl : ∀ k, k < 8 → ∀ q, q < 2 ^ k → nI q ||| (nI 1 <<< (nI k &&& 31)) = nI (q + 2 ^ k) := by decide +kernel
theorem sm_1 {V : Nat → Nat} {m w k : Nat} (h : w = V k % 65536 ^ m) : smN V m w (k + 1) = smN V m w k + 2 ^ k := if_pos h
theorem sm_0 {V : Nat → Nat} {m w k : Nat} (h : ¬ w = V k % 65536 ^ m) : smN V m w (k + 1) = smN V m w k := if_neg h
theorem wor_lt (c : Nat) : wor c < 100 := by
  unfold wor
  split
  · omega
  · split
    · omega
    · split
      · omega
      · omega
theorem dg_eq (c r : Nat) (hr : r ≤ 36) : dgO c (nI r) = dgC c r := by
  have h9 := wor_lt c
  unfold dgO dgC
  by_cases h : wor c < r
  · rw [if_pos h, if_neg (nI_ge h (by omega))]
  · rw [if_neg h, if_pos (nI_le (by omega) (by omega))]
/-- what same answers -/
def SMQ (V : Nat → Nat) (n : Nat) (t : Nat → Nat) (r9 d9 : Nat) (q : Int32) : Prop := (saOK r9 n t d9 ∧ q = nI (smN V (nP (decide (d9 < 2))) (saV r9 n t d9) 8)) ∨ (¬ saOK r9 n t d9 ∧ q = nI 0)
theorem SMQ_uq {V : Nat → Nat} {n : Nat} {t : Nat → Nat} {r9 d9 : Nat} {q q' : Int32} (h : SMQ V n t r9 d9 q) (h' : SMQ V n t r9 d9 q') : q' = q := by
  rcases h with ⟨h1, h2⟩ | ⟨h1, h2⟩ <;> rcases h' with ⟨h3, h4⟩ | ⟨h3, h4⟩
  · exact h4.trans h2.symm
  · exact absurd h1 h3
  · exact absurd h3 h1
  · exact h4.trans h2.symm
theorem d01 {d : Nat} : decide (d = 0 ∨ d = 1) = decide (d < 2) := by
  by_cases h : d < 2
  · rw [decide_eq_true h, decide_eq_true (by omega)]
  · rw [decide_eq_false h, decide_eq_false (by omega)]
section M91
variable {p : Program} {l : Launch} {e : Env} {s : State} {m : MethodId} {args : Array Value} {below : List Frame} {meth : Method} {c : Code} {H H0 : Heap} {locs : List Loc} {cells slots : Nat} {Q : State → Prop} {A : Nat → Prop} {g : Gx} {b0 : Nat}
set_option maxHeartbeats 4000000 in
set_option maxRecDepth 100000 in
theorem c_xRestE (l : Launch) (g : Gx) (H0 : Heap) (x0 lc tr tc sr sc : Nat) (i3 i4 i5 i6 : Int32) (V : Nat → Nat) (n : Nat) (t : Nat → Nat) (hL : CL g H0 x0 lc tr tc sr sc i3 i4 i5 i6 V n t) (i j : Nat) (zi : Bool) (hi : i < 8) (hj : j < 8) (hnz : V j % 65536 ^ nP zi ≠ 0) : Met l yX2_rest wsX2_rest rmX2_rest (va_Pc [.ref x0, .int (nI i), .int (nI j), .int (bI zi)] (hB g H0)) (nQ H0 (mC x0 lc tr tc sr sc) (zC g x0 lc tr tc sr sc (fun r V2 n2 t2 => r = some (.int (bI (decide ((V i % 65536 ^ nP zi) % (V j % 65536 ^ nP zi) = 0)))) ∧ n2 = n ∧ t2 = t ∧ V2 = va_up V i (wideN (nP zi) ((V i % 65536 ^ nP zi) % (V j % 65536 ^ nP zi)))))) 0 0 (fun q => (mC x0 lc tr tc sr sc) q ∨ H0.size ≤ q) := by
  refine cx_met (own := RX2) (cc := cX2_rest) (maxL := 10) (by decide) rfl rfl (Nat.le_of_ble_eq_true rfl) ?_
  intro p e s m below meth c ls C0 hB0 hnm hl
  obtain ⟨hH, hK⟩ := hB0
  obtain ⟨hx, hb, hr, hml, hown, hts, hlk⟩ := id C0
  subst hH
  have hS : va_S (fun q => (mC x0 lc tr tc sr sc) q ∨ s.heap.size ≤ q) s.heap s.heap [] := va_S.rf
  have hA : ∀ q : Nat, s.heap.size ≤ q → (fun q => (mC x0 lc tr tc sr sc) q ∨ s.heap.size ≤ q) q := fun q h => Or.inr h
  have hl : lv_has ls 10 [(0, .ref x0), (1, .int (nI i)), (2, .int (nI j)), (3, .int (bI zi))] := hl
  obtain ⟨hC, hR, hSp, hap⟩ := id hL
  obtain ⟨hf, hfl, hlc, ⟨f, hg9, hfv⟩, hV, hxl⟩ := id hC
  have hM9 : 0 < 65536 ^ nP zi := Nat.pow_pos (by decide)
  have hN9 : V i % 65536 ^ nP zi < 65536 ^ nP zi := Nat.mod_lt _ hM9
  have hD9 : V j % 65536 ^ nP zi < 65536 ^ nP zi := Nat.mod_lt _ hM9
  have hM4 : 65536 ^ nP zi ≤ 2 ^ 64 := by cases zi <;> decide
  have hq0 : (V i % 65536 ^ nP zi) / (V j % 65536 ^ nP zi) * (V j % 65536 ^ nP zi) ≤ V i % 65536 ^ nP zi := Nat.div_mul_le_self _ _
  have hq1 : (V i % 65536 ^ nP zi) / (V j % 65536 ^ nP zi) ≤ V i % 65536 ^ nP zi := Nat.div_le_self _ _
  have hem : V i % 65536 ^ nP zi - (V i % 65536 ^ nP zi) / (V j % 65536 ^ nP zi) * (V j % 65536 ^ nP zi) = (V i % 65536 ^ nP zi) % (V j % 65536 ^ nP zi) := by have := Nat.div_add_mod (V i % 65536 ^ nP zi) (V j % 65536 ^ nP zi); rw [Nat.mul_comm] at this; omega
  have hr9 : (V i % 65536 ^ nP zi) % (V j % 65536 ^ nP zi) ≤ V i % 65536 ^ nP zi := Nat.mod_le _ _
  have hw9 : wideN (nP zi) ((V i % 65536 ^ nP zi) % (V j % 65536 ^ nP zi)) < 65536 ^ 4 := wideN_lt (nP_or _) (by omega)
  have hs9 : wideN (nP zi) ((V i % 65536 ^ nP zi) % (V j % 65536 ^ nP zi) % 65536 ^ nP zi) = wideN (nP zi) ((V i % 65536 ^ nP zi) % (V j % 65536 ^ nP zi)) := congrArg _ (Nat.mod_eq_of_lt (by omega))
  refine lv_iload_n hx hb dX2_rest_0 rfl (lv_at hl 1 rfl) ?_
  refine cp_S (As := [.int (nI i)]) (rest := []) C0 hl hK hS hA (c_ckCell l g s.heap i (by assumption)) gX2_rest_X2_checkCell rfl ⟨rfl, rfl⟩ (show hd_ok yX2_checkCell 1 from ⟨by decide, by decide, by decide +kernel⟩) ⟨Nat.le_of_ble_eq_true rfl, Nat.le_of_ble_eq_true rfl⟩ rfl (Nat.le_of_ble_eq_true rfl) ⟨Nat.zero_le _, Nat.zero_le _⟩ dX2_rest_1 (fun locs hS => ?_)
  refine lv_iload_n hx hb dX2_rest_4 rfl (lv_at hl 2 rfl) ?_
  refine cp_S (As := [.int (nI j)]) (rest := []) C0 hl hK hS hA (c_ckCell l g s.heap j (by assumption)) gX2_rest_X2_checkCell rfl ⟨rfl, rfl⟩ (show hd_ok yX2_checkCell 1 from ⟨by decide, by decide, by decide +kernel⟩) ⟨Nat.le_of_ble_eq_true rfl, Nat.le_of_ble_eq_true rfl⟩ rfl (Nat.le_of_ble_eq_true rfl) ⟨Nat.zero_le _, Nat.zero_le _⟩ dX2_rest_5 (fun locs hS => ?_)
  refine lv_aload_n hx hb dX2_rest_8 rfl (lv_at hl 0 rfl) ?_
  refine lv_iload_n hx hb dX2_rest_9 rfl (lv_at hl 2 rfl) ?_
  refine lv_iload_n hx hb dX2_rest_10 rfl (lv_at hl 3 rfl) ?_
  refine cp_V (As := [.int (nI j), .int (bI zi)]) (rest := []) C0 hl hK hS hA (c_ckDiv l g s.heap x0 lc _ V hC j zi hj hnz) gX2_rest_X2_checkDivisor rfl ⟨rfl, rfl⟩ (hC.recv hK) ⟨rfl, (show hd_ok yX2_checkDivisor 2 from ⟨by decide, by decide, by decide +kernel⟩)⟩ ⟨Nat.le_of_ble_eq_true rfl, Nat.le_of_ble_eq_true rfl⟩ rfl (Nat.le_of_ble_eq_true rfl) ⟨Nat.zero_le _, Nat.zero_le _⟩ dX2_rest_11 (fun locs hS => ?_)
  refine lv_aload_n hx hb dX2_rest_14 rfl (lv_at hl 0 rfl) ?_
  refine lv_iload_n hx hb dX2_rest_15 rfl (lv_at hl 1 rfl) ?_
  refine lv_iload_n hx hb dX2_rest_16 rfl (lv_at hl 3 rfl) ?_
  refine cp_V (As := [.int (nI i), .int (bI zi)]) (rest := []) C0 hl hK hS hA (c_unsOf l g s.heap x0 lc _ V hC i zi (by assumption)) gX2_rest_X2_unsignedOf rfl ⟨rfl, rfl⟩ (hC.recv hK) ⟨rfl, (show hd_ok yX2_unsignedOf 2 from ⟨by decide, by decide, by decide +kernel⟩)⟩ ⟨Nat.le_of_ble_eq_true rfl, Nat.le_of_ble_eq_true rfl⟩ rfl (Nat.le_of_ble_eq_true rfl) ⟨Nat.zero_le _, Nat.zero_le _⟩ dX2_rest_17 (fun locs hS => ?_)
  refine lv_lstore (lv' := [(4, .long (lN (V i % 65536 ^ nP zi))), (0, .ref x0), (1, .int (nI i)), (2, .int (nI j)), (3, .int (bI zi))]) hx hb dX2_rest_20 hl (by decide) rfl (fun ls hl => ?_)
  refine lv_aload_n hx hb dX2_rest_22 rfl (lv_at hl 1 rfl) ?_
  refine lv_iload_n hx hb dX2_rest_23 rfl (lv_at hl 3 rfl) ?_
  refine lv_iload_n hx hb dX2_rest_24 rfl (lv_at hl 4 rfl) ?_
  refine cp_V (As := [.int (nI j), .int (bI zi)]) (rest := []) C0 hl hK hS hA (c_unsOf l g s.heap x0 lc _ V hC j zi (by assumption)) gX2_rest_X2_unsignedOf rfl ⟨rfl, rfl⟩ (hC.recv hK) ⟨rfl, (show hd_ok yX2_unsignedOf 2 from ⟨by decide, by decide, by decide +kernel⟩)⟩ ⟨Nat.le_of_ble_eq_true rfl, Nat.le_of_ble_eq_true rfl⟩ rfl (Nat.le_of_ble_eq_true rfl) ⟨Nat.zero_le _, Nat.zero_le _⟩ dX2_rest_25 (fun locs hS => ?_)
  refine lv_lstore (lv' := [(6, .long (lN (V j % 65536 ^ nP zi))), (4, .long (lN (V i % 65536 ^ nP zi))), (0, .ref x0), (1, .int (nI i)), (2, .int (nI j)), (3, .int (bI zi))]) hx hb dX2_rest_28 hl (by decide) rfl (fun ls hl => ?_)
  refine lv_lload hx hb dX2_rest_30 (lv_at hl 1 rfl) ?_
  refine lv_lload hx hb dX2_rest_32 (lv_at hl 1 rfl) ?_
  refine lv_lload hx hb dX2_rest_34 (lv_at hl 0 rfl) ?_
  refine cp_S (As := [.long (lN (V i % 65536 ^ nP zi)), .long (lN (V j % 65536 ^ nP zi))]) (rest := [.long (lN (V i % 65536 ^ nP zi))]) C0 hl hK hS hA (c_uQuo l g s.heap (V i % 65536 ^ nP zi) (V j % 65536 ^ nP zi) (by omega) (by omega)) gX2_rest_X1_quotient rfl ⟨rfl, rfl⟩ (show hd_ok yX1_quotient 2 from ⟨by decide, by decide, by decide +kernel⟩) ⟨Nat.le_of_ble_eq_true rfl, Nat.le_of_ble_eq_true rfl⟩ rfl (Nat.le_of_ble_eq_true rfl) ⟨Nat.zero_le _, Nat.zero_le _⟩ dX2_rest_36 (fun locs hS => ?_)
  refine lv_lload hx hb dX2_rest_39 (lv_at hl 0 rfl) ?_
  refine lv_lmul hx hb dX2_rest_41 ?_
  refine tp_l (y := lN ((V i % 65536 ^ nP zi) / (V j % 65536 ^ nP zi) * (V j % 65536 ^ nP zi))) (lN_mul _ _) ?_
  refine lv_lsub hx hb dX2_rest_42 ?_
  refine tp_l (y := lN ((V i % 65536 ^ nP zi) % (V j % 65536 ^ nP zi))) ((lN_sub hq0).trans (congrArg lN hem)) ?_
  refine lv_lstore (lv' := [(8, .long (lN ((V i % 65536 ^ nP zi) % (V j % 65536 ^ nP zi)))), (6, .long (lN (V j % 65536 ^ nP zi))), (4, .long (lN (V i % 65536 ^ nP zi))), (0, .ref x0), (1, .int (nI i)), (2, .int (nI j)), (3, .int (bI zi))]) hx hb dX2_rest_43 hl (by decide) rfl (fun ls hl => ?_)
  refine lv_aload_n hx hb dX2_rest_45 rfl (lv_at hl 3 rfl) ?_
  refine lv_iload_n hx hb dX2_rest_46 rfl (lv_at hl 4 rfl) ?_
  refine lv_lload hx hb dX2_rest_47 (lv_at hl 0 rfl) ?_
  refine lv_iload_n hx hb dX2_rest_49 rfl (lv_at hl 6 rfl) ?_
  refine cp_S (As := [.long (lN ((V i % 65536 ^ nP zi) % (V j % 65536 ^ nP zi))), .int (bI zi)]) (rest := [.int (nI i), .ref x0]) C0 hl hK hS hA (c_setting l g s.heap ((V i % 65536 ^ nP zi) % (V j % 65536 ^ nP zi)) zi (by show _ < 2 ^ 64; omega)) gX2_rest_X2_setting rfl ⟨rfl, rfl⟩ (show hd_ok yX2_setting 2 from ⟨by decide, by decide, by decide +kernel⟩) ⟨Nat.le_of_ble_eq_true rfl, Nat.le_of_ble_eq_true rfl⟩ rfl (Nat.le_of_ble_eq_true rfl) ⟨Nat.zero_le _, Nat.zero_le _⟩ dX2_rest_50 (fun locs hS => ?_)
  refine tp_l (y := lN (wideN (nP zi) ((V i % 65536 ^ nP zi) % (V j % 65536 ^ nP zi)))) ((by rw [hs9])) ?_
  refine cn_V (As := [.int (nI i), .long (lN (wideN (nP zi) ((V i % 65536 ^ nP zi) % (V j % 65536 ^ nP zi))))]) (rest := []) C0 hl hK hS hA (fun q h => Or.inl (mC_l h)) (c_becC l g s.heap x0 lc _ V hC i (wideN (nP zi) ((V i % 65536 ^ nP zi) % (V j % 65536 ^ nP zi))) (by assumption) hw9) gX2_rest_X2_become rfl ⟨rfl, rfl⟩ (hC.recv hK) ⟨rfl, (show hd_ok yX2_become 2 from ⟨by decide, by decide, by decide +kernel⟩)⟩ ⟨Nat.le_of_ble_eq_true rfl, Nat.le_of_ble_eq_true rfl⟩ rfl (Nat.le_of_ble_eq_true rfl) ⟨Nat.zero_le _, Nat.zero_le _⟩ dX2_rest_53 (fun r1 H1 locs hv hzz hk1 hS => ?_)
  obtain ⟨rfl, hC1⟩ := hv
  refine lv_pop hx hb dX2_rest_56 rfl ?_
  refine lv_lload hx hb dX2_rest_57 (lv_at hl 0 rfl) ?_
  refine lv_lconst (v := lN 0) hx hb dX2_rest_59 rfl ?_
  refine W.lcmp hx hb dX2_rest_60 ?_
  refine lv_if_ne (tgt := 68) hx hb dX2_rest_61 (by decide) (fun h1 => ?_) (fun h1 => ?_)
  · skip
    refine lv_iconst (v := nI 0) hx hb dX2_rest_68 (by decide) ?_
    refine tp_i (y := bI (decide ((V i % 65536 ^ nP zi) % (V j % 65536 ^ nP zi) = 0))) ((by rw [decide_eq_false (fun z => lc_ne h1 (congrArg lN z))]; rfl)) ?_
    refine W.widen (k := 0) (n := 0) (by decide) (by decide) ?_
    exact rt_ni (mu := mC x0 lc tr tc sr sc) C0 (bI_nar _) ⟨_, _, _, _, _, n, t, ⟨rfl, rfl, rfl, rfl⟩, hL.setV hC1 hk1⟩ hS rfl dX2_rest_69
  · skip
    refine lv_iconst (v := nI 1) hx hb dX2_rest_64 (by decide) ?_
    refine lv_goto (tgt := 69) hx hb dX2_rest_65 (by decide) ?_
    refine tp_i (y := bI (decide ((V i % 65536 ^ nP zi) % (V j % 65536 ^ nP zi) = 0))) ((by rw [decide_eq_true ((lN_inj (by omega) (by decide)).mp (lc_eq h1))]; rfl)) ?_
    refine W.widen (k := 0) (n := 0) (by decide) (by decide) ?_
    exact rt_ni (mu := mC x0 lc tr tc sr sc) C0 (bI_nar _) ⟨_, _, _, _, _, n, t, ⟨rfl, rfl, rfl, rfl⟩, hL.setV hC1 hk1⟩ hS rfl dX2_rest_69
set_option maxHeartbeats 4000000 in
set_option maxRecDepth 100000 in
theorem c_xCompareE (l : Launch) (g : Gx) (H0 : Heap) (x0 lc tr tc sr sc : Nat) (i3 i4 i5 i6 : Int32) (V : Nat → Nat) (n : Nat) (t : Nat → Nat) (hL : CL g H0 x0 lc tr tc sr sc i3 i4 i5 i6 V n t) (i j : Nat) (zu zi : Bool) (hi : i < 8) (hj : j < 8) : Met l yX2_compare wsX2_compare rmX2_compare (va_Pc [.ref x0, .int (nI i), .int (nI j), .int (bI zu), .int (bI zi)] (hB g H0)) (nQ H0 (mC x0 lc tr tc sr sc) (zC g x0 lc tr tc sr sc (fun r V2 n2 t2 => r = some (.int (if zu = true then cmpI (V i % 65536 ^ nP zi) (V j % 65536 ^ nP zi) else cmpS (nP zi - 1 + 1) (V i % 65536 ^ nP zi) (V j % 65536 ^ nP zi))) ∧ V2 = V ∧ n2 = n ∧ t2 = t))) 0 0 (fun q => (mC x0 lc tr tc sr sc) q ∨ H0.size ≤ q) := by
  refine cx_met (own := RX2) (cc := cX2_compare) (maxL := 10) (by decide) rfl rfl (Nat.le_of_ble_eq_true rfl) ?_
  intro p e s m below meth c ls C0 hB0 hnm hl
  obtain ⟨hH, hK⟩ := hB0
  obtain ⟨hx, hb, hr, hml, hown, hts, hlk⟩ := id C0
  subst hH
  have hS : va_S (fun q => (mC x0 lc tr tc sr sc) q ∨ s.heap.size ≤ q) s.heap s.heap [] := va_S.rf
  have hA : ∀ q : Nat, s.heap.size ≤ q → (fun q => (mC x0 lc tr tc sr sc) q ∨ s.heap.size ≤ q) q := fun q h => Or.inr h
  have hl : lv_has ls 10 [(0, .ref x0), (1, .int (nI i)), (2, .int (nI j)), (3, .int (bI zu)), (4, .int (bI zi))] := hl
  obtain ⟨hC, hR, hSp, hap⟩ := id hL
  obtain ⟨hf, hfl, hlc, ⟨f, hg9, hfv⟩, hV, hxl⟩ := id hC
  have hM9 : 0 < 65536 ^ nP zi := Nat.pow_pos (by decide)
  have hM4 : 65536 ^ nP zi ≤ 2 ^ 64 := by cases zi <;> decide
  have hN9 : V i % 65536 ^ nP zi < 65536 ^ nP zi := Nat.mod_lt _ hM9
  have hD9 : V j % 65536 ^ nP zi < 65536 ^ nP zi := Nat.mod_lt _ hM9
  refine lv_iload_n hx hb dX2_compare_0 rfl (lv_at hl 1 rfl) ?_
  refine cp_S (As := [.int (nI i)]) (rest := []) C0 hl hK hS hA (c_ckCell l g s.heap i (by assumption)) gX2_compare_X2_checkCell rfl ⟨rfl, rfl⟩ (show hd_ok yX2_checkCell 1 from ⟨by decide, by decide, by decide +kernel⟩) ⟨Nat.le_of_ble_eq_true rfl, Nat.le_of_ble_eq_true rfl⟩ rfl (Nat.le_of_ble_eq_true rfl) ⟨Nat.zero_le _, Nat.zero_le _⟩ dX2_compare_1 (fun locs hS => ?_)
  refine lv_iload_n hx hb dX2_compare_4 rfl (lv_at hl 2 rfl) ?_
  refine cp_S (As := [.int (nI j)]) (rest := []) C0 hl hK hS hA (c_ckCell l g s.heap j (by assumption)) gX2_compare_X2_checkCell rfl ⟨rfl, rfl⟩ (show hd_ok yX2_checkCell 1 from ⟨by decide, by decide, by decide +kernel⟩) ⟨Nat.le_of_ble_eq_true rfl, Nat.le_of_ble_eq_true rfl⟩ rfl (Nat.le_of_ble_eq_true rfl) ⟨Nat.zero_le _, Nat.zero_le _⟩ dX2_compare_5 (fun locs hS => ?_)
  refine lv_iload_n hx hb dX2_compare_8 rfl (lv_at hl 3 rfl) ?_
  refine lv_if_eq (tgt := 22) hx hb dX2_compare_9 (by decide) (fun h1 => ?_) (fun h1 => ?_)
  · skip
    refine lv_aload_n hx hb dX2_compare_22 rfl (lv_at hl 0 rfl) ?_
    refine lv_iload_n hx hb dX2_compare_23 rfl (lv_at hl 1 rfl) ?_
    refine lv_iload hx hb dX2_compare_24 (lv_at hl 4 rfl) ?_
    refine cp_V (As := [.int (nI i), .int (bI zi)]) (rest := []) C0 hl hK hS hA (c_sgnOf l g s.heap x0 lc _ V hC i zi (by assumption)) gX2_compare_X2_signedOf rfl ⟨rfl, rfl⟩ (hC.recv hK) ⟨rfl, (show hd_ok yX2_signedOf 2 from ⟨by decide, by decide, by decide +kernel⟩)⟩ ⟨Nat.le_of_ble_eq_true rfl, Nat.le_of_ble_eq_true rfl⟩ rfl (Nat.le_of_ble_eq_true rfl) ⟨Nat.zero_le _, Nat.zero_le _⟩ dX2_compare_26 (fun locs hS => ?_)
    refine lv_lstore (lv' := [(5, .long (lN (wideN (nP zi) (V i % 65536 ^ nP zi)))), (0, .ref x0), (1, .int (nI i)), (2, .int (nI j)), (3, .int (bI zu)), (4, .int (bI zi))]) hx hb dX2_compare_29 hl (by decide) rfl (fun ls hl => ?_)
    refine lv_iload_n hx hb dX2_compare_31 rfl (lv_at hl 4 rfl) ?_
    refine lv_if_eq (tgt := 45) hx hb dX2_compare_32 (by decide) (fun h2 => ?_) (fun h2 => absurd (bI_n0 h2) (by rw [bI_0 h1]; decide))
    refine lv_aload_n hx hb dX2_compare_45 rfl (lv_at hl 1 rfl) ?_
    refine lv_iload_n hx hb dX2_compare_46 rfl (lv_at hl 3 rfl) ?_
    refine lv_iload hx hb dX2_compare_47 (lv_at hl 5 rfl) ?_
    refine cp_V (As := [.int (nI j), .int (bI zi)]) (rest := []) C0 hl hK hS hA (c_sgnOf l g s.heap x0 lc _ V hC j zi (by assumption)) gX2_compare_X2_signedOf rfl ⟨rfl, rfl⟩ (hC.recv hK) ⟨rfl, (show hd_ok yX2_signedOf 2 from ⟨by decide, by decide, by decide +kernel⟩)⟩ ⟨Nat.le_of_ble_eq_true rfl, Nat.le_of_ble_eq_true rfl⟩ rfl (Nat.le_of_ble_eq_true rfl) ⟨Nat.zero_le _, Nat.zero_le _⟩ dX2_compare_49 (fun locs hS => ?_)
    refine lv_lstore (lv' := [(7, .long (lN (wideN (nP zi) (V j % 65536 ^ nP zi)))), (5, .long (lN (wideN (nP zi) (V i % 65536 ^ nP zi)))), (0, .ref x0), (1, .int (nI i)), (2, .int (nI j)), (3, .int (bI zu)), (4, .int (bI zi))]) hx hb dX2_compare_52 hl (by decide) rfl (fun ls hl => ?_)
    refine lv_lload hx hb dX2_compare_54 (lv_at hl 1 rfl) ?_
    refine lv_lload hx hb dX2_compare_56 (lv_at hl 0 rfl) ?_
    refine W.lcmp hx hb dX2_compare_58 ?_
    refine lv_if_ne (tgt := 64) hx hb dX2_compare_59 (by decide) (fun h3 => ?_) (fun h3 => ?_)
    · skip
      refine lv_iload_n hx hb dX2_compare_64 rfl (lv_at hl 5 rfl) ?_
      refine lv_if_eq (tgt := 78) hx hb dX2_compare_65 (by decide) (fun h4 => ?_) (fun h4 => absurd (bI_n0 h4) (by rw [bI_0 h1]; decide))
      refine lv_lload hx hb dX2_compare_78 (lv_at hl 1 rfl) ?_
      refine lv_lload hx hb dX2_compare_80 (lv_at hl 0 rfl) ?_
      refine W.lcmp hx hb dX2_compare_82 ?_
      refine lv_if_ge (tgt := 90) hx hb dX2_compare_83 (by decide) (fun h5 => ?_) (fun h5 => ?_)
      · skip
        refine lv_iconst (v := nI 0) hx hb dX2_compare_90 (by decide) ?_
        refine lv_istore (lv' := [(9, .int (nI 0)), (7, .long (lN (wideN (nP zi) (V j % 65536 ^ nP zi)))), (5, .long (lN (wideN (nP zi) (V i % 65536 ^ nP zi)))), (0, .ref x0), (1, .int (nI i)), (2, .int (nI j)), (3, .int (bI zu)), (4, .int (bI zi))]) hx hb dX2_compare_91 hl (by decide) rfl (fun ls hl => ?_)
        refine lv_iload hx hb dX2_compare_93 (lv_at hl 0 rfl) ?_
        refine lv_if_eq (tgt := 102) hx hb dX2_compare_95 (by decide) (fun h6 => ?_) (fun h6 => absurd rfl h6)
        refine lv_iconst (v := nI 1) hx hb dX2_compare_102 (by decide) ?_
        refine tp_i (y := if zu = true then cmpI (V i % 65536 ^ nP zi) (V j % 65536 ^ nP zi) else cmpS (nP zi - 1 + 1) (V i % 65536 ^ nP zi) (V j % 65536 ^ nP zi)) ((by rw [if_neg (by rw [bI_0 h1]; decide)]; exact (cS_1 hN9 hD9 (lc_ge h5) (lc_ne h3)).symm)) ?_
        exact rt_ni (mu := mC x0 lc tr tc sr sc) C0 rfl ⟨_, _, _, _, V, n, t, ⟨rfl, rfl, rfl, rfl⟩, hL⟩ hS rfl dX2_compare_103
      · skip
        refine lv_iconst (v := nI 1) hx hb dX2_compare_86 (by decide) ?_
        refine lv_goto (tgt := 91) hx hb dX2_compare_87 (by decide) ?_
        refine lv_istore (lv' := [(9, .int (nI 1)), (7, .long (lN (wideN (nP zi) (V j % 65536 ^ nP zi)))), (5, .long (lN (wideN (nP zi) (V i % 65536 ^ nP zi)))), (0, .ref x0), (1, .int (nI i)), (2, .int (nI j)), (3, .int (bI zu)), (4, .int (bI zi))]) hx hb dX2_compare_91 hl (by decide) rfl (fun ls hl => ?_)
        refine lv_iload hx hb dX2_compare_93 (lv_at hl 0 rfl) ?_
        refine lv_if_eq (tgt := 102) hx hb dX2_compare_95 (by decide) (fun h6 => absurd h6 (by decide)) (fun h6 => ?_)
        refine lv_iconst (v := (-1)) hx hb dX2_compare_98 (by decide) ?_
        refine lv_goto (tgt := 103) hx hb dX2_compare_99 (by decide) ?_
        refine tp_i (y := if zu = true then cmpI (V i % 65536 ^ nP zi) (V j % 65536 ^ nP zi) else cmpS (nP zi - 1 + 1) (V i % 65536 ^ nP zi) (V j % 65536 ^ nP zi)) ((by rw [if_neg (by rw [bI_0 h1]; decide)]; exact (cS_m hN9 hD9 (lc_nge h5)).symm)) ?_
        exact rt_ni (mu := mC x0 lc tr tc sr sc) C0 rfl ⟨_, _, _, _, V, n, t, ⟨rfl, rfl, rfl, rfl⟩, hL⟩ hS rfl dX2_compare_103
    · skip
      refine lv_iconst (v := nI 0) hx hb dX2_compare_62 (by decide) ?_
      refine tp_i (y := if zu = true then cmpI (V i % 65536 ^ nP zi) (V j % 65536 ^ nP zi) else cmpS (nP zi - 1 + 1) (V i % 65536 ^ nP zi) (V j % 65536 ^ nP zi)) ((by rw [if_neg (by rw [bI_0 h1]; decide)]; exact (cS_0 hN9 hD9 (lc_eq h3)).symm)) ?_
      exact rt_ni (mu := mC x0 lc tr tc sr sc) C0 rfl ⟨_, _, _, _, V, n, t, ⟨rfl, rfl, rfl, rfl⟩, hL⟩ hS rfl dX2_compare_63
  · skip
    refine lv_aload_n hx hb dX2_compare_12 rfl (lv_at hl 0 rfl) ?_
    refine lv_iload_n hx hb dX2_compare_13 rfl (lv_at hl 1 rfl) ?_
    refine lv_iload hx hb dX2_compare_14 (lv_at hl 4 rfl) ?_
    refine cp_V (As := [.int (nI i), .int (bI zi)]) (rest := []) C0 hl hK hS hA (c_unsOf l g s.heap x0 lc _ V hC i zi (by assumption)) gX2_compare_X2_unsignedOf rfl ⟨rfl, rfl⟩ (hC.recv hK) ⟨rfl, (show hd_ok yX2_unsignedOf 2 from ⟨by decide, by decide, by decide +kernel⟩)⟩ ⟨Nat.le_of_ble_eq_true rfl, Nat.le_of_ble_eq_true rfl⟩ rfl (Nat.le_of_ble_eq_true rfl) ⟨Nat.zero_le _, Nat.zero_le _⟩ dX2_compare_16 (fun locs hS => ?_)
    refine lv_goto (tgt := 29) hx hb dX2_compare_19 (by decide) ?_
    refine lv_lstore (lv' := [(5, .long (lN (V i % 65536 ^ nP zi))), (0, .ref x0), (1, .int (nI i)), (2, .int (nI j)), (3, .int (bI zu)), (4, .int (bI zi))]) hx hb dX2_compare_29 hl (by decide) rfl (fun ls hl => ?_)
    refine lv_iload_n hx hb dX2_compare_31 rfl (lv_at hl 4 rfl) ?_
    refine lv_if_eq (tgt := 45) hx hb dX2_compare_32 (by decide) (fun h2 => absurd (bI_0 h2) (by rw [bI_n0 h1]; decide)) (fun h2 => ?_)
    refine lv_aload_n hx hb dX2_compare_35 rfl (lv_at hl 1 rfl) ?_
    refine lv_iload_n hx hb dX2_compare_36 rfl (lv_at hl 3 rfl) ?_
    refine lv_iload hx hb dX2_compare_37 (lv_at hl 5 rfl) ?_
    refine cp_V (As := [.int (nI j), .int (bI zi)]) (rest := []) C0 hl hK hS hA (c_unsOf l g s.heap x0 lc _ V hC j zi (by assumption)) gX2_compare_X2_unsignedOf rfl ⟨rfl, rfl⟩ (hC.recv hK) ⟨rfl, (show hd_ok yX2_unsignedOf 2 from ⟨by decide, by decide, by decide +kernel⟩)⟩ ⟨Nat.le_of_ble_eq_true rfl, Nat.le_of_ble_eq_true rfl⟩ rfl (Nat.le_of_ble_eq_true rfl) ⟨Nat.zero_le _, Nat.zero_le _⟩ dX2_compare_39 (fun locs hS => ?_)
    refine lv_goto (tgt := 52) hx hb dX2_compare_42 (by decide) ?_
    refine lv_lstore (lv' := [(7, .long (lN (V j % 65536 ^ nP zi))), (5, .long (lN (V i % 65536 ^ nP zi))), (0, .ref x0), (1, .int (nI i)), (2, .int (nI j)), (3, .int (bI zu)), (4, .int (bI zi))]) hx hb dX2_compare_52 hl (by decide) rfl (fun ls hl => ?_)
    refine lv_lload hx hb dX2_compare_54 (lv_at hl 1 rfl) ?_
    refine lv_lload hx hb dX2_compare_56 (lv_at hl 0 rfl) ?_
    refine W.lcmp hx hb dX2_compare_58 ?_
    refine lv_if_ne (tgt := 64) hx hb dX2_compare_59 (by decide) (fun h3 => ?_) (fun h3 => ?_)
    · skip
      refine lv_iload_n hx hb dX2_compare_64 rfl (lv_at hl 5 rfl) ?_
      refine lv_if_eq (tgt := 78) hx hb dX2_compare_65 (by decide) (fun h4 => absurd (bI_0 h4) (by rw [bI_n0 h1]; decide)) (fun h4 => ?_)
      refine lv_lload hx hb dX2_compare_68 (lv_at hl 1 rfl) ?_
      refine lv_lload hx hb dX2_compare_70 (lv_at hl 0 rfl) ?_
      refine cp_S (As := [.long (lN (V i % 65536 ^ nP zi)), .long (lN (V j % 65536 ^ nP zi))]) (rest := []) C0 hl hK hS hA (c_uLess l g s.heap (V i % 65536 ^ nP zi) (V j % 65536 ^ nP zi) (by omega) (by omega)) gX2_compare_X1_isLess rfl ⟨rfl, rfl⟩ (show hd_ok yX1_isLess 2 from ⟨by decide, by decide, by decide +kernel⟩) ⟨Nat.le_of_ble_eq_true rfl, Nat.le_of_ble_eq_true rfl⟩ rfl (Nat.le_of_ble_eq_true rfl) ⟨Nat.zero_le _, Nat.zero_le _⟩ dX2_compare_72 (fun locs hS => ?_)
      refine lv_goto (tgt := 91) hx hb dX2_compare_75 (by decide) ?_
      refine lv_istore (lv' := [(9, .int (bI (decide (V i % 65536 ^ nP zi < V j % 65536 ^ nP zi)))), (7, .long (lN (V j % 65536 ^ nP zi))), (5, .long (lN (V i % 65536 ^ nP zi))), (0, .ref x0), (1, .int (nI i)), (2, .int (nI j)), (3, .int (bI zu)), (4, .int (bI zi))]) hx hb dX2_compare_91 hl (by decide) rfl (fun ls hl => ?_)
      refine lv_iload hx hb dX2_compare_93 (lv_at hl 0 rfl) ?_
      refine lv_if_eq (tgt := 102) hx hb dX2_compare_95 (by decide) (fun h5 => ?_) (fun h5 => ?_)
      · skip
        refine lv_iconst (v := nI 1) hx hb dX2_compare_102 (by decide) ?_
        refine tp_i (y := if zu = true then cmpI (V i % 65536 ^ nP zi) (V j % 65536 ^ nP zi) else cmpS (nP zi - 1 + 1) (V i % 65536 ^ nP zi) (V j % 65536 ^ nP zi)) ((by rw [if_pos (bI_n0 h1)]; exact ((if_neg (of_decide_eq_false (bI_0 h5))).trans (if_neg (fun z => lc_ne h3 (congrArg lN z)))).symm)) ?_
        exact rt_ni (mu := mC x0 lc tr tc sr sc) C0 rfl ⟨_, _, _, _, V, n, t, ⟨rfl, rfl, rfl, rfl⟩, hL⟩ hS rfl dX2_compare_103
      · skip
        refine lv_iconst (v := (-1)) hx hb dX2_compare_98 (by decide) ?_
        refine lv_goto (tgt := 103) hx hb dX2_compare_99 (by decide) ?_
        refine tp_i (y := if zu = true then cmpI (V i % 65536 ^ nP zi) (V j % 65536 ^ nP zi) else cmpS (nP zi - 1 + 1) (V i % 65536 ^ nP zi) (V j % 65536 ^ nP zi)) ((by rw [if_pos (bI_n0 h1)]; exact (if_pos (of_decide_eq_true (bI_n0 h5))).symm)) ?_
        exact rt_ni (mu := mC x0 lc tr tc sr sc) C0 rfl ⟨_, _, _, _, V, n, t, ⟨rfl, rfl, rfl, rfl⟩, hL⟩ hS rfl dX2_compare_103
    · skip
      refine lv_iconst (v := nI 0) hx hb dX2_compare_62 (by decide) ?_
      refine tp_i (y := if zu = true then cmpI (V i % 65536 ^ nP zi) (V j % 65536 ^ nP zi) else cmpS (nP zi - 1 + 1) (V i % 65536 ^ nP zi) (V j % 65536 ^ nP zi)) ((by rw [if_pos (bI_n0 h1)]; exact ((if_neg (fun z => absurd ((lN_inj (by omega) (by omega)).mp (lc_eq h3)) (Nat.ne_of_lt z))).trans (if_pos ((lN_inj (by omega) (by omega)).mp (lc_eq h3)))).symm)) ?_
      exact rt_ni (mu := mC x0 lc tr tc sr sc) C0 rfl ⟨_, _, _, _, V, n, t, ⟨rfl, rfl, rfl, rfl⟩, hL⟩ hS rfl dX2_compare_63
set_option maxHeartbeats 4000000 in
set_option maxRecDepth 100000 in
theorem c_xDigitE (l : Launch) (g : Gx) (H0 : Heap) (x0 lc tr tc sr sc : Nat) (i3 i4 i5 i6 : Int32) (V : Nat → Nat) (n : Nat) (t : Nat → Nat) (hL : CL g H0 x0 lc tr tc sr sc i3 i4 i5 i6 V n t) (j r9 : Nat) (hj : j < n) (hr9 : 2 ≤ r9 ∧ r9 ≤ 36) : Met l yX2_digit wsX2_digit rmX2_digit (va_Pc [.ref x0, .int (nI j), .int (nI r9)] (hB g H0)) (nQ H0 (mC x0 lc tr tc sr sc) (zC g x0 lc tr tc sr sc (fun r V2 n2 t2 => r = some (.int (dgC (t j) r9)) ∧ V2 = V ∧ n2 = n ∧ t2 = t))) 0 0 (fun q => (mC x0 lc tr tc sr sc) q ∨ H0.size ≤ q) := by
  refine cx_met (own := RX2) (cc := cX2_digit) (maxL := 3) (by decide) rfl rfl (Nat.le_of_ble_eq_true rfl) ?_
  intro p e s m below meth c ls C0 hB0 hnm hl
  obtain ⟨hH, hK⟩ := hB0
  obtain ⟨hx, hb, hr, hml, hown, hts, hlk⟩ := id C0
  subst hH
  have hS : va_S (fun q => (mC x0 lc tr tc sr sc) q ∨ s.heap.size ≤ q) s.heap s.heap [] := va_S.rf
  have hA : ∀ q : Nat, s.heap.size ≤ q → (fun q => (mC x0 lc tr tc sr sc) q ∨ s.heap.size ≤ q) q := fun q h => Or.inr h
  have hl : lv_has ls 3 [(0, .ref x0), (1, .int (nI j)), (2, .int (nI r9))] := hl
  obtain ⟨hC, hR, hSp, hap⟩ := id hL
  obtain ⟨hf, hfl, hlc, ⟨f, hg9, hfv⟩, hV, hxl⟩ := id hC
  obtain ⟨-, -, -, -, hn70, -, -⟩ := id hR
  refine lv_iload_n hx hb dX2_digit_0 rfl (lv_at hl 1 rfl) ?_
  refine lv_if_lt (tgt := 15) hx hb dX2_digit_1 (by decide) (fun h1 => absurd h1 (nI_pos (by omega))) (fun h1 => ?_)
  refine lv_iload_n hx hb dX2_digit_4 rfl (lv_at hl 1 rfl) ?_
  refine lv_aload_n hx hb dX2_digit_5 rfl (lv_at hl 0 rfl) ?_
  refine va_get (ci := 3) (C := RX2) (T := TX2) (N := 7) (v := .ref tr) hx hb hts (by decide +kernel) hown hK.1 (p1 hf) 0 rfl rfl 1 (by decide) (hts (.fieldLink RX2 16 "Radixbench" "text" "LRadixbench$Row;") (by decide +kernel)) (fun _ h9 => h9) rfl dX2_digit_6 ?_
  refine cp_V (As := []) (rest := [.int (nI j)]) C0 hl hK hS hA (c_rSize l g s.heap tr tc n t hR) gX2_digit_X0_size rfl ⟨rfl, rfl⟩ (hR.recv hK) ⟨rfl, (show hd_ok yX0_size 0 from ⟨by decide, by decide, by decide +kernel⟩)⟩ ⟨Nat.le_of_ble_eq_true rfl, Nat.le_of_ble_eq_true rfl⟩ rfl (Nat.le_of_ble_eq_true rfl) ⟨Nat.zero_le _, Nat.zero_le _⟩ dX2_digit_9 (fun locs hS => ?_)
  refine lv_icmp_lt (tgt := 25) hx hb dX2_digit_12 (by decide) (fun h2 => ?_) (fun h2 => absurd (nI_lt hj (by omega)) h2)
  refine lv_iload_n hx hb dX2_digit_25 rfl (lv_at hl 2 rfl) ?_
  refine cp_S (As := [.int (nI r9)]) (rest := []) C0 hl hK hS hA (c_ckRad l g s.heap r9 hr9) gX2_digit_X2_checkRadix rfl ⟨rfl, rfl⟩ (show hd_ok yX2_checkRadix 1 from ⟨by decide, by decide, by decide +kernel⟩) ⟨Nat.le_of_ble_eq_true rfl, Nat.le_of_ble_eq_true rfl⟩ rfl (Nat.le_of_ble_eq_true rfl) ⟨Nat.zero_le _, Nat.zero_le _⟩ dX2_digit_26 (fun locs hS => ?_)
  refine lv_aload_n hx hb dX2_digit_29 rfl (lv_at hl 0 rfl) ?_
  refine va_get (ci := 3) (C := RX2) (T := TX2) (N := 7) (v := .ref tr) hx hb hts (by decide +kernel) hown hK.1 (p1 hf) 0 rfl rfl 1 (by decide) (hts (.fieldLink RX2 16 "Radixbench" "text" "LRadixbench$Row;") (by decide +kernel)) (fun _ h9 => h9) rfl dX2_digit_30 ?_
  refine lv_iload_n hx hb dX2_digit_33 rfl (lv_at hl 1 rfl) ?_
  refine lv_iload_n hx hb dX2_digit_34 rfl (lv_at hl 2 rfl) ?_
  refine cp_V (As := [.int (nI j), .int (nI r9)]) (rest := []) C0 hl hK hS hA (c_dgAt l g s.heap tr tc n t hR j r9 hj hr9.2) gX2_digit_X0_digitAt rfl ⟨rfl, rfl⟩ (hR.recv hK) ⟨rfl, (show hd_ok yX0_digitAt 2 from ⟨by decide, by decide, by decide +kernel⟩)⟩ ⟨Nat.le_of_ble_eq_true rfl, Nat.le_of_ble_eq_true rfl⟩ rfl (Nat.le_of_ble_eq_true rfl) ⟨Nat.zero_le _, Nat.zero_le _⟩ dX2_digit_35 (fun locs hS => ?_)
  exact rt_ni (mu := mC x0 lc tr tc sr sc) C0 rfl ⟨_, _, _, _, V, n, t, ⟨rfl, rfl, rfl, rfl⟩, hL⟩ hS rfl dX2_digit_38
set_option maxHeartbeats 4000000 in
set_option maxRecDepth 100000 in
theorem L_xSameE (C0 : Cx p s m args meth c RX2 cX2_same 7 (some .int) wsX2_same) (hK : KK g s) (hA : ∀ q, s.heap.size ≤ q → A q) {x0 lc tr tc sr sc : Nat} {i3 i4 i5 i6 : Int32} {V : Nat → Nat} {n : Nat} {t : Nat → Nat} (hL : CL g s.heap x0 lc tr tc sr sc i3 i4 i5 i6 V n t) {d9 u w9 : Nat} (hd9 : d9 < 4) (hu : u < 65536 ^ 4) (hw9 : u % 65536 ^ (nP (decide (d9 < 2))) = w9)
    (K : ∀ (ls : Array Slot) (locs : List Loc), va_S A s.heap s.heap locs → lv_has ls 7 [(5, .int (nI (smN V (nP (decide (d9 < 2))) w9 8)))] → W p l e rmX2_same s m args below meth c s.heap locs 0 0 Q (F0 m 71 ls [])) :
    ∀ (n9 k : Nat), k ≤ 8 → 8 - k < n9 → ∀ (ls : Array Slot) (locs : List Loc), va_S A s.heap s.heap locs → lv_has ls 7 [(6, .int (nI k)), (5, .int (nI (smN V (nP (decide (d9 < 2))) w9 k))), (0, .ref x0), (2, .int (nI d9)), (3, .long (lN u))] → W p l e rmX2_same s m args below meth c s.heap locs 0 0 Q (F0 m 34 ls []) := by
  obtain ⟨hx, hb, hr, hml, hown, hts, hlk⟩ := id C0
  obtain ⟨hC, hR, hSp, hap⟩ := id hL
  obtain ⟨hf, hfl, hlc, ⟨f, hg9, hfv⟩, hV, hxl⟩ := id hC
  intro n9
  induction n9 with
  | zero => intro k _ h; exact absurd h (Nat.not_lt_zero _)
  | succ n9 ih =>
    intro k hk hn9 ls locs hS hl
    refine lv_iload hx hb dX2_same_34 (lv_at hl 0 rfl) ?_
    refine lv_bipush (v := nI 8) hx hb dX2_same_36 (by decide) ?_
    refine lv_icmp_ge (tgt := 71) hx hb dX2_same_38 (by decide) (fun h1 => ?_) (fun h1 => ?_)
    · skip
      have h2 := le_n (by decide) h1
      obtain rfl : k = 8 := by omega
      exact K ls _ hS (lv_sub hl [1] rfl)
    · skip
      have hk8 : k < 8 := nle_n (by omega) h1
      refine lv_iload_n hx hb dX2_same_41 rfl (lv_at hl 3 rfl) ?_
      refine lv_aload_n hx hb dX2_same_42 rfl (lv_at hl 2 rfl) ?_
      refine va_get (ci := 3) (C := RX2) (T := TX2) (N := 7) (v := .ref lc) hx hb hts (by decide +kernel) hown hK.1 (p1 hf) 0 rfl rfl 0 (by decide) (hts (.fieldLink RX2 9 "Radixbench" "cells" "[J") (by decide +kernel)) (fun _ h9 => h9) rfl dX2_same_43 ?_
      refine lv_iload hx hb dX2_same_46 (lv_at hl 0 rfl) ?_
      refine f_lald (j := k) hx hb hK hg9 (by assumption) (by decide) dX2_same_48 ?_
      refine tp_l (y := lN (V k)) (hfv k (by assumption)) ?_
      refine lv_lload_n hx hb dX2_same_49 rfl (lv_at hl 4 rfl) ?_
      refine cp_S (As := [.int (nI d9), .long (lN (V k)), .long (lN u)]) (rest := []) C0 hl hK hS hA (c_smOf l g s.heap d9 (V k) u hd9 (hV k hk8) hu) gX2_same_X2_isSameOf rfl ⟨rfl, rfl⟩ (show hd_ok yX2_isSameOf 3 from ⟨by decide, by decide, by decide +kernel⟩) ⟨Nat.le_of_ble_eq_true rfl, Nat.le_of_ble_eq_true rfl⟩ rfl (Nat.le_of_ble_eq_true rfl) ⟨Nat.zero_le _, Nat.zero_le _⟩ dX2_same_50 (fun locs hS => ?_)
      have hq9 : (wideN (nP (decide (d9 = 0 ∨ d9 = 1))) (V k % 65536 ^ nP (decide (d9 = 0 ∨ d9 = 1))) = wideN (nP (decide (d9 = 0 ∨ d9 = 1))) (u % 65536 ^ nP (decide (d9 = 0 ∨ d9 = 1)))) ↔ w9 = V k % 65536 ^ (nP (decide (d9 < 2))) := by
        rw [d01, hw9]
        have h7 : w9 < 65536 ^ (nP (decide (d9 < 2))) := by rw [← hw9]; exact Nat.mod_lt _ (Nat.pow_pos (by decide))
        refine ⟨fun z => ?_, fun z => by rw [z]⟩
        have z1 := congrArg (fun y => y % 65536 ^ (nP (decide (d9 < 2)))) z
        rw [wideN_mod (nP_or _) (Nat.mod_lt _ (Nat.pow_pos (by decide))), wideN_mod (nP_or _) h7] at z1
        exact z1.symm
      refine lv_if_eq (tgt := 65) hx hb dX2_same_53 (by decide) (fun h2 => ?_) (fun h2 => ?_)
      · skip
        refine lv_iinc (v := nI (k + 1)) (lv' := [(6, .int (nI (k + 1))), (5, .int (nI (smN V (nP (decide (d9 < 2))) w9 k))), (0, .ref x0), (2, .int (nI d9)), (3, .long (lN u))]) hx hb dX2_same_65 hl (k := 0) rfl (nI_1 _) (by decide) rfl (fun ls hl => ?_)
        refine lv_goto (tgt := 34) hx hb dX2_same_68 (by decide) ?_
        have es := sm_0 (fun z => of_decide_eq_false (bI_0 h2) (hq9.mpr z))
        refine ih (k + 1) (by omega) (by omega) ls _ hS ?_
        rw [es]
        exact lv_sub hl [0, 1, 2, 3, 4] rfl
      · skip
        refine lv_iload hx hb dX2_same_56 (lv_at hl 1 rfl) ?_
        refine lv_iconst (v := nI 1) hx hb dX2_same_58 (by decide) ?_
        refine lv_iload hx hb dX2_same_59 (lv_at hl 0 rfl) ?_
        refine lv_ishl hx hb dX2_same_61 ?_
        refine lv_ior hx hb dX2_same_62 ?_
        refine tp_i (y := nI (smN V (nP (decide (d9 < 2))) w9 k + 2 ^ k)) (or_pl k hk8 _ (smN_lt _ _ _ k)) ?_
        refine lv_istore (lv' := [(5, .int (nI (smN V (nP (decide (d9 < 2))) w9 k + 2 ^ k))), (6, .int (nI k)), (0, .ref x0), (2, .int (nI d9)), (3, .long (lN u))]) hx hb dX2_same_63 hl (by decide) rfl (fun ls hl => ?_)
        refine lv_iinc (v := nI (k + 1)) (lv' := [(6, .int (nI (k + 1))), (5, .int (nI (smN V (nP (decide (d9 < 2))) w9 k + 2 ^ k))), (0, .ref x0), (2, .int (nI d9)), (3, .long (lN u))]) hx hb dX2_same_65 hl (k := 1) rfl (nI_1 _) (by decide) rfl (fun ls hl => ?_)
        refine lv_goto (tgt := 34) hx hb dX2_same_68 (by decide) ?_
        have es := sm_1 (hq9.mp (of_decide_eq_true (bI_n0 h2)))
        refine ih (k + 1) (by omega) (by omega) ls _ hS ?_
        rw [es]
        exact lv_sub hl [0, 1, 2, 3, 4] rfl
set_option maxHeartbeats 4000000 in
set_option maxRecDepth 100000 in
theorem c_xSameE (l : Launch) (g : Gx) (b0 : Nat) (H0 : Heap) (x0 lc tr tc sr sc : Nat) (i3 i4 i5 i6 : Int32) (V : Nat → Nat) (n : Nat) (t : Nat → Nat) (hL : CL g H0 x0 lc tr tc sr sc i3 i4 i5 i6 V n t) (hmb : ∀ q : Nat, mC x0 lc tr tc sr sc q → b0 ≤ q) (r9 d9 : Nat) (hr9 : 2 ≤ r9 ∧ r9 ≤ 36) (hd9 : d9 < 4) : Met l yX2_same wsX2_same rmX2_same (va_Pc [.ref x0, .int (nI r9), .int (nI d9)] (hJ g b0 H0)) (nQ H0 (mC x0 lc tr tc sr sc) (zC g x0 lc tr tc sr sc (fun r V2 n2 t2 => (∃ q9 : Int32, r = some (.int q9) ∧ SMQ V n t r9 d9 q9) ∧ V2 = V ∧ n2 = n ∧ t2 = t))) 0 0 (fun q => (mC x0 lc tr tc sr sc) q ∨ H0.size ≤ q) := by
  refine cx_met (own := RX2) (cc := cX2_same) (maxL := 7) (by decide) rfl rfl (Nat.le_of_ble_eq_true rfl) ?_
  intro p e s m below meth c ls C0 hB0 hnm hl
  obtain ⟨hH, hK, hZ⟩ := hB0
  obtain ⟨hx, hb, hr, hml, hown, hts, hlk⟩ := id C0
  subst hH
  have hS : va_S (fun q => (mC x0 lc tr tc sr sc) q ∨ s.heap.size ≤ q) s.heap s.heap [] := va_S.rf
  have hA : ∀ q : Nat, s.heap.size ≤ q → (fun q => (mC x0 lc tr tc sr sc) q ∨ s.heap.size ≤ q) q := fun q h => Or.inr h
  have h0Z := hZ.1
  have hAb : ∀ q : Nat, (fun q => (mC x0 lc tr tc sr sc) q ∨ s.heap.size ≤ q) q → b0 ≤ q := fun q h => h.elim (hmb q) (fun h => Nat.le_trans h0Z h)
  have hl : lv_has ls 7 [(0, .ref x0), (1, .int (nI r9)), (2, .int (nI d9))] := hl
  obtain ⟨hC, hR, hSp, hap⟩ := id hL
  obtain ⟨hf, hfl, hlc, ⟨f, hg9, hfv⟩, hV, hxl⟩ := id hC
  refine lv_iload_n hx hb dX2_same_0 rfl (lv_at hl 1 rfl) ?_
  refine lv_iload_n hx hb dX2_same_1 rfl (lv_at hl 2 rfl) ?_
  refine cp_S (As := [.int (nI r9), .int (nI d9)]) (rest := []) C0 hl hK hS hA (c_ckRK l g s.heap r9 d9 hr9 hd9) gX2_same_X2_checkRadixAndKind rfl ⟨rfl, rfl⟩ (show hd_ok yX2_checkRadixAndKind 2 from ⟨by decide, by decide, by decide +kernel⟩) ⟨Nat.le_of_ble_eq_true rfl, Nat.le_of_ble_eq_true rfl⟩ rfl (Nat.le_of_ble_eq_true rfl) ⟨Nat.zero_le _, Nat.zero_le _⟩ dX2_same_2 (fun locs hS => ?_)
  refine lv_aload_n hx hb dX2_same_5 rfl (lv_at hl 0 rfl) ?_
  refine va_get (ci := 3) (C := RX2) (T := TX2) (N := 7) (v := .ref tr) hx hb hts (by decide +kernel) hown hK.1 (p1 hf) 0 rfl rfl 1 (by decide) (hts (.fieldLink RX2 16 "Radixbench" "text" "LRadixbench$Row;") (by decide +kernel)) (fun _ h9 => h9) rfl dX2_same_6 ?_
  refine lv_iload_n hx hb dX2_same_9 rfl (lv_at hl 1 rfl) ?_
  refine lv_iload_n hx hb dX2_same_10 rfl (lv_at hl 2 rfl) ?_
  refine jp_V (As := [.int (nI r9), .int (nI d9)]) (rest := []) C0 hl hK hS hA (zat hZ hS hAb) (c_isNo l g b0 s.heap tr tc n t hR r9 d9 hr9 hd9) gX2_same_X0_isNumberOf rfl ⟨rfl, rfl⟩ (hR.recv hK) ⟨rfl, (show hd_ok yX0_isNumberOf 2 from ⟨by decide, by decide, by decide +kernel⟩)⟩ ⟨Nat.le_of_ble_eq_true rfl, Nat.le_of_ble_eq_true rfl⟩ rfl (Nat.le_of_ble_eq_true rfl) ⟨Nat.zero_le _, Nat.zero_le _⟩ dX2_same_11 (fun locs hS => ?_)
  by_cases hsa : saOK r9 n t d9
  · rw [bP_t hsa]
    refine lv_if_ne (tgt := 19) hx hb dX2_same_14 (by decide) (fun h1 => ?_) (fun h1 => absurd h1 (by decide))
    obtain ⟨z1, z2, z3, z4⟩ := nh_sa hr9.2 hd9 hsa
    refine lv_aload_n hx hb dX2_same_19 rfl (lv_at hl 0 rfl) ?_
    refine va_get (ci := 3) (C := RX2) (T := TX2) (N := 7) (v := .ref tr) hx hb hts (by decide +kernel) hown hK.1 (p1 hf) 0 rfl rfl 1 (by decide) (hts (.fieldLink RX2 16 "Radixbench" "text" "LRadixbench$Row;") (by decide +kernel)) (fun _ h9 => h9) rfl dX2_same_20 ?_
    refine lv_iload_n hx hb dX2_same_23 rfl (lv_at hl 1 rfl) ?_
    refine cp_V (As := [.int (nI r9)]) (rest := []) C0 hl hK hS hA (c_held l g s.heap tr tc n t hR r9 hr9 z1 z2 z3) gX2_same_X0_numberHeld rfl ⟨rfl, rfl⟩ (hR.recv hK) ⟨rfl, (show hd_ok yX0_numberHeld 1 from ⟨by decide, by decide, by decide +kernel⟩)⟩ ⟨Nat.le_of_ble_eq_true rfl, Nat.le_of_ble_eq_true rfl⟩ rfl (Nat.le_of_ble_eq_true rfl) ⟨Nat.zero_le _, Nat.zero_le _⟩ dX2_same_24 (fun locs hS => ?_)
    refine tp_l (y := lN (nhN r9 n t % 2 ^ 64)) (lN_m _) ?_
    refine lv_lstore_n (lv' := [(3, .long (lN (nhN r9 n t % 2 ^ 64))), (0, .ref x0), (1, .int (nI r9)), (2, .int (nI d9))]) hx hb dX2_same_27 rfl hl (by decide) rfl (fun ls hl => ?_)
    refine lv_iconst (v := nI 0) hx hb dX2_same_28 (by decide) ?_
    refine lv_istore (lv' := [(5, .int (nI 0)), (3, .long (lN (nhN r9 n t % 2 ^ 64))), (0, .ref x0), (1, .int (nI r9)), (2, .int (nI d9))]) hx hb dX2_same_29 hl (by decide) rfl (fun ls hl => ?_)
    refine lv_iconst (v := nI 0) hx hb dX2_same_31 (by decide) ?_
    refine lv_istore (lv' := [(6, .int (nI 0)), (5, .int (nI 0)), (3, .long (lN (nhN r9 n t % 2 ^ 64))), (0, .ref x0), (1, .int (nI r9)), (2, .int (nI d9))]) hx hb dX2_same_32 hl (by decide) rfl (fun ls hl => ?_)
    refine L_xSameE C0 hK hA hL hd9 (u := nhN r9 n t % 2 ^ 64) (Nat.mod_lt _ (by decide)) z4 (fun ls locs hS hl => ?_) 9 0 (by decide) (by decide) ls _ hS (lv_sub hl [0, 1, 3, 5, 2] rfl)
    refine lv_iload hx hb dX2_same_71 (lv_at hl 0 rfl) ?_
    exact rt_ni (mu := mC x0 lc tr tc sr sc) C0 rfl ⟨_, _, _, _, V, n, t, ⟨⟨_, rfl, Or.inl ⟨hsa, rfl⟩⟩, rfl, rfl, rfl⟩, hL⟩ hS rfl dX2_same_73
  · rw [bP_f hsa]
    refine lv_if_ne (tgt := 19) hx hb dX2_same_14 (by decide) (fun h1 => absurd rfl h1) (fun h1 => ?_)
    refine lv_iconst (v := nI 0) hx hb dX2_same_17 (by decide) ?_
    exact rt_ni (mu := mC x0 lc tr tc sr sc) C0 rfl ⟨_, _, _, _, V, n, t, ⟨⟨_, rfl, Or.inr ⟨hsa, rfl⟩⟩, rfl, rfl, rfl⟩, hL⟩ hS rfl dX2_same_18
set_option maxHeartbeats 4000000 in
set_option maxRecDepth 100000 in
theorem c_digitE (l : Launch) (g : Gx) (b0 : Nat) (H0 : Heap) (z0 mc lf dg : Nat) (fs : List Value) (rr V : Nat → Nat) (a b n : Nat) (t : Nat → Nat) (hT : MT g H0 z0 mc lf dg fs rr V a b n t) (hmb : ∀ q : Nat, zM z0 mc lf dg q → b0 ≤ q) (x y : Int32) : Met l yX4_digit wsX4_digit rmX4_digit (va_Pc [.ref z0, .int x, .int y] (hJ g b0 H0)) (nQ H0 (zM z0 mc lf dg) (zU g z0 mc lf dg (fun r fs2 V2 n2 t2 => V2 = V ∧ n2 = n ∧ t2 = t ∧ ((∃ j r9 : Nat, j < n ∧ (2 ≤ r9 ∧ r9 ≤ 36) ∧ x = nI j ∧ y = nI r9 ∧ r = some (.int (dgC (t j) r9)) ∧ fs2[0]? = some (.int (nI 0))) ∨ (¬ (nI 0 ≤ x ∧ x < nI n) ∧ r = some (.int (nI 0)) ∧ fs2[0]? = some (.int (nI 1))) ∨ ((nI 0 ≤ x ∧ x < nI n) ∧ ¬ (nI 2 ≤ y ∧ y ≤ nI 36) ∧ r = some (.int (nI 0)) ∧ fs2[0]? = some (.int (nI 2))))))) 0 0 (fun q => (zM z0 mc lf dg) q ∨ H0.size ≤ q) := by
  refine cx_met (own := RX4) (cc := cX4_digit) (maxL := 3) (by decide) rfl rfl (Nat.le_of_ble_eq_true rfl) ?_
  intro p e s m below meth c ls C0 hB0 hnm hl
  obtain ⟨hH, hK, hZ⟩ := hB0
  obtain ⟨hx, hb, hr, hml, hown, hts, hlk⟩ := id C0
  subst hH
  have hS : va_S (fun q => (zM z0 mc lf dg) q ∨ s.heap.size ≤ q) s.heap s.heap [] := va_S.rf
  have hA : ∀ q : Nat, s.heap.size ≤ q → (fun q => (zM z0 mc lf dg) q ∨ s.heap.size ≤ q) q := fun q h => Or.inr h
  have h0Z := hZ.1
  have hAb : ∀ q : Nat, (fun q => (zM z0 mc lf dg) q ∨ s.heap.size ≤ q) q → b0 ≤ q := fun q h => h.elim (hmb q) (fun h => Nat.le_trans h0Z h)
  have hl : lv_has ls 3 [(0, .ref z0), (1, .int x), (2, .int y)] := hl
  obtain ⟨hM, hFT, htx, hs, hna, hnb, hn70, ht128⟩ := id hT
  obtain ⟨hz, hfl, -⟩ := id hM
  refine lv_aload_n hx hb dX4_digit_0 rfl (lv_at hl 0 rfl) ?_
  refine lv_iconst (v := nI 0) hx hb dX4_digit_1 (by decide) ?_
  refine w_putf (ci := 5) (C := RX4) (T := TX4) (N := 10) (ty := .int) hx hb hts (by decide +kernel) tyX4 tyX4_ok nmX4 hown hK hS hz (Or.inl (Or.inl rfl)) rfl 0 (by decide) (hts (.fieldLink RX4 27 "RadixbenchModel" "thrown" "I") (by decide +kernel)) (fun _ h9 => h9) rfl (by decide +kernel) rfl rfl (by rw [hfl]; decide) dX4_digit_2 (fun H1 locs hz1 hs1 ho1 hS => ?_)
  have hM1 := hM.fset (by decide) (by decide) (by decide) ho1 hz1
  obtain ⟨-, hfl1, hmc, hdg, hlf, ⟨fr, hg9, hfr⟩, hrr, -, -, -⟩ := id hM1
  have htx1 : (fs.set 0 (.int (nI 0)))[2]? = some (.ref a) := by rw [List.getElem?_set_ne (by decide)]; exact htx
  have hs1 := hs.kept (ho1 _ (fun z => hna (Or.inl z))) (ho1 _ (fun z => hnb (Or.inl z)))
  have hFT1 : FT (fs.set 0 (.int (nI 0))) := hFT.i (by decide)
  have h10 : fs.length = 10 := hT.1.2.1
  refine lv_iload_n hx hb dX4_digit_5 rfl (lv_at hl 1 rfl) ?_
  refine lv_iconst (v := nI 0) hx hb dX4_digit_6 (by decide) ?_
  refine lv_aload_n hx hb dX4_digit_7 rfl (lv_at hl 0 rfl) ?_
  refine va_get (ci := 5) (C := RX4) (T := TX4) (N := 10) (v := .ref a) hx hb hts (by decide +kernel) hown hK.1 (p1 hz1) 0 rfl rfl 2 (by decide) (hts (.fieldLink RX4 16 "RadixbenchModel" "text" "Ljava/lang/String;") (by decide +kernel)) (fun _ h9 => h9) htx1 dX4_digit_8 ?_
  refine jp_V (As := []) (rest := [.int (nI 0), .int x]) C0 hl hK hS hA (zat hZ hS hAb) (c_sLen l g b0 H1 a b n t hs1) gX4_digit_J0_length_8abf5 rfl ⟨rfl, rfl⟩ (j_srecv hK hs1) ⟨rfl, (show hd_ok yJ0_length_8abf5 0 from ⟨by decide, by decide, by decide +kernel⟩)⟩ ⟨Nat.le_of_ble_eq_true rfl, Nat.le_of_ble_eq_true rfl⟩ rfl (Nat.le_of_ble_eq_true rfl) ⟨by decide, by decide⟩ dX4_digit_11 (fun locs hS => ?_)
  refine lv_iconst (v := nI 1) hx hb dX4_digit_14 (by decide) ?_
  refine lv_isub hx hb dX4_digit_15 ?_
  refine tp_i (y := nI n - nI 1) (rfl) ?_
  refine cp_S (As := [.int x, .int (nI 0), .int (nI n - nI 1)]) (rest := []) C0 hl hK hS hA (c_is l g H1 x (nI 0) (nI n - nI 1)) gX4_digit_X4_is rfl ⟨rfl, rfl⟩ (show hd_ok yX4_is 3 from ⟨by decide, by decide, by decide +kernel⟩) ⟨Nat.le_of_ble_eq_true rfl, Nat.le_of_ble_eq_true rfl⟩ rfl (Nat.le_of_ble_eq_true rfl) ⟨by decide, by decide⟩ dX4_digit_16 (fun locs hS => ?_)
  refine lv_if_ne (tgt := 28) hx hb dX4_digit_19 (by decide) (fun h1 => ?_) (fun h1 => ?_)
  · skip
    obtain ⟨j, hj, rfl⟩ := at_of hn70 (of_decide_eq_true (bI_n0 h1))
    have hin : nI 0 ≤ nI j ∧ nI j < nI n := ⟨nI_le (Nat.zero_le j) (by omega), nI_lt hj (by omega)⟩
    refine lv_iload_n hx hb dX4_digit_28 rfl (lv_at hl 2 rfl) ?_
    refine lv_iconst (v := nI 2) hx hb dX4_digit_29 (by decide) ?_
    refine lv_bipush (v := nI 36) hx hb dX4_digit_30 (by decide) ?_
    refine cp_S (As := [.int y, .int (nI 2), .int (nI 36)]) (rest := []) C0 hl hK hS hA (c_is l g H1 y (nI 2) (nI 36)) gX4_digit_X4_is rfl ⟨rfl, rfl⟩ (show hd_ok yX4_is 3 from ⟨by decide, by decide, by decide +kernel⟩) ⟨Nat.le_of_ble_eq_true rfl, Nat.le_of_ble_eq_true rfl⟩ rfl (Nat.le_of_ble_eq_true rfl) ⟨by decide, by decide⟩ dX4_digit_32 (fun locs hS => ?_)
    refine lv_if_eq (tgt := 53) hx hb dX4_digit_35 (by decide) (fun h2 => ?_) (fun h2 => ?_)
    · skip
      refine lv_aload_n hx hb dX4_digit_53 rfl (lv_at hl 0 rfl) ?_
      refine lv_iconst (v := nI 2) hx hb dX4_digit_54 (by decide) ?_
      refine cn_V (As := [.int (nI 2)]) (rest := []) C0 hl hK hS hA (fun z h => Or.inl h) (c_refuse l g H1 z0 mc lf dg _ rr V hM1 (nI 2)) gX4_digit_X4_refuse rfl ⟨rfl, rfl⟩ ((va_recv hK.1 (p1 hz1) (ci := 5) (q0 := 0) rfl rfl)) ⟨rfl, (show hd_ok yX4_refuse 1 from ⟨by decide, by decide, by decide +kernel⟩)⟩ ⟨Nat.le_of_ble_eq_true rfl, Nat.le_of_ble_eq_true rfl⟩ rfl (Nat.le_of_ble_eq_true rfl) ⟨by decide, by decide⟩ dX4_digit_55 (fun r1 H2 locs hv hzz hk2 hS => ?_)
      obtain ⟨fs2, rr2, V2, ⟨rfl, rfl, rfl⟩, hM2⟩ := hv
      refine W.widen (k := 0) (n := 0) (by decide) (by decide) ?_
      exact rt_ni (mu := zM z0 mc lf dg) C0 rfl ⟨_, _, _, a, b, n, t, ⟨rfl, rfl, rfl, Or.inr (Or.inr ⟨hin, of_decide_eq_false (bI_0 h2), rfl, by rw [List.getElem?_set_self (by rw [List.length_set]; omega)]⟩)⟩, hM2, hFT1.i (by decide), by rw [List.getElem?_set_ne (by decide)]; exact htx1, hs1.kept (hk2 _ hs1.lt hna) (hk2 _ hs1.2.lt hnb), hna, hnb, hn70, ht128⟩ hS rfl dX4_digit_58
    · skip
      obtain ⟨r9, hr9, rfl⟩ := rad_of (of_decide_eq_true (bI_n0 h2))
      refine lv_aload_n hx hb dX4_digit_38 rfl (lv_at hl 0 rfl) ?_
      refine va_get (ci := 5) (C := RX4) (T := TX4) (N := 10) (v := .ref a) hx hb hts (by decide +kernel) hown hK.1 (p1 hz1) 0 rfl rfl 2 (by decide) (hts (.fieldLink RX4 16 "RadixbenchModel" "text" "Ljava/lang/String;") (by decide +kernel)) (fun _ h9 => h9) htx1 dX4_digit_39 ?_
      refine lv_iload_n hx hb dX4_digit_42 rfl (lv_at hl 1 rfl) ?_
      refine jp_V (As := [.int (nI j)]) (rest := []) C0 hl hK hS hA (zat hZ hS hAb) (c_sCharAt l g b0 H1 a b n t hs1 j hj (by omega) (ht128 j hj)) gX4_digit_J0_charAt_5068e rfl ⟨rfl, rfl⟩ (j_srecv hK hs1) ⟨rfl, (show hd_ok yJ0_charAt_5068e 1 from ⟨by decide, by decide, by decide +kernel⟩)⟩ ⟨Nat.le_of_ble_eq_true rfl, Nat.le_of_ble_eq_true rfl⟩ rfl (Nat.le_of_ble_eq_true rfl) ⟨by decide, by decide⟩ dX4_digit_43 (fun locs hS => ?_)
      refine lv_iload_n hx hb dX4_digit_46 rfl (lv_at hl 2 rfl) ?_
      refine cp_S (As := [.int (nI (t j)), .int (nI r9)]) (rest := []) C0 hl hK hS hA (c_digitOf l g H1 (t j) (ht128 j hj) (nI r9)) gX4_digit_X4_digitOf rfl ⟨rfl, rfl⟩ (show hd_ok yX4_digitOf 2 from ⟨by decide, by decide, by decide +kernel⟩) ⟨Nat.le_of_ble_eq_true rfl, Nat.le_of_ble_eq_true rfl⟩ rfl (Nat.le_of_ble_eq_true rfl) ⟨by decide, by decide⟩ dX4_digit_47 (fun locs hS => ?_)
      refine tp_i (y := dgC (t j) r9) (dg_eq _ _ hr9.2) ?_
      refine lv_goto (tgt := 58) hx hb dX4_digit_50 (by decide) ?_
      exact rt_ni (mu := zM z0 mc lf dg) C0 rfl ⟨_, _, _, a, b, n, t, ⟨rfl, rfl, rfl, Or.inl ⟨j, r9, hj, hr9, rfl, rfl, rfl, List.getElem?_set_self (by omega)⟩⟩, hM1, hFT1, htx1, hs1, hna, hnb, hn70, ht128⟩ hS rfl dX4_digit_58
  · skip
    have hout : ¬ (nI 0 ≤ x ∧ x < nI n) := fun z => by
      obtain ⟨j, hj, rfl⟩ := at_of2 hn70 z
      refine of_decide_eq_false (bI_0 h1) ⟨z.1, ?_⟩
      rw [pk_sub (by omega)]
      exact nI_le (by omega) (by omega)
    refine lv_aload_n hx hb dX4_digit_22 rfl (lv_at hl 0 rfl) ?_
    refine lv_iconst (v := nI 1) hx hb dX4_digit_23 (by decide) ?_
    refine cn_V (As := [.int (nI 1)]) (rest := []) C0 hl hK hS hA (fun z h => Or.inl h) (c_refuse l g H1 z0 mc lf dg _ rr V hM1 (nI 1)) gX4_digit_X4_refuse rfl ⟨rfl, rfl⟩ ((va_recv hK.1 (p1 hz1) (ci := 5) (q0 := 0) rfl rfl)) ⟨rfl, (show hd_ok yX4_refuse 1 from ⟨by decide, by decide, by decide +kernel⟩)⟩ ⟨Nat.le_of_ble_eq_true rfl, Nat.le_of_ble_eq_true rfl⟩ rfl (Nat.le_of_ble_eq_true rfl) ⟨by decide, by decide⟩ dX4_digit_24 (fun r1 H2 locs hv hzz hk2 hS => ?_)
    obtain ⟨fs2, rr2, V2, ⟨rfl, rfl, rfl⟩, hM2⟩ := hv
    refine W.widen (k := 0) (n := 0) (by decide) (by decide) ?_
    exact rt_ni (mu := zM z0 mc lf dg) C0 rfl ⟨_, _, _, a, b, n, t, ⟨rfl, rfl, rfl, Or.inr (Or.inl ⟨hout, rfl, by rw [List.getElem?_set_self (by rw [List.length_set]; omega)]⟩)⟩, hM2, hFT1.i (by decide), by rw [List.getElem?_set_ne (by decide)]; exact htx1, hs1.kept (hk2 _ hs1.lt hna) (hk2 _ hs1.2.lt hnb), hna, hnb, hn70, ht128⟩ hS rfl dX4_digit_27
set_option maxHeartbeats 4000000 in
set_option maxRecDepth 100000 in
theorem c_sameE (l : Launch) (g : Gx) (b0 : Nat) (H0 : Heap) (z0 mc lf dg : Nat) (fs : List Value) (rr V : Nat → Nat) (a b n : Nat) (t : Nat → Nat) (hT : MT g H0 z0 mc lf dg fs rr V a b n t) (hmb : ∀ q : Nat, zM z0 mc lf dg q → b0 ≤ q) (x y : Int32) : Met l yX4_same wsX4_same rmX4_same (va_Pc [.ref z0, .int x, .int y] (hJ g b0 H0)) (nQ H0 (zM z0 mc lf dg) (zU g z0 mc lf dg (fun r fs2 V2 n2 t2 => V2 = V ∧ n2 = n ∧ t2 = t ∧ ((∃ r9 d9 : Nat, (2 ≤ r9 ∧ r9 ≤ 36) ∧ d9 < 4 ∧ x = nI r9 ∧ y = nI d9 ∧ (∃ q9 : Int32, r = some (.int q9) ∧ SMQ V n t r9 d9 q9) ∧ fs2[0]? = some (.int (nI 0))) ∨ (¬ rkOK x y ∧ r = some (.int (nI 0)) ∧ fs2[0]? = some (.int (nI 1))))))) 11 44 (fun q => (zM z0 mc lf dg) q ∨ H0.size ≤ q) := by
  refine cx_met (own := RX4) (cc := cX4_same) (maxL := 3) (by decide) rfl rfl (Nat.le_of_ble_eq_true rfl) ?_
  intro p e s m below meth c ls C0 hB0 hnm hl
  obtain ⟨hH, hK, hZ⟩ := hB0
  obtain ⟨hx, hb, hr, hml, hown, hts, hlk⟩ := id C0
  subst hH
  have hS : va_S (fun q => (zM z0 mc lf dg) q ∨ s.heap.size ≤ q) s.heap s.heap [] := va_S.rf
  have hA : ∀ q : Nat, s.heap.size ≤ q → (fun q => (zM z0 mc lf dg) q ∨ s.heap.size ≤ q) q := fun q h => Or.inr h
  have h0Z := hZ.1
  have hAb : ∀ q : Nat, (fun q => (zM z0 mc lf dg) q ∨ s.heap.size ≤ q) q → b0 ≤ q := fun q h => h.elim (hmb q) (fun h => Nat.le_trans h0Z h)
  have hl : lv_has ls 3 [(0, .ref z0), (1, .int x), (2, .int y)] := hl
  obtain ⟨hM, hFT, htx, hs, hna, hnb, hn70, ht128⟩ := id hT
  obtain ⟨hz, hfl, -⟩ := id hM
  refine lv_aload_n hx hb dX4_same_0 rfl (lv_at hl 0 rfl) ?_
  refine lv_iconst (v := nI 0) hx hb dX4_same_1 (by decide) ?_
  refine w_putf (ci := 5) (C := RX4) (T := TX4) (N := 10) (ty := .int) hx hb hts (by decide +kernel) tyX4 tyX4_ok nmX4 hown hK hS hz (Or.inl (Or.inl rfl)) rfl 0 (by decide) (hts (.fieldLink RX4 27 "RadixbenchModel" "thrown" "I") (by decide +kernel)) (fun _ h9 => h9) rfl (by decide +kernel) rfl rfl (by rw [hfl]; decide) dX4_same_2 (fun H1 locs hz1 hs1 ho1 hS => ?_)
  have hM1 := hM.fset (by decide) (by decide) (by decide) ho1 hz1
  obtain ⟨-, hfl1, hmc, hdg, hlf, ⟨fr, hg9, hfr⟩, hrr, -, -, -⟩ := id hM1
  have htx1 : (fs.set 0 (.int (nI 0)))[2]? = some (.ref a) := by rw [List.getElem?_set_ne (by decide)]; exact htx
  have hs1 := hs.kept (ho1 _ (fun z => hna (Or.inl z))) (ho1 _ (fun z => hnb (Or.inl z)))
  have hFT1 : FT (fs.set 0 (.int (nI 0))) := hFT.i (by decide)
  have h10 : fs.length = 10 := hT.1.2.1
  refine lv_iload_n hx hb dX4_same_5 rfl (lv_at hl 1 rfl) ?_
  refine lv_iload_n hx hb dX4_same_6 rfl (lv_at hl 2 rfl) ?_
  refine cp_S (As := [.int x, .int y]) (rest := []) C0 hl hK hS hA (c_isRight l g H1 x y) gX4_same_X4_isRight rfl ⟨rfl, rfl⟩ (show hd_ok yX4_isRight 2 from ⟨by decide, by decide, by decide +kernel⟩) ⟨Nat.le_of_ble_eq_true rfl, Nat.le_of_ble_eq_true rfl⟩ rfl (Nat.le_of_ble_eq_true rfl) ⟨by decide, by decide⟩ dX4_same_7 (fun locs hS => ?_)
  refine lv_if_eq (tgt := 22) hx hb dX4_same_10 (by decide) (fun h2 => ?_) (fun h2 => ?_)
  · skip
    have h3 := of_decide_eq_false (bI_0 h2)
    refine lv_aload_n hx hb dX4_same_22 rfl (lv_at hl 0 rfl) ?_
    refine lv_iconst (v := nI 1) hx hb dX4_same_23 (by decide) ?_
    refine cn_V (As := [.int (nI 1)]) (rest := []) C0 hl hK hS hA (fun z h => Or.inl h) (c_refuse l g H1 z0 mc lf dg _ rr V hM1 (nI 1)) gX4_same_X4_refuse rfl ⟨rfl, rfl⟩ ((va_recv hK.1 (p1 hz1) (ci := 5) (q0 := 0) rfl rfl)) ⟨rfl, (show hd_ok yX4_refuse 1 from ⟨by decide, by decide, by decide +kernel⟩)⟩ ⟨Nat.le_of_ble_eq_true rfl, Nat.le_of_ble_eq_true rfl⟩ rfl (Nat.le_of_ble_eq_true rfl) ⟨by decide, by decide⟩ dX4_same_24 (fun r1 H2 locs hv hzz hk2 hS => ?_)
    obtain ⟨fs2, rr2, V2, ⟨rfl, rfl, rfl⟩, hM2⟩ := hv
    refine W.widen (k := 11) (n := 44) (by decide) (by decide) ?_
    exact rt_ni (mu := zM z0 mc lf dg) C0 rfl ⟨_, _, _, a, b, n, t, ⟨rfl, rfl, rfl, Or.inr ⟨fun z => h3 z, rfl, by rw [List.getElem?_set_self (by rw [List.length_set]; omega)]⟩⟩, hM2, hFT1.i (by decide), by rw [List.getElem?_set_ne (by decide)]; exact htx1, hs1.kept (hk2 _ hs1.lt hna) (hk2 _ hs1.2.lt hnb), hna, hnb, hn70, ht128⟩ hS rfl dX4_same_27
  · skip
    have h3 := of_decide_eq_true (bI_n0 h2)
    obtain ⟨r9, hr9, rfl⟩ := rad_of h3.1
    obtain ⟨d9, hd9, rfl⟩ := kin_of h3.2
    refine lv_aload_n hx hb dX4_same_13 rfl (lv_at hl 0 rfl) ?_
    refine lv_iload_n hx hb dX4_same_14 rfl (lv_at hl 1 rfl) ?_
    refine lv_iload_n hx hb dX4_same_15 rfl (lv_at hl 2 rfl) ?_
    refine jn_V (As := [.int (nI r9), .int (nI d9)]) (rest := []) C0 hl hK hS hA (fun q h => absurd h id) (zat hZ hS hAb) (c_sameNow l g b0 H1 z0 mc lf dg _ rr V a b n t ⟨hM1, hFT1, htx1, hs1, hna, hnb, hn70, ht128⟩ r9 d9 hr9 hd9) gX4_same_X4_sameNow rfl ⟨rfl, rfl⟩ ((va_recv hK.1 (p1 hz1) (ci := 5) (q0 := 0) rfl rfl)) ⟨rfl, (show hd_ok yX4_sameNow 2 from ⟨by decide, by decide, by decide +kernel⟩)⟩ ⟨Nat.le_of_ble_eq_true rfl, Nat.le_of_ble_eq_true rfl⟩ rfl (Nat.le_of_ble_eq_true rfl) ⟨by decide, by decide⟩ dX4_same_16 (fun v H3 locs hv hzz hk3 hS => ?_)
    obtain ⟨rv, rfl⟩ : ∃ rv : Int32, v = some (.int rv) := by rcases hv with ⟨-, h⟩ | ⟨-, h⟩; exact ⟨_, h⟩; exact ⟨_, h⟩
    refine lv_goto (tgt := 27) hx hb dX4_same_19 (by decide) ?_
    exact rt_ni (mu := zM z0 mc lf dg) C0 rfl ⟨_, _, _, a, b, n, t, ⟨rfl, rfl, rfl, Or.inl ⟨r9, d9, hr9, hd9, rfl, rfl, ⟨rv, rfl, hv.elim (fun h => Or.inl ⟨h.1, Value.int.inj (Option.some.inj h.2)⟩) (fun h => Or.inr ⟨h.1, Value.int.inj (Option.some.inj h.2)⟩)⟩, List.getElem?_set_self (by omega)⟩⟩, hM1.same (fun q h => hk3 q h (fun z => z)), hFT1, htx1, hs1.kept (hk3 _ hs1.lt (fun z => z)) (hk3 _ hs1.2.lt (fun z => z)), hna, hnb, hn70, ht128⟩ hS rfl dX4_same_27
end M91

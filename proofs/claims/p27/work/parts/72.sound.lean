-- THE CLASS: soundness and digest (that they end)
section M72
variable {p : Program} {l : Launch} {e : Env} {s : State} {m : MethodId} {args : Array Value} {below : List Frame} {meth : Method} {c : Code} {H H0 : Heap} {locs : List Loc} {cells slots : Nat} {Q : State → Prop} {A : Nat → Prop} {g : Gx} {b0 : Nat}
abbrev rmX2_isTurnedBack : Room := { frames := 2, cells := 0, slots := 0, locals := 42 }
set_option maxHeartbeats 4000000 in
set_option maxRecDepth 100000 in
theorem L_tb (C0 : Cx p s m args meth c RX2 cX2_isTurnedBack 3 (some .boolean) wsX2_isTurnedBack) (hK : KK g s) (hA : ∀ q, s.heap.size ≤ q → A q) {x : Int64}
    (Kf : ∀ (ls : Array Slot) (locs : List Loc), va_S A s.heap s.heap locs → W p l e rmX2_isTurnedBack s m args below meth c s.heap locs 0 0 Q (F0 m 23 ls []))
    (K : ∀ (ls : Array Slot) (locs : List Loc), va_S A s.heap s.heap locs → lv_has ls 3 [(0, .long x)] → W p l e rmX2_isTurnedBack s m args below meth c s.heap locs 0 0 Q (F0 m 31 ls [])) :
    ∀ (n9 k : Nat), k ≤ 64 → 64 - k < n9 → ∀ (ls : Array Slot) (locs : List Loc), va_S A s.heap s.heap locs → lv_has ls 3 [(2, .int (nI k)), (0, .long x)] → W p l e rmX2_isTurnedBack s m args below meth c s.heap locs 0 0 Q (F0 m 2 ls []) := by
  obtain ⟨hx, hb, hr, hml, hown, hts, hlk⟩ := id C0
  intro n9
  induction n9 with
  | zero => intro k _ h; exact absurd h (Nat.not_lt_zero _)
  | succ n9 ih =>
    intro k hk hn9 ls locs hS hl
    refine lv_iload_n hx hb dX2_isTurnedBack_2 rfl (lv_at hl 0 rfl) ?_
    refine lv_bipush (v := nI 64) hx hb dX2_isTurnedBack_3 (by decide) ?_
    refine lv_icmp_ge (tgt := 31) hx hb dX2_isTurnedBack_5 (by decide) (fun h1 => ?_) (fun h1 => ?_)
    · skip
      exact K ls _ hS (lv_sub hl [1] rfl)
    · skip
      have hk6 : k < 64 := nle_n (by omega) h1
      refine lv_lload_n hx hb dX2_isTurnedBack_8 rfl (lv_at hl 1 rfl) ?_
      refine lv_iload_n hx hb dX2_isTurnedBack_9 rfl (lv_at hl 0 rfl) ?_
      refine cp_S (As := [.long x, .int (nI k)]) (rest := []) C0 hl hK hS hA (c_rot64 l g s.heap x (nI k)) gX2_isTurnedBack_J13_rotateLeft_b2ac5 rfl ⟨rfl, rfl⟩ (show hd_ok yJ13_rotateLeft_b2ac5 2 from ⟨by decide, by decide, by decide +kernel⟩) ⟨Nat.le_of_ble_eq_true rfl, Nat.le_of_ble_eq_true rfl⟩ rfl (Nat.le_of_ble_eq_true rfl) ⟨Nat.zero_le _, Nat.zero_le _⟩ dX2_isTurnedBack_10 (fun locs hS => ?_)
      refine lv_iload_n hx hb dX2_isTurnedBack_13 rfl (lv_at hl 0 rfl) ?_
      refine lv_ineg hx hb dX2_isTurnedBack_14 ?_
      refine cp_S (As := [.long (jR64 x (nI k)), .int (-(nI k))]) (rest := []) C0 hl hK hS hA (c_rot64 l g s.heap (jR64 x (nI k)) (-(nI k))) gX2_isTurnedBack_J13_rotateLeft_b2ac5 rfl ⟨rfl, rfl⟩ (show hd_ok yJ13_rotateLeft_b2ac5 2 from ⟨by decide, by decide, by decide +kernel⟩) ⟨Nat.le_of_ble_eq_true rfl, Nat.le_of_ble_eq_true rfl⟩ rfl (Nat.le_of_ble_eq_true rfl) ⟨Nat.zero_le _, Nat.zero_le _⟩ dX2_isTurnedBack_15 (fun locs hS => ?_)
      refine lv_lload_n hx hb dX2_isTurnedBack_18 rfl (lv_at hl 1 rfl) ?_
      refine W.lcmp hx hb dX2_isTurnedBack_19 ?_
      refine lv_if_eq (tgt := 25) hx hb dX2_isTurnedBack_20 (by decide) (fun h2 => ?_) (fun h2 => ?_)
      · skip
        refine lv_iinc (v := nI (k + 1)) (lv' := [(2, .int (nI (k + 1))), (0, .long x)]) hx hb dX2_isTurnedBack_25 hl (k := 0) rfl (nI_1 _) (by decide) rfl (fun ls hl => ?_)
        refine lv_goto (tgt := 2) hx hb dX2_isTurnedBack_28 (by decide) ?_
        exact ih (k + 1) (by omega) (by omega) ls _ hS (lv_sub hl [0, 1] rfl)
      · skip
        exact Kf ls _ hS
set_option maxHeartbeats 4000000 in
set_option maxRecDepth 100000 in
theorem c_xTB (l : Launch) (g : Gx) (H0 : Heap) (x : Int64) : Met l yX2_isTurnedBack wsX2_isTurnedBack rmX2_isTurnedBack (va_Pc [.long x] (hB g H0)) (nQ H0 (fun _ => False) (fun r H1 => H0 = H1 ∧ ∃ b : Bool, r = some (.int (bI b)))) 0 0 (fun q => (fun _ => False) q ∨ H0.size ≤ q) := by
  refine cx_met (own := RX2) (cc := cX2_isTurnedBack) (maxL := 3) (by decide) rfl rfl (Nat.le_of_ble_eq_true rfl) ?_
  intro p e s m below meth c ls C0 hB0 hnm hl
  obtain ⟨hH, hK⟩ := hB0
  obtain ⟨hx, hb, hr, hml, hown, hts, hlk⟩ := id C0
  subst hH
  have hS : va_S (fun q => (fun _ => False) q ∨ s.heap.size ≤ q) s.heap s.heap [] := va_S.rf
  have hA : ∀ q : Nat, s.heap.size ≤ q → (fun q => (fun _ => False) q ∨ s.heap.size ≤ q) q := fun q h => Or.inr h
  have hl : lv_has ls 3 [(0, .long x)] := hl
  refine lv_iconst (v := nI 0) hx hb dX2_isTurnedBack_0 (by decide) ?_
  refine lv_istore_n (lv' := [(2, .int (nI 0)), (0, .long x)]) hx hb dX2_isTurnedBack_1 rfl hl (by decide) rfl (fun ls hl => ?_)
  refine L_tb C0 hK hA (fun ls locs hS => ?_) (fun ls locs hS hl => ?_) 65 0 (by decide) (by decide) ls _ hS (lv_sub hl [0, 1] rfl)
  · skip
    refine lv_iconst (v := nI 0) hx hb dX2_isTurnedBack_23 (by decide) ?_
    refine tp_i (y := bI false) (rfl) ?_
    exact rt_ni (mu := (fun _ => False)) C0 (bI_nar _) ⟨rfl, false, rfl⟩ hS rfl dX2_isTurnedBack_24
  · skip
    refine lv_lload_n hx hb dX2_isTurnedBack_31 rfl (lv_at hl 0 rfl) ?_
    refine cp_S (As := [.long x]) (rest := []) C0 hl hK hS hA (c_rv64 l g s.heap x) gX2_isTurnedBack_J13_reverse_067f4 rfl ⟨rfl, rfl⟩ (show hd_ok yJ13_reverse_067f4 1 from ⟨by decide, by decide, by decide +kernel⟩) ⟨Nat.le_of_ble_eq_true rfl, Nat.le_of_ble_eq_true rfl⟩ rfl (Nat.le_of_ble_eq_true rfl) ⟨Nat.zero_le _, Nat.zero_le _⟩ dX2_isTurnedBack_32 (fun locs hS => ?_)
    refine cp_S (As := [.long (jB64v x)]) (rest := []) C0 hl hK hS hA (c_rv64 l g s.heap (jB64v x)) gX2_isTurnedBack_J13_reverse_067f4 rfl ⟨rfl, rfl⟩ (show hd_ok yJ13_reverse_067f4 1 from ⟨by decide, by decide, by decide +kernel⟩) ⟨Nat.le_of_ble_eq_true rfl, Nat.le_of_ble_eq_true rfl⟩ rfl (Nat.le_of_ble_eq_true rfl) ⟨Nat.zero_le _, Nat.zero_le _⟩ dX2_isTurnedBack_35 (fun locs hS => ?_)
    refine lv_lload_n hx hb dX2_isTurnedBack_38 rfl (lv_at hl 0 rfl) ?_
    refine W.lcmp hx hb dX2_isTurnedBack_39 ?_
    refine lv_if_ne (tgt := 59) hx hb dX2_isTurnedBack_40 (by decide) (fun h1 => ?_) (fun h1 => ?_)
    · skip
      refine lv_iconst (v := nI 0) hx hb dX2_isTurnedBack_59 (by decide) ?_
      refine tp_i (y := bI false) (rfl) ?_
      exact rt_ni (mu := (fun _ => False)) C0 (bI_nar _) ⟨rfl, false, rfl⟩ hS rfl dX2_isTurnedBack_60
    · skip
      refine lv_lload_n hx hb dX2_isTurnedBack_43 rfl (lv_at hl 0 rfl) ?_
      refine cp_S (As := [.long x]) (rest := []) C0 hl hK hS hA (c_rb64 l g s.heap x) gX2_isTurnedBack_J13_reverseBytes_067f4 rfl ⟨rfl, rfl⟩ (show hd_ok yJ13_reverseBytes_067f4 1 from ⟨by decide, by decide, by decide +kernel⟩) ⟨Nat.le_of_ble_eq_true rfl, Nat.le_of_ble_eq_true rfl⟩ rfl (Nat.le_of_ble_eq_true rfl) ⟨Nat.zero_le _, Nat.zero_le _⟩ dX2_isTurnedBack_44 (fun locs hS => ?_)
      refine cp_S (As := [.long (jB64 x)]) (rest := []) C0 hl hK hS hA (c_rb64 l g s.heap (jB64 x)) gX2_isTurnedBack_J13_reverseBytes_067f4 rfl ⟨rfl, rfl⟩ (show hd_ok yJ13_reverseBytes_067f4 1 from ⟨by decide, by decide, by decide +kernel⟩) ⟨Nat.le_of_ble_eq_true rfl, Nat.le_of_ble_eq_true rfl⟩ rfl (Nat.le_of_ble_eq_true rfl) ⟨Nat.zero_le _, Nat.zero_le _⟩ dX2_isTurnedBack_47 (fun locs hS => ?_)
      refine lv_lload_n hx hb dX2_isTurnedBack_50 rfl (lv_at hl 0 rfl) ?_
      refine W.lcmp hx hb dX2_isTurnedBack_51 ?_
      refine lv_if_ne (tgt := 59) hx hb dX2_isTurnedBack_52 (by decide) (fun h2 => ?_) (fun h2 => ?_)
      · skip
        refine lv_iconst (v := nI 0) hx hb dX2_isTurnedBack_59 (by decide) ?_
        refine tp_i (y := bI false) (rfl) ?_
        exact rt_ni (mu := (fun _ => False)) C0 (bI_nar _) ⟨rfl, false, rfl⟩ hS rfl dX2_isTurnedBack_60
      · skip
        refine lv_iconst (v := nI 1) hx hb dX2_isTurnedBack_55 (by decide) ?_
        refine lv_goto (tgt := 60) hx hb dX2_isTurnedBack_56 (by decide) ?_
        refine tp_i (y := bI true) (rfl) ?_
        exact rt_ni (mu := (fun _ => False)) C0 (bI_nar _) ⟨rfl, true, rfl⟩ hS rfl dX2_isTurnedBack_60
abbrev rmX2_sumOfCell : Room := { frames := 3, cells := 0, slots := 0, locals := 65 }
set_option maxHeartbeats 4000000 in
set_option maxRecDepth 100000 in
theorem L_sc1 (C0 : Cx p s m args meth c RX2 cX2_sumOfCell 9 (some .long) wsX2_sumOfCell) (hK : KK g s) (hA : ∀ q, s.heap.size ≤ q → A q) {u : Int64}
    (K : ∀ (y : Int64) (ls : Array Slot) (locs : List Loc), va_S A s.heap s.heap locs → lv_has ls 9 [(6, .long y), (4, .long u)] → W p l e rmX2_sumOfCell s m args below meth c s.heap locs 0 0 Q (F0 m 67 ls [])) :
    ∀ (n9 k : Nat) (y : Int64), k ≤ 4 → 4 - k < n9 → ∀ (ls : Array Slot) (locs : List Loc), va_S A s.heap s.heap locs → lv_has ls 9 [(8, .int (nI k)), (6, .long y), (4, .long u)] → W p l e rmX2_sumOfCell s m args below meth c s.heap locs 0 0 Q (F0 m 38 ls []) := by
  obtain ⟨hx, hb, hr, hml, hown, hts, hlk⟩ := id C0
  intro n9
  induction n9 with
  | zero => intro k y _ h; exact absurd h (Nat.not_lt_zero _)
  | succ n9 ih =>
    intro k y hk hn9 ls locs hS hl
    refine lv_iload hx hb dX2_sumOfCell_38 (lv_at hl 0 rfl) ?_
    refine lv_iconst (v := nI 3) hx hb dX2_sumOfCell_40 (by decide) ?_
    refine lv_icmp_gt (tgt := 67) hx hb dX2_sumOfCell_41 (by decide) (fun h1 => ?_) (fun h1 => ?_)
    · skip
      exact K y ls _ hS (lv_sub hl [1, 2] rfl)
    · skip
      have hk4 : k < 4 := Nat.lt_succ_of_le (nlt_n (by omega) h1)
      refine lv_lload hx hb dX2_sumOfCell_44 (lv_at hl 1 rfl) ?_
      refine lv_ldc2 (v := lN 31) hx hb hown (hts (.constantLong RX2 221 (31)) (by decide +kernel)) dX2_sumOfCell_46 ?_
      refine lv_lmul hx hb dX2_sumOfCell_49 ?_
      refine lv_lload hx hb dX2_sumOfCell_50 (lv_at hl 2 rfl) ?_
      refine lv_iload hx hb dX2_sumOfCell_52 (lv_at hl 0 rfl) ?_
      refine cn_S (As := [.long u, .int (nI k)]) (rest := [.long (y * (lN 31))]) C0 hl hK hS hA (fun q h => absurd h id) (c_cLong l g s.heap u k hk4) gX2_sumOfCell_X2_countOfLong rfl ⟨rfl, rfl⟩ (show hd_ok yX2_countOfLong 2 from ⟨by decide, by decide, by decide +kernel⟩) ⟨Nat.le_of_ble_eq_true rfl, Nat.le_of_ble_eq_true rfl⟩ rfl (Nat.le_of_ble_eq_true rfl) ⟨Nat.zero_le _, Nat.zero_le _⟩ dX2_sumOfCell_54 (fun r1 H1 locs hv hzz hk1 hS => ?_)
      obtain ⟨rfl, rv, rfl⟩ := hv
      refine W.widen (k := 0) (n := 0) (by decide) (by decide) ?_
      refine lv_i2l (v := rv.toInt64) hx hb dX2_sumOfCell_57 (rfl) ?_
      refine lv_ladd hx hb dX2_sumOfCell_58 ?_
      obtain ⟨y_1, hy_1⟩ : ∃ z : Int64, (y * (lN 31)) + rv.toInt64 = z := ⟨_, rfl⟩
      refine tp_l (y := y_1) (hy_1) ?_
      refine lv_lstore (lv' := [(6, .long y_1), (8, .int (nI k)), (4, .long u)]) hx hb dX2_sumOfCell_59 hl (by decide) rfl (fun ls hl => ?_)
      refine lv_iinc (v := nI (k + 1)) (lv' := [(8, .int (nI (k + 1))), (6, .long y_1), (4, .long u)]) hx hb dX2_sumOfCell_61 hl (k := 1) rfl (nI_1 _) (by decide) rfl (fun ls hl => ?_)
      refine lv_goto (tgt := 38) hx hb dX2_sumOfCell_64 (by decide) ?_
      exact ih (k + 1) y_1 (by omega) (by omega) ls _ hS (lv_sub hl [0, 1, 2] rfl)
set_option maxHeartbeats 4000000 in
set_option maxRecDepth 100000 in
theorem L_sc2 (C0 : Cx p s m args meth c RX2 cX2_sumOfCell 9 (some .long) wsX2_sumOfCell) (hK : KK g s) (hA : ∀ q, s.heap.size ≤ q → A q) {u : Int64}
    (K : ∀ (y : Int64) (ls : Array Slot) (locs : List Loc), va_S A s.heap s.heap locs → lv_has ls 9 [(6, .long y), (4, .long u)] → W p l e rmX2_sumOfCell s m args below meth c s.heap locs 0 0 Q (F0 m 100 ls [])) :
    ∀ (n9 k : Nat) (y : Int64), k ≤ 4 → 4 - k < n9 → ∀ (ls : Array Slot) (locs : List Loc), va_S A s.heap s.heap locs → lv_has ls 9 [(8, .int (nI k)), (6, .long y), (4, .long u)] → W p l e rmX2_sumOfCell s m args below meth c s.heap locs 0 0 Q (F0 m 70 ls []) := by
  obtain ⟨hx, hb, hr, hml, hown, hts, hlk⟩ := id C0
  intro n9
  induction n9 with
  | zero => intro k y _ h; exact absurd h (Nat.not_lt_zero _)
  | succ n9 ih =>
    intro k y hk hn9 ls locs hS hl
    refine lv_iload hx hb dX2_sumOfCell_70 (lv_at hl 0 rfl) ?_
    refine lv_iconst (v := nI 3) hx hb dX2_sumOfCell_72 (by decide) ?_
    refine lv_icmp_gt (tgt := 100) hx hb dX2_sumOfCell_73 (by decide) (fun h1 => ?_) (fun h1 => ?_)
    · skip
      exact K y ls _ hS (lv_sub hl [1, 2] rfl)
    · skip
      have hk4 : k < 4 := Nat.lt_succ_of_le (nlt_n (by omega) h1)
      refine lv_lload hx hb dX2_sumOfCell_76 (lv_at hl 1 rfl) ?_
      refine lv_ldc2 (v := lN 31) hx hb hown (hts (.constantLong RX2 221 (31)) (by decide +kernel)) dX2_sumOfCell_78 ?_
      refine lv_lmul hx hb dX2_sumOfCell_81 ?_
      refine lv_lload hx hb dX2_sumOfCell_82 (lv_at hl 2 rfl) ?_
      refine lv_l2i (v := u.toInt32) hx hb dX2_sumOfCell_84 (rfl) ?_
      refine lv_iload hx hb dX2_sumOfCell_85 (lv_at hl 0 rfl) ?_
      refine cn_S (As := [.int u.toInt32, .int (nI k)]) (rest := [.long (y * (lN 31))]) C0 hl hK hS hA (fun q h => absurd h id) (c_cInt l g s.heap u.toInt32 k hk4) gX2_sumOfCell_X2_countOfInt rfl ⟨rfl, rfl⟩ (show hd_ok yX2_countOfInt 2 from ⟨by decide, by decide, by decide +kernel⟩) ⟨Nat.le_of_ble_eq_true rfl, Nat.le_of_ble_eq_true rfl⟩ rfl (Nat.le_of_ble_eq_true rfl) ⟨Nat.zero_le _, Nat.zero_le _⟩ dX2_sumOfCell_87 (fun r1 H1 locs hv hzz hk1 hS => ?_)
      obtain ⟨rfl, rv, rfl⟩ := hv
      refine W.widen (k := 0) (n := 0) (by decide) (by decide) ?_
      refine lv_i2l (v := rv.toInt64) hx hb dX2_sumOfCell_90 (rfl) ?_
      refine lv_ladd hx hb dX2_sumOfCell_91 ?_
      obtain ⟨y_1, hy_1⟩ : ∃ z : Int64, (y * (lN 31)) + rv.toInt64 = z := ⟨_, rfl⟩
      refine tp_l (y := y_1) (hy_1) ?_
      refine lv_lstore (lv' := [(6, .long y_1), (8, .int (nI k)), (4, .long u)]) hx hb dX2_sumOfCell_92 hl (by decide) rfl (fun ls hl => ?_)
      refine lv_iinc (v := nI (k + 1)) (lv' := [(8, .int (nI (k + 1))), (6, .long y_1), (4, .long u)]) hx hb dX2_sumOfCell_94 hl (k := 1) rfl (nI_1 _) (by decide) rfl (fun ls hl => ?_)
      refine lv_goto (tgt := 70) hx hb dX2_sumOfCell_97 (by decide) ?_
      exact ih (k + 1) y_1 (by omega) (by omega) ls _ hS (lv_sub hl [0, 1, 2] rfl)
set_option maxHeartbeats 4000000 in
set_option maxRecDepth 100000 in
theorem c_sumCell (l : Launch) (g : Gx) (H0 : Heap) (x0 lc tr tc sr sc : Nat) (i3 i4 i5 i6 : Int32) (V : Nat → Nat) (n : Nat) (t : Nat → Nat) (hL : CL g H0 x0 lc tr tc sr sc i3 i4 i5 i6 V n t) (y : Int64) (i : Nat) (hi : i < 8) : Met l yX2_sumOfCell wsX2_sumOfCell rmX2_sumOfCell (va_Pc [.ref x0, .long y, .int (nI i)] (hB g H0)) (nQ H0 (fun _ => False) (fun r H1 => H0 = H1 ∧ ∃ rv : Int64, r = some (.long rv))) 0 0 (fun q => (fun _ => False) q ∨ H0.size ≤ q) := by
  refine cx_met (own := RX2) (cc := cX2_sumOfCell) (maxL := 9) (by decide) rfl rfl (Nat.le_of_ble_eq_true rfl) ?_
  intro p e s m below meth c ls C0 hB0 hnm hl
  obtain ⟨hH, hK⟩ := hB0
  obtain ⟨hx, hb, hr, hml, hown, hts, hlk⟩ := id C0
  subst hH
  have hS : va_S (fun q => (fun _ => False) q ∨ s.heap.size ≤ q) s.heap s.heap [] := va_S.rf
  have hA : ∀ q : Nat, s.heap.size ≤ q → (fun q => (fun _ => False) q ∨ s.heap.size ≤ q) q := fun q h => Or.inr h
  have hl : lv_has ls 9 [(0, .ref x0), (1, .long y), (3, .int (nI i))] := hl
  obtain ⟨hC, hR, hSp, hap⟩ := id hL
  obtain ⟨hf, hfl, hlc, ⟨f, hg9, hfv⟩, hV, hxl⟩ := id hC
  refine lv_aload_n hx hb dX2_sumOfCell_0 rfl (lv_at hl 0 rfl) ?_
  refine va_get (ci := 3) (C := RX2) (T := TX2) (N := 7) (v := .ref lc) hx hb hts (by decide +kernel) hown hK.1 (p1 hf) 0 rfl rfl 0 (by decide) (hts (.fieldLink RX2 9 "Radixbench" "cells" "[J") (by decide +kernel)) (fun _ h9 => h9) rfl dX2_sumOfCell_1 ?_
  refine lv_iload_n hx hb dX2_sumOfCell_4 rfl (lv_at hl 2 rfl) ?_
  refine f_lald (j := i) hx hb hK hg9 (by assumption) (by decide) dX2_sumOfCell_5 ?_
  refine tp_l (y := lN (V i)) (hfv i (by assumption)) ?_
  refine lv_lstore (lv' := [(4, .long (lN (V i))), (0, .ref x0), (1, .long y), (3, .int (nI i))]) hx hb dX2_sumOfCell_6 hl (by decide) rfl (fun ls hl => ?_)
  refine lv_lload_n hx hb dX2_sumOfCell_8 rfl (lv_at hl 2 rfl) ?_
  refine lv_ldc2 (v := lN 31) hx hb hown (hts (.constantLong RX2 221 (31)) (by decide +kernel)) dX2_sumOfCell_9 ?_
  refine lv_lmul hx hb dX2_sumOfCell_12 ?_
  refine lv_lload hx hb dX2_sumOfCell_13 (lv_at hl 0 rfl) ?_
  refine cp_S (As := [.long (lN (V i))]) (rest := [.long (y * (lN 31))]) C0 hl hK hS hA (c_hiOf l g s.heap (lN (V i))) gX2_sumOfCell_X2_highOf rfl ⟨rfl, rfl⟩ (show hd_ok yX2_highOf 1 from ⟨by decide, by decide, by decide +kernel⟩) ⟨Nat.le_of_ble_eq_true rfl, Nat.le_of_ble_eq_true rfl⟩ rfl (Nat.le_of_ble_eq_true rfl) ⟨Nat.zero_le _, Nat.zero_le _⟩ dX2_sumOfCell_15 (fun locs hS => ?_)
  refine lv_i2l (v := (hiO (lN (V i))).toInt64) hx hb dX2_sumOfCell_18 (rfl) ?_
  refine lv_ladd hx hb dX2_sumOfCell_19 ?_
  obtain ⟨y_1, hy_1⟩ : ∃ z : Int64, (y * (lN 31)) + ((hiO (lN (V i))).toInt64) = z := ⟨_, rfl⟩
  refine tp_l (y := y_1) (hy_1) ?_
  refine lv_lstore (lv' := [(6, .long y_1), (4, .long (lN (V i))), (0, .ref x0), (1, .long y), (3, .int (nI i))]) hx hb dX2_sumOfCell_20 hl (by decide) rfl (fun ls hl => ?_)
  refine lv_lload hx hb dX2_sumOfCell_22 (lv_at hl 0 rfl) ?_
  refine lv_ldc2 (v := lN 31) hx hb hown (hts (.constantLong RX2 221 (31)) (by decide +kernel)) dX2_sumOfCell_24 ?_
  refine lv_lmul hx hb dX2_sumOfCell_27 ?_
  refine lv_lload hx hb dX2_sumOfCell_28 (lv_at hl 1 rfl) ?_
  refine lv_l2i (v := (lN (V i)).toInt32) hx hb dX2_sumOfCell_30 (rfl) ?_
  refine lv_i2l (v := ((lN (V i)).toInt32).toInt64) hx hb dX2_sumOfCell_31 (rfl) ?_
  refine lv_ladd hx hb dX2_sumOfCell_32 ?_
  obtain ⟨y_2, hy_2⟩ : ∃ z : Int64, (y_1 * (lN 31)) + (((lN (V i)).toInt32).toInt64) = z := ⟨_, rfl⟩
  refine tp_l (y := y_2) (hy_2) ?_
  refine lv_lstore (lv' := [(6, .long y_2), (4, .long (lN (V i))), (0, .ref x0), (1, .long y), (3, .int (nI i))]) hx hb dX2_sumOfCell_33 hl (by decide) rfl (fun ls hl => ?_)
  refine lv_iconst (v := nI 0) hx hb dX2_sumOfCell_35 (by decide) ?_
  refine lv_istore (lv' := [(8, .int (nI 0)), (6, .long y_2), (4, .long (lN (V i))), (0, .ref x0), (1, .long y), (3, .int (nI i))]) hx hb dX2_sumOfCell_36 hl (by decide) rfl (fun ls hl => ?_)
  refine L_sc1 C0 hK hA (u := lN (V i)) (fun y2 ls locs hS hl => ?_) 5 0 y_2 (by decide) (by decide) ls _ hS (lv_sub hl [0, 1, 2] rfl)
  refine lv_iconst (v := nI 0) hx hb dX2_sumOfCell_67 (by decide) ?_
  refine lv_istore (lv' := [(8, .int (nI 0)), (6, .long y2), (4, .long (lN (V i)))]) hx hb dX2_sumOfCell_68 hl (by decide) rfl (fun ls hl => ?_)
  refine L_sc2 C0 hK hA (u := lN (V i)) (fun y3 ls locs hS hl => ?_) 5 0 y2 (by decide) (by decide) ls _ hS (lv_sub hl [0, 1, 2] rfl)
  refine lv_lload hx hb dX2_sumOfCell_100 (lv_at hl 0 rfl) ?_
  exact rt_nl (mu := (fun _ => False)) C0 ⟨rfl, _, rfl⟩ hS rfl dX2_sumOfCell_102
abbrev rmX2_isSound : Room := { frames := 5, cells := 0, slots := 0, locals := 127 }
set_option maxHeartbeats 4000000 in
set_option maxRecDepth 100000 in
theorem L_snd (C0 : Cx p s m args meth c RX2 cX2_isSound 6 (some .boolean) wsX2_isSound) (hK : KK g s) (hZ : ZW g b0 s s.heap) (hA : ∀ q, s.heap.size ≤ q → A q) (hAb : ∀ q, A q → b0 ≤ q) {x0 lc tr tc sr sc : Nat} {V : Nat → Nat} {n : Nat} {t : Nat → Nat} (hmb : ∀ q : Nat, mC x0 lc tr tc sr sc q → b0 ≤ q) (hmA : ∀ q, mC x0 lc tr tc sr sc q → A q)
    (K : ∀ (i3 i4 i5 i6 : Int32) (pc9 : Nat) (ls : Array Slot) (H : Heap) (locs : List Loc), pc9 = 52 ∨ pc9 = 74 ∨ pc9 = 82 → CL g H x0 lc tr tc sr sc i3 i4 i5 i6 V n t → va_S A s.heap H locs → W p l e rmX2_isSound s m args below meth c H locs 0 0 Q (F0 m pc9 ls [])) :
    ∀ (n9 k : Nat) (i3 i4 i5 i6 : Int32), k ≤ 8 → 8 - k < n9 → ∀ (ls : Array Slot) (H : Heap) (locs : List Loc), CL g H x0 lc tr tc sr sc i3 i4 i5 i6 V n t → va_S A s.heap H locs → lv_has ls 6 [(1, .int (nI k)), (0, .ref x0)] → W p l e rmX2_isSound s m args below meth c H locs 0 0 Q (F0 m 2 ls []) := by
  obtain ⟨hx, hb, hr, hml, hown, hts, hlk⟩ := id C0
  intro n9
  induction n9 with
  | zero => intro k i3 i4 i5 i6 _ h; exact absurd h (Nat.not_lt_zero _)
  | succ n9 ih =>
    intro k i3 i4 i5 i6 hk hn9 ls H locs hL hS hl
    obtain ⟨hC, hR, hSp, hap⟩ := id hL
    obtain ⟨hf, hfl, hlc, ⟨f, hg9, hfv⟩, hV, hxl⟩ := id hC
    refine lv_iload_n hx hb dX2_isSound_2 rfl (lv_at hl 0 rfl) ?_
    refine lv_bipush (v := nI 8) hx hb dX2_isSound_3 (by decide) ?_
    refine lv_icmp_ge (tgt := 82) hx hb dX2_isSound_5 (by decide) (fun h1 => ?_) (fun h1 => ?_)
    · skip
      exact K i3 i4 i5 i6 82 ls H _ (Or.inr (Or.inr rfl)) hL hS
    · skip
      have hk8 : k < 8 := nle_n (by omega) h1
      have hk9 : (k + 1) % 8 < 8 := Nat.mod_lt _ (by decide)
      refine lv_aload_n hx hb dX2_isSound_8 rfl (lv_at hl 1 rfl) ?_
      refine va_get (ci := 3) (C := RX2) (T := TX2) (N := 7) (v := .ref lc) hx hb hts (by decide +kernel) hown hK.1 (p1 hf) 0 rfl rfl 0 (by decide) (hts (.fieldLink RX2 9 "Radixbench" "cells" "[J") (by decide +kernel)) (fun _ h9 => h9) rfl dX2_isSound_9 ?_
      refine lv_iload_n hx hb dX2_isSound_12 rfl (lv_at hl 0 rfl) ?_
      refine f_lald (j := k) hx hb hK hg9 (by assumption) (by decide) dX2_isSound_13 ?_
      refine tp_l (y := lN (V k)) (hfv k (by assumption)) ?_
      refine lv_lstore_n (lv' := [(2, .long (lN (V k))), (1, .int (nI k)), (0, .ref x0)]) hx hb dX2_isSound_14 rfl hl (by decide) rfl (fun ls hl => ?_)
      refine lv_aload_n hx hb dX2_isSound_15 rfl (lv_at hl 2 rfl) ?_
      refine va_get (ci := 3) (C := RX2) (T := TX2) (N := 7) (v := .ref lc) hx hb hts (by decide +kernel) hown hK.1 (p1 hf) 0 rfl rfl 0 (by decide) (hts (.fieldLink RX2 9 "Radixbench" "cells" "[J") (by decide +kernel)) (fun _ h9 => h9) rfl dX2_isSound_16 ?_
      refine lv_iload_n hx hb dX2_isSound_19 rfl (lv_at hl 1 rfl) ?_
      refine lv_iconst (v := nI 1) hx hb dX2_isSound_20 (by decide) ?_
      refine lv_iadd hx hb dX2_isSound_21 ?_
      refine tp_i (y := nI (k + 1)) (nI_add _ _) ?_
      refine lv_bipush (v := nI 8) hx hb dX2_isSound_22 (by decide) ?_
      refine lv_irem hx hb dX2_isSound_24 (by decide) ?_
      refine tp_i (y := nI ((k + 1) % 8)) (pk_rem (by omega) (by omega) (by omega)) ?_
      refine f_lald (j := ((k + 1) % 8)) hx hb hK hg9 (by assumption) (by decide) dX2_isSound_25 ?_
      refine tp_l (y := lN (V ((k + 1) % 8))) (hfv ((k + 1) % 8) (by assumption)) ?_
      refine lv_lstore (lv' := [(4, .long (lN (V ((k + 1) % 8)))), (2, .long (lN (V k))), (1, .int (nI k)), (0, .ref x0)]) hx hb dX2_isSound_26 hl (by decide) rfl (fun ls hl => ?_)
      refine lv_aload_n hx hb dX2_isSound_28 rfl (lv_at hl 3 rfl) ?_
      refine lv_iload_n hx hb dX2_isSound_29 rfl (lv_at hl 2 rfl) ?_
      refine jn_V (As := [.int (nI k)]) (rest := []) C0 hl hK hS hA (fun q h => hmA q h) (zat hZ hS hAb) (c_xReadBack l g b0 H x0 lc tr tc sr sc i3 i4 i5 i6 V n t hL hmb k hk8) gX2_isSound_X2_isReadBack rfl ⟨rfl, rfl⟩ (hL.1.recv hK) ⟨rfl, (show hd_ok yX2_isReadBack 1 from ⟨by decide, by decide, by decide +kernel⟩)⟩ ⟨Nat.le_of_ble_eq_true rfl, Nat.le_of_ble_eq_true rfl⟩ rfl (Nat.le_of_ble_eq_true rfl) ⟨Nat.zero_le _, Nat.zero_le _⟩ dX2_isSound_30 (fun r1 H1 locs hv hzz hk1 hS => ?_)
      obtain ⟨j3, j4, j5, j6, V2, n2, t2, ⟨⟨b9, rfl⟩, eV, en, et⟩, hL1⟩ := hv
      rw [eV, en, et] at hL1
      refine W.widen (k := 0) (n := 0) (by decide) (by decide) ?_
      refine lv_if_eq (tgt := 52) hx hb dX2_isSound_33 (by decide) (fun h2 => ?_) (fun h2 => ?_)
      · skip
        exact K j3 j4 j5 j6 52 ls H1 _ (Or.inl rfl) hL1 hS
      · skip
        refine lv_lload_n hx hb dX2_isSound_36 rfl (lv_at hl 1 rfl) ?_
        refine lv_lload hx hb dX2_isSound_37 (lv_at hl 0 rfl) ?_
        refine cn_S (As := [.long (lN (V k)), .long (lN (V ((k + 1) % 8)))]) (rest := []) C0 hl hK hS hA (fun q h => absurd h id) (c_xIsDiv l g H1 (V k) (V ((k + 1) % 8)) (hV k hk8) (hV _ hk9)) gX2_isSound_X2_isDivided rfl ⟨rfl, rfl⟩ (show hd_ok yX2_isDivided 2 from ⟨by decide, by decide, by decide +kernel⟩) ⟨Nat.le_of_ble_eq_true rfl, Nat.le_of_ble_eq_true rfl⟩ rfl (Nat.le_of_ble_eq_true rfl) ⟨Nat.zero_le _, Nat.zero_le _⟩ dX2_isSound_39 (fun r1 H2 locs hv hzz hk2 hS => ?_)
        obtain ⟨rfl, b8, rfl⟩ := hv
        refine W.widen (k := 0) (n := 0) (by decide) (by decide) ?_
        refine lv_if_eq (tgt := 52) hx hb dX2_isSound_42 (by decide) (fun h3 => ?_) (fun h3 => ?_)
        · skip
          exact K j3 j4 j5 j6 52 ls H1 _ (Or.inl rfl) hL1 hS
        · skip
          refine lv_lload_n hx hb dX2_isSound_45 rfl (lv_at hl 1 rfl) ?_
          refine cn_S (As := [.long (lN (V k))]) (rest := []) C0 hl hK hS hA (fun q h => absurd h id) (c_xTB l g H1 (lN (V k))) gX2_isSound_X2_isTurnedBack rfl ⟨rfl, rfl⟩ (show hd_ok yX2_isTurnedBack 1 from ⟨by decide, by decide, by decide +kernel⟩) ⟨Nat.le_of_ble_eq_true rfl, Nat.le_of_ble_eq_true rfl⟩ rfl (Nat.le_of_ble_eq_true rfl) ⟨Nat.zero_le _, Nat.zero_le _⟩ dX2_isSound_46 (fun r1 H2 locs hv hzz hk2 hS => ?_)
          obtain ⟨rfl, b7, rfl⟩ := hv
          refine W.widen (k := 0) (n := 0) (by decide) (by decide) ?_
          refine lv_if_ne (tgt := 54) hx hb dX2_isSound_49 (by decide) (fun h4 => ?_) (fun h4 => ?_)
          · skip
            refine lv_lload_n hx hb dX2_isSound_54 rfl (lv_at hl 1 rfl) ?_
            refine cn_S (As := [.long (lN (V k))]) (rest := []) C0 hl hK hS hA (fun q h => absurd h id) (c_bc64 l g H1 (lN (V k))) gX2_isSound_J13_bitCount_95d88 rfl ⟨rfl, rfl⟩ (show hd_ok yJ13_bitCount_95d88 1 from ⟨by decide, by decide, by decide +kernel⟩) ⟨Nat.le_of_ble_eq_true rfl, Nat.le_of_ble_eq_true rfl⟩ rfl (Nat.le_of_ble_eq_true rfl) ⟨Nat.zero_le _, Nat.zero_le _⟩ dX2_isSound_55 (fun r1 H2 locs hv hzz hk2 hS => ?_)
            obtain ⟨rfl, v1, rfl⟩ := hv
            refine W.widen (k := 0) (n := 0) (by decide) (by decide) ?_
            refine lv_lload_n hx hb dX2_isSound_58 rfl (lv_at hl 1 rfl) ?_
            refine cp_S (As := [.long (lN (V k))]) (rest := [.int v1]) C0 hl hK hS hA (c_hiOf l g H1 (lN (V k))) gX2_isSound_X2_highOf rfl ⟨rfl, rfl⟩ (show hd_ok yX2_highOf 1 from ⟨by decide, by decide, by decide +kernel⟩) ⟨Nat.le_of_ble_eq_true rfl, Nat.le_of_ble_eq_true rfl⟩ rfl (Nat.le_of_ble_eq_true rfl) ⟨Nat.zero_le _, Nat.zero_le _⟩ dX2_isSound_59 (fun locs hS => ?_)
            refine cn_S (As := [.int (hiO (lN (V k)))]) (rest := [.int v1]) C0 hl hK hS hA (fun q h => absurd h id) (c_bc32 l g H1 (hiO (lN (V k)))) gX2_isSound_J6_bitCount_0f7a4 rfl ⟨rfl, rfl⟩ (show hd_ok yJ6_bitCount_0f7a4 1 from ⟨by decide, by decide, by decide +kernel⟩) ⟨Nat.le_of_ble_eq_true rfl, Nat.le_of_ble_eq_true rfl⟩ rfl (Nat.le_of_ble_eq_true rfl) ⟨Nat.zero_le _, Nat.zero_le _⟩ dX2_isSound_62 (fun r1 H2 locs hv hzz hk2 hS => ?_)
            obtain ⟨rfl, v2, rfl⟩ := hv
            refine W.widen (k := 0) (n := 0) (by decide) (by decide) ?_
            refine lv_lload_n hx hb dX2_isSound_65 rfl (lv_at hl 1 rfl) ?_
            refine lv_l2i (v := (lN (V k)).toInt32) hx hb dX2_isSound_66 (rfl) ?_
            refine cn_S (As := [.int ((lN (V k)).toInt32)]) (rest := [.int v2, .int v1]) C0 hl hK hS hA (fun q h => absurd h id) (c_bc32 l g H1 ((lN (V k)).toInt32)) gX2_isSound_J6_bitCount_0f7a4 rfl ⟨rfl, rfl⟩ (show hd_ok yJ6_bitCount_0f7a4 1 from ⟨by decide, by decide, by decide +kernel⟩) ⟨Nat.le_of_ble_eq_true rfl, Nat.le_of_ble_eq_true rfl⟩ rfl (Nat.le_of_ble_eq_true rfl) ⟨Nat.zero_le _, Nat.zero_le _⟩ dX2_isSound_67 (fun r1 H2 locs hv hzz hk2 hS => ?_)
            obtain ⟨rfl, v3, rfl⟩ := hv
            refine W.widen (k := 0) (n := 0) (by decide) (by decide) ?_
            refine lv_iadd hx hb dX2_isSound_70 ?_
            refine lv_icmp_eq (tgt := 76) hx hb dX2_isSound_71 (by decide) (fun h5 => ?_) (fun h5 => ?_)
            · skip
              refine lv_iinc (v := nI (k + 1)) (lv' := [(1, .int (nI (k + 1))), (4, .long (lN (V ((k + 1) % 8)))), (2, .long (lN (V k))), (0, .ref x0)]) hx hb dX2_isSound_76 hl (k := 2) rfl (nI_1 _) (by decide) rfl (fun ls hl => ?_)
              refine lv_goto (tgt := 2) hx hb dX2_isSound_79 (by decide) ?_
              exact ih (k + 1) j3 j4 j5 j6 (by omega) (by omega) ls H1 _ hL1 hS (lv_sub hl [0, 3] rfl)
            · skip
              exact K j3 j4 j5 j6 74 ls H1 _ (Or.inr (Or.inl rfl)) hL1 hS
          · skip
            exact K j3 j4 j5 j6 52 ls H1 _ (Or.inl rfl) hL1 hS
set_option maxHeartbeats 4000000 in
set_option maxRecDepth 100000 in
theorem c_xSound (l : Launch) (g : Gx) (b0 : Nat) (H0 : Heap) (x0 lc tr tc sr sc : Nat) (i3 i4 i5 i6 : Int32) (V : Nat → Nat) (n : Nat) (t : Nat → Nat) (hL : CL g H0 x0 lc tr tc sr sc i3 i4 i5 i6 V n t) (hmb : ∀ q : Nat, mC x0 lc tr tc sr sc q → b0 ≤ q) : Met l yX2_isSound wsX2_isSound rmX2_isSound (va_Pc [.ref x0] (hJ g b0 H0)) (nQ H0 (mC x0 lc tr tc sr sc) (zC g x0 lc tr tc sr sc (fun r V2 n2 t2 => (∃ b : Bool, r = some (.int (bI b))) ∧ V2 = V ∧ n2 = n ∧ t2 = t))) 0 0 (fun q => (mC x0 lc tr tc sr sc) q ∨ H0.size ≤ q) := by
  refine cx_met (own := RX2) (cc := cX2_isSound) (maxL := 6) (by decide) rfl rfl (Nat.le_of_ble_eq_true rfl) ?_
  intro p e s m below meth c ls C0 hB0 hnm hl
  obtain ⟨hH, hK, hZ⟩ := hB0
  obtain ⟨hx, hb, hr, hml, hown, hts, hlk⟩ := id C0
  subst hH
  have hS : va_S (fun q => (mC x0 lc tr tc sr sc) q ∨ s.heap.size ≤ q) s.heap s.heap [] := va_S.rf
  have hA : ∀ q : Nat, s.heap.size ≤ q → (fun q => (mC x0 lc tr tc sr sc) q ∨ s.heap.size ≤ q) q := fun q h => Or.inr h
  have h0Z := hZ.1
  have hAb : ∀ q : Nat, (fun q => (mC x0 lc tr tc sr sc) q ∨ s.heap.size ≤ q) q → b0 ≤ q := fun q h => h.elim (hmb q) (fun h => Nat.le_trans h0Z h)
  have hl : lv_has ls 6 [(0, .ref x0)] := hl
  refine lv_iconst (v := nI 0) hx hb dX2_isSound_0 (by decide) ?_
  refine lv_istore_n (lv' := [(1, .int (nI 0)), (0, .ref x0)]) hx hb dX2_isSound_1 rfl hl (by decide) rfl (fun ls hl => ?_)
  refine L_snd C0 hK hZ hA hAb hmb (fun q h => Or.inl h) (fun i3 i4 i5 i6 pc9 ls H locs hpc hL hS => ?_) 9 0 i3 i4 i5 i6 (by decide) (by decide) ls s.heap _ hL hS (lv_sub hl [0, 1] rfl)
  rcases hpc with rfl | rfl | rfl
  · skip
    refine lv_iconst (v := nI 0) hx hb dX2_isSound_52 (by decide) ?_
    refine tp_i (y := bI false) (rfl) ?_
    exact rt_ni (mu := mC x0 lc tr tc sr sc) C0 (bI_nar _) ⟨_, _, _, _, V, n, t, ⟨⟨false, rfl⟩, rfl, rfl, rfl⟩, hL⟩ hS rfl dX2_isSound_53
  · skip
    refine lv_iconst (v := nI 0) hx hb dX2_isSound_74 (by decide) ?_
    refine tp_i (y := bI false) (rfl) ?_
    exact rt_ni (mu := mC x0 lc tr tc sr sc) C0 (bI_nar _) ⟨_, _, _, _, V, n, t, ⟨⟨false, rfl⟩, rfl, rfl, rfl⟩, hL⟩ hS rfl dX2_isSound_75
  · skip
    refine lv_iconst (v := nI 1) hx hb dX2_isSound_82 (by decide) ?_
    refine tp_i (y := bI true) (rfl) ?_
    exact rt_ni (mu := mC x0 lc tr tc sr sc) C0 (bI_nar _) ⟨_, _, _, _, V, n, t, ⟨⟨true, rfl⟩, rfl, rfl, rfl⟩, hL⟩ hS rfl dX2_isSound_83
abbrev rmX2_digest : Room := { frames := 6, cells := 0, slots := 0, locals := 152 }
set_option maxHeartbeats 4000000 in
set_option maxRecDepth 100000 in
theorem L_dA (C0 : Cx p s m args meth c RX2 cX2_digest 4 (some .long) wsX2_digest) (hK : KK g s) (hZ : ZW g b0 s s.heap) (hA : ∀ q, s.heap.size ≤ q → A q) (hAb : ∀ q, A q → b0 ≤ q) {x0 lc tr tc sr sc : Nat} {V : Nat → Nat} {n : Nat} {t : Nat → Nat} (hmb : ∀ q : Nat, mC x0 lc tr tc sr sc q → b0 ≤ q) (hmA : ∀ q, mC x0 lc tr tc sr sc q → A q)
    (K : ∀ (i3 i4 i5 i6 : Int32) (y : Int64) (ls : Array Slot) (H : Heap) (locs : List Loc), CL g H x0 lc tr tc sr sc i3 i4 i5 i6 V n t → va_S A s.heap H locs → lv_has ls 4 [(1, .long y), (0, .ref x0)] → W p l e rmX2_digest s m args below meth c H locs 0 0 Q (F0 m 30 ls [])) :
    ∀ (n9 k : Nat) (y : Int64) (i3 i4 i5 i6 : Int32), k ≤ 5 → 5 - k < n9 → ∀ (ls : Array Slot) (H : Heap) (locs : List Loc), CL g H x0 lc tr tc sr sc i3 i4 i5 i6 V n t → va_S A s.heap H locs → lv_has ls 4 [(3, .int (nI k)), (1, .long y), (0, .ref x0)] → W p l e rmX2_digest s m args below meth c H locs 0 0 Q (F0 m 6 ls []) := by
  obtain ⟨hx, hb, hr, hml, hown, hts, hlk⟩ := id C0
  intro n9
  induction n9 with
  | zero => intro k y i3 i4 i5 i6 _ h; exact absurd h (Nat.not_lt_zero _)
  | succ n9 ih =>
    intro k y i3 i4 i5 i6 hk hn9 ls H locs hL hS hl
    obtain ⟨hC, hR, hSp, hap⟩ := id hL
    obtain ⟨hf, hfl, hlc, ⟨f, hg9, hfv⟩, hV, hxl⟩ := id hC
    obtain ⟨-, -, -, -, hn70, ht128, -⟩ := id hR
    refine lv_iload_n hx hb dX2_digest_6 rfl (lv_at hl 0 rfl) ?_
    refine lv_iconst (v := nI 4) hx hb dX2_digest_7 (by decide) ?_
    refine lv_icmp_gt (tgt := 30) hx hb dX2_digest_8 (by decide) (fun h1 => ?_) (fun h1 => ?_)
    · skip
      exact K i3 i4 i5 i6 y ls H _ hL hS (lv_sub hl [1, 2] rfl)
    · skip
      have hk5 : k < 5 := Nat.lt_succ_of_le (nlt_n (by omega) h1)
      refine lv_lload_n hx hb dX2_digest_11 rfl (lv_at hl 1 rfl) ?_
      refine lv_ldc2 (v := lN 31) hx hb hown (hts (.constantLong RX2 221 (31)) (by decide +kernel)) dX2_digest_12 ?_
      refine lv_lmul hx hb dX2_digest_15 ?_
      refine lv_aload_n hx hb dX2_digest_16 rfl (lv_at hl 2 rfl) ?_
      refine lv_iload_n hx hb dX2_digest_17 rfl (lv_at hl 0 rfl) ?_
      refine cn_V (As := [.int (nI k)]) (rest := [.long (y * (lN 31))]) C0 hl hK hS hA (fun q h => hmA q h) (c_xBench l g H x0 lc tr tc sr sc i3 i4 i5 i6 V n t hL k hk5) gX2_digest_X2_bench rfl ⟨rfl, rfl⟩ (hL.1.recv hK) ⟨rfl, (show hd_ok yX2_bench 1 from ⟨by decide, by decide, by decide +kernel⟩)⟩ ⟨Nat.le_of_ble_eq_true rfl, Nat.le_of_ble_eq_true rfl⟩ rfl (Nat.le_of_ble_eq_true rfl) ⟨Nat.zero_le _, Nat.zero_le _⟩ dX2_digest_18 (fun r1 H1 locs hv hzz hkH1 hS => ?_)
      obtain ⟨j3, j4, j5, j6, V2, n2, t2, ⟨⟨rv, rfl⟩, eV, en, et⟩, hLH1⟩ := hv
      rw [eV, en, et] at hLH1
      refine W.widen (k := 0) (n := 0) (by decide) (by decide) ?_
      refine lv_i2l (v := rv.toInt64) hx hb dX2_digest_21 (rfl) ?_
      refine lv_ladd hx hb dX2_digest_22 ?_
      obtain ⟨y_1, hy_1⟩ : ∃ z : Int64, (y * (lN 31)) + rv.toInt64 = z := ⟨_, rfl⟩
      refine tp_l (y := y_1) (hy_1) ?_
      refine lv_lstore_n (lv' := [(1, .long y_1), (3, .int (nI k)), (0, .ref x0)]) hx hb dX2_digest_23 rfl hl (by decide) rfl (fun ls hl => ?_)
      refine lv_iinc (v := nI (k + 1)) (lv' := [(3, .int (nI (k + 1))), (1, .long y_1), (0, .ref x0)]) hx hb dX2_digest_24 hl (k := 1) rfl (nI_1 _) (by decide) rfl (fun ls hl => ?_)
      refine lv_goto (tgt := 6) hx hb dX2_digest_27 (by decide) ?_
      exact ih (k + 1) y_1 j3 j4 j5 j6 (by omega) (by omega) ls H1 _ hLH1 hS (lv_sub hl [0, 1, 2] rfl)
set_option maxHeartbeats 4000000 in
set_option maxRecDepth 100000 in
theorem L_dB (C0 : Cx p s m args meth c RX2 cX2_digest 4 (some .long) wsX2_digest) (hK : KK g s) (hZ : ZW g b0 s s.heap) (hA : ∀ q, s.heap.size ≤ q → A q) (hAb : ∀ q, A q → b0 ≤ q) {x0 lc tr tc sr sc : Nat} {V : Nat → Nat} {n : Nat} {t : Nat → Nat} (hmb : ∀ q : Nat, mC x0 lc tr tc sr sc q → b0 ≤ q) (hmA : ∀ q, mC x0 lc tr tc sr sc q → A q)
    (K : ∀ (i3 i4 i5 i6 : Int32) (y : Int64) (ls : Array Slot) (H : Heap) (locs : List Loc), CL g H x0 lc tr tc sr sc i3 i4 i5 i6 V n t → va_S A s.heap H locs → lv_has ls 4 [(1, .long y), (0, .ref x0)] → W p l e rmX2_digest s m args below meth c H locs 0 0 Q (F0 m 51 ls [])) :
    ∀ (n9 k : Nat) (y : Int64) (i3 i4 i5 i6 : Int32), k ≤ 8 → 8 - k < n9 → ∀ (ls : Array Slot) (H : Heap) (locs : List Loc), CL g H x0 lc tr tc sr sc i3 i4 i5 i6 V n t → va_S A s.heap H locs → lv_has ls 4 [(3, .int (nI k)), (1, .long y), (0, .ref x0)] → W p l e rmX2_digest s m args below meth c H locs 0 0 Q (F0 m 32 ls []) := by
  obtain ⟨hx, hb, hr, hml, hown, hts, hlk⟩ := id C0
  intro n9
  induction n9 with
  | zero => intro k y i3 i4 i5 i6 _ h; exact absurd h (Nat.not_lt_zero _)
  | succ n9 ih =>
    intro k y i3 i4 i5 i6 hk hn9 ls H locs hL hS hl
    obtain ⟨hC, hR, hSp, hap⟩ := id hL
    obtain ⟨hf, hfl, hlc, ⟨f, hg9, hfv⟩, hV, hxl⟩ := id hC
    obtain ⟨-, -, -, -, hn70, ht128, -⟩ := id hR
    refine lv_iload_n hx hb dX2_digest_32 rfl (lv_at hl 0 rfl) ?_
    refine lv_bipush (v := nI 8) hx hb dX2_digest_33 (by decide) ?_
    refine lv_icmp_ge (tgt := 51) hx hb dX2_digest_35 (by decide) (fun h1 => ?_) (fun h1 => ?_)
    · skip
      exact K i3 i4 i5 i6 y ls H _ hL hS (lv_sub hl [1, 2] rfl)
    · skip
      have hk8 : k < 8 := nle_n (by omega) h1
      refine lv_aload_n hx hb dX2_digest_38 rfl (lv_at hl 2 rfl) ?_
      refine lv_lload_n hx hb dX2_digest_39 rfl (lv_at hl 1 rfl) ?_
      refine lv_iload_n hx hb dX2_digest_40 rfl (lv_at hl 0 rfl) ?_
      refine cn_V (As := [.long y, .int (nI k)]) (rest := []) C0 hl hK hS hA (fun q h => absurd h id) (c_sumCell l g H x0 lc tr tc sr sc i3 i4 i5 i6 V n t hL y k hk8) gX2_digest_X2_sumOfCell rfl ⟨rfl, rfl⟩ (hL.1.recv hK) ⟨rfl, (show hd_ok yX2_sumOfCell 2 from ⟨by decide, by decide, by decide +kernel⟩)⟩ ⟨Nat.le_of_ble_eq_true rfl, Nat.le_of_ble_eq_true rfl⟩ rfl (Nat.le_of_ble_eq_true rfl) ⟨Nat.zero_le _, Nat.zero_le _⟩ dX2_digest_41 (fun r1 H1 locs hv hzz hk1 hS => ?_)
      obtain ⟨rfl, rv, rfl⟩ := hv
      refine W.widen (k := 0) (n := 0) (by decide) (by decide) ?_
      refine lv_lstore_n (lv' := [(1, .long rv), (3, .int (nI k)), (0, .ref x0)]) hx hb dX2_digest_44 rfl hl (by decide) rfl (fun ls hl => ?_)
      refine lv_iinc (v := nI (k + 1)) (lv' := [(3, .int (nI (k + 1))), (1, .long rv), (0, .ref x0)]) hx hb dX2_digest_45 hl (k := 1) rfl (nI_1 _) (by decide) rfl (fun ls hl => ?_)
      refine lv_goto (tgt := 32) hx hb dX2_digest_48 (by decide) ?_
      exact ih (k + 1) rv i3 i4 i5 i6 (by omega) (by omega) ls H _ hL hS (lv_sub hl [0, 1, 2] rfl)
set_option maxHeartbeats 4000000 in
set_option maxRecDepth 100000 in
theorem L_dC (C0 : Cx p s m args meth c RX2 cX2_digest 4 (some .long) wsX2_digest) (hK : KK g s) (hZ : ZW g b0 s s.heap) (hA : ∀ q, s.heap.size ≤ q → A q) (hAb : ∀ q, A q → b0 ≤ q) {x0 lc tr tc sr sc : Nat} {V : Nat → Nat} {n : Nat} {t : Nat → Nat} (hmb : ∀ q : Nat, mC x0 lc tr tc sr sc q → b0 ≤ q) (hmA : ∀ q, mC x0 lc tr tc sr sc q → A q)
    (K : ∀ (i3 i4 i5 i6 : Int32) (y : Int64) (ls : Array Slot) (H : Heap) (locs : List Loc), CL g H x0 lc tr tc sr sc i3 i4 i5 i6 V n t → va_S A s.heap H locs → lv_has ls 4 [(1, .long y), (0, .ref x0)] → W p l e rmX2_digest s m args below meth c H locs 0 0 Q (F0 m 88 ls [])) :
    ∀ (n9 k : Nat) (y : Int64) (i3 i4 i5 i6 : Int32), k ≤ n → n - k < n9 → ∀ (ls : Array Slot) (H : Heap) (locs : List Loc), CL g H x0 lc tr tc sr sc i3 i4 i5 i6 V n t → va_S A s.heap H locs → lv_has ls 4 [(3, .int (nI k)), (1, .long y), (0, .ref x0)] → W p l e rmX2_digest s m args below meth c H locs 0 0 Q (F0 m 53 ls []) := by
  obtain ⟨hx, hb, hr, hml, hown, hts, hlk⟩ := id C0
  intro n9
  induction n9 with
  | zero => intro k y i3 i4 i5 i6 _ h; exact absurd h (Nat.not_lt_zero _)
  | succ n9 ih =>
    intro k y i3 i4 i5 i6 hk hn9 ls H locs hL hS hl
    obtain ⟨hC, hR, hSp, hap⟩ := id hL
    obtain ⟨hf, hfl, hlc, ⟨f, hg9, hfv⟩, hV, hxl⟩ := id hC
    obtain ⟨-, -, -, -, hn70, ht128, -⟩ := id hR
    refine lv_iload_n hx hb dX2_digest_53 rfl (lv_at hl 0 rfl) ?_
    refine lv_aload_n hx hb dX2_digest_54 rfl (lv_at hl 2 rfl) ?_
    refine va_get (ci := 3) (C := RX2) (T := TX2) (N := 7) (v := .ref tr) hx hb hts (by decide +kernel) hown hK.1 (p1 hf) 0 rfl rfl 1 (by decide) (hts (.fieldLink RX2 16 "Radixbench" "text" "LRadixbench$Row;") (by decide +kernel)) (fun _ h9 => h9) rfl dX2_digest_55 ?_
    refine cp_V (As := []) (rest := [.int (nI k)]) C0 hl hK hS hA (c_rSize l g H tr tc n t hR) gX2_digest_X0_size rfl ⟨rfl, rfl⟩ (hR.recv hK) ⟨rfl, (show hd_ok yX0_size 0 from ⟨by decide, by decide, by decide +kernel⟩)⟩ ⟨Nat.le_of_ble_eq_true rfl, Nat.le_of_ble_eq_true rfl⟩ rfl (Nat.le_of_ble_eq_true rfl) ⟨Nat.zero_le _, Nat.zero_le _⟩ dX2_digest_58 (fun locs hS => ?_)
    refine lv_icmp_ge (tgt := 88) hx hb dX2_digest_61 (by decide) (fun h1 => ?_) (fun h1 => ?_)
    · skip
      exact K i3 i4 i5 i6 y ls H _ hL hS (lv_sub hl [1, 2] rfl)
    · skip
      have hkn : k < n := nle_n (by omega) h1
      refine lv_lload_n hx hb dX2_digest_64 rfl (lv_at hl 1 rfl) ?_
      refine lv_ldc2 (v := lN 31) hx hb hown (hts (.constantLong RX2 221 (31)) (by decide +kernel)) dX2_digest_65 ?_
      refine lv_lmul hx hb dX2_digest_68 ?_
      refine lv_aload_n hx hb dX2_digest_69 rfl (lv_at hl 2 rfl) ?_
      refine va_get (ci := 3) (C := RX2) (T := TX2) (N := 7) (v := .ref tr) hx hb hts (by decide +kernel) hown hK.1 (p1 hf) 0 rfl rfl 1 (by decide) (hts (.fieldLink RX2 16 "Radixbench" "text" "LRadixbench$Row;") (by decide +kernel)) (fun _ h9 => h9) rfl dX2_digest_70 ?_
      refine lv_iload_n hx hb dX2_digest_73 rfl (lv_at hl 0 rfl) ?_
      refine lv_bipush (v := nI 36) hx hb dX2_digest_74 (by decide) ?_
      refine cp_V (As := [.int (nI k), .int (nI 36)]) (rest := [.long (y * (lN 31))]) C0 hl hK hS hA (c_dgAt l g H tr tc n t hR k 36 hkn (by decide)) gX2_digest_X0_digitAt rfl ⟨rfl, rfl⟩ (hR.recv hK) ⟨rfl, (show hd_ok yX0_digitAt 2 from ⟨by decide, by decide, by decide +kernel⟩)⟩ ⟨Nat.le_of_ble_eq_true rfl, Nat.le_of_ble_eq_true rfl⟩ rfl (Nat.le_of_ble_eq_true rfl) ⟨Nat.zero_le _, Nat.zero_le _⟩ dX2_digest_76 (fun locs hS => ?_)
      refine lv_i2l (v := (dgC (t k) 36).toInt64) hx hb dX2_digest_79 (rfl) ?_
      refine lv_ladd hx hb dX2_digest_80 ?_
      obtain ⟨y_1, hy_1⟩ : ∃ z : Int64, (y * (lN 31)) + ((dgC (t k) 36).toInt64) = z := ⟨_, rfl⟩
      refine tp_l (y := y_1) (hy_1) ?_
      refine lv_lstore_n (lv' := [(1, .long y_1), (3, .int (nI k)), (0, .ref x0)]) hx hb dX2_digest_81 rfl hl (by decide) rfl (fun ls hl => ?_)
      refine lv_iinc (v := nI (k + 1)) (lv' := [(3, .int (nI (k + 1))), (1, .long y_1), (0, .ref x0)]) hx hb dX2_digest_82 hl (k := 1) rfl (nI_1 _) (by decide) rfl (fun ls hl => ?_)
      refine lv_goto (tgt := 53) hx hb dX2_digest_85 (by decide) ?_
      exact ih (k + 1) y_1 i3 i4 i5 i6 (by omega) (by omega) ls H _ hL hS (lv_sub hl [0, 1, 2] rfl)
set_option maxHeartbeats 4000000 in
set_option maxRecDepth 100000 in
theorem L_dD (C0 : Cx p s m args meth c RX2 cX2_digest 4 (some .long) wsX2_digest) (hK : KK g s) (hZ : ZW g b0 s s.heap) (hA : ∀ q, s.heap.size ≤ q → A q) (hAb : ∀ q, A q → b0 ≤ q) {x0 lc tr tc sr sc : Nat} {V : Nat → Nat} {n : Nat} {t : Nat → Nat} (hmb : ∀ q : Nat, mC x0 lc tr tc sr sc q → b0 ≤ q) (hmA : ∀ q, mC x0 lc tr tc sr sc q → A q)
    (K : ∀ (i3 i4 i5 i6 : Int32) (y : Int64) (ls : Array Slot) (H : Heap) (locs : List Loc), CL g H x0 lc tr tc sr sc i3 i4 i5 i6 V n t → va_S A s.heap H locs → lv_has ls 4 [(1, .long y), (0, .ref x0)] → W p l e rmX2_digest s m args below meth c H locs 0 0 Q (F0 m 160 ls [])) :
    ∀ (n9 k : Nat) (y : Int64) (i3 i4 i5 i6 : Int32), k ≤ 4 → 4 - k < n9 → ∀ (ls : Array Slot) (H : Heap) (locs : List Loc), CL g H x0 lc tr tc sr sc i3 i4 i5 i6 V n t → va_S A s.heap H locs → lv_has ls 4 [(3, .int (nI k)), (1, .long y), (0, .ref x0)] → W p l e rmX2_digest s m args below meth c H locs 0 0 Q (F0 m 90 ls []) := by
  obtain ⟨hx, hb, hr, hml, hown, hts, hlk⟩ := id C0
  intro n9
  induction n9 with
  | zero => intro k y i3 i4 i5 i6 _ h; exact absurd h (Nat.not_lt_zero _)
  | succ n9 ih =>
    intro k y i3 i4 i5 i6 hk hn9 ls H locs hL hS hl
    obtain ⟨hC, hR, hSp, hap⟩ := id hL
    obtain ⟨hf, hfl, hlc, ⟨f, hg9, hfv⟩, hV, hxl⟩ := id hC
    obtain ⟨-, -, -, -, hn70, ht128, -⟩ := id hR
    refine lv_iload_n hx hb dX2_digest_90 rfl (lv_at hl 0 rfl) ?_
    refine lv_iconst (v := nI 4) hx hb dX2_digest_91 (by decide) ?_
    refine lv_icmp_ge (tgt := 160) hx hb dX2_digest_92 (by decide) (fun h1 => ?_) (fun h1 => ?_)
    · skip
      exact K i3 i4 i5 i6 y ls H _ hL hS (lv_sub hl [1, 2] rfl)
    · skip
      have hk4 : k < 4 := nle_n (by omega) h1
      refine lv_lload_n hx hb dX2_digest_95 rfl (lv_at hl 1 rfl) ?_
      refine lv_ldc2 (v := lN 31) hx hb hown (hts (.constantLong RX2 221 (31)) (by decide +kernel)) dX2_digest_96 ?_
      refine lv_lmul hx hb dX2_digest_99 ?_
      refine lv_aload_n hx hb dX2_digest_100 rfl (lv_at hl 2 rfl) ?_
      refine lv_bipush (v := nI 10) hx hb dX2_digest_101 (by decide) ?_
      refine lv_iload_n hx hb dX2_digest_103 rfl (lv_at hl 0 rfl) ?_
      refine lv_iconst (v := nI 1) hx hb dX2_digest_104 (by decide) ?_
      refine tp_i (y := bI true) (rfl) ?_
      refine jn_V (As := [.int (nI 10), .int (nI k), .int (bI true)]) (rest := [.long (y * (lN 31))]) C0 hl hK hS hA (fun q h => hmA q h) (zat hZ hS hAb) (c_xWould l g b0 H x0 lc tr tc sr sc i3 i4 i5 i6 V n t hL hmb 10 k (by decide) hk4 true) gX2_digest_X2_would rfl ⟨rfl, rfl⟩ (hL.1.recv hK) ⟨rfl, (show hd_ok yX2_would 3 from ⟨by decide, by decide, by decide +kernel⟩)⟩ ⟨Nat.le_of_ble_eq_true rfl, Nat.le_of_ble_eq_true rfl⟩ rfl (Nat.le_of_ble_eq_true rfl) ⟨Nat.zero_le _, Nat.zero_le _⟩ dX2_digest_105 (fun r1 H1 locs hv hzz hkH1 hS => ?_)
      obtain ⟨j3, j4, j5, j6, V2, n2, t2, ⟨⟨rv, rfl⟩, eV, en, et⟩, hLH1⟩ := hv
      rw [eV, en, et] at hLH1
      refine W.widen (k := 0) (n := 0) (by decide) (by decide) ?_
      refine lv_i2l (v := rv.toInt64) hx hb dX2_digest_108 (rfl) ?_
      refine lv_ladd hx hb dX2_digest_109 ?_
      obtain ⟨y_1, hy_1⟩ : ∃ z : Int64, (y * (lN 31)) + rv.toInt64 = z := ⟨_, rfl⟩
      refine tp_l (y := y_1) (hy_1) ?_
      refine lv_lstore_n (lv' := [(1, .long y_1), (3, .int (nI k)), (0, .ref x0)]) hx hb dX2_digest_110 rfl hl (by decide) rfl (fun ls hl => ?_)
      refine lv_lload_n hx hb dX2_digest_111 rfl (lv_at hl 0 rfl) ?_
      refine lv_ldc2 (v := lN 31) hx hb hown (hts (.constantLong RX2 221 (31)) (by decide +kernel)) dX2_digest_112 ?_
      refine lv_lmul hx hb dX2_digest_115 ?_
      refine lv_aload_n hx hb dX2_digest_116 rfl (lv_at hl 2 rfl) ?_
      refine lv_bipush (v := nI 10) hx hb dX2_digest_117 (by decide) ?_
      refine lv_iload_n hx hb dX2_digest_119 rfl (lv_at hl 1 rfl) ?_
      refine lv_iconst (v := nI 0) hx hb dX2_digest_120 (by decide) ?_
      refine tp_i (y := bI false) (rfl) ?_
      refine jn_V (As := [.int (nI 10), .int (nI k), .int (bI false)]) (rest := [.long (y_1 * (lN 31))]) C0 hl hK hS hA (fun q h => hmA q h) (zat hZ hS hAb) (c_xWould l g b0 H1 x0 lc tr tc sr sc j3 j4 j5 j6 V n t hLH1 hmb 10 k (by decide) hk4 false) gX2_digest_X2_would rfl ⟨rfl, rfl⟩ (hLH1.1.recv hK) ⟨rfl, (show hd_ok yX2_would 3 from ⟨by decide, by decide, by decide +kernel⟩)⟩ ⟨Nat.le_of_ble_eq_true rfl, Nat.le_of_ble_eq_true rfl⟩ rfl (Nat.le_of_ble_eq_true rfl) ⟨Nat.zero_le _, Nat.zero_le _⟩ dX2_digest_121 (fun r1 H2 locs hv hzz hkH2 hS => ?_)
      obtain ⟨k3, k4, k5, k6, V2, n2, t2, ⟨⟨rv, rfl⟩, eV, en, et⟩, hLH2⟩ := hv
      rw [eV, en, et] at hLH2
      refine W.widen (k := 0) (n := 0) (by decide) (by decide) ?_
      refine lv_i2l (v := rv.toInt64) hx hb dX2_digest_124 (rfl) ?_
      refine lv_ladd hx hb dX2_digest_125 ?_
      obtain ⟨y_2, hy_2⟩ : ∃ z : Int64, (y_1 * (lN 31)) + rv.toInt64 = z := ⟨_, rfl⟩
      refine tp_l (y := y_2) (hy_2) ?_
      refine lv_lstore_n (lv' := [(1, .long y_2), (3, .int (nI k)), (0, .ref x0)]) hx hb dX2_digest_126 rfl hl (by decide) rfl (fun ls hl => ?_)
      obtain ⟨hC2, hR2, ⟨ks, us, hS2⟩, -⟩ := id hLH2
      obtain ⟨hf2, -⟩ := id hC2
      refine lv_aload_n hx hb dX2_digest_127 rfl (lv_at hl 2 rfl) ?_
      refine lv_aload_n hx hb dX2_digest_128 rfl (lv_at hl 2 rfl) ?_
      refine va_get (ci := 3) (C := RX2) (T := TX2) (N := 7) (v := .ref sr) hx hb hts (by decide +kernel) hown hK.1 (p1 hf2) 0 rfl rfl 2 (by decide) (hts (.fieldLink RX2 20 "Radixbench" "spare" "LRadixbench$Row;") (by decide +kernel)) (fun _ h9 => h9) rfl dX2_digest_129 ?_
      refine lv_iconst (v := nI 0) hx hb dX2_digest_132 (by decide) ?_
      refine lv_bipush (v := nI 7) hx hb dX2_digest_133 (by decide) ?_
      refine lv_iload_n hx hb dX2_digest_135 rfl (lv_at hl 1 rfl) ?_
      refine cn_V (As := [.ref sr, .int (nI 0), .int (nI 7), .int (nI k)]) (rest := []) C0 hl hK hS hA (fun q h => hmA q (mC_s h)) (c_tellIn l g H2 x0 lc _ V hC2 sr sc ks us hS2 0 7 k (by decide) (by decide) hk4) gX2_digest_X2_tellInto rfl ⟨rfl, rfl⟩ (hC2.recv hK) ⟨rfl, (show hd_ok yX2_tellInto 4 from ⟨by decide, by decide, by decide +kernel⟩)⟩ ⟨Nat.le_of_ble_eq_true rfl, Nat.le_of_ble_eq_true rfl⟩ rfl (Nat.le_of_ble_eq_true rfl) ⟨Nat.zero_le _, Nat.zero_le _⟩ dX2_digest_136 (fun r1 H3 locs hv hzz hk3 hS => ?_)
      obtain ⟨rfl, k2, t2, hT, hR3⟩ := hv
      have hL3 := hLH2.setS hR3 hk3
      have hf3 := hL3.1.1
      refine W.widen (k := 0) (n := 0) (by decide) (by decide) ?_
      refine lv_lload_n hx hb dX2_digest_139 rfl (lv_at hl 0 rfl) ?_
      refine lv_ldc2 (v := lN 31) hx hb hown (hts (.constantLong RX2 221 (31)) (by decide +kernel)) dX2_digest_140 ?_
      refine lv_lmul hx hb dX2_digest_143 ?_
      refine lv_aload_n hx hb dX2_digest_144 rfl (lv_at hl 2 rfl) ?_
      refine va_get (ci := 3) (C := RX2) (T := TX2) (N := 7) (v := .ref sr) hx hb hts (by decide +kernel) hown hK.1 (p1 hf3) 0 rfl rfl 2 (by decide) (hts (.fieldLink RX2 20 "Radixbench" "spare" "LRadixbench$Row;") (by decide +kernel)) (fun _ h9 => h9) rfl dX2_digest_145 ?_
      refine cp_V (As := []) (rest := [.long (y_2 * (lN 31))]) C0 hl hK hS hA (c_rSize l g H3 sr sc k2 t2 hR3) gX2_digest_X0_size rfl ⟨rfl, rfl⟩ (hR3.recv hK) ⟨rfl, (show hd_ok yX0_size 0 from ⟨by decide, by decide, by decide +kernel⟩)⟩ ⟨Nat.le_of_ble_eq_true rfl, Nat.le_of_ble_eq_true rfl⟩ rfl (Nat.le_of_ble_eq_true rfl) ⟨Nat.zero_le _, Nat.zero_le _⟩ dX2_digest_148 (fun locs hS => ?_)
      refine lv_i2l (v := (nI k2).toInt64) hx hb dX2_digest_151 (rfl) ?_
      refine lv_ladd hx hb dX2_digest_152 ?_
      obtain ⟨y_3, hy_3⟩ : ∃ z : Int64, (y_2 * (lN 31)) + ((nI k2).toInt64) = z := ⟨_, rfl⟩
      refine tp_l (y := y_3) (hy_3) ?_
      refine lv_lstore_n (lv' := [(1, .long y_3), (3, .int (nI k)), (0, .ref x0)]) hx hb dX2_digest_153 rfl hl (by decide) rfl (fun ls hl => ?_)
      refine lv_iinc (v := nI (k + 1)) (lv' := [(3, .int (nI (k + 1))), (1, .long y_3), (0, .ref x0)]) hx hb dX2_digest_154 hl (k := 1) rfl (nI_1 _) (by decide) rfl (fun ls hl => ?_)
      refine lv_goto (tgt := 90) hx hb dX2_digest_157 (by decide) ?_
      exact ih (k + 1) y_3 k3 k4 k5 k6 (by omega) (by omega) ls H3 _ hL3 hS (lv_sub hl [0, 1, 2] rfl)
set_option maxHeartbeats 4000000 in
set_option maxRecDepth 100000 in
theorem c_xDigest (l : Launch) (g : Gx) (b0 : Nat) (H0 : Heap) (x0 lc tr tc sr sc : Nat) (i3 i4 i5 i6 : Int32) (V : Nat → Nat) (n : Nat) (t : Nat → Nat) (hL : CL g H0 x0 lc tr tc sr sc i3 i4 i5 i6 V n t) (hmb : ∀ q : Nat, mC x0 lc tr tc sr sc q → b0 ≤ q) : Met l yX2_digest wsX2_digest rmX2_digest (va_Pc [.ref x0] (hJ g b0 H0)) (nQ H0 (mC x0 lc tr tc sr sc) (zC g x0 lc tr tc sr sc (fun r V2 n2 t2 => (∃ rv : Int64, r = some (.long rv)) ∧ V2 = V ∧ n2 = n ∧ t2 = t))) 0 0 (fun q => (mC x0 lc tr tc sr sc) q ∨ H0.size ≤ q) := by
  refine cx_met (own := RX2) (cc := cX2_digest) (maxL := 4) (by decide) rfl rfl (Nat.le_of_ble_eq_true rfl) ?_
  intro p e s m below meth c ls C0 hB0 hnm hl
  obtain ⟨hH, hK, hZ⟩ := hB0
  obtain ⟨hx, hb, hr, hml, hown, hts, hlk⟩ := id C0
  subst hH
  have hS : va_S (fun q => (mC x0 lc tr tc sr sc) q ∨ s.heap.size ≤ q) s.heap s.heap [] := va_S.rf
  have hA : ∀ q : Nat, s.heap.size ≤ q → (fun q => (mC x0 lc tr tc sr sc) q ∨ s.heap.size ≤ q) q := fun q h => Or.inr h
  have h0Z := hZ.1
  have hAb : ∀ q : Nat, (fun q => (mC x0 lc tr tc sr sc) q ∨ s.heap.size ≤ q) q → b0 ≤ q := fun q h => h.elim (hmb q) (fun h => Nat.le_trans h0Z h)
  have hl : lv_has ls 4 [(0, .ref x0)] := hl
  have hmA : ∀ q, mC x0 lc tr tc sr sc q → (fun q => mC x0 lc tr tc sr sc q ∨ s.heap.size ≤ q) q := fun q h => Or.inl h
  refine lv_ldc2 (v := lN 8111) hx hb hown (hts (.constantLong RX2 219 (8111)) (by decide +kernel)) dX2_digest_0 ?_
  refine lv_lstore_n (lv' := [(1, .long (lN 8111)), (0, .ref x0)]) hx hb dX2_digest_3 rfl hl (by decide) rfl (fun ls hl => ?_)
  refine lv_iconst (v := nI 0) hx hb dX2_digest_4 (by decide) ?_
  refine lv_istore_n (lv' := [(3, .int (nI 0)), (1, .long (lN 8111)), (0, .ref x0)]) hx hb dX2_digest_5 rfl hl (by decide) rfl (fun ls hl => ?_)
  refine L_dA C0 hK hZ hA hAb hmb hmA (fun i3 i4 i5 i6 y ls H locs hL hS hl => ?_) 6 0 _ i3 i4 i5 i6 (by omega) (by omega) ls s.heap _ hL hS (lv_sub hl [0, 1, 2] rfl)
  refine lv_iconst (v := nI 0) hx hb dX2_digest_30 (by decide) ?_
  refine lv_istore_n (lv' := [(3, .int (nI 0)), (1, .long y), (0, .ref x0)]) hx hb dX2_digest_31 rfl hl (by decide) rfl (fun ls hl => ?_)
  refine L_dB C0 hK hZ hA hAb hmb hmA (fun i3 i4 i5 i6 y ls H locs hL hS hl => ?_) 9 0 y i3 i4 i5 i6 (by omega) (by omega) ls H _ hL hS (lv_sub hl [0, 1, 2] rfl)
  refine lv_iconst (v := nI 0) hx hb dX2_digest_51 (by decide) ?_
  refine lv_istore_n (lv' := [(3, .int (nI 0)), (1, .long y), (0, .ref x0)]) hx hb dX2_digest_52 rfl hl (by decide) rfl (fun ls hl => ?_)
  refine L_dC C0 hK hZ hA hAb hmb hmA (fun i3 i4 i5 i6 y ls H locs hL hS hl => ?_) (n + 1) 0 y i3 i4 i5 i6 (by omega) (by omega) ls H _ hL hS (lv_sub hl [0, 1, 2] rfl)
  refine lv_iconst (v := nI 0) hx hb dX2_digest_88 (by decide) ?_
  refine lv_istore_n (lv' := [(3, .int (nI 0)), (1, .long y), (0, .ref x0)]) hx hb dX2_digest_89 rfl hl (by decide) rfl (fun ls hl => ?_)
  refine L_dD C0 hK hZ hA hAb hmb hmA (fun i3 i4 i5 i6 y ls H locs hL hS hl => ?_) 5 0 y i3 i4 i5 i6 (by omega) (by omega) ls H _ hL hS (lv_sub hl [0, 1, 2] rfl)
  refine lv_lload_n hx hb dX2_digest_160 rfl (lv_at hl 0 rfl) ?_
  refine lv_ldc2 (v := lN 31) hx hb hown (hts (.constantLong RX2 221 (31)) (by decide +kernel)) dX2_digest_161 ?_
  refine lv_lmul hx hb dX2_digest_164 ?_
  refine lv_aload_n hx hb dX2_digest_165 rfl (lv_at hl 1 rfl) ?_
  refine lv_bipush (v := nI 16) hx hb dX2_digest_166 (by decide) ?_
  refine lv_iconst (v := nI 2) hx hb dX2_digest_168 (by decide) ?_
  refine jn_V (As := [.int (nI 16), .int (nI 2)]) (rest := [.long (y * (lN 31))]) C0 hl hK hS hA (fun q h => hmA q h) (zat hZ hS hAb) (c_xSame l g b0 H x0 lc tr tc sr sc i3 i4 i5 i6 V n t hL hmb 16 2 (by decide) (by decide)) gX2_digest_X2_same rfl ⟨rfl, rfl⟩ (hL.1.recv hK) ⟨rfl, (show hd_ok yX2_same 2 from ⟨by decide, by decide, by decide +kernel⟩)⟩ ⟨Nat.le_of_ble_eq_true rfl, Nat.le_of_ble_eq_true rfl⟩ rfl (Nat.le_of_ble_eq_true rfl) ⟨Nat.zero_le _, Nat.zero_le _⟩ dX2_digest_169 (fun r1 H1 locs hv hzz hkH1 hS => ?_)
  obtain ⟨j3, j4, j5, j6, V2, n2, t2, ⟨⟨rv, rfl⟩, eV, en, et⟩, hLH1⟩ := hv
  rw [eV, en, et] at hLH1
  refine W.widen (k := 0) (n := 0) (by decide) (by decide) ?_
  refine lv_i2l (v := rv.toInt64) hx hb dX2_digest_172 (rfl) ?_
  refine lv_ladd hx hb dX2_digest_173 ?_
  obtain ⟨y_1, hy_1⟩ : ∃ z : Int64, (y * (lN 31)) + rv.toInt64 = z := ⟨_, rfl⟩
  refine tp_l (y := y_1) (hy_1) ?_
  refine lv_lstore_n (lv' := [(1, .long y_1), (0, .ref x0)]) hx hb dX2_digest_174 rfl hl (by decide) rfl (fun ls hl => ?_)
  refine lv_lload_n hx hb dX2_digest_175 rfl (lv_at hl 0 rfl) ?_
  refine lv_ldc2 (v := lN 31) hx hb hown (hts (.constantLong RX2 221 (31)) (by decide +kernel)) dX2_digest_176 ?_
  refine lv_lmul hx hb dX2_digest_179 ?_
  refine lv_aload_n hx hb dX2_digest_180 rfl (lv_at hl 1 rfl) ?_
  refine jn_V (As := []) (rest := [.long (y_1 * (lN 31))]) C0 hl hK hS hA (fun q h => hmA q h) (zat hZ hS hAb) (c_xSound l g b0 H1 x0 lc tr tc sr sc j3 j4 j5 j6 V n t hLH1 hmb) gX2_digest_X2_isSound rfl ⟨rfl, rfl⟩ (hLH1.1.recv hK) ⟨rfl, (show hd_ok yX2_isSound 0 from ⟨by decide, by decide, by decide +kernel⟩)⟩ ⟨Nat.le_of_ble_eq_true rfl, Nat.le_of_ble_eq_true rfl⟩ rfl (Nat.le_of_ble_eq_true rfl) ⟨Nat.zero_le _, Nat.zero_le _⟩ dX2_digest_181 (fun r1 H2 locs hv hzz hk2 hS => ?_)
  obtain ⟨k3, k4, k5, k6, V2, n2, t2, ⟨⟨b9, rfl⟩, eV, en, et⟩, hL2⟩ := hv
  rw [eV, en, et] at hL2
  refine W.widen (k := 0) (n := 0) (by decide) (by decide) ?_
  refine lv_if_eq (tgt := 191) hx hb dX2_digest_184 (by decide) (fun h9 => ?_) (fun h9 => ?_)
  · skip
    refine lv_iconst (v := nI 0) hx hb dX2_digest_191 (by decide) ?_
    refine lv_i2l (v := (nI 0).toInt64) hx hb dX2_digest_192 (rfl) ?_
    refine lv_ladd hx hb dX2_digest_193 ?_
    exact rt_nl (mu := mC x0 lc tr tc sr sc) C0 ⟨_, _, _, _, V, n, t, ⟨⟨_, rfl⟩, rfl, rfl, rfl⟩, hL2⟩ hS rfl dX2_digest_194
  · skip
    refine lv_iconst (v := nI 1) hx hb dX2_digest_187 (by decide) ?_
    refine lv_goto (tgt := 192) hx hb dX2_digest_188 (by decide) ?_
    refine lv_i2l (v := (nI 1).toInt64) hx hb dX2_digest_192 (rfl) ?_
    refine lv_ladd hx hb dX2_digest_193 ?_
    exact rt_nl (mu := mC x0 lc tr tc sr sc) C0 ⟨_, _, _, _, V, n, t, ⟨⟨_, rfl⟩, rfl, rfl, rfl⟩, hL2⟩ hS rfl dX2_digest_194
end M72

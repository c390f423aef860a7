-- THE CLASS: joining, turning about, soundness
theorem wideN_mod {n u : Nat} (hn : n = 2 ∨ n = 4) (hu : u < 65536 ^ n) : wideN n u % 65536 ^ n = u := by
  rcases hn with rfl | rfl
  · unfold wideN; split <;> omega
  · rw [wideN_4 hu]; exact Nat.mod_eq_of_lt hu
theorem cmpS_lt {zi : Bool} {u v : Nat} (hu : u < 65536 ^ nP zi) (hv : v < 65536 ^ nP zi) : (cmpS (nP zi - 1 + 1) u v < 0 ↔ lN (wideN (nP zi) u) < lN (wideN (nP zi) v)) ∧ (cmpS (nP zi - 1 + 1) u v > 0 ↔ lN (wideN (nP zi) v) < lN (wideN (nP zi) u)) := by
  have b1 : wideN (nP zi) u < 2 ^ 64 := wideN_lt (nP_or _) hu
  have b2 : wideN (nP zi) v < 2 ^ 64 := wideN_lt (nP_or _) hv
  rw [Int64.lt_iff_toInt_lt, Int64.lt_iff_toInt_lt, l_ti b1, l_ti b2]
  cases zi
  · have hu : u < 65536 ^ 4 := hu
    have hv : v < 65536 ^ 4 := hv
    show (cmpS 4 u v < 0 ↔ _) ∧ (cmpS 4 u v > 0 ↔ _)
    rw [show wideN (nP false) u = u from wideN_4 hu, show wideN (nP false) v = v from wideN_4 hv]
    unfold cmpS cmpI
    simp only [decide_eq_decide]
    constructor <;> (repeat' split) <;> first | exact ⟨fun _ => by omega, fun _ => by decide⟩ | exact ⟨fun z => absurd z (by decide), fun z => absurd z (by omega)⟩
  · have hu : u < 65536 ^ 2 := hu
    have hv : v < 65536 ^ 2 := hv
    show (cmpS 2 u v < 0 ↔ _) ∧ (cmpS 2 u v > 0 ↔ _)
    show (_ ↔ (if wideN 2 u < 2 ^ 63 then _ else _ : Int) < (if wideN 2 v < 2 ^ 63 then _ else _ : Int)) ∧ (_ ↔ (if wideN 2 v < 2 ^ 63 then _ else _ : Int) < (if wideN 2 u < 2 ^ 63 then _ else _ : Int))
    unfold cmpS cmpI wideN
    simp only [decide_eq_decide]
    constructor <;> (repeat' split) <;> first | exact ⟨fun _ => by omega, fun _ => by decide⟩ | exact ⟨fun z => absurd z (by decide), fun z => absurd z (by omega)⟩
theorem wide_add {zi : Bool} {u v : Nat} (hu : u < 65536 ^ nP zi) (hv : v < 65536 ^ nP zi) : (wideN (nP zi) u + wideN (nP zi) v) % 2 ^ 64 % 65536 ^ nP zi = (u + v) % 65536 ^ nP zi := by
  cases zi
  · have hu : u < 65536 ^ 4 := hu
    have hv : v < 65536 ^ 4 := hv
    rw [show wideN (nP false) u = u from wideN_4 hu, show wideN (nP false) v = v from wideN_4 hv]
    show (u + v) % 2 ^ 64 % 65536 ^ 4 = (u + v) % 65536 ^ 4
    omega
  · have hu : u < 65536 ^ 2 := hu
    have hv : v < 65536 ^ 2 := hv
    show (wideN 2 u + wideN 2 v) % 2 ^ 64 % 65536 ^ 2 = (u + v) % 65536 ^ 2
    unfold wideN
    (repeat' split) <;> omega
section M71
variable {p : Program} {l : Launch} {e : Env} {s : State} {m : MethodId} {args : Array Value} {below : List Frame} {meth : Method} {c : Code} {H H0 : Heap} {locs : List Loc} {cells slots : Nat} {Q : State → Prop} {A : Nat → Prop} {g : Gx} {b0 : Nat}
abbrev rmX2_join : Room := { frames := 2, cells := 0, slots := 0, locals := 44 }
set_option maxHeartbeats 4000000 in
set_option maxRecDepth 100000 in
theorem c_xJoin (l : Launch) (g : Gx) (H0 : Heap) (x0 lc tr tc sr sc : Nat) (i3 i4 i5 i6 : Int32) (V : Nat → Nat) (n : Nat) (t : Nat → Nat) (hL : CL g H0 x0 lc tr tc sr sc i3 i4 i5 i6 V n t) (i j d9 : Nat) (zi : Bool) (hi : i < 8) (hj : j < 8) (hd9 : d9 < 3) : Met l yX2_join wsX2_join rmX2_join (va_Pc [.ref x0, .int (nI i), .int (nI j), .int (nI d9), .int (bI zi)] (hB g H0)) (nQ H0 (mC x0 lc tr tc sr sc) (zC g x0 lc tr tc sr sc (fun r V2 n2 t2 => r = some (.int (bI (!decide (wideN (nP zi) (jnN zi (nI d9) (V i % 65536 ^ nP zi) (V j % 65536 ^ nP zi)) = V i)))) ∧ n2 = n ∧ t2 = t ∧ V2 = va_up V i (wideN (nP zi) (jnN zi (nI d9) (V i % 65536 ^ nP zi) (V j % 65536 ^ nP zi)))))) 0 0 (fun q => (mC x0 lc tr tc sr sc) q ∨ H0.size ≤ q) := by
  refine cx_met (own := RX2) (cc := cX2_join) (maxL := 11) (by decide) rfl rfl (Nat.le_of_ble_eq_true rfl) ?_
  intro p e s m below meth c ls C0 hB0 hnm hl
  obtain ⟨hH, hK⟩ := hB0
  obtain ⟨hx, hb, hr, hml, hown, hts, hlk⟩ := id C0
  subst hH
  have hS : va_S (fun q => (mC x0 lc tr tc sr sc) q ∨ s.heap.size ≤ q) s.heap s.heap [] := va_S.rf
  have hA : ∀ q : Nat, s.heap.size ≤ q → (fun q => (mC x0 lc tr tc sr sc) q ∨ s.heap.size ≤ q) q := fun q h => Or.inr h
  have hl : lv_has ls 11 [(0, .ref x0), (1, .int (nI i)), (2, .int (nI j)), (3, .int (nI d9)), (4, .int (bI zi))] := hl
  obtain ⟨hC, hR, hSp, hap⟩ := id hL
  obtain ⟨hf, hfl, hlc, ⟨f, hg9, hfv⟩, hV, hxl⟩ := id hC
  have hM9 : 0 < 65536 ^ nP zi := Nat.pow_pos (by decide)
  have hM4 : 65536 ^ nP zi ≤ 2 ^ 64 := by cases zi <;> decide
  have hN9 : V i % 65536 ^ nP zi < 65536 ^ nP zi := Nat.mod_lt _ hM9
  have hD9 : V j % 65536 ^ nP zi < 65536 ^ nP zi := Nat.mod_lt _ hM9
  have ba : wideN (nP zi) (V i % 65536 ^ nP zi) < 65536 ^ 4 := wideN_lt (nP_or _) hN9
  have bb : wideN (nP zi) (V j % 65536 ^ nP zi) < 65536 ^ 4 := wideN_lt (nP_or _) hD9
  have hJ9 : jnN zi (nI d9) (V i % 65536 ^ nP zi) (V j % 65536 ^ nP zi) < 65536 ^ nP zi := by unfold jnN; (repeat' split) <;> first | exact Nat.mod_lt _ hM9 | exact hN9 | exact hD9
  have hw9 : wideN (nP zi) (jnN zi (nI d9) (V i % 65536 ^ nP zi) (V j % 65536 ^ nP zi)) < 65536 ^ 4 := wideN_lt (nP_or _) hJ9
  have hww : wideN (nP zi) (wideN (nP zi) (jnN zi (nI d9) (V i % 65536 ^ nP zi) (V j % 65536 ^ nP zi)) % 65536 ^ nP zi) = wideN (nP zi) (jnN zi (nI d9) (V i % 65536 ^ nP zi) (V j % 65536 ^ nP zi)) := congrArg _ (wideN_mod (nP_or _) hJ9)
  obtain ⟨q1, q2⟩ := cmpS_lt hN9 hD9
  refine lv_iload_n hx hb dX2_join_0 rfl (lv_at hl 1 rfl) ?_
  refine cp_S (As := [.int (nI i)]) (rest := []) C0 hl hK hS hA (c_ckCell l g s.heap i (by assumption)) gX2_join_X2_checkCell rfl ⟨rfl, rfl⟩ (show hd_ok yX2_checkCell 1 from ⟨by decide, by decide, by decide +kernel⟩) ⟨Nat.le_of_ble_eq_true rfl, Nat.le_of_ble_eq_true rfl⟩ rfl (Nat.le_of_ble_eq_true rfl) ⟨Nat.zero_le _, Nat.zero_le _⟩ dX2_join_1 (fun locs hS => ?_)
  refine lv_iload_n hx hb dX2_join_4 rfl (lv_at hl 2 rfl) ?_
  refine cp_S (As := [.int (nI j)]) (rest := []) C0 hl hK hS hA (c_ckCell l g s.heap j (by assumption)) gX2_join_X2_checkCell rfl ⟨rfl, rfl⟩ (show hd_ok yX2_checkCell 1 from ⟨by decide, by decide, by decide +kernel⟩) ⟨Nat.le_of_ble_eq_true rfl, Nat.le_of_ble_eq_true rfl⟩ rfl (Nat.le_of_ble_eq_true rfl) ⟨Nat.zero_le _, Nat.zero_le _⟩ dX2_join_5 (fun locs hS => ?_)
  refine lv_iload_n hx hb dX2_join_8 rfl (lv_at hl 3 rfl) ?_
  refine lv_iconst (v := nI 2) hx hb dX2_join_9 (by decide) ?_
  refine cp_S (As := [.int (nI d9), .int (nI 2)]) (rest := []) C0 hl hK hS hA (c_ckWhat l g s.heap d9 2 (by omega) (by decide)) gX2_join_X2_checkWhat rfl ⟨rfl, rfl⟩ (show hd_ok yX2_checkWhat 2 from ⟨by decide, by decide, by decide +kernel⟩) ⟨Nat.le_of_ble_eq_true rfl, Nat.le_of_ble_eq_true rfl⟩ rfl (Nat.le_of_ble_eq_true rfl) ⟨Nat.zero_le _, Nat.zero_le _⟩ dX2_join_10 (fun locs hS => ?_)
  refine lv_aload_n hx hb dX2_join_13 rfl (lv_at hl 0 rfl) ?_
  refine lv_iload_n hx hb dX2_join_14 rfl (lv_at hl 1 rfl) ?_
  refine lv_iload hx hb dX2_join_15 (lv_at hl 4 rfl) ?_
  refine cp_V (As := [.int (nI i), .int (bI zi)]) (rest := []) C0 hl hK hS hA (c_sgnOf l g s.heap x0 lc _ V hC i zi (by assumption)) gX2_join_X2_signedOf rfl ⟨rfl, rfl⟩ (hC.recv hK) ⟨rfl, (show hd_ok yX2_signedOf 2 from ⟨by decide, by decide, by decide +kernel⟩)⟩ ⟨Nat.le_of_ble_eq_true rfl, Nat.le_of_ble_eq_true rfl⟩ rfl (Nat.le_of_ble_eq_true rfl) ⟨Nat.zero_le _, Nat.zero_le _⟩ dX2_join_17 (fun locs hS => ?_)
  refine lv_lstore (lv' := [(5, .long (lN (wideN (nP zi) (V i % 65536 ^ nP zi)))), (0, .ref x0), (1, .int (nI i)), (2, .int (nI j)), (3, .int (nI d9)), (4, .int (bI zi))]) hx hb dX2_join_20 hl (by decide) rfl (fun ls hl => ?_)
  refine lv_aload_n hx hb dX2_join_22 rfl (lv_at hl 1 rfl) ?_
  refine lv_iload_n hx hb dX2_join_23 rfl (lv_at hl 3 rfl) ?_
  refine lv_iload hx hb dX2_join_24 (lv_at hl 5 rfl) ?_
  refine cp_V (As := [.int (nI j), .int (bI zi)]) (rest := []) C0 hl hK hS hA (c_sgnOf l g s.heap x0 lc _ V hC j zi (by assumption)) gX2_join_X2_signedOf rfl ⟨rfl, rfl⟩ (hC.recv hK) ⟨rfl, (show hd_ok yX2_signedOf 2 from ⟨by decide, by decide, by decide +kernel⟩)⟩ ⟨Nat.le_of_ble_eq_true rfl, Nat.le_of_ble_eq_true rfl⟩ rfl (Nat.le_of_ble_eq_true rfl) ⟨Nat.zero_le _, Nat.zero_le _⟩ dX2_join_26 (fun locs hS => ?_)
  refine lv_lstore (lv' := [(7, .long (lN (wideN (nP zi) (V j % 65536 ^ nP zi)))), (5, .long (lN (wideN (nP zi) (V i % 65536 ^ nP zi)))), (0, .ref x0), (1, .int (nI i)), (2, .int (nI j)), (3, .int (nI d9)), (4, .int (bI zi))]) hx hb dX2_join_29 hl (by decide) rfl (fun ls hl => ?_)
  refine lv_iload_n hx hb dX2_join_31 rfl (lv_at hl 5 rfl) ?_
  refine lv_if_ne (tgt := 43) hx hb dX2_join_32 (by decide) (fun h1 => ?_) (fun h1 => ?_)
  · skip
    have n1 : d9 ≠ 0 := fun z => h1 (by rw [z]; rfl)
    have m1 : ¬ nI d9 = 0 := fun z => n1 (nI_inj (by omega) (by decide) z)
    refine lv_iload_n hx hb dX2_join_43 rfl (lv_at hl 5 rfl) ?_
    refine lv_iconst (v := nI 1) hx hb dX2_join_44 (by decide) ?_
    refine lv_icmp_ne (tgt := 58) hx hb dX2_join_45 (by decide) (fun h2 => ?_) (fun h2 => ?_)
    · skip
      have n2 : d9 ≠ 1 := fun z => h2 (by rw [z])
      have m2 : ¬ nI d9 = nI 1 := fun z => n2 (nI_inj (by omega) (by decide) z)
      refine lv_lload hx hb dX2_join_58 (lv_at hl 1 rfl) ?_
      refine lv_lload hx hb dX2_join_60 (lv_at hl 0 rfl) ?_
      refine va_mmin_long hx hb (by rw [hml]; exact hl.1.symm) hown (hts (.methodLink RX2 168 Lib.MathLoose.min_long.x) (by decide +kernel)) (hts (.static Lib.MathLoose.min_long.x) (by decide +kernel)) (hts (.initialized "java/lang/Math") (by decide +kernel)) (hts (.code Lib.MathLoose.min_long.x Lib.MathLoose.min_long.code 4 (some .long)) (by decide +kernel)) (Nat.le_of_ble_eq_true rfl) (Nat.le_of_ble_eq_true rfl) (Nat.le_refl _) (Nat.le_refl _) dX2_join_62 ?_
      refine tp_l (y := lN (wideN (nP zi) (jnN zi (nI d9) (V i % 65536 ^ nP zi) (V j % 65536 ^ nP zi)))) ((by unfold jnN; rw [if_neg m1, if_neg m2]; by_cases q9 : lN (wideN (nP zi) (V j % 65536 ^ nP zi)) < lN (wideN (nP zi) (V i % 65536 ^ nP zi)); rw [if_pos q9, if_pos (q2.mpr q9)]; rw [if_neg q9, if_neg (fun z => q9 (q2.mp z))])) ?_
      refine lv_lstore (lv' := [(9, .long (lN (wideN (nP zi) (jnN zi (nI d9) (V i % 65536 ^ nP zi) (V j % 65536 ^ nP zi))))), (7, .long (lN (wideN (nP zi) (V j % 65536 ^ nP zi)))), (5, .long (lN (wideN (nP zi) (V i % 65536 ^ nP zi)))), (0, .ref x0), (1, .int (nI i)), (2, .int (nI j)), (3, .int (nI d9)), (4, .int (bI zi))]) hx hb dX2_join_65 hl (by decide) rfl (fun ls hl => ?_)
      refine lv_aload_n hx hb dX2_join_67 rfl (lv_at hl 3 rfl) ?_
      refine lv_iload_n hx hb dX2_join_68 rfl (lv_at hl 4 rfl) ?_
      refine lv_lload hx hb dX2_join_69 (lv_at hl 0 rfl) ?_
      refine lv_iload hx hb dX2_join_71 (lv_at hl 7 rfl) ?_
      refine cp_S (As := [.long (lN (wideN (nP zi) (jnN zi (nI d9) (V i % 65536 ^ nP zi) (V j % 65536 ^ nP zi)))), .int (bI zi)]) (rest := [.int (nI i), .ref x0]) C0 hl hK hS hA (c_setting l g s.heap (wideN (nP zi) (jnN zi (nI d9) (V i % 65536 ^ nP zi) (V j % 65536 ^ nP zi))) zi hw9) gX2_join_X2_setting rfl ⟨rfl, rfl⟩ (show hd_ok yX2_setting 2 from ⟨by decide, by decide, by decide +kernel⟩) ⟨Nat.le_of_ble_eq_true rfl, Nat.le_of_ble_eq_true rfl⟩ rfl (Nat.le_of_ble_eq_true rfl) ⟨Nat.zero_le _, Nat.zero_le _⟩ dX2_join_73 (fun locs hS => ?_)
      refine tp_l (y := lN (wideN (nP zi) (jnN zi (nI d9) (V i % 65536 ^ nP zi) (V j % 65536 ^ nP zi)))) ((by rw [hww])) ?_
      refine cn_V (As := [.int (nI i), .long (lN (wideN (nP zi) (jnN zi (nI d9) (V i % 65536 ^ nP zi) (V j % 65536 ^ nP zi))))]) (rest := []) C0 hl hK hS hA (fun q h => Or.inl (mC_l h)) (c_becC l g s.heap x0 lc _ V hC i (wideN (nP zi) (jnN zi (nI d9) (V i % 65536 ^ nP zi) (V j % 65536 ^ nP zi))) (by assumption) hw9) gX2_join_X2_become rfl ⟨rfl, rfl⟩ (hC.recv hK) ⟨rfl, (show hd_ok yX2_become 2 from ⟨by decide, by decide, by decide +kernel⟩)⟩ ⟨Nat.le_of_ble_eq_true rfl, Nat.le_of_ble_eq_true rfl⟩ rfl (Nat.le_of_ble_eq_true rfl) ⟨Nat.zero_le _, Nat.zero_le _⟩ dX2_join_76 (fun r1 H1 locs hv hzz hk1 hS => ?_)
      obtain ⟨rfl, hC1⟩ := hv
      refine W.widen (k := 0) (n := 0) (by decide) (by decide) ?_
      exact rt_ni (mu := mC x0 lc tr tc sr sc) C0 (bI_nar _) ⟨i3, i4, i5, i6, _, n, t, ⟨rfl, rfl, rfl, rfl⟩, hL.setV hC1 hk1⟩ hS rfl dX2_join_79
    · skip
      have n2 : d9 = 1 := nI_inj (by omega) (by decide) h2
      have m2 : nI d9 = nI 1 := by rw [n2]
      refine lv_lload hx hb dX2_join_48 (lv_at hl 1 rfl) ?_
      refine lv_lload hx hb dX2_join_50 (lv_at hl 0 rfl) ?_
      refine va_mmax_long hx hb (by rw [hml]; exact hl.1.symm) hown (hts (.methodLink RX2 163 Lib.MathLoose.max_long.x) (by decide +kernel)) (hts (.static Lib.MathLoose.max_long.x) (by decide +kernel)) (hts (.initialized "java/lang/Math") (by decide +kernel)) (hts (.code Lib.MathLoose.max_long.x Lib.MathLoose.max_long.code 4 (some .long)) (by decide +kernel)) (Nat.le_of_ble_eq_true rfl) (Nat.le_of_ble_eq_true rfl) (Nat.le_refl _) (Nat.le_refl _) dX2_join_52 ?_
      refine tp_l (y := lN (wideN (nP zi) (jnN zi (nI d9) (V i % 65536 ^ nP zi) (V j % 65536 ^ nP zi)))) ((by
    unfold jnN
    rw [if_neg m1, if_pos m2]
    by_cases q9 : lN (wideN (nP zi) (V j % 65536 ^ nP zi)) < lN (wideN (nP zi) (V i % 65536 ^ nP zi))
    · rw [if_pos q9, if_neg (fun z => absurd (Int64.lt_trans (q1.mp z) q9) (Int64.lt_irrefl))]
    · rw [if_neg q9]
      by_cases q8 : lN (wideN (nP zi) (V i % 65536 ^ nP zi)) < lN (wideN (nP zi) (V j % 65536 ^ nP zi))
      · rw [if_pos (q1.mpr q8)]
      · rw [if_neg (fun z => q8 (q1.mp z))]
        exact Int64.le_antisymm (Int64.not_lt.mp q8) (Int64.not_lt.mp q9))) ?_
      refine lv_goto (tgt := 65) hx hb dX2_join_55 (by decide) ?_
      refine lv_lstore (lv' := [(9, .long (lN (wideN (nP zi) (jnN zi (nI d9) (V i % 65536 ^ nP zi) (V j % 65536 ^ nP zi))))), (7, .long (lN (wideN (nP zi) (V j % 65536 ^ nP zi)))), (5, .long (lN (wideN (nP zi) (V i % 65536 ^ nP zi)))), (0, .ref x0), (1, .int (nI i)), (2, .int (nI j)), (3, .int (nI d9)), (4, .int (bI zi))]) hx hb dX2_join_65 hl (by decide) rfl (fun ls hl => ?_)
      refine lv_aload_n hx hb dX2_join_67 rfl (lv_at hl 3 rfl) ?_
      refine lv_iload_n hx hb dX2_join_68 rfl (lv_at hl 4 rfl) ?_
      refine lv_lload hx hb dX2_join_69 (lv_at hl 0 rfl) ?_
      refine lv_iload hx hb dX2_join_71 (lv_at hl 7 rfl) ?_
      refine cp_S (As := [.long (lN (wideN (nP zi) (jnN zi (nI d9) (V i % 65536 ^ nP zi) (V j % 65536 ^ nP zi)))), .int (bI zi)]) (rest := [.int (nI i), .ref x0]) C0 hl hK hS hA (c_setting l g s.heap (wideN (nP zi) (jnN zi (nI d9) (V i % 65536 ^ nP zi) (V j % 65536 ^ nP zi))) zi hw9) gX2_join_X2_setting rfl ⟨rfl, rfl⟩ (show hd_ok yX2_setting 2 from ⟨by decide, by decide, by decide +kernel⟩) ⟨Nat.le_of_ble_eq_true rfl, Nat.le_of_ble_eq_true rfl⟩ rfl (Nat.le_of_ble_eq_true rfl) ⟨Nat.zero_le _, Nat.zero_le _⟩ dX2_join_73 (fun locs hS => ?_)
      refine tp_l (y := lN (wideN (nP zi) (jnN zi (nI d9) (V i % 65536 ^ nP zi) (V j % 65536 ^ nP zi)))) ((by rw [hww])) ?_
      refine cn_V (As := [.int (nI i), .long (lN (wideN (nP zi) (jnN zi (nI d9) (V i % 65536 ^ nP zi) (V j % 65536 ^ nP zi))))]) (rest := []) C0 hl hK hS hA (fun q h => Or.inl (mC_l h)) (c_becC l g s.heap x0 lc _ V hC i (wideN (nP zi) (jnN zi (nI d9) (V i % 65536 ^ nP zi) (V j % 65536 ^ nP zi))) (by assumption) hw9) gX2_join_X2_become rfl ⟨rfl, rfl⟩ (hC.recv hK) ⟨rfl, (show hd_ok yX2_become 2 from ⟨by decide, by decide, by decide +kernel⟩)⟩ ⟨Nat.le_of_ble_eq_true rfl, Nat.le_of_ble_eq_true rfl⟩ rfl (Nat.le_of_ble_eq_true rfl) ⟨Nat.zero_le _, Nat.zero_le _⟩ dX2_join_76 (fun r1 H1 locs hv hzz hk1 hS => ?_)
      obtain ⟨rfl, hC1⟩ := hv
      refine W.widen (k := 0) (n := 0) (by decide) (by decide) ?_
      exact rt_ni (mu := mC x0 lc tr tc sr sc) C0 (bI_nar _) ⟨i3, i4, i5, i6, _, n, t, ⟨rfl, rfl, rfl, rfl⟩, hL.setV hC1 hk1⟩ hS rfl dX2_join_79
  · skip
    have n1 : d9 = 0 := nI_inj (by omega) (by decide) h1
    have m1 : nI d9 = 0 := by rw [n1]; rfl
    refine lv_lload hx hb dX2_join_35 (lv_at hl 1 rfl) ?_
    refine lv_lload hx hb dX2_join_37 (lv_at hl 0 rfl) ?_
    refine lv_ladd hx hb dX2_join_39 ?_
    refine tp_l (y := lN ((wideN (nP zi) (V i % 65536 ^ nP zi) + wideN (nP zi) (V j % 65536 ^ nP zi)) % 2 ^ 64)) (((lN_add _ _).trans (lN_m _))) ?_
    refine lv_goto (tgt := 65) hx hb dX2_join_40 (by decide) ?_
    refine lv_lstore (lv' := [(9, .long (lN ((wideN (nP zi) (V i % 65536 ^ nP zi) + wideN (nP zi) (V j % 65536 ^ nP zi)) % 2 ^ 64))), (7, .long (lN (wideN (nP zi) (V j % 65536 ^ nP zi)))), (5, .long (lN (wideN (nP zi) (V i % 65536 ^ nP zi)))), (0, .ref x0), (1, .int (nI i)), (2, .int (nI j)), (3, .int (nI d9)), (4, .int (bI zi))]) hx hb dX2_join_65 hl (by decide) rfl (fun ls hl => ?_)
    refine lv_aload_n hx hb dX2_join_67 rfl (lv_at hl 3 rfl) ?_
    refine lv_iload_n hx hb dX2_join_68 rfl (lv_at hl 4 rfl) ?_
    refine lv_lload hx hb dX2_join_69 (lv_at hl 0 rfl) ?_
    refine lv_iload hx hb dX2_join_71 (lv_at hl 7 rfl) ?_
    refine cp_S (As := [.long (lN ((wideN (nP zi) (V i % 65536 ^ nP zi) + wideN (nP zi) (V j % 65536 ^ nP zi)) % 2 ^ 64)), .int (bI zi)]) (rest := [.int (nI i), .ref x0]) C0 hl hK hS hA (c_setting l g s.heap ((wideN (nP zi) (V i % 65536 ^ nP zi) + wideN (nP zi) (V j % 65536 ^ nP zi)) % 2 ^ 64) zi (Nat.mod_lt _ (by decide))) gX2_join_X2_setting rfl ⟨rfl, rfl⟩ (show hd_ok yX2_setting 2 from ⟨by decide, by decide, by decide +kernel⟩) ⟨Nat.le_of_ble_eq_true rfl, Nat.le_of_ble_eq_true rfl⟩ rfl (Nat.le_of_ble_eq_true rfl) ⟨Nat.zero_le _, Nat.zero_le _⟩ dX2_join_73 (fun locs hS => ?_)
    refine tp_l (y := lN (wideN (nP zi) (jnN zi (nI d9) (V i % 65536 ^ nP zi) (V j % 65536 ^ nP zi)))) ((by unfold jnN; rw [if_pos m1]; exact congrArg (fun z => lN (wideN (nP zi) z)) (wide_add hN9 hD9))) ?_
    refine cn_V (As := [.int (nI i), .long (lN (wideN (nP zi) (jnN zi (nI d9) (V i % 65536 ^ nP zi) (V j % 65536 ^ nP zi))))]) (rest := []) C0 hl hK hS hA (fun q h => Or.inl (mC_l h)) (c_becC l g s.heap x0 lc _ V hC i (wideN (nP zi) (jnN zi (nI d9) (V i % 65536 ^ nP zi) (V j % 65536 ^ nP zi))) (by assumption) hw9) gX2_join_X2_become rfl ⟨rfl, rfl⟩ (hC.recv hK) ⟨rfl, (show hd_ok yX2_become 2 from ⟨by decide, by decide, by decide +kernel⟩)⟩ ⟨Nat.le_of_ble_eq_true rfl, Nat.le_of_ble_eq_true rfl⟩ rfl (Nat.le_of_ble_eq_true rfl) ⟨Nat.zero_le _, Nat.zero_le _⟩ dX2_join_76 (fun r1 H1 locs hv hzz hk1 hS => ?_)
    obtain ⟨rfl, hC1⟩ := hv
    refine W.widen (k := 0) (n := 0) (by decide) (by decide) ?_
    exact rt_ni (mu := mC x0 lc tr tc sr sc) C0 (bI_nar _) ⟨i3, i4, i5, i6, _, n, t, ⟨rfl, rfl, rfl, rfl⟩, hL.setV hC1 hk1⟩ hS rfl dX2_join_79
abbrev rmJ6_reverseBytes_0f7a4 : Room := { frames := 0, cells := 0, slots := 0, locals := 0 }
def jB32 (x : Int32) : Int32 := (((x <<< ((nI 24) &&& 31)) ||| ((x &&& (nI 65280)) <<< ((nI 8) &&& 31))) ||| (((x.toUInt32 >>> ((nI 8).toUInt32 &&& Int32.toUInt32 31)).toInt32) &&& (nI 65280))) ||| ((x.toUInt32 >>> ((nI 24).toUInt32 &&& Int32.toUInt32 31)).toInt32)
set_option maxHeartbeats 4000000 in
set_option maxRecDepth 100000 in
theorem c_rb32 (l : Launch) (g : Gx) (H0 : Heap) (x : Int32) : Met l yJ6_reverseBytes_0f7a4 wsJ6_reverseBytes_0f7a4 rmJ6_reverseBytes_0f7a4 (va_Pc [.int x] (hB g H0)) (pQ (some (.int (jB32 x))) H0) 0 0 (fun q => H0.size ≤ q) := by
  refine cx_met (own := RJ6) (cc := cJ6_reverseBytes_0f7a4) (maxL := 1) (by decide) rfl rfl (Nat.le_of_ble_eq_true rfl) ?_
  intro p e s m below meth c ls C0 hB0 hnm hl
  obtain ⟨hH, hK⟩ := hB0
  obtain ⟨hx, hb, hr, hml, hown, hts, hlk⟩ := id C0
  subst hH
  have hS : va_S (fun q => s.heap.size ≤ q) s.heap s.heap [] := va_S.rf
  have hA : ∀ q : Nat, s.heap.size ≤ q → s.heap.size ≤ q := fun q h => h
  have hl : lv_has ls 1 [(0, .int x)] := hl
  refine lv_iload_n hx hb dJ6_reverseBytes_0f7a4_0 rfl (lv_at hl 0 rfl) ?_
  refine lv_bipush (v := nI 24) hx hb dJ6_reverseBytes_0f7a4_1 (by decide) ?_
  refine lv_ishl hx hb dJ6_reverseBytes_0f7a4_3 ?_
  refine lv_iload_n hx hb dJ6_reverseBytes_0f7a4_4 rfl (lv_at hl 0 rfl) ?_
  refine lv_ldcw (v := nI 65280) hx hb hown (hts (.constant RJ6 274 (65280)) (by decide +kernel)) dJ6_reverseBytes_0f7a4_5 ?_
  refine lv_iand hx hb dJ6_reverseBytes_0f7a4_8 ?_
  refine lv_bipush (v := nI 8) hx hb dJ6_reverseBytes_0f7a4_9 (by decide) ?_
  refine lv_ishl hx hb dJ6_reverseBytes_0f7a4_11 ?_
  refine lv_ior hx hb dJ6_reverseBytes_0f7a4_12 ?_
  refine lv_iload_n hx hb dJ6_reverseBytes_0f7a4_13 rfl (lv_at hl 0 rfl) ?_
  refine lv_bipush (v := nI 8) hx hb dJ6_reverseBytes_0f7a4_14 (by decide) ?_
  refine lv_iushr (v := (x.toUInt32 >>> ((nI 8).toUInt32 &&& Int32.toUInt32 31)).toInt32) hx hb dJ6_reverseBytes_0f7a4_16 (rfl) ?_
  refine lv_ldcw (v := nI 65280) hx hb hown (hts (.constant RJ6 274 (65280)) (by decide +kernel)) dJ6_reverseBytes_0f7a4_17 ?_
  refine lv_iand hx hb dJ6_reverseBytes_0f7a4_20 ?_
  refine lv_ior hx hb dJ6_reverseBytes_0f7a4_21 ?_
  refine lv_iload_n hx hb dJ6_reverseBytes_0f7a4_22 rfl (lv_at hl 0 rfl) ?_
  refine lv_bipush (v := nI 24) hx hb dJ6_reverseBytes_0f7a4_23 (by decide) ?_
  refine lv_iushr (v := (x.toUInt32 >>> ((nI 24).toUInt32 &&& Int32.toUInt32 31)).toInt32) hx hb dJ6_reverseBytes_0f7a4_25 (rfl) ?_
  refine lv_ior hx hb dJ6_reverseBytes_0f7a4_26 ?_
  exact rt_i C0 rfl hS rfl dJ6_reverseBytes_0f7a4_27
abbrev rmJ6_reverse_0f7a4 : Room := { frames := 1, cells := 0, slots := 0, locals := 20 }
def jB32r0 (x : Int32) : Int32 := ((x &&& (nI 1431655765)) <<< ((nI 1) &&& 31)) ||| (((x.toUInt32 >>> ((nI 1).toUInt32 &&& Int32.toUInt32 31)).toInt32) &&& (nI 1431655765))
def jB32r1 (x : Int32) : Int32 := ((x &&& (nI 858993459)) <<< ((nI 2) &&& 31)) ||| (((x.toUInt32 >>> ((nI 2).toUInt32 &&& Int32.toUInt32 31)).toInt32) &&& (nI 858993459))
def jB32r2 (x : Int32) : Int32 := ((x &&& (nI 252645135)) <<< ((nI 4) &&& 31)) ||| (((x.toUInt32 >>> ((nI 4).toUInt32 &&& Int32.toUInt32 31)).toInt32) &&& (nI 252645135))
def jB32v (x : Int32) : Int32 := jB32 (jB32r2 (jB32r1 (jB32r0 x)))
set_option maxHeartbeats 4000000 in
set_option maxRecDepth 100000 in
theorem c_rv32 (l : Launch) (g : Gx) (H0 : Heap) (x : Int32) : Met l yJ6_reverse_0f7a4 wsJ6_reverse_0f7a4 rmJ6_reverse_0f7a4 (va_Pc [.int x] (hB g H0)) (pQ (some (.int (jB32v x))) H0) 0 0 (fun q => H0.size ≤ q) := by
  refine cx_met (own := RJ6) (cc := cJ6_reverse_0f7a4) (maxL := 1) (by decide) rfl rfl (Nat.le_of_ble_eq_true rfl) ?_
  intro p e s m below meth c ls C0 hB0 hnm hl
  obtain ⟨hH, hK⟩ := hB0
  obtain ⟨hx, hb, hr, hml, hown, hts, hlk⟩ := id C0
  subst hH
  have hS : va_S (fun q => s.heap.size ≤ q) s.heap s.heap [] := va_S.rf
  have hA : ∀ q : Nat, s.heap.size ≤ q → s.heap.size ≤ q := fun q h => h
  have hl : lv_has ls 1 [(0, .int x)] := hl
  refine lv_iload_n hx hb dJ6_reverse_0f7a4_0 rfl (lv_at hl 0 rfl) ?_
  refine lv_ldcw (v := nI 1431655765) hx hb hown (hts (.constant RJ6 265 (1431655765)) (by decide +kernel)) dJ6_reverse_0f7a4_1 ?_
  refine lv_iand hx hb dJ6_reverse_0f7a4_4 ?_
  refine lv_iconst (v := nI 1) hx hb dJ6_reverse_0f7a4_5 (by decide) ?_
  refine lv_ishl hx hb dJ6_reverse_0f7a4_6 ?_
  refine lv_iload_n hx hb dJ6_reverse_0f7a4_7 rfl (lv_at hl 0 rfl) ?_
  refine lv_iconst (v := nI 1) hx hb dJ6_reverse_0f7a4_8 (by decide) ?_
  refine lv_iushr (v := (x.toUInt32 >>> ((nI 1).toUInt32 &&& Int32.toUInt32 31)).toInt32) hx hb dJ6_reverse_0f7a4_9 (rfl) ?_
  refine lv_ldcw (v := nI 1431655765) hx hb hown (hts (.constant RJ6 265 (1431655765)) (by decide +kernel)) dJ6_reverse_0f7a4_10 ?_
  refine lv_iand hx hb dJ6_reverse_0f7a4_13 ?_
  refine lv_ior hx hb dJ6_reverse_0f7a4_14 ?_
  refine tp_i (y := jB32r0 x) (rfl) ?_
  refine lv_istore_n (lv' := [(0, .int (jB32r0 x))]) hx hb dJ6_reverse_0f7a4_15 rfl hl (by decide) rfl (fun ls hl => ?_)
  refine lv_iload_n hx hb dJ6_reverse_0f7a4_16 rfl (lv_at hl 0 rfl) ?_
  refine lv_ldcw (v := nI 858993459) hx hb hown (hts (.constant RJ6 266 (858993459)) (by decide +kernel)) dJ6_reverse_0f7a4_17 ?_
  refine lv_iand hx hb dJ6_reverse_0f7a4_20 ?_
  refine lv_iconst (v := nI 2) hx hb dJ6_reverse_0f7a4_21 (by decide) ?_
  refine lv_ishl hx hb dJ6_reverse_0f7a4_22 ?_
  refine lv_iload_n hx hb dJ6_reverse_0f7a4_23 rfl (lv_at hl 0 rfl) ?_
  refine lv_iconst (v := nI 2) hx hb dJ6_reverse_0f7a4_24 (by decide) ?_
  refine lv_iushr (v := ((jB32r0 x).toUInt32 >>> ((nI 2).toUInt32 &&& Int32.toUInt32 31)).toInt32) hx hb dJ6_reverse_0f7a4_25 (rfl) ?_
  refine lv_ldcw (v := nI 858993459) hx hb hown (hts (.constant RJ6 266 (858993459)) (by decide +kernel)) dJ6_reverse_0f7a4_26 ?_
  refine lv_iand hx hb dJ6_reverse_0f7a4_29 ?_
  refine lv_ior hx hb dJ6_reverse_0f7a4_30 ?_
  refine tp_i (y := jB32r1 (jB32r0 x)) (rfl) ?_
  refine lv_istore_n (lv' := [(0, .int (jB32r1 (jB32r0 x)))]) hx hb dJ6_reverse_0f7a4_31 rfl hl (by decide) rfl (fun ls hl => ?_)
  refine lv_iload_n hx hb dJ6_reverse_0f7a4_32 rfl (lv_at hl 0 rfl) ?_
  refine lv_ldcw (v := nI 252645135) hx hb hown (hts (.constant RJ6 267 (252645135)) (by decide +kernel)) dJ6_reverse_0f7a4_33 ?_
  refine lv_iand hx hb dJ6_reverse_0f7a4_36 ?_
  refine lv_iconst (v := nI 4) hx hb dJ6_reverse_0f7a4_37 (by decide) ?_
  refine lv_ishl hx hb dJ6_reverse_0f7a4_38 ?_
  refine lv_iload_n hx hb dJ6_reverse_0f7a4_39 rfl (lv_at hl 0 rfl) ?_
  refine lv_iconst (v := nI 4) hx hb dJ6_reverse_0f7a4_40 (by decide) ?_
  refine lv_iushr (v := ((jB32r1 (jB32r0 x)).toUInt32 >>> ((nI 4).toUInt32 &&& Int32.toUInt32 31)).toInt32) hx hb dJ6_reverse_0f7a4_41 (rfl) ?_
  refine lv_ldcw (v := nI 252645135) hx hb hown (hts (.constant RJ6 267 (252645135)) (by decide +kernel)) dJ6_reverse_0f7a4_42 ?_
  refine lv_iand hx hb dJ6_reverse_0f7a4_45 ?_
  refine lv_ior hx hb dJ6_reverse_0f7a4_46 ?_
  refine tp_i (y := jB32r2 (jB32r1 (jB32r0 x))) (rfl) ?_
  refine lv_istore_n (lv' := [(0, .int (jB32r2 (jB32r1 (jB32r0 x))))]) hx hb dJ6_reverse_0f7a4_47 rfl hl (by decide) rfl (fun ls hl => ?_)
  refine lv_iload_n hx hb dJ6_reverse_0f7a4_48 rfl (lv_at hl 0 rfl) ?_
  refine cp_S (As := [.int (jB32r2 (jB32r1 (jB32r0 x)))]) (rest := []) C0 hl hK hS hA (c_rb32 l g s.heap (jB32r2 (jB32r1 (jB32r0 x)))) gJ6_reverse_0f7a4_J6_reverseBytes_0f7a4 rfl ⟨rfl, rfl⟩ (show hd_ok yJ6_reverseBytes_0f7a4 1 from ⟨by decide, by decide, by decide +kernel⟩) ⟨Nat.le_of_ble_eq_true rfl, Nat.le_of_ble_eq_true rfl⟩ rfl (Nat.le_of_ble_eq_true rfl) ⟨Nat.zero_le _, Nat.zero_le _⟩ dJ6_reverse_0f7a4_49 (fun locs hS => ?_)
  exact rt_i C0 rfl hS rfl dJ6_reverse_0f7a4_52
abbrev rmJ13_reverseBytes_067f4 : Room := { frames := 0, cells := 0, slots := 0, locals := 0 }
def jB640 (x : Int64) : Int64 := ((x &&& (lN 71777214294589695)) <<< ((nI 8).toInt64 &&& 63)) ||| (((x.toUInt64 >>> ((nI 8).toInt64.toUInt64 &&& Int64.toUInt64 63)).toInt64) &&& (lN 71777214294589695))
def jB64 (x : Int64) : Int64 := (fun x => (((x <<< ((nI 48).toInt64 &&& 63)) ||| ((x &&& (lN 4294901760)) <<< ((nI 16).toInt64 &&& 63))) ||| (((x.toUInt64 >>> ((nI 16).toInt64.toUInt64 &&& Int64.toUInt64 63)).toInt64) &&& (lN 4294901760))) ||| ((x.toUInt64 >>> ((nI 48).toInt64.toUInt64 &&& Int64.toUInt64 63)).toInt64)) (jB640 x)
set_option maxHeartbeats 4000000 in
set_option maxRecDepth 100000 in
theorem c_rb64 (l : Launch) (g : Gx) (H0 : Heap) (x : Int64) : Met l yJ13_reverseBytes_067f4 wsJ13_reverseBytes_067f4 rmJ13_reverseBytes_067f4 (va_Pc [.long x] (hB g H0)) (pQ (some (.long (jB64 x))) H0) 0 0 (fun q => H0.size ≤ q) := by
  refine cx_met (own := RJ13) (cc := cJ13_reverseBytes_067f4) (maxL := 2) (by decide) rfl rfl (Nat.le_of_ble_eq_true rfl) ?_
  intro p e s m below meth c ls C0 hB0 hnm hl
  obtain ⟨hH, hK⟩ := hB0
  obtain ⟨hx, hb, hr, hml, hown, hts, hlk⟩ := id C0
  subst hH
  have hS : va_S (fun q => s.heap.size ≤ q) s.heap s.heap [] := va_S.rf
  have hA : ∀ q : Nat, s.heap.size ≤ q → s.heap.size ≤ q := fun q h => h
  have hl : lv_has ls 2 [(0, .long x)] := hl
  refine lv_lload_n hx hb dJ13_reverseBytes_067f4_0 rfl (lv_at hl 0 rfl) ?_
  refine lv_ldc2 (v := lN 71777214294589695) hx hb hown (hts (.constantLong RJ13 327 (71777214294589695)) (by decide +kernel)) dJ13_reverseBytes_067f4_1 ?_
  refine lv_land hx hb dJ13_reverseBytes_067f4_4 ?_
  refine lv_bipush (v := nI 8) hx hb dJ13_reverseBytes_067f4_5 (by decide) ?_
  refine lv_lshl (v := (x &&& (lN 71777214294589695)) <<< ((nI 8).toInt64 &&& 63)) hx hb dJ13_reverseBytes_067f4_7 (rfl) ?_
  refine lv_lload_n hx hb dJ13_reverseBytes_067f4_8 rfl (lv_at hl 0 rfl) ?_
  refine lv_bipush (v := nI 8) hx hb dJ13_reverseBytes_067f4_9 (by decide) ?_
  refine lv_lushr (v := (x.toUInt64 >>> ((nI 8).toInt64.toUInt64 &&& Int64.toUInt64 63)).toInt64) hx hb dJ13_reverseBytes_067f4_11 (rfl) ?_
  refine lv_ldc2 (v := lN 71777214294589695) hx hb hown (hts (.constantLong RJ13 327 (71777214294589695)) (by decide +kernel)) dJ13_reverseBytes_067f4_12 ?_
  refine lv_land hx hb dJ13_reverseBytes_067f4_15 ?_
  refine lv_lor hx hb dJ13_reverseBytes_067f4_16 ?_
  refine tp_l (y := jB640 x) (rfl) ?_
  refine lv_lstore_n (lv' := [(0, .long (jB640 x))]) hx hb dJ13_reverseBytes_067f4_17 rfl hl (by decide) rfl (fun ls hl => ?_)
  refine lv_lload_n hx hb dJ13_reverseBytes_067f4_18 rfl (lv_at hl 0 rfl) ?_
  refine lv_bipush (v := nI 48) hx hb dJ13_reverseBytes_067f4_19 (by decide) ?_
  refine lv_lshl (v := (jB640 x) <<< ((nI 48).toInt64 &&& 63)) hx hb dJ13_reverseBytes_067f4_21 (rfl) ?_
  refine lv_lload_n hx hb dJ13_reverseBytes_067f4_22 rfl (lv_at hl 0 rfl) ?_
  refine lv_ldc2 (v := lN 4294901760) hx hb hown (hts (.constantLong RJ13 329 (4294901760)) (by decide +kernel)) dJ13_reverseBytes_067f4_23 ?_
  refine lv_land hx hb dJ13_reverseBytes_067f4_26 ?_
  refine lv_bipush (v := nI 16) hx hb dJ13_reverseBytes_067f4_27 (by decide) ?_
  refine lv_lshl (v := ((jB640 x) &&& (lN 4294901760)) <<< ((nI 16).toInt64 &&& 63)) hx hb dJ13_reverseBytes_067f4_29 (rfl) ?_
  refine lv_lor hx hb dJ13_reverseBytes_067f4_30 ?_
  refine lv_lload_n hx hb dJ13_reverseBytes_067f4_31 rfl (lv_at hl 0 rfl) ?_
  refine lv_bipush (v := nI 16) hx hb dJ13_reverseBytes_067f4_32 (by decide) ?_
  refine lv_lushr (v := ((jB640 x).toUInt64 >>> ((nI 16).toInt64.toUInt64 &&& Int64.toUInt64 63)).toInt64) hx hb dJ13_reverseBytes_067f4_34 (rfl) ?_
  refine lv_ldc2 (v := lN 4294901760) hx hb hown (hts (.constantLong RJ13 329 (4294901760)) (by decide +kernel)) dJ13_reverseBytes_067f4_35 ?_
  refine lv_land hx hb dJ13_reverseBytes_067f4_38 ?_
  refine lv_lor hx hb dJ13_reverseBytes_067f4_39 ?_
  refine lv_lload_n hx hb dJ13_reverseBytes_067f4_40 rfl (lv_at hl 0 rfl) ?_
  refine lv_bipush (v := nI 48) hx hb dJ13_reverseBytes_067f4_41 (by decide) ?_
  refine lv_lushr (v := ((jB640 x).toUInt64 >>> ((nI 48).toInt64.toUInt64 &&& Int64.toUInt64 63)).toInt64) hx hb dJ13_reverseBytes_067f4_43 (rfl) ?_
  refine lv_lor hx hb dJ13_reverseBytes_067f4_44 ?_
  exact rt_l C0 rfl hS rfl dJ13_reverseBytes_067f4_45
abbrev rmJ13_reverse_067f4 : Room := { frames := 1, cells := 0, slots := 0, locals := 21 }
def jB64r0 (x : Int64) : Int64 := ((x &&& (lN 6148914691236517205)) <<< ((nI 1).toInt64 &&& 63)) ||| (((x.toUInt64 >>> ((nI 1).toInt64.toUInt64 &&& Int64.toUInt64 63)).toInt64) &&& (lN 6148914691236517205))
def jB64r1 (x : Int64) : Int64 := ((x &&& (lN 3689348814741910323)) <<< ((nI 2).toInt64 &&& 63)) ||| (((x.toUInt64 >>> ((nI 2).toInt64.toUInt64 &&& Int64.toUInt64 63)).toInt64) &&& (lN 3689348814741910323))
def jB64r2 (x : Int64) : Int64 := ((x &&& (lN 1085102592571150095)) <<< ((nI 4).toInt64 &&& 63)) ||| (((x.toUInt64 >>> ((nI 4).toInt64.toUInt64 &&& Int64.toUInt64 63)).toInt64) &&& (lN 1085102592571150095))
def jB64v (x : Int64) : Int64 := jB64 (jB64r2 (jB64r1 (jB64r0 x)))
set_option maxHeartbeats 4000000 in
set_option maxRecDepth 100000 in
theorem c_rv64 (l : Launch) (g : Gx) (H0 : Heap) (x : Int64) : Met l yJ13_reverse_067f4 wsJ13_reverse_067f4 rmJ13_reverse_067f4 (va_Pc [.long x] (hB g H0)) (pQ (some (.long (jB64v x))) H0) 0 0 (fun q => H0.size ≤ q) := by
  refine cx_met (own := RJ13) (cc := cJ13_reverse_067f4) (maxL := 2) (by decide) rfl rfl (Nat.le_of_ble_eq_true rfl) ?_
  intro p e s m below meth c ls C0 hB0 hnm hl
  obtain ⟨hH, hK⟩ := hB0
  obtain ⟨hx, hb, hr, hml, hown, hts, hlk⟩ := id C0
  subst hH
  have hS : va_S (fun q => s.heap.size ≤ q) s.heap s.heap [] := va_S.rf
  have hA : ∀ q : Nat, s.heap.size ≤ q → s.heap.size ≤ q := fun q h => h
  have hl : lv_has ls 2 [(0, .long x)] := hl
  refine lv_lload_n hx hb dJ13_reverse_067f4_0 rfl (lv_at hl 0 rfl) ?_
  refine lv_ldc2 (v := lN 6148914691236517205) hx hb hown (hts (.constantLong RJ13 314 (6148914691236517205)) (by decide +kernel)) dJ13_reverse_067f4_1 ?_
  refine lv_land hx hb dJ13_reverse_067f4_4 ?_
  refine lv_iconst (v := nI 1) hx hb dJ13_reverse_067f4_5 (by decide) ?_
  refine lv_lshl (v := (x &&& (lN 6148914691236517205)) <<< ((nI 1).toInt64 &&& 63)) hx hb dJ13_reverse_067f4_6 (rfl) ?_
  refine lv_lload_n hx hb dJ13_reverse_067f4_7 rfl (lv_at hl 0 rfl) ?_
  refine lv_iconst (v := nI 1) hx hb dJ13_reverse_067f4_8 (by decide) ?_
  refine lv_lushr (v := (x.toUInt64 >>> ((nI 1).toInt64.toUInt64 &&& Int64.toUInt64 63)).toInt64) hx hb dJ13_reverse_067f4_9 (rfl) ?_
  refine lv_ldc2 (v := lN 6148914691236517205) hx hb hown (hts (.constantLong RJ13 314 (6148914691236517205)) (by decide +kernel)) dJ13_reverse_067f4_10 ?_
  refine lv_land hx hb dJ13_reverse_067f4_13 ?_
  refine lv_lor hx hb dJ13_reverse_067f4_14 ?_
  refine tp_l (y := jB64r0 x) (rfl) ?_
  refine lv_lstore_n (lv' := [(0, .long (jB64r0 x))]) hx hb dJ13_reverse_067f4_15 rfl hl (by decide) rfl (fun ls hl => ?_)
  refine lv_lload_n hx hb dJ13_reverse_067f4_16 rfl (lv_at hl 0 rfl) ?_
  refine lv_ldc2 (v := lN 3689348814741910323) hx hb hown (hts (.constantLong RJ13 316 (3689348814741910323)) (by decide +kernel)) dJ13_reverse_067f4_17 ?_
  refine lv_land hx hb dJ13_reverse_067f4_20 ?_
  refine lv_iconst (v := nI 2) hx hb dJ13_reverse_067f4_21 (by decide) ?_
  refine lv_lshl (v := ((jB64r0 x) &&& (lN 3689348814741910323)) <<< ((nI 2).toInt64 &&& 63)) hx hb dJ13_reverse_067f4_22 (rfl) ?_
  refine lv_lload_n hx hb dJ13_reverse_067f4_23 rfl (lv_at hl 0 rfl) ?_
  refine lv_iconst (v := nI 2) hx hb dJ13_reverse_067f4_24 (by decide) ?_
  refine lv_lushr (v := ((jB64r0 x).toUInt64 >>> ((nI 2).toInt64.toUInt64 &&& Int64.toUInt64 63)).toInt64) hx hb dJ13_reverse_067f4_25 (rfl) ?_
  refine lv_ldc2 (v := lN 3689348814741910323) hx hb hown (hts (.constantLong RJ13 316 (3689348814741910323)) (by decide +kernel)) dJ13_reverse_067f4_26 ?_
  refine lv_land hx hb dJ13_reverse_067f4_29 ?_
  refine lv_lor hx hb dJ13_reverse_067f4_30 ?_
  refine tp_l (y := jB64r1 (jB64r0 x)) (rfl) ?_
  refine lv_lstore_n (lv' := [(0, .long (jB64r1 (jB64r0 x)))]) hx hb dJ13_reverse_067f4_31 rfl hl (by decide) rfl (fun ls hl => ?_)
  refine lv_lload_n hx hb dJ13_reverse_067f4_32 rfl (lv_at hl 0 rfl) ?_
  refine lv_ldc2 (v := lN 1085102592571150095) hx hb hown (hts (.constantLong RJ13 318 (1085102592571150095)) (by decide +kernel)) dJ13_reverse_067f4_33 ?_
  refine lv_land hx hb dJ13_reverse_067f4_36 ?_
  refine lv_iconst (v := nI 4) hx hb dJ13_reverse_067f4_37 (by decide) ?_
  refine lv_lshl (v := ((jB64r1 (jB64r0 x)) &&& (lN 1085102592571150095)) <<< ((nI 4).toInt64 &&& 63)) hx hb dJ13_reverse_067f4_38 (rfl) ?_
  refine lv_lload_n hx hb dJ13_reverse_067f4_39 rfl (lv_at hl 0 rfl) ?_
  refine lv_iconst (v := nI 4) hx hb dJ13_reverse_067f4_40 (by decide) ?_
  refine lv_lushr (v := ((jB64r1 (jB64r0 x)).toUInt64 >>> ((nI 4).toInt64.toUInt64 &&& Int64.toUInt64 63)).toInt64) hx hb dJ13_reverse_067f4_41 (rfl) ?_
  refine lv_ldc2 (v := lN 1085102592571150095) hx hb hown (hts (.constantLong RJ13 318 (1085102592571150095)) (by decide +kernel)) dJ13_reverse_067f4_42 ?_
  refine lv_land hx hb dJ13_reverse_067f4_45 ?_
  refine lv_lor hx hb dJ13_reverse_067f4_46 ?_
  refine tp_l (y := jB64r2 (jB64r1 (jB64r0 x))) (rfl) ?_
  refine lv_lstore_n (lv' := [(0, .long (jB64r2 (jB64r1 (jB64r0 x))))]) hx hb dJ13_reverse_067f4_47 rfl hl (by decide) rfl (fun ls hl => ?_)
  refine lv_lload_n hx hb dJ13_reverse_067f4_48 rfl (lv_at hl 0 rfl) ?_
  refine cp_S (As := [.long (jB64r2 (jB64r1 (jB64r0 x)))]) (rest := []) C0 hl hK hS hA (c_rb64 l g s.heap (jB64r2 (jB64r1 (jB64r0 x)))) gJ13_reverse_067f4_J13_reverseBytes_067f4 rfl ⟨rfl, rfl⟩ (show hd_ok yJ13_reverseBytes_067f4 1 from ⟨by decide, by decide, by decide +kernel⟩) ⟨Nat.le_of_ble_eq_true rfl, Nat.le_of_ble_eq_true rfl⟩ rfl (Nat.le_of_ble_eq_true rfl) ⟨Nat.zero_le _, Nat.zero_le _⟩ dJ13_reverse_067f4_49 (fun locs hS => ?_)
  exact rt_l C0 rfl hS rfl dJ13_reverse_067f4_52
/-- a cell turned about -/
def abV (zb zi : Bool) (v : Nat) : Nat := tN (if zi = true then (if zb = true then jB32 (nI v) else jB32v (nI v)).toInt64 else if zb = true then jB64 (lN v) else jB64v (lN v))
abbrev rmX2_about : Room := { frames := 2, cells := 0, slots := 0, locals := 42 }
set_option maxHeartbeats 4000000 in
set_option maxRecDepth 100000 in
theorem c_xAbout (l : Launch) (g : Gx) (H0 : Heap) (x0 lc tr tc sr sc : Nat) (i3 i4 i5 i6 : Int32) (V : Nat → Nat) (n : Nat) (t : Nat → Nat) (hL : CL g H0 x0 lc tr tc sr sc i3 i4 i5 i6 V n t) (i : Nat) (hi : i < 8) (zb zi : Bool) : Met l yX2_about wsX2_about rmX2_about (va_Pc [.ref x0, .int (nI i), .int (bI zb), .int (bI zi)] (hB g H0)) (nQ H0 (mC x0 lc tr tc sr sc) (zC g x0 lc tr tc sr sc (fun r V2 n2 t2 => r = some (.int (bI (!decide (abV zb zi (V i) = V i)))) ∧ n2 = n ∧ t2 = t ∧ V2 = va_up V i (abV zb zi (V i))))) 0 0 (fun q => (mC x0 lc tr tc sr sc) q ∨ H0.size ≤ q) := by
  refine cx_met (own := RX2) (cc := cX2_about) (maxL := 7) (by decide) rfl rfl (Nat.le_of_ble_eq_true rfl) ?_
  intro p e s m below meth c ls C0 hB0 hnm hl
  obtain ⟨hH, hK⟩ := hB0
  obtain ⟨hx, hb, hr, hml, hown, hts, hlk⟩ := id C0
  subst hH
  have hS : va_S (fun q => (mC x0 lc tr tc sr sc) q ∨ s.heap.size ≤ q) s.heap s.heap [] := va_S.rf
  have hA : ∀ q : Nat, s.heap.size ≤ q → (fun q => (mC x0 lc tr tc sr sc) q ∨ s.heap.size ≤ q) q := fun q h => Or.inr h
  have hl : lv_has ls 7 [(0, .ref x0), (1, .int (nI i)), (2, .int (bI zb)), (3, .int (bI zi))] := hl
  obtain ⟨hC, hR, hSp, hap⟩ := id hL
  obtain ⟨hf, hfl, hlc, ⟨f, hg9, hfv⟩, hV, hxl⟩ := id hC
  have hw9 : abV zb zi (V i) < 65536 ^ 4 := tN_lt _
  refine lv_iload_n hx hb dX2_about_0 rfl (lv_at hl 1 rfl) ?_
  refine cp_S (As := [.int (nI i)]) (rest := []) C0 hl hK hS hA (c_ckCell l g s.heap i (by assumption)) gX2_about_X2_checkCell rfl ⟨rfl, rfl⟩ (show hd_ok yX2_checkCell 1 from ⟨by decide, by decide, by decide +kernel⟩) ⟨Nat.le_of_ble_eq_true rfl, Nat.le_of_ble_eq_true rfl⟩ rfl (Nat.le_of_ble_eq_true rfl) ⟨Nat.zero_le _, Nat.zero_le _⟩ dX2_about_1 (fun locs hS => ?_)
  refine lv_aload_n hx hb dX2_about_4 rfl (lv_at hl 0 rfl) ?_
  refine va_get (ci := 3) (C := RX2) (T := TX2) (N := 7) (v := .ref lc) hx hb hts (by decide +kernel) hown hK.1 (p1 hf) 0 rfl rfl 0 (by decide) (hts (.fieldLink RX2 9 "Radixbench" "cells" "[J") (by decide +kernel)) (fun _ h9 => h9) rfl dX2_about_5 ?_
  refine lv_iload_n hx hb dX2_about_8 rfl (lv_at hl 1 rfl) ?_
  refine f_lald (j := i) hx hb hK hg9 (by assumption) (by decide) dX2_about_9 ?_
  refine tp_l (y := lN (V i)) (hfv i (by assumption)) ?_
  refine lv_lstore (lv' := [(4, .long (lN (V i))), (0, .ref x0), (1, .int (nI i)), (2, .int (bI zb)), (3, .int (bI zi))]) hx hb dX2_about_10 hl (by decide) rfl (fun ls hl => ?_)
  refine lv_iload_n hx hb dX2_about_12 rfl (lv_at hl 4 rfl) ?_
  refine lv_if_eq (tgt := 46) hx hb dX2_about_13 (by decide) (fun h1 => ?_) (fun h1 => ?_)
  · skip
    have z1 := bI_0 h1
    refine lv_aload_n hx hb dX2_about_46 rfl (lv_at hl 1 rfl) ?_
    refine lv_iload_n hx hb dX2_about_47 rfl (lv_at hl 2 rfl) ?_
    refine lv_iload_n hx hb dX2_about_48 rfl (lv_at hl 3 rfl) ?_
    refine lv_if_eq (tgt := 60) hx hb dX2_about_49 (by decide) (fun h2 => ?_) (fun h2 => ?_)
    · skip
      have z2 := bI_0 h2
      refine lv_lload hx hb dX2_about_60 (lv_at hl 0 rfl) ?_
      refine cp_S (As := [.long (lN (V i))]) (rest := [.int (nI i), .ref x0]) C0 hl hK hS hA (c_rv64 l g s.heap (lN (V i))) gX2_about_J13_reverse_067f4 rfl ⟨rfl, rfl⟩ (show hd_ok yJ13_reverse_067f4 1 from ⟨by decide, by decide, by decide +kernel⟩) ⟨Nat.le_of_ble_eq_true rfl, Nat.le_of_ble_eq_true rfl⟩ rfl (Nat.le_of_ble_eq_true rfl) ⟨Nat.zero_le _, Nat.zero_le _⟩ dX2_about_62 (fun locs hS => ?_)
      refine tp_l (y := lN (abV zb zi (V i))) ((by unfold abV; rw [z1, z2, if_neg (by decide), if_neg (by decide)]; exact lN_tN _)) ?_
      refine cn_V (As := [.int (nI i), .long (lN (abV zb zi (V i)))]) (rest := []) C0 hl hK hS hA (fun q h => Or.inl (mC_l h)) (c_becC l g s.heap x0 lc _ V hC i (abV zb zi (V i)) (by assumption) hw9) gX2_about_X2_become rfl ⟨rfl, rfl⟩ (hC.recv hK) ⟨rfl, (show hd_ok yX2_become 2 from ⟨by decide, by decide, by decide +kernel⟩)⟩ ⟨Nat.le_of_ble_eq_true rfl, Nat.le_of_ble_eq_true rfl⟩ rfl (Nat.le_of_ble_eq_true rfl) ⟨Nat.zero_le _, Nat.zero_le _⟩ dX2_about_65 (fun r1 H1 locs hv hzz hk1 hS => ?_)
      obtain ⟨rfl, hC1⟩ := hv
      refine W.widen (k := 0) (n := 0) (by decide) (by decide) ?_
      exact rt_ni (mu := mC x0 lc tr tc sr sc) C0 (bI_nar _) ⟨i3, i4, i5, i6, _, n, t, ⟨rfl, rfl, rfl, rfl⟩, hL.setV hC1 hk1⟩ hS rfl dX2_about_68
    · skip
      have z2 := bI_n0 h2
      refine lv_lload hx hb dX2_about_52 (lv_at hl 0 rfl) ?_
      refine cp_S (As := [.long (lN (V i))]) (rest := [.int (nI i), .ref x0]) C0 hl hK hS hA (c_rb64 l g s.heap (lN (V i))) gX2_about_J13_reverseBytes_067f4 rfl ⟨rfl, rfl⟩ (show hd_ok yJ13_reverseBytes_067f4 1 from ⟨by decide, by decide, by decide +kernel⟩) ⟨Nat.le_of_ble_eq_true rfl, Nat.le_of_ble_eq_true rfl⟩ rfl (Nat.le_of_ble_eq_true rfl) ⟨Nat.zero_le _, Nat.zero_le _⟩ dX2_about_54 (fun locs hS => ?_)
      refine tp_l (y := lN (abV zb zi (V i))) ((by unfold abV; rw [z1, z2, if_neg (by decide), if_pos rfl]; exact lN_tN _)) ?_
      refine lv_goto (tgt := 65) hx hb dX2_about_57 (by decide) ?_
      refine cn_V (As := [.int (nI i), .long (lN (abV zb zi (V i)))]) (rest := []) C0 hl hK hS hA (fun q h => Or.inl (mC_l h)) (c_becC l g s.heap x0 lc _ V hC i (abV zb zi (V i)) (by assumption) hw9) gX2_about_X2_become rfl ⟨rfl, rfl⟩ (hC.recv hK) ⟨rfl, (show hd_ok yX2_become 2 from ⟨by decide, by decide, by decide +kernel⟩)⟩ ⟨Nat.le_of_ble_eq_true rfl, Nat.le_of_ble_eq_true rfl⟩ rfl (Nat.le_of_ble_eq_true rfl) ⟨Nat.zero_le _, Nat.zero_le _⟩ dX2_about_65 (fun r1 H1 locs hv hzz hk1 hS => ?_)
      obtain ⟨rfl, hC1⟩ := hv
      refine W.widen (k := 0) (n := 0) (by decide) (by decide) ?_
      exact rt_ni (mu := mC x0 lc tr tc sr sc) C0 (bI_nar _) ⟨i3, i4, i5, i6, _, n, t, ⟨rfl, rfl, rfl, rfl⟩, hL.setV hC1 hk1⟩ hS rfl dX2_about_68
  · skip
    have z1 := bI_n0 h1
    refine lv_lload hx hb dX2_about_16 (lv_at hl 0 rfl) ?_
    refine lv_l2i (v := nI (V i)) hx hb dX2_about_18 (lN_i _) ?_
    refine lv_istore (lv' := [(6, .int (nI (V i))), (4, .long (lN (V i))), (0, .ref x0), (1, .int (nI i)), (2, .int (bI zb)), (3, .int (bI zi))]) hx hb dX2_about_19 hl (by decide) rfl (fun ls hl => ?_)
    refine lv_aload_n hx hb dX2_about_21 rfl (lv_at hl 2 rfl) ?_
    refine lv_iload_n hx hb dX2_about_22 rfl (lv_at hl 3 rfl) ?_
    refine lv_iload_n hx hb dX2_about_23 rfl (lv_at hl 4 rfl) ?_
    refine lv_if_eq (tgt := 36) hx hb dX2_about_24 (by decide) (fun h2 => ?_) (fun h2 => ?_)
    · skip
      have z2 := bI_0 h2
      refine lv_iload hx hb dX2_about_36 (lv_at hl 0 rfl) ?_
      refine cp_S (As := [.int (nI (V i))]) (rest := [.int (nI i), .ref x0]) C0 hl hK hS hA (c_rv32 l g s.heap (nI (V i))) gX2_about_J6_reverse_0f7a4 rfl ⟨rfl, rfl⟩ (show hd_ok yJ6_reverse_0f7a4 1 from ⟨by decide, by decide, by decide +kernel⟩) ⟨Nat.le_of_ble_eq_true rfl, Nat.le_of_ble_eq_true rfl⟩ rfl (Nat.le_of_ble_eq_true rfl) ⟨Nat.zero_le _, Nat.zero_le _⟩ dX2_about_38 (fun locs hS => ?_)
      refine lv_i2l (v := (jB32v (nI (V i))).toInt64) hx hb dX2_about_41 (rfl) ?_
      refine tp_l (y := lN (abV zb zi (V i))) ((by unfold abV; rw [z1, z2, if_pos rfl, if_neg (by decide)]; exact lN_tN _)) ?_
      refine cn_V (As := [.int (nI i), .long (lN (abV zb zi (V i)))]) (rest := []) C0 hl hK hS hA (fun q h => Or.inl (mC_l h)) (c_becC l g s.heap x0 lc _ V hC i (abV zb zi (V i)) (by assumption) hw9) gX2_about_X2_become rfl ⟨rfl, rfl⟩ (hC.recv hK) ⟨rfl, (show hd_ok yX2_become 2 from ⟨by decide, by decide, by decide +kernel⟩)⟩ ⟨Nat.le_of_ble_eq_true rfl, Nat.le_of_ble_eq_true rfl⟩ rfl (Nat.le_of_ble_eq_true rfl) ⟨Nat.zero_le _, Nat.zero_le _⟩ dX2_about_42 (fun r1 H1 locs hv hzz hk1 hS => ?_)
      obtain ⟨rfl, hC1⟩ := hv
      refine W.widen (k := 0) (n := 0) (by decide) (by decide) ?_
      exact rt_ni (mu := mC x0 lc tr tc sr sc) C0 (bI_nar _) ⟨i3, i4, i5, i6, _, n, t, ⟨rfl, rfl, rfl, rfl⟩, hL.setV hC1 hk1⟩ hS rfl dX2_about_45
    · skip
      have z2 := bI_n0 h2
      refine lv_iload hx hb dX2_about_27 (lv_at hl 0 rfl) ?_
      refine cp_S (As := [.int (nI (V i))]) (rest := [.int (nI i), .ref x0]) C0 hl hK hS hA (c_rb32 l g s.heap (nI (V i))) gX2_about_J6_reverseBytes_0f7a4 rfl ⟨rfl, rfl⟩ (show hd_ok yJ6_reverseBytes_0f7a4 1 from ⟨by decide, by decide, by decide +kernel⟩) ⟨Nat.le_of_ble_eq_true rfl, Nat.le_of_ble_eq_true rfl⟩ rfl (Nat.le_of_ble_eq_true rfl) ⟨Nat.zero_le _, Nat.zero_le _⟩ dX2_about_29 (fun locs hS => ?_)
      refine lv_i2l (v := (jB32 (nI (V i))).toInt64) hx hb dX2_about_32 (rfl) ?_
      refine tp_l (y := lN (abV zb zi (V i))) ((by unfold abV; rw [z1, z2, if_pos rfl, if_pos rfl]; exact lN_tN _)) ?_
      refine lv_goto (tgt := 42) hx hb dX2_about_33 (by decide) ?_
      refine cn_V (As := [.int (nI i), .long (lN (abV zb zi (V i)))]) (rest := []) C0 hl hK hS hA (fun q h => Or.inl (mC_l h)) (c_becC l g s.heap x0 lc _ V hC i (abV zb zi (V i)) (by assumption) hw9) gX2_about_X2_become rfl ⟨rfl, rfl⟩ (hC.recv hK) ⟨rfl, (show hd_ok yX2_become 2 from ⟨by decide, by decide, by decide +kernel⟩)⟩ ⟨Nat.le_of_ble_eq_true rfl, Nat.le_of_ble_eq_true rfl⟩ rfl (Nat.le_of_ble_eq_true rfl) ⟨Nat.zero_le _, Nat.zero_le _⟩ dX2_about_42 (fun r1 H1 locs hv hzz hk1 hS => ?_)
      obtain ⟨rfl, hC1⟩ := hv
      refine W.widen (k := 0) (n := 0) (by decide) (by decide) ?_
      exact rt_ni (mu := mC x0 lc tr tc sr sc) C0 (bI_nar _) ⟨i3, i4, i5, i6, _, n, t, ⟨rfl, rfl, rfl, rfl⟩, hL.setV hC1 hk1⟩ hS rfl dX2_about_45
end M71

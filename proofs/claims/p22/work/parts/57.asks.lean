-- THE MODEL's QUESTIONS: same, digit, bench, text, written; add
/-- the set of the first k cells that hold w, m places of each taken -/
def smN (V : Nat → Nat) (m w : Nat) : Nat → Nat
  | 0 => 0
  | k + 1 => if w = V k % 65536 ^ m then smN V m w k + 2 ^ k else smN V m w k
theorem at_of {x : Int32} {n : Nat} (hn : n ≤ 70) (h : nI 0 ≤ x ∧ x ≤ nI n - nI 1) : ∃ j : Nat, j < n ∧ x = nI j := by
  rcases Nat.eq_zero_or_pos n with e | e
  · subst e
    exact absurd (Int32.le_trans h.1 h.2) (by decide)
  · rw [pk_sub e] at h
    obtain ⟨j, hj, rfl⟩ := nI_of2 (x := x) (M := nI (n - 1)) (n := n - 1) (nI_toInt (by omega)) (Int32.not_lt.mpr h.1) h.2
    exact ⟨j, by omega, rfl⟩
section M57
variable {p : Program} {l : Launch} {e : Env} {s : State} {m : MethodId} {args : Array Value} {below : List Frame} {meth : Method} {c : Code} {H H0 : Heap} {locs : List Loc} {cells slots : Nat} {Q : State → Prop} {A : Nat → Prop} {g : Gx} {b0 : Nat}
abbrev rmX4_sameNow : Room := { frames := 5, cells := 11, slots := 44, locals := 114 }
set_option maxHeartbeats 4000000 in
set_option maxRecDepth 100000 in
/-- cell by cell -/
theorem L_same (C0 : Cx p s m args meth c RX4 cX4_sameNow 6 (some .int) wsX4_sameNow) (hK : KK g s) (hA : ∀ q, s.heap.size ≤ q → A q) {z0 mc lf dg r9 d9 q w9 c9 s9 : Nat} {fs : List Value} {rr V : Nat → Nat} (hM : MD g s.heap z0 mc lf dg fs rr V) (hd9 : d9 < 4) (hw9 : w9 < 65536 ^ (nP (decide (d9 < 2)))) (hc9 : c9 + 8 ≤ 11) (hs9 : s9 + 32 ≤ 44)
    (K : ∀ (ls : Array Slot) (H : Heap) (locs : List Loc), (∀ z, z < s.heap.size → H[z]? = s.heap[z]?) → va_S A s.heap H locs → lv_has ls 6 [(4, .int (nI (smN V (nP (decide (d9 < 2))) w9 8))), (0, .ref z0)] → W p l e rmX4_sameNow s m args below meth c H locs (c9 + 8) (s9 + 32) Q (F0 m 66 ls [])) :
    ∀ (n9 k : Nat), k ≤ 8 → 8 - k < n9 → ∀ (ls : Array Slot) (H : Heap) (locs : List Loc), va_at g.1 vwCl (q, .inl (g.2 0, (nP (decide (d9 < 2))), .inl (rw16 w9))) H → (∀ z, z < s.heap.size → H[z]? = s.heap[z]?) → va_S A s.heap H locs → lv_has ls 6 [(5, .int (nI k)), (4, .int (nI (smN V (nP (decide (d9 < 2))) w9 k))), (3, .ref q), (0, .ref z0), (1, .int (nI r9)), (2, .int (nI d9))] → W p l e rmX4_sameNow s m args below meth c H locs (c9 + k) (s9 + 4 * k) Q (F0 m 16 ls []) := by
  obtain ⟨hx, hb, hr, hml, hown, hts, hlk⟩ := id C0
  intro n9
  induction n9 with
  | zero => intro k _ h; exact absurd h (Nat.not_lt_zero _)
  | succ n9 ih =>
    intro k hk hn ls H locs hq hkk hS hl
    have hM1 := hM.same hkk
    obtain ⟨hz, hfl, hmc, hdg, hlf, ⟨fr, hg9, hfr⟩, hrr, -, -, -⟩ := id hM1
    refine lv_iload hx hb dX4_sameNow_16 (lv_at hl 0 rfl) ?_
    refine lv_bipush (v := nI 8) hx hb dX4_sameNow_18 (by decide) ?_
    refine lv_icmp_ge (tgt := 66) hx hb dX4_sameNow_20 (by decide) (fun h1 => ?_) (fun h1 => ?_)
    · skip
      have h2 := le_n (by decide) h1
      obtain rfl : k = 8 := by omega
      exact K ls H locs hkk hS (lv_sub hl [1, 3] rfl)
    · skip
      have hlt := nle_n (by omega) h1
      refine lv_aload_n hx hb dX4_sameNow_23 rfl (lv_at hl 2 rfl) ?_
      refine lv_ifnull hx hb dX4_sameNow_24 ?_
      refine lv_aload_n hx hb dX4_sameNow_27 rfl (lv_at hl 2 rfl) ?_
      refine lv_aload_n hx hb dX4_sameNow_28 rfl (lv_at hl 3 rfl) ?_
      refine lv_iload hx hb dX4_sameNow_29 (lv_at hl 0 rfl) ?_
      refine lv_iload_n hx hb dX4_sameNow_31 rfl (lv_at hl 5 rfl) ?_
      refine lv_iconst (v := nI 2) hx hb dX4_sameNow_32 (by decide) ?_
      refine lv_icmp_ge (tgt := 40) hx hb dX4_sameNow_33 (by decide) (fun h2 => ?_) (fun h2 => ?_)
      · skip
        have n1 := le_n (by decide) h2
        have hzs := hS.1
        refine lv_iconst (v := nI 0) hx hb dX4_sameNow_40 (by decide) ?_
        refine tp_i (y := bI (decide (d9 < 2))) ((by rw [decide_eq_false (show ¬ d9 < 2 by omega)]; rfl)) ?_
        refine cn_V (As := [.int (nI k), .int (bI (decide (d9 < 2)))]) (rest := [.ref q]) C0 hl hK hS hA (fun z h => absurd h (fun z => z)) (c_of l g H z0 mc k (rr k) (V k) (decide (d9 < 2)) _ fr hz hmc hg9 (hfr k hlt) hlt (hrr k hlt).1) gX4_sameNow_X4_of rfl ⟨rfl, rfl⟩ ((va_recv hK.1 (p1 hz) (ci := 5) (q0 := 0) rfl rfl)) ⟨rfl, (show hd_ok yX4_of 2 from ⟨by decide, by decide, by decide +kernel⟩)⟩ ⟨Nat.le_of_ble_eq_true rfl, Nat.le_of_ble_eq_true rfl⟩ rfl (Nat.le_of_ble_eq_true rfl) ⟨by show c9 + k + 1 ≤ 11; omega, by show s9 + 4 * k + 4 ≤ 44; omega⟩ dX4_sameNow_41 (fun r1 H2 locs hv hzz hk2 hS => ?_)
        obtain ⟨q1, rfl, hq1, g1⟩ := hv
        have hq2 := hq.kept (hk2 _ hq.lt (fun z => z))
        refine cp_S (As := [.ref q, .ref q1]) (rest := []) C0 hl hK hS hA (c_isSame l g H2 q q1 (nP (decide (d9 < 2))) w9 (V k % 65536 ^ (nP (decide (d9 < 2)))) (by rcases nP_or (decide (d9 < 2)) with h | h <;> omega) hw9 (Nat.mod_lt _ (Nat.pow_pos (by decide))) hq2 g1) gX4_sameNow_X4_isSame rfl ⟨rfl, rfl⟩ (show hd_ok yX4_isSame 2 from ⟨by decide, by decide, by decide +kernel⟩) ⟨Nat.le_of_ble_eq_true rfl, Nat.le_of_ble_eq_true rfl⟩ rfl (Nat.le_of_ble_eq_true rfl) ⟨by show c9 + k + 1 ≤ 11; omega, by show s9 + 4 * k + 4 ≤ 44; omega⟩ dX4_sameNow_44 (fun locs hS => ?_)
        refine lv_if_eq (tgt := 60) hx hb dX4_sameNow_47 (by decide) (fun h5 => ?_) (fun h5 => ?_)
        · skip
          have es : smN V (nP (decide (d9 < 2))) w9 (k + 1) = smN V (nP (decide (d9 < 2))) w9 k := if_neg (of_decide_eq_false (bI_0 h5))
          refine lv_iinc (v := nI (k + 1)) (lv' := [(5, .int (nI (k + 1))), (4, .int (nI (smN V (nP (decide (d9 < 2))) w9 k))), (3, .ref q), (0, .ref z0), (1, .int (nI r9)), (2, .int (nI d9))]) hx hb dX4_sameNow_60 hl (k := 0) rfl (nI_1 _) (by decide) rfl (fun ls hl => ?_)
          refine lv_goto (tgt := 16) hx hb dX4_sameNow_63 (by decide) ?_
          refine W.widen (k := c9 + (k + 1)) (n := s9 + 4 * (k + 1)) (by omega) (by omega) ?_
          refine ih (k + 1) hlt (by omega) ls H2 _ hq2 (fun z hz9 => (hk2 z (by have := hS.1; have := hzs; omega) (fun z => z)).trans (hkk z hz9)) hS ?_
          rw [es]
          exact lv_sub hl [0, 1, 2, 3, 4, 5] rfl
        · skip
          have es : smN V (nP (decide (d9 < 2))) w9 (k + 1) = smN V (nP (decide (d9 < 2))) w9 k + 2 ^ k := if_pos (of_decide_eq_true (bI_n0 h5))
          refine lv_iload hx hb dX4_sameNow_50 (lv_at hl 1 rfl) ?_
          refine lv_iload hx hb dX4_sameNow_52 (lv_at hl 0 rfl) ?_
          refine cp_S (As := [.int (nI k)]) (rest := [.int (nI (smN V (nP (decide (d9 < 2))) w9 k))]) C0 hl hK hS hA (c_power l g H2 k (by omega)) gX4_sameNow_X4_power rfl ⟨rfl, rfl⟩ (show hd_ok yX4_power 1 from ⟨by decide, by decide, by decide +kernel⟩) ⟨Nat.le_of_ble_eq_true rfl, Nat.le_of_ble_eq_true rfl⟩ rfl (Nat.le_of_ble_eq_true rfl) ⟨by show c9 + k + 1 ≤ 11; omega, by show s9 + 4 * k + 4 ≤ 44; omega⟩ dX4_sameNow_54 (fun locs hS => ?_)
          refine lv_iadd hx hb dX4_sameNow_57 ?_
          refine tp_i (y := nI ((smN V (nP (decide (d9 < 2))) w9 k) + (2 ^ k))) (nI_add _ _) ?_
          refine lv_istore (lv' := [(4, .int (nI ((smN V (nP (decide (d9 < 2))) w9 k) + (2 ^ k)))), (5, .int (nI k)), (3, .ref q), (0, .ref z0), (1, .int (nI r9)), (2, .int (nI d9))]) hx hb dX4_sameNow_58 hl (by decide) rfl (fun ls hl => ?_)
          refine lv_iinc (v := nI (k + 1)) (lv' := [(5, .int (nI (k + 1))), (4, .int (nI ((smN V (nP (decide (d9 < 2))) w9 k) + (2 ^ k)))), (3, .ref q), (0, .ref z0), (1, .int (nI r9)), (2, .int (nI d9))]) hx hb dX4_sameNow_60 hl (k := 1) rfl (nI_1 _) (by decide) rfl (fun ls hl => ?_)
          refine lv_goto (tgt := 16) hx hb dX4_sameNow_63 (by decide) ?_
          refine W.widen (k := c9 + (k + 1)) (n := s9 + 4 * (k + 1)) (by omega) (by omega) ?_
          refine ih (k + 1) hlt (by omega) ls H2 _ hq2 (fun z hz9 => (hk2 z (by have := hS.1; have := hzs; omega) (fun z => z)).trans (hkk z hz9)) hS ?_
          rw [es]
          exact lv_sub hl [0, 1, 2, 3, 4, 5] rfl
      · skip
        have n1 := nle_n (by omega) h2
        have hzs := hS.1
        refine lv_iconst (v := nI 1) hx hb dX4_sameNow_36 (by decide) ?_
        refine lv_goto (tgt := 41) hx hb dX4_sameNow_37 (by decide) ?_
        refine tp_i (y := bI (decide (d9 < 2))) ((by rw [decide_eq_true n1]; rfl)) ?_
        refine cn_V (As := [.int (nI k), .int (bI (decide (d9 < 2)))]) (rest := [.ref q]) C0 hl hK hS hA (fun z h => absurd h (fun z => z)) (c_of l g H z0 mc k (rr k) (V k) (decide (d9 < 2)) _ fr hz hmc hg9 (hfr k hlt) hlt (hrr k hlt).1) gX4_sameNow_X4_of rfl ⟨rfl, rfl⟩ ((va_recv hK.1 (p1 hz) (ci := 5) (q0 := 0) rfl rfl)) ⟨rfl, (show hd_ok yX4_of 2 from ⟨by decide, by decide, by decide +kernel⟩)⟩ ⟨Nat.le_of_ble_eq_true rfl, Nat.le_of_ble_eq_true rfl⟩ rfl (Nat.le_of_ble_eq_true rfl) ⟨by show c9 + k + 1 ≤ 11; omega, by show s9 + 4 * k + 4 ≤ 44; omega⟩ dX4_sameNow_41 (fun r1 H2 locs hv hzz hk2 hS => ?_)
        obtain ⟨q1, rfl, hq1, g1⟩ := hv
        have hq2 := hq.kept (hk2 _ hq.lt (fun z => z))
        refine cp_S (As := [.ref q, .ref q1]) (rest := []) C0 hl hK hS hA (c_isSame l g H2 q q1 (nP (decide (d9 < 2))) w9 (V k % 65536 ^ (nP (decide (d9 < 2)))) (by rcases nP_or (decide (d9 < 2)) with h | h <;> omega) hw9 (Nat.mod_lt _ (Nat.pow_pos (by decide))) hq2 g1) gX4_sameNow_X4_isSame rfl ⟨rfl, rfl⟩ (show hd_ok yX4_isSame 2 from ⟨by decide, by decide, by decide +kernel⟩) ⟨Nat.le_of_ble_eq_true rfl, Nat.le_of_ble_eq_true rfl⟩ rfl (Nat.le_of_ble_eq_true rfl) ⟨by show c9 + k + 1 ≤ 11; omega, by show s9 + 4 * k + 4 ≤ 44; omega⟩ dX4_sameNow_44 (fun locs hS => ?_)
        refine lv_if_eq (tgt := 60) hx hb dX4_sameNow_47 (by decide) (fun h5 => ?_) (fun h5 => ?_)
        · skip
          have es : smN V (nP (decide (d9 < 2))) w9 (k + 1) = smN V (nP (decide (d9 < 2))) w9 k := if_neg (of_decide_eq_false (bI_0 h5))
          refine lv_iinc (v := nI (k + 1)) (lv' := [(5, .int (nI (k + 1))), (4, .int (nI (smN V (nP (decide (d9 < 2))) w9 k))), (3, .ref q), (0, .ref z0), (1, .int (nI r9)), (2, .int (nI d9))]) hx hb dX4_sameNow_60 hl (k := 0) rfl (nI_1 _) (by decide) rfl (fun ls hl => ?_)
          refine lv_goto (tgt := 16) hx hb dX4_sameNow_63 (by decide) ?_
          refine W.widen (k := c9 + (k + 1)) (n := s9 + 4 * (k + 1)) (by omega) (by omega) ?_
          refine ih (k + 1) hlt (by omega) ls H2 _ hq2 (fun z hz9 => (hk2 z (by have := hS.1; have := hzs; omega) (fun z => z)).trans (hkk z hz9)) hS ?_
          rw [es]
          exact lv_sub hl [0, 1, 2, 3, 4, 5] rfl
        · skip
          have es : smN V (nP (decide (d9 < 2))) w9 (k + 1) = smN V (nP (decide (d9 < 2))) w9 k + 2 ^ k := if_pos (of_decide_eq_true (bI_n0 h5))
          refine lv_iload hx hb dX4_sameNow_50 (lv_at hl 1 rfl) ?_
          refine lv_iload hx hb dX4_sameNow_52 (lv_at hl 0 rfl) ?_
          refine cp_S (As := [.int (nI k)]) (rest := [.int (nI (smN V (nP (decide (d9 < 2))) w9 k))]) C0 hl hK hS hA (c_power l g H2 k (by omega)) gX4_sameNow_X4_power rfl ⟨rfl, rfl⟩ (show hd_ok yX4_power 1 from ⟨by decide, by decide, by decide +kernel⟩) ⟨Nat.le_of_ble_eq_true rfl, Nat.le_of_ble_eq_true rfl⟩ rfl (Nat.le_of_ble_eq_true rfl) ⟨by show c9 + k + 1 ≤ 11; omega, by show s9 + 4 * k + 4 ≤ 44; omega⟩ dX4_sameNow_54 (fun locs hS => ?_)
          refine lv_iadd hx hb dX4_sameNow_57 ?_
          refine tp_i (y := nI ((smN V (nP (decide (d9 < 2))) w9 k) + (2 ^ k))) (nI_add _ _) ?_
          refine lv_istore (lv' := [(4, .int (nI ((smN V (nP (decide (d9 < 2))) w9 k) + (2 ^ k)))), (5, .int (nI k)), (3, .ref q), (0, .ref z0), (1, .int (nI r9)), (2, .int (nI d9))]) hx hb dX4_sameNow_58 hl (by decide) rfl (fun ls hl => ?_)
          refine lv_iinc (v := nI (k + 1)) (lv' := [(5, .int (nI (k + 1))), (4, .int (nI ((smN V (nP (decide (d9 < 2))) w9 k) + (2 ^ k)))), (3, .ref q), (0, .ref z0), (1, .int (nI r9)), (2, .int (nI d9))]) hx hb dX4_sameNow_60 hl (k := 1) rfl (nI_1 _) (by decide) rfl (fun ls hl => ?_)
          refine lv_goto (tgt := 16) hx hb dX4_sameNow_63 (by decide) ?_
          refine W.widen (k := c9 + (k + 1)) (n := s9 + 4 * (k + 1)) (by omega) (by omega) ?_
          refine ih (k + 1) hlt (by omega) ls H2 _ hq2 (fun z hz9 => (hk2 z (by have := hS.1; have := hzs; omega) (fun z => z)).trans (hkk z hz9)) hS ?_
          rw [es]
          exact lv_sub hl [0, 1, 2, 3, 4, 5] rfl
set_option maxHeartbeats 4000000 in
set_option maxRecDepth 100000 in
/-- sameNow(radix, kind) -/
theorem c_sameNow (l : Launch) (g : Gx) (b0 : Nat) (H0 : Heap) (z0 mc lf dg : Nat) (fs : List Value) (rr V : Nat → Nat) (a b n : Nat) (t : Nat → Nat) (hT : MT g H0 z0 mc lf dg fs rr V a b n t) (r9 d9 : Nat) (hr9 : 2 ≤ r9 ∧ r9 ≤ 36) (hd9 : d9 < 4) : Met l yX4_sameNow wsX4_sameNow rmX4_sameNow (va_Pc [.ref z0, .int (nI r9), .int (nI d9)] (hJ g b0 H0)) (nQ H0 (fun _ => False) (fun r _ => (saOK r9 n t d9 ∧ r = some (.int (nI (smN V (nP (decide (d9 < 2))) (saV r9 n t d9) 8)))) ∨ (¬ saOK r9 n t d9 ∧ r = some (.int (nI 0))))) 11 44 (fun q => (fun _ => False) q ∨ H0.size ≤ q) := by
  refine cx_met (own := RX4) (cc := cX4_sameNow) (maxL := 6) (by decide) rfl rfl (Nat.le_of_ble_eq_true rfl) ?_
  intro p e s m below meth c ls C0 hB0 hnm hl
  obtain ⟨hH, hK, hZ⟩ := hB0
  obtain ⟨hx, hb, hr, hml, hown, hts, hlk⟩ := id C0
  subst hH
  have hS : va_S (fun q => (fun _ => False) q ∨ s.heap.size ≤ q) s.heap s.heap [] := va_S.rf
  have hA : ∀ q : Nat, s.heap.size ≤ q → (fun q => (fun _ => False) q ∨ s.heap.size ≤ q) q := fun q h => Or.inr h
  have h0Z := hZ.1
  have hAb : ∀ q : Nat, (fun q => (fun _ => False) q ∨ s.heap.size ≤ q) q → b0 ≤ q := fun q h => h.elim (fun z => absurd z id) (fun h => Nat.le_trans h0Z h)
  have hl : lv_has ls 6 [(0, .ref z0), (1, .int (nI r9)), (2, .int (nI d9))] := hl
  obtain ⟨hM, hFT, htx, hs, hna, hnb, hn70, ht128⟩ := id hT
  obtain ⟨hz, hfl, -⟩ := id hM
  refine lv_aload_n hx hb dX4_sameNow_0 rfl (lv_at hl 0 rfl) ?_
  refine va_get (ci := 5) (C := RX4) (T := TX4) (N := 10) (v := .ref a) hx hb hts (by decide +kernel) hown hK.1 (p1 hz) 0 rfl rfl 2 (by decide) (hts (.fieldLink RX4 16 "RadixbenchModel" "text" "Ljava/lang/String;") (by decide +kernel)) (fun _ h9 => h9) htx dX4_sameNow_1 ?_
  refine lv_iload_n hx hb dX4_sameNow_4 rfl (lv_at hl 1 rfl) ?_
  refine lv_iload_n hx hb dX4_sameNow_5 rfl (lv_at hl 2 rfl) ?_
  refine jn_S (As := [.ref a, .int (nI r9), .int (nI d9)]) (rest := []) C0 hl hK hS hA (fun q h => absurd h id) (zat hZ hS hAb) (c_said l g b0 s.heap a b n r9 d9 t hs hn70 ht128 hr9 hd9) gX4_sameNow_X4_said rfl ⟨rfl, rfl⟩ (show hd_ok yX4_said 3 from ⟨by decide, by decide, by decide +kernel⟩) ⟨Nat.le_of_ble_eq_true rfl, Nat.le_of_ble_eq_true rfl⟩ rfl (Nat.le_of_ble_eq_true rfl) ⟨by decide, by decide⟩ dX4_sameNow_6 (fun v H3 locs hv hzz hk3 hS => ?_)
  rcases hv with ⟨hno, rfl⟩ | ⟨hok, q6, rfl, hq6, g6⟩
  · skip
    refine lv_astore_nN (lv' := [(3, .null), (0, .ref z0), (1, .int (nI r9)), (2, .int (nI d9))]) hx hb dX4_sameNow_9 rfl hl (by decide) rfl (fun ls hl => ?_)
    refine lv_iconst (v := nI 0) hx hb dX4_sameNow_10 (by decide) ?_
    refine lv_istore (lv' := [(4, .int (nI 0)), (3, .null), (0, .ref z0), (1, .int (nI r9)), (2, .int (nI d9))]) hx hb dX4_sameNow_11 hl (by decide) rfl (fun ls hl => ?_)
    refine lv_iconst (v := nI 0) hx hb dX4_sameNow_13 (by decide) ?_
    refine lv_istore (lv' := [(5, .int (nI 0)), (4, .int (nI 0)), (3, .null), (0, .ref z0), (1, .int (nI r9)), (2, .int (nI d9))]) hx hb dX4_sameNow_14 hl (by decide) rfl (fun ls hl => ?_)
    refine lv_iload hx hb dX4_sameNow_16 (lv_at hl 0 rfl) ?_
    refine lv_bipush (v := nI 8) hx hb dX4_sameNow_18 (by decide) ?_
    refine lv_icmp_ge (tgt := 66) hx hb dX4_sameNow_20 (by decide) (fun h4 => absurd h4 (by decide)) (fun h4 => ?_)
    refine lv_aload_nN hx hb dX4_sameNow_23 rfl (lv_at hl 2 rfl) ?_
    refine lv_ifnullN (tgt := 66) hx hb dX4_sameNow_24 (by decide) ?_
    refine lv_iload hx hb dX4_sameNow_66 (lv_at hl 1 rfl) ?_
    refine W.widen (k := 11) (n := 44) (by decide) (by decide) ?_
    exact rt_ni (mu := (fun _ => False)) C0 rfl (Or.inr ⟨hno, rfl⟩) hS rfl dX4_sameNow_68
  · skip
    refine lv_astore_n (lv' := [(3, .ref q6), (0, .ref z0), (1, .int (nI r9)), (2, .int (nI d9))]) hx hb dX4_sameNow_9 rfl hl (by decide) rfl (fun ls hl => ?_)
    refine lv_iconst (v := nI 0) hx hb dX4_sameNow_10 (by decide) ?_
    refine lv_istore (lv' := [(4, .int (nI 0)), (3, .ref q6), (0, .ref z0), (1, .int (nI r9)), (2, .int (nI d9))]) hx hb dX4_sameNow_11 hl (by decide) rfl (fun ls hl => ?_)
    refine lv_iconst (v := nI 0) hx hb dX4_sameNow_13 (by decide) ?_
    refine lv_istore (lv' := [(5, .int (nI 0)), (4, .int (nI 0)), (3, .ref q6), (0, .ref z0), (1, .int (nI r9)), (2, .int (nI d9))]) hx hb dX4_sameNow_14 hl (by decide) rfl (fun ls hl => ?_)
    refine L_same C0 hK hA (c9 := 3) (s9 := 12) (w9 := (saV r9 n t d9)) hM hd9 (rgV_lt hok.1.2.2) (by decide) (by decide) (fun ls H locs hkk hS hl => ?_) 9 0 (by decide) (by decide) ls H3 _ g6 (fun z h => hk3 z h (fun z => z)) hS (lv_sub hl [0, 1, 2, 3, 4, 5] rfl)
    refine lv_iload hx hb dX4_sameNow_66 (lv_at hl 0 rfl) ?_
    exact rt_ni (mu := (fun _ => False)) C0 rfl (Or.inl ⟨hok, rfl⟩) hS rfl dX4_sameNow_68
abbrev rmX4_same : Room := { frames := 6, cells := 11, slots := 44, locals := 139 }
set_option maxHeartbeats 4000000 in
set_option maxRecDepth 100000 in
/-- same(radix, kind): that it ends -/
theorem c_same (l : Launch) (g : Gx) (b0 : Nat) (H0 : Heap) (z0 mc lf dg : Nat) (fs : List Value) (rr V : Nat → Nat) (a b n : Nat) (t : Nat → Nat) (hT : MT g H0 z0 mc lf dg fs rr V a b n t) (hmb : ∀ q : Nat, zM z0 mc lf dg q → b0 ≤ q) (x y : Int32) : Met l yX4_same wsX4_same rmX4_same (va_Pc [.ref z0, .int x, .int y] (hJ g b0 H0)) (nQ H0 (zM z0 mc lf dg) (zT g z0 mc lf dg (fun r V2 n2 t2 => (∃ rv : Int32, r = some (.int rv)) ∧ V2 = V ∧ n2 = n ∧ t2 = t))) 11 44 (fun q => (zM z0 mc lf dg) q ∨ H0.size ≤ q) := by
  refine cx_met (own := RX4) (cc := cX4_same) (maxL := 3) (by decide) rfl rfl (Nat.le_of_ble_eq_true rfl) ?_
  intro p e s m below meth c ls C0 hB0 hnm hl
  obtain ⟨hH, hK, hZ⟩ := hB0
  obtain ⟨hx, hb, hr, hml, hown, hts, hlk⟩ := id C0
  subst hH
  have hS : va_S (fun q => (zM z0 mc lf dg) q ∨ s.heap.size ≤ q) s.heap s.heap [] := va_S.rf
  have hA : ∀ q : Nat, s.heap.size ≤ q → (fun q => (zM z0 mc lf dg) q ∨ s.heap.size ≤ q) q := fun q h => Or.inr h
  have h0Z := hZ.1
  have hAb : ∀ q : Nat, (fun q => (zM z0 mc lf dg) q ∨ s.heap.size ≤ q) q → b0 ≤ q := fun q h => h.elim (hmb q) (fun h => Nat.le_trans h0Z h)
  have hl : lv_has ls 3 [(0, .ref z0), (1, .int x), (2, .int y)] := hl
  obtain ⟨hM, hFT, htx, hs, hna, hnb, hn70, ht128⟩ := id hT
  obtain ⟨hz, hfl, -⟩ := id hM
  refine lv_aload_n hx hb dX4_same_0 rfl (lv_at hl 0 rfl) ?_
  refine lv_iconst (v := nI 0) hx hb dX4_same_1 (by decide) ?_
  refine w_putf (ci := 5) (C := RX4) (T := TX4) (N := 10) (ty := .int) hx hb hts (by decide +kernel) tyX4 tyX4_ok nmX4 hown hK hS hz (Or.inl (Or.inl rfl)) rfl 0 (by decide) (hts (.fieldLink RX4 27 "RadixbenchModel" "thrown" "I") (by decide +kernel)) (fun _ h9 => h9) rfl (by decide +kernel) rfl rfl (by rw [hfl]; decide) dX4_same_2 (fun H1 locs hz1 hs1 ho1 hS => ?_)
  have hM1 := hM.fset (by decide) (by decide) (by decide) ho1 hz1
  obtain ⟨-, hfl1, hmc, hdg, hlf, ⟨fr, hg9, hfr⟩, hrr, -, -, -⟩ := id hM1
  have htx1 : (fs.set 0 (.int (nI 0)))[2]? = some (.ref a) := by rw [List.getElem?_set_ne (by decide)]; exact htx
  have hs1 := hs.kept (ho1 _ (fun z => hna (Or.inl z))) (ho1 _ (fun z => hnb (Or.inl z)))
  have hFT1 : FT (fs.set 0 (.int (nI 0))) := hFT.i (by decide)
  refine lv_iload_n hx hb dX4_same_5 rfl (lv_at hl 1 rfl) ?_
  refine lv_iload_n hx hb dX4_same_6 rfl (lv_at hl 2 rfl) ?_
  refine cp_S (As := [.int x, .int y]) (rest := []) C0 hl hK hS hA (c_isRight l g H1 x y) gX4_same_X4_isRight rfl ⟨rfl, rfl⟩ (show hd_ok yX4_isRight 2 from ⟨by decide, by decide, by decide +kernel⟩) ⟨Nat.le_of_ble_eq_true rfl, Nat.le_of_ble_eq_true rfl⟩ rfl (Nat.le_of_ble_eq_true rfl) ⟨by decide, by decide⟩ dX4_same_7 (fun locs hS => ?_)
  refine lv_if_eq (tgt := 22) hx hb dX4_same_10 (by decide) (fun h2 => ?_) (fun h2 => ?_)
  · skip
    refine lv_aload_n hx hb dX4_same_22 rfl (lv_at hl 0 rfl) ?_
    refine lv_iconst (v := nI 1) hx hb dX4_same_23 (by decide) ?_
    refine cn_V (As := [.int (nI 1)]) (rest := []) C0 hl hK hS hA (fun z h => Or.inl h) (c_refuse l g H1 z0 mc lf dg _ rr V hM1 (nI 1)) gX4_same_X4_refuse rfl ⟨rfl, rfl⟩ ((va_recv hK.1 (p1 hz1) (ci := 5) (q0 := 0) rfl rfl)) ⟨rfl, (show hd_ok yX4_refuse 1 from ⟨by decide, by decide, by decide +kernel⟩)⟩ ⟨Nat.le_of_ble_eq_true rfl, Nat.le_of_ble_eq_true rfl⟩ rfl (Nat.le_of_ble_eq_true rfl) ⟨by decide, by decide⟩ dX4_same_24 (fun r1 H2 locs hv hzz hk2 hS => ?_)
    obtain ⟨fs2, rr2, V2, ⟨rfl, rfl, rfl⟩, hM2⟩ := hv
    refine W.widen (k := 11) (n := 44) (by decide) (by decide) ?_
    exact rt_ni (mu := zM z0 mc lf dg) C0 rfl ⟨_, _, _, a, b, n, t, ⟨⟨_, rfl⟩, rfl, rfl, rfl⟩, hM2, hFT1.i (by decide), by rw [List.getElem?_set_ne (by decide)]; exact htx1, hs1.kept (hk2 _ hs1.lt hna) (hk2 _ hs1.2.lt hnb), hna, hnb, hn70, ht128⟩ hS rfl dX4_same_27
  · skip
    have h3 := of_decide_eq_true (bI_n0 h2)
    obtain ⟨r9, hr9, rfl⟩ := rad_of h3.1
    obtain ⟨d9, hd9, rfl⟩ := kin_of h3.2
    refine lv_aload_n hx hb dX4_same_13 rfl (lv_at hl 0 rfl) ?_
    refine lv_iload_n hx hb dX4_same_14 rfl (lv_at hl 1 rfl) ?_
    refine lv_iload_n hx hb dX4_same_15 rfl (lv_at hl 2 rfl) ?_
    refine jn_V (As := [.int (nI r9), .int (nI d9)]) (rest := []) C0 hl hK hS hA (fun q h => absurd h id) (zat hZ hS hAb) (c_sameNow l g b0 H1 z0 mc lf dg _ rr V a b n t ⟨hM1, hFT1, htx1, hs1, hna, hnb, hn70, ht128⟩ r9 d9 hr9 hd9) gX4_same_X4_sameNow rfl ⟨rfl, rfl⟩ ((va_recv hK.1 (p1 hz1) (ci := 5) (q0 := 0) rfl rfl)) ⟨rfl, (show hd_ok yX4_sameNow 2 from ⟨by decide, by decide, by decide +kernel⟩)⟩ ⟨Nat.le_of_ble_eq_true rfl, Nat.le_of_ble_eq_true rfl⟩ rfl (Nat.le_of_ble_eq_true rfl) ⟨by decide, by decide⟩ dX4_same_16 (fun v H3 locs hv hzz hk3 hS => ?_)
    obtain ⟨rv, rfl⟩ : ∃ rv : Int32, v = some (.int rv) := by rcases hv with ⟨-, h⟩ | ⟨-, h⟩; exact ⟨_, h⟩; exact ⟨_, h⟩
    refine lv_goto (tgt := 27) hx hb dX4_same_19 (by decide) ?_
    exact rt_ni (mu := zM z0 mc lf dg) C0 rfl ⟨_, _, _, a, b, n, t, ⟨⟨_, rfl⟩, rfl, rfl, rfl⟩, hM1.same (fun q h => hk3 q h (fun z => z)), hFT1, htx1, hs1.kept (hk3 _ hs1.lt (fun z => z)) (hk3 _ hs1.2.lt (fun z => z)), hna, hnb, hn70, ht128⟩ hS rfl dX4_same_27
abbrev rmX4_digit : Room := { frames := 4, cells := 0, slots := 0, locals := 85 }
set_option maxHeartbeats 4000000 in
set_option maxRecDepth 100000 in
/-- digit(at, radix): that it ends -/
theorem c_digit (l : Launch) (g : Gx) (b0 : Nat) (H0 : Heap) (z0 mc lf dg : Nat) (fs : List Value) (rr V : Nat → Nat) (a b n : Nat) (t : Nat → Nat) (hT : MT g H0 z0 mc lf dg fs rr V a b n t) (hmb : ∀ q : Nat, zM z0 mc lf dg q → b0 ≤ q) (x y : Int32) : Met l yX4_digit wsX4_digit rmX4_digit (va_Pc [.ref z0, .int x, .int y] (hJ g b0 H0)) (nQ H0 (zM z0 mc lf dg) (zT g z0 mc lf dg (fun r V2 n2 t2 => (∃ rv : Int32, r = some (.int rv)) ∧ V2 = V ∧ n2 = n ∧ t2 = t))) 0 0 (fun q => (zM z0 mc lf dg) q ∨ H0.size ≤ q) := by
  refine cx_met (own := RX4) (cc := cX4_digit) (maxL := 3) (by decide) rfl rfl (Nat.le_of_ble_eq_true rfl) ?_
  intro p e s m below meth c ls C0 hB0 hnm hl
  obtain ⟨hH, hK, hZ⟩ := hB0
  obtain ⟨hx, hb, hr, hml, hown, hts, hlk⟩ := id C0
  subst hH
  have hS : va_S (fun q => (zM z0 mc lf dg) q ∨ s.heap.size ≤ q) s.heap s.heap [] := va_S.rf
  have hA : ∀ q : Nat, s.heap.size ≤ q → (fun q => (zM z0 mc lf dg) q ∨ s.heap.size ≤ q) q := fun q h => Or.inr h
  have h0Z := hZ.1
  have hAb : ∀ q : Nat, (fun q => (zM z0 mc lf dg) q ∨ s.heap.size ≤ q) q → b0 ≤ q := fun q h => h.elim (hmb q) (fun h => Nat.le_trans h0Z h)
  have hl : lv_has ls 3 [(0, .ref z0), (1, .int x), (2, .int y)] := hl
  obtain ⟨hM, hFT, htx, hs, hna, hnb, hn70, ht128⟩ := id hT
  obtain ⟨hz, hfl, -⟩ := id hM
  refine lv_aload_n hx hb dX4_digit_0 rfl (lv_at hl 0 rfl) ?_
  refine lv_iconst (v := nI 0) hx hb dX4_digit_1 (by decide) ?_
  refine w_putf (ci := 5) (C := RX4) (T := TX4) (N := 10) (ty := .int) hx hb hts (by decide +kernel) tyX4 tyX4_ok nmX4 hown hK hS hz (Or.inl (Or.inl rfl)) rfl 0 (by decide) (hts (.fieldLink RX4 27 "RadixbenchModel" "thrown" "I") (by decide +kernel)) (fun _ h9 => h9) rfl (by decide +kernel) rfl rfl (by rw [hfl]; decide) dX4_digit_2 (fun H1 locs hz1 hs1 ho1 hS => ?_)
  have hM1 := hM.fset (by decide) (by decide) (by decide) ho1 hz1
  obtain ⟨-, hfl1, hmc, hdg, hlf, ⟨fr, hg9, hfr⟩, hrr, -, -, -⟩ := id hM1
  have htx1 : (fs.set 0 (.int (nI 0)))[2]? = some (.ref a) := by rw [List.getElem?_set_ne (by decide)]; exact htx
  have hs1 := hs.kept (ho1 _ (fun z => hna (Or.inl z))) (ho1 _ (fun z => hnb (Or.inl z)))
  have hFT1 : FT (fs.set 0 (.int (nI 0))) := hFT.i (by decide)
  refine lv_iload_n hx hb dX4_digit_5 rfl (lv_at hl 1 rfl) ?_
  refine lv_iconst (v := nI 0) hx hb dX4_digit_6 (by decide) ?_
  refine lv_aload_n hx hb dX4_digit_7 rfl (lv_at hl 0 rfl) ?_
  refine va_get (ci := 5) (C := RX4) (T := TX4) (N := 10) (v := .ref a) hx hb hts (by decide +kernel) hown hK.1 (p1 hz1) 0 rfl rfl 2 (by decide) (hts (.fieldLink RX4 16 "RadixbenchModel" "text" "Ljava/lang/String;") (by decide +kernel)) (fun _ h9 => h9) htx1 dX4_digit_8 ?_
  refine jp_V (As := []) (rest := [.int (nI 0), .int x]) C0 hl hK hS hA (zat hZ hS hAb) (c_sLen l g b0 H1 a b n t hs1) gX4_digit_J0_length_8abf5 rfl ⟨rfl, rfl⟩ (j_srecv hK hs1) ⟨rfl, (show hd_ok yJ0_length_8abf5 0 from ⟨by decide, by decide, by decide +kernel⟩)⟩ ⟨Nat.le_of_ble_eq_true rfl, Nat.le_of_ble_eq_true rfl⟩ rfl (Nat.le_of_ble_eq_true rfl) ⟨by decide, by decide⟩ dX4_digit_11 (fun locs hS => ?_)
  refine lv_iconst (v := nI 1) hx hb dX4_digit_14 (by decide) ?_
  refine lv_isub hx hb dX4_digit_15 ?_
  refine tp_i (y := nI n - nI 1) (rfl) ?_
  refine cp_S (As := [.int x, .int (nI 0), .int (nI n - nI 1)]) (rest := []) C0 hl hK hS hA (c_is l g H1 x (nI 0) (nI n - nI 1)) gX4_digit_X4_is rfl ⟨rfl, rfl⟩ (show hd_ok yX4_is 3 from ⟨by decide, by decide, by decide +kernel⟩) ⟨Nat.le_of_ble_eq_true rfl, Nat.le_of_ble_eq_true rfl⟩ rfl (Nat.le_of_ble_eq_true rfl) ⟨by decide, by decide⟩ dX4_digit_16 (fun locs hS => ?_)
  refine lv_if_ne (tgt := 28) hx hb dX4_digit_19 (by decide) (fun h1 => ?_) (fun h1 => ?_)
  · skip
    obtain ⟨j, hj, rfl⟩ := at_of hn70 (of_decide_eq_true (bI_n0 h1))
    refine lv_iload_n hx hb dX4_digit_28 rfl (lv_at hl 2 rfl) ?_
    refine lv_iconst (v := nI 2) hx hb dX4_digit_29 (by decide) ?_
    refine lv_bipush (v := nI 36) hx hb dX4_digit_30 (by decide) ?_
    refine cp_S (As := [.int y, .int (nI 2), .int (nI 36)]) (rest := []) C0 hl hK hS hA (c_is l g H1 y (nI 2) (nI 36)) gX4_digit_X4_is rfl ⟨rfl, rfl⟩ (show hd_ok yX4_is 3 from ⟨by decide, by decide, by decide +kernel⟩) ⟨Nat.le_of_ble_eq_true rfl, Nat.le_of_ble_eq_true rfl⟩ rfl (Nat.le_of_ble_eq_true rfl) ⟨by decide, by decide⟩ dX4_digit_32 (fun locs hS => ?_)
    refine lv_if_eq (tgt := 53) hx hb dX4_digit_35 (by decide) (fun h2 => ?_) (fun h2 => ?_)
    · skip
      refine lv_aload_n hx hb dX4_digit_53 rfl (lv_at hl 0 rfl) ?_
      refine lv_iconst (v := nI 2) hx hb dX4_digit_54 (by decide) ?_
      refine cn_V (As := [.int (nI 2)]) (rest := []) C0 hl hK hS hA (fun z h => Or.inl h) (c_refuse l g H1 z0 mc lf dg _ rr V hM1 (nI 2)) gX4_digit_X4_refuse rfl ⟨rfl, rfl⟩ ((va_recv hK.1 (p1 hz1) (ci := 5) (q0 := 0) rfl rfl)) ⟨rfl, (show hd_ok yX4_refuse 1 from ⟨by decide, by decide, by decide +kernel⟩)⟩ ⟨Nat.le_of_ble_eq_true rfl, Nat.le_of_ble_eq_true rfl⟩ rfl (Nat.le_of_ble_eq_true rfl) ⟨by decide, by decide⟩ dX4_digit_55 (fun r1 H2 locs hv hzz hk2 hS => ?_)
      obtain ⟨fs2, rr2, V2, ⟨rfl, rfl, rfl⟩, hM2⟩ := hv
      refine W.widen (k := 0) (n := 0) (by decide) (by decide) ?_
      exact rt_ni (mu := zM z0 mc lf dg) C0 rfl ⟨_, _, _, a, b, n, t, ⟨⟨_, rfl⟩, rfl, rfl, rfl⟩, hM2, hFT1.i (by decide), by rw [List.getElem?_set_ne (by decide)]; exact htx1, hs1.kept (hk2 _ hs1.lt hna) (hk2 _ hs1.2.lt hnb), hna, hnb, hn70, ht128⟩ hS rfl dX4_digit_58
    · skip
      refine lv_aload_n hx hb dX4_digit_38 rfl (lv_at hl 0 rfl) ?_
      refine va_get (ci := 5) (C := RX4) (T := TX4) (N := 10) (v := .ref a) hx hb hts (by decide +kernel) hown hK.1 (p1 hz1) 0 rfl rfl 2 (by decide) (hts (.fieldLink RX4 16 "RadixbenchModel" "text" "Ljava/lang/String;") (by decide +kernel)) (fun _ h9 => h9) htx1 dX4_digit_39 ?_
      refine lv_iload_n hx hb dX4_digit_42 rfl (lv_at hl 1 rfl) ?_
      refine jp_V (As := [.int (nI j)]) (rest := []) C0 hl hK hS hA (zat hZ hS hAb) (c_sCharAt l g b0 H1 a b n t hs1 j hj (by omega) (ht128 j hj)) gX4_digit_J0_charAt_5068e rfl ⟨rfl, rfl⟩ (j_srecv hK hs1) ⟨rfl, (show hd_ok yJ0_charAt_5068e 1 from ⟨by decide, by decide, by decide +kernel⟩)⟩ ⟨Nat.le_of_ble_eq_true rfl, Nat.le_of_ble_eq_true rfl⟩ rfl (Nat.le_of_ble_eq_true rfl) ⟨by decide, by decide⟩ dX4_digit_43 (fun locs hS => ?_)
      refine lv_iload_n hx hb dX4_digit_46 rfl (lv_at hl 2 rfl) ?_
      refine cp_S (As := [.int (nI (t j)), .int y]) (rest := []) C0 hl hK hS hA (c_digitOf l g H1 (t j) (ht128 j hj) y) gX4_digit_X4_digitOf rfl ⟨rfl, rfl⟩ (show hd_ok yX4_digitOf 2 from ⟨by decide, by decide, by decide +kernel⟩) ⟨Nat.le_of_ble_eq_true rfl, Nat.le_of_ble_eq_true rfl⟩ rfl (Nat.le_of_ble_eq_true rfl) ⟨by decide, by decide⟩ dX4_digit_47 (fun locs hS => ?_)
      refine lv_goto (tgt := 58) hx hb dX4_digit_50 (by decide) ?_
      exact rt_ni (mu := zM z0 mc lf dg) C0 rfl ⟨_, _, _, a, b, n, t, ⟨⟨_, rfl⟩, rfl, rfl, rfl⟩, hM1, hFT1, htx1, hs1, hna, hnb, hn70, ht128⟩ hS rfl dX4_digit_58
  · skip
    refine lv_aload_n hx hb dX4_digit_22 rfl (lv_at hl 0 rfl) ?_
    refine lv_iconst (v := nI 1) hx hb dX4_digit_23 (by decide) ?_
    refine cn_V (As := [.int (nI 1)]) (rest := []) C0 hl hK hS hA (fun z h => Or.inl h) (c_refuse l g H1 z0 mc lf dg _ rr V hM1 (nI 1)) gX4_digit_X4_refuse rfl ⟨rfl, rfl⟩ ((va_recv hK.1 (p1 hz1) (ci := 5) (q0 := 0) rfl rfl)) ⟨rfl, (show hd_ok yX4_refuse 1 from ⟨by decide, by decide, by decide +kernel⟩)⟩ ⟨Nat.le_of_ble_eq_true rfl, Nat.le_of_ble_eq_true rfl⟩ rfl (Nat.le_of_ble_eq_true rfl) ⟨by decide, by decide⟩ dX4_digit_24 (fun r1 H2 locs hv hzz hk2 hS => ?_)
    obtain ⟨fs2, rr2, V2, ⟨rfl, rfl, rfl⟩, hM2⟩ := hv
    refine W.widen (k := 0) (n := 0) (by decide) (by decide) ?_
    exact rt_ni (mu := zM z0 mc lf dg) C0 rfl ⟨_, _, _, a, b, n, t, ⟨⟨_, rfl⟩, rfl, rfl, rfl⟩, hM2, hFT1.i (by decide), by rw [List.getElem?_set_ne (by decide)]; exact htx1, hs1.kept (hk2 _ hs1.lt hna) (hk2 _ hs1.2.lt hnb), hna, hnb, hn70, ht128⟩ hS rfl dX4_digit_27
abbrev rmX4_benchNow : Room := { frames := 2, cells := 0, slots := 0, locals := 40 }
set_option maxHeartbeats 4000000 in
set_option maxRecDepth 100000 in
theorem c_benchNow (l : Launch) (g : Gx) (b0 : Nat) (H0 : Heap) (z0 : Nat) (fs : List Value) (a b n : Nat) (t : Nat → Nat) (hz : va_at g.1 vwCl (z0, .inr (5, fs)) H0) (hFT : FT fs) (htx : fs[2]? = some (.ref a)) (hs : sS g a b n t H0) (x : Int32) : Met l yX4_benchNow wsX4_benchNow rmX4_benchNow (va_Pc [.ref z0, .int x] (hJ g b0 H0)) (nQ H0 (fun _ => False) (fun r _ => ∃ rv : Int32, r = some (.int rv))) 0 0 (fun q => (fun _ => False) q ∨ H0.size ≤ q) := by
  refine cx_met (own := RX4) (cc := cX4_benchNow) (maxL := 2) (by decide) rfl rfl (Nat.le_of_ble_eq_true rfl) ?_
  intro p e s m below meth c ls C0 hB0 hnm hl
  obtain ⟨hH, hK, hZ⟩ := hB0
  obtain ⟨hx, hb, hr, hml, hown, hts, hlk⟩ := id C0
  subst hH
  have hS : va_S (fun q => (fun _ => False) q ∨ s.heap.size ≤ q) s.heap s.heap [] := va_S.rf
  have hA : ∀ q : Nat, s.heap.size ≤ q → (fun q => (fun _ => False) q ∨ s.heap.size ≤ q) q := fun q h => Or.inr h
  have h0Z := hZ.1
  have hAb : ∀ q : Nat, (fun q => (fun _ => False) q ∨ s.heap.size ≤ q) q → b0 ≤ q := fun q h => h.elim (fun z => absurd z id) (fun h => Nat.le_trans h0Z h)
  have hl : lv_has ls 2 [(0, .ref z0), (1, .int x)] := hl
  obtain ⟨-, ⟨y3, h3⟩, ⟨y4, h4⟩, ⟨y5, h5⟩, ⟨y6, h6⟩, -⟩ := hFT
  refine lv_iload_n hx hb dX4_benchNow_0 rfl (lv_at hl 1 rfl) ?_
  refine lv_if_ne (tgt := 14) hx hb dX4_benchNow_1 (by decide) (fun g0 => ?_) (fun g0 => ?_)
  · skip
    refine lv_iload_n hx hb dX4_benchNow_14 rfl (lv_at hl 1 rfl) ?_
    refine lv_iconst (v := nI 1) hx hb dX4_benchNow_15 (by decide) ?_
    refine lv_icmp_ne (tgt := 26) hx hb dX4_benchNow_16 (by decide) (fun g1 => ?_) (fun g1 => ?_)
    · skip
      refine lv_iload_n hx hb dX4_benchNow_26 rfl (lv_at hl 1 rfl) ?_
      refine lv_iconst (v := nI 2) hx hb dX4_benchNow_27 (by decide) ?_
      refine lv_icmp_ne (tgt := 38) hx hb dX4_benchNow_28 (by decide) (fun g2 => ?_) (fun g2 => ?_)
      · skip
        refine lv_iload_n hx hb dX4_benchNow_38 rfl (lv_at hl 1 rfl) ?_
        refine lv_iconst (v := nI 3) hx hb dX4_benchNow_39 (by decide) ?_
        refine lv_icmp_ne (tgt := 50) hx hb dX4_benchNow_40 (by decide) (fun g3 => ?_) (fun g3 => ?_)
        · skip
          refine lv_aload_n hx hb dX4_benchNow_50 rfl (lv_at hl 0 rfl) ?_
          refine va_get (ci := 5) (C := RX4) (T := TX4) (N := 10) (v := .int y6) hx hb hts (by decide +kernel) hown hK.1 (p1 hz) 0 rfl rfl 6 (by decide) (hts (.fieldLink RX4 218 "RadixbenchModel" "knocks" "I") (by decide +kernel)) (fun _ h9 => h9) h6 dX4_benchNow_51 ?_
          exact rt_ni (mu := (fun _ => False)) C0 rfl ⟨_, rfl⟩ hS rfl dX4_benchNow_54
        · skip
          refine lv_aload_n hx hb dX4_benchNow_43 rfl (lv_at hl 0 rfl) ?_
          refine va_get (ci := 5) (C := RX4) (T := TX4) (N := 10) (v := .int y5) hx hb hts (by decide +kernel) hown hK.1 (p1 hz) 0 rfl rfl 5 (by decide) (hts (.fieldLink RX4 186 "RadixbenchModel" "writes" "I") (by decide +kernel)) (fun _ h9 => h9) h5 dX4_benchNow_44 ?_
          refine lv_goto (tgt := 54) hx hb dX4_benchNow_47 (by decide) ?_
          exact rt_ni (mu := (fun _ => False)) C0 rfl ⟨_, rfl⟩ hS rfl dX4_benchNow_54
      · skip
        refine lv_aload_n hx hb dX4_benchNow_31 rfl (lv_at hl 0 rfl) ?_
        refine va_get (ci := 5) (C := RX4) (T := TX4) (N := 10) (v := .int y4) hx hb hts (by decide +kernel) hown hK.1 (p1 hz) 0 rfl rfl 4 (by decide) (hts (.fieldLink RX4 176 "RadixbenchModel" "reads" "I") (by decide +kernel)) (fun _ h9 => h9) h4 dX4_benchNow_32 ?_
        refine lv_goto (tgt := 54) hx hb dX4_benchNow_35 (by decide) ?_
        exact rt_ni (mu := (fun _ => False)) C0 rfl ⟨_, rfl⟩ hS rfl dX4_benchNow_54
    · skip
      refine lv_aload_n hx hb dX4_benchNow_19 rfl (lv_at hl 0 rfl) ?_
      refine va_get (ci := 5) (C := RX4) (T := TX4) (N := 10) (v := .int y3) hx hb hts (by decide +kernel) hown hK.1 (p1 hz) 0 rfl rfl 3 (by decide) (hts (.fieldLink RX4 183 "RadixbenchModel" "faults" "I") (by decide +kernel)) (fun _ h9 => h9) h3 dX4_benchNow_20 ?_
      refine lv_goto (tgt := 54) hx hb dX4_benchNow_23 (by decide) ?_
      exact rt_ni (mu := (fun _ => False)) C0 rfl ⟨_, rfl⟩ hS rfl dX4_benchNow_54
  · skip
    refine lv_aload_n hx hb dX4_benchNow_4 rfl (lv_at hl 0 rfl) ?_
    refine va_get (ci := 5) (C := RX4) (T := TX4) (N := 10) (v := .ref a) hx hb hts (by decide +kernel) hown hK.1 (p1 hz) 0 rfl rfl 2 (by decide) (hts (.fieldLink RX4 16 "RadixbenchModel" "text" "Ljava/lang/String;") (by decide +kernel)) (fun _ h9 => h9) htx dX4_benchNow_5 ?_
    refine jp_V (As := []) (rest := []) C0 hl hK hS hA (zat hZ hS hAb) (c_sLen l g b0 s.heap a b n t hs) gX4_benchNow_J0_length_8abf5 rfl ⟨rfl, rfl⟩ (j_srecv hK hs) ⟨rfl, (show hd_ok yJ0_length_8abf5 0 from ⟨by decide, by decide, by decide +kernel⟩)⟩ ⟨Nat.le_of_ble_eq_true rfl, Nat.le_of_ble_eq_true rfl⟩ rfl (Nat.le_of_ble_eq_true rfl) ⟨by decide, by decide⟩ dX4_benchNow_8 (fun locs hS => ?_)
    refine lv_goto (tgt := 54) hx hb dX4_benchNow_11 (by decide) ?_
    exact rt_ni (mu := (fun _ => False)) C0 rfl ⟨_, rfl⟩ hS rfl dX4_benchNow_54
abbrev rmX4_bench : Room := { frames := 3, cells := 0, slots := 0, locals := 61 }
set_option maxHeartbeats 4000000 in
set_option maxRecDepth 100000 in
/-- bench(what): that it ends -/
theorem c_bench (l : Launch) (g : Gx) (b0 : Nat) (H0 : Heap) (z0 mc lf dg : Nat) (fs : List Value) (rr V : Nat → Nat) (a b n : Nat) (t : Nat → Nat) (hT : MT g H0 z0 mc lf dg fs rr V a b n t) (hmb : ∀ q : Nat, zM z0 mc lf dg q → b0 ≤ q) (x : Int32) : Met l yX4_bench wsX4_bench rmX4_bench (va_Pc [.ref z0, .int x] (hJ g b0 H0)) (nQ H0 (zM z0 mc lf dg) (zT g z0 mc lf dg (fun r V2 n2 t2 => (∃ rv : Int32, r = some (.int rv)) ∧ V2 = V ∧ n2 = n ∧ t2 = t))) 0 0 (fun q => (zM z0 mc lf dg) q ∨ H0.size ≤ q) := by
  refine cx_met (own := RX4) (cc := cX4_bench) (maxL := 2) (by decide) rfl rfl (Nat.le_of_ble_eq_true rfl) ?_
  intro p e s m below meth c ls C0 hB0 hnm hl
  obtain ⟨hH, hK, hZ⟩ := hB0
  obtain ⟨hx, hb, hr, hml, hown, hts, hlk⟩ := id C0
  subst hH
  have hS : va_S (fun q => (zM z0 mc lf dg) q ∨ s.heap.size ≤ q) s.heap s.heap [] := va_S.rf
  have hA : ∀ q : Nat, s.heap.size ≤ q → (fun q => (zM z0 mc lf dg) q ∨ s.heap.size ≤ q) q := fun q h => Or.inr h
  have h0Z := hZ.1
  have hAb : ∀ q : Nat, (fun q => (zM z0 mc lf dg) q ∨ s.heap.size ≤ q) q → b0 ≤ q := fun q h => h.elim (hmb q) (fun h => Nat.le_trans h0Z h)
  have hl : lv_has ls 2 [(0, .ref z0), (1, .int x)] := hl
  obtain ⟨hM, hFT, htx, hs, hna, hnb, hn70, ht128⟩ := id hT
  obtain ⟨hz, hfl, -⟩ := id hM
  refine lv_aload_n hx hb dX4_bench_0 rfl (lv_at hl 0 rfl) ?_
  refine lv_iconst (v := nI 0) hx hb dX4_bench_1 (by decide) ?_
  refine w_putf (ci := 5) (C := RX4) (T := TX4) (N := 10) (ty := .int) hx hb hts (by decide +kernel) tyX4 tyX4_ok nmX4 hown hK hS hz (Or.inl (Or.inl rfl)) rfl 0 (by decide) (hts (.fieldLink RX4 27 "RadixbenchModel" "thrown" "I") (by decide +kernel)) (fun _ h9 => h9) rfl (by decide +kernel) rfl rfl (by rw [hfl]; decide) dX4_bench_2 (fun H1 locs hz1 hs1 ho1 hS => ?_)
  have hM1 := hM.fset (by decide) (by decide) (by decide) ho1 hz1
  obtain ⟨-, hfl1, hmc, hdg, hlf, ⟨fr, hg9, hfr⟩, hrr, -, -, -⟩ := id hM1
  have htx1 : (fs.set 0 (.int (nI 0)))[2]? = some (.ref a) := by rw [List.getElem?_set_ne (by decide)]; exact htx
  have hs1 := hs.kept (ho1 _ (fun z => hna (Or.inl z))) (ho1 _ (fun z => hnb (Or.inl z)))
  have hFT1 : FT (fs.set 0 (.int (nI 0))) := hFT.i (by decide)
  refine lv_iload_n hx hb dX4_bench_5 rfl (lv_at hl 1 rfl) ?_
  refine lv_iconst (v := nI 0) hx hb dX4_bench_6 (by decide) ?_
  refine lv_iconst (v := nI 4) hx hb dX4_bench_7 (by decide) ?_
  refine cp_S (As := [.int x, .int (nI 0), .int (nI 4)]) (rest := []) C0 hl hK hS hA (c_is l g H1 x (nI 0) (nI 4)) gX4_bench_X4_is rfl ⟨rfl, rfl⟩ (show hd_ok yX4_is 3 from ⟨by decide, by decide, by decide +kernel⟩) ⟨Nat.le_of_ble_eq_true rfl, Nat.le_of_ble_eq_true rfl⟩ rfl (Nat.le_of_ble_eq_true rfl) ⟨by decide, by decide⟩ dX4_bench_8 (fun locs hS => ?_)
  refine lv_if_eq (tgt := 22) hx hb dX4_bench_11 (by decide) (fun h1 => ?_) (fun h1 => ?_)
  · skip
    refine lv_aload_n hx hb dX4_bench_22 rfl (lv_at hl 0 rfl) ?_
    refine lv_iconst (v := nI 1) hx hb dX4_bench_23 (by decide) ?_
    refine cn_V (As := [.int (nI 1)]) (rest := []) C0 hl hK hS hA (fun z h => Or.inl h) (c_refuse l g H1 z0 mc lf dg _ rr V hM1 (nI 1)) gX4_bench_X4_refuse rfl ⟨rfl, rfl⟩ ((va_recv hK.1 (p1 hz1) (ci := 5) (q0 := 0) rfl rfl)) ⟨rfl, (show hd_ok yX4_refuse 1 from ⟨by decide, by decide, by decide +kernel⟩)⟩ ⟨Nat.le_of_ble_eq_true rfl, Nat.le_of_ble_eq_true rfl⟩ rfl (Nat.le_of_ble_eq_true rfl) ⟨by decide, by decide⟩ dX4_bench_24 (fun r1 H2 locs hv hzz hk2 hS => ?_)
    obtain ⟨fs2, rr2, V2, ⟨rfl, rfl, rfl⟩, hM2⟩ := hv
    refine W.widen (k := 0) (n := 0) (by decide) (by decide) ?_
    exact rt_ni (mu := zM z0 mc lf dg) C0 rfl ⟨_, _, _, a, b, n, t, ⟨⟨_, rfl⟩, rfl, rfl, rfl⟩, hM2, hFT1.i (by decide), by rw [List.getElem?_set_ne (by decide)]; exact htx1, hs1.kept (hk2 _ hs1.lt hna) (hk2 _ hs1.2.lt hnb), hna, hnb, hn70, ht128⟩ hS rfl dX4_bench_27
  · skip
    refine lv_aload_n hx hb dX4_bench_14 rfl (lv_at hl 0 rfl) ?_
    refine lv_iload_n hx hb dX4_bench_15 rfl (lv_at hl 1 rfl) ?_
    refine jn_V (As := [.int x]) (rest := []) C0 hl hK hS hA (fun q h => absurd h id) (zat hZ hS hAb) (c_benchNow l g b0 H1 z0 _ a b n t hz1 hFT1 htx1 hs1 x) gX4_bench_X4_benchNow rfl ⟨rfl, rfl⟩ ((va_recv hK.1 (p1 hz1) (ci := 5) (q0 := 0) rfl rfl)) ⟨rfl, (show hd_ok yX4_benchNow 1 from ⟨by decide, by decide, by decide +kernel⟩)⟩ ⟨Nat.le_of_ble_eq_true rfl, Nat.le_of_ble_eq_true rfl⟩ rfl (Nat.le_of_ble_eq_true rfl) ⟨by decide, by decide⟩ dX4_bench_16 (fun v H3 locs hv hzz hk3 hS => ?_)
    obtain ⟨rv, rfl⟩ := hv
    refine W.widen (k := 0) (n := 0) (by decide) (by decide) ?_
    refine lv_goto (tgt := 27) hx hb dX4_bench_19 (by decide) ?_
    exact rt_ni (mu := zM z0 mc lf dg) C0 rfl ⟨_, _, _, a, b, n, t, ⟨⟨_, rfl⟩, rfl, rfl, rfl⟩, hM1.same (fun q h => hk3 q h (fun z => z)), hFT1, htx1, hs1.kept (hk3 _ hs1.lt (fun z => z)) (hk3 _ hs1.2.lt (fun z => z)), hna, hnb, hn70, ht128⟩ hS rfl dX4_bench_27
abbrev rmX4_text : Room := { frames := 0, cells := 0, slots := 0, locals := 0 }
set_option maxHeartbeats 4000000 in
set_option maxRecDepth 100000 in
/-- text(): that it ends -/
theorem c_text (l : Launch) (g : Gx) (b0 : Nat) (H0 : Heap) (z0 mc lf dg : Nat) (fs : List Value) (rr V : Nat → Nat) (a b n : Nat) (t : Nat → Nat) (hT : MT g H0 z0 mc lf dg fs rr V a b n t) (hmb : ∀ q : Nat, zM z0 mc lf dg q → b0 ≤ q) : Met l yX4_text wsX4_text rmX4_text (va_Pc [.ref z0] (hJ g b0 H0)) (nQ H0 (zM z0 mc lf dg) (zT g z0 mc lf dg (fun r V2 n2 t2 => (∃ rv : Nat, r = some (.ref rv)) ∧ V2 = V ∧ n2 = n ∧ t2 = t))) 0 0 (fun q => (zM z0 mc lf dg) q ∨ H0.size ≤ q) := by
  refine cx_met (own := RX4) (cc := cX4_text) (maxL := 1) (by decide) rfl rfl (Nat.le_of_ble_eq_true rfl) ?_
  intro p e s m below meth c ls C0 hB0 hnm hl
  obtain ⟨hH, hK, hZ⟩ := hB0
  obtain ⟨hx, hb, hr, hml, hown, hts, hlk⟩ := id C0
  subst hH
  have hS : va_S (fun q => (zM z0 mc lf dg) q ∨ s.heap.size ≤ q) s.heap s.heap [] := va_S.rf
  have hA : ∀ q : Nat, s.heap.size ≤ q → (fun q => (zM z0 mc lf dg) q ∨ s.heap.size ≤ q) q := fun q h => Or.inr h
  have h0Z := hZ.1
  have hAb : ∀ q : Nat, (fun q => (zM z0 mc lf dg) q ∨ s.heap.size ≤ q) q → b0 ≤ q := fun q h => h.elim (hmb q) (fun h => Nat.le_trans h0Z h)
  have hl : lv_has ls 1 [(0, .ref z0)] := hl
  obtain ⟨hM, hFT, htx, hs, hna, hnb, hn70, ht128⟩ := id hT
  obtain ⟨hz, hfl, -⟩ := id hM
  refine lv_aload_n hx hb dX4_text_0 rfl (lv_at hl 0 rfl) ?_
  refine lv_iconst (v := nI 0) hx hb dX4_text_1 (by decide) ?_
  refine w_putf (ci := 5) (C := RX4) (T := TX4) (N := 10) (ty := .int) hx hb hts (by decide +kernel) tyX4 tyX4_ok nmX4 hown hK hS hz (Or.inl (Or.inl rfl)) rfl 0 (by decide) (hts (.fieldLink RX4 27 "RadixbenchModel" "thrown" "I") (by decide +kernel)) (fun _ h9 => h9) rfl (by decide +kernel) rfl rfl (by rw [hfl]; decide) dX4_text_2 (fun H1 locs hz1 hs1 ho1 hS => ?_)
  have hM1 := hM.fset (by decide) (by decide) (by decide) ho1 hz1
  obtain ⟨-, hfl1, hmc, hdg, hlf, ⟨fr, hg9, hfr⟩, hrr, -, -, -⟩ := id hM1
  have htx1 : (fs.set 0 (.int (nI 0)))[2]? = some (.ref a) := by rw [List.getElem?_set_ne (by decide)]; exact htx
  have hs1 := hs.kept (ho1 _ (fun z => hna (Or.inl z))) (ho1 _ (fun z => hnb (Or.inl z)))
  have hFT1 : FT (fs.set 0 (.int (nI 0))) := hFT.i (by decide)
  refine lv_aload_n hx hb dX4_text_5 rfl (lv_at hl 0 rfl) ?_
  refine va_get (ci := 5) (C := RX4) (T := TX4) (N := 10) (v := .ref a) hx hb hts (by decide +kernel) hown hK.1 (p1 hz1) 0 rfl rfl 2 (by decide) (hts (.fieldLink RX4 16 "RadixbenchModel" "text" "Ljava/lang/String;") (by decide +kernel)) (fun _ h9 => h9) htx1 dX4_text_6 ?_
  exact rt_a (mu := zM z0 mc lf dg) C0 (Or.inl ⟨_, rfl⟩) ⟨_, _, _, a, b, n, t, ⟨⟨_, rfl⟩, rfl, rfl, rfl⟩, hM1, hFT1, htx1, hs1, hna, hnb, hn70, ht128⟩ hS rfl dX4_text_9
abbrev rmX4_written : Room := { frames := 9, cells := 18, slots := 484, locals := 242 }
set_option maxHeartbeats 4000000 in
set_option maxRecDepth 100000 in
/-- written(cell, radix, kind): that it ends -/
theorem c_written (l : Launch) (g : Gx) (b0 : Nat) (H0 : Heap) (z0 mc lf dg : Nat) (fs : List Value) (rr V : Nat → Nat) (a b n : Nat) (t : Nat → Nat) (hT : MT g H0 z0 mc lf dg fs rr V a b n t) (hmb : ∀ q : Nat, zM z0 mc lf dg q → b0 ≤ q) (x y kd : Int32) : Met l yX4_written wsX4_written rmX4_written (va_Pc [.ref z0, .int x, .int y, .int kd] (hJ g b0 H0)) (nQ H0 (zM z0 mc lf dg) (zT g z0 mc lf dg (fun r V2 n2 t2 => (∃ rv : Nat, r = some (.ref rv)) ∧ V2 = V ∧ n2 = n ∧ t2 = t))) 18 484 (fun q => (zM z0 mc lf dg) q ∨ H0.size ≤ q) := by
  refine cx_met (own := RX4) (cc := cX4_written) (maxL := 4) (by decide) rfl rfl (Nat.le_of_ble_eq_true rfl) ?_
  intro p e s m below meth c ls C0 hB0 hnm hl
  obtain ⟨hH, hK, hZ⟩ := hB0
  obtain ⟨hx, hb, hr, hml, hown, hts, hlk⟩ := id C0
  subst hH
  have hS : va_S (fun q => (zM z0 mc lf dg) q ∨ s.heap.size ≤ q) s.heap s.heap [] := va_S.rf
  have hA : ∀ q : Nat, s.heap.size ≤ q → (fun q => (zM z0 mc lf dg) q ∨ s.heap.size ≤ q) q := fun q h => Or.inr h
  have h0Z := hZ.1
  have hAb : ∀ q : Nat, (fun q => (zM z0 mc lf dg) q ∨ s.heap.size ≤ q) q → b0 ≤ q := fun q h => h.elim (hmb q) (fun h => Nat.le_trans h0Z h)
  have hl : lv_has ls 4 [(0, .ref z0), (1, .int x), (2, .int y), (3, .int kd)] := hl
  obtain ⟨hM, hFT, htx, hs, hna, hnb, hn70, ht128⟩ := id hT
  obtain ⟨hz, hfl, -⟩ := id hM
  refine lv_aload_n hx hb dX4_written_0 rfl (lv_at hl 0 rfl) ?_
  refine lv_iload_n hx hb dX4_written_1 rfl (lv_at hl 1 rfl) ?_
  refine cp_S (As := [.int x]) (rest := [.ref z0]) C0 hl hK hS hA (c_isCell l g s.heap x) gX4_written_X4_isCell rfl ⟨rfl, rfl⟩ (show hd_ok yX4_isCell 1 from ⟨by decide, by decide, by decide +kernel⟩) ⟨Nat.le_of_ble_eq_true rfl, Nat.le_of_ble_eq_true rfl⟩ rfl (Nat.le_of_ble_eq_true rfl) ⟨by decide, by decide⟩ dX4_written_2 (fun locs hS => ?_)
  refine lv_if_ne (tgt := 12) hx hb dX4_written_5 (by decide) (fun h1 => ?_) (fun h1 => ?_)
  · skip
    obtain ⟨i, hi, rfl⟩ := cell_of (of_decide_eq_true (bI_n0 h1))
    refine lv_iload_n hx hb dX4_written_12 rfl (lv_at hl 2 rfl) ?_
    refine lv_iload_n hx hb dX4_written_13 rfl (lv_at hl 3 rfl) ?_
    refine cp_S (As := [.int y, .int kd]) (rest := [.ref z0]) C0 hl hK hS hA (c_isRight l g s.heap y kd) gX4_written_X4_isRight rfl ⟨rfl, rfl⟩ (show hd_ok yX4_isRight 2 from ⟨by decide, by decide, by decide +kernel⟩) ⟨Nat.le_of_ble_eq_true rfl, Nat.le_of_ble_eq_true rfl⟩ rfl (Nat.le_of_ble_eq_true rfl) ⟨by decide, by decide⟩ dX4_written_14 (fun locs hS => ?_)
    refine lv_if_eq (tgt := 24) hx hb dX4_written_17 (by decide) (fun h2 => ?_) (fun h2 => ?_)
    · skip
      refine lv_iconst (v := nI 2) hx hb dX4_written_24 (by decide) ?_
      refine w_putf (ci := 5) (C := RX4) (T := TX4) (N := 10) (ty := .int) hx hb hts (by decide +kernel) tyX4 tyX4_ok nmX4 hown hK hS hz (Or.inl (Or.inl rfl)) rfl 0 (by decide) (hts (.fieldLink RX4 27 "RadixbenchModel" "thrown" "I") (by decide +kernel)) (fun _ h9 => h9) rfl (by decide +kernel) rfl rfl (by rw [hfl]; decide) dX4_written_25 (fun H1 locs hz1 hs1x ho1 hS => ?_)
      have hM1 := hM.fset (by decide) (by decide) (by decide) ho1 hz1
      have hFT1 : FT (fs.set 0 (.int (nI 2))) := hFT.i (by decide)
      have htx1 : (fs.set 0 (.int (nI 2)))[2]? = some (.ref a) := by rw [List.getElem?_set_ne (by decide)]; exact htx
      have hs1 := hs.kept (ho1 _ (fun z => hna (Or.inl z))) (ho1 _ (fun z => hnb (Or.inl z)))
      refine lv_aload_n hx hb dX4_written_28 rfl (lv_at hl 0 rfl) ?_
      refine va_get (ci := 5) (C := RX4) (T := TX4) (N := 10) (v := .int (nI 2)) hx hb hts (by decide +kernel) hown hK.1 (p1 hz1) 0 rfl rfl 0 (by decide) (hts (.fieldLink RX4 27 "RadixbenchModel" "thrown" "I") (by decide +kernel)) (fun _ h9 => h9) (by rw [List.getElem?_set_self (by rw [hfl]; decide)]) dX4_written_29 ?_
      refine lv_if_ne (tgt := 45) hx hb dX4_written_32 (by decide) (fun h9 => ?_) (fun h9 => absurd h9 (by decide))
      obtain ⟨-, -, -, -, -, -, ad, hR, -⟩ := zat hZ hS hAb
      refine va_ldcS (tx := "") hx hb hown (hR 0 _ rfl) dX4_written_45 ?_
      refine W.widen (k := 18) (n := 484) (by decide) (by decide) ?_
      exact rt_a (mu := zM z0 mc lf dg) C0 (Or.inl ⟨_, rfl⟩) ⟨_, _, _, a, b, n, t, ⟨⟨_, rfl⟩, rfl, rfl, rfl⟩, hM1, hFT1, htx1, hs1, hna, hnb, hn70, ht128⟩ hS rfl dX4_written_47
    · skip
      have h3 := of_decide_eq_true (bI_n0 h2)
      obtain ⟨r9, hr9, rfl⟩ := rad_of h3.1
      obtain ⟨d9, hd9, rfl⟩ := kin_of h3.2
      refine lv_iconst (v := nI 0) hx hb dX4_written_20 (by decide) ?_
      refine lv_goto (tgt := 25) hx hb dX4_written_21 (by decide) ?_
      refine w_putf (ci := 5) (C := RX4) (T := TX4) (N := 10) (ty := .int) hx hb hts (by decide +kernel) tyX4 tyX4_ok nmX4 hown hK hS hz (Or.inl (Or.inl rfl)) rfl 0 (by decide) (hts (.fieldLink RX4 27 "RadixbenchModel" "thrown" "I") (by decide +kernel)) (fun _ h9 => h9) rfl (by decide +kernel) rfl rfl (by rw [hfl]; decide) dX4_written_25 (fun H1 locs hz1 hs1x ho1 hS => ?_)
      have hM1 := hM.fset (by decide) (by decide) (by decide) ho1 hz1
      have hFT1 : FT (fs.set 0 (.int (nI 0))) := hFT.i (by decide)
      have htx1 : (fs.set 0 (.int (nI 0)))[2]? = some (.ref a) := by rw [List.getElem?_set_ne (by decide)]; exact htx
      have hs1 := hs.kept (ho1 _ (fun z => hna (Or.inl z))) (ho1 _ (fun z => hnb (Or.inl z)))
      refine lv_aload_n hx hb dX4_written_28 rfl (lv_at hl 0 rfl) ?_
      refine va_get (ci := 5) (C := RX4) (T := TX4) (N := 10) (v := .int (nI 0)) hx hb hts (by decide +kernel) hown hK.1 (p1 hz1) 0 rfl rfl 0 (by decide) (hts (.fieldLink RX4 27 "RadixbenchModel" "thrown" "I") (by decide +kernel)) (fun _ h9 => h9) (by rw [List.getElem?_set_self (by rw [hfl]; decide)]) dX4_written_29 ?_
      refine lv_if_ne (tgt := 45) hx hb dX4_written_32 (by decide) (fun h9 => absurd rfl h9) (fun h9 => ?_)
      refine lv_aload_n hx hb dX4_written_35 rfl (lv_at hl 0 rfl) ?_
      refine lv_iload_n hx hb dX4_written_36 rfl (lv_at hl 1 rfl) ?_
      refine lv_iload_n hx hb dX4_written_37 rfl (lv_at hl 2 rfl) ?_
      refine lv_iload_n hx hb dX4_written_38 rfl (lv_at hl 3 rfl) ?_
      refine jn_V (As := [.int (nI i), .int (nI r9), .int (nI d9)]) (rest := []) C0 hl hK hS hA (fun q h => absurd h id) (zat hZ hS hAb) (c_wrNow l g b0 H1 z0 mc lf dg _ rr V hM1 i r9 d9 hi hr9 hd9) gX4_written_X4_writtenNow rfl ⟨rfl, rfl⟩ ((va_recv hK.1 (p1 hz1) (ci := 5) (q0 := 0) rfl rfl)) ⟨rfl, (show hd_ok yX4_writtenNow 3 from ⟨by decide, by decide, by decide +kernel⟩)⟩ ⟨Nat.le_of_ble_eq_true rfl, Nat.le_of_ble_eq_true rfl⟩ rfl (Nat.le_of_ble_eq_true rfl) ⟨by decide, by decide⟩ dX4_written_39 (fun v H3 locs hv hzz hk3 hS => ?_)
      obtain ⟨q6, b6, k, u, rfl, hq6, hb6, hTT, hs6⟩ := hv
      refine W.widen (k := 18) (n := 484) (by decide) (by decide) ?_
      refine lv_goto (tgt := 47) hx hb dX4_written_42 (by decide) ?_
      exact rt_a (mu := zM z0 mc lf dg) C0 (Or.inl ⟨_, rfl⟩) ⟨_, _, _, a, b, n, t, ⟨⟨_, rfl⟩, rfl, rfl, rfl⟩, hM1.same (fun q h => hk3 q h (fun z => z)), hFT1, htx1, hs1.kept (hk3 _ hs1.lt (fun z => z)) (hk3 _ hs1.2.lt (fun z => z)), hna, hnb, hn70, ht128⟩ hS rfl dX4_written_47
  · skip
    refine lv_iconst (v := nI 1) hx hb dX4_written_8 (by decide) ?_
    refine lv_goto (tgt := 25) hx hb dX4_written_9 (by decide) ?_
    refine w_putf (ci := 5) (C := RX4) (T := TX4) (N := 10) (ty := .int) hx hb hts (by decide +kernel) tyX4 tyX4_ok nmX4 hown hK hS hz (Or.inl (Or.inl rfl)) rfl 0 (by decide) (hts (.fieldLink RX4 27 "RadixbenchModel" "thrown" "I") (by decide +kernel)) (fun _ h9 => h9) rfl (by decide +kernel) rfl rfl (by rw [hfl]; decide) dX4_written_25 (fun H1 locs hz1 hs1x ho1 hS => ?_)
    have hM1 := hM.fset (by decide) (by decide) (by decide) ho1 hz1
    have hFT1 : FT (fs.set 0 (.int (nI 1))) := hFT.i (by decide)
    have htx1 : (fs.set 0 (.int (nI 1)))[2]? = some (.ref a) := by rw [List.getElem?_set_ne (by decide)]; exact htx
    have hs1 := hs.kept (ho1 _ (fun z => hna (Or.inl z))) (ho1 _ (fun z => hnb (Or.inl z)))
    refine lv_aload_n hx hb dX4_written_28 rfl (lv_at hl 0 rfl) ?_
    refine va_get (ci := 5) (C := RX4) (T := TX4) (N := 10) (v := .int (nI 1)) hx hb hts (by decide +kernel) hown hK.1 (p1 hz1) 0 rfl rfl 0 (by decide) (hts (.fieldLink RX4 27 "RadixbenchModel" "thrown" "I") (by decide +kernel)) (fun _ h9 => h9) (by rw [List.getElem?_set_self (by rw [hfl]; decide)]) dX4_written_29 ?_
    refine lv_if_ne (tgt := 45) hx hb dX4_written_32 (by decide) (fun h9 => ?_) (fun h9 => absurd h9 (by decide))
    obtain ⟨-, -, -, -, -, -, ad, hR, -⟩ := zat hZ hS hAb
    refine va_ldcS (tx := "") hx hb hown (hR 0 _ rfl) dX4_written_45 ?_
    refine W.widen (k := 18) (n := 484) (by decide) (by decide) ?_
    exact rt_a (mu := zM z0 mc lf dg) C0 (Or.inl ⟨_, rfl⟩) ⟨_, _, _, a, b, n, t, ⟨⟨_, rfl⟩, rfl, rfl, rfl⟩, hM1, hFT1, htx1, hs1, hna, hnb, hn70, ht128⟩ hS rfl dX4_written_47
end M57

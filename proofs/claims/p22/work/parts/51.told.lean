-- THE MODEL's TEXTS: a number told, with a sign or without one
/-- k signs t tell v (a number of k9 places) in the radix r, with a sign if yb -/
def isT (r k9 v : Nat) (yb : Bool) (k : Nat) (t : Nat → Nat) : Prop :=
  (¬ (yb = true ∧ 65536 ^ k9 ≤ 2 * v) ∧ isW r v k ∧ t = dgT r v k) ∨ ((yb = true ∧ 65536 ^ k9 ≤ 2 * v) ∧ ∃ k2, k = 1 + k2 ∧ isW r (65536 ^ k9 - v) k2 ∧ t = tcat (fun _ => 45) 1 (dgT r (65536 ^ k9 - v) k2))
theorem dgT_lt {r v k : Nat} (hr9 : 2 ≤ r ∧ r ≤ 36) (j : Nat) : dgT r v k j < 128 := tB_lt hr9
theorem isT_lt {r k9 v : Nat} {yb : Bool} {k : Nat} {t : Nat → Nat} (hr9 : 2 ≤ r ∧ r ≤ 36) (h : isT r k9 v yb k t) : k ≤ 65 ∧ 1 ≤ k ∧ ∀ j, t j < 128 := by
  rcases h with ⟨-, h1, rfl⟩ | ⟨-, k2, rfl, h1, rfl⟩
  · exact ⟨by have := h1.2.1; omega, h1.1, fun j => dgT_lt hr9 j⟩
  · refine ⟨by have := h1.2.1; omega, by omega, fun j => ?_⟩
    unfold tcat
    split
    · show 45 < 128
      decide
    · exact dgT_lt hr9 _
section M51
variable {p : Program} {l : Launch} {e : Env} {s : State} {m : MethodId} {args : Array Value} {below : List Frame} {meth : Method} {c : Code} {H H0 : Heap} {locs : List Loc} {cells slots : Nat} {Q : State → Prop} {A : Nat → Prop} {g : Gx} {b0 : Nat}
abbrev rmX4_told : Room := { frames := 7, cells := 17, slots := 480, locals := 197 }
set_option maxHeartbeats 4000000 in
set_option maxRecDepth 100000 in
/-- told(own, radix, isSigned) -/
theorem c_told (l : Launch) (g : Gx) (b0 : Nat) (H0 : Heap) (a k9 r9 v : Nat) (yb : Bool) (hk9 : k9 = 2 ∨ k9 = 4) (hr9 : 2 ≤ r9 ∧ r9 ≤ 36) (hv9 : v < 65536 ^ k9) (ha : va_at g.1 vwCl (a, .inl (g.2 0, k9, .inl (rw16 v))) H0) : Met l yX4_told wsX4_told rmX4_told (va_Pc [.ref a, .int (nI r9), .int (bI yb)] (hJ g b0 H0)) (nQ H0 (fun _ => False) (fun r H1 => ∃ (q b2 k : Nat) (t : Nat → Nat), r = some (.ref q) ∧ H0.size ≤ q ∧ H0.size ≤ b2 ∧ isT r9 k9 v yb k t ∧ sS g q b2 k t H1)) 17 480 (fun q => (fun _ => False) q ∨ H0.size ≤ q) := by
  refine cx_met (own := RX4) (cc := cX4_told) (maxL := 3) (by decide) rfl rfl (Nat.le_of_ble_eq_true rfl) ?_
  intro p e s m below meth c ls C0 hB0 hnm hl
  obtain ⟨hH, hK, hZ⟩ := hB0
  obtain ⟨hx, hb, hr, hml, hown, hts, hlk⟩ := id C0
  subst hH
  have hS : va_S (fun q => (fun _ => False) q ∨ s.heap.size ≤ q) s.heap s.heap [] := va_S.rf
  have hA : ∀ q : Nat, s.heap.size ≤ q → (fun q => (fun _ => False) q ∨ s.heap.size ≤ q) q := fun q h => Or.inr h
  have h0Z := hZ.1
  have hAb : ∀ q : Nat, (fun q => (fun _ => False) q ∨ s.heap.size ≤ q) q → b0 ≤ q := fun q h => h.elim (fun z => absurd z id) (fun h => Nat.le_trans h0Z h)
  have hl : lv_has ls 3 [(0, .ref a), (1, .int (nI r9)), (2, .int (bI yb))] := hl
  have e91 : k9 - 1 + 1 = k9 := by omega
  refine lv_iload_n hx hb dX4_told_0 rfl (lv_at hl 2 rfl) ?_
  refine lv_if_eq (tgt := 40) hx hb dX4_told_1 (by decide) (fun h1 => ?_) (fun h1 => ?_)
  · skip
    refine lv_aload_n hx hb dX4_told_40 rfl (lv_at hl 0 rfl) ?_
    refine lv_iload_n hx hb dX4_told_41 rfl (lv_at hl 1 rfl) ?_
    refine jn_S (As := [.ref a, .int (nI r9)]) (rest := []) C0 hl hK hS hA (fun q h => absurd h id) (zat hZ hS hAb) (c_unsigned l g b0 s.heap a k9 r9 v (by omega) hr9 hv9 ha) gX4_told_X4_unsigned rfl ⟨rfl, rfl⟩ (show hd_ok yX4_unsigned 2 from ⟨by decide, by decide, by decide +kernel⟩) ⟨Nat.le_of_ble_eq_true rfl, Nat.le_of_ble_eq_true rfl⟩ rfl (Nat.le_of_ble_eq_true rfl) ⟨by decide, by decide⟩ dX4_told_42 (fun v H1 locs hv hzz hk hS => ?_)
    obtain ⟨q, b2, k, rfl, hq, hb2, hW, hs⟩ := hv
    refine W.widen (k := 17) (n := 480) (by decide) (by decide) ?_
    exact rt_a (mu := (fun _ => False)) C0 (Or.inl ⟨_, rfl⟩) ⟨q, b2, k, _, rfl, hq, hb2, Or.inl ⟨fun z => absurd z.1 (by rw [bI_0 h1]; decide), hW, rfl⟩, hs⟩ hS rfl dX4_told_45
  · skip
    have hy1 := bI_n0 h1
    refine lv_aload_n hx hb dX4_told_4 rfl (lv_at hl 0 rfl) ?_
    refine cp_S (As := [.ref a]) (rest := []) C0 hl hK hS hA (c_isNegative l g s.heap a (k9 - 1) v (by omega) (by rw [e91]; exact hv9) (by rw [e91]; exact ha)) gX4_told_X4_isNegative rfl ⟨rfl, rfl⟩ (show hd_ok yX4_isNegative 1 from ⟨by decide, by decide, by decide +kernel⟩) ⟨Nat.le_of_ble_eq_true rfl, Nat.le_of_ble_eq_true rfl⟩ rfl (Nat.le_of_ble_eq_true rfl) ⟨by decide, by decide⟩ dX4_told_5 (fun locs hS => ?_)
    refine lv_if_eq (tgt := 40) hx hb dX4_told_8 (by decide) (fun h2 => ?_) (fun h2 => ?_)
    · skip
      have hn := of_decide_eq_false (bI_0 h2)
      rw [e91] at hn
      refine lv_aload_n hx hb dX4_told_40 rfl (lv_at hl 0 rfl) ?_
      refine lv_iload_n hx hb dX4_told_41 rfl (lv_at hl 1 rfl) ?_
      refine jn_S (As := [.ref a, .int (nI r9)]) (rest := []) C0 hl hK hS hA (fun q h => absurd h id) (zat hZ hS hAb) (c_unsigned l g b0 s.heap a k9 r9 v (by omega) hr9 hv9 ha) gX4_told_X4_unsigned rfl ⟨rfl, rfl⟩ (show hd_ok yX4_unsigned 2 from ⟨by decide, by decide, by decide +kernel⟩) ⟨Nat.le_of_ble_eq_true rfl, Nat.le_of_ble_eq_true rfl⟩ rfl (Nat.le_of_ble_eq_true rfl) ⟨by decide, by decide⟩ dX4_told_42 (fun v H1 locs hv hzz hk hS => ?_)
      obtain ⟨q, b2, k, rfl, hq, hb2, hW, hs⟩ := hv
      refine W.widen (k := 17) (n := 480) (by decide) (by decide) ?_
      exact rt_a (mu := (fun _ => False)) C0 (Or.inl ⟨_, rfl⟩) ⟨q, b2, k, _, rfl, hq, hb2, Or.inl ⟨fun z => hn z.2, hW, rfl⟩, hs⟩ hS rfl dX4_told_45
    · skip
      have hn := of_decide_eq_true (bI_n0 h2)
      rw [e91] at hn
      have hp9 : 0 < 65536 ^ k9 := Nat.pow_pos (by decide)
      have hw9 : 65536 ^ k9 - v < 65536 ^ k9 := by omega
      refine f_new (ci := 1) (C := RJ4) (T := TJ4) (N := 4) (fs := [.null, .int 0, .int 0, .int 0]) hx hb hts (by decide +kernel) tyJ4 tyJ4_ok hown (hts (.classLink RX4 86 RJ4) (by decide +kernel)) (hts (.instantiable RJ4 4) (by decide +kernel)) (hts (.initialized RJ4) (by decide +kernel)) hK hS rfl dfJ4 (by decide) (by decide) dX4_told_11 (fun c3 H2 hqc3 fc3 zc3 hk2 hS => ?_)
      refine lv_dup hx hb dX4_told_14 rfl ?_
      refine jn_I (As := []) (rest := [.ref c3]) C0 hl hK hS hA (fun q h => Or.inr (by have h : q = c3 := h; omega)) (zat hZ hS hAb) (c_bInit l g b0 H2 c3 fc3 (fun q h => by have h : q = c3 := h; omega)) gX4_told_J4_init_da8c8 rfl ⟨rfl, rfl⟩ ⟨by decide +kernel, by decide +kernel, by decide +kernel, rfl⟩ (show hd_ok yJ4_init_da8c8 0 from ⟨by decide, by decide, by decide +kernel⟩) ⟨Nat.le_of_ble_eq_true rfl, Nat.le_of_ble_eq_true rfl⟩ rfl (Nat.le_of_ble_eq_true rfl) ⟨by decide, by decide⟩ dX4_told_15 (fun v H3 locs hv hzz hk3 hS => ?_)
      obtain ⟨rfl, b3, hb3, hS3⟩ := hv
      obtain ⟨-, -, -, -, -, -, ad, hR, -, ⟨bs, hbs, hads, hsm⟩, -⟩ := zat hZ hS hAb
      refine va_ldcS (tx := "-") hx hb hown (hR 1 _ rfl) dX4_told_18 ?_
      have hs3 := hS.1
      refine jn_V (As := [.ref (ad 1)]) (rest := []) C0 hl hK hS hA (fun q h => h.elim (fun h => Or.inr (by rw [h]; omega)) (fun h => Or.inr (by rw [h]; omega))) (zat hZ hS hAb) (c_appendS l g b0 H3 c3 b3 16 0 (fun _ => 0) hS3 (ad 1) bs 1 (fun _ => 45) hsm (fun _ _ => by decide) ⟨by omega, by omega⟩ (by decide) (fun q h => h.elim (fun h => by rw [h]; omega) (fun h => by rw [h]; omega))) gX4_told_J4_append_15ec4 rfl ⟨rfl, rfl⟩ (hS3.recv hK) ⟨rfl, (show hd_ok yJ4_append_15ec4 1 from ⟨by decide, by decide, by decide +kernel⟩)⟩ ⟨Nat.le_of_ble_eq_true rfl, Nat.le_of_ble_eq_true rfl⟩ rfl (Nat.le_of_ble_eq_true rfl) ⟨by decide, by decide⟩ dX4_told_20 (fun v H4 locs hv hzz hk4 hS => ?_)
      obtain ⟨rfl, b4, hb4, hS4⟩ := hv
      have hS4 : SB g c3 b4 16 1 (fun _ => 45) H4 := hS4.cong (fun j hj => by unfold tcat; rw [if_neg (Nat.not_lt_zero _)])
      refine W.widen (k := 2) (n := 20) (by decide) (by decide) ?_
      have la := ha.lt
      dsimp only at la
      have hz9 := hzz
      have ha4 := ((ha.kept (hk2 _ la)).kept (hk3 _ (by show a < H2.size; omega) (fun (z : a = c3) => by omega))).kept (hk4 _ (by show a < H3.size; omega) (fun z => z.elim (fun (z : a = c3) => by omega) (fun (z : a = b3) => by omega)))
      refine lv_aload_n hx hb dX4_told_23 rfl (lv_at hl 0 rfl) ?_
      refine cn_S (As := [.ref a]) (rest := [.ref c3]) C0 hl hK hS hA (fun z h => absurd h (fun z => z)) (c_negative l g H4 a k9 v (by omega) hv9 ha4) gX4_told_X4_negative rfl ⟨rfl, rfl⟩ (show hd_ok yX4_negative 1 from ⟨by decide, by decide, by decide +kernel⟩) ⟨Nat.le_of_ble_eq_true rfl, Nat.le_of_ble_eq_true rfl⟩ rfl (Nat.le_of_ble_eq_true rfl) ⟨by decide, by decide⟩ dX4_told_24 (fun r1 H5 locs hv hzz hk5 hS => ?_)
      obtain ⟨q1, rfl, hq1, g1⟩ := hv
      rw [Nat.mod_eq_of_lt hw9] at g1
      obtain ⟨l4, lb4⟩ := hS4.lt
      have hS5 := hS4.kept (hk5 _ l4 (fun z => z)) (hk5 _ lb4 (fun z => z))
      have hz5 := hzz
      refine lv_iload_n hx hb dX4_told_27 rfl (lv_at hl 1 rfl) ?_
      refine jn_S (As := [.ref q1, .int (nI r9)]) (rest := [.ref c3]) C0 hl hK hS hA (fun q h => absurd h id) (zat hZ hS hAb) (c_unsigned l g b0 H5 q1 k9 r9 (65536 ^ k9 - v) (by omega) hr9 hw9 g1) gX4_told_X4_unsigned rfl ⟨rfl, rfl⟩ (show hd_ok yX4_unsigned 2 from ⟨by decide, by decide, by decide +kernel⟩) ⟨Nat.le_of_ble_eq_true rfl, Nat.le_of_ble_eq_true rfl⟩ rfl (Nat.le_of_ble_eq_true rfl) ⟨by decide, by decide⟩ dX4_told_28 (fun v H6 locs hv hzz hk6 hS => ?_)
      obtain ⟨q2, b2, k, rfl, hq2, hb2, hW, hs2⟩ := hv
      have hS6 := hS5.kept (hk6 _ (by omega) (fun z => z)) (hk6 _ (by omega) (fun z => z))
      have hk64 := hW.2.1
      refine W.widen (k := 14) (n := 344) (by decide) (by decide) ?_
      have hcT : celT 1 k 16 ≤ 1 ∧ sloT 1 k 16 ≤ 65 := by unfold celT sloT ncap; split <;> constructor <;> omega
      have hb49 : s.heap.size ≤ b4 := by rcases hb4 with e | e <;> omega
      refine jn_V (As := [.ref q2]) (rest := []) C0 hl hK hS hA (fun q h => h.elim (fun h => Or.inr (by rw [h]; omega)) (fun h => Or.inr (by rw [h]; omega))) (zat hZ hS hAb) (c_appendS l g b0 H6 c3 b4 16 1 (fun _ => 45) hS6 q2 b2 k (dgT r9 (65536 ^ k9 - v) k) hs2 (fun j _ => dgT_lt hr9 j) ⟨by omega, by omega⟩ (by omega) (fun q h => h.elim (fun h => by rw [h]; omega) (fun h => by rw [h]; omega))) gX4_told_J4_append_15ec4 rfl ⟨rfl, rfl⟩ (hS6.recv hK) ⟨rfl, (show hd_ok yJ4_append_15ec4 1 from ⟨by decide, by decide, by decide +kernel⟩)⟩ ⟨Nat.le_of_ble_eq_true rfl, Nat.le_of_ble_eq_true rfl⟩ rfl (Nat.le_of_ble_eq_true rfl) ⟨by show 14 + celT 1 k 16 ≤ 17; omega, by show 344 + sloT 1 k 16 ≤ 480; omega⟩ dX4_told_31 (fun v H7 locs hv hzz hk7 hS => ?_)
      obtain ⟨rfl, b5, hb5, hS7⟩ := hv
      refine W.widen (k := 15) (n := 409) (by omega) (by omega) ?_
      have hs7 := hS.1
      refine jn_V (As := []) (rest := []) C0 hl hK hS hA (fun q h => absurd h id) (zat hZ hS hAb) (c_toStr l g b0 H7 c3 b5 (capT 1 k 16) (1 + k) _ hS7) gX4_told_J4_toString_0e30d rfl ⟨rfl, rfl⟩ (hS7.recv hK) ⟨rfl, (show hd_ok yJ4_toString_0e30d 0 from ⟨by decide, by decide, by decide +kernel⟩)⟩ ⟨Nat.le_of_ble_eq_true rfl, Nat.le_of_ble_eq_true rfl⟩ rfl (Nat.le_of_ble_eq_true rfl) ⟨by show 15 + 2 ≤ 17; omega, by show 409 + (4 + (1 + k)) ≤ 480; omega⟩ dX4_told_34 (fun v H8 locs hv hzz hk8 hS => ?_)
      obtain ⟨q7, b7, rfl, hq7, hb7, hs7⟩ := hv
      refine W.widen (k := 17) (n := 480) (by omega) (by omega) ?_
      refine lv_goto (tgt := 45) hx hb dX4_told_37 (by decide) ?_
      exact rt_a (mu := (fun _ => False)) C0 (Or.inl ⟨_, rfl⟩) ⟨q7, b7, 1 + k, _, rfl, by omega, by omega, Or.inr ⟨⟨hy1, hn⟩, k, rfl, hW, rfl⟩, hs7⟩ hS rfl dX4_told_45
abbrev rmX4_writtenNow : Room := { frames := 8, cells := 18, slots := 484, locals := 219 }
set_option maxHeartbeats 4000000 in
set_option maxRecDepth 100000 in
/-- writtenNow(cell, radix, kind) -/
theorem c_wrNow (l : Launch) (g : Gx) (b0 : Nat) (H0 : Heap) (z0 mc lf dg : Nat) (fs : List Value) (rr V : Nat → Nat) (hM : MD g H0 z0 mc lf dg fs rr V) (i r9 d9 : Nat) (hi : i < 8) (hr9 : 2 ≤ r9 ∧ r9 ≤ 36) (hd9 : d9 < 4) : Met l yX4_writtenNow wsX4_writtenNow rmX4_writtenNow (va_Pc [.ref z0, .int (nI i), .int (nI r9), .int (nI d9)] (hJ g b0 H0)) (nQ H0 (fun _ => False) (fun r H1 => ∃ (q b2 k : Nat) (t : Nat → Nat), r = some (.ref q) ∧ H0.size ≤ q ∧ H0.size ≤ b2 ∧ isT r9 (nP (decide (d9 < 2))) (V i % 65536 ^ nP (decide (d9 < 2))) (decide (d9 % 2 = 0)) k t ∧ sS g q b2 k t H1)) 18 484 (fun q => (fun _ => False) q ∨ H0.size ≤ q) := by
  refine cx_met (own := RX4) (cc := cX4_writtenNow) (maxL := 4) (by decide) rfl rfl (Nat.le_of_ble_eq_true rfl) ?_
  intro p e s m below meth c ls C0 hB0 hnm hl
  obtain ⟨hH, hK, hZ⟩ := hB0
  obtain ⟨hx, hb, hr, hml, hown, hts, hlk⟩ := id C0
  subst hH
  have hS : va_S (fun q => (fun _ => False) q ∨ s.heap.size ≤ q) s.heap s.heap [] := va_S.rf
  have hA : ∀ q : Nat, s.heap.size ≤ q → (fun q => (fun _ => False) q ∨ s.heap.size ≤ q) q := fun q h => Or.inr h
  have h0Z := hZ.1
  have hAb : ∀ q : Nat, (fun q => (fun _ => False) q ∨ s.heap.size ≤ q) q → b0 ≤ q := fun q h => h.elim (fun z => absurd z id) (fun h => Nat.le_trans h0Z h)
  have hl : lv_has ls 4 [(0, .ref z0), (1, .int (nI i)), (2, .int (nI r9)), (3, .int (nI d9))] := hl
  obtain ⟨hz, hfl, hmc, hdg, hlf, ⟨fr, hg9, hfr⟩, hrr, -, -, -⟩ := id hM
  refine lv_aload_n hx hb dX4_writtenNow_0 rfl (lv_at hl 0 rfl) ?_
  refine lv_iload_n hx hb dX4_writtenNow_1 rfl (lv_at hl 1 rfl) ?_
  refine lv_iload_n hx hb dX4_writtenNow_2 rfl (lv_at hl 3 rfl) ?_
  refine lv_iconst (v := nI 2) hx hb dX4_writtenNow_3 (by decide) ?_
  refine lv_icmp_ge (tgt := 11) hx hb dX4_writtenNow_4 (by decide) (fun h1 => ?_) (fun h1 => ?_)
  · skip
    have n1 := le_n (by decide) h1
    refine lv_iconst (v := nI 0) hx hb dX4_writtenNow_11 (by decide) ?_
    refine tp_i (y := bI (decide (d9 < 2))) ((by rw [decide_eq_false (show ¬ d9 < 2 by omega)]; rfl)) ?_
    refine cn_V (As := [.int (nI i), .int (bI (decide (d9 < 2)))]) (rest := []) C0 hl hK hS hA (fun z h => absurd h (fun z => z)) (c_of l g s.heap z0 mc i (rr i) (V i) (decide (d9 < 2)) _ fr hz hmc hg9 (hfr i hi) hi (hrr i hi).1) gX4_writtenNow_X4_of rfl ⟨rfl, rfl⟩ ((va_recv hK.1 (p1 hz) (ci := 5) (q0 := 0) rfl rfl)) ⟨rfl, (show hd_ok yX4_of 2 from ⟨by decide, by decide, by decide +kernel⟩)⟩ ⟨Nat.le_of_ble_eq_true rfl, Nat.le_of_ble_eq_true rfl⟩ rfl (Nat.le_of_ble_eq_true rfl) ⟨by decide, by decide⟩ dX4_writtenNow_12 (fun r1 H2 locs hv hzz hk2 hS => ?_)
    obtain ⟨q1, rfl, hq1, g1⟩ := hv
    have g1 : va_at g.1 vwCl (q1, .inl (g.2 0, nP (decide (d9 < 2)), .inl (rw16 (V i % 65536 ^ nP (decide (d9 < 2)))))) H2 := g1
    refine lv_iload_n hx hb dX4_writtenNow_15 rfl (lv_at hl 2 rfl) ?_
    refine lv_iload_n hx hb dX4_writtenNow_16 rfl (lv_at hl 3 rfl) ?_
    refine lv_iconst (v := nI 2) hx hb dX4_writtenNow_17 (by decide) ?_
    refine lv_irem hx hb dX4_writtenNow_18 (by decide) ?_
    refine tp_i (y := nI (d9 % 2)) (pk_rem (by omega) (by omega) (by omega)) ?_
    refine lv_if_ne (tgt := 26) hx hb dX4_writtenNow_19 (by decide) (fun h5 => ?_) (fun h5 => ?_)
    · skip
      have e5 : d9 % 2 = 1 := by rcases Nat.mod_two_eq_zero_or_one d9 with e | e; exact absurd (by rw [e]; rfl) h5; exact e
      refine lv_iconst (v := nI 0) hx hb dX4_writtenNow_26 (by decide) ?_
      refine tp_i (y := bI (decide (d9 % 2 = 0))) ((by rw [e5]; rfl)) ?_
      refine jn_S (As := [.ref q1, .int (nI r9), .int (bI (decide (d9 % 2 = 0)))]) (rest := []) C0 hl hK hS hA (fun q h => absurd h id) (zat hZ hS hAb) (c_told l g b0 H2 q1 (nP (decide (d9 < 2))) r9 (V i % 65536 ^ nP (decide (d9 < 2))) (decide (d9 % 2 = 0)) (nP_or _) hr9 (Nat.mod_lt _ (Nat.pow_pos (by decide))) g1) gX4_writtenNow_X4_told rfl ⟨rfl, rfl⟩ (show hd_ok yX4_told 3 from ⟨by decide, by decide, by decide +kernel⟩) ⟨Nat.le_of_ble_eq_true rfl, Nat.le_of_ble_eq_true rfl⟩ rfl (Nat.le_of_ble_eq_true rfl) ⟨by decide, by decide⟩ dX4_writtenNow_27 (fun v H3 locs hv hzz hk3 hS => ?_)
      obtain ⟨q2, b2, k, t, rfl, hq2, hb2, hT, hs2⟩ := hv
      refine W.widen (k := 18) (n := 484) (by decide) (by decide) ?_
      exact rt_a (mu := (fun _ => False)) C0 (Or.inl ⟨_, rfl⟩) ⟨q2, b2, k, t, rfl, by omega, by omega, hT, hs2⟩ hS rfl dX4_writtenNow_30
    · skip
      have e5 : d9 % 2 = 0 := nI_inj (by omega) (by decide) h5
      refine lv_iconst (v := nI 1) hx hb dX4_writtenNow_22 (by decide) ?_
      refine lv_goto (tgt := 27) hx hb dX4_writtenNow_23 (by decide) ?_
      refine tp_i (y := bI (decide (d9 % 2 = 0))) ((by rw [decide_eq_true e5]; rfl)) ?_
      refine jn_S (As := [.ref q1, .int (nI r9), .int (bI (decide (d9 % 2 = 0)))]) (rest := []) C0 hl hK hS hA (fun q h => absurd h id) (zat hZ hS hAb) (c_told l g b0 H2 q1 (nP (decide (d9 < 2))) r9 (V i % 65536 ^ nP (decide (d9 < 2))) (decide (d9 % 2 = 0)) (nP_or _) hr9 (Nat.mod_lt _ (Nat.pow_pos (by decide))) g1) gX4_writtenNow_X4_told rfl ⟨rfl, rfl⟩ (show hd_ok yX4_told 3 from ⟨by decide, by decide, by decide +kernel⟩) ⟨Nat.le_of_ble_eq_true rfl, Nat.le_of_ble_eq_true rfl⟩ rfl (Nat.le_of_ble_eq_true rfl) ⟨by decide, by decide⟩ dX4_writtenNow_27 (fun v H3 locs hv hzz hk3 hS => ?_)
      obtain ⟨q2, b2, k, t, rfl, hq2, hb2, hT, hs2⟩ := hv
      refine W.widen (k := 18) (n := 484) (by decide) (by decide) ?_
      exact rt_a (mu := (fun _ => False)) C0 (Or.inl ⟨_, rfl⟩) ⟨q2, b2, k, t, rfl, by omega, by omega, hT, hs2⟩ hS rfl dX4_writtenNow_30
  · skip
    have n1 := nle_n (by omega) h1
    refine lv_iconst (v := nI 1) hx hb dX4_writtenNow_7 (by decide) ?_
    refine lv_goto (tgt := 12) hx hb dX4_writtenNow_8 (by decide) ?_
    refine tp_i (y := bI (decide (d9 < 2))) ((by rw [decide_eq_true n1]; rfl)) ?_
    refine cn_V (As := [.int (nI i), .int (bI (decide (d9 < 2)))]) (rest := []) C0 hl hK hS hA (fun z h => absurd h (fun z => z)) (c_of l g s.heap z0 mc i (rr i) (V i) (decide (d9 < 2)) _ fr hz hmc hg9 (hfr i hi) hi (hrr i hi).1) gX4_writtenNow_X4_of rfl ⟨rfl, rfl⟩ ((va_recv hK.1 (p1 hz) (ci := 5) (q0 := 0) rfl rfl)) ⟨rfl, (show hd_ok yX4_of 2 from ⟨by decide, by decide, by decide +kernel⟩)⟩ ⟨Nat.le_of_ble_eq_true rfl, Nat.le_of_ble_eq_true rfl⟩ rfl (Nat.le_of_ble_eq_true rfl) ⟨by decide, by decide⟩ dX4_writtenNow_12 (fun r1 H2 locs hv hzz hk2 hS => ?_)
    obtain ⟨q1, rfl, hq1, g1⟩ := hv
    have g1 : va_at g.1 vwCl (q1, .inl (g.2 0, nP (decide (d9 < 2)), .inl (rw16 (V i % 65536 ^ nP (decide (d9 < 2)))))) H2 := g1
    refine lv_iload_n hx hb dX4_writtenNow_15 rfl (lv_at hl 2 rfl) ?_
    refine lv_iload_n hx hb dX4_writtenNow_16 rfl (lv_at hl 3 rfl) ?_
    refine lv_iconst (v := nI 2) hx hb dX4_writtenNow_17 (by decide) ?_
    refine lv_irem hx hb dX4_writtenNow_18 (by decide) ?_
    refine tp_i (y := nI (d9 % 2)) (pk_rem (by omega) (by omega) (by omega)) ?_
    refine lv_if_ne (tgt := 26) hx hb dX4_writtenNow_19 (by decide) (fun h5 => ?_) (fun h5 => ?_)
    · skip
      have e5 : d9 % 2 = 1 := by rcases Nat.mod_two_eq_zero_or_one d9 with e | e; exact absurd (by rw [e]; rfl) h5; exact e
      refine lv_iconst (v := nI 0) hx hb dX4_writtenNow_26 (by decide) ?_
      refine tp_i (y := bI (decide (d9 % 2 = 0))) ((by rw [e5]; rfl)) ?_
      refine jn_S (As := [.ref q1, .int (nI r9), .int (bI (decide (d9 % 2 = 0)))]) (rest := []) C0 hl hK hS hA (fun q h => absurd h id) (zat hZ hS hAb) (c_told l g b0 H2 q1 (nP (decide (d9 < 2))) r9 (V i % 65536 ^ nP (decide (d9 < 2))) (decide (d9 % 2 = 0)) (nP_or _) hr9 (Nat.mod_lt _ (Nat.pow_pos (by decide))) g1) gX4_writtenNow_X4_told rfl ⟨rfl, rfl⟩ (show hd_ok yX4_told 3 from ⟨by decide, by decide, by decide +kernel⟩) ⟨Nat.le_of_ble_eq_true rfl, Nat.le_of_ble_eq_true rfl⟩ rfl (Nat.le_of_ble_eq_true rfl) ⟨by decide, by decide⟩ dX4_writtenNow_27 (fun v H3 locs hv hzz hk3 hS => ?_)
      obtain ⟨q2, b2, k, t, rfl, hq2, hb2, hT, hs2⟩ := hv
      refine W.widen (k := 18) (n := 484) (by decide) (by decide) ?_
      exact rt_a (mu := (fun _ => False)) C0 (Or.inl ⟨_, rfl⟩) ⟨q2, b2, k, t, rfl, by omega, by omega, hT, hs2⟩ hS rfl dX4_writtenNow_30
    · skip
      have e5 : d9 % 2 = 0 := nI_inj (by omega) (by decide) h5
      refine lv_iconst (v := nI 1) hx hb dX4_writtenNow_22 (by decide) ?_
      refine lv_goto (tgt := 27) hx hb dX4_writtenNow_23 (by decide) ?_
      refine tp_i (y := bI (decide (d9 % 2 = 0))) ((by rw [decide_eq_true e5]; rfl)) ?_
      refine jn_S (As := [.ref q1, .int (nI r9), .int (bI (decide (d9 % 2 = 0)))]) (rest := []) C0 hl hK hS hA (fun q h => absurd h id) (zat hZ hS hAb) (c_told l g b0 H2 q1 (nP (decide (d9 < 2))) r9 (V i % 65536 ^ nP (decide (d9 < 2))) (decide (d9 % 2 = 0)) (nP_or _) hr9 (Nat.mod_lt _ (Nat.pow_pos (by decide))) g1) gX4_writtenNow_X4_told rfl ⟨rfl, rfl⟩ (show hd_ok yX4_told 3 from ⟨by decide, by decide, by decide +kernel⟩) ⟨Nat.le_of_ble_eq_true rfl, Nat.le_of_ble_eq_true rfl⟩ rfl (Nat.le_of_ble_eq_true rfl) ⟨by decide, by decide⟩ dX4_writtenNow_27 (fun v H3 locs hv hzz hk3 hS => ?_)
      obtain ⟨q2, b2, k, t, rfl, hq2, hb2, hT, hs2⟩ := hv
      refine W.widen (k := 18) (n := 484) (by decide) (by decide) ?_
      exact rt_a (mu := (fun _ => False)) C0 (Or.inl ⟨_, rfl⟩) ⟨q2, b2, k, t, rfl, by omega, by omega, hT, hs2⟩ hS rfl dX4_writtenNow_30
end M51

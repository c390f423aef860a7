-- THE MODEL WITH ITS TEXT: erase, clear, writes, write, bits
/-- addresses of a text: a constant's, or new ones -/
theorem zM_not {g : Gx} {H : Heap} {z0 mc lf dg b0 q : Nat} {fs : List Value} {rr V : Nat → Nat} (hM : MD g H z0 mc lf dg fs rr V) (hmb : ∀ q : Nat, zM z0 mc lf dg q → b0 ≤ q) (h : q < b0 ∨ H.size ≤ q) : ¬ zM z0 mc lf dg q := by
  intro z
  rcases h with h | h
  · have := hmb q z
    omega
  · obtain ⟨y0, -, -, -, -, ⟨fr6, y1, -⟩, -, ⟨f6, y2⟩, ⟨d6, y3⟩, -⟩ := hM
    have y0 := y0.lt
    have y1 := y1.lt
    have y2 := y2.lt
    have y3 := y3.lt
    dsimp only at y0 y1 y2 y3
    rcases z with e | e | e | e <;> omega
section M53
variable {p : Program} {l : Launch} {e : Env} {s : State} {m : MethodId} {args : Array Value} {below : List Frame} {meth : Method} {c : Code} {H H0 : Heap} {locs : List Loc} {cells slots : Nat} {Q : State → Prop} {A : Nat → Prop} {g : Gx} {b0 : Nat}
abbrev rmX4_erase : Room := { frames := 5, cells := 2, slots := 74, locals := 152 }
set_option maxHeartbeats 4000000 in
set_option maxRecDepth 100000 in
/-- erase() -/
theorem c_erase (l : Launch) (g : Gx) (b0 : Nat) (H0 : Heap) (z0 mc lf dg : Nat) (fs : List Value) (rr V : Nat → Nat) (a b n : Nat) (t : Nat → Nat) (hT : MT g H0 z0 mc lf dg fs rr V a b n t) (hmb : ∀ q : Nat, zM z0 mc lf dg q → b0 ≤ q) : Met l yX4_erase wsX4_erase rmX4_erase (va_Pc [.ref z0] (hJ g b0 H0)) (nQ H0 (zM z0 mc lf dg) (zT g z0 mc lf dg (fun r V2 n2 t2 => V2 = V ∧ ((0 < n ∧ r = some (.int (nI (n - 1))) ∧ n2 = n - 1 ∧ t2 = t) ∨ (n = 0 ∧ n2 = n ∧ t2 = t ∧ r = some (.int (nI 0))))))) 2 74 (fun q => (zM z0 mc lf dg) q ∨ H0.size ≤ q) := by
  refine cx_met (own := RX4) (cc := cX4_erase) (maxL := 1) (by decide) rfl rfl (Nat.le_of_ble_eq_true rfl) ?_
  intro p e s m below meth c ls C0 hB0 hnm hl
  obtain ⟨hH, hK, hZ⟩ := hB0
  obtain ⟨hx, hb, hr, hml, hown, hts, hlk⟩ := id C0
  subst hH
  have hS : va_S (fun q => (zM z0 mc lf dg) q ∨ s.heap.size ≤ q) s.heap s.heap [] := va_S.rf
  have hA : ∀ q : Nat, s.heap.size ≤ q → (fun q => (zM z0 mc lf dg) q ∨ s.heap.size ≤ q) q := fun q h => Or.inr h
  have h0Z := hZ.1
  have hAb : ∀ q : Nat, (fun q => (zM z0 mc lf dg) q ∨ s.heap.size ≤ q) q → b0 ≤ q := fun q h => h.elim (hmb q) (fun h => Nat.le_trans h0Z h)
  have hl : lv_has ls 1 [(0, .ref z0)] := hl
  obtain ⟨hM, hFT, htx, hs, hna, hnb, hn70, ht128⟩ := id hT
  obtain ⟨hz, hfl, -⟩ := id hM
  refine lv_aload_n hx hb dX4_erase_0 rfl (lv_at hl 0 rfl) ?_
  refine lv_iconst (v := nI 0) hx hb dX4_erase_1 (by decide) ?_
  refine w_putf (ci := 5) (C := RX4) (T := TX4) (N := 10) (ty := .int) hx hb hts (by decide +kernel) tyX4 tyX4_ok nmX4 hown hK hS hz (Or.inl (Or.inl rfl)) rfl 0 (by decide) (hts (.fieldLink RX4 27 "RadixbenchModel" "thrown" "I") (by decide +kernel)) (fun _ h9 => h9) rfl (by decide +kernel) rfl rfl (by rw [hfl]; decide) dX4_erase_2 (fun H1 locs hz1 hs1 ho1 hS => ?_)
  have hM1 := hM.fset (by decide) (by decide) (by decide) ho1 hz1
  obtain ⟨-, hfl1, hmc, hdg, hlf, ⟨fr, hg9, hfr⟩, hrr, -, -, -⟩ := id hM1
  have htx1 : (fs.set 0 (.int (nI 0)))[2]? = some (.ref a) := by rw [List.getElem?_set_ne (by decide)]; exact htx
  have hs1 := hs.kept (ho1 _ (fun z => hna (Or.inl z))) (ho1 _ (fun z => hnb (Or.inl z)))
  have hFT1 : FT (fs.set 0 (.int (nI 0))) := hFT.i (by decide)
  refine lv_aload_n hx hb dX4_erase_5 rfl (lv_at hl 0 rfl) ?_
  refine va_get (ci := 5) (C := RX4) (T := TX4) (N := 10) (v := .ref a) hx hb hts (by decide +kernel) hown hK.1 (p1 hz1) 0 rfl rfl 2 (by decide) (hts (.fieldLink RX4 16 "RadixbenchModel" "text" "Ljava/lang/String;") (by decide +kernel)) (fun _ h9 => h9) htx1 dX4_erase_6 ?_
  refine jp_V (As := []) (rest := []) C0 hl hK hS hA (zat hZ hS hAb) (c_sEmpty l g b0 H1 a b n t hs1 (by omega)) gX4_erase_J0_isEmpty_aae02 rfl ⟨rfl, rfl⟩ (j_srecv hK hs1) ⟨rfl, (show hd_ok yJ0_isEmpty_aae02 0 from ⟨by decide, by decide, by decide +kernel⟩)⟩ ⟨Nat.le_of_ble_eq_true rfl, Nat.le_of_ble_eq_true rfl⟩ rfl (Nat.le_of_ble_eq_true rfl) ⟨by decide, by decide⟩ dX4_erase_9 (fun locs hS => ?_)
  refine lv_if_eq (tgt := 21) hx hb dX4_erase_12 (by decide) (fun h1 => ?_) (fun h1 => ?_)
  · skip
    have hn0 : 0 < n := Nat.pos_of_ne_zero (of_decide_eq_false (bI_0 h1))
    refine lv_aload_n hx hb dX4_erase_21 rfl (lv_at hl 0 rfl) ?_
    refine lv_aload_n hx hb dX4_erase_22 rfl (lv_at hl 0 rfl) ?_
    refine va_get (ci := 5) (C := RX4) (T := TX4) (N := 10) (v := .ref a) hx hb hts (by decide +kernel) hown hK.1 (p1 hz1) 0 rfl rfl 2 (by decide) (hts (.fieldLink RX4 16 "RadixbenchModel" "text" "Ljava/lang/String;") (by decide +kernel)) (fun _ h9 => h9) htx1 dX4_erase_23 ?_
    refine lv_iconst (v := nI 0) hx hb dX4_erase_26 (by decide) ?_
    refine lv_aload_n hx hb dX4_erase_27 rfl (lv_at hl 0 rfl) ?_
    refine va_get (ci := 5) (C := RX4) (T := TX4) (N := 10) (v := .ref a) hx hb hts (by decide +kernel) hown hK.1 (p1 hz1) 0 rfl rfl 2 (by decide) (hts (.fieldLink RX4 16 "RadixbenchModel" "text" "Ljava/lang/String;") (by decide +kernel)) (fun _ h9 => h9) htx1 dX4_erase_28 ?_
    refine jp_V (As := []) (rest := [.int (nI 0), .ref a, .ref z0]) C0 hl hK hS hA (zat hZ hS hAb) (c_sLen l g b0 H1 a b n t hs1) gX4_erase_J0_length_8abf5 rfl ⟨rfl, rfl⟩ (j_srecv hK hs1) ⟨rfl, (show hd_ok yJ0_length_8abf5 0 from ⟨by decide, by decide, by decide +kernel⟩)⟩ ⟨Nat.le_of_ble_eq_true rfl, Nat.le_of_ble_eq_true rfl⟩ rfl (Nat.le_of_ble_eq_true rfl) ⟨by decide, by decide⟩ dX4_erase_31 (fun locs hS => ?_)
    refine lv_iconst (v := nI 1) hx hb dX4_erase_34 (by decide) ?_
    refine lv_isub hx hb dX4_erase_35 ?_
    refine tp_i (y := nI (n - 1)) (pk_sub (by omega)) ?_
    refine jn_V (As := [.int (nI 0), .int (nI (n - 1))]) (rest := [.ref z0]) C0 hl hK hS hA (fun q h => absurd h id) (zat hZ hS hAb) (c_substr l g b0 H1 a b n (n - 1) t hs1 (by omega) (by omega) ht128) gX4_erase_J0_substring_37a41 rfl ⟨rfl, rfl⟩ (j_srecv hK hs1) ⟨rfl, (show hd_ok yJ0_substring_37a41 2 from ⟨by decide, by decide, by decide +kernel⟩)⟩ ⟨Nat.le_of_ble_eq_true rfl, Nat.le_of_ble_eq_true rfl⟩ rfl (Nat.le_of_ble_eq_true rfl) ⟨by show 0 + 2 ≤ 2; omega, by show 0 + (4 + (n - 1)) ≤ 74; omega⟩ dX4_erase_36 (fun v H2 locs hv hzz hk2 hS => ?_)
    obtain ⟨q6, b6, rfl, hq6, hb6, hs6⟩ := hv
    have hM2 := hM1.same (fun q h => hk2 q h (fun z => z))
    obtain ⟨hz2, hfl2, -⟩ := id hM2
    have lm1 := zM_not hM1 hmb hq6
    have lm2 := zM_not hM1 hmb hb6
    refine W.widen (k := 2) (n := 74) (by omega) (by omega) ?_
    refine w_putf (ci := 5) (C := RX4) (T := TX4) (N := 10) (ty := (.object "java/lang/String")) hx hb hts (by decide +kernel) tyX4 tyX4_ok nmX4 hown hK hS hz2 (Or.inl (Or.inl rfl)) rfl 2 (by decide) (hts (.fieldLink RX4 16 "RadixbenchModel" "text" "Ljava/lang/String;") (by decide +kernel)) (fun _ h9 => h9) rfl (by decide +kernel) rfl rfl (by rw [hfl2]; decide) dX4_erase_39 (fun H7 locs hz7 hs7 ho7 hS => ?_)
    have htx7 : ((fs.set 0 (.int (nI 0))).set 2 (.ref q6))[2]? = some (.ref q6) := by rw [List.getElem?_set_self (by rw [hfl2]; decide)]
    have hs7 := hs6.kept (ho7 _ (fun z => lm1 (Or.inl z))) (ho7 _ (fun z => lm2 (Or.inl z)))
    refine lv_aload_n hx hb dX4_erase_42 rfl (lv_at hl 0 rfl) ?_
    refine va_get (ci := 5) (C := RX4) (T := TX4) (N := 10) (v := .ref q6) hx hb hts (by decide +kernel) hown hK.1 (p1 hz7) 0 rfl rfl 2 (by decide) (hts (.fieldLink RX4 16 "RadixbenchModel" "text" "Ljava/lang/String;") (by decide +kernel)) (fun _ h9 => h9) htx7 dX4_erase_43 ?_
    refine jp_V (As := []) (rest := []) C0 hl hK hS hA (zat hZ hS hAb) (c_sLen l g b0 H7 q6 b6 (n - 1) _ hs7) gX4_erase_J0_length_8abf5 rfl ⟨rfl, rfl⟩ (j_srecv hK hs7) ⟨rfl, (show hd_ok yJ0_length_8abf5 0 from ⟨by decide, by decide, by decide +kernel⟩)⟩ ⟨Nat.le_of_ble_eq_true rfl, Nat.le_of_ble_eq_true rfl⟩ rfl (Nat.le_of_ble_eq_true rfl) ⟨by decide, by decide⟩ dX4_erase_46 (fun locs hS => ?_)
    exact rt_ni (mu := zM z0 mc lf dg) C0 rfl ⟨_, _, _, q6, b6, n - 1, _, ⟨rfl, Or.inl ⟨hn0, rfl, rfl, rfl⟩⟩, hM2.fset (by decide) (by decide) (by decide) ho7 hz7, hFT1.t, htx7, hs7, lm1, lm2, by omega, fun j hj => ht128 j (by omega)⟩ hS rfl dX4_erase_49
  · skip
    have hn0 := of_decide_eq_true (bI_n0 h1)
    refine lv_aload_n hx hb dX4_erase_15 rfl (lv_at hl 0 rfl) ?_
    refine lv_iconst (v := nI 1) hx hb dX4_erase_16 (by decide) ?_
    refine cn_V (As := [.int (nI 1)]) (rest := []) C0 hl hK hS hA (fun z h => Or.inl h) (c_refuse l g H1 z0 mc lf dg _ rr V hM1 (nI 1)) gX4_erase_X4_refuse rfl ⟨rfl, rfl⟩ ((va_recv hK.1 (p1 hz1) (ci := 5) (q0 := 0) rfl rfl)) ⟨rfl, (show hd_ok yX4_refuse 1 from ⟨by decide, by decide, by decide +kernel⟩)⟩ ⟨Nat.le_of_ble_eq_true rfl, Nat.le_of_ble_eq_true rfl⟩ rfl (Nat.le_of_ble_eq_true rfl) ⟨by decide, by decide⟩ dX4_erase_17 (fun r1 H2 locs hv hzz hk2 hS => ?_)
    obtain ⟨fs2, rr2, V2, ⟨rfl, rfl, rfl⟩, hM2⟩ := hv
    refine W.widen (k := 2) (n := 74) (by decide) (by decide) ?_
    exact rt_ni (mu := zM z0 mc lf dg) C0 rfl ⟨_, _, _, a, b, n, t, ⟨rfl, Or.inr ⟨hn0, rfl, rfl, rfl⟩⟩, hM2, hFT1.i (by decide), by rw [List.getElem?_set_ne (by decide)]; exact htx1, hs1.kept (hk2 _ hs1.lt hna) (hk2 _ hs1.2.lt hnb), hna, hnb, hn70, ht128⟩ hS rfl dX4_erase_20
abbrev rmX4_clear : Room := { frames := 2, cells := 0, slots := 0, locals := 40 }
set_option maxHeartbeats 4000000 in
set_option maxRecDepth 100000 in
/-- clear() -/
theorem c_clear (l : Launch) (g : Gx) (b0 : Nat) (H0 : Heap) (z0 mc lf dg : Nat) (fs : List Value) (rr V : Nat → Nat) (a b n : Nat) (t : Nat → Nat) (hT : MT g H0 z0 mc lf dg fs rr V a b n t) (hmb : ∀ q : Nat, zM z0 mc lf dg q → b0 ≤ q) : Met l yX4_clear wsX4_clear rmX4_clear (va_Pc [.ref z0] (hJ g b0 H0)) (nQ H0 (zM z0 mc lf dg) (zT g z0 mc lf dg (fun r V2 n2 t2 => V2 = V ∧ r = some (.int (nI n)) ∧ n2 = 0))) 0 0 (fun q => (zM z0 mc lf dg) q ∨ H0.size ≤ q) := by
  refine cx_met (own := RX4) (cc := cX4_clear) (maxL := 2) (by decide) rfl rfl (Nat.le_of_ble_eq_true rfl) ?_
  intro p e s m below meth c ls C0 hB0 hnm hl
  obtain ⟨hH, hK, hZ⟩ := hB0
  obtain ⟨hx, hb, hr, hml, hown, hts, hlk⟩ := id C0
  subst hH
  have hS : va_S (fun q => (zM z0 mc lf dg) q ∨ s.heap.size ≤ q) s.heap s.heap [] := va_S.rf
  have hA : ∀ q : Nat, s.heap.size ≤ q → (fun q => (zM z0 mc lf dg) q ∨ s.heap.size ≤ q) q := fun q h => Or.inr h
  have h0Z := hZ.1
  have hAb : ∀ q : Nat, (fun q => (zM z0 mc lf dg) q ∨ s.heap.size ≤ q) q → b0 ≤ q := fun q h => h.elim (hmb q) (fun h => Nat.le_trans h0Z h)
  have hl : lv_has ls 2 [(0, .ref z0)] := hl
  obtain ⟨hM, hFT, htx, hs, hna, hnb, hn70, ht128⟩ := id hT
  obtain ⟨hz, hfl, -⟩ := id hM
  refine lv_aload_n hx hb dX4_clear_0 rfl (lv_at hl 0 rfl) ?_
  refine lv_iconst (v := nI 0) hx hb dX4_clear_1 (by decide) ?_
  refine w_putf (ci := 5) (C := RX4) (T := TX4) (N := 10) (ty := .int) hx hb hts (by decide +kernel) tyX4 tyX4_ok nmX4 hown hK hS hz (Or.inl (Or.inl rfl)) rfl 0 (by decide) (hts (.fieldLink RX4 27 "RadixbenchModel" "thrown" "I") (by decide +kernel)) (fun _ h9 => h9) rfl (by decide +kernel) rfl rfl (by rw [hfl]; decide) dX4_clear_2 (fun H1 locs hz1 hs1 ho1 hS => ?_)
  have hM1 := hM.fset (by decide) (by decide) (by decide) ho1 hz1
  obtain ⟨-, hfl1, hmc, hdg, hlf, ⟨fr, hg9, hfr⟩, hrr, -, -, -⟩ := id hM1
  have htx1 : (fs.set 0 (.int (nI 0)))[2]? = some (.ref a) := by rw [List.getElem?_set_ne (by decide)]; exact htx
  have hs1 := hs.kept (ho1 _ (fun z => hna (Or.inl z))) (ho1 _ (fun z => hnb (Or.inl z)))
  have hFT1 : FT (fs.set 0 (.int (nI 0))) := hFT.i (by decide)
  refine lv_aload_n hx hb dX4_clear_5 rfl (lv_at hl 0 rfl) ?_
  refine va_get (ci := 5) (C := RX4) (T := TX4) (N := 10) (v := .ref a) hx hb hts (by decide +kernel) hown hK.1 (p1 hz1) 0 rfl rfl 2 (by decide) (hts (.fieldLink RX4 16 "RadixbenchModel" "text" "Ljava/lang/String;") (by decide +kernel)) (fun _ h9 => h9) htx1 dX4_clear_6 ?_
  refine jp_V (As := []) (rest := []) C0 hl hK hS hA (zat hZ hS hAb) (c_sLen l g b0 H1 a b n t hs1) gX4_clear_J0_length_8abf5 rfl ⟨rfl, rfl⟩ (j_srecv hK hs1) ⟨rfl, (show hd_ok yJ0_length_8abf5 0 from ⟨by decide, by decide, by decide +kernel⟩)⟩ ⟨Nat.le_of_ble_eq_true rfl, Nat.le_of_ble_eq_true rfl⟩ rfl (Nat.le_of_ble_eq_true rfl) ⟨by decide, by decide⟩ dX4_clear_9 (fun locs hS => ?_)
  refine lv_istore_n (lv' := [(1, .int (nI n)), (0, .ref z0)]) hx hb dX4_clear_12 rfl hl (by decide) rfl (fun ls hl => ?_)
  refine lv_aload_n hx hb dX4_clear_13 rfl (lv_at hl 1 rfl) ?_
  obtain ⟨-, -, -, -, -, -, ad, hR, ⟨b6, hb6, hq6, hs6⟩, -, -⟩ := zat hZ hS hAb
  have lm1 := zM_not hM1 hmb (Or.inl hq6)
  have lm2 := zM_not hM1 hmb (Or.inl hb6)
  refine va_ldcS (tx := "") hx hb hown (hR 0 _ rfl) dX4_clear_14 ?_
  refine w_putf (ci := 5) (C := RX4) (T := TX4) (N := 10) (ty := (.object "java/lang/String")) hx hb hts (by decide +kernel) tyX4 tyX4_ok nmX4 hown hK hS hz1 (Or.inl (Or.inl rfl)) rfl 2 (by decide) (hts (.fieldLink RX4 16 "RadixbenchModel" "text" "Ljava/lang/String;") (by decide +kernel)) (fun _ h9 => h9) rfl (by decide +kernel) rfl rfl (by rw [hfl1]; decide) dX4_clear_16 (fun H7 locs hz7 hs7 ho7 hS => ?_)
  refine lv_iload_n hx hb dX4_clear_19 rfl (lv_at hl 0 rfl) ?_
  have htx7 : ((fs.set 0 (.int (nI 0))).set 2 (.ref (ad 0)))[2]? = some (.ref (ad 0)) := by rw [List.getElem?_set_self (by rw [hfl1]; decide)]
  have hs7 := hs6.kept (ho7 _ (fun z => lm1 (Or.inl z))) (ho7 _ (fun z => lm2 (Or.inl z)))
  exact rt_ni (mu := zM z0 mc lf dg) C0 rfl ⟨_, _, _, ad 0, b6, 0, _, ⟨rfl, rfl, rfl⟩, hM1.fset (by decide) (by decide) (by decide) ho7 hz7, hFT1.t, htx7, hs7, lm1, lm2, by decide, fun j hj => absurd hj (Nat.not_lt_zero _)⟩ hS rfl dX4_clear_20
abbrev rmX4_writes : Room := { frames := 2, cells := 0, slots := 0, locals := 40 }
set_option maxHeartbeats 4000000 in
set_option maxRecDepth 100000 in
/-- writes(made) -/
theorem c_writes (l : Launch) (g : Gx) (b0 : Nat) (H0 : Heap) (z0 mc lf dg : Nat) (fs : List Value) (rr V : Nat → Nat) (a b n : Nat) (t : Nat → Nat) (hT : MT g H0 z0 mc lf dg fs rr V a b n t) (hmb : ∀ q : Nat, zM z0 mc lf dg q → b0 ≤ q) (q6 b6 k : Nat) (u : Nat → Nat) (hu : sS g q6 b6 k u H0) (hn6 : ¬ zM z0 mc lf dg q6) (hn7 : ¬ zM z0 mc lf dg b6) (hk70 : k ≤ 70) (hu9 : ∀ j, j < k → u j < 128) : Met l yX4_writes wsX4_writes rmX4_writes (va_Pc [.ref z0, .ref q6] (hJ g b0 H0)) (nQ H0 (zM z0 mc lf dg) (zT g z0 mc lf dg (fun r V2 n2 t2 => V2 = V ∧ r = some (.int (nI k)) ∧ n2 = k ∧ t2 = u))) 0 0 (fun q => (zM z0 mc lf dg) q ∨ H0.size ≤ q) := by
  refine cx_met (own := RX4) (cc := cX4_writes) (maxL := 2) (by decide) rfl rfl (Nat.le_of_ble_eq_true rfl) ?_
  intro p e s m below meth c ls C0 hB0 hnm hl
  obtain ⟨hH, hK, hZ⟩ := hB0
  obtain ⟨hx, hb, hr, hml, hown, hts, hlk⟩ := id C0
  subst hH
  have hS : va_S (fun q => (zM z0 mc lf dg) q ∨ s.heap.size ≤ q) s.heap s.heap [] := va_S.rf
  have hA : ∀ q : Nat, s.heap.size ≤ q → (fun q => (zM z0 mc lf dg) q ∨ s.heap.size ≤ q) q := fun q h => Or.inr h
  have h0Z := hZ.1
  have hAb : ∀ q : Nat, (fun q => (zM z0 mc lf dg) q ∨ s.heap.size ≤ q) q → b0 ≤ q := fun q h => h.elim (hmb q) (fun h => Nat.le_trans h0Z h)
  have hl : lv_has ls 2 [(0, .ref z0), (1, .ref q6)] := hl
  obtain ⟨hM, hFT, htx, hs, hna, hnb, hn70, ht128⟩ := id hT
  obtain ⟨hz, hfl, -⟩ := id hM
  obtain ⟨x5, h5⟩ := hFT.2.2.2.1
  refine lv_aload_n hx hb dX4_writes_0 rfl (lv_at hl 0 rfl) ?_
  refine lv_dup hx hb dX4_writes_1 rfl ?_
  refine va_get (ci := 5) (C := RX4) (T := TX4) (N := 10) (v := .int x5) hx hb hts (by decide +kernel) hown hK.1 (p1 hz) 0 rfl rfl 5 (by decide) (hts (.fieldLink RX4 186 "RadixbenchModel" "writes" "I") (by decide +kernel)) (fun _ h9 => h9) h5 dX4_writes_2 ?_
  refine lv_iconst (v := nI 1) hx hb dX4_writes_5 (by decide) ?_
  refine lv_iadd hx hb dX4_writes_6 ?_
  refine w_putf (ci := 5) (C := RX4) (T := TX4) (N := 10) (ty := .int) hx hb hts (by decide +kernel) tyX4 tyX4_ok nmX4 hown hK hS hz (Or.inl (Or.inl rfl)) rfl 5 (by decide) (hts (.fieldLink RX4 186 "RadixbenchModel" "writes" "I") (by decide +kernel)) (fun _ h9 => h9) rfl (by decide +kernel) rfl rfl (by rw [hfl]; decide) dX4_writes_7 (fun H1 locs hz1 hs1 ho1 hS => ?_)
  have hM1 := hM.fset (by decide) (by decide) (by decide) ho1 hz1
  obtain ⟨-, hfl1, -⟩ := id hM1
  refine lv_aload_n hx hb dX4_writes_10 rfl (lv_at hl 0 rfl) ?_
  refine lv_aload_n hx hb dX4_writes_11 rfl (lv_at hl 1 rfl) ?_
  refine w_putf (ci := 5) (C := RX4) (T := TX4) (N := 10) (ty := (.object "java/lang/String")) hx hb hts (by decide +kernel) tyX4 tyX4_ok nmX4 hown hK hS hz1 (Or.inl (Or.inl rfl)) rfl 2 (by decide) (hts (.fieldLink RX4 16 "RadixbenchModel" "text" "Ljava/lang/String;") (by decide +kernel)) (fun _ h9 => h9) rfl (by decide +kernel) rfl rfl (by rw [hfl1]; decide) dX4_writes_12 (fun H2 locs hz2 hs2 ho2 hS => ?_)
  have htx7 : ((fs.set 5 (.int (x5 + nI 1))).set 2 (.ref q6))[2]? = some (.ref q6) := by rw [List.getElem?_set_self (by rw [hfl1]; decide)]
  have hs7 := (hu.kept (ho1 _ (fun z => hn6 (Or.inl z))) (ho1 _ (fun z => hn7 (Or.inl z)))).kept (ho2 _ (fun z => hn6 (Or.inl z))) (ho2 _ (fun z => hn7 (Or.inl z)))
  refine lv_aload_n hx hb dX4_writes_15 rfl (lv_at hl 0 rfl) ?_
  refine va_get (ci := 5) (C := RX4) (T := TX4) (N := 10) (v := .ref q6) hx hb hts (by decide +kernel) hown hK.1 (p1 hz2) 0 rfl rfl 2 (by decide) (hts (.fieldLink RX4 16 "RadixbenchModel" "text" "Ljava/lang/String;") (by decide +kernel)) (fun _ h9 => h9) htx7 dX4_writes_16 ?_
  refine jp_V (As := []) (rest := []) C0 hl hK hS hA (zat hZ hS hAb) (c_sLen l g b0 H2 q6 b6 k u hs7) gX4_writes_J0_length_8abf5 rfl ⟨rfl, rfl⟩ (j_srecv hK hs7) ⟨rfl, (show hd_ok yJ0_length_8abf5 0 from ⟨by decide, by decide, by decide +kernel⟩)⟩ ⟨Nat.le_of_ble_eq_true rfl, Nat.le_of_ble_eq_true rfl⟩ rfl (Nat.le_of_ble_eq_true rfl) ⟨Nat.zero_le _, Nat.zero_le _⟩ dX4_writes_19 (fun locs hS => ?_)
  exact rt_ni (mu := zM z0 mc lf dg) C0 rfl ⟨_, _, _, q6, b6, k, u, ⟨rfl, rfl, rfl, rfl⟩, hM1.fset (by decide) (by decide) (by decide) ho2 hz2, (hFT.i (by decide)).t, htx7, hs7, hn6, hn7, hk70, hu9⟩ hS rfl dX4_writes_22
abbrev rmX4_write : Room := { frames := 9, cells := 18, slots := 484, locals := 242 }
set_option maxHeartbeats 4000000 in
set_option maxRecDepth 100000 in
/-- write(cell, radix, kind) -/
theorem c_write (l : Launch) (g : Gx) (b0 : Nat) (H0 : Heap) (z0 mc lf dg : Nat) (fs : List Value) (rr V : Nat → Nat) (a b n : Nat) (t : Nat → Nat) (hT : MT g H0 z0 mc lf dg fs rr V a b n t) (hmb : ∀ q : Nat, zM z0 mc lf dg q → b0 ≤ q) (x y kd : Int32) : Met l yX4_write wsX4_write rmX4_write (va_Pc [.ref z0, .int x, .int y, .int kd] (hJ g b0 H0)) (nQ H0 (zM z0 mc lf dg) (zT g z0 mc lf dg (fun r V2 n2 t2 => (∃ rv : Int32, r = some (.int rv)) ∧ V2 = V ∧ ((∃ i r9 d9 : Nat, i < 8 ∧ (2 ≤ r9 ∧ r9 ≤ 36) ∧ d9 < 4 ∧ x = nI i ∧ y = nI r9 ∧ kd = nI d9 ∧ isT r9 (nP (decide (d9 < 2))) (V i % 65536 ^ nP (decide (d9 < 2))) (decide (d9 % 2 = 0)) n2 t2) ∨ (¬ (isC x ∧ ((nI 2 ≤ y ∧ y ≤ nI 36) ∧ nI 0 ≤ kd ∧ kd ≤ nI 3)) ∧ n2 = n ∧ t2 = t))))) 18 484 (fun q => (zM z0 mc lf dg) q ∨ H0.size ≤ q) := by
  refine cx_met (own := RX4) (cc := cX4_write) (maxL := 4) (by decide) rfl rfl (Nat.le_of_ble_eq_true rfl) ?_
  intro p e s m below meth c ls C0 hB0 hnm hl
  obtain ⟨hH, hK, hZ⟩ := hB0
  obtain ⟨hx, hb, hr, hml, hown, hts, hlk⟩ := id C0
  subst hH
  have hS : va_S (fun q => (zM z0 mc lf dg) q ∨ s.heap.size ≤ q) s.heap s.heap [] := va_S.rf
  have hA : ∀ q : Nat, s.heap.size ≤ q → (fun q => (zM z0 mc lf dg) q ∨ s.heap.size ≤ q) q := fun q h => Or.inr h
  have h0Z := hZ.1
  have hAb : ∀ q : Nat, (fun q => (zM z0 mc lf dg) q ∨ s.heap.size ≤ q) q → b0 ≤ q := fun q h => h.elim (hmb q) (fun h => Nat.le_trans h0Z h)
  have hl : lv_has ls 4 [(0, .ref z0), (1, .int x), (2, .int y), (3, .int kd)] := hl
  obtain ⟨hM, hFT, htx, hs, hna, hnb, hn70, ht128⟩ := id hT
  obtain ⟨hz, hfl, -⟩ := id hM
  refine lv_aload_n hx hb dX4_write_0 rfl (lv_at hl 0 rfl) ?_
  refine lv_iconst (v := nI 0) hx hb dX4_write_1 (by decide) ?_
  refine w_putf (ci := 5) (C := RX4) (T := TX4) (N := 10) (ty := .int) hx hb hts (by decide +kernel) tyX4 tyX4_ok nmX4 hown hK hS hz (Or.inl (Or.inl rfl)) rfl 0 (by decide) (hts (.fieldLink RX4 27 "RadixbenchModel" "thrown" "I") (by decide +kernel)) (fun _ h9 => h9) rfl (by decide +kernel) rfl rfl (by rw [hfl]; decide) dX4_write_2 (fun H1 locs hz1 hs1 ho1 hS => ?_)
  have hM1 := hM.fset (by decide) (by decide) (by decide) ho1 hz1
  obtain ⟨-, hfl1, hmc, hdg, hlf, ⟨fr, hg9, hfr⟩, hrr, -, -, -⟩ := id hM1
  have htx1 : (fs.set 0 (.int (nI 0)))[2]? = some (.ref a) := by rw [List.getElem?_set_ne (by decide)]; exact htx
  have hs1 := hs.kept (ho1 _ (fun z => hna (Or.inl z))) (ho1 _ (fun z => hnb (Or.inl z)))
  have hFT1 : FT (fs.set 0 (.int (nI 0))) := hFT.i (by decide)
  refine lv_iload_n hx hb dX4_write_5 rfl (lv_at hl 1 rfl) ?_
  refine cp_S (As := [.int x]) (rest := []) C0 hl hK hS hA (c_isCell l g H1 x) gX4_write_X4_isCell rfl ⟨rfl, rfl⟩ (show hd_ok yX4_isCell 1 from ⟨by decide, by decide, by decide +kernel⟩) ⟨Nat.le_of_ble_eq_true rfl, Nat.le_of_ble_eq_true rfl⟩ rfl (Nat.le_of_ble_eq_true rfl) ⟨by decide, by decide⟩ dX4_write_6 (fun locs hS => ?_)
  refine lv_if_ne (tgt := 18) hx hb dX4_write_9 (by decide) (fun h1 => ?_) (fun h1 => ?_)
  · skip
    obtain ⟨i, hi, rfl⟩ := cell_of (of_decide_eq_true (bI_n0 h1))
    refine lv_iload_n hx hb dX4_write_18 rfl (lv_at hl 2 rfl) ?_
    refine lv_iload_n hx hb dX4_write_19 rfl (lv_at hl 3 rfl) ?_
    refine cp_S (As := [.int y, .int kd]) (rest := []) C0 hl hK hS hA (c_isRight l g H1 y kd) gX4_write_X4_isRight rfl ⟨rfl, rfl⟩ (show hd_ok yX4_isRight 2 from ⟨by decide, by decide, by decide +kernel⟩) ⟨Nat.le_of_ble_eq_true rfl, Nat.le_of_ble_eq_true rfl⟩ rfl (Nat.le_of_ble_eq_true rfl) ⟨by decide, by decide⟩ dX4_write_20 (fun locs hS => ?_)
    refine lv_if_eq (tgt := 40) hx hb dX4_write_23 (by decide) (fun h2 => ?_) (fun h2 => ?_)
    · skip
      have h3 := of_decide_eq_false (bI_0 h2)
      refine lv_aload_n hx hb dX4_write_40 rfl (lv_at hl 0 rfl) ?_
      refine lv_iconst (v := nI 2) hx hb dX4_write_41 (by decide) ?_
      refine cn_V (As := [.int (nI 2)]) (rest := []) C0 hl hK hS hA (fun z h => Or.inl h) (c_refuse l g H1 z0 mc lf dg _ rr V hM1 (nI 2)) gX4_write_X4_refuse rfl ⟨rfl, rfl⟩ ((va_recv hK.1 (p1 hz1) (ci := 5) (q0 := 0) rfl rfl)) ⟨rfl, (show hd_ok yX4_refuse 1 from ⟨by decide, by decide, by decide +kernel⟩)⟩ ⟨Nat.le_of_ble_eq_true rfl, Nat.le_of_ble_eq_true rfl⟩ rfl (Nat.le_of_ble_eq_true rfl) ⟨by decide, by decide⟩ dX4_write_42 (fun r1 H2 locs hv hzz hk2 hS => ?_)
      obtain ⟨fs2, rr2, V2, ⟨rfl, rfl, rfl⟩, hM2⟩ := hv
      refine W.widen (k := 18) (n := 484) (by decide) (by decide) ?_
      exact rt_ni (mu := zM z0 mc lf dg) C0 rfl ⟨_, _, _, a, b, n, t, ⟨⟨_, rfl⟩, rfl, Or.inr ⟨fun z => h3 z.2, rfl, rfl⟩⟩, hM2, hFT1.i (by decide), by rw [List.getElem?_set_ne (by decide)]; exact htx1, hs1.kept (hk2 _ hs1.lt hna) (hk2 _ hs1.2.lt hnb), hna, hnb, hn70, ht128⟩ hS rfl dX4_write_45
    · skip
      have h3 := of_decide_eq_true (bI_n0 h2)
      obtain ⟨r9, hr9, rfl⟩ := rad_of h3.1
      obtain ⟨d9, hd9, rfl⟩ := kin_of h3.2
      refine lv_aload_n hx hb dX4_write_26 rfl (lv_at hl 0 rfl) ?_
      refine lv_aload_n hx hb dX4_write_27 rfl (lv_at hl 0 rfl) ?_
      refine lv_iload_n hx hb dX4_write_28 rfl (lv_at hl 1 rfl) ?_
      refine lv_iload_n hx hb dX4_write_29 rfl (lv_at hl 2 rfl) ?_
      refine lv_iload_n hx hb dX4_write_30 rfl (lv_at hl 3 rfl) ?_
      refine jn_V (As := [.int (nI i), .int (nI r9), .int (nI d9)]) (rest := [.ref z0]) C0 hl hK hS hA (fun q h => absurd h id) (zat hZ hS hAb) (c_wrNow l g b0 H1 z0 mc lf dg _ rr V hM1 i r9 d9 hi hr9 hd9) gX4_write_X4_writtenNow rfl ⟨rfl, rfl⟩ ((va_recv hK.1 (p1 hz1) (ci := 5) (q0 := 0) rfl rfl)) ⟨rfl, (show hd_ok yX4_writtenNow 3 from ⟨by decide, by decide, by decide +kernel⟩)⟩ ⟨Nat.le_of_ble_eq_true rfl, Nat.le_of_ble_eq_true rfl⟩ rfl (Nat.le_of_ble_eq_true rfl) ⟨by decide, by decide⟩ dX4_write_31 (fun v H2 locs hv hzz hk2 hS => ?_)
      obtain ⟨q6, b6, k, u, rfl, hq6, hb6, hTT, hs6⟩ := hv
      have hM2 := hM1.same (fun q h => hk2 q h (fun z => z))
      obtain ⟨hz2, -⟩ := id hM2
      have lm1 := zM_not hM1 hmb (Or.inr hq6)
      have lm2 := zM_not hM1 hmb (Or.inr hb6)
      obtain ⟨hk65, -, hu9⟩ := isT_lt hr9 hTT
      refine jn_V (As := [.ref q6]) (rest := []) C0 hl hK hS hA (fun q h => Or.inl h) (zat hZ hS hAb) (c_writes l g b0 H2 z0 mc lf dg _ rr V a b n t ⟨hM2, hFT1, htx1, hs1.kept (hk2 _ hs1.lt (fun z => z)) (hk2 _ hs1.2.lt (fun z => z)), hna, hnb, hn70, ht128⟩ hmb q6 b6 k u hs6 lm1 lm2 (by omega) (fun j _ => hu9 j)) gX4_write_X4_writes rfl ⟨rfl, rfl⟩ ((va_recv hK.1 (p1 hz2) (ci := 5) (q0 := 0) rfl rfl)) ⟨rfl, (show hd_ok yX4_writes 1 from ⟨by decide, by decide, by decide +kernel⟩)⟩ ⟨Nat.le_of_ble_eq_true rfl, Nat.le_of_ble_eq_true rfl⟩ rfl (Nat.le_of_ble_eq_true rfl) ⟨by decide, by decide⟩ dX4_write_34 (fun v H3 locs hv hzz hk3 hS => ?_)
      obtain ⟨fs3, rr3, V3, a3, b3, n3, t3, ⟨rfl, rfl, rfl, rfl⟩, hT3⟩ := hv
      refine W.widen (k := 18) (n := 484) (by decide) (by decide) ?_
      refine lv_goto (tgt := 45) hx hb dX4_write_37 (by decide) ?_
      exact rt_ni (mu := zM z0 mc lf dg) C0 rfl ⟨_, _, _, _, _, _, _, ⟨⟨_, rfl⟩, rfl, Or.inl ⟨i, r9, d9, hi, hr9, hd9, rfl, rfl, rfl, hTT⟩⟩, hT3⟩ hS rfl dX4_write_45
  · skip
    have h4 := of_decide_eq_false (bI_0 h1)
    refine lv_aload_n hx hb dX4_write_12 rfl (lv_at hl 0 rfl) ?_
    refine lv_iconst (v := nI 1) hx hb dX4_write_13 (by decide) ?_
    refine cn_V (As := [.int (nI 1)]) (rest := []) C0 hl hK hS hA (fun z h => Or.inl h) (c_refuse l g H1 z0 mc lf dg _ rr V hM1 (nI 1)) gX4_write_X4_refuse rfl ⟨rfl, rfl⟩ ((va_recv hK.1 (p1 hz1) (ci := 5) (q0 := 0) rfl rfl)) ⟨rfl, (show hd_ok yX4_refuse 1 from ⟨by decide, by decide, by decide +kernel⟩)⟩ ⟨Nat.le_of_ble_eq_true rfl, Nat.le_of_ble_eq_true rfl⟩ rfl (Nat.le_of_ble_eq_true rfl) ⟨by decide, by decide⟩ dX4_write_14 (fun r1 H2 locs hv hzz hk2 hS => ?_)
    obtain ⟨fs2, rr2, V2, ⟨rfl, rfl, rfl⟩, hM2⟩ := hv
    refine W.widen (k := 18) (n := 484) (by decide) (by decide) ?_
    exact rt_ni (mu := zM z0 mc lf dg) C0 rfl ⟨_, _, _, a, b, n, t, ⟨⟨_, rfl⟩, rfl, Or.inr ⟨fun z => h4 z.1, rfl, rfl⟩⟩, hM2, hFT1.i (by decide), by rw [List.getElem?_set_ne (by decide)]; exact htx1, hs1.kept (hk2 _ hs1.lt hna) (hk2 _ hs1.2.lt hnb), hna, hnb, hn70, ht128⟩ hS rfl dX4_write_17
abbrev rmX4_bits_ : Room := { frames := 7, cells := 12, slots := 324, locals := 197 }
/-- the radix of a base -/
def basN (d : Nat) : Nat := if d = 0 then 2 else if d = 1 then 8 else 16
theorem basN_r (d : Nat) : 2 ≤ basN d ∧ basN d ≤ 36 := by unfold basN; (repeat' split) <;> omega
set_option maxHeartbeats 4000000 in
set_option maxRecDepth 100000 in
/-- bits(cell, base, isInt) -/
theorem c_bitsM (l : Launch) (g : Gx) (b0 : Nat) (H0 : Heap) (z0 mc lf dg : Nat) (fs : List Value) (rr V : Nat → Nat) (a b n : Nat) (t : Nat → Nat) (hT : MT g H0 z0 mc lf dg fs rr V a b n t) (hmb : ∀ q : Nat, zM z0 mc lf dg q → b0 ≤ q) (x y : Int32) (zi : Bool) : Met l yX4_bits_ wsX4_bits_ rmX4_bits_ (va_Pc [.ref z0, .int x, .int y, .int (bI zi)] (hJ g b0 H0)) (nQ H0 (zM z0 mc lf dg) (zT g z0 mc lf dg (fun r V2 n2 t2 => (∃ rv : Int32, r = some (.int rv)) ∧ V2 = V ∧ ((∃ i d9 : Nat, i < 8 ∧ d9 < 3 ∧ x = nI i ∧ y = nI d9 ∧ isW (basN d9) (V i % 65536 ^ nP zi) n2 ∧ t2 = dgT (basN d9) (V i % 65536 ^ nP zi) n2) ∨ (¬ (isC x ∧ (nI 0 ≤ y ∧ y ≤ nI 2)) ∧ n2 = n ∧ t2 = t))))) 12 324 (fun q => (zM z0 mc lf dg) q ∨ H0.size ≤ q) := by
  refine cx_met (own := RX4) (cc := cX4_bits_) (maxL := 4) (by decide) rfl rfl (Nat.le_of_ble_eq_true rfl) ?_
  intro p e s m below meth c ls C0 hB0 hnm hl
  obtain ⟨hH, hK, hZ⟩ := hB0
  obtain ⟨hx, hb, hr, hml, hown, hts, hlk⟩ := id C0
  subst hH
  have hS : va_S (fun q => (zM z0 mc lf dg) q ∨ s.heap.size ≤ q) s.heap s.heap [] := va_S.rf
  have hA : ∀ q : Nat, s.heap.size ≤ q → (fun q => (zM z0 mc lf dg) q ∨ s.heap.size ≤ q) q := fun q h => Or.inr h
  have h0Z := hZ.1
  have hAb : ∀ q : Nat, (fun q => (zM z0 mc lf dg) q ∨ s.heap.size ≤ q) q → b0 ≤ q := fun q h => h.elim (hmb q) (fun h => Nat.le_trans h0Z h)
  have hl : lv_has ls 4 [(0, .ref z0), (1, .int x), (2, .int y), (3, .int (bI zi))] := hl
  obtain ⟨hM, hFT, htx, hs, hna, hnb, hn70, ht128⟩ := id hT
  obtain ⟨hz, hfl, -⟩ := id hM
  refine lv_aload_n hx hb dX4_bits__0 rfl (lv_at hl 0 rfl) ?_
  refine lv_iconst (v := nI 0) hx hb dX4_bits__1 (by decide) ?_
  refine w_putf (ci := 5) (C := RX4) (T := TX4) (N := 10) (ty := .int) hx hb hts (by decide +kernel) tyX4 tyX4_ok nmX4 hown hK hS hz (Or.inl (Or.inl rfl)) rfl 0 (by decide) (hts (.fieldLink RX4 27 "RadixbenchModel" "thrown" "I") (by decide +kernel)) (fun _ h9 => h9) rfl (by decide +kernel) rfl rfl (by rw [hfl]; decide) dX4_bits__2 (fun H1 locs hz1 hs1 ho1 hS => ?_)
  have hM1 := hM.fset (by decide) (by decide) (by decide) ho1 hz1
  obtain ⟨-, hfl1, hmc, hdg, hlf, ⟨fr, hg9, hfr⟩, hrr, -, -, -⟩ := id hM1
  have htx1 : (fs.set 0 (.int (nI 0)))[2]? = some (.ref a) := by rw [List.getElem?_set_ne (by decide)]; exact htx
  have hs1 := hs.kept (ho1 _ (fun z => hna (Or.inl z))) (ho1 _ (fun z => hnb (Or.inl z)))
  have hFT1 : FT (fs.set 0 (.int (nI 0))) := hFT.i (by decide)
  refine lv_iload_n hx hb dX4_bits__5 rfl (lv_at hl 1 rfl) ?_
  refine cp_S (As := [.int x]) (rest := []) C0 hl hK hS hA (c_isCell l g H1 x) gX4_bits__X4_isCell rfl ⟨rfl, rfl⟩ (show hd_ok yX4_isCell 1 from ⟨by decide, by decide, by decide +kernel⟩) ⟨Nat.le_of_ble_eq_true rfl, Nat.le_of_ble_eq_true rfl⟩ rfl (Nat.le_of_ble_eq_true rfl) ⟨by decide, by decide⟩ dX4_bits__6 (fun locs hS => ?_)
  refine lv_if_ne (tgt := 18) hx hb dX4_bits__9 (by decide) (fun h1 => ?_) (fun h1 => ?_)
  · skip
    obtain ⟨i, hi, rfl⟩ := cell_of (of_decide_eq_true (bI_n0 h1))
    refine lv_iload_n hx hb dX4_bits__18 rfl (lv_at hl 2 rfl) ?_
    refine lv_iconst (v := nI 0) hx hb dX4_bits__19 (by decide) ?_
    refine lv_iconst (v := nI 2) hx hb dX4_bits__20 (by decide) ?_
    refine cp_S (As := [.int y, .int (nI 0), .int (nI 2)]) (rest := []) C0 hl hK hS hA (c_is l g H1 y (nI 0) (nI 2)) gX4_bits__X4_is rfl ⟨rfl, rfl⟩ (show hd_ok yX4_is 3 from ⟨by decide, by decide, by decide +kernel⟩) ⟨Nat.le_of_ble_eq_true rfl, Nat.le_of_ble_eq_true rfl⟩ rfl (Nat.le_of_ble_eq_true rfl) ⟨by decide, by decide⟩ dX4_bits__21 (fun locs hS => ?_)
    refine lv_if_eq (tgt := 63) hx hb dX4_bits__24 (by decide) (fun h2 => ?_) (fun h2 => ?_)
    · skip
      have h3 := of_decide_eq_false (bI_0 h2)
      refine lv_aload_n hx hb dX4_bits__63 rfl (lv_at hl 0 rfl) ?_
      refine lv_iconst (v := nI 2) hx hb dX4_bits__64 (by decide) ?_
      refine cn_V (As := [.int (nI 2)]) (rest := []) C0 hl hK hS hA (fun z h => Or.inl h) (c_refuse l g H1 z0 mc lf dg _ rr V hM1 (nI 2)) gX4_bits__X4_refuse rfl ⟨rfl, rfl⟩ ((va_recv hK.1 (p1 hz1) (ci := 5) (q0 := 0) rfl rfl)) ⟨rfl, (show hd_ok yX4_refuse 1 from ⟨by decide, by decide, by decide +kernel⟩)⟩ ⟨Nat.le_of_ble_eq_true rfl, Nat.le_of_ble_eq_true rfl⟩ rfl (Nat.le_of_ble_eq_true rfl) ⟨by decide, by decide⟩ dX4_bits__65 (fun r1 H2 locs hv hzz hk2 hS => ?_)
      obtain ⟨fs2, rr2, V2, ⟨rfl, rfl, rfl⟩, hM2⟩ := hv
      refine W.widen (k := 12) (n := 324) (by decide) (by decide) ?_
      exact rt_ni (mu := zM z0 mc lf dg) C0 rfl ⟨_, _, _, a, b, n, t, ⟨⟨_, rfl⟩, rfl, Or.inr ⟨fun z => h3 z.2, rfl, rfl⟩⟩, hM2, hFT1.i (by decide), by rw [List.getElem?_set_ne (by decide)]; exact htx1, hs1.kept (hk2 _ hs1.lt hna) (hk2 _ hs1.2.lt hnb), hna, hnb, hn70, ht128⟩ hS rfl dX4_bits__68
    · skip
      obtain ⟨d9, hd9, rfl⟩ := bas_of (of_decide_eq_true (bI_n0 h2))
      refine lv_aload_n hx hb dX4_bits__27 rfl (lv_at hl 0 rfl) ?_
      refine lv_aload_n hx hb dX4_bits__28 rfl (lv_at hl 0 rfl) ?_
      refine lv_iload_n hx hb dX4_bits__29 rfl (lv_at hl 1 rfl) ?_
      refine lv_iload_n hx hb dX4_bits__30 rfl (lv_at hl 3 rfl) ?_
      refine cn_V (As := [.int (nI i), .int (bI zi)]) (rest := [.ref z0]) C0 hl hK hS hA (fun z h => absurd h (fun z => z)) (c_of l g H1 z0 mc i (rr i) (V i) zi _ fr hz1 hmc hg9 (hfr i hi) hi (hrr i hi).1) gX4_bits__X4_of rfl ⟨rfl, rfl⟩ ((va_recv hK.1 (p1 hz1) (ci := 5) (q0 := 0) rfl rfl)) ⟨rfl, (show hd_ok yX4_of 2 from ⟨by decide, by decide, by decide +kernel⟩)⟩ ⟨Nat.le_of_ble_eq_true rfl, Nat.le_of_ble_eq_true rfl⟩ rfl (Nat.le_of_ble_eq_true rfl) ⟨by decide, by decide⟩ dX4_bits__31 (fun r1 H2 locs hv hzz hk2 hS => ?_)
      obtain ⟨q1, rfl, hq1, g1⟩ := hv
      have hM2 := hM1.same (fun q h => hk2 q h (fun z => z))
      have hz12 := hzz
      have g1 : va_at g.1 vwCl (q1, .inl (g.2 0, nP zi, .inl (rw16 (V i % 65536 ^ nP zi)))) H2 := g1
      have hs2 := hs1.kept (hk2 _ hs1.lt (fun z => z)) (hk2 _ hs1.2.lt (fun z => z))
      refine lv_iload_n hx hb dX4_bits__34 rfl (lv_at hl 2 rfl) ?_
      refine lv_if_ne (tgt := 42) hx hb dX4_bits__35 (by decide) (fun h3 => ?_) (fun h3 => ?_)
      · skip
        have e3 : d9 ≠ 0 := fun z => h3 (by rw [z]; rfl)
        refine lv_iload_n hx hb dX4_bits__42 rfl (lv_at hl 2 rfl) ?_
        refine lv_iconst (v := nI 1) hx hb dX4_bits__43 (by decide) ?_
        refine lv_icmp_ne (tgt := 52) hx hb dX4_bits__44 (by decide) (fun h4 => ?_) (fun h4 => ?_)
        · skip
          have e4 : d9 ≠ 1 := fun z => h4 (by rw [z])
          refine lv_bipush (v := nI 16) hx hb dX4_bits__52 (by decide) ?_
          refine tp_i (y := nI (basN d9)) ((by unfold basN; rw [if_neg e3, if_neg e4])) ?_
          refine jn_S (As := [.ref q1, .int (nI (basN d9))]) (rest := [.ref z0]) C0 hl hK hS hA (fun q h => absurd h id) (zat hZ hS hAb) (c_unsigned l g b0 H2 q1 (nP zi) (basN d9) (V i % 65536 ^ nP zi) (by rcases nP_or zi with h | h <;> omega) (basN_r d9) (Nat.mod_lt _ (Nat.pow_pos (by decide))) g1) gX4_bits__X4_unsigned rfl ⟨rfl, rfl⟩ (show hd_ok yX4_unsigned 2 from ⟨by decide, by decide, by decide +kernel⟩) ⟨Nat.le_of_ble_eq_true rfl, Nat.le_of_ble_eq_true rfl⟩ rfl (Nat.le_of_ble_eq_true rfl) ⟨by decide, by decide⟩ dX4_bits__54 (fun v H3 locs hv hzz hk3 hS => ?_)
          obtain ⟨q6, b6, k, rfl, hq6, hb6, hW, hs6⟩ := hv
          have hM3 := hM2.same (fun q h => hk3 q h (fun z => z))
          obtain ⟨hz3, -⟩ := id hM3
          have lm1 := zM_not hM2 hmb (Or.inr hq6)
          have lm2 := zM_not hM2 hmb (Or.inr hb6)
          have hk64 := hW.2.1
          refine jn_V (As := [.ref q6]) (rest := []) C0 hl hK hS hA (fun q h => Or.inl h) (zat hZ hS hAb) (c_writes l g b0 H3 z0 mc lf dg _ rr V a b n t ⟨hM3, hFT1, htx1, hs2.kept (hk3 _ hs2.lt (fun z => z)) (hk3 _ hs2.2.lt (fun z => z)), hna, hnb, hn70, ht128⟩ hmb q6 b6 k _ hs6 lm1 lm2 (by omega) (fun j _ => dgT_lt (basN_r d9) j)) gX4_bits__X4_writes rfl ⟨rfl, rfl⟩ ((va_recv hK.1 (p1 hz3) (ci := 5) (q0 := 0) rfl rfl)) ⟨rfl, (show hd_ok yX4_writes 1 from ⟨by decide, by decide, by decide +kernel⟩)⟩ ⟨Nat.le_of_ble_eq_true rfl, Nat.le_of_ble_eq_true rfl⟩ rfl (Nat.le_of_ble_eq_true rfl) ⟨by decide, by decide⟩ dX4_bits__57 (fun v H4 locs hv hzz hk4 hS => ?_)
          obtain ⟨fs3, rr3, V3, a3, b3, n3, t3, ⟨rfl, rfl, rfl, rfl⟩, hT3⟩ := hv
          refine W.widen (k := 12) (n := 324) (by decide) (by decide) ?_
          refine lv_goto (tgt := 68) hx hb dX4_bits__60 (by decide) ?_
          exact rt_ni (mu := zM z0 mc lf dg) C0 rfl ⟨_, _, _, _, _, _, _, ⟨⟨_, rfl⟩, rfl, Or.inl ⟨i, d9, hi, hd9, rfl, rfl, hW, rfl⟩⟩, hT3⟩ hS rfl dX4_bits__68
        · skip
          have e4 : d9 = 1 := nI_inj (by omega) (by decide) h4
          refine lv_bipush (v := nI 8) hx hb dX4_bits__47 (by decide) ?_
          refine lv_goto (tgt := 54) hx hb dX4_bits__49 (by decide) ?_
          refine tp_i (y := nI (basN d9)) ((by unfold basN; rw [if_neg e3, if_pos e4])) ?_
          refine jn_S (As := [.ref q1, .int (nI (basN d9))]) (rest := [.ref z0]) C0 hl hK hS hA (fun q h => absurd h id) (zat hZ hS hAb) (c_unsigned l g b0 H2 q1 (nP zi) (basN d9) (V i % 65536 ^ nP zi) (by rcases nP_or zi with h | h <;> omega) (basN_r d9) (Nat.mod_lt _ (Nat.pow_pos (by decide))) g1) gX4_bits__X4_unsigned rfl ⟨rfl, rfl⟩ (show hd_ok yX4_unsigned 2 from ⟨by decide, by decide, by decide +kernel⟩) ⟨Nat.le_of_ble_eq_true rfl, Nat.le_of_ble_eq_true rfl⟩ rfl (Nat.le_of_ble_eq_true rfl) ⟨by decide, by decide⟩ dX4_bits__54 (fun v H3 locs hv hzz hk3 hS => ?_)
          obtain ⟨q6, b6, k, rfl, hq6, hb6, hW, hs6⟩ := hv
          have hM3 := hM2.same (fun q h => hk3 q h (fun z => z))
          obtain ⟨hz3, -⟩ := id hM3
          have lm1 := zM_not hM2 hmb (Or.inr hq6)
          have lm2 := zM_not hM2 hmb (Or.inr hb6)
          have hk64 := hW.2.1
          refine jn_V (As := [.ref q6]) (rest := []) C0 hl hK hS hA (fun q h => Or.inl h) (zat hZ hS hAb) (c_writes l g b0 H3 z0 mc lf dg _ rr V a b n t ⟨hM3, hFT1, htx1, hs2.kept (hk3 _ hs2.lt (fun z => z)) (hk3 _ hs2.2.lt (fun z => z)), hna, hnb, hn70, ht128⟩ hmb q6 b6 k _ hs6 lm1 lm2 (by omega) (fun j _ => dgT_lt (basN_r d9) j)) gX4_bits__X4_writes rfl ⟨rfl, rfl⟩ ((va_recv hK.1 (p1 hz3) (ci := 5) (q0 := 0) rfl rfl)) ⟨rfl, (show hd_ok yX4_writes 1 from ⟨by decide, by decide, by decide +kernel⟩)⟩ ⟨Nat.le_of_ble_eq_true rfl, Nat.le_of_ble_eq_true rfl⟩ rfl (Nat.le_of_ble_eq_true rfl) ⟨by decide, by decide⟩ dX4_bits__57 (fun v H4 locs hv hzz hk4 hS => ?_)
          obtain ⟨fs3, rr3, V3, a3, b3, n3, t3, ⟨rfl, rfl, rfl, rfl⟩, hT3⟩ := hv
          refine W.widen (k := 12) (n := 324) (by decide) (by decide) ?_
          refine lv_goto (tgt := 68) hx hb dX4_bits__60 (by decide) ?_
          exact rt_ni (mu := zM z0 mc lf dg) C0 rfl ⟨_, _, _, _, _, _, _, ⟨⟨_, rfl⟩, rfl, Or.inl ⟨i, d9, hi, hd9, rfl, rfl, hW, rfl⟩⟩, hT3⟩ hS rfl dX4_bits__68
      · skip
        have e3 : d9 = 0 := nI_inj (by omega) (by decide) h3
        refine lv_iconst (v := nI 2) hx hb dX4_bits__38 (by decide) ?_
        refine lv_goto (tgt := 54) hx hb dX4_bits__39 (by decide) ?_
        refine tp_i (y := nI (basN d9)) ((by unfold basN; rw [if_pos e3])) ?_
        refine jn_S (As := [.ref q1, .int (nI (basN d9))]) (rest := [.ref z0]) C0 hl hK hS hA (fun q h => absurd h id) (zat hZ hS hAb) (c_unsigned l g b0 H2 q1 (nP zi) (basN d9) (V i % 65536 ^ nP zi) (by rcases nP_or zi with h | h <;> omega) (basN_r d9) (Nat.mod_lt _ (Nat.pow_pos (by decide))) g1) gX4_bits__X4_unsigned rfl ⟨rfl, rfl⟩ (show hd_ok yX4_unsigned 2 from ⟨by decide, by decide, by decide +kernel⟩) ⟨Nat.le_of_ble_eq_true rfl, Nat.le_of_ble_eq_true rfl⟩ rfl (Nat.le_of_ble_eq_true rfl) ⟨by decide, by decide⟩ dX4_bits__54 (fun v H3 locs hv hzz hk3 hS => ?_)
        obtain ⟨q6, b6, k, rfl, hq6, hb6, hW, hs6⟩ := hv
        have hM3 := hM2.same (fun q h => hk3 q h (fun z => z))
        obtain ⟨hz3, -⟩ := id hM3
        have lm1 := zM_not hM2 hmb (Or.inr hq6)
        have lm2 := zM_not hM2 hmb (Or.inr hb6)
        have hk64 := hW.2.1
        refine jn_V (As := [.ref q6]) (rest := []) C0 hl hK hS hA (fun q h => Or.inl h) (zat hZ hS hAb) (c_writes l g b0 H3 z0 mc lf dg _ rr V a b n t ⟨hM3, hFT1, htx1, hs2.kept (hk3 _ hs2.lt (fun z => z)) (hk3 _ hs2.2.lt (fun z => z)), hna, hnb, hn70, ht128⟩ hmb q6 b6 k _ hs6 lm1 lm2 (by omega) (fun j _ => dgT_lt (basN_r d9) j)) gX4_bits__X4_writes rfl ⟨rfl, rfl⟩ ((va_recv hK.1 (p1 hz3) (ci := 5) (q0 := 0) rfl rfl)) ⟨rfl, (show hd_ok yX4_writes 1 from ⟨by decide, by decide, by decide +kernel⟩)⟩ ⟨Nat.le_of_ble_eq_true rfl, Nat.le_of_ble_eq_true rfl⟩ rfl (Nat.le_of_ble_eq_true rfl) ⟨by decide, by decide⟩ dX4_bits__57 (fun v H4 locs hv hzz hk4 hS => ?_)
        obtain ⟨fs3, rr3, V3, a3, b3, n3, t3, ⟨rfl, rfl, rfl, rfl⟩, hT3⟩ := hv
        refine W.widen (k := 12) (n := 324) (by decide) (by decide) ?_
        refine lv_goto (tgt := 68) hx hb dX4_bits__60 (by decide) ?_
        exact rt_ni (mu := zM z0 mc lf dg) C0 rfl ⟨_, _, _, _, _, _, _, ⟨⟨_, rfl⟩, rfl, Or.inl ⟨i, d9, hi, hd9, rfl, rfl, hW, rfl⟩⟩, hT3⟩ hS rfl dX4_bits__68
  · skip
    have h4 := of_decide_eq_false (bI_0 h1)
    refine lv_aload_n hx hb dX4_bits__12 rfl (lv_at hl 0 rfl) ?_
    refine lv_iconst (v := nI 1) hx hb dX4_bits__13 (by decide) ?_
    refine cn_V (As := [.int (nI 1)]) (rest := []) C0 hl hK hS hA (fun z h => Or.inl h) (c_refuse l g H1 z0 mc lf dg _ rr V hM1 (nI 1)) gX4_bits__X4_refuse rfl ⟨rfl, rfl⟩ ((va_recv hK.1 (p1 hz1) (ci := 5) (q0 := 0) rfl rfl)) ⟨rfl, (show hd_ok yX4_refuse 1 from ⟨by decide, by decide, by decide +kernel⟩)⟩ ⟨Nat.le_of_ble_eq_true rfl, Nat.le_of_ble_eq_true rfl⟩ rfl (Nat.le_of_ble_eq_true rfl) ⟨by decide, by decide⟩ dX4_bits__14 (fun r1 H2 locs hv hzz hk2 hS => ?_)
    obtain ⟨fs2, rr2, V2, ⟨rfl, rfl, rfl⟩, hM2⟩ := hv
    refine W.widen (k := 12) (n := 324) (by decide) (by decide) ?_
    exact rt_ni (mu := zM z0 mc lf dg) C0 rfl ⟨_, _, _, a, b, n, t, ⟨⟨_, rfl⟩, rfl, Or.inr ⟨fun z => h4 z.1, rfl, rfl⟩⟩, hM2, hFT1.i (by decide), by rw [List.getElem?_set_ne (by decide)]; exact htx1, hs1.kept (hk2 _ hs1.lt hna) (hk2 _ hs1.2.lt hnb), hna, hnb, hn70, ht128⟩ hS rfl dX4_bits__17
end M53

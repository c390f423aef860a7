-- THE MODEL's digest
theorem MT.same {g : Gx} {H H1 : Heap} {z0 mc lf dg : Nat} {fs : List Value} {rr V : Nat → Nat} {a b n : Nat} {t : Nat → Nat} (h : MT g H z0 mc lf dg fs rr V a b n t) (hk : ∀ q : Nat, q < H.size → H1[q]? = H[q]?) : MT g H1 z0 mc lf dg fs rr V a b n t := by
  obtain ⟨hM, hFT, htx, hs, h5⟩ := h
  exact ⟨hM.same hk, hFT, htx, hs.kept (hk _ hs.lt) (hk _ hs.2.lt), h5⟩
section RTL
variable {p : Program} {l : Launch} {e : Env} {R : Room} {s : State} {m : MethodId} {args : Array Value} {below : List Frame} {meth : Method} {c : Code} {H H0 : Heap} {locs : List Loc} {cells slots : Nat}
variable {Ts : List Cond} {cc : ByteArray} {nL mc ms pc : Nat} {own : String} {ls : Array Slot}
theorem rt_nl {r : Int64} {mu : Nat → Prop} {P : Option Value → Heap → Prop} (C0 : Cx p s m args meth c own cc nL (some .long) Ts) (hP : P (some (.long r)) H) (hS : va_S (fun q => mu q ∨ H0.size ≤ q) H0 H locs) (hH : s.heap = H0) (hdg : decode cc pc = .ok (.lreturn, 1)) : W p l e R s m args below meth c H locs mc ms (MQ below (nQ H0 mu P) args s mc ms (fun q => mu q ∨ H0.size ≤ q)) (F0 m pc ls [.long r]) := by
  obtain ⟨hx, hb, hr, hml, hown, hts, hlk⟩ := C0
  exact W.lret hx hb hr (fun t ht _ => ⟨_, rfl, by rw [ht]; exact hP, by rw [ht]; exact hS.1, fun z h1 h2 => by rw [ht]; exact hS.2.1 z h1 (fun h => h.elim h2 (fun h => absurd h1 (Nat.not_lt.mpr h)))⟩) hS.2.2 hdg hlk
end RTL
section M58
variable {p : Program} {l : Launch} {e : Env} {s : State} {m : MethodId} {args : Array Value} {below : List Frame} {meth : Method} {c : Code} {H H0 : Heap} {locs : List Loc} {cells slots : Nat} {Q : State → Prop} {A : Nat → Prop} {g : Gx} {b0 : Nat}
abbrev rmX4_add : Room := { frames := 0, cells := 0, slots := 0, locals := 0 }
set_option maxHeartbeats 4000000 in
set_option maxRecDepth 100000 in
theorem c_add (l : Launch) (g : Gx) (b0 : Nat) (H0 : Heap) (z0 mc lf dg : Nat) (fs : List Value) (rr V : Nat → Nat) (a b n : Nat) (t : Nat → Nat) (hT : MT g H0 z0 mc lf dg fs rr V a b n t) (hmb : ∀ q : Nat, (fun q => q = z0) q → b0 ≤ q) (v : Int64) : Met l yX4_add wsX4_add rmX4_add (va_Pc [.ref z0, .long v] (hJ g b0 H0)) (nQ H0 (fun q => q = z0) (fun r H1 => r = none ∧ ∃ fs2, MT g H1 z0 mc lf dg fs2 rr V a b n t)) 0 0 (fun q => (fun q => q = z0) q ∨ H0.size ≤ q) := by
  refine cx_met (own := RX4) (cc := cX4_add) (maxL := 3) (by decide) rfl rfl (Nat.le_of_ble_eq_true rfl) ?_
  intro p e s m below meth c ls C0 hB0 hnm hl
  obtain ⟨hH, hK, hZ⟩ := hB0
  obtain ⟨hx, hb, hr, hml, hown, hts, hlk⟩ := id C0
  subst hH
  have hS : va_S (fun q => (fun q => q = z0) q ∨ s.heap.size ≤ q) s.heap s.heap [] := va_S.rf
  have hA : ∀ q : Nat, s.heap.size ≤ q → (fun q => (fun q => q = z0) q ∨ s.heap.size ≤ q) q := fun q h => Or.inr h
  have h0Z := hZ.1
  have hAb : ∀ q : Nat, (fun q => (fun q => q = z0) q ∨ s.heap.size ≤ q) q → b0 ≤ q := fun q h => h.elim (hmb q) (fun h => Nat.le_trans h0Z h)
  have hl : lv_has ls 3 [(0, .ref z0), (1, .long v)] := hl
  obtain ⟨hM, hFT, htx, hs, hna, hnb, hn70, ht128⟩ := id hT
  obtain ⟨hz, hfl, -⟩ := id hM
  obtain ⟨-, -, -, -, -, y9, h9⟩ := id hFT
  refine lv_aload_n hx hb dX4_add_0 rfl (lv_at hl 0 rfl) ?_
  refine lv_aload_n hx hb dX4_add_1 rfl (lv_at hl 0 rfl) ?_
  refine va_get (ci := 5) (C := RX4) (T := TX4) (N := 10) (v := .long y9) hx hb hts (by decide +kernel) hown hK.1 (p1 hz) 0 rfl rfl 9 (by decide) (hts (.fieldLink RX4 265 "RadixbenchModel" "sum" "J") (by decide +kernel)) (fun _ h9 => h9) h9 dX4_add_2 ?_
  refine lv_ldc2 (v := lN 31) hx hb hown (hts (.constantLong RX4 268 (31)) (by decide +kernel)) dX4_add_5 ?_
  refine lv_lmul hx hb dX4_add_8 ?_
  refine lv_lload_n hx hb dX4_add_9 rfl (lv_at hl 1 rfl) ?_
  refine lv_ladd hx hb dX4_add_10 ?_
  refine w_putf (ci := 5) (C := RX4) (T := TX4) (N := 10) (ty := .long) hx hb hts (by decide +kernel) tyX4 tyX4_ok nmX4 hown hK hS hz (Or.inl rfl) rfl 9 (by decide) (hts (.fieldLink RX4 265 "RadixbenchModel" "sum" "J") (by decide +kernel)) (fun _ h9 => h9) rfl (by decide +kernel) rfl rfl (by rw [hfl]; decide) dX4_add_11 (fun H1 locs hz1 hs1x ho1 hS => ?_)
  exact rt_v (mu := (fun q => q = z0)) C0 ⟨rfl, _, hM.fset (by decide) (by decide) (by decide) ho1 hz1, hFT.l, by rw [List.getElem?_set_ne (by decide)]; exact htx, hs.kept (ho1 _ (fun z => hna (Or.inl z))) (ho1 _ (fun z => hnb (Or.inl z))), hna, hnb, hn70, ht128⟩ hS rfl dX4_add_14
abbrev rmX4_digest : Room := { frames := 9, cells := 2087, slots := 9996, locals := 242 }
set_option maxHeartbeats 4000000 in
set_option maxRecDepth 100000 in
theorem L_dg1 (C0 : Cx p s m args meth c RX4 cX4_digest 3 (some .long) wsX4_digest) (hK : KK g s) (hZ : ZW g b0 s s.heap) (hA : ∀ q, s.heap.size ≤ q → A q) (hAb : ∀ q, A q → b0 ≤ q) {z0 mc lf dg a b n : Nat} {rr V : Nat → Nat} {t : Nat → Nat} (hmb : ∀ q : Nat, zM z0 mc lf dg q → b0 ≤ q) (hmA : ∀ q, zM z0 mc lf dg q → A q) {c9 s9 : Nat} (hc9 : c9 ≤ 2087) (hs9 : s9 ≤ 9996)
    (K : ∀ (fs : List Value) (ls : Array Slot) (H : Heap) (locs : List Loc), MT g H z0 mc lf dg fs rr V a b n t → va_S A s.heap H locs → lv_has ls 3 [(0, .ref z0)] → W p l e rmX4_digest s m args below meth c H locs c9 s9 Q (F0 m 35 ls [])) :
    ∀ (n9 k : Nat) (fs : List Value), k ≤ 5 → 5 - k < n9 → ∀ (ls : Array Slot) (H : Heap) (locs : List Loc), MT g H z0 mc lf dg fs rr V a b n t → va_S A s.heap H locs → lv_has ls 3 [(1, .int (nI k)), (0, .ref z0)] → W p l e rmX4_digest s m args below meth c H locs c9 s9 Q (F0 m 14 ls []) := by
  obtain ⟨hx, hb, hr, hml, hown, hts, hlk⟩ := id C0
  intro n9
  induction n9 with
  | zero => intro k fs _ h; exact absurd h (Nat.not_lt_zero _)
  | succ n9 ih =>
    intro k fs hk9 hn9 ls H locs hT hS hl
    obtain ⟨hM, hFT, htx, hs, hna, hnb, hn70, ht128⟩ := id hT
    obtain ⟨hz, hfl, hmc, hdg, hlf, ⟨fr, hg9, hfr⟩, hrr, -, -, -⟩ := id hM
    refine lv_iload_n hx hb dX4_digest_14 rfl (lv_at hl 0 rfl) ?_
    refine lv_iconst (v := nI 5) hx hb dX4_digest_15 (by decide) ?_
    refine lv_icmp_ge (tgt := 35) hx hb dX4_digest_16 (by decide) (fun h1 => ?_) (fun h1 => ?_)
    · skip
      have h2 := le_n (by omega) h1
      obtain rfl : k = 5 := by omega
      exact K fs ls H _ hT hS (lv_sub hl [1] rfl)
    · skip
      have hlt := nle_n (by omega) h1
      refine lv_aload_n hx hb dX4_digest_19 rfl (lv_at hl 1 rfl) ?_
      refine lv_aload_n hx hb dX4_digest_20 rfl (lv_at hl 1 rfl) ?_
      refine lv_iload_n hx hb dX4_digest_21 rfl (lv_at hl 0 rfl) ?_
      refine jn_V (As := [.int (nI k)]) (rest := [.ref z0]) C0 hl hK hS hA (fun q h => absurd h id) (zat hZ hS hAb) (c_benchNow l g b0 H z0 _ a b n t hz hFT htx hs (nI k)) gX4_digest_X4_benchNow rfl ⟨rfl, rfl⟩ ((va_recv hK.1 (p1 hz) (ci := 5) (q0 := 0) rfl rfl)) ⟨rfl, (show hd_ok yX4_benchNow 1 from ⟨by decide, by decide, by decide +kernel⟩)⟩ ⟨Nat.le_of_ble_eq_true rfl, Nat.le_of_ble_eq_true rfl⟩ rfl (Nat.le_of_ble_eq_true rfl) ⟨by show _ ≤ 2087; omega, by show _ ≤ 9996; omega⟩ dX4_digest_22 (fun v HN1 locs hv hzz hkn1 hS => ?_)
      obtain ⟨rv, rfl⟩ := hv
      have hT := hT.same (fun q h => hkn1 q h (fun z => z))
      obtain ⟨hM, hFT, htx, hs, hna, hnb, hn70, ht128⟩ := id hT
      obtain ⟨hz, hfl, hmc, hdg, hlf, ⟨fr, hg9, hfr⟩, hrr, -, -, -⟩ := id hM
      refine W.widen (k := c9) (n := s9) (by omega) (by omega) ?_
      refine lv_i2l (v := rv.toInt64) hx hb dX4_digest_25 (rfl) ?_
      refine jn_V (As := [.long rv.toInt64]) (rest := []) C0 hl hK hS hA (fun q h => by rw [show q = z0 from h]; exact hmA _ (Or.inl rfl)) (zat hZ hS hAb) (c_add l g b0 HN1 z0 mc lf dg fs rr V a b n t hT (fun q h => by rw [show q = z0 from h]; exact hmb _ (Or.inl rfl)) rv.toInt64) gX4_digest_X4_add rfl ⟨rfl, rfl⟩ ((va_recv hK.1 (p1 hz) (ci := 5) (q0 := 0) rfl rfl)) ⟨rfl, (show hd_ok yX4_add 1 from ⟨by decide, by decide, by decide +kernel⟩)⟩ ⟨Nat.le_of_ble_eq_true rfl, Nat.le_of_ble_eq_true rfl⟩ rfl (Nat.le_of_ble_eq_true rfl) ⟨by show _ ≤ 2087; omega, by show _ ≤ 9996; omega⟩ dX4_digest_26 (fun v HA2 locs hv hzz hka2 hS => ?_)
      obtain ⟨rfl, fs, hT⟩ := hv
      obtain ⟨hM, hFT, htx, hs, hna, hnb, hn70, ht128⟩ := id hT
      obtain ⟨hz, hfl, hmc, hdg, hlf, ⟨fr, hg9, hfr⟩, hrr, -, -, -⟩ := id hM
      refine W.widen (k := c9) (n := s9) (by omega) (by omega) ?_
      refine lv_iinc (v := nI (k + 1)) (lv' := [(1, .int (nI (k + 1))), (0, .ref z0)]) hx hb dX4_digest_29 hl (k := 0) rfl (nI_1 _) (by decide) rfl (fun ls hl => ?_)
      refine lv_goto (tgt := 14) hx hb dX4_digest_32 (by decide) ?_
      exact ih (k + 1) fs hlt (by omega) ls HA2 _ hT hS (lv_sub hl [0, 1] rfl)
set_option maxHeartbeats 4000000 in
set_option maxRecDepth 100000 in
theorem L_dg2a (C0 : Cx p s m args meth c RX4 cX4_digest 3 (some .long) wsX4_digest) (hK : KK g s) (hZ : ZW g b0 s s.heap) (hA : ∀ q, s.heap.size ≤ q → A q) (hAb : ∀ q, A q → b0 ≤ q) {z0 mc lf dg a b n : Nat} {rr V : Nat → Nat} {t : Nat → Nat} (hmb : ∀ q : Nat, zM z0 mc lf dg q → b0 ≤ q) (hmA : ∀ q, zM z0 mc lf dg q → A q) {i c9 s9 : Nat} (hi : i < 8) (hc9 : c9 + 4 ≤ 2087) (hs9 : s9 + 16 ≤ 9996)
    (K : ∀ (fs : List Value) (ls : Array Slot) (H : Heap) (locs : List Loc), MT g H z0 mc lf dg fs rr V a b n t → va_S A s.heap H locs → lv_has ls 3 [(1, .int (nI i)), (0, .ref z0)] → W p l e rmX4_digest s m args below meth c H locs (c9 + 4) (s9 + 4 * 4) Q (F0 m 98 ls [])) :
    ∀ (n9 k : Nat) (fs : List Value), k ≤ 4 → 4 - k < n9 → ∀ (ls : Array Slot) (H : Heap) (locs : List Loc), MT g H z0 mc lf dg fs rr V a b n t → va_S A s.heap H locs → lv_has ls 3 [(2, .int (nI k)), (1, .int (nI i)), (0, .ref z0)] → W p l e rmX4_digest s m args below meth c H locs (c9 + k) (s9 + 4 * k) Q (F0 m 75 ls []) := by
  obtain ⟨hx, hb, hr, hml, hown, hts, hlk⟩ := id C0
  intro n9
  induction n9 with
  | zero => intro k fs _ h; exact absurd h (Nat.not_lt_zero _)
  | succ n9 ih =>
    intro k fs hk9 hn9 ls H locs hT hS hl
    obtain ⟨hM, hFT, htx, hs, hna, hnb, hn70, ht128⟩ := id hT
    obtain ⟨hz, hfl, hmc, hdg, hlf, ⟨fr, hg9, hfr⟩, hrr, -, -, -⟩ := id hM
    refine lv_iload_n hx hb dX4_digest_75 rfl (lv_at hl 0 rfl) ?_
    refine lv_iconst (v := nI 4) hx hb dX4_digest_76 (by decide) ?_
    refine lv_icmp_ge (tgt := 98) hx hb dX4_digest_77 (by decide) (fun h1 => ?_) (fun h1 => ?_)
    · skip
      have h2 := le_n (by omega) h1
      obtain rfl : k = 4 := by omega
      exact K fs ls H _ hT hS (lv_sub hl [1, 2] rfl)
    · skip
      have hlt := nle_n (by omega) h1
      refine lv_aload_n hx hb dX4_digest_80 rfl (lv_at hl 2 rfl) ?_
      refine lv_aload_n hx hb dX4_digest_81 rfl (lv_at hl 2 rfl) ?_
      refine lv_iload_n hx hb dX4_digest_82 rfl (lv_at hl 1 rfl) ?_
      refine lv_iload_n hx hb dX4_digest_83 rfl (lv_at hl 0 rfl) ?_
      refine lv_iconst (v := nI 0) hx hb dX4_digest_84 (by decide) ?_
      refine tp_i (y := bI false) (rfl) ?_
      refine cn_V (As := [.int (nI i), .int (nI k), .int (bI false)]) (rest := [.ref z0]) C0 hl hK hS hA (fun z h => absurd h (fun z => z)) (c_countNow l g H z0 mc lf dg fs rr V hM i hi (nI k) false) gX4_digest_X4_countNow rfl ⟨rfl, rfl⟩ ((va_recv hK.1 (p1 hz) (ci := 5) (q0 := 0) rfl rfl)) ⟨rfl, (show hd_ok yX4_countNow 3 from ⟨by decide, by decide, by decide +kernel⟩)⟩ ⟨Nat.le_of_ble_eq_true rfl, Nat.le_of_ble_eq_true rfl⟩ rfl (Nat.le_of_ble_eq_true rfl) ⟨by show _ ≤ 2087; omega, by show _ ≤ 9996; omega⟩ dX4_digest_85 (fun r1 HN3 locs hv hzz hkn3 hS => ?_)
      obtain ⟨rv, rfl⟩ := hv
      have hT := hT.same (fun q h => hkn3 q h (fun z => z))
      obtain ⟨hM, hFT, htx, hs, hna, hnb, hn70, ht128⟩ := id hT
      obtain ⟨hz, hfl, hmc, hdg, hlf, ⟨fr, hg9, hfr⟩, hrr, -, -, -⟩ := id hM
      refine W.widen (k := c9 + (k + 1)) (n := s9 + 4 * (k + 1)) (by omega) (by omega) ?_
      refine lv_i2l (v := rv.toInt64) hx hb dX4_digest_88 (rfl) ?_
      refine jn_V (As := [.long rv.toInt64]) (rest := []) C0 hl hK hS hA (fun q h => by rw [show q = z0 from h]; exact hmA _ (Or.inl rfl)) (zat hZ hS hAb) (c_add l g b0 HN3 z0 mc lf dg fs rr V a b n t hT (fun q h => by rw [show q = z0 from h]; exact hmb _ (Or.inl rfl)) rv.toInt64) gX4_digest_X4_add rfl ⟨rfl, rfl⟩ ((va_recv hK.1 (p1 hz) (ci := 5) (q0 := 0) rfl rfl)) ⟨rfl, (show hd_ok yX4_add 1 from ⟨by decide, by decide, by decide +kernel⟩)⟩ ⟨Nat.le_of_ble_eq_true rfl, Nat.le_of_ble_eq_true rfl⟩ rfl (Nat.le_of_ble_eq_true rfl) ⟨by show _ ≤ 2087; omega, by show _ ≤ 9996; omega⟩ dX4_digest_89 (fun v HA4 locs hv hzz hka4 hS => ?_)
      obtain ⟨rfl, fs, hT⟩ := hv
      obtain ⟨hM, hFT, htx, hs, hna, hnb, hn70, ht128⟩ := id hT
      obtain ⟨hz, hfl, hmc, hdg, hlf, ⟨fr, hg9, hfr⟩, hrr, -, -, -⟩ := id hM
      refine W.widen (k := c9 + (k + 1)) (n := s9 + 4 * (k + 1)) (by omega) (by omega) ?_
      refine lv_iinc (v := nI (k + 1)) (lv' := [(2, .int (nI (k + 1))), (1, .int (nI i)), (0, .ref z0)]) hx hb dX4_digest_92 hl (k := 0) rfl (nI_1 _) (by decide) rfl (fun ls hl => ?_)
      refine lv_goto (tgt := 75) hx hb dX4_digest_95 (by decide) ?_
      exact ih (k + 1) fs hlt (by omega) ls HA4 _ hT hS (lv_sub hl [0, 1, 2] rfl)
set_option maxHeartbeats 4000000 in
set_option maxRecDepth 100000 in
theorem L_dg2b (C0 : Cx p s m args meth c RX4 cX4_digest 3 (some .long) wsX4_digest) (hK : KK g s) (hZ : ZW g b0 s s.heap) (hA : ∀ q, s.heap.size ≤ q → A q) (hAb : ∀ q, A q → b0 ≤ q) {z0 mc lf dg a b n : Nat} {rr V : Nat → Nat} {t : Nat → Nat} (hmb : ∀ q : Nat, zM z0 mc lf dg q → b0 ≤ q) (hmA : ∀ q, zM z0 mc lf dg q → A q) {i c9 s9 : Nat} (hi : i < 8) (hc9 : c9 + 4 ≤ 2087) (hs9 : s9 + 16 ≤ 9996)
    (K : ∀ (fs : List Value) (ls : Array Slot) (H : Heap) (locs : List Loc), MT g H z0 mc lf dg fs rr V a b n t → va_S A s.heap H locs → lv_has ls 3 [(1, .int (nI i)), (0, .ref z0)] → W p l e rmX4_digest s m args below meth c H locs (c9 + 4) (s9 + 4 * 4) Q (F0 m 123 ls [])) :
    ∀ (n9 k : Nat) (fs : List Value), k ≤ 4 → 4 - k < n9 → ∀ (ls : Array Slot) (H : Heap) (locs : List Loc), MT g H z0 mc lf dg fs rr V a b n t → va_S A s.heap H locs → lv_has ls 3 [(2, .int (nI k)), (1, .int (nI i)), (0, .ref z0)] → W p l e rmX4_digest s m args below meth c H locs (c9 + k) (s9 + 4 * k) Q (F0 m 100 ls []) := by
  obtain ⟨hx, hb, hr, hml, hown, hts, hlk⟩ := id C0
  intro n9
  induction n9 with
  | zero => intro k fs _ h; exact absurd h (Nat.not_lt_zero _)
  | succ n9 ih =>
    intro k fs hk9 hn9 ls H locs hT hS hl
    obtain ⟨hM, hFT, htx, hs, hna, hnb, hn70, ht128⟩ := id hT
    obtain ⟨hz, hfl, hmc, hdg, hlf, ⟨fr, hg9, hfr⟩, hrr, -, -, -⟩ := id hM
    refine lv_iload_n hx hb dX4_digest_100 rfl (lv_at hl 0 rfl) ?_
    refine lv_iconst (v := nI 4) hx hb dX4_digest_101 (by decide) ?_
    refine lv_icmp_ge (tgt := 123) hx hb dX4_digest_102 (by decide) (fun h1 => ?_) (fun h1 => ?_)
    · skip
      have h2 := le_n (by omega) h1
      obtain rfl : k = 4 := by omega
      exact K fs ls H _ hT hS (lv_sub hl [1, 2] rfl)
    · skip
      have hlt := nle_n (by omega) h1
      refine lv_aload_n hx hb dX4_digest_105 rfl (lv_at hl 2 rfl) ?_
      refine lv_aload_n hx hb dX4_digest_106 rfl (lv_at hl 2 rfl) ?_
      refine lv_iload_n hx hb dX4_digest_107 rfl (lv_at hl 1 rfl) ?_
      refine lv_iload_n hx hb dX4_digest_108 rfl (lv_at hl 0 rfl) ?_
      refine lv_iconst (v := nI 1) hx hb dX4_digest_109 (by decide) ?_
      refine tp_i (y := bI true) (rfl) ?_
      refine cn_V (As := [.int (nI i), .int (nI k), .int (bI true)]) (rest := [.ref z0]) C0 hl hK hS hA (fun z h => absurd h (fun z => z)) (c_countNow l g H z0 mc lf dg fs rr V hM i hi (nI k) true) gX4_digest_X4_countNow rfl ⟨rfl, rfl⟩ ((va_recv hK.1 (p1 hz) (ci := 5) (q0 := 0) rfl rfl)) ⟨rfl, (show hd_ok yX4_countNow 3 from ⟨by decide, by decide, by decide +kernel⟩)⟩ ⟨Nat.le_of_ble_eq_true rfl, Nat.le_of_ble_eq_true rfl⟩ rfl (Nat.le_of_ble_eq_true rfl) ⟨by show _ ≤ 2087; omega, by show _ ≤ 9996; omega⟩ dX4_digest_110 (fun r1 HN5 locs hv hzz hkn5 hS => ?_)
      obtain ⟨rv, rfl⟩ := hv
      have hT := hT.same (fun q h => hkn5 q h (fun z => z))
      obtain ⟨hM, hFT, htx, hs, hna, hnb, hn70, ht128⟩ := id hT
      obtain ⟨hz, hfl, hmc, hdg, hlf, ⟨fr, hg9, hfr⟩, hrr, -, -, -⟩ := id hM
      refine W.widen (k := c9 + (k + 1)) (n := s9 + 4 * (k + 1)) (by omega) (by omega) ?_
      refine lv_i2l (v := rv.toInt64) hx hb dX4_digest_113 (rfl) ?_
      refine jn_V (As := [.long rv.toInt64]) (rest := []) C0 hl hK hS hA (fun q h => by rw [show q = z0 from h]; exact hmA _ (Or.inl rfl)) (zat hZ hS hAb) (c_add l g b0 HN5 z0 mc lf dg fs rr V a b n t hT (fun q h => by rw [show q = z0 from h]; exact hmb _ (Or.inl rfl)) rv.toInt64) gX4_digest_X4_add rfl ⟨rfl, rfl⟩ ((va_recv hK.1 (p1 hz) (ci := 5) (q0 := 0) rfl rfl)) ⟨rfl, (show hd_ok yX4_add 1 from ⟨by decide, by decide, by decide +kernel⟩)⟩ ⟨Nat.le_of_ble_eq_true rfl, Nat.le_of_ble_eq_true rfl⟩ rfl (Nat.le_of_ble_eq_true rfl) ⟨by show _ ≤ 2087; omega, by show _ ≤ 9996; omega⟩ dX4_digest_114 (fun v HA6 locs hv hzz hka6 hS => ?_)
      obtain ⟨rfl, fs, hT⟩ := hv
      obtain ⟨hM, hFT, htx, hs, hna, hnb, hn70, ht128⟩ := id hT
      obtain ⟨hz, hfl, hmc, hdg, hlf, ⟨fr, hg9, hfr⟩, hrr, -, -, -⟩ := id hM
      refine W.widen (k := c9 + (k + 1)) (n := s9 + 4 * (k + 1)) (by omega) (by omega) ?_
      refine lv_iinc (v := nI (k + 1)) (lv' := [(2, .int (nI (k + 1))), (1, .int (nI i)), (0, .ref z0)]) hx hb dX4_digest_117 hl (k := 0) rfl (nI_1 _) (by decide) rfl (fun ls hl => ?_)
      refine lv_goto (tgt := 100) hx hb dX4_digest_120 (by decide) ?_
      exact ih (k + 1) fs hlt (by omega) ls HA6 _ hT hS (lv_sub hl [0, 1, 2] rfl)
set_option maxHeartbeats 4000000 in
set_option maxRecDepth 100000 in
theorem L_dg2 (C0 : Cx p s m args meth c RX4 cX4_digest 3 (some .long) wsX4_digest) (hK : KK g s) (hZ : ZW g b0 s s.heap) (hA : ∀ q, s.heap.size ≤ q → A q) (hAb : ∀ q, A q → b0 ≤ q) {z0 mc lf dg a b n : Nat} {rr V : Nat → Nat} {t : Nat → Nat} (hmb : ∀ q : Nat, zM z0 mc lf dg q → b0 ≤ q) (hmA : ∀ q, zM z0 mc lf dg q → A q) {c9 s9 : Nat} (hc9 : c9 + 64 ≤ 2087) (hs9 : s9 + 256 ≤ 9996)
    (K : ∀ (fs : List Value) (ls : Array Slot) (H : Heap) (locs : List Loc), MT g H z0 mc lf dg fs rr V a b n t → va_S A s.heap H locs → lv_has ls 3 [(0, .ref z0)] → W p l e rmX4_digest s m args below meth c H locs (c9 + 8 * 8) (s9 + 32 * 8) Q (F0 m 129 ls [])) :
    ∀ (n9 k : Nat) (fs : List Value), k ≤ 8 → 8 - k < n9 → ∀ (ls : Array Slot) (H : Heap) (locs : List Loc), MT g H z0 mc lf dg fs rr V a b n t → va_S A s.heap H locs → lv_has ls 3 [(1, .int (nI k)), (0, .ref z0)] → W p l e rmX4_digest s m args below meth c H locs (c9 + 8 * k) (s9 + 32 * k) Q (F0 m 37 ls []) := by
  obtain ⟨hx, hb, hr, hml, hown, hts, hlk⟩ := id C0
  intro n9
  induction n9 with
  | zero => intro k fs _ h; exact absurd h (Nat.not_lt_zero _)
  | succ n9 ih =>
    intro k fs hk9 hn9 ls H locs hT hS hl
    obtain ⟨hM, hFT, htx, hs, hna, hnb, hn70, ht128⟩ := id hT
    obtain ⟨hz, hfl, hmc, hdg, hlf, ⟨fr, hg9, hfr⟩, hrr, -, -, -⟩ := id hM
    refine lv_iload_n hx hb dX4_digest_37 rfl (lv_at hl 0 rfl) ?_
    refine lv_bipush (v := nI 8) hx hb dX4_digest_38 (by decide) ?_
    refine lv_icmp_ge (tgt := 129) hx hb dX4_digest_40 (by decide) (fun h1 => ?_) (fun h1 => ?_)
    · skip
      have h2 := le_n (by omega) h1
      obtain rfl : k = 8 := by omega
      exact K fs ls H _ hT hS (lv_sub hl [1] rfl)
    · skip
      have hlt := nle_n (by omega) h1
      refine lv_aload_n hx hb dX4_digest_43 rfl (lv_at hl 1 rfl) ?_
      refine lv_aload_n hx hb dX4_digest_44 rfl (lv_at hl 1 rfl) ?_
      refine va_get (ci := 5) (C := RX4) (T := TX4) (N := 10) (v := .ref mc) hx hb hts (by decide +kernel) hown hK.1 (p1 hz) 0 rfl rfl 1 (by decide) (hts (.fieldLink RX4 11 "RadixbenchModel" "cells" "[[I") (by decide +kernel)) (fun _ h9 => h9) hmc dX4_digest_45 ?_
      refine lv_iload_n hx hb dX4_digest_48 rfl (lv_at hl 0 rfl) ?_
      refine w_aald (j := k) hx hb hK hg9 hlt (by decide) (hfr k hlt) dX4_digest_49 ?_
      refine lv_iconst (v := nI 2) hx hb dX4_digest_50 (by decide) ?_
      refine cp_S (As := [.ref (rr k), .int (nI 2)]) (rest := [.ref z0]) C0 hl hK hS hA (c_half l g H (rr k) 4 (V k) 2 (by decide) (by decide) (hrr k hlt).1) gX4_digest_X4_half rfl ⟨rfl, rfl⟩ (show hd_ok yX4_half 2 from ⟨by decide, by decide, by decide +kernel⟩) ⟨Nat.le_of_ble_eq_true rfl, Nat.le_of_ble_eq_true rfl⟩ rfl (Nat.le_of_ble_eq_true rfl) ⟨by show _ ≤ 2087; omega, by show _ ≤ 9996; omega⟩ dX4_digest_51 (fun locs hS => ?_)
      refine lv_i2l (v := (nI (V k / 65536 ^ 2 % 4294967296)).toInt64) hx hb dX4_digest_54 (rfl) ?_
      refine jn_V (As := [.long ((nI (V k / 65536 ^ 2 % 4294967296)).toInt64)]) (rest := []) C0 hl hK hS hA (fun q h => by rw [show q = z0 from h]; exact hmA _ (Or.inl rfl)) (zat hZ hS hAb) (c_add l g b0 H z0 mc lf dg fs rr V a b n t hT (fun q h => by rw [show q = z0 from h]; exact hmb _ (Or.inl rfl)) ((nI (V k / 65536 ^ 2 % 4294967296)).toInt64)) gX4_digest_X4_add rfl ⟨rfl, rfl⟩ ((va_recv hK.1 (p1 hz) (ci := 5) (q0 := 0) rfl rfl)) ⟨rfl, (show hd_ok yX4_add 1 from ⟨by decide, by decide, by decide +kernel⟩)⟩ ⟨Nat.le_of_ble_eq_true rfl, Nat.le_of_ble_eq_true rfl⟩ rfl (Nat.le_of_ble_eq_true rfl) ⟨by show _ ≤ 2087; omega, by show _ ≤ 9996; omega⟩ dX4_digest_55 (fun v HA7 locs hv hzz hka7 hS => ?_)
      obtain ⟨rfl, fs, hT⟩ := hv
      obtain ⟨hM, hFT, htx, hs, hna, hnb, hn70, ht128⟩ := id hT
      obtain ⟨hz, hfl, hmc, hdg, hlf, ⟨fr, hg9, hfr⟩, hrr, -, -, -⟩ := id hM
      refine W.widen (k := c9 + 8 * k) (n := s9 + 32 * k) (by omega) (by omega) ?_
      refine lv_aload_n hx hb dX4_digest_58 rfl (lv_at hl 1 rfl) ?_
      refine lv_aload_n hx hb dX4_digest_59 rfl (lv_at hl 1 rfl) ?_
      refine va_get (ci := 5) (C := RX4) (T := TX4) (N := 10) (v := .ref mc) hx hb hts (by decide +kernel) hown hK.1 (p1 hz) 0 rfl rfl 1 (by decide) (hts (.fieldLink RX4 11 "RadixbenchModel" "cells" "[[I") (by decide +kernel)) (fun _ h9 => h9) hmc dX4_digest_60 ?_
      refine lv_iload_n hx hb dX4_digest_63 rfl (lv_at hl 0 rfl) ?_
      refine w_aald (j := k) hx hb hK hg9 hlt (by decide) (hfr k hlt) dX4_digest_64 ?_
      refine lv_iconst (v := nI 0) hx hb dX4_digest_65 (by decide) ?_
      refine cp_S (As := [.ref (rr k), .int (nI 0)]) (rest := [.ref z0]) C0 hl hK hS hA (c_half l g HA7 (rr k) 4 (V k) 0 (by decide) (by decide) (hrr k hlt).1) gX4_digest_X4_half rfl ⟨rfl, rfl⟩ (show hd_ok yX4_half 2 from ⟨by decide, by decide, by decide +kernel⟩) ⟨Nat.le_of_ble_eq_true rfl, Nat.le_of_ble_eq_true rfl⟩ rfl (Nat.le_of_ble_eq_true rfl) ⟨by show _ ≤ 2087; omega, by show _ ≤ 9996; omega⟩ dX4_digest_66 (fun locs hS => ?_)
      refine lv_i2l (v := (nI (V k / 65536 ^ 0 % 4294967296)).toInt64) hx hb dX4_digest_69 (rfl) ?_
      refine jn_V (As := [.long ((nI (V k / 65536 ^ 0 % 4294967296)).toInt64)]) (rest := []) C0 hl hK hS hA (fun q h => by rw [show q = z0 from h]; exact hmA _ (Or.inl rfl)) (zat hZ hS hAb) (c_add l g b0 HA7 z0 mc lf dg fs rr V a b n t hT (fun q h => by rw [show q = z0 from h]; exact hmb _ (Or.inl rfl)) ((nI (V k / 65536 ^ 0 % 4294967296)).toInt64)) gX4_digest_X4_add rfl ⟨rfl, rfl⟩ ((va_recv hK.1 (p1 hz) (ci := 5) (q0 := 0) rfl rfl)) ⟨rfl, (show hd_ok yX4_add 1 from ⟨by decide, by decide, by decide +kernel⟩)⟩ ⟨Nat.le_of_ble_eq_true rfl, Nat.le_of_ble_eq_true rfl⟩ rfl (Nat.le_of_ble_eq_true rfl) ⟨by show _ ≤ 2087; omega, by show _ ≤ 9996; omega⟩ dX4_digest_70 (fun v HA8 locs hv hzz hka8 hS => ?_)
      obtain ⟨rfl, fs, hT⟩ := hv
      obtain ⟨hM, hFT, htx, hs, hna, hnb, hn70, ht128⟩ := id hT
      obtain ⟨hz, hfl, hmc, hdg, hlf, ⟨fr, hg9, hfr⟩, hrr, -, -, -⟩ := id hM
      refine W.widen (k := c9 + 8 * k) (n := s9 + 32 * k) (by omega) (by omega) ?_
      refine lv_iconst (v := nI 0) hx hb dX4_digest_73 (by decide) ?_
      refine lv_istore_n (lv' := [(2, .int (nI 0)), (1, .int (nI k)), (0, .ref z0)]) hx hb dX4_digest_74 rfl hl (by decide) rfl (fun ls hl => ?_)
      refine W.widen (k := (c9 + 8 * k) + 0) (n := (s9 + 32 * k) + 4 * 0) (by omega) (by omega) ?_
      refine L_dg2a C0 hK hZ hA hAb hmb hmA (c9 := c9 + 8 * k) (s9 := s9 + 32 * k) hlt (by omega) (by omega) (fun fs ls H locs hT hS hl => ?_) 5 0 fs (by decide) (by decide) ls HA8 _ hT hS (lv_sub hl [0, 1, 2] rfl)
      refine lv_iconst (v := nI 0) hx hb dX4_digest_98 (by decide) ?_
      refine lv_istore_n (lv' := [(2, .int (nI 0)), (1, .int (nI k)), (0, .ref z0)]) hx hb dX4_digest_99 rfl hl (by decide) rfl (fun ls hl => ?_)
      refine W.widen (k := (c9 + 8 * k + 4) + 0) (n := (s9 + 32 * k + 16) + 4 * 0) (by omega) (by omega) ?_
      refine L_dg2b C0 hK hZ hA hAb hmb hmA (c9 := c9 + 8 * k + 4) (s9 := s9 + 32 * k + 16) hlt (by omega) (by omega) (fun fs ls H locs hT hS hl => ?_) 5 0 fs (by decide) (by decide) ls H _ hT hS (lv_sub hl [0, 1, 2] rfl)
      refine lv_iinc (v := nI (k + 1)) (lv' := [(1, .int (nI (k + 1))), (0, .ref z0)]) hx hb dX4_digest_123 hl (k := 0) rfl (nI_1 _) (by decide) rfl (fun ls hl => ?_)
      refine lv_goto (tgt := 37) hx hb dX4_digest_126 (by decide) ?_
      refine W.widen (k := c9 + 8 * (k + 1)) (n := s9 + 32 * (k + 1)) (by omega) (by omega) ?_
      exact ih (k + 1) fs hlt (by omega) ls H _ hT hS (lv_sub hl [0, 1] rfl)
set_option maxHeartbeats 4000000 in
set_option maxRecDepth 100000 in
theorem L_dg3 (C0 : Cx p s m args meth c RX4 cX4_digest 3 (some .long) wsX4_digest) (hK : KK g s) (hZ : ZW g b0 s s.heap) (hA : ∀ q, s.heap.size ≤ q → A q) (hAb : ∀ q, A q → b0 ≤ q) {z0 mc lf dg a b n : Nat} {rr V : Nat → Nat} {t : Nat → Nat} (hmb : ∀ q : Nat, zM z0 mc lf dg q → b0 ≤ q) (hmA : ∀ q, zM z0 mc lf dg q → A q) {c9 s9 : Nat} (hc9 : c9 ≤ 2087) (hs9 : s9 ≤ 9996)
    (K : ∀ (fs : List Value) (ls : Array Slot) (H : Heap) (locs : List Loc), MT g H z0 mc lf dg fs rr V a b n t → va_S A s.heap H locs → lv_has ls 3 [(0, .ref z0)] → W p l e rmX4_digest s m args below meth c H locs c9 s9 Q (F0 m 166 ls [])) :
    ∀ (n9 k : Nat) (fs : List Value), k ≤ n → n - k < n9 → ∀ (ls : Array Slot) (H : Heap) (locs : List Loc), MT g H z0 mc lf dg fs rr V a b n t → va_S A s.heap H locs → lv_has ls 3 [(1, .int (nI k)), (0, .ref z0)] → W p l e rmX4_digest s m args below meth c H locs c9 s9 Q (F0 m 131 ls []) := by
  obtain ⟨hx, hb, hr, hml, hown, hts, hlk⟩ := id C0
  intro n9
  induction n9 with
  | zero => intro k fs _ h; exact absurd h (Nat.not_lt_zero _)
  | succ n9 ih =>
    intro k fs hk9 hn9 ls H locs hT hS hl
    obtain ⟨hM, hFT, htx, hs, hna, hnb, hn70, ht128⟩ := id hT
    obtain ⟨hz, hfl, hmc, hdg, hlf, ⟨fr, hg9, hfr⟩, hrr, -, -, -⟩ := id hM
    refine lv_iload_n hx hb dX4_digest_131 rfl (lv_at hl 0 rfl) ?_
    refine lv_aload_n hx hb dX4_digest_132 rfl (lv_at hl 1 rfl) ?_
    refine va_get (ci := 5) (C := RX4) (T := TX4) (N := 10) (v := .ref a) hx hb hts (by decide +kernel) hown hK.1 (p1 hz) 0 rfl rfl 2 (by decide) (hts (.fieldLink RX4 16 "RadixbenchModel" "text" "Ljava/lang/String;") (by decide +kernel)) (fun _ h9 => h9) htx dX4_digest_133 ?_
    refine jp_V (As := []) (rest := [.int (nI k)]) C0 hl hK hS hA (zat hZ hS hAb) (c_sLen l g b0 H a b n t hs) gX4_digest_J0_length_8abf5 rfl ⟨rfl, rfl⟩ (j_srecv hK hs) ⟨rfl, (show hd_ok yJ0_length_8abf5 0 from ⟨by decide, by decide, by decide +kernel⟩)⟩ ⟨Nat.le_of_ble_eq_true rfl, Nat.le_of_ble_eq_true rfl⟩ rfl (Nat.le_of_ble_eq_true rfl) ⟨by show _ ≤ 2087; omega, by show _ ≤ 9996; omega⟩ dX4_digest_136 (fun locs hS => ?_)
    refine lv_icmp_ge (tgt := 166) hx hb dX4_digest_139 (by decide) (fun h1 => ?_) (fun h1 => ?_)
    · skip
      have h2 := le_n (by omega) h1
      have h3 : k = n := by omega
      subst h3
      exact K fs ls H _ hT hS (lv_sub hl [1] rfl)
    · skip
      have hlt := nle_n (by omega) h1
      refine lv_aload_n hx hb dX4_digest_142 rfl (lv_at hl 1 rfl) ?_
      refine lv_aload_n hx hb dX4_digest_143 rfl (lv_at hl 1 rfl) ?_
      refine va_get (ci := 5) (C := RX4) (T := TX4) (N := 10) (v := .ref a) hx hb hts (by decide +kernel) hown hK.1 (p1 hz) 0 rfl rfl 2 (by decide) (hts (.fieldLink RX4 16 "RadixbenchModel" "text" "Ljava/lang/String;") (by decide +kernel)) (fun _ h9 => h9) htx dX4_digest_144 ?_
      refine lv_iload_n hx hb dX4_digest_147 rfl (lv_at hl 0 rfl) ?_
      refine jp_V (As := [.int (nI k)]) (rest := [.ref z0]) C0 hl hK hS hA (zat hZ hS hAb) (c_sCharAt l g b0 H a b n t hs k hlt (by omega) (ht128 k hlt)) gX4_digest_J0_charAt_5068e rfl ⟨rfl, rfl⟩ (j_srecv hK hs) ⟨rfl, (show hd_ok yJ0_charAt_5068e 1 from ⟨by decide, by decide, by decide +kernel⟩)⟩ ⟨Nat.le_of_ble_eq_true rfl, Nat.le_of_ble_eq_true rfl⟩ rfl (Nat.le_of_ble_eq_true rfl) ⟨by show _ ≤ 2087; omega, by show _ ≤ 9996; omega⟩ dX4_digest_148 (fun locs hS => ?_)
      refine lv_bipush (v := nI 36) hx hb dX4_digest_151 (by decide) ?_
      refine cp_S (As := [.int (nI (t k)), .int (nI 36)]) (rest := [.ref z0]) C0 hl hK hS hA (c_digitOf l g H (t k) (ht128 k hlt) (nI 36)) gX4_digest_X4_digitOf rfl ⟨rfl, rfl⟩ (show hd_ok yX4_digitOf 2 from ⟨by decide, by decide, by decide +kernel⟩) ⟨Nat.le_of_ble_eq_true rfl, Nat.le_of_ble_eq_true rfl⟩ rfl (Nat.le_of_ble_eq_true rfl) ⟨by show _ ≤ 2087; omega, by show _ ≤ 9996; omega⟩ dX4_digest_153 (fun locs hS => ?_)
      refine lv_i2l (v := (dgO (t k) (nI 36)).toInt64) hx hb dX4_digest_156 (rfl) ?_
      refine jn_V (As := [.long ((dgO (t k) (nI 36)).toInt64)]) (rest := []) C0 hl hK hS hA (fun q h => by rw [show q = z0 from h]; exact hmA _ (Or.inl rfl)) (zat hZ hS hAb) (c_add l g b0 H z0 mc lf dg fs rr V a b n t hT (fun q h => by rw [show q = z0 from h]; exact hmb _ (Or.inl rfl)) ((dgO (t k) (nI 36)).toInt64)) gX4_digest_X4_add rfl ⟨rfl, rfl⟩ ((va_recv hK.1 (p1 hz) (ci := 5) (q0 := 0) rfl rfl)) ⟨rfl, (show hd_ok yX4_add 1 from ⟨by decide, by decide, by decide +kernel⟩)⟩ ⟨Nat.le_of_ble_eq_true rfl, Nat.le_of_ble_eq_true rfl⟩ rfl (Nat.le_of_ble_eq_true rfl) ⟨by show _ ≤ 2087; omega, by show _ ≤ 9996; omega⟩ dX4_digest_157 (fun v HA9 locs hv hzz hka9 hS => ?_)
      obtain ⟨rfl, fs, hT⟩ := hv
      obtain ⟨hM, hFT, htx, hs, hna, hnb, hn70, ht128⟩ := id hT
      obtain ⟨hz, hfl, hmc, hdg, hlf, ⟨fr, hg9, hfr⟩, hrr, -, -, -⟩ := id hM
      refine W.widen (k := c9) (n := s9) (by omega) (by omega) ?_
      refine lv_iinc (v := nI (k + 1)) (lv' := [(1, .int (nI (k + 1))), (0, .ref z0)]) hx hb dX4_digest_160 hl (k := 0) rfl (nI_1 _) (by decide) rfl (fun ls hl => ?_)
      refine lv_goto (tgt := 131) hx hb dX4_digest_163 (by decide) ?_
      exact ih (k + 1) fs hlt (by omega) ls HA9 _ hT hS (lv_sub hl [0, 1] rfl)
set_option maxHeartbeats 4000000 in
set_option maxRecDepth 100000 in
theorem L_dg4 (C0 : Cx p s m args meth c RX4 cX4_digest 3 (some .long) wsX4_digest) (hK : KK g s) (hZ : ZW g b0 s s.heap) (hA : ∀ q, s.heap.size ≤ q → A q) (hAb : ∀ q, A q → b0 ≤ q) {z0 mc lf dg a b n : Nat} {rr V : Nat → Nat} {t : Nat → Nat} (hmb : ∀ q : Nat, zM z0 mc lf dg q → b0 ≤ q) (hmA : ∀ q, zM z0 mc lf dg q → A q) {c9 s9 : Nat} (hc9 : c9 + 104 ≤ 2087) (hs9 : s9 + 2064 ≤ 9996)
    (K : ∀ (fs : List Value) (ls : Array Slot) (H : Heap) (locs : List Loc), MT g H z0 mc lf dg fs rr V a b n t → va_S A s.heap H locs → lv_has ls 3 [(0, .ref z0)] → W p l e rmX4_digest s m args below meth c H locs (c9 + 26 * 4) (s9 + 516 * 4) Q (F0 m 221 ls [])) :
    ∀ (n9 k : Nat) (fs : List Value), k ≤ 4 → 4 - k < n9 → ∀ (ls : Array Slot) (H : Heap) (locs : List Loc), MT g H z0 mc lf dg fs rr V a b n t → va_S A s.heap H locs → lv_has ls 3 [(1, .int (nI k)), (0, .ref z0)] → W p l e rmX4_digest s m args below meth c H locs (c9 + 26 * k) (s9 + 516 * k) Q (F0 m 168 ls []) := by
  obtain ⟨hx, hb, hr, hml, hown, hts, hlk⟩ := id C0
  intro n9
  induction n9 with
  | zero => intro k fs _ h; exact absurd h (Nat.not_lt_zero _)
  | succ n9 ih =>
    intro k fs hk9 hn9 ls H locs hT hS hl
    obtain ⟨hM, hFT, htx, hs, hna, hnb, hn70, ht128⟩ := id hT
    obtain ⟨hz, hfl, hmc, hdg, hlf, ⟨fr, hg9, hfr⟩, hrr, -, -, -⟩ := id hM
    refine lv_iload_n hx hb dX4_digest_168 rfl (lv_at hl 0 rfl) ?_
    refine lv_iconst (v := nI 4) hx hb dX4_digest_169 (by decide) ?_
    refine lv_icmp_ge (tgt := 221) hx hb dX4_digest_170 (by decide) (fun h1 => ?_) (fun h1 => ?_)
    · skip
      have h2 := le_n (by omega) h1
      obtain rfl : k = 4 := by omega
      exact K fs ls H _ hT hS (lv_sub hl [1] rfl)
    · skip
      have hlt := nle_n (by omega) h1
      refine lv_aload_n hx hb dX4_digest_173 rfl (lv_at hl 1 rfl) ?_
      refine lv_aload_n hx hb dX4_digest_174 rfl (lv_at hl 1 rfl) ?_
      refine lv_bipush (v := nI 10) hx hb dX4_digest_175 (by decide) ?_
      refine lv_iload_n hx hb dX4_digest_177 rfl (lv_at hl 0 rfl) ?_
      refine lv_iconst (v := nI 1) hx hb dX4_digest_178 (by decide) ?_
      refine tp_i (y := bI true) (rfl) ?_
      refine jn_V (As := [.int (nI 10), .int (nI k), .int (bI true)]) (rest := [.ref z0]) C0 hl hK hS hA (fun q h => absurd h id) (zat hZ hS hAb) (c_wouldNow l g b0 H z0 _ a b n t hz htx hs hn70 ht128 10 k (by decide) hlt true) gX4_digest_X4_wouldNow rfl ⟨rfl, rfl⟩ ((va_recv hK.1 (p1 hz) (ci := 5) (q0 := 0) rfl rfl)) ⟨rfl, (show hd_ok yX4_wouldNow 3 from ⟨by decide, by decide, by decide +kernel⟩)⟩ ⟨Nat.le_of_ble_eq_true rfl, Nat.le_of_ble_eq_true rfl⟩ rfl (Nat.le_of_ble_eq_true rfl) ⟨by show _ ≤ 2087; omega, by show _ ≤ 9996; omega⟩ dX4_digest_179 (fun v HN10 locs hv hzz hkn10 hS => ?_)
      obtain ⟨rv, rfl⟩ := hv
      have hT := hT.same (fun q h => hkn10 q h (fun z => z))
      obtain ⟨hM, hFT, htx, hs, hna, hnb, hn70, ht128⟩ := id hT
      obtain ⟨hz, hfl, hmc, hdg, hlf, ⟨fr, hg9, hfr⟩, hrr, -, -, -⟩ := id hM
      refine lv_i2l (v := rv.toInt64) hx hb dX4_digest_182 (rfl) ?_
      refine jn_V (As := [.long rv.toInt64]) (rest := []) C0 hl hK hS hA (fun q h => by rw [show q = z0 from h]; exact hmA _ (Or.inl rfl)) (zat hZ hS hAb) (c_add l g b0 HN10 z0 mc lf dg fs rr V a b n t hT (fun q h => by rw [show q = z0 from h]; exact hmb _ (Or.inl rfl)) rv.toInt64) gX4_digest_X4_add rfl ⟨rfl, rfl⟩ ((va_recv hK.1 (p1 hz) (ci := 5) (q0 := 0) rfl rfl)) ⟨rfl, (show hd_ok yX4_add 1 from ⟨by decide, by decide, by decide +kernel⟩)⟩ ⟨Nat.le_of_ble_eq_true rfl, Nat.le_of_ble_eq_true rfl⟩ rfl (Nat.le_of_ble_eq_true rfl) ⟨by show _ ≤ 2087; omega, by show _ ≤ 9996; omega⟩ dX4_digest_183 (fun v HA11 locs hv hzz hka11 hS => ?_)
      obtain ⟨rfl, fs, hT⟩ := hv
      obtain ⟨hM, hFT, htx, hs, hna, hnb, hn70, ht128⟩ := id hT
      obtain ⟨hz, hfl, hmc, hdg, hlf, ⟨fr, hg9, hfr⟩, hrr, -, -, -⟩ := id hM
      refine W.widen (k := c9 + 26 * k + 4) (n := s9 + 516 * k + 16) (by omega) (by omega) ?_
      refine lv_aload_n hx hb dX4_digest_186 rfl (lv_at hl 1 rfl) ?_
      refine lv_aload_n hx hb dX4_digest_187 rfl (lv_at hl 1 rfl) ?_
      refine lv_bipush (v := nI 10) hx hb dX4_digest_188 (by decide) ?_
      refine lv_iload_n hx hb dX4_digest_190 rfl (lv_at hl 0 rfl) ?_
      refine lv_iconst (v := nI 0) hx hb dX4_digest_191 (by decide) ?_
      refine tp_i (y := bI false) (rfl) ?_
      refine jn_V (As := [.int (nI 10), .int (nI k), .int (bI false)]) (rest := [.ref z0]) C0 hl hK hS hA (fun q h => absurd h id) (zat hZ hS hAb) (c_wouldNow l g b0 HA11 z0 _ a b n t hz htx hs hn70 ht128 10 k (by decide) hlt false) gX4_digest_X4_wouldNow rfl ⟨rfl, rfl⟩ ((va_recv hK.1 (p1 hz) (ci := 5) (q0 := 0) rfl rfl)) ⟨rfl, (show hd_ok yX4_wouldNow 3 from ⟨by decide, by decide, by decide +kernel⟩)⟩ ⟨Nat.le_of_ble_eq_true rfl, Nat.le_of_ble_eq_true rfl⟩ rfl (Nat.le_of_ble_eq_true rfl) ⟨by show _ ≤ 2087; omega, by show _ ≤ 9996; omega⟩ dX4_digest_192 (fun v HN12 locs hv hzz hkn12 hS => ?_)
      obtain ⟨rv, rfl⟩ := hv
      have hT := hT.same (fun q h => hkn12 q h (fun z => z))
      obtain ⟨hM, hFT, htx, hs, hna, hnb, hn70, ht128⟩ := id hT
      obtain ⟨hz, hfl, hmc, hdg, hlf, ⟨fr, hg9, hfr⟩, hrr, -, -, -⟩ := id hM
      refine lv_i2l (v := rv.toInt64) hx hb dX4_digest_195 (rfl) ?_
      refine jn_V (As := [.long rv.toInt64]) (rest := []) C0 hl hK hS hA (fun q h => by rw [show q = z0 from h]; exact hmA _ (Or.inl rfl)) (zat hZ hS hAb) (c_add l g b0 HN12 z0 mc lf dg fs rr V a b n t hT (fun q h => by rw [show q = z0 from h]; exact hmb _ (Or.inl rfl)) rv.toInt64) gX4_digest_X4_add rfl ⟨rfl, rfl⟩ ((va_recv hK.1 (p1 hz) (ci := 5) (q0 := 0) rfl rfl)) ⟨rfl, (show hd_ok yX4_add 1 from ⟨by decide, by decide, by decide +kernel⟩)⟩ ⟨Nat.le_of_ble_eq_true rfl, Nat.le_of_ble_eq_true rfl⟩ rfl (Nat.le_of_ble_eq_true rfl) ⟨by show _ ≤ 2087; omega, by show _ ≤ 9996; omega⟩ dX4_digest_196 (fun v HA13 locs hv hzz hka13 hS => ?_)
      obtain ⟨rfl, fs, hT⟩ := hv
      obtain ⟨hM, hFT, htx, hs, hna, hnb, hn70, ht128⟩ := id hT
      obtain ⟨hz, hfl, hmc, hdg, hlf, ⟨fr, hg9, hfr⟩, hrr, -, -, -⟩ := id hM
      refine W.widen (k := c9 + 26 * k + 8) (n := s9 + 516 * k + 32) (by omega) (by omega) ?_
      refine lv_aload_n hx hb dX4_digest_199 rfl (lv_at hl 1 rfl) ?_
      refine lv_aload_n hx hb dX4_digest_200 rfl (lv_at hl 1 rfl) ?_
      refine lv_iconst (v := nI 0) hx hb dX4_digest_201 (by decide) ?_
      refine lv_bipush (v := nI 7) hx hb dX4_digest_202 (by decide) ?_
      refine lv_iload_n hx hb dX4_digest_204 rfl (lv_at hl 0 rfl) ?_
      refine jn_V (As := [.int (nI 0), .int (nI 7), .int (nI k)]) (rest := [.ref z0]) C0 hl hK hS hA (fun q h => absurd h id) (zat hZ hS hAb) (c_wrNow l g b0 HA13 z0 mc lf dg fs rr V hM 0 7 k (by decide) (by decide) hlt) gX4_digest_X4_writtenNow rfl ⟨rfl, rfl⟩ ((va_recv hK.1 (p1 hz) (ci := 5) (q0 := 0) rfl rfl)) ⟨rfl, (show hd_ok yX4_writtenNow 3 from ⟨by decide, by decide, by decide +kernel⟩)⟩ ⟨Nat.le_of_ble_eq_true rfl, Nat.le_of_ble_eq_true rfl⟩ rfl (Nat.le_of_ble_eq_true rfl) ⟨by show _ ≤ 2087; omega, by show _ ≤ 9996; omega⟩ dX4_digest_205 (fun v HN14 locs hv hzz hkn14 hS => ?_)
      obtain ⟨q6, b6, k6, u, rfl, hq6, hb6, hTT, hs6⟩ := hv
      have hT := hT.same (fun q h => hkn14 q h (fun z => z))
      obtain ⟨hM, hFT, htx, hs, hna, hnb, hn70, ht128⟩ := id hT
      obtain ⟨hz, hfl, hmc, hdg, hlf, ⟨fr, hg9, hfr⟩, hrr, -, -, -⟩ := id hM
      refine jp_V (As := []) (rest := [.ref z0]) C0 hl hK hS hA (zat hZ hS hAb) (c_sLen l g b0 HN14 q6 b6 k6 u hs6) gX4_digest_J0_length_8abf5 rfl ⟨rfl, rfl⟩ (j_srecv hK hs6) ⟨rfl, (show hd_ok yJ0_length_8abf5 0 from ⟨by decide, by decide, by decide +kernel⟩)⟩ ⟨Nat.le_of_ble_eq_true rfl, Nat.le_of_ble_eq_true rfl⟩ rfl (Nat.le_of_ble_eq_true rfl) ⟨by show _ ≤ 2087; omega, by show _ ≤ 9996; omega⟩ dX4_digest_208 (fun locs hS => ?_)
      refine lv_i2l (v := (nI k6).toInt64) hx hb dX4_digest_211 (rfl) ?_
      refine jn_V (As := [.long ((nI k6).toInt64)]) (rest := []) C0 hl hK hS hA (fun q h => by rw [show q = z0 from h]; exact hmA _ (Or.inl rfl)) (zat hZ hS hAb) (c_add l g b0 HN14 z0 mc lf dg fs rr V a b n t hT (fun q h => by rw [show q = z0 from h]; exact hmb _ (Or.inl rfl)) ((nI k6).toInt64)) gX4_digest_X4_add rfl ⟨rfl, rfl⟩ ((va_recv hK.1 (p1 hz) (ci := 5) (q0 := 0) rfl rfl)) ⟨rfl, (show hd_ok yX4_add 1 from ⟨by decide, by decide, by decide +kernel⟩)⟩ ⟨Nat.le_of_ble_eq_true rfl, Nat.le_of_ble_eq_true rfl⟩ rfl (Nat.le_of_ble_eq_true rfl) ⟨by show _ ≤ 2087; omega, by show _ ≤ 9996; omega⟩ dX4_digest_212 (fun v HA15 locs hv hzz hka15 hS => ?_)
      obtain ⟨rfl, fs, hT⟩ := hv
      obtain ⟨hM, hFT, htx, hs, hna, hnb, hn70, ht128⟩ := id hT
      obtain ⟨hz, hfl, hmc, hdg, hlf, ⟨fr, hg9, hfr⟩, hrr, -, -, -⟩ := id hM
      refine lv_iinc (v := nI (k + 1)) (lv' := [(1, .int (nI (k + 1))), (0, .ref z0)]) hx hb dX4_digest_215 hl (k := 0) rfl (nI_1 _) (by decide) rfl (fun ls hl => ?_)
      refine lv_goto (tgt := 168) hx hb dX4_digest_218 (by decide) ?_
      refine W.widen (k := c9 + 26 * (k + 1)) (n := s9 + 516 * (k + 1)) (by omega) (by omega) ?_
      exact ih (k + 1) fs hlt (by omega) ls HA15 _ hT hS (lv_sub hl [0, 1] rfl)
set_option maxHeartbeats 4000000 in
set_option maxRecDepth 100000 in
/-- digest(): that it ends -/
theorem c_digest (l : Launch) (g : Gx) (b0 : Nat) (H0 : Heap) (z0 mc lf dg : Nat) (fs : List Value) (rr V : Nat → Nat) (a b n : Nat) (t : Nat → Nat) (hT : MT g H0 z0 mc lf dg fs rr V a b n t) (hmb : ∀ q : Nat, zM z0 mc lf dg q → b0 ≤ q) : Met l yX4_digest wsX4_digest rmX4_digest (va_Pc [.ref z0] (hJ g b0 H0)) (nQ H0 (zM z0 mc lf dg) (fun r H1 => (∃ rv : Int64, r = some (.long rv)) ∧ ∃ fs2, MT g H1 z0 mc lf dg fs2 rr V a b n t)) 2087 9996 (fun q => (zM z0 mc lf dg) q ∨ H0.size ≤ q) := by
  refine cx_met (own := RX4) (cc := cX4_digest) (maxL := 3) (by decide) rfl rfl (Nat.le_of_ble_eq_true rfl) ?_
  intro p e s m below meth c ls C0 hB0 hnm hl
  obtain ⟨hH, hK, hZ⟩ := hB0
  obtain ⟨hx, hb, hr, hml, hown, hts, hlk⟩ := id C0
  subst hH
  have hS : va_S (fun q => (zM z0 mc lf dg) q ∨ s.heap.size ≤ q) s.heap s.heap [] := va_S.rf
  have hA : ∀ q : Nat, s.heap.size ≤ q → (fun q => (zM z0 mc lf dg) q ∨ s.heap.size ≤ q) q := fun q h => Or.inr h
  have h0Z := hZ.1
  have hAb : ∀ q : Nat, (fun q => (zM z0 mc lf dg) q ∨ s.heap.size ≤ q) q → b0 ≤ q := fun q h => h.elim (hmb q) (fun h => Nat.le_trans h0Z h)
  have hl : lv_has ls 3 [(0, .ref z0)] := hl
  obtain ⟨hM, hFT, htx, hs, hna, hnb, hn70, ht128⟩ := id hT
  obtain ⟨hz, hfl, -⟩ := id hM
  refine lv_aload_n hx hb dX4_digest_0 rfl (lv_at hl 0 rfl) ?_
  refine lv_iconst (v := nI 0) hx hb dX4_digest_1 (by decide) ?_
  refine w_putf (ci := 5) (C := RX4) (T := TX4) (N := 10) (ty := .int) hx hb hts (by decide +kernel) tyX4 tyX4_ok nmX4 hown hK hS hz (Or.inl (Or.inl rfl)) rfl 0 (by decide) (hts (.fieldLink RX4 27 "RadixbenchModel" "thrown" "I") (by decide +kernel)) (fun _ h9 => h9) rfl (by decide +kernel) rfl rfl (by rw [hfl]; decide) dX4_digest_2 (fun H1 locs hz1 hs1 ho1 hS => ?_)
  have hM1 := hM.fset (by decide) (by decide) (by decide) ho1 hz1
  obtain ⟨-, hfl1, hmc, hdg, hlf, ⟨fr, hg9, hfr⟩, hrr, -, -, -⟩ := id hM1
  have htx1 : (fs.set 0 (.int (nI 0)))[2]? = some (.ref a) := by rw [List.getElem?_set_ne (by decide)]; exact htx
  have hs1 := hs.kept (ho1 _ (fun z => hna (Or.inl z))) (ho1 _ (fun z => hnb (Or.inl z)))
  have hFT1 : FT (fs.set 0 (.int (nI 0))) := hFT.i (by decide)
  have hmA : ∀ q, zM z0 mc lf dg q → (fun q => (zM z0 mc lf dg) q ∨ s.heap.size ≤ q) q := fun q h => Or.inl h
  refine lv_aload_n hx hb dX4_digest_5 rfl (lv_at hl 0 rfl) ?_
  refine lv_ldc2 (v := lN 8111) hx hb hown (hts (.constantLong RX4 270 (8111)) (by decide +kernel)) dX4_digest_6 ?_
  refine w_putf (ci := 5) (C := RX4) (T := TX4) (N := 10) (ty := .long) hx hb hts (by decide +kernel) tyX4 tyX4_ok nmX4 hown hK hS hz1 (Or.inl (Or.inl rfl)) rfl 9 (by decide) (hts (.fieldLink RX4 265 "RadixbenchModel" "sum" "J") (by decide +kernel)) (fun _ h9 => h9) rfl (by decide +kernel) rfl rfl (by rw [hfl1]; decide) dX4_digest_9 (fun H2 locs hz2 hs2x ho2 hS => ?_)
  have hT : MT g H2 z0 mc lf dg _ rr V a b n t := ⟨hM1.fset (by decide) (by decide) (by decide) ho2 hz2, hFT1.l, by rw [List.getElem?_set_ne (by decide)]; exact htx1, hs1.kept (ho2 _ (fun z => hna (Or.inl z))) (ho2 _ (fun z => hnb (Or.inl z))), hna, hnb, hn70, ht128⟩
  refine lv_iconst (v := nI 0) hx hb dX4_digest_12 (by decide) ?_
  refine lv_istore_n (lv' := [(1, .int (nI 0)), (0, .ref z0)]) hx hb dX4_digest_13 rfl hl (by decide) rfl (fun ls hl => ?_)
  refine W.widen (k := 0) (n := 0) (by decide) (by decide) ?_
  refine L_dg1 C0 hK hZ hA hAb hmb hmA (c9 := 0) (s9 := 0) (by decide) (by decide) (fun fs ls H locs hT hS hl => ?_) (5 + 1) 0 _ (Nat.zero_le _) (by omega) ls H2 _ hT hS (lv_sub hl [0, 1] rfl)
  refine lv_iconst (v := nI 0) hx hb dX4_digest_35 (by decide) ?_
  refine lv_istore_n (lv' := [(1, .int (nI 0)), (0, .ref z0)]) hx hb dX4_digest_36 rfl hl (by decide) rfl (fun ls hl => ?_)
  refine W.widen (k := 0 + 8 * 0) (n := 0 + 32 * 0) (by decide) (by decide) ?_
  refine L_dg2 C0 hK hZ hA hAb hmb hmA (c9 := 0) (s9 := 0) (by decide) (by decide) (fun fs ls H locs hT hS hl => ?_) (8 + 1) 0 _ (Nat.zero_le _) (by omega) ls H _ hT hS (lv_sub hl [0, 1] rfl)
  refine lv_iconst (v := nI 0) hx hb dX4_digest_129 (by decide) ?_
  refine lv_istore_n (lv' := [(1, .int (nI 0)), (0, .ref z0)]) hx hb dX4_digest_130 rfl hl (by decide) rfl (fun ls hl => ?_)
  refine W.widen (k := 64) (n := 256) (by decide) (by decide) ?_
  refine L_dg3 C0 hK hZ hA hAb hmb hmA (c9 := 64) (s9 := 256) (by decide) (by decide) (fun fs ls H locs hT hS hl => ?_) (n + 1) 0 _ (Nat.zero_le _) (by omega) ls H _ hT hS (lv_sub hl [0, 1] rfl)
  refine lv_iconst (v := nI 0) hx hb dX4_digest_166 (by decide) ?_
  refine lv_istore_n (lv' := [(1, .int (nI 0)), (0, .ref z0)]) hx hb dX4_digest_167 rfl hl (by decide) rfl (fun ls hl => ?_)
  refine W.widen (k := 64 + 26 * 0) (n := 256 + 516 * 0) (by decide) (by decide) ?_
  refine L_dg4 C0 hK hZ hA hAb hmb hmA (c9 := 64) (s9 := 256) (by decide) (by decide) (fun fs ls H locs hT hS hl => ?_) (4 + 1) 0 _ (Nat.zero_le _) (by omega) ls H _ hT hS (lv_sub hl [0, 1] rfl)
  refine W.widen (k := 168) (n := 2320) (by decide) (by decide) ?_
  obtain ⟨hM, hFT, htx, hs, hna, hnb, hn70, ht128⟩ := id hT
  obtain ⟨hz, hfl, hmc, hdg, hlf, ⟨fr, hg9, hfr⟩, hrr, -, -, -⟩ := id hM
  refine lv_aload_n hx hb dX4_digest_221 rfl (lv_at hl 0 rfl) ?_
  refine lv_aload_n hx hb dX4_digest_222 rfl (lv_at hl 0 rfl) ?_
  refine lv_bipush (v := nI 16) hx hb dX4_digest_223 (by decide) ?_
  refine lv_iconst (v := nI 2) hx hb dX4_digest_225 (by decide) ?_
  refine jn_V (As := [.int (nI 16), .int (nI 2)]) (rest := [.ref z0]) C0 hl hK hS hA (fun q h => absurd h id) (zat hZ hS hAb) (c_sameNow l g b0 H z0 mc lf dg _ rr V a b n t hT 16 2 (by decide) (by decide)) gX4_digest_X4_sameNow rfl ⟨rfl, rfl⟩ ((va_recv hK.1 (p1 hz) (ci := 5) (q0 := 0) rfl rfl)) ⟨rfl, (show hd_ok yX4_sameNow 2 from ⟨by decide, by decide, by decide +kernel⟩)⟩ ⟨Nat.le_of_ble_eq_true rfl, Nat.le_of_ble_eq_true rfl⟩ rfl (Nat.le_of_ble_eq_true rfl) ⟨by decide, by decide⟩ dX4_digest_226 (fun v HN16 locs hv hzz hkn16 hS => ?_)
  obtain ⟨rv, rfl⟩ : ∃ rv : Int32, v = some (.int rv) := by rcases hv with ⟨-, h⟩ | ⟨-, h⟩; exact ⟨_, h⟩; exact ⟨_, h⟩
  have hT := hT.same (fun q h => hkn16 q h (fun z => z))
  obtain ⟨hM, hFT, htx, hs, hna, hnb, hn70, ht128⟩ := id hT
  obtain ⟨hz, hfl, hmc, hdg, hlf, ⟨fr, hg9, hfr⟩, hrr, -, -, -⟩ := id hM
  refine lv_i2l (v := rv.toInt64) hx hb dX4_digest_229 (rfl) ?_
  refine jn_V (As := [.long rv.toInt64]) (rest := []) C0 hl hK hS hA (fun q h => by rw [show q = z0 from h]; exact hmA _ (Or.inl rfl)) (zat hZ hS hAb) (c_add l g b0 HN16 z0 mc lf dg fs rr V a b n t hT (fun q h => by rw [show q = z0 from h]; exact hmb _ (Or.inl rfl)) rv.toInt64) gX4_digest_X4_add rfl ⟨rfl, rfl⟩ ((va_recv hK.1 (p1 hz) (ci := 5) (q0 := 0) rfl rfl)) ⟨rfl, (show hd_ok yX4_add 1 from ⟨by decide, by decide, by decide +kernel⟩)⟩ ⟨Nat.le_of_ble_eq_true rfl, Nat.le_of_ble_eq_true rfl⟩ rfl (Nat.le_of_ble_eq_true rfl) ⟨by decide, by decide⟩ dX4_digest_230 (fun v HA17 locs hv hzz hka17 hS => ?_)
  obtain ⟨rfl, fs, hT⟩ := hv
  obtain ⟨hM, hFT, htx, hs, hna, hnb, hn70, ht128⟩ := id hT
  obtain ⟨hz, hfl, hmc, hdg, hlf, ⟨fr, hg9, hfr⟩, hrr, -, -, -⟩ := id hM
  refine W.widen (k := 179) (n := 2364) (by decide) (by decide) ?_
  refine lv_aload_n hx hb dX4_digest_233 rfl (lv_at hl 0 rfl) ?_
  refine lv_aload_n hx hb dX4_digest_234 rfl (lv_at hl 0 rfl) ?_
  refine cn_V (As := []) (rest := [.ref z0]) C0 hl hK hS hA (fun z h => Or.inl (Or.inr (Or.inr h))) (c_isSoundNow l g HA17 z0 mc lf dg 1908 _ rr V hM (scost_le (fun i h => (hrr i h).2.1))) gX4_digest_X4_isSoundNow rfl ⟨rfl, rfl⟩ ((va_recv hK.1 (p1 hz) (ci := 5) (q0 := 0) rfl rfl)) ⟨rfl, (show hd_ok yX4_isSoundNow 0 from ⟨by decide, by decide, by decide +kernel⟩)⟩ ⟨Nat.le_of_ble_eq_true rfl, Nat.le_of_ble_eq_true rfl⟩ rfl (Nat.le_of_ble_eq_true rfl) ⟨by decide, by decide⟩ dX4_digest_235 (fun r1 HS18 locs hv hzz hks hS => ?_)
  obtain ⟨b1, f1, d1v, rfl, hl1, hd1⟩ := hv
  have hT : MT g HS18 z0 mc lf dg _ rr V a b n t := ⟨hM.keep (fun q h1 h2 => hks q h1 h2) hl1 hd1, hFT, htx, hs.kept (hks _ hs.lt (fun z => hna (Or.inr (Or.inr z)))) (hks _ hs.2.lt (fun z => hnb (Or.inr (Or.inr z)))), hna, hnb, hn70, ht128⟩
  obtain ⟨hM, hFT, htx, hs, hna, hnb, hn70, ht128⟩ := id hT
  obtain ⟨hz, hfl, hmc, hdg, hlf, ⟨fr, hg9, hfr⟩, hrr, -, -, -⟩ := id hM
  refine W.widen (k := 2087) (n := 9996) (by decide) (by decide) ?_
  refine lv_if_eq (tgt := 245) hx hb dX4_digest_238 (by decide) (fun h5 => ?_) (fun h5 => ?_)
  · skip
    refine lv_lconst (v := lN 0) hx hb dX4_digest_245 rfl ?_
    refine jn_V (As := [.long (lN 0)]) (rest := []) C0 hl hK hS hA (fun q h => by rw [show q = z0 from h]; exact hmA _ (Or.inl rfl)) (zat hZ hS hAb) (c_add l g b0 HS18 z0 mc lf dg fs rr V a b n t hT (fun q h => by rw [show q = z0 from h]; exact hmb _ (Or.inl rfl)) (lN 0)) gX4_digest_X4_add rfl ⟨rfl, rfl⟩ ((va_recv hK.1 (p1 hz) (ci := 5) (q0 := 0) rfl rfl)) ⟨rfl, (show hd_ok yX4_add 1 from ⟨by decide, by decide, by decide +kernel⟩)⟩ ⟨Nat.le_of_ble_eq_true rfl, Nat.le_of_ble_eq_true rfl⟩ rfl (Nat.le_of_ble_eq_true rfl) ⟨by decide, by decide⟩ dX4_digest_246 (fun v HA19 locs hv hzz hka19 hS => ?_)
    obtain ⟨rfl, fs, hT⟩ := hv
    obtain ⟨hM, hFT, htx, hs, hna, hnb, hn70, ht128⟩ := id hT
    obtain ⟨hz, hfl, hmc, hdg, hlf, ⟨fr, hg9, hfr⟩, hrr, -, -, -⟩ := id hM
    refine W.widen (k := 2087) (n := 9996) (by decide) (by decide) ?_
    obtain ⟨-, -, -, -, -, y9, h9⟩ := id hFT
    refine lv_aload_n hx hb dX4_digest_249 rfl (lv_at hl 0 rfl) ?_
    refine va_get (ci := 5) (C := RX4) (T := TX4) (N := 10) (v := .long y9) hx hb hts (by decide +kernel) hown hK.1 (p1 hz) 0 rfl rfl 9 (by decide) (hts (.fieldLink RX4 265 "RadixbenchModel" "sum" "J") (by decide +kernel)) (fun _ h9 => h9) h9 dX4_digest_250 ?_
    exact rt_nl (mu := zM z0 mc lf dg) C0 ⟨⟨_, rfl⟩, _, hT⟩ hS rfl dX4_digest_253
  · skip
    refine lv_lconst (v := lN 1) hx hb dX4_digest_241 rfl ?_
    refine lv_goto (tgt := 246) hx hb dX4_digest_242 (by decide) ?_
    refine jn_V (As := [.long (lN 1)]) (rest := []) C0 hl hK hS hA (fun q h => by rw [show q = z0 from h]; exact hmA _ (Or.inl rfl)) (zat hZ hS hAb) (c_add l g b0 HS18 z0 mc lf dg fs rr V a b n t hT (fun q h => by rw [show q = z0 from h]; exact hmb _ (Or.inl rfl)) (lN 1)) gX4_digest_X4_add rfl ⟨rfl, rfl⟩ ((va_recv hK.1 (p1 hz) (ci := 5) (q0 := 0) rfl rfl)) ⟨rfl, (show hd_ok yX4_add 1 from ⟨by decide, by decide, by decide +kernel⟩)⟩ ⟨Nat.le_of_ble_eq_true rfl, Nat.le_of_ble_eq_true rfl⟩ rfl (Nat.le_of_ble_eq_true rfl) ⟨by decide, by decide⟩ dX4_digest_246 (fun v HA20 locs hv hzz hka20 hS => ?_)
    obtain ⟨rfl, fs, hT⟩ := hv
    obtain ⟨hM, hFT, htx, hs, hna, hnb, hn70, ht128⟩ := id hT
    obtain ⟨hz, hfl, hmc, hdg, hlf, ⟨fr, hg9, hfr⟩, hrr, -, -, -⟩ := id hM
    refine W.widen (k := 2087) (n := 9996) (by decide) (by decide) ?_
    obtain ⟨-, -, -, -, -, y9, h9⟩ := id hFT
    refine lv_aload_n hx hb dX4_digest_249 rfl (lv_at hl 0 rfl) ?_
    refine va_get (ci := 5) (C := RX4) (T := TX4) (N := 10) (v := .long y9) hx hb hts (by decide +kernel) hown hK.1 (p1 hz) 0 rfl rfl 9 (by decide) (hts (.fieldLink RX4 265 "RadixbenchModel" "sum" "J") (by decide +kernel)) (fun _ h9 => h9) h9 dX4_digest_250 ?_
    exact rt_nl (mu := zM z0 mc lf dg) C0 ⟨⟨_, rfl⟩, _, hT⟩ hS rfl dX4_digest_253
end M58

-- THE BUILDER: a text put behind
theorem cat_f {t u : Nat → Nat} {f : Nat → Int32} {n k : Nat} (hft : ∀ j, j < n → f j = nI (t j)) : ∀ j, j < n + k → va_cpy (fun j => nI (u j)) f 0 n k j = nI (tcat t n u j) := fun j hj => by
  unfold va_cpy tcat
  by_cases e : j < n
  · rw [if_neg (by omega), if_pos e]
    exact hft j e
  · rw [if_pos (by omega), if_neg e, Nat.zero_add]
theorem cat_fit {u : Nat → Nat} {f : Nat → Int32} {n k cap : Nat} (hu : ∀ j, j < k → u j < 128) (hfit : ∀ j, j < cap → fits .byte (.int (f j)) = true) : ∀ j, j < cap → fits .byte (.int (va_cpy (fun j => nI (u j)) f 0 n k j)) = true := fun j hj => by
  unfold va_cpy
  split
  · exact fits_n (hu _ (by omega))
  · exact hfit j hj
/-- a builder of n signs in cap places, and k more: its places, what it costs -/
def capT (n k cap : Nat) : Nat := if n + k ≤ cap then cap else ncap (n + k) cap
def celT (n k cap : Nat) : Nat := if n + k ≤ cap then 0 else 1
def sloT (n k cap : Nat) : Nat := if n + k ≤ cap then 0 else ncap (n + k) cap
section M48
variable {p : Program} {l : Launch} {e : Env} {s : State} {m : MethodId} {args : Array Value} {below : List Frame} {meth : Method} {c : Code} {H H0 : Heap} {locs : List Loc} {cells slots : Nat} {Q : State → Prop} {A : Nat → Prop} {g : Gx} {b0 : Nat}
abbrev rmJ5_inflateIfNeededFor_a7421 : Room := { frames := 1, cells := 0, slots := 0, locals := 20 }
set_option maxHeartbeats 4000000 in
set_option maxRecDepth 100000 in
theorem c_infl (l : Launch) (g : Gx) (b0 : Nat) (H0 : Heap) (a b cap n : Nat) (t : Nat → Nat) (hs : SB g a b cap n t H0) (sa sb k : Nat) (u : Nat → Nat) (hu : sS g sa sb k u H0) (hu9 : ∀ j, j < k → u j < 128) : Met l yJ5_inflateIfNeededFor_a7421 wsJ5_inflateIfNeededFor_a7421 rmJ5_inflateIfNeededFor_a7421 (va_Pc [.ref a, .ref sa] (hJ g b0 H0)) (pQ none H0) 0 0 (fun q => H0.size ≤ q) := by
  refine cx_met (own := RJ5) (cc := cJ5_inflateIfNeededFor_a7421) (maxL := 2) (by decide) rfl rfl (Nat.le_of_ble_eq_true rfl) ?_
  intro p e s m below meth c ls C0 hB0 hnm hl
  obtain ⟨hH, hK, hZ⟩ := hB0
  obtain ⟨hx, hb, hr, hml, hown, hts, hlk⟩ := id C0
  subst hH
  have hS : va_S (fun q => s.heap.size ≤ q) s.heap s.heap [] := va_S.rf
  have hA : ∀ q : Nat, s.heap.size ≤ q → (fun q => s.heap.size ≤ q) q := fun q h => h
  have h0Z := hZ.1
  have hAb : ∀ q : Nat, (fun q => s.heap.size ≤ q) q → b0 ≤ q := fun q h => Nat.le_trans h0Z h
  have hl : lv_has ls 2 [(0, .ref a), (1, .ref sa)] := hl
  obtain ⟨mb, f, hf, hg9, hft, hfit, hnc, hc4, hab⟩ := id hs
  refine va_gets hx hb (va_Z.narrow hZ.2.1 hAb) hS hown (hts (.fieldLink RJ5 18 "java/lang/String" "COMPACT_STRINGS" "Z") (by decide +kernel)) (fun _ h9 => h9) dJ5_inflateIfNeededFor_a7421_0 ?_
  refine lv_if_eq (tgt := 21) hx hb dJ5_inflateIfNeededFor_a7421_3 (by decide) (fun h1 => absurd h1 (by decide)) (fun h1 => ?_)
  refine lv_aload_n hx hb dJ5_inflateIfNeededFor_a7421_6 rfl (lv_at hl 0 rfl) ?_
  refine va_get (ci := 1) (C := RJ4) (T := TJ4) (N := 4) (v := .int 0) hx hb hts (by decide +kernel) hown hK.1 (p1 hf) 0 rfl rfl 1 (by decide) (hts (.fieldLink RJ5 22 "java/lang/AbstractStringBuilder" "coder" "B") (by decide +kernel)) (fun _ h9 => h9) rfl dJ5_inflateIfNeededFor_a7421_7 ?_
  refine lv_aload_n hx hb dJ5_inflateIfNeededFor_a7421_10 rfl (lv_at hl 1 rfl) ?_
  refine jp_V (As := []) (rest := [.int 0]) C0 hl hK hS hA (zat hZ hS hAb) (c_coder l g b0 s.heap sa sb k u hu) gJ5_inflateIfNeededFor_a7421_J0_coder_7d493 rfl ⟨rfl, rfl⟩ (j_srecv hK hu) ⟨rfl, (show hd_ok yJ0_coder_7d493 0 from ⟨by decide, by decide, by decide +kernel⟩)⟩ ⟨Nat.le_of_ble_eq_true rfl, Nat.le_of_ble_eq_true rfl⟩ rfl (Nat.le_of_ble_eq_true rfl) ⟨Nat.zero_le _, Nat.zero_le _⟩ dJ5_inflateIfNeededFor_a7421_11 (fun locs hS => ?_)
  refine lv_icmp_eq (tgt := 21) hx hb dJ5_inflateIfNeededFor_a7421_14 (by decide) (fun h2 => ?_) (fun h2 => absurd rfl h2)
  exact rt_pv C0 hS rfl dJ5_inflateIfNeededFor_a7421_21
abbrev rmJ0_getBytes_840e7 : Room := { frames := 1, cells := 0, slots := 0, locals := 60 }
set_option maxHeartbeats 4000000 in
set_option maxRecDepth 100000 in
theorem c_getB (l : Launch) (g : Gx) (b0 : Nat) (H0 : Heap) (b cap n : Nat) (f : Nat → Int32) (hg9 : va_at g.1 vwCl (b, .inl (g.2 4, cap, .inl f)) H0) (sa sb k : Nat) (u : Nat → Nat) (hu : sS g sa sb k u H0) (hu9 : ∀ j, j < k → u j < 128) (hnk : n + k ≤ cap) (hc : cap < 4096) (hmb : ∀ q : Nat, (fun q => q = b) q → b0 ≤ q) : Met l yJ0_getBytes_840e7 wsJ0_getBytes_840e7 rmJ0_getBytes_840e7 (va_Pc [.ref sa, .ref b, .int (nI n), .int 0] (hJ g b0 H0)) (nQ H0 (fun q => q = b) (fun r H1 => r = none ∧ va_at g.1 vwCl (b, .inl (g.2 4, cap, .inl (va_cpy (fun j => nI (u j)) f 0 n k))) H1)) 0 0 (fun q => (fun q => q = b) q ∨ H0.size ≤ q) := by
  refine cx_met (own := RJ0) (cc := cJ0_getBytes_840e7) (maxL := 4) (by decide) rfl rfl (Nat.le_of_ble_eq_true rfl) ?_
  intro p e s m below meth c ls C0 hB0 hnm hl
  obtain ⟨hH, hK, hZ⟩ := hB0
  obtain ⟨hx, hb, hr, hml, hown, hts, hlk⟩ := id C0
  subst hH
  have hS : va_S (fun q => (fun q => q = b) q ∨ s.heap.size ≤ q) s.heap s.heap [] := va_S.rf
  have hA : ∀ q : Nat, s.heap.size ≤ q → (fun q => (fun q => q = b) q ∨ s.heap.size ≤ q) q := fun q h => Or.inr h
  have h0Z := hZ.1
  have hAb : ∀ q : Nat, (fun q => (fun q => q = b) q ∨ s.heap.size ≤ q) q → b0 ≤ q := fun q h => h.elim (hmb q) (fun h => Nat.le_trans h0Z h)
  have hl : lv_has ls 4 [(0, .ref sa), (1, .ref b), (2, .int (nI n)), (3, .int 0)] := hl
  refine lv_aload_n hx hb dJ0_getBytes_840e7_0 rfl (lv_at hl 0 rfl) ?_
  refine jp_V (As := []) (rest := []) C0 hl hK hS hA (zat hZ hS hAb) (c_coder l g b0 s.heap sa sb k u hu) gJ0_getBytes_840e7_J0_coder_7d493 rfl ⟨rfl, rfl⟩ (j_srecv hK hu) ⟨rfl, (show hd_ok yJ0_coder_7d493 0 from ⟨by decide, by decide, by decide +kernel⟩)⟩ ⟨Nat.le_of_ble_eq_true rfl, Nat.le_of_ble_eq_true rfl⟩ rfl (Nat.le_of_ble_eq_true rfl) ⟨Nat.zero_le _, Nat.zero_le _⟩ dJ0_getBytes_840e7_1 (fun locs hS => ?_)
  refine lv_iload_n hx hb dJ0_getBytes_840e7_4 rfl (lv_at hl 3 rfl) ?_
  refine lv_icmp_ne (tgt := 28) hx hb dJ0_getBytes_840e7_5 (by decide) (fun h1 => absurd rfl h1) (fun h1 => ?_)
  refine lv_aload_n hx hb dJ0_getBytes_840e7_8 rfl (lv_at hl 0 rfl) ?_
  refine j_sval hx hb hts (by decide +kernel) hown hK hu (hts (.fieldLink RJ0 9 "java/lang/String" "value" "[B") (by decide +kernel)) dJ0_getBytes_840e7_9 ?_
  refine lv_iconst (v := nI 0) hx hb dJ0_getBytes_840e7_12 (by decide) ?_
  refine lv_aload_n hx hb dJ0_getBytes_840e7_13 rfl (lv_at hl 1 rfl) ?_
  refine lv_iload_n hx hb dJ0_getBytes_840e7_14 rfl (lv_at hl 2 rfl) ?_
  refine lv_iload_n hx hb dJ0_getBytes_840e7_15 rfl (lv_at hl 3 rfl) ?_
  refine lv_ishl hx hb dJ0_getBytes_840e7_16 ?_
  refine tp_i (y := nI n) (ishl0 _) ?_
  refine lv_aload_n hx hb dJ0_getBytes_840e7_17 rfl (lv_at hl 0 rfl) ?_
  refine j_sval hx hb hts (by decide +kernel) hown hK hu (hts (.fieldLink RJ0 9 "java/lang/String" "value" "[B") (by decide +kernel)) dJ0_getBytes_840e7_18 ?_
  refine j_blen hx hb hK (zat hZ hS hAb) hu.2 dJ0_getBytes_840e7_21 ?_
  refine f_copyb (n0 := k) (n1 := cap) (f := (fun j => nI (u j))) (f1 := f) (sp := 0) (dp := n) (n := k) hx hb (by rw [hml]; exact hl.1.symm) hown (hts (.methodLink RJ0 212 arraycopyName) (by decide +kernel)) (hts (.native arraycopyName) (by decide +kernel)) (hts (.static arraycopyName) (by decide +kernel)) (hts (.initialized "java/lang/System") (by decide +kernel)) hK hS (zat hZ hS hAb) (bS.ofT hu.2) hg9 (Or.inl rfl) (by omega) (by omega) (by omega) (by omega) (fun i hi => fits_n (hu9 _ (by omega))) (Nat.le_of_ble_eq_true rfl) (Nat.le_of_ble_eq_true rfl) dJ0_getBytes_840e7_22 (fun H1 locs g1 hzg1 hog1 hS => ?_)
  refine lv_goto (tgt := 43) hx hb dJ0_getBytes_840e7_25 (by decide) ?_
  exact rt_v (mu := (fun q => q = b)) C0 ⟨rfl, g1⟩ hS rfl dJ0_getBytes_840e7_43
abbrev rmJ5_putStringAt_47b60 : Room := { frames := 2, cells := 0, slots := 0, locals := 83 }
set_option maxHeartbeats 4000000 in
set_option maxRecDepth 100000 in
theorem c_putS (l : Launch) (g : Gx) (b0 : Nat) (H0 : Heap) (a b cap n : Nat) (t : Nat → Nat) (hs : SB g a b cap n t H0) (sa sb k : Nat) (u : Nat → Nat) (hu : sS g sa sb k u H0) (hu9 : ∀ j, j < k → u j < 128) (hnk : n + k ≤ cap) (hmb : ∀ q : Nat, (fun q => q = b) q → b0 ≤ q) : Met l yJ5_putStringAt_47b60 wsJ5_putStringAt_47b60 rmJ5_putStringAt_47b60 (va_Pc [.ref a, .int (nI n), .ref sa] (hJ g b0 H0)) (nQ H0 (fun q => q = b) (fun r H1 => r = none ∧ ∃ (mb : Value) (f2 : Nat → Int32), va_at g.1 vwCl (a, .inr (1, [.ref b, .int 0, mb, .int (nI n)])) H1 ∧ va_at g.1 vwCl (b, .inl (g.2 4, cap, .inl f2)) H1 ∧ (∀ j, j < n + k → f2 j = nI (tcat t n u j)) ∧ ∀ j, j < cap → fits .byte (.int (f2 j)) = true)) 0 0 (fun q => (fun q => q = b) q ∨ H0.size ≤ q) := by
  refine cx_met (own := RJ5) (cc := cJ5_putStringAt_47b60) (maxL := 3) (by decide) rfl rfl (Nat.le_of_ble_eq_true rfl) ?_
  intro p e s m below meth c ls C0 hB0 hnm hl
  obtain ⟨hH, hK, hZ⟩ := hB0
  obtain ⟨hx, hb, hr, hml, hown, hts, hlk⟩ := id C0
  subst hH
  have hS : va_S (fun q => (fun q => q = b) q ∨ s.heap.size ≤ q) s.heap s.heap [] := va_S.rf
  have hA : ∀ q : Nat, s.heap.size ≤ q → (fun q => (fun q => q = b) q ∨ s.heap.size ≤ q) q := fun q h => Or.inr h
  have h0Z := hZ.1
  have hAb : ∀ q : Nat, (fun q => (fun q => q = b) q ∨ s.heap.size ≤ q) q → b0 ≤ q := fun q h => h.elim (hmb q) (fun h => Nat.le_trans h0Z h)
  have hl : lv_has ls 3 [(0, .ref a), (1, .int (nI n)), (2, .ref sa)] := hl
  obtain ⟨mb, f, hf, hg9, hft, hfit, hnc, hc4, hab⟩ := id hs
  refine lv_aload_n hx hb dJ5_putStringAt_47b60_0 rfl (lv_at hl 0 rfl) ?_
  refine lv_aload_n hx hb dJ5_putStringAt_47b60_1 rfl (lv_at hl 2 rfl) ?_
  refine jp_U (As := [.ref sa]) (rest := []) C0 hl hK hS hA (zat hZ hS hAb) (c_infl l g b0 s.heap a b cap n t hs sa sb k u hu hu9) gJ5_putStringAt_47b60_J5_inflateIfNeededFor_a7421_u397J4 rfl ⟨rfl, rfl⟩ (hs.recv hK) rfl ⟨by decide, by decide, by show (parseMethodDescriptor "(Ljava/lang/String;)V").map (fun d => d.parameters.length) = some 1; decide +kernel⟩ ⟨Nat.le_of_ble_eq_true rfl, Nat.le_of_ble_eq_true rfl⟩ rfl (Nat.le_of_ble_eq_true rfl) ⟨Nat.zero_le _, Nat.zero_le _⟩ dJ5_putStringAt_47b60_2 (fun locs hS => ?_)
  refine lv_aload_n hx hb dJ5_putStringAt_47b60_5 rfl (lv_at hl 2 rfl) ?_
  refine lv_aload_n hx hb dJ5_putStringAt_47b60_6 rfl (lv_at hl 0 rfl) ?_
  refine va_get (ci := 1) (C := RJ4) (T := TJ4) (N := 4) (v := .ref b) hx hb hts (by decide +kernel) hown hK.1 (p1 hf) 0 rfl rfl 0 (by decide) (hts (.fieldLink RJ5 15 "java/lang/AbstractStringBuilder" "value" "[B") (by decide +kernel)) (fun _ h9 => h9) rfl dJ5_putStringAt_47b60_7 ?_
  refine lv_iload_n hx hb dJ5_putStringAt_47b60_10 rfl (lv_at hl 1 rfl) ?_
  refine lv_aload_n hx hb dJ5_putStringAt_47b60_11 rfl (lv_at hl 0 rfl) ?_
  refine va_get (ci := 1) (C := RJ4) (T := TJ4) (N := 4) (v := .int 0) hx hb hts (by decide +kernel) hown hK.1 (p1 hf) 0 rfl rfl 1 (by decide) (hts (.fieldLink RJ5 22 "java/lang/AbstractStringBuilder" "coder" "B") (by decide +kernel)) (fun _ h9 => h9) rfl dJ5_putStringAt_47b60_12 ?_
  refine jn_V (As := [.ref b, .int (nI n), .int 0]) (rest := []) C0 hl hK hS hA (fun q h => Or.inl h) (zat hZ hS hAb) (c_getB l g b0 s.heap b cap n f hg9 sa sb k u hu hu9 hnk hc4 hmb) gJ5_putStringAt_47b60_J0_getBytes_840e7 rfl ⟨rfl, rfl⟩ (j_srecv hK hu) ⟨rfl, (show hd_ok yJ0_getBytes_840e7 3 from ⟨by decide, by decide, by decide +kernel⟩)⟩ ⟨Nat.le_of_ble_eq_true rfl, Nat.le_of_ble_eq_true rfl⟩ rfl (Nat.le_of_ble_eq_true rfl) ⟨Nat.zero_le _, Nat.zero_le _⟩ dJ5_putStringAt_47b60_15 (fun v H1 locs hv hzz hk hS => ?_)
  obtain ⟨rfl, g1⟩ := hv
  exact rt_v (mu := (fun q => q = b)) C0 ⟨rfl, mb, _, hf.kept (hk _ hf.lt hab), g1, cat_f hft, cat_fit hu9 hfit⟩ hS rfl dJ5_putStringAt_47b60_18
abbrev rmJ5_append_cf1ce (c9 m9 : Nat) : Room := { frames := 4, cells := c9, slots := m9, locals := 110 }
set_option maxHeartbeats 4000000 in
set_option maxRecDepth 100000 in
theorem c_as5_0 (l : Launch) (g : Gx) (b0 : Nat) (H0 : Heap) (a b cap n : Nat) (t : Nat → Nat) (hs : SB g a b cap n t H0) (sa sb k : Nat) (u : Nat → Nat) (hu : sS g sa sb k u H0) (hu9 : ∀ j, j < k → u j < 128) (hsa : sa ≠ a ∧ sb ≠ a) (hn9 : n + k ≤ cap) (hmb : ∀ q : Nat, (fun q => q = a ∨ q = b) q → b0 ≤ q) : Met l yJ5_append_cf1ce wsJ5_append_cf1ce (rmJ5_append_cf1ce 0 0) (va_Pc [.ref a, .ref sa] (hJ g b0 H0)) (nQ H0 (fun q => q = a ∨ q = b) (fun r H1 => r = some (.ref a) ∧ ∃ b2, b2 = b ∧ SB g a b2 cap (n + k) (tcat t n u) H1)) 0 0 (fun q => (fun q => q = a ∨ q = b) q ∨ H0.size ≤ q) := by
  refine cx_met (own := RJ5) (cc := cJ5_append_cf1ce) (maxL := 3) (by decide) rfl rfl (Nat.le_of_ble_eq_true rfl) ?_
  intro p e s m below meth c ls C0 hB0 hnm hl
  obtain ⟨hH, hK, hZ⟩ := hB0
  obtain ⟨hx, hb, hr, hml, hown, hts, hlk⟩ := id C0
  subst hH
  have hS : va_S (fun q => (fun q => q = a ∨ q = b) q ∨ s.heap.size ≤ q) s.heap s.heap [] := va_S.rf
  have hA : ∀ q : Nat, s.heap.size ≤ q → (fun q => (fun q => q = a ∨ q = b) q ∨ s.heap.size ≤ q) q := fun q h => Or.inr h
  have h0Z := hZ.1
  have hAb : ∀ q : Nat, (fun q => (fun q => q = a ∨ q = b) q ∨ s.heap.size ≤ q) q → b0 ≤ q := fun q h => h.elim (hmb q) (fun h => Nat.le_trans h0Z h)
  have hl : lv_has ls 3 [(0, .ref a), (1, .ref sa)] := hl
  obtain ⟨mb, f, hf, hg9, hft, hfit, hnc, hc4, hab⟩ := id hs
  refine lv_aload_n hx hb dJ5_append_cf1ce_0 rfl (lv_at hl 1 rfl) ?_
  refine lv_ifnonnull (tgt := 9) hx hb dJ5_append_cf1ce_1 (by decide) ?_
  refine lv_aload_n hx hb dJ5_append_cf1ce_9 rfl (lv_at hl 1 rfl) ?_
  refine jp_V (As := []) (rest := []) C0 hl hK hS hA (zat hZ hS hAb) (c_sLen l g b0 s.heap sa sb k u hu) gJ5_append_cf1ce_J0_length_8abf5 rfl ⟨rfl, rfl⟩ (j_srecv hK hu) ⟨rfl, (show hd_ok yJ0_length_8abf5 0 from ⟨by decide, by decide, by decide +kernel⟩)⟩ ⟨Nat.le_of_ble_eq_true rfl, Nat.le_of_ble_eq_true rfl⟩ rfl (Nat.le_of_ble_eq_true rfl) ⟨Nat.zero_le _, Nat.zero_le _⟩ dJ5_append_cf1ce_10 (fun locs hS => ?_)
  refine lv_istore_n (lv' := [(2, .int (nI k)), (0, .ref a), (1, .ref sa)]) hx hb dJ5_append_cf1ce_13 rfl hl (by decide) rfl (fun ls hl => ?_)
  refine lv_aload_n hx hb dJ5_append_cf1ce_14 rfl (lv_at hl 1 rfl) ?_
  refine lv_aload_n hx hb dJ5_append_cf1ce_15 rfl (lv_at hl 1 rfl) ?_
  refine va_get (ci := 1) (C := RJ4) (T := TJ4) (N := 4) (v := .int (nI n)) hx hb hts (by decide +kernel) hown hK.1 (p1 hf) 0 rfl rfl 3 (by decide) (hts (.fieldLink RJ5 79 "java/lang/AbstractStringBuilder" "count" "I") (by decide +kernel)) (fun _ h9 => h9) rfl dJ5_append_cf1ce_16 ?_
  refine lv_iload_n hx hb dJ5_append_cf1ce_19 rfl (lv_at hl 0 rfl) ?_
  refine lv_iadd hx hb dJ5_append_cf1ce_20 ?_
  refine tp_i (y := nI (n + k)) (nI_add _ _) ?_
  refine jp_U (As := [.int (nI (n + k))]) (rest := []) C0 hl hK hS hA (zat hZ hS hAb) (c_ens0 l g b0 s.heap a b cap n t hs (n + k) hn9) gJ5_append_cf1ce_J5_ensureCapacityInternal_d00df_u100J4 rfl ⟨rfl, rfl⟩ (hs.recv hK) rfl ⟨by decide, by decide, by show (parseMethodDescriptor "(I)V").map (fun d => d.parameters.length) = some 1; decide +kernel⟩ ⟨Nat.le_of_ble_eq_true rfl, Nat.le_of_ble_eq_true rfl⟩ rfl (Nat.le_of_ble_eq_true rfl) ⟨Nat.zero_le _, Nat.zero_le _⟩ dJ5_append_cf1ce_21 (fun locs hS => ?_)
  have hg91 := hg9
  have hf1 := hf
  have hft1 := hft
  have hfit1 := hfit
  have hab1 := hab
  have hnc1 : n + k ≤ cap := hn9
  have hc41 := hc4
  have hu1 := hu
  refine lv_aload_n hx hb dJ5_append_cf1ce_24 rfl (lv_at hl 1 rfl) ?_
  refine lv_aload_n hx hb dJ5_append_cf1ce_25 rfl (lv_at hl 1 rfl) ?_
  refine va_get (ci := 1) (C := RJ4) (T := TJ4) (N := 4) (v := .int (nI n)) hx hb hts (by decide +kernel) hown hK.1 (p1 hf1) 0 rfl rfl 3 (by decide) (hts (.fieldLink RJ5 79 "java/lang/AbstractStringBuilder" "count" "I") (by decide +kernel)) (fun _ h9 => h9) rfl dJ5_append_cf1ce_26 ?_
  refine lv_aload_n hx hb dJ5_append_cf1ce_29 rfl (lv_at hl 2 rfl) ?_
  refine jn_U (As := [.int (nI n), .ref sa]) (rest := []) C0 hl hK hS hA (fun q h => Or.inl (Or.inr h)) (zat hZ hS hAb) (c_putS l g b0 s.heap a b cap n t hs sa sb k u hu1 hu9 hnc1 (fun q h => hmb q (Or.inr h))) gJ5_append_cf1ce_J5_putStringAt_47b60_u208J4 rfl ⟨rfl, rfl⟩ (hs.recv hK) rfl ⟨by decide, by decide, by show (parseMethodDescriptor "(ILjava/lang/String;)V").map (fun d => d.parameters.length) = some 2; decide +kernel⟩ ⟨Nat.le_of_ble_eq_true rfl, Nat.le_of_ble_eq_true rfl⟩ rfl (Nat.le_of_ble_eq_true rfl) ⟨Nat.zero_le _, Nat.zero_le _⟩ dJ5_append_cf1ce_30 (fun v H2 locs hv hzz hk2 hS => ?_)
  obtain ⟨rfl, mb2, f2, hf2, hg2, hft2, hfit2⟩ := hv
  refine lv_aload_n hx hb dJ5_append_cf1ce_33 rfl (lv_at hl 1 rfl) ?_
  refine lv_dup hx hb dJ5_append_cf1ce_34 rfl ?_
  refine va_get (ci := 1) (C := RJ4) (T := TJ4) (N := 4) (v := .int (nI n)) hx hb hts (by decide +kernel) hown hK.1 (p1 hf2) 0 rfl rfl 3 (by decide) (hts (.fieldLink RJ5 79 "java/lang/AbstractStringBuilder" "count" "I") (by decide +kernel)) (fun _ h9 => h9) rfl dJ5_append_cf1ce_35 ?_
  refine lv_iload_n hx hb dJ5_append_cf1ce_38 rfl (lv_at hl 0 rfl) ?_
  refine lv_iadd hx hb dJ5_append_cf1ce_39 ?_
  refine tp_i (y := nI (n + k)) (nI_add _ _) ?_
  refine w_putf (ci := 1) (C := RJ4) (T := TJ4) (N := 4) (ty := .int) hx hb hts (by decide +kernel) tyJ4 tyJ4_ok nmJ4 hown hK hS hf2 (Or.inl (Or.inl rfl)) rfl 3 (by decide) (hts (.fieldLink RJ5 79 "java/lang/AbstractStringBuilder" "count" "I") (by decide +kernel)) (fun _ h9 => h9) rfl (by decide +kernel) rfl rfl (by show 3 < 4; decide) dJ5_append_cf1ce_40 (fun H3 locs f3 s3 o3 hS => ?_)
  refine lv_aload_n hx hb dJ5_append_cf1ce_43 rfl (lv_at hl 1 rfl) ?_
  exact rt_a (mu := (fun q => q = a ∨ q = b)) C0 (Or.inl ⟨_, rfl⟩) ⟨rfl, b, rfl, mb2, f2, f3, hg2.kept (o3 _ hab1.symm), hft2, hfit2, hnc1, hc41, hab1⟩ hS rfl dJ5_append_cf1ce_44
set_option maxHeartbeats 4000000 in
set_option maxRecDepth 100000 in
theorem c_as5_1 (l : Launch) (g : Gx) (b0 : Nat) (H0 : Heap) (a b cap n : Nat) (t : Nat → Nat) (hs : SB g a b cap n t H0) (sa sb k : Nat) (u : Nat → Nat) (hu : sS g sa sb k u H0) (hu9 : ∀ j, j < k → u j < 128) (hsa : sa ≠ a ∧ sb ≠ a) (hn9 : cap < n + k) (hn8 : n + k < 1000) (hmb : ∀ q : Nat, (fun q => q = a ∨ q = b) q → b0 ≤ q) : Met l yJ5_append_cf1ce wsJ5_append_cf1ce (rmJ5_append_cf1ce 1 (ncap (n + k) cap)) (va_Pc [.ref a, .ref sa] (hJ g b0 H0)) (nQ H0 (fun q => q = a ∨ q = b) (fun r H1 => r = some (.ref a) ∧ ∃ b2, H0.size ≤ b2 ∧ SB g a b2 (ncap (n + k) cap) (n + k) (tcat t n u) H1)) 1 (ncap (n + k) cap) (fun q => (fun q => q = a ∨ q = b) q ∨ H0.size ≤ q) := by
  refine cx_met (own := RJ5) (cc := cJ5_append_cf1ce) (maxL := 3) (by decide) rfl rfl (Nat.le_of_ble_eq_true rfl) ?_
  intro p e s m below meth c ls C0 hB0 hnm hl
  obtain ⟨hH, hK, hZ⟩ := hB0
  obtain ⟨hx, hb, hr, hml, hown, hts, hlk⟩ := id C0
  subst hH
  have hS : va_S (fun q => (fun q => q = a ∨ q = b) q ∨ s.heap.size ≤ q) s.heap s.heap [] := va_S.rf
  have hA : ∀ q : Nat, s.heap.size ≤ q → (fun q => (fun q => q = a ∨ q = b) q ∨ s.heap.size ≤ q) q := fun q h => Or.inr h
  have h0Z := hZ.1
  have hAb : ∀ q : Nat, (fun q => (fun q => q = a ∨ q = b) q ∨ s.heap.size ≤ q) q → b0 ≤ q := fun q h => h.elim (hmb q) (fun h => Nat.le_trans h0Z h)
  have hl : lv_has ls 3 [(0, .ref a), (1, .ref sa)] := hl
  obtain ⟨mb, f, hf, hg9, hft, hfit, hnc, hc4, hab⟩ := id hs
  refine lv_aload_n hx hb dJ5_append_cf1ce_0 rfl (lv_at hl 1 rfl) ?_
  refine lv_ifnonnull (tgt := 9) hx hb dJ5_append_cf1ce_1 (by decide) ?_
  refine lv_aload_n hx hb dJ5_append_cf1ce_9 rfl (lv_at hl 1 rfl) ?_
  refine jp_V (As := []) (rest := []) C0 hl hK hS hA (zat hZ hS hAb) (c_sLen l g b0 s.heap sa sb k u hu) gJ5_append_cf1ce_J0_length_8abf5 rfl ⟨rfl, rfl⟩ (j_srecv hK hu) ⟨rfl, (show hd_ok yJ0_length_8abf5 0 from ⟨by decide, by decide, by decide +kernel⟩)⟩ ⟨Nat.le_of_ble_eq_true rfl, Nat.le_of_ble_eq_true rfl⟩ rfl (Nat.le_of_ble_eq_true rfl) ⟨Nat.zero_le _, Nat.zero_le _⟩ dJ5_append_cf1ce_10 (fun locs hS => ?_)
  refine lv_istore_n (lv' := [(2, .int (nI k)), (0, .ref a), (1, .ref sa)]) hx hb dJ5_append_cf1ce_13 rfl hl (by decide) rfl (fun ls hl => ?_)
  refine lv_aload_n hx hb dJ5_append_cf1ce_14 rfl (lv_at hl 1 rfl) ?_
  refine lv_aload_n hx hb dJ5_append_cf1ce_15 rfl (lv_at hl 1 rfl) ?_
  refine va_get (ci := 1) (C := RJ4) (T := TJ4) (N := 4) (v := .int (nI n)) hx hb hts (by decide +kernel) hown hK.1 (p1 hf) 0 rfl rfl 3 (by decide) (hts (.fieldLink RJ5 79 "java/lang/AbstractStringBuilder" "count" "I") (by decide +kernel)) (fun _ h9 => h9) rfl dJ5_append_cf1ce_16 ?_
  refine lv_iload_n hx hb dJ5_append_cf1ce_19 rfl (lv_at hl 0 rfl) ?_
  refine lv_iadd hx hb dJ5_append_cf1ce_20 ?_
  refine tp_i (y := nI (n + k)) (nI_add _ _) ?_
  refine jn_U (As := [.int (nI (n + k))]) (rest := []) C0 hl hK hS hA (fun q h => Or.inl (Or.inl h)) (zat hZ hS hAb) (c_ens1 l g b0 s.heap a b cap n t hs (n + k) hn9 hn8 (fun q h => hmb q (Or.inl h))) gJ5_append_cf1ce_J5_ensureCapacityInternal_d00df_u100J4 rfl ⟨rfl, rfl⟩ (hs.recv hK) rfl ⟨by decide, by decide, by show (parseMethodDescriptor "(I)V").map (fun d => d.parameters.length) = some 1; decide +kernel⟩ ⟨Nat.le_of_ble_eq_true rfl, Nat.le_of_ble_eq_true rfl⟩ rfl (Nat.le_of_ble_eq_true rfl) ⟨by show 0 + 1 ≤ 1; omega, by show 0 + ncap (n + k) cap ≤ ncap (n + k) cap; omega⟩ dJ5_append_cf1ce_21 (fun v H1 locs hv hzz hk1 hS => ?_)
  obtain ⟨rfl, b2, hb2, hs1⟩ := hv
  obtain ⟨mb1, f1, hf1, hg91, hft1, hfit1, hnc1, hc41, hab1⟩ := id hs1
  have hnc1 : n + k ≤ ncap (n + k) cap := by unfold ncap; omega
  have hu1 := hu.kept (hk1 _ hu.lt hsa.1) (hk1 _ hu.2.lt hsa.2)
  refine lv_aload_n hx hb dJ5_append_cf1ce_24 rfl (lv_at hl 1 rfl) ?_
  refine lv_aload_n hx hb dJ5_append_cf1ce_25 rfl (lv_at hl 1 rfl) ?_
  refine va_get (ci := 1) (C := RJ4) (T := TJ4) (N := 4) (v := .int (nI n)) hx hb hts (by decide +kernel) hown hK.1 (p1 hf1) 0 rfl rfl 3 (by decide) (hts (.fieldLink RJ5 79 "java/lang/AbstractStringBuilder" "count" "I") (by decide +kernel)) (fun _ h9 => h9) rfl dJ5_append_cf1ce_26 ?_
  refine lv_aload_n hx hb dJ5_append_cf1ce_29 rfl (lv_at hl 2 rfl) ?_
  refine jn_U (As := [.int (nI n), .ref sa]) (rest := []) C0 hl hK hS hA (fun q h => Or.inr (by have h : q = b2 := h; omega)) (zat hZ hS hAb) (c_putS l g b0 H1 a b2 (ncap (n + k) cap) n t hs1 sa sb k u hu1 hu9 hnc1 (fun q h => by have h : q = b2 := h; omega)) gJ5_append_cf1ce_J5_putStringAt_47b60_u208J4 rfl ⟨rfl, rfl⟩ (hs1.recv hK) rfl ⟨by decide, by decide, by show (parseMethodDescriptor "(ILjava/lang/String;)V").map (fun d => d.parameters.length) = some 2; decide +kernel⟩ ⟨Nat.le_of_ble_eq_true rfl, Nat.le_of_ble_eq_true rfl⟩ rfl (Nat.le_of_ble_eq_true rfl) ⟨by show 0 + 1 + 0 ≤ 1; omega, by show 0 + ncap (n + k) cap + 0 ≤ ncap (n + k) cap; omega⟩ dJ5_append_cf1ce_30 (fun v H2 locs hv hzz hk2 hS => ?_)
  obtain ⟨rfl, mb2, f2, hf2, hg2, hft2, hfit2⟩ := hv
  refine lv_aload_n hx hb dJ5_append_cf1ce_33 rfl (lv_at hl 1 rfl) ?_
  refine lv_dup hx hb dJ5_append_cf1ce_34 rfl ?_
  refine va_get (ci := 1) (C := RJ4) (T := TJ4) (N := 4) (v := .int (nI n)) hx hb hts (by decide +kernel) hown hK.1 (p1 hf2) 0 rfl rfl 3 (by decide) (hts (.fieldLink RJ5 79 "java/lang/AbstractStringBuilder" "count" "I") (by decide +kernel)) (fun _ h9 => h9) rfl dJ5_append_cf1ce_35 ?_
  refine lv_iload_n hx hb dJ5_append_cf1ce_38 rfl (lv_at hl 0 rfl) ?_
  refine lv_iadd hx hb dJ5_append_cf1ce_39 ?_
  refine tp_i (y := nI (n + k)) (nI_add _ _) ?_
  refine w_putf (ci := 1) (C := RJ4) (T := TJ4) (N := 4) (ty := .int) hx hb hts (by decide +kernel) tyJ4 tyJ4_ok nmJ4 hown hK hS hf2 (Or.inl (Or.inl rfl)) rfl 3 (by decide) (hts (.fieldLink RJ5 79 "java/lang/AbstractStringBuilder" "count" "I") (by decide +kernel)) (fun _ h9 => h9) rfl (by decide +kernel) rfl rfl (by show 3 < 4; decide) dJ5_append_cf1ce_40 (fun H3 locs f3 s3 o3 hS => ?_)
  refine lv_aload_n hx hb dJ5_append_cf1ce_43 rfl (lv_at hl 1 rfl) ?_
  refine W.widen (k := 1) (n := ncap (n + k) cap) (by omega) (by omega) ?_
  exact rt_a (mu := (fun q => q = a ∨ q = b)) C0 (Or.inl ⟨_, rfl⟩) ⟨rfl, b2, hb2, mb2, f2, f3, hg2.kept (o3 _ hab1.symm), hft2, hfit2, hnc1, hc41, hab1⟩ hS rfl dJ5_append_cf1ce_44
abbrev rmJ4_append_15ec4 (c9 m9 : Nat) : Room := { frames := 5, cells := c9, slots := m9, locals := 132 }
set_option maxHeartbeats 4000000 in
set_option maxRecDepth 100000 in
theorem c_as4_0 (l : Launch) (g : Gx) (b0 : Nat) (H0 : Heap) (a b cap n : Nat) (t : Nat → Nat) (hs : SB g a b cap n t H0) (sa sb k : Nat) (u : Nat → Nat) (hu : sS g sa sb k u H0) (hu9 : ∀ j, j < k → u j < 128) (hsa : sa ≠ a ∧ sb ≠ a) (hn9 : n + k ≤ cap) (hmb : ∀ q : Nat, (fun q => q = a ∨ q = b) q → b0 ≤ q) : Met l yJ4_append_15ec4 wsJ4_append_15ec4 (rmJ4_append_15ec4 0 0) (va_Pc [.ref a, .ref sa] (hJ g b0 H0)) (nQ H0 (fun q => q = a ∨ q = b) (fun r H1 => r = some (.ref a) ∧ ∃ b2, b2 = b ∧ SB g a b2 cap (n + k) (tcat t n u) H1)) 0 0 (fun q => (fun q => q = a ∨ q = b) q ∨ H0.size ≤ q) := by
  refine cx_met (own := RJ4) (cc := cJ4_append_15ec4) (maxL := 2) (by decide) rfl rfl (Nat.le_of_ble_eq_true rfl) ?_
  intro p e s m below meth c ls C0 hB0 hnm hl
  obtain ⟨hH, hK, hZ⟩ := hB0
  obtain ⟨hx, hb, hr, hml, hown, hts, hlk⟩ := id C0
  subst hH
  have hS : va_S (fun q => (fun q => q = a ∨ q = b) q ∨ s.heap.size ≤ q) s.heap s.heap [] := va_S.rf
  have hA : ∀ q : Nat, s.heap.size ≤ q → (fun q => (fun q => q = a ∨ q = b) q ∨ s.heap.size ≤ q) q := fun q h => Or.inr h
  have h0Z := hZ.1
  have hAb : ∀ q : Nat, (fun q => (fun q => q = a ∨ q = b) q ∨ s.heap.size ≤ q) q → b0 ≤ q := fun q h => h.elim (hmb q) (fun h => Nat.le_trans h0Z h)
  have hl : lv_has ls 2 [(0, .ref a), (1, .ref sa)] := hl
  refine lv_aload_n hx hb dJ4_append_15ec4_0 rfl (lv_at hl 0 rfl) ?_
  refine lv_aload_n hx hb dJ4_append_15ec4_1 rfl (lv_at hl 1 rfl) ?_
  refine jn_SU (As := [.ref sa]) (rest := []) C0 hl hK hS hA (fun q h => Or.inl h) (zat hZ hS hAb) ((hK.1.1 1 _ rfl).2) (c_as5_0 l g b0 s.heap a b cap n t hs sa sb k u hu hu9 hsa hn9 hmb) gJ4_append_15ec4_J5_append_cf1ce_s29 rfl ⟨rfl, rfl⟩ (hs.recv hK) ⟨by decide, by show (parseMethodDescriptor "(Ljava/lang/String;)Ljava/lang/AbstractStringBuilder;").map (fun d => d.parameters.length) = some 1; decide +kernel⟩ ⟨Nat.le_of_ble_eq_true rfl, Nat.le_of_ble_eq_true rfl⟩ rfl (Nat.le_of_ble_eq_true rfl) ⟨by decide, by decide⟩ dJ4_append_15ec4_2 (fun v H1 locs hv hzz hk hS => ?_)
  obtain ⟨rfl, b2, hb2, hS9⟩ := hv
  refine lv_pop hx hb dJ4_append_15ec4_5 rfl ?_
  refine lv_aload_n hx hb dJ4_append_15ec4_6 rfl (lv_at hl 0 rfl) ?_
  exact rt_a (mu := (fun q => q = a ∨ q = b)) C0 (Or.inl ⟨_, rfl⟩) ⟨rfl, b2, hb2, hS9⟩ hS rfl dJ4_append_15ec4_7
set_option maxHeartbeats 4000000 in
set_option maxRecDepth 100000 in
theorem c_as4_1 (l : Launch) (g : Gx) (b0 : Nat) (H0 : Heap) (a b cap n : Nat) (t : Nat → Nat) (hs : SB g a b cap n t H0) (sa sb k : Nat) (u : Nat → Nat) (hu : sS g sa sb k u H0) (hu9 : ∀ j, j < k → u j < 128) (hsa : sa ≠ a ∧ sb ≠ a) (hn9 : cap < n + k) (hn8 : n + k < 1000) (hmb : ∀ q : Nat, (fun q => q = a ∨ q = b) q → b0 ≤ q) : Met l yJ4_append_15ec4 wsJ4_append_15ec4 (rmJ4_append_15ec4 1 (ncap (n + k) cap)) (va_Pc [.ref a, .ref sa] (hJ g b0 H0)) (nQ H0 (fun q => q = a ∨ q = b) (fun r H1 => r = some (.ref a) ∧ ∃ b2, H0.size ≤ b2 ∧ SB g a b2 (ncap (n + k) cap) (n + k) (tcat t n u) H1)) 1 (ncap (n + k) cap) (fun q => (fun q => q = a ∨ q = b) q ∨ H0.size ≤ q) := by
  refine cx_met (own := RJ4) (cc := cJ4_append_15ec4) (maxL := 2) (by decide) rfl rfl (Nat.le_of_ble_eq_true rfl) ?_
  intro p e s m below meth c ls C0 hB0 hnm hl
  obtain ⟨hH, hK, hZ⟩ := hB0
  obtain ⟨hx, hb, hr, hml, hown, hts, hlk⟩ := id C0
  subst hH
  have hS : va_S (fun q => (fun q => q = a ∨ q = b) q ∨ s.heap.size ≤ q) s.heap s.heap [] := va_S.rf
  have hA : ∀ q : Nat, s.heap.size ≤ q → (fun q => (fun q => q = a ∨ q = b) q ∨ s.heap.size ≤ q) q := fun q h => Or.inr h
  have h0Z := hZ.1
  have hAb : ∀ q : Nat, (fun q => (fun q => q = a ∨ q = b) q ∨ s.heap.size ≤ q) q → b0 ≤ q := fun q h => h.elim (hmb q) (fun h => Nat.le_trans h0Z h)
  have hl : lv_has ls 2 [(0, .ref a), (1, .ref sa)] := hl
  refine lv_aload_n hx hb dJ4_append_15ec4_0 rfl (lv_at hl 0 rfl) ?_
  refine lv_aload_n hx hb dJ4_append_15ec4_1 rfl (lv_at hl 1 rfl) ?_
  refine jn_SU (As := [.ref sa]) (rest := []) C0 hl hK hS hA (fun q h => Or.inl h) (zat hZ hS hAb) ((hK.1.1 1 _ rfl).2) (c_as5_1 l g b0 s.heap a b cap n t hs sa sb k u hu hu9 hsa hn9 hn8 hmb) gJ4_append_15ec4_J5_append_cf1ce_s29 rfl ⟨rfl, rfl⟩ (hs.recv hK) ⟨by decide, by show (parseMethodDescriptor "(Ljava/lang/String;)Ljava/lang/AbstractStringBuilder;").map (fun d => d.parameters.length) = some 1; decide +kernel⟩ ⟨Nat.le_of_ble_eq_true rfl, Nat.le_of_ble_eq_true rfl⟩ rfl (Nat.le_of_ble_eq_true rfl) ⟨by show 0 + 1 ≤ 1; omega, by show 0 + ncap (n + k) cap ≤ ncap (n + k) cap; omega⟩ dJ4_append_15ec4_2 (fun v H1 locs hv hzz hk hS => ?_)
  obtain ⟨rfl, b2, hb2, hS9⟩ := hv
  refine lv_pop hx hb dJ4_append_15ec4_5 rfl ?_
  refine lv_aload_n hx hb dJ4_append_15ec4_6 rfl (lv_at hl 0 rfl) ?_
  refine W.widen (k := 1) (n := ncap (n + k) cap) (by omega) (by omega) ?_
  exact rt_a (mu := (fun q => q = a ∨ q = b)) C0 (Or.inl ⟨_, rfl⟩) ⟨rfl, b2, hb2, hS9⟩ hS rfl dJ4_append_15ec4_7
/-- StringBuilder.append(String) -/
theorem c_appendS (l : Launch) (g : Gx) (b0 : Nat) (H0 : Heap) (a b cap n : Nat) (t : Nat → Nat) (hs : SB g a b cap n t H0) (sa sb k : Nat) (u : Nat → Nat) (hu : sS g sa sb k u H0) (hu9 : ∀ j, j < k → u j < 128) (hsa : sa ≠ a ∧ sb ≠ a) (hn8 : n + k < 1000) (hmb : ∀ q : Nat, (fun q => q = a ∨ q = b) q → b0 ≤ q) : Met l yJ4_append_15ec4 wsJ4_append_15ec4 (rmJ4_append_15ec4 (celT n k cap) (sloT n k cap)) (va_Pc [.ref a, .ref sa] (hJ g b0 H0)) (nQ H0 (fun q => q = a ∨ q = b) (fun r H1 => r = some (.ref a) ∧ ∃ b2, (b2 = b ∨ H0.size ≤ b2) ∧ SB g a b2 (capT n k cap) (n + k) (tcat t n u) H1)) (celT n k cap) (sloT n k cap) (fun q => (fun q => q = a ∨ q = b) q ∨ H0.size ≤ q) := by
  have post : ∀ (c : Nat) (p1 p2 : Nat → Prop), (∀ q, p1 q → p2 q) → ∀ (ar : Array Value) (s : State) (o : Outcome) (t' : State), nQ H0 (fun q => q = a ∨ q = b) (fun r H1 => r = some (.ref a) ∧ ∃ b2, p1 b2 ∧ SB g a b2 c (n + k) (tcat t n u) H1) ar s o t' → nQ H0 (fun q => q = a ∨ q = b) (fun r H1 => r = some (.ref a) ∧ ∃ b2, p2 b2 ∧ SB g a b2 c (n + k) (tcat t n u) H1) ar s o t' := by
    rintro c p1 p2 hp ar s o t' ⟨v, h1, ⟨h2, b2, h3, h4⟩, h5⟩
    exact ⟨v, h1, ⟨h2, b2, hp _ h3, h4⟩, h5⟩
  unfold celT sloT capT
  by_cases h : n + k ≤ cap
  · rw [if_pos h, if_pos h, if_pos h]
    exact met_post (c_as4_0 l g b0 H0 a b cap n t hs sa sb k u hu hu9 hsa h hmb) (post _ _ _ (fun q h => Or.inl h))
  · rw [if_neg h, if_neg h, if_neg h]
    exact met_post (c_as4_1 l g b0 H0 a b cap n t hs sa sb k u hu hu9 hsa (by omega) hn8 hmb) (post _ _ _ (fun q h => Or.inr h))
end M48

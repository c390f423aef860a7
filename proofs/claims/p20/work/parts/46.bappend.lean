-- THE BUILDER: a sign put behind; read; told
theorem SB.push {g : Gx} {a b cap n x : Nat} {t : Nat → Nat} {mb : Value} {f : Nat → Int32} {H : Heap} (h1 : va_at g.1 vwCl (a, .inr (1, [.ref b, .int 0, mb, .int (nI (n + 1))])) H) (h2 : va_at g.1 vwCl (b, .inl (g.2 4, cap, .inl (upd f n (vp_nar .byte (nI x))))) H) (hft : ∀ j, j < n → f j = nI (t j)) (hfit : ∀ j, j < cap → fits .byte (.int (f j)) = true) (hn : n < cap) (hc : cap < 4096) (hab : a ≠ b) (hx : x < 128) : SB g a b cap (n + 1) (tup t n x) H := by
  refine ⟨mb, _, h1, h2, fun j hj => ?_, fun j hj => ?_, hn, hc, hab⟩
  · unfold upd tup
    by_cases e : j = n
    · rw [if_pos e, if_pos e, narb_n hx]
    · rw [if_neg e, if_neg e]
      exact hft j (by omega)
  · unfold upd
    by_cases e : j = n
    · rw [if_pos e, narb_n hx]
      exact fits_n hx
    · rw [if_neg e]
      exact hfit j hj
theorem met_post {l : Launch} {y : MethodName} {ws : List Cond} {rm : Room} {Pc : Array Value → State → Prop} {Qc Qd : Array Value → State → Outcome → State → Prop} {mc ms : Nat} {free : Addr → Prop} (hM : Met l y ws rm Pc Qc mc ms free) (h : ∀ (a : Array Value) (s : State) (o : Outcome) (t : State), Qc a s o t → Qd a s o t) : Met l y ws rm Pc Qd mc ms free := by
  intro p e h1 h2 h3 s m args below h4 h5 h6 h7
  obtain ⟨n, o, a1, a2, a3, a4, a5⟩ := hM p e h1 h2 h3 s m args below h4 h5 h6 h7
  exact ⟨n, o, a1, a2, a3, h _ _ _ _ a4, a5⟩
/-- a builder of n signs in cap places, and one more: its places, what it costs -/
def capA (n cap : Nat) : Nat := if n + 1 ≤ cap then cap else ncap (n + 1) cap
def celA (n cap : Nat) : Nat := if n + 1 ≤ cap then 0 else 1
def sloA (n cap : Nat) : Nat := if n + 1 ≤ cap then 0 else ncap (n + 1) cap
section M46
variable {p : Program} {l : Launch} {e : Env} {s : State} {m : MethodId} {args : Array Value} {below : List Frame} {meth : Method} {c : Code} {H H0 : Heap} {locs : List Loc} {cells slots : Nat} {Q : State → Prop} {A : Nat → Prop} {g : Gx} {b0 : Nat}
abbrev rmJ5_isLatin1_aae02 : Room := { frames := 0, cells := 0, slots := 0, locals := 0 }
set_option maxHeartbeats 4000000 in
set_option maxRecDepth 100000 in
theorem c_bLatin (l : Launch) (g : Gx) (b0 : Nat) (H0 : Heap) (a b cap n : Nat) (t : Nat → Nat) (hs : SB g a b cap n t H0) : Met l yJ5_isLatin1_aae02 wsJ5_isLatin1_aae02 rmJ5_isLatin1_aae02 (va_Pc [.ref a] (hJ g b0 H0)) (pQ (some (.int 1)) H0) 0 0 (fun q => H0.size ≤ q) := by
  refine cx_met (own := RJ5) (cc := cJ5_isLatin1_aae02) (maxL := 1) (by decide) rfl rfl (Nat.le_of_ble_eq_true rfl) ?_
  intro p e s m below meth c ls C0 hB0 hnm hl
  obtain ⟨hH, hK, hZ⟩ := hB0
  obtain ⟨hx, hb, hr, hml, hown, hts, hlk⟩ := id C0
  subst hH
  have hS : va_S (fun q => s.heap.size ≤ q) s.heap s.heap [] := va_S.rf
  have hA : ∀ q : Nat, s.heap.size ≤ q → (fun q => s.heap.size ≤ q) q := fun q h => h
  have h0Z := hZ.1
  have hAb : ∀ q : Nat, (fun q => s.heap.size ≤ q) q → b0 ≤ q := fun q h => Nat.le_trans h0Z h
  have hl : lv_has ls 1 [(0, .ref a)] := hl
  obtain ⟨mb, f, hf, hg9, hft, hfit, hnc, hc4, hab⟩ := id hs
  refine va_gets hx hb (va_Z.narrow hZ.2.1 hAb) hS hown (hts (.fieldLink RJ5 18 "java/lang/String" "COMPACT_STRINGS" "Z") (by decide +kernel)) (fun _ h9 => h9) dJ5_isLatin1_aae02_0 ?_
  refine lv_if_eq (tgt := 17) hx hb dJ5_isLatin1_aae02_3 (by decide) (fun h1 => absurd h1 (by decide)) (fun h1 => ?_)
  refine lv_aload_n hx hb dJ5_isLatin1_aae02_6 rfl (lv_at hl 0 rfl) ?_
  refine va_get (ci := 1) (C := RJ4) (T := TJ4) (N := 4) (v := .int 0) hx hb hts (by decide +kernel) hown hK.1 (p1 hf) 0 rfl rfl 1 (by decide) (hts (.fieldLink RJ5 22 "java/lang/AbstractStringBuilder" "coder" "B") (by decide +kernel)) (fun _ h9 => h9) rfl dJ5_isLatin1_aae02_7 ?_
  refine lv_if_ne (tgt := 17) hx hb dJ5_isLatin1_aae02_10 (by decide) (fun h2 => absurd rfl h2) (fun h2 => ?_)
  refine lv_iconst (v := nI 1) hx hb dJ5_isLatin1_aae02_13 (by decide) ?_
  refine lv_goto (tgt := 18) hx hb dJ5_isLatin1_aae02_14 (by decide) ?_
  exact rt_p C0 rfl rfl hS rfl dJ5_isLatin1_aae02_18
abbrev rmJ1_canEncode_fc78d : Room := { frames := 0, cells := 0, slots := 0, locals := 0 }
set_option maxHeartbeats 4000000 in
set_option maxRecDepth 100000 in
theorem c_enc (l : Launch) (g : Gx) (b0 : Nat) (H0 : Heap) (x : Nat) (hx9 : x < 128) : Met l yJ1_canEncode_fc78d wsJ1_canEncode_fc78d rmJ1_canEncode_fc78d (va_Pc [.int (nI x)] (hJ g b0 H0)) (pQ (some (.int 1)) H0) 0 0 (fun q => H0.size ≤ q) := by
  refine cx_met (own := RJ1) (cc := cJ1_canEncode_fc78d) (maxL := 1) (by decide) rfl rfl (Nat.le_of_ble_eq_true rfl) ?_
  intro p e s m below meth c ls C0 hB0 hnm hl
  obtain ⟨hH, hK, hZ⟩ := hB0
  obtain ⟨hx, hb, hr, hml, hown, hts, hlk⟩ := id C0
  subst hH
  have hS : va_S (fun q => s.heap.size ≤ q) s.heap s.heap [] := va_S.rf
  have hA : ∀ q : Nat, s.heap.size ≤ q → (fun q => s.heap.size ≤ q) q := fun q h => h
  have h0Z := hZ.1
  have hAb : ∀ q : Nat, (fun q => s.heap.size ≤ q) q → b0 ≤ q := fun q h => Nat.le_trans h0Z h
  have hl : lv_has ls 1 [(0, .int (nI x))] := hl
  refine lv_iload_n hx hb dJ1_canEncode_fc78d_0 rfl (lv_at hl 0 rfl) ?_
  refine lv_sipush (v := nI 255) hx hb dJ1_canEncode_fc78d_1 (by decide) ?_
  refine lv_icmp_gt (tgt := 11) hx hb dJ1_canEncode_fc78d_4 (by decide) (fun h1 => absurd (nI_ltn (by decide) (by omega) h1) (by omega)) (fun h1 => ?_)
  refine lv_iconst (v := nI 1) hx hb dJ1_canEncode_fc78d_7 (by decide) ?_
  refine lv_goto (tgt := 12) hx hb dJ1_canEncode_fc78d_8 (by decide) ?_
  exact rt_p C0 rfl rfl hS rfl dJ1_canEncode_fc78d_12
abbrev rmJ5_length_8abf5 : Room := { frames := 0, cells := 0, slots := 0, locals := 0 }
set_option maxHeartbeats 4000000 in
set_option maxRecDepth 100000 in
theorem c_b5Len (l : Launch) (g : Gx) (b0 : Nat) (H0 : Heap) (a b cap n : Nat) (t : Nat → Nat) (hs : SB g a b cap n t H0) : Met l yJ5_length_8abf5 wsJ5_length_8abf5 rmJ5_length_8abf5 (va_Pc [.ref a] (hJ g b0 H0)) (pQ (some (.int (nI n))) H0) 0 0 (fun q => H0.size ≤ q) := by
  refine cx_met (own := RJ5) (cc := cJ5_length_8abf5) (maxL := 1) (by decide) rfl rfl (Nat.le_of_ble_eq_true rfl) ?_
  intro p e s m below meth c ls C0 hB0 hnm hl
  obtain ⟨hH, hK, hZ⟩ := hB0
  obtain ⟨hx, hb, hr, hml, hown, hts, hlk⟩ := id C0
  subst hH
  have hS : va_S (fun q => s.heap.size ≤ q) s.heap s.heap [] := va_S.rf
  have hA : ∀ q : Nat, s.heap.size ≤ q → (fun q => s.heap.size ≤ q) q := fun q h => h
  have h0Z := hZ.1
  have hAb : ∀ q : Nat, (fun q => s.heap.size ≤ q) q → b0 ≤ q := fun q h => Nat.le_trans h0Z h
  have hl : lv_has ls 1 [(0, .ref a)] := hl
  obtain ⟨mb, f, hf, hg9, hft, hfit, hnc, hc4, hab⟩ := id hs
  refine lv_aload_n hx hb dJ5_length_8abf5_0 rfl (lv_at hl 0 rfl) ?_
  refine va_get (ci := 1) (C := RJ4) (T := TJ4) (N := 4) (v := .int (nI n)) hx hb hts (by decide +kernel) hown hK.1 (p1 hf) 0 rfl rfl 3 (by decide) (hts (.fieldLink RJ5 79 "java/lang/AbstractStringBuilder" "count" "I") (by decide +kernel)) (fun _ h9 => h9) rfl dJ5_length_8abf5_1 ?_
  exact rt_i C0 rfl hS rfl dJ5_length_8abf5_4
abbrev rmJ4_length_8abf5 : Room := { frames := 1, cells := 0, slots := 0, locals := 20 }
set_option maxHeartbeats 4000000 in
set_option maxRecDepth 100000 in
/-- StringBuilder.length -/
theorem c_bLen (l : Launch) (g : Gx) (b0 : Nat) (H0 : Heap) (a b cap n : Nat) (t : Nat → Nat) (hs : SB g a b cap n t H0) : Met l yJ4_length_8abf5 wsJ4_length_8abf5 rmJ4_length_8abf5 (va_Pc [.ref a] (hJ g b0 H0)) (pQ (some (.int (nI n))) H0) 0 0 (fun q => H0.size ≤ q) := by
  refine cx_met (own := RJ4) (cc := cJ4_length_8abf5) (maxL := 1) (by decide) rfl rfl (Nat.le_of_ble_eq_true rfl) ?_
  intro p e s m below meth c ls C0 hB0 hnm hl
  obtain ⟨hH, hK, hZ⟩ := hB0
  obtain ⟨hx, hb, hr, hml, hown, hts, hlk⟩ := id C0
  subst hH
  have hS : va_S (fun q => s.heap.size ≤ q) s.heap s.heap [] := va_S.rf
  have hA : ∀ q : Nat, s.heap.size ≤ q → (fun q => s.heap.size ≤ q) q := fun q h => h
  have h0Z := hZ.1
  have hAb : ∀ q : Nat, (fun q => s.heap.size ≤ q) q → b0 ≤ q := fun q h => Nat.le_trans h0Z h
  have hl : lv_has ls 1 [(0, .ref a)] := hl
  refine lv_aload_n hx hb dJ4_length_8abf5_0 rfl (lv_at hl 0 rfl) ?_
  refine jp_SU (As := []) (rest := []) C0 hl hK hS hA (zat hZ hS hAb) ((hK.1.1 1 _ rfl).2) (c_b5Len l g b0 s.heap a b cap n t hs) gJ4_length_8abf5_J5_length_8abf5_s343 rfl ⟨rfl, rfl⟩ (hs.recv hK) ⟨by decide, by show (parseMethodDescriptor "()I").map (fun d => d.parameters.length) = some 0; decide +kernel⟩ ⟨Nat.le_of_ble_eq_true rfl, Nat.le_of_ble_eq_true rfl⟩ rfl (Nat.le_of_ble_eq_true rfl) ⟨Nat.zero_le _, Nat.zero_le _⟩ dJ4_length_8abf5_1 (fun locs hS => ?_)
  exact rt_i C0 rfl hS rfl dJ4_length_8abf5_4
abbrev rmJ5_getValue_6d5f1 : Room := { frames := 0, cells := 0, slots := 0, locals := 0 }
set_option maxHeartbeats 4000000 in
set_option maxRecDepth 100000 in
theorem c_bVal (l : Launch) (g : Gx) (b0 : Nat) (H0 : Heap) (a b cap n : Nat) (t : Nat → Nat) (hs : SB g a b cap n t H0) : Met l yJ5_getValue_6d5f1 wsJ5_getValue_6d5f1 rmJ5_getValue_6d5f1 (va_Pc [.ref a] (hJ g b0 H0)) (pQ (some (.ref b)) H0) 0 0 (fun q => H0.size ≤ q) := by
  refine cx_met (own := RJ5) (cc := cJ5_getValue_6d5f1) (maxL := 1) (by decide) rfl rfl (Nat.le_of_ble_eq_true rfl) ?_
  intro p e s m below meth c ls C0 hB0 hnm hl
  obtain ⟨hH, hK, hZ⟩ := hB0
  obtain ⟨hx, hb, hr, hml, hown, hts, hlk⟩ := id C0
  subst hH
  have hS : va_S (fun q => s.heap.size ≤ q) s.heap s.heap [] := va_S.rf
  have hA : ∀ q : Nat, s.heap.size ≤ q → (fun q => s.heap.size ≤ q) q := fun q h => h
  have h0Z := hZ.1
  have hAb : ∀ q : Nat, (fun q => s.heap.size ≤ q) q → b0 ≤ q := fun q h => Nat.le_trans h0Z h
  have hl : lv_has ls 1 [(0, .ref a)] := hl
  obtain ⟨mb, f, hf, hg9, hft, hfit, hnc, hc4, hab⟩ := id hs
  refine lv_aload_n hx hb dJ5_getValue_6d5f1_0 rfl (lv_at hl 0 rfl) ?_
  refine va_get (ci := 1) (C := RJ4) (T := TJ4) (N := 4) (v := .ref b) hx hb hts (by decide +kernel) hown hK.1 (p1 hf) 0 rfl rfl 0 (by decide) (hts (.fieldLink RJ5 15 "java/lang/AbstractStringBuilder" "value" "[B") (by decide +kernel)) (fun _ h9 => h9) rfl dJ5_getValue_6d5f1_1 ?_
  exact rt_pa C0 (Or.inr ⟨_, rfl⟩) hS rfl dJ5_getValue_6d5f1_4
abbrev rmJ5_charAt_5068e : Room := { frames := 2, cells := 0, slots := 0, locals := 60 }
set_option maxHeartbeats 4000000 in
set_option maxRecDepth 100000 in
theorem c_b5CharAt (l : Launch) (g : Gx) (b0 : Nat) (H0 : Heap) (a b cap n : Nat) (t : Nat → Nat) (hs : SB g a b cap n t H0) (i : Nat) (hi : i < n) (ht : t i < 128) : Met l yJ5_charAt_5068e wsJ5_charAt_5068e rmJ5_charAt_5068e (va_Pc [.ref a, .int (nI i)] (hJ g b0 H0)) (pQ (some (.int (nI (t i)))) H0) 0 0 (fun q => H0.size ≤ q) := by
  refine cx_met (own := RJ5) (cc := cJ5_charAt_5068e) (maxL := 5) (by decide) rfl rfl (Nat.le_of_ble_eq_true rfl) ?_
  intro p e s m below meth c ls C0 hB0 hnm hl
  obtain ⟨hH, hK, hZ⟩ := hB0
  obtain ⟨hx, hb, hr, hml, hown, hts, hlk⟩ := id C0
  subst hH
  have hS : va_S (fun q => s.heap.size ≤ q) s.heap s.heap [] := va_S.rf
  have hA : ∀ q : Nat, s.heap.size ≤ q → (fun q => s.heap.size ≤ q) q := fun q h => h
  have h0Z := hZ.1
  have hAb : ∀ q : Nat, (fun q => s.heap.size ≤ q) q → b0 ≤ q := fun q h => Nat.le_trans h0Z h
  have hl : lv_has ls 5 [(0, .ref a), (1, .int (nI i))] := hl
  obtain ⟨mb, f, hf, hg9, hft, hfit, hnc, hc4, hab⟩ := id hs
  refine lv_aload_n hx hb dJ5_charAt_5068e_0 rfl (lv_at hl 0 rfl) ?_
  refine va_get (ci := 1) (C := RJ4) (T := TJ4) (N := 4) (v := .int 0) hx hb hts (by decide +kernel) hown hK.1 (p1 hf) 0 rfl rfl 1 (by decide) (hts (.fieldLink RJ5 22 "java/lang/AbstractStringBuilder" "coder" "B") (by decide +kernel)) (fun _ h9 => h9) rfl dJ5_charAt_5068e_1 ?_
  refine lv_istore_n (lv' := [(2, .int 0), (0, .ref a), (1, .int (nI i))]) hx hb dJ5_charAt_5068e_4 rfl hl (by decide) rfl (fun ls hl => ?_)
  refine lv_aload_n hx hb dJ5_charAt_5068e_5 rfl (lv_at hl 1 rfl) ?_
  refine va_get (ci := 1) (C := RJ4) (T := TJ4) (N := 4) (v := .ref b) hx hb hts (by decide +kernel) hown hK.1 (p1 hf) 0 rfl rfl 0 (by decide) (hts (.fieldLink RJ5 15 "java/lang/AbstractStringBuilder" "value" "[B") (by decide +kernel)) (fun _ h9 => h9) rfl dJ5_charAt_5068e_6 ?_
  refine lv_astore_n (lv' := [(3, .ref b), (2, .int 0), (0, .ref a), (1, .int (nI i))]) hx hb dJ5_charAt_5068e_9 rfl hl (by decide) rfl (fun ls hl => ?_)
  refine lv_aload_n hx hb dJ5_charAt_5068e_10 rfl (lv_at hl 2 rfl) ?_
  refine va_get (ci := 1) (C := RJ4) (T := TJ4) (N := 4) (v := .int (nI n)) hx hb hts (by decide +kernel) hown hK.1 (p1 hf) 0 rfl rfl 3 (by decide) (hts (.fieldLink RJ5 79 "java/lang/AbstractStringBuilder" "count" "I") (by decide +kernel)) (fun _ h9 => h9) rfl dJ5_charAt_5068e_11 ?_
  refine lv_aload_n hx hb dJ5_charAt_5068e_14 rfl (lv_at hl 0 rfl) ?_
  refine f_alen (x := (cap, _)) hx hb hK 4 rfl hg9 dJ5_charAt_5068e_15 ?_
  refine lv_iload_n hx hb dJ5_charAt_5068e_16 rfl (lv_at hl 1 rfl) ?_
  refine lv_ishr hx hb dJ5_charAt_5068e_17 ?_
  refine tp_i (y := nI cap) (ishr0 _) ?_
  refine va_mmin hx hb (by rw [hml]; exact hl.1.symm) hown (hts (.methodLink RJ5 138 Lib.Math.min.name) (by decide +kernel)) (hts (.static Lib.Math.min.name) (by decide +kernel)) (hts (.initialized "java/lang/Math") (by decide +kernel)) (hts (.code Lib.Math.min.name Lib.Math.min.code 2 (some .int)) (by decide +kernel)) (Nat.le_of_ble_eq_true rfl) (Nat.le_of_ble_eq_true rfl) (Nat.le_refl _) (Nat.le_refl _) dJ5_charAt_5068e_18 ?_
  refine tp_i (y := nI (min n cap)) (mmin_n (by omega) (by omega)) ?_
  refine lv_istore (lv' := [(4, .int (nI (min n cap))), (3, .ref b), (2, .int 0), (0, .ref a), (1, .int (nI i))]) hx hb dJ5_charAt_5068e_21 hl (by decide) rfl (fun ls hl => ?_)
  refine lv_iload_n hx hb dJ5_charAt_5068e_23 rfl (lv_at hl 4 rfl) ?_
  refine lv_iload hx hb dJ5_charAt_5068e_24 (lv_at hl 0 rfl) ?_
  refine jp_S (As := [.int (nI i), .int (nI (min n cap))]) (rest := []) C0 hl hK hS hA (zat hZ hS hAb) (c_scheck l g b0 s.heap i (min n cap) (by omega) (by omega)) gJ5_charAt_5068e_J0_checkIndex_df160 rfl ⟨rfl, rfl⟩ (show hd_ok yJ0_checkIndex_df160 2 from ⟨by decide, by decide, by decide +kernel⟩) ⟨Nat.le_of_ble_eq_true rfl, Nat.le_of_ble_eq_true rfl⟩ rfl (Nat.le_of_ble_eq_true rfl) ⟨Nat.zero_le _, Nat.zero_le _⟩ dJ5_charAt_5068e_26 (fun locs hS => ?_)
  refine lv_iload_n hx hb dJ5_charAt_5068e_29 rfl (lv_at hl 2 rfl) ?_
  refine lv_if_ne (tgt := 42) hx hb dJ5_charAt_5068e_30 (by decide) (fun h1 => absurd rfl h1) (fun h1 => ?_)
  refine lv_aload_n hx hb dJ5_charAt_5068e_33 rfl (lv_at hl 1 rfl) ?_
  refine lv_iload_n hx hb dJ5_charAt_5068e_34 rfl (lv_at hl 4 rfl) ?_
  refine f_bald (j := i) hx hb hK hg9 (by omega) (by omega) dJ5_charAt_5068e_35 ?_
  refine tp_i (y := nI (t i)) (hft i hi) ?_
  refine lv_sipush (v := nI 255) hx hb dJ5_charAt_5068e_36 (by decide) ?_
  refine lv_iand hx hb dJ5_charAt_5068e_39 ?_
  refine tp_i (y := nI (t i)) (and255 ht) ?_
  refine lv_i2c (v := nI (t i)) hx hb dJ5_charAt_5068e_40 (i2c_n ht) ?_
  exact rt_p C0 rfl (nar_char ht) hS rfl dJ5_charAt_5068e_41
abbrev rmJ4_charAt_5068e : Room := { frames := 3, cells := 0, slots := 0, locals := 84 }
set_option maxHeartbeats 4000000 in
set_option maxRecDepth 100000 in
/-- StringBuilder.charAt -/
theorem c_bCharAt (l : Launch) (g : Gx) (b0 : Nat) (H0 : Heap) (a b cap n : Nat) (t : Nat → Nat) (hs : SB g a b cap n t H0) (i : Nat) (hi : i < n) (ht : t i < 128) : Met l yJ4_charAt_5068e wsJ4_charAt_5068e rmJ4_charAt_5068e (va_Pc [.ref a, .int (nI i)] (hJ g b0 H0)) (pQ (some (.int (nI (t i)))) H0) 0 0 (fun q => H0.size ≤ q) := by
  refine cx_met (own := RJ4) (cc := cJ4_charAt_5068e) (maxL := 2) (by decide) rfl rfl (Nat.le_of_ble_eq_true rfl) ?_
  intro p e s m below meth c ls C0 hB0 hnm hl
  obtain ⟨hH, hK, hZ⟩ := hB0
  obtain ⟨hx, hb, hr, hml, hown, hts, hlk⟩ := id C0
  subst hH
  have hS : va_S (fun q => s.heap.size ≤ q) s.heap s.heap [] := va_S.rf
  have hA : ∀ q : Nat, s.heap.size ≤ q → (fun q => s.heap.size ≤ q) q := fun q h => h
  have h0Z := hZ.1
  have hAb : ∀ q : Nat, (fun q => s.heap.size ≤ q) q → b0 ≤ q := fun q h => Nat.le_trans h0Z h
  have hl : lv_has ls 2 [(0, .ref a), (1, .int (nI i))] := hl
  refine lv_aload_n hx hb dJ4_charAt_5068e_0 rfl (lv_at hl 0 rfl) ?_
  refine lv_iload_n hx hb dJ4_charAt_5068e_1 rfl (lv_at hl 1 rfl) ?_
  refine jp_SU (As := [.int (nI i)]) (rest := []) C0 hl hK hS hA (zat hZ hS hAb) ((hK.1.1 1 _ rfl).2) (c_b5CharAt l g b0 s.heap a b cap n t hs i hi ht) gJ4_charAt_5068e_J5_charAt_5068e_s329 rfl ⟨rfl, rfl⟩ (hs.recv hK) ⟨by decide, by show (parseMethodDescriptor "(I)C").map (fun d => d.parameters.length) = some 1; decide +kernel⟩ ⟨Nat.le_of_ble_eq_true rfl, Nat.le_of_ble_eq_true rfl⟩ rfl (Nat.le_of_ble_eq_true rfl) ⟨Nat.zero_le _, Nat.zero_le _⟩ dJ4_charAt_5068e_2 (fun locs hS => ?_)
  exact rt_p C0 rfl (nar_char ht) hS rfl dJ4_charAt_5068e_5
abbrev rmJ5_append_3fe6f (c9 k : Nat) : Room := { frames := 4, cells := c9, slots := k, locals := 110 }
set_option maxHeartbeats 4000000 in
set_option maxRecDepth 100000 in
theorem c_a5_0 (l : Launch) (g : Gx) (b0 : Nat) (H0 : Heap) (a b cap n : Nat) (t : Nat → Nat) (hs : SB g a b cap n t H0) (x : Nat) (hx9 : x < 128) (hn9 : n + 1 ≤ cap) (hmb : ∀ q : Nat, (fun q => q = a ∨ q = b) q → b0 ≤ q) : Met l yJ5_append_3fe6f wsJ5_append_3fe6f (rmJ5_append_3fe6f 0 0) (va_Pc [.ref a, .int (nI x)] (hJ g b0 H0)) (nQ H0 (fun q => q = a ∨ q = b) (fun r H1 => r = some (.ref a) ∧ ∃ b2, b2 = b ∧ SB g a b2 cap (n + 1) (tup t n x) H1)) 0 0 (fun q => (fun q => q = a ∨ q = b) q ∨ H0.size ≤ q) := by
  refine cx_met (own := RJ5) (cc := cJ5_append_3fe6f) (maxL := 2) (by decide) rfl rfl (Nat.le_of_ble_eq_true rfl) ?_
  intro p e s m below meth c ls C0 hB0 hnm hl
  obtain ⟨hH, hK, hZ⟩ := hB0
  obtain ⟨hx, hb, hr, hml, hown, hts, hlk⟩ := id C0
  subst hH
  have hS : va_S (fun q => (fun q => q = a ∨ q = b) q ∨ s.heap.size ≤ q) s.heap s.heap [] := va_S.rf
  have hA : ∀ q : Nat, s.heap.size ≤ q → (fun q => (fun q => q = a ∨ q = b) q ∨ s.heap.size ≤ q) q := fun q h => Or.inr h
  have h0Z := hZ.1
  have hAb : ∀ q : Nat, (fun q => (fun q => q = a ∨ q = b) q ∨ s.heap.size ≤ q) q → b0 ≤ q := fun q h => h.elim (hmb q) (fun h => Nat.le_trans h0Z h)
  have hl : lv_has ls 2 [(0, .ref a), (1, .int (nI x))] := hl
  obtain ⟨mb, f, hf, hg9, hft, hfit, hnc, hc4, hab⟩ := id hs
  refine lv_aload_n hx hb dJ5_append_3fe6f_0 rfl (lv_at hl 0 rfl) ?_
  refine lv_aload_n hx hb dJ5_append_3fe6f_1 rfl (lv_at hl 0 rfl) ?_
  refine va_get (ci := 1) (C := RJ4) (T := TJ4) (N := 4) (v := .int (nI n)) hx hb hts (by decide +kernel) hown hK.1 (p1 hf) 0 rfl rfl 3 (by decide) (hts (.fieldLink RJ5 79 "java/lang/AbstractStringBuilder" "count" "I") (by decide +kernel)) (fun _ h9 => h9) rfl dJ5_append_3fe6f_2 ?_
  refine lv_iconst (v := nI 1) hx hb dJ5_append_3fe6f_5 (by decide) ?_
  refine lv_iadd hx hb dJ5_append_3fe6f_6 ?_
  refine tp_i (y := nI (n + 1)) (nI_add _ _) ?_
  refine jp_U (As := [.int (nI (n + 1))]) (rest := []) C0 hl hK hS hA (zat hZ hS hAb) (c_ens0 l g b0 s.heap a b cap n t hs (n + 1) hn9) gJ5_append_3fe6f_J5_ensureCapacityInternal_d00df_u100J4 rfl ⟨rfl, rfl⟩ (hs.recv hK) rfl ⟨by decide, by decide, by show (parseMethodDescriptor "(I)V").map (fun d => d.parameters.length) = some 1; decide +kernel⟩ ⟨Nat.le_of_ble_eq_true rfl, Nat.le_of_ble_eq_true rfl⟩ rfl (Nat.le_of_ble_eq_true rfl) ⟨Nat.zero_le _, Nat.zero_le _⟩ dJ5_append_3fe6f_7 (fun locs hS => ?_)
  have hg91 := hg9
  have hf1 := hf
  have hb2 : b = b := rfl
  have hft1 := hft
  have hfit1 := hfit
  have hab1 := hab
  have hnc1 : n < cap := hn9
  have hc41 := hc4
  refine lv_aload_n hx hb dJ5_append_3fe6f_10 rfl (lv_at hl 0 rfl) ?_
  refine jp_U (As := []) (rest := []) C0 hl hK hS hA (zat hZ hS hAb) (c_bLatin l g b0 s.heap a b (cap) n t hs) gJ5_append_3fe6f_J5_isLatin1_aae02_u83J4 rfl ⟨rfl, rfl⟩ (hs.recv hK) rfl ⟨by decide, by decide, by show (parseMethodDescriptor "()Z").map (fun d => d.parameters.length) = some 0; decide +kernel⟩ ⟨Nat.le_of_ble_eq_true rfl, Nat.le_of_ble_eq_true rfl⟩ rfl (Nat.le_of_ble_eq_true rfl) ⟨Nat.zero_le _, Nat.zero_le _⟩ dJ5_append_3fe6f_11 (fun locs hS => ?_)
  refine lv_if_eq (tgt := 45) hx hb dJ5_append_3fe6f_14 (by decide) (fun h1 => absurd h1 (by decide)) (fun h1 => ?_)
  refine lv_iload_n hx hb dJ5_append_3fe6f_17 rfl (lv_at hl 1 rfl) ?_
  refine jp_S (As := [.int (nI x)]) (rest := []) C0 hl hK hS hA (zat hZ hS hAb) (c_enc l g b0 s.heap x hx9) gJ5_append_3fe6f_J1_canEncode_fc78d rfl ⟨rfl, rfl⟩ (show hd_ok yJ1_canEncode_fc78d 1 from ⟨by decide, by decide, by decide +kernel⟩) ⟨Nat.le_of_ble_eq_true rfl, Nat.le_of_ble_eq_true rfl⟩ rfl (Nat.le_of_ble_eq_true rfl) ⟨Nat.zero_le _, Nat.zero_le _⟩ dJ5_append_3fe6f_18 (fun locs hS => ?_)
  refine lv_if_eq (tgt := 45) hx hb dJ5_append_3fe6f_21 (by decide) (fun h2 => absurd h2 (by decide)) (fun h2 => ?_)
  refine lv_aload_n hx hb dJ5_append_3fe6f_24 rfl (lv_at hl 0 rfl) ?_
  refine va_get (ci := 1) (C := RJ4) (T := TJ4) (N := 4) (v := .ref b) hx hb hts (by decide +kernel) hown hK.1 (p1 hf1) 0 rfl rfl 0 (by decide) (hts (.fieldLink RJ5 15 "java/lang/AbstractStringBuilder" "value" "[B") (by decide +kernel)) (fun _ h9 => h9) rfl dJ5_append_3fe6f_25 ?_
  refine lv_aload_n hx hb dJ5_append_3fe6f_28 rfl (lv_at hl 0 rfl) ?_
  refine lv_dup hx hb dJ5_append_3fe6f_29 rfl ?_
  refine va_get (ci := 1) (C := RJ4) (T := TJ4) (N := 4) (v := .int (nI n)) hx hb hts (by decide +kernel) hown hK.1 (p1 hf1) 0 rfl rfl 3 (by decide) (hts (.fieldLink RJ5 79 "java/lang/AbstractStringBuilder" "count" "I") (by decide +kernel)) (fun _ h9 => h9) rfl dJ5_append_3fe6f_30 ?_
  refine lv_dup_x1 hx hb dJ5_append_3fe6f_33 rfl rfl ?_
  refine lv_iconst (v := nI 1) hx hb dJ5_append_3fe6f_34 (by decide) ?_
  refine lv_iadd hx hb dJ5_append_3fe6f_35 ?_
  refine tp_i (y := nI (n + 1)) (nI_add _ _) ?_
  refine w_putf (ci := 1) (C := RJ4) (T := TJ4) (N := 4) (ty := .int) hx hb hts (by decide +kernel) tyJ4 tyJ4_ok nmJ4 hown hK hS hf1 (Or.inl (Or.inl rfl)) rfl 3 (by decide) (hts (.fieldLink RJ5 79 "java/lang/AbstractStringBuilder" "count" "I") (by decide +kernel)) (fun _ h9 => h9) rfl (by decide +kernel) rfl rfl (by show 3 < 4; decide) dJ5_append_3fe6f_36 (fun H2 locs f2 s2 o2 hS => ?_)
  refine lv_iload_n hx hb dJ5_append_3fe6f_39 rfl (lv_at hl 1 rfl) ?_
  refine lv_i2b (v := nI x) hx hb dJ5_append_3fe6f_40 (i2b_n hx9) ?_
  refine f_bast (j := n) hx hb hK hS (hg91.kept (o2 _ (fun z => hab1 z.symm))) (Or.inl (Or.inr rfl)) hnc1 (by omega) dJ5_append_3fe6f_41 (fun H3 locs g3 s3 o3 hS => ?_)
  refine lv_goto (tgt := 75) hx hb dJ5_append_3fe6f_42 (by decide) ?_
  refine lv_aload_n hx hb dJ5_append_3fe6f_75 rfl (lv_at hl 0 rfl) ?_
  have hS9 := SB.push (f2.kept (o3 _ hab1)) g3 hft1 hfit1 hnc1 hc41 hab1 hx9
  exact rt_a (mu := (fun q => q = a ∨ q = b)) C0 (Or.inl ⟨_, rfl⟩) ⟨rfl, b, rfl, hS9⟩ hS rfl dJ5_append_3fe6f_76
set_option maxHeartbeats 4000000 in
set_option maxRecDepth 100000 in
theorem c_a5_1 (l : Launch) (g : Gx) (b0 : Nat) (H0 : Heap) (a b cap n : Nat) (t : Nat → Nat) (hs : SB g a b cap n t H0) (x : Nat) (hx9 : x < 128) (hn9 : cap < n + 1) (hn8 : n + 1 < 1000) (hmb : ∀ q : Nat, (fun q => q = a ∨ q = b) q → b0 ≤ q) : Met l yJ5_append_3fe6f wsJ5_append_3fe6f (rmJ5_append_3fe6f 1 (ncap (n + 1) cap)) (va_Pc [.ref a, .int (nI x)] (hJ g b0 H0)) (nQ H0 (fun q => q = a ∨ q = b) (fun r H1 => r = some (.ref a) ∧ ∃ b2, H0.size ≤ b2 ∧ SB g a b2 (ncap (n + 1) cap) (n + 1) (tup t n x) H1)) 1 (ncap (n + 1) cap) (fun q => (fun q => q = a ∨ q = b) q ∨ H0.size ≤ q) := by
  refine cx_met (own := RJ5) (cc := cJ5_append_3fe6f) (maxL := 2) (by decide) rfl rfl (Nat.le_of_ble_eq_true rfl) ?_
  intro p e s m below meth c ls C0 hB0 hnm hl
  obtain ⟨hH, hK, hZ⟩ := hB0
  obtain ⟨hx, hb, hr, hml, hown, hts, hlk⟩ := id C0
  subst hH
  have hS : va_S (fun q => (fun q => q = a ∨ q = b) q ∨ s.heap.size ≤ q) s.heap s.heap [] := va_S.rf
  have hA : ∀ q : Nat, s.heap.size ≤ q → (fun q => (fun q => q = a ∨ q = b) q ∨ s.heap.size ≤ q) q := fun q h => Or.inr h
  have h0Z := hZ.1
  have hAb : ∀ q : Nat, (fun q => (fun q => q = a ∨ q = b) q ∨ s.heap.size ≤ q) q → b0 ≤ q := fun q h => h.elim (hmb q) (fun h => Nat.le_trans h0Z h)
  have hl : lv_has ls 2 [(0, .ref a), (1, .int (nI x))] := hl
  obtain ⟨mb, f, hf, hg9, hft, hfit, hnc, hc4, hab⟩ := id hs
  refine lv_aload_n hx hb dJ5_append_3fe6f_0 rfl (lv_at hl 0 rfl) ?_
  refine lv_aload_n hx hb dJ5_append_3fe6f_1 rfl (lv_at hl 0 rfl) ?_
  refine va_get (ci := 1) (C := RJ4) (T := TJ4) (N := 4) (v := .int (nI n)) hx hb hts (by decide +kernel) hown hK.1 (p1 hf) 0 rfl rfl 3 (by decide) (hts (.fieldLink RJ5 79 "java/lang/AbstractStringBuilder" "count" "I") (by decide +kernel)) (fun _ h9 => h9) rfl dJ5_append_3fe6f_2 ?_
  refine lv_iconst (v := nI 1) hx hb dJ5_append_3fe6f_5 (by decide) ?_
  refine lv_iadd hx hb dJ5_append_3fe6f_6 ?_
  refine tp_i (y := nI (n + 1)) (nI_add _ _) ?_
  refine jn_U (As := [.int (nI (n + 1))]) (rest := []) C0 hl hK hS hA (fun q h => Or.inl (Or.inl h)) (zat hZ hS hAb) (c_ens1 l g b0 s.heap a b cap n t hs (n + 1) hn9 hn8 (fun q h => hmb q (Or.inl h))) gJ5_append_3fe6f_J5_ensureCapacityInternal_d00df_u100J4 rfl ⟨rfl, rfl⟩ (hs.recv hK) rfl ⟨by decide, by decide, by show (parseMethodDescriptor "(I)V").map (fun d => d.parameters.length) = some 1; decide +kernel⟩ ⟨Nat.le_of_ble_eq_true rfl, Nat.le_of_ble_eq_true rfl⟩ rfl (Nat.le_of_ble_eq_true rfl) ⟨by show 0 + 1 ≤ 1; omega, by show 0 + ncap (n + 1) cap ≤ ncap (n + 1) cap; omega⟩ dJ5_append_3fe6f_7 (fun v H1 locs hv hzz hk1 hS => ?_)
  obtain ⟨rfl, b2, hb2, hs1⟩ := hv
  obtain ⟨mb1, f1, hf1, hg91, hft1, hfit1, hnc1, hc41, hab1⟩ := id hs1
  have hnc1 : n < ncap (n + 1) cap := by unfold ncap; omega
  refine lv_aload_n hx hb dJ5_append_3fe6f_10 rfl (lv_at hl 0 rfl) ?_
  refine jp_U (As := []) (rest := []) C0 hl hK hS hA (zat hZ hS hAb) (c_bLatin l g b0 H1 a b2 (ncap (n + 1) cap) n t hs1) gJ5_append_3fe6f_J5_isLatin1_aae02_u83J4 rfl ⟨rfl, rfl⟩ (hs1.recv hK) rfl ⟨by decide, by decide, by show (parseMethodDescriptor "()Z").map (fun d => d.parameters.length) = some 0; decide +kernel⟩ ⟨Nat.le_of_ble_eq_true rfl, Nat.le_of_ble_eq_true rfl⟩ rfl (Nat.le_of_ble_eq_true rfl) ⟨by show 0 + 1 ≤ 1; omega, by show 0 + ncap (n + 1) cap ≤ ncap (n + 1) cap; omega⟩ dJ5_append_3fe6f_11 (fun locs hS => ?_)
  refine lv_if_eq (tgt := 45) hx hb dJ5_append_3fe6f_14 (by decide) (fun h1 => absurd h1 (by decide)) (fun h1 => ?_)
  refine lv_iload_n hx hb dJ5_append_3fe6f_17 rfl (lv_at hl 1 rfl) ?_
  refine jp_S (As := [.int (nI x)]) (rest := []) C0 hl hK hS hA (zat hZ hS hAb) (c_enc l g b0 H1 x hx9) gJ5_append_3fe6f_J1_canEncode_fc78d rfl ⟨rfl, rfl⟩ (show hd_ok yJ1_canEncode_fc78d 1 from ⟨by decide, by decide, by decide +kernel⟩) ⟨Nat.le_of_ble_eq_true rfl, Nat.le_of_ble_eq_true rfl⟩ rfl (Nat.le_of_ble_eq_true rfl) ⟨by show 0 + 1 ≤ 1; omega, by show 0 + ncap (n + 1) cap ≤ ncap (n + 1) cap; omega⟩ dJ5_append_3fe6f_18 (fun locs hS => ?_)
  refine lv_if_eq (tgt := 45) hx hb dJ5_append_3fe6f_21 (by decide) (fun h2 => absurd h2 (by decide)) (fun h2 => ?_)
  refine lv_aload_n hx hb dJ5_append_3fe6f_24 rfl (lv_at hl 0 rfl) ?_
  refine va_get (ci := 1) (C := RJ4) (T := TJ4) (N := 4) (v := .ref b2) hx hb hts (by decide +kernel) hown hK.1 (p1 hf1) 0 rfl rfl 0 (by decide) (hts (.fieldLink RJ5 15 "java/lang/AbstractStringBuilder" "value" "[B") (by decide +kernel)) (fun _ h9 => h9) rfl dJ5_append_3fe6f_25 ?_
  refine lv_aload_n hx hb dJ5_append_3fe6f_28 rfl (lv_at hl 0 rfl) ?_
  refine lv_dup hx hb dJ5_append_3fe6f_29 rfl ?_
  refine va_get (ci := 1) (C := RJ4) (T := TJ4) (N := 4) (v := .int (nI n)) hx hb hts (by decide +kernel) hown hK.1 (p1 hf1) 0 rfl rfl 3 (by decide) (hts (.fieldLink RJ5 79 "java/lang/AbstractStringBuilder" "count" "I") (by decide +kernel)) (fun _ h9 => h9) rfl dJ5_append_3fe6f_30 ?_
  refine lv_dup_x1 hx hb dJ5_append_3fe6f_33 rfl rfl ?_
  refine lv_iconst (v := nI 1) hx hb dJ5_append_3fe6f_34 (by decide) ?_
  refine lv_iadd hx hb dJ5_append_3fe6f_35 ?_
  refine tp_i (y := nI (n + 1)) (nI_add _ _) ?_
  refine w_putf (ci := 1) (C := RJ4) (T := TJ4) (N := 4) (ty := .int) hx hb hts (by decide +kernel) tyJ4 tyJ4_ok nmJ4 hown hK hS hf1 (Or.inl (Or.inl rfl)) rfl 3 (by decide) (hts (.fieldLink RJ5 79 "java/lang/AbstractStringBuilder" "count" "I") (by decide +kernel)) (fun _ h9 => h9) rfl (by decide +kernel) rfl rfl (by show 3 < 4; decide) dJ5_append_3fe6f_36 (fun H2 locs f2 s2 o2 hS => ?_)
  refine lv_iload_n hx hb dJ5_append_3fe6f_39 rfl (lv_at hl 1 rfl) ?_
  refine lv_i2b (v := nI x) hx hb dJ5_append_3fe6f_40 (i2b_n hx9) ?_
  refine f_bast (j := n) hx hb hK hS (hg91.kept (o2 _ (fun z => hab1 z.symm))) (Or.inr (by omega)) hnc1 (by omega) dJ5_append_3fe6f_41 (fun H3 locs g3 s3 o3 hS => ?_)
  refine lv_goto (tgt := 75) hx hb dJ5_append_3fe6f_42 (by decide) ?_
  refine lv_aload_n hx hb dJ5_append_3fe6f_75 rfl (lv_at hl 0 rfl) ?_
  have hS9 := SB.push (f2.kept (o3 _ hab1)) g3 hft1 hfit1 hnc1 hc41 hab1 hx9
  refine W.widen (k := 1) (n := ncap (n + 1) cap) (by omega) (by omega) ?_
  exact rt_a (mu := (fun q => q = a ∨ q = b)) C0 (Or.inl ⟨_, rfl⟩) ⟨rfl, b2, hb2, hS9⟩ hS rfl dJ5_append_3fe6f_76
abbrev rmJ4_append_cf468 (c9 k : Nat) : Room := { frames := 5, cells := c9, slots := k, locals := 131 }
set_option maxHeartbeats 4000000 in
set_option maxRecDepth 100000 in
theorem c_a4_0 (l : Launch) (g : Gx) (b0 : Nat) (H0 : Heap) (a b cap n : Nat) (t : Nat → Nat) (hs : SB g a b cap n t H0) (x : Nat) (hx9 : x < 128) (hn9 : n + 1 ≤ cap) (hmb : ∀ q : Nat, (fun q => q = a ∨ q = b) q → b0 ≤ q) : Met l yJ4_append_cf468 wsJ4_append_cf468 (rmJ4_append_cf468 0 0) (va_Pc [.ref a, .int (nI x)] (hJ g b0 H0)) (nQ H0 (fun q => q = a ∨ q = b) (fun r H1 => r = some (.ref a) ∧ ∃ b2, b2 = b ∧ SB g a b2 cap (n + 1) (tup t n x) H1)) 0 0 (fun q => (fun q => q = a ∨ q = b) q ∨ H0.size ≤ q) := by
  refine cx_met (own := RJ4) (cc := cJ4_append_cf468) (maxL := 2) (by decide) rfl rfl (Nat.le_of_ble_eq_true rfl) ?_
  intro p e s m below meth c ls C0 hB0 hnm hl
  obtain ⟨hH, hK, hZ⟩ := hB0
  obtain ⟨hx, hb, hr, hml, hown, hts, hlk⟩ := id C0
  subst hH
  have hS : va_S (fun q => (fun q => q = a ∨ q = b) q ∨ s.heap.size ≤ q) s.heap s.heap [] := va_S.rf
  have hA : ∀ q : Nat, s.heap.size ≤ q → (fun q => (fun q => q = a ∨ q = b) q ∨ s.heap.size ≤ q) q := fun q h => Or.inr h
  have h0Z := hZ.1
  have hAb : ∀ q : Nat, (fun q => (fun q => q = a ∨ q = b) q ∨ s.heap.size ≤ q) q → b0 ≤ q := fun q h => h.elim (hmb q) (fun h => Nat.le_trans h0Z h)
  have hl : lv_has ls 2 [(0, .ref a), (1, .int (nI x))] := hl
  refine lv_aload_n hx hb dJ4_append_cf468_0 rfl (lv_at hl 0 rfl) ?_
  refine lv_iload_n hx hb dJ4_append_cf468_1 rfl (lv_at hl 1 rfl) ?_
  refine jn_SU (As := [.int (nI x)]) (rest := []) C0 hl hK hS hA (fun q h => Or.inl h) (zat hZ hS hAb) ((hK.1.1 1 _ rfl).2) (c_a5_0 l g b0 s.heap a b cap n t hs x hx9 hn9 hmb) gJ4_append_cf468_J5_append_3fe6f_s50 rfl ⟨rfl, rfl⟩ (hs.recv hK) ⟨by decide, by show (parseMethodDescriptor "(C)Ljava/lang/AbstractStringBuilder;").map (fun d => d.parameters.length) = some 1; decide +kernel⟩ ⟨Nat.le_of_ble_eq_true rfl, Nat.le_of_ble_eq_true rfl⟩ rfl (Nat.le_of_ble_eq_true rfl) ⟨by decide, by decide⟩ dJ4_append_cf468_2 (fun v H1 locs hv hzz hk hS => ?_)
  obtain ⟨rfl, b2, hb2, hS9⟩ := hv
  refine lv_pop hx hb dJ4_append_cf468_5 rfl ?_
  refine lv_aload_n hx hb dJ4_append_cf468_6 rfl (lv_at hl 0 rfl) ?_
  exact rt_a (mu := (fun q => q = a ∨ q = b)) C0 (Or.inl ⟨_, rfl⟩) ⟨rfl, b2, hb2, hS9⟩ hS rfl dJ4_append_cf468_7
set_option maxHeartbeats 4000000 in
set_option maxRecDepth 100000 in
theorem c_a4_1 (l : Launch) (g : Gx) (b0 : Nat) (H0 : Heap) (a b cap n : Nat) (t : Nat → Nat) (hs : SB g a b cap n t H0) (x : Nat) (hx9 : x < 128) (hn9 : cap < n + 1) (hn8 : n + 1 < 1000) (hmb : ∀ q : Nat, (fun q => q = a ∨ q = b) q → b0 ≤ q) : Met l yJ4_append_cf468 wsJ4_append_cf468 (rmJ4_append_cf468 1 (ncap (n + 1) cap)) (va_Pc [.ref a, .int (nI x)] (hJ g b0 H0)) (nQ H0 (fun q => q = a ∨ q = b) (fun r H1 => r = some (.ref a) ∧ ∃ b2, H0.size ≤ b2 ∧ SB g a b2 (ncap (n + 1) cap) (n + 1) (tup t n x) H1)) 1 (ncap (n + 1) cap) (fun q => (fun q => q = a ∨ q = b) q ∨ H0.size ≤ q) := by
  refine cx_met (own := RJ4) (cc := cJ4_append_cf468) (maxL := 2) (by decide) rfl rfl (Nat.le_of_ble_eq_true rfl) ?_
  intro p e s m below meth c ls C0 hB0 hnm hl
  obtain ⟨hH, hK, hZ⟩ := hB0
  obtain ⟨hx, hb, hr, hml, hown, hts, hlk⟩ := id C0
  subst hH
  have hS : va_S (fun q => (fun q => q = a ∨ q = b) q ∨ s.heap.size ≤ q) s.heap s.heap [] := va_S.rf
  have hA : ∀ q : Nat, s.heap.size ≤ q → (fun q => (fun q => q = a ∨ q = b) q ∨ s.heap.size ≤ q) q := fun q h => Or.inr h
  have h0Z := hZ.1
  have hAb : ∀ q : Nat, (fun q => (fun q => q = a ∨ q = b) q ∨ s.heap.size ≤ q) q → b0 ≤ q := fun q h => h.elim (hmb q) (fun h => Nat.le_trans h0Z h)
  have hl : lv_has ls 2 [(0, .ref a), (1, .int (nI x))] := hl
  refine lv_aload_n hx hb dJ4_append_cf468_0 rfl (lv_at hl 0 rfl) ?_
  refine lv_iload_n hx hb dJ4_append_cf468_1 rfl (lv_at hl 1 rfl) ?_
  refine jn_SU (As := [.int (nI x)]) (rest := []) C0 hl hK hS hA (fun q h => Or.inl h) (zat hZ hS hAb) ((hK.1.1 1 _ rfl).2) (c_a5_1 l g b0 s.heap a b cap n t hs x hx9 hn9 hn8 hmb) gJ4_append_cf468_J5_append_3fe6f_s50 rfl ⟨rfl, rfl⟩ (hs.recv hK) ⟨by decide, by show (parseMethodDescriptor "(C)Ljava/lang/AbstractStringBuilder;").map (fun d => d.parameters.length) = some 1; decide +kernel⟩ ⟨Nat.le_of_ble_eq_true rfl, Nat.le_of_ble_eq_true rfl⟩ rfl (Nat.le_of_ble_eq_true rfl) ⟨by show 0 + 1 ≤ 1; omega, by show 0 + ncap (n + 1) cap ≤ ncap (n + 1) cap; omega⟩ dJ4_append_cf468_2 (fun v H1 locs hv hzz hk hS => ?_)
  obtain ⟨rfl, b2, hb2, hS9⟩ := hv
  refine lv_pop hx hb dJ4_append_cf468_5 rfl ?_
  refine lv_aload_n hx hb dJ4_append_cf468_6 rfl (lv_at hl 0 rfl) ?_
  refine W.widen (k := 1) (n := ncap (n + 1) cap) (by omega) (by omega) ?_
  exact rt_a (mu := (fun q => q = a ∨ q = b)) C0 (Or.inl ⟨_, rfl⟩) ⟨rfl, b2, hb2, hS9⟩ hS rfl dJ4_append_cf468_7
/-- StringBuilder.append(char) -/
theorem c_append (l : Launch) (g : Gx) (b0 : Nat) (H0 : Heap) (a b cap n : Nat) (t : Nat → Nat) (hs : SB g a b cap n t H0) (x : Nat) (hx9 : x < 128) (hn8 : n + 1 < 1000) (hmb : ∀ q : Nat, (fun q => q = a ∨ q = b) q → b0 ≤ q) : Met l yJ4_append_cf468 wsJ4_append_cf468 (rmJ4_append_cf468 (celA n cap) (sloA n cap)) (va_Pc [.ref a, .int (nI x)] (hJ g b0 H0)) (nQ H0 (fun q => q = a ∨ q = b) (fun r H1 => r = some (.ref a) ∧ ∃ b2, (b2 = b ∨ H0.size ≤ b2) ∧ SB g a b2 (capA n cap) (n + 1) (tup t n x) H1)) (celA n cap) (sloA n cap) (fun q => (fun q => q = a ∨ q = b) q ∨ H0.size ≤ q) := by
  have post : ∀ (c : Nat) (p1 p2 : Nat → Prop), (∀ q, p1 q → p2 q) → ∀ (ar : Array Value) (s : State) (o : Outcome) (t' : State), nQ H0 (fun q => q = a ∨ q = b) (fun r H1 => r = some (.ref a) ∧ ∃ b2, p1 b2 ∧ SB g a b2 c (n + 1) (tup t n x) H1) ar s o t' → nQ H0 (fun q => q = a ∨ q = b) (fun r H1 => r = some (.ref a) ∧ ∃ b2, p2 b2 ∧ SB g a b2 c (n + 1) (tup t n x) H1) ar s o t' := by
    rintro c p1 p2 hp ar s o t' ⟨v, h1, ⟨h2, b2, h3, h4⟩, h5⟩
    exact ⟨v, h1, ⟨h2, b2, hp _ h3, h4⟩, h5⟩
  unfold celA sloA capA
  by_cases h : n + 1 ≤ cap
  · rw [if_pos h, if_pos h, if_pos h]
    exact met_post (c_a4_0 l g b0 H0 a b cap n t hs x hx9 h hmb) (post _ _ _ (fun q h => Or.inl h))
  · rw [if_neg h, if_neg h, if_neg h]
    exact met_post (c_a4_1 l g b0 H0 a b cap n t hs x hx9 (by omega) hn8 hmb) (post _ _ _ (fun q h => Or.inr h))
end M46

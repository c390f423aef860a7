-- READING TEXTS: rows, and the JDK's methods that read a String
section JR
variable {p : Program} {l : Launch} {e : Env} {R : Room} {s : State} {m : MethodId} {args : Array Value} {below : List Frame} {meth : Method} {c : Code} {H H0 : Heap} {locs : List Loc} {cells slots : Nat} {Q : State → Prop}
variable {cc : ByteArray} {pc : Nat} {ls : Array Slot} {rest : List Value} {A : Nat → Prop} {a b n b0 : Nat} {t : Nat → Nat} {g : Gx} {mc ms nL : Nat} {Ts : List Cond} {own : String}
theorem isB_arr (hK : KK g s) (hZ : ZW g b0 s H) {cell : Cell} (h : isB g cell.cls) (hv : ∀ k, cell.vm ≠ .statics k) : s.isArrayOf cell .byte := by
  obtain ⟨-, -, -, -, ⟨h5, h6, h7⟩, -⟩ := hZ
  have hA : ArrOfT s cell.cls .byte := by
    rcases h with h | h | h | h
    · rw [h]; exact (hK.1.2 4 _ rfl).1
    · rw [h]; exact h5
    · rw [h]; exact h6
    · rw [h]; exact h7
  exact ⟨hv, (hA 0 (fun _ => .null)).2⟩
theorem j_srecv (hK : KK g s) (h : sS g a b n t H) : ∃ cell : Cell, H[a]? = some cell ∧ cell.vm.isStatics = false ∧ s.vm.findClass RJ0 = some cell.cls := by
  obtain ⟨⟨cell, h1, h2, h3, -⟩, -⟩ := h
  exact ⟨cell, h1, h3, by rw [h2]; exact (hK.1.1 0 _ rfl).2.1⟩
theorem j_sval (hx : p.tables.exec = Jvm.exec) (hb : c.code = cc) {index : Nat} (hts : ∀ w ∈ Ts, w.before args s = true) (hin : ∀ w ∈ u_ws RJ0 TJ0 4, w ∈ Ts) (hown : s.vm.findClass own = some m.cls) (hK : KK g s) (h : sS g a b n t H) (hlink : (Cond.fieldLink own index "java/lang/String" "value" "[B").before args s = true) (hdg : decode cc pc = .ok (.getfield index, 3))
    (kk : W p l e R s m args below meth c H locs cells slots Q (F0 m (pc + 3) ls (.ref b :: rest))) : W p l e R s m args below meth c H locs cells slots Q (F0 m pc ls (.ref a :: rest)) := by
  obtain ⟨⟨cell, h1, -, -, h4, h5, -⟩, -⟩ := h
  obtain ⟨hSl, hfc, kC, hkC, -⟩ := hK.1.1 0 _ rfl
  obtain ⟨cf, kf, fi, f, hi, hsl⟩ := hSl 0 (by decide)
  have hst := (u_facts hfc hkC (u_lays hts hin (k := 0) (by decide)) hi).1
  exact W.getf hx hb hown hlink hi hst h1 h4 (by rw [hsl]; exact h5) rfl rfl hdg kk
theorem j_scod (hx : p.tables.exec = Jvm.exec) (hb : c.code = cc) {index : Nat} (hts : ∀ w ∈ Ts, w.before args s = true) (hin : ∀ w ∈ u_ws RJ0 TJ0 4, w ∈ Ts) (hown : s.vm.findClass own = some m.cls) (hK : KK g s) (h : sS g a b n t H) (hlink : (Cond.fieldLink own index "java/lang/String" "coder" "B").before args s = true) (hdg : decode cc pc = .ok (.getfield index, 3))
    (kk : W p l e R s m args below meth c H locs cells slots Q (F0 m (pc + 3) ls (.int 0 :: rest))) : W p l e R s m args below meth c H locs cells slots Q (F0 m pc ls (.ref a :: rest)) := by
  obtain ⟨⟨cell, h1, -, -, h4, -, h6⟩, -⟩ := h
  obtain ⟨hSl, hfc, kC, hkC, -⟩ := hK.1.1 0 _ rfl
  obtain ⟨cf, kf, fi, f, hi, hsl⟩ := hSl 1 (by decide)
  have hst := (u_facts hfc hkC (u_lays hts hin (k := 1) (by decide)) hi).1
  exact W.getf hx hb hown hlink hi hst h1 h4 (by rw [hsl]; exact h6) rfl rfl hdg kk
theorem j_blen (hx : p.tables.exec = Jvm.exec) (hb : c.code = cc) (hK : KK g s) (hZ : ZW g b0 s H) (h : bT g b n t H) (hdg : decode cc pc = .ok (.arraylength, 1))
    (kk : W p l e R s m args below meth c H locs cells slots Q (F0 m (pc + 1) ls (.int (nI n) :: rest))) : W p l e R s m args below meth c H locs cells slots Q (F0 m pc ls (.ref b :: rest)) := by
  obtain ⟨cell, h1, h2, h3, -, -, h6, -⟩ := h
  exact W.alen hx hb h1 (isB_arr hK hZ h2 h3) h6 rfl rfl hdg kk
theorem j_bald (hx : p.tables.exec = Jvm.exec) (hb : c.code = cc) (hK : KK g s) (hZ : ZW g b0 s H) (h : bT g b n t H) {j : Nat} (hj : j < n) (hn : n < 2 ^ 31) (hdg : decode cc pc = .ok (.baload, 1))
    (kk : W p l e R s m args below meth c H locs cells slots Q (F0 m (pc + 1) ls (.int (nI (t j)) :: rest))) : W p l e R s m args below meth c H locs cells slots Q (F0 m pc ls (.int (nI j) :: .ref b :: rest)) := by
  obtain ⟨cell, h1, h2, h3, h4, h5, -, h7⟩ := h
  have hc : (nI j).toNatClampNeg = j := nI_clamp (by omega)
  refine W.bald (v := .int (nI (t j))) hx hb h1 (isB_arr hK hZ h2 h3) h4 ?_ (by rw [hc]; exact h7 j hj) rfl rfl hdg kk
  rintro (z | z)
  · exact absurd z (nI_pos (by omega))
  · rw [hc] at z
    omega
/-- ends of readers: a small type, nothing -/
theorem rt_p {r v : Int32} {ty : FieldType} (C0 : Cx p s m args meth c own cc nL (some ty) Ts) (hv : r = v) (hn : narrow ty (.int r) = .int r) (hS : va_S (fun q => H0.size ≤ q) H0 H0 locs) (hH : s.heap = H0) (hdg : decode cc pc = .ok (.ireturn, 1)) : W p l e R s m args below meth c H0 locs 0 0 (MQ below (pQ (some (.int v)) H0) args s 0 0 (fun q => H0.size ≤ q)) (F0 m pc ls [.int r]) := by
  obtain ⟨hx, hb, hr, hml, hown, hts, hlk⟩ := C0
  subst hv
  exact W.zret hx hb hr hn (fun t ht _ => ⟨rfl, ht⟩) hS.2.2 hdg hlk
theorem rt_pv (C0 : Cx p s m args meth c own cc nL none Ts) (hS : va_S (fun q => H0.size ≤ q) H0 H0 locs) (hH : s.heap = H0) (hdg : decode cc pc = .ok (.return_, 1)) : W p l e R s m args below meth c H0 locs 0 0 (MQ below (pQ none H0) args s 0 0 (fun q => H0.size ≤ q)) (F0 m pc ls []) := by
  obtain ⟨hx, hb, hr, hml, hown, hts, hlk⟩ := C0
  exact W.vret hx hb hr (fun t ht _ => ⟨rfl, ht⟩) hS.2.2 hdg hlk
theorem rt_pa {q : Nat} {rt : FieldType} (C0 : Cx p s m args meth c own cc nL (some rt) Ts) (hrt : (∃ n, rt = .object n) ∨ ∃ t, rt = .array t) (hS : va_S (fun q => H0.size ≤ q) H0 H0 locs) (hH : s.heap = H0) (hdg : decode cc pc = .ok (.areturn, 1)) : W p l e R s m args below meth c H0 locs 0 0 (MQ below (pQ (some (.ref q)) H0) args s 0 0 (fun q => H0.size ≤ q)) (F0 m pc ls [.ref q]) := by
  obtain ⟨hx, hb, hr, hml, hown, hts, hlk⟩ := C0
  exact W.aret hx hb hr hrt (Or.inr ⟨_, rfl⟩) (fun t ht _ => ⟨rfl, ht⟩) hS.2.2 hdg hlk
end JR
theorem ishr0 (x : Int32) : x >>> ((0 : Int32) &&& 31) = x := by
  show x >>> (0 : Int32) = x
  exact Int32.shiftRight_zero
theorem and255 {k : Nat} (h : k < 128) : nI k &&& nI 255 = nI k := by
  obtain ⟨j, hj, rfl⟩ : ∃ j : Fin 128, True ∧ k = j.1 := ⟨⟨k, h⟩, trivial, rfl⟩
  revert j
  decide +kernel
theorem i2c_n {k : Nat} (h : k < 128) : ((nI k).toUInt32 % 65536).toInt32 = nI k := by
  obtain ⟨j, hj, rfl⟩ : ∃ j : Fin 128, True ∧ k = j.1 := ⟨⟨k, h⟩, trivial, rfl⟩
  revert j
  decide +kernel
theorem nar_char {k : Nat} (h : k < 128) : narrow .char (.int (nI k)) = .int (nI k) := by
  show Value.int ((nI k).toUInt32 % 65536).toInt32 = _
  rw [i2c_n h]
section M43
variable {p : Program} {l : Launch} {e : Env} {s : State} {m : MethodId} {args : Array Value} {below : List Frame} {meth : Method} {c : Code} {H H0 : Heap} {locs : List Loc} {cells slots : Nat} {Q : State → Prop} {A : Nat → Prop} {g : Gx} {b0 : Nat}
abbrev rmJ0_coder_7d493 : Room := { frames := 0, cells := 0, slots := 0, locals := 0 }
set_option maxHeartbeats 4000000 in
set_option maxRecDepth 100000 in
theorem c_coder (l : Launch) (g : Gx) (b0 : Nat) (H0 : Heap) (a b n : Nat) (t : Nat → Nat) (hs : sS g a b n t H0) : Met l yJ0_coder_7d493 wsJ0_coder_7d493 rmJ0_coder_7d493 (va_Pc [.ref a] (hJ g b0 H0)) (pQ (some (.int 0)) H0) 0 0 (fun q => H0.size ≤ q) := by
  refine cx_met (own := RJ0) (cc := cJ0_coder_7d493) (maxL := 1) (by decide) rfl rfl (Nat.le_of_ble_eq_true rfl) ?_
  intro p e s m below meth c ls C0 hB0 hnm hl
  obtain ⟨hH, hK, hZ⟩ := hB0
  obtain ⟨hx, hb, hr, hml, hown, hts, hlk⟩ := id C0
  subst hH
  have hS : va_S (fun q => s.heap.size ≤ q) s.heap s.heap [] := va_S.rf
  have hA : ∀ q : Nat, s.heap.size ≤ q → (fun q => s.heap.size ≤ q) q := fun q h => h
  have h0Z := hZ.1
  have hAb : ∀ q : Nat, (fun q => s.heap.size ≤ q) q → b0 ≤ q := fun q h => Nat.le_trans h0Z h
  have hl : lv_has ls 1 [(0, .ref a)] := hl
  refine va_gets hx hb (va_Z.narrow hZ.2.1 hAb) hS hown (hts (.fieldLink RJ0 38 "java/lang/String" "COMPACT_STRINGS" "Z") (by decide +kernel)) (fun _ h9 => h9) dJ0_coder_7d493_0 ?_
  refine lv_if_eq (tgt := 13) hx hb dJ0_coder_7d493_3 (by decide) (fun h1 => absurd h1 (by decide)) (fun h1 => ?_)
  refine lv_aload_n hx hb dJ0_coder_7d493_6 rfl (lv_at hl 0 rfl) ?_
  refine j_scod hx hb hts (by decide +kernel) hown hK hs (hts (.fieldLink RJ0 15 "java/lang/String" "coder" "B") (by decide +kernel)) dJ0_coder_7d493_7 ?_
  refine lv_goto (tgt := 14) hx hb dJ0_coder_7d493_10 (by decide) ?_
  exact rt_p C0 rfl rfl hS rfl dJ0_coder_7d493_14
abbrev rmJ0_isLatin1_aae02 : Room := { frames := 0, cells := 0, slots := 0, locals := 0 }
set_option maxHeartbeats 4000000 in
set_option maxRecDepth 100000 in
theorem c_sLatin (l : Launch) (g : Gx) (b0 : Nat) (H0 : Heap) (a b n : Nat) (t : Nat → Nat) (hs : sS g a b n t H0) : Met l yJ0_isLatin1_aae02 wsJ0_isLatin1_aae02 rmJ0_isLatin1_aae02 (va_Pc [.ref a] (hJ g b0 H0)) (pQ (some (.int 1)) H0) 0 0 (fun q => H0.size ≤ q) := by
  refine cx_met (own := RJ0) (cc := cJ0_isLatin1_aae02) (maxL := 1) (by decide) rfl rfl (Nat.le_of_ble_eq_true rfl) ?_
  intro p e s m below meth c ls C0 hB0 hnm hl
  obtain ⟨hH, hK, hZ⟩ := hB0
  obtain ⟨hx, hb, hr, hml, hown, hts, hlk⟩ := id C0
  subst hH
  have hS : va_S (fun q => s.heap.size ≤ q) s.heap s.heap [] := va_S.rf
  have hA : ∀ q : Nat, s.heap.size ≤ q → (fun q => s.heap.size ≤ q) q := fun q h => h
  have h0Z := hZ.1
  have hAb : ∀ q : Nat, (fun q => s.heap.size ≤ q) q → b0 ≤ q := fun q h => Nat.le_trans h0Z h
  have hl : lv_has ls 1 [(0, .ref a)] := hl
  refine va_gets hx hb (va_Z.narrow hZ.2.1 hAb) hS hown (hts (.fieldLink RJ0 38 "java/lang/String" "COMPACT_STRINGS" "Z") (by decide +kernel)) (fun _ h9 => h9) dJ0_isLatin1_aae02_0 ?_
  refine lv_if_eq (tgt := 17) hx hb dJ0_isLatin1_aae02_3 (by decide) (fun h1 => absurd h1 (by decide)) (fun h1 => ?_)
  refine lv_aload_n hx hb dJ0_isLatin1_aae02_6 rfl (lv_at hl 0 rfl) ?_
  refine j_scod hx hb hts (by decide +kernel) hown hK hs (hts (.fieldLink RJ0 15 "java/lang/String" "coder" "B") (by decide +kernel)) dJ0_isLatin1_aae02_7 ?_
  refine lv_if_ne (tgt := 17) hx hb dJ0_isLatin1_aae02_10 (by decide) (fun h2 => absurd rfl h2) (fun h2 => ?_)
  refine lv_iconst (v := nI 1) hx hb dJ0_isLatin1_aae02_13 (by decide) ?_
  refine lv_goto (tgt := 18) hx hb dJ0_isLatin1_aae02_14 (by decide) ?_
  exact rt_p C0 rfl rfl hS rfl dJ0_isLatin1_aae02_18
abbrev rmJ0_length_8abf5 : Room := { frames := 1, cells := 0, slots := 0, locals := 20 }
set_option maxHeartbeats 4000000 in
set_option maxRecDepth 100000 in
/-- String.length -/
theorem c_sLen (l : Launch) (g : Gx) (b0 : Nat) (H0 : Heap) (a b n : Nat) (t : Nat → Nat) (hs : sS g a b n t H0) : Met l yJ0_length_8abf5 wsJ0_length_8abf5 rmJ0_length_8abf5 (va_Pc [.ref a] (hJ g b0 H0)) (pQ (some (.int (nI n))) H0) 0 0 (fun q => H0.size ≤ q) := by
  refine cx_met (own := RJ0) (cc := cJ0_length_8abf5) (maxL := 1) (by decide) rfl rfl (Nat.le_of_ble_eq_true rfl) ?_
  intro p e s m below meth c ls C0 hB0 hnm hl
  obtain ⟨hH, hK, hZ⟩ := hB0
  obtain ⟨hx, hb, hr, hml, hown, hts, hlk⟩ := id C0
  subst hH
  have hS : va_S (fun q => s.heap.size ≤ q) s.heap s.heap [] := va_S.rf
  have hA : ∀ q : Nat, s.heap.size ≤ q → (fun q => s.heap.size ≤ q) q := fun q h => h
  have h0Z := hZ.1
  have hAb : ∀ q : Nat, (fun q => s.heap.size ≤ q) q → b0 ≤ q := fun q h => Nat.le_trans h0Z h
  have hl : lv_has ls 1 [(0, .ref a)] := hl
  refine lv_aload_n hx hb dJ0_length_8abf5_0 rfl (lv_at hl 0 rfl) ?_
  refine j_sval hx hb hts (by decide +kernel) hown hK hs (hts (.fieldLink RJ0 9 "java/lang/String" "value" "[B") (by decide +kernel)) dJ0_length_8abf5_1 ?_
  refine j_blen hx hb hK (zat hZ hS hAb) hs.2 dJ0_length_8abf5_4 ?_
  refine lv_aload_n hx hb dJ0_length_8abf5_5 rfl (lv_at hl 0 rfl) ?_
  refine jp_V (As := []) (rest := [.int (nI n)]) C0 hl hK hS hA (zat hZ hS hAb) (c_coder l g b0 s.heap a b n t hs) gJ0_length_8abf5_J0_coder_7d493 rfl ⟨rfl, rfl⟩ (j_srecv hK hs) ⟨rfl, (show hd_ok yJ0_coder_7d493 0 from ⟨by decide, by decide, by decide +kernel⟩)⟩ ⟨Nat.le_of_ble_eq_true rfl, Nat.le_of_ble_eq_true rfl⟩ rfl (Nat.le_of_ble_eq_true rfl) ⟨Nat.zero_le _, Nat.zero_le _⟩ dJ0_length_8abf5_6 (fun locs hS => ?_)
  refine lv_ishr hx hb dJ0_length_8abf5_9 ?_
  refine tp_i (y := nI n) (ishr0 _) ?_
  exact rt_i C0 rfl hS rfl dJ0_length_8abf5_10
abbrev rmJ0_isEmpty_aae02 : Room := { frames := 0, cells := 0, slots := 0, locals := 0 }
set_option maxHeartbeats 4000000 in
set_option maxRecDepth 100000 in
/-- String.isEmpty -/
theorem c_sEmpty (l : Launch) (g : Gx) (b0 : Nat) (H0 : Heap) (a b n : Nat) (t : Nat → Nat) (hs : sS g a b n t H0) (hn : n < 1000) : Met l yJ0_isEmpty_aae02 wsJ0_isEmpty_aae02 rmJ0_isEmpty_aae02 (va_Pc [.ref a] (hJ g b0 H0)) (pQ (some (.int (bI (decide (n = 0))))) H0) 0 0 (fun q => H0.size ≤ q) := by
  refine cx_met (own := RJ0) (cc := cJ0_isEmpty_aae02) (maxL := 1) (by decide) rfl rfl (Nat.le_of_ble_eq_true rfl) ?_
  intro p e s m below meth c ls C0 hB0 hnm hl
  obtain ⟨hH, hK, hZ⟩ := hB0
  obtain ⟨hx, hb, hr, hml, hown, hts, hlk⟩ := id C0
  subst hH
  have hS : va_S (fun q => s.heap.size ≤ q) s.heap s.heap [] := va_S.rf
  have hA : ∀ q : Nat, s.heap.size ≤ q → (fun q => s.heap.size ≤ q) q := fun q h => h
  have h0Z := hZ.1
  have hAb : ∀ q : Nat, (fun q => s.heap.size ≤ q) q → b0 ≤ q := fun q h => Nat.le_trans h0Z h
  have hl : lv_has ls 1 [(0, .ref a)] := hl
  refine lv_aload_n hx hb dJ0_isEmpty_aae02_0 rfl (lv_at hl 0 rfl) ?_
  refine j_sval hx hb hts (by decide +kernel) hown hK hs (hts (.fieldLink RJ0 9 "java/lang/String" "value" "[B") (by decide +kernel)) dJ0_isEmpty_aae02_1 ?_
  refine j_blen hx hb hK (zat hZ hS hAb) hs.2 dJ0_isEmpty_aae02_4 ?_
  refine lv_if_ne (tgt := 12) hx hb dJ0_isEmpty_aae02_5 (by decide) (fun h1 => ?_) (fun h1 => ?_)
  · skip
    refine lv_iconst (v := nI 0) hx hb dJ0_isEmpty_aae02_12 (by decide) ?_
    exact rt_z C0 (by rw [bI_f (decide_eq_false (fun z => h1 (by rw [z]; rfl)))]; rfl) z0 hS rfl dJ0_isEmpty_aae02_13
  · skip
    refine lv_iconst (v := nI 1) hx hb dJ0_isEmpty_aae02_8 (by decide) ?_
    refine lv_goto (tgt := 13) hx hb dJ0_isEmpty_aae02_9 (by decide) ?_
    exact rt_z C0 (by rw [bI_t (decide_eq_true (nI_inj (by omega) (by decide) h1))]; rfl) z1 hS rfl dJ0_isEmpty_aae02_13
abbrev rmJ3_checkIndex_8e157 : Room := { frames := 0, cells := 0, slots := 0, locals := 0 }
set_option maxHeartbeats 4000000 in
set_option maxRecDepth 100000 in
theorem c_pcheck_n (l : Launch) (g : Gx) (b0 : Nat) (H0 : Heap) (i n : Nat) (hi : i < n) (hn : n < 2 ^ 31) : Met l yJ3_checkIndex_8e157 wsJ3_checkIndex_8e157 rmJ3_checkIndex_8e157 (va_Pc [.int (nI i), .int (nI n), .null] (hJ g b0 H0)) (pQ (some (.int (nI i))) H0) 0 0 (fun q => H0.size ≤ q) := by
  refine cx_met (own := RJ3) (cc := cJ3_checkIndex_8e157) (maxL := 3) (by decide) rfl rfl (Nat.le_of_ble_eq_true rfl) ?_
  intro p e s m below meth c ls C0 hB0 hnm hl
  obtain ⟨hH, hK, hZ⟩ := hB0
  obtain ⟨hx, hb, hr, hml, hown, hts, hlk⟩ := id C0
  subst hH
  have hS : va_S (fun q => s.heap.size ≤ q) s.heap s.heap [] := va_S.rf
  have hA : ∀ q : Nat, s.heap.size ≤ q → (fun q => s.heap.size ≤ q) q := fun q h => h
  have h0Z := hZ.1
  have hAb : ∀ q : Nat, (fun q => s.heap.size ≤ q) q → b0 ≤ q := fun q h => Nat.le_trans h0Z h
  have hl : lv_has ls 3 [(0, .int (nI i)), (1, .int (nI n)), (2, .null)] := hl
  refine lv_iload_n hx hb dJ3_checkIndex_8e157_0 rfl (lv_at hl 0 rfl) ?_
  refine lv_if_lt (tgt := 9) hx hb dJ3_checkIndex_8e157_1 (by decide) (fun h1 => absurd h1 (nI_pos (by omega))) (fun h1 => ?_)
  refine lv_iload_n hx hb dJ3_checkIndex_8e157_4 rfl (lv_at hl 0 rfl) ?_
  refine lv_iload_n hx hb dJ3_checkIndex_8e157_5 rfl (lv_at hl 1 rfl) ?_
  refine lv_icmp_lt (tgt := 16) hx hb dJ3_checkIndex_8e157_6 (by decide) (fun h2 => ?_) (fun h2 => absurd (nI_lt hi (by omega)) h2)
  refine lv_iload_n hx hb dJ3_checkIndex_8e157_16 rfl (lv_at hl 0 rfl) ?_
  exact rt_i C0 rfl hS rfl dJ3_checkIndex_8e157_17
set_option maxHeartbeats 4000000 in
set_option maxRecDepth 100000 in
theorem c_pcheck_r (l : Launch) (g : Gx) (b0 : Nat) (H0 : Heap) (i n : Nat) (f9 : Nat) (hi : i < n) (hn : n < 2 ^ 31) : Met l yJ3_checkIndex_8e157 wsJ3_checkIndex_8e157 rmJ3_checkIndex_8e157 (va_Pc [.int (nI i), .int (nI n), .ref f9] (hJ g b0 H0)) (pQ (some (.int (nI i))) H0) 0 0 (fun q => H0.size ≤ q) := by
  refine cx_met (own := RJ3) (cc := cJ3_checkIndex_8e157) (maxL := 3) (by decide) rfl rfl (Nat.le_of_ble_eq_true rfl) ?_
  intro p e s m below meth c ls C0 hB0 hnm hl
  obtain ⟨hH, hK, hZ⟩ := hB0
  obtain ⟨hx, hb, hr, hml, hown, hts, hlk⟩ := id C0
  subst hH
  have hS : va_S (fun q => s.heap.size ≤ q) s.heap s.heap [] := va_S.rf
  have hA : ∀ q : Nat, s.heap.size ≤ q → (fun q => s.heap.size ≤ q) q := fun q h => h
  have h0Z := hZ.1
  have hAb : ∀ q : Nat, (fun q => s.heap.size ≤ q) q → b0 ≤ q := fun q h => Nat.le_trans h0Z h
  have hl : lv_has ls 3 [(0, .int (nI i)), (1, .int (nI n)), (2, .ref f9)] := hl
  refine lv_iload_n hx hb dJ3_checkIndex_8e157_0 rfl (lv_at hl 0 rfl) ?_
  refine lv_if_lt (tgt := 9) hx hb dJ3_checkIndex_8e157_1 (by decide) (fun h1 => absurd h1 (nI_pos (by omega))) (fun h1 => ?_)
  refine lv_iload_n hx hb dJ3_checkIndex_8e157_4 rfl (lv_at hl 0 rfl) ?_
  refine lv_iload_n hx hb dJ3_checkIndex_8e157_5 rfl (lv_at hl 1 rfl) ?_
  refine lv_icmp_lt (tgt := 16) hx hb dJ3_checkIndex_8e157_6 (by decide) (fun h2 => ?_) (fun h2 => absurd (nI_lt hi (by omega)) h2)
  refine lv_iload_n hx hb dJ3_checkIndex_8e157_16 rfl (lv_at hl 0 rfl) ?_
  exact rt_i C0 rfl hS rfl dJ3_checkIndex_8e157_17
abbrev rmJ0_checkIndex_df160 : Room := { frames := 1, cells := 0, slots := 0, locals := 22 }
set_option maxHeartbeats 4000000 in
set_option maxRecDepth 100000 in
theorem c_scheck (l : Launch) (g : Gx) (b0 : Nat) (H0 : Heap) (i n : Nat) (hi : i < n) (hn : n < 2 ^ 31) : Met l yJ0_checkIndex_df160 wsJ0_checkIndex_df160 rmJ0_checkIndex_df160 (va_Pc [.int (nI i), .int (nI n)] (hJ g b0 H0)) (pQ none H0) 0 0 (fun q => H0.size ≤ q) := by
  refine cx_met (own := RJ0) (cc := cJ0_checkIndex_df160) (maxL := 2) (by decide) rfl rfl (Nat.le_of_ble_eq_true rfl) ?_
  intro p e s m below meth c ls C0 hB0 hnm hl
  obtain ⟨hH, hK, hZ⟩ := hB0
  obtain ⟨hx, hb, hr, hml, hown, hts, hlk⟩ := id C0
  subst hH
  have hS : va_S (fun q => s.heap.size ≤ q) s.heap s.heap [] := va_S.rf
  have hA : ∀ q : Nat, s.heap.size ≤ q → (fun q => s.heap.size ≤ q) q := fun q h => h
  have h0Z := hZ.1
  have hAb : ∀ q : Nat, (fun q => s.heap.size ≤ q) q → b0 ≤ q := fun q h => Nat.le_trans h0Z h
  have hl : lv_has ls 2 [(0, .int (nI i)), (1, .int (nI n))] := hl
  refine lv_iload_n hx hb dJ0_checkIndex_df160_0 rfl (lv_at hl 0 rfl) ?_
  refine lv_iload_n hx hb dJ0_checkIndex_df160_1 rfl (lv_at hl 1 rfl) ?_
  rcases va_Zq.narrow hZ.2.2.1 hAb with hz9 | ⟨f9, hz9⟩
  · skip
    refine va_gets hx hb hz9 hS hown (hts (.fieldLink RJ0 1053 "jdk/internal/util/Preconditions" "SIOOBE_FORMATTER" "Ljava/util/function/BiFunction;") (by decide +kernel)) (fun _ h9 => h9) dJ0_checkIndex_df160_2 ?_
    refine jp_S (As := [.int (nI i), .int (nI n), .null]) (rest := []) C0 hl hK hS hA (zat hZ hS hAb) (c_pcheck_n l g b0 s.heap i n hi hn) gJ0_checkIndex_df160_J3_checkIndex_8e157 rfl ⟨rfl, rfl⟩ (show hd_ok yJ3_checkIndex_8e157 3 from ⟨by decide, by decide, by decide +kernel⟩) ⟨Nat.le_of_ble_eq_true rfl, Nat.le_of_ble_eq_true rfl⟩ rfl (Nat.le_of_ble_eq_true rfl) ⟨Nat.zero_le _, Nat.zero_le _⟩ dJ0_checkIndex_df160_5 (fun locs hS => ?_)
    refine lv_pop hx hb dJ0_checkIndex_df160_8 rfl ?_
    exact rt_pv C0 hS rfl dJ0_checkIndex_df160_9
  · skip
    refine va_gets hx hb hz9 hS hown (hts (.fieldLink RJ0 1053 "jdk/internal/util/Preconditions" "SIOOBE_FORMATTER" "Ljava/util/function/BiFunction;") (by decide +kernel)) (fun _ h9 => h9) dJ0_checkIndex_df160_2 ?_
    refine jp_S (As := [.int (nI i), .int (nI n), .ref f9]) (rest := []) C0 hl hK hS hA (zat hZ hS hAb) (c_pcheck_r l g b0 s.heap i n f9 hi hn) gJ0_checkIndex_df160_J3_checkIndex_8e157 rfl ⟨rfl, rfl⟩ (show hd_ok yJ3_checkIndex_8e157 3 from ⟨by decide, by decide, by decide +kernel⟩) ⟨Nat.le_of_ble_eq_true rfl, Nat.le_of_ble_eq_true rfl⟩ rfl (Nat.le_of_ble_eq_true rfl) ⟨Nat.zero_le _, Nat.zero_le _⟩ dJ0_checkIndex_df160_5 (fun locs hS => ?_)
    refine lv_pop hx hb dJ0_checkIndex_df160_8 rfl ?_
    exact rt_pv C0 hS rfl dJ0_checkIndex_df160_9
abbrev rmJ1_charAt_3b067 : Room := { frames := 2, cells := 0, slots := 0, locals := 43 }
set_option maxHeartbeats 4000000 in
set_option maxRecDepth 100000 in
theorem c_lcharAt (l : Launch) (g : Gx) (b0 : Nat) (H0 : Heap) (b n i : Nat) (t : Nat → Nat) (hs : bT g b n t H0) (hi : i < n) (hn : n < 2 ^ 31) (ht : t i < 128) : Met l yJ1_charAt_3b067 wsJ1_charAt_3b067 rmJ1_charAt_3b067 (va_Pc [.ref b, .int (nI i)] (hJ g b0 H0)) (pQ (some (.int (nI (t i)))) H0) 0 0 (fun q => H0.size ≤ q) := by
  refine cx_met (own := RJ1) (cc := cJ1_charAt_3b067) (maxL := 2) (by decide) rfl rfl (Nat.le_of_ble_eq_true rfl) ?_
  intro p e s m below meth c ls C0 hB0 hnm hl
  obtain ⟨hH, hK, hZ⟩ := hB0
  obtain ⟨hx, hb, hr, hml, hown, hts, hlk⟩ := id C0
  subst hH
  have hS : va_S (fun q => s.heap.size ≤ q) s.heap s.heap [] := va_S.rf
  have hA : ∀ q : Nat, s.heap.size ≤ q → (fun q => s.heap.size ≤ q) q := fun q h => h
  have h0Z := hZ.1
  have hAb : ∀ q : Nat, (fun q => s.heap.size ≤ q) q → b0 ≤ q := fun q h => Nat.le_trans h0Z h
  have hl : lv_has ls 2 [(0, .ref b), (1, .int (nI i))] := hl
  refine lv_iload_n hx hb dJ1_charAt_3b067_0 rfl (lv_at hl 1 rfl) ?_
  refine lv_aload_n hx hb dJ1_charAt_3b067_1 rfl (lv_at hl 0 rfl) ?_
  refine j_blen hx hb hK (zat hZ hS hAb) hs dJ1_charAt_3b067_2 ?_
  refine jp_S (As := [.int (nI i), .int (nI n)]) (rest := []) C0 hl hK hS hA (zat hZ hS hAb) (c_scheck l g b0 s.heap i n hi hn) gJ1_charAt_3b067_J0_checkIndex_df160 rfl ⟨rfl, rfl⟩ (show hd_ok yJ0_checkIndex_df160 2 from ⟨by decide, by decide, by decide +kernel⟩) ⟨Nat.le_of_ble_eq_true rfl, Nat.le_of_ble_eq_true rfl⟩ rfl (Nat.le_of_ble_eq_true rfl) ⟨Nat.zero_le _, Nat.zero_le _⟩ dJ1_charAt_3b067_3 (fun locs hS => ?_)
  refine lv_aload_n hx hb dJ1_charAt_3b067_6 rfl (lv_at hl 0 rfl) ?_
  refine lv_iload_n hx hb dJ1_charAt_3b067_7 rfl (lv_at hl 1 rfl) ?_
  refine j_bald (j := i) hx hb hK (zat hZ hS hAb) hs hi hn dJ1_charAt_3b067_8 ?_
  refine lv_sipush (v := nI 255) hx hb dJ1_charAt_3b067_9 (by decide) ?_
  refine lv_iand hx hb dJ1_charAt_3b067_12 ?_
  refine tp_i (y := nI (t i)) (and255 ht) ?_
  refine lv_i2c (v := nI (t i)) hx hb dJ1_charAt_3b067_13 (i2c_n ht) ?_
  exact rt_p C0 rfl (nar_char ht) hS rfl dJ1_charAt_3b067_14
abbrev rmJ0_charAt_5068e : Room := { frames := 3, cells := 0, slots := 0, locals := 64 }
set_option maxHeartbeats 4000000 in
set_option maxRecDepth 100000 in
/-- String.charAt -/
theorem c_sCharAt (l : Launch) (g : Gx) (b0 : Nat) (H0 : Heap) (a b n : Nat) (t : Nat → Nat) (hs : sS g a b n t H0) (i : Nat) (hi : i < n) (hn : n < 2 ^ 31) (ht : t i < 128) : Met l yJ0_charAt_5068e wsJ0_charAt_5068e rmJ0_charAt_5068e (va_Pc [.ref a, .int (nI i)] (hJ g b0 H0)) (pQ (some (.int (nI (t i)))) H0) 0 0 (fun q => H0.size ≤ q) := by
  refine cx_met (own := RJ0) (cc := cJ0_charAt_5068e) (maxL := 2) (by decide) rfl rfl (Nat.le_of_ble_eq_true rfl) ?_
  intro p e s m below meth c ls C0 hB0 hnm hl
  obtain ⟨hH, hK, hZ⟩ := hB0
  obtain ⟨hx, hb, hr, hml, hown, hts, hlk⟩ := id C0
  subst hH
  have hS : va_S (fun q => s.heap.size ≤ q) s.heap s.heap [] := va_S.rf
  have hA : ∀ q : Nat, s.heap.size ≤ q → (fun q => s.heap.size ≤ q) q := fun q h => h
  have h0Z := hZ.1
  have hAb : ∀ q : Nat, (fun q => s.heap.size ≤ q) q → b0 ≤ q := fun q h => Nat.le_trans h0Z h
  have hl : lv_has ls 2 [(0, .ref a), (1, .int (nI i))] := hl
  refine lv_aload_n hx hb dJ0_charAt_5068e_0 rfl (lv_at hl 0 rfl) ?_
  refine jp_V (As := []) (rest := []) C0 hl hK hS hA (zat hZ hS hAb) (c_sLatin l g b0 s.heap a b n t hs) gJ0_charAt_5068e_J0_isLatin1_aae02 rfl ⟨rfl, rfl⟩ (j_srecv hK hs) ⟨rfl, (show hd_ok yJ0_isLatin1_aae02 0 from ⟨by decide, by decide, by decide +kernel⟩)⟩ ⟨Nat.le_of_ble_eq_true rfl, Nat.le_of_ble_eq_true rfl⟩ rfl (Nat.le_of_ble_eq_true rfl) ⟨Nat.zero_le _, Nat.zero_le _⟩ dJ0_charAt_5068e_1 (fun locs hS => ?_)
  refine lv_if_eq (tgt := 16) hx hb dJ0_charAt_5068e_4 (by decide) (fun h1 => absurd h1 (by decide)) (fun h1 => ?_)
  refine lv_aload_n hx hb dJ0_charAt_5068e_7 rfl (lv_at hl 0 rfl) ?_
  refine j_sval hx hb hts (by decide +kernel) hown hK hs (hts (.fieldLink RJ0 9 "java/lang/String" "value" "[B") (by decide +kernel)) dJ0_charAt_5068e_8 ?_
  refine lv_iload_n hx hb dJ0_charAt_5068e_11 rfl (lv_at hl 1 rfl) ?_
  refine jp_S (As := [.ref b, .int (nI i)]) (rest := []) C0 hl hK hS hA (zat hZ hS hAb) (c_lcharAt l g b0 s.heap b n i t hs.2 hi hn ht) gJ0_charAt_5068e_J1_charAt_3b067 rfl ⟨rfl, rfl⟩ (show hd_ok yJ1_charAt_3b067 2 from ⟨by decide, by decide, by decide +kernel⟩) ⟨Nat.le_of_ble_eq_true rfl, Nat.le_of_ble_eq_true rfl⟩ rfl (Nat.le_of_ble_eq_true rfl) ⟨Nat.zero_le _, Nat.zero_le _⟩ dJ0_charAt_5068e_12 (fun locs hS => ?_)
  exact rt_p C0 rfl (nar_char ht) hS rfl dJ0_charAt_5068e_15
end M43

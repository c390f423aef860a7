-- THE BUILDER: made, grown, a sign put behind
theorem mmax_n {a b : Nat} (ha : a < 2 ^ 31) (hb : b < 2 ^ 31) : (if nI a < nI b then nI b else nI a) = nI (max a b) := by
  by_cases h : nI a < nI b
  · rw [if_pos h, Nat.max_eq_right (Nat.le_of_lt (nI_ltn ha hb h))]
  · rw [if_neg h]
    rcases Nat.lt_or_ge a b with h2 | h2
    · exact absurd (nI_lt h2 hb) h
    · rw [Nat.max_eq_left h2]
theorem mmin_n {a b : Nat} (ha : a < 2 ^ 31) (hb : b < 2 ^ 31) : (if nI b < nI a then nI b else nI a) = nI (min a b) := by
  by_cases h : nI b < nI a
  · rw [if_pos h, Nat.min_eq_right (Nat.le_of_lt (nI_ltn hb ha h))]
  · rw [if_neg h]
    rcases Nat.lt_or_ge b a with h2 | h2
    · exact absurd (nI_lt h2 ha) h
    · rw [Nat.min_eq_left h2]
theorem ishl0 (x : Int32) : x <<< ((0 : Int32) &&& 31) = x := by
  show x <<< (0 : Int32) = x
  exact Int32.shiftLeft_zero
/-- what a builder of cap places grows to, if m are wanted -/
def ncap (m cap : Nat) : Nat := cap + max (m - cap) (cap + 2)
section JO
variable {p : Program} {l : Launch} {e : Env} {R : Room} {s : State} {m : MethodId} {args : Array Value} {below : List Frame} {meth : Method} {c : Code} {H : Heap} {locs : List Loc} {cells slots : Nat} {Q : State → Prop}
theorem f_objInit {cc : ByteArray} (hexec : p.tables.exec = Jvm.exec) (hb : c.code = cc) {own : String} (hown : s.vm.findClass own = some m.cls) {idx pc : Nat} {ls : Array Slot}
    (hlink : (Cond.methodLink own idx Lib.objectInit).before args s = true) (hinst : (Cond.instanceMethod Lib.objectInit).before args s = true) (hcode : (Cond.code Lib.objectInit ⟨#[0xb1]⟩ 1 none).before args s = true)
    (hsize : ls.size = c.maxLocals) {a : Addr} {rest : List Value} (hd : decode cc pc = .ok (.invokespecial idx, 3))
    (hframes : 1 ≤ R.frames) (hlocals : (rest.map fun v => v.category).sum + 12 ≤ R.locals)
    (kk : W p l e R s m args below meth c H locs cells slots Q (F0 m (pc + 3) ls rest)) : W p l e R s m args below meth c H locs cells slots Q (F0 m pc ls (.ref a :: rest)) :=
  W.objInit hexec hb hown hlink hinst hcode (g := F0 m pc ls (.ref a :: rest)) rfl hsize rfl hd hframes (by show 2 * 0 + _ + 12 ≤ _; omega) kk
end JO
theorem sub_le0 {a b : Nat} (h : a ≤ b) (hb : b < 2 ^ 31) : nI a - nI b ≤ 0 := by
  refine Int32.le_iff_toInt_le.mpr ?_
  rw [Int32.toInt_sub, nI_toInt (by omega), nI_toInt hb, Int.bmod_eq_of_le (by omega) (by omega)]
  show _ ≤ (0 : Int)
  omega
theorem sub_gt0 {a b : Nat} (h : b < a) (ha : a < 2 ^ 31) : ¬ nI a - nI b ≤ 0 := by
  intro z
  have z2 := Int32.le_iff_toInt_le.mp z
  rw [Int32.toInt_sub, nI_toInt ha, nI_toInt (by omega), Int.bmod_eq_of_le (by omega) (by omega)] at z2
  have z3 : (a : Int) - b ≤ 0 := z2
  omega
section M45
variable {p : Program} {l : Launch} {e : Env} {s : State} {m : MethodId} {args : Array Value} {below : List Frame} {meth : Method} {c : Code} {H H0 : Heap} {locs : List Loc} {cells slots : Nat} {Q : State → Prop} {A : Nat → Prop} {g : Gx} {b0 : Nat}
abbrev rmJ5_init_d00df : Room := { frames := 1, cells := 1, slots := 16, locals := 40 }
set_option maxHeartbeats 4000000 in
set_option maxRecDepth 100000 in
theorem c_b5Init (l : Launch) (g : Gx) (b0 : Nat) (H0 : Heap) (a : Nat) (hf : va_at g.1 vwCl (a, .inr (1, [.null, .int 0, .int 0, .int 0])) H0) (hmb : ∀ q : Nat, (fun q => q = a) q → b0 ≤ q) : Met l yJ5_init_d00df wsJ5_init_d00df rmJ5_init_d00df (va_Pc [.ref a, .int (nI 16)] (hJ g b0 H0)) (nQ H0 (fun q => q = a) (fun r H1 => r = none ∧ ∃ b, H0.size ≤ b ∧ SB g a b 16 0 (fun _ => 0) H1)) 1 16 (fun q => (fun q => q = a) q ∨ H0.size ≤ q) := by
  refine cx_met (own := RJ5) (cc := cJ5_init_d00df) (maxL := 2) (by decide) rfl rfl (Nat.le_of_ble_eq_true rfl) ?_
  intro p e s m below meth c ls C0 hB0 hnm hl
  obtain ⟨hH, hK, hZ⟩ := hB0
  obtain ⟨hx, hb, hr, hml, hown, hts, hlk⟩ := id C0
  subst hH
  have hS : va_S (fun q => (fun q => q = a) q ∨ s.heap.size ≤ q) s.heap s.heap [] := va_S.rf
  have hA : ∀ q : Nat, s.heap.size ≤ q → (fun q => (fun q => q = a) q ∨ s.heap.size ≤ q) q := fun q h => Or.inr h
  have h0Z := hZ.1
  have hAb : ∀ q : Nat, (fun q => (fun q => q = a) q ∨ s.heap.size ≤ q) q → b0 ≤ q := fun q h => h.elim (hmb q) (fun h => Nat.le_trans h0Z h)
  have hl : lv_has ls 2 [(0, .ref a), (1, .int (nI 16))] := hl
  refine lv_aload_n hx hb dJ5_init_d00df_0 rfl (lv_at hl 0 rfl) ?_
  refine f_objInit hx hb hown (hts (.methodLink RJ5 3 objectInit) (by decide +kernel)) (hts (.instanceMethod objectInit) (by decide +kernel)) (hts (.code objectInit ⟨#[0xb1]⟩ 1 none) (by decide +kernel)) (by rw [hml]; exact hl.1) dJ5_init_d00df_1 (Nat.le_of_ble_eq_true rfl) (Nat.le_of_ble_eq_true rfl) ?_
  refine va_gets hx hb (va_Z.narrow hZ.2.1 hAb) hS hown (hts (.fieldLink RJ5 18 "java/lang/String" "COMPACT_STRINGS" "Z") (by decide +kernel)) (fun _ h9 => h9) dJ5_init_d00df_4 ?_
  refine lv_if_eq (tgt := 25) hx hb dJ5_init_d00df_7 (by decide) (fun h1 => absurd h1 (by decide)) (fun h1 => ?_)
  refine lv_aload_n hx hb dJ5_init_d00df_10 rfl (lv_at hl 0 rfl) ?_
  refine lv_iload_n hx hb dJ5_init_d00df_11 rfl (lv_at hl 1 rfl) ?_
  refine f_newb hx hb (hts (.arrayClass .byte) (by decide +kernel)) hK hS (N := 16) (by omega) (by show 0 + 1 ≤ 1; omega) (by decide) dJ5_init_d00df_12 (fun b H1 hqb gb zb hk1 hS => ?_)
  refine w_putf (ci := 1) (C := RJ4) (T := TJ4) (N := 4) (ty := (.array .byte)) hx hb hts (by decide +kernel) tyJ4 tyJ4_ok nmJ4 hown hK hS (hf.kept (hk1 _ hf.lt)) (Or.inl rfl) rfl 0 (by decide) (hts (.fieldLink RJ5 15 "java/lang/AbstractStringBuilder" "value" "[B") (by decide +kernel)) (fun _ h9 => h9) rfl (by decide +kernel) rfl rfl (by decide) dJ5_init_d00df_14 (fun H2 locs f2 s2 o2 hS => ?_)
  refine lv_aload_n hx hb dJ5_init_d00df_17 rfl (lv_at hl 0 rfl) ?_
  refine lv_iconst (v := nI 0) hx hb dJ5_init_d00df_18 (by decide) ?_
  refine w_putf (ci := 1) (C := RJ4) (T := TJ4) (N := 4) (ty := .byte) hx hb hts (by decide +kernel) tyJ4 tyJ4_ok nmJ4 hown hK hS f2 (Or.inl rfl) rfl 1 (by decide) (hts (.fieldLink RJ5 22 "java/lang/AbstractStringBuilder" "coder" "B") (by decide +kernel)) (fun _ h9 => h9) rfl (by decide +kernel) rfl rfl (by show 1 < 4; decide) dJ5_init_d00df_19 (fun H3 locs f3 s3 o3 hS => ?_)
  refine lv_goto (tgt := 38) hx hb dJ5_init_d00df_22 (by decide) ?_
  have la := hf.lt
  dsimp only at la
  refine W.widen (k := 1) (n := 16) (by decide) (by decide) ?_
  exact rt_v (mu := (fun q => q = a)) C0 ⟨rfl, b, by omega, .int 0, fun _ => 0, f3, (gb.kept (o2 _ (by omega))).kept (o3 _ (by omega)), fun j h => by omega, fun j _ => by show fits .byte (.int 0) = true; decide, by decide, by decide, by omega⟩ hS rfl dJ5_init_d00df_38
abbrev rmJ4_init_da8c8 : Room := { frames := 2, cells := 1, slots := 16, locals := 61 }
set_option maxHeartbeats 4000000 in
set_option maxRecDepth 100000 in
/-- new StringBuilder() -/
theorem c_bInit (l : Launch) (g : Gx) (b0 : Nat) (H0 : Heap) (a : Nat) (hf : va_at g.1 vwCl (a, .inr (1, [.null, .int 0, .int 0, .int 0])) H0) (hmb : ∀ q : Nat, (fun q => q = a) q → b0 ≤ q) : Met l yJ4_init_da8c8 wsJ4_init_da8c8 rmJ4_init_da8c8 (va_Pc [.ref a] (hJ g b0 H0)) (nQ H0 (fun q => q = a) (fun r H1 => r = none ∧ ∃ b, H0.size ≤ b ∧ SB g a b 16 0 (fun _ => 0) H1)) 1 16 (fun q => (fun q => q = a) q ∨ H0.size ≤ q) := by
  refine cx_met (own := RJ4) (cc := cJ4_init_da8c8) (maxL := 1) (by decide) rfl rfl (Nat.le_of_ble_eq_true rfl) ?_
  intro p e s m below meth c ls C0 hB0 hnm hl
  obtain ⟨hH, hK, hZ⟩ := hB0
  obtain ⟨hx, hb, hr, hml, hown, hts, hlk⟩ := id C0
  subst hH
  have hS : va_S (fun q => (fun q => q = a) q ∨ s.heap.size ≤ q) s.heap s.heap [] := va_S.rf
  have hA : ∀ q : Nat, s.heap.size ≤ q → (fun q => (fun q => q = a) q ∨ s.heap.size ≤ q) q := fun q h => Or.inr h
  have h0Z := hZ.1
  have hAb : ∀ q : Nat, (fun q => (fun q => q = a) q ∨ s.heap.size ≤ q) q → b0 ≤ q := fun q h => h.elim (hmb q) (fun h => Nat.le_trans h0Z h)
  have hl : lv_has ls 1 [(0, .ref a)] := hl
  refine lv_aload_n hx hb dJ4_init_da8c8_0 rfl (lv_at hl 0 rfl) ?_
  refine lv_bipush (v := nI 16) hx hb dJ4_init_da8c8_1 (by decide) ?_
  refine jn_I (As := [.int (nI 16)]) (rest := []) C0 hl hK hS hA (fun q h => Or.inl h) (zat hZ hS hAb) (c_b5Init l g b0 s.heap a hf hmb) gJ4_init_da8c8_J5_init_d00df rfl ⟨rfl, rfl⟩ ⟨by decide +kernel, by decide +kernel, by decide +kernel, rfl⟩ (show hd_ok yJ5_init_d00df 1 from ⟨by decide, by decide, by decide +kernel⟩) ⟨Nat.le_of_ble_eq_true rfl, Nat.le_of_ble_eq_true rfl⟩ rfl (Nat.le_of_ble_eq_true rfl) ⟨by decide, by decide⟩ dJ4_init_da8c8_3 (fun v H1 locs hv hzz hk hS => ?_)
  obtain ⟨rfl, b, hb9, hSB⟩ := hv
  exact rt_v (mu := (fun q => q = a)) C0 ⟨rfl, b, hb9, hSB⟩ hS rfl dJ4_init_da8c8_6
abbrev rmJ7_copyOf_9075b (k : Nat) : Room := { frames := 1, cells := 1, slots := k, locals := 60 }
set_option maxHeartbeats 4000000 in
set_option maxRecDepth 100000 in
theorem c_copyOf (l : Launch) (g : Gx) (b0 : Nat) (H0 : Heap) (b cap m9 : Nat) (f : Nat → Int32) (hf : va_at g.1 vwCl (b, .inl (g.2 4, cap, .inl f)) H0) (hfit : ∀ j, j < cap → fits .byte (.int (f j)) = true) (hm9 : cap < m9) (hm8 : m9 < 4096) : Met l yJ7_copyOf_9075b wsJ7_copyOf_9075b (rmJ7_copyOf_9075b m9) (va_Pc [.ref b, .int (nI m9)] (hJ g b0 H0)) (nQ H0 (fun _ => False) (fun r H1 => ∃ (q : Nat) (f2 : Nat → Int32), r = some (.ref q) ∧ H0.size ≤ q ∧ va_at g.1 vwCl (q, .inl (g.2 4, m9, .inl f2)) H1 ∧ (∀ j, j < cap → f2 j = f j) ∧ ∀ j, j < m9 → fits .byte (.int (f2 j)) = true)) 1 m9 (fun q => (fun _ => False) q ∨ H0.size ≤ q) := by
  refine cx_met (own := RJ7) (cc := cJ7_copyOf_9075b) (maxL := 3) (by decide) rfl rfl (Nat.le_of_ble_eq_true rfl) ?_
  intro p e s m below meth c ls C0 hB0 hnm hl
  obtain ⟨hH, hK, hZ⟩ := hB0
  obtain ⟨hx, hb, hr, hml, hown, hts, hlk⟩ := id C0
  subst hH
  have hS : va_S (fun q => (fun _ => False) q ∨ s.heap.size ≤ q) s.heap s.heap [] := va_S.rf
  have hA : ∀ q : Nat, s.heap.size ≤ q → (fun q => (fun _ => False) q ∨ s.heap.size ≤ q) q := fun q h => Or.inr h
  have h0Z := hZ.1
  have hAb : ∀ q : Nat, (fun q => (fun _ => False) q ∨ s.heap.size ≤ q) q → b0 ≤ q := fun q h => h.elim (fun z => absurd z id) (fun h => Nat.le_trans h0Z h)
  have hl : lv_has ls 3 [(0, .ref b), (1, .int (nI m9))] := hl
  refine lv_iload_n hx hb dJ7_copyOf_9075b_0 rfl (lv_at hl 1 rfl) ?_
  refine lv_aload_n hx hb dJ7_copyOf_9075b_1 rfl (lv_at hl 0 rfl) ?_
  refine f_alen (x := (cap, _)) hx hb hK 4 rfl hf dJ7_copyOf_9075b_2 ?_
  refine lv_icmp_ne (tgt := 14) hx hb dJ7_copyOf_9075b_3 (by decide) (fun h1 => ?_) (fun h1 => absurd (nI_inj (by omega) (by omega) h1) (by omega))
  refine lv_iload_n hx hb dJ7_copyOf_9075b_14 rfl (lv_at hl 1 rfl) ?_
  refine f_newb hx hb (hts (.arrayClass .byte) (by decide +kernel)) hK hS (N := m9) (by omega) (by show 0 + 1 ≤ 1; omega) (by show 0 + m9 ≤ m9; omega) dJ7_copyOf_9075b_15 (fun q H1 hqq gq zq hk1 hS => ?_)
  refine lv_astore_n (lv' := [(2, .ref q), (0, .ref b), (1, .int (nI m9))]) hx hb dJ7_copyOf_9075b_17 rfl hl (by decide) rfl (fun ls hl => ?_)
  refine lv_aload_n hx hb dJ7_copyOf_9075b_18 rfl (lv_at hl 1 rfl) ?_
  refine lv_iconst (v := nI 0) hx hb dJ7_copyOf_9075b_19 (by decide) ?_
  refine lv_aload_n hx hb dJ7_copyOf_9075b_20 rfl (lv_at hl 0 rfl) ?_
  refine lv_iconst (v := nI 0) hx hb dJ7_copyOf_9075b_21 (by decide) ?_
  refine lv_aload_n hx hb dJ7_copyOf_9075b_22 rfl (lv_at hl 1 rfl) ?_
  refine f_alen (x := (cap, _)) hx hb hK 4 rfl (hf.kept (hk1 _ hf.lt)) dJ7_copyOf_9075b_23 ?_
  refine lv_iload_n hx hb dJ7_copyOf_9075b_24 rfl (lv_at hl 2 rfl) ?_
  refine va_mmin hx hb (by rw [hml]; exact hl.1.symm) hown (hts (.methodLink RJ7 304 Lib.Math.min.name) (by decide +kernel)) (hts (.static Lib.Math.min.name) (by decide +kernel)) (hts (.initialized "java/lang/Math") (by decide +kernel)) (hts (.code Lib.Math.min.name Lib.Math.min.code 2 (some .int)) (by decide +kernel)) (Nat.le_of_ble_eq_true rfl) (Nat.le_of_ble_eq_true rfl) (by show 0 + 1 ≤ 1; omega) (by show 0 + m9 ≤ m9; omega) dJ7_copyOf_9075b_25 ?_
  refine tp_i (y := nI (min cap m9)) (mmin_n (by omega) (by omega)) ?_
  refine f_copyb (n0 := cap) (n1 := m9) (f := f) (f1 := fun _ => 0) (sp := 0) (dp := 0) (n := (min cap m9)) hx hb (by rw [hml]; exact hl.1.symm) hown (hts (.methodLink RJ7 150 arraycopyName) (by decide +kernel)) (hts (.native arraycopyName) (by decide +kernel)) (hts (.static arraycopyName) (by decide +kernel)) (hts (.initialized "java/lang/System") (by decide +kernel)) hK hS (zat hZ hS hAb) (bS.of (hf.kept (hk1 _ hf.lt))) gq (Or.inr (by omega)) (by omega) (by omega) (by omega) (by omega) (fun i hi => hfit _ (by omega)) (Nat.le_of_ble_eq_true rfl) (Nat.le_of_ble_eq_true rfl) dJ7_copyOf_9075b_28 (fun H2 locs g2 hzg2 hog2 hS => ?_)
  refine lv_aload_n hx hb dJ7_copyOf_9075b_31 rfl (lv_at hl 0 rfl) ?_
  have e9 : ∀ j, j < cap → va_cpy f (fun _ => 0) 0 0 (min cap m9) j = f j := fun j hj => by unfold va_cpy; rw [if_pos ⟨Nat.zero_le _, by omega⟩]; congr 1; omega
  refine W.widen (k := 1) (n := m9) (by decide) (by omega) ?_
  refine rt_a (mu := (fun _ => False)) C0 (Or.inr ⟨_, rfl⟩) ⟨q, _, rfl, by omega, g2, e9, fun j hj => ?_⟩ hS rfl dJ7_copyOf_9075b_32
  unfold va_cpy
  split
  · exact hfit _ (by omega)
  · show fits .byte (.int 0) = true
    decide
abbrev rmJ8_newLength_cabcc : Room := { frames := 1, cells := 0, slots := 0, locals := 40 }
set_option maxHeartbeats 4000000 in
set_option maxRecDepth 100000 in
theorem c_newLen (l : Launch) (g : Gx) (b0 : Nat) (H0 : Heap) (x y z : Nat) (hx9 : 0 < x + max y z) (hy9 : x + max y z < 10000) : Met l yJ8_newLength_cabcc wsJ8_newLength_cabcc rmJ8_newLength_cabcc (va_Pc [.int (nI x), .int (nI y), .int (nI z)] (hJ g b0 H0)) (pQ (some (.int (nI (x + max y z)))) H0) 0 0 (fun q => H0.size ≤ q) := by
  refine cx_met (own := RJ8) (cc := cJ8_newLength_cabcc) (maxL := 4) (by decide) rfl rfl (Nat.le_of_ble_eq_true rfl) ?_
  intro p e s m below meth c ls C0 hB0 hnm hl
  obtain ⟨hH, hK, hZ⟩ := hB0
  obtain ⟨hx, hb, hr, hml, hown, hts, hlk⟩ := id C0
  subst hH
  have hS : va_S (fun q => s.heap.size ≤ q) s.heap s.heap [] := va_S.rf
  have hA : ∀ q : Nat, s.heap.size ≤ q → (fun q => s.heap.size ≤ q) q := fun q h => h
  have h0Z := hZ.1
  have hAb : ∀ q : Nat, (fun q => s.heap.size ≤ q) q → b0 ≤ q := fun q h => Nat.le_trans h0Z h
  have hl : lv_has ls 4 [(0, .int (nI x)), (1, .int (nI y)), (2, .int (nI z))] := hl
  refine lv_iload_n hx hb dJ8_newLength_cabcc_0 rfl (lv_at hl 0 rfl) ?_
  refine lv_iload_n hx hb dJ8_newLength_cabcc_1 rfl (lv_at hl 1 rfl) ?_
  refine lv_iload_n hx hb dJ8_newLength_cabcc_2 rfl (lv_at hl 2 rfl) ?_
  refine va_mmax hx hb (by rw [hml]; exact hl.1.symm) hown (hts (.methodLink RJ8 194 Lib.Math.max.name) (by decide +kernel)) (hts (.static Lib.Math.max.name) (by decide +kernel)) (hts (.initialized "java/lang/Math") (by decide +kernel)) (hts (.code Lib.Math.max.name Lib.Math.max.code 2 (some .int)) (by decide +kernel)) (Nat.le_of_ble_eq_true rfl) (Nat.le_of_ble_eq_true rfl) (Nat.le_refl _) (Nat.le_refl _) dJ8_newLength_cabcc_3 ?_
  refine tp_i (y := nI (max y z)) (mmax_n (by omega) (by omega)) ?_
  refine lv_iadd hx hb dJ8_newLength_cabcc_6 ?_
  refine tp_i (y := nI (x + (max y z))) (nI_add _ _) ?_
  refine lv_istore_n (lv' := [(3, .int (nI (x + (max y z)))), (0, .int (nI x)), (1, .int (nI y)), (2, .int (nI z))]) hx hb dJ8_newLength_cabcc_7 rfl hl (by decide) rfl (fun ls hl => ?_)
  refine lv_iconst (v := nI 0) hx hb dJ8_newLength_cabcc_8 (by decide) ?_
  refine lv_iload_n hx hb dJ8_newLength_cabcc_9 rfl (lv_at hl 0 rfl) ?_
  refine lv_icmp_ge (tgt := 21) hx hb dJ8_newLength_cabcc_10 (by decide) (fun h1 => absurd h1 (nI_ge hx9 (by omega))) (fun h1 => ?_)
  refine lv_iload_n hx hb dJ8_newLength_cabcc_13 rfl (lv_at hl 0 rfl) ?_
  refine lv_ldc (v := nI 2147483639) hx hb hown (hts (.constant RJ8 200 (2147483639)) (by decide +kernel)) dJ8_newLength_cabcc_14 ?_
  refine lv_icmp_gt (tgt := 21) hx hb dJ8_newLength_cabcc_16 (by decide) (fun h2 => absurd (nI_ltn (by decide) (by omega) h2) (by omega)) (fun h2 => ?_)
  refine lv_iload_n hx hb dJ8_newLength_cabcc_19 rfl (lv_at hl 0 rfl) ?_
  exact rt_i C0 rfl hS rfl dJ8_newLength_cabcc_20
abbrev rmJ5_newCapacity_0f7a4 : Room := { frames := 2, cells := 0, slots := 0, locals := 63 }
set_option maxHeartbeats 4000000 in
set_option maxRecDepth 100000 in
theorem c_newCap (l : Launch) (g : Gx) (b0 : Nat) (H0 : Heap) (a b cap n : Nat) (t : Nat → Nat) (hs : SB g a b cap n t H0) (m9 : Nat) (hm9 : cap < m9) (hm8 : m9 < 1000) : Met l yJ5_newCapacity_0f7a4 wsJ5_newCapacity_0f7a4 rmJ5_newCapacity_0f7a4 (va_Pc [.ref a, .int (nI m9)] (hJ g b0 H0)) (pQ (some (.int (nI (ncap m9 cap)))) H0) 0 0 (fun q => H0.size ≤ q) := by
  refine cx_met (own := RJ5) (cc := cJ5_newCapacity_0f7a4) (maxL := 6) (by decide) rfl rfl (Nat.le_of_ble_eq_true rfl) ?_
  intro p e s m below meth c ls C0 hB0 hnm hl
  obtain ⟨hH, hK, hZ⟩ := hB0
  obtain ⟨hx, hb, hr, hml, hown, hts, hlk⟩ := id C0
  subst hH
  have hS : va_S (fun q => s.heap.size ≤ q) s.heap s.heap [] := va_S.rf
  have hA : ∀ q : Nat, s.heap.size ≤ q → (fun q => s.heap.size ≤ q) q := fun q h => h
  have h0Z := hZ.1
  have hAb : ∀ q : Nat, (fun q => s.heap.size ≤ q) q → b0 ≤ q := fun q h => Nat.le_trans h0Z h
  have hl : lv_has ls 6 [(0, .ref a), (1, .int (nI m9))] := hl
  obtain ⟨mb, f, hf, hg9, hft, hfit, hnc, hc4, hab⟩ := id hs
  refine lv_aload_n hx hb dJ5_newCapacity_0f7a4_0 rfl (lv_at hl 0 rfl) ?_
  refine va_get (ci := 1) (C := RJ4) (T := TJ4) (N := 4) (v := .ref b) hx hb hts (by decide +kernel) hown hK.1 (p1 hf) 0 rfl rfl 0 (by decide) (hts (.fieldLink RJ5 15 "java/lang/AbstractStringBuilder" "value" "[B") (by decide +kernel)) (fun _ h9 => h9) rfl dJ5_newCapacity_0f7a4_1 ?_
  refine f_alen (x := (cap, _)) hx hb hK 4 rfl hg9 dJ5_newCapacity_0f7a4_4 ?_
  refine lv_istore_n (lv' := [(2, .int (nI cap)), (0, .ref a), (1, .int (nI m9))]) hx hb dJ5_newCapacity_0f7a4_5 rfl hl (by decide) rfl (fun ls hl => ?_)
  refine lv_iload_n hx hb dJ5_newCapacity_0f7a4_6 rfl (lv_at hl 2 rfl) ?_
  refine lv_aload_n hx hb dJ5_newCapacity_0f7a4_7 rfl (lv_at hl 1 rfl) ?_
  refine va_get (ci := 1) (C := RJ4) (T := TJ4) (N := 4) (v := .int 0) hx hb hts (by decide +kernel) hown hK.1 (p1 hf) 0 rfl rfl 1 (by decide) (hts (.fieldLink RJ5 22 "java/lang/AbstractStringBuilder" "coder" "B") (by decide +kernel)) (fun _ h9 => h9) rfl dJ5_newCapacity_0f7a4_8 ?_
  refine lv_ishl hx hb dJ5_newCapacity_0f7a4_11 ?_
  refine tp_i (y := nI m9) (ishl0 _) ?_
  refine lv_istore_n (lv' := [(3, .int (nI m9)), (2, .int (nI cap)), (0, .ref a), (1, .int (nI m9))]) hx hb dJ5_newCapacity_0f7a4_12 rfl hl (by decide) rfl (fun ls hl => ?_)
  refine lv_iload_n hx hb dJ5_newCapacity_0f7a4_13 rfl (lv_at hl 0 rfl) ?_
  refine lv_iload_n hx hb dJ5_newCapacity_0f7a4_14 rfl (lv_at hl 1 rfl) ?_
  refine lv_isub hx hb dJ5_newCapacity_0f7a4_15 ?_
  refine tp_i (y := nI (m9 - cap)) (pk_sub (by omega)) ?_
  refine lv_istore (lv' := [(4, .int (nI (m9 - cap))), (3, .int (nI m9)), (2, .int (nI cap)), (0, .ref a), (1, .int (nI m9))]) hx hb dJ5_newCapacity_0f7a4_16 hl (by decide) rfl (fun ls hl => ?_)
  refine lv_iload_n hx hb dJ5_newCapacity_0f7a4_18 rfl (lv_at hl 2 rfl) ?_
  refine lv_iload hx hb dJ5_newCapacity_0f7a4_19 (lv_at hl 0 rfl) ?_
  refine lv_iload_n hx hb dJ5_newCapacity_0f7a4_21 rfl (lv_at hl 2 rfl) ?_
  refine lv_iconst (v := nI 2) hx hb dJ5_newCapacity_0f7a4_22 (by decide) ?_
  refine lv_aload_n hx hb dJ5_newCapacity_0f7a4_23 rfl (lv_at hl 3 rfl) ?_
  refine va_get (ci := 1) (C := RJ4) (T := TJ4) (N := 4) (v := .int 0) hx hb hts (by decide +kernel) hown hK.1 (p1 hf) 0 rfl rfl 1 (by decide) (hts (.fieldLink RJ5 22 "java/lang/AbstractStringBuilder" "coder" "B") (by decide +kernel)) (fun _ h9 => h9) rfl dJ5_newCapacity_0f7a4_24 ?_
  refine lv_ishl hx hb dJ5_newCapacity_0f7a4_27 ?_
  refine tp_i (y := nI 2) (ishl0 _) ?_
  refine lv_iadd hx hb dJ5_newCapacity_0f7a4_28 ?_
  refine tp_i (y := nI (cap + 2)) (nI_add _ _) ?_
  refine jp_S (As := [.int (nI cap), .int (nI (m9 - cap)), .int (nI (cap + 2))]) (rest := []) C0 hl hK hS hA (zat hZ hS hAb) (c_newLen l g b0 s.heap cap (m9 - cap) (cap + 2) (by omega) (by omega)) gJ5_newCapacity_0f7a4_J8_newLength_cabcc rfl ⟨rfl, rfl⟩ (show hd_ok yJ8_newLength_cabcc 3 from ⟨by decide, by decide, by decide +kernel⟩) ⟨Nat.le_of_ble_eq_true rfl, Nat.le_of_ble_eq_true rfl⟩ rfl (Nat.le_of_ble_eq_true rfl) ⟨Nat.zero_le _, Nat.zero_le _⟩ dJ5_newCapacity_0f7a4_29 (fun locs hS => ?_)
  have hn9 : ncap m9 cap < 10000 := by unfold ncap; omega
  refine lv_istore (lv' := [(5, .int (nI (ncap m9 cap))), (4, .int (nI (m9 - cap))), (3, .int (nI m9)), (2, .int (nI cap)), (0, .ref a), (1, .int (nI m9))]) hx hb dJ5_newCapacity_0f7a4_32 hl (by decide) rfl (fun ls hl => ?_)
  refine lv_iload hx hb dJ5_newCapacity_0f7a4_34 (lv_at hl 0 rfl) ?_
  refine lv_ldc (v := nI 2147483647) hx hb hown (hts (.constant RJ5 39 (2147483647)) (by decide +kernel)) dJ5_newCapacity_0f7a4_36 ?_
  refine lv_icmp_ne (tgt := 51) hx hb dJ5_newCapacity_0f7a4_38 (by decide) (fun h2 => ?_) (fun h2 => absurd (nI_inj (by omega) (by decide) h2) (by omega))
  refine lv_iload hx hb dJ5_newCapacity_0f7a4_51 (lv_at hl 0 rfl) ?_
  refine lv_aload_n hx hb dJ5_newCapacity_0f7a4_53 rfl (lv_at hl 4 rfl) ?_
  refine va_get (ci := 1) (C := RJ4) (T := TJ4) (N := 4) (v := .int 0) hx hb hts (by decide +kernel) hown hK.1 (p1 hf) 0 rfl rfl 1 (by decide) (hts (.fieldLink RJ5 22 "java/lang/AbstractStringBuilder" "coder" "B") (by decide +kernel)) (fun _ h9 => h9) rfl dJ5_newCapacity_0f7a4_54 ?_
  refine lv_ishr hx hb dJ5_newCapacity_0f7a4_57 ?_
  refine tp_i (y := nI (ncap m9 cap)) (ishr0 _) ?_
  exact rt_i C0 rfl hS rfl dJ5_newCapacity_0f7a4_58
abbrev rmJ5_ensureCapacityInternal_d00df (c9 k : Nat) : Room := { frames := 3, cells := c9, slots := k, locals := 88 }
set_option maxHeartbeats 4000000 in
set_option maxRecDepth 100000 in
theorem c_ens0 (l : Launch) (g : Gx) (b0 : Nat) (H0 : Heap) (a b cap n : Nat) (t : Nat → Nat) (hs : SB g a b cap n t H0) (m9 : Nat) (hm9 : m9 ≤ cap) : Met l yJ5_ensureCapacityInternal_d00df wsJ5_ensureCapacityInternal_d00df (rmJ5_ensureCapacityInternal_d00df 0 0) (va_Pc [.ref a, .int (nI m9)] (hJ g b0 H0)) (pQ none H0) 0 0 (fun q => H0.size ≤ q) := by
  refine cx_met (own := RJ5) (cc := cJ5_ensureCapacityInternal_d00df) (maxL := 3) (by decide) rfl rfl (Nat.le_of_ble_eq_true rfl) ?_
  intro p e s m below meth c ls C0 hB0 hnm hl
  obtain ⟨hH, hK, hZ⟩ := hB0
  obtain ⟨hx, hb, hr, hml, hown, hts, hlk⟩ := id C0
  subst hH
  have hS : va_S (fun q => s.heap.size ≤ q) s.heap s.heap [] := va_S.rf
  have hA : ∀ q : Nat, s.heap.size ≤ q → (fun q => s.heap.size ≤ q) q := fun q h => h
  have h0Z := hZ.1
  have hAb : ∀ q : Nat, (fun q => s.heap.size ≤ q) q → b0 ≤ q := fun q h => Nat.le_trans h0Z h
  have hl : lv_has ls 3 [(0, .ref a), (1, .int (nI m9))] := hl
  obtain ⟨mb, f, hf, hg9, hft, hfit, hnc, hc4, hab⟩ := id hs
  refine lv_aload_n hx hb dJ5_ensureCapacityInternal_d00df_0 rfl (lv_at hl 0 rfl) ?_
  refine va_get (ci := 1) (C := RJ4) (T := TJ4) (N := 4) (v := .ref b) hx hb hts (by decide +kernel) hown hK.1 (p1 hf) 0 rfl rfl 0 (by decide) (hts (.fieldLink RJ5 15 "java/lang/AbstractStringBuilder" "value" "[B") (by decide +kernel)) (fun _ h9 => h9) rfl dJ5_ensureCapacityInternal_d00df_1 ?_
  refine f_alen (x := (cap, _)) hx hb hK 4 rfl hg9 dJ5_ensureCapacityInternal_d00df_4 ?_
  refine lv_aload_n hx hb dJ5_ensureCapacityInternal_d00df_5 rfl (lv_at hl 0 rfl) ?_
  refine va_get (ci := 1) (C := RJ4) (T := TJ4) (N := 4) (v := .int 0) hx hb hts (by decide +kernel) hown hK.1 (p1 hf) 0 rfl rfl 1 (by decide) (hts (.fieldLink RJ5 22 "java/lang/AbstractStringBuilder" "coder" "B") (by decide +kernel)) (fun _ h9 => h9) rfl dJ5_ensureCapacityInternal_d00df_6 ?_
  refine lv_ishr hx hb dJ5_ensureCapacityInternal_d00df_9 ?_
  refine tp_i (y := nI cap) (ishr0 _) ?_
  refine lv_istore_n (lv' := [(2, .int (nI cap)), (0, .ref a), (1, .int (nI m9))]) hx hb dJ5_ensureCapacityInternal_d00df_10 rfl hl (by decide) rfl (fun ls hl => ?_)
  refine lv_iload_n hx hb dJ5_ensureCapacityInternal_d00df_11 rfl (lv_at hl 2 rfl) ?_
  refine lv_iload_n hx hb dJ5_ensureCapacityInternal_d00df_12 rfl (lv_at hl 0 rfl) ?_
  refine lv_isub hx hb dJ5_ensureCapacityInternal_d00df_13 ?_
  refine lv_if_le (tgt := 38) hx hb dJ5_ensureCapacityInternal_d00df_14 (by decide) (fun h1 => ?_) (fun h1 => absurd (sub_le0 hm9 (by omega)) h1)
  exact rt_pv C0 hS rfl dJ5_ensureCapacityInternal_d00df_38
set_option maxHeartbeats 4000000 in
set_option maxRecDepth 100000 in
theorem c_ens1 (l : Launch) (g : Gx) (b0 : Nat) (H0 : Heap) (a b cap n : Nat) (t : Nat → Nat) (hs : SB g a b cap n t H0) (m9 : Nat) (hm9 : cap < m9) (hm8 : m9 < 1000) (hmb : ∀ q : Nat, (fun q => q = a) q → b0 ≤ q) : Met l yJ5_ensureCapacityInternal_d00df wsJ5_ensureCapacityInternal_d00df (rmJ5_ensureCapacityInternal_d00df 1 (ncap m9 cap)) (va_Pc [.ref a, .int (nI m9)] (hJ g b0 H0)) (nQ H0 (fun q => q = a) (fun r H1 => r = none ∧ ∃ b2, H0.size ≤ b2 ∧ SB g a b2 (ncap m9 cap) n t H1)) 1 (ncap m9 cap) (fun q => (fun q => q = a) q ∨ H0.size ≤ q) := by
  refine cx_met (own := RJ5) (cc := cJ5_ensureCapacityInternal_d00df) (maxL := 3) (by decide) rfl rfl (Nat.le_of_ble_eq_true rfl) ?_
  intro p e s m below meth c ls C0 hB0 hnm hl
  obtain ⟨hH, hK, hZ⟩ := hB0
  obtain ⟨hx, hb, hr, hml, hown, hts, hlk⟩ := id C0
  subst hH
  have hS : va_S (fun q => (fun q => q = a) q ∨ s.heap.size ≤ q) s.heap s.heap [] := va_S.rf
  have hA : ∀ q : Nat, s.heap.size ≤ q → (fun q => (fun q => q = a) q ∨ s.heap.size ≤ q) q := fun q h => Or.inr h
  have h0Z := hZ.1
  have hAb : ∀ q : Nat, (fun q => (fun q => q = a) q ∨ s.heap.size ≤ q) q → b0 ≤ q := fun q h => h.elim (hmb q) (fun h => Nat.le_trans h0Z h)
  have hl : lv_has ls 3 [(0, .ref a), (1, .int (nI m9))] := hl
  obtain ⟨mb, f, hf, hg9, hft, hfit, hnc, hc4, hab⟩ := id hs
  refine lv_aload_n hx hb dJ5_ensureCapacityInternal_d00df_0 rfl (lv_at hl 0 rfl) ?_
  refine va_get (ci := 1) (C := RJ4) (T := TJ4) (N := 4) (v := .ref b) hx hb hts (by decide +kernel) hown hK.1 (p1 hf) 0 rfl rfl 0 (by decide) (hts (.fieldLink RJ5 15 "java/lang/AbstractStringBuilder" "value" "[B") (by decide +kernel)) (fun _ h9 => h9) rfl dJ5_ensureCapacityInternal_d00df_1 ?_
  refine f_alen (x := (cap, _)) hx hb hK 4 rfl hg9 dJ5_ensureCapacityInternal_d00df_4 ?_
  refine lv_aload_n hx hb dJ5_ensureCapacityInternal_d00df_5 rfl (lv_at hl 0 rfl) ?_
  refine va_get (ci := 1) (C := RJ4) (T := TJ4) (N := 4) (v := .int 0) hx hb hts (by decide +kernel) hown hK.1 (p1 hf) 0 rfl rfl 1 (by decide) (hts (.fieldLink RJ5 22 "java/lang/AbstractStringBuilder" "coder" "B") (by decide +kernel)) (fun _ h9 => h9) rfl dJ5_ensureCapacityInternal_d00df_6 ?_
  refine lv_ishr hx hb dJ5_ensureCapacityInternal_d00df_9 ?_
  refine tp_i (y := nI cap) (ishr0 _) ?_
  refine lv_istore_n (lv' := [(2, .int (nI cap)), (0, .ref a), (1, .int (nI m9))]) hx hb dJ5_ensureCapacityInternal_d00df_10 rfl hl (by decide) rfl (fun ls hl => ?_)
  refine lv_iload_n hx hb dJ5_ensureCapacityInternal_d00df_11 rfl (lv_at hl 2 rfl) ?_
  refine lv_iload_n hx hb dJ5_ensureCapacityInternal_d00df_12 rfl (lv_at hl 0 rfl) ?_
  refine lv_isub hx hb dJ5_ensureCapacityInternal_d00df_13 ?_
  refine lv_if_le (tgt := 38) hx hb dJ5_ensureCapacityInternal_d00df_14 (by decide) (fun h1 => absurd h1 (sub_gt0 hm9 (by omega))) (fun h1 => ?_)
  refine lv_aload_n hx hb dJ5_ensureCapacityInternal_d00df_17 rfl (lv_at hl 1 rfl) ?_
  refine lv_aload_n hx hb dJ5_ensureCapacityInternal_d00df_18 rfl (lv_at hl 1 rfl) ?_
  refine va_get (ci := 1) (C := RJ4) (T := TJ4) (N := 4) (v := .ref b) hx hb hts (by decide +kernel) hown hK.1 (p1 hf) 0 rfl rfl 0 (by decide) (hts (.fieldLink RJ5 15 "java/lang/AbstractStringBuilder" "value" "[B") (by decide +kernel)) (fun _ h9 => h9) rfl dJ5_ensureCapacityInternal_d00df_19 ?_
  refine lv_aload_n hx hb dJ5_ensureCapacityInternal_d00df_22 rfl (lv_at hl 1 rfl) ?_
  refine lv_iload_n hx hb dJ5_ensureCapacityInternal_d00df_23 rfl (lv_at hl 2 rfl) ?_
  refine jp_U (As := [.int (nI m9)]) (rest := [.ref b, .ref a]) C0 hl hK hS hA (zat hZ hS hAb) (c_newCap l g b0 s.heap a b cap n t hs m9 hm9 hm8) gJ5_ensureCapacityInternal_d00df_J5_newCapacity_0f7a4_u104J4 rfl ⟨rfl, rfl⟩ (hs.recv hK) rfl ⟨by decide, by decide, by show (parseMethodDescriptor "(I)I").map (fun d => d.parameters.length) = some 1; decide +kernel⟩ ⟨Nat.le_of_ble_eq_true rfl, Nat.le_of_ble_eq_true rfl⟩ rfl (Nat.le_of_ble_eq_true rfl) ⟨Nat.zero_le _, Nat.zero_le _⟩ dJ5_ensureCapacityInternal_d00df_24 (fun locs hS => ?_)
  have hn9 : ncap m9 cap < 4096 := by unfold ncap; omega
  have hn8 : cap < ncap m9 cap := by unfold ncap; omega
  refine lv_aload_n hx hb dJ5_ensureCapacityInternal_d00df_27 rfl (lv_at hl 1 rfl) ?_
  refine va_get (ci := 1) (C := RJ4) (T := TJ4) (N := 4) (v := .int 0) hx hb hts (by decide +kernel) hown hK.1 (p1 hf) 0 rfl rfl 1 (by decide) (hts (.fieldLink RJ5 22 "java/lang/AbstractStringBuilder" "coder" "B") (by decide +kernel)) (fun _ h9 => h9) rfl dJ5_ensureCapacityInternal_d00df_28 ?_
  refine lv_ishl hx hb dJ5_ensureCapacityInternal_d00df_31 ?_
  refine tp_i (y := nI (ncap m9 cap)) (ishl0 _) ?_
  refine jn_S (As := [.ref b, .int (nI (ncap m9 cap))]) (rest := [.ref a]) C0 hl hK hS hA (fun q h => absurd h id) (zat hZ hS hAb) (c_copyOf l g b0 s.heap b cap (ncap m9 cap) f hg9 hfit hn8 hn9) gJ5_ensureCapacityInternal_d00df_J7_copyOf_9075b rfl ⟨rfl, rfl⟩ (show hd_ok yJ7_copyOf_9075b 2 from ⟨by decide, by decide, by decide +kernel⟩) ⟨Nat.le_of_ble_eq_true rfl, Nat.le_of_ble_eq_true rfl⟩ rfl (Nat.le_of_ble_eq_true rfl) ⟨by show 0 + 1 ≤ 1; omega, by show 0 + ncap m9 cap ≤ ncap m9 cap; omega⟩ dJ5_ensureCapacityInternal_d00df_32 (fun v H1 locs hv hzz hk1 hS => ?_)
  obtain ⟨q, f2, rfl, hq, g2, e2, fit2⟩ := hv
  refine w_putf (ci := 1) (C := RJ4) (T := TJ4) (N := 4) (ty := (.array .byte)) hx hb hts (by decide +kernel) tyJ4 tyJ4_ok nmJ4 hown hK hS (hf.kept (hk1 _ hf.lt (fun z => z))) (Or.inl rfl) rfl 0 (by decide) (hts (.fieldLink RJ5 15 "java/lang/AbstractStringBuilder" "value" "[B") (by decide +kernel)) (fun _ h9 => h9) rfl (by decide +kernel) rfl rfl (by show 0 < 4; decide) dJ5_ensureCapacityInternal_d00df_35 (fun H2 locs f3 s3 o3 hS => ?_)
  have la := hf.lt
  dsimp only at la
  refine W.widen (k := 1) (n := ncap m9 cap) (by omega) (by omega) ?_
  exact rt_v (mu := (fun q => q = a)) C0 ⟨rfl, q, hq, mb, f2, f3, g2.kept (o3 _ (by omega)), fun j hj => by rw [e2 j (by omega)]; exact hft j hj, fit2, by omega, hn9, by omega⟩ hS rfl dJ5_ensureCapacityInternal_d00df_38
end M45

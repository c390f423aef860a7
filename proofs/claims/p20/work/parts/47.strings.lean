-- TEXTS MADE: copies of bytes, new Strings, toString, substring
theorem byteName : "[" ++ FieldType.byte.toString = "[B" := by decide +kernel
theorem clone_fit {cA : ClassId} {n : Nat} {f : Nat → Int32} (h : ∀ j, j < n → fits .byte (.int (f j)) = true) : ∀ (i : Nat) (v : Value), (vp_cell cA (n, .inl f)).slots[i]? = some v → fits .byte v = true := fun i v hv => by
  have h1 : (arrV cA n (fun j => .int (f j))).slots[i]? = some v := hv
  have hi : i < n := by
    have := (Array.getElem?_eq_some_iff.mp h1).1
    rwa [arrV_size] at this
  rw [arrV_read _ _ hi] at h1
  rw [← Option.some.inj h1]
  exact h i hi
theorem sS.of {g : Gx} {a b n : Nat} {t : Nat → Nat} {f : Nat → Int32} {x y : Value} {H : Heap} (h1 : va_at g.1 vwCl (a, .inr (0, [.ref b, .int 0, x, y])) H) (h2 : va_at g.1 vwCl (b, .inl (g.2 4, n, .inl f)) H) (e : ∀ j, j < n → f j = nI (t j)) : sS g a b n t H := by
  obtain ⟨r, hr, cell, q1, q2, q3, q4⟩ := h1
  cases hr
  exact ⟨⟨cell, q1, q2, by rw [q3]; rfl, by rw [q3]; exact fun z => (by cases z), q4 0 (by decide), q4 1 (by decide)⟩, bT.of h2 e⟩
theorem dfJ0 : ∀ j, j < 4 → defaultValue (tyJ0 j) = vp_V [.null, .int 0, .int 0, .int 0] j := fun j hj => by
  rcases (show j = 0 ∨ j = 1 ∨ j = 2 ∨ j = 3 by omega) with rfl | rfl | rfl | rfl <;> rfl
theorem dfJ4 : ∀ j, j < 4 → defaultValue (tyJ4 j) = vp_V [.null, .int 0, .int 0, .int 0] j := fun j hj => by
  rcases (show j = 0 ∨ j = 1 ∨ j = 2 ∨ j = 3 by omega) with rfl | rfl | rfl | rfl <;> rfl
section M47
variable {p : Program} {l : Launch} {e : Env} {s : State} {m : MethodId} {args : Array Value} {below : List Frame} {meth : Method} {c : Code} {H H0 : Heap} {locs : List Loc} {cells slots : Nat} {Q : State → Prop} {A : Nat → Prop} {g : Gx} {b0 : Nat}
abbrev rmJ7_checkLength_df160 : Room := { frames := 0, cells := 0, slots := 0, locals := 0 }
set_option maxHeartbeats 4000000 in
set_option maxRecDepth 100000 in
theorem c_ckLen (l : Launch) (g : Gx) (b0 : Nat) (H0 : Heap) (x y : Nat) (hxy : x ≤ y) (hy9 : y < 4096) : Met l yJ7_checkLength_df160 wsJ7_checkLength_df160 rmJ7_checkLength_df160 (va_Pc [.int (nI x), .int (nI y)] (hJ g b0 H0)) (pQ none H0) 0 0 (fun q => H0.size ≤ q) := by
  refine cx_met (own := RJ7) (cc := cJ7_checkLength_df160) (maxL := 2) (by decide) rfl rfl (Nat.le_of_ble_eq_true rfl) ?_
  intro p e s m below meth c ls C0 hB0 hnm hl
  obtain ⟨hH, hK, hZ⟩ := hB0
  obtain ⟨hx, hb, hr, hml, hown, hts, hlk⟩ := id C0
  subst hH
  have hS : va_S (fun q => s.heap.size ≤ q) s.heap s.heap [] := va_S.rf
  have hA : ∀ q : Nat, s.heap.size ≤ q → (fun q => s.heap.size ≤ q) q := fun q h => h
  have h0Z := hZ.1
  have hAb : ∀ q : Nat, (fun q => s.heap.size ≤ q) q → b0 ≤ q := fun q h => Nat.le_trans h0Z h
  have hl : lv_has ls 2 [(0, .int (nI x)), (1, .int (nI y))] := hl
  refine lv_iload_n hx hb dJ7_checkLength_df160_0 rfl (lv_at hl 1 rfl) ?_
  refine lv_iload_n hx hb dJ7_checkLength_df160_1 rfl (lv_at hl 0 rfl) ?_
  refine lv_icmp_ge (tgt := 37) hx hb dJ7_checkLength_df160_2 (by decide) (fun h1 => ?_) (fun h1 => absurd (nI_le hxy (by omega)) h1)
  exact rt_pv C0 hS rfl dJ7_checkLength_df160_37
abbrev rmJ7_copyOfRangeByte_39247 (k : Nat) : Room := { frames := 1, cells := 1, slots := k, locals := 60 }
set_option maxHeartbeats 4000000 in
set_option maxRecDepth 100000 in
theorem c_corB (l : Launch) (g : Gx) (b0 : Nat) (H0 : Heap) (b n0 y : Nat) (f : Nat → Int32) (hs : bS g b n0 f H0) (hy : y ≤ n0) (hn : n0 < 4096) (hfit : ∀ j, j < n0 → fits .byte (.int (f j)) = true) : Met l yJ7_copyOfRangeByte_39247 wsJ7_copyOfRangeByte_39247 (rmJ7_copyOfRangeByte_39247 y) (va_Pc [.ref b, .int (nI 0), .int (nI y)] (hJ g b0 H0)) (nQ H0 (fun _ => False) (fun r H1 => ∃ (q : Nat) (f2 : Nat → Int32), r = some (.ref q) ∧ H0.size ≤ q ∧ va_at g.1 vwCl (q, .inl (g.2 4, y, .inl f2)) H1 ∧ ∀ j, j < y → f2 j = f j)) 1 y (fun q => (fun _ => False) q ∨ H0.size ≤ q) := by
  refine cx_met (own := RJ7) (cc := cJ7_copyOfRangeByte_39247) (maxL := 5) (by decide) rfl rfl (Nat.le_of_ble_eq_true rfl) ?_
  intro p e s m below meth c ls C0 hB0 hnm hl
  obtain ⟨hH, hK, hZ⟩ := hB0
  obtain ⟨hx, hb, hr, hml, hown, hts, hlk⟩ := id C0
  subst hH
  have hS : va_S (fun q => (fun _ => False) q ∨ s.heap.size ≤ q) s.heap s.heap [] := va_S.rf
  have hA : ∀ q : Nat, s.heap.size ≤ q → (fun q => (fun _ => False) q ∨ s.heap.size ≤ q) q := fun q h => Or.inr h
  have h0Z := hZ.1
  have hAb : ∀ q : Nat, (fun q => (fun _ => False) q ∨ s.heap.size ≤ q) q → b0 ≤ q := fun q h => h.elim (fun z => absurd z id) (fun h => Nat.le_trans h0Z h)
  have hl : lv_has ls 5 [(0, .ref b), (1, .int (nI 0)), (2, .int (nI y))] := hl
  refine lv_iload_n hx hb dJ7_copyOfRangeByte_39247_0 rfl (lv_at hl 1 rfl) ?_
  refine lv_iload_n hx hb dJ7_copyOfRangeByte_39247_1 rfl (lv_at hl 2 rfl) ?_
  refine jp_S (As := [.int (nI 0), .int (nI y)]) (rest := []) C0 hl hK hS hA (zat hZ hS hAb) (c_ckLen l g b0 s.heap 0 y (Nat.zero_le _) (by omega)) gJ7_copyOfRangeByte_39247_J7_checkLength_df160 rfl ⟨rfl, rfl⟩ (show hd_ok yJ7_checkLength_df160 2 from ⟨by decide, by decide, by decide +kernel⟩) ⟨Nat.le_of_ble_eq_true rfl, Nat.le_of_ble_eq_true rfl⟩ rfl (Nat.le_of_ble_eq_true rfl) ⟨Nat.zero_le _, Nat.zero_le _⟩ dJ7_copyOfRangeByte_39247_2 (fun locs hS => ?_)
  refine lv_iload_n hx hb dJ7_copyOfRangeByte_39247_5 rfl (lv_at hl 2 rfl) ?_
  refine lv_iload_n hx hb dJ7_copyOfRangeByte_39247_6 rfl (lv_at hl 1 rfl) ?_
  refine lv_isub hx hb dJ7_copyOfRangeByte_39247_7 ?_
  refine tp_i (y := nI y) (pk_sub (Nat.zero_le _)) ?_
  refine lv_istore_n (lv' := [(3, .int (nI y)), (0, .ref b), (1, .int (nI 0)), (2, .int (nI y))]) hx hb dJ7_copyOfRangeByte_39247_8 rfl hl (by decide) rfl (fun ls hl => ?_)
  refine lv_iload_n hx hb dJ7_copyOfRangeByte_39247_9 rfl (lv_at hl 0 rfl) ?_
  refine f_newb hx hb (hts (.arrayClass .byte) (by decide +kernel)) hK hS (N := y) (by omega) (by show 0 + 1 ≤ 1; omega) (by show 0 + y ≤ y; omega) dJ7_copyOfRangeByte_39247_10 (fun q H1 hqq gq zq hk1 hS => ?_)
  refine lv_astore (lv' := [(4, .ref q), (3, .int (nI y)), (0, .ref b), (1, .int (nI 0)), (2, .int (nI y))]) hx hb dJ7_copyOfRangeByte_39247_12 hl (by decide) rfl (fun ls hl => ?_)
  refine lv_aload_n hx hb dJ7_copyOfRangeByte_39247_14 rfl (lv_at hl 2 rfl) ?_
  refine lv_iload_n hx hb dJ7_copyOfRangeByte_39247_15 rfl (lv_at hl 3 rfl) ?_
  refine lv_aload hx hb dJ7_copyOfRangeByte_39247_16 (lv_at hl 0 rfl) ?_
  refine lv_iconst (v := nI 0) hx hb dJ7_copyOfRangeByte_39247_18 (by decide) ?_
  refine lv_aload_n hx hb dJ7_copyOfRangeByte_39247_19 rfl (lv_at hl 2 rfl) ?_
  refine j_slen hx hb hK (zat hZ hS hAb) (hs.kept (hk1 _ hs.lt)) dJ7_copyOfRangeByte_39247_20 ?_
  refine lv_iload_n hx hb dJ7_copyOfRangeByte_39247_21 rfl (lv_at hl 3 rfl) ?_
  refine lv_isub hx hb dJ7_copyOfRangeByte_39247_22 ?_
  refine tp_i (y := nI n0) (pk_sub (Nat.zero_le _)) ?_
  refine lv_iload_n hx hb dJ7_copyOfRangeByte_39247_23 rfl (lv_at hl 1 rfl) ?_
  refine va_mmin hx hb (by rw [hml]; exact hl.1.symm) hown (hts (.methodLink RJ7 304 Lib.Math.min.name) (by decide +kernel)) (hts (.static Lib.Math.min.name) (by decide +kernel)) (hts (.initialized "java/lang/Math") (by decide +kernel)) (hts (.code Lib.Math.min.name Lib.Math.min.code 2 (some .int)) (by decide +kernel)) (Nat.le_of_ble_eq_true rfl) (Nat.le_of_ble_eq_true rfl) (by show 0 + 1 ≤ 1; omega) (by show 0 + y ≤ y; omega) dJ7_copyOfRangeByte_39247_24 ?_
  refine tp_i (y := nI (min n0 y)) (mmin_n (by omega) (by omega)) ?_
  refine f_copyb (n0 := n0) (n1 := y) (f := f) (f1 := fun _ => 0) (sp := 0) (dp := 0) (n := (min n0 y)) hx hb (by rw [hml]; exact hl.1.symm) hown (hts (.methodLink RJ7 150 arraycopyName) (by decide +kernel)) (hts (.native arraycopyName) (by decide +kernel)) (hts (.static arraycopyName) (by decide +kernel)) (hts (.initialized "java/lang/System") (by decide +kernel)) hK hS (zat hZ hS hAb) (hs.kept (hk1 _ hs.lt)) gq (Or.inr (by omega)) (by omega) (by omega) (by omega) (by omega) (fun i hi => hfit _ (by omega)) (Nat.le_of_ble_eq_true rfl) (Nat.le_of_ble_eq_true rfl) dJ7_copyOfRangeByte_39247_27 (fun H2 locs g2 hzg2 hog2 hS => ?_)
  refine lv_aload hx hb dJ7_copyOfRangeByte_39247_30 (lv_at hl 0 rfl) ?_
  refine W.widen (k := 1) (n := y) (by omega) (by omega) ?_
  exact rt_a (mu := (fun _ => False)) C0 (Or.inr ⟨_, rfl⟩) ⟨q, _, rfl, by omega, g2, fun j hj => by unfold va_cpy; rw [if_pos ⟨Nat.zero_le _, by omega⟩]; congr 1; omega⟩ hS rfl dJ7_copyOfRangeByte_39247_32
abbrev rmJ7_copyOfRange_39247 (k : Nat) : Room := { frames := 2, cells := 1, slots := k, locals := 84 }
set_option maxHeartbeats 4000000 in
set_option maxRecDepth 100000 in
theorem c_corS (l : Launch) (g : Gx) (b0 : Nat) (H0 : Heap) (b n0 y : Nat) (f : Nat → Int32) (hs : bS g b n0 f H0) (hy : y < n0) (hn : n0 < 4096) (hfit : ∀ j, j < n0 → fits .byte (.int (f j)) = true) : Met l yJ7_copyOfRange_39247 wsJ7_copyOfRange_39247 (rmJ7_copyOfRange_39247 y) (va_Pc [.ref b, .int (nI 0), .int (nI y)] (hJ g b0 H0)) (nQ H0 (fun _ => False) (fun r H1 => ∃ (q : Nat) (f2 : Nat → Int32), r = some (.ref q) ∧ H0.size ≤ q ∧ va_at g.1 vwCl (q, .inl (g.2 4, y, .inl f2)) H1 ∧ ∀ j, j < y → f2 j = f j)) 1 y (fun q => (fun _ => False) q ∨ H0.size ≤ q) := by
  refine cx_met (own := RJ7) (cc := cJ7_copyOfRange_39247) (maxL := 3) (by decide) rfl rfl (Nat.le_of_ble_eq_true rfl) ?_
  intro p e s m below meth c ls C0 hB0 hnm hl
  obtain ⟨hH, hK, hZ⟩ := hB0
  obtain ⟨hx, hb, hr, hml, hown, hts, hlk⟩ := id C0
  subst hH
  have hS : va_S (fun q => (fun _ => False) q ∨ s.heap.size ≤ q) s.heap s.heap [] := va_S.rf
  have hA : ∀ q : Nat, s.heap.size ≤ q → (fun q => (fun _ => False) q ∨ s.heap.size ≤ q) q := fun q h => Or.inr h
  have h0Z := hZ.1
  have hAb : ∀ q : Nat, (fun q => (fun _ => False) q ∨ s.heap.size ≤ q) q → b0 ≤ q := fun q h => h.elim (fun z => absurd z id) (fun h => Nat.le_trans h0Z h)
  have hl : lv_has ls 3 [(0, .ref b), (1, .int (nI 0)), (2, .int (nI y))] := hl
  refine lv_iload_n hx hb dJ7_copyOfRange_39247_0 rfl (lv_at hl 1 rfl) ?_
  refine lv_if_ne (tgt := 10) hx hb dJ7_copyOfRange_39247_1 (by decide) (fun h1 => absurd rfl h1) (fun h1 => ?_)
  refine lv_iload_n hx hb dJ7_copyOfRange_39247_4 rfl (lv_at hl 2 rfl) ?_
  refine lv_aload_n hx hb dJ7_copyOfRange_39247_5 rfl (lv_at hl 0 rfl) ?_
  refine j_slen hx hb hK (zat hZ hS hAb) hs dJ7_copyOfRange_39247_6 ?_
  refine lv_icmp_eq (tgt := 17) hx hb dJ7_copyOfRange_39247_7 (by decide) (fun h2 => absurd (nI_inj (by omega) (by omega) h2) (by omega)) (fun h2 => ?_)
  refine lv_aload_n hx hb dJ7_copyOfRange_39247_10 rfl (lv_at hl 0 rfl) ?_
  refine lv_iload_n hx hb dJ7_copyOfRange_39247_11 rfl (lv_at hl 1 rfl) ?_
  refine lv_iload_n hx hb dJ7_copyOfRange_39247_12 rfl (lv_at hl 2 rfl) ?_
  refine jn_S (As := [.ref b, .int (nI 0), .int (nI y)]) (rest := []) C0 hl hK hS hA (fun q h => absurd h id) (zat hZ hS hAb) (c_corB l g b0 s.heap b n0 y f hs (by omega) hn hfit) gJ7_copyOfRange_39247_J7_copyOfRangeByte_39247 rfl ⟨rfl, rfl⟩ (show hd_ok yJ7_copyOfRangeByte_39247 3 from ⟨by decide, by decide, by decide +kernel⟩) ⟨Nat.le_of_ble_eq_true rfl, Nat.le_of_ble_eq_true rfl⟩ rfl (Nat.le_of_ble_eq_true rfl) ⟨by show 0 + 1 ≤ 1; omega, by show 0 + y ≤ y; omega⟩ dJ7_copyOfRange_39247_13 (fun v H1 locs hv hzz hk hS => ?_)
  obtain ⟨q, f2, rfl, hq, g2, e2⟩ := hv
  refine W.widen (k := 1) (n := y) (by omega) (by omega) ?_
  exact rt_a (mu := (fun _ => False)) C0 (Or.inr ⟨_, rfl⟩) ⟨q, f2, rfl, hq, g2, e2⟩ hS rfl dJ7_copyOfRange_39247_16
set_option maxHeartbeats 4000000 in
set_option maxRecDepth 100000 in
theorem c_cor (l : Launch) (g : Gx) (b0 : Nat) (H0 : Heap) (b n0 y : Nat) (f : Nat → Int32) (hf : va_at g.1 vwCl (b, .inl (g.2 4, n0, .inl f)) H0) (hy : y ≤ n0) (hn : n0 < 4096) (hfit : ∀ j, j < n0 → fits .byte (.int (f j)) = true) : Met l yJ7_copyOfRange_39247 wsJ7_copyOfRange_39247 (rmJ7_copyOfRange_39247 y) (va_Pc [.ref b, .int (nI 0), .int (nI y)] (hJ g b0 H0)) (nQ H0 (fun _ => False) (fun r H1 => ∃ (q : Nat) (f2 : Nat → Int32), r = some (.ref q) ∧ H0.size ≤ q ∧ va_at g.1 vwCl (q, .inl (g.2 4, y, .inl f2)) H1 ∧ ∀ j, j < y → f2 j = f j)) 1 y (fun q => (fun _ => False) q ∨ H0.size ≤ q) := by
  refine cx_met (own := RJ7) (cc := cJ7_copyOfRange_39247) (maxL := 3) (by decide) rfl rfl (Nat.le_of_ble_eq_true rfl) ?_
  intro p e s m below meth c ls C0 hB0 hnm hl
  obtain ⟨hH, hK, hZ⟩ := hB0
  obtain ⟨hx, hb, hr, hml, hown, hts, hlk⟩ := id C0
  subst hH
  have hS : va_S (fun q => (fun _ => False) q ∨ s.heap.size ≤ q) s.heap s.heap [] := va_S.rf
  have hA : ∀ q : Nat, s.heap.size ≤ q → (fun q => (fun _ => False) q ∨ s.heap.size ≤ q) q := fun q h => Or.inr h
  have h0Z := hZ.1
  have hAb : ∀ q : Nat, (fun q => (fun _ => False) q ∨ s.heap.size ≤ q) q → b0 ≤ q := fun q h => h.elim (fun z => absurd z id) (fun h => Nat.le_trans h0Z h)
  have hl : lv_has ls 3 [(0, .ref b), (1, .int (nI 0)), (2, .int (nI y))] := hl
  have hs := bS.of hf
  refine lv_iload_n hx hb dJ7_copyOfRange_39247_0 rfl (lv_at hl 1 rfl) ?_
  refine lv_if_ne (tgt := 10) hx hb dJ7_copyOfRange_39247_1 (by decide) (fun h1 => absurd rfl h1) (fun h1 => ?_)
  refine lv_iload_n hx hb dJ7_copyOfRange_39247_4 rfl (lv_at hl 2 rfl) ?_
  refine lv_aload_n hx hb dJ7_copyOfRange_39247_5 rfl (lv_at hl 0 rfl) ?_
  refine j_slen hx hb hK (zat hZ hS hAb) hs dJ7_copyOfRange_39247_6 ?_
  refine lv_icmp_eq (tgt := 17) hx hb dJ7_copyOfRange_39247_7 (by decide) (fun h2 => ?_) (fun h2 => ?_)
  · skip
    obtain rfl : y = n0 := nI_inj (by omega) (by omega) h2
    have hnm : s.vm.findClass "[B" = some (g.2 4) := by rw [← byteName]; exact (hK.1.2 4 _ rfl).2
    refine lv_aload_n hx hb dJ7_copyOfRange_39247_17 rfl (lv_at hl 0 rfl) ?_
    refine f_clone (ad := "[B") hx hb (by rw [hml]; exact hl.1.symm) hown (hts (.methodLink RJ7 310 ⟨"[B", "clone", "()Ljava/lang/Object;"⟩) (by decide +kernel)) (hts (.sameMethod "[B" "java/lang/Object" "clone" "()Ljava/lang/Object;") (by decide +kernel)) (hts (.native ⟨"java/lang/Object", "clone", "()Ljava/lang/Object;"⟩) (by decide +kernel)) (hts (.instanceMethod ⟨"java/lang/Object", "clone", "()Ljava/lang/Object;"⟩) (by decide +kernel)) (hts (.selects "[B" ⟨"[B", "clone", "()Ljava/lang/Object;"⟩ ⟨"java/lang/Object", "clone", "()Ljava/lang/Object;"⟩) (by decide +kernel)) hZ.2.2.2.2.2.1.1 hK hS 4 hf rfl hnm (clone_fit hfit) (Nat.le_of_ble_eq_true rfl) (Nat.le_of_ble_eq_true rfl) (by show 0 + 1 ≤ 1; omega) (by show 0 + y ≤ y; omega) dJ7_copyOfRange_39247_18 (fun q H1 hq g1 z1 hk1 hS => ?_)
    refine va_castA (nm := "[B") hx hb hown (hts (.classLink RJ7 311 "[B") (by decide +kernel)) (p1 g1) 0 rfl hnm dJ7_copyOfRange_39247_21 ?_
    refine W.widen (k := 1) (n := y) (by show 0 + 1 ≤ 1; omega) (by show 0 + y ≤ y; omega) ?_
    exact rt_a (mu := (fun _ => False)) C0 (Or.inr ⟨_, rfl⟩) ⟨q, f, rfl, by omega, g1, fun j _ => rfl⟩ hS rfl dJ7_copyOfRange_39247_24
  · skip
    refine lv_aload_n hx hb dJ7_copyOfRange_39247_10 rfl (lv_at hl 0 rfl) ?_
    refine lv_iload_n hx hb dJ7_copyOfRange_39247_11 rfl (lv_at hl 1 rfl) ?_
    refine lv_iload_n hx hb dJ7_copyOfRange_39247_12 rfl (lv_at hl 2 rfl) ?_
    refine jn_S (As := [.ref b, .int (nI 0), .int (nI y)]) (rest := []) C0 hl hK hS hA (fun q h => absurd h id) (zat hZ hS hAb) (c_corB l g b0 s.heap b n0 y f hs (by omega) hn hfit) gJ7_copyOfRange_39247_J7_copyOfRangeByte_39247 rfl ⟨rfl, rfl⟩ (show hd_ok yJ7_copyOfRangeByte_39247 3 from ⟨by decide, by decide, by decide +kernel⟩) ⟨Nat.le_of_ble_eq_true rfl, Nat.le_of_ble_eq_true rfl⟩ rfl (Nat.le_of_ble_eq_true rfl) ⟨by show 0 + 1 ≤ 1; omega, by show 0 + y ≤ y; omega⟩ dJ7_copyOfRange_39247_13 (fun v H1 locs hv hzz hk hS => ?_)
    obtain ⟨q, f2, rfl, hq, g2, e2⟩ := hv
    refine W.widen (k := 1) (n := y) (by omega) (by omega) ?_
    exact rt_a (mu := (fun _ => False)) C0 (Or.inr ⟨_, rfl⟩) ⟨q, f2, rfl, hq, g2, e2⟩ hS rfl dJ7_copyOfRange_39247_16
abbrev rmJ0_init_031fb : Room := { frames := 1, cells := 0, slots := 0, locals := 40 }
set_option maxHeartbeats 4000000 in
set_option maxRecDepth 100000 in
theorem c_sInitB (l : Launch) (g : Gx) (b0 : Nat) (H0 : Heap) (a b : Nat) (hf : va_at g.1 vwCl (a, .inr (0, [.null, .int 0, .int 0, .int 0])) H0) (hmb : ∀ q : Nat, (fun q => q = a) q → b0 ≤ q) : Met l yJ0_init_031fb wsJ0_init_031fb rmJ0_init_031fb (va_Pc [.ref a, .ref b, .int (nI 0)] (hJ g b0 H0)) (nQ H0 (fun q => q = a) (fun r H1 => r = none ∧ va_at g.1 vwCl (a, .inr (0, [.ref b, .int 0, .int 0, .int 0])) H1)) 0 0 (fun q => (fun q => q = a) q ∨ H0.size ≤ q) := by
  refine cx_met (own := RJ0) (cc := cJ0_init_031fb) (maxL := 3) (by decide) rfl rfl (Nat.le_of_ble_eq_true rfl) ?_
  intro p e s m below meth c ls C0 hB0 hnm hl
  obtain ⟨hH, hK, hZ⟩ := hB0
  obtain ⟨hx, hb, hr, hml, hown, hts, hlk⟩ := id C0
  subst hH
  have hS : va_S (fun q => (fun q => q = a) q ∨ s.heap.size ≤ q) s.heap s.heap [] := va_S.rf
  have hA : ∀ q : Nat, s.heap.size ≤ q → (fun q => (fun q => q = a) q ∨ s.heap.size ≤ q) q := fun q h => Or.inr h
  have h0Z := hZ.1
  have hAb : ∀ q : Nat, (fun q => (fun q => q = a) q ∨ s.heap.size ≤ q) q → b0 ≤ q := fun q h => h.elim (hmb q) (fun h => Nat.le_trans h0Z h)
  have hl : lv_has ls 3 [(0, .ref a), (1, .ref b), (2, .int (nI 0))] := hl
  refine lv_aload_n hx hb dJ0_init_031fb_0 rfl (lv_at hl 0 rfl) ?_
  refine f_objInit hx hb hown (hts (.methodLink RJ0 1 objectInit) (by decide +kernel)) (hts (.instanceMethod objectInit) (by decide +kernel)) (hts (.code objectInit ⟨#[0xb1]⟩ 1 none) (by decide +kernel)) (by rw [hml]; exact hl.1) dJ0_init_031fb_1 (Nat.le_of_ble_eq_true rfl) (Nat.le_of_ble_eq_true rfl) ?_
  refine lv_aload_n hx hb dJ0_init_031fb_4 rfl (lv_at hl 0 rfl) ?_
  refine lv_aload_n hx hb dJ0_init_031fb_5 rfl (lv_at hl 1 rfl) ?_
  refine f_putF (ci := 0) (C := RJ0) (T := TJ0) (N := 4) (ty := (.array .byte)) hx hb hts (by decide +kernel) tyJ0 tyJ0_ok nmJ0 hown hK hS hf (Or.inl rfl) rfl 0 (by decide) (hts (.fieldLink RJ0 9 "java/lang/String" "value" "[B") (by decide +kernel)) (fun _ h9 => h9) rfl hnm rfl (by decide +kernel) rfl rfl (by show 0 < 4; decide) dJ0_init_031fb_6 (fun H1 locs f1 s1 o1 hS => ?_)
  refine lv_aload_n hx hb dJ0_init_031fb_9 rfl (lv_at hl 0 rfl) ?_
  refine lv_iload_n hx hb dJ0_init_031fb_10 rfl (lv_at hl 2 rfl) ?_
  refine f_putF (ci := 0) (C := RJ0) (T := TJ0) (N := 4) (ty := .byte) hx hb hts (by decide +kernel) tyJ0 tyJ0_ok nmJ0 hown hK hS f1 (Or.inl rfl) rfl 1 (by decide) (hts (.fieldLink RJ0 15 "java/lang/String" "coder" "B") (by decide +kernel)) (fun _ h9 => h9) rfl hnm rfl (by decide +kernel) rfl rfl (by show 1 < 4; decide) dJ0_init_031fb_11 (fun H2 locs f2 s2 o2 hS => ?_)
  exact rt_v (mu := (fun q => q = a)) C0 ⟨rfl, f2⟩ hS rfl dJ0_init_031fb_14
abbrev rmJ0_init_db425 (k : Nat) : Room := { frames := 3, cells := 1, slots := k, locals := 106 }
set_option maxHeartbeats 4000000 in
set_option maxRecDepth 100000 in
theorem c_sInitA (l : Launch) (g : Gx) (b0 : Nat) (H0 : Heap) (a c9 b cap n : Nat) (t : Nat → Nat) (hs : SB g c9 b cap n t H0) (hne : a ≠ c9 ∧ a ≠ b) (hf : va_at g.1 vwCl (a, .inr (0, [.null, .int 0, .int 0, .int 0])) H0) (hmb : ∀ q : Nat, (fun q => q = a) q → b0 ≤ q) : Met l yJ0_init_db425 wsJ0_init_db425 (rmJ0_init_db425 n) (va_Pc [.ref a, .ref c9, .null] (hJ g b0 H0)) (nQ H0 (fun q => q = a) (fun r H1 => r = none ∧ ∃ (q : Nat) (f2 : Nat → Int32), H0.size ≤ q ∧ va_at g.1 vwCl (a, .inr (0, [.ref q, .int 0, .int 0, .int 0])) H1 ∧ va_at g.1 vwCl (q, .inl (g.2 4, n, .inl f2)) H1 ∧ ∀ j, j < n → f2 j = nI (t j))) 1 n (fun q => (fun q => q = a) q ∨ H0.size ≤ q) := by
  refine cx_met (own := RJ0) (cc := cJ0_init_db425) (maxL := 5) (by decide) rfl rfl (Nat.le_of_ble_eq_true rfl) ?_
  intro p e s m below meth c ls C0 hB0 hnm hl
  obtain ⟨hH, hK, hZ⟩ := hB0
  obtain ⟨hx, hb, hr, hml, hown, hts, hlk⟩ := id C0
  subst hH
  have hS : va_S (fun q => (fun q => q = a) q ∨ s.heap.size ≤ q) s.heap s.heap [] := va_S.rf
  have hA : ∀ q : Nat, s.heap.size ≤ q → (fun q => (fun q => q = a) q ∨ s.heap.size ≤ q) q := fun q h => Or.inr h
  have h0Z := hZ.1
  have hAb : ∀ q : Nat, (fun q => (fun q => q = a) q ∨ s.heap.size ≤ q) q → b0 ≤ q := fun q h => h.elim (hmb q) (fun h => Nat.le_trans h0Z h)
  have hl : lv_has ls 5 [(0, .ref a), (1, .ref c9), (2, .null)] := hl
  obtain ⟨mb, f, hfB, hg9, hft, hfit, hnc, hc4, hab⟩ := id hs
  refine lv_aload_n hx hb dJ0_init_db425_0 rfl (lv_at hl 0 rfl) ?_
  refine f_objInit hx hb hown (hts (.methodLink RJ0 1 objectInit) (by decide +kernel)) (hts (.instanceMethod objectInit) (by decide +kernel)) (hts (.code objectInit ⟨#[0xb1]⟩ 1 none) (by decide +kernel)) (by rw [hml]; exact hl.1) dJ0_init_db425_1 (Nat.le_of_ble_eq_true rfl) (Nat.le_of_ble_eq_true rfl) ?_
  refine lv_aload_n hx hb dJ0_init_db425_4 rfl (lv_at hl 1 rfl) ?_
  refine jp_U (As := []) (rest := []) C0 hl hK hS hA (zat hZ hS hAb) (c_bVal l g b0 s.heap c9 b cap n t hs) gJ0_init_db425_J5_getValue_6d5f1_u552J4 rfl ⟨rfl, rfl⟩ (hs.recv hK) rfl ⟨by decide, by decide, by show (parseMethodDescriptor "()[B").map (fun d => d.parameters.length) = some 0; decide +kernel⟩ ⟨Nat.le_of_ble_eq_true rfl, Nat.le_of_ble_eq_true rfl⟩ rfl (Nat.le_of_ble_eq_true rfl) ⟨Nat.zero_le _, Nat.zero_le _⟩ dJ0_init_db425_5 (fun locs hS => ?_)
  refine lv_astore_n (lv' := [(3, .ref b), (0, .ref a), (1, .ref c9), (2, .null)]) hx hb dJ0_init_db425_8 rfl hl (by decide) rfl (fun ls hl => ?_)
  refine lv_aload_n hx hb dJ0_init_db425_9 rfl (lv_at hl 2 rfl) ?_
  refine jp_O (As := []) (rest := []) C0 hl hK hS hA (zat hZ hS hAb) (c_bLen l g b0 s.heap c9 b cap n t hs) gJ0_init_db425_J4_length_8abf5_u549J4 rfl ⟨rfl, rfl⟩ (hs.recv hK) (bb := _) (mm := _) (rr := _) (show Cond.code yJ5_length_8abf5 cJ5_length_8abf5 1 (some .int) ∈ _ from by decide +kernel) ⟨by decide, by decide, by show (parseMethodDescriptor "()I").map (fun d => d.parameters.length) = some 0; decide +kernel⟩ ⟨Nat.le_of_ble_eq_true rfl, Nat.le_of_ble_eq_true rfl⟩ rfl (Nat.le_of_ble_eq_true rfl) ⟨Nat.zero_le _, Nat.zero_le _⟩ dJ0_init_db425_10 (fun locs hS => ?_)
  refine lv_istore (lv' := [(4, .int (nI n)), (3, .ref b), (0, .ref a), (1, .ref c9), (2, .null)]) hx hb dJ0_init_db425_13 hl (by decide) rfl (fun ls hl => ?_)
  refine lv_aload_n hx hb dJ0_init_db425_15 rfl (lv_at hl 3 rfl) ?_
  refine jp_U (As := []) (rest := []) C0 hl hK hS hA (zat hZ hS hAb) (c_bLatin l g b0 s.heap c9 b cap n t hs) gJ0_init_db425_J5_isLatin1_aae02_u1047J4 rfl ⟨rfl, rfl⟩ (hs.recv hK) rfl ⟨by decide, by decide, by show (parseMethodDescriptor "()Z").map (fun d => d.parameters.length) = some 0; decide +kernel⟩ ⟨Nat.le_of_ble_eq_true rfl, Nat.le_of_ble_eq_true rfl⟩ rfl (Nat.le_of_ble_eq_true rfl) ⟨Nat.zero_le _, Nat.zero_le _⟩ dJ0_init_db425_16 (fun locs hS => ?_)
  refine lv_if_eq (tgt := 41) hx hb dJ0_init_db425_19 (by decide) (fun h1 => absurd h1 (by decide)) (fun h1 => ?_)
  refine lv_aload_n hx hb dJ0_init_db425_22 rfl (lv_at hl 2 rfl) ?_
  refine lv_iconst (v := nI 0) hx hb dJ0_init_db425_23 (by decide) ?_
  refine f_putF (ci := 0) (C := RJ0) (T := TJ0) (N := 4) (ty := .byte) hx hb hts (by decide +kernel) tyJ0 tyJ0_ok nmJ0 hown hK hS hf (Or.inl rfl) rfl 1 (by decide) (hts (.fieldLink RJ0 15 "java/lang/String" "coder" "B") (by decide +kernel)) (fun _ h9 => h9) rfl hnm rfl (by decide +kernel) rfl rfl (by show 1 < 4; decide) dJ0_init_db425_24 (fun H1 locs f1 s1 o1 hS => ?_)
  refine lv_aload_n hx hb dJ0_init_db425_27 rfl (lv_at hl 2 rfl) ?_
  refine lv_aload_n hx hb dJ0_init_db425_28 rfl (lv_at hl 1 rfl) ?_
  refine lv_iconst (v := nI 0) hx hb dJ0_init_db425_29 (by decide) ?_
  refine lv_iload hx hb dJ0_init_db425_30 (lv_at hl 0 rfl) ?_
  refine jn_S (As := [.ref b, .int (nI 0), .int (nI n)]) (rest := [.ref a]) C0 hl hK hS hA (fun q h => absurd h id) (zat hZ hS hAb) (c_cor l g b0 H1 b cap n f (hg9.kept (o1 _ hne.2.symm)) hnc hc4 hfit) gJ0_init_db425_J7_copyOfRange_39247 rfl ⟨rfl, rfl⟩ (show hd_ok yJ7_copyOfRange_39247 3 from ⟨by decide, by decide, by decide +kernel⟩) ⟨Nat.le_of_ble_eq_true rfl, Nat.le_of_ble_eq_true rfl⟩ rfl (Nat.le_of_ble_eq_true rfl) ⟨by show 0 + 1 ≤ 1; omega, by show 0 + n ≤ n; omega⟩ dJ0_init_db425_32 (fun v H2 locs hv hzz hk2 hS => ?_)
  obtain ⟨q, f2, rfl, hq, g2, e2⟩ := hv
  refine f_putF (ci := 0) (C := RJ0) (T := TJ0) (N := 4) (ty := (.array .byte)) hx hb hts (by decide +kernel) tyJ0 tyJ0_ok nmJ0 hown hK hS (f1.kept (hk2 _ f1.lt (fun z => z))) (Or.inl rfl) rfl 0 (by decide) (hts (.fieldLink RJ0 9 "java/lang/String" "value" "[B") (by decide +kernel)) (fun _ h9 => h9) rfl hnm rfl (by decide +kernel) rfl rfl (by show 0 < 4; decide) dJ0_init_db425_35 (fun H3 locs f3 s3 o3 hS => ?_)
  refine lv_goto (tgt := 97) hx hb dJ0_init_db425_38 (by decide) ?_
  have la := hf.lt
  dsimp only at la
  refine W.widen (k := 1) (n := n) (by omega) (by omega) ?_
  exact rt_v (mu := (fun q => q = a)) C0 ⟨rfl, q, f2, by omega, f3, g2.kept (o3 _ (by omega)), fun j hj => (e2 j hj).trans (hft j hj)⟩ hS rfl dJ0_init_db425_97
abbrev rmJ0_init_81219 (k : Nat) : Room := { frames := 4, cells := 1, slots := k, locals := 130 }
set_option maxHeartbeats 4000000 in
set_option maxRecDepth 100000 in
theorem c_sInitBld (l : Launch) (g : Gx) (b0 : Nat) (H0 : Heap) (a c9 b cap n : Nat) (t : Nat → Nat) (hs : SB g c9 b cap n t H0) (hne : a ≠ c9 ∧ a ≠ b) (hf : va_at g.1 vwCl (a, .inr (0, [.null, .int 0, .int 0, .int 0])) H0) (hmb : ∀ q : Nat, (fun q => q = a) q → b0 ≤ q) : Met l yJ0_init_81219 wsJ0_init_81219 (rmJ0_init_81219 n) (va_Pc [.ref a, .ref c9] (hJ g b0 H0)) (nQ H0 (fun q => q = a) (fun r H1 => r = none ∧ ∃ (q : Nat) (f2 : Nat → Int32), H0.size ≤ q ∧ va_at g.1 vwCl (a, .inr (0, [.ref q, .int 0, .int 0, .int 0])) H1 ∧ va_at g.1 vwCl (q, .inl (g.2 4, n, .inl f2)) H1 ∧ ∀ j, j < n → f2 j = nI (t j))) 1 n (fun q => (fun q => q = a) q ∨ H0.size ≤ q) := by
  refine cx_met (own := RJ0) (cc := cJ0_init_81219) (maxL := 2) (by decide) rfl rfl (Nat.le_of_ble_eq_true rfl) ?_
  intro p e s m below meth c ls C0 hB0 hnm hl
  obtain ⟨hH, hK, hZ⟩ := hB0
  obtain ⟨hx, hb, hr, hml, hown, hts, hlk⟩ := id C0
  subst hH
  have hS : va_S (fun q => (fun q => q = a) q ∨ s.heap.size ≤ q) s.heap s.heap [] := va_S.rf
  have hA : ∀ q : Nat, s.heap.size ≤ q → (fun q => (fun q => q = a) q ∨ s.heap.size ≤ q) q := fun q h => Or.inr h
  have h0Z := hZ.1
  have hAb : ∀ q : Nat, (fun q => (fun q => q = a) q ∨ s.heap.size ≤ q) q → b0 ≤ q := fun q h => h.elim (hmb q) (fun h => Nat.le_trans h0Z h)
  have hl : lv_has ls 2 [(0, .ref a), (1, .ref c9)] := hl
  refine lv_aload_n hx hb dJ0_init_81219_0 rfl (lv_at hl 0 rfl) ?_
  refine lv_aload_n hx hb dJ0_init_81219_1 rfl (lv_at hl 1 rfl) ?_
  refine lv_null hx hb dJ0_init_81219_2 ?_
  refine jn_I (As := [.ref c9, .null]) (rest := []) C0 hl hK hS hA (fun q h => Or.inl h) (zat hZ hS hAb) (c_sInitA l g b0 s.heap a c9 b cap n t hs hne hf hmb) gJ0_init_81219_J0_init_db425 rfl ⟨rfl, rfl⟩ ⟨by decide +kernel, by decide +kernel, by decide +kernel, rfl⟩ (show hd_ok yJ0_init_db425 2 from ⟨by decide, by decide, by decide +kernel⟩) ⟨Nat.le_of_ble_eq_true rfl, Nat.le_of_ble_eq_true rfl⟩ rfl (Nat.le_of_ble_eq_true rfl) ⟨by show 0 + 1 ≤ 1; omega, by show 0 + n ≤ n; omega⟩ dJ0_init_81219_3 (fun v H1 locs hv hzz hk hS => ?_)
  obtain ⟨rfl, q, f2, hq, h1, h2, h3⟩ := hv
  refine W.widen (k := 1) (n := n) (by omega) (by omega) ?_
  exact rt_v (mu := (fun q => q = a)) C0 ⟨rfl, q, f2, hq, h1, h2, h3⟩ hS rfl dJ0_init_81219_6
abbrev rmJ4_toString_0e30d (k : Nat) : Room := { frames := 5, cells := 2, slots := 4 + k, locals := 151 }
set_option maxHeartbeats 4000000 in
set_option maxRecDepth 100000 in
/-- StringBuilder.toString -/
theorem c_toStr (l : Launch) (g : Gx) (b0 : Nat) (H0 : Heap) (c9 b cap n : Nat) (t : Nat → Nat) (hs : SB g c9 b cap n t H0) : Met l yJ4_toString_0e30d wsJ4_toString_0e30d (rmJ4_toString_0e30d n) (va_Pc [.ref c9] (hJ g b0 H0)) (nQ H0 (fun _ => False) (fun r H1 => ∃ q b2 : Nat, r = some (.ref q) ∧ H0.size ≤ q ∧ H0.size ≤ b2 ∧ sS g q b2 n t H1)) 2 (4 + n) (fun q => (fun _ => False) q ∨ H0.size ≤ q) := by
  refine cx_met (own := RJ4) (cc := cJ4_toString_0e30d) (maxL := 1) (by decide) rfl rfl (Nat.le_of_ble_eq_true rfl) ?_
  intro p e s m below meth c ls C0 hB0 hnm hl
  obtain ⟨hH, hK, hZ⟩ := hB0
  obtain ⟨hx, hb, hr, hml, hown, hts, hlk⟩ := id C0
  subst hH
  have hS : va_S (fun q => (fun _ => False) q ∨ s.heap.size ≤ q) s.heap s.heap [] := va_S.rf
  have hA : ∀ q : Nat, s.heap.size ≤ q → (fun q => (fun _ => False) q ∨ s.heap.size ≤ q) q := fun q h => Or.inr h
  have h0Z := hZ.1
  have hAb : ∀ q : Nat, (fun q => (fun _ => False) q ∨ s.heap.size ≤ q) q → b0 ≤ q := fun q h => h.elim (fun z => absurd z id) (fun h => Nat.le_trans h0Z h)
  have hl : lv_has ls 1 [(0, .ref c9)] := hl
  refine f_new (ci := 0) (C := RJ0) (T := TJ0) (N := 4) (fs := [.null, .int 0, .int 0, .int 0]) hx hb hts (by decide +kernel) tyJ0 tyJ0_ok hown (hts (.classLink RJ4 18 RJ0) (by decide +kernel)) (hts (.instantiable RJ0 4) (by decide +kernel)) (hts (.initialized RJ0) (by decide +kernel)) hK hS rfl dfJ0 (by show 0 + 1 ≤ 2; omega) (by show 0 + 4 ≤ 4 + n; omega) dJ4_toString_0e30d_0 (fun a H1 hqa fa za hk1 hS => ?_)
  refine lv_dup hx hb dJ4_toString_0e30d_3 rfl ?_
  refine lv_aload_n hx hb dJ4_toString_0e30d_4 rfl (lv_at hl 0 rfl) ?_
  obtain ⟨la, lb⟩ := hs.lt
  refine jn_I (As := [.ref c9]) (rest := [.ref a]) C0 hl hK hS hA (fun q h => Or.inr (by have h : q = a := h; omega)) (zat hZ hS hAb) (c_sInitBld l g b0 H1 a c9 b cap n t (hs.kept (hk1 _ la) (hk1 _ lb)) ⟨by omega, by omega⟩ fa (fun q h => by have h : q = a := h; omega)) gJ4_toString_0e30d_J0_init_81219 rfl ⟨rfl, rfl⟩ ⟨by decide +kernel, by decide +kernel, by decide +kernel, rfl⟩ (show hd_ok yJ0_init_81219 1 from ⟨by decide, by decide, by decide +kernel⟩) ⟨Nat.le_of_ble_eq_true rfl, Nat.le_of_ble_eq_true rfl⟩ rfl (Nat.le_of_ble_eq_true rfl) ⟨by show 0 + 1 + 1 ≤ 2; omega, by show 0 + 4 + n ≤ 4 + n; omega⟩ dJ4_toString_0e30d_5 (fun v H2 locs hv hzz hk2 hS => ?_)
  obtain ⟨rfl, q, f2, hq, h1, h2, h3⟩ := hv
  refine W.widen (k := 2) (n := 4 + n) (by omega) (by omega) ?_
  exact rt_a (mu := (fun _ => False)) C0 (Or.inl ⟨_, rfl⟩) ⟨a, q, rfl, by omega, by omega, sS.of h1 h2 h3⟩ hS rfl dJ4_toString_0e30d_8
abbrev rmJ1_newString_b4f7a (k : Nat) : Room := { frames := 3, cells := 2, slots := 4 + k, locals := 106 }
set_option maxHeartbeats 4000000 in
set_option maxRecDepth 100000 in
theorem c_lnew (l : Launch) (g : Gx) (b0 : Nat) (H0 : Heap) (b n k : Nat) (t : Nat → Nat) (hs : bT g b n t H0) (hk : k < n) (hn : n < 1000) (ht : ∀ j, j < n → t j < 128) : Met l yJ1_newString_b4f7a wsJ1_newString_b4f7a (rmJ1_newString_b4f7a k) (va_Pc [.ref b, .int (nI 0), .int (nI k)] (hJ g b0 H0)) (nQ H0 (fun _ => False) (fun r H1 => ∃ q b2 : Nat, r = some (.ref q) ∧ (q < b0 ∨ H0.size ≤ q) ∧ (b2 < b0 ∨ H0.size ≤ b2) ∧ sS g q b2 k t H1)) 2 (4 + k) (fun q => (fun _ => False) q ∨ H0.size ≤ q) := by
  refine cx_met (own := RJ1) (cc := cJ1_newString_b4f7a) (maxL := 3) (by decide) rfl rfl (Nat.le_of_ble_eq_true rfl) ?_
  intro p e s m below meth c ls C0 hB0 hnm hl
  obtain ⟨hH, hK, hZ⟩ := hB0
  obtain ⟨hx, hb, hr, hml, hown, hts, hlk⟩ := id C0
  subst hH
  have hS : va_S (fun q => (fun _ => False) q ∨ s.heap.size ≤ q) s.heap s.heap [] := va_S.rf
  have hA : ∀ q : Nat, s.heap.size ≤ q → (fun q => (fun _ => False) q ∨ s.heap.size ≤ q) q := fun q h => Or.inr h
  have h0Z := hZ.1
  have hAb : ∀ q : Nat, (fun q => (fun _ => False) q ∨ s.heap.size ≤ q) q → b0 ≤ q := fun q h => h.elim (fun z => absurd z id) (fun h => Nat.le_trans h0Z h)
  have hl : lv_has ls 3 [(0, .ref b), (1, .int (nI 0)), (2, .int (nI k))] := hl
  refine lv_iload_n hx hb dJ1_newString_b4f7a_0 rfl (lv_at hl 2 rfl) ?_
  refine lv_if_ne (tgt := 7) hx hb dJ1_newString_b4f7a_1 (by decide) (fun h1 => ?_) (fun h1 => ?_)
  · skip
    have hk0 : 0 < k := by rcases Nat.eq_zero_or_pos k with e | e; exact absurd (by rw [e]; rfl) h1; exact e
    refine f_new (ci := 0) (C := RJ0) (T := TJ0) (N := 4) (fs := [.null, .int 0, .int 0, .int 0]) hx hb hts (by decide +kernel) tyJ0 tyJ0_ok hown (hts (.classLink RJ1 1 RJ0) (by decide +kernel)) (hts (.instantiable RJ0 4) (by decide +kernel)) (hts (.initialized RJ0) (by decide +kernel)) hK hS rfl dfJ0 (by show 0 + 1 ≤ 2; omega) (by show 0 + 4 ≤ 4 + k; omega) dJ1_newString_b4f7a_7 (fun a H1 hqa fa za hk1 hS => ?_)
    refine lv_dup hx hb dJ1_newString_b4f7a_10 rfl ?_
    refine lv_aload_n hx hb dJ1_newString_b4f7a_11 rfl (lv_at hl 0 rfl) ?_
    refine lv_iload_n hx hb dJ1_newString_b4f7a_12 rfl (lv_at hl 1 rfl) ?_
    refine lv_iload_n hx hb dJ1_newString_b4f7a_13 rfl (lv_at hl 1 rfl) ?_
    refine lv_iload_n hx hb dJ1_newString_b4f7a_14 rfl (lv_at hl 2 rfl) ?_
    refine lv_iadd hx hb dJ1_newString_b4f7a_15 ?_
    refine tp_i (y := nI k) ((nI_add 0 k).trans (by rw [Nat.zero_add])) ?_
    have lb := hs.lt
    refine jn_S (As := [.ref b, .int (nI 0), .int (nI k)]) (rest := [.ref a, .ref a]) C0 hl hK hS hA (fun q h => absurd h id) (zat hZ hS hAb) (c_corS l g b0 H1 b n k _ (bS.ofT (hs.kept (hk1 _ lb))) hk (by omega) (fun j hj => fits_n (ht j hj))) gJ1_newString_b4f7a_J7_copyOfRange_39247 rfl ⟨rfl, rfl⟩ (show hd_ok yJ7_copyOfRange_39247 3 from ⟨by decide, by decide, by decide +kernel⟩) ⟨Nat.le_of_ble_eq_true rfl, Nat.le_of_ble_eq_true rfl⟩ rfl (Nat.le_of_ble_eq_true rfl) ⟨by show 0 + 1 + 1 ≤ 2; omega, by show 0 + 4 + k ≤ 4 + k; omega⟩ dJ1_newString_b4f7a_16 (fun v H2 locs hv hzz hk2 hS => ?_)
    obtain ⟨q, f2, rfl, hq, g2, e2⟩ := hv
    have fa2 := fa.kept (hk2 _ fa.lt (fun z => z))
    refine lv_iconst (v := nI 0) hx hb dJ1_newString_b4f7a_19 (by decide) ?_
    refine jn_I (As := [.ref q, .int (nI 0)]) (rest := [.ref a]) C0 hl hK hS hA (fun q h => Or.inr (by have h : q = a := h; omega)) (zat hZ hS hAb) (c_sInitB l g b0 H2 a q fa2 (fun q h => by have h : q = a := h; omega)) gJ1_newString_b4f7a_J0_init_031fb rfl ⟨rfl, rfl⟩ ⟨by decide +kernel, by decide +kernel, by decide +kernel, rfl⟩ (show hd_ok yJ0_init_031fb 2 from ⟨by decide, by decide, by decide +kernel⟩) ⟨Nat.le_of_ble_eq_true rfl, Nat.le_of_ble_eq_true rfl⟩ rfl (Nat.le_of_ble_eq_true rfl) ⟨by show 0 + 1 + 1 + 0 ≤ 2; omega, by show 0 + 4 + k + 0 ≤ 4 + k; omega⟩ dJ1_newString_b4f7a_20 (fun v H3 locs hv hzz hk3 hS => ?_)
    obtain ⟨rfl, h1⟩ := hv
    refine W.widen (k := 2) (n := 4 + k) (by omega) (by omega) ?_
    exact rt_a (mu := (fun _ => False)) C0 (Or.inl ⟨_, rfl⟩) ⟨a, q, rfl, Or.inr (by omega), Or.inr (by omega), sS.of h1 (g2.kept (hk3 _ g2.lt (fun (z : q = a) => by have := fa.lt; dsimp only at this; omega))) e2⟩ hS rfl dJ1_newString_b4f7a_23
  · skip
    obtain rfl : k = 0 := nI_inj (by omega) (by decide) h1
    obtain ⟨-, -, -, -, -, -, ad, hR, -, -, b2, hb2, ha2, hs2⟩ := zat hZ hS hAb
    refine va_ldcS (tx := "") hx hb hown (hR 2 _ rfl) dJ1_newString_b4f7a_4 ?_
    refine W.widen (k := 2) (n := 4 + 0) (by omega) (by omega) ?_
    exact rt_a (mu := (fun _ => False)) C0 (Or.inl ⟨_, rfl⟩) ⟨_, b2, rfl, Or.inl ha2, Or.inl hb2, ⟨hs2.1, hs2.2.cong (fun j hj => by omega)⟩⟩ hS rfl dJ1_newString_b4f7a_6
abbrev rmJ3_checkFromToIndex_8c36e : Room := { frames := 0, cells := 0, slots := 0, locals := 0 }
set_option maxHeartbeats 4000000 in
set_option maxRecDepth 100000 in
theorem c_pft_n (l : Launch) (g : Gx) (b0 : Nat) (H0 : Heap) (y z : Nat) (hy : y ≤ z) (hz9 : z < 2 ^ 31) : Met l yJ3_checkFromToIndex_8c36e wsJ3_checkFromToIndex_8c36e rmJ3_checkFromToIndex_8c36e (va_Pc [.int (nI 0), .int (nI y), .int (nI z), .null] (hJ g b0 H0)) (pQ (some (.int (nI 0))) H0) 0 0 (fun q => H0.size ≤ q) := by
  refine cx_met (own := RJ3) (cc := cJ3_checkFromToIndex_8c36e) (maxL := 4) (by decide) rfl rfl (Nat.le_of_ble_eq_true rfl) ?_
  intro p e s m below meth c ls C0 hB0 hnm hl
  obtain ⟨hH, hK, hZ⟩ := hB0
  obtain ⟨hx, hb, hr, hml, hown, hts, hlk⟩ := id C0
  subst hH
  have hS : va_S (fun q => s.heap.size ≤ q) s.heap s.heap [] := va_S.rf
  have hA : ∀ q : Nat, s.heap.size ≤ q → (fun q => s.heap.size ≤ q) q := fun q h => h
  have h0Z := hZ.1
  have hAb : ∀ q : Nat, (fun q => s.heap.size ≤ q) q → b0 ≤ q := fun q h => Nat.le_trans h0Z h
  have hl : lv_has ls 4 [(0, .int (nI 0)), (1, .int (nI y)), (2, .int (nI z)), (3, .null)] := hl
  refine lv_iload_n hx hb dJ3_checkFromToIndex_8c36e_0 rfl (lv_at hl 0 rfl) ?_
  refine lv_if_lt (tgt := 14) hx hb dJ3_checkFromToIndex_8c36e_1 (by decide) (fun h1 => absurd h1 (nI_pos (by omega))) (fun h1 => ?_)
  refine lv_iload_n hx hb dJ3_checkFromToIndex_8c36e_4 rfl (lv_at hl 0 rfl) ?_
  refine lv_iload_n hx hb dJ3_checkFromToIndex_8c36e_5 rfl (lv_at hl 1 rfl) ?_
  refine lv_icmp_gt (tgt := 14) hx hb dJ3_checkFromToIndex_8c36e_6 (by decide) (fun h2 => absurd (nI_ltn (by omega) (by omega) h2) (by omega)) (fun h2 => ?_)
  refine lv_iload_n hx hb dJ3_checkFromToIndex_8c36e_9 rfl (lv_at hl 1 rfl) ?_
  refine lv_iload_n hx hb dJ3_checkFromToIndex_8c36e_10 rfl (lv_at hl 2 rfl) ?_
  refine lv_icmp_le (tgt := 22) hx hb dJ3_checkFromToIndex_8c36e_11 (by decide) (fun h3 => ?_) (fun h3 => absurd (nI_le hy (by omega)) h3)
  refine lv_iload_n hx hb dJ3_checkFromToIndex_8c36e_22 rfl (lv_at hl 0 rfl) ?_
  exact rt_i C0 rfl hS rfl dJ3_checkFromToIndex_8c36e_23
set_option maxHeartbeats 4000000 in
set_option maxRecDepth 100000 in
theorem c_pft_r (l : Launch) (g : Gx) (b0 : Nat) (H0 : Heap) (y z : Nat) (f9 : Nat) (hy : y ≤ z) (hz9 : z < 2 ^ 31) : Met l yJ3_checkFromToIndex_8c36e wsJ3_checkFromToIndex_8c36e rmJ3_checkFromToIndex_8c36e (va_Pc [.int (nI 0), .int (nI y), .int (nI z), .ref f9] (hJ g b0 H0)) (pQ (some (.int (nI 0))) H0) 0 0 (fun q => H0.size ≤ q) := by
  refine cx_met (own := RJ3) (cc := cJ3_checkFromToIndex_8c36e) (maxL := 4) (by decide) rfl rfl (Nat.le_of_ble_eq_true rfl) ?_
  intro p e s m below meth c ls C0 hB0 hnm hl
  obtain ⟨hH, hK, hZ⟩ := hB0
  obtain ⟨hx, hb, hr, hml, hown, hts, hlk⟩ := id C0
  subst hH
  have hS : va_S (fun q => s.heap.size ≤ q) s.heap s.heap [] := va_S.rf
  have hA : ∀ q : Nat, s.heap.size ≤ q → (fun q => s.heap.size ≤ q) q := fun q h => h
  have h0Z := hZ.1
  have hAb : ∀ q : Nat, (fun q => s.heap.size ≤ q) q → b0 ≤ q := fun q h => Nat.le_trans h0Z h
  have hl : lv_has ls 4 [(0, .int (nI 0)), (1, .int (nI y)), (2, .int (nI z)), (3, .ref f9)] := hl
  refine lv_iload_n hx hb dJ3_checkFromToIndex_8c36e_0 rfl (lv_at hl 0 rfl) ?_
  refine lv_if_lt (tgt := 14) hx hb dJ3_checkFromToIndex_8c36e_1 (by decide) (fun h1 => absurd h1 (nI_pos (by omega))) (fun h1 => ?_)
  refine lv_iload_n hx hb dJ3_checkFromToIndex_8c36e_4 rfl (lv_at hl 0 rfl) ?_
  refine lv_iload_n hx hb dJ3_checkFromToIndex_8c36e_5 rfl (lv_at hl 1 rfl) ?_
  refine lv_icmp_gt (tgt := 14) hx hb dJ3_checkFromToIndex_8c36e_6 (by decide) (fun h2 => absurd (nI_ltn (by omega) (by omega) h2) (by omega)) (fun h2 => ?_)
  refine lv_iload_n hx hb dJ3_checkFromToIndex_8c36e_9 rfl (lv_at hl 1 rfl) ?_
  refine lv_iload_n hx hb dJ3_checkFromToIndex_8c36e_10 rfl (lv_at hl 2 rfl) ?_
  refine lv_icmp_le (tgt := 22) hx hb dJ3_checkFromToIndex_8c36e_11 (by decide) (fun h3 => ?_) (fun h3 => absurd (nI_le hy (by omega)) h3)
  refine lv_iload_n hx hb dJ3_checkFromToIndex_8c36e_22 rfl (lv_at hl 0 rfl) ?_
  exact rt_i C0 rfl hS rfl dJ3_checkFromToIndex_8c36e_23
abbrev rmJ0_checkBoundsBeginEnd_23922 : Room := { frames := 1, cells := 0, slots := 0, locals := 23 }
set_option maxHeartbeats 4000000 in
set_option maxRecDepth 100000 in
theorem c_ckBE (l : Launch) (g : Gx) (b0 : Nat) (H0 : Heap) (y z : Nat) (hy : y ≤ z) (hz9 : z < 2 ^ 31) : Met l yJ0_checkBoundsBeginEnd_23922 wsJ0_checkBoundsBeginEnd_23922 rmJ0_checkBoundsBeginEnd_23922 (va_Pc [.int (nI 0), .int (nI y), .int (nI z)] (hJ g b0 H0)) (pQ none H0) 0 0 (fun q => H0.size ≤ q) := by
  refine cx_met (own := RJ0) (cc := cJ0_checkBoundsBeginEnd_23922) (maxL := 3) (by decide) rfl rfl (Nat.le_of_ble_eq_true rfl) ?_
  intro p e s m below meth c ls C0 hB0 hnm hl
  obtain ⟨hH, hK, hZ⟩ := hB0
  obtain ⟨hx, hb, hr, hml, hown, hts, hlk⟩ := id C0
  subst hH
  have hS : va_S (fun q => s.heap.size ≤ q) s.heap s.heap [] := va_S.rf
  have hA : ∀ q : Nat, s.heap.size ≤ q → (fun q => s.heap.size ≤ q) q := fun q h => h
  have h0Z := hZ.1
  have hAb : ∀ q : Nat, (fun q => s.heap.size ≤ q) q → b0 ≤ q := fun q h => Nat.le_trans h0Z h
  have hl : lv_has ls 3 [(0, .int (nI 0)), (1, .int (nI y)), (2, .int (nI z))] := hl
  refine lv_iload_n hx hb dJ0_checkBoundsBeginEnd_23922_0 rfl (lv_at hl 0 rfl) ?_
  refine lv_iload_n hx hb dJ0_checkBoundsBeginEnd_23922_1 rfl (lv_at hl 1 rfl) ?_
  refine lv_iload_n hx hb dJ0_checkBoundsBeginEnd_23922_2 rfl (lv_at hl 2 rfl) ?_
  rcases va_Zq.narrow hZ.2.2.1 hAb with hz8 | ⟨f9, hz8⟩
  · skip
    refine va_gets hx hb hz8 hS hown (hts (.fieldLink RJ0 1053 "jdk/internal/util/Preconditions" "SIOOBE_FORMATTER" "Ljava/util/function/BiFunction;") (by decide +kernel)) (fun _ h9 => h9) dJ0_checkBoundsBeginEnd_23922_3 ?_
    refine jp_S (As := [.int (nI 0), .int (nI y), .int (nI z), .null]) (rest := []) C0 hl hK hS hA (zat hZ hS hAb) (c_pft_n l g b0 s.heap y z hy hz9) gJ0_checkBoundsBeginEnd_23922_J3_checkFromToIndex_8c36e rfl ⟨rfl, rfl⟩ (show hd_ok yJ3_checkFromToIndex_8c36e 4 from ⟨by decide, by decide, by decide +kernel⟩) ⟨Nat.le_of_ble_eq_true rfl, Nat.le_of_ble_eq_true rfl⟩ rfl (Nat.le_of_ble_eq_true rfl) ⟨Nat.zero_le _, Nat.zero_le _⟩ dJ0_checkBoundsBeginEnd_23922_6 (fun locs hS => ?_)
    refine lv_pop hx hb dJ0_checkBoundsBeginEnd_23922_9 rfl ?_
    exact rt_pv C0 hS rfl dJ0_checkBoundsBeginEnd_23922_10
  · skip
    refine va_gets hx hb hz8 hS hown (hts (.fieldLink RJ0 1053 "jdk/internal/util/Preconditions" "SIOOBE_FORMATTER" "Ljava/util/function/BiFunction;") (by decide +kernel)) (fun _ h9 => h9) dJ0_checkBoundsBeginEnd_23922_3 ?_
    refine jp_S (As := [.int (nI 0), .int (nI y), .int (nI z), .ref f9]) (rest := []) C0 hl hK hS hA (zat hZ hS hAb) (c_pft_r l g b0 s.heap y z f9 hy hz9) gJ0_checkBoundsBeginEnd_23922_J3_checkFromToIndex_8c36e rfl ⟨rfl, rfl⟩ (show hd_ok yJ3_checkFromToIndex_8c36e 4 from ⟨by decide, by decide, by decide +kernel⟩) ⟨Nat.le_of_ble_eq_true rfl, Nat.le_of_ble_eq_true rfl⟩ rfl (Nat.le_of_ble_eq_true rfl) ⟨Nat.zero_le _, Nat.zero_le _⟩ dJ0_checkBoundsBeginEnd_23922_6 (fun locs hS => ?_)
    refine lv_pop hx hb dJ0_checkBoundsBeginEnd_23922_9 rfl ?_
    exact rt_pv C0 hS rfl dJ0_checkBoundsBeginEnd_23922_10
abbrev rmJ0_substring_37a41 (k : Nat) : Room := { frames := 4, cells := 2, slots := 4 + k, locals := 128 }
set_option maxHeartbeats 4000000 in
set_option maxRecDepth 100000 in
/-- String.substring(0, k) -/
theorem c_substr (l : Launch) (g : Gx) (b0 : Nat) (H0 : Heap) (a b n k : Nat) (t : Nat → Nat) (hs : sS g a b n t H0) (hk : k < n) (hn : n < 1000) (ht : ∀ j, j < n → t j < 128) : Met l yJ0_substring_37a41 wsJ0_substring_37a41 (rmJ0_substring_37a41 k) (va_Pc [.ref a, .int (nI 0), .int (nI k)] (hJ g b0 H0)) (nQ H0 (fun _ => False) (fun r H1 => ∃ q b2 : Nat, r = some (.ref q) ∧ (q < b0 ∨ H0.size ≤ q) ∧ (b2 < b0 ∨ H0.size ≤ b2) ∧ sS g q b2 k t H1)) 2 (4 + k) (fun q => (fun _ => False) q ∨ H0.size ≤ q) := by
  refine cx_met (own := RJ0) (cc := cJ0_substring_37a41) (maxL := 5) (by decide) rfl rfl (Nat.le_of_ble_eq_true rfl) ?_
  intro p e s m below meth c ls C0 hB0 hnm hl
  obtain ⟨hH, hK, hZ⟩ := hB0
  obtain ⟨hx, hb, hr, hml, hown, hts, hlk⟩ := id C0
  subst hH
  have hS : va_S (fun q => (fun _ => False) q ∨ s.heap.size ≤ q) s.heap s.heap [] := va_S.rf
  have hA : ∀ q : Nat, s.heap.size ≤ q → (fun q => (fun _ => False) q ∨ s.heap.size ≤ q) q := fun q h => Or.inr h
  have h0Z := hZ.1
  have hAb : ∀ q : Nat, (fun q => (fun _ => False) q ∨ s.heap.size ≤ q) q → b0 ≤ q := fun q h => h.elim (fun z => absurd z id) (fun h => Nat.le_trans h0Z h)
  have hl : lv_has ls 5 [(0, .ref a), (1, .int (nI 0)), (2, .int (nI k))] := hl
  refine lv_aload_n hx hb dJ0_substring_37a41_0 rfl (lv_at hl 0 rfl) ?_
  refine jp_V (As := []) (rest := []) C0 hl hK hS hA (zat hZ hS hAb) (c_sLen l g b0 s.heap a b n t hs) gJ0_substring_37a41_J0_length_8abf5 rfl ⟨rfl, rfl⟩ (j_srecv hK hs) ⟨rfl, (show hd_ok yJ0_length_8abf5 0 from ⟨by decide, by decide, by decide +kernel⟩)⟩ ⟨Nat.le_of_ble_eq_true rfl, Nat.le_of_ble_eq_true rfl⟩ rfl (Nat.le_of_ble_eq_true rfl) ⟨by show 0 ≤ 2; omega, by show 0 ≤ 4 + k; omega⟩ dJ0_substring_37a41_1 (fun locs hS => ?_)
  refine lv_istore_n (lv' := [(3, .int (nI n)), (0, .ref a), (1, .int (nI 0)), (2, .int (nI k))]) hx hb dJ0_substring_37a41_4 rfl hl (by decide) rfl (fun ls hl => ?_)
  refine lv_iload_n hx hb dJ0_substring_37a41_5 rfl (lv_at hl 2 rfl) ?_
  refine lv_iload_n hx hb dJ0_substring_37a41_6 rfl (lv_at hl 3 rfl) ?_
  refine lv_iload_n hx hb dJ0_substring_37a41_7 rfl (lv_at hl 0 rfl) ?_
  refine jp_S (As := [.int (nI 0), .int (nI k), .int (nI n)]) (rest := []) C0 hl hK hS hA (zat hZ hS hAb) (c_ckBE l g b0 s.heap k n (by omega) (by omega)) gJ0_substring_37a41_J0_checkBoundsBeginEnd_23922 rfl ⟨rfl, rfl⟩ (show hd_ok yJ0_checkBoundsBeginEnd_23922 3 from ⟨by decide, by decide, by decide +kernel⟩) ⟨Nat.le_of_ble_eq_true rfl, Nat.le_of_ble_eq_true rfl⟩ rfl (Nat.le_of_ble_eq_true rfl) ⟨by show 0 ≤ 2; omega, by show 0 ≤ 4 + k; omega⟩ dJ0_substring_37a41_8 (fun locs hS => ?_)
  refine lv_iload_n hx hb dJ0_substring_37a41_11 rfl (lv_at hl 2 rfl) ?_
  refine lv_if_ne (tgt := 22) hx hb dJ0_substring_37a41_12 (by decide) (fun h1 => absurd rfl h1) (fun h1 => ?_)
  refine lv_iload_n hx hb dJ0_substring_37a41_15 rfl (lv_at hl 3 rfl) ?_
  refine lv_iload_n hx hb dJ0_substring_37a41_16 rfl (lv_at hl 0 rfl) ?_
  refine lv_icmp_ne (tgt := 22) hx hb dJ0_substring_37a41_17 (by decide) (fun h2 => ?_) (fun h2 => absurd (nI_inj (by omega) (by omega) h2) (by omega))
  refine lv_iload_n hx hb dJ0_substring_37a41_22 rfl (lv_at hl 3 rfl) ?_
  refine lv_iload_n hx hb dJ0_substring_37a41_23 rfl (lv_at hl 2 rfl) ?_
  refine lv_isub hx hb dJ0_substring_37a41_24 ?_
  refine tp_i (y := nI k) (pk_sub (Nat.zero_le _)) ?_
  refine lv_istore (lv' := [(4, .int (nI k)), (3, .int (nI n)), (0, .ref a), (1, .int (nI 0)), (2, .int (nI k))]) hx hb dJ0_substring_37a41_25 hl (by decide) rfl (fun ls hl => ?_)
  refine lv_aload_n hx hb dJ0_substring_37a41_27 rfl (lv_at hl 2 rfl) ?_
  refine jp_V (As := []) (rest := []) C0 hl hK hS hA (zat hZ hS hAb) (c_sLatin l g b0 s.heap a b n t hs) gJ0_substring_37a41_J0_isLatin1_aae02 rfl ⟨rfl, rfl⟩ (j_srecv hK hs) ⟨rfl, (show hd_ok yJ0_isLatin1_aae02 0 from ⟨by decide, by decide, by decide +kernel⟩)⟩ ⟨Nat.le_of_ble_eq_true rfl, Nat.le_of_ble_eq_true rfl⟩ rfl (Nat.le_of_ble_eq_true rfl) ⟨by show 0 ≤ 2; omega, by show 0 ≤ 4 + k; omega⟩ dJ0_substring_37a41_28 (fun locs hS => ?_)
  refine lv_if_eq (tgt := 47) hx hb dJ0_substring_37a41_31 (by decide) (fun h3 => absurd h3 (by decide)) (fun h3 => ?_)
  refine lv_aload_n hx hb dJ0_substring_37a41_34 rfl (lv_at hl 2 rfl) ?_
  refine j_sval hx hb hts (by decide +kernel) hown hK hs (hts (.fieldLink RJ0 9 "java/lang/String" "value" "[B") (by decide +kernel)) dJ0_substring_37a41_35 ?_
  refine lv_iload_n hx hb dJ0_substring_37a41_38 rfl (lv_at hl 3 rfl) ?_
  refine lv_iload hx hb dJ0_substring_37a41_39 (lv_at hl 0 rfl) ?_
  refine jn_S (As := [.ref b, .int (nI 0), .int (nI k)]) (rest := []) C0 hl hK hS hA (fun q h => absurd h id) (zat hZ hS hAb) (c_lnew l g b0 s.heap b n k t hs.2 hk hn ht) gJ0_substring_37a41_J1_newString_b4f7a rfl ⟨rfl, rfl⟩ (show hd_ok yJ1_newString_b4f7a 3 from ⟨by decide, by decide, by decide +kernel⟩) ⟨Nat.le_of_ble_eq_true rfl, Nat.le_of_ble_eq_true rfl⟩ rfl (Nat.le_of_ble_eq_true rfl) ⟨by show 0 + 2 ≤ 2; omega, by show 0 + (4 + k) ≤ 4 + k; omega⟩ dJ0_substring_37a41_41 (fun v H1 locs hv hzz hk hS => ?_)
  obtain ⟨q, b2, rfl, hq, hb2, hs2⟩ := hv
  refine W.widen (k := 2) (n := 4 + k) (by omega) (by omega) ?_
  refine lv_goto (tgt := 57) hx hb dJ0_substring_37a41_44 (by decide) ?_
  exact rt_a (mu := (fun _ => False)) C0 (Or.inl ⟨_, rfl⟩) ⟨q, b2, rfl, hq, hb2, hs2⟩ hS rfl dJ0_substring_37a41_57
end M47

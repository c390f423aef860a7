-- THE CLASS: its texts, and how it is made
theorem dfX0 : ∀ j, j < 2 → defaultValue (tyX0 j) = vp_V [.null, .int 0] j := fun j hj => by
  rcases (show j = 0 ∨ j = 1 by omega) with rfl | rfl <;> rfl
section M73
variable {p : Program} {l : Launch} {e : Env} {s : State} {m : MethodId} {args : Array Value} {below : List Frame} {meth : Method} {c : Code} {H H0 : Heap} {locs : List Loc} {cells slots : Nat} {Q : State → Prop} {A : Nat → Prop} {g : Gx} {b0 : Nat}
abbrev rmX0_told : Room := { frames := 6, cells := 6, slots := 198, locals := 171 }
set_option maxHeartbeats 4000000 in
set_option maxRecDepth 100000 in
theorem L_xTold (C0 : Cx p s m args meth c RX0 cX0_told 3 (some (.object "java/lang/String")) wsX0_told) (hK : KK g s) (hZ : ZW g b0 s s.heap) (hA : ∀ q, s.heap.size ≤ q → A q) (hAb : ∀ q, A q → b0 ≤ q) {r c7 n c3 : Nat} {t : Nat → Nat} (hc3 : s.heap.size ≤ c3) (hrl : r < s.heap.size ∧ c7 < s.heap.size)
    (K : ∀ (b3 : Nat) (ls : Array Slot) (H : Heap) (locs : List Loc), s.heap.size ≤ b3 → SB g c3 b3 (kc n) n t H → va_S A s.heap H locs → lv_has ls 3 [(1, .ref c3)] → W p l e rmX0_told s m args below meth c H locs (2 + uc n) (20 + us n) Q (F0 m 35 ls [])) :
    ∀ (n9 k b3 : Nat), k ≤ n → n - k < n9 → ∀ (ls : Array Slot) (H : Heap) (locs : List Loc), RW g r c7 n t H → s.heap.size ≤ b3 → SB g c3 b3 (kc k) k t H → va_S A s.heap H locs → lv_has ls 3 [(2, .int (nI k)), (1, .ref c3), (0, .ref r)] → W p l e rmX0_told s m args below meth c H locs (2 + uc k) (20 + us k) Q (F0 m 10 ls []) := by
  obtain ⟨hx, hb, hr, hml, hown, hts, hlk⟩ := id C0
  intro n9
  induction n9 with
  | zero => intro k b3 _ h; exact absurd h (Nat.not_lt_zero _)
  | succ n9 ih =>
    intro k b3 hk hn9 ls H locs hR hb3 hS3 hS hl
    obtain ⟨f, hf, hc9, hft, hn70, ht128, hrc⟩ := id hR
    have hs1 := hS.1
    have hu := uc_le k
    refine lv_iload_n hx hb dX0_told_10 rfl (lv_at hl 0 rfl) ?_
    refine lv_aload_n hx hb dX0_told_11 rfl (lv_at hl 2 rfl) ?_
    refine va_get (ci := 2) (C := RX0) (T := TX0) (N := 2) (v := .int (nI n)) hx hb hts (by decide +kernel) hown hK.1 (p1 hf) 0 rfl rfl 1 (by decide) (hts (.fieldLink RX0 15 "Radixbench$Row" "size" "I") (by decide +kernel)) (fun _ h9 => h9) rfl dX0_told_12 ?_
    refine lv_icmp_ge (tgt := 35) hx hb dX0_told_15 (by decide) (fun h1 => ?_) (fun h1 => ?_)
    · skip
      have n1 := le_n (by omega) h1
      obtain rfl : k = n := by omega
      exact K b3 ls H _ hb3 hS3 hS (lv_sub hl [1] rfl)
    · skip
      have hkn : k < n := nle_n (by omega) h1
      have hu1 := uc_le (k + 1)
      obtain ⟨e1, e2, e3⟩ := kc_s (k := k) (by omega)
      refine lv_aload_n hx hb dX0_told_18 rfl (lv_at hl 1 rfl) ?_
      refine lv_aload_n hx hb dX0_told_19 rfl (lv_at hl 2 rfl) ?_
      refine va_get (ci := 2) (C := RX0) (T := TX0) (N := 2) (v := .ref c7) hx hb hts (by decide +kernel) hown hK.1 (p1 hf) 0 rfl rfl 0 (by decide) (hts (.fieldLink RX0 9 "Radixbench$Row" "signs" "[C") (by decide +kernel)) (fun _ h9 => h9) rfl dX0_told_20 ?_
      refine lv_iload_n hx hb dX0_told_23 rfl (lv_at hl 0 rfl) ?_
      refine f_cald (j := k) hx hb hK hc9 (by omega) (by decide) dX0_told_24 ?_
      refine tp_i (y := nI (t k)) (hft k (by omega)) ?_
      refine jn_V (As := [.int (nI (t k))]) (rest := []) C0 hl hK hS hA (fun q h => h.elim (fun h => by rw [h]; exact hA _ hc3) (fun h => by rw [h]; exact hA _ hb3)) (zat hZ hS hAb) (c_append l g b0 H c3 b3 (kc k) k t hS3 (t k) (ht128 k hkn) (by omega) (fun q h => h.elim (fun h => by rw [h]; exact hAb _ (hA _ hc3)) (fun h => by rw [h]; exact hAb _ (hA _ hb3)))) gX0_told_J4_append_cf468 rfl ⟨rfl, rfl⟩ (hS3.recv hK) ⟨rfl, (show hd_ok yJ4_append_cf468 1 from ⟨by decide, by decide, by decide +kernel⟩)⟩ ⟨Nat.le_of_ble_eq_true rfl, Nat.le_of_ble_eq_true rfl⟩ rfl (Nat.le_of_ble_eq_true rfl) ⟨by show 2 + uc k + celA k (kc k) ≤ 6; omega, by show 20 + us k + sloA k (kc k) ≤ 198; omega⟩ dX0_told_25 (fun v H2 locs hv hzz hk2 hS => ?_)
      obtain ⟨rfl, b5, hb5, hS5⟩ := hv
      refine lv_pop hx hb dX0_told_28 rfl ?_
      refine lv_iinc (v := nI (k + 1)) (lv' := [(2, .int (nI (k + 1))), (1, .ref c3), (0, .ref r)]) hx hb dX0_told_29 hl (k := 0) rfl (nI_1 _) (by decide) rfl (fun ls hl => ?_)
      refine lv_goto (tgt := 10) hx hb dX0_told_32 (by decide) ?_
      rw [e1] at hS5
      refine W.widen (k := 2 + uc (k + 1)) (n := 20 + us (k + 1)) (by omega) (by omega) ?_
      obtain ⟨l1, l2⟩ := hR.lt
      refine ih (k + 1) b5 (by omega) (by omega) ls H2 _ (hR.kept (hk2 _ l1 (fun z => by rcases z with e | e <;> omega)) (hk2 _ l2 (fun z => by rcases z with e | e <;> omega))) (by rcases hb5 with e | e <;> omega) (hS5.cong (fun i hi => ?_)) hS (lv_sub hl [0, 1, 2] rfl)
      unfold tup
      by_cases ei : i = k
      · rw [if_pos ei, ei]
      · rw [if_neg ei]
set_option maxHeartbeats 4000000 in
set_option maxRecDepth 100000 in
/-- Row.told -/
theorem c_rTold (l : Launch) (g : Gx) (b0 : Nat) (H0 : Heap) (r c7 n : Nat) (t : Nat → Nat) (hR : RW g r c7 n t H0) : Met l yX0_told wsX0_told rmX0_told (va_Pc [.ref r] (hJ g b0 H0)) (nQ H0 (fun _ => False) (fun r1 H1 => ∃ q b2 : Nat, r1 = some (.ref q) ∧ H0.size ≤ q ∧ H0.size ≤ b2 ∧ sS g q b2 n t H1)) 6 198 (fun q => (fun _ => False) q ∨ H0.size ≤ q) := by
  refine cx_met (own := RX0) (cc := cX0_told) (maxL := 3) (by decide) rfl rfl (Nat.le_of_ble_eq_true rfl) ?_
  intro p e s m below meth c ls C0 hB0 hnm hl
  obtain ⟨hH, hK, hZ⟩ := hB0
  obtain ⟨hx, hb, hr, hml, hown, hts, hlk⟩ := id C0
  subst hH
  have hS : va_S (fun q => (fun _ => False) q ∨ s.heap.size ≤ q) s.heap s.heap [] := va_S.rf
  have hA : ∀ q : Nat, s.heap.size ≤ q → (fun q => (fun _ => False) q ∨ s.heap.size ≤ q) q := fun q h => Or.inr h
  have h0Z := hZ.1
  have hAb : ∀ q : Nat, (fun q => (fun _ => False) q ∨ s.heap.size ≤ q) q → b0 ≤ q := fun q h => h.elim (fun z => absurd z id) (fun h => Nat.le_trans h0Z h)
  have hl : lv_has ls 3 [(0, .ref r)] := hl
  have hrl := hR.lt
  have hn70 : n ≤ 70 := by obtain ⟨-, -, -, -, h, -⟩ := id hR; exact h
  refine f_new (ci := 1) (C := RJ4) (T := TJ4) (N := 4) (fs := [.null, .int 0, .int 0, .int 0]) hx hb hts (by decide +kernel) tyJ4 tyJ4_ok hown (hts (.classLink RX0 19 RJ4) (by decide +kernel)) (hts (.instantiable RJ4 4) (by decide +kernel)) (hts (.initialized RJ4) (by decide +kernel)) hK hS rfl dfJ4 (by decide) (by decide) dX0_told_0 (fun c3 H2 hqc3 fc3 zc3 hk2 hS => ?_)
  refine lv_dup hx hb dX0_told_3 rfl ?_
  refine jn_I (As := []) (rest := [.ref c3]) C0 hl hK hS hA (fun q h => Or.inr (by have h : q = c3 := h; omega)) (zat hZ hS hAb) (c_bInit l g b0 H2 c3 fc3 (fun q h => by have h : q = c3 := h; omega)) gX0_told_J4_init_da8c8 rfl ⟨rfl, rfl⟩ ⟨by decide +kernel, by decide +kernel, by decide +kernel, rfl⟩ (show hd_ok yJ4_init_da8c8 0 from ⟨by decide, by decide, by decide +kernel⟩) ⟨Nat.le_of_ble_eq_true rfl, Nat.le_of_ble_eq_true rfl⟩ rfl (Nat.le_of_ble_eq_true rfl) ⟨by decide, by decide⟩ dX0_told_4 (fun v H3 locs hv hzz hk3 hS => ?_)
  obtain ⟨rfl, b3, hb3, hS3⟩ := hv
  refine lv_astore_n (lv' := [(1, .ref c3), (0, .ref r)]) hx hb dX0_told_7 rfl hl (by decide) rfl (fun ls hl => ?_)
  refine lv_iconst (v := nI 0) hx hb dX0_told_8 (by decide) ?_
  refine lv_istore_n (lv' := [(2, .int (nI 0)), (1, .ref c3), (0, .ref r)]) hx hb dX0_told_9 rfl hl (by decide) rfl (fun ls hl => ?_)
  have hs3 := hS.1
  have hR3 := (hR.kept (hk2 _ hrl.1) (hk2 _ hrl.2)).kept (hk3 _ (by omega) (fun (z : r = c3) => by omega)) (hk3 _ (by omega) (fun (z : c7 = c3) => by omega))
  refine W.widen (k := 2 + uc 0) (n := 20 + us 0) (by decide) (by decide) ?_
  refine L_xTold C0 hK hZ hA hAb (by omega) hrl (fun b3 ls H locs hb3 hS3 hS hl => ?_) (n + 1) 0 b3 (by omega) (by omega) ls H3 _ hR3 (by omega) (hS3.cong (fun j hj => absurd hj (Nat.not_lt_zero _))) hS (lv_sub hl [0, 1, 2] rfl)
  have hu2 := uc_le n
  refine W.widen (k := 4) (n := 124) (by omega) (by omega) ?_
  have hs6 := hS.1
  refine lv_aload_n hx hb dX0_told_35 rfl (lv_at hl 0 rfl) ?_
  refine jn_V (As := []) (rest := []) C0 hl hK hS hA (fun q h => absurd h id) (zat hZ hS hAb) (c_toStr l g b0 H c3 b3 (kc n) n t hS3) gX0_told_J4_toString_0e30d rfl ⟨rfl, rfl⟩ (hS3.recv hK) ⟨rfl, (show hd_ok yJ4_toString_0e30d 0 from ⟨by decide, by decide, by decide +kernel⟩)⟩ ⟨Nat.le_of_ble_eq_true rfl, Nat.le_of_ble_eq_true rfl⟩ rfl (Nat.le_of_ble_eq_true rfl) ⟨by show 4 + 2 ≤ 6; omega, by show 124 + (4 + n) ≤ 198; omega⟩ dX0_told_36 (fun v H7 locs hv hzz hk7 hS => ?_)
  obtain ⟨q7, b7, rfl, hq7, hb7, hs7⟩ := hv
  refine W.widen (k := 6) (n := 198) (by omega) (by omega) ?_
  exact rt_a (mu := (fun _ => False)) C0 (Or.inl ⟨_, rfl⟩) ⟨q7, b7, rfl, by omega, by omega, hs7⟩ hS rfl dX0_told_39
abbrev rmX2_text : Room := { frames := 7, cells := 6, slots := 198, locals := 193 }
set_option maxHeartbeats 4000000 in
set_option maxRecDepth 100000 in
theorem c_xText (l : Launch) (g : Gx) (b0 : Nat) (H0 : Heap) (x0 lc tr tc sr sc : Nat) (i3 i4 i5 i6 : Int32) (V : Nat → Nat) (n : Nat) (t : Nat → Nat) (hL : CL g H0 x0 lc tr tc sr sc i3 i4 i5 i6 V n t) (hmb : ∀ q : Nat, mC x0 lc tr tc sr sc q → b0 ≤ q) : Met l yX2_text wsX2_text rmX2_text (va_Pc [.ref x0] (hJ g b0 H0)) (nQ H0 (mC x0 lc tr tc sr sc) (zC g x0 lc tr tc sr sc (fun r V2 n2 t2 => (∃ rv : Nat, r = some (.ref rv)) ∧ V2 = V ∧ n2 = n ∧ t2 = t))) 6 198 (fun q => (mC x0 lc tr tc sr sc) q ∨ H0.size ≤ q) := by
  refine cx_met (own := RX2) (cc := cX2_text) (maxL := 1) (by decide) rfl rfl (Nat.le_of_ble_eq_true rfl) ?_
  intro p e s m below meth c ls C0 hB0 hnm hl
  obtain ⟨hH, hK, hZ⟩ := hB0
  obtain ⟨hx, hb, hr, hml, hown, hts, hlk⟩ := id C0
  subst hH
  have hS : va_S (fun q => (mC x0 lc tr tc sr sc) q ∨ s.heap.size ≤ q) s.heap s.heap [] := va_S.rf
  have hA : ∀ q : Nat, s.heap.size ≤ q → (fun q => (mC x0 lc tr tc sr sc) q ∨ s.heap.size ≤ q) q := fun q h => Or.inr h
  have h0Z := hZ.1
  have hAb : ∀ q : Nat, (fun q => (mC x0 lc tr tc sr sc) q ∨ s.heap.size ≤ q) q → b0 ≤ q := fun q h => h.elim (hmb q) (fun h => Nat.le_trans h0Z h)
  have hl : lv_has ls 1 [(0, .ref x0)] := hl
  obtain ⟨hC, hR, hSp, hap⟩ := id hL
  obtain ⟨hf, hfl, hlc, ⟨f, hg9, hfv⟩, hV, hxl⟩ := id hC
  refine lv_aload_n hx hb dX2_text_0 rfl (lv_at hl 0 rfl) ?_
  refine va_get (ci := 3) (C := RX2) (T := TX2) (N := 7) (v := .ref tr) hx hb hts (by decide +kernel) hown hK.1 (p1 hf) 0 rfl rfl 1 (by decide) (hts (.fieldLink RX2 16 "Radixbench" "text" "LRadixbench$Row;") (by decide +kernel)) (fun _ h9 => h9) rfl dX2_text_1 ?_
  refine jn_V (As := []) (rest := []) C0 hl hK hS hA (fun q h => absurd h id) (zat hZ hS hAb) (c_rTold l g b0 s.heap tr tc n t hR) gX2_text_X0_told rfl ⟨rfl, rfl⟩ (hR.recv hK) ⟨rfl, (show hd_ok yX0_told 0 from ⟨by decide, by decide, by decide +kernel⟩)⟩ ⟨Nat.le_of_ble_eq_true rfl, Nat.le_of_ble_eq_true rfl⟩ rfl (Nat.le_of_ble_eq_true rfl) ⟨by decide, by decide⟩ dX2_text_4 (fun r1 H1 locs hv hzz hk1 hS => ?_)
  obtain ⟨q, b2, rfl, hq, hb2, hs2⟩ := hv
  have hL1 := hL.kept (fun q h _ => hk1 q h id)
  refine W.widen (k := 6) (n := 198) (by decide) (by decide) ?_
  exact rt_a (mu := mC x0 lc tr tc sr sc) C0 (Or.inl ⟨_, rfl⟩) ⟨_, _, _, _, V, n, t, ⟨⟨_, rfl⟩, rfl, rfl, rfl⟩, hL1⟩ hS rfl dX2_text_7
abbrev rmX2_written : Room := { frames := 7, cells := 6, slots := 198, locals := 193 }
set_option maxHeartbeats 4000000 in
set_option maxRecDepth 100000 in
theorem c_xWritten (l : Launch) (g : Gx) (b0 : Nat) (H0 : Heap) (x0 lc tr tc sr sc : Nat) (i3 i4 i5 i6 : Int32) (V : Nat → Nat) (n : Nat) (t : Nat → Nat) (hL : CL g H0 x0 lc tr tc sr sc i3 i4 i5 i6 V n t) (hmb : ∀ q : Nat, mC x0 lc tr tc sr sc q → b0 ≤ q) (i r9 d9 : Nat) (hi : i < 8) (hr9 : 2 ≤ r9 ∧ r9 ≤ 36) (hd9 : d9 < 4) : Met l yX2_written wsX2_written rmX2_written (va_Pc [.ref x0, .int (nI i), .int (nI r9), .int (nI d9)] (hJ g b0 H0)) (nQ H0 (mC x0 lc tr tc sr sc) (zC g x0 lc tr tc sr sc (fun r V2 n2 t2 => (∃ rv : Nat, r = some (.ref rv)) ∧ V2 = V ∧ n2 = n ∧ t2 = t))) 6 198 (fun q => (mC x0 lc tr tc sr sc) q ∨ H0.size ≤ q) := by
  refine cx_met (own := RX2) (cc := cX2_written) (maxL := 4) (by decide) rfl rfl (Nat.le_of_ble_eq_true rfl) ?_
  intro p e s m below meth c ls C0 hB0 hnm hl
  obtain ⟨hH, hK, hZ⟩ := hB0
  obtain ⟨hx, hb, hr, hml, hown, hts, hlk⟩ := id C0
  subst hH
  have hS : va_S (fun q => (mC x0 lc tr tc sr sc) q ∨ s.heap.size ≤ q) s.heap s.heap [] := va_S.rf
  have hA : ∀ q : Nat, s.heap.size ≤ q → (fun q => (mC x0 lc tr tc sr sc) q ∨ s.heap.size ≤ q) q := fun q h => Or.inr h
  have h0Z := hZ.1
  have hAb : ∀ q : Nat, (fun q => (mC x0 lc tr tc sr sc) q ∨ s.heap.size ≤ q) q → b0 ≤ q := fun q h => h.elim (hmb q) (fun h => Nat.le_trans h0Z h)
  have hl : lv_has ls 4 [(0, .ref x0), (1, .int (nI i)), (2, .int (nI r9)), (3, .int (nI d9))] := hl
  obtain ⟨hC, hR, hSp, hap⟩ := id hL
  obtain ⟨hf, hfl, hlc, ⟨f, hg9, hfv⟩, hV, hxl⟩ := id hC
  obtain ⟨ks, us9, hS9⟩ := hSp
  refine lv_iload_n hx hb dX2_written_0 rfl (lv_at hl 1 rfl) ?_
  refine cp_S (As := [.int (nI i)]) (rest := []) C0 hl hK hS hA (c_ckCell l g s.heap i (by assumption)) gX2_written_X2_checkCell rfl ⟨rfl, rfl⟩ (show hd_ok yX2_checkCell 1 from ⟨by decide, by decide, by decide +kernel⟩) ⟨Nat.le_of_ble_eq_true rfl, Nat.le_of_ble_eq_true rfl⟩ rfl (Nat.le_of_ble_eq_true rfl) ⟨by decide, by decide⟩ dX2_written_1 (fun locs hS => ?_)
  refine lv_iload_n hx hb dX2_written_4 rfl (lv_at hl 2 rfl) ?_
  refine lv_iload_n hx hb dX2_written_5 rfl (lv_at hl 3 rfl) ?_
  refine cp_S (As := [.int (nI r9), .int (nI d9)]) (rest := []) C0 hl hK hS hA (c_ckRK l g s.heap r9 d9 hr9 hd9) gX2_written_X2_checkRadixAndKind rfl ⟨rfl, rfl⟩ (show hd_ok yX2_checkRadixAndKind 2 from ⟨by decide, by decide, by decide +kernel⟩) ⟨Nat.le_of_ble_eq_true rfl, Nat.le_of_ble_eq_true rfl⟩ rfl (Nat.le_of_ble_eq_true rfl) ⟨by decide, by decide⟩ dX2_written_6 (fun locs hS => ?_)
  refine lv_aload_n hx hb dX2_written_9 rfl (lv_at hl 0 rfl) ?_
  refine lv_aload_n hx hb dX2_written_10 rfl (lv_at hl 0 rfl) ?_
  refine va_get (ci := 3) (C := RX2) (T := TX2) (N := 7) (v := .ref sr) hx hb hts (by decide +kernel) hown hK.1 (p1 hf) 0 rfl rfl 2 (by decide) (hts (.fieldLink RX2 20 "Radixbench" "spare" "LRadixbench$Row;") (by decide +kernel)) (fun _ h9 => h9) rfl dX2_written_11 ?_
  refine lv_iload_n hx hb dX2_written_14 rfl (lv_at hl 1 rfl) ?_
  refine lv_iload_n hx hb dX2_written_15 rfl (lv_at hl 2 rfl) ?_
  refine lv_iload_n hx hb dX2_written_16 rfl (lv_at hl 3 rfl) ?_
  refine cn_V (As := [.ref sr, .int (nI i), .int (nI r9), .int (nI d9)]) (rest := []) C0 hl hK hS hA (fun q h => Or.inl (mC_s h)) (c_tellIn l g s.heap x0 lc _ V hC sr sc ks us9 hS9 i r9 d9 hi hr9 hd9) gX2_written_X2_tellInto rfl ⟨rfl, rfl⟩ (hC.recv hK) ⟨rfl, (show hd_ok yX2_tellInto 4 from ⟨by decide, by decide, by decide +kernel⟩)⟩ ⟨Nat.le_of_ble_eq_true rfl, Nat.le_of_ble_eq_true rfl⟩ rfl (Nat.le_of_ble_eq_true rfl) ⟨by decide, by decide⟩ dX2_written_17 (fun r1 H1 locs hv hzz hk1 hS => ?_)
  obtain ⟨rfl, k2, t2, hT, hR1⟩ := hv
  have hL1 := hL.setS hR1 hk1
  have hf1 := hL1.1.1
  refine W.widen (k := 0) (n := 0) (by decide) (by decide) ?_
  refine lv_aload_n hx hb dX2_written_20 rfl (lv_at hl 0 rfl) ?_
  refine va_get (ci := 3) (C := RX2) (T := TX2) (N := 7) (v := .ref sr) hx hb hts (by decide +kernel) hown hK.1 (p1 hf1) 0 rfl rfl 2 (by decide) (hts (.fieldLink RX2 20 "Radixbench" "spare" "LRadixbench$Row;") (by decide +kernel)) (fun _ h9 => h9) rfl dX2_written_21 ?_
  refine jn_V (As := []) (rest := []) C0 hl hK hS hA (fun q h => absurd h id) (zat hZ hS hAb) (c_rTold l g b0 H1 sr sc k2 t2 hR1) gX2_written_X0_told rfl ⟨rfl, rfl⟩ (hR1.recv hK) ⟨rfl, (show hd_ok yX0_told 0 from ⟨by decide, by decide, by decide +kernel⟩)⟩ ⟨Nat.le_of_ble_eq_true rfl, Nat.le_of_ble_eq_true rfl⟩ rfl (Nat.le_of_ble_eq_true rfl) ⟨by decide, by decide⟩ dX2_written_24 (fun r1 H2 locs hv hzz hk2 hS => ?_)
  obtain ⟨q, b2, rfl, hq, hb2, hs2⟩ := hv
  have hL2 := hL1.kept (fun q h _ => hk2 q h id)
  refine W.widen (k := 6) (n := 198) (by decide) (by decide) ?_
  exact rt_a (mu := mC x0 lc tr tc sr sc) C0 (Or.inl ⟨_, rfl⟩) ⟨_, _, _, _, V, n, t, ⟨⟨_, rfl⟩, rfl, rfl, rfl⟩, hL2⟩ hS rfl dX2_written_27
abbrev rmX0_init : Room := { frames := 1, cells := 1, slots := 70, locals := 40 }
set_option maxHeartbeats 4000000 in
set_option maxRecDepth 100000 in
theorem c_rInit (l : Launch) (g : Gx) (b0 : Nat) (H0 : Heap) (r : Nat) (hf : va_at g.1 vwCl (r, .inr (2, [.null, .int 0])) H0) (hmb : ∀ q : Nat, (fun q => q = r) q → b0 ≤ q) : Met l yX0_init wsX0_init rmX0_init (va_Pc [.ref r] (hJ g b0 H0)) (nQ H0 (fun q => q = r) (fun r1 H1 => r1 = none ∧ ∃ c7, H0.size ≤ c7 ∧ RW g r c7 0 (fun _ => 0) H1)) 1 70 (fun q => (fun q => q = r) q ∨ H0.size ≤ q) := by
  refine cx_met (own := RX0) (cc := cX0_init) (maxL := 1) (by decide) rfl rfl (Nat.le_of_ble_eq_true rfl) ?_
  intro p e s m below meth c ls C0 hB0 hnm hl
  obtain ⟨hH, hK, hZ⟩ := hB0
  obtain ⟨hx, hb, hr, hml, hown, hts, hlk⟩ := id C0
  subst hH
  have hS : va_S (fun q => (fun q => q = r) q ∨ s.heap.size ≤ q) s.heap s.heap [] := va_S.rf
  have hA : ∀ q : Nat, s.heap.size ≤ q → (fun q => (fun q => q = r) q ∨ s.heap.size ≤ q) q := fun q h => Or.inr h
  have h0Z := hZ.1
  have hAb : ∀ q : Nat, (fun q => (fun q => q = r) q ∨ s.heap.size ≤ q) q → b0 ≤ q := fun q h => h.elim (hmb q) (fun h => Nat.le_trans h0Z h)
  have hl : lv_has ls 1 [(0, .ref r)] := hl
  have lr := hf.lt
  dsimp only at lr
  refine lv_aload_n hx hb dX0_init_0 rfl (lv_at hl 0 rfl) ?_
  refine f_objInit hx hb hown (hts (.methodLink RX0 3 objectInit) (by decide +kernel)) (hts (.instanceMethod objectInit) (by decide +kernel)) (hts (.code objectInit ⟨#[0xb1]⟩ 1 none) (by decide +kernel)) (by rw [hml]; exact hl.1) dX0_init_1 (Nat.le_of_ble_eq_true rfl) (Nat.le_of_ble_eq_true rfl) ?_
  refine lv_aload_n hx hb dX0_init_4 rfl (lv_at hl 0 rfl) ?_
  refine lv_bipush (v := nI 70) hx hb dX0_init_5 (by decide) ?_
  refine f_newc hx hb (hts (.arrayClass .char) (by decide +kernel)) hK hS (N := 70) (by decide) (by decide) (by decide) dX0_init_7 (fun c7 H1 hqc7 gc7 zc7 hk1 hS => ?_)
  refine f_putF (ci := 2) (C := RX0) (T := TX0) (N := 2) (ty := (.array .char)) hx hb hts (by decide +kernel) tyX0 tyX0_ok nmX0 hown hK hS (hf.kept (hk1 _ lr)) (Or.inl rfl) rfl 0 (by decide) (hts (.fieldLink RX0 9 "Radixbench$Row" "signs" "[C") (by decide +kernel)) (fun _ h9 => h9) rfl hnm rfl (by decide +kernel) rfl rfl (by show 0 < 2; decide) dX0_init_9 (fun H2 locs f2 s2 o2 hS => ?_)
  have lc9 := gc7.lt
  dsimp only at lc9
  refine W.widen (k := 1) (n := 70) (by decide) (by decide) ?_
  exact rt_v (mu := (fun q => q = r)) C0 ⟨rfl, c7, by omega, _, f2, gc7.kept (o2 _ (by omega)), fun j hj => absurd hj (Nat.not_lt_zero _), by decide, fun j hj => absurd hj (Nat.not_lt_zero _), by omega⟩ hS rfl dX0_init_12
abbrev rmX2_init : Room := { frames := 2, cells := 5, slots := 152, locals := 60 }
set_option maxHeartbeats 4000000 in
set_option maxRecDepth 100000 in
theorem c_xInit (l : Launch) (g : Gx) (b0 : Nat) (H0 : Heap) (x0 : Nat) (hf : va_at g.1 vwCl (x0, .inr (3, [.null, .null, .null, .int 0, .int 0, .int 0, .int 0])) H0) (hmb : ∀ q : Nat, (fun q => q = x0) q → b0 ≤ q) : Met l yX2_init wsX2_init rmX2_init (va_Pc [.ref x0] (hJ g b0 H0)) (nQ H0 (fun q => q = x0) (fun r H1 => r = none ∧ ∃ lc tr tc sr sc : Nat, (H0.size ≤ lc ∧ H0.size ≤ tr ∧ H0.size ≤ tc ∧ H0.size ≤ sr ∧ H0.size ≤ sc) ∧ CL g H1 x0 lc tr tc sr sc 0 0 0 0 (fun _ => 0) 0 (fun _ => 0))) 5 152 (fun q => (fun q => q = x0) q ∨ H0.size ≤ q) := by
  refine cx_met (own := RX2) (cc := cX2_init) (maxL := 1) (by decide) rfl rfl (Nat.le_of_ble_eq_true rfl) ?_
  intro p e s m below meth c ls C0 hB0 hnm hl
  obtain ⟨hH, hK, hZ⟩ := hB0
  obtain ⟨hx, hb, hr, hml, hown, hts, hlk⟩ := id C0
  subst hH
  have hS : va_S (fun q => (fun q => q = x0) q ∨ s.heap.size ≤ q) s.heap s.heap [] := va_S.rf
  have hA : ∀ q : Nat, s.heap.size ≤ q → (fun q => (fun q => q = x0) q ∨ s.heap.size ≤ q) q := fun q h => Or.inr h
  have h0Z := hZ.1
  have hAb : ∀ q : Nat, (fun q => (fun q => q = x0) q ∨ s.heap.size ≤ q) q → b0 ≤ q := fun q h => h.elim (hmb q) (fun h => Nat.le_trans h0Z h)
  have hl : lv_has ls 1 [(0, .ref x0)] := hl
  have lx := hf.lt
  dsimp only at lx
  have hxb := hmb x0 rfl
  refine lv_aload_n hx hb dX2_init_0 rfl (lv_at hl 0 rfl) ?_
  refine f_objInit hx hb hown (hts (.methodLink RX2 1 objectInit) (by decide +kernel)) (hts (.instanceMethod objectInit) (by decide +kernel)) (hts (.code objectInit ⟨#[0xb1]⟩ 1 none) (by decide +kernel)) (by rw [hml]; exact hl.1) dX2_init_1 (Nat.le_of_ble_eq_true rfl) (Nat.le_of_ble_eq_true rfl) ?_
  refine lv_aload_n hx hb dX2_init_4 rfl (lv_at hl 0 rfl) ?_
  refine lv_bipush (v := nI 8) hx hb dX2_init_5 (by decide) ?_
  refine f_newl hx hb (hts (.arrayClass .long) (by decide +kernel)) hK hS (N := 8) (by decide) (by decide) (by decide) dX2_init_7 (fun lc H1 hqlc glc zlc hk1 hS => ?_)
  refine f_putF (ci := 3) (C := RX2) (T := TX2) (N := 7) (ty := (.array .long)) hx hb hts (by decide +kernel) tyX2 tyX2_ok nmX2 hown hK hS (hf.kept (hk1 _ lx)) (Or.inl rfl) rfl 0 (by decide) (hts (.fieldLink RX2 9 "Radixbench" "cells" "[J") (by decide +kernel)) (fun _ h9 => h9) rfl hnm rfl (by decide +kernel) rfl rfl (by show 0 < 7; decide) dX2_init_9 (fun H2 locs f2 s2 o2 hS => ?_)
  refine lv_aload_n hx hb dX2_init_12 rfl (lv_at hl 0 rfl) ?_
  refine f_new (ci := 2) (C := RX0) (T := TX0) (N := 2) (fs := [.null, .int 0]) hx hb hts (by decide +kernel) tyX0 tyX0_ok hown (hts (.classLink RX2 13 RX0) (by decide +kernel)) (hts (.instantiable RX0 2) (by decide +kernel)) (hts (.initialized RX0) (by decide +kernel)) hK hS rfl dfX0 (by decide) (by decide) dX2_init_13 (fun tr H3 hqtr ftr ztr hk3 hS => ?_)
  refine lv_dup hx hb dX2_init_16 rfl ?_
  have llc := glc.lt
  dsimp only at llc
  refine jn_I (As := []) (rest := [.ref tr, .ref x0]) C0 hl hK hS hA (fun q h => Or.inr (by have h : q = tr := h; omega)) (zat hZ hS hAb) (c_rInit l g b0 H3 tr ftr (fun q h => by have h : q = tr := h; omega)) gX2_init_X0_init rfl ⟨rfl, rfl⟩ ⟨by decide +kernel, by decide +kernel, by decide +kernel, rfl⟩ (show hd_ok yX0_init 0 from ⟨by decide, by decide, by decide +kernel⟩) ⟨Nat.le_of_ble_eq_true rfl, Nat.le_of_ble_eq_true rfl⟩ rfl (Nat.le_of_ble_eq_true rfl) ⟨by decide, by decide⟩ dX2_init_17 (fun v H4 locs hv hzz hk4 hS => ?_)
  obtain ⟨rfl, tc, htc, hR4⟩ := hv
  have hs4 := hS.1
  have l4 := hR4.lt
  have z4 := hzz
  have f4 := (f2.kept (hk3 _ (by omega))).kept (hk4 _ (by omega) (fun (z : x0 = tr) => by omega))
  refine f_putF (ci := 3) (C := RX2) (T := TX2) (N := 7) (ty := (.object RX0)) hx hb hts (by decide +kernel) tyX2 tyX2_ok nmX2 hown hK hS f4 (Or.inl rfl) rfl 1 (by decide) (hts (.fieldLink RX2 16 "Radixbench" "text" "LRadixbench$Row;") (by decide +kernel)) (fun _ h9 => h9) rfl hnm rfl (by decide +kernel) rfl rfl (by show 1 < 7; decide) dX2_init_20 (fun H5 locs f5 s5 o5 hS => ?_)
  refine lv_aload_n hx hb dX2_init_23 rfl (lv_at hl 0 rfl) ?_
  refine f_new (ci := 2) (C := RX0) (T := TX0) (N := 2) (fs := [.null, .int 0]) hx hb hts (by decide +kernel) tyX0 tyX0_ok hown (hts (.classLink RX2 13 RX0) (by decide +kernel)) (hts (.instantiable RX0 2) (by decide +kernel)) (hts (.initialized RX0) (by decide +kernel)) hK hS rfl dfX0 (by decide) (by decide) dX2_init_24 (fun sr H6 hqsr fsr zsr hk6 hS => ?_)
  refine lv_dup hx hb dX2_init_27 rfl ?_
  refine jn_I (As := []) (rest := [.ref sr, .ref x0]) C0 hl hK hS hA (fun q h => Or.inr (by have h : q = sr := h; omega)) (zat hZ hS hAb) (c_rInit l g b0 H6 sr fsr (fun q h => by have h : q = sr := h; omega)) gX2_init_X0_init rfl ⟨rfl, rfl⟩ ⟨by decide +kernel, by decide +kernel, by decide +kernel, rfl⟩ (show hd_ok yX0_init 0 from ⟨by decide, by decide, by decide +kernel⟩) ⟨Nat.le_of_ble_eq_true rfl, Nat.le_of_ble_eq_true rfl⟩ rfl (Nat.le_of_ble_eq_true rfl) ⟨by decide, by decide⟩ dX2_init_28 (fun v H7 locs hv hzz hk7 hS => ?_)
  obtain ⟨rfl, sc, hsc, hR7⟩ := hv
  have hs7 := hS.1
  have l7 := hR7.lt
  have z7 := hzz
  have f7 := (f5.kept (hk6 _ (by omega))).kept (hk7 _ (by omega) (fun (z : x0 = sr) => by omega))
  refine f_putF (ci := 3) (C := RX2) (T := TX2) (N := 7) (ty := (.object RX0)) hx hb hts (by decide +kernel) tyX2 tyX2_ok nmX2 hown hK hS f7 (Or.inl rfl) rfl 2 (by decide) (hts (.fieldLink RX2 20 "Radixbench" "spare" "LRadixbench$Row;") (by decide +kernel)) (fun _ h9 => h9) rfl hnm rfl (by decide +kernel) rfl rfl (by show 2 < 7; decide) dX2_init_31 (fun H8 locs f8 s8 o8 hS => ?_)
  have hkk : ∀ q : Nat, q ≠ x0 → q < H4.size → H8[q]? = H4[q]? := fun q h h1 => (o8 q h).trans ((hk7 q (by omega) (fun (z : q = sr) => by omega)).trans ((hk6 q (by omega)).trans (o5 q h)))
  have hlc8 := ((glc.kept (o2 _ (by omega))).kept (hk3 _ (by omega))).kept (hk4 _ (by omega) (fun (z : lc = tr) => by omega))
  have hR4a := hR4.kept (hkk _ (by omega) l4.1) (hkk _ (by omega) l4.2)
  have hR7a := hR7.kept (o8 _ (by omega)) (o8 _ (by omega))
  refine W.widen (k := 5) (n := 152) (by decide) (by decide) ?_
  exact rt_v (mu := (fun q => q = x0)) C0 ⟨rfl, lc, tr, tc, sr, sc, ⟨by omega, by omega, by omega, by omega, by omega⟩, ⟨f8, rfl, rfl, ⟨_, hlc8.kept (hkk _ (by omega) (by omega)), fun i _ => rfl⟩, fun i _ => (by decide : 0 < 65536 ^ 4), by omega⟩, hR4a, ⟨0, _, hR7a⟩, by omega, by omega, by omega, by omega, by omega, by omega, by omega, by omega, by omega, by omega, by omega, by omega⟩ hS rfl dX2_init_34
end M73

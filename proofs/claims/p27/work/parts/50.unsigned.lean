-- THE MODEL's TEXTS: a number written
theorem tB_lt {v r9 j : Nat} (hr9 : 2 ≤ r9 ∧ r9 ≤ 36) : sgn (v / r9 ^ j % r9) < 128 := sgn_lt (Nat.lt_of_lt_of_le (Nat.mod_lt _ (by omega)) hr9.2)
section M50
variable {p : Program} {l : Launch} {e : Env} {s : State} {m : MethodId} {args : Array Value} {below : List Frame} {meth : Method} {c : Code} {H H0 : Heap} {locs : List Loc} {cells slots : Nat} {Q : State → Prop} {A : Nat → Prop} {g : Gx} {b0 : Nat}
set_option maxHeartbeats 4000000 in
set_option maxRecDepth 100000 in
/-- the digits the other way round -/
theorem L_uns2 (C0 : Cx p s m args meth c RX4 cX4_unsigned 7 (some (.object "java/lang/String")) wsX4_unsigned) (hK : KK g s) (hZ : ZW g b0 s s.heap) (hA : ∀ q, s.heap.size ≤ q → A q) (hAb : ∀ q, A q → b0 ≤ q) {a q c3 b3 c4 k r9 v c9 s9 cp : Nat} (hc4 : s.heap.size ≤ c4) (hk64 : k ≤ 64) (h34 : c3 ≠ c4 ∧ b3 ≠ c4) (hr9 : 2 ≤ r9 ∧ r9 ≤ 36) (hcc : c9 + 2 ≤ 11) (hss : s9 + 104 ≤ 320)
    (K : ∀ (b4 : Nat) (ls : Array Slot) (H : Heap) (locs : List Loc), s.heap.size ≤ b4 → SB g c4 b4 (kc k) k (dgT r9 v k) H → va_S A s.heap H locs → lv_has ls 7 [(4, .ref c4), (0, .ref a), (1, .int (nI r9)), (2, .ref q), (3, .ref c3)] → W p l e rmX4_unsigned s m args below meth c H locs (c9 + uc k) (s9 + us k) Q (F0 m 129 ls [])) :
    ∀ (n p9 b4 : Nat) (x : Int32), x = nI p9 - nI 1 → p9 ≤ k → p9 < n → ∀ (ls : Array Slot) (H : Heap) (locs : List Loc), SB g c3 b3 cp k (fun j => sgn (v / r9 ^ j % r9)) H → s.heap.size ≤ b4 → c3 ≠ b4 → b3 ≠ b4 → SB g c4 b4 (kc (k - p9)) (k - p9) (dgT r9 v k) H → va_S A s.heap H locs → lv_has ls 7 [(5, .int x), (4, .ref c4), (0, .ref a), (1, .int (nI r9)), (2, .ref q), (3, .ref c3)] → W p l e rmX4_unsigned s m args below meth c H locs (c9 + uc (k - p9)) (s9 + us (k - p9)) Q (F0 m 106 ls []) := by
  obtain ⟨hx, hb, hr, hml, hown, hts, hlk⟩ := id C0
  intro n
  induction n with
  | zero => intro p9 b4 x _ _ h; exact absurd h (Nat.not_lt_zero _)
  | succ n ih =>
    intro p9 b4 x ex hp9 hn ls H locs hS3 hb4 hcb hbb hS4 hS hl
    refine lv_iload hx hb dX4_unsigned_106 (lv_at hl 0 rfl) ?_
    refine lv_if_lt (tgt := 129) hx hb dX4_unsigned_108 (by decide) (fun h1 => ?_) (fun h1 => ?_)
    · skip
      cases p9 with
      | zero => exact K b4 ls H locs hb4 hS4 hS (lv_sub hl [1, 2, 3, 4, 5] rfl)
      | succ j =>
        rw [ex, pk_sub (Nat.le_add_left 1 j), Nat.add_sub_cancel] at h1
        exact absurd h1 (nI_pos (by omega))
    · skip
      cases p9 with
      | zero => exact absurd (by rw [ex]; decide) h1
      | succ j =>
        obtain rfl : x = nI j := by rw [ex, pk_sub (Nat.le_add_left 1 j), Nat.add_sub_cancel]
        have hs1 := hS.1
        have hu := uc_le (k - (j + 1))
        have hu1 := uc_le (k - j)
        obtain ⟨e1, e2, e3⟩ := kc_s (k := k - (j + 1)) (by omega)
        rw [show k - (j + 1) + 1 = k - j by omega] at e1 e2 e3
        refine lv_aload hx hb dX4_unsigned_111 (lv_at hl 1 rfl) ?_
        refine lv_aload_n hx hb dX4_unsigned_113 rfl (lv_at hl 5 rfl) ?_
        refine lv_iload hx hb dX4_unsigned_114 (lv_at hl 0 rfl) ?_
        refine jp_V (As := [.int (nI j)]) (rest := [.ref c4]) C0 hl hK hS hA (zat hZ hS hAb) (c_bCharAt l g b0 H c3 b3 cp k (fun j => sgn (v / r9 ^ j % r9)) hS3 j (by omega) (tB_lt hr9)) gX4_unsigned_J4_charAt_5068e rfl ⟨rfl, rfl⟩ (hS3.recv hK) ⟨rfl, (show hd_ok yJ4_charAt_5068e 1 from ⟨by decide, by decide, by decide +kernel⟩)⟩ ⟨Nat.le_of_ble_eq_true rfl, Nat.le_of_ble_eq_true rfl⟩ rfl (Nat.le_of_ble_eq_true rfl) ⟨by show c9 + uc (k - (j + 1)) ≤ 11; omega, by show s9 + us (k - (j + 1)) ≤ 320; omega⟩ dX4_unsigned_116 (fun locs hS => ?_)
        obtain ⟨l3, lb3⟩ := hS3.lt
        refine jn_V (As := [.int (nI (sgn (v / r9 ^ j % r9)))]) (rest := []) C0 hl hK hS hA (fun q h => h.elim (fun h => by rw [h]; exact hA _ hc4) (fun h => by rw [h]; exact hA _ hb4)) (zat hZ hS hAb) (c_append l g b0 H c4 b4 (kc (k - (j + 1))) (k - (j + 1)) (dgT r9 v k) hS4 (sgn (v / r9 ^ j % r9)) (tB_lt hr9) (by omega) (fun q h => h.elim (fun h => by rw [h]; exact hAb _ (hA _ hc4)) (fun h => by rw [h]; exact hAb _ (hA _ hb4)))) gX4_unsigned_J4_append_cf468 rfl ⟨rfl, rfl⟩ (hS4.recv hK) ⟨rfl, (show hd_ok yJ4_append_cf468 1 from ⟨by decide, by decide, by decide +kernel⟩)⟩ ⟨Nat.le_of_ble_eq_true rfl, Nat.le_of_ble_eq_true rfl⟩ rfl (Nat.le_of_ble_eq_true rfl) ⟨by show c9 + uc (k - (j + 1)) + celA (k - (j + 1)) (kc (k - (j + 1))) ≤ 11; omega, by show s9 + us (k - (j + 1)) + sloA (k - (j + 1)) (kc (k - (j + 1))) ≤ 320; omega⟩ dX4_unsigned_119 (fun v H2 locs hv hzz hk2 hS => ?_)
        obtain ⟨rfl, b5, hb5, hS5⟩ := hv
        refine lv_pop hx hb dX4_unsigned_122 rfl ?_
        refine lv_iinc (v := nI j - nI 1) (lv' := [(5, .int (nI j - nI 1)), (4, .ref c4), (0, .ref a), (1, .int (nI r9)), (2, .ref q), (3, .ref c3)]) hx hb dX4_unsigned_123 hl (k := 0) rfl ((by rw [show nI j - nI 1 = nI j + -nI 1 from Int32.sub_eq_add_neg _ _]; rfl)) (by decide) rfl (fun ls hl => ?_)
        refine lv_goto (tgt := 106) hx hb dX4_unsigned_126 (by decide) ?_
        rw [e1, show k - (j + 1) + 1 = k - j by omega] at hS5
        refine W.widen (k := c9 + uc (k - j)) (n := s9 + us (k - j)) (by omega) (by omega) ?_
        have hs2 := hS.1
        refine ih j b5 _ rfl (by omega) (by omega) ls H2 locs (hS3.kept (hk2 _ l3 (fun z => z.elim h34.1 hcb)) (hk2 _ lb3 (fun z => z.elim h34.2 hbb))) (by rcases hb5 with e | e <;> omega) (by rcases hb5 with e | e <;> omega) (by rcases hb5 with e | e <;> omega) (hS5.cong (fun i hi => ?_)) hS (lv_sub hl [0, 1, 2, 3, 4, 5] rfl)
        unfold tup
        by_cases ei : i = k - (j + 1)
        · rw [if_pos ei, ei]
          unfold dgT
          rw [show k - 1 - (k - (j + 1)) = j by omega]
        · rw [if_neg ei]
set_option maxHeartbeats 4000000 in
set_option maxRecDepth 100000 in
/-- unsigned(own, radix) -/
theorem c_unsigned (l : Launch) (g : Gx) (b0 : Nat) (H0 : Heap) (a k9 r9 v : Nat) (hk9 : k9 ≤ 4) (hr9 : 2 ≤ r9 ∧ r9 ≤ 36) (hv9 : v < 65536 ^ k9) (ha : va_at g.1 vwCl (a, .inl (g.2 0, k9, .inl (rw16 v))) H0) : Met l yX4_unsigned wsX4_unsigned rmX4_unsigned (va_Pc [.ref a, .int (nI r9)] (hJ g b0 H0)) (nQ H0 (fun _ => False) (fun r H1 => ∃ q b2 k : Nat, r = some (.ref q) ∧ H0.size ≤ q ∧ H0.size ≤ b2 ∧ isW r9 v k ∧ sS g q b2 k (dgT r9 v k) H1)) 11 320 (fun q => (fun _ => False) q ∨ H0.size ≤ q) := by
  refine cx_met (own := RX4) (cc := cX4_unsigned) (maxL := 7) (by decide) rfl rfl (Nat.le_of_ble_eq_true rfl) ?_
  intro p e s m below meth c ls C0 hB0 hnm hl
  obtain ⟨hH, hK, hZ⟩ := hB0
  obtain ⟨hx, hb, hr, hml, hown, hts, hlk⟩ := id C0
  subst hH
  have hS : va_S (fun q => (fun _ => False) q ∨ s.heap.size ≤ q) s.heap s.heap [] := va_S.rf
  have hA : ∀ q : Nat, s.heap.size ≤ q → (fun q => (fun _ => False) q ∨ s.heap.size ≤ q) q := fun q h => Or.inr h
  have h0Z := hZ.1
  have hAb : ∀ q : Nat, (fun q => (fun _ => False) q ∨ s.heap.size ≤ q) q → b0 ≤ q := fun q h => h.elim (fun z => absurd z id) (fun h => Nat.le_trans h0Z h)
  have hl : lv_has ls 7 [(0, .ref a), (1, .int (nI r9))] := hl
  have hnm : s.vm.findClass "[I" = some (g.2 0) := by rw [← intName]; exact (hK.1.2 0 _ rfl).2
  refine lv_aload_n hx hb dX4_unsigned_0 rfl (lv_at hl 0 rfl) ?_
  refine f_clone (ad := "[I") hx hb (by rw [hml]; exact hl.1.symm) hown (hts (.methodLink RX4 81 ⟨"[I", "clone", "()Ljava/lang/Object;"⟩) (by decide +kernel)) (hts (.sameMethod "[I" "java/lang/Object" "clone" "()Ljava/lang/Object;") (by decide +kernel)) (hts (.native ⟨"java/lang/Object", "clone", "()Ljava/lang/Object;"⟩) (by decide +kernel)) (hts (.instanceMethod ⟨"java/lang/Object", "clone", "()Ljava/lang/Object;"⟩) (by decide +kernel)) (hts (.selects "[I" ⟨"[I", "clone", "()Ljava/lang/Object;"⟩ ⟨"java/lang/Object", "clone", "()Ljava/lang/Object;"⟩) (by decide +kernel)) hZ.2.2.2.2.2.1.2.1 hK hS 0 ha rfl hnm clone_fiti (Nat.le_of_ble_eq_true rfl) (Nat.le_of_ble_eq_true rfl) (by show 0 + 1 ≤ 11; omega) (by show 0 + k9 ≤ 320; omega) dX4_unsigned_1 (fun q H1 hq g1 z1 hk1 hS => ?_)
  refine va_castA (nm := "[I") hx hb hown (hts (.classLink RX4 82 "[I") (by decide +kernel)) (p1 g1) 0 rfl hnm dX4_unsigned_4 ?_
  refine W.widen (k := 1) (n := 4) (by show 0 + 1 ≤ 1; omega) (by show 0 + k9 ≤ 4; omega) ?_
  refine lv_astore_n (lv' := [(2, .ref q), (0, .ref a), (1, .int (nI r9))]) hx hb dX4_unsigned_7 rfl hl (by decide) rfl (fun ls hl => ?_)
  refine f_new (ci := 1) (C := RJ4) (T := TJ4) (N := 4) (fs := [.null, .int 0, .int 0, .int 0]) hx hb hts (by decide +kernel) tyJ4 tyJ4_ok hown (hts (.classLink RX4 86 RJ4) (by decide +kernel)) (hts (.instantiable RJ4 4) (by decide +kernel)) (hts (.initialized RJ4) (by decide +kernel)) hK hS rfl dfJ4 (by decide) (by decide) dX4_unsigned_8 (fun c3 H2 hqc3 fc3 zc3 hk2 hS => ?_)
  refine lv_dup hx hb dX4_unsigned_11 rfl ?_
  refine jn_I (As := []) (rest := [.ref c3]) C0 hl hK hS hA (fun q h => Or.inr (by have h : q = c3 := h; omega)) (zat hZ hS hAb) (c_bInit l g b0 H2 c3 fc3 (fun q h => by have h : q = c3 := h; omega)) gX4_unsigned_J4_init_da8c8 rfl ⟨rfl, rfl⟩ ⟨by decide +kernel, by decide +kernel, by decide +kernel, rfl⟩ (show hd_ok yJ4_init_da8c8 0 from ⟨by decide, by decide, by decide +kernel⟩) ⟨Nat.le_of_ble_eq_true rfl, Nat.le_of_ble_eq_true rfl⟩ rfl (Nat.le_of_ble_eq_true rfl) ⟨by decide, by decide⟩ dX4_unsigned_12 (fun v H3 locs hv hzz hk3 hS => ?_)
  obtain ⟨rfl, b3, hb3, hS3⟩ := hv
  refine lv_astore_n (lv' := [(3, .ref c3), (2, .ref q), (0, .ref a), (1, .int (nI r9))]) hx hb dX4_unsigned_15 rfl hl (by decide) rfl (fun ls hl => ?_)
  have hs3 := hS.1
  have g3 := (g1.kept (hk2 _ (by show q < H1.size; omega))).kept (hk3 _ (by show q < H2.size; omega) (fun (z : q = c3) => by omega))
  refine W.widen (k := 3 + uc 0) (n := 24 + us 0) (by decide) (by decide) ?_
  refine L_uns C0 hK hZ hA hAb (c9 := 3) (s9 := 24) (by omega) (by omega) (by omega) hk9 hr9 hv9 (by decide) (by decide) (fun k b3 hW ls H locs hb3 hS3 hS hl => ?_) 66 0 b3 (rw16 v) (by decide) (fun j h1 h2 => by omega) (fun j _ => by rw [Nat.pow_zero, Nat.div_one]) (by decide) ls H3 _ g3 (by omega) (by omega) (hS3.cong (fun j hj => absurd hj (Nat.not_lt_zero _))) hS (lv_sub hl [2, 3, 1, 0] rfl)
  have hu := uc_le k
  refine W.widen (k := 5) (n := 128) (by omega) (by omega) ?_
  obtain ⟨l3, lb3⟩ := hS3.lt
  have hs4 := hS.1
  refine f_new (ci := 1) (C := RJ4) (T := TJ4) (N := 4) (fs := [.null, .int 0, .int 0, .int 0]) hx hb hts (by decide +kernel) tyJ4 tyJ4_ok hown (hts (.classLink RX4 86 RJ4) (by decide +kernel)) (hts (.instantiable RJ4 4) (by decide +kernel)) (hts (.initialized RJ4) (by decide +kernel)) hK hS rfl dfJ4 (by decide) (by decide) dX4_unsigned_89 (fun c4 H5 hqc4 fc4 zc4 hk5 hS => ?_)
  refine lv_dup hx hb dX4_unsigned_92 rfl ?_
  refine jn_I (As := []) (rest := [.ref c4]) C0 hl hK hS hA (fun q h => Or.inr (by have h : q = c4 := h; omega)) (zat hZ hS hAb) (c_bInit l g b0 H5 c4 fc4 (fun q h => by have h : q = c4 := h; omega)) gX4_unsigned_J4_init_da8c8 rfl ⟨rfl, rfl⟩ ⟨by decide +kernel, by decide +kernel, by decide +kernel, rfl⟩ (show hd_ok yJ4_init_da8c8 0 from ⟨by decide, by decide, by decide +kernel⟩) ⟨Nat.le_of_ble_eq_true rfl, Nat.le_of_ble_eq_true rfl⟩ rfl (Nat.le_of_ble_eq_true rfl) ⟨by decide, by decide⟩ dX4_unsigned_93 (fun v H6 locs hv hzz hk6 hS => ?_)
  obtain ⟨rfl, b4, hb4, hS4⟩ := hv
  have hS36 := (hS3.kept (hk5 _ l3) (hk5 _ lb3)).kept (hk6 _ (by omega) (fun (z : c3 = c4) => by omega)) (hk6 _ (by omega) (fun (z : b3 = c4) => by omega))
  refine lv_astore (lv' := [(4, .ref c4), (0, .ref a), (1, .int (nI r9)), (2, .ref q), (3, .ref c3)]) hx hb dX4_unsigned_96 hl (by decide) rfl (fun ls hl => ?_)
  refine lv_aload_n hx hb dX4_unsigned_98 rfl (lv_at hl 4 rfl) ?_
  refine jp_V (As := []) (rest := []) C0 hl hK hS hA (zat hZ hS hAb) (c_bLen l g b0 H6 c3 b3 (kc k) k (fun j => sgn (v / r9 ^ j % r9)) hS36) gX4_unsigned_J4_length_8abf5 rfl ⟨rfl, rfl⟩ (hS36.recv hK) ⟨rfl, (show hd_ok yJ4_length_8abf5 0 from ⟨by decide, by decide, by decide +kernel⟩)⟩ ⟨Nat.le_of_ble_eq_true rfl, Nat.le_of_ble_eq_true rfl⟩ rfl (Nat.le_of_ble_eq_true rfl) ⟨by decide, by decide⟩ dX4_unsigned_99 (fun locs hS => ?_)
  refine lv_iconst (v := nI 1) hx hb dX4_unsigned_102 (by decide) ?_
  refine lv_isub hx hb dX4_unsigned_103 ?_
  refine tp_i (y := nI k - nI 1) (rfl) ?_
  refine lv_istore (lv' := [(5, .int (nI k - nI 1)), (4, .ref c4), (0, .ref a), (1, .int (nI r9)), (2, .ref q), (3, .ref c3)]) hx hb dX4_unsigned_104 hl (by decide) rfl (fun ls hl => ?_)
  have hs5 := hS.1
  refine W.widen (k := 7 + uc (k - k)) (n := 148 + us (k - k)) (by omega) (by omega) ?_
  refine L_uns2 C0 hK hZ hA hAb (c9 := 7) (s9 := 148) (by omega) hW.2.1 ⟨by omega, by omega⟩ hr9 (by decide) (by decide) (fun b5 ls H locs hb5 hS5 hS hl => ?_) (k + 1) k b4 _ rfl (Nat.le_refl _) (by omega) ls H6 _ hS36 (by omega) (by omega) (by omega) (by rw [Nat.sub_self]; exact hS4.cong (fun j hj => absurd hj (Nat.not_lt_zero _))) hS (lv_sub hl [0, 1, 2, 3, 4, 5] rfl)
  have hu2 := uc_le k
  have hk64 := hW.2.1
  refine W.widen (k := 9) (n := 252) (by omega) (by omega) ?_
  have hs6 := hS.1
  refine lv_aload hx hb dX4_unsigned_129 (lv_at hl 0 rfl) ?_
  refine jn_V (As := []) (rest := []) C0 hl hK hS hA (fun q h => absurd h id) (zat hZ hS hAb) (c_toStr l g b0 H c4 b5 (kc k) k (dgT r9 v k) hS5) gX4_unsigned_J4_toString_0e30d rfl ⟨rfl, rfl⟩ (hS5.recv hK) ⟨rfl, (show hd_ok yJ4_toString_0e30d 0 from ⟨by decide, by decide, by decide +kernel⟩)⟩ ⟨Nat.le_of_ble_eq_true rfl, Nat.le_of_ble_eq_true rfl⟩ rfl (Nat.le_of_ble_eq_true rfl) ⟨by show 9 + 2 ≤ 11; omega, by show 252 + (4 + k) ≤ 320; omega⟩ dX4_unsigned_131 (fun v H7 locs hv hzz hk7 hS => ?_)
  obtain ⟨q7, b7, rfl, hq7, hb7, hs7⟩ := hv
  refine W.widen (k := 11) (n := 320) (by omega) (by omega) ?_
  exact rt_a (mu := (fun _ => False)) C0 (Or.inl ⟨_, rfl⟩) ⟨q7, b7, k, rfl, by omega, by omega, hW, hs7⟩ hS rfl dX4_unsigned_134
end M50

-- isBack: that it ends
/-- the sum of the first j parts -/
def dsum (x : Nat) : Nat → Nat
  | 0 => 0
  | k + 1 => dsum x k + x / 65536 ^ k % 65536
theorem dsum_le (x : Nat) : ∀ j, dsum x j ≤ 65535 * j
  | 0 => Nat.le_refl 0
  | k + 1 => by
    have h := dsum_le x k
    have h2 := rw16_lt x k
    show dsum x k + x / 65536 ^ k % 65536 ≤ 65535 * (k + 1)
    omega
theorem dsum_0 : ∀ j, dsum 0 j = 0
  | 0 => rfl
  | k + 1 => by
    show dsum 0 k + 0 / 65536 ^ k % 65536 = 0
    rw [dsum_0 k, Nat.zero_div]
theorem two_d {A : Nat → Prop} {a b : Nat} {x y : va_E} (hab : a ≠ b) (ha : A a) (hb : A b) : va_D A [(a, x), (b, y)] := by
  refine ⟨fun i j u v hu hv e => ?_, fun k u hu => ?_⟩
  · match i, j, hu, hv with
    | 0, 0, _, _ => rfl
    | 1, 1, _, _ => rfl
    | 0, 1, hu, hv => cases hu; cases hv; exact absurd e hab
    | 1, 0, hu, hv => cases hu; cases hv; exact absurd e.symm hab
    | i + 2, _, hu, _ => simp at hu
    | 0, j + 2, _, hv => simp at hv
    | 1, j + 2, _, hv => simp at hv
  · match k, hu with
    | 0, hu => cases hu; exact ha
    | 1, hu => cases hu; exact hb
    | k + 2, hu => simp at hu
/-- the count of digits stays under 64 -/
theorem dig_step {x i r : Nat} (h : x * 2 ^ i < 2 ^ 64) (hr : 2 ≤ r) : x / r * 2 ^ (i + 1) < 2 ^ 64 := by
  refine Nat.lt_of_le_of_lt ?_ h
  have h1 : x / r * r ≤ x := Nat.div_mul_le_self x r
  have h2 : x / r * 2 ≤ x / r * r := Nat.mul_le_mul_left _ hr
  rw [Nat.pow_succ, Nat.mul_comm (2 ^ i) 2, ← Nat.mul_assoc]
  exact Nat.mul_le_mul_right _ (Nat.le_trans h2 h1)
theorem dig_lt {x i : Nat} (h : x * 2 ^ i < 2 ^ 64) (hx : x ≠ 0) : i < 64 := by
  rcases Nat.lt_or_ge i 64 with q | q
  · exact q
  · have h1 : 2 ^ 64 ≤ 2 ^ i := Nat.pow_le_pow_right (by decide) q
    have h2 : 1 * 2 ^ i ≤ x * 2 ^ i := Nat.mul_le_mul_right _ (Nat.pos_of_ne_zero hx)
    omega
section M21
variable {p : Program} {l : Launch} {e : Env} {s : State} {m : MethodId} {args : Array Value} {below : List Frame} {meth : Method} {c : Code} {H H0 : Heap} {locs : List Loc} {cells slots : Nat} {Q : State → Prop} {A : Nat → Prop} {g : Gx}
abbrev rmX4_isBack : Room := { frames := 1, cells := 0, slots := 0, locals := 26 }
set_option maxHeartbeats 4000000 in
set_option maxRecDepth 100000 in
theorem L_back1 (C0 : Cx p s m args meth c RX4 cX4_isBack 11 (some .boolean) wsX4_isBack) (hK : KK g s) {z0 a lf dg k9 r9 v : Nat} {fs : List Value} (hz : va_at g.1 vwCl (z0, .inr (5, fs)) H0) (hdg : fs[7]? = some (.ref dg)) (hlf : fs[8]? = some (.ref lf)) (hne : ¬ z0 = lf) (hzm : ¬ (z0 = lf ∨ z0 = dg)) (hld : lf ≠ dg) (ha : va_at g.1 vwCl (a, .inl (g.2 0, 4, .inl (rw16 v))) H0) (hne2 : ¬ (a = lf ∨ a = dg)) (hk9 : k9 = 2 ∨ k9 = 4) (hr9 : 2 ≤ r9 ∧ r9 ≤ 36) {x4 x5 x6 : Int32} {y : Nat} {f d : Nat → Int32} (hf : lowR f k9 y) (K : ∀ (ls : Array Slot) (H : Heap) (locs : List Loc), va_P g.1 vwCl [(lf, .inl (g.2 0, 4, .inl f)), (dg, .inl (g.2 0, 64, .inl d))] H → va_D (fun q => (q = lf ∨ q = dg) ∨ H0.size ≤ q) [(lf, .inl (g.2 0, 4, .inl f)), (dg, .inl (g.2 0, 64, .inl d))] → va_S (fun q => (q = lf ∨ q = dg) ∨ H0.size ≤ q) H0 H locs → lv_has ls 11 [(8, .int (nI k9)), (7, .int (nI (dsum y k9))), (6, .int x6), (5, .int x5), (0, .ref z0), (1, .ref a), (2, .int (nI k9)), (3, .int (nI r9)), (4, .int x4)] → W p l e rmX4_isBack s m args below meth c H locs 0 0 Q (F0 m 87 ls [])) : ∀ (n : Nat) (j : Nat), j ≤ k9 → k9 - j < n → ∀ (ls : Array Slot) (H : Heap) (locs : List Loc), va_P g.1 vwCl [(lf, .inl (g.2 0, 4, .inl f)), (dg, .inl (g.2 0, 64, .inl d))] H → va_D (fun q => (q = lf ∨ q = dg) ∨ H0.size ≤ q) [(lf, .inl (g.2 0, 4, .inl f)), (dg, .inl (g.2 0, 64, .inl d))] → va_S (fun q => (q = lf ∨ q = dg) ∨ H0.size ≤ q) H0 H locs → lv_has ls 11 [(8, .int (nI j)), (7, .int (nI (dsum y j))), (6, .int x6), (5, .int x5), (0, .ref z0), (1, .ref a), (2, .int (nI k9)), (3, .int (nI r9)), (4, .int x4)] → W p l e rmX4_isBack s m args below meth c H locs 0 0 Q (F0 m 63 ls []) := by
  obtain ⟨hx, hb, hr, hml, hown, hts, hlk⟩ := id C0
  have hA : ∀ q : Nat, H0.size ≤ q → (fun q => (q = lf ∨ q = dg) ∨ H0.size ≤ q) q := fun _ h => Or.inr h
  intro n
  induction n with
  | zero => intro j _ h; exact absurd h (Nat.not_lt_zero _)
  | succ n ih =>
    intro j hj hn ls H locs hP hD hS hl
    refine lv_iload hx hb dX4_isBack_63 (lv_at hl 0 rfl) ?_
    refine lv_iload_n hx hb dX4_isBack_65 rfl (lv_at hl 6 rfl) ?_
    refine lv_icmp_ge (tgt := 87) hx hb dX4_isBack_66 (by decide) (fun h1 => ?_) (fun h1 => ?_)
    · skip
      have hge : k9 ≤ j := by
        rcases Nat.lt_or_ge j k9 with h | h
        · exact absurd h1 (nI_ge h (by omega))
        · exact h
      obtain rfl : j = k9 := by omega
      exact K ls H locs hP hD hS hl
    · skip
      have hlt : j < k9 := by
        rcases Nat.lt_or_ge j k9 with h | h
        · exact h
        · exact absurd (nI_le h (by omega)) h1
      refine lv_iload hx hb dX4_isBack_69 (lv_at hl 1 rfl) ?_
      refine lv_aload_n hx hb dX4_isBack_71 rfl (lv_at hl 4 rfl) ?_
      refine r_get (ci := 5) (C := RX4) (T := TX4) (N := 10) (v := .ref lf) hx hb hts (by decide +kernel) hown hK hS hz (nA' hz hzm) rfl 8 (by decide) (hts (.fieldLink RX4 24 "RadixbenchModel" "left" "[I") (by decide +kernel)) (fun _ h9 => h9) hlf dX4_isBack_72 ?_
      refine lv_iload hx hb dX4_isBack_75 (lv_at hl 0 rfl) ?_
      refine w_iald (j := j) hx hb hK hP 0 rfl (by omega) (by omega) dX4_isBack_77 ?_
      refine tp_i (y := nI (y / 65536 ^ j % 65536)) (hf.2 j hlt) ?_
      refine lv_iadd hx hb dX4_isBack_78 ?_
      refine tp_i (y := nI (dsum y (j + 1))) (nI_add _ _) ?_
      refine lv_istore (lv' := [(7, .int (nI (dsum y (j + 1)))), (8, .int (nI j)), (6, .int x6), (5, .int x5), (0, .ref z0), (1, .ref a), (2, .int (nI k9)), (3, .int (nI r9)), (4, .int x4)]) hx hb dX4_isBack_79 hl (by decide) rfl (fun ls hl => ?_)
      refine lv_iinc (v := nI (j + 1)) (lv' := [(8, .int (nI (j + 1))), (7, .int (nI (dsum y (j + 1)))), (6, .int x6), (5, .int x5), (0, .ref z0), (1, .ref a), (2, .int (nI k9)), (3, .int (nI r9)), (4, .int x4)]) hx hb dX4_isBack_81 hl (k := 1) rfl (nI_1 _) (by decide) rfl (fun ls hl => ?_)
      refine lv_goto (tgt := 63) hx hb dX4_isBack_84 (by decide) ?_
      exact ih (j + 1) hlt (by omega) ls H locs hP hD hS (lv_sub hl [0, 1, 2, 3, 4, 5, 6, 7, 8] rfl)
set_option maxHeartbeats 4000000 in
set_option maxRecDepth 100000 in
theorem L_back2 (C0 : Cx p s m args meth c RX4 cX4_isBack 11 (some .boolean) wsX4_isBack) (hK : KK g s) {z0 a lf dg k9 r9 v : Nat} {fs : List Value} (hz : va_at g.1 vwCl (z0, .inr (5, fs)) H0) (hdg : fs[7]? = some (.ref dg)) (hlf : fs[8]? = some (.ref lf)) (hne : ¬ z0 = lf) (hzm : ¬ (z0 = lf ∨ z0 = dg)) (hld : lf ≠ dg) (ha : va_at g.1 vwCl (a, .inl (g.2 0, 4, .inl (rw16 v))) H0) (hne2 : ¬ (a = lf ∨ a = dg)) (hk9 : k9 = 2 ∨ k9 = 4) (hr9 : 2 ≤ r9 ∧ r9 ≤ 36) {x4 x5 : Int32} (K : ∀ (mo : Int32) (i : Nat) (hi : i ≤ 64) (f d : Nat → Int32) (ls : Array Slot) (H : Heap) (locs : List Loc), va_P g.1 vwCl [(lf, .inl (g.2 0, 4, .inl f)), (dg, .inl (g.2 0, 64, .inl d))] H → va_D (fun q => (q = lf ∨ q = dg) ∨ H0.size ≤ q) [(lf, .inl (g.2 0, 4, .inl f)), (dg, .inl (g.2 0, 64, .inl d))] → va_S (fun q => (q = lf ∨ q = dg) ∨ H0.size ≤ q) H0 H locs → lv_has ls 11 [(7, .int mo), (6, .int (nI i)), (5, .int x5), (0, .ref z0), (1, .ref a), (2, .int (nI k9)), (3, .int (nI r9)), (4, .int x4)] → W p l e rmX4_isBack s m args below meth c H locs 0 0 Q (F0 m 90 ls [])) : ∀ (n : Nat) (i y : Nat) (mo : Int32) (f d : Nat → Int32), i ≤ 64 → y * 2 ^ i < 2 ^ 64 → (0 < mo → i = 0 ∨ y ≠ 0) → lowR f k9 y → 64 - i < n → ∀ (ls : Array Slot) (H : Heap) (locs : List Loc), va_P g.1 vwCl [(lf, .inl (g.2 0, 4, .inl f)), (dg, .inl (g.2 0, 64, .inl d))] H → va_D (fun q => (q = lf ∨ q = dg) ∨ H0.size ≤ q) [(lf, .inl (g.2 0, 4, .inl f)), (dg, .inl (g.2 0, 64, .inl d))] → va_S (fun q => (q = lf ∨ q = dg) ∨ H0.size ≤ q) H0 H locs → lv_has ls 11 [(7, .int mo), (6, .int (nI i)), (5, .int x5), (0, .ref z0), (1, .ref a), (2, .int (nI k9)), (3, .int (nI r9)), (4, .int x4)] → W p l e rmX4_isBack s m args below meth c H locs 0 0 Q (F0 m 36 ls []) := by
  obtain ⟨hx, hb, hr, hml, hown, hts, hlk⟩ := id C0
  have hA : ∀ q : Nat, H0.size ≤ q → (fun q => (q = lf ∨ q = dg) ∨ H0.size ≤ q) q := fun _ h => Or.inr h
  intro n
  induction n with
  | zero => intro i y mo f d _ _ _ _ h; exact absurd h (Nat.not_lt_zero _)
  | succ n ih =>
    intro i y mo f d hi hy hmo hf hn ls H locs hP hD hS hl
    refine lv_iload hx hb dX4_isBack_36 (lv_at hl 0 rfl) ?_
    refine lv_if_le (tgt := 90) hx hb dX4_isBack_38 (by decide) (fun h1 => ?_) (fun h1 => ?_)
    · skip
      exact K mo i hi f d ls H locs hP hD hS hl
    · skip
      have hi64 : i < 64 := by
        rcases hmo (Int32.not_le.mp h1) with z | z
        · omega
        · exact dig_lt hy z
      refine lv_aload_n hx hb dX4_isBack_41 rfl (lv_at hl 3 rfl) ?_
      refine r_get (ci := 5) (C := RX4) (T := TX4) (N := 10) (v := .ref dg) hx hb hts (by decide +kernel) hown hK hS hz (nA' hz hzm) rfl 7 (by decide) (hts (.fieldLink RX4 20 "RadixbenchModel" "digits" "[I") (by decide +kernel)) (fun _ h9 => h9) hdg dX4_isBack_42 ?_
      refine lv_iload hx hb dX4_isBack_45 (lv_at hl 1 rfl) ?_
      refine lv_aload_n hx hb dX4_isBack_47 rfl (lv_at hl 3 rfl) ?_
      refine lv_iload_n hx hb dX4_isBack_48 rfl (lv_at hl 5 rfl) ?_
      refine lv_iload_n hx hb dX4_isBack_49 rfl (lv_at hl 6 rfl) ?_
      refine cn_V (As := [.int (nI k9), .int (nI r9)]) (rest := [.int (nI i), .ref dg]) C0 hl hK hS hA (fun z h => Or.inl (Or.inl h)) (c_mdivide l g H z0 lf k9 r9 y f fs (hz.kp hS (nA' hz hzm)) hlf hne (hP 0 _ rfl) (by omega) hr9 hf) gX4_isBack_X4_divide_ rfl ⟨rfl, rfl⟩ ((va_recv hK.1 (p1 (hz.kp hS (nA' hz hzm))) (ci := 5) (q0 := 0) rfl rfl)) ⟨rfl, (show hd_ok yX4_divide_ 2 from ⟨by decide, by decide, by decide +kernel⟩)⟩ ⟨Nat.le_of_ble_eq_true rfl, Nat.le_of_ble_eq_true rfl⟩ rfl (Nat.le_of_ble_eq_true rfl) ⟨Nat.zero_le _, Nat.zero_le _⟩ dX4_isBack_50 (fun r1 H1 locs hv hzz hk1 hS => ?_)
      obtain ⟨f1, ⟨rfl, hf1⟩, hl1⟩ := hv
      have hP : va_P g.1 vwCl [(lf, .inl (g.2 0, 4, .inl f1)), (dg, .inl (g.2 0, 64, .inl d))] H1 := pcs hl1 (p1 ((hP 1 _ rfl).kept (hk1 _ (hP 1 _ rfl).lt (fun z => hld z.symm))))
      have hD : va_D (fun q => (q = lf ∨ q = dg) ∨ H0.size ≤ q) [(lf, .inl (g.2 0, 4, .inl f1)), (dg, .inl (g.2 0, 64, .inl d))] := two_d hld (Or.inl (Or.inl rfl)) (Or.inl (Or.inr rfl))
      refine w_iast (j := i) hx hb hK hP hD hS 1 rfl hi64 (by omega) dX4_isBack_53 (fun H locs hP hD hS => ?_)
      have hP : va_P g.1 vwCl [(lf, .inl (g.2 0, 4, .inl f1)), (dg, .inl (g.2 0, 64, .inl (upd d i (nI (y % r9)))))] H := hP
      have hD : va_D _ [(lf, .inl (g.2 0, 4, .inl f1)), (dg, .inl (g.2 0, 64, .inl (upd d i (nI (y % r9)))))] := hD
      refine lv_iinc (v := nI (i + 1)) (lv' := [(6, .int (nI (i + 1))), (7, .int mo), (5, .int x5), (0, .ref z0), (1, .ref a), (2, .int (nI k9)), (3, .int (nI r9)), (4, .int x4)]) hx hb dX4_isBack_54 hl (k := 1) rfl (nI_1 _) (by decide) rfl (fun ls hl => ?_)
      refine lv_iconst (v := nI 0) hx hb dX4_isBack_57 (by decide) ?_
      refine lv_istore (lv' := [(7, .int (nI 0)), (6, .int (nI (i + 1))), (5, .int x5), (0, .ref z0), (1, .ref a), (2, .int (nI k9)), (3, .int (nI r9)), (4, .int x4)]) hx hb dX4_isBack_58 hl (by decide) rfl (fun ls hl => ?_)
      refine lv_iconst (v := nI 0) hx hb dX4_isBack_60 (by decide) ?_
      refine lv_istore (lv' := [(8, .int (nI 0)), (7, .int (nI 0)), (6, .int (nI (i + 1))), (5, .int x5), (0, .ref z0), (1, .ref a), (2, .int (nI k9)), (3, .int (nI r9)), (4, .int x4)]) hx hb dX4_isBack_61 hl (by decide) rfl (fun ls hl => ?_)
      refine L_back1 (y := y / r9) (x4 := x4) (x5 := x5) C0 hK hz hdg hlf hne hzm hld ha hne2 hk9 hr9 hf1 (fun ls H locs hP hD hS hl => ?_) (k9 + 1) 0 (Nat.zero_le _) (by omega) ls H locs hP hD hS (lv_sub hl [0, 1, 2, 3, 4, 5, 6, 7, 8] rfl)
      refine lv_goto (tgt := 36) hx hb dX4_isBack_87 (by decide) ?_
      have hds := dsum_le (y / r9) k9
      refine ih (i + 1) (y / r9) _ f1 _ hi64 (dig_step hy hr9.1) (fun hp => ?_) hf1 (by omega) ls H locs hP hD hS (lv_sub hl [1, 2, 3, 4, 5, 6, 7, 8] rfl)
      refine Or.inr (fun z => ?_)
      rw [z, dsum_0] at hp
      exact absurd hp (by decide)
set_option maxHeartbeats 4000000 in
set_option maxRecDepth 100000 in
theorem L_back3 (C0 : Cx p s m args meth c RX4 cX4_isBack 11 (some .boolean) wsX4_isBack) (hK : KK g s) {z0 a lf dg k9 r9 v : Nat} {fs : List Value} (hz : va_at g.1 vwCl (z0, .inr (5, fs)) H0) (hdg : fs[7]? = some (.ref dg)) (hlf : fs[8]? = some (.ref lf)) (hne : ¬ z0 = lf) (hzm : ¬ (z0 = lf ∨ z0 = dg)) (hld : lf ≠ dg) (ha : va_at g.1 vwCl (a, .inl (g.2 0, 4, .inl (rw16 v))) H0) (hne2 : ¬ (a = lf ∨ a = dg)) (hk9 : k9 = 2 ∨ k9 = 4) (hr9 : 2 ≤ r9 ∧ r9 ≤ 36) {x4 x5 x6 : Int32} {d : Nat → Int32} (K : ∀ (x ov : Int32) (f : Nat → Int32) (ls : Array Slot) (H : Heap) (locs : List Loc), va_P g.1 vwCl [(lf, .inl (g.2 0, 4, .inl f)), (dg, .inl (g.2 0, 64, .inl d))] H → va_D (fun q => (q = lf ∨ q = dg) ∨ H0.size ≤ q) [(lf, .inl (g.2 0, 4, .inl f)), (dg, .inl (g.2 0, 64, .inl d))] → va_S (fun q => (q = lf ∨ q = dg) ∨ H0.size ≤ q) H0 H locs → lv_has ls 11 [(8, .int x), (7, .int ov), (6, .int x6), (5, .int x5), (0, .ref z0), (1, .ref a), (2, .int (nI k9)), (3, .int (nI r9)), (4, .int x4)] → W p l e rmX4_isBack s m args below meth c H locs 0 0 Q (F0 m 128 ls [])) : ∀ (n : Nat) (i : Nat) (x ov : Int32) (f : Nat → Int32), x = nI i - nI 1 → i ≤ 64 → i < n → ∀ (ls : Array Slot) (H : Heap) (locs : List Loc), va_P g.1 vwCl [(lf, .inl (g.2 0, 4, .inl f)), (dg, .inl (g.2 0, 64, .inl d))] H → va_D (fun q => (q = lf ∨ q = dg) ∨ H0.size ≤ q) [(lf, .inl (g.2 0, 4, .inl f)), (dg, .inl (g.2 0, 64, .inl d))] → va_S (fun q => (q = lf ∨ q = dg) ∨ H0.size ≤ q) H0 H locs → lv_has ls 11 [(8, .int x), (7, .int ov), (6, .int x6), (5, .int x5), (0, .ref z0), (1, .ref a), (2, .int (nI k9)), (3, .int (nI r9)), (4, .int x4)] → W p l e rmX4_isBack s m args below meth c H locs 0 0 Q (F0 m 99 ls []) := by
  obtain ⟨hx, hb, hr, hml, hown, hts, hlk⟩ := id C0
  have hA : ∀ q : Nat, H0.size ≤ q → (fun q => (q = lf ∨ q = dg) ∨ H0.size ≤ q) q := fun _ h => Or.inr h
  intro n
  induction n with
  | zero => intro i x ov f _ _ h; exact absurd h (Nat.not_lt_zero _)
  | succ n ih =>
    intro i x ov f ex hi hn ls H locs hP hD hS hl
    refine lv_iload hx hb dX4_isBack_99 (lv_at hl 0 rfl) ?_
    refine lv_if_lt (tgt := 128) hx hb dX4_isBack_101 (by decide) (fun h1 => ?_) (fun h1 => ?_)
    · skip
      exact K x ov f ls H locs hP hD hS hl
    · skip
      cases i with
      | zero => exact absurd (by rw [ex]; decide) h1
      | succ j =>
        obtain rfl : x = nI j := by rw [ex, pk_sub (Nat.le_add_left 1 j), Nat.add_sub_cancel]
        refine lv_iload hx hb dX4_isBack_104 (lv_at hl 1 rfl) ?_
        refine lv_aload_n hx hb dX4_isBack_106 rfl (lv_at hl 4 rfl) ?_
        refine lv_iload_n hx hb dX4_isBack_107 rfl (lv_at hl 6 rfl) ?_
        refine lv_iload_n hx hb dX4_isBack_108 rfl (lv_at hl 7 rfl) ?_
        refine lv_aload_n hx hb dX4_isBack_109 rfl (lv_at hl 4 rfl) ?_
        refine r_get (ci := 5) (C := RX4) (T := TX4) (N := 10) (v := .ref dg) hx hb hts (by decide +kernel) hown hK hS hz (nA' hz hzm) rfl 7 (by decide) (hts (.fieldLink RX4 20 "RadixbenchModel" "digits" "[I") (by decide +kernel)) (fun _ h9 => h9) hdg dX4_isBack_110 ?_
        refine lv_iload hx hb dX4_isBack_113 (lv_at hl 0 rfl) ?_
        refine w_iald (j := j) hx hb hK hP 1 rfl (by omega) (by omega) dX4_isBack_115 ?_
        refine cn_V (As := [.int (nI k9), .int (nI r9), .int (d j)]) (rest := [.int ov]) C0 hl hK hS hA (fun z h => Or.inl (Or.inl h)) (c_times l g H z0 lf k9 r9 (d j) f fs (hz.kp hS (nA' hz hzm)) hlf hne (hP 0 _ rfl) (by omega)) gX4_isBack_X4_times rfl ⟨rfl, rfl⟩ ((va_recv hK.1 (p1 (hz.kp hS (nA' hz hzm))) (ci := 5) (q0 := 0) rfl rfl)) ⟨rfl, (show hd_ok yX4_times 3 from ⟨by decide, by decide, by decide +kernel⟩)⟩ ⟨Nat.le_of_ble_eq_true rfl, Nat.le_of_ble_eq_true rfl⟩ rfl (Nat.le_of_ble_eq_true rfl) ⟨Nat.zero_le _, Nat.zero_le _⟩ dX4_isBack_116 (fun r1 H1 locs hv hzz hk1 hS => ?_)
        obtain ⟨f1, ⟨y1, rfl⟩, hl1⟩ := hv
        have hP : va_P g.1 vwCl [(lf, .inl (g.2 0, 4, .inl f1)), (dg, .inl (g.2 0, 64, .inl d))] H1 := pcs hl1 (p1 ((hP 1 _ rfl).kept (hk1 _ (hP 1 _ rfl).lt (fun z => hld z.symm))))
        have hD : va_D (fun q => (q = lf ∨ q = dg) ∨ H0.size ≤ q) [(lf, .inl (g.2 0, 4, .inl f1)), (dg, .inl (g.2 0, 64, .inl d))] := two_d hld (Or.inl (Or.inl rfl)) (Or.inl (Or.inr rfl))
        refine lv_iadd hx hb dX4_isBack_119 ?_
        refine lv_istore (lv' := [(7, .int (ov + y1)), (8, .int (nI j)), (6, .int x6), (5, .int x5), (0, .ref z0), (1, .ref a), (2, .int (nI k9)), (3, .int (nI r9)), (4, .int x4)]) hx hb dX4_isBack_120 hl (by decide) rfl (fun ls hl => ?_)
        refine lv_iinc (v := nI j - nI 1) (lv' := [(8, .int (nI j - nI 1)), (7, .int (ov + y1)), (6, .int x6), (5, .int x5), (0, .ref z0), (1, .ref a), (2, .int (nI k9)), (3, .int (nI r9)), (4, .int x4)]) hx hb dX4_isBack_122 hl (k := 1) rfl ((by rw [show nI j - nI 1 = nI j + -nI 1 from Int32.sub_eq_add_neg _ _]; rfl)) (by decide) rfl (fun ls hl => ?_)
        refine lv_goto (tgt := 99) hx hb dX4_isBack_125 (by decide) ?_
        exact ih j _ _ f1 rfl (by omega) (by omega) ls H1 locs hP hD hS (lv_sub hl [0, 1, 2, 3, 4, 5, 6, 7, 8] rfl)
set_option maxHeartbeats 4000000 in
set_option maxRecDepth 100000 in
theorem L_back4 (C0 : Cx p s m args meth c RX4 cX4_isBack 11 (some .boolean) wsX4_isBack) (hK : KK g s) {z0 a lf dg k9 r9 v : Nat} {fs : List Value} (hz : va_at g.1 vwCl (z0, .inr (5, fs)) H0) (hdg : fs[7]? = some (.ref dg)) (hlf : fs[8]? = some (.ref lf)) (hne : ¬ z0 = lf) (hzm : ¬ (z0 = lf ∨ z0 = dg)) (hld : lf ≠ dg) (ha : va_at g.1 vwCl (a, .inl (g.2 0, 4, .inl (rw16 v))) H0) (hne2 : ¬ (a = lf ∨ a = dg)) (hk9 : k9 = 2 ∨ k9 = 4) (hr9 : 2 ≤ r9 ∧ r9 ≤ 36) {x4 x5 x6 x7 : Int32} {f d : Nat → Int32} (K : ∀ (x8 : Int32) (ls : Array Slot) (H : Heap) (locs : List Loc), va_P g.1 vwCl [(lf, .inl (g.2 0, 4, .inl f)), (dg, .inl (g.2 0, 64, .inl d))] H → va_D (fun q => (q = lf ∨ q = dg) ∨ H0.size ≤ q) [(lf, .inl (g.2 0, 4, .inl f)), (dg, .inl (g.2 0, 64, .inl d))] → va_S (fun q => (q = lf ∨ q = dg) ∨ H0.size ≤ q) H0 H locs → lv_has ls 11 [(9, .int (nI k9)), (8, .int x8), (7, .int x7), (6, .int x6), (5, .int x5), (0, .ref z0), (1, .ref a), (2, .int (nI k9)), (3, .int (nI r9)), (4, .int x4)] → W p l e rmX4_isBack s m args below meth c H locs 0 0 Q (F0 m 206 ls [])) (K2 : ∀ (j : Nat) (x8 x10 : Int32) (ls : Array Slot) (H : Heap) (locs : List Loc), va_P g.1 vwCl [(lf, .inl (g.2 0, 4, .inl f)), (dg, .inl (g.2 0, 64, .inl d))] H → va_D (fun q => (q = lf ∨ q = dg) ∨ H0.size ≤ q) [(lf, .inl (g.2 0, 4, .inl f)), (dg, .inl (g.2 0, 64, .inl d))] → va_S (fun q => (q = lf ∨ q = dg) ∨ H0.size ≤ q) H0 H locs → lv_has ls 11 [(8, .int x8), (10, .int x10), (9, .int (nI j)), (7, .int x7), (6, .int x6), (5, .int x5), (0, .ref z0), (1, .ref a), (2, .int (nI k9)), (3, .int (nI r9)), (4, .int x4)] → W p l e rmX4_isBack s m args below meth c H locs 0 0 Q (F0 m 198 ls [])) : ∀ (n : Nat) (j : Nat) (x8 : Int32), j ≤ k9 → k9 - j < n → ∀ (ls : Array Slot) (H : Heap) (locs : List Loc), va_P g.1 vwCl [(lf, .inl (g.2 0, 4, .inl f)), (dg, .inl (g.2 0, 64, .inl d))] H → va_D (fun q => (q = lf ∨ q = dg) ∨ H0.size ≤ q) [(lf, .inl (g.2 0, 4, .inl f)), (dg, .inl (g.2 0, 64, .inl d))] → va_S (fun q => (q = lf ∨ q = dg) ∨ H0.size ≤ q) H0 H locs → lv_has ls 11 [(9, .int (nI j)), (8, .int x8), (7, .int x7), (6, .int x6), (5, .int x5), (0, .ref z0), (1, .ref a), (2, .int (nI k9)), (3, .int (nI r9)), (4, .int x4)] → W p l e rmX4_isBack s m args below meth c H locs 0 0 Q (F0 m 143 ls []) := by
  obtain ⟨hx, hb, hr, hml, hown, hts, hlk⟩ := id C0
  have hA : ∀ q : Nat, H0.size ≤ q → (fun q => (q = lf ∨ q = dg) ∨ H0.size ≤ q) q := fun _ h => Or.inr h
  intro n
  induction n with
  | zero => intro j x8 _ h; exact absurd h (Nat.not_lt_zero _)
  | succ n ih =>
    intro j x8 hj hn ls H locs hP hD hS hl
    refine lv_iload hx hb dX4_isBack_143 (lv_at hl 0 rfl) ?_
    refine lv_iload_n hx hb dX4_isBack_145 rfl (lv_at hl 7 rfl) ?_
    refine lv_icmp_ge (tgt := 206) hx hb dX4_isBack_146 (by decide) (fun h1 => ?_) (fun h1 => ?_)
    · skip
      have hge : k9 ≤ j := by
        rcases Nat.lt_or_ge j k9 with h | h
        · exact absurd h1 (nI_ge h (by omega))
        · exact h
      obtain rfl : j = k9 := by omega
      exact K x8 ls H locs hP hD hS hl
    · skip
      have hlt : j < k9 := by
        rcases Nat.lt_or_ge j k9 with h | h
        · exact h
        · exact absurd (nI_le h (by omega)) h1
      refine lv_iload hx hb dX4_isBack_149 (lv_at hl 4 rfl) ?_
      refine lv_if_eq (tgt := 170) hx hb dX4_isBack_151 (by decide) (fun h2 => ?_) (fun h2 => ?_)
      · skip
        refine lv_aload_n hx hb dX4_isBack_170 rfl (lv_at hl 5 rfl) ?_
        refine r_get (ci := 5) (C := RX4) (T := TX4) (N := 10) (v := .ref lf) hx hb hts (by decide +kernel) hown hK hS hz (nA' hz hzm) rfl 8 (by decide) (hts (.fieldLink RX4 24 "RadixbenchModel" "left" "[I") (by decide +kernel)) (fun _ h9 => h9) hlf dX4_isBack_171 ?_
        refine lv_iload hx hb dX4_isBack_174 (lv_at hl 0 rfl) ?_
        refine w_iald (j := j) hx hb hK hP 0 rfl (by omega) (by omega) dX4_isBack_176 ?_
        refine lv_istore (lv' := [(10, .int (f j)), (9, .int (nI j)), (8, .int x8), (7, .int x7), (6, .int x6), (5, .int x5), (0, .ref z0), (1, .ref a), (2, .int (nI k9)), (3, .int (nI r9)), (4, .int x4)]) hx hb dX4_isBack_177 hl (by decide) rfl (fun ls hl => ?_)
        refine lv_iload hx hb dX4_isBack_179 (lv_at hl 0 rfl) ?_
        refine lv_ldc (v := nI 65536) hx hb hown (hts (.constant RX4 52 (65536)) (by decide +kernel)) dX4_isBack_181 ?_
        refine lv_idiv hx hb dX4_isBack_183 (by decide) ?_
        refine lv_istore (lv' := [(8, .int ((f j) / (nI 65536))), (10, .int (f j)), (9, .int (nI j)), (7, .int x7), (6, .int x6), (5, .int x5), (0, .ref z0), (1, .ref a), (2, .int (nI k9)), (3, .int (nI r9)), (4, .int x4)]) hx hb dX4_isBack_184 hl (by decide) rfl (fun ls hl => ?_)
        refine lv_iload hx hb dX4_isBack_186 (lv_at hl 1 rfl) ?_
        refine lv_ldc (v := nI 65536) hx hb hown (hts (.constant RX4 52 (65536)) (by decide +kernel)) dX4_isBack_188 ?_
        refine lv_irem hx hb dX4_isBack_190 (by decide) ?_
        refine lv_aload_n hx hb dX4_isBack_191 rfl (lv_at hl 7 rfl) ?_
        refine lv_iload hx hb dX4_isBack_192 (lv_at hl 2 rfl) ?_
        refine r_iald (j := j) hx hb hK hS ha (nA' ha hne2) (by omega) (by decide) dX4_isBack_194 ?_
        refine lv_icmp_eq (tgt := 200) hx hb dX4_isBack_195 (by decide) (fun h3 => ?_) (fun h3 => ?_)
        · skip
          refine lv_iinc (v := nI (j + 1)) (lv' := [(9, .int (nI (j + 1))), (8, .int ((f j) / (nI 65536))), (10, .int (f j)), (7, .int x7), (6, .int x6), (5, .int x5), (0, .ref z0), (1, .ref a), (2, .int (nI k9)), (3, .int (nI r9)), (4, .int x4)]) hx hb dX4_isBack_200 hl (k := 2) rfl (nI_1 _) (by decide) rfl (fun ls hl => ?_)
          refine lv_goto (tgt := 143) hx hb dX4_isBack_203 (by decide) ?_
          exact ih (j + 1) _ hlt (by omega) ls H locs hP hD hS (lv_sub hl [0, 1, 3, 4, 5, 6, 7, 8, 9, 10] rfl)
        · skip
          exact K2 j _ _ ls H locs hP hD hS (lv_sub hl [0, 1, 2, 3, 4, 5, 6, 7, 8, 9, 10] rfl)
      · skip
        refine lv_ldc (v := nI 65535) hx hb hown (hts (.constant RX4 53 (65535)) (by decide +kernel)) dX4_isBack_154 ?_
        refine lv_aload_n hx hb dX4_isBack_156 rfl (lv_at hl 5 rfl) ?_
        refine r_get (ci := 5) (C := RX4) (T := TX4) (N := 10) (v := .ref lf) hx hb hts (by decide +kernel) hown hK hS hz (nA' hz hzm) rfl 8 (by decide) (hts (.fieldLink RX4 24 "RadixbenchModel" "left" "[I") (by decide +kernel)) (fun _ h9 => h9) hlf dX4_isBack_157 ?_
        refine lv_iload hx hb dX4_isBack_160 (lv_at hl 0 rfl) ?_
        refine w_iald (j := j) hx hb hK hP 0 rfl (by omega) (by omega) dX4_isBack_162 ?_
        refine lv_isub hx hb dX4_isBack_163 ?_
        refine lv_iload hx hb dX4_isBack_164 (lv_at hl 1 rfl) ?_
        refine lv_iadd hx hb dX4_isBack_166 ?_
        refine lv_goto (tgt := 177) hx hb dX4_isBack_167 (by decide) ?_
        refine lv_istore (lv' := [(10, .int (((nI 65535) - (f j)) + x8)), (9, .int (nI j)), (8, .int x8), (7, .int x7), (6, .int x6), (5, .int x5), (0, .ref z0), (1, .ref a), (2, .int (nI k9)), (3, .int (nI r9)), (4, .int x4)]) hx hb dX4_isBack_177 hl (by decide) rfl (fun ls hl => ?_)
        refine lv_iload hx hb dX4_isBack_179 (lv_at hl 0 rfl) ?_
        refine lv_ldc (v := nI 65536) hx hb hown (hts (.constant RX4 52 (65536)) (by decide +kernel)) dX4_isBack_181 ?_
        refine lv_idiv hx hb dX4_isBack_183 (by decide) ?_
        refine lv_istore (lv' := [(8, .int ((((nI 65535) - (f j)) + x8) / (nI 65536))), (10, .int (((nI 65535) - (f j)) + x8)), (9, .int (nI j)), (7, .int x7), (6, .int x6), (5, .int x5), (0, .ref z0), (1, .ref a), (2, .int (nI k9)), (3, .int (nI r9)), (4, .int x4)]) hx hb dX4_isBack_184 hl (by decide) rfl (fun ls hl => ?_)
        refine lv_iload hx hb dX4_isBack_186 (lv_at hl 1 rfl) ?_
        refine lv_ldc (v := nI 65536) hx hb hown (hts (.constant RX4 52 (65536)) (by decide +kernel)) dX4_isBack_188 ?_
        refine lv_irem hx hb dX4_isBack_190 (by decide) ?_
        refine lv_aload_n hx hb dX4_isBack_191 rfl (lv_at hl 7 rfl) ?_
        refine lv_iload hx hb dX4_isBack_192 (lv_at hl 2 rfl) ?_
        refine r_iald (j := j) hx hb hK hS ha (nA' ha hne2) (by omega) (by decide) dX4_isBack_194 ?_
        refine lv_icmp_eq (tgt := 200) hx hb dX4_isBack_195 (by decide) (fun h3 => ?_) (fun h3 => ?_)
        · skip
          refine lv_iinc (v := nI (j + 1)) (lv' := [(9, .int (nI (j + 1))), (8, .int ((((nI 65535) - (f j)) + x8) / (nI 65536))), (10, .int (((nI 65535) - (f j)) + x8)), (7, .int x7), (6, .int x6), (5, .int x5), (0, .ref z0), (1, .ref a), (2, .int (nI k9)), (3, .int (nI r9)), (4, .int x4)]) hx hb dX4_isBack_200 hl (k := 2) rfl (nI_1 _) (by decide) rfl (fun ls hl => ?_)
          refine lv_goto (tgt := 143) hx hb dX4_isBack_203 (by decide) ?_
          exact ih (j + 1) _ hlt (by omega) ls H locs hP hD hS (lv_sub hl [0, 1, 3, 4, 5, 6, 7, 8, 9, 10] rfl)
        · skip
          exact K2 j _ _ ls H locs hP hD hS (lv_sub hl [0, 1, 2, 3, 4, 5, 6, 7, 8, 9, 10] rfl)
/-- the two kept rows behind a call, and some truth -/
def bkQ (g : Gx) (lf dg : Nat) : Option Value → Heap → Prop := fun r H1 => ∃ (y : Bool) (f d : Nat → Int32), r = some (.int (bI y)) ∧ va_at g.1 vwCl (lf, .inl (g.2 0, 4, .inl f)) H1 ∧ va_at g.1 vwCl (dg, .inl (g.2 0, 64, .inl d)) H1
set_option maxHeartbeats 4000000 in
set_option maxRecDepth 100000 in
theorem L_backR (C0 : Cx p s m args meth c RX4 cX4_isBack 11 (some .boolean) wsX4_isBack) (hK : KK g s) (hH : s.heap = H0) {z0 a lf dg k9 r9 v : Nat} {yb : Bool} {fs : List Value} (hz : va_at g.1 vwCl (z0, .inr (5, fs)) H0) (hdg : fs[7]? = some (.ref dg)) (hlf : fs[8]? = some (.ref lf)) (hne : ¬ z0 = lf) (hzm : ¬ (z0 = lf ∨ z0 = dg)) (hld : lf ≠ dg) (ha : va_at g.1 vwCl (a, .inl (g.2 0, 4, .inl (rw16 v))) H0) (hne2 : ¬ (a = lf ∨ a = dg)) (hk9 : k9 = 2 ∨ k9 = 4) (hr9 : 2 ≤ r9 ∧ r9 ≤ 36) {x4 : Int32} {f d : Nat → Int32} (ls : Array Slot) (H : Heap) (locs : List Loc) (hP : va_P g.1 vwCl [(lf, .inl (g.2 0, 4, .inl f)), (dg, .inl (g.2 0, 64, .inl d))] H) (hD : va_D (fun q => (q = lf ∨ q = dg) ∨ H0.size ≤ q) [(lf, .inl (g.2 0, 4, .inl f)), (dg, .inl (g.2 0, 64, .inl d))]) (hS : va_S (fun q => (q = lf ∨ q = dg) ∨ H0.size ≤ q) H0 H locs) (hl : lv_has ls 11 [(5, .int (bI yb)), (0, .ref z0), (1, .ref a), (2, .int (nI k9)), (3, .int (nI r9)), (4, .int x4)]) : W p l e rmX4_isBack s m args below meth c H locs 0 0 (MQ below (nQ H0 (fun q => q = lf ∨ q = dg) (bkQ g lf dg)) args s 0 0 (fun q => (q = lf ∨ q = dg) ∨ H0.size ≤ q)) (F0 m 22 ls []) := by
  obtain ⟨hx, hb, hr, hml, hown, hts, hlk⟩ := id C0
  have hA : ∀ q : Nat, H0.size ≤ q → (fun q => (q = lf ∨ q = dg) ∨ H0.size ≤ q) q := fun _ h => Or.inr h
  refine lv_aload_n hx hb dX4_isBack_22 rfl (lv_at hl 1 rfl) ?_
  refine lv_aload_n hx hb dX4_isBack_23 rfl (lv_at hl 2 rfl) ?_
  refine lv_iload_n hx hb dX4_isBack_24 rfl (lv_at hl 3 rfl) ?_
  refine lv_iload hx hb dX4_isBack_25 (lv_at hl 0 rfl) ?_
  refine cn_V (As := [.ref a, .int (nI k9), .int (bI yb)]) (rest := []) C0 hl hK hS hA (fun z h => Or.inl (Or.inl h)) (c_plain l g H z0 a lf k9 v yb f fs (hz.kp hS (nA' hz hzm)) hlf hne (hP 0 _ rfl) (ha.kp hS (nA' ha hne2)) (fun z => hne2 (Or.inl z)) (by omega)) gX4_isBack_X4_plain rfl ⟨rfl, rfl⟩ ((va_recv hK.1 (p1 (hz.kp hS (nA' hz hzm))) (ci := 5) (q0 := 0) rfl rfl)) ⟨rfl, (show hd_ok yX4_plain 3 from ⟨by decide, by decide, by decide +kernel⟩)⟩ ⟨Nat.le_of_ble_eq_true rfl, Nat.le_of_ble_eq_true rfl⟩ rfl (Nat.le_of_ble_eq_true rfl) ⟨Nat.zero_le _, Nat.zero_le _⟩ dX4_isBack_27 (fun r1 H1 locs hv hzz hk1 hS => ?_)
  obtain ⟨f1, ⟨rfl, y1, hf1⟩, hl1⟩ := hv
  have hP : va_P g.1 vwCl [(lf, .inl (g.2 0, 4, .inl f1)), (dg, .inl (g.2 0, 64, .inl d))] H1 := pcs hl1 (p1 ((hP 1 _ rfl).kept (hk1 _ (hP 1 _ rfl).lt (fun z => hld z.symm))))
  have hD : va_D (fun q => (q = lf ∨ q = dg) ∨ H0.size ≤ q) [(lf, .inl (g.2 0, 4, .inl f1)), (dg, .inl (g.2 0, 64, .inl d))] := two_d hld (Or.inl (Or.inl rfl)) (Or.inl (Or.inr rfl))
  refine lv_iconst (v := nI 0) hx hb dX4_isBack_30 (by decide) ?_
  refine lv_istore (lv' := [(6, .int (nI 0)), (5, .int (bI yb)), (0, .ref z0), (1, .ref a), (2, .int (nI k9)), (3, .int (nI r9)), (4, .int x4)]) hx hb dX4_isBack_31 hl (by decide) rfl (fun ls hl => ?_)
  refine lv_iconst (v := nI 1) hx hb dX4_isBack_33 (by decide) ?_
  refine lv_istore (lv' := [(7, .int (nI 1)), (6, .int (nI 0)), (5, .int (bI yb)), (0, .ref z0), (1, .ref a), (2, .int (nI k9)), (3, .int (nI r9)), (4, .int x4)]) hx hb dX4_isBack_34 hl (by decide) rfl (fun ls hl => ?_)
  refine L_back2 C0 hK hz hdg hlf hne hzm hld ha hne2 hk9 hr9 (fun mo i hi f d ls H locs hP hD hS hl => ?_) 65 0 y1 _ f1 d (by decide) ?_ (fun _ => Or.inl rfl) hf1 (by omega) ls H1 locs hP hD hS hl
  rotate_left
  · rw [Nat.pow_zero, Nat.mul_one]
    exact Nat.lt_of_lt_of_le hf1.1 (Nat.le_trans (Nat.pow_le_pow_right (by decide) (show k9 ≤ 4 by omega)) (by decide))
  refine lv_iconst (v := nI 0) hx hb dX4_isBack_90 (by decide) ?_
  refine lv_istore (lv' := [(7, .int (nI 0)), (6, .int (nI i)), (5, .int (bI yb)), (0, .ref z0), (1, .ref a), (2, .int (nI k9)), (3, .int (nI r9)), (4, .int x4)]) hx hb dX4_isBack_91 hl (by decide) rfl (fun ls hl => ?_)
  refine lv_iload hx hb dX4_isBack_93 (lv_at hl 1 rfl) ?_
  refine lv_iconst (v := nI 1) hx hb dX4_isBack_95 (by decide) ?_
  refine lv_isub hx hb dX4_isBack_96 ?_
  refine tp_i (y := nI i - nI 1) (rfl) ?_
  refine lv_istore (lv' := [(8, .int (nI i - nI 1)), (7, .int (nI 0)), (6, .int (nI i)), (5, .int (bI yb)), (0, .ref z0), (1, .ref a), (2, .int (nI k9)), (3, .int (nI r9)), (4, .int x4)]) hx hb dX4_isBack_97 hl (by decide) rfl (fun ls hl => ?_)
  refine L_back3 C0 hK hz hdg hlf hne hzm hld ha hne2 hk9 hr9 (fun x ov f ls H locs hP hD hS hl => ?_) (i + 1) i _ _ f rfl hi (by omega) ls H locs hP hD hS (lv_sub hl [0, 1, 2, 3, 4, 5, 6, 7, 8] rfl)
  refine lv_iload hx hb dX4_isBack_128 (lv_at hl 3 rfl) ?_
  refine lv_if_eq (tgt := 137) hx hb dX4_isBack_130 (by decide) (fun h1 => ?_) (fun h1 => ?_)
  · skip
    refine lv_iconst (v := nI 0) hx hb dX4_isBack_137 (by decide) ?_
    refine lv_istore (lv' := [(8, .int (nI 0)), (7, .int ov), (6, .int (nI i)), (5, .int (bI yb)), (0, .ref z0), (1, .ref a), (2, .int (nI k9)), (3, .int (nI r9)), (4, .int x4)]) hx hb dX4_isBack_138 hl (by decide) rfl (fun ls hl => ?_)
    refine lv_iconst (v := nI 0) hx hb dX4_isBack_140 (by decide) ?_
    refine lv_istore (lv' := [(9, .int (nI 0)), (8, .int (nI 0)), (7, .int ov), (6, .int (nI i)), (5, .int (bI yb)), (0, .ref z0), (1, .ref a), (2, .int (nI k9)), (3, .int (nI r9)), (4, .int x4)]) hx hb dX4_isBack_141 hl (by decide) rfl (fun ls hl => ?_)
    refine L_back4 C0 hK hz hdg hlf hne hzm hld ha hne2 hk9 hr9 (fun x8 ls H locs hP hD hS hl => ?_) (fun j x8 x10 ls H locs hP hD hS hl => ?_) (k9 + 1) 0 _ (Nat.zero_le _) (by omega) ls H locs hP hD hS (lv_sub hl [0, 1, 2, 3, 4, 5, 6, 7, 8, 9] rfl)
    · skip
      refine lv_iload hx hb dX4_isBack_206 (lv_at hl 2 rfl) ?_
      refine lv_if_ne (tgt := 215) hx hb dX4_isBack_208 (by decide) (fun h5 => ?_) (fun h5 => ?_)
      · skip
        refine lv_iconst (v := nI 0) hx hb dX4_isBack_215 (by decide) ?_
        rw [show nI 0 = bI false from rfl]
        exact rt_ni (mu := fun q => q = lf ∨ q = dg) C0 (bI_nar false) ⟨false, _, _, rfl, hP 0 _ rfl, hP 1 _ rfl⟩ hS hH dX4_isBack_216
      · skip
        refine lv_iconst (v := nI 1) hx hb dX4_isBack_211 (by decide) ?_
        refine lv_goto (tgt := 216) hx hb dX4_isBack_212 (by decide) ?_
        rw [show nI 1 = bI true from rfl]
        exact rt_ni (mu := fun q => q = lf ∨ q = dg) C0 (bI_nar true) ⟨true, _, _, rfl, hP 0 _ rfl, hP 1 _ rfl⟩ hS hH dX4_isBack_216
    · skip
      refine lv_iconst (v := nI 0) hx hb dX4_isBack_198 (by decide) ?_
      rw [show nI 0 = bI false from rfl]
      exact rt_ni (mu := fun q => q = lf ∨ q = dg) C0 (bI_nar false) ⟨false, _, _, rfl, hP 0 _ rfl, hP 1 _ rfl⟩ hS hH dX4_isBack_199
  · skip
    refine lv_iconst (v := nI 1) hx hb dX4_isBack_133 (by decide) ?_
    refine lv_goto (tgt := 138) hx hb dX4_isBack_134 (by decide) ?_
    refine lv_istore (lv' := [(8, .int (nI 1)), (7, .int ov), (6, .int (nI i)), (5, .int (bI yb)), (0, .ref z0), (1, .ref a), (2, .int (nI k9)), (3, .int (nI r9)), (4, .int x4)]) hx hb dX4_isBack_138 hl (by decide) rfl (fun ls hl => ?_)
    refine lv_iconst (v := nI 0) hx hb dX4_isBack_140 (by decide) ?_
    refine lv_istore (lv' := [(9, .int (nI 0)), (8, .int (nI 1)), (7, .int ov), (6, .int (nI i)), (5, .int (bI yb)), (0, .ref z0), (1, .ref a), (2, .int (nI k9)), (3, .int (nI r9)), (4, .int x4)]) hx hb dX4_isBack_141 hl (by decide) rfl (fun ls hl => ?_)
    refine L_back4 C0 hK hz hdg hlf hne hzm hld ha hne2 hk9 hr9 (fun x8 ls H locs hP hD hS hl => ?_) (fun j x8 x10 ls H locs hP hD hS hl => ?_) (k9 + 1) 0 _ (Nat.zero_le _) (by omega) ls H locs hP hD hS (lv_sub hl [0, 1, 2, 3, 4, 5, 6, 7, 8, 9] rfl)
    · skip
      refine lv_iload hx hb dX4_isBack_206 (lv_at hl 2 rfl) ?_
      refine lv_if_ne (tgt := 215) hx hb dX4_isBack_208 (by decide) (fun h5 => ?_) (fun h5 => ?_)
      · skip
        refine lv_iconst (v := nI 0) hx hb dX4_isBack_215 (by decide) ?_
        rw [show nI 0 = bI false from rfl]
        exact rt_ni (mu := fun q => q = lf ∨ q = dg) C0 (bI_nar false) ⟨false, _, _, rfl, hP 0 _ rfl, hP 1 _ rfl⟩ hS hH dX4_isBack_216
      · skip
        refine lv_iconst (v := nI 1) hx hb dX4_isBack_211 (by decide) ?_
        refine lv_goto (tgt := 216) hx hb dX4_isBack_212 (by decide) ?_
        rw [show nI 1 = bI true from rfl]
        exact rt_ni (mu := fun q => q = lf ∨ q = dg) C0 (bI_nar true) ⟨true, _, _, rfl, hP 0 _ rfl, hP 1 _ rfl⟩ hS hH dX4_isBack_216
    · skip
      refine lv_iconst (v := nI 0) hx hb dX4_isBack_198 (by decide) ?_
      rw [show nI 0 = bI false from rfl]
      exact rt_ni (mu := fun q => q = lf ∨ q = dg) C0 (bI_nar false) ⟨false, _, _, rfl, hP 0 _ rfl, hP 1 _ rfl⟩ hS hH dX4_isBack_199
set_option maxHeartbeats 4000000 in
set_option maxRecDepth 100000 in
/-- isBack(own, many, radix, isSigned): that it ends -/
theorem c_isBack (l : Launch) (g : Gx) (H0 : Heap) (z0 a lf dg k9 r9 v : Nat) (sg : Bool) (f d : Nat → Int32) (fs : List Value) (hz : va_at g.1 vwCl (z0, .inr (5, fs)) H0) (hdg : fs[7]? = some (.ref dg)) (hlf : fs[8]? = some (.ref lf)) (hne : ¬ z0 = lf) (hzm : ¬ (z0 = lf ∨ z0 = dg)) (hld : lf ≠ dg) (ha : va_at g.1 vwCl (a, .inl (g.2 0, 4, .inl (rw16 v))) H0) (hne2 : ¬ (a = lf ∨ a = dg)) (hk9 : k9 = 2 ∨ k9 = 4) (hr9 : 2 ≤ r9 ∧ r9 ≤ 36) (hf : va_at g.1 vwCl (lf, .inl (g.2 0, 4, .inl f)) H0) (hd : va_at g.1 vwCl (dg, .inl (g.2 0, 64, .inl d)) H0) : Met l yX4_isBack wsX4_isBack rmX4_isBack (va_Pc [.ref z0, .ref a, .int (nI k9), .int (nI r9), .int (bI sg)] (hB g H0)) (nQ H0 (fun q => q = lf ∨ q = dg) (bkQ g lf dg)) 0 0 (fun q => (q = lf ∨ q = dg) ∨ H0.size ≤ q) := by
  refine cx_met (own := RX4) (cc := cX4_isBack) (maxL := 11) (by decide) rfl rfl (Nat.le_of_ble_eq_true rfl) ?_
  intro p e s m below meth c ls C0 hB0 hnm hl
  obtain ⟨hH, hK⟩ := hB0
  obtain ⟨hx, hb, hr, hml, hown, hts, hlk⟩ := id C0
  subst hH
  have hS : va_S (fun q => (q = lf ∨ q = dg) ∨ s.heap.size ≤ q) s.heap s.heap [] := va_S.rf
  have hA : ∀ q : Nat, s.heap.size ≤ q → (fun q => (q = lf ∨ q = dg) ∨ s.heap.size ≤ q) q := fun q h => Or.inr h
  have hl : lv_has ls 11 [(0, .ref z0), (1, .ref a), (2, .int (nI k9)), (3, .int (nI r9)), (4, .int (bI sg))] := hl
  have hP : va_P g.1 vwCl [(lf, .inl (g.2 0, 4, .inl f)), (dg, .inl (g.2 0, 64, .inl d))] s.heap := pcs hf (p1 hd)
  have hD : va_D (fun q => (q = lf ∨ q = dg) ∨ s.heap.size ≤ q) [(lf, .inl (g.2 0, 4, .inl f)), (dg, .inl (g.2 0, 64, .inl d))] := two_d hld (Or.inl (Or.inl rfl)) (Or.inl (Or.inr rfl))
  refine lv_iload hx hb dX4_isBack_0 (lv_at hl 4 rfl) ?_
  refine lv_if_eq (tgt := 19) hx hb dX4_isBack_2 (by decide) (fun h1 => ?_) (fun h1 => ?_)
  · skip
    refine lv_iconst (v := nI 0) hx hb dX4_isBack_19 (by decide) ?_
    refine tp_i (y := bI false) (rfl) ?_
    refine lv_istore (lv' := [(5, .int (bI false)), (0, .ref z0), (1, .ref a), (2, .int (nI k9)), (3, .int (nI r9)), (4, .int (bI sg))]) hx hb dX4_isBack_20 hl (by decide) rfl (fun ls hl => ?_)
    exact L_backR C0 hK rfl hz hdg hlf hne hzm hld ha hne2 hk9 hr9 ls s.heap [] hP hD hS hl
  · skip
    refine lv_aload_n hx hb dX4_isBack_5 rfl (lv_at hl 1 rfl) ?_
    refine lv_iload_n hx hb dX4_isBack_6 rfl (lv_at hl 2 rfl) ?_
    refine lv_iconst (v := nI 1) hx hb dX4_isBack_7 (by decide) ?_
    refine lv_isub hx hb dX4_isBack_8 ?_
    refine tp_i (y := nI (k9 - 1)) (pk_sub (by omega)) ?_
    refine r_iald (j := k9 - 1) hx hb hK hS ha (nA' ha hne2) (by omega) (by decide) dX4_isBack_9 ?_
    refine lv_ldc (v := nI 32768) hx hb hown (hts (.constant RX4 43 (32768)) (by decide +kernel)) dX4_isBack_10 ?_
    refine lv_icmp_lt (tgt := 19) hx hb dX4_isBack_12 (by decide) (fun h2 => ?_) (fun h2 => ?_)
    · skip
      refine lv_iconst (v := nI 0) hx hb dX4_isBack_19 (by decide) ?_
      refine tp_i (y := bI false) (rfl) ?_
      refine lv_istore (lv' := [(5, .int (bI false)), (0, .ref z0), (1, .ref a), (2, .int (nI k9)), (3, .int (nI r9)), (4, .int (bI sg))]) hx hb dX4_isBack_20 hl (by decide) rfl (fun ls hl => ?_)
      exact L_backR C0 hK rfl hz hdg hlf hne hzm hld ha hne2 hk9 hr9 ls s.heap [] hP hD hS hl
    · skip
      refine lv_iconst (v := nI 1) hx hb dX4_isBack_15 (by decide) ?_
      refine lv_goto (tgt := 20) hx hb dX4_isBack_16 (by decide) ?_
      refine tp_i (y := bI true) (rfl) ?_
      refine lv_istore (lv' := [(5, .int (bI true)), (0, .ref z0), (1, .ref a), (2, .int (nI k9)), (3, .int (nI r9)), (4, .int (bI sg))]) hx hb dX4_isBack_20 hl (by decide) rfl (fun ls hl => ?_)
      exact L_backR C0 hK rfl hz hdg hlf hne hzm hld ha hne2 hk9 hr9 ls s.heap [] hP hD hS hl
end M21

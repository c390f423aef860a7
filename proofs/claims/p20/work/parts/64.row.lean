-- THE CLASS: Row
/-- a row of signs at r: its places at c, the first n spell t -/
def RW (g : Gx) (r c n : Nat) (t : Nat → Nat) (H : Heap) : Prop := ∃ f : Nat → Int32, va_at g.1 vwCl (r, .inr (2, [.ref c, .int (nI n)])) H ∧ va_at g.1 vwCl (c, .inl (g.2 3, 70, .inl f)) H ∧ (∀ j, j < n → f j = nI (t j)) ∧ n ≤ 70 ∧ (∀ j, j < n → t j < 128) ∧ r ≠ c
theorem RW.lt {g : Gx} {r c n : Nat} {t : Nat → Nat} {H : Heap} (h : RW g r c n t H) : r < H.size ∧ c < H.size := by
  obtain ⟨f, h1, h2, -⟩ := h
  exact ⟨h1.lt, h2.lt⟩
theorem RW.kept {g : Gx} {r c n : Nat} {t : Nat → Nat} {H H1 : Heap} (h : RW g r c n t H) (hr : H1[r]? = H[r]?) (hc : H1[c]? = H[c]?) : RW g r c n t H1 := by
  obtain ⟨f, h1, h2, h3⟩ := h
  exact ⟨f, h1.kept hr, h2.kept hc, h3⟩
theorem RW.cong {g : Gx} {r c n : Nat} {t u : Nat → Nat} {H : Heap} (h : RW g r c n t H) (e : ∀ j, j < n → t j = u j) : RW g r c n u H := by
  obtain ⟨f, h1, h2, h3, h4, h5, h6⟩ := h
  exact ⟨f, h1, h2, fun j hj => by rw [h3 j hj, e j hj], h4, fun j hj => by rw [← e j hj]; exact h5 j hj, h6⟩
theorem RW.recv {g : Gx} {s : State} {r c n : Nat} {t : Nat → Nat} {H : Heap} (hK : KK g s) (h : RW g r c n t H) : ∃ cell : Cell, H[r]? = some cell ∧ cell.vm.isStatics = false ∧ s.vm.findClass RX0 = some cell.cls := by
  obtain ⟨f, h1, -⟩ := h
  exact va_recv hK.1 (p1 h1) (ci := 2) (q0 := 0) rfl rfl
theorem narc_n {k : Nat} (h : k < 128) : vp_nar .char (nI k) = nI k := by
  obtain ⟨j, hj, rfl⟩ : ∃ j : Fin 128, True ∧ k = j.1 := ⟨⟨k, h⟩, trivial, rfl⟩
  revert j
  decide +kernel
/-- a sign as a digit of a radix, or none -/
def dgC (c r : Nat) : Int32 := if wor c < r then nI (wor c) else -1
/-- the greatest number of a kind -/
def gtN (d : Nat) (bl : Bool) : Nat := if d = 0 then (if bl = true then 2 ^ 31 else 2 ^ 31 - 1) else if d = 1 then 2 ^ 32 - 1 else if d = 2 then (if bl = true then 2 ^ 63 else 2 ^ 63 - 1) else 2 ^ 64 - 1
theorem nIm_neg {k : Nat} (h : k < 2 ^ 31) : ¬ nI k ≤ -1 := fun z => by
  have h1 := Int32.le_iff_toInt_le.mp z
  rw [nI_toInt h] at h1
  have h2 : (-1 : Int32).toInt = -1 := by decide
  rw [h2] at h1
  omega
section M64
variable {p : Program} {l : Launch} {e : Env} {s : State} {m : MethodId} {args : Array Value} {below : List Frame} {meth : Method} {c : Code} {H H0 : Heap} {locs : List Loc} {cells slots : Nat} {Q : State → Prop} {A : Nat → Prop} {g : Gx}
abbrev rmX0_size : Room := { frames := 0, cells := 0, slots := 0, locals := 0 }
set_option maxHeartbeats 4000000 in
set_option maxRecDepth 100000 in
theorem c_rSize (l : Launch) (g : Gx) (H0 : Heap) (r c7 n : Nat) (t : Nat → Nat) (hR : RW g r c7 n t H0) : Met l yX0_size wsX0_size rmX0_size (va_Pc [.ref r] (hB g H0)) (pQ (some (.int (nI n))) H0) 0 0 (fun q => H0.size ≤ q) := by
  refine cx_met (own := RX0) (cc := cX0_size) (maxL := 1) (by decide) rfl rfl (Nat.le_of_ble_eq_true rfl) ?_
  intro p e s m below meth c ls C0 hB0 hnm hl
  obtain ⟨hH, hK⟩ := hB0
  obtain ⟨hx, hb, hr, hml, hown, hts, hlk⟩ := id C0
  subst hH
  have hS : va_S (fun q => s.heap.size ≤ q) s.heap s.heap [] := va_S.rf
  have hA : ∀ q : Nat, s.heap.size ≤ q → s.heap.size ≤ q := fun q h => h
  have hl : lv_has ls 1 [(0, .ref r)] := hl
  obtain ⟨f, hf, hc9, hft, hn70, ht128, hrc⟩ := id hR
  refine lv_aload_n hx hb dX0_size_0 rfl (lv_at hl 0 rfl) ?_
  refine va_get (ci := 2) (C := RX0) (T := TX0) (N := 2) (v := .int (nI n)) hx hb hts (by decide +kernel) hown hK.1 (p1 hf) 0 rfl rfl 1 (by decide) (hts (.fieldLink RX0 15 "Radixbench$Row" "size" "I") (by decide +kernel)) (fun _ h9 => h9) rfl dX0_size_1 ?_
  exact rt_i C0 rfl hS rfl dX0_size_4
abbrev rmX0_isFull : Room := { frames := 0, cells := 0, slots := 0, locals := 0 }
set_option maxHeartbeats 4000000 in
set_option maxRecDepth 100000 in
theorem c_rFull (l : Launch) (g : Gx) (H0 : Heap) (r c7 n : Nat) (t : Nat → Nat) (hR : RW g r c7 n t H0) : Met l yX0_isFull wsX0_isFull rmX0_isFull (va_Pc [.ref r] (hB g H0)) (pQ (some (.int (bI (decide (n = 70))))) H0) 0 0 (fun q => H0.size ≤ q) := by
  refine cx_met (own := RX0) (cc := cX0_isFull) (maxL := 1) (by decide) rfl rfl (Nat.le_of_ble_eq_true rfl) ?_
  intro p e s m below meth c ls C0 hB0 hnm hl
  obtain ⟨hH, hK⟩ := hB0
  obtain ⟨hx, hb, hr, hml, hown, hts, hlk⟩ := id C0
  subst hH
  have hS : va_S (fun q => s.heap.size ≤ q) s.heap s.heap [] := va_S.rf
  have hA : ∀ q : Nat, s.heap.size ≤ q → s.heap.size ≤ q := fun q h => h
  have hl : lv_has ls 1 [(0, .ref r)] := hl
  obtain ⟨f, hf, hc9, hft, hn70, ht128, hrc⟩ := id hR
  refine lv_aload_n hx hb dX0_isFull_0 rfl (lv_at hl 0 rfl) ?_
  refine va_get (ci := 2) (C := RX0) (T := TX0) (N := 2) (v := .int (nI n)) hx hb hts (by decide +kernel) hown hK.1 (p1 hf) 0 rfl rfl 1 (by decide) (hts (.fieldLink RX0 15 "Radixbench$Row" "size" "I") (by decide +kernel)) (fun _ h9 => h9) rfl dX0_isFull_1 ?_
  refine lv_bipush (v := nI 70) hx hb dX0_isFull_4 (by decide) ?_
  refine lv_icmp_lt (tgt := 13) hx hb dX0_isFull_6 (by decide) (fun h1 => ?_) (fun h1 => ?_)
  · skip
    have n1 := nI_ltn (by omega) (by decide) h1
    refine lv_iconst (v := nI 0) hx hb dX0_isFull_13 (by decide) ?_
    exact rt_z C0 (by rw [bI_f (decide_eq_false (by omega))]; rfl) (by rfl) hS rfl dX0_isFull_14
  · skip
    have n1 := nlt_n (by decide) h1
    refine lv_iconst (v := nI 1) hx hb dX0_isFull_9 (by decide) ?_
    refine lv_goto (tgt := 14) hx hb dX0_isFull_10 (by decide) ?_
    exact rt_z C0 (by rw [bI_t (decide_eq_true (by omega))]; rfl) (by rfl) hS rfl dX0_isFull_14
abbrev rmX0_add : Room := { frames := 0, cells := 0, slots := 0, locals := 0 }
set_option maxHeartbeats 4000000 in
set_option maxRecDepth 100000 in
theorem c_rAdd (l : Launch) (g : Gx) (H0 : Heap) (r c7 n : Nat) (t : Nat → Nat) (hR : RW g r c7 n t H0) (x : Nat) (hx9 : x < 128) (hn : n < 70) : Met l yX0_add wsX0_add rmX0_add (va_Pc [.ref r, .int (nI x)] (hB g H0)) (nQ H0 (fun q => q = r ∨ q = c7) (fun r1 H1 => r1 = none ∧ RW g r c7 (n + 1) (tup t n x) H1)) 0 0 (fun q => (q = r ∨ q = c7) ∨ H0.size ≤ q) := by
  refine cx_met (own := RX0) (cc := cX0_add) (maxL := 2) (by decide) rfl rfl (Nat.le_of_ble_eq_true rfl) ?_
  intro p e s m below meth c ls C0 hB0 hnm hl
  obtain ⟨hH, hK⟩ := hB0
  obtain ⟨hx, hb, hr, hml, hown, hts, hlk⟩ := id C0
  subst hH
  have hS : va_S (fun q => (q = r ∨ q = c7) ∨ s.heap.size ≤ q) s.heap s.heap [] := va_S.rf
  have hA : ∀ q : Nat, s.heap.size ≤ q → (fun q => (q = r ∨ q = c7) ∨ s.heap.size ≤ q) q := fun q h => Or.inr h
  have hl : lv_has ls 2 [(0, .ref r), (1, .int (nI x))] := hl
  obtain ⟨f, hf, hc9, hft, hn70, ht128, hrc⟩ := id hR
  refine lv_aload_n hx hb dX0_add_0 rfl (lv_at hl 0 rfl) ?_
  refine va_get (ci := 2) (C := RX0) (T := TX0) (N := 2) (v := .int (nI n)) hx hb hts (by decide +kernel) hown hK.1 (p1 hf) 0 rfl rfl 1 (by decide) (hts (.fieldLink RX0 15 "Radixbench$Row" "size" "I") (by decide +kernel)) (fun _ h9 => h9) rfl dX0_add_1 ?_
  refine lv_bipush (v := nI 70) hx hb dX0_add_4 (by decide) ?_
  refine lv_icmp_ge (tgt := 29) hx hb dX0_add_6 (by decide) (fun h1 => absurd (le_n (by decide) h1) (by omega)) (fun h1 => ?_)
  refine lv_aload_n hx hb dX0_add_9 rfl (lv_at hl 0 rfl) ?_
  refine va_get (ci := 2) (C := RX0) (T := TX0) (N := 2) (v := .ref c7) hx hb hts (by decide +kernel) hown hK.1 (p1 hf) 0 rfl rfl 0 (by decide) (hts (.fieldLink RX0 9 "Radixbench$Row" "signs" "[C") (by decide +kernel)) (fun _ h9 => h9) rfl dX0_add_10 ?_
  refine lv_aload_n hx hb dX0_add_13 rfl (lv_at hl 0 rfl) ?_
  refine va_get (ci := 2) (C := RX0) (T := TX0) (N := 2) (v := .int (nI n)) hx hb hts (by decide +kernel) hown hK.1 (p1 hf) 0 rfl rfl 1 (by decide) (hts (.fieldLink RX0 15 "Radixbench$Row" "size" "I") (by decide +kernel)) (fun _ h9 => h9) rfl dX0_add_14 ?_
  refine lv_iload_n hx hb dX0_add_17 rfl (lv_at hl 1 rfl) ?_
  refine f_cast (j := n) hx hb hK hS hc9 (Or.inl (Or.inr rfl)) hn (by decide) dX0_add_18 (fun H1 locs g1 z1 o1 hS => ?_)
  have hf1 := hf.kept (o1 _ hrc)
  refine lv_aload_n hx hb dX0_add_19 rfl (lv_at hl 0 rfl) ?_
  refine lv_dup hx hb dX0_add_20 rfl ?_
  refine va_get (ci := 2) (C := RX0) (T := TX0) (N := 2) (v := .int (nI n)) hx hb hts (by decide +kernel) hown hK.1 (p1 hf1) 0 rfl rfl 1 (by decide) (hts (.fieldLink RX0 15 "Radixbench$Row" "size" "I") (by decide +kernel)) (fun _ h9 => h9) rfl dX0_add_21 ?_
  refine lv_iconst (v := nI 1) hx hb dX0_add_24 (by decide) ?_
  refine lv_iadd hx hb dX0_add_25 ?_
  refine tp_i (y := nI (n + 1)) (nI_add _ _) ?_
  refine w_putf (ci := 2) (C := RX0) (T := TX0) (N := 2) (ty := .int) hx hb hts (by decide +kernel) tyX0 tyX0_ok nmX0 hown hK hS hf1 (Or.inl (Or.inl rfl)) rfl 1 (by decide) (hts (.fieldLink RX0 15 "Radixbench$Row" "size" "I") (by decide +kernel)) (fun _ h9 => h9) rfl (by decide +kernel) rfl rfl (by show 1 < 2; decide) dX0_add_26 (fun H2 locs f2 s2 o2 hS => ?_)
  exact rt_v (mu := (fun q => q = r ∨ q = c7)) C0 ⟨rfl, _, f2, g1.kept (o2 _ hrc.symm), fun j hj => by unfold upd tup; by_cases e : j = n; rw [if_pos e, if_pos e, narc_n hx9]; rw [if_neg e, if_neg e]; exact hft j (by omega), hn, fun j hj => by unfold tup; split; exact hx9; exact ht128 j (by omega), hrc⟩ hS rfl dX0_add_29
abbrev rmX0_dropLast : Room := { frames := 0, cells := 0, slots := 0, locals := 0 }
set_option maxHeartbeats 4000000 in
set_option maxRecDepth 100000 in
theorem c_rDrop (l : Launch) (g : Gx) (H0 : Heap) (r c7 n : Nat) (t : Nat → Nat) (hR : RW g r c7 n t H0) (hn0 : 0 < n) : Met l yX0_dropLast wsX0_dropLast rmX0_dropLast (va_Pc [.ref r] (hB g H0)) (nQ H0 (fun q => q = r ∨ q = c7) (fun r1 H1 => r1 = none ∧ RW g r c7 (n - 1) t H1)) 0 0 (fun q => (q = r ∨ q = c7) ∨ H0.size ≤ q) := by
  refine cx_met (own := RX0) (cc := cX0_dropLast) (maxL := 1) (by decide) rfl rfl (Nat.le_of_ble_eq_true rfl) ?_
  intro p e s m below meth c ls C0 hB0 hnm hl
  obtain ⟨hH, hK⟩ := hB0
  obtain ⟨hx, hb, hr, hml, hown, hts, hlk⟩ := id C0
  subst hH
  have hS : va_S (fun q => (q = r ∨ q = c7) ∨ s.heap.size ≤ q) s.heap s.heap [] := va_S.rf
  have hA : ∀ q : Nat, s.heap.size ≤ q → (fun q => (q = r ∨ q = c7) ∨ s.heap.size ≤ q) q := fun q h => Or.inr h
  have hl : lv_has ls 1 [(0, .ref r)] := hl
  obtain ⟨f, hf, hc9, hft, hn70, ht128, hrc⟩ := id hR
  refine lv_aload_n hx hb dX0_dropLast_0 rfl (lv_at hl 0 rfl) ?_
  refine va_get (ci := 2) (C := RX0) (T := TX0) (N := 2) (v := .int (nI n)) hx hb hts (by decide +kernel) hown hK.1 (p1 hf) 0 rfl rfl 1 (by decide) (hts (.fieldLink RX0 15 "Radixbench$Row" "size" "I") (by decide +kernel)) (fun _ h9 => h9) rfl dX0_dropLast_1 ?_
  refine lv_if_le (tgt := 17) hx hb dX0_dropLast_4 (by decide) (fun h1 => absurd (show n ≤ 0 from le_n (by omega) h1) (by omega)) (fun h1 => ?_)
  refine lv_aload_n hx hb dX0_dropLast_7 rfl (lv_at hl 0 rfl) ?_
  refine lv_dup hx hb dX0_dropLast_8 rfl ?_
  refine va_get (ci := 2) (C := RX0) (T := TX0) (N := 2) (v := .int (nI n)) hx hb hts (by decide +kernel) hown hK.1 (p1 hf) 0 rfl rfl 1 (by decide) (hts (.fieldLink RX0 15 "Radixbench$Row" "size" "I") (by decide +kernel)) (fun _ h9 => h9) rfl dX0_dropLast_9 ?_
  refine lv_iconst (v := nI 1) hx hb dX0_dropLast_12 (by decide) ?_
  refine lv_isub hx hb dX0_dropLast_13 ?_
  refine tp_i (y := nI (n - 1)) (pk_sub (by omega)) ?_
  refine w_putf (ci := 2) (C := RX0) (T := TX0) (N := 2) (ty := .int) hx hb hts (by decide +kernel) tyX0 tyX0_ok nmX0 hown hK hS hf (Or.inl (Or.inl rfl)) rfl 1 (by decide) (hts (.fieldLink RX0 15 "Radixbench$Row" "size" "I") (by decide +kernel)) (fun _ h9 => h9) rfl (by decide +kernel) rfl rfl (by show 1 < 2; decide) dX0_dropLast_14 (fun H2 locs f2 s2 o2 hS => ?_)
  exact rt_v (mu := (fun q => q = r ∨ q = c7)) C0 ⟨rfl, f, f2, hc9.kept (o2 _ hrc.symm), fun j hj => hft j (by omega), by omega, fun j hj => ht128 j (by omega), hrc⟩ hS rfl dX0_dropLast_17
abbrev rmX0_empty : Room := { frames := 0, cells := 0, slots := 0, locals := 0 }
set_option maxHeartbeats 4000000 in
set_option maxRecDepth 100000 in
theorem c_rEmpty (l : Launch) (g : Gx) (H0 : Heap) (r c7 n : Nat) (t : Nat → Nat) (hR : RW g r c7 n t H0) : Met l yX0_empty wsX0_empty rmX0_empty (va_Pc [.ref r] (hB g H0)) (nQ H0 (fun q => q = r ∨ q = c7) (fun r1 H1 => r1 = none ∧ ∀ u, RW g r c7 0 u H1)) 0 0 (fun q => (q = r ∨ q = c7) ∨ H0.size ≤ q) := by
  refine cx_met (own := RX0) (cc := cX0_empty) (maxL := 1) (by decide) rfl rfl (Nat.le_of_ble_eq_true rfl) ?_
  intro p e s m below meth c ls C0 hB0 hnm hl
  obtain ⟨hH, hK⟩ := hB0
  obtain ⟨hx, hb, hr, hml, hown, hts, hlk⟩ := id C0
  subst hH
  have hS : va_S (fun q => (q = r ∨ q = c7) ∨ s.heap.size ≤ q) s.heap s.heap [] := va_S.rf
  have hA : ∀ q : Nat, s.heap.size ≤ q → (fun q => (q = r ∨ q = c7) ∨ s.heap.size ≤ q) q := fun q h => Or.inr h
  have hl : lv_has ls 1 [(0, .ref r)] := hl
  obtain ⟨f, hf, hc9, hft, hn70, ht128, hrc⟩ := id hR
  refine lv_aload_n hx hb dX0_empty_0 rfl (lv_at hl 0 rfl) ?_
  refine lv_iconst (v := nI 0) hx hb dX0_empty_1 (by decide) ?_
  refine w_putf (ci := 2) (C := RX0) (T := TX0) (N := 2) (ty := .int) hx hb hts (by decide +kernel) tyX0 tyX0_ok nmX0 hown hK hS hf (Or.inl (Or.inl rfl)) rfl 1 (by decide) (hts (.fieldLink RX0 15 "Radixbench$Row" "size" "I") (by decide +kernel)) (fun _ h9 => h9) rfl (by decide +kernel) rfl rfl (by show 1 < 2; decide) dX0_empty_2 (fun H2 locs f2 s2 o2 hS => ?_)
  exact rt_v (mu := (fun q => q = r ∨ q = c7)) C0 ⟨rfl, fun u => ⟨f, f2, hc9.kept (o2 _ hrc.symm), fun j hj => absurd hj (Nat.not_lt_zero _), by decide, fun j hj => absurd hj (Nat.not_lt_zero _), hrc⟩⟩ hS rfl dX0_empty_5
abbrev rmX0_signOf : Room := { frames := 0, cells := 0, slots := 0, locals := 0 }
set_option maxHeartbeats 4000000 in
set_option maxRecDepth 100000 in
theorem c_sgOf (l : Launch) (g : Gx) (H0 : Heap) (i : Nat) (zg : Bool) (hi : i ≤ 37) : Met l yX0_signOf wsX0_signOf rmX0_signOf (va_Pc [.int (nI i), .int (bI zg)] (hB g H0)) (pQ (some (.int (nI (chN i zg)))) H0) 0 0 (fun q => H0.size ≤ q) := by
  refine cx_met (own := RX0) (cc := cX0_signOf) (maxL := 2) (by decide) rfl rfl (Nat.le_of_ble_eq_true rfl) ?_
  intro p e s m below meth c ls C0 hB0 hnm hl
  obtain ⟨hH, hK⟩ := hB0
  obtain ⟨hx, hb, hr, hml, hown, hts, hlk⟩ := id C0
  subst hH
  have hS : va_S (fun q => s.heap.size ≤ q) s.heap s.heap [] := va_S.rf
  have hA : ∀ q : Nat, s.heap.size ≤ q → s.heap.size ≤ q := fun q h => h
  have hl : lv_has ls 2 [(0, .int (nI i)), (1, .int (bI zg))] := hl
  refine lv_iload_n hx hb dX0_signOf_0 rfl (lv_at hl 0 rfl) ?_
  refine lv_bipush (v := nI 10) hx hb dX0_signOf_1 (by decide) ?_
  refine lv_icmp_ge (tgt := 12) hx hb dX0_signOf_3 (by decide) (fun h1 => ?_) (fun h1 => ?_)
  · skip
    have n1 := le_n (by decide) h1
    refine lv_iload_n hx hb dX0_signOf_12 rfl (lv_at hl 0 rfl) ?_
    refine lv_bipush (v := nI 36) hx hb dX0_signOf_13 (by decide) ?_
    refine lv_icmp_ge (tgt := 36) hx hb dX0_signOf_15 (by decide) (fun h2 => ?_) (fun h2 => ?_)
    · skip
      have n2 := le_n (by decide) h2
      refine lv_iload_n hx hb dX0_signOf_36 rfl (lv_at hl 0 rfl) ?_
      refine lv_bipush (v := nI 36) hx hb dX0_signOf_37 (by decide) ?_
      refine lv_icmp_ne (tgt := 47) hx hb dX0_signOf_39 (by decide) (fun h3 => ?_) (fun h3 => ?_)
      · skip
        have n3 : i ≠ 36 := fun z => h3 (by rw [z])
        refine lv_bipush (v := nI 43) hx hb dX0_signOf_47 (by decide) ?_
        exact rt_p C0 (congrArg nI (by unfold chN; rw [if_neg n3, if_pos (by omega)])) (nar_char (by omega)) hS rfl dX0_signOf_49
      · skip
        have n3 : i = 36 := nI_inj (by omega) (by decide) h3
        refine lv_bipush (v := nI 45) hx hb dX0_signOf_42 (by decide) ?_
        refine lv_goto (tgt := 49) hx hb dX0_signOf_44 (by decide) ?_
        exact rt_p C0 (congrArg nI (by unfold chN; rw [if_pos n3])) (nar_char (by omega)) hS rfl dX0_signOf_49
    · skip
      have n2 := nle_n (by omega) h2
      refine lv_iload_n hx hb dX0_signOf_18 rfl (lv_at hl 1 rfl) ?_
      refine lv_if_eq (tgt := 27) hx hb dX0_signOf_19 (by decide) (fun h3 => ?_) (fun h3 => ?_)
      · skip
        have z3 := bI_0 h3
        refine lv_bipush (v := nI 97) hx hb dX0_signOf_27 (by decide) ?_
        refine lv_iload_n hx hb dX0_signOf_29 rfl (lv_at hl 0 rfl) ?_
        refine lv_iadd hx hb dX0_signOf_30 ?_
        refine tp_i (y := nI (97 + i)) (nI_add _ _) ?_
        refine lv_bipush (v := nI 10) hx hb dX0_signOf_31 (by decide) ?_
        refine lv_isub hx hb dX0_signOf_33 ?_
        refine tp_i (y := nI ((97 + i) - 10)) (pk_sub (by omega)) ?_
        refine lv_i2c (v := nI (97 + i - 10)) hx hb dX0_signOf_34 (i2c_n (k := 97 + i - 10) (by omega)) ?_
        exact rt_p C0 (congrArg nI (by unfold chN; rw [if_neg (by omega), if_neg (by omega), if_neg (fun z => absurd z.1 (by rw [z3]; decide))]; unfold sgn; rw [if_neg (by omega)])) (nar_char (by omega)) hS rfl dX0_signOf_35
      · skip
        have z3 := bI_n0 h3
        refine lv_bipush (v := nI 65) hx hb dX0_signOf_22 (by decide) ?_
        refine lv_goto (tgt := 29) hx hb dX0_signOf_24 (by decide) ?_
        refine lv_iload_n hx hb dX0_signOf_29 rfl (lv_at hl 0 rfl) ?_
        refine lv_iadd hx hb dX0_signOf_30 ?_
        refine tp_i (y := nI (65 + i)) (nI_add _ _) ?_
        refine lv_bipush (v := nI 10) hx hb dX0_signOf_31 (by decide) ?_
        refine lv_isub hx hb dX0_signOf_33 ?_
        refine tp_i (y := nI ((65 + i) - 10)) (pk_sub (by omega)) ?_
        refine lv_i2c (v := nI (65 + i - 10)) hx hb dX0_signOf_34 (i2c_n (k := 65 + i - 10) (by omega)) ?_
        exact rt_p C0 (congrArg nI (by unfold chN; rw [if_neg (by omega), if_neg (by omega), if_pos ⟨z3, by omega⟩])) (nar_char (by omega)) hS rfl dX0_signOf_35
  · skip
    have n1 := nle_n (by omega) h1
    refine lv_bipush (v := nI 48) hx hb dX0_signOf_6 (by decide) ?_
    refine lv_iload_n hx hb dX0_signOf_8 rfl (lv_at hl 0 rfl) ?_
    refine lv_iadd hx hb dX0_signOf_9 ?_
    refine tp_i (y := nI (48 + i)) (nI_add _ _) ?_
    refine lv_i2c (v := nI (48 + i)) hx hb dX0_signOf_10 (i2c_n (k := 48 + i) (by omega)) ?_
    exact rt_p C0 (congrArg nI (by unfold chN; rw [if_neg (by omega), if_neg (by omega), if_neg (by omega)]; unfold sgn; rw [if_pos n1])) (nar_char (by omega)) hS rfl dX0_signOf_11
abbrev rmX0_worthOf : Room := { frames := 0, cells := 0, slots := 0, locals := 0 }
set_option maxHeartbeats 4000000 in
set_option maxRecDepth 100000 in
theorem c_wOf (l : Launch) (g : Gx) (H0 : Heap) (c9 : Nat) (hc9 : c9 < 128) : Met l yX0_worthOf wsX0_worthOf rmX0_worthOf (va_Pc [.int (nI c9)] (hB g H0)) (pQ (some (.int (if wor c9 = 99 then -1 else nI (wor c9)))) H0) 0 0 (fun q => H0.size ≤ q) := by
  refine cx_met (own := RX0) (cc := cX0_worthOf) (maxL := 1) (by decide) rfl rfl (Nat.le_of_ble_eq_true rfl) ?_
  intro p e s m below meth c ls C0 hB0 hnm hl
  obtain ⟨hH, hK⟩ := hB0
  obtain ⟨hx, hb, hr, hml, hown, hts, hlk⟩ := id C0
  subst hH
  have hS : va_S (fun q => s.heap.size ≤ q) s.heap s.heap [] := va_S.rf
  have hA : ∀ q : Nat, s.heap.size ≤ q → s.heap.size ≤ q := fun q h => h
  have hl : lv_has ls 1 [(0, .int (nI c9))] := hl
  refine lv_iload_n hx hb dX0_worthOf_0 rfl (lv_at hl 0 rfl) ?_
  refine lv_bipush (v := nI 48) hx hb dX0_worthOf_1 (by decide) ?_
  refine lv_icmp_lt (tgt := 17) hx hb dX0_worthOf_3 (by decide) (fun h1 => ?_) (fun h1 => ?_)
  · skip
    have n1 := nI_ltn (by omega) (by omega) h1
    refine lv_iload_n hx hb dX0_worthOf_17 rfl (lv_at hl 0 rfl) ?_
    refine lv_bipush (v := nI 97) hx hb dX0_worthOf_18 (by decide) ?_
    refine lv_icmp_lt (tgt := 37) hx hb dX0_worthOf_20 (by decide) (fun h1 => ?_) (fun h1 => ?_)
    · skip
      have n1 := nI_ltn (by omega) (by omega) h1
      refine lv_iload_n hx hb dX0_worthOf_37 rfl (lv_at hl 0 rfl) ?_
      refine lv_bipush (v := nI 65) hx hb dX0_worthOf_38 (by decide) ?_
      refine lv_icmp_lt (tgt := 57) hx hb dX0_worthOf_40 (by decide) (fun h1 => ?_) (fun h1 => ?_)
      · skip
        have n1 := nI_ltn (by omega) (by omega) h1
        refine lv_iconst (v := (-1)) hx hb dX0_worthOf_57 (by decide) ?_
        exact rt_i C0 (by rw [if_pos (by unfold wor; (repeat' split) <;> omega)]) hS rfl dX0_worthOf_58
      · skip
        have n1 := nlt_n (by omega) h1
        refine lv_iload_n hx hb dX0_worthOf_43 rfl (lv_at hl 0 rfl) ?_
        refine lv_bipush (v := nI 90) hx hb dX0_worthOf_44 (by decide) ?_
        refine lv_icmp_gt (tgt := 57) hx hb dX0_worthOf_46 (by decide) (fun h2 => ?_) (fun h2 => ?_)
        · skip
          have n2 := nI_ltn (by omega) (by omega) h2
          refine lv_iconst (v := (-1)) hx hb dX0_worthOf_57 (by decide) ?_
          exact rt_i C0 (by rw [if_pos (by unfold wor; (repeat' split) <;> omega)]) hS rfl dX0_worthOf_58
        · skip
          have n2 := nlt_n (by omega) h2
          refine lv_iload_n hx hb dX0_worthOf_49 rfl (lv_at hl 0 rfl) ?_
          refine lv_bipush (v := nI 65) hx hb dX0_worthOf_50 (by decide) ?_
          refine lv_isub hx hb dX0_worthOf_52 ?_
          refine tp_i (y := nI (c9 - 65)) (pk_sub (by omega)) ?_
          refine lv_bipush (v := nI 10) hx hb dX0_worthOf_53 (by decide) ?_
          refine lv_iadd hx hb dX0_worthOf_55 ?_
          refine tp_i (y := nI ((c9 - 65) + 10)) (nI_add _ _) ?_
          have ew : wor c9 = c9 - 65 + 10 := by unfold wor; (repeat' split) <;> omega
          exact rt_i C0 (by rw [ew, if_neg (by omega)]) hS rfl dX0_worthOf_56
    · skip
      have n1 := nlt_n (by omega) h1
      refine lv_iload_n hx hb dX0_worthOf_23 rfl (lv_at hl 0 rfl) ?_
      refine lv_bipush (v := nI 122) hx hb dX0_worthOf_24 (by decide) ?_
      refine lv_icmp_gt (tgt := 37) hx hb dX0_worthOf_26 (by decide) (fun h2 => ?_) (fun h2 => ?_)
      · skip
        have n2 := nI_ltn (by omega) (by omega) h2
        refine lv_iload_n hx hb dX0_worthOf_37 rfl (lv_at hl 0 rfl) ?_
        refine lv_bipush (v := nI 65) hx hb dX0_worthOf_38 (by decide) ?_
        refine lv_icmp_lt (tgt := 57) hx hb dX0_worthOf_40 (by decide) (fun h1 => ?_) (fun h1 => ?_)
        · skip
          have n1 := nI_ltn (by omega) (by omega) h1
          refine lv_iconst (v := (-1)) hx hb dX0_worthOf_57 (by decide) ?_
          exact rt_i C0 (by rw [if_pos (by unfold wor; (repeat' split) <;> omega)]) hS rfl dX0_worthOf_58
        · skip
          have n1 := nlt_n (by omega) h1
          refine lv_iload_n hx hb dX0_worthOf_43 rfl (lv_at hl 0 rfl) ?_
          refine lv_bipush (v := nI 90) hx hb dX0_worthOf_44 (by decide) ?_
          refine lv_icmp_gt (tgt := 57) hx hb dX0_worthOf_46 (by decide) (fun h2 => ?_) (fun h2 => ?_)
          · skip
            have n2 := nI_ltn (by omega) (by omega) h2
            refine lv_iconst (v := (-1)) hx hb dX0_worthOf_57 (by decide) ?_
            exact rt_i C0 (by rw [if_pos (by unfold wor; (repeat' split) <;> omega)]) hS rfl dX0_worthOf_58
          · skip
            have n2 := nlt_n (by omega) h2
            refine lv_iload_n hx hb dX0_worthOf_49 rfl (lv_at hl 0 rfl) ?_
            refine lv_bipush (v := nI 65) hx hb dX0_worthOf_50 (by decide) ?_
            refine lv_isub hx hb dX0_worthOf_52 ?_
            refine tp_i (y := nI (c9 - 65)) (pk_sub (by omega)) ?_
            refine lv_bipush (v := nI 10) hx hb dX0_worthOf_53 (by decide) ?_
            refine lv_iadd hx hb dX0_worthOf_55 ?_
            refine tp_i (y := nI ((c9 - 65) + 10)) (nI_add _ _) ?_
            have ew : wor c9 = c9 - 65 + 10 := by unfold wor; (repeat' split) <;> omega
            exact rt_i C0 (by rw [ew, if_neg (by omega)]) hS rfl dX0_worthOf_56
      · skip
        have n2 := nlt_n (by omega) h2
        refine lv_iload_n hx hb dX0_worthOf_29 rfl (lv_at hl 0 rfl) ?_
        refine lv_bipush (v := nI 97) hx hb dX0_worthOf_30 (by decide) ?_
        refine lv_isub hx hb dX0_worthOf_32 ?_
        refine tp_i (y := nI (c9 - 97)) (pk_sub (by omega)) ?_
        refine lv_bipush (v := nI 10) hx hb dX0_worthOf_33 (by decide) ?_
        refine lv_iadd hx hb dX0_worthOf_35 ?_
        refine tp_i (y := nI ((c9 - 97) + 10)) (nI_add _ _) ?_
        have ew : wor c9 = c9 - 97 + 10 := by unfold wor; (repeat' split) <;> omega
        exact rt_i C0 (by rw [ew, if_neg (by omega)]) hS rfl dX0_worthOf_36
  · skip
    have n1 := nlt_n (by omega) h1
    refine lv_iload_n hx hb dX0_worthOf_6 rfl (lv_at hl 0 rfl) ?_
    refine lv_bipush (v := nI 57) hx hb dX0_worthOf_7 (by decide) ?_
    refine lv_icmp_gt (tgt := 17) hx hb dX0_worthOf_9 (by decide) (fun h2 => ?_) (fun h2 => ?_)
    · skip
      have n2 := nI_ltn (by omega) (by omega) h2
      refine lv_iload_n hx hb dX0_worthOf_17 rfl (lv_at hl 0 rfl) ?_
      refine lv_bipush (v := nI 97) hx hb dX0_worthOf_18 (by decide) ?_
      refine lv_icmp_lt (tgt := 37) hx hb dX0_worthOf_20 (by decide) (fun h1 => ?_) (fun h1 => ?_)
      · skip
        have n1 := nI_ltn (by omega) (by omega) h1
        refine lv_iload_n hx hb dX0_worthOf_37 rfl (lv_at hl 0 rfl) ?_
        refine lv_bipush (v := nI 65) hx hb dX0_worthOf_38 (by decide) ?_
        refine lv_icmp_lt (tgt := 57) hx hb dX0_worthOf_40 (by decide) (fun h1 => ?_) (fun h1 => ?_)
        · skip
          have n1 := nI_ltn (by omega) (by omega) h1
          refine lv_iconst (v := (-1)) hx hb dX0_worthOf_57 (by decide) ?_
          exact rt_i C0 (by rw [if_pos (by unfold wor; (repeat' split) <;> omega)]) hS rfl dX0_worthOf_58
        · skip
          have n1 := nlt_n (by omega) h1
          refine lv_iload_n hx hb dX0_worthOf_43 rfl (lv_at hl 0 rfl) ?_
          refine lv_bipush (v := nI 90) hx hb dX0_worthOf_44 (by decide) ?_
          refine lv_icmp_gt (tgt := 57) hx hb dX0_worthOf_46 (by decide) (fun h2 => ?_) (fun h2 => ?_)
          · skip
            have n2 := nI_ltn (by omega) (by omega) h2
            refine lv_iconst (v := (-1)) hx hb dX0_worthOf_57 (by decide) ?_
            exact rt_i C0 (by rw [if_pos (by unfold wor; (repeat' split) <;> omega)]) hS rfl dX0_worthOf_58
          · skip
            have n2 := nlt_n (by omega) h2
            refine lv_iload_n hx hb dX0_worthOf_49 rfl (lv_at hl 0 rfl) ?_
            refine lv_bipush (v := nI 65) hx hb dX0_worthOf_50 (by decide) ?_
            refine lv_isub hx hb dX0_worthOf_52 ?_
            refine tp_i (y := nI (c9 - 65)) (pk_sub (by omega)) ?_
            refine lv_bipush (v := nI 10) hx hb dX0_worthOf_53 (by decide) ?_
            refine lv_iadd hx hb dX0_worthOf_55 ?_
            refine tp_i (y := nI ((c9 - 65) + 10)) (nI_add _ _) ?_
            have ew : wor c9 = c9 - 65 + 10 := by unfold wor; (repeat' split) <;> omega
            exact rt_i C0 (by rw [ew, if_neg (by omega)]) hS rfl dX0_worthOf_56
      · skip
        have n1 := nlt_n (by omega) h1
        refine lv_iload_n hx hb dX0_worthOf_23 rfl (lv_at hl 0 rfl) ?_
        refine lv_bipush (v := nI 122) hx hb dX0_worthOf_24 (by decide) ?_
        refine lv_icmp_gt (tgt := 37) hx hb dX0_worthOf_26 (by decide) (fun h2 => ?_) (fun h2 => ?_)
        · skip
          have n2 := nI_ltn (by omega) (by omega) h2
          refine lv_iload_n hx hb dX0_worthOf_37 rfl (lv_at hl 0 rfl) ?_
          refine lv_bipush (v := nI 65) hx hb dX0_worthOf_38 (by decide) ?_
          refine lv_icmp_lt (tgt := 57) hx hb dX0_worthOf_40 (by decide) (fun h1 => ?_) (fun h1 => ?_)
          · skip
            have n1 := nI_ltn (by omega) (by omega) h1
            refine lv_iconst (v := (-1)) hx hb dX0_worthOf_57 (by decide) ?_
            exact rt_i C0 (by rw [if_pos (by unfold wor; (repeat' split) <;> omega)]) hS rfl dX0_worthOf_58
          · skip
            have n1 := nlt_n (by omega) h1
            refine lv_iload_n hx hb dX0_worthOf_43 rfl (lv_at hl 0 rfl) ?_
            refine lv_bipush (v := nI 90) hx hb dX0_worthOf_44 (by decide) ?_
            refine lv_icmp_gt (tgt := 57) hx hb dX0_worthOf_46 (by decide) (fun h2 => ?_) (fun h2 => ?_)
            · skip
              have n2 := nI_ltn (by omega) (by omega) h2
              refine lv_iconst (v := (-1)) hx hb dX0_worthOf_57 (by decide) ?_
              exact rt_i C0 (by rw [if_pos (by unfold wor; (repeat' split) <;> omega)]) hS rfl dX0_worthOf_58
            · skip
              have n2 := nlt_n (by omega) h2
              refine lv_iload_n hx hb dX0_worthOf_49 rfl (lv_at hl 0 rfl) ?_
              refine lv_bipush (v := nI 65) hx hb dX0_worthOf_50 (by decide) ?_
              refine lv_isub hx hb dX0_worthOf_52 ?_
              refine tp_i (y := nI (c9 - 65)) (pk_sub (by omega)) ?_
              refine lv_bipush (v := nI 10) hx hb dX0_worthOf_53 (by decide) ?_
              refine lv_iadd hx hb dX0_worthOf_55 ?_
              refine tp_i (y := nI ((c9 - 65) + 10)) (nI_add _ _) ?_
              have ew : wor c9 = c9 - 65 + 10 := by unfold wor; (repeat' split) <;> omega
              exact rt_i C0 (by rw [ew, if_neg (by omega)]) hS rfl dX0_worthOf_56
        · skip
          have n2 := nlt_n (by omega) h2
          refine lv_iload_n hx hb dX0_worthOf_29 rfl (lv_at hl 0 rfl) ?_
          refine lv_bipush (v := nI 97) hx hb dX0_worthOf_30 (by decide) ?_
          refine lv_isub hx hb dX0_worthOf_32 ?_
          refine tp_i (y := nI (c9 - 97)) (pk_sub (by omega)) ?_
          refine lv_bipush (v := nI 10) hx hb dX0_worthOf_33 (by decide) ?_
          refine lv_iadd hx hb dX0_worthOf_35 ?_
          refine tp_i (y := nI ((c9 - 97) + 10)) (nI_add _ _) ?_
          have ew : wor c9 = c9 - 97 + 10 := by unfold wor; (repeat' split) <;> omega
          exact rt_i C0 (by rw [ew, if_neg (by omega)]) hS rfl dX0_worthOf_36
    · skip
      have n2 := nlt_n (by omega) h2
      refine lv_iload_n hx hb dX0_worthOf_12 rfl (lv_at hl 0 rfl) ?_
      refine lv_bipush (v := nI 48) hx hb dX0_worthOf_13 (by decide) ?_
      refine lv_isub hx hb dX0_worthOf_15 ?_
      refine tp_i (y := nI (c9 - 48)) (pk_sub (by omega)) ?_
      have ew : wor c9 = c9 - 48 := by unfold wor; (repeat' split) <;> omega
      exact rt_i C0 (by rw [ew, if_neg (by omega)]) hS rfl dX0_worthOf_16
abbrev rmX0_digitAt : Room := { frames := 1, cells := 0, slots := 0, locals := 20 }
set_option maxHeartbeats 4000000 in
set_option maxRecDepth 100000 in
theorem c_dgAt (l : Launch) (g : Gx) (H0 : Heap) (r c7 n : Nat) (t : Nat → Nat) (hR : RW g r c7 n t H0) (j r9 : Nat) (hj : j < n) (hr9 : r9 ≤ 36) : Met l yX0_digitAt wsX0_digitAt rmX0_digitAt (va_Pc [.ref r, .int (nI j), .int (nI r9)] (hB g H0)) (pQ (some (.int (dgC (t j) r9))) H0) 0 0 (fun q => H0.size ≤ q) := by
  refine cx_met (own := RX0) (cc := cX0_digitAt) (maxL := 4) (by decide) rfl rfl (Nat.le_of_ble_eq_true rfl) ?_
  intro p e s m below meth c ls C0 hB0 hnm hl
  obtain ⟨hH, hK⟩ := hB0
  obtain ⟨hx, hb, hr, hml, hown, hts, hlk⟩ := id C0
  subst hH
  have hS : va_S (fun q => s.heap.size ≤ q) s.heap s.heap [] := va_S.rf
  have hA : ∀ q : Nat, s.heap.size ≤ q → s.heap.size ≤ q := fun q h => h
  have hl : lv_has ls 4 [(0, .ref r), (1, .int (nI j)), (2, .int (nI r9))] := hl
  obtain ⟨f, hf, hc9, hft, hn70, ht128, hrc⟩ := id hR
  refine lv_iload_n hx hb dX0_digitAt_0 rfl (lv_at hl 1 rfl) ?_
  refine lv_if_lt (tgt := 12) hx hb dX0_digitAt_1 (by decide) (fun h1 => absurd h1 (nI_pos (by omega))) (fun h1 => ?_)
  refine lv_iload_n hx hb dX0_digitAt_4 rfl (lv_at hl 1 rfl) ?_
  refine lv_aload_n hx hb dX0_digitAt_5 rfl (lv_at hl 0 rfl) ?_
  refine va_get (ci := 2) (C := RX0) (T := TX0) (N := 2) (v := .int (nI n)) hx hb hts (by decide +kernel) hown hK.1 (p1 hf) 0 rfl rfl 1 (by decide) (hts (.fieldLink RX0 15 "Radixbench$Row" "size" "I") (by decide +kernel)) (fun _ h9 => h9) rfl dX0_digitAt_6 ?_
  refine lv_icmp_lt (tgt := 14) hx hb dX0_digitAt_9 (by decide) (fun h2 => ?_) (fun h2 => absurd (nI_lt hj (by omega)) h2)
  have hw : wor (t j) ≤ 99 := by unfold wor; (repeat' split) <;> omega
  refine lv_aload_n hx hb dX0_digitAt_14 rfl (lv_at hl 0 rfl) ?_
  refine va_get (ci := 2) (C := RX0) (T := TX0) (N := 2) (v := .ref c7) hx hb hts (by decide +kernel) hown hK.1 (p1 hf) 0 rfl rfl 0 (by decide) (hts (.fieldLink RX0 9 "Radixbench$Row" "signs" "[C") (by decide +kernel)) (fun _ h9 => h9) rfl dX0_digitAt_15 ?_
  refine lv_iload_n hx hb dX0_digitAt_18 rfl (lv_at hl 1 rfl) ?_
  refine f_cald (j := j) hx hb hK hc9 (by omega) (by decide) dX0_digitAt_19 ?_
  refine tp_i (y := nI (t j)) (hft j (by omega)) ?_
  refine cp_S (As := [.int (nI (t j))]) (rest := []) C0 hl hK hS hA (c_wOf l g s.heap (t j) (ht128 j hj)) gX0_digitAt_X0_worthOf rfl ⟨rfl, rfl⟩ (show hd_ok yX0_worthOf 1 from ⟨by decide, by decide, by decide +kernel⟩) ⟨Nat.le_of_ble_eq_true rfl, Nat.le_of_ble_eq_true rfl⟩ rfl (Nat.le_of_ble_eq_true rfl) ⟨Nat.zero_le _, Nat.zero_le _⟩ dX0_digitAt_20 (fun locs hS => ?_)
  by_cases e99 : wor (t j) = 99
  · rw [if_pos e99]
    refine lv_istore_n (lv' := [(3, .int (-1)), (0, .ref r), (1, .int (nI j)), (2, .int (nI r9))]) hx hb dX0_digitAt_23 rfl hl (by decide) rfl (fun ls hl => ?_)
    refine lv_iload_n hx hb dX0_digitAt_24 rfl (lv_at hl 0 rfl) ?_
    refine lv_iload_n hx hb dX0_digitAt_25 rfl (lv_at hl 3 rfl) ?_
    refine lv_icmp_ge (tgt := 33) hx hb dX0_digitAt_26 (by decide) (fun h3 => absurd (Int32.le_trans h3 (show (-1 : Int32) ≤ -1 from by decide)) (nIm_neg (by omega))) (fun h3 => ?_)
    refine lv_iload_n hx hb dX0_digitAt_29 rfl (lv_at hl 0 rfl) ?_
    refine lv_goto (tgt := 34) hx hb dX0_digitAt_30 (by decide) ?_
    exact rt_i C0 (by unfold dgC; rw [if_neg (by omega)]) hS rfl dX0_digitAt_34
  · rw [if_neg e99]
    refine lv_istore_n (lv' := [(3, .int (nI (wor (t j)))), (0, .ref r), (1, .int (nI j)), (2, .int (nI r9))]) hx hb dX0_digitAt_23 rfl hl (by decide) rfl (fun ls hl => ?_)
    refine lv_iload_n hx hb dX0_digitAt_24 rfl (lv_at hl 0 rfl) ?_
    refine lv_iload_n hx hb dX0_digitAt_25 rfl (lv_at hl 3 rfl) ?_
    refine lv_icmp_ge (tgt := 33) hx hb dX0_digitAt_26 (by decide) (fun h3 => ?_) (fun h3 => ?_)
    · skip
      have n3 := le_n (by omega) h3
      refine lv_iconst (v := (-1)) hx hb dX0_digitAt_33 (by decide) ?_
      exact rt_i C0 (by unfold dgC; rw [if_neg (by omega)]) hS rfl dX0_digitAt_34
    · skip
      have n3 := nle_n (by omega) h3
      refine lv_iload_n hx hb dX0_digitAt_29 rfl (lv_at hl 0 rfl) ?_
      refine lv_goto (tgt := 34) hx hb dX0_digitAt_30 (by decide) ?_
      exact rt_i C0 (by unfold dgC; rw [if_pos n3]) hS rfl dX0_digitAt_34
abbrev rmX0_startsWith : Room := { frames := 0, cells := 0, slots := 0, locals := 0 }
set_option maxHeartbeats 4000000 in
set_option maxRecDepth 100000 in
theorem c_stW (l : Launch) (g : Gx) (H0 : Heap) (r c7 n : Nat) (t : Nat → Nat) (hR : RW g r c7 n t H0) (x : Nat) (hx9 : x < 128) : Met l yX0_startsWith wsX0_startsWith rmX0_startsWith (va_Pc [.ref r, .int (nI x)] (hB g H0)) (pQ (some (.int (bI (decide (0 < n ∧ t 0 = x))))) H0) 0 0 (fun q => H0.size ≤ q) := by
  refine cx_met (own := RX0) (cc := cX0_startsWith) (maxL := 2) (by decide) rfl rfl (Nat.le_of_ble_eq_true rfl) ?_
  intro p e s m below meth c ls C0 hB0 hnm hl
  obtain ⟨hH, hK⟩ := hB0
  obtain ⟨hx, hb, hr, hml, hown, hts, hlk⟩ := id C0
  subst hH
  have hS : va_S (fun q => s.heap.size ≤ q) s.heap s.heap [] := va_S.rf
  have hA : ∀ q : Nat, s.heap.size ≤ q → s.heap.size ≤ q := fun q h => h
  have hl : lv_has ls 2 [(0, .ref r), (1, .int (nI x))] := hl
  obtain ⟨f, hf, hc9, hft, hn70, ht128, hrc⟩ := id hR
  refine lv_aload_n hx hb dX0_startsWith_0 rfl (lv_at hl 0 rfl) ?_
  refine va_get (ci := 2) (C := RX0) (T := TX0) (N := 2) (v := .int (nI n)) hx hb hts (by decide +kernel) hown hK.1 (p1 hf) 0 rfl rfl 1 (by decide) (hts (.fieldLink RX0 15 "Radixbench$Row" "size" "I") (by decide +kernel)) (fun _ h9 => h9) rfl dX0_startsWith_1 ?_
  refine lv_if_le (tgt := 21) hx hb dX0_startsWith_4 (by decide) (fun h1 => ?_) (fun h1 => ?_)
  · skip
    have n1 : n ≤ 0 := le_n (by omega) h1
    refine lv_iconst (v := nI 0) hx hb dX0_startsWith_21 (by decide) ?_
    exact rt_z C0 (by rw [bI_f (decide_eq_false (fun z => by have := z.1; omega))]; rfl) (by rfl) hS rfl dX0_startsWith_22
  · skip
    have n1 : 0 < n := nle_n (by omega) h1
    have ht0 := ht128 0 n1
    refine lv_aload_n hx hb dX0_startsWith_7 rfl (lv_at hl 0 rfl) ?_
    refine va_get (ci := 2) (C := RX0) (T := TX0) (N := 2) (v := .ref c7) hx hb hts (by decide +kernel) hown hK.1 (p1 hf) 0 rfl rfl 0 (by decide) (hts (.fieldLink RX0 9 "Radixbench$Row" "signs" "[C") (by decide +kernel)) (fun _ h9 => h9) rfl dX0_startsWith_8 ?_
    refine lv_iconst (v := nI 0) hx hb dX0_startsWith_11 (by decide) ?_
    refine f_cald (j := 0) hx hb hK hc9 (by decide) (by decide) dX0_startsWith_12 ?_
    refine tp_i (y := nI (t 0)) (hft 0 (by omega)) ?_
    refine lv_iload_n hx hb dX0_startsWith_13 rfl (lv_at hl 1 rfl) ?_
    refine lv_icmp_ne (tgt := 21) hx hb dX0_startsWith_14 (by decide) (fun h2 => ?_) (fun h2 => ?_)
    · skip
      refine lv_iconst (v := nI 0) hx hb dX0_startsWith_21 (by decide) ?_
      exact rt_z C0 (by rw [bI_f (decide_eq_false (fun z => h2 (by rw [z.2])))]; rfl) (by rfl) hS rfl dX0_startsWith_22
    · skip
      refine lv_iconst (v := nI 1) hx hb dX0_startsWith_17 (by decide) ?_
      refine lv_goto (tgt := 22) hx hb dX0_startsWith_18 (by decide) ?_
      exact rt_z C0 (by rw [bI_t (decide_eq_true ⟨n1, nI_inj (by omega) (by omega) h2⟩)]; rfl) (by rfl) hS rfl dX0_startsWith_22
/-- where the digits begin -/
def fdN (n : Nat) (t : Nat → Nat) : Nat := if (0 < n ∧ t 0 = 45) ∨ (0 < n ∧ t 0 = 43) then 1 else 0
abbrev rmX0_firstDigit : Room := { frames := 1, cells := 0, slots := 0, locals := 21 }
set_option maxHeartbeats 4000000 in
set_option maxRecDepth 100000 in
theorem c_fDig (l : Launch) (g : Gx) (H0 : Heap) (r c7 n : Nat) (t : Nat → Nat) (hR : RW g r c7 n t H0) : Met l yX0_firstDigit wsX0_firstDigit rmX0_firstDigit (va_Pc [.ref r] (hB g H0)) (pQ (some (.int (nI (fdN n t)))) H0) 0 0 (fun q => H0.size ≤ q) := by
  refine cx_met (own := RX0) (cc := cX0_firstDigit) (maxL := 1) (by decide) rfl rfl (Nat.le_of_ble_eq_true rfl) ?_
  intro p e s m below meth c ls C0 hB0 hnm hl
  obtain ⟨hH, hK⟩ := hB0
  obtain ⟨hx, hb, hr, hml, hown, hts, hlk⟩ := id C0
  subst hH
  have hS : va_S (fun q => s.heap.size ≤ q) s.heap s.heap [] := va_S.rf
  have hA : ∀ q : Nat, s.heap.size ≤ q → s.heap.size ≤ q := fun q h => h
  have hl : lv_has ls 1 [(0, .ref r)] := hl
  obtain ⟨f, hf, hc9, hft, hn70, ht128, hrc⟩ := id hR
  refine lv_aload_n hx hb dX0_firstDigit_0 rfl (lv_at hl 0 rfl) ?_
  refine lv_bipush (v := nI 45) hx hb dX0_firstDigit_1 (by decide) ?_
  refine cp_V (As := [.int (nI 45)]) (rest := []) C0 hl hK hS hA (c_stW l g s.heap r c7 n t hR 45 (by decide)) gX0_firstDigit_X0_startsWith rfl ⟨rfl, rfl⟩ (hR.recv hK) ⟨rfl, (show hd_ok yX0_startsWith 1 from ⟨by decide, by decide, by decide +kernel⟩)⟩ ⟨Nat.le_of_ble_eq_true rfl, Nat.le_of_ble_eq_true rfl⟩ rfl (Nat.le_of_ble_eq_true rfl) ⟨Nat.zero_le _, Nat.zero_le _⟩ dX0_firstDigit_3 (fun locs hS => ?_)
  refine lv_if_ne (tgt := 18) hx hb dX0_firstDigit_6 (by decide) (fun h1 => ?_) (fun h1 => ?_)
  · skip
    refine lv_iconst (v := nI 1) hx hb dX0_firstDigit_18 (by decide) ?_
    refine lv_goto (tgt := 23) hx hb dX0_firstDigit_19 (by decide) ?_
    exact rt_i C0 (by unfold fdN; rw [if_pos (Or.inl (of_decide_eq_true (bI_n0 h1)))]) hS rfl dX0_firstDigit_23
  · skip
    refine lv_aload_n hx hb dX0_firstDigit_9 rfl (lv_at hl 0 rfl) ?_
    refine lv_bipush (v := nI 43) hx hb dX0_firstDigit_10 (by decide) ?_
    refine cp_V (As := [.int (nI 43)]) (rest := []) C0 hl hK hS hA (c_stW l g s.heap r c7 n t hR 43 (by decide)) gX0_firstDigit_X0_startsWith rfl ⟨rfl, rfl⟩ (hR.recv hK) ⟨rfl, (show hd_ok yX0_startsWith 1 from ⟨by decide, by decide, by decide +kernel⟩)⟩ ⟨Nat.le_of_ble_eq_true rfl, Nat.le_of_ble_eq_true rfl⟩ rfl (Nat.le_of_ble_eq_true rfl) ⟨Nat.zero_le _, Nat.zero_le _⟩ dX0_firstDigit_12 (fun locs hS => ?_)
    refine lv_if_eq (tgt := 22) hx hb dX0_firstDigit_15 (by decide) (fun h2 => ?_) (fun h2 => ?_)
    · skip
      refine lv_iconst (v := nI 0) hx hb dX0_firstDigit_22 (by decide) ?_
      exact rt_i C0 (by unfold fdN; rw [if_neg (fun z => z.elim (of_decide_eq_false (bI_0 h1)) (of_decide_eq_false (bI_0 h2)))]) hS rfl dX0_firstDigit_23
    · skip
      refine lv_iconst (v := nI 1) hx hb dX0_firstDigit_18 (by decide) ?_
      refine lv_goto (tgt := 23) hx hb dX0_firstDigit_19 (by decide) ?_
      exact rt_i C0 (by unfold fdN; rw [if_pos (Or.inr (of_decide_eq_true (bI_n0 h2)))]) hS rfl dX0_firstDigit_23
abbrev rmX0_greatest : Room := { frames := 0, cells := 0, slots := 0, locals := 0 }
set_option maxHeartbeats 4000000 in
set_option maxRecDepth 100000 in
theorem c_gtN (l : Launch) (g : Gx) (H0 : Heap) (d9 : Nat) (bl : Bool) (hd9 : d9 < 4) : Met l yX0_greatest wsX0_greatest rmX0_greatest (va_Pc [.int (nI d9), .int (bI bl)] (hB g H0)) (pQ (some (.long (lN (gtN d9 bl)))) H0) 0 0 (fun q => H0.size ≤ q) := by
  refine cx_met (own := RX0) (cc := cX0_greatest) (maxL := 2) (by decide) rfl rfl (Nat.le_of_ble_eq_true rfl) ?_
  intro p e s m below meth c ls C0 hB0 hnm hl
  obtain ⟨hH, hK⟩ := hB0
  obtain ⟨hx, hb, hr, hml, hown, hts, hlk⟩ := id C0
  subst hH
  have hS : va_S (fun q => s.heap.size ≤ q) s.heap s.heap [] := va_S.rf
  have hA : ∀ q : Nat, s.heap.size ≤ q → s.heap.size ≤ q := fun q h => h
  have hl : lv_has ls 2 [(0, .int (nI d9)), (1, .int (bI bl))] := hl
  have ed : (nI d9).toInt = (d9 : Int) := nI_toInt (by omega)
  refine lv_iload_n hx hb dX0_greatest_0 rfl (lv_at hl 0 rfl) ?_
  rcases (show d9 = 0 ∨ d9 = 1 ∨ d9 = 2 ∨ d9 = 3 by omega) with e | e | e | e
  · skip
    refine lv_tableIn (tgt := 28) (off := 27) (h1 := by rw [ed]; omega) (h2 := by rw [ed]; omega) (ho := by rw [ed, e]; rfl) (ht := by decide) hx hb dX0_greatest_1 ?_
    refine lv_iload_n hx hb dX0_greatest_28 rfl (lv_at hl 1 rfl) ?_
    refine lv_if_eq (tgt := 38) hx hb dX0_greatest_29 (by decide) (fun h1 => ?_) (fun h1 => ?_)
    · skip
      refine lv_ldc2 (v := lN 2147483647) hx hb hown (hts (.constantLong RX0 60 (2147483647)) (by decide +kernel)) dX0_greatest_38 ?_
      exact rt_l C0 (by unfold gtN; rw [bI_0 h1, e]; decide) hS rfl dX0_greatest_41
    · skip
      refine lv_ldc2 (v := lN 2147483648) hx hb hown (hts (.constantLong RX0 58 (2147483648)) (by decide +kernel)) dX0_greatest_32 ?_
      refine lv_goto (tgt := 41) hx hb dX0_greatest_35 (by decide) ?_
      exact rt_l C0 (by unfold gtN; rw [bI_n0 h1, e]; decide) hS rfl dX0_greatest_41
  · skip
    refine lv_tableIn (tgt := 42) (off := 41) (h1 := by rw [ed]; omega) (h2 := by rw [ed]; omega) (ho := by rw [ed, e]; rfl) (ht := by decide) hx hb dX0_greatest_1 ?_
    refine lv_ldc2 (v := lN 4294967295) hx hb hown (hts (.constantLong RX0 62 (4294967295)) (by decide +kernel)) dX0_greatest_42 ?_
    exact rt_l C0 (by unfold gtN; rw [e]; cases bl <;> decide) hS rfl dX0_greatest_45
  · skip
    refine lv_tableIn (tgt := 46) (off := 45) (h1 := by rw [ed]; omega) (h2 := by rw [ed]; omega) (ho := by rw [ed, e]; rfl) (ht := by decide) hx hb dX0_greatest_1 ?_
    refine lv_iload_n hx hb dX0_greatest_46 rfl (lv_at hl 1 rfl) ?_
    refine lv_if_eq (tgt := 56) hx hb dX0_greatest_47 (by decide) (fun h1 => ?_) (fun h1 => ?_)
    · skip
      refine lv_ldc2 (v := lN 9223372036854775807) hx hb hown (hts (.constantLong RX0 68 (9223372036854775807)) (by decide +kernel)) dX0_greatest_56 ?_
      exact rt_l C0 (by unfold gtN; rw [bI_0 h1, e]; decide) hS rfl dX0_greatest_59
    · skip
      refine lv_ldc2 (v := (-9223372036854775808)) hx hb hown (hts (.constantLong RX0 66 (-9223372036854775808)) (by decide +kernel)) dX0_greatest_50 ?_
      refine lv_goto (tgt := 59) hx hb dX0_greatest_53 (by decide) ?_
      exact rt_l C0 (by unfold gtN; rw [bI_n0 h1, e]; decide) hS rfl dX0_greatest_59
  · skip
    refine lv_tableOut (tgt := 60) (h := Or.inr (by rw [ed]; omega)) (ht := by decide) hx hb dX0_greatest_1 ?_
    refine lv_ldc2 (v := (-1)) hx hb hown (hts (.constantLong RX0 70 (-1)) (by decide +kernel)) dX0_greatest_60 ?_
    exact rt_l C0 (by unfold gtN; rw [e]; cases bl <;> decide) hS rfl dX0_greatest_63
end M64

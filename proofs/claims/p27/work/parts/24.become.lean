-- isSoundNow, of, become
theorem ups {α : Type} (f : Nat → α) (k : Nat) (v : α) : va_up f k v k = v := if_pos rfl
/-- the model with another row for one cell -/
theorem MD.put {g : Gx} {H0 H : Heap} {z0 mc lf dg i q v : Nat} {fs : List Value} {rr V : Nat → Nat} {fr' : Nat → Option Nat} (h : MD g H0 z0 mc lf dg fs rr V) (hk : ∀ x : Nat, x < H0.size → ¬ x = mc → H[x]? = H0[x]?) (hq : H0.size ≤ q) (hv : v < 65536 ^ 4) (hr : va_at g.1 vwCl (q, .inl (g.2 0, 4, .inl (rw16 v))) H) (hm : va_at g.1 vwCl (mc, gRow 8 fr' g) H) (hfr' : ∀ j, j < 8 → fr' j = some (va_up rr i q j)) : MD g H z0 mc lf dg fs (va_up rr i q) (va_up V i v) := by
  obtain ⟨hz, h0, h1, h2, h3, ⟨fr, hg9, hfr⟩, hrr, ⟨f, hf⟩, ⟨d, hd⟩, n1, n2, n3, n4, n5, n6⟩ := h
  refine ⟨hz.kept (hk _ hz.lt n1), h0, h1, h2, h3, ⟨fr', hm, hfr'⟩, fun j hj => ?_, ⟨f, hf.kept (hk _ hf.lt (fun z => n4 z.symm))⟩, ⟨d, hd.kept (hk _ hd.lt (fun z => n5 z.symm))⟩, n1, n2, n3, n4, n5, n6⟩
  by_cases e : j = i
  · subst e
    rw [ups, ups]
    have a1 := hz.lt
    have a2 := hg9.lt
    have a3 := hf.lt
    have a4 := hd.lt
    dsimp only at a1 a2 a3 a4
    exact ⟨hr, hv, by omega, by omega, by omega, by omega⟩
  · rw [va_up_ne _ _ e, va_up_ne _ _ e]
    obtain ⟨b1, b2, b3, b4, b5, b6⟩ := hrr j hj
    exact ⟨b1.kept (hk _ b1.lt b4), b2, b3, b4, b5, b6⟩
theorem wideN_lt {n v : Nat} (hn : n = 2 ∨ n = 4) (hv : v < 65536 ^ n) : wideN n v < 65536 ^ 4 := by
  unfold wideN
  rcases hn with rfl | rfl <;> split <;> omega
section M24
variable {p : Program} {l : Launch} {e : Env} {s : State} {m : MethodId} {args : Array Value} {below : List Frame} {meth : Method} {c : Code} {H H0 : Heap} {locs : List Loc} {cells slots : Nat} {Q : State → Prop} {A : Nat → Prop} {g : Gx}
set_option maxHeartbeats 4000000 in
set_option maxRecDepth 100000 in
/-- isSoundNow(): that it ends, and what it makes -/
theorem c_isSoundNow (l : Launch) (g : Gx) (H0 : Heap) (z0 mc lf dg k9 : Nat) (fs : List Value) (rr V : Nat → Nat) (hM : MD g H0 z0 mc lf dg fs rr V) (hk9 : scost V 8 ≤ k9) : Met l yX4_isSoundNow wsX4_isSoundNow (rmX4_isSoundNow k9) (va_Pc [.ref z0] (hB g H0)) (nQ H0 (fun q => q = lf ∨ q = dg) (bkQ g lf dg)) k9 (4 * k9) (fun q => (q = lf ∨ q = dg) ∨ H0.size ≤ q) := by
  refine cx_met (own := RX4) (cc := cX4_isSoundNow) (maxL := 4) (by decide) rfl rfl (Nat.le_of_ble_eq_true rfl) ?_
  intro p e s m below meth c ls C0 hB0 hnm hl
  obtain ⟨hH, hK⟩ := hB0
  obtain ⟨hx, hb, hr, hml, hown, hts, hlk⟩ := id C0
  subst hH
  have hS : va_S (fun q => (q = lf ∨ q = dg) ∨ s.heap.size ≤ q) s.heap s.heap [] := va_S.rf
  have hA : ∀ q : Nat, s.heap.size ≤ q → (fun q => (q = lf ∨ q = dg) ∨ s.heap.size ≤ q) q := fun q h => Or.inr h
  have hl : lv_has ls 4 [(0, .ref z0)] := hl
  obtain ⟨-, -, -, -, -, -, -, ⟨f, hf⟩, ⟨d, hd⟩, -, -, -, -, -, hld⟩ := id hM
  refine lv_iconst (v := nI 0) hx hb dX4_isSoundNow_0 (by decide) ?_
  refine lv_istore_n (lv' := [(1, .int (nI 0)), (0, .ref z0)]) hx hb dX4_isSoundNow_1 rfl hl (by decide) rfl (fun ls hl => ?_)
  exact L_sound C0 hK rfl hM hk9 9 0 f d (by decide) (by decide) ls s.heap [] (pcs hf (p1 hd)) (two_d hld (Or.inl (Or.inl rfl)) (Or.inl (Or.inr rfl))) hS hl
abbrev rmX4_of : Room := { frames := 1, cells := 1, slots := 4, locals := 23 }
set_option maxHeartbeats 4000000 in
set_option maxRecDepth 100000 in
/-- of(cell, isInt) -/
theorem c_of (l : Launch) (g : Gx) (H0 : Heap) (z0 mc i9 r9 v : Nat) (yb : Bool) (fs : List Value) (fr : Nat → Option Nat) (hz : va_at g.1 vwCl (z0, .inr (5, fs)) H0) (hmc : fs[1]? = some (.ref mc)) (hg9 : va_at g.1 vwCl (mc, gRow 8 fr g) H0) (hfr : fr i9 = some r9) (hi9 : i9 < 8) (hrw : va_at g.1 vwCl (r9, .inl (g.2 0, 4, .inl (rw16 v))) H0) : Met l yX4_of wsX4_of rmX4_of (va_Pc [.ref z0, .int (nI i9), .int (bI yb)] (hB g H0)) (nQ H0 (fun _ => False) (mkR g H0 (if yb then 2 else 4) (v % 65536 ^ (if yb then 2 else 4)))) 1 4 (fun q => False ∨ H0.size ≤ q) := by
  refine cx_met (own := RX4) (cc := cX4_of) (maxL := 3) (by decide) rfl rfl (Nat.le_of_ble_eq_true rfl) ?_
  intro p e s m below meth c ls C0 hB0 hnm hl
  obtain ⟨hH, hK⟩ := hB0
  obtain ⟨hx, hb, hr, hml, hown, hts, hlk⟩ := id C0
  subst hH
  have hS : va_S (fun q => False ∨ s.heap.size ≤ q) s.heap s.heap [] := va_S.rf
  have hA : ∀ q : Nat, s.heap.size ≤ q → (fun q => False ∨ s.heap.size ≤ q) q := fun q h => Or.inr h
  have hl : lv_has ls 3 [(0, .ref z0), (1, .int (nI i9)), (2, .int (bI yb))] := hl
  refine lv_aload_n hx hb dX4_of_0 rfl (lv_at hl 0 rfl) ?_
  refine r_get (ci := 5) (C := RX4) (T := TX4) (N := 10) (v := .ref mc) hx hb hts (by decide +kernel) hown hK hS hz (nA' hz (fun z => z)) rfl 1 (by decide) (hts (.fieldLink RX4 11 "RadixbenchModel" "cells" "[[I") (by decide +kernel)) (fun _ h9 => h9) hmc dX4_of_1 ?_
  refine lv_iload_n hx hb dX4_of_4 rfl (lv_at hl 1 rfl) ?_
  refine w_aald (j := i9) hx hb hK hg9 hi9 (by decide) hfr dX4_of_5 ?_
  refine lv_iload_n hx hb dX4_of_6 rfl (lv_at hl 2 rfl) ?_
  refine lv_if_eq (tgt := 14) hx hb dX4_of_7 (by decide) (fun h1 => ?_) (fun h1 => ?_)
  · skip
    obtain rfl : yb = false := bI_0 h1
    refine lv_iconst (v := nI 4) hx hb dX4_of_14 (by decide) ?_
    refine cn_S (As := [.ref r9, .int (nI 4)]) (rest := []) C0 hl hK hS hA (fun z h => absurd h (fun z => z)) (c_part l g s.heap r9 4 4 v (by decide) (by decide) hrw) gX4_of_X4_part rfl ⟨rfl, rfl⟩ (show hd_ok yX4_part 2 from ⟨by decide, by decide, by decide +kernel⟩) ⟨Nat.le_of_ble_eq_true rfl, Nat.le_of_ble_eq_true rfl⟩ rfl (Nat.le_of_ble_eq_true rfl) ⟨by decide, by decide⟩ dX4_of_15 (fun r1 H1 locs hv hzz hk1 hS => ?_)
    obtain ⟨q9, rfl, hq9, g9⟩ := hv
    exact rt_a (mu := fun _ => False) C0 (Or.inr ⟨_, rfl⟩) ⟨q9, rfl, hq9, g9⟩ hS rfl dX4_of_18
  · skip
    obtain rfl : yb = true := bI_n0 h1
    refine lv_iconst (v := nI 2) hx hb dX4_of_10 (by decide) ?_
    refine lv_goto (tgt := 15) hx hb dX4_of_11 (by decide) ?_
    refine cn_S (As := [.ref r9, .int (nI 2)]) (rest := []) C0 hl hK hS hA (fun z h => absurd h (fun z => z)) (c_part l g s.heap r9 4 2 v (by decide) (by decide) hrw) gX4_of_X4_part rfl ⟨rfl, rfl⟩ (show hd_ok yX4_part 2 from ⟨by decide, by decide, by decide +kernel⟩) ⟨Nat.le_of_ble_eq_true rfl, Nat.le_of_ble_eq_true rfl⟩ rfl (Nat.le_of_ble_eq_true rfl) ⟨by decide, by decide⟩ dX4_of_15 (fun r1 H1 locs hv hzz hk1 hS => ?_)
    obtain ⟨q9, rfl, hq9, g9⟩ := hv
    exact rt_a (mu := fun _ => False) C0 (Or.inr ⟨_, rfl⟩) ⟨q9, rfl, hq9, g9⟩ hS rfl dX4_of_18
abbrev rmX4_become : Room := { frames := 2, cells := 1, slots := 4, locals := 42 }
/-- become's answer, and the model behind it -/
def bcQ (g : Gx) (H0 : Heap) (z0 mc lf dg : Nat) (fs : List Value) (rr V : Nat → Nat) (i w : Nat) : Option Value → Heap → Prop := fun r H1 => ∃ q : Nat, H0.size ≤ q ∧ r = some (.int (bI (!decide (w = V i)))) ∧ MD g H1 z0 mc lf dg fs (va_up rr i q) (va_up V i w)
set_option maxHeartbeats 4000000 in
set_option maxRecDepth 100000 in
/-- become(cell, own) -/
theorem c_become (l : Launch) (g : Gx) (H0 : Heap) (z0 mc lf dg i9 a n9 v : Nat) (fs : List Value) (rr V : Nat → Nat) (hM : MD g H0 z0 mc lf dg fs rr V) (hi9 : i9 < 8) (hn9 : n9 = 2 ∨ n9 = 4) (hv9 : v < 65536 ^ n9) (ha : va_at g.1 vwCl (a, .inl (g.2 0, n9, .inl (rw16 v))) H0) : Met l yX4_become wsX4_become rmX4_become (va_Pc [.ref z0, .int (nI i9), .ref a] (hB g H0)) (nQ H0 (fun q => q = mc) (bcQ g H0 z0 mc lf dg fs rr V i9 (wideN n9 v))) 1 4 (fun q => q = mc ∨ H0.size ≤ q) := by
  refine cx_met (own := RX4) (cc := cX4_become) (maxL := 5) (by decide) rfl rfl (Nat.le_of_ble_eq_true rfl) ?_
  intro p e s m below meth c ls C0 hB0 hnm hl
  obtain ⟨hH, hK⟩ := hB0
  obtain ⟨hx, hb, hr, hml, hown, hts, hlk⟩ := id C0
  subst hH
  have hS : va_S (fun q => q = mc ∨ s.heap.size ≤ q) s.heap s.heap [] := va_S.rf
  have hA : ∀ q : Nat, s.heap.size ≤ q → (fun q => q = mc ∨ s.heap.size ≤ q) q := fun q h => Or.inr h
  have hl : lv_has ls 5 [(0, .ref z0), (1, .int (nI i9)), (2, .ref a)] := hl
  obtain ⟨hz, -, hmc, -, -, ⟨fr, hg9, hfr⟩, hrr, -, -, n1, -⟩ := id hM
  obtain ⟨hrw, hV, -, m2, -⟩ := hrr i9 hi9
  refine lv_aload_n hx hb dX4_become_0 rfl (lv_at hl 2 rfl) ?_
  refine cn_S (As := [.ref a]) (rest := []) C0 hl hK hS hA (fun z h => absurd h (fun z => z)) (c_wide l g s.heap a n9 v hn9 hv9 ha) gX4_become_X4_wide rfl ⟨rfl, rfl⟩ (show hd_ok yX4_wide 1 from ⟨by decide, by decide, by decide +kernel⟩) ⟨Nat.le_of_ble_eq_true rfl, Nat.le_of_ble_eq_true rfl⟩ rfl (Nat.le_of_ble_eq_true rfl) ⟨by decide, by decide⟩ dX4_become_1 (fun r1 H1 locs hv hzz hk1 hS => ?_)
  obtain ⟨q9, rfl, hq9, g9⟩ := hv
  refine lv_astore_n (lv' := [(3, .ref q9), (0, .ref z0), (1, .int (nI i9)), (2, .ref a)]) hx hb dX4_become_4 rfl hl (by decide) rfl (fun ls hl => ?_)
  refine lv_aload_n hx hb dX4_become_5 rfl (lv_at hl 0 rfl) ?_
  refine lv_aload_n hx hb dX4_become_6 rfl (lv_at hl 1 rfl) ?_
  refine r_get (ci := 5) (C := RX4) (T := TX4) (N := 10) (v := .ref mc) hx hb hts (by decide +kernel) hown hK hS hz (nA' hz n1) rfl 1 (by decide) (hts (.fieldLink RX4 11 "RadixbenchModel" "cells" "[[I") (by decide +kernel)) (fun _ h9 => h9) hmc dX4_become_7 ?_
  refine lv_iload_n hx hb dX4_become_10 rfl (lv_at hl 2 rfl) ?_
  refine w_aald (j := i9) hx hb hK (hg9.kept (hk1 _ hg9.lt (fun z => z))) hi9 (by decide) (hfr i9 hi9) dX4_become_11 ?_
  refine cp_S (As := [.ref q9, .ref (rr i9)]) (rest := []) C0 hl hK hS hA (c_isSame l g H1 q9 (rr i9) 4 (wideN n9 v) (V i9) (by decide) (wideN_lt hn9 hv9) hV g9 (hrw.kept (hk1 _ hrw.lt (fun z => z)))) gX4_become_X4_isSame rfl ⟨rfl, rfl⟩ (show hd_ok yX4_isSame 2 from ⟨by decide, by decide, by decide +kernel⟩) ⟨Nat.le_of_ble_eq_true rfl, Nat.le_of_ble_eq_true rfl⟩ rfl (Nat.le_of_ble_eq_true rfl) ⟨by decide, by decide⟩ dX4_become_12 (fun locs hS => ?_)
  refine lv_if_ne (tgt := 22) hx hb dX4_become_15 (by decide) (fun h1 => ?_) (fun h1 => ?_)
  · skip
    refine lv_iconst (v := nI 0) hx hb dX4_become_22 (by decide) ?_
    refine tp_i (y := bI false) (rfl) ?_
    refine lv_istore (lv' := [(4, .int (bI false)), (3, .ref q9), (0, .ref z0), (1, .int (nI i9)), (2, .ref a)]) hx hb dX4_become_23 hl (by decide) rfl (fun ls hl => ?_)
    refine lv_aload_n hx hb dX4_become_25 rfl (lv_at hl 2 rfl) ?_
    refine r_get (ci := 5) (C := RX4) (T := TX4) (N := 10) (v := .ref mc) hx hb hts (by decide +kernel) hown hK hS hz (nA' hz n1) rfl 1 (by decide) (hts (.fieldLink RX4 11 "RadixbenchModel" "cells" "[[I") (by decide +kernel)) (fun _ h9 => h9) hmc dX4_become_26 ?_
    refine lv_iload_n hx hb dX4_become_29 rfl (lv_at hl 3 rfl) ?_
    refine lv_aload_n hx hb dX4_become_30 rfl (lv_at hl 1 rfl) ?_
    refine w_aast (j := i9) hx hb hK (ws := [(mc, gRow 8 fr g)]) (p1 (hg9.kept (hk1 _ hg9.lt (fun z => z)))) (d1 (Or.inl rfl)) hS 0 rfl hi9 (by decide) g9 dX4_become_31 (fun H2 locs hP hD hS hz2 ho2 => ?_)
    refine lv_iload hx hb dX4_become_32 (lv_at hl 0 rfl) ?_
    have hq9m : q9 ≠ mc := fun z => by have := hg9.lt; dsimp only at this; omega
    have hMM := hM.put (i := i9) (q := q9) (v := wideN n9 v) (H := H2) (fun x h1 h2 => (ho2 x h2).trans (hk1 x h1 (fun z => z))) hq9 (wideN_lt hn9 hv9) (g9.kept (ho2 _ hq9m)) (hP 0 _ rfl) (fun j hj => by by_cases e : j = i9; exact (by subst e; rw [ups, ups]); exact (by rw [va_up_ne _ _ e, va_up_ne _ _ e]; exact hfr j hj))
    exact rt_ni (mu := fun q => q = mc) C0 (bI_nar false) ⟨q9, hq9, by rw [decide_eq_true (of_decide_eq_true (bI_n0 h1))]; rfl, hMM⟩ hS rfl dX4_become_34
  · skip
    have h1 : bI (decide (wideN n9 v = V i9)) = 0 := by
      rcases Classical.em (bI (decide (wideN n9 v = V i9)) = 0) with z | z
      · exact z
      · exact absurd h1 z
    refine lv_iconst (v := nI 1) hx hb dX4_become_18 (by decide) ?_
    refine lv_goto (tgt := 23) hx hb dX4_become_19 (by decide) ?_
    refine tp_i (y := bI true) (rfl) ?_
    refine lv_istore (lv' := [(4, .int (bI true)), (3, .ref q9), (0, .ref z0), (1, .int (nI i9)), (2, .ref a)]) hx hb dX4_become_23 hl (by decide) rfl (fun ls hl => ?_)
    refine lv_aload_n hx hb dX4_become_25 rfl (lv_at hl 2 rfl) ?_
    refine r_get (ci := 5) (C := RX4) (T := TX4) (N := 10) (v := .ref mc) hx hb hts (by decide +kernel) hown hK hS hz (nA' hz n1) rfl 1 (by decide) (hts (.fieldLink RX4 11 "RadixbenchModel" "cells" "[[I") (by decide +kernel)) (fun _ h9 => h9) hmc dX4_become_26 ?_
    refine lv_iload_n hx hb dX4_become_29 rfl (lv_at hl 3 rfl) ?_
    refine lv_aload_n hx hb dX4_become_30 rfl (lv_at hl 1 rfl) ?_
    refine w_aast (j := i9) hx hb hK (ws := [(mc, gRow 8 fr g)]) (p1 (hg9.kept (hk1 _ hg9.lt (fun z => z)))) (d1 (Or.inl rfl)) hS 0 rfl hi9 (by decide) g9 dX4_become_31 (fun H2 locs hP hD hS hz2 ho2 => ?_)
    refine lv_iload hx hb dX4_become_32 (lv_at hl 0 rfl) ?_
    have hq9m : q9 ≠ mc := fun z => by have := hg9.lt; dsimp only at this; omega
    have hMM := hM.put (i := i9) (q := q9) (v := wideN n9 v) (H := H2) (fun x h1 h2 => (ho2 x h2).trans (hk1 x h1 (fun z => z))) hq9 (wideN_lt hn9 hv9) (g9.kept (ho2 _ hq9m)) (hP 0 _ rfl) (fun j hj => by by_cases e : j = i9; exact (by subst e; rw [ups, ups]); exact (by rw [va_up_ne _ _ e, va_up_ne _ _ e]; exact hfr j hj))
    exact rt_ni (mu := fun q => q = mc) C0 (bI_nar true) ⟨q9, hq9, by rw [decide_eq_false (of_decide_eq_false (bI_0 h1))]; rfl, hMM⟩ hS rfl dX4_become_34
end M24

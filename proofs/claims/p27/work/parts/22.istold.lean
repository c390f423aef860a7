-- the model's object, its cells, its kept rows; isTold
/-- the model in the heap H: its fields fs, its eight cells V in the rows rr of mc, its kept rows; all that is written apart -/
def MD (g : Gx) (H : Heap) (z0 mc lf dg : Nat) (fs : List Value) (rr V : Nat → Nat) : Prop :=
  va_at g.1 vwCl (z0, .inr (5, fs)) H ∧ fs.length = 10 ∧ fs[1]? = some (.ref mc) ∧ fs[7]? = some (.ref dg) ∧ fs[8]? = some (.ref lf) ∧
  (∃ fr : Nat → Option Nat, va_at g.1 vwCl (mc, gRow 8 fr g) H ∧ ∀ i, i < 8 → fr i = some (rr i)) ∧
  (∀ i, i < 8 → va_at g.1 vwCl (rr i, .inl (g.2 0, 4, .inl (rw16 (V i)))) H ∧ V i < 65536 ^ 4 ∧ rr i ≠ z0 ∧ rr i ≠ mc ∧ rr i ≠ lf ∧ rr i ≠ dg) ∧
  (∃ f : Nat → Int32, va_at g.1 vwCl (lf, .inl (g.2 0, 4, .inl f)) H) ∧ (∃ d : Nat → Int32, va_at g.1 vwCl (dg, .inl (g.2 0, 64, .inl d)) H) ∧
  z0 ≠ mc ∧ z0 ≠ lf ∧ z0 ≠ dg ∧ mc ≠ lf ∧ mc ≠ dg ∧ lf ≠ dg
section M22
variable {p : Program} {l : Launch} {e : Env} {s : State} {m : MethodId} {args : Array Value} {below : List Frame} {meth : Method} {c : Code} {H H0 : Heap} {locs : List Loc} {cells slots : Nat} {Q : State → Prop} {A : Nat → Prop} {g : Gx}
abbrev rmX4_isTold : Room := { frames := 2, cells := 0, slots := 0, locals := 56 }
set_option maxHeartbeats 4000000 in
set_option maxRecDepth 100000 in
theorem L_told1 (C0 : Cx p s m args meth c RX4 cX4_isTold 4 (some .boolean) wsX4_isTold) (hK : KK g s) {z0 mc lf dg i9 : Nat} {fs : List Value} {fr : Nat → Option Nat} {rr V : Nat → Nat} (hz : va_at g.1 vwCl (z0, .inr (5, fs)) H0) (hmc : fs[1]? = some (.ref mc)) (hdg : fs[7]? = some (.ref dg)) (hlf : fs[8]? = some (.ref lf)) (hg9 : va_at g.1 vwCl (mc, gRow 8 fr g) H0) (hfr : fr i9 = some (rr i9)) (hi9 : i9 < 8) (hrw : va_at g.1 vwCl (rr i9, .inl (g.2 0, 4, .inl (rw16 (V i9)))) H0) (hrm : ¬ (rr i9 = lf ∨ rr i9 = dg)) (hzm : ¬ (z0 = lf ∨ z0 = dg)) (hmm : ¬ (mc = lf ∨ mc = dg)) (hld : lf ≠ dg) {r9 : Nat} (hr9 : 2 ≤ r9 ∧ r9 ≤ 36) (K : ∀ (f d : Nat → Int32) (ls : Array Slot) (H : Heap) (locs : List Loc), va_P g.1 vwCl [(lf, .inl (g.2 0, 4, .inl f)), (dg, .inl (g.2 0, 64, .inl d))] H → va_D (fun q => (q = lf ∨ q = dg) ∨ H0.size ≤ q) [(lf, .inl (g.2 0, 4, .inl f)), (dg, .inl (g.2 0, 64, .inl d))] → va_S (fun q => (q = lf ∨ q = dg) ∨ H0.size ≤ q) H0 H locs → lv_has ls 4 [(3, .int (nI 4)), (2, .int (nI r9)), (0, .ref z0), (1, .int (nI i9))] → W p l e rmX4_isTold s m args below meth c H locs 0 0 Q (F0 m 52 ls [])) (K2 : ∀ (k : Nat) (f d : Nat → Int32) (ls : Array Slot) (H : Heap) (locs : List Loc), va_P g.1 vwCl [(lf, .inl (g.2 0, 4, .inl f)), (dg, .inl (g.2 0, 64, .inl d))] H → va_D (fun q => (q = lf ∨ q = dg) ∨ H0.size ≤ q) [(lf, .inl (g.2 0, 4, .inl f)), (dg, .inl (g.2 0, 64, .inl d))] → va_S (fun q => (q = lf ∨ q = dg) ∨ H0.size ≤ q) H0 H locs → lv_has ls 4 [(3, .int (nI k)), (2, .int (nI r9)), (0, .ref z0), (1, .int (nI i9))] → W p l e rmX4_isTold s m args below meth c H locs 0 0 Q (F0 m 44 ls [])) : ∀ (n : Nat) (k : Nat) (f d : Nat → Int32), k ≤ 4 → 4 - k < n → ∀ (ls : Array Slot) (H : Heap) (locs : List Loc), va_P g.1 vwCl [(lf, .inl (g.2 0, 4, .inl f)), (dg, .inl (g.2 0, 64, .inl d))] H → va_D (fun q => (q = lf ∨ q = dg) ∨ H0.size ≤ q) [(lf, .inl (g.2 0, 4, .inl f)), (dg, .inl (g.2 0, 64, .inl d))] → va_S (fun q => (q = lf ∨ q = dg) ∨ H0.size ≤ q) H0 H locs → lv_has ls 4 [(3, .int (nI k)), (2, .int (nI r9)), (0, .ref z0), (1, .int (nI i9))] → W p l e rmX4_isTold s m args below meth c H locs 0 0 Q (F0 m 10 ls []) := by
  obtain ⟨hx, hb, hr, hml, hown, hts, hlk⟩ := id C0
  have hA : ∀ q : Nat, H0.size ≤ q → (fun q => (q = lf ∨ q = dg) ∨ H0.size ≤ q) q := fun _ h => Or.inr h
  intro n
  induction n with
  | zero => intro k f d _ h; exact absurd h (Nat.not_lt_zero _)
  | succ n ih =>
    intro k f d hk hn ls H locs hP hD hS hl
    refine lv_iload_n hx hb dX4_isTold_10 rfl (lv_at hl 0 rfl) ?_
    refine lv_iconst (v := nI 4) hx hb dX4_isTold_11 (by decide) ?_
    refine lv_icmp_ge (tgt := 52) hx hb dX4_isTold_12 (by decide) (fun h1 => ?_) (fun h1 => ?_)
    · skip
      have hge : 4 ≤ k := by
        rcases Nat.lt_or_ge k 4 with h | h
        · exact absurd h1 (nI_ge h (by omega))
        · exact h
      obtain rfl : k = 4 := by omega
      exact K f d ls H locs hP hD hS hl
    · skip
      have hlt : k < 4 := by
        rcases Nat.lt_or_ge k 4 with h | h
        · exact h
        · exact absurd (nI_le h (by omega)) h1
      refine lv_aload_n hx hb dX4_isTold_15 rfl (lv_at hl 2 rfl) ?_
      refine lv_aload_n hx hb dX4_isTold_16 rfl (lv_at hl 2 rfl) ?_
      refine r_get (ci := 5) (C := RX4) (T := TX4) (N := 10) (v := .ref mc) hx hb hts (by decide +kernel) hown hK hS hz (nA' hz hzm) rfl 1 (by decide) (hts (.fieldLink RX4 11 "RadixbenchModel" "cells" "[[I") (by decide +kernel)) (fun _ h9 => h9) hmc dX4_isTold_17 ?_
      refine lv_iload_n hx hb dX4_isTold_20 rfl (lv_at hl 3 rfl) ?_
      refine w_aald (j := i9) hx hb hK (hg9.kp hS (nA' hg9 hmm)) hi9 (by decide) hfr dX4_isTold_21 ?_
      refine lv_iload_n hx hb dX4_isTold_22 rfl (lv_at hl 0 rfl) ?_
      refine cp_S (As := [.int (nI k)]) (rest := [.ref (rr i9), .ref z0]) C0 hl hK hS hA (c_size l g H k hlt) gX4_isTold_X4_size rfl ⟨rfl, rfl⟩ (show hd_ok yX4_size 1 from ⟨by decide, by decide, by decide +kernel⟩) ⟨Nat.le_of_ble_eq_true rfl, Nat.le_of_ble_eq_true rfl⟩ rfl (Nat.le_of_ble_eq_true rfl) ⟨Nat.zero_le _, Nat.zero_le _⟩ dX4_isTold_23 (fun locs hS => ?_)
      obtain ⟨k9, ek9, hk9⟩ : ∃ k9, (if k < 2 then 2 else 4) = k9 ∧ (k9 = 2 ∨ k9 = 4) := by
        split
        · exact ⟨2, rfl, Or.inl rfl⟩
        · exact ⟨4, rfl, Or.inr rfl⟩
      refine tp_i (y := nI k9) (congrArg nI ek9) ?_
      refine lv_iload_n hx hb dX4_isTold_26 rfl (lv_at hl 1 rfl) ?_
      refine lv_iload_n hx hb dX4_isTold_27 rfl (lv_at hl 0 rfl) ?_
      refine lv_iconst (v := nI 2) hx hb dX4_isTold_28 (by decide) ?_
      refine lv_irem hx hb dX4_isTold_29 (by decide) ?_
      refine tp_i (y := nI (k % 2)) (pk_rem (by omega) (by omega) (by omega)) ?_
      refine lv_if_ne (tgt := 37) hx hb dX4_isTold_30 (by decide) (fun h2 => ?_) (fun h2 => ?_)
      · skip
        refine lv_iconst (v := nI 0) hx hb dX4_isTold_37 (by decide) ?_
        refine tp_i (y := bI false) (rfl) ?_
        refine cn_V (As := [.ref (rr i9), .int (nI k9), .int (nI r9), .int (bI false)]) (rest := []) C0 hl hK hS hA (fun z h => Or.inl h) (c_isBack l g H z0 (rr i9) lf dg k9 r9 (V i9) false f d fs (hz.kp hS (nA' hz hzm)) hdg hlf (fun z => hzm (Or.inl z)) hzm hld (hrw.kp hS (nA' hrw hrm)) hrm hk9 hr9 (hP 0 _ rfl) (hP 1 _ rfl)) gX4_isTold_X4_isBack rfl ⟨rfl, rfl⟩ ((va_recv hK.1 (p1 (hz.kp hS (nA' hz hzm))) (ci := 5) (q0 := 0) rfl rfl)) ⟨rfl, (show hd_ok yX4_isBack 4 from ⟨by decide, by decide, by decide +kernel⟩)⟩ ⟨Nat.le_of_ble_eq_true rfl, Nat.le_of_ble_eq_true rfl⟩ rfl (Nat.le_of_ble_eq_true rfl) ⟨Nat.zero_le _, Nat.zero_le _⟩ dX4_isTold_38 (fun r1 H1 locs hv hzz hk1 hS => ?_)
        obtain ⟨b1, f1, d1v, rfl, hl1, hd1⟩ := hv
        have hP : va_P g.1 vwCl [(lf, .inl (g.2 0, 4, .inl f1)), (dg, .inl (g.2 0, 64, .inl d1v))] H1 := pcs hl1 (p1 hd1)
        have hD : va_D (fun q => (q = lf ∨ q = dg) ∨ H0.size ≤ q) [(lf, .inl (g.2 0, 4, .inl f1)), (dg, .inl (g.2 0, 64, .inl d1v))] := two_d hld (Or.inl (Or.inl rfl)) (Or.inl (Or.inr rfl))
        refine lv_if_ne (tgt := 46) hx hb dX4_isTold_41 (by decide) (fun h3 => ?_) (fun h3 => ?_)
        · skip
          refine lv_iinc (v := nI (k + 1)) (lv' := [(3, .int (nI (k + 1))), (2, .int (nI r9)), (0, .ref z0), (1, .int (nI i9))]) hx hb dX4_isTold_46 hl (k := 0) rfl (nI_1 _) (by decide) rfl (fun ls hl => ?_)
          refine lv_goto (tgt := 10) hx hb dX4_isTold_49 (by decide) ?_
          exact ih (k + 1) f1 d1v hlt (by omega) ls H1 locs hP hD hS (lv_sub hl [0, 1, 2, 3] rfl)
        · skip
          exact K2 k f1 d1v ls H1 locs hP hD hS hl
      · skip
        refine lv_iconst (v := nI 1) hx hb dX4_isTold_33 (by decide) ?_
        refine lv_goto (tgt := 38) hx hb dX4_isTold_34 (by decide) ?_
        refine tp_i (y := bI true) (rfl) ?_
        refine cn_V (As := [.ref (rr i9), .int (nI k9), .int (nI r9), .int (bI true)]) (rest := []) C0 hl hK hS hA (fun z h => Or.inl h) (c_isBack l g H z0 (rr i9) lf dg k9 r9 (V i9) true f d fs (hz.kp hS (nA' hz hzm)) hdg hlf (fun z => hzm (Or.inl z)) hzm hld (hrw.kp hS (nA' hrw hrm)) hrm hk9 hr9 (hP 0 _ rfl) (hP 1 _ rfl)) gX4_isTold_X4_isBack rfl ⟨rfl, rfl⟩ ((va_recv hK.1 (p1 (hz.kp hS (nA' hz hzm))) (ci := 5) (q0 := 0) rfl rfl)) ⟨rfl, (show hd_ok yX4_isBack 4 from ⟨by decide, by decide, by decide +kernel⟩)⟩ ⟨Nat.le_of_ble_eq_true rfl, Nat.le_of_ble_eq_true rfl⟩ rfl (Nat.le_of_ble_eq_true rfl) ⟨Nat.zero_le _, Nat.zero_le _⟩ dX4_isTold_38 (fun r1 H1 locs hv hzz hk1 hS => ?_)
        obtain ⟨b1, f1, d1v, rfl, hl1, hd1⟩ := hv
        have hP : va_P g.1 vwCl [(lf, .inl (g.2 0, 4, .inl f1)), (dg, .inl (g.2 0, 64, .inl d1v))] H1 := pcs hl1 (p1 hd1)
        have hD : va_D (fun q => (q = lf ∨ q = dg) ∨ H0.size ≤ q) [(lf, .inl (g.2 0, 4, .inl f1)), (dg, .inl (g.2 0, 64, .inl d1v))] := two_d hld (Or.inl (Or.inl rfl)) (Or.inl (Or.inr rfl))
        refine lv_if_ne (tgt := 46) hx hb dX4_isTold_41 (by decide) (fun h3 => ?_) (fun h3 => ?_)
        · skip
          refine lv_iinc (v := nI (k + 1)) (lv' := [(3, .int (nI (k + 1))), (2, .int (nI r9)), (0, .ref z0), (1, .int (nI i9))]) hx hb dX4_isTold_46 hl (k := 0) rfl (nI_1 _) (by decide) rfl (fun ls hl => ?_)
          refine lv_goto (tgt := 10) hx hb dX4_isTold_49 (by decide) ?_
          exact ih (k + 1) f1 d1v hlt (by omega) ls H1 locs hP hD hS (lv_sub hl [0, 1, 2, 3] rfl)
        · skip
          exact K2 k f1 d1v ls H1 locs hP hD hS hl
set_option maxHeartbeats 4000000 in
set_option maxRecDepth 100000 in
theorem L_told2 (C0 : Cx p s m args meth c RX4 cX4_isTold 4 (some .boolean) wsX4_isTold) (hK : KK g s) {z0 mc lf dg i9 : Nat} {fs : List Value} {fr : Nat → Option Nat} {rr V : Nat → Nat} (hz : va_at g.1 vwCl (z0, .inr (5, fs)) H0) (hmc : fs[1]? = some (.ref mc)) (hdg : fs[7]? = some (.ref dg)) (hlf : fs[8]? = some (.ref lf)) (hg9 : va_at g.1 vwCl (mc, gRow 8 fr g) H0) (hfr : fr i9 = some (rr i9)) (hi9 : i9 < 8) (hrw : va_at g.1 vwCl (rr i9, .inl (g.2 0, 4, .inl (rw16 (V i9)))) H0) (hrm : ¬ (rr i9 = lf ∨ rr i9 = dg)) (hzm : ¬ (z0 = lf ∨ z0 = dg)) (hmm : ¬ (mc = lf ∨ mc = dg)) (hld : lf ≠ dg) (K : ∀ (f d : Nat → Int32) (ls : Array Slot) (H : Heap) (locs : List Loc), va_P g.1 vwCl [(lf, .inl (g.2 0, 4, .inl f)), (dg, .inl (g.2 0, 64, .inl d))] H → va_D (fun q => (q = lf ∨ q = dg) ∨ H0.size ≤ q) [(lf, .inl (g.2 0, 4, .inl f)), (dg, .inl (g.2 0, 64, .inl d))] → va_S (fun q => (q = lf ∨ q = dg) ∨ H0.size ≤ q) H0 H locs → lv_has ls 4 [(2, .int (nI 37)), (0, .ref z0), (1, .int (nI i9))] → W p l e rmX4_isTold s m args below meth c H locs 0 0 Q (F0 m 58 ls [])) (K2 : ∀ (k r9 : Nat) (f d : Nat → Int32) (ls : Array Slot) (H : Heap) (locs : List Loc), va_P g.1 vwCl [(lf, .inl (g.2 0, 4, .inl f)), (dg, .inl (g.2 0, 64, .inl d))] H → va_D (fun q => (q = lf ∨ q = dg) ∨ H0.size ≤ q) [(lf, .inl (g.2 0, 4, .inl f)), (dg, .inl (g.2 0, 64, .inl d))] → va_S (fun q => (q = lf ∨ q = dg) ∨ H0.size ≤ q) H0 H locs → lv_has ls 4 [(3, .int (nI k)), (2, .int (nI r9)), (0, .ref z0), (1, .int (nI i9))] → W p l e rmX4_isTold s m args below meth c H locs 0 0 Q (F0 m 44 ls [])) : ∀ (n : Nat) (r9 : Nat) (f d : Nat → Int32), 2 ≤ r9 → r9 ≤ 37 → 37 - r9 < n → ∀ (ls : Array Slot) (H : Heap) (locs : List Loc), va_P g.1 vwCl [(lf, .inl (g.2 0, 4, .inl f)), (dg, .inl (g.2 0, 64, .inl d))] H → va_D (fun q => (q = lf ∨ q = dg) ∨ H0.size ≤ q) [(lf, .inl (g.2 0, 4, .inl f)), (dg, .inl (g.2 0, 64, .inl d))] → va_S (fun q => (q = lf ∨ q = dg) ∨ H0.size ≤ q) H0 H locs → lv_has ls 4 [(2, .int (nI r9)), (0, .ref z0), (1, .int (nI i9))] → W p l e rmX4_isTold s m args below meth c H locs 0 0 Q (F0 m 2 ls []) := by
  obtain ⟨hx, hb, hr, hml, hown, hts, hlk⟩ := id C0
  have hA : ∀ q : Nat, H0.size ≤ q → (fun q => (q = lf ∨ q = dg) ∨ H0.size ≤ q) q := fun _ h => Or.inr h
  intro n
  induction n with
  | zero => intro r9 f d _ _ h; exact absurd h (Nat.not_lt_zero _)
  | succ n ih =>
    intro r9 f d hr2 hr37 hn ls H locs hP hD hS hl
    refine lv_iload_n hx hb dX4_isTold_2 rfl (lv_at hl 0 rfl) ?_
    refine lv_bipush (v := nI 37) hx hb dX4_isTold_3 (by decide) ?_
    refine lv_icmp_ge (tgt := 58) hx hb dX4_isTold_5 (by decide) (fun h1 => ?_) (fun h1 => ?_)
    · skip
      have hge : 37 ≤ r9 := by
        rcases Nat.lt_or_ge r9 37 with h | h
        · exact absurd h1 (nI_ge h (by omega))
        · exact h
      obtain rfl : r9 = 37 := by omega
      exact K f d ls H locs hP hD hS hl
    · skip
      have hlt : r9 < 37 := by
        rcases Nat.lt_or_ge r9 37 with h | h
        · exact h
        · exact absurd (nI_le h (by omega)) h1
      refine lv_iconst (v := nI 0) hx hb dX4_isTold_8 (by decide) ?_
      refine lv_istore_n (lv' := [(3, .int (nI 0)), (2, .int (nI r9)), (0, .ref z0), (1, .int (nI i9))]) hx hb dX4_isTold_9 rfl hl (by decide) rfl (fun ls hl => ?_)
      refine L_told1 C0 hK hz hmc hdg hlf hg9 hfr hi9 hrw hrm hzm hmm hld ⟨hr2, by omega⟩ (fun f d ls H locs hP hD hS hl => ?_) (fun k f d ls H locs hP hD hS hl => K2 k r9 f d ls H locs hP hD hS hl) 5 0 f d (Nat.zero_le _) (by decide) ls H locs hP hD hS hl
      refine lv_iinc (v := nI (r9 + 1)) (lv' := [(2, .int (nI (r9 + 1))), (3, .int (nI 4)), (0, .ref z0), (1, .int (nI i9))]) hx hb dX4_isTold_52 hl (k := 1) rfl (nI_1 _) (by decide) rfl (fun ls hl => ?_)
      refine lv_goto (tgt := 2) hx hb dX4_isTold_55 (by decide) ?_
      exact ih (r9 + 1) f d (by omega) hlt (by omega) ls H locs hP hD hS (lv_sub hl [0, 2, 3] rfl)
set_option maxHeartbeats 4000000 in
set_option maxRecDepth 100000 in
/-- isTold(cell): that it ends -/
theorem c_isTold (l : Launch) (g : Gx) (H0 : Heap) (z0 mc lf dg i9 : Nat) (fs : List Value) (rr V : Nat → Nat) (hM : MD g H0 z0 mc lf dg fs rr V) (hi9 : i9 < 8) : Met l yX4_isTold wsX4_isTold rmX4_isTold (va_Pc [.ref z0, .int (nI i9)] (hB g H0)) (nQ H0 (fun q => q = lf ∨ q = dg) (bkQ g lf dg)) 0 0 (fun q => (q = lf ∨ q = dg) ∨ H0.size ≤ q) := by
  refine cx_met (own := RX4) (cc := cX4_isTold) (maxL := 4) (by decide) rfl rfl (Nat.le_of_ble_eq_true rfl) ?_
  intro p e s m below meth c ls C0 hB0 hnm hl
  obtain ⟨hH, hK⟩ := hB0
  obtain ⟨hx, hb, hr, hml, hown, hts, hlk⟩ := id C0
  subst hH
  have hS : va_S (fun q => (q = lf ∨ q = dg) ∨ s.heap.size ≤ q) s.heap s.heap [] := va_S.rf
  have hA : ∀ q : Nat, s.heap.size ≤ q → (fun q => (q = lf ∨ q = dg) ∨ s.heap.size ≤ q) q := fun q h => Or.inr h
  have hl : lv_has ls 4 [(0, .ref z0), (1, .int (nI i9))] := hl
  obtain ⟨hz, -, hmc, hdg, hlf, ⟨fr, hg9, hfr⟩, hrr, ⟨f, hf⟩, ⟨d, hd⟩, -, n2, n3, n4, n5, hld⟩ := hM
  obtain ⟨hrw, hV, -, -, m3, m4⟩ := hrr i9 hi9
  have hP : va_P g.1 vwCl [(lf, .inl (g.2 0, 4, .inl f)), (dg, .inl (g.2 0, 64, .inl d))] s.heap := pcs hf (p1 hd)
  have hD : va_D (fun q => (q = lf ∨ q = dg) ∨ s.heap.size ≤ q) [(lf, .inl (g.2 0, 4, .inl f)), (dg, .inl (g.2 0, 64, .inl d))] := two_d hld (Or.inl (Or.inl rfl)) (Or.inl (Or.inr rfl))
  refine lv_iconst (v := nI 2) hx hb dX4_isTold_0 (by decide) ?_
  refine lv_istore_n (lv' := [(2, .int (nI 2)), (0, .ref z0), (1, .int (nI i9))]) hx hb dX4_isTold_1 rfl hl (by decide) rfl (fun ls hl => ?_)
  refine L_told2 C0 hK hz hmc hdg hlf hg9 (hfr i9 hi9) hi9 hrw (fun z => z.elim m3 m4) (fun z => z.elim n2 n3) (fun z => z.elim n4 n5) hld (fun f d ls H locs hP hD hS hl => ?_) (fun k r9 f d ls H locs hP hD hS hl => ?_) 36 2 f d (by decide) (by decide) (by decide) ls s.heap [] hP hD hS hl
  · skip
    refine lv_iconst (v := nI 1) hx hb dX4_isTold_58 (by decide) ?_
    rw [show nI 1 = bI true from rfl]
    exact rt_ni (mu := fun q => q = lf ∨ q = dg) C0 (bI_nar true) ⟨true, _, _, rfl, hP 0 _ rfl, hP 1 _ rfl⟩ hS rfl dX4_isTold_59
  · skip
    refine lv_iconst (v := nI 0) hx hb dX4_isTold_44 (by decide) ?_
    rw [show nI 0 = bI false from rfl]
    exact rt_ni (mu := fun q => q = lf ∨ q = dg) C0 (bI_nar false) ⟨false, _, _, rfl, hP 0 _ rfl, hP 1 _ rfl⟩ hS rfl dX4_isTold_45
end M22

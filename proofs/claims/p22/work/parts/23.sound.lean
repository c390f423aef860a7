-- isSoundNow: that it ends, and what it makes
/-- the model behind a call that wrote its kept rows alone -/
theorem MD.keep {g : Gx} {H0 H : Heap} {z0 mc lf dg : Nat} {fs : List Value} {rr V : Nat → Nat} {f d : Nat → Int32} (h : MD g H0 z0 mc lf dg fs rr V) (hk : ∀ q : Nat, q < H0.size → ¬ (q = lf ∨ q = dg) → H[q]? = H0[q]?) (hl : va_at g.1 vwCl (lf, .inl (g.2 0, 4, .inl f)) H) (hd : va_at g.1 vwCl (dg, .inl (g.2 0, 64, .inl d)) H) : MD g H z0 mc lf dg fs rr V := by
  obtain ⟨hz, h0, h1, h2, h3, ⟨fr, hg9, hfr⟩, hrr, -, -, n1, n2, n3, n4, n5, n6⟩ := h
  refine ⟨hz.kept (hk _ hz.lt (fun z => z.elim n2 n3)), h0, h1, h2, h3, ⟨fr, hg9.kept (hk _ hg9.lt (fun z => z.elim n4 n5)), hfr⟩, fun i hi => ?_, ⟨f, hl⟩, ⟨d, hd⟩, n1, n2, n3, n4, n5, n6⟩
  obtain ⟨a1, a2, a3, a4, a5, a6⟩ := hrr i hi
  exact ⟨a1.kept (hk _ a1.lt (fun z => z.elim a5 a6)), a2, a3, a4, a5, a6⟩
/-- what isDivided makes of the cell i -/
def icost (V : Nat → Nat) (i : Nat) : Nat := if V ((i + 1) % 8) = 0 then 0 else 133 + 3 * pcN (V i / V ((i + 1) % 8)) 64
/-- what isSoundNow makes of the first i cells -/
def scost (V : Nat → Nat) : Nat → Nat
  | 0 => 0
  | i + 1 => scost V i + icost V i + 8
theorem scost_mono (V : Nat → Nat) {i : Nat} : ∀ {n : Nat}, i ≤ n → scost V i ≤ scost V n
  | 0, h => by rw [show i = 0 by omega]; exact Nat.le_refl _
  | n + 1, h => by
    rcases Nat.lt_or_ge i (n + 1) with q | q
    · have h1 := scost_mono V (i := i) (n := n) (by omega)
      show scost V i ≤ scost V n + icost V n + 8
      omega
    · rw [show i = n + 1 by omega]
      exact Nat.le_refl _
theorem row_mod {g : Gx} {q w : Nat} {H : Heap} (h : va_at g.1 vwCl (q, .inl (g.2 0, 4, .inl (rw16 w))) H) : va_at g.1 vwCl (q, .inl (g.2 0, 4, .inl (rw16 (w % 65536 ^ 4)))) H := at_cong h (fun k hk => (rw_top hk).symm)
section M23
variable {p : Program} {l : Launch} {e : Env} {s : State} {m : MethodId} {args : Array Value} {below : List Frame} {meth : Method} {c : Code} {H H0 : Heap} {locs : List Loc} {cells slots : Nat} {Q : State → Prop} {A : Nat → Prop} {g : Gx}
abbrev rmX4_isSoundNow (k : Nat) : Room := { frames := 5, cells := k, slots := 4 * k, locals := 115 }
set_option maxHeartbeats 4000000 in
set_option maxRecDepth 100000 in
theorem L_sound (C0 : Cx p s m args meth c RX4 cX4_isSoundNow 4 (some .boolean) wsX4_isSoundNow) (hK : KK g s) (hH : s.heap = H0) {z0 mc lf dg k9 : Nat} {fs : List Value} {rr V : Nat → Nat} (hM : MD g H0 z0 mc lf dg fs rr V) (hk9 : scost V 8 ≤ k9) :
    ∀ (n i : Nat) (f d : Nat → Int32), i ≤ 8 → 8 - i < n → ∀ (ls : Array Slot) (H : Heap) (locs : List Loc), va_P g.1 vwCl [(lf, .inl (g.2 0, 4, .inl f)), (dg, .inl (g.2 0, 64, .inl d))] H → va_D (fun q => (q = lf ∨ q = dg) ∨ H0.size ≤ q) [(lf, .inl (g.2 0, 4, .inl f)), (dg, .inl (g.2 0, 64, .inl d))] → va_S (fun q => (q = lf ∨ q = dg) ∨ H0.size ≤ q) H0 H locs → lv_has ls 4 [(1, .int (nI i)), (0, .ref z0)] → W p l e (rmX4_isSoundNow k9) s m args below meth c H locs (scost V i) (4 * (scost V i)) (MQ below (nQ H0 (fun q => q = lf ∨ q = dg) (bkQ g lf dg)) args s k9 (4 * k9) (fun q => (q = lf ∨ q = dg) ∨ H0.size ≤ q)) (F0 m 2 ls []) := by
  obtain ⟨hx, hb, hr, hml, hown, hts, hlk⟩ := id C0
  have hA : ∀ q : Nat, H0.size ≤ q → (fun q => (q = lf ∨ q = dg) ∨ H0.size ≤ q) q := fun _ h => Or.inr h
  obtain ⟨hz, -, hmc, hdg, hlf, ⟨fr, hg9, hfr⟩, hrr, -, -, -, n2, n3, n4, n5, hld⟩ := id hM
  have hzm : ¬ (z0 = lf ∨ z0 = dg) := fun z => z.elim n2 n3
  have hmm : ¬ (mc = lf ∨ mc = dg) := fun z => z.elim n4 n5
  intro n
  induction n with
  | zero => intro i f d _ h; exact absurd h (Nat.not_lt_zero _)
  | succ n ih =>
    intro i f d hi hn ls H locs hP hD hS hl
    refine lv_iload_n hx hb dX4_isSoundNow_2 rfl (lv_at hl 0 rfl) ?_
    refine lv_bipush (v := nI 8) hx hb dX4_isSoundNow_3 (by decide) ?_
    refine lv_icmp_ge (tgt := 150) hx hb dX4_isSoundNow_5 (by decide) (fun h1 => ?_) (fun h1 => ?_)
    · skip
      have hm9 := scost_mono V hi
      refine lv_iconst (v := nI 1) hx hb dX4_isSoundNow_150 (by decide) ?_
      rw [show nI 1 = bI true from rfl]
      refine W.widen (k := k9) (n := 4 * k9) (by omega) (by omega) ?_
      exact rt_ni (mu := fun q => q = lf ∨ q = dg) C0 (bI_nar true) ⟨true, _, _, rfl, hP 0 _ rfl, hP 1 _ rfl⟩ hS hH dX4_isSoundNow_151
    · skip
      have hlt : i < 8 := by
        rcases Nat.lt_or_ge i 8 with h | h
        · exact h
        · exact absurd (nI_le h (by omega)) h1
      have hst : scost V (i + 1) = scost V i + icost V i + 8 := rfl
      have hm9 : scost V (i + 1) ≤ scost V 8 := scost_mono V hlt
      obtain ⟨hrw, hV, -, -, m3, m4⟩ := hrr i hlt
      have hrm : ¬ (rr i = lf ∨ rr i = dg) := fun z => z.elim m3 m4
      obtain ⟨hrw2, hV2, -, -, m7, m8⟩ := hrr ((i + 1) % 8) (Nat.mod_lt _ (by decide))
      have hrm2 : ¬ (rr ((i + 1) % 8) = lf ∨ rr ((i + 1) % 8) = dg) := fun z => z.elim m7 m8
      refine lv_aload_n hx hb dX4_isSoundNow_8 rfl (lv_at hl 1 rfl) ?_
      refine r_get (ci := 5) (C := RX4) (T := TX4) (N := 10) (v := .ref mc) hx hb hts (by decide +kernel) hown hK hS hz (nA' hz hzm) rfl 1 (by decide) (hts (.fieldLink RX4 11 "RadixbenchModel" "cells" "[[I") (by decide +kernel)) (fun _ h9 => h9) hmc dX4_isSoundNow_9 ?_
      refine lv_iload_n hx hb dX4_isSoundNow_12 rfl (lv_at hl 0 rfl) ?_
      refine w_aald (j := i) hx hb hK (hg9.kp hS (nA' hg9 hmm)) hlt (by decide) (hfr _ hlt) dX4_isSoundNow_13 ?_
      refine lv_astore_n (lv' := [(2, .ref (rr i)), (1, .int (nI i)), (0, .ref z0)]) hx hb dX4_isSoundNow_14 rfl hl (by decide) rfl (fun ls hl => ?_)
      refine lv_aload_n hx hb dX4_isSoundNow_15 rfl (lv_at hl 2 rfl) ?_
      refine lv_iload_n hx hb dX4_isSoundNow_16 rfl (lv_at hl 1 rfl) ?_
      have hMH := hM.keep (fun q h1 h2 => hS.2.1 q h1 (fun z => z.elim h2 (fun z => absurd h1 (Nat.not_lt.mpr z)))) (hP 0 _ rfl) (hP 1 _ rfl)
      refine cn_V (As := [.int (nI i)]) (rest := []) C0 hl hK hS hA (fun z h => Or.inl h) (c_isTold l g H z0 mc lf dg i fs rr V hMH hlt) gX4_isSoundNow_X4_isTold rfl ⟨rfl, rfl⟩ ((va_recv hK.1 (p1 (hz.kp hS (nA' hz hzm))) (ci := 5) (q0 := 0) rfl rfl)) ⟨rfl, (show hd_ok yX4_isTold 1 from ⟨by decide, by decide, by decide +kernel⟩)⟩ ⟨Nat.le_of_ble_eq_true rfl, Nat.le_of_ble_eq_true rfl⟩ rfl (Nat.le_of_ble_eq_true rfl) ⟨by show _ ≤ k9; omega, by show _ ≤ 4 * k9; omega⟩ dX4_isSoundNow_17 (fun r1 H1 locs hv hzz hk1 hS => ?_)
      obtain ⟨b1, f1, d1v, rfl, hl1, hd1⟩ := hv
      have hP : va_P g.1 vwCl [(lf, .inl (g.2 0, 4, .inl f1)), (dg, .inl (g.2 0, 64, .inl d1v))] H1 := pcs hl1 (p1 hd1)
      refine lv_if_eq (tgt := 59) hx hb dX4_isSoundNow_20 (by decide) (fun h2 => ?_) (fun h2 => ?_)
      · skip
        refine lv_iconst (v := nI 0) hx hb dX4_isSoundNow_59 (by decide) ?_
        rw [show nI 0 = bI false from rfl]
        refine W.widen (k := k9) (n := 4 * k9) (by omega) (by omega) ?_
        exact rt_ni (mu := fun q => q = lf ∨ q = dg) C0 (bI_nar false) ⟨false, _, _, rfl, hP 0 _ rfl, hP 1 _ rfl⟩ hS hH dX4_isSoundNow_60
      · skip
        refine lv_aload_n hx hb dX4_isSoundNow_23 rfl (lv_at hl 2 rfl) ?_
        refine lv_aload_n hx hb dX4_isSoundNow_24 rfl (lv_at hl 0 rfl) ?_
        refine lv_aload_n hx hb dX4_isSoundNow_25 rfl (lv_at hl 2 rfl) ?_
        refine r_get (ci := 5) (C := RX4) (T := TX4) (N := 10) (v := .ref mc) hx hb hts (by decide +kernel) hown hK hS hz (nA' hz hzm) rfl 1 (by decide) (hts (.fieldLink RX4 11 "RadixbenchModel" "cells" "[[I") (by decide +kernel)) (fun _ h9 => h9) hmc dX4_isSoundNow_26 ?_
        refine lv_iload_n hx hb dX4_isSoundNow_29 rfl (lv_at hl 1 rfl) ?_
        refine lv_iconst (v := nI 1) hx hb dX4_isSoundNow_30 (by decide) ?_
        refine lv_iadd hx hb dX4_isSoundNow_31 ?_
        refine tp_i (y := nI (i + 1)) (nI_add _ _) ?_
        refine lv_bipush (v := nI 8) hx hb dX4_isSoundNow_32 (by decide) ?_
        refine lv_irem hx hb dX4_isSoundNow_34 (by decide) ?_
        refine tp_i (y := nI ((i + 1) % 8)) (pk_rem (by omega) (by omega) (by omega)) ?_
        refine w_aald (j := (i + 1) % 8) hx hb hK (hg9.kp hS (nA' hg9 hmm)) (Nat.mod_lt _ (by decide)) (by decide) (hfr _ (Nat.mod_lt _ (by decide))) dX4_isSoundNow_35 ?_
        refine cn_V (As := [.ref (rr i), .ref (rr ((i + 1) % 8))]) (rest := []) C0 hl hK hS hA (fun z h => absurd h (fun z => z)) (c_isDivided l g H1 z0 (rr i) (rr ((i + 1) % 8)) (V i) (V ((i + 1) % 8)) (icost V i) hV hV2 (hrw.kp hS (nA' hrw hrm)) (hrw2.kp hS (nA' hrw2 hrm2)) (Nat.le_refl _)) gX4_isSoundNow_X4_isDivided rfl ⟨rfl, rfl⟩ ((va_recv hK.1 (p1 (hz.kp hS (nA' hz hzm))) (ci := 5) (q0 := 0) rfl rfl)) ⟨rfl, (show hd_ok yX4_isDivided 2 from ⟨by decide, by decide, by decide +kernel⟩)⟩ ⟨Nat.le_of_ble_eq_true rfl, Nat.le_of_ble_eq_true rfl⟩ rfl (Nat.le_of_ble_eq_true rfl) ⟨by show _ ≤ k9; omega, by show _ ≤ 4 * k9; omega⟩ dX4_isSoundNow_36 (fun r1 H2 locs hv hzz hk2 hS => ?_)
        obtain ⟨b2, rfl⟩ := hv
        have hP : va_P g.1 vwCl [(lf, .inl (g.2 0, 4, .inl f1)), (dg, .inl (g.2 0, 64, .inl d1v))] H2 := pcs ((hP 0 _ rfl).kept (hk2 _ (hP 0 _ rfl).lt (fun z => z))) (p1 ((hP 1 _ rfl).kept (hk2 _ (hP 1 _ rfl).lt (fun z => z))))
        refine lv_if_eq (tgt := 59) hx hb dX4_isSoundNow_39 (by decide) (fun h3 => ?_) (fun h3 => ?_)
        · skip
          refine lv_iconst (v := nI 0) hx hb dX4_isSoundNow_59 (by decide) ?_
          rw [show nI 0 = bI false from rfl]
          refine W.widen (k := k9) (n := 4 * k9) (by omega) (by omega) ?_
          exact rt_ni (mu := fun q => q = lf ∨ q = dg) C0 (bI_nar false) ⟨false, _, _, rfl, hP 0 _ rfl, hP 1 _ rfl⟩ hS hH dX4_isSoundNow_60
        · skip
          refine lv_aload_n hx hb dX4_isSoundNow_42 rfl (lv_at hl 0 rfl) ?_
          refine lv_iconst (v := nI 5) hx hb dX4_isSoundNow_43 (by decide) ?_
          refine cn_S (As := [.ref (rr i), .int (nI 5)]) (rest := []) C0 hl hK hS hA (fun z h => absurd h (fun z => z)) (c_turned l g H2 (rr i) 4 (V i) 69 (nI 5) (Or.inr rfl) (by decide) (by decide) (hrw.kp hS (nA' hrw hrm))) gX4_isSoundNow_X4_turned rfl ⟨rfl, rfl⟩ (show hd_ok yX4_turned 2 from ⟨by decide, by decide, by decide +kernel⟩) ⟨Nat.le_of_ble_eq_true rfl, Nat.le_of_ble_eq_true rfl⟩ rfl (Nat.le_of_ble_eq_true rfl) ⟨by show _ ≤ k9; omega, by show _ ≤ 4 * k9; omega⟩ dX4_isSoundNow_44 (fun r1 H3 locs hv hzz hk3 hS => ?_)
          obtain ⟨q3, rfl, hq3, g3⟩ := hv
          have hP : va_P g.1 vwCl [(lf, .inl (g.2 0, 4, .inl f1)), (dg, .inl (g.2 0, 64, .inl d1v))] H3 := pcs ((hP 0 _ rfl).kept (hk3 _ (hP 0 _ rfl).lt (fun z => z))) (p1 ((hP 1 _ rfl).kept (hk3 _ (hP 1 _ rfl).lt (fun z => z))))
          refine lv_bipush (v := (-5)) hx hb dX4_isSoundNow_47 (by decide) ?_
          refine cn_S (As := [.ref q3, .int (-5)]) (rest := []) C0 hl hK hS hA (fun z h => absurd h (fun z => z)) (c_turned l g H3 q3 4 _ 59 (-5) (Or.inr rfl) (by decide) (by decide) g3) gX4_isSoundNow_X4_turned rfl ⟨rfl, rfl⟩ (show hd_ok yX4_turned 2 from ⟨by decide, by decide, by decide +kernel⟩) ⟨Nat.le_of_ble_eq_true rfl, Nat.le_of_ble_eq_true rfl⟩ rfl (Nat.le_of_ble_eq_true rfl) ⟨by show _ ≤ k9; omega, by show _ ≤ 4 * k9; omega⟩ dX4_isSoundNow_49 (fun r1 H4 locs hv hzz hk4 hS => ?_)
          obtain ⟨q4, rfl, hq4, g4⟩ := hv
          have hP : va_P g.1 vwCl [(lf, .inl (g.2 0, 4, .inl f1)), (dg, .inl (g.2 0, 64, .inl d1v))] H4 := pcs ((hP 0 _ rfl).kept (hk4 _ (hP 0 _ rfl).lt (fun z => z))) (p1 ((hP 1 _ rfl).kept (hk4 _ (hP 1 _ rfl).lt (fun z => z))))
          refine lv_aload_n hx hb dX4_isSoundNow_52 rfl (lv_at hl 0 rfl) ?_
          refine cp_S (As := [.ref q4, .ref (rr i)]) (rest := []) C0 hl hK hS hA (c_isSame l g H4 q4 (rr i) 4 _ (V i) (by decide) (Nat.mod_lt _ (by decide)) hV (row_mod g4) (hrw.kp hS (nA' hrw hrm))) gX4_isSoundNow_X4_isSame rfl ⟨rfl, rfl⟩ (show hd_ok yX4_isSame 2 from ⟨by decide, by decide, by decide +kernel⟩) ⟨Nat.le_of_ble_eq_true rfl, Nat.le_of_ble_eq_true rfl⟩ rfl (Nat.le_of_ble_eq_true rfl) ⟨by show _ ≤ k9; omega, by show _ ≤ 4 * k9; omega⟩ dX4_isSoundNow_53 (fun locs hS => ?_)
          refine lv_if_ne (tgt := 61) hx hb dX4_isSoundNow_56 (by decide) (fun h4 => ?_) (fun h4 => ?_)
          · skip
            refine lv_iconst (v := nI 0) hx hb dX4_isSoundNow_61 (by decide) ?_
            refine lv_istore_n (lv' := [(3, .int (nI 0)), (2, .ref (rr i)), (1, .int (nI i)), (0, .ref z0)]) hx hb dX4_isSoundNow_62 rfl hl (by decide) rfl (fun ls hl => ?_)
            refine lv_iload_n hx hb dX4_isSoundNow_63 rfl (lv_at hl 0 rfl) ?_
            refine lv_iconst (v := nI 2) hx hb dX4_isSoundNow_64 (by decide) ?_
            refine lv_icmp_ge (tgt := 108) hx hb dX4_isSoundNow_65 (by decide) (fun h5 => absurd h5 (by decide)) (fun h5 => ?_)
            refine lv_aload_n hx hb dX4_isSoundNow_68 rfl (lv_at hl 1 rfl) ?_
            refine lv_iload_n hx hb dX4_isSoundNow_69 rfl (lv_at hl 0 rfl) ?_
            refine lv_if_ne (tgt := 77) hx hb dX4_isSoundNow_70 (by decide) (fun h6 => absurd rfl h6) (fun h6 => ?_)
            refine lv_iconst (v := nI 1) hx hb dX4_isSoundNow_73 (by decide) ?_
            refine lv_goto (tgt := 78) hx hb dX4_isSoundNow_74 (by decide) ?_
            refine tp_i (y := bI true) (rfl) ?_
            refine cn_S (As := [.ref (rr i), .int (bI true)]) (rest := []) C0 hl hK hS hA (fun z h => absurd h (fun z => z)) (c_backward l g H4 (rr i) 4 (V i) true (Or.inr rfl) (hrw.kp hS (nA' hrw hrm))) gX4_isSoundNow_X4_backward rfl ⟨rfl, rfl⟩ (show hd_ok yX4_backward 2 from ⟨by decide, by decide, by decide +kernel⟩) ⟨Nat.le_of_ble_eq_true rfl, Nat.le_of_ble_eq_true rfl⟩ rfl (Nat.le_of_ble_eq_true rfl) ⟨by show _ ≤ k9; omega, by show _ ≤ 4 * k9; omega⟩ dX4_isSoundNow_78 (fun r1 H5 locs hv hzz hk5 hS => ?_)
            obtain ⟨q5, rfl, hq5, g5⟩ := hv
            have hP : va_P g.1 vwCl [(lf, .inl (g.2 0, 4, .inl f1)), (dg, .inl (g.2 0, 64, .inl d1v))] H5 := pcs ((hP 0 _ rfl).kept (hk5 _ (hP 0 _ rfl).lt (fun z => z))) (p1 ((hP 1 _ rfl).kept (hk5 _ (hP 1 _ rfl).lt (fun z => z))))
            refine lv_iload_n hx hb dX4_isSoundNow_81 rfl (lv_at hl 0 rfl) ?_
            refine lv_if_ne (tgt := 89) hx hb dX4_isSoundNow_82 (by decide) (fun h6 => absurd rfl h6) (fun h6 => ?_)
            refine lv_iconst (v := nI 1) hx hb dX4_isSoundNow_85 (by decide) ?_
            refine lv_goto (tgt := 90) hx hb dX4_isSoundNow_86 (by decide) ?_
            refine tp_i (y := bI true) (rfl) ?_
            refine cn_S (As := [.ref q5, .int (bI true)]) (rest := []) C0 hl hK hS hA (fun z h => absurd h (fun z => z)) (c_backward l g H5 q5 4 _ true (Or.inr rfl) g5) gX4_isSoundNow_X4_backward rfl ⟨rfl, rfl⟩ (show hd_ok yX4_backward 2 from ⟨by decide, by decide, by decide +kernel⟩) ⟨Nat.le_of_ble_eq_true rfl, Nat.le_of_ble_eq_true rfl⟩ rfl (Nat.le_of_ble_eq_true rfl) ⟨by show _ ≤ k9; omega, by show _ ≤ 4 * k9; omega⟩ dX4_isSoundNow_90 (fun r1 H6 locs hv hzz hk6 hS => ?_)
            obtain ⟨q6, rfl, hq6, g6⟩ := hv
            have hP : va_P g.1 vwCl [(lf, .inl (g.2 0, 4, .inl f1)), (dg, .inl (g.2 0, 64, .inl d1v))] H6 := pcs ((hP 0 _ rfl).kept (hk6 _ (hP 0 _ rfl).lt (fun z => z))) (p1 ((hP 1 _ rfl).kept (hk6 _ (hP 1 _ rfl).lt (fun z => z))))
            refine lv_aload_n hx hb dX4_isSoundNow_93 rfl (lv_at hl 1 rfl) ?_
            refine cp_S (As := [.ref q6, .ref (rr i)]) (rest := []) C0 hl hK hS hA (c_isSame l g H6 q6 (rr i) 4 _ (V i) (by decide) (Nat.mod_lt _ (by decide)) hV (row_mod g6) (hrw.kp hS (nA' hrw hrm))) gX4_isSoundNow_X4_isSame rfl ⟨rfl, rfl⟩ (show hd_ok yX4_isSame 2 from ⟨by decide, by decide, by decide +kernel⟩) ⟨Nat.le_of_ble_eq_true rfl, Nat.le_of_ble_eq_true rfl⟩ rfl (Nat.le_of_ble_eq_true rfl) ⟨by show _ ≤ k9; omega, by show _ ≤ 4 * k9; omega⟩ dX4_isSoundNow_94 (fun locs hS => ?_)
            refine lv_if_ne (tgt := 102) hx hb dX4_isSoundNow_97 (by decide) (fun h7 => ?_) (fun h7 => ?_)
            · skip
              refine lv_iinc (v := nI (0 + 1)) (lv' := [(3, .int (nI (0 + 1))), (2, .ref (rr i)), (1, .int (nI i)), (0, .ref z0)]) hx hb dX4_isSoundNow_102 hl (k := 0) rfl (nI_1 _) (by decide) rfl (fun ls hl => ?_)
              refine lv_goto (tgt := 63) hx hb dX4_isSoundNow_105 (by decide) ?_
              refine lv_iload_n hx hb dX4_isSoundNow_63 rfl (lv_at hl 0 rfl) ?_
              refine lv_iconst (v := nI 2) hx hb dX4_isSoundNow_64 (by decide) ?_
              refine lv_icmp_ge (tgt := 108) hx hb dX4_isSoundNow_65 (by decide) (fun h5 => absurd h5 (by decide)) (fun h5 => ?_)
              refine lv_aload_n hx hb dX4_isSoundNow_68 rfl (lv_at hl 1 rfl) ?_
              refine lv_iload_n hx hb dX4_isSoundNow_69 rfl (lv_at hl 0 rfl) ?_
              refine lv_if_ne (tgt := 77) hx hb dX4_isSoundNow_70 (by decide) (fun h6 => ?_) (fun h6 => absurd h6 (by decide))
              refine lv_iconst (v := nI 0) hx hb dX4_isSoundNow_77 (by decide) ?_
              refine tp_i (y := bI false) (rfl) ?_
              refine cn_S (As := [.ref (rr i), .int (bI false)]) (rest := []) C0 hl hK hS hA (fun z h => absurd h (fun z => z)) (c_backward l g H6 (rr i) 4 (V i) false (Or.inr rfl) (hrw.kp hS (nA' hrw hrm))) gX4_isSoundNow_X4_backward rfl ⟨rfl, rfl⟩ (show hd_ok yX4_backward 2 from ⟨by decide, by decide, by decide +kernel⟩) ⟨Nat.le_of_ble_eq_true rfl, Nat.le_of_ble_eq_true rfl⟩ rfl (Nat.le_of_ble_eq_true rfl) ⟨by show _ ≤ k9; omega, by show _ ≤ 4 * k9; omega⟩ dX4_isSoundNow_78 (fun r1 H7 locs hv hzz hk7 hS => ?_)
              obtain ⟨q5, rfl, hq5, g5⟩ := hv
              have hP : va_P g.1 vwCl [(lf, .inl (g.2 0, 4, .inl f1)), (dg, .inl (g.2 0, 64, .inl d1v))] H7 := pcs ((hP 0 _ rfl).kept (hk7 _ (hP 0 _ rfl).lt (fun z => z))) (p1 ((hP 1 _ rfl).kept (hk7 _ (hP 1 _ rfl).lt (fun z => z))))
              refine lv_iload_n hx hb dX4_isSoundNow_81 rfl (lv_at hl 0 rfl) ?_
              refine lv_if_ne (tgt := 89) hx hb dX4_isSoundNow_82 (by decide) (fun h6 => ?_) (fun h6 => absurd h6 (by decide))
              refine lv_iconst (v := nI 0) hx hb dX4_isSoundNow_89 (by decide) ?_
              refine tp_i (y := bI false) (rfl) ?_
              refine cn_S (As := [.ref q5, .int (bI false)]) (rest := []) C0 hl hK hS hA (fun z h => absurd h (fun z => z)) (c_backward l g H7 q5 4 _ false (Or.inr rfl) g5) gX4_isSoundNow_X4_backward rfl ⟨rfl, rfl⟩ (show hd_ok yX4_backward 2 from ⟨by decide, by decide, by decide +kernel⟩) ⟨Nat.le_of_ble_eq_true rfl, Nat.le_of_ble_eq_true rfl⟩ rfl (Nat.le_of_ble_eq_true rfl) ⟨by show _ ≤ k9; omega, by show _ ≤ 4 * k9; omega⟩ dX4_isSoundNow_90 (fun r1 H8 locs hv hzz hk8 hS => ?_)
              obtain ⟨q6, rfl, hq6, g6⟩ := hv
              have hP : va_P g.1 vwCl [(lf, .inl (g.2 0, 4, .inl f1)), (dg, .inl (g.2 0, 64, .inl d1v))] H8 := pcs ((hP 0 _ rfl).kept (hk8 _ (hP 0 _ rfl).lt (fun z => z))) (p1 ((hP 1 _ rfl).kept (hk8 _ (hP 1 _ rfl).lt (fun z => z))))
              refine lv_aload_n hx hb dX4_isSoundNow_93 rfl (lv_at hl 1 rfl) ?_
              refine cp_S (As := [.ref q6, .ref (rr i)]) (rest := []) C0 hl hK hS hA (c_isSame l g H8 q6 (rr i) 4 _ (V i) (by decide) (Nat.mod_lt _ (by decide)) hV (row_mod g6) (hrw.kp hS (nA' hrw hrm))) gX4_isSoundNow_X4_isSame rfl ⟨rfl, rfl⟩ (show hd_ok yX4_isSame 2 from ⟨by decide, by decide, by decide +kernel⟩) ⟨Nat.le_of_ble_eq_true rfl, Nat.le_of_ble_eq_true rfl⟩ rfl (Nat.le_of_ble_eq_true rfl) ⟨by show _ ≤ k9; omega, by show _ ≤ 4 * k9; omega⟩ dX4_isSoundNow_94 (fun locs hS => ?_)
              refine lv_if_ne (tgt := 102) hx hb dX4_isSoundNow_97 (by decide) (fun h7 => ?_) (fun h7 => ?_)
              · skip
                refine lv_iinc (v := nI ((0 + 1) + 1)) (lv' := [(3, .int (nI ((0 + 1) + 1))), (2, .ref (rr i)), (1, .int (nI i)), (0, .ref z0)]) hx hb dX4_isSoundNow_102 hl (k := 0) rfl (nI_1 _) (by decide) rfl (fun ls hl => ?_)
                refine lv_goto (tgt := 63) hx hb dX4_isSoundNow_105 (by decide) ?_
                refine lv_iload_n hx hb dX4_isSoundNow_63 rfl (lv_at hl 0 rfl) ?_
                refine lv_iconst (v := nI 2) hx hb dX4_isSoundNow_64 (by decide) ?_
                refine lv_icmp_ge (tgt := 108) hx hb dX4_isSoundNow_65 (by decide) (fun h5 => ?_) (fun h5 => absurd (show nI 2 ≤ nI 2 by decide) h5)
                refine lv_aload_n hx hb dX4_isSoundNow_108 rfl (lv_at hl 1 rfl) ?_
                refine cp_S (As := [.ref (rr i)]) (rest := []) C0 hl hK hS hA (c_count l g H8 (rr i) 4 (V i) (by decide) (hrw.kp hS (nA' hrw hrm))) gX4_isSoundNow_X4_count rfl ⟨rfl, rfl⟩ (show hd_ok yX4_count 1 from ⟨by decide, by decide, by decide +kernel⟩) ⟨Nat.le_of_ble_eq_true rfl, Nat.le_of_ble_eq_true rfl⟩ rfl (Nat.le_of_ble_eq_true rfl) ⟨by show _ ≤ k9; omega, by show _ ≤ 4 * k9; omega⟩ dX4_isSoundNow_109 (fun locs hS => ?_)
                refine lv_aload_n hx hb dX4_isSoundNow_112 rfl (lv_at hl 1 rfl) ?_
                refine lv_iconst (v := nI 2) hx hb dX4_isSoundNow_113 (by decide) ?_
                refine cn_S (As := [.ref (rr i), .int (nI 2)]) (rest := [.int (nI (pcN (V i) (16 * 4)))]) C0 hl hK hS hA (fun z h => absurd h (fun z => z)) (c_part l g H8 (rr i) 4 2 (V i) (by decide) (by decide) (hrw.kp hS (nA' hrw hrm))) gX4_isSoundNow_X4_part rfl ⟨rfl, rfl⟩ (show hd_ok yX4_part 2 from ⟨by decide, by decide, by decide +kernel⟩) ⟨Nat.le_of_ble_eq_true rfl, Nat.le_of_ble_eq_true rfl⟩ rfl (Nat.le_of_ble_eq_true rfl) ⟨by show _ ≤ k9; omega, by show _ ≤ 4 * k9; omega⟩ dX4_isSoundNow_114 (fun r1 H9 locs hv hzz hk9 hS => ?_)
                obtain ⟨q7, rfl, hq7, g7⟩ := hv
                have hP : va_P g.1 vwCl [(lf, .inl (g.2 0, 4, .inl f1)), (dg, .inl (g.2 0, 64, .inl d1v))] H9 := pcs ((hP 0 _ rfl).kept (hk9 _ (hP 0 _ rfl).lt (fun z => z))) (p1 ((hP 1 _ rfl).kept (hk9 _ (hP 1 _ rfl).lt (fun z => z))))
                refine cp_S (As := [.ref q7]) (rest := [.int (nI (pcN (V i) (16 * 4)))]) C0 hl hK hS hA (c_count l g H9 q7 2 _ (by decide) g7) gX4_isSoundNow_X4_count rfl ⟨rfl, rfl⟩ (show hd_ok yX4_count 1 from ⟨by decide, by decide, by decide +kernel⟩) ⟨Nat.le_of_ble_eq_true rfl, Nat.le_of_ble_eq_true rfl⟩ rfl (Nat.le_of_ble_eq_true rfl) ⟨by show _ ≤ k9; omega, by show _ ≤ 4 * k9; omega⟩ dX4_isSoundNow_117 (fun locs hS => ?_)
                refine lv_iconst (v := nI 2) hx hb dX4_isSoundNow_120 (by decide) ?_
                refine w_newi hx hb (hts (.arrayClass .int) (by decide +kernel)) hK hP (two_d hld (Or.inl (Or.inl rfl)) (Or.inl (Or.inr rfl))) hS hA (by decide) (by show _ ≤ k9; omega) (by show _ ≤ 4 * k9; omega) dX4_isSoundNow_121 (fun qn H9 hqn hP hD hS => ?_)
                have hP : va_P g.1 vwCl [(lf, .inl (g.2 0, 4, .inl f1)), (dg, .inl (g.2 0, 64, .inl d1v)), (qn, .inl (g.2 0, 2, .inl (fun _ => 0)))] H9 := hP
                have hD : va_D (fun q => (q = lf ∨ q = dg) ∨ H0.size ≤ q) [(lf, .inl (g.2 0, 4, .inl f1)), (dg, .inl (g.2 0, 64, .inl d1v)), (qn, .inl (g.2 0, 2, .inl (fun _ => 0)))] := hD
                refine lv_dup hx hb dX4_isSoundNow_123 rfl ?_
                refine lv_iconst (v := nI 0) hx hb dX4_isSoundNow_124 (by decide) ?_
                refine lv_aload_n hx hb dX4_isSoundNow_125 rfl (lv_at hl 1 rfl) ?_
                refine lv_iconst (v := nI 2) hx hb dX4_isSoundNow_126 (by decide) ?_
                refine r_iald (j := 2) hx hb hK hS hrw (nA' hrw hrm) (by decide) (by decide) dX4_isSoundNow_127 ?_
                refine w_iast (j := 0) hx hb hK hP hD hS 2 rfl (by decide) (by decide) dX4_isSoundNow_128 (fun H locs hP hD hS => ?_)
                have hP : va_P g.1 vwCl [(lf, .inl (g.2 0, 4, .inl f1)), (dg, .inl (g.2 0, 64, .inl d1v)), (qn, .inl (g.2 0, 2, .inl (upd (fun _ => 0) 0 (rw16 (V i) 2))))] H := hP
                have hD : va_D _ [(lf, .inl (g.2 0, 4, .inl f1)), (dg, .inl (g.2 0, 64, .inl d1v)), (qn, .inl (g.2 0, 2, .inl (upd (fun _ => 0) 0 (rw16 (V i) 2))))] := hD
                refine lv_dup hx hb dX4_isSoundNow_129 rfl ?_
                refine lv_iconst (v := nI 1) hx hb dX4_isSoundNow_130 (by decide) ?_
                refine lv_aload_n hx hb dX4_isSoundNow_131 rfl (lv_at hl 1 rfl) ?_
                refine lv_iconst (v := nI 3) hx hb dX4_isSoundNow_132 (by decide) ?_
                refine r_iald (j := 3) hx hb hK hS hrw (nA' hrw hrm) (by decide) (by decide) dX4_isSoundNow_133 ?_
                refine w_iast (j := 1) hx hb hK hP hD hS 2 rfl (by decide) (by decide) dX4_isSoundNow_134 (fun H locs hP hD hS => ?_)
                have hP : va_P g.1 vwCl [(lf, .inl (g.2 0, 4, .inl f1)), (dg, .inl (g.2 0, 64, .inl d1v)), (qn, .inl (g.2 0, 2, .inl (upd (upd (fun _ => 0) 0 (rw16 (V i) 2)) 1 (rw16 (V i) 3))))] H := hP
                have hD : va_D _ [(lf, .inl (g.2 0, 4, .inl f1)), (dg, .inl (g.2 0, 64, .inl d1v)), (qn, .inl (g.2 0, 2, .inl (upd (upd (fun _ => 0) 0 (rw16 (V i) 2)) 1 (rw16 (V i) 3))))] := hD
                have hqr : va_at g.1 vwCl (qn, .inl (g.2 0, 2, .inl (rw16 (V i / 65536 ^ 2)))) H := at_cong (hP 2 _ rfl) (fun k hk => by
                  rcases (show k = 0 ∨ k = 1 by omega) with rfl | rfl
                  · show rw16 (V i) 2 = _
                    unfold rw16
                    rw [Nat.pow_zero, Nat.div_one]
                  · show rw16 (V i) 3 = _
                    unfold rw16
                    rw [Nat.div_div_eq_div_mul])
                refine cp_S (As := [.ref qn]) (rest := [.int (nI (pcN (V i % 65536 ^ 2) (16 * 2))), .int (nI (pcN (V i) (16 * 4)))]) C0 hl hK hS hA (c_count l g H qn 2 _ (by decide) hqr) gX4_isSoundNow_X4_count rfl ⟨rfl, rfl⟩ (show hd_ok yX4_count 1 from ⟨by decide, by decide, by decide +kernel⟩) ⟨Nat.le_of_ble_eq_true rfl, Nat.le_of_ble_eq_true rfl⟩ rfl (Nat.le_of_ble_eq_true rfl) ⟨by show _ ≤ k9; omega, by show _ ≤ 4 * k9; omega⟩ dX4_isSoundNow_135 (fun locs hS => ?_)
                refine lv_iadd hx hb dX4_isSoundNow_138 ?_
                refine tp_i (y := nI ((pcN (V i % 65536 ^ 2) (16 * 2)) + (pcN (V i / 65536 ^ 2) (16 * 2)))) (nI_add _ _) ?_
                refine lv_icmp_eq (tgt := 144) hx hb dX4_isSoundNow_139 (by decide) (fun h8 => ?_) (fun h8 => ?_)
                · skip
                  refine lv_iinc (v := nI (i + 1)) (lv' := [(1, .int (nI (i + 1))), (3, .int (nI ((0 + 1) + 1))), (2, .ref (rr i)), (0, .ref z0)]) hx hb dX4_isSoundNow_144 hl (k := 2) rfl (nI_1 _) (by decide) rfl (fun ls hl => ?_)
                  refine lv_goto (tgt := 2) hx hb dX4_isSoundNow_147 (by decide) ?_
                  refine W.widen (k := scost V (i + 1)) (n := 4 * scost V (i + 1)) (by omega) (by omega) ?_
                  exact ih (i + 1) f1 d1v hlt (by omega) ls H locs (pcs (hP 0 _ rfl) (p1 (hP 1 _ rfl))) (two_d hld (Or.inl (Or.inl rfl)) (Or.inl (Or.inr rfl))) hS (lv_sub hl [0, 3] rfl)
                · skip
                  refine lv_iconst (v := nI 0) hx hb dX4_isSoundNow_142 (by decide) ?_
                  rw [show nI 0 = bI false from rfl]
                  refine W.widen (k := k9) (n := 4 * k9) (by omega) (by omega) ?_
                  exact rt_ni (mu := fun q => q = lf ∨ q = dg) C0 (bI_nar false) ⟨false, _, _, rfl, hP 0 _ rfl, hP 1 _ rfl⟩ hS hH dX4_isSoundNow_143
              · skip
                refine lv_iconst (v := nI 0) hx hb dX4_isSoundNow_100 (by decide) ?_
                rw [show nI 0 = bI false from rfl]
                refine W.widen (k := k9) (n := 4 * k9) (by omega) (by omega) ?_
                exact rt_ni (mu := fun q => q = lf ∨ q = dg) C0 (bI_nar false) ⟨false, _, _, rfl, hP 0 _ rfl, hP 1 _ rfl⟩ hS hH dX4_isSoundNow_101
            · skip
              refine lv_iconst (v := nI 0) hx hb dX4_isSoundNow_100 (by decide) ?_
              rw [show nI 0 = bI false from rfl]
              refine W.widen (k := k9) (n := 4 * k9) (by omega) (by omega) ?_
              exact rt_ni (mu := fun q => q = lf ∨ q = dg) C0 (bI_nar false) ⟨false, _, _, rfl, hP 0 _ rfl, hP 1 _ rfl⟩ hS hH dX4_isSoundNow_101
          · skip
            refine lv_iconst (v := nI 0) hx hb dX4_isSoundNow_59 (by decide) ?_
            rw [show nI 0 = bI false from rfl]
            refine W.widen (k := k9) (n := 4 * k9) (by omega) (by omega) ?_
            exact rt_ni (mu := fun q => q = lf ∨ q = dg) C0 (bI_nar false) ⟨false, _, _, rfl, hP 0 _ rfl, hP 1 _ rfl⟩ hS hH dX4_isSoundNow_60
end M23

-- plain; size
theorem low_step {f : Nat → Int32} {j x d : Nat} (h : lowR f j x) (hd : d < 65536) : lowR (upd f j (nI d)) (j + 1) (x + d * 65536 ^ j) := by
  obtain ⟨h1, h2, h3⟩ := rw_ext h.1 hd
  refine ⟨h1, fun k hk => ?_⟩
  by_cases e : k = j
  · subst e
    exact pk_us.trans h3.symm
  · exact (pk_un e).trans ((h.2 k (by omega)).trans (h2 k (by omega)).symm)
section M20
variable {p : Program} {l : Launch} {e : Env} {s : State} {m : MethodId} {args : Array Value} {below : List Frame} {meth : Method} {c : Code} {H H0 : Heap} {locs : List Loc} {cells slots : Nat} {Q : State → Prop} {A : Nat → Prop} {g : Gx}
abbrev rmX4_plain : Room := { frames := 0, cells := 0, slots := 0, locals := 0 }
set_option maxHeartbeats 4000000 in
set_option maxRecDepth 100000 in
theorem L_plain (C0 : Cx p s m args meth c RX4 cX4_plain 7 none wsX4_plain) (hK : KK g s) {z0 a lf k9 v : Nat} {yb : Bool} {fs : List Value} (hz : va_at g.1 vwCl (z0, .inr (5, fs)) H0) (hlf : fs[8]? = some (.ref lf)) (hne : ¬ z0 = lf) (ha : va_at g.1 vwCl (a, .inl (g.2 0, 4, .inl (rw16 v))) H0) (hne2 : ¬ a = lf) (hk9 : k9 ≤ 4) (K : ∀ (cc x : Nat) (f : Nat → Int32) (hf : lowR f k9 x) (ls : Array Slot) (H : Heap) (locs : List Loc), va_P g.1 vwCl [(lf, .inl (g.2 0, 4, .inl f))] H → va_D (fun q => q = lf ∨ H0.size ≤ q) [(lf, .inl (g.2 0, 4, .inl f))] → va_S (fun q => q = lf ∨ H0.size ≤ q) H0 H locs → lv_has ls 7 [(5, .int (nI k9)), (4, .int (nI cc)), (0, .ref z0), (1, .ref a), (2, .int (nI k9)), (3, .int (bI yb))] → W p l e rmX4_plain s m args below meth c H locs 0 0 Q (F0 m 68 ls [])) : ∀ (n : Nat) (j cc x : Nat) (f : Nat → Int32), j ≤ k9 → cc ≤ 1 → lowR f j x → k9 - j < n → ∀ (ls : Array Slot) (H : Heap) (locs : List Loc), va_P g.1 vwCl [(lf, .inl (g.2 0, 4, .inl f))] H → va_D (fun q => q = lf ∨ H0.size ≤ q) [(lf, .inl (g.2 0, 4, .inl f))] → va_S (fun q => q = lf ∨ H0.size ≤ q) H0 H locs → lv_has ls 7 [(5, .int (nI j)), (4, .int (nI cc)), (0, .ref z0), (1, .ref a), (2, .int (nI k9)), (3, .int (bI yb))] → W p l e rmX4_plain s m args below meth c H locs 0 0 Q (F0 m 14 ls []) := by
  obtain ⟨hx, hb, hr, hml, hown, hts, hlk⟩ := id C0
  have hA : ∀ q : Nat, H0.size ≤ q → (fun q => q = lf ∨ H0.size ≤ q) q := fun _ h => Or.inr h
  intro n
  induction n with
  | zero => intro j cc x f _ _ _ h; exact absurd h (Nat.not_lt_zero _)
  | succ n ih =>
    intro j cc x f hj hcc hf hn ls H locs hP hD hS hl
    refine lv_iload hx hb dX4_plain_14 (lv_at hl 0 rfl) ?_
    refine lv_iload_n hx hb dX4_plain_16 rfl (lv_at hl 4 rfl) ?_
    refine lv_icmp_ge (tgt := 68) hx hb dX4_plain_17 (by decide) (fun h1 => ?_) (fun h1 => ?_)
    · skip
      have hge : k9 ≤ j := by
        rcases Nat.lt_or_ge j k9 with h | h
        · exact absurd h1 (nI_ge h (by omega))
        · exact h
      obtain rfl : j = k9 := by omega
      exact K cc x f hf ls H locs hP hD hS hl
    · skip
      have hlt : j < k9 := by
        rcases Nat.lt_or_ge j k9 with h | h
        · exact h
        · exact absurd (nI_le h (by omega)) h1
      have hl9 := rw16_lt v j
      refine lv_iload_n hx hb dX4_plain_20 rfl (lv_at hl 5 rfl) ?_
      refine lv_if_eq (tgt := 37) hx hb dX4_plain_21 (by decide) (fun h2 => ?_) (fun h2 => ?_)
      · skip
        refine lv_aload_n hx hb dX4_plain_37 rfl (lv_at hl 3 rfl) ?_
        refine lv_iload hx hb dX4_plain_38 (lv_at hl 0 rfl) ?_
        refine r_iald (j := j) hx hb hK hS ha (nA' ha hne2) (by omega) (by decide) dX4_plain_40 ?_
        refine tp_i (y := nI (v / 65536 ^ j % 65536)) (rfl) ?_
        refine lv_istore (lv' := [(6, .int (nI (v / 65536 ^ j % 65536))), (5, .int (nI j)), (4, .int (nI cc)), (0, .ref z0), (1, .ref a), (2, .int (nI k9)), (3, .int (bI yb))]) hx hb dX4_plain_41 hl (by decide) rfl (fun ls hl => ?_)
        refine lv_aload_n hx hb dX4_plain_43 rfl (lv_at hl 3 rfl) ?_
        refine r_get (ci := 5) (C := RX4) (T := TX4) (N := 10) (v := .ref lf) hx hb hts (by decide +kernel) hown hK hS hz (nA' hz hne) rfl 8 (by decide) (hts (.fieldLink RX4 24 "RadixbenchModel" "left" "[I") (by decide +kernel)) (fun _ h9 => h9) hlf dX4_plain_44 ?_
        refine lv_iload hx hb dX4_plain_47 (lv_at hl 1 rfl) ?_
        refine lv_iload hx hb dX4_plain_49 (lv_at hl 0 rfl) ?_
        refine lv_ldc (v := nI 65536) hx hb hown (hts (.constant RX4 52 (65536)) (by decide +kernel)) dX4_plain_51 ?_
        refine lv_irem hx hb dX4_plain_53 (by decide) ?_
        refine tp_i (y := nI ((v / 65536 ^ j % 65536) % 65536)) (pk_rem (by omega) (by omega) (by omega)) ?_
        refine w_iast (j := j) hx hb hK hP hD hS 0 rfl (by omega) (by omega) dX4_plain_54 (fun H locs hP hD hS => ?_)
        have hP : va_P g.1 vwCl [(lf, .inl (g.2 0, 4, .inl (upd f j (nI ((v / 65536 ^ j % 65536) % 65536)))))] H := hP
        have hD : va_D _ [(lf, .inl (g.2 0, 4, .inl (upd f j (nI ((v / 65536 ^ j % 65536) % 65536)))))] := hD
        refine lv_iload hx hb dX4_plain_55 (lv_at hl 0 rfl) ?_
        refine lv_ldc (v := nI 65536) hx hb hown (hts (.constant RX4 52 (65536)) (by decide +kernel)) dX4_plain_57 ?_
        refine lv_idiv hx hb dX4_plain_59 (by decide) ?_
        refine tp_i (y := nI ((v / 65536 ^ j % 65536) / 65536)) (pk_div (by omega) (by omega) (by omega)) ?_
        refine lv_istore (lv' := [(4, .int (nI ((v / 65536 ^ j % 65536) / 65536))), (6, .int (nI (v / 65536 ^ j % 65536))), (5, .int (nI j)), (0, .ref z0), (1, .ref a), (2, .int (nI k9)), (3, .int (bI yb))]) hx hb dX4_plain_60 hl (by decide) rfl (fun ls hl => ?_)
        refine lv_iinc (v := nI (j + 1)) (lv' := [(5, .int (nI (j + 1))), (4, .int (nI ((v / 65536 ^ j % 65536) / 65536))), (6, .int (nI (v / 65536 ^ j % 65536))), (0, .ref z0), (1, .ref a), (2, .int (nI k9)), (3, .int (bI yb))]) hx hb dX4_plain_62 hl (k := 2) rfl (nI_1 _) (by decide) rfl (fun ls hl => ?_)
        refine lv_goto (tgt := 14) hx hb dX4_plain_65 (by decide) ?_
        exact ih (j + 1) _ _ _ hlt (by omega) (low_step hf (Nat.mod_lt _ (by decide))) (by omega) ls H locs hP hD hS (lv_sub hl [0, 1, 3, 4, 5, 6] rfl)
      · skip
        refine lv_ldc (v := nI 65535) hx hb hown (hts (.constant RX4 53 (65535)) (by decide +kernel)) dX4_plain_24 ?_
        refine lv_aload_n hx hb dX4_plain_26 rfl (lv_at hl 3 rfl) ?_
        refine lv_iload hx hb dX4_plain_27 (lv_at hl 0 rfl) ?_
        refine r_iald (j := j) hx hb hK hS ha (nA' ha hne2) (by omega) (by decide) dX4_plain_29 ?_
        refine tp_i (y := nI (v / 65536 ^ j % 65536)) (rfl) ?_
        refine lv_isub hx hb dX4_plain_30 ?_
        refine tp_i (y := nI (65535 - v / 65536 ^ j % 65536)) (pk_sub (by omega)) ?_
        refine lv_iload hx hb dX4_plain_31 (lv_at hl 1 rfl) ?_
        refine lv_iadd hx hb dX4_plain_33 ?_
        refine tp_i (y := nI ((65535 - v / 65536 ^ j % 65536) + cc)) (nI_add _ _) ?_
        refine lv_goto (tgt := 41) hx hb dX4_plain_34 (by decide) ?_
        refine lv_istore (lv' := [(6, .int (nI ((65535 - v / 65536 ^ j % 65536) + cc))), (5, .int (nI j)), (4, .int (nI cc)), (0, .ref z0), (1, .ref a), (2, .int (nI k9)), (3, .int (bI yb))]) hx hb dX4_plain_41 hl (by decide) rfl (fun ls hl => ?_)
        refine lv_aload_n hx hb dX4_plain_43 rfl (lv_at hl 3 rfl) ?_
        refine r_get (ci := 5) (C := RX4) (T := TX4) (N := 10) (v := .ref lf) hx hb hts (by decide +kernel) hown hK hS hz (nA' hz hne) rfl 8 (by decide) (hts (.fieldLink RX4 24 "RadixbenchModel" "left" "[I") (by decide +kernel)) (fun _ h9 => h9) hlf dX4_plain_44 ?_
        refine lv_iload hx hb dX4_plain_47 (lv_at hl 1 rfl) ?_
        refine lv_iload hx hb dX4_plain_49 (lv_at hl 0 rfl) ?_
        refine lv_ldc (v := nI 65536) hx hb hown (hts (.constant RX4 52 (65536)) (by decide +kernel)) dX4_plain_51 ?_
        refine lv_irem hx hb dX4_plain_53 (by decide) ?_
        refine tp_i (y := nI (((65535 - v / 65536 ^ j % 65536) + cc) % 65536)) (pk_rem (by omega) (by omega) (by omega)) ?_
        refine w_iast (j := j) hx hb hK hP hD hS 0 rfl (by omega) (by omega) dX4_plain_54 (fun H locs hP hD hS => ?_)
        have hP : va_P g.1 vwCl [(lf, .inl (g.2 0, 4, .inl (upd f j (nI (((65535 - v / 65536 ^ j % 65536) + cc) % 65536)))))] H := hP
        have hD : va_D _ [(lf, .inl (g.2 0, 4, .inl (upd f j (nI (((65535 - v / 65536 ^ j % 65536) + cc) % 65536)))))] := hD
        refine lv_iload hx hb dX4_plain_55 (lv_at hl 0 rfl) ?_
        refine lv_ldc (v := nI 65536) hx hb hown (hts (.constant RX4 52 (65536)) (by decide +kernel)) dX4_plain_57 ?_
        refine lv_idiv hx hb dX4_plain_59 (by decide) ?_
        refine tp_i (y := nI (((65535 - v / 65536 ^ j % 65536) + cc) / 65536)) (pk_div (by omega) (by omega) (by omega)) ?_
        refine lv_istore (lv' := [(4, .int (nI (((65535 - v / 65536 ^ j % 65536) + cc) / 65536))), (6, .int (nI ((65535 - v / 65536 ^ j % 65536) + cc))), (5, .int (nI j)), (0, .ref z0), (1, .ref a), (2, .int (nI k9)), (3, .int (bI yb))]) hx hb dX4_plain_60 hl (by decide) rfl (fun ls hl => ?_)
        refine lv_iinc (v := nI (j + 1)) (lv' := [(5, .int (nI (j + 1))), (4, .int (nI (((65535 - v / 65536 ^ j % 65536) + cc) / 65536))), (6, .int (nI ((65535 - v / 65536 ^ j % 65536) + cc))), (0, .ref z0), (1, .ref a), (2, .int (nI k9)), (3, .int (bI yb))]) hx hb dX4_plain_62 hl (k := 2) rfl (nI_1 _) (by decide) rfl (fun ls hl => ?_)
        refine lv_goto (tgt := 14) hx hb dX4_plain_65 (by decide) ?_
        exact ih (j + 1) _ _ _ hlt (by omega) (low_step hf (Nat.mod_lt _ (by decide))) (by omega) ls H locs hP hD hS (lv_sub hl [0, 1, 3, 4, 5, 6] rfl)
set_option maxHeartbeats 4000000 in
set_option maxRecDepth 100000 in
/-- plain(own, many, isMinus): some number below 65536^many is left -/
theorem c_plain (l : Launch) (g : Gx) (H0 : Heap) (z0 a lf k9 v : Nat) (yb : Bool) (f : Nat → Int32) (fs : List Value) (hz : va_at g.1 vwCl (z0, .inr (5, fs)) H0) (hlf : fs[8]? = some (.ref lf)) (hne : ¬ z0 = lf) (hf : va_at g.1 vwCl (lf, .inl (g.2 0, 4, .inl f)) H0) (ha : va_at g.1 vwCl (a, .inl (g.2 0, 4, .inl (rw16 v))) H0) (hne2 : ¬ a = lf) (hk9 : k9 ≤ 4) : Met l yX4_plain wsX4_plain rmX4_plain (va_Pc [.ref z0, .ref a, .int (nI k9), .int (bI yb)] (hB g H0)) (nQ H0 (fun q => q = lf) (lfQ g lf (fun r f => r = none ∧ ∃ x : Nat, lowR f k9 x))) 0 0 (fun q => q = lf ∨ H0.size ≤ q) := by
  refine cx_met (own := RX4) (cc := cX4_plain) (maxL := 7) (by decide) rfl rfl (Nat.le_of_ble_eq_true rfl) ?_
  intro p e s m below meth c ls C0 hB0 hnm hl
  obtain ⟨hH, hK⟩ := hB0
  obtain ⟨hx, hb, hr, hml, hown, hts, hlk⟩ := id C0
  subst hH
  have hS : va_S (fun q => q = lf ∨ s.heap.size ≤ q) s.heap s.heap [] := va_S.rf
  have hA : ∀ q : Nat, s.heap.size ≤ q → (fun q => q = lf ∨ s.heap.size ≤ q) q := fun q h => Or.inr h
  have hl : lv_has ls 7 [(0, .ref z0), (1, .ref a), (2, .int (nI k9)), (3, .int (bI yb))] := hl
  refine lv_iload_n hx hb dX4_plain_0 rfl (lv_at hl 3 rfl) ?_
  refine lv_if_eq (tgt := 8) hx hb dX4_plain_1 (by decide) (fun h1 => ?_) (fun h1 => ?_)
  · skip
    refine lv_iconst (v := nI 0) hx hb dX4_plain_8 (by decide) ?_
    refine lv_istore (lv' := [(4, .int (nI 0)), (0, .ref z0), (1, .ref a), (2, .int (nI k9)), (3, .int (bI yb))]) hx hb dX4_plain_9 hl (by decide) rfl (fun ls hl => ?_)
    refine lv_iconst (v := nI 0) hx hb dX4_plain_11 (by decide) ?_
    refine lv_istore (lv' := [(5, .int (nI 0)), (4, .int (nI 0)), (0, .ref z0), (1, .ref a), (2, .int (nI k9)), (3, .int (bI yb))]) hx hb dX4_plain_12 hl (by decide) rfl (fun ls hl => ?_)
    refine L_plain C0 hK hz hlf hne ha hne2 hk9 (fun cc x f2 hf2 ls H locs hP hD hS hl => ?_) (k9 + 1) 0 0 0 f (Nat.zero_le _) (by decide) ⟨Nat.one_pos, fun k hk => absurd hk (Nat.not_lt_zero k)⟩ (by omega) ls s.heap [] (p1 hf) (d1 (Or.inl rfl)) hS hl
    exact rt_v (mu := fun q => q = lf) C0 ⟨f2, ⟨rfl, x, hf2⟩, hP 0 _ rfl⟩ hS rfl dX4_plain_68
  · skip
    refine lv_iconst (v := nI 1) hx hb dX4_plain_4 (by decide) ?_
    refine lv_goto (tgt := 9) hx hb dX4_plain_5 (by decide) ?_
    refine lv_istore (lv' := [(4, .int (nI 1)), (0, .ref z0), (1, .ref a), (2, .int (nI k9)), (3, .int (bI yb))]) hx hb dX4_plain_9 hl (by decide) rfl (fun ls hl => ?_)
    refine lv_iconst (v := nI 0) hx hb dX4_plain_11 (by decide) ?_
    refine lv_istore (lv' := [(5, .int (nI 0)), (4, .int (nI 1)), (0, .ref z0), (1, .ref a), (2, .int (nI k9)), (3, .int (bI yb))]) hx hb dX4_plain_12 hl (by decide) rfl (fun ls hl => ?_)
    refine L_plain C0 hK hz hlf hne ha hne2 hk9 (fun cc x f2 hf2 ls H locs hP hD hS hl => ?_) (k9 + 1) 0 1 0 f (Nat.zero_le _) (by decide) ⟨Nat.one_pos, fun k hk => absurd hk (Nat.not_lt_zero k)⟩ (by omega) ls s.heap [] (p1 hf) (d1 (Or.inl rfl)) hS hl
    exact rt_v (mu := fun q => q = lf) C0 ⟨f2, ⟨rfl, x, hf2⟩, hP 0 _ rfl⟩ hS rfl dX4_plain_68
abbrev rmX4_size : Room := { frames := 0, cells := 0, slots := 0, locals := 0 }
set_option maxHeartbeats 4000000 in
set_option maxRecDepth 100000 in
/-- size(kind) -/
theorem c_size (l : Launch) (g : Gx) (H0 : Heap) (k : Nat) (hk : k < 4) : Met l yX4_size wsX4_size rmX4_size (va_Pc [.int (nI k)] (hB g H0)) (pQ (some (.int (nI (if k < 2 then 2 else 4)))) H0) 0 0 (fun q => H0.size ≤ q) := by
  refine cx_met (own := RX4) (cc := cX4_size) (maxL := 1) (by decide) rfl rfl (Nat.le_of_ble_eq_true rfl) ?_
  intro p e s m below meth c ls C0 hB0 hnm hl
  obtain ⟨hH, hK⟩ := hB0
  obtain ⟨hx, hb, hr, hml, hown, hts, hlk⟩ := id C0
  subst hH
  have hS : va_S (fun q => s.heap.size ≤ q) s.heap s.heap [] := va_S.rf
  have hA : ∀ q : Nat, s.heap.size ≤ q → s.heap.size ≤ q := fun q h => h
  have hl : lv_has ls 1 [(0, .int (nI k))] := hl
  refine lv_iload_n hx hb dX4_size_0 rfl (lv_at hl 0 rfl) ?_
  refine lv_iconst (v := nI 2) hx hb dX4_size_1 (by decide) ?_
  refine lv_icmp_ge (tgt := 9) hx hb dX4_size_2 (by decide) (fun h1 => ?_) (fun h1 => ?_)
  · skip
    have hge : 2 ≤ k := by
      rcases Nat.lt_or_ge k 2 with h | h
      · exact absurd h1 (nI_ge h (by omega))
      · exact h
    refine lv_iconst (v := nI 4) hx hb dX4_size_9 (by decide) ?_
    exact rt_i C0 (by rw [if_neg (by omega)]) hS rfl dX4_size_10
  · skip
    have hlt : k < 2 := by
      rcases Nat.lt_or_ge k 2 with h | h
      · exact h
      · exact absurd (nI_le h (by omega)) h1
    refine lv_iconst (v := nI 2) hx hb dX4_size_5 (by decide) ?_
    refine lv_goto (tgt := 10) hx hb dX4_size_6 (by decide) ?_
    exact rt_i C0 (by rw [if_pos hlt]) hS rfl dX4_size_10
end M20

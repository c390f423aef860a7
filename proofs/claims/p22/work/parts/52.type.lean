-- THE MODEL WITH ITS TEXT: type, erase, clear, writes, write, bits
/-- the numbers that the model keeps lie in their fields -/
def FT (fs : List Value) : Prop := (∃ x : Int32, fs[0]? = some (.int x)) ∧ (∃ x : Int32, fs[3]? = some (.int x)) ∧ (∃ x : Int32, fs[4]? = some (.int x)) ∧ (∃ x : Int32, fs[5]? = some (.int x)) ∧ (∃ x : Int32, fs[6]? = some (.int x)) ∧ ∃ x : Int64, fs[9]? = some (.long x)
theorem ftI {fs : List Value} {k j : Nat} {y : Int32} (h : ∃ x : Int32, fs[k]? = some (.int x)) : ∃ x : Int32, (fs.set j (.int y))[k]? = some (.int x) := by
  obtain ⟨x, hx⟩ := h
  by_cases e : j = k
  · subst e
    exact ⟨y, by rw [List.getElem?_set_self (List.getElem?_eq_some_iff.mp hx).1]⟩
  · exact ⟨x, by rw [List.getElem?_set_ne e]; exact hx⟩
theorem FT.i {fs : List Value} {j : Nat} {y : Int32} (h : FT fs) (hj : j ≠ 9) : FT (fs.set j (.int y)) := by
  obtain ⟨h0, h1, h2, h3, h4, x, h5⟩ := h
  exact ⟨ftI h0, ftI h1, ftI h2, ftI h3, ftI h4, x, by rw [List.getElem?_set_ne hj]; exact h5⟩
theorem FT.t {fs : List Value} {v : Value} (h : FT fs) : FT (fs.set 2 v) := by
  obtain ⟨⟨x0, h0⟩, ⟨x1, h1⟩, ⟨x2, h2⟩, ⟨x3, h3⟩, ⟨x4, h4⟩, x5, h5⟩ := h
  exact ⟨⟨x0, by rw [List.getElem?_set_ne (by decide)]; exact h0⟩, ⟨x1, by rw [List.getElem?_set_ne (by decide)]; exact h1⟩, ⟨x2, by rw [List.getElem?_set_ne (by decide)]; exact h2⟩, ⟨x3, by rw [List.getElem?_set_ne (by decide)]; exact h3⟩, ⟨x4, by rw [List.getElem?_set_ne (by decide)]; exact h4⟩, x5, by rw [List.getElem?_set_ne (by decide)]; exact h5⟩
theorem FT.l {fs : List Value} {y : Int64} (h : FT fs) : FT (fs.set 9 (.long y)) := by
  obtain ⟨⟨x0, h0⟩, ⟨x1, h1⟩, ⟨x2, h2⟩, ⟨x3, h3⟩, ⟨x4, h4⟩, x5, h5⟩ := h
  exact ⟨⟨x0, by rw [List.getElem?_set_ne (by decide)]; exact h0⟩, ⟨x1, by rw [List.getElem?_set_ne (by decide)]; exact h1⟩, ⟨x2, by rw [List.getElem?_set_ne (by decide)]; exact h2⟩, ⟨x3, by rw [List.getElem?_set_ne (by decide)]; exact h3⟩, ⟨x4, by rw [List.getElem?_set_ne (by decide)]; exact h4⟩, y, by rw [List.getElem?_set_self (List.getElem?_eq_some_iff.mp h5).1]⟩
/-- the model, and its text t of n signs (a String at a, its bytes at b) -/
def MT (g : Gx) (H : Heap) (z0 mc lf dg : Nat) (fs : List Value) (rr V : Nat → Nat) (a b n : Nat) (t : Nat → Nat) : Prop :=
  MD g H z0 mc lf dg fs rr V ∧ FT fs ∧ fs[2]? = some (.ref a) ∧ sS g a b n t H ∧ ¬ zM z0 mc lf dg a ∧ ¬ zM z0 mc lf dg b ∧ n ≤ 70 ∧ ∀ j, j < n → t j < 128
/-- an answer, and the model with its text behind it -/
def zT (g : Gx) (z0 mc lf dg : Nat) (P : Option Value → (Nat → Nat) → Nat → (Nat → Nat) → Prop) : Option Value → Heap → Prop := fun r H1 => ∃ (fs : List Value) (rr V : Nat → Nat) (a b n : Nat) (t : Nat → Nat), P r V n t ∧ MT g H1 z0 mc lf dg fs rr V a b n t
/-- the sign that is typed -/
def chN (i : Nat) (zg : Bool) : Nat := if i = 36 then 45 else if i = 37 then 43 else if zg = true ∧ 9 < i then 65 + i - 10 else sgn i
theorem chN_lt {i : Nat} {zg : Bool} (h : i ≤ 37) : chN i zg < 128 := by
  unfold chN
  split
  · decide
  · split
    · decide
    · split
      · omega
      · exact sgn_lt (by omega)
theorem sg_of {x : Int32} (h : nI 0 ≤ x ∧ x ≤ nI 37) : ∃ i : Nat, i ≤ 37 ∧ x = nI i := by
  obtain ⟨j, hj, rfl⟩ := nI_of2 (x := x) (M := nI 37) (n := 37) (by decide) (Int32.not_lt.mpr h.1) h.2
  exact ⟨j, by omega, rfl⟩
theorem rad_of {x : Int32} (h : nI 2 ≤ x ∧ x ≤ nI 36) : ∃ i : Nat, (2 ≤ i ∧ i ≤ 36) ∧ x = nI i := by
  obtain ⟨j, hj, rfl⟩ := nI_of2 (x := x) (M := nI 36) (n := 36) (by decide) (Int32.not_lt.mpr (Int32.le_trans (by decide) h.1)) h.2
  have h3 := le_n (by decide) h.1
  exact ⟨j, by omega, rfl⟩
theorem kin_of {x : Int32} (h : nI 0 ≤ x ∧ x ≤ nI 3) : ∃ i : Nat, i < 4 ∧ x = nI i := by
  obtain ⟨j, hj, rfl⟩ := nI_of2 (x := x) (M := nI 3) (n := 3) (by decide) (Int32.not_lt.mpr h.1) h.2
  exact ⟨j, by omega, rfl⟩
theorem bas_of {x : Int32} (h : nI 0 ≤ x ∧ x ≤ nI 2) : ∃ i : Nat, i < 3 ∧ x = nI i := by
  obtain ⟨j, hj, rfl⟩ := nI_of2 (x := x) (M := nI 2) (n := 2) (by decide) (Int32.not_lt.mpr h.1) h.2
  exact ⟨j, by omega, rfl⟩
section WC
variable {p : Program} {l : Launch} {e : Env} {R : Room} {s : State} {m : MethodId} {args : Array Value} {below : List Frame} {meth : Method} {c : Code} {H H0 : Heap} {locs : List Loc} {cells slots nL pcT : Nat} {Q : State → Prop} {A : Nat → Prop} {lvT : List (Nat × Value)} {fr : JFrame}
/-- a place that several ways reach -/
theorem w_cut (hk : (∀ (ls : Array Slot) (locs : List Loc), va_S A H0 H locs → lv_has ls nL lvT → W p l e R s m args below meth c H locs cells slots Q (F0 m pcT ls [])) → W p l e R s m args below meth c H locs cells slots Q fr)
    (k : ∀ (ls : Array Slot) (locs : List Loc), va_S A H0 H locs → lv_has ls nL lvT → W p l e R s m args below meth c H locs cells slots Q (F0 m pcT ls [])) : W p l e R s m args below meth c H locs cells slots Q fr := hk k
end WC
section M52
variable {p : Program} {l : Launch} {e : Env} {s : State} {m : MethodId} {args : Array Value} {below : List Frame} {meth : Method} {c : Code} {H H0 : Heap} {locs : List Loc} {cells slots : Nat} {Q : State → Prop} {A : Nat → Prop} {g : Gx} {b0 : Nat}
abbrev rmX4_type : Room := { frames := 6, cells := 6, slots := 307, locals := 171 }
set_option maxHeartbeats 4000000 in
set_option maxRecDepth 100000 in
/-- type(sign, isGreat) -/
theorem c_type (l : Launch) (g : Gx) (b0 : Nat) (H0 : Heap) (z0 mc lf dg : Nat) (fs : List Value) (rr V : Nat → Nat) (a b n : Nat) (t : Nat → Nat) (hT : MT g H0 z0 mc lf dg fs rr V a b n t) (hmb : ∀ q : Nat, zM z0 mc lf dg q → b0 ≤ q) (x : Int32) (zg : Bool) : Met l yX4_type wsX4_type rmX4_type (va_Pc [.ref z0, .int x, .int (bI zg)] (hJ g b0 H0)) (nQ H0 (zM z0 mc lf dg) (zT g z0 mc lf dg (fun r V2 n2 t2 => V2 = V ∧ ((∃ i : Nat, i ≤ 37 ∧ x = nI i ∧ n < 70 ∧ r = some (.int (nI (n + 1))) ∧ n2 = n + 1 ∧ t2 = tup t n (chN i zg)) ∨ (n2 = n ∧ t2 = t ∧ r = some (.int (nI 0)) ∧ (¬ (nI 0 ≤ x ∧ x ≤ nI 37) ∨ n = 70)))))) 6 307 (fun q => (zM z0 mc lf dg) q ∨ H0.size ≤ q) := by
  refine cx_met (own := RX4) (cc := cX4_type) (maxL := 4) (by decide) rfl rfl (Nat.le_of_ble_eq_true rfl) ?_
  intro p e s m below meth c ls C0 hB0 hnm hl
  obtain ⟨hH, hK, hZ⟩ := hB0
  obtain ⟨hx, hb, hr, hml, hown, hts, hlk⟩ := id C0
  subst hH
  have hS : va_S (fun q => (zM z0 mc lf dg) q ∨ s.heap.size ≤ q) s.heap s.heap [] := va_S.rf
  have hA : ∀ q : Nat, s.heap.size ≤ q → (fun q => (zM z0 mc lf dg) q ∨ s.heap.size ≤ q) q := fun q h => Or.inr h
  have h0Z := hZ.1
  have hAb : ∀ q : Nat, (fun q => (zM z0 mc lf dg) q ∨ s.heap.size ≤ q) q → b0 ≤ q := fun q h => h.elim (hmb q) (fun h => Nat.le_trans h0Z h)
  have hl : lv_has ls 4 [(0, .ref z0), (1, .int x), (2, .int (bI zg))] := hl
  obtain ⟨hM, hFT, htx, hs, hna, hnb, hn70, ht128⟩ := id hT
  obtain ⟨hz, hfl, -⟩ := id hM
  refine lv_aload_n hx hb dX4_type_0 rfl (lv_at hl 0 rfl) ?_
  refine lv_iconst (v := nI 0) hx hb dX4_type_1 (by decide) ?_
  refine w_putf (ci := 5) (C := RX4) (T := TX4) (N := 10) (ty := .int) hx hb hts (by decide +kernel) tyX4 tyX4_ok nmX4 hown hK hS hz (Or.inl (Or.inl rfl)) rfl 0 (by decide) (hts (.fieldLink RX4 27 "RadixbenchModel" "thrown" "I") (by decide +kernel)) (fun _ h9 => h9) rfl (by decide +kernel) rfl rfl (by rw [hfl]; decide) dX4_type_2 (fun H1 locs hz1 hs1 ho1 hS => ?_)
  have hM1 := hM.fset (by decide) (by decide) (by decide) ho1 hz1
  obtain ⟨-, hfl1, hmc, hdg, hlf, ⟨fr, hg9, hfr⟩, hrr, -, -, -⟩ := id hM1
  have htx1 : (fs.set 0 (.int (nI 0)))[2]? = some (.ref a) := by rw [List.getElem?_set_ne (by decide)]; exact htx
  have hs1 := hs.kept (ho1 _ (fun z => hna (Or.inl z))) (ho1 _ (fun z => hnb (Or.inl z)))
  have hFT1 : FT (fs.set 0 (.int (nI 0))) := hFT.i (by decide)
  refine lv_iload_n hx hb dX4_type_5 rfl (lv_at hl 1 rfl) ?_
  refine lv_iconst (v := nI 0) hx hb dX4_type_6 (by decide) ?_
  refine lv_bipush (v := nI 37) hx hb dX4_type_7 (by decide) ?_
  refine cp_S (As := [.int x, .int (nI 0), .int (nI 37)]) (rest := []) C0 hl hK hS hA (c_is l g H1 x (nI 0) (nI 37)) gX4_type_X4_is rfl ⟨rfl, rfl⟩ (show hd_ok yX4_is 3 from ⟨by decide, by decide, by decide +kernel⟩) ⟨Nat.le_of_ble_eq_true rfl, Nat.le_of_ble_eq_true rfl⟩ rfl (Nat.le_of_ble_eq_true rfl) ⟨by decide, by decide⟩ dX4_type_9 (fun locs hS => ?_)
  refine lv_if_ne (tgt := 21) hx hb dX4_type_12 (by decide) (fun h1 => ?_) (fun h1 => ?_)
  · skip
    obtain ⟨i, hi, rfl⟩ := sg_of (of_decide_eq_true (bI_n0 h1))
    refine lv_aload_n hx hb dX4_type_21 rfl (lv_at hl 0 rfl) ?_
    refine va_get (ci := 5) (C := RX4) (T := TX4) (N := 10) (v := .ref a) hx hb hts (by decide +kernel) hown hK.1 (p1 hz1) 0 rfl rfl 2 (by decide) (hts (.fieldLink RX4 16 "RadixbenchModel" "text" "Ljava/lang/String;") (by decide +kernel)) (fun _ h9 => h9) htx1 dX4_type_22 ?_
    refine jp_V (As := []) (rest := []) C0 hl hK hS hA (zat hZ hS hAb) (c_sLen l g b0 H1 a b n t hs1) gX4_type_J0_length_8abf5 rfl ⟨rfl, rfl⟩ (j_srecv hK hs1) ⟨rfl, (show hd_ok yJ0_length_8abf5 0 from ⟨by decide, by decide, by decide +kernel⟩)⟩ ⟨Nat.le_of_ble_eq_true rfl, Nat.le_of_ble_eq_true rfl⟩ rfl (Nat.le_of_ble_eq_true rfl) ⟨by decide, by decide⟩ dX4_type_25 (fun locs hS => ?_)
    refine lv_bipush (v := nI 70) hx hb dX4_type_28 (by decide) ?_
    refine lv_icmp_ne (tgt := 39) hx hb dX4_type_30 (by decide) (fun h2 => ?_) (fun h2 => ?_)
    · skip
      have hn9 : n < 70 := by rcases Nat.lt_or_ge n 70 with e | e; exact e; exact absurd (by rw [show n = 70 by omega]) h2
      refine w_cut (nL := 4) (pcT := 87) (lvT := [(3, .int (nI (chN i zg))), (0, .ref z0), (1, .int (nI i)), (2, .int (bI zg))]) (H0 := s.heap) (A := fun q => zM z0 mc lf dg q ∨ s.heap.size ≤ q) (fun hrest => ?_) (fun ls locs hS hl => ?_)
      · skip
        refine lv_iload_n hx hb dX4_type_39 rfl (lv_at hl 1 rfl) ?_
        refine lv_bipush (v := nI 36) hx hb dX4_type_40 (by decide) ?_
        refine lv_icmp_ne (tgt := 50) hx hb dX4_type_42 (by decide) (fun h3 => ?_) (fun h3 => ?_)
        · skip
          have e3 : i ≠ 36 := fun z => h3 (by rw [z])
          refine lv_iload_n hx hb dX4_type_50 rfl (lv_at hl 1 rfl) ?_
          refine lv_bipush (v := nI 37) hx hb dX4_type_51 (by decide) ?_
          refine lv_icmp_ne (tgt := 61) hx hb dX4_type_53 (by decide) (fun h4 => ?_) (fun h4 => ?_)
          · skip
            have e4 : i ≠ 37 := fun z => h4 (by rw [z])
            refine lv_iload_n hx hb dX4_type_61 rfl (lv_at hl 2 rfl) ?_
            refine lv_if_eq (tgt := 82) hx hb dX4_type_62 (by decide) (fun h5 => ?_) (fun h5 => ?_)
            · skip
              refine lv_iload_n hx hb dX4_type_82 rfl (lv_at hl 1 rfl) ?_
              refine cp_S (As := [.int (nI i)]) (rest := []) C0 hl hK hS hA (c_sign l g H1 i (by omega)) gX4_type_X4_sign rfl ⟨rfl, rfl⟩ (show hd_ok yX4_sign 1 from ⟨by decide, by decide, by decide +kernel⟩) ⟨Nat.le_of_ble_eq_true rfl, Nat.le_of_ble_eq_true rfl⟩ rfl (Nat.le_of_ble_eq_true rfl) ⟨by decide, by decide⟩ dX4_type_83 (fun locs hS => ?_)
              refine tp_i (y := nI (chN i zg)) ((congrArg nI (by unfold chN; rw [if_neg e3, if_neg e4, if_neg (fun z => absurd z.1 (by rw [bI_0 h5]; decide))]))) ?_
              refine lv_istore_n (lv' := [(3, .int (nI (chN i zg))), (0, .ref z0), (1, .int (nI i)), (2, .int (bI zg))]) hx hb dX4_type_86 rfl hl (by decide) rfl (fun ls hl => ?_)
              exact hrest ls _ hS (lv_sub hl [0, 1, 2, 3] rfl)
            · skip
              refine lv_iload_n hx hb dX4_type_65 rfl (lv_at hl 1 rfl) ?_
              refine lv_bipush (v := nI 9) hx hb dX4_type_66 (by decide) ?_
              refine lv_icmp_le (tgt := 82) hx hb dX4_type_68 (by decide) (fun h6 => ?_) (fun h6 => ?_)
              · skip
                have e6 := le_n (by omega) h6
                refine lv_iload_n hx hb dX4_type_82 rfl (lv_at hl 1 rfl) ?_
                refine cp_S (As := [.int (nI i)]) (rest := []) C0 hl hK hS hA (c_sign l g H1 i (by omega)) gX4_type_X4_sign rfl ⟨rfl, rfl⟩ (show hd_ok yX4_sign 1 from ⟨by decide, by decide, by decide +kernel⟩) ⟨Nat.le_of_ble_eq_true rfl, Nat.le_of_ble_eq_true rfl⟩ rfl (Nat.le_of_ble_eq_true rfl) ⟨by decide, by decide⟩ dX4_type_83 (fun locs hS => ?_)
                refine tp_i (y := nI (chN i zg)) ((congrArg nI (by unfold chN; rw [if_neg e3, if_neg e4, if_neg (fun z => absurd z.2 (by omega))]))) ?_
                refine lv_istore_n (lv' := [(3, .int (nI (chN i zg))), (0, .ref z0), (1, .int (nI i)), (2, .int (bI zg))]) hx hb dX4_type_86 rfl hl (by decide) rfl (fun ls hl => ?_)
                exact hrest ls _ hS (lv_sub hl [0, 1, 2, 3] rfl)
              · skip
                have e6 := nle_n (by decide) h6
                refine lv_bipush (v := nI 65) hx hb dX4_type_71 (by decide) ?_
                refine lv_iload_n hx hb dX4_type_73 rfl (lv_at hl 1 rfl) ?_
                refine lv_iadd hx hb dX4_type_74 ?_
                refine tp_i (y := nI (65 + i)) (nI_add _ _) ?_
                refine lv_bipush (v := nI 10) hx hb dX4_type_75 (by decide) ?_
                refine lv_isub hx hb dX4_type_77 ?_
                refine tp_i (y := nI ((65 + i) - 10)) (pk_sub (by omega)) ?_
                refine lv_i2c (v := nI (65 + i - 10)) hx hb dX4_type_78 (i2c_n (k := 65 + i - 10) (by omega)) ?_
                refine lv_goto (tgt := 86) hx hb dX4_type_79 (by decide) ?_
                refine tp_i (y := nI (chN i zg)) ((congrArg nI (by unfold chN; rw [if_neg e3, if_neg e4, if_pos ⟨bI_n0 h5, e6⟩]))) ?_
                refine lv_istore_n (lv' := [(3, .int (nI (chN i zg))), (0, .ref z0), (1, .int (nI i)), (2, .int (bI zg))]) hx hb dX4_type_86 rfl hl (by decide) rfl (fun ls hl => ?_)
                exact hrest ls _ hS (lv_sub hl [0, 1, 2, 3] rfl)
          · skip
            have e4 : i = 37 := nI_inj (by omega) (by decide) h4
            refine lv_bipush (v := nI 43) hx hb dX4_type_56 (by decide) ?_
            refine lv_goto (tgt := 86) hx hb dX4_type_58 (by decide) ?_
            refine tp_i (y := nI (chN i zg)) ((congrArg nI (by unfold chN; rw [if_neg e3, if_pos e4]))) ?_
            refine lv_istore_n (lv' := [(3, .int (nI (chN i zg))), (0, .ref z0), (1, .int (nI i)), (2, .int (bI zg))]) hx hb dX4_type_86 rfl hl (by decide) rfl (fun ls hl => ?_)
            exact hrest ls _ hS (lv_sub hl [0, 1, 2, 3] rfl)
        · skip
          have e3 : i = 36 := nI_inj (by omega) (by decide) h3
          refine lv_bipush (v := nI 45) hx hb dX4_type_45 (by decide) ?_
          refine lv_goto (tgt := 86) hx hb dX4_type_47 (by decide) ?_
          refine tp_i (y := nI (chN i zg)) ((congrArg nI (by unfold chN; rw [if_pos e3]))) ?_
          refine lv_istore_n (lv' := [(3, .int (nI (chN i zg))), (0, .ref z0), (1, .int (nI i)), (2, .int (bI zg))]) hx hb dX4_type_86 rfl hl (by decide) rfl (fun ls hl => ?_)
          exact hrest ls _ hS (lv_sub hl [0, 1, 2, 3] rfl)
      · skip
        refine lv_aload_n hx hb dX4_type_87 rfl (lv_at hl 1 rfl) ?_
        refine f_new (ci := 1) (C := RJ4) (T := TJ4) (N := 4) (fs := [.null, .int 0, .int 0, .int 0]) hx hb hts (by decide +kernel) tyJ4 tyJ4_ok hown (hts (.classLink RX4 86 RJ4) (by decide +kernel)) (hts (.instantiable RJ4 4) (by decide +kernel)) (hts (.initialized RJ4) (by decide +kernel)) hK hS rfl dfJ4 (by decide) (by decide) dX4_type_88 (fun c3 H2 hqc3 fc3 zc3 hk2 hS => ?_)
        refine lv_dup hx hb dX4_type_91 rfl ?_
        have hsz1 := hS.1
        refine jn_I (As := []) (rest := [.ref c3, .ref z0]) C0 hl hK hS hA (fun q h => Or.inr (by have h : q = c3 := h; omega)) (zat hZ hS hAb) (c_bInit l g b0 H2 c3 fc3 (fun q h => by have h : q = c3 := h; omega)) gX4_type_J4_init_da8c8 rfl ⟨rfl, rfl⟩ ⟨by decide +kernel, by decide +kernel, by decide +kernel, rfl⟩ (show hd_ok yJ4_init_da8c8 0 from ⟨by decide, by decide, by decide +kernel⟩) ⟨Nat.le_of_ble_eq_true rfl, Nat.le_of_ble_eq_true rfl⟩ rfl (Nat.le_of_ble_eq_true rfl) ⟨by decide, by decide⟩ dX4_type_92 (fun v H3 locs hv hzz hk3 hS => ?_)
        obtain ⟨rfl, b3, hb3, hS3⟩ := hv
        have hkA : ∀ q : Nat, q < H1.size → H3[q]? = H1[q]? := fun q h => (hk3 q (by omega) (fun (z : q = c3) => by omega)).trans (hk2 q h)
        have hM3 := hM1.same hkA
        obtain ⟨hz3, hfl3, -⟩ := id hM3
        have hs3 := hs1.kept (hkA _ hs1.lt) (hkA _ hs1.2.lt)
        have l1 := hs1.lt
        have l2 := hs1.2.lt
        have lz3 := hz3.lt
        have lz := hz1.lt
        dsimp only at lz
        refine W.widen (k := 2) (n := 20) (by decide) (by decide) ?_
        have cT : celT 0 n 16 ≤ 1 ∧ sloT 0 n 16 ≤ 70 ∧ capT 0 n 16 ≤ 70 ∧ n ≤ capT 0 n 16 := by unfold celT sloT capT ncap; split <;> refine ⟨?_, ?_, ?_, ?_⟩ <;> omega
        refine lv_aload_n hx hb dX4_type_95 rfl (lv_at hl 1 rfl) ?_
        refine va_get (ci := 5) (C := RX4) (T := TX4) (N := 10) (v := .ref a) hx hb hts (by decide +kernel) hown hK.1 (p1 hz3) 0 rfl rfl 2 (by decide) (hts (.fieldLink RX4 16 "RadixbenchModel" "text" "Ljava/lang/String;") (by decide +kernel)) (fun _ h9 => h9) htx1 dX4_type_96 ?_
        refine jn_V (As := [.ref a]) (rest := [.ref z0]) C0 hl hK hS hA (fun q h => h.elim (fun h => Or.inr (by rw [h]; omega)) (fun h => Or.inr (by rw [h]; omega))) (zat hZ hS hAb) (c_appendS l g b0 H3 c3 b3 16 0 (fun _ => 0) hS3 a b n t hs3 ht128 ⟨by omega, by omega⟩ (by omega) (fun q h => h.elim (fun h => by rw [h]; omega) (fun h => by rw [h]; omega))) gX4_type_J4_append_15ec4 rfl ⟨rfl, rfl⟩ (hS3.recv hK) ⟨rfl, (show hd_ok yJ4_append_15ec4 1 from ⟨by decide, by decide, by decide +kernel⟩)⟩ ⟨Nat.le_of_ble_eq_true rfl, Nat.le_of_ble_eq_true rfl⟩ rfl (Nat.le_of_ble_eq_true rfl) ⟨by show 2 + celT 0 n 16 ≤ 6; omega, by show 20 + sloT 0 n 16 ≤ 307; omega⟩ dX4_type_99 (fun v H4 locs hv hzz hk4 hS => ?_)
        obtain ⟨rfl, b4, hb4, hS4⟩ := hv
        have hS4 : SB g c3 b4 (capT 0 n 16) n t H4 := by rw [Nat.zero_add] at hS4; exact hS4.cong (fun j hj => by unfold tcat; rw [if_neg (Nat.not_lt_zero _), Nat.sub_zero])
        have hz34 := hzz
        have hkB : ∀ q : Nat, q < H1.size → H4[q]? = H1[q]? := fun q h => (hk4 q (by omega) (fun z => z.elim (fun z => by omega) (fun z => by omega))).trans (hkA q h)
        refine W.widen (k := 3) (n := 90) (by omega) (by omega) ?_
        have cA : celA n (capT 0 n 16) ≤ 1 ∧ sloA n (capT 0 n 16) ≤ 142 := by unfold celA sloA ncap; split <;> constructor <;> omega
        have hb49 : H1.size ≤ b4 := by rcases hb4 with e | e <;> omega
        refine lv_iload_n hx hb dX4_type_102 rfl (lv_at hl 0 rfl) ?_
        refine jn_V (As := [.int (nI (chN i zg))]) (rest := [.ref z0]) C0 hl hK hS hA (fun q h => h.elim (fun h => Or.inr (by rw [h]; omega)) (fun h => Or.inr (by rw [h]; omega))) (zat hZ hS hAb) (c_append l g b0 H4 c3 b4 (capT 0 n 16) n t hS4 (chN i zg) (chN_lt hi) (by omega) (fun q h => h.elim (fun h => by rw [h]; omega) (fun h => by rw [h]; omega))) gX4_type_J4_append_cf468 rfl ⟨rfl, rfl⟩ (hS4.recv hK) ⟨rfl, (show hd_ok yJ4_append_cf468 1 from ⟨by decide, by decide, by decide +kernel⟩)⟩ ⟨Nat.le_of_ble_eq_true rfl, Nat.le_of_ble_eq_true rfl⟩ rfl (Nat.le_of_ble_eq_true rfl) ⟨by show 3 + celA n (capT 0 n 16) ≤ 6; omega, by show 90 + sloA n (capT 0 n 16) ≤ 307; omega⟩ dX4_type_103 (fun v H5 locs hv hzz hk5 hS => ?_)
        obtain ⟨rfl, b5, hb5, hS5⟩ := hv
        have hz45 := hzz
        have hkC : ∀ q : Nat, q < H1.size → H5[q]? = H1[q]? := fun q h => (hk5 q (by omega) (fun z => z.elim (fun z => by omega) (fun z => by omega))).trans (hkB q h)
        refine W.widen (k := 4) (n := 232) (by omega) (by omega) ?_
        refine jn_V (As := []) (rest := [.ref z0]) C0 hl hK hS hA (fun q h => absurd h id) (zat hZ hS hAb) (c_toStr l g b0 H5 c3 b5 _ (n + 1) _ hS5) gX4_type_J4_toString_0e30d rfl ⟨rfl, rfl⟩ (hS5.recv hK) ⟨rfl, (show hd_ok yJ4_toString_0e30d 0 from ⟨by decide, by decide, by decide +kernel⟩)⟩ ⟨Nat.le_of_ble_eq_true rfl, Nat.le_of_ble_eq_true rfl⟩ rfl (Nat.le_of_ble_eq_true rfl) ⟨by show 4 + 2 ≤ 6; omega, by show 232 + (4 + (n + 1)) ≤ 307; omega⟩ dX4_type_106 (fun v H6 locs hv hzz hk6 hS => ?_)
        obtain ⟨q6, b6, rfl, hq6, hb6, hs6⟩ := hv
        have hkD : ∀ q : Nat, q < H1.size → H6[q]? = H1[q]? := fun q h => (hk6 q (by omega) (fun z => z)).trans (hkC q h)
        have hM6 := hM1.same hkD
        obtain ⟨hz6, hfl6, -⟩ := id hM6
        have hsz6 := hS.1
        refine W.widen (k := 6) (n := 307) (by omega) (by omega) ?_
        refine w_putf (ci := 5) (C := RX4) (T := TX4) (N := 10) (ty := (.object "java/lang/String")) hx hb hts (by decide +kernel) tyX4 tyX4_ok nmX4 hown hK hS hz6 (Or.inl (Or.inl rfl)) rfl 2 (by decide) (hts (.fieldLink RX4 16 "RadixbenchModel" "text" "Ljava/lang/String;") (by decide +kernel)) (fun _ h9 => h9) rfl (by decide +kernel) rfl rfl (by rw [hfl6]; decide) dX4_type_109 (fun H7 locs hz7 hs7 ho7 hS => ?_)
        have lm : ¬ zM z0 mc lf dg q6 ∧ ¬ zM z0 mc lf dg b6 := by
          obtain ⟨y0, -, -, -, -, ⟨fr6, y1, -⟩, -, ⟨f6, y2⟩, ⟨d6, y3⟩, -⟩ := hM1
          have y0 := y0.lt; have y1 := y1.lt; have y2 := y2.lt; have y3 := y3.lt
          dsimp only at y0 y1 y2 y3
          constructor <;> (rintro (e | e | e | e) <;> omega)
        have htx7 : ((fs.set 0 (.int (nI 0))).set 2 (.ref q6))[2]? = some (.ref q6) := by rw [List.getElem?_set_self (by rw [hfl6]; decide)]
        have hs7 := hs6.kept (ho7 _ (fun z => lm.1 (Or.inl z))) (ho7 _ (fun z => lm.2 (Or.inl z)))
        refine lv_aload_n hx hb dX4_type_112 rfl (lv_at hl 1 rfl) ?_
        refine va_get (ci := 5) (C := RX4) (T := TX4) (N := 10) (v := .ref q6) hx hb hts (by decide +kernel) hown hK.1 (p1 hz7) 0 rfl rfl 2 (by decide) (hts (.fieldLink RX4 16 "RadixbenchModel" "text" "Ljava/lang/String;") (by decide +kernel)) (fun _ h9 => h9) htx7 dX4_type_113 ?_
        refine jp_V (As := []) (rest := []) C0 hl hK hS hA (zat hZ hS hAb) (c_sLen l g b0 H7 q6 b6 (n + 1) _ hs7) gX4_type_J0_length_8abf5 rfl ⟨rfl, rfl⟩ (j_srecv hK hs7) ⟨rfl, (show hd_ok yJ0_length_8abf5 0 from ⟨by decide, by decide, by decide +kernel⟩)⟩ ⟨Nat.le_of_ble_eq_true rfl, Nat.le_of_ble_eq_true rfl⟩ rfl (Nat.le_of_ble_eq_true rfl) ⟨by decide, by decide⟩ dX4_type_116 (fun locs hS => ?_)
        exact rt_ni (mu := zM z0 mc lf dg) C0 rfl ⟨_, _, _, q6, b6, n + 1, _, ⟨rfl, Or.inl ⟨i, hi, rfl, hn9, rfl, rfl, rfl⟩⟩, hM6.fset (by decide) (by decide) (by decide) ho7 hz7, hFT1.t, htx7, hs7, lm.1, lm.2, by omega, fun j hj => by unfold tup; split; exact chN_lt hi; exact ht128 j (by omega)⟩ hS rfl dX4_type_119
    · skip
      have hn9 : n = 70 := nI_inj (by omega) (by decide) h2
      refine lv_aload_n hx hb dX4_type_33 rfl (lv_at hl 0 rfl) ?_
      refine lv_iconst (v := nI 2) hx hb dX4_type_34 (by decide) ?_
      refine cn_V (As := [.int (nI 2)]) (rest := []) C0 hl hK hS hA (fun z h => Or.inl h) (c_refuse l g H1 z0 mc lf dg _ rr V hM1 (nI 2)) gX4_type_X4_refuse rfl ⟨rfl, rfl⟩ ((va_recv hK.1 (p1 hz1) (ci := 5) (q0 := 0) rfl rfl)) ⟨rfl, (show hd_ok yX4_refuse 1 from ⟨by decide, by decide, by decide +kernel⟩)⟩ ⟨Nat.le_of_ble_eq_true rfl, Nat.le_of_ble_eq_true rfl⟩ rfl (Nat.le_of_ble_eq_true rfl) ⟨by decide, by decide⟩ dX4_type_35 (fun r1 H2 locs hv hzz hk2 hS => ?_)
      obtain ⟨fs2, rr2, V2, ⟨rfl, rfl, rfl⟩, hM2⟩ := hv
      refine W.widen (k := 6) (n := 307) (by decide) (by decide) ?_
      exact rt_ni (mu := zM z0 mc lf dg) C0 rfl ⟨_, _, _, a, b, n, t, ⟨rfl, Or.inr ⟨rfl, rfl, rfl, Or.inr hn9⟩⟩, hM2, hFT1.i (by decide), by rw [List.getElem?_set_ne (by decide)]; exact htx1, hs1.kept (hk2 _ hs1.lt hna) (hk2 _ hs1.2.lt hnb), hna, hnb, hn70, ht128⟩ hS rfl dX4_type_38
  · skip
    refine lv_aload_n hx hb dX4_type_15 rfl (lv_at hl 0 rfl) ?_
    refine lv_iconst (v := nI 1) hx hb dX4_type_16 (by decide) ?_
    refine cn_V (As := [.int (nI 1)]) (rest := []) C0 hl hK hS hA (fun z h => Or.inl h) (c_refuse l g H1 z0 mc lf dg _ rr V hM1 (nI 1)) gX4_type_X4_refuse rfl ⟨rfl, rfl⟩ ((va_recv hK.1 (p1 hz1) (ci := 5) (q0 := 0) rfl rfl)) ⟨rfl, (show hd_ok yX4_refuse 1 from ⟨by decide, by decide, by decide +kernel⟩)⟩ ⟨Nat.le_of_ble_eq_true rfl, Nat.le_of_ble_eq_true rfl⟩ rfl (Nat.le_of_ble_eq_true rfl) ⟨by decide, by decide⟩ dX4_type_17 (fun r1 H2 locs hv hzz hk2 hS => ?_)
    obtain ⟨fs2, rr2, V2, ⟨rfl, rfl, rfl⟩, hM2⟩ := hv
    refine W.widen (k := 6) (n := 307) (by decide) (by decide) ?_
    exact rt_ni (mu := zM z0 mc lf dg) C0 rfl ⟨_, _, _, a, b, n, t, ⟨rfl, Or.inr ⟨rfl, rfl, rfl, Or.inl (of_decide_eq_false (bI_0 h1))⟩⟩, hM2, hFT1.i (by decide), by rw [List.getElem?_set_ne (by decide)]; exact htx1, hs1.kept (hk2 _ hs1.lt hna) (hk2 _ hs1.2.lt hnb), hna, hnb, hn70, ht128⟩ hS rfl dX4_type_20
end M52

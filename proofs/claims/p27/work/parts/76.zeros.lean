-- THE JDK's ZEROS, told by what it computes; the class's pick
def shr1 (x c : Int32) : Int32 := (x.toUInt32 >>> (c.toUInt32 &&& Int32.toUInt32 31)).toInt32
def nzS (lim sh mns : Int32) (q : Int32 × Int32) : Int32 × Int32 := if q.1 < lim then q else (shr1 q.1 sh, q.2 + mns)
def ntS (lim sh : Int32) (q : Int32 × Int32) : Int32 × Int32 := if q.1 ≤ lim then q else (shr1 q.1 sh, q.2 + sh)
def nzQ (x : Int32) : Int32 × Int32 := nzS (nI 4) (nI 2) (-2) (nzS (nI 16) (nI 4) (-4) (nzS (nI 256) (nI 8) (-8) (nzS (nI 65536) (nI 16) (-16) (x, nI 31))))
def ntQ (x : Int32) : Int32 × Int32 := ntS (nI 4) (nI 2) (ntS (nI 16) (nI 4) (ntS (nI 256) (nI 8) (ntS (nI 65536) (nI 16) (x, nI 1))))
def jNz (x : Int32) : Int32 := if x > 0 then (nzQ x).2 - shr1 (nzQ x).1 (nI 1) else if x = 0 then nI 32 else nI 0
def ntY (x : Int32) : Int32 := (x ^^^ (-1)) &&& (x - nI 1)
def jNt (x : Int32) : Int32 := if ntY x > 0 then (ntQ (ntY x)).2 + shr1 (ntQ (ntY x)).1 (nI 1) else ntY x &&& nI 32
def hi64 (x : Int64) : Int32 := ((x.toUInt64 >>> ((nI 32).toInt64.toUInt64 &&& Int64.toUInt64 63)).toInt64).toInt32
def jNz64 (x : Int64) : Int32 := if hi64 x = 0 then nI 32 + jNz x.toInt32 else jNz (hi64 x)
def jNt64 (x : Int64) : Int32 := if x.toInt32 = 0 then nI 32 + jNt (hi64 x) else jNt x.toInt32
theorem nzS_y {lim sh mns : Int32} {q : Int32 × Int32} (h : q.1 < lim) : nzS lim sh mns q = q := if_pos h
theorem nzS_n {lim sh mns : Int32} {q : Int32 × Int32} (h : ¬ q.1 < lim) : nzS lim sh mns q = (shr1 q.1 sh, q.2 + mns) := if_neg h
theorem ntS_y {lim sh : Int32} {q : Int32 × Int32} (h : q.1 ≤ lim) : ntS lim sh q = q := if_pos h
theorem ntS_n {lim sh : Int32} {q : Int32 × Int32} (h : ¬ q.1 ≤ lim) : ntS lim sh q = (shr1 q.1 sh, q.2 + sh) := if_neg h
section M76
variable {p : Program} {l : Launch} {e : Env} {s : State} {m : MethodId} {args : Array Value} {below : List Frame} {meth : Method} {c : Code} {H H0 : Heap} {locs : List Loc} {cells slots : Nat} {Q : State → Prop} {A : Nat → Prop} {g : Gx} {b0 : Nat}
set_option maxHeartbeats 4000000 in
set_option maxRecDepth 100000 in
theorem c_nz32 (l : Launch) (g : Gx) (H0 : Heap) (x : Int32) : Met l yJ6_numberOfLeadingZeros_0f7a4 wsJ6_numberOfLeadingZeros_0f7a4 rmJ6_numberOfLeadingZeros_0f7a4 (va_Pc [.int x] (hB g H0)) (pQ (some (.int (jNz x))) H0) 0 0 (fun q => H0.size ≤ q) := by
  refine cx_met (own := RJ6) (cc := cJ6_numberOfLeadingZeros_0f7a4) (maxL := 2) (by decide) rfl rfl (Nat.le_of_ble_eq_true rfl) ?_
  intro p e s m below meth c ls C0 hB0 hnm hl
  obtain ⟨hH, hK⟩ := hB0
  obtain ⟨hx, hb, hr, hml, hown, hts, hlk⟩ := id C0
  subst hH
  have hS : va_S (fun q => s.heap.size ≤ q) s.heap s.heap [] := va_S.rf
  have hA : ∀ q : Nat, s.heap.size ≤ q → s.heap.size ≤ q := fun q h => h
  have hl : lv_has ls 2 [(0, .int x)] := hl
  refine lv_iload_n hx hb dJ6_numberOfLeadingZeros_0f7a4_0 rfl (lv_at hl 0 rfl) ?_
  refine lv_if_gt (tgt := 15) hx hb dJ6_numberOfLeadingZeros_0f7a4_1 (by decide) (fun h1 => ?_) (fun h1 => ?_)
  · skip
    refine lv_bipush (v := nI 31) hx hb dJ6_numberOfLeadingZeros_0f7a4_15 (by decide) ?_
    refine lv_istore_n (lv' := [(1, .int (nI 31)), (0, .int x)]) hx hb dJ6_numberOfLeadingZeros_0f7a4_17 rfl hl (by decide) rfl (fun ls hl => ?_)
    have hl : lv_has ls 2 [(1, .int (x, nI 31).2), (0, .int (x, nI 31).1)] := lv_sub hl [0, 1] rfl
    refine w_cut (nL := 2) (pcT := 33) (lvT := [(1, .int (nzS (nI 65536) (nI 16) (-16) (x, nI 31)).2), (0, .int (nzS (nI 65536) (nI 16) (-16) (x, nI 31)).1)]) (H0 := s.heap) (A := fun q => s.heap.size ≤ q) (fun hrest => ?_) (fun ls locs hS hl => ?_)
    · skip
      refine lv_iload_n hx hb dJ6_numberOfLeadingZeros_0f7a4_18 rfl (lv_at hl 1 rfl) ?_
      refine lv_ldcw (v := nI 65536) hx hb hown (hts (.constant RJ6 264 (65536)) (by decide +kernel)) dJ6_numberOfLeadingZeros_0f7a4_19 ?_
      refine lv_icmp_lt (tgt := 33) hx hb dJ6_numberOfLeadingZeros_0f7a4_22 (by decide) (fun h9 => ?_) (fun h9 => ?_)
      · skip
        exact hrest ls _ hS (by rw [nzS_y h9]; exact lv_sub hl [0, 1] rfl)
      · skip
        refine lv_iinc (v := ((x, nI 31).2) + (-16)) (lv' := [(1, .int (((x, nI 31).2) + (-16))), (0, .int ((x, nI 31).1))]) hx hb dJ6_numberOfLeadingZeros_0f7a4_25 hl (k := 0) rfl (rfl) (by decide) rfl (fun ls hl => ?_)
        refine lv_iload_n hx hb dJ6_numberOfLeadingZeros_0f7a4_28 rfl (lv_at hl 1 rfl) ?_
        refine lv_bipush (v := nI 16) hx hb dJ6_numberOfLeadingZeros_0f7a4_29 (by decide) ?_
        refine lv_iushr (v := (((x, nI 31).1).toUInt32 >>> ((nI 16).toUInt32 &&& Int32.toUInt32 31)).toInt32) hx hb dJ6_numberOfLeadingZeros_0f7a4_31 (rfl) ?_
        refine lv_istore_n (lv' := [(0, .int ((((x, nI 31).1).toUInt32 >>> ((nI 16).toUInt32 &&& Int32.toUInt32 31)).toInt32)), (1, .int (((x, nI 31).2) + (-16)))]) hx hb dJ6_numberOfLeadingZeros_0f7a4_32 rfl hl (by decide) rfl (fun ls hl => ?_)
        exact hrest ls _ hS (by rw [nzS_n h9]; exact lv_sub hl [1, 0] rfl)
    refine w_cut (nL := 2) (pcT := 48) (lvT := [(1, .int (nzS (nI 256) (nI 8) (-8) (nzS (nI 65536) (nI 16) (-16) (x, nI 31))).2), (0, .int (nzS (nI 256) (nI 8) (-8) (nzS (nI 65536) (nI 16) (-16) (x, nI 31))).1)]) (H0 := s.heap) (A := fun q => s.heap.size ≤ q) (fun hrest => ?_) (fun ls locs hS hl => ?_)
    · skip
      refine lv_iload_n hx hb dJ6_numberOfLeadingZeros_0f7a4_33 rfl (lv_at hl 1 rfl) ?_
      refine lv_sipush (v := nI 256) hx hb dJ6_numberOfLeadingZeros_0f7a4_34 (by decide) ?_
      refine lv_icmp_lt (tgt := 48) hx hb dJ6_numberOfLeadingZeros_0f7a4_37 (by decide) (fun h9 => ?_) (fun h9 => ?_)
      · skip
        exact hrest ls _ hS (by rw [nzS_y h9]; exact lv_sub hl [0, 1] rfl)
      · skip
        refine lv_iinc (v := ((nzS (nI 65536) (nI 16) (-16) (x, nI 31)).2) + (-8)) (lv' := [(1, .int (((nzS (nI 65536) (nI 16) (-16) (x, nI 31)).2) + (-8))), (0, .int ((nzS (nI 65536) (nI 16) (-16) (x, nI 31)).1))]) hx hb dJ6_numberOfLeadingZeros_0f7a4_40 hl (k := 0) rfl (rfl) (by decide) rfl (fun ls hl => ?_)
        refine lv_iload_n hx hb dJ6_numberOfLeadingZeros_0f7a4_43 rfl (lv_at hl 1 rfl) ?_
        refine lv_bipush (v := nI 8) hx hb dJ6_numberOfLeadingZeros_0f7a4_44 (by decide) ?_
        refine lv_iushr (v := (((nzS (nI 65536) (nI 16) (-16) (x, nI 31)).1).toUInt32 >>> ((nI 8).toUInt32 &&& Int32.toUInt32 31)).toInt32) hx hb dJ6_numberOfLeadingZeros_0f7a4_46 (rfl) ?_
        refine lv_istore_n (lv' := [(0, .int ((((nzS (nI 65536) (nI 16) (-16) (x, nI 31)).1).toUInt32 >>> ((nI 8).toUInt32 &&& Int32.toUInt32 31)).toInt32)), (1, .int (((nzS (nI 65536) (nI 16) (-16) (x, nI 31)).2) + (-8)))]) hx hb dJ6_numberOfLeadingZeros_0f7a4_47 rfl hl (by decide) rfl (fun ls hl => ?_)
        exact hrest ls _ hS (by rw [nzS_n h9]; exact lv_sub hl [1, 0] rfl)
    refine w_cut (nL := 2) (pcT := 61) (lvT := [(1, .int (nzS (nI 16) (nI 4) (-4) (nzS (nI 256) (nI 8) (-8) (nzS (nI 65536) (nI 16) (-16) (x, nI 31)))).2), (0, .int (nzS (nI 16) (nI 4) (-4) (nzS (nI 256) (nI 8) (-8) (nzS (nI 65536) (nI 16) (-16) (x, nI 31)))).1)]) (H0 := s.heap) (A := fun q => s.heap.size ≤ q) (fun hrest => ?_) (fun ls locs hS hl => ?_)
    · skip
      refine lv_iload_n hx hb dJ6_numberOfLeadingZeros_0f7a4_48 rfl (lv_at hl 1 rfl) ?_
      refine lv_bipush (v := nI 16) hx hb dJ6_numberOfLeadingZeros_0f7a4_49 (by decide) ?_
      refine lv_icmp_lt (tgt := 61) hx hb dJ6_numberOfLeadingZeros_0f7a4_51 (by decide) (fun h9 => ?_) (fun h9 => ?_)
      · skip
        exact hrest ls _ hS (by rw [nzS_y h9]; exact lv_sub hl [0, 1] rfl)
      · skip
        refine lv_iinc (v := ((nzS (nI 256) (nI 8) (-8) (nzS (nI 65536) (nI 16) (-16) (x, nI 31))).2) + (-4)) (lv' := [(1, .int (((nzS (nI 256) (nI 8) (-8) (nzS (nI 65536) (nI 16) (-16) (x, nI 31))).2) + (-4))), (0, .int ((nzS (nI 256) (nI 8) (-8) (nzS (nI 65536) (nI 16) (-16) (x, nI 31))).1))]) hx hb dJ6_numberOfLeadingZeros_0f7a4_54 hl (k := 0) rfl (rfl) (by decide) rfl (fun ls hl => ?_)
        refine lv_iload_n hx hb dJ6_numberOfLeadingZeros_0f7a4_57 rfl (lv_at hl 1 rfl) ?_
        refine lv_iconst (v := nI 4) hx hb dJ6_numberOfLeadingZeros_0f7a4_58 (by decide) ?_
        refine lv_iushr (v := (((nzS (nI 256) (nI 8) (-8) (nzS (nI 65536) (nI 16) (-16) (x, nI 31))).1).toUInt32 >>> ((nI 4).toUInt32 &&& Int32.toUInt32 31)).toInt32) hx hb dJ6_numberOfLeadingZeros_0f7a4_59 (rfl) ?_
        refine lv_istore_n (lv' := [(0, .int ((((nzS (nI 256) (nI 8) (-8) (nzS (nI 65536) (nI 16) (-16) (x, nI 31))).1).toUInt32 >>> ((nI 4).toUInt32 &&& Int32.toUInt32 31)).toInt32)), (1, .int (((nzS (nI 256) (nI 8) (-8) (nzS (nI 65536) (nI 16) (-16) (x, nI 31))).2) + (-4)))]) hx hb dJ6_numberOfLeadingZeros_0f7a4_60 rfl hl (by decide) rfl (fun ls hl => ?_)
        exact hrest ls _ hS (by rw [nzS_n h9]; exact lv_sub hl [1, 0] rfl)
    refine w_cut (nL := 2) (pcT := 73) (lvT := [(1, .int (nzS (nI 4) (nI 2) (-2) (nzS (nI 16) (nI 4) (-4) (nzS (nI 256) (nI 8) (-8) (nzS (nI 65536) (nI 16) (-16) (x, nI 31))))).2), (0, .int (nzS (nI 4) (nI 2) (-2) (nzS (nI 16) (nI 4) (-4) (nzS (nI 256) (nI 8) (-8) (nzS (nI 65536) (nI 16) (-16) (x, nI 31))))).1)]) (H0 := s.heap) (A := fun q => s.heap.size ≤ q) (fun hrest => ?_) (fun ls locs hS hl => ?_)
    · skip
      refine lv_iload_n hx hb dJ6_numberOfLeadingZeros_0f7a4_61 rfl (lv_at hl 1 rfl) ?_
      refine lv_iconst (v := nI 4) hx hb dJ6_numberOfLeadingZeros_0f7a4_62 (by decide) ?_
      refine lv_icmp_lt (tgt := 73) hx hb dJ6_numberOfLeadingZeros_0f7a4_63 (by decide) (fun h9 => ?_) (fun h9 => ?_)
      · skip
        exact hrest ls _ hS (by rw [nzS_y h9]; exact lv_sub hl [0, 1] rfl)
      · skip
        refine lv_iinc (v := ((nzS (nI 16) (nI 4) (-4) (nzS (nI 256) (nI 8) (-8) (nzS (nI 65536) (nI 16) (-16) (x, nI 31)))).2) + (-2)) (lv' := [(1, .int (((nzS (nI 16) (nI 4) (-4) (nzS (nI 256) (nI 8) (-8) (nzS (nI 65536) (nI 16) (-16) (x, nI 31)))).2) + (-2))), (0, .int ((nzS (nI 16) (nI 4) (-4) (nzS (nI 256) (nI 8) (-8) (nzS (nI 65536) (nI 16) (-16) (x, nI 31)))).1))]) hx hb dJ6_numberOfLeadingZeros_0f7a4_66 hl (k := 0) rfl (rfl) (by decide) rfl (fun ls hl => ?_)
        refine lv_iload_n hx hb dJ6_numberOfLeadingZeros_0f7a4_69 rfl (lv_at hl 1 rfl) ?_
        refine lv_iconst (v := nI 2) hx hb dJ6_numberOfLeadingZeros_0f7a4_70 (by decide) ?_
        refine lv_iushr (v := (((nzS (nI 16) (nI 4) (-4) (nzS (nI 256) (nI 8) (-8) (nzS (nI 65536) (nI 16) (-16) (x, nI 31)))).1).toUInt32 >>> ((nI 2).toUInt32 &&& Int32.toUInt32 31)).toInt32) hx hb dJ6_numberOfLeadingZeros_0f7a4_71 (rfl) ?_
        refine lv_istore_n (lv' := [(0, .int ((((nzS (nI 16) (nI 4) (-4) (nzS (nI 256) (nI 8) (-8) (nzS (nI 65536) (nI 16) (-16) (x, nI 31)))).1).toUInt32 >>> ((nI 2).toUInt32 &&& Int32.toUInt32 31)).toInt32)), (1, .int (((nzS (nI 16) (nI 4) (-4) (nzS (nI 256) (nI 8) (-8) (nzS (nI 65536) (nI 16) (-16) (x, nI 31)))).2) + (-2)))]) hx hb dJ6_numberOfLeadingZeros_0f7a4_72 rfl hl (by decide) rfl (fun ls hl => ?_)
        exact hrest ls _ hS (by rw [nzS_n h9]; exact lv_sub hl [1, 0] rfl)
    refine lv_iload_n hx hb dJ6_numberOfLeadingZeros_0f7a4_73 rfl (lv_at hl 0 rfl) ?_
    refine lv_iload_n hx hb dJ6_numberOfLeadingZeros_0f7a4_74 rfl (lv_at hl 1 rfl) ?_
    refine lv_iconst (v := nI 1) hx hb dJ6_numberOfLeadingZeros_0f7a4_75 (by decide) ?_
    refine lv_iushr (v := (((nzS (nI 4) (nI 2) (-2) (nzS (nI 16) (nI 4) (-4) (nzS (nI 256) (nI 8) (-8) (nzS (nI 65536) (nI 16) (-16) (x, nI 31))))).1).toUInt32 >>> ((nI 1).toUInt32 &&& Int32.toUInt32 31)).toInt32) hx hb dJ6_numberOfLeadingZeros_0f7a4_76 (rfl) ?_
    refine lv_isub hx hb dJ6_numberOfLeadingZeros_0f7a4_77 ?_
    exact rt_i C0 (by unfold jNz; rw [if_pos h1]; rfl) hS rfl dJ6_numberOfLeadingZeros_0f7a4_78
  · skip
    refine lv_iload_n hx hb dJ6_numberOfLeadingZeros_0f7a4_4 rfl (lv_at hl 0 rfl) ?_
    refine lv_if_ne (tgt := 13) hx hb dJ6_numberOfLeadingZeros_0f7a4_5 (by decide) (fun h2 => ?_) (fun h2 => ?_)
    · skip
      refine lv_iconst (v := nI 0) hx hb dJ6_numberOfLeadingZeros_0f7a4_13 (by decide) ?_
      exact rt_i C0 (by unfold jNz; rw [if_neg h1, if_neg h2]) hS rfl dJ6_numberOfLeadingZeros_0f7a4_14
    · skip
      refine lv_bipush (v := nI 32) hx hb dJ6_numberOfLeadingZeros_0f7a4_8 (by decide) ?_
      refine lv_goto (tgt := 14) hx hb dJ6_numberOfLeadingZeros_0f7a4_10 (by decide) ?_
      exact rt_i C0 (by unfold jNz; rw [if_neg h1, if_pos (by first | exact h2 | exact Decidable.of_not_not h2)]) hS rfl dJ6_numberOfLeadingZeros_0f7a4_14
set_option maxHeartbeats 4000000 in
set_option maxRecDepth 100000 in
theorem c_nt32 (l : Launch) (g : Gx) (H0 : Heap) (x : Int32) : Met l yJ6_numberOfTrailingZeros_0f7a4 wsJ6_numberOfTrailingZeros_0f7a4 rmJ6_numberOfTrailingZeros_0f7a4 (va_Pc [.int x] (hB g H0)) (pQ (some (.int (jNt x))) H0) 0 0 (fun q => H0.size ≤ q) := by
  refine cx_met (own := RJ6) (cc := cJ6_numberOfTrailingZeros_0f7a4) (maxL := 2) (by decide) rfl rfl (Nat.le_of_ble_eq_true rfl) ?_
  intro p e s m below meth c ls C0 hB0 hnm hl
  obtain ⟨hH, hK⟩ := hB0
  obtain ⟨hx, hb, hr, hml, hown, hts, hlk⟩ := id C0
  subst hH
  have hS : va_S (fun q => s.heap.size ≤ q) s.heap s.heap [] := va_S.rf
  have hA : ∀ q : Nat, s.heap.size ≤ q → s.heap.size ≤ q := fun q h => h
  have hl : lv_has ls 2 [(0, .int x)] := hl
  refine lv_iload_n hx hb dJ6_numberOfTrailingZeros_0f7a4_0 rfl (lv_at hl 0 rfl) ?_
  refine lv_iconst (v := (-1)) hx hb dJ6_numberOfTrailingZeros_0f7a4_1 (by decide) ?_
  refine lv_ixor hx hb dJ6_numberOfTrailingZeros_0f7a4_2 ?_
  refine lv_iload_n hx hb dJ6_numberOfTrailingZeros_0f7a4_3 rfl (lv_at hl 0 rfl) ?_
  refine lv_iconst (v := nI 1) hx hb dJ6_numberOfTrailingZeros_0f7a4_4 (by decide) ?_
  refine lv_isub hx hb dJ6_numberOfTrailingZeros_0f7a4_5 ?_
  refine lv_iand hx hb dJ6_numberOfTrailingZeros_0f7a4_6 ?_
  refine tp_i (y := ntY x) (rfl) ?_
  refine lv_istore_n (lv' := [(0, .int (ntY x))]) hx hb dJ6_numberOfTrailingZeros_0f7a4_7 rfl hl (by decide) rfl (fun ls hl => ?_)
  refine lv_iload_n hx hb dJ6_numberOfTrailingZeros_0f7a4_8 rfl (lv_at hl 0 rfl) ?_
  refine lv_if_gt (tgt := 17) hx hb dJ6_numberOfTrailingZeros_0f7a4_9 (by decide) (fun h1 => ?_) (fun h1 => ?_)
  · skip
    refine lv_iconst (v := nI 1) hx hb dJ6_numberOfTrailingZeros_0f7a4_17 (by decide) ?_
    refine lv_istore_n (lv' := [(1, .int (nI 1)), (0, .int (ntY x))]) hx hb dJ6_numberOfTrailingZeros_0f7a4_18 rfl hl (by decide) rfl (fun ls hl => ?_)
    have hl : lv_has ls 2 [(1, .int (ntY x, nI 1).2), (0, .int (ntY x, nI 1).1)] := lv_sub hl [0, 1] rfl
    refine w_cut (nL := 2) (pcT := 34) (lvT := [(1, .int (ntS (nI 65536) (nI 16) (ntY x, nI 1)).2), (0, .int (ntS (nI 65536) (nI 16) (ntY x, nI 1)).1)]) (H0 := s.heap) (A := fun q => s.heap.size ≤ q) (fun hrest => ?_) (fun ls locs hS hl => ?_)
    · skip
      refine lv_iload_n hx hb dJ6_numberOfTrailingZeros_0f7a4_19 rfl (lv_at hl 1 rfl) ?_
      refine lv_ldcw (v := nI 65536) hx hb hown (hts (.constant RJ6 264 (65536)) (by decide +kernel)) dJ6_numberOfTrailingZeros_0f7a4_20 ?_
      refine lv_icmp_le (tgt := 34) hx hb dJ6_numberOfTrailingZeros_0f7a4_23 (by decide) (fun h9 => ?_) (fun h9 => ?_)
      · skip
        exact hrest ls _ hS (by rw [ntS_y h9]; exact lv_sub hl [0, 1] rfl)
      · skip
        refine lv_iinc (v := ((ntY x, nI 1).2) + (nI 16)) (lv' := [(1, .int (((ntY x, nI 1).2) + (nI 16))), (0, .int ((ntY x, nI 1).1))]) hx hb dJ6_numberOfTrailingZeros_0f7a4_26 hl (k := 0) rfl (rfl) (by decide) rfl (fun ls hl => ?_)
        refine lv_iload_n hx hb dJ6_numberOfTrailingZeros_0f7a4_29 rfl (lv_at hl 1 rfl) ?_
        refine lv_bipush (v := nI 16) hx hb dJ6_numberOfTrailingZeros_0f7a4_30 (by decide) ?_
        refine lv_iushr (v := (((ntY x, nI 1).1).toUInt32 >>> ((nI 16).toUInt32 &&& Int32.toUInt32 31)).toInt32) hx hb dJ6_numberOfTrailingZeros_0f7a4_32 (rfl) ?_
        refine lv_istore_n (lv' := [(0, .int ((((ntY x, nI 1).1).toUInt32 >>> ((nI 16).toUInt32 &&& Int32.toUInt32 31)).toInt32)), (1, .int (((ntY x, nI 1).2) + (nI 16)))]) hx hb dJ6_numberOfTrailingZeros_0f7a4_33 rfl hl (by decide) rfl (fun ls hl => ?_)
        exact hrest ls _ hS (by rw [ntS_n h9]; exact lv_sub hl [1, 0] rfl)
    refine w_cut (nL := 2) (pcT := 49) (lvT := [(1, .int (ntS (nI 256) (nI 8) (ntS (nI 65536) (nI 16) (ntY x, nI 1))).2), (0, .int (ntS (nI 256) (nI 8) (ntS (nI 65536) (nI 16) (ntY x, nI 1))).1)]) (H0 := s.heap) (A := fun q => s.heap.size ≤ q) (fun hrest => ?_) (fun ls locs hS hl => ?_)
    · skip
      refine lv_iload_n hx hb dJ6_numberOfTrailingZeros_0f7a4_34 rfl (lv_at hl 1 rfl) ?_
      refine lv_sipush (v := nI 256) hx hb dJ6_numberOfTrailingZeros_0f7a4_35 (by decide) ?_
      refine lv_icmp_le (tgt := 49) hx hb dJ6_numberOfTrailingZeros_0f7a4_38 (by decide) (fun h9 => ?_) (fun h9 => ?_)
      · skip
        exact hrest ls _ hS (by rw [ntS_y h9]; exact lv_sub hl [0, 1] rfl)
      · skip
        refine lv_iinc (v := ((ntS (nI 65536) (nI 16) (ntY x, nI 1)).2) + (nI 8)) (lv' := [(1, .int (((ntS (nI 65536) (nI 16) (ntY x, nI 1)).2) + (nI 8))), (0, .int ((ntS (nI 65536) (nI 16) (ntY x, nI 1)).1))]) hx hb dJ6_numberOfTrailingZeros_0f7a4_41 hl (k := 0) rfl (rfl) (by decide) rfl (fun ls hl => ?_)
        refine lv_iload_n hx hb dJ6_numberOfTrailingZeros_0f7a4_44 rfl (lv_at hl 1 rfl) ?_
        refine lv_bipush (v := nI 8) hx hb dJ6_numberOfTrailingZeros_0f7a4_45 (by decide) ?_
        refine lv_iushr (v := (((ntS (nI 65536) (nI 16) (ntY x, nI 1)).1).toUInt32 >>> ((nI 8).toUInt32 &&& Int32.toUInt32 31)).toInt32) hx hb dJ6_numberOfTrailingZeros_0f7a4_47 (rfl) ?_
        refine lv_istore_n (lv' := [(0, .int ((((ntS (nI 65536) (nI 16) (ntY x, nI 1)).1).toUInt32 >>> ((nI 8).toUInt32 &&& Int32.toUInt32 31)).toInt32)), (1, .int (((ntS (nI 65536) (nI 16) (ntY x, nI 1)).2) + (nI 8)))]) hx hb dJ6_numberOfTrailingZeros_0f7a4_48 rfl hl (by decide) rfl (fun ls hl => ?_)
        exact hrest ls _ hS (by rw [ntS_n h9]; exact lv_sub hl [1, 0] rfl)
    refine w_cut (nL := 2) (pcT := 62) (lvT := [(1, .int (ntS (nI 16) (nI 4) (ntS (nI 256) (nI 8) (ntS (nI 65536) (nI 16) (ntY x, nI 1)))).2), (0, .int (ntS (nI 16) (nI 4) (ntS (nI 256) (nI 8) (ntS (nI 65536) (nI 16) (ntY x, nI 1)))).1)]) (H0 := s.heap) (A := fun q => s.heap.size ≤ q) (fun hrest => ?_) (fun ls locs hS hl => ?_)
    · skip
      refine lv_iload_n hx hb dJ6_numberOfTrailingZeros_0f7a4_49 rfl (lv_at hl 1 rfl) ?_
      refine lv_bipush (v := nI 16) hx hb dJ6_numberOfTrailingZeros_0f7a4_50 (by decide) ?_
      refine lv_icmp_le (tgt := 62) hx hb dJ6_numberOfTrailingZeros_0f7a4_52 (by decide) (fun h9 => ?_) (fun h9 => ?_)
      · skip
        exact hrest ls _ hS (by rw [ntS_y h9]; exact lv_sub hl [0, 1] rfl)
      · skip
        refine lv_iinc (v := ((ntS (nI 256) (nI 8) (ntS (nI 65536) (nI 16) (ntY x, nI 1))).2) + (nI 4)) (lv' := [(1, .int (((ntS (nI 256) (nI 8) (ntS (nI 65536) (nI 16) (ntY x, nI 1))).2) + (nI 4))), (0, .int ((ntS (nI 256) (nI 8) (ntS (nI 65536) (nI 16) (ntY x, nI 1))).1))]) hx hb dJ6_numberOfTrailingZeros_0f7a4_55 hl (k := 0) rfl (rfl) (by decide) rfl (fun ls hl => ?_)
        refine lv_iload_n hx hb dJ6_numberOfTrailingZeros_0f7a4_58 rfl (lv_at hl 1 rfl) ?_
        refine lv_iconst (v := nI 4) hx hb dJ6_numberOfTrailingZeros_0f7a4_59 (by decide) ?_
        refine lv_iushr (v := (((ntS (nI 256) (nI 8) (ntS (nI 65536) (nI 16) (ntY x, nI 1))).1).toUInt32 >>> ((nI 4).toUInt32 &&& Int32.toUInt32 31)).toInt32) hx hb dJ6_numberOfTrailingZeros_0f7a4_60 (rfl) ?_
        refine lv_istore_n (lv' := [(0, .int ((((ntS (nI 256) (nI 8) (ntS (nI 65536) (nI 16) (ntY x, nI 1))).1).toUInt32 >>> ((nI 4).toUInt32 &&& Int32.toUInt32 31)).toInt32)), (1, .int (((ntS (nI 256) (nI 8) (ntS (nI 65536) (nI 16) (ntY x, nI 1))).2) + (nI 4)))]) hx hb dJ6_numberOfTrailingZeros_0f7a4_61 rfl hl (by decide) rfl (fun ls hl => ?_)
        exact hrest ls _ hS (by rw [ntS_n h9]; exact lv_sub hl [1, 0] rfl)
    refine w_cut (nL := 2) (pcT := 74) (lvT := [(1, .int (ntS (nI 4) (nI 2) (ntS (nI 16) (nI 4) (ntS (nI 256) (nI 8) (ntS (nI 65536) (nI 16) (ntY x, nI 1))))).2), (0, .int (ntS (nI 4) (nI 2) (ntS (nI 16) (nI 4) (ntS (nI 256) (nI 8) (ntS (nI 65536) (nI 16) (ntY x, nI 1))))).1)]) (H0 := s.heap) (A := fun q => s.heap.size ≤ q) (fun hrest => ?_) (fun ls locs hS hl => ?_)
    · skip
      refine lv_iload_n hx hb dJ6_numberOfTrailingZeros_0f7a4_62 rfl (lv_at hl 1 rfl) ?_
      refine lv_iconst (v := nI 4) hx hb dJ6_numberOfTrailingZeros_0f7a4_63 (by decide) ?_
      refine lv_icmp_le (tgt := 74) hx hb dJ6_numberOfTrailingZeros_0f7a4_64 (by decide) (fun h9 => ?_) (fun h9 => ?_)
      · skip
        exact hrest ls _ hS (by rw [ntS_y h9]; exact lv_sub hl [0, 1] rfl)
      · skip
        refine lv_iinc (v := ((ntS (nI 16) (nI 4) (ntS (nI 256) (nI 8) (ntS (nI 65536) (nI 16) (ntY x, nI 1)))).2) + (nI 2)) (lv' := [(1, .int (((ntS (nI 16) (nI 4) (ntS (nI 256) (nI 8) (ntS (nI 65536) (nI 16) (ntY x, nI 1)))).2) + (nI 2))), (0, .int ((ntS (nI 16) (nI 4) (ntS (nI 256) (nI 8) (ntS (nI 65536) (nI 16) (ntY x, nI 1)))).1))]) hx hb dJ6_numberOfTrailingZeros_0f7a4_67 hl (k := 0) rfl (rfl) (by decide) rfl (fun ls hl => ?_)
        refine lv_iload_n hx hb dJ6_numberOfTrailingZeros_0f7a4_70 rfl (lv_at hl 1 rfl) ?_
        refine lv_iconst (v := nI 2) hx hb dJ6_numberOfTrailingZeros_0f7a4_71 (by decide) ?_
        refine lv_iushr (v := (((ntS (nI 16) (nI 4) (ntS (nI 256) (nI 8) (ntS (nI 65536) (nI 16) (ntY x, nI 1)))).1).toUInt32 >>> ((nI 2).toUInt32 &&& Int32.toUInt32 31)).toInt32) hx hb dJ6_numberOfTrailingZeros_0f7a4_72 (rfl) ?_
        refine lv_istore_n (lv' := [(0, .int ((((ntS (nI 16) (nI 4) (ntS (nI 256) (nI 8) (ntS (nI 65536) (nI 16) (ntY x, nI 1)))).1).toUInt32 >>> ((nI 2).toUInt32 &&& Int32.toUInt32 31)).toInt32)), (1, .int (((ntS (nI 16) (nI 4) (ntS (nI 256) (nI 8) (ntS (nI 65536) (nI 16) (ntY x, nI 1)))).2) + (nI 2)))]) hx hb dJ6_numberOfTrailingZeros_0f7a4_73 rfl hl (by decide) rfl (fun ls hl => ?_)
        exact hrest ls _ hS (by rw [ntS_n h9]; exact lv_sub hl [1, 0] rfl)
    refine lv_iload_n hx hb dJ6_numberOfTrailingZeros_0f7a4_74 rfl (lv_at hl 0 rfl) ?_
    refine lv_iload_n hx hb dJ6_numberOfTrailingZeros_0f7a4_75 rfl (lv_at hl 1 rfl) ?_
    refine lv_iconst (v := nI 1) hx hb dJ6_numberOfTrailingZeros_0f7a4_76 (by decide) ?_
    refine lv_iushr (v := (((ntS (nI 4) (nI 2) (ntS (nI 16) (nI 4) (ntS (nI 256) (nI 8) (ntS (nI 65536) (nI 16) (ntY x, nI 1))))).1).toUInt32 >>> ((nI 1).toUInt32 &&& Int32.toUInt32 31)).toInt32) hx hb dJ6_numberOfTrailingZeros_0f7a4_77 (rfl) ?_
    refine lv_iadd hx hb dJ6_numberOfTrailingZeros_0f7a4_78 ?_
    exact rt_i C0 (by unfold jNt; rw [if_pos h1]; rfl) hS rfl dJ6_numberOfTrailingZeros_0f7a4_79
  · skip
    refine lv_iload_n hx hb dJ6_numberOfTrailingZeros_0f7a4_12 rfl (lv_at hl 0 rfl) ?_
    refine lv_bipush (v := nI 32) hx hb dJ6_numberOfTrailingZeros_0f7a4_13 (by decide) ?_
    refine lv_iand hx hb dJ6_numberOfTrailingZeros_0f7a4_15 ?_
    exact rt_i C0 (by unfold jNt; rw [if_neg h1]) hS rfl dJ6_numberOfTrailingZeros_0f7a4_16
set_option maxHeartbeats 4000000 in
set_option maxRecDepth 100000 in
theorem c_nz64 (l : Launch) (g : Gx) (H0 : Heap) (x : Int64) : Met l yJ13_numberOfLeadingZeros_95d88 wsJ13_numberOfLeadingZeros_95d88 rmJ13_numberOfLeadingZeros_95d88 (va_Pc [.long x] (hB g H0)) (pQ (some (.int (jNz64 x))) H0) 0 0 (fun q => H0.size ≤ q) := by
  refine cx_met (own := RJ13) (cc := cJ13_numberOfLeadingZeros_95d88) (maxL := 3) (by decide) rfl rfl (Nat.le_of_ble_eq_true rfl) ?_
  intro p e s m below meth c ls C0 hB0 hnm hl
  obtain ⟨hH, hK⟩ := hB0
  obtain ⟨hx, hb, hr, hml, hown, hts, hlk⟩ := id C0
  subst hH
  have hS : va_S (fun q => s.heap.size ≤ q) s.heap s.heap [] := va_S.rf
  have hA : ∀ q : Nat, s.heap.size ≤ q → s.heap.size ≤ q := fun q h => h
  have hl : lv_has ls 3 [(0, .long x)] := hl
  refine lv_lload_n hx hb dJ13_numberOfLeadingZeros_95d88_0 rfl (lv_at hl 0 rfl) ?_
  refine lv_bipush (v := nI 32) hx hb dJ13_numberOfLeadingZeros_95d88_1 (by decide) ?_
  refine lv_lushr (v := (x.toUInt64 >>> ((nI 32).toInt64.toUInt64 &&& Int64.toUInt64 63)).toInt64) hx hb dJ13_numberOfLeadingZeros_95d88_3 (rfl) ?_
  refine lv_l2i (v := ((x.toUInt64 >>> ((nI 32).toInt64.toUInt64 &&& Int64.toUInt64 63)).toInt64).toInt32) hx hb dJ13_numberOfLeadingZeros_95d88_4 (rfl) ?_
  refine tp_i (y := hi64 x) (rfl) ?_
  refine lv_istore_n (lv' := [(2, .int (hi64 x)), (0, .long x)]) hx hb dJ13_numberOfLeadingZeros_95d88_5 rfl hl (by decide) rfl (fun ls hl => ?_)
  refine lv_iload_n hx hb dJ13_numberOfLeadingZeros_95d88_6 rfl (lv_at hl 0 rfl) ?_
  refine lv_if_ne (tgt := 21) hx hb dJ13_numberOfLeadingZeros_95d88_7 (by decide) (fun h1 => ?_) (fun h1 => ?_)
  · skip
    refine lv_iload_n hx hb dJ13_numberOfLeadingZeros_95d88_21 rfl (lv_at hl 0 rfl) ?_
    refine cp_S (As := [.int (hi64 x)]) (rest := []) C0 hl hK hS hA (c_nz32 l g s.heap (hi64 x)) gJ13_numberOfLeadingZeros_95d88_J6_numberOfLeadingZeros_0f7a4 rfl ⟨rfl, rfl⟩ (show hd_ok yJ6_numberOfLeadingZeros_0f7a4 1 from ⟨by decide, by decide, by decide +kernel⟩) ⟨Nat.le_of_ble_eq_true rfl, Nat.le_of_ble_eq_true rfl⟩ rfl (Nat.le_of_ble_eq_true rfl) ⟨Nat.zero_le _, Nat.zero_le _⟩ dJ13_numberOfLeadingZeros_95d88_22 (fun locs hS => ?_)
    exact rt_i C0 (by unfold jNz64; rw [if_neg h1]) hS rfl dJ13_numberOfLeadingZeros_95d88_25
  · skip
    refine lv_bipush (v := nI 32) hx hb dJ13_numberOfLeadingZeros_95d88_10 (by decide) ?_
    refine lv_lload_n hx hb dJ13_numberOfLeadingZeros_95d88_12 rfl (lv_at hl 1 rfl) ?_
    refine lv_l2i (v := x.toInt32) hx hb dJ13_numberOfLeadingZeros_95d88_13 (rfl) ?_
    refine tp_i (y := x.toInt32) (rfl) ?_
    refine cp_S (As := [.int x.toInt32]) (rest := [.int (nI 32)]) C0 hl hK hS hA (c_nz32 l g s.heap x.toInt32) gJ13_numberOfLeadingZeros_95d88_J6_numberOfLeadingZeros_0f7a4 rfl ⟨rfl, rfl⟩ (show hd_ok yJ6_numberOfLeadingZeros_0f7a4 1 from ⟨by decide, by decide, by decide +kernel⟩) ⟨Nat.le_of_ble_eq_true rfl, Nat.le_of_ble_eq_true rfl⟩ rfl (Nat.le_of_ble_eq_true rfl) ⟨Nat.zero_le _, Nat.zero_le _⟩ dJ13_numberOfLeadingZeros_95d88_14 (fun locs hS => ?_)
    refine lv_iadd hx hb dJ13_numberOfLeadingZeros_95d88_17 ?_
    refine lv_goto (tgt := 25) hx hb dJ13_numberOfLeadingZeros_95d88_18 (by decide) ?_
    exact rt_i C0 (by unfold jNz64; rw [if_pos (by first | exact h1 | exact Decidable.of_not_not h1)]) hS rfl dJ13_numberOfLeadingZeros_95d88_25
set_option maxHeartbeats 4000000 in
set_option maxRecDepth 100000 in
theorem c_nt64 (l : Launch) (g : Gx) (H0 : Heap) (x : Int64) : Met l yJ13_numberOfTrailingZeros_95d88 wsJ13_numberOfTrailingZeros_95d88 rmJ13_numberOfTrailingZeros_95d88 (va_Pc [.long x] (hB g H0)) (pQ (some (.int (jNt64 x))) H0) 0 0 (fun q => H0.size ≤ q) := by
  refine cx_met (own := RJ13) (cc := cJ13_numberOfTrailingZeros_95d88) (maxL := 3) (by decide) rfl rfl (Nat.le_of_ble_eq_true rfl) ?_
  intro p e s m below meth c ls C0 hB0 hnm hl
  obtain ⟨hH, hK⟩ := hB0
  obtain ⟨hx, hb, hr, hml, hown, hts, hlk⟩ := id C0
  subst hH
  have hS : va_S (fun q => s.heap.size ≤ q) s.heap s.heap [] := va_S.rf
  have hA : ∀ q : Nat, s.heap.size ≤ q → s.heap.size ≤ q := fun q h => h
  have hl : lv_has ls 3 [(0, .long x)] := hl
  refine lv_lload_n hx hb dJ13_numberOfTrailingZeros_95d88_0 rfl (lv_at hl 0 rfl) ?_
  refine lv_l2i (v := x.toInt32) hx hb dJ13_numberOfTrailingZeros_95d88_1 (rfl) ?_
  refine tp_i (y := x.toInt32) (rfl) ?_
  refine lv_istore_n (lv' := [(2, .int x.toInt32), (0, .long x)]) hx hb dJ13_numberOfTrailingZeros_95d88_2 rfl hl (by decide) rfl (fun ls hl => ?_)
  refine lv_iload_n hx hb dJ13_numberOfTrailingZeros_95d88_3 rfl (lv_at hl 0 rfl) ?_
  refine lv_if_ne (tgt := 21) hx hb dJ13_numberOfTrailingZeros_95d88_4 (by decide) (fun h1 => ?_) (fun h1 => ?_)
  · skip
    refine lv_iload_n hx hb dJ13_numberOfTrailingZeros_95d88_21 rfl (lv_at hl 0 rfl) ?_
    refine cp_S (As := [.int x.toInt32]) (rest := []) C0 hl hK hS hA (c_nt32 l g s.heap x.toInt32) gJ13_numberOfTrailingZeros_95d88_J6_numberOfTrailingZeros_0f7a4 rfl ⟨rfl, rfl⟩ (show hd_ok yJ6_numberOfTrailingZeros_0f7a4 1 from ⟨by decide, by decide, by decide +kernel⟩) ⟨Nat.le_of_ble_eq_true rfl, Nat.le_of_ble_eq_true rfl⟩ rfl (Nat.le_of_ble_eq_true rfl) ⟨Nat.zero_le _, Nat.zero_le _⟩ dJ13_numberOfTrailingZeros_95d88_22 (fun locs hS => ?_)
    exact rt_i C0 (by unfold jNt64; rw [if_neg h1]) hS rfl dJ13_numberOfTrailingZeros_95d88_25
  · skip
    refine lv_bipush (v := nI 32) hx hb dJ13_numberOfTrailingZeros_95d88_7 (by decide) ?_
    refine lv_lload_n hx hb dJ13_numberOfTrailingZeros_95d88_9 rfl (lv_at hl 1 rfl) ?_
    refine lv_bipush (v := nI 32) hx hb dJ13_numberOfTrailingZeros_95d88_10 (by decide) ?_
    refine lv_lushr (v := (x.toUInt64 >>> ((nI 32).toInt64.toUInt64 &&& Int64.toUInt64 63)).toInt64) hx hb dJ13_numberOfTrailingZeros_95d88_12 (rfl) ?_
    refine lv_l2i (v := ((x.toUInt64 >>> ((nI 32).toInt64.toUInt64 &&& Int64.toUInt64 63)).toInt64).toInt32) hx hb dJ13_numberOfTrailingZeros_95d88_13 (rfl) ?_
    refine tp_i (y := hi64 x) (rfl) ?_
    refine cp_S (As := [.int (hi64 x)]) (rest := [.int (nI 32)]) C0 hl hK hS hA (c_nt32 l g s.heap (hi64 x)) gJ13_numberOfTrailingZeros_95d88_J6_numberOfTrailingZeros_0f7a4 rfl ⟨rfl, rfl⟩ (show hd_ok yJ6_numberOfTrailingZeros_0f7a4 1 from ⟨by decide, by decide, by decide +kernel⟩) ⟨Nat.le_of_ble_eq_true rfl, Nat.le_of_ble_eq_true rfl⟩ rfl (Nat.le_of_ble_eq_true rfl) ⟨Nat.zero_le _, Nat.zero_le _⟩ dJ13_numberOfTrailingZeros_95d88_14 (fun locs hS => ?_)
    refine lv_iadd hx hb dJ13_numberOfTrailingZeros_95d88_17 ?_
    refine lv_goto (tgt := 25) hx hb dJ13_numberOfTrailingZeros_95d88_18 (by decide) ?_
    exact rt_i C0 (by unfold jNt64; rw [if_pos (by first | exact h1 | exact Decidable.of_not_not h1)]) hS rfl dJ13_numberOfTrailingZeros_95d88_25
/-- the place that the class picks of a number, and the number that it sets then -/
def pkP (zh : Bool) (N : Nat) : Int32 := if zh = true then nI 63 - jNz64 (lN N) else jNt64 (lN N)
def pkW (zi zh : Bool) (N : Nat) : Nat := if N = 0 then 0 else wideN (nP zi) (tN (lN 1 <<< ((pkP zh N).toInt64 &&& 63)) % 65536 ^ nP zi)
abbrev rmX2_pick : Room := { frames := 2, cells := 0, slots := 0, locals := 43 }
set_option maxHeartbeats 4000000 in
set_option maxRecDepth 100000 in
theorem c_xPick (l : Launch) (g : Gx) (H0 : Heap) (x0 lc tr tc sr sc : Nat) (i3 i4 i5 i6 : Int32) (V : Nat → Nat) (n : Nat) (t : Nat → Nat) (hL : CL g H0 x0 lc tr tc sr sc i3 i4 i5 i6 V n t) (i : Nat) (hi : i < 8) (zh zi : Bool) : Met l yX2_pick wsX2_pick rmX2_pick (va_Pc [.ref x0, .int (nI i), .int (bI zh), .int (bI zi)] (hB g H0)) (nQ H0 (mC x0 lc tr tc sr sc) (zC g x0 lc tr tc sr sc (fun r V2 n2 t2 => r = some (.int (if V i % 65536 ^ nP zi = 0 then -1 else pkP zh (V i % 65536 ^ nP zi))) ∧ n2 = n ∧ t2 = t ∧ V2 = va_up V i (pkW zi zh (V i % 65536 ^ nP zi))))) 0 0 (fun q => (mC x0 lc tr tc sr sc) q ∨ H0.size ≤ q) := by
  refine cx_met (own := RX2) (cc := cX2_pick) (maxL := 7) (by decide) rfl rfl (Nat.le_of_ble_eq_true rfl) ?_
  intro p e s m below meth c ls C0 hB0 hnm hl
  obtain ⟨hH, hK⟩ := hB0
  obtain ⟨hx, hb, hr, hml, hown, hts, hlk⟩ := id C0
  subst hH
  have hS : va_S (fun q => (mC x0 lc tr tc sr sc) q ∨ s.heap.size ≤ q) s.heap s.heap [] := va_S.rf
  have hA : ∀ q : Nat, s.heap.size ≤ q → (fun q => (mC x0 lc tr tc sr sc) q ∨ s.heap.size ≤ q) q := fun q h => Or.inr h
  have hl : lv_has ls 7 [(0, .ref x0), (1, .int (nI i)), (2, .int (bI zh)), (3, .int (bI zi))] := hl
  obtain ⟨hC, hR, hSp, hap⟩ := id hL
  obtain ⟨hf, hfl, hlc, ⟨f, hg9, hfv⟩, hV, hxl⟩ := id hC
  have hM9 : 0 < 65536 ^ nP zi := Nat.pow_pos (by decide)
  have hN9 : V i % 65536 ^ nP zi < 2 ^ 64 := Nat.lt_of_lt_of_le (Nat.mod_lt _ hM9) (by cases zi <;> decide)
  have hw9 : pkW zi zh (V i % 65536 ^ nP zi) < 65536 ^ 4 := by unfold pkW; split; decide; exact wideN_lt (nP_or _) (Nat.mod_lt _ hM9)
  refine lv_iload_n hx hb dX2_pick_0 rfl (lv_at hl 1 rfl) ?_
  refine cp_S (As := [.int (nI i)]) (rest := []) C0 hl hK hS hA (c_ckCell l g s.heap i (by assumption)) gX2_pick_X2_checkCell rfl ⟨rfl, rfl⟩ (show hd_ok yX2_checkCell 1 from ⟨by decide, by decide, by decide +kernel⟩) ⟨Nat.le_of_ble_eq_true rfl, Nat.le_of_ble_eq_true rfl⟩ rfl (Nat.le_of_ble_eq_true rfl) ⟨Nat.zero_le _, Nat.zero_le _⟩ dX2_pick_1 (fun locs hS => ?_)
  refine lv_aload_n hx hb dX2_pick_4 rfl (lv_at hl 0 rfl) ?_
  refine lv_iload_n hx hb dX2_pick_5 rfl (lv_at hl 1 rfl) ?_
  refine lv_iload_n hx hb dX2_pick_6 rfl (lv_at hl 3 rfl) ?_
  refine cp_V (As := [.int (nI i), .int (bI zi)]) (rest := []) C0 hl hK hS hA (c_unsOf l g s.heap x0 lc _ V hC i zi (by assumption)) gX2_pick_X2_unsignedOf rfl ⟨rfl, rfl⟩ (hC.recv hK) ⟨rfl, (show hd_ok yX2_unsignedOf 2 from ⟨by decide, by decide, by decide +kernel⟩)⟩ ⟨Nat.le_of_ble_eq_true rfl, Nat.le_of_ble_eq_true rfl⟩ rfl (Nat.le_of_ble_eq_true rfl) ⟨Nat.zero_le _, Nat.zero_le _⟩ dX2_pick_7 (fun locs hS => ?_)
  refine lv_lstore (lv' := [(4, .long (lN (V i % 65536 ^ nP zi))), (0, .ref x0), (1, .int (nI i)), (2, .int (bI zh)), (3, .int (bI zi))]) hx hb dX2_pick_10 hl (by decide) rfl (fun ls hl => ?_)
  refine lv_lload hx hb dX2_pick_12 (lv_at hl 0 rfl) ?_
  refine lv_lconst (v := lN 0) hx hb dX2_pick_14 rfl ?_
  refine W.lcmp hx hb dX2_pick_15 ?_
  refine lv_if_ne (tgt := 28) hx hb dX2_pick_16 (by decide) (fun h1 => ?_) (fun h1 => ?_)
  · skip
    have n1 : ¬ V i % 65536 ^ nP zi = 0 := fun z => lc_ne h1 (by rw [z])
    refine lv_iload_n hx hb dX2_pick_28 rfl (lv_at hl 3 rfl) ?_
    refine lv_if_eq (tgt := 43) hx hb dX2_pick_29 (by decide) (fun h2 => ?_) (fun h2 => ?_)
    · skip
      have z2 := bI_0 h2
      refine lv_lload hx hb dX2_pick_43 (lv_at hl 0 rfl) ?_
      refine cp_S (As := [.long (lN (V i % 65536 ^ nP zi))]) (rest := []) C0 hl hK hS hA (c_nt64 l g s.heap (lN (V i % 65536 ^ nP zi))) gX2_pick_J13_numberOfTrailingZeros_95d88 rfl ⟨rfl, rfl⟩ (show hd_ok yJ13_numberOfTrailingZeros_95d88 1 from ⟨by decide, by decide, by decide +kernel⟩) ⟨Nat.le_of_ble_eq_true rfl, Nat.le_of_ble_eq_true rfl⟩ rfl (Nat.le_of_ble_eq_true rfl) ⟨Nat.zero_le _, Nat.zero_le _⟩ dX2_pick_45 (fun locs hS => ?_)
      refine tp_i (y := pkP zh (V i % 65536 ^ nP zi)) ((by unfold pkP; rw [z2, if_neg (by decide)])) ?_
      refine lv_istore (lv' := [(6, .int (pkP zh (V i % 65536 ^ nP zi))), (4, .long (lN (V i % 65536 ^ nP zi))), (0, .ref x0), (1, .int (nI i)), (2, .int (bI zh)), (3, .int (bI zi))]) hx hb dX2_pick_48 hl (by decide) rfl (fun ls hl => ?_)
      refine lv_aload_n hx hb dX2_pick_50 rfl (lv_at hl 2 rfl) ?_
      refine lv_iload_n hx hb dX2_pick_51 rfl (lv_at hl 3 rfl) ?_
      refine lv_lconst (v := lN 1) hx hb dX2_pick_52 rfl ?_
      refine lv_iload hx hb dX2_pick_53 (lv_at hl 0 rfl) ?_
      refine lv_lshl (v := (lN 1) <<< ((pkP zh (V i % 65536 ^ nP zi)).toInt64 &&& 63)) hx hb dX2_pick_55 (rfl) ?_
      refine tp_l (y := lN (tN (lN 1 <<< ((pkP zh (V i % 65536 ^ nP zi)).toInt64 &&& 63)))) ((lN_tN _)) ?_
      refine lv_iload_n hx hb dX2_pick_56 rfl (lv_at hl 5 rfl) ?_
      refine cp_S (As := [.long (lN (tN (lN 1 <<< ((pkP zh (V i % 65536 ^ nP zi)).toInt64 &&& 63)))), .int (bI zi)]) (rest := [.int (nI i), .ref x0]) C0 hl hK hS hA (c_setting l g s.heap (tN (lN 1 <<< ((pkP zh (V i % 65536 ^ nP zi)).toInt64 &&& 63))) zi (tN_lt _)) gX2_pick_X2_setting rfl ⟨rfl, rfl⟩ (show hd_ok yX2_setting 2 from ⟨by decide, by decide, by decide +kernel⟩) ⟨Nat.le_of_ble_eq_true rfl, Nat.le_of_ble_eq_true rfl⟩ rfl (Nat.le_of_ble_eq_true rfl) ⟨Nat.zero_le _, Nat.zero_le _⟩ dX2_pick_57 (fun locs hS => ?_)
      refine tp_l (y := lN (pkW zi zh (V i % 65536 ^ nP zi))) ((by unfold pkW; rw [if_neg n1])) ?_
      refine cn_V (As := [.int (nI i), .long (lN (pkW zi zh (V i % 65536 ^ nP zi)))]) (rest := []) C0 hl hK hS hA (fun q h => Or.inl (mC_l h)) (c_becC l g s.heap x0 lc _ V hC i (pkW zi zh (V i % 65536 ^ nP zi)) (by assumption) hw9) gX2_pick_X2_become rfl ⟨rfl, rfl⟩ (hC.recv hK) ⟨rfl, (show hd_ok yX2_become 2 from ⟨by decide, by decide, by decide +kernel⟩)⟩ ⟨Nat.le_of_ble_eq_true rfl, Nat.le_of_ble_eq_true rfl⟩ rfl (Nat.le_of_ble_eq_true rfl) ⟨Nat.zero_le _, Nat.zero_le _⟩ dX2_pick_60 (fun r1 H1 locs hv hzz hk1 hS => ?_)
      obtain ⟨rfl, hC1⟩ := hv
      refine lv_pop hx hb dX2_pick_63 rfl ?_
      refine lv_iload hx hb dX2_pick_64 (lv_at hl 0 rfl) ?_
      refine W.widen (k := 0) (n := 0) (by decide) (by decide) ?_
      exact rt_ni (mu := mC x0 lc tr tc sr sc) C0 rfl ⟨i3, i4, i5, i6, _, n, t, ⟨by rw [if_neg n1], rfl, rfl, rfl⟩, hL.setV hC1 hk1⟩ hS rfl dX2_pick_66
    · skip
      have z2 := bI_n0 h2
      refine lv_bipush (v := nI 63) hx hb dX2_pick_32 (by decide) ?_
      refine lv_lload hx hb dX2_pick_34 (lv_at hl 0 rfl) ?_
      refine cp_S (As := [.long (lN (V i % 65536 ^ nP zi))]) (rest := [.int (nI 63)]) C0 hl hK hS hA (c_nz64 l g s.heap (lN (V i % 65536 ^ nP zi))) gX2_pick_J13_numberOfLeadingZeros_95d88 rfl ⟨rfl, rfl⟩ (show hd_ok yJ13_numberOfLeadingZeros_95d88 1 from ⟨by decide, by decide, by decide +kernel⟩) ⟨Nat.le_of_ble_eq_true rfl, Nat.le_of_ble_eq_true rfl⟩ rfl (Nat.le_of_ble_eq_true rfl) ⟨Nat.zero_le _, Nat.zero_le _⟩ dX2_pick_36 (fun locs hS => ?_)
      refine lv_isub hx hb dX2_pick_39 ?_
      refine tp_i (y := pkP zh (V i % 65536 ^ nP zi)) ((by unfold pkP; rw [z2, if_pos rfl])) ?_
      refine lv_goto (tgt := 48) hx hb dX2_pick_40 (by decide) ?_
      refine lv_istore (lv' := [(6, .int (pkP zh (V i % 65536 ^ nP zi))), (4, .long (lN (V i % 65536 ^ nP zi))), (0, .ref x0), (1, .int (nI i)), (2, .int (bI zh)), (3, .int (bI zi))]) hx hb dX2_pick_48 hl (by decide) rfl (fun ls hl => ?_)
      refine lv_aload_n hx hb dX2_pick_50 rfl (lv_at hl 2 rfl) ?_
      refine lv_iload_n hx hb dX2_pick_51 rfl (lv_at hl 3 rfl) ?_
      refine lv_lconst (v := lN 1) hx hb dX2_pick_52 rfl ?_
      refine lv_iload hx hb dX2_pick_53 (lv_at hl 0 rfl) ?_
      refine lv_lshl (v := (lN 1) <<< ((pkP zh (V i % 65536 ^ nP zi)).toInt64 &&& 63)) hx hb dX2_pick_55 (rfl) ?_
      refine tp_l (y := lN (tN (lN 1 <<< ((pkP zh (V i % 65536 ^ nP zi)).toInt64 &&& 63)))) ((lN_tN _)) ?_
      refine lv_iload_n hx hb dX2_pick_56 rfl (lv_at hl 5 rfl) ?_
      refine cp_S (As := [.long (lN (tN (lN 1 <<< ((pkP zh (V i % 65536 ^ nP zi)).toInt64 &&& 63)))), .int (bI zi)]) (rest := [.int (nI i), .ref x0]) C0 hl hK hS hA (c_setting l g s.heap (tN (lN 1 <<< ((pkP zh (V i % 65536 ^ nP zi)).toInt64 &&& 63))) zi (tN_lt _)) gX2_pick_X2_setting rfl ⟨rfl, rfl⟩ (show hd_ok yX2_setting 2 from ⟨by decide, by decide, by decide +kernel⟩) ⟨Nat.le_of_ble_eq_true rfl, Nat.le_of_ble_eq_true rfl⟩ rfl (Nat.le_of_ble_eq_true rfl) ⟨Nat.zero_le _, Nat.zero_le _⟩ dX2_pick_57 (fun locs hS => ?_)
      refine tp_l (y := lN (pkW zi zh (V i % 65536 ^ nP zi))) ((by unfold pkW; rw [if_neg n1])) ?_
      refine cn_V (As := [.int (nI i), .long (lN (pkW zi zh (V i % 65536 ^ nP zi)))]) (rest := []) C0 hl hK hS hA (fun q h => Or.inl (mC_l h)) (c_becC l g s.heap x0 lc _ V hC i (pkW zi zh (V i % 65536 ^ nP zi)) (by assumption) hw9) gX2_pick_X2_become rfl ⟨rfl, rfl⟩ (hC.recv hK) ⟨rfl, (show hd_ok yX2_become 2 from ⟨by decide, by decide, by decide +kernel⟩)⟩ ⟨Nat.le_of_ble_eq_true rfl, Nat.le_of_ble_eq_true rfl⟩ rfl (Nat.le_of_ble_eq_true rfl) ⟨Nat.zero_le _, Nat.zero_le _⟩ dX2_pick_60 (fun r1 H1 locs hv hzz hk1 hS => ?_)
      obtain ⟨rfl, hC1⟩ := hv
      refine lv_pop hx hb dX2_pick_63 rfl ?_
      refine lv_iload hx hb dX2_pick_64 (lv_at hl 0 rfl) ?_
      refine W.widen (k := 0) (n := 0) (by decide) (by decide) ?_
      exact rt_ni (mu := mC x0 lc tr tc sr sc) C0 rfl ⟨i3, i4, i5, i6, _, n, t, ⟨by rw [if_neg n1], rfl, rfl, rfl⟩, hL.setV hC1 hk1⟩ hS rfl dX2_pick_66
  · skip
    have n1 : V i % 65536 ^ nP zi = 0 := (lN_inj hN9 (by decide)).mp (lc_eq h1)
    refine lv_aload_n hx hb dX2_pick_19 rfl (lv_at hl 1 rfl) ?_
    refine lv_iload_n hx hb dX2_pick_20 rfl (lv_at hl 2 rfl) ?_
    refine lv_lconst (v := lN 0) hx hb dX2_pick_21 rfl ?_
    refine tp_l (y := lN (pkW zi zh (V i % 65536 ^ nP zi))) ((by unfold pkW; rw [if_pos n1])) ?_
    refine cn_V (As := [.int (nI i), .long (lN (pkW zi zh (V i % 65536 ^ nP zi)))]) (rest := []) C0 hl hK hS hA (fun q h => Or.inl (mC_l h)) (c_becC l g s.heap x0 lc _ V hC i (pkW zi zh (V i % 65536 ^ nP zi)) (by assumption) hw9) gX2_pick_X2_become rfl ⟨rfl, rfl⟩ (hC.recv hK) ⟨rfl, (show hd_ok yX2_become 2 from ⟨by decide, by decide, by decide +kernel⟩)⟩ ⟨Nat.le_of_ble_eq_true rfl, Nat.le_of_ble_eq_true rfl⟩ rfl (Nat.le_of_ble_eq_true rfl) ⟨Nat.zero_le _, Nat.zero_le _⟩ dX2_pick_22 (fun r1 H1 locs hv hzz hk1 hS => ?_)
    obtain ⟨rfl, hC1⟩ := hv
    refine lv_pop hx hb dX2_pick_25 rfl ?_
    refine lv_iconst (v := (-1)) hx hb dX2_pick_26 (by decide) ?_
    refine W.widen (k := 0) (n := 0) (by decide) (by decide) ?_
    exact rt_ni (mu := mC x0 lc tr tc sr sc) C0 rfl ⟨i3, i4, i5, i6, _, n, t, ⟨by rw [if_pos n1], rfl, rfl, rfl⟩, hL.setV hC1 hk1⟩ hS rfl dX2_pick_27
end M76

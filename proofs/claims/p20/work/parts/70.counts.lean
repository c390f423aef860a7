-- THE JDK'S COUNTS AND TURNS, and what the class does with them
/-- an Int64's places as a number -/
def tN (v : Int64) : Nat := v.toBitVec.toNat
theorem tN_lt (v : Int64) : tN v < 65536 ^ 4 := v.toBitVec.isLt
theorem lN_tN (v : Int64) : v = lN (tN v) := by
  refine Int64.toBitVec_inj.mp ?_
  rw [lN_bv]
  exact (BitVec.ofNat_toNat 64 v.toBitVec).symm.trans (by rfl) |>.trans rfl |> fun h => by
    unfold tN
    rw [BitVec.ofNat_toNat]
    exact (BitVec.setWidth_eq _).symm
def jR32 (x d : Int32) : Int32 := (x <<< (d &&& 31)) ||| (x.toUInt32 >>> ((-d).toUInt32 &&& Int32.toUInt32 31)).toInt32
def jR64 (x : Int64) (d : Int32) : Int64 := (x <<< (d.toInt64 &&& 63)) ||| (x.toUInt64 >>> ((-d).toInt64.toUInt64 &&& Int64.toUInt64 63)).toInt64
section M70
variable {p : Program} {l : Launch} {e : Env} {s : State} {m : MethodId} {args : Array Value} {below : List Frame} {meth : Method} {c : Code} {H H0 : Heap} {locs : List Loc} {cells slots : Nat} {Q : State → Prop} {A : Nat → Prop} {g : Gx} {b0 : Nat}
abbrev rmJ6_bitCount_0f7a4 : Room := { frames := 0, cells := 0, slots := 0, locals := 0 }
set_option maxHeartbeats 4000000 in
set_option maxRecDepth 100000 in
theorem c_bc32 (l : Launch) (g : Gx) (H0 : Heap) (x : Int32) : Met l yJ6_bitCount_0f7a4 wsJ6_bitCount_0f7a4 rmJ6_bitCount_0f7a4 (va_Pc [.int x] (hB g H0)) (nQ H0 (fun _ => False) (fun r H1 => H0 = H1 ∧ ∃ rv : Int32, r = some (.int rv))) 0 0 (fun q => (fun _ => False) q ∨ H0.size ≤ q) := by
  refine cx_met (own := RJ6) (cc := cJ6_bitCount_0f7a4) (maxL := 1) (by decide) rfl rfl (Nat.le_of_ble_eq_true rfl) ?_
  intro p e s m below meth c ls C0 hB0 hnm hl
  obtain ⟨hH, hK⟩ := hB0
  obtain ⟨hx, hb, hr, hml, hown, hts, hlk⟩ := id C0
  subst hH
  have hS : va_S (fun q => (fun _ => False) q ∨ s.heap.size ≤ q) s.heap s.heap [] := va_S.rf
  have hA : ∀ q : Nat, s.heap.size ≤ q → (fun q => (fun _ => False) q ∨ s.heap.size ≤ q) q := fun q h => Or.inr h
  have hl : lv_has ls 1 [(0, .int x)] := hl
  refine lv_iload_n hx hb dJ6_bitCount_0f7a4_0 rfl (lv_at hl 0 rfl) ?_
  refine lv_iload_n hx hb dJ6_bitCount_0f7a4_1 rfl (lv_at hl 0 rfl) ?_
  refine lv_iconst (v := nI 1) hx hb dJ6_bitCount_0f7a4_2 (by decide) ?_
  refine lv_iushr (v := (x.toUInt32 >>> ((nI 1).toUInt32 &&& Int32.toUInt32 31)).toInt32) hx hb dJ6_bitCount_0f7a4_3 (rfl) ?_
  refine lv_ldcw (v := nI 1431655765) hx hb hown (hts (.constant RJ6 265 (1431655765)) (by decide +kernel)) dJ6_bitCount_0f7a4_4 ?_
  refine lv_iand hx hb dJ6_bitCount_0f7a4_7 ?_
  refine lv_isub hx hb dJ6_bitCount_0f7a4_8 ?_
  obtain ⟨y_1, hy_1⟩ : ∃ z : Int32, x - (((x.toUInt32 >>> ((nI 1).toUInt32 &&& Int32.toUInt32 31)).toInt32) &&& (nI 1431655765)) = z := ⟨_, rfl⟩
  refine tp_i (y := y_1) (hy_1) ?_
  refine lv_istore_n (lv' := [(0, .int y_1)]) hx hb dJ6_bitCount_0f7a4_9 rfl hl (by decide) rfl (fun ls hl => ?_)
  refine lv_iload_n hx hb dJ6_bitCount_0f7a4_10 rfl (lv_at hl 0 rfl) ?_
  refine lv_ldcw (v := nI 858993459) hx hb hown (hts (.constant RJ6 266 (858993459)) (by decide +kernel)) dJ6_bitCount_0f7a4_11 ?_
  refine lv_iand hx hb dJ6_bitCount_0f7a4_14 ?_
  refine lv_iload_n hx hb dJ6_bitCount_0f7a4_15 rfl (lv_at hl 0 rfl) ?_
  refine lv_iconst (v := nI 2) hx hb dJ6_bitCount_0f7a4_16 (by decide) ?_
  refine lv_iushr (v := (y_1.toUInt32 >>> ((nI 2).toUInt32 &&& Int32.toUInt32 31)).toInt32) hx hb dJ6_bitCount_0f7a4_17 (rfl) ?_
  refine lv_ldcw (v := nI 858993459) hx hb hown (hts (.constant RJ6 266 (858993459)) (by decide +kernel)) dJ6_bitCount_0f7a4_18 ?_
  refine lv_iand hx hb dJ6_bitCount_0f7a4_21 ?_
  refine lv_iadd hx hb dJ6_bitCount_0f7a4_22 ?_
  obtain ⟨y_2, hy_2⟩ : ∃ z : Int32, (y_1 &&& (nI 858993459)) + (((y_1.toUInt32 >>> ((nI 2).toUInt32 &&& Int32.toUInt32 31)).toInt32) &&& (nI 858993459)) = z := ⟨_, rfl⟩
  refine tp_i (y := y_2) (hy_2) ?_
  refine lv_istore_n (lv' := [(0, .int y_2)]) hx hb dJ6_bitCount_0f7a4_23 rfl hl (by decide) rfl (fun ls hl => ?_)
  refine lv_iload_n hx hb dJ6_bitCount_0f7a4_24 rfl (lv_at hl 0 rfl) ?_
  refine lv_iload_n hx hb dJ6_bitCount_0f7a4_25 rfl (lv_at hl 0 rfl) ?_
  refine lv_iconst (v := nI 4) hx hb dJ6_bitCount_0f7a4_26 (by decide) ?_
  refine lv_iushr (v := (y_2.toUInt32 >>> ((nI 4).toUInt32 &&& Int32.toUInt32 31)).toInt32) hx hb dJ6_bitCount_0f7a4_27 (rfl) ?_
  refine lv_iadd hx hb dJ6_bitCount_0f7a4_28 ?_
  refine lv_ldcw (v := nI 252645135) hx hb hown (hts (.constant RJ6 267 (252645135)) (by decide +kernel)) dJ6_bitCount_0f7a4_29 ?_
  refine lv_iand hx hb dJ6_bitCount_0f7a4_32 ?_
  obtain ⟨y_3, hy_3⟩ : ∃ z : Int32, (y_2 + ((y_2.toUInt32 >>> ((nI 4).toUInt32 &&& Int32.toUInt32 31)).toInt32)) &&& (nI 252645135) = z := ⟨_, rfl⟩
  refine tp_i (y := y_3) (hy_3) ?_
  refine lv_istore_n (lv' := [(0, .int y_3)]) hx hb dJ6_bitCount_0f7a4_33 rfl hl (by decide) rfl (fun ls hl => ?_)
  refine lv_iload_n hx hb dJ6_bitCount_0f7a4_34 rfl (lv_at hl 0 rfl) ?_
  refine lv_iload_n hx hb dJ6_bitCount_0f7a4_35 rfl (lv_at hl 0 rfl) ?_
  refine lv_bipush (v := nI 8) hx hb dJ6_bitCount_0f7a4_36 (by decide) ?_
  refine lv_iushr (v := (y_3.toUInt32 >>> ((nI 8).toUInt32 &&& Int32.toUInt32 31)).toInt32) hx hb dJ6_bitCount_0f7a4_38 (rfl) ?_
  refine lv_iadd hx hb dJ6_bitCount_0f7a4_39 ?_
  obtain ⟨y_4, hy_4⟩ : ∃ z : Int32, y_3 + ((y_3.toUInt32 >>> ((nI 8).toUInt32 &&& Int32.toUInt32 31)).toInt32) = z := ⟨_, rfl⟩
  refine tp_i (y := y_4) (hy_4) ?_
  refine lv_istore_n (lv' := [(0, .int y_4)]) hx hb dJ6_bitCount_0f7a4_40 rfl hl (by decide) rfl (fun ls hl => ?_)
  refine lv_iload_n hx hb dJ6_bitCount_0f7a4_41 rfl (lv_at hl 0 rfl) ?_
  refine lv_iload_n hx hb dJ6_bitCount_0f7a4_42 rfl (lv_at hl 0 rfl) ?_
  refine lv_bipush (v := nI 16) hx hb dJ6_bitCount_0f7a4_43 (by decide) ?_
  refine lv_iushr (v := (y_4.toUInt32 >>> ((nI 16).toUInt32 &&& Int32.toUInt32 31)).toInt32) hx hb dJ6_bitCount_0f7a4_45 (rfl) ?_
  refine lv_iadd hx hb dJ6_bitCount_0f7a4_46 ?_
  obtain ⟨y_5, hy_5⟩ : ∃ z : Int32, y_4 + ((y_4.toUInt32 >>> ((nI 16).toUInt32 &&& Int32.toUInt32 31)).toInt32) = z := ⟨_, rfl⟩
  refine tp_i (y := y_5) (hy_5) ?_
  refine lv_istore_n (lv' := [(0, .int y_5)]) hx hb dJ6_bitCount_0f7a4_47 rfl hl (by decide) rfl (fun ls hl => ?_)
  refine lv_iload_n hx hb dJ6_bitCount_0f7a4_48 rfl (lv_at hl 0 rfl) ?_
  refine lv_bipush (v := nI 63) hx hb dJ6_bitCount_0f7a4_49 (by decide) ?_
  refine lv_iand hx hb dJ6_bitCount_0f7a4_51 ?_
  exact rt_ni (mu := (fun _ => False)) C0 rfl ⟨rfl, _, rfl⟩ hS rfl dJ6_bitCount_0f7a4_52
abbrev rmJ6_signum_0f7a4 : Room := { frames := 0, cells := 0, slots := 0, locals := 0 }
set_option maxHeartbeats 4000000 in
set_option maxRecDepth 100000 in
theorem c_sg32 (l : Launch) (g : Gx) (H0 : Heap) (x : Int32) : Met l yJ6_signum_0f7a4 wsJ6_signum_0f7a4 rmJ6_signum_0f7a4 (va_Pc [.int x] (hB g H0)) (nQ H0 (fun _ => False) (fun r H1 => H0 = H1 ∧ ∃ rv : Int32, r = some (.int rv))) 0 0 (fun q => (fun _ => False) q ∨ H0.size ≤ q) := by
  refine cx_met (own := RJ6) (cc := cJ6_signum_0f7a4) (maxL := 1) (by decide) rfl rfl (Nat.le_of_ble_eq_true rfl) ?_
  intro p e s m below meth c ls C0 hB0 hnm hl
  obtain ⟨hH, hK⟩ := hB0
  obtain ⟨hx, hb, hr, hml, hown, hts, hlk⟩ := id C0
  subst hH
  have hS : va_S (fun q => (fun _ => False) q ∨ s.heap.size ≤ q) s.heap s.heap [] := va_S.rf
  have hA : ∀ q : Nat, s.heap.size ≤ q → (fun q => (fun _ => False) q ∨ s.heap.size ≤ q) q := fun q h => Or.inr h
  have hl : lv_has ls 1 [(0, .int x)] := hl
  refine lv_iload_n hx hb dJ6_signum_0f7a4_0 rfl (lv_at hl 0 rfl) ?_
  refine lv_bipush (v := nI 31) hx hb dJ6_signum_0f7a4_1 (by decide) ?_
  refine lv_ishr hx hb dJ6_signum_0f7a4_3 ?_
  refine lv_iload_n hx hb dJ6_signum_0f7a4_4 rfl (lv_at hl 0 rfl) ?_
  refine lv_ineg hx hb dJ6_signum_0f7a4_5 ?_
  refine lv_bipush (v := nI 31) hx hb dJ6_signum_0f7a4_6 (by decide) ?_
  refine lv_iushr (v := ((-x).toUInt32 >>> ((nI 31).toUInt32 &&& Int32.toUInt32 31)).toInt32) hx hb dJ6_signum_0f7a4_8 (rfl) ?_
  refine lv_ior hx hb dJ6_signum_0f7a4_9 ?_
  exact rt_ni (mu := (fun _ => False)) C0 rfl ⟨rfl, _, rfl⟩ hS rfl dJ6_signum_0f7a4_10
abbrev rmJ6_numberOfLeadingZeros_0f7a4 : Room := { frames := 0, cells := 0, slots := 0, locals := 0 }
set_option maxHeartbeats 4000000 in
set_option maxRecDepth 100000 in
theorem c_nlz32 (l : Launch) (g : Gx) (H0 : Heap) (x : Int32) : Met l yJ6_numberOfLeadingZeros_0f7a4 wsJ6_numberOfLeadingZeros_0f7a4 rmJ6_numberOfLeadingZeros_0f7a4 (va_Pc [.int x] (hB g H0)) (nQ H0 (fun _ => False) (fun r H1 => H0 = H1 ∧ ∃ rv : Int32, r = some (.int rv))) 0 0 (fun q => (fun _ => False) q ∨ H0.size ≤ q) := by
  refine cx_met (own := RJ6) (cc := cJ6_numberOfLeadingZeros_0f7a4) (maxL := 2) (by decide) rfl rfl (Nat.le_of_ble_eq_true rfl) ?_
  intro p e s m below meth c ls C0 hB0 hnm hl
  obtain ⟨hH, hK⟩ := hB0
  obtain ⟨hx, hb, hr, hml, hown, hts, hlk⟩ := id C0
  subst hH
  have hS : va_S (fun q => (fun _ => False) q ∨ s.heap.size ≤ q) s.heap s.heap [] := va_S.rf
  have hA : ∀ q : Nat, s.heap.size ≤ q → (fun q => (fun _ => False) q ∨ s.heap.size ≤ q) q := fun q h => Or.inr h
  have hl : lv_has ls 2 [(0, .int x)] := hl
  refine lv_iload_n hx hb dJ6_numberOfLeadingZeros_0f7a4_0 rfl (lv_at hl 0 rfl) ?_
  refine lv_if_gt (tgt := 15) hx hb dJ6_numberOfLeadingZeros_0f7a4_1 (by decide) (fun h_1 => ?_) (fun h_1 => ?_)
  · skip
    refine lv_bipush (v := nI 31) hx hb dJ6_numberOfLeadingZeros_0f7a4_15 (by decide) ?_
    refine lv_istore_n (lv' := [(1, .int (nI 31)), (0, .int x)]) hx hb dJ6_numberOfLeadingZeros_0f7a4_17 rfl hl (by decide) rfl (fun ls hl => ?_)
    refine lv_iload_n hx hb dJ6_numberOfLeadingZeros_0f7a4_18 rfl (lv_at hl 1 rfl) ?_
    refine lv_ldcw (v := nI 65536) hx hb hown (hts (.constant RJ6 264 (65536)) (by decide +kernel)) dJ6_numberOfLeadingZeros_0f7a4_19 ?_
    refine lv_icmp_lt (tgt := 33) hx hb dJ6_numberOfLeadingZeros_0f7a4_22 (by decide) (fun h_2 => ?_) (fun h_2 => ?_)
    · skip
      refine lv_iload_n hx hb dJ6_numberOfLeadingZeros_0f7a4_33 rfl (lv_at hl 1 rfl) ?_
      refine lv_sipush (v := nI 256) hx hb dJ6_numberOfLeadingZeros_0f7a4_34 (by decide) ?_
      refine lv_icmp_lt (tgt := 48) hx hb dJ6_numberOfLeadingZeros_0f7a4_37 (by decide) (fun h_3 => ?_) (fun h_3 => ?_)
      · skip
        refine lv_iload_n hx hb dJ6_numberOfLeadingZeros_0f7a4_48 rfl (lv_at hl 1 rfl) ?_
        refine lv_bipush (v := nI 16) hx hb dJ6_numberOfLeadingZeros_0f7a4_49 (by decide) ?_
        refine lv_icmp_lt (tgt := 61) hx hb dJ6_numberOfLeadingZeros_0f7a4_51 (by decide) (fun h_4 => ?_) (fun h_4 => ?_)
        · skip
          refine lv_iload_n hx hb dJ6_numberOfLeadingZeros_0f7a4_61 rfl (lv_at hl 1 rfl) ?_
          refine lv_iconst (v := nI 4) hx hb dJ6_numberOfLeadingZeros_0f7a4_62 (by decide) ?_
          refine lv_icmp_lt (tgt := 73) hx hb dJ6_numberOfLeadingZeros_0f7a4_63 (by decide) (fun h_5 => ?_) (fun h_5 => ?_)
          · skip
            refine lv_iload_n hx hb dJ6_numberOfLeadingZeros_0f7a4_73 rfl (lv_at hl 0 rfl) ?_
            refine lv_iload_n hx hb dJ6_numberOfLeadingZeros_0f7a4_74 rfl (lv_at hl 1 rfl) ?_
            refine lv_iconst (v := nI 1) hx hb dJ6_numberOfLeadingZeros_0f7a4_75 (by decide) ?_
            refine lv_iushr (v := (x.toUInt32 >>> ((nI 1).toUInt32 &&& Int32.toUInt32 31)).toInt32) hx hb dJ6_numberOfLeadingZeros_0f7a4_76 (rfl) ?_
            refine lv_isub hx hb dJ6_numberOfLeadingZeros_0f7a4_77 ?_
            exact rt_ni (mu := (fun _ => False)) C0 rfl ⟨rfl, _, rfl⟩ hS rfl dJ6_numberOfLeadingZeros_0f7a4_78
          · skip
            refine lv_iinc (v := (nI 31) + (-2)) (lv' := [(1, .int ((nI 31) + (-2))), (0, .int x)]) hx hb dJ6_numberOfLeadingZeros_0f7a4_66 hl (k := 0) rfl (rfl) (by decide) rfl (fun ls hl => ?_)
            refine lv_iload_n hx hb dJ6_numberOfLeadingZeros_0f7a4_69 rfl (lv_at hl 1 rfl) ?_
            refine lv_iconst (v := nI 2) hx hb dJ6_numberOfLeadingZeros_0f7a4_70 (by decide) ?_
            refine lv_iushr (v := (x.toUInt32 >>> ((nI 2).toUInt32 &&& Int32.toUInt32 31)).toInt32) hx hb dJ6_numberOfLeadingZeros_0f7a4_71 (rfl) ?_
            obtain ⟨y_6, hy_6⟩ : ∃ z : Int32, (x.toUInt32 >>> ((nI 2).toUInt32 &&& Int32.toUInt32 31)).toInt32 = z := ⟨_, rfl⟩
            refine tp_i (y := y_6) (hy_6) ?_
            refine lv_istore_n (lv' := [(0, .int y_6), (1, .int ((nI 31) + (-2)))]) hx hb dJ6_numberOfLeadingZeros_0f7a4_72 rfl hl (by decide) rfl (fun ls hl => ?_)
            refine lv_iload_n hx hb dJ6_numberOfLeadingZeros_0f7a4_73 rfl (lv_at hl 1 rfl) ?_
            refine lv_iload_n hx hb dJ6_numberOfLeadingZeros_0f7a4_74 rfl (lv_at hl 0 rfl) ?_
            refine lv_iconst (v := nI 1) hx hb dJ6_numberOfLeadingZeros_0f7a4_75 (by decide) ?_
            refine lv_iushr (v := (y_6.toUInt32 >>> ((nI 1).toUInt32 &&& Int32.toUInt32 31)).toInt32) hx hb dJ6_numberOfLeadingZeros_0f7a4_76 (rfl) ?_
            refine lv_isub hx hb dJ6_numberOfLeadingZeros_0f7a4_77 ?_
            exact rt_ni (mu := (fun _ => False)) C0 rfl ⟨rfl, _, rfl⟩ hS rfl dJ6_numberOfLeadingZeros_0f7a4_78
        · skip
          refine lv_iinc (v := (nI 31) + (-4)) (lv' := [(1, .int ((nI 31) + (-4))), (0, .int x)]) hx hb dJ6_numberOfLeadingZeros_0f7a4_54 hl (k := 0) rfl (rfl) (by decide) rfl (fun ls hl => ?_)
          refine lv_iload_n hx hb dJ6_numberOfLeadingZeros_0f7a4_57 rfl (lv_at hl 1 rfl) ?_
          refine lv_iconst (v := nI 4) hx hb dJ6_numberOfLeadingZeros_0f7a4_58 (by decide) ?_
          refine lv_iushr (v := (x.toUInt32 >>> ((nI 4).toUInt32 &&& Int32.toUInt32 31)).toInt32) hx hb dJ6_numberOfLeadingZeros_0f7a4_59 (rfl) ?_
          obtain ⟨y_7, hy_7⟩ : ∃ z : Int32, (x.toUInt32 >>> ((nI 4).toUInt32 &&& Int32.toUInt32 31)).toInt32 = z := ⟨_, rfl⟩
          refine tp_i (y := y_7) (hy_7) ?_
          refine lv_istore_n (lv' := [(0, .int y_7), (1, .int ((nI 31) + (-4)))]) hx hb dJ6_numberOfLeadingZeros_0f7a4_60 rfl hl (by decide) rfl (fun ls hl => ?_)
          refine lv_iload_n hx hb dJ6_numberOfLeadingZeros_0f7a4_61 rfl (lv_at hl 0 rfl) ?_
          refine lv_iconst (v := nI 4) hx hb dJ6_numberOfLeadingZeros_0f7a4_62 (by decide) ?_
          refine lv_icmp_lt (tgt := 73) hx hb dJ6_numberOfLeadingZeros_0f7a4_63 (by decide) (fun h_8 => ?_) (fun h_8 => ?_)
          · skip
            refine lv_iload_n hx hb dJ6_numberOfLeadingZeros_0f7a4_73 rfl (lv_at hl 1 rfl) ?_
            refine lv_iload_n hx hb dJ6_numberOfLeadingZeros_0f7a4_74 rfl (lv_at hl 0 rfl) ?_
            refine lv_iconst (v := nI 1) hx hb dJ6_numberOfLeadingZeros_0f7a4_75 (by decide) ?_
            refine lv_iushr (v := (y_7.toUInt32 >>> ((nI 1).toUInt32 &&& Int32.toUInt32 31)).toInt32) hx hb dJ6_numberOfLeadingZeros_0f7a4_76 (rfl) ?_
            refine lv_isub hx hb dJ6_numberOfLeadingZeros_0f7a4_77 ?_
            exact rt_ni (mu := (fun _ => False)) C0 rfl ⟨rfl, _, rfl⟩ hS rfl dJ6_numberOfLeadingZeros_0f7a4_78
          · skip
            refine lv_iinc (v := ((nI 31) + (-4)) + (-2)) (lv' := [(1, .int (((nI 31) + (-4)) + (-2))), (0, .int y_7)]) hx hb dJ6_numberOfLeadingZeros_0f7a4_66 hl (k := 1) rfl (rfl) (by decide) rfl (fun ls hl => ?_)
            refine lv_iload_n hx hb dJ6_numberOfLeadingZeros_0f7a4_69 rfl (lv_at hl 1 rfl) ?_
            refine lv_iconst (v := nI 2) hx hb dJ6_numberOfLeadingZeros_0f7a4_70 (by decide) ?_
            refine lv_iushr (v := (y_7.toUInt32 >>> ((nI 2).toUInt32 &&& Int32.toUInt32 31)).toInt32) hx hb dJ6_numberOfLeadingZeros_0f7a4_71 (rfl) ?_
            obtain ⟨y_9, hy_9⟩ : ∃ z : Int32, (y_7.toUInt32 >>> ((nI 2).toUInt32 &&& Int32.toUInt32 31)).toInt32 = z := ⟨_, rfl⟩
            refine tp_i (y := y_9) (hy_9) ?_
            refine lv_istore_n (lv' := [(0, .int y_9), (1, .int (((nI 31) + (-4)) + (-2)))]) hx hb dJ6_numberOfLeadingZeros_0f7a4_72 rfl hl (by decide) rfl (fun ls hl => ?_)
            refine lv_iload_n hx hb dJ6_numberOfLeadingZeros_0f7a4_73 rfl (lv_at hl 1 rfl) ?_
            refine lv_iload_n hx hb dJ6_numberOfLeadingZeros_0f7a4_74 rfl (lv_at hl 0 rfl) ?_
            refine lv_iconst (v := nI 1) hx hb dJ6_numberOfLeadingZeros_0f7a4_75 (by decide) ?_
            refine lv_iushr (v := (y_9.toUInt32 >>> ((nI 1).toUInt32 &&& Int32.toUInt32 31)).toInt32) hx hb dJ6_numberOfLeadingZeros_0f7a4_76 (rfl) ?_
            refine lv_isub hx hb dJ6_numberOfLeadingZeros_0f7a4_77 ?_
            exact rt_ni (mu := (fun _ => False)) C0 rfl ⟨rfl, _, rfl⟩ hS rfl dJ6_numberOfLeadingZeros_0f7a4_78
      · skip
        refine lv_iinc (v := (nI 31) + (-8)) (lv' := [(1, .int ((nI 31) + (-8))), (0, .int x)]) hx hb dJ6_numberOfLeadingZeros_0f7a4_40 hl (k := 0) rfl (rfl) (by decide) rfl (fun ls hl => ?_)
        refine lv_iload_n hx hb dJ6_numberOfLeadingZeros_0f7a4_43 rfl (lv_at hl 1 rfl) ?_
        refine lv_bipush (v := nI 8) hx hb dJ6_numberOfLeadingZeros_0f7a4_44 (by decide) ?_
        refine lv_iushr (v := (x.toUInt32 >>> ((nI 8).toUInt32 &&& Int32.toUInt32 31)).toInt32) hx hb dJ6_numberOfLeadingZeros_0f7a4_46 (rfl) ?_
        obtain ⟨y_10, hy_10⟩ : ∃ z : Int32, (x.toUInt32 >>> ((nI 8).toUInt32 &&& Int32.toUInt32 31)).toInt32 = z := ⟨_, rfl⟩
        refine tp_i (y := y_10) (hy_10) ?_
        refine lv_istore_n (lv' := [(0, .int y_10), (1, .int ((nI 31) + (-8)))]) hx hb dJ6_numberOfLeadingZeros_0f7a4_47 rfl hl (by decide) rfl (fun ls hl => ?_)
        refine lv_iload_n hx hb dJ6_numberOfLeadingZeros_0f7a4_48 rfl (lv_at hl 0 rfl) ?_
        refine lv_bipush (v := nI 16) hx hb dJ6_numberOfLeadingZeros_0f7a4_49 (by decide) ?_
        refine lv_icmp_lt (tgt := 61) hx hb dJ6_numberOfLeadingZeros_0f7a4_51 (by decide) (fun h_11 => ?_) (fun h_11 => ?_)
        · skip
          refine lv_iload_n hx hb dJ6_numberOfLeadingZeros_0f7a4_61 rfl (lv_at hl 0 rfl) ?_
          refine lv_iconst (v := nI 4) hx hb dJ6_numberOfLeadingZeros_0f7a4_62 (by decide) ?_
          refine lv_icmp_lt (tgt := 73) hx hb dJ6_numberOfLeadingZeros_0f7a4_63 (by decide) (fun h_12 => ?_) (fun h_12 => ?_)
          · skip
            refine lv_iload_n hx hb dJ6_numberOfLeadingZeros_0f7a4_73 rfl (lv_at hl 1 rfl) ?_
            refine lv_iload_n hx hb dJ6_numberOfLeadingZeros_0f7a4_74 rfl (lv_at hl 0 rfl) ?_
            refine lv_iconst (v := nI 1) hx hb dJ6_numberOfLeadingZeros_0f7a4_75 (by decide) ?_
            refine lv_iushr (v := (y_10.toUInt32 >>> ((nI 1).toUInt32 &&& Int32.toUInt32 31)).toInt32) hx hb dJ6_numberOfLeadingZeros_0f7a4_76 (rfl) ?_
            refine lv_isub hx hb dJ6_numberOfLeadingZeros_0f7a4_77 ?_
            exact rt_ni (mu := (fun _ => False)) C0 rfl ⟨rfl, _, rfl⟩ hS rfl dJ6_numberOfLeadingZeros_0f7a4_78
          · skip
            refine lv_iinc (v := ((nI 31) + (-8)) + (-2)) (lv' := [(1, .int (((nI 31) + (-8)) + (-2))), (0, .int y_10)]) hx hb dJ6_numberOfLeadingZeros_0f7a4_66 hl (k := 1) rfl (rfl) (by decide) rfl (fun ls hl => ?_)
            refine lv_iload_n hx hb dJ6_numberOfLeadingZeros_0f7a4_69 rfl (lv_at hl 1 rfl) ?_
            refine lv_iconst (v := nI 2) hx hb dJ6_numberOfLeadingZeros_0f7a4_70 (by decide) ?_
            refine lv_iushr (v := (y_10.toUInt32 >>> ((nI 2).toUInt32 &&& Int32.toUInt32 31)).toInt32) hx hb dJ6_numberOfLeadingZeros_0f7a4_71 (rfl) ?_
            obtain ⟨y_13, hy_13⟩ : ∃ z : Int32, (y_10.toUInt32 >>> ((nI 2).toUInt32 &&& Int32.toUInt32 31)).toInt32 = z := ⟨_, rfl⟩
            refine tp_i (y := y_13) (hy_13) ?_
            refine lv_istore_n (lv' := [(0, .int y_13), (1, .int (((nI 31) + (-8)) + (-2)))]) hx hb dJ6_numberOfLeadingZeros_0f7a4_72 rfl hl (by decide) rfl (fun ls hl => ?_)
            refine lv_iload_n hx hb dJ6_numberOfLeadingZeros_0f7a4_73 rfl (lv_at hl 1 rfl) ?_
            refine lv_iload_n hx hb dJ6_numberOfLeadingZeros_0f7a4_74 rfl (lv_at hl 0 rfl) ?_
            refine lv_iconst (v := nI 1) hx hb dJ6_numberOfLeadingZeros_0f7a4_75 (by decide) ?_
            refine lv_iushr (v := (y_13.toUInt32 >>> ((nI 1).toUInt32 &&& Int32.toUInt32 31)).toInt32) hx hb dJ6_numberOfLeadingZeros_0f7a4_76 (rfl) ?_
            refine lv_isub hx hb dJ6_numberOfLeadingZeros_0f7a4_77 ?_
            exact rt_ni (mu := (fun _ => False)) C0 rfl ⟨rfl, _, rfl⟩ hS rfl dJ6_numberOfLeadingZeros_0f7a4_78
        · skip
          refine lv_iinc (v := ((nI 31) + (-8)) + (-4)) (lv' := [(1, .int (((nI 31) + (-8)) + (-4))), (0, .int y_10)]) hx hb dJ6_numberOfLeadingZeros_0f7a4_54 hl (k := 1) rfl (rfl) (by decide) rfl (fun ls hl => ?_)
          refine lv_iload_n hx hb dJ6_numberOfLeadingZeros_0f7a4_57 rfl (lv_at hl 1 rfl) ?_
          refine lv_iconst (v := nI 4) hx hb dJ6_numberOfLeadingZeros_0f7a4_58 (by decide) ?_
          refine lv_iushr (v := (y_10.toUInt32 >>> ((nI 4).toUInt32 &&& Int32.toUInt32 31)).toInt32) hx hb dJ6_numberOfLeadingZeros_0f7a4_59 (rfl) ?_
          obtain ⟨y_14, hy_14⟩ : ∃ z : Int32, (y_10.toUInt32 >>> ((nI 4).toUInt32 &&& Int32.toUInt32 31)).toInt32 = z := ⟨_, rfl⟩
          refine tp_i (y := y_14) (hy_14) ?_
          refine lv_istore_n (lv' := [(0, .int y_14), (1, .int (((nI 31) + (-8)) + (-4)))]) hx hb dJ6_numberOfLeadingZeros_0f7a4_60 rfl hl (by decide) rfl (fun ls hl => ?_)
          refine lv_iload_n hx hb dJ6_numberOfLeadingZeros_0f7a4_61 rfl (lv_at hl 0 rfl) ?_
          refine lv_iconst (v := nI 4) hx hb dJ6_numberOfLeadingZeros_0f7a4_62 (by decide) ?_
          refine lv_icmp_lt (tgt := 73) hx hb dJ6_numberOfLeadingZeros_0f7a4_63 (by decide) (fun h_15 => ?_) (fun h_15 => ?_)
          · skip
            refine lv_iload_n hx hb dJ6_numberOfLeadingZeros_0f7a4_73 rfl (lv_at hl 1 rfl) ?_
            refine lv_iload_n hx hb dJ6_numberOfLeadingZeros_0f7a4_74 rfl (lv_at hl 0 rfl) ?_
            refine lv_iconst (v := nI 1) hx hb dJ6_numberOfLeadingZeros_0f7a4_75 (by decide) ?_
            refine lv_iushr (v := (y_14.toUInt32 >>> ((nI 1).toUInt32 &&& Int32.toUInt32 31)).toInt32) hx hb dJ6_numberOfLeadingZeros_0f7a4_76 (rfl) ?_
            refine lv_isub hx hb dJ6_numberOfLeadingZeros_0f7a4_77 ?_
            exact rt_ni (mu := (fun _ => False)) C0 rfl ⟨rfl, _, rfl⟩ hS rfl dJ6_numberOfLeadingZeros_0f7a4_78
          · skip
            refine lv_iinc (v := (((nI 31) + (-8)) + (-4)) + (-2)) (lv' := [(1, .int ((((nI 31) + (-8)) + (-4)) + (-2))), (0, .int y_14)]) hx hb dJ6_numberOfLeadingZeros_0f7a4_66 hl (k := 1) rfl (rfl) (by decide) rfl (fun ls hl => ?_)
            refine lv_iload_n hx hb dJ6_numberOfLeadingZeros_0f7a4_69 rfl (lv_at hl 1 rfl) ?_
            refine lv_iconst (v := nI 2) hx hb dJ6_numberOfLeadingZeros_0f7a4_70 (by decide) ?_
            refine lv_iushr (v := (y_14.toUInt32 >>> ((nI 2).toUInt32 &&& Int32.toUInt32 31)).toInt32) hx hb dJ6_numberOfLeadingZeros_0f7a4_71 (rfl) ?_
            obtain ⟨y_16, hy_16⟩ : ∃ z : Int32, (y_14.toUInt32 >>> ((nI 2).toUInt32 &&& Int32.toUInt32 31)).toInt32 = z := ⟨_, rfl⟩
            refine tp_i (y := y_16) (hy_16) ?_
            refine lv_istore_n (lv' := [(0, .int y_16), (1, .int ((((nI 31) + (-8)) + (-4)) + (-2)))]) hx hb dJ6_numberOfLeadingZeros_0f7a4_72 rfl hl (by decide) rfl (fun ls hl => ?_)
            refine lv_iload_n hx hb dJ6_numberOfLeadingZeros_0f7a4_73 rfl (lv_at hl 1 rfl) ?_
            refine lv_iload_n hx hb dJ6_numberOfLeadingZeros_0f7a4_74 rfl (lv_at hl 0 rfl) ?_
            refine lv_iconst (v := nI 1) hx hb dJ6_numberOfLeadingZeros_0f7a4_75 (by decide) ?_
            refine lv_iushr (v := (y_16.toUInt32 >>> ((nI 1).toUInt32 &&& Int32.toUInt32 31)).toInt32) hx hb dJ6_numberOfLeadingZeros_0f7a4_76 (rfl) ?_
            refine lv_isub hx hb dJ6_numberOfLeadingZeros_0f7a4_77 ?_
            exact rt_ni (mu := (fun _ => False)) C0 rfl ⟨rfl, _, rfl⟩ hS rfl dJ6_numberOfLeadingZeros_0f7a4_78
    · skip
      refine lv_iinc (v := (nI 31) + (-16)) (lv' := [(1, .int ((nI 31) + (-16))), (0, .int x)]) hx hb dJ6_numberOfLeadingZeros_0f7a4_25 hl (k := 0) rfl (rfl) (by decide) rfl (fun ls hl => ?_)
      refine lv_iload_n hx hb dJ6_numberOfLeadingZeros_0f7a4_28 rfl (lv_at hl 1 rfl) ?_
      refine lv_bipush (v := nI 16) hx hb dJ6_numberOfLeadingZeros_0f7a4_29 (by decide) ?_
      refine lv_iushr (v := (x.toUInt32 >>> ((nI 16).toUInt32 &&& Int32.toUInt32 31)).toInt32) hx hb dJ6_numberOfLeadingZeros_0f7a4_31 (rfl) ?_
      obtain ⟨y_17, hy_17⟩ : ∃ z : Int32, (x.toUInt32 >>> ((nI 16).toUInt32 &&& Int32.toUInt32 31)).toInt32 = z := ⟨_, rfl⟩
      refine tp_i (y := y_17) (hy_17) ?_
      refine lv_istore_n (lv' := [(0, .int y_17), (1, .int ((nI 31) + (-16)))]) hx hb dJ6_numberOfLeadingZeros_0f7a4_32 rfl hl (by decide) rfl (fun ls hl => ?_)
      refine lv_iload_n hx hb dJ6_numberOfLeadingZeros_0f7a4_33 rfl (lv_at hl 0 rfl) ?_
      refine lv_sipush (v := nI 256) hx hb dJ6_numberOfLeadingZeros_0f7a4_34 (by decide) ?_
      refine lv_icmp_lt (tgt := 48) hx hb dJ6_numberOfLeadingZeros_0f7a4_37 (by decide) (fun h_18 => ?_) (fun h_18 => ?_)
      · skip
        refine lv_iload_n hx hb dJ6_numberOfLeadingZeros_0f7a4_48 rfl (lv_at hl 0 rfl) ?_
        refine lv_bipush (v := nI 16) hx hb dJ6_numberOfLeadingZeros_0f7a4_49 (by decide) ?_
        refine lv_icmp_lt (tgt := 61) hx hb dJ6_numberOfLeadingZeros_0f7a4_51 (by decide) (fun h_19 => ?_) (fun h_19 => ?_)
        · skip
          refine lv_iload_n hx hb dJ6_numberOfLeadingZeros_0f7a4_61 rfl (lv_at hl 0 rfl) ?_
          refine lv_iconst (v := nI 4) hx hb dJ6_numberOfLeadingZeros_0f7a4_62 (by decide) ?_
          refine lv_icmp_lt (tgt := 73) hx hb dJ6_numberOfLeadingZeros_0f7a4_63 (by decide) (fun h_20 => ?_) (fun h_20 => ?_)
          · skip
            refine lv_iload_n hx hb dJ6_numberOfLeadingZeros_0f7a4_73 rfl (lv_at hl 1 rfl) ?_
            refine lv_iload_n hx hb dJ6_numberOfLeadingZeros_0f7a4_74 rfl (lv_at hl 0 rfl) ?_
            refine lv_iconst (v := nI 1) hx hb dJ6_numberOfLeadingZeros_0f7a4_75 (by decide) ?_
            refine lv_iushr (v := (y_17.toUInt32 >>> ((nI 1).toUInt32 &&& Int32.toUInt32 31)).toInt32) hx hb dJ6_numberOfLeadingZeros_0f7a4_76 (rfl) ?_
            refine lv_isub hx hb dJ6_numberOfLeadingZeros_0f7a4_77 ?_
            exact rt_ni (mu := (fun _ => False)) C0 rfl ⟨rfl, _, rfl⟩ hS rfl dJ6_numberOfLeadingZeros_0f7a4_78
          · skip
            refine lv_iinc (v := ((nI 31) + (-16)) + (-2)) (lv' := [(1, .int (((nI 31) + (-16)) + (-2))), (0, .int y_17)]) hx hb dJ6_numberOfLeadingZeros_0f7a4_66 hl (k := 1) rfl (rfl) (by decide) rfl (fun ls hl => ?_)
            refine lv_iload_n hx hb dJ6_numberOfLeadingZeros_0f7a4_69 rfl (lv_at hl 1 rfl) ?_
            refine lv_iconst (v := nI 2) hx hb dJ6_numberOfLeadingZeros_0f7a4_70 (by decide) ?_
            refine lv_iushr (v := (y_17.toUInt32 >>> ((nI 2).toUInt32 &&& Int32.toUInt32 31)).toInt32) hx hb dJ6_numberOfLeadingZeros_0f7a4_71 (rfl) ?_
            obtain ⟨y_21, hy_21⟩ : ∃ z : Int32, (y_17.toUInt32 >>> ((nI 2).toUInt32 &&& Int32.toUInt32 31)).toInt32 = z := ⟨_, rfl⟩
            refine tp_i (y := y_21) (hy_21) ?_
            refine lv_istore_n (lv' := [(0, .int y_21), (1, .int (((nI 31) + (-16)) + (-2)))]) hx hb dJ6_numberOfLeadingZeros_0f7a4_72 rfl hl (by decide) rfl (fun ls hl => ?_)
            refine lv_iload_n hx hb dJ6_numberOfLeadingZeros_0f7a4_73 rfl (lv_at hl 1 rfl) ?_
            refine lv_iload_n hx hb dJ6_numberOfLeadingZeros_0f7a4_74 rfl (lv_at hl 0 rfl) ?_
            refine lv_iconst (v := nI 1) hx hb dJ6_numberOfLeadingZeros_0f7a4_75 (by decide) ?_
            refine lv_iushr (v := (y_21.toUInt32 >>> ((nI 1).toUInt32 &&& Int32.toUInt32 31)).toInt32) hx hb dJ6_numberOfLeadingZeros_0f7a4_76 (rfl) ?_
            refine lv_isub hx hb dJ6_numberOfLeadingZeros_0f7a4_77 ?_
            exact rt_ni (mu := (fun _ => False)) C0 rfl ⟨rfl, _, rfl⟩ hS rfl dJ6_numberOfLeadingZeros_0f7a4_78
        · skip
          refine lv_iinc (v := ((nI 31) + (-16)) + (-4)) (lv' := [(1, .int (((nI 31) + (-16)) + (-4))), (0, .int y_17)]) hx hb dJ6_numberOfLeadingZeros_0f7a4_54 hl (k := 1) rfl (rfl) (by decide) rfl (fun ls hl => ?_)
          refine lv_iload_n hx hb dJ6_numberOfLeadingZeros_0f7a4_57 rfl (lv_at hl 1 rfl) ?_
          refine lv_iconst (v := nI 4) hx hb dJ6_numberOfLeadingZeros_0f7a4_58 (by decide) ?_
          refine lv_iushr (v := (y_17.toUInt32 >>> ((nI 4).toUInt32 &&& Int32.toUInt32 31)).toInt32) hx hb dJ6_numberOfLeadingZeros_0f7a4_59 (rfl) ?_
          obtain ⟨y_22, hy_22⟩ : ∃ z : Int32, (y_17.toUInt32 >>> ((nI 4).toUInt32 &&& Int32.toUInt32 31)).toInt32 = z := ⟨_, rfl⟩
          refine tp_i (y := y_22) (hy_22) ?_
          refine lv_istore_n (lv' := [(0, .int y_22), (1, .int (((nI 31) + (-16)) + (-4)))]) hx hb dJ6_numberOfLeadingZeros_0f7a4_60 rfl hl (by decide) rfl (fun ls hl => ?_)
          refine lv_iload_n hx hb dJ6_numberOfLeadingZeros_0f7a4_61 rfl (lv_at hl 0 rfl) ?_
          refine lv_iconst (v := nI 4) hx hb dJ6_numberOfLeadingZeros_0f7a4_62 (by decide) ?_
          refine lv_icmp_lt (tgt := 73) hx hb dJ6_numberOfLeadingZeros_0f7a4_63 (by decide) (fun h_23 => ?_) (fun h_23 => ?_)
          · skip
            refine lv_iload_n hx hb dJ6_numberOfLeadingZeros_0f7a4_73 rfl (lv_at hl 1 rfl) ?_
            refine lv_iload_n hx hb dJ6_numberOfLeadingZeros_0f7a4_74 rfl (lv_at hl 0 rfl) ?_
            refine lv_iconst (v := nI 1) hx hb dJ6_numberOfLeadingZeros_0f7a4_75 (by decide) ?_
            refine lv_iushr (v := (y_22.toUInt32 >>> ((nI 1).toUInt32 &&& Int32.toUInt32 31)).toInt32) hx hb dJ6_numberOfLeadingZeros_0f7a4_76 (rfl) ?_
            refine lv_isub hx hb dJ6_numberOfLeadingZeros_0f7a4_77 ?_
            exact rt_ni (mu := (fun _ => False)) C0 rfl ⟨rfl, _, rfl⟩ hS rfl dJ6_numberOfLeadingZeros_0f7a4_78
          · skip
            refine lv_iinc (v := (((nI 31) + (-16)) + (-4)) + (-2)) (lv' := [(1, .int ((((nI 31) + (-16)) + (-4)) + (-2))), (0, .int y_22)]) hx hb dJ6_numberOfLeadingZeros_0f7a4_66 hl (k := 1) rfl (rfl) (by decide) rfl (fun ls hl => ?_)
            refine lv_iload_n hx hb dJ6_numberOfLeadingZeros_0f7a4_69 rfl (lv_at hl 1 rfl) ?_
            refine lv_iconst (v := nI 2) hx hb dJ6_numberOfLeadingZeros_0f7a4_70 (by decide) ?_
            refine lv_iushr (v := (y_22.toUInt32 >>> ((nI 2).toUInt32 &&& Int32.toUInt32 31)).toInt32) hx hb dJ6_numberOfLeadingZeros_0f7a4_71 (rfl) ?_
            obtain ⟨y_24, hy_24⟩ : ∃ z : Int32, (y_22.toUInt32 >>> ((nI 2).toUInt32 &&& Int32.toUInt32 31)).toInt32 = z := ⟨_, rfl⟩
            refine tp_i (y := y_24) (hy_24) ?_
            refine lv_istore_n (lv' := [(0, .int y_24), (1, .int ((((nI 31) + (-16)) + (-4)) + (-2)))]) hx hb dJ6_numberOfLeadingZeros_0f7a4_72 rfl hl (by decide) rfl (fun ls hl => ?_)
            refine lv_iload_n hx hb dJ6_numberOfLeadingZeros_0f7a4_73 rfl (lv_at hl 1 rfl) ?_
            refine lv_iload_n hx hb dJ6_numberOfLeadingZeros_0f7a4_74 rfl (lv_at hl 0 rfl) ?_
            refine lv_iconst (v := nI 1) hx hb dJ6_numberOfLeadingZeros_0f7a4_75 (by decide) ?_
            refine lv_iushr (v := (y_24.toUInt32 >>> ((nI 1).toUInt32 &&& Int32.toUInt32 31)).toInt32) hx hb dJ6_numberOfLeadingZeros_0f7a4_76 (rfl) ?_
            refine lv_isub hx hb dJ6_numberOfLeadingZeros_0f7a4_77 ?_
            exact rt_ni (mu := (fun _ => False)) C0 rfl ⟨rfl, _, rfl⟩ hS rfl dJ6_numberOfLeadingZeros_0f7a4_78
      · skip
        refine lv_iinc (v := ((nI 31) + (-16)) + (-8)) (lv' := [(1, .int (((nI 31) + (-16)) + (-8))), (0, .int y_17)]) hx hb dJ6_numberOfLeadingZeros_0f7a4_40 hl (k := 1) rfl (rfl) (by decide) rfl (fun ls hl => ?_)
        refine lv_iload_n hx hb dJ6_numberOfLeadingZeros_0f7a4_43 rfl (lv_at hl 1 rfl) ?_
        refine lv_bipush (v := nI 8) hx hb dJ6_numberOfLeadingZeros_0f7a4_44 (by decide) ?_
        refine lv_iushr (v := (y_17.toUInt32 >>> ((nI 8).toUInt32 &&& Int32.toUInt32 31)).toInt32) hx hb dJ6_numberOfLeadingZeros_0f7a4_46 (rfl) ?_
        obtain ⟨y_25, hy_25⟩ : ∃ z : Int32, (y_17.toUInt32 >>> ((nI 8).toUInt32 &&& Int32.toUInt32 31)).toInt32 = z := ⟨_, rfl⟩
        refine tp_i (y := y_25) (hy_25) ?_
        refine lv_istore_n (lv' := [(0, .int y_25), (1, .int (((nI 31) + (-16)) + (-8)))]) hx hb dJ6_numberOfLeadingZeros_0f7a4_47 rfl hl (by decide) rfl (fun ls hl => ?_)
        refine lv_iload_n hx hb dJ6_numberOfLeadingZeros_0f7a4_48 rfl (lv_at hl 0 rfl) ?_
        refine lv_bipush (v := nI 16) hx hb dJ6_numberOfLeadingZeros_0f7a4_49 (by decide) ?_
        refine lv_icmp_lt (tgt := 61) hx hb dJ6_numberOfLeadingZeros_0f7a4_51 (by decide) (fun h_26 => ?_) (fun h_26 => ?_)
        · skip
          refine lv_iload_n hx hb dJ6_numberOfLeadingZeros_0f7a4_61 rfl (lv_at hl 0 rfl) ?_
          refine lv_iconst (v := nI 4) hx hb dJ6_numberOfLeadingZeros_0f7a4_62 (by decide) ?_
          refine lv_icmp_lt (tgt := 73) hx hb dJ6_numberOfLeadingZeros_0f7a4_63 (by decide) (fun h_27 => ?_) (fun h_27 => ?_)
          · skip
            refine lv_iload_n hx hb dJ6_numberOfLeadingZeros_0f7a4_73 rfl (lv_at hl 1 rfl) ?_
            refine lv_iload_n hx hb dJ6_numberOfLeadingZeros_0f7a4_74 rfl (lv_at hl 0 rfl) ?_
            refine lv_iconst (v := nI 1) hx hb dJ6_numberOfLeadingZeros_0f7a4_75 (by decide) ?_
            refine lv_iushr (v := (y_25.toUInt32 >>> ((nI 1).toUInt32 &&& Int32.toUInt32 31)).toInt32) hx hb dJ6_numberOfLeadingZeros_0f7a4_76 (rfl) ?_
            refine lv_isub hx hb dJ6_numberOfLeadingZeros_0f7a4_77 ?_
            exact rt_ni (mu := (fun _ => False)) C0 rfl ⟨rfl, _, rfl⟩ hS rfl dJ6_numberOfLeadingZeros_0f7a4_78
          · skip
            refine lv_iinc (v := (((nI 31) + (-16)) + (-8)) + (-2)) (lv' := [(1, .int ((((nI 31) + (-16)) + (-8)) + (-2))), (0, .int y_25)]) hx hb dJ6_numberOfLeadingZeros_0f7a4_66 hl (k := 1) rfl (rfl) (by decide) rfl (fun ls hl => ?_)
            refine lv_iload_n hx hb dJ6_numberOfLeadingZeros_0f7a4_69 rfl (lv_at hl 1 rfl) ?_
            refine lv_iconst (v := nI 2) hx hb dJ6_numberOfLeadingZeros_0f7a4_70 (by decide) ?_
            refine lv_iushr (v := (y_25.toUInt32 >>> ((nI 2).toUInt32 &&& Int32.toUInt32 31)).toInt32) hx hb dJ6_numberOfLeadingZeros_0f7a4_71 (rfl) ?_
            obtain ⟨y_28, hy_28⟩ : ∃ z : Int32, (y_25.toUInt32 >>> ((nI 2).toUInt32 &&& Int32.toUInt32 31)).toInt32 = z := ⟨_, rfl⟩
            refine tp_i (y := y_28) (hy_28) ?_
            refine lv_istore_n (lv' := [(0, .int y_28), (1, .int ((((nI 31) + (-16)) + (-8)) + (-2)))]) hx hb dJ6_numberOfLeadingZeros_0f7a4_72 rfl hl (by decide) rfl (fun ls hl => ?_)
            refine lv_iload_n hx hb dJ6_numberOfLeadingZeros_0f7a4_73 rfl (lv_at hl 1 rfl) ?_
            refine lv_iload_n hx hb dJ6_numberOfLeadingZeros_0f7a4_74 rfl (lv_at hl 0 rfl) ?_
            refine lv_iconst (v := nI 1) hx hb dJ6_numberOfLeadingZeros_0f7a4_75 (by decide) ?_
            refine lv_iushr (v := (y_28.toUInt32 >>> ((nI 1).toUInt32 &&& Int32.toUInt32 31)).toInt32) hx hb dJ6_numberOfLeadingZeros_0f7a4_76 (rfl) ?_
            refine lv_isub hx hb dJ6_numberOfLeadingZeros_0f7a4_77 ?_
            exact rt_ni (mu := (fun _ => False)) C0 rfl ⟨rfl, _, rfl⟩ hS rfl dJ6_numberOfLeadingZeros_0f7a4_78
        · skip
          refine lv_iinc (v := (((nI 31) + (-16)) + (-8)) + (-4)) (lv' := [(1, .int ((((nI 31) + (-16)) + (-8)) + (-4))), (0, .int y_25)]) hx hb dJ6_numberOfLeadingZeros_0f7a4_54 hl (k := 1) rfl (rfl) (by decide) rfl (fun ls hl => ?_)
          refine lv_iload_n hx hb dJ6_numberOfLeadingZeros_0f7a4_57 rfl (lv_at hl 1 rfl) ?_
          refine lv_iconst (v := nI 4) hx hb dJ6_numberOfLeadingZeros_0f7a4_58 (by decide) ?_
          refine lv_iushr (v := (y_25.toUInt32 >>> ((nI 4).toUInt32 &&& Int32.toUInt32 31)).toInt32) hx hb dJ6_numberOfLeadingZeros_0f7a4_59 (rfl) ?_
          obtain ⟨y_29, hy_29⟩ : ∃ z : Int32, (y_25.toUInt32 >>> ((nI 4).toUInt32 &&& Int32.toUInt32 31)).toInt32 = z := ⟨_, rfl⟩
          refine tp_i (y := y_29) (hy_29) ?_
          refine lv_istore_n (lv' := [(0, .int y_29), (1, .int ((((nI 31) + (-16)) + (-8)) + (-4)))]) hx hb dJ6_numberOfLeadingZeros_0f7a4_60 rfl hl (by decide) rfl (fun ls hl => ?_)
          refine lv_iload_n hx hb dJ6_numberOfLeadingZeros_0f7a4_61 rfl (lv_at hl 0 rfl) ?_
          refine lv_iconst (v := nI 4) hx hb dJ6_numberOfLeadingZeros_0f7a4_62 (by decide) ?_
          refine lv_icmp_lt (tgt := 73) hx hb dJ6_numberOfLeadingZeros_0f7a4_63 (by decide) (fun h_30 => ?_) (fun h_30 => ?_)
          · skip
            refine lv_iload_n hx hb dJ6_numberOfLeadingZeros_0f7a4_73 rfl (lv_at hl 1 rfl) ?_
            refine lv_iload_n hx hb dJ6_numberOfLeadingZeros_0f7a4_74 rfl (lv_at hl 0 rfl) ?_
            refine lv_iconst (v := nI 1) hx hb dJ6_numberOfLeadingZeros_0f7a4_75 (by decide) ?_
            refine lv_iushr (v := (y_29.toUInt32 >>> ((nI 1).toUInt32 &&& Int32.toUInt32 31)).toInt32) hx hb dJ6_numberOfLeadingZeros_0f7a4_76 (rfl) ?_
            refine lv_isub hx hb dJ6_numberOfLeadingZeros_0f7a4_77 ?_
            exact rt_ni (mu := (fun _ => False)) C0 rfl ⟨rfl, _, rfl⟩ hS rfl dJ6_numberOfLeadingZeros_0f7a4_78
          · skip
            refine lv_iinc (v := ((((nI 31) + (-16)) + (-8)) + (-4)) + (-2)) (lv' := [(1, .int (((((nI 31) + (-16)) + (-8)) + (-4)) + (-2))), (0, .int y_29)]) hx hb dJ6_numberOfLeadingZeros_0f7a4_66 hl (k := 1) rfl (rfl) (by decide) rfl (fun ls hl => ?_)
            refine lv_iload_n hx hb dJ6_numberOfLeadingZeros_0f7a4_69 rfl (lv_at hl 1 rfl) ?_
            refine lv_iconst (v := nI 2) hx hb dJ6_numberOfLeadingZeros_0f7a4_70 (by decide) ?_
            refine lv_iushr (v := (y_29.toUInt32 >>> ((nI 2).toUInt32 &&& Int32.toUInt32 31)).toInt32) hx hb dJ6_numberOfLeadingZeros_0f7a4_71 (rfl) ?_
            obtain ⟨y_31, hy_31⟩ : ∃ z : Int32, (y_29.toUInt32 >>> ((nI 2).toUInt32 &&& Int32.toUInt32 31)).toInt32 = z := ⟨_, rfl⟩
            refine tp_i (y := y_31) (hy_31) ?_
            refine lv_istore_n (lv' := [(0, .int y_31), (1, .int (((((nI 31) + (-16)) + (-8)) + (-4)) + (-2)))]) hx hb dJ6_numberOfLeadingZeros_0f7a4_72 rfl hl (by decide) rfl (fun ls hl => ?_)
            refine lv_iload_n hx hb dJ6_numberOfLeadingZeros_0f7a4_73 rfl (lv_at hl 1 rfl) ?_
            refine lv_iload_n hx hb dJ6_numberOfLeadingZeros_0f7a4_74 rfl (lv_at hl 0 rfl) ?_
            refine lv_iconst (v := nI 1) hx hb dJ6_numberOfLeadingZeros_0f7a4_75 (by decide) ?_
            refine lv_iushr (v := (y_31.toUInt32 >>> ((nI 1).toUInt32 &&& Int32.toUInt32 31)).toInt32) hx hb dJ6_numberOfLeadingZeros_0f7a4_76 (rfl) ?_
            refine lv_isub hx hb dJ6_numberOfLeadingZeros_0f7a4_77 ?_
            exact rt_ni (mu := (fun _ => False)) C0 rfl ⟨rfl, _, rfl⟩ hS rfl dJ6_numberOfLeadingZeros_0f7a4_78
  · skip
    refine lv_iload_n hx hb dJ6_numberOfLeadingZeros_0f7a4_4 rfl (lv_at hl 0 rfl) ?_
    refine lv_if_ne (tgt := 13) hx hb dJ6_numberOfLeadingZeros_0f7a4_5 (by decide) (fun h_32 => ?_) (fun h_32 => ?_)
    · skip
      refine lv_iconst (v := nI 0) hx hb dJ6_numberOfLeadingZeros_0f7a4_13 (by decide) ?_
      exact rt_ni (mu := (fun _ => False)) C0 rfl ⟨rfl, _, rfl⟩ hS rfl dJ6_numberOfLeadingZeros_0f7a4_14
    · skip
      refine lv_bipush (v := nI 32) hx hb dJ6_numberOfLeadingZeros_0f7a4_8 (by decide) ?_
      refine lv_goto (tgt := 14) hx hb dJ6_numberOfLeadingZeros_0f7a4_10 (by decide) ?_
      exact rt_ni (mu := (fun _ => False)) C0 rfl ⟨rfl, _, rfl⟩ hS rfl dJ6_numberOfLeadingZeros_0f7a4_14
abbrev rmJ6_numberOfTrailingZeros_0f7a4 : Room := { frames := 0, cells := 0, slots := 0, locals := 0 }
set_option maxHeartbeats 4000000 in
set_option maxRecDepth 100000 in
theorem c_ntz32 (l : Launch) (g : Gx) (H0 : Heap) (x : Int32) : Met l yJ6_numberOfTrailingZeros_0f7a4 wsJ6_numberOfTrailingZeros_0f7a4 rmJ6_numberOfTrailingZeros_0f7a4 (va_Pc [.int x] (hB g H0)) (nQ H0 (fun _ => False) (fun r H1 => H0 = H1 ∧ ∃ rv : Int32, r = some (.int rv))) 0 0 (fun q => (fun _ => False) q ∨ H0.size ≤ q) := by
  refine cx_met (own := RJ6) (cc := cJ6_numberOfTrailingZeros_0f7a4) (maxL := 2) (by decide) rfl rfl (Nat.le_of_ble_eq_true rfl) ?_
  intro p e s m below meth c ls C0 hB0 hnm hl
  obtain ⟨hH, hK⟩ := hB0
  obtain ⟨hx, hb, hr, hml, hown, hts, hlk⟩ := id C0
  subst hH
  have hS : va_S (fun q => (fun _ => False) q ∨ s.heap.size ≤ q) s.heap s.heap [] := va_S.rf
  have hA : ∀ q : Nat, s.heap.size ≤ q → (fun q => (fun _ => False) q ∨ s.heap.size ≤ q) q := fun q h => Or.inr h
  have hl : lv_has ls 2 [(0, .int x)] := hl
  refine lv_iload_n hx hb dJ6_numberOfTrailingZeros_0f7a4_0 rfl (lv_at hl 0 rfl) ?_
  refine lv_iconst (v := (-1)) hx hb dJ6_numberOfTrailingZeros_0f7a4_1 (by decide) ?_
  refine lv_ixor hx hb dJ6_numberOfTrailingZeros_0f7a4_2 ?_
  refine lv_iload_n hx hb dJ6_numberOfTrailingZeros_0f7a4_3 rfl (lv_at hl 0 rfl) ?_
  refine lv_iconst (v := nI 1) hx hb dJ6_numberOfTrailingZeros_0f7a4_4 (by decide) ?_
  refine lv_isub hx hb dJ6_numberOfTrailingZeros_0f7a4_5 ?_
  refine lv_iand hx hb dJ6_numberOfTrailingZeros_0f7a4_6 ?_
  obtain ⟨y_1, hy_1⟩ : ∃ z : Int32, (x ^^^ (-1)) &&& (x - (nI 1)) = z := ⟨_, rfl⟩
  refine tp_i (y := y_1) (hy_1) ?_
  refine lv_istore_n (lv' := [(0, .int y_1)]) hx hb dJ6_numberOfTrailingZeros_0f7a4_7 rfl hl (by decide) rfl (fun ls hl => ?_)
  refine lv_iload_n hx hb dJ6_numberOfTrailingZeros_0f7a4_8 rfl (lv_at hl 0 rfl) ?_
  refine lv_if_gt (tgt := 17) hx hb dJ6_numberOfTrailingZeros_0f7a4_9 (by decide) (fun h_2 => ?_) (fun h_2 => ?_)
  · skip
    refine lv_iconst (v := nI 1) hx hb dJ6_numberOfTrailingZeros_0f7a4_17 (by decide) ?_
    refine lv_istore_n (lv' := [(1, .int (nI 1)), (0, .int y_1)]) hx hb dJ6_numberOfTrailingZeros_0f7a4_18 rfl hl (by decide) rfl (fun ls hl => ?_)
    refine lv_iload_n hx hb dJ6_numberOfTrailingZeros_0f7a4_19 rfl (lv_at hl 1 rfl) ?_
    refine lv_ldcw (v := nI 65536) hx hb hown (hts (.constant RJ6 264 (65536)) (by decide +kernel)) dJ6_numberOfTrailingZeros_0f7a4_20 ?_
    refine lv_icmp_le (tgt := 34) hx hb dJ6_numberOfTrailingZeros_0f7a4_23 (by decide) (fun h_3 => ?_) (fun h_3 => ?_)
    · skip
      refine lv_iload_n hx hb dJ6_numberOfTrailingZeros_0f7a4_34 rfl (lv_at hl 1 rfl) ?_
      refine lv_sipush (v := nI 256) hx hb dJ6_numberOfTrailingZeros_0f7a4_35 (by decide) ?_
      refine lv_icmp_le (tgt := 49) hx hb dJ6_numberOfTrailingZeros_0f7a4_38 (by decide) (fun h_4 => ?_) (fun h_4 => ?_)
      · skip
        refine lv_iload_n hx hb dJ6_numberOfTrailingZeros_0f7a4_49 rfl (lv_at hl 1 rfl) ?_
        refine lv_bipush (v := nI 16) hx hb dJ6_numberOfTrailingZeros_0f7a4_50 (by decide) ?_
        refine lv_icmp_le (tgt := 62) hx hb dJ6_numberOfTrailingZeros_0f7a4_52 (by decide) (fun h_5 => ?_) (fun h_5 => ?_)
        · skip
          refine lv_iload_n hx hb dJ6_numberOfTrailingZeros_0f7a4_62 rfl (lv_at hl 1 rfl) ?_
          refine lv_iconst (v := nI 4) hx hb dJ6_numberOfTrailingZeros_0f7a4_63 (by decide) ?_
          refine lv_icmp_le (tgt := 74) hx hb dJ6_numberOfTrailingZeros_0f7a4_64 (by decide) (fun h_6 => ?_) (fun h_6 => ?_)
          · skip
            refine lv_iload_n hx hb dJ6_numberOfTrailingZeros_0f7a4_74 rfl (lv_at hl 0 rfl) ?_
            refine lv_iload_n hx hb dJ6_numberOfTrailingZeros_0f7a4_75 rfl (lv_at hl 1 rfl) ?_
            refine lv_iconst (v := nI 1) hx hb dJ6_numberOfTrailingZeros_0f7a4_76 (by decide) ?_
            refine lv_iushr (v := (y_1.toUInt32 >>> ((nI 1).toUInt32 &&& Int32.toUInt32 31)).toInt32) hx hb dJ6_numberOfTrailingZeros_0f7a4_77 (rfl) ?_
            refine lv_iadd hx hb dJ6_numberOfTrailingZeros_0f7a4_78 ?_
            exact rt_ni (mu := (fun _ => False)) C0 rfl ⟨rfl, _, rfl⟩ hS rfl dJ6_numberOfTrailingZeros_0f7a4_79
          · skip
            refine lv_iinc (v := nI (1 + 2)) (lv' := [(1, .int (nI (1 + 2))), (0, .int y_1)]) hx hb dJ6_numberOfTrailingZeros_0f7a4_67 hl (k := 0) rfl (nI_add _ 2) (by decide) rfl (fun ls hl => ?_)
            refine lv_iload_n hx hb dJ6_numberOfTrailingZeros_0f7a4_70 rfl (lv_at hl 1 rfl) ?_
            refine lv_iconst (v := nI 2) hx hb dJ6_numberOfTrailingZeros_0f7a4_71 (by decide) ?_
            refine lv_iushr (v := (y_1.toUInt32 >>> ((nI 2).toUInt32 &&& Int32.toUInt32 31)).toInt32) hx hb dJ6_numberOfTrailingZeros_0f7a4_72 (rfl) ?_
            obtain ⟨y_7, hy_7⟩ : ∃ z : Int32, (y_1.toUInt32 >>> ((nI 2).toUInt32 &&& Int32.toUInt32 31)).toInt32 = z := ⟨_, rfl⟩
            refine tp_i (y := y_7) (hy_7) ?_
            refine lv_istore_n (lv' := [(0, .int y_7), (1, .int (nI (1 + 2)))]) hx hb dJ6_numberOfTrailingZeros_0f7a4_73 rfl hl (by decide) rfl (fun ls hl => ?_)
            refine lv_iload_n hx hb dJ6_numberOfTrailingZeros_0f7a4_74 rfl (lv_at hl 1 rfl) ?_
            refine lv_iload_n hx hb dJ6_numberOfTrailingZeros_0f7a4_75 rfl (lv_at hl 0 rfl) ?_
            refine lv_iconst (v := nI 1) hx hb dJ6_numberOfTrailingZeros_0f7a4_76 (by decide) ?_
            refine lv_iushr (v := (y_7.toUInt32 >>> ((nI 1).toUInt32 &&& Int32.toUInt32 31)).toInt32) hx hb dJ6_numberOfTrailingZeros_0f7a4_77 (rfl) ?_
            refine lv_iadd hx hb dJ6_numberOfTrailingZeros_0f7a4_78 ?_
            exact rt_ni (mu := (fun _ => False)) C0 rfl ⟨rfl, _, rfl⟩ hS rfl dJ6_numberOfTrailingZeros_0f7a4_79
        · skip
          refine lv_iinc (v := nI (1 + 4)) (lv' := [(1, .int (nI (1 + 4))), (0, .int y_1)]) hx hb dJ6_numberOfTrailingZeros_0f7a4_55 hl (k := 0) rfl (nI_add _ 4) (by decide) rfl (fun ls hl => ?_)
          refine lv_iload_n hx hb dJ6_numberOfTrailingZeros_0f7a4_58 rfl (lv_at hl 1 rfl) ?_
          refine lv_iconst (v := nI 4) hx hb dJ6_numberOfTrailingZeros_0f7a4_59 (by decide) ?_
          refine lv_iushr (v := (y_1.toUInt32 >>> ((nI 4).toUInt32 &&& Int32.toUInt32 31)).toInt32) hx hb dJ6_numberOfTrailingZeros_0f7a4_60 (rfl) ?_
          obtain ⟨y_8, hy_8⟩ : ∃ z : Int32, (y_1.toUInt32 >>> ((nI 4).toUInt32 &&& Int32.toUInt32 31)).toInt32 = z := ⟨_, rfl⟩
          refine tp_i (y := y_8) (hy_8) ?_
          refine lv_istore_n (lv' := [(0, .int y_8), (1, .int (nI (1 + 4)))]) hx hb dJ6_numberOfTrailingZeros_0f7a4_61 rfl hl (by decide) rfl (fun ls hl => ?_)
          refine lv_iload_n hx hb dJ6_numberOfTrailingZeros_0f7a4_62 rfl (lv_at hl 0 rfl) ?_
          refine lv_iconst (v := nI 4) hx hb dJ6_numberOfTrailingZeros_0f7a4_63 (by decide) ?_
          refine lv_icmp_le (tgt := 74) hx hb dJ6_numberOfTrailingZeros_0f7a4_64 (by decide) (fun h_9 => ?_) (fun h_9 => ?_)
          · skip
            refine lv_iload_n hx hb dJ6_numberOfTrailingZeros_0f7a4_74 rfl (lv_at hl 1 rfl) ?_
            refine lv_iload_n hx hb dJ6_numberOfTrailingZeros_0f7a4_75 rfl (lv_at hl 0 rfl) ?_
            refine lv_iconst (v := nI 1) hx hb dJ6_numberOfTrailingZeros_0f7a4_76 (by decide) ?_
            refine lv_iushr (v := (y_8.toUInt32 >>> ((nI 1).toUInt32 &&& Int32.toUInt32 31)).toInt32) hx hb dJ6_numberOfTrailingZeros_0f7a4_77 (rfl) ?_
            refine lv_iadd hx hb dJ6_numberOfTrailingZeros_0f7a4_78 ?_
            exact rt_ni (mu := (fun _ => False)) C0 rfl ⟨rfl, _, rfl⟩ hS rfl dJ6_numberOfTrailingZeros_0f7a4_79
          · skip
            refine lv_iinc (v := nI ((1 + 4) + 2)) (lv' := [(1, .int (nI ((1 + 4) + 2))), (0, .int y_8)]) hx hb dJ6_numberOfTrailingZeros_0f7a4_67 hl (k := 1) rfl (nI_add _ 2) (by decide) rfl (fun ls hl => ?_)
            refine lv_iload_n hx hb dJ6_numberOfTrailingZeros_0f7a4_70 rfl (lv_at hl 1 rfl) ?_
            refine lv_iconst (v := nI 2) hx hb dJ6_numberOfTrailingZeros_0f7a4_71 (by decide) ?_
            refine lv_iushr (v := (y_8.toUInt32 >>> ((nI 2).toUInt32 &&& Int32.toUInt32 31)).toInt32) hx hb dJ6_numberOfTrailingZeros_0f7a4_72 (rfl) ?_
            obtain ⟨y_10, hy_10⟩ : ∃ z : Int32, (y_8.toUInt32 >>> ((nI 2).toUInt32 &&& Int32.toUInt32 31)).toInt32 = z := ⟨_, rfl⟩
            refine tp_i (y := y_10) (hy_10) ?_
            refine lv_istore_n (lv' := [(0, .int y_10), (1, .int (nI ((1 + 4) + 2)))]) hx hb dJ6_numberOfTrailingZeros_0f7a4_73 rfl hl (by decide) rfl (fun ls hl => ?_)
            refine lv_iload_n hx hb dJ6_numberOfTrailingZeros_0f7a4_74 rfl (lv_at hl 1 rfl) ?_
            refine lv_iload_n hx hb dJ6_numberOfTrailingZeros_0f7a4_75 rfl (lv_at hl 0 rfl) ?_
            refine lv_iconst (v := nI 1) hx hb dJ6_numberOfTrailingZeros_0f7a4_76 (by decide) ?_
            refine lv_iushr (v := (y_10.toUInt32 >>> ((nI 1).toUInt32 &&& Int32.toUInt32 31)).toInt32) hx hb dJ6_numberOfTrailingZeros_0f7a4_77 (rfl) ?_
            refine lv_iadd hx hb dJ6_numberOfTrailingZeros_0f7a4_78 ?_
            exact rt_ni (mu := (fun _ => False)) C0 rfl ⟨rfl, _, rfl⟩ hS rfl dJ6_numberOfTrailingZeros_0f7a4_79
      · skip
        refine lv_iinc (v := nI (1 + 8)) (lv' := [(1, .int (nI (1 + 8))), (0, .int y_1)]) hx hb dJ6_numberOfTrailingZeros_0f7a4_41 hl (k := 0) rfl (nI_add _ 8) (by decide) rfl (fun ls hl => ?_)
        refine lv_iload_n hx hb dJ6_numberOfTrailingZeros_0f7a4_44 rfl (lv_at hl 1 rfl) ?_
        refine lv_bipush (v := nI 8) hx hb dJ6_numberOfTrailingZeros_0f7a4_45 (by decide) ?_
        refine lv_iushr (v := (y_1.toUInt32 >>> ((nI 8).toUInt32 &&& Int32.toUInt32 31)).toInt32) hx hb dJ6_numberOfTrailingZeros_0f7a4_47 (rfl) ?_
        obtain ⟨y_11, hy_11⟩ : ∃ z : Int32, (y_1.toUInt32 >>> ((nI 8).toUInt32 &&& Int32.toUInt32 31)).toInt32 = z := ⟨_, rfl⟩
        refine tp_i (y := y_11) (hy_11) ?_
        refine lv_istore_n (lv' := [(0, .int y_11), (1, .int (nI (1 + 8)))]) hx hb dJ6_numberOfTrailingZeros_0f7a4_48 rfl hl (by decide) rfl (fun ls hl => ?_)
        refine lv_iload_n hx hb dJ6_numberOfTrailingZeros_0f7a4_49 rfl (lv_at hl 0 rfl) ?_
        refine lv_bipush (v := nI 16) hx hb dJ6_numberOfTrailingZeros_0f7a4_50 (by decide) ?_
        refine lv_icmp_le (tgt := 62) hx hb dJ6_numberOfTrailingZeros_0f7a4_52 (by decide) (fun h_12 => ?_) (fun h_12 => ?_)
        · skip
          refine lv_iload_n hx hb dJ6_numberOfTrailingZeros_0f7a4_62 rfl (lv_at hl 0 rfl) ?_
          refine lv_iconst (v := nI 4) hx hb dJ6_numberOfTrailingZeros_0f7a4_63 (by decide) ?_
          refine lv_icmp_le (tgt := 74) hx hb dJ6_numberOfTrailingZeros_0f7a4_64 (by decide) (fun h_13 => ?_) (fun h_13 => ?_)
          · skip
            refine lv_iload_n hx hb dJ6_numberOfTrailingZeros_0f7a4_74 rfl (lv_at hl 1 rfl) ?_
            refine lv_iload_n hx hb dJ6_numberOfTrailingZeros_0f7a4_75 rfl (lv_at hl 0 rfl) ?_
            refine lv_iconst (v := nI 1) hx hb dJ6_numberOfTrailingZeros_0f7a4_76 (by decide) ?_
            refine lv_iushr (v := (y_11.toUInt32 >>> ((nI 1).toUInt32 &&& Int32.toUInt32 31)).toInt32) hx hb dJ6_numberOfTrailingZeros_0f7a4_77 (rfl) ?_
            refine lv_iadd hx hb dJ6_numberOfTrailingZeros_0f7a4_78 ?_
            exact rt_ni (mu := (fun _ => False)) C0 rfl ⟨rfl, _, rfl⟩ hS rfl dJ6_numberOfTrailingZeros_0f7a4_79
          · skip
            refine lv_iinc (v := nI ((1 + 8) + 2)) (lv' := [(1, .int (nI ((1 + 8) + 2))), (0, .int y_11)]) hx hb dJ6_numberOfTrailingZeros_0f7a4_67 hl (k := 1) rfl (nI_add _ 2) (by decide) rfl (fun ls hl => ?_)
            refine lv_iload_n hx hb dJ6_numberOfTrailingZeros_0f7a4_70 rfl (lv_at hl 1 rfl) ?_
            refine lv_iconst (v := nI 2) hx hb dJ6_numberOfTrailingZeros_0f7a4_71 (by decide) ?_
            refine lv_iushr (v := (y_11.toUInt32 >>> ((nI 2).toUInt32 &&& Int32.toUInt32 31)).toInt32) hx hb dJ6_numberOfTrailingZeros_0f7a4_72 (rfl) ?_
            obtain ⟨y_14, hy_14⟩ : ∃ z : Int32, (y_11.toUInt32 >>> ((nI 2).toUInt32 &&& Int32.toUInt32 31)).toInt32 = z := ⟨_, rfl⟩
            refine tp_i (y := y_14) (hy_14) ?_
            refine lv_istore_n (lv' := [(0, .int y_14), (1, .int (nI ((1 + 8) + 2)))]) hx hb dJ6_numberOfTrailingZeros_0f7a4_73 rfl hl (by decide) rfl (fun ls hl => ?_)
            refine lv_iload_n hx hb dJ6_numberOfTrailingZeros_0f7a4_74 rfl (lv_at hl 1 rfl) ?_
            refine lv_iload_n hx hb dJ6_numberOfTrailingZeros_0f7a4_75 rfl (lv_at hl 0 rfl) ?_
            refine lv_iconst (v := nI 1) hx hb dJ6_numberOfTrailingZeros_0f7a4_76 (by decide) ?_
            refine lv_iushr (v := (y_14.toUInt32 >>> ((nI 1).toUInt32 &&& Int32.toUInt32 31)).toInt32) hx hb dJ6_numberOfTrailingZeros_0f7a4_77 (rfl) ?_
            refine lv_iadd hx hb dJ6_numberOfTrailingZeros_0f7a4_78 ?_
            exact rt_ni (mu := (fun _ => False)) C0 rfl ⟨rfl, _, rfl⟩ hS rfl dJ6_numberOfTrailingZeros_0f7a4_79
        · skip
          refine lv_iinc (v := nI ((1 + 8) + 4)) (lv' := [(1, .int (nI ((1 + 8) + 4))), (0, .int y_11)]) hx hb dJ6_numberOfTrailingZeros_0f7a4_55 hl (k := 1) rfl (nI_add _ 4) (by decide) rfl (fun ls hl => ?_)
          refine lv_iload_n hx hb dJ6_numberOfTrailingZeros_0f7a4_58 rfl (lv_at hl 1 rfl) ?_
          refine lv_iconst (v := nI 4) hx hb dJ6_numberOfTrailingZeros_0f7a4_59 (by decide) ?_
          refine lv_iushr (v := (y_11.toUInt32 >>> ((nI 4).toUInt32 &&& Int32.toUInt32 31)).toInt32) hx hb dJ6_numberOfTrailingZeros_0f7a4_60 (rfl) ?_
          obtain ⟨y_15, hy_15⟩ : ∃ z : Int32, (y_11.toUInt32 >>> ((nI 4).toUInt32 &&& Int32.toUInt32 31)).toInt32 = z := ⟨_, rfl⟩
          refine tp_i (y := y_15) (hy_15) ?_
          refine lv_istore_n (lv' := [(0, .int y_15), (1, .int (nI ((1 + 8) + 4)))]) hx hb dJ6_numberOfTrailingZeros_0f7a4_61 rfl hl (by decide) rfl (fun ls hl => ?_)
          refine lv_iload_n hx hb dJ6_numberOfTrailingZeros_0f7a4_62 rfl (lv_at hl 0 rfl) ?_
          refine lv_iconst (v := nI 4) hx hb dJ6_numberOfTrailingZeros_0f7a4_63 (by decide) ?_
          refine lv_icmp_le (tgt := 74) hx hb dJ6_numberOfTrailingZeros_0f7a4_64 (by decide) (fun h_16 => ?_) (fun h_16 => ?_)
          · skip
            refine lv_iload_n hx hb dJ6_numberOfTrailingZeros_0f7a4_74 rfl (lv_at hl 1 rfl) ?_
            refine lv_iload_n hx hb dJ6_numberOfTrailingZeros_0f7a4_75 rfl (lv_at hl 0 rfl) ?_
            refine lv_iconst (v := nI 1) hx hb dJ6_numberOfTrailingZeros_0f7a4_76 (by decide) ?_
            refine lv_iushr (v := (y_15.toUInt32 >>> ((nI 1).toUInt32 &&& Int32.toUInt32 31)).toInt32) hx hb dJ6_numberOfTrailingZeros_0f7a4_77 (rfl) ?_
            refine lv_iadd hx hb dJ6_numberOfTrailingZeros_0f7a4_78 ?_
            exact rt_ni (mu := (fun _ => False)) C0 rfl ⟨rfl, _, rfl⟩ hS rfl dJ6_numberOfTrailingZeros_0f7a4_79
          · skip
            refine lv_iinc (v := nI (((1 + 8) + 4) + 2)) (lv' := [(1, .int (nI (((1 + 8) + 4) + 2))), (0, .int y_15)]) hx hb dJ6_numberOfTrailingZeros_0f7a4_67 hl (k := 1) rfl (nI_add _ 2) (by decide) rfl (fun ls hl => ?_)
            refine lv_iload_n hx hb dJ6_numberOfTrailingZeros_0f7a4_70 rfl (lv_at hl 1 rfl) ?_
            refine lv_iconst (v := nI 2) hx hb dJ6_numberOfTrailingZeros_0f7a4_71 (by decide) ?_
            refine lv_iushr (v := (y_15.toUInt32 >>> ((nI 2).toUInt32 &&& Int32.toUInt32 31)).toInt32) hx hb dJ6_numberOfTrailingZeros_0f7a4_72 (rfl) ?_
            obtain ⟨y_17, hy_17⟩ : ∃ z : Int32, (y_15.toUInt32 >>> ((nI 2).toUInt32 &&& Int32.toUInt32 31)).toInt32 = z := ⟨_, rfl⟩
            refine tp_i (y := y_17) (hy_17) ?_
            refine lv_istore_n (lv' := [(0, .int y_17), (1, .int (nI (((1 + 8) + 4) + 2)))]) hx hb dJ6_numberOfTrailingZeros_0f7a4_73 rfl hl (by decide) rfl (fun ls hl => ?_)
            refine lv_iload_n hx hb dJ6_numberOfTrailingZeros_0f7a4_74 rfl (lv_at hl 1 rfl) ?_
            refine lv_iload_n hx hb dJ6_numberOfTrailingZeros_0f7a4_75 rfl (lv_at hl 0 rfl) ?_
            refine lv_iconst (v := nI 1) hx hb dJ6_numberOfTrailingZeros_0f7a4_76 (by decide) ?_
            refine lv_iushr (v := (y_17.toUInt32 >>> ((nI 1).toUInt32 &&& Int32.toUInt32 31)).toInt32) hx hb dJ6_numberOfTrailingZeros_0f7a4_77 (rfl) ?_
            refine lv_iadd hx hb dJ6_numberOfTrailingZeros_0f7a4_78 ?_
            exact rt_ni (mu := (fun _ => False)) C0 rfl ⟨rfl, _, rfl⟩ hS rfl dJ6_numberOfTrailingZeros_0f7a4_79
    · skip
      refine lv_iinc (v := nI (1 + 16)) (lv' := [(1, .int (nI (1 + 16))), (0, .int y_1)]) hx hb dJ6_numberOfTrailingZeros_0f7a4_26 hl (k := 0) rfl (nI_add _ 16) (by decide) rfl (fun ls hl => ?_)
      refine lv_iload_n hx hb dJ6_numberOfTrailingZeros_0f7a4_29 rfl (lv_at hl 1 rfl) ?_
      refine lv_bipush (v := nI 16) hx hb dJ6_numberOfTrailingZeros_0f7a4_30 (by decide) ?_
      refine lv_iushr (v := (y_1.toUInt32 >>> ((nI 16).toUInt32 &&& Int32.toUInt32 31)).toInt32) hx hb dJ6_numberOfTrailingZeros_0f7a4_32 (rfl) ?_
      obtain ⟨y_18, hy_18⟩ : ∃ z : Int32, (y_1.toUInt32 >>> ((nI 16).toUInt32 &&& Int32.toUInt32 31)).toInt32 = z := ⟨_, rfl⟩
      refine tp_i (y := y_18) (hy_18) ?_
      refine lv_istore_n (lv' := [(0, .int y_18), (1, .int (nI (1 + 16)))]) hx hb dJ6_numberOfTrailingZeros_0f7a4_33 rfl hl (by decide) rfl (fun ls hl => ?_)
      refine lv_iload_n hx hb dJ6_numberOfTrailingZeros_0f7a4_34 rfl (lv_at hl 0 rfl) ?_
      refine lv_sipush (v := nI 256) hx hb dJ6_numberOfTrailingZeros_0f7a4_35 (by decide) ?_
      refine lv_icmp_le (tgt := 49) hx hb dJ6_numberOfTrailingZeros_0f7a4_38 (by decide) (fun h_19 => ?_) (fun h_19 => ?_)
      · skip
        refine lv_iload_n hx hb dJ6_numberOfTrailingZeros_0f7a4_49 rfl (lv_at hl 0 rfl) ?_
        refine lv_bipush (v := nI 16) hx hb dJ6_numberOfTrailingZeros_0f7a4_50 (by decide) ?_
        refine lv_icmp_le (tgt := 62) hx hb dJ6_numberOfTrailingZeros_0f7a4_52 (by decide) (fun h_20 => ?_) (fun h_20 => ?_)
        · skip
          refine lv_iload_n hx hb dJ6_numberOfTrailingZeros_0f7a4_62 rfl (lv_at hl 0 rfl) ?_
          refine lv_iconst (v := nI 4) hx hb dJ6_numberOfTrailingZeros_0f7a4_63 (by decide) ?_
          refine lv_icmp_le (tgt := 74) hx hb dJ6_numberOfTrailingZeros_0f7a4_64 (by decide) (fun h_21 => ?_) (fun h_21 => ?_)
          · skip
            refine lv_iload_n hx hb dJ6_numberOfTrailingZeros_0f7a4_74 rfl (lv_at hl 1 rfl) ?_
            refine lv_iload_n hx hb dJ6_numberOfTrailingZeros_0f7a4_75 rfl (lv_at hl 0 rfl) ?_
            refine lv_iconst (v := nI 1) hx hb dJ6_numberOfTrailingZeros_0f7a4_76 (by decide) ?_
            refine lv_iushr (v := (y_18.toUInt32 >>> ((nI 1).toUInt32 &&& Int32.toUInt32 31)).toInt32) hx hb dJ6_numberOfTrailingZeros_0f7a4_77 (rfl) ?_
            refine lv_iadd hx hb dJ6_numberOfTrailingZeros_0f7a4_78 ?_
            exact rt_ni (mu := (fun _ => False)) C0 rfl ⟨rfl, _, rfl⟩ hS rfl dJ6_numberOfTrailingZeros_0f7a4_79
          · skip
            refine lv_iinc (v := nI ((1 + 16) + 2)) (lv' := [(1, .int (nI ((1 + 16) + 2))), (0, .int y_18)]) hx hb dJ6_numberOfTrailingZeros_0f7a4_67 hl (k := 1) rfl (nI_add _ 2) (by decide) rfl (fun ls hl => ?_)
            refine lv_iload_n hx hb dJ6_numberOfTrailingZeros_0f7a4_70 rfl (lv_at hl 1 rfl) ?_
            refine lv_iconst (v := nI 2) hx hb dJ6_numberOfTrailingZeros_0f7a4_71 (by decide) ?_
            refine lv_iushr (v := (y_18.toUInt32 >>> ((nI 2).toUInt32 &&& Int32.toUInt32 31)).toInt32) hx hb dJ6_numberOfTrailingZeros_0f7a4_72 (rfl) ?_
            obtain ⟨y_22, hy_22⟩ : ∃ z : Int32, (y_18.toUInt32 >>> ((nI 2).toUInt32 &&& Int32.toUInt32 31)).toInt32 = z := ⟨_, rfl⟩
            refine tp_i (y := y_22) (hy_22) ?_
            refine lv_istore_n (lv' := [(0, .int y_22), (1, .int (nI ((1 + 16) + 2)))]) hx hb dJ6_numberOfTrailingZeros_0f7a4_73 rfl hl (by decide) rfl (fun ls hl => ?_)
            refine lv_iload_n hx hb dJ6_numberOfTrailingZeros_0f7a4_74 rfl (lv_at hl 1 rfl) ?_
            refine lv_iload_n hx hb dJ6_numberOfTrailingZeros_0f7a4_75 rfl (lv_at hl 0 rfl) ?_
            refine lv_iconst (v := nI 1) hx hb dJ6_numberOfTrailingZeros_0f7a4_76 (by decide) ?_
            refine lv_iushr (v := (y_22.toUInt32 >>> ((nI 1).toUInt32 &&& Int32.toUInt32 31)).toInt32) hx hb dJ6_numberOfTrailingZeros_0f7a4_77 (rfl) ?_
            refine lv_iadd hx hb dJ6_numberOfTrailingZeros_0f7a4_78 ?_
            exact rt_ni (mu := (fun _ => False)) C0 rfl ⟨rfl, _, rfl⟩ hS rfl dJ6_numberOfTrailingZeros_0f7a4_79
        · skip
          refine lv_iinc (v := nI ((1 + 16) + 4)) (lv' := [(1, .int (nI ((1 + 16) + 4))), (0, .int y_18)]) hx hb dJ6_numberOfTrailingZeros_0f7a4_55 hl (k := 1) rfl (nI_add _ 4) (by decide) rfl (fun ls hl => ?_)
          refine lv_iload_n hx hb dJ6_numberOfTrailingZeros_0f7a4_58 rfl (lv_at hl 1 rfl) ?_
          refine lv_iconst (v := nI 4) hx hb dJ6_numberOfTrailingZeros_0f7a4_59 (by decide) ?_
          refine lv_iushr (v := (y_18.toUInt32 >>> ((nI 4).toUInt32 &&& Int32.toUInt32 31)).toInt32) hx hb dJ6_numberOfTrailingZeros_0f7a4_60 (rfl) ?_
          obtain ⟨y_23, hy_23⟩ : ∃ z : Int32, (y_18.toUInt32 >>> ((nI 4).toUInt32 &&& Int32.toUInt32 31)).toInt32 = z := ⟨_, rfl⟩
          refine tp_i (y := y_23) (hy_23) ?_
          refine lv_istore_n (lv' := [(0, .int y_23), (1, .int (nI ((1 + 16) + 4)))]) hx hb dJ6_numberOfTrailingZeros_0f7a4_61 rfl hl (by decide) rfl (fun ls hl => ?_)
          refine lv_iload_n hx hb dJ6_numberOfTrailingZeros_0f7a4_62 rfl (lv_at hl 0 rfl) ?_
          refine lv_iconst (v := nI 4) hx hb dJ6_numberOfTrailingZeros_0f7a4_63 (by decide) ?_
          refine lv_icmp_le (tgt := 74) hx hb dJ6_numberOfTrailingZeros_0f7a4_64 (by decide) (fun h_24 => ?_) (fun h_24 => ?_)
          · skip
            refine lv_iload_n hx hb dJ6_numberOfTrailingZeros_0f7a4_74 rfl (lv_at hl 1 rfl) ?_
            refine lv_iload_n hx hb dJ6_numberOfTrailingZeros_0f7a4_75 rfl (lv_at hl 0 rfl) ?_
            refine lv_iconst (v := nI 1) hx hb dJ6_numberOfTrailingZeros_0f7a4_76 (by decide) ?_
            refine lv_iushr (v := (y_23.toUInt32 >>> ((nI 1).toUInt32 &&& Int32.toUInt32 31)).toInt32) hx hb dJ6_numberOfTrailingZeros_0f7a4_77 (rfl) ?_
            refine lv_iadd hx hb dJ6_numberOfTrailingZeros_0f7a4_78 ?_
            exact rt_ni (mu := (fun _ => False)) C0 rfl ⟨rfl, _, rfl⟩ hS rfl dJ6_numberOfTrailingZeros_0f7a4_79
          · skip
            refine lv_iinc (v := nI (((1 + 16) + 4) + 2)) (lv' := [(1, .int (nI (((1 + 16) + 4) + 2))), (0, .int y_23)]) hx hb dJ6_numberOfTrailingZeros_0f7a4_67 hl (k := 1) rfl (nI_add _ 2) (by decide) rfl (fun ls hl => ?_)
            refine lv_iload_n hx hb dJ6_numberOfTrailingZeros_0f7a4_70 rfl (lv_at hl 1 rfl) ?_
            refine lv_iconst (v := nI 2) hx hb dJ6_numberOfTrailingZeros_0f7a4_71 (by decide) ?_
            refine lv_iushr (v := (y_23.toUInt32 >>> ((nI 2).toUInt32 &&& Int32.toUInt32 31)).toInt32) hx hb dJ6_numberOfTrailingZeros_0f7a4_72 (rfl) ?_
            obtain ⟨y_25, hy_25⟩ : ∃ z : Int32, (y_23.toUInt32 >>> ((nI 2).toUInt32 &&& Int32.toUInt32 31)).toInt32 = z := ⟨_, rfl⟩
            refine tp_i (y := y_25) (hy_25) ?_
            refine lv_istore_n (lv' := [(0, .int y_25), (1, .int (nI (((1 + 16) + 4) + 2)))]) hx hb dJ6_numberOfTrailingZeros_0f7a4_73 rfl hl (by decide) rfl (fun ls hl => ?_)
            refine lv_iload_n hx hb dJ6_numberOfTrailingZeros_0f7a4_74 rfl (lv_at hl 1 rfl) ?_
            refine lv_iload_n hx hb dJ6_numberOfTrailingZeros_0f7a4_75 rfl (lv_at hl 0 rfl) ?_
            refine lv_iconst (v := nI 1) hx hb dJ6_numberOfTrailingZeros_0f7a4_76 (by decide) ?_
            refine lv_iushr (v := (y_25.toUInt32 >>> ((nI 1).toUInt32 &&& Int32.toUInt32 31)).toInt32) hx hb dJ6_numberOfTrailingZeros_0f7a4_77 (rfl) ?_
            refine lv_iadd hx hb dJ6_numberOfTrailingZeros_0f7a4_78 ?_
            exact rt_ni (mu := (fun _ => False)) C0 rfl ⟨rfl, _, rfl⟩ hS rfl dJ6_numberOfTrailingZeros_0f7a4_79
      · skip
        refine lv_iinc (v := nI ((1 + 16) + 8)) (lv' := [(1, .int (nI ((1 + 16) + 8))), (0, .int y_18)]) hx hb dJ6_numberOfTrailingZeros_0f7a4_41 hl (k := 1) rfl (nI_add _ 8) (by decide) rfl (fun ls hl => ?_)
        refine lv_iload_n hx hb dJ6_numberOfTrailingZeros_0f7a4_44 rfl (lv_at hl 1 rfl) ?_
        refine lv_bipush (v := nI 8) hx hb dJ6_numberOfTrailingZeros_0f7a4_45 (by decide) ?_
        refine lv_iushr (v := (y_18.toUInt32 >>> ((nI 8).toUInt32 &&& Int32.toUInt32 31)).toInt32) hx hb dJ6_numberOfTrailingZeros_0f7a4_47 (rfl) ?_
        obtain ⟨y_26, hy_26⟩ : ∃ z : Int32, (y_18.toUInt32 >>> ((nI 8).toUInt32 &&& Int32.toUInt32 31)).toInt32 = z := ⟨_, rfl⟩
        refine tp_i (y := y_26) (hy_26) ?_
        refine lv_istore_n (lv' := [(0, .int y_26), (1, .int (nI ((1 + 16) + 8)))]) hx hb dJ6_numberOfTrailingZeros_0f7a4_48 rfl hl (by decide) rfl (fun ls hl => ?_)
        refine lv_iload_n hx hb dJ6_numberOfTrailingZeros_0f7a4_49 rfl (lv_at hl 0 rfl) ?_
        refine lv_bipush (v := nI 16) hx hb dJ6_numberOfTrailingZeros_0f7a4_50 (by decide) ?_
        refine lv_icmp_le (tgt := 62) hx hb dJ6_numberOfTrailingZeros_0f7a4_52 (by decide) (fun h_27 => ?_) (fun h_27 => ?_)
        · skip
          refine lv_iload_n hx hb dJ6_numberOfTrailingZeros_0f7a4_62 rfl (lv_at hl 0 rfl) ?_
          refine lv_iconst (v := nI 4) hx hb dJ6_numberOfTrailingZeros_0f7a4_63 (by decide) ?_
          refine lv_icmp_le (tgt := 74) hx hb dJ6_numberOfTrailingZeros_0f7a4_64 (by decide) (fun h_28 => ?_) (fun h_28 => ?_)
          · skip
            refine lv_iload_n hx hb dJ6_numberOfTrailingZeros_0f7a4_74 rfl (lv_at hl 1 rfl) ?_
            refine lv_iload_n hx hb dJ6_numberOfTrailingZeros_0f7a4_75 rfl (lv_at hl 0 rfl) ?_
            refine lv_iconst (v := nI 1) hx hb dJ6_numberOfTrailingZeros_0f7a4_76 (by decide) ?_
            refine lv_iushr (v := (y_26.toUInt32 >>> ((nI 1).toUInt32 &&& Int32.toUInt32 31)).toInt32) hx hb dJ6_numberOfTrailingZeros_0f7a4_77 (rfl) ?_
            refine lv_iadd hx hb dJ6_numberOfTrailingZeros_0f7a4_78 ?_
            exact rt_ni (mu := (fun _ => False)) C0 rfl ⟨rfl, _, rfl⟩ hS rfl dJ6_numberOfTrailingZeros_0f7a4_79
          · skip
            refine lv_iinc (v := nI (((1 + 16) + 8) + 2)) (lv' := [(1, .int (nI (((1 + 16) + 8) + 2))), (0, .int y_26)]) hx hb dJ6_numberOfTrailingZeros_0f7a4_67 hl (k := 1) rfl (nI_add _ 2) (by decide) rfl (fun ls hl => ?_)
            refine lv_iload_n hx hb dJ6_numberOfTrailingZeros_0f7a4_70 rfl (lv_at hl 1 rfl) ?_
            refine lv_iconst (v := nI 2) hx hb dJ6_numberOfTrailingZeros_0f7a4_71 (by decide) ?_
            refine lv_iushr (v := (y_26.toUInt32 >>> ((nI 2).toUInt32 &&& Int32.toUInt32 31)).toInt32) hx hb dJ6_numberOfTrailingZeros_0f7a4_72 (rfl) ?_
            obtain ⟨y_29, hy_29⟩ : ∃ z : Int32, (y_26.toUInt32 >>> ((nI 2).toUInt32 &&& Int32.toUInt32 31)).toInt32 = z := ⟨_, rfl⟩
            refine tp_i (y := y_29) (hy_29) ?_
            refine lv_istore_n (lv' := [(0, .int y_29), (1, .int (nI (((1 + 16) + 8) + 2)))]) hx hb dJ6_numberOfTrailingZeros_0f7a4_73 rfl hl (by decide) rfl (fun ls hl => ?_)
            refine lv_iload_n hx hb dJ6_numberOfTrailingZeros_0f7a4_74 rfl (lv_at hl 1 rfl) ?_
            refine lv_iload_n hx hb dJ6_numberOfTrailingZeros_0f7a4_75 rfl (lv_at hl 0 rfl) ?_
            refine lv_iconst (v := nI 1) hx hb dJ6_numberOfTrailingZeros_0f7a4_76 (by decide) ?_
            refine lv_iushr (v := (y_29.toUInt32 >>> ((nI 1).toUInt32 &&& Int32.toUInt32 31)).toInt32) hx hb dJ6_numberOfTrailingZeros_0f7a4_77 (rfl) ?_
            refine lv_iadd hx hb dJ6_numberOfTrailingZeros_0f7a4_78 ?_
            exact rt_ni (mu := (fun _ => False)) C0 rfl ⟨rfl, _, rfl⟩ hS rfl dJ6_numberOfTrailingZeros_0f7a4_79
        · skip
          refine lv_iinc (v := nI (((1 + 16) + 8) + 4)) (lv' := [(1, .int (nI (((1 + 16) + 8) + 4))), (0, .int y_26)]) hx hb dJ6_numberOfTrailingZeros_0f7a4_55 hl (k := 1) rfl (nI_add _ 4) (by decide) rfl (fun ls hl => ?_)
          refine lv_iload_n hx hb dJ6_numberOfTrailingZeros_0f7a4_58 rfl (lv_at hl 1 rfl) ?_
          refine lv_iconst (v := nI 4) hx hb dJ6_numberOfTrailingZeros_0f7a4_59 (by decide) ?_
          refine lv_iushr (v := (y_26.toUInt32 >>> ((nI 4).toUInt32 &&& Int32.toUInt32 31)).toInt32) hx hb dJ6_numberOfTrailingZeros_0f7a4_60 (rfl) ?_
          obtain ⟨y_30, hy_30⟩ : ∃ z : Int32, (y_26.toUInt32 >>> ((nI 4).toUInt32 &&& Int32.toUInt32 31)).toInt32 = z := ⟨_, rfl⟩
          refine tp_i (y := y_30) (hy_30) ?_
          refine lv_istore_n (lv' := [(0, .int y_30), (1, .int (nI (((1 + 16) + 8) + 4)))]) hx hb dJ6_numberOfTrailingZeros_0f7a4_61 rfl hl (by decide) rfl (fun ls hl => ?_)
          refine lv_iload_n hx hb dJ6_numberOfTrailingZeros_0f7a4_62 rfl (lv_at hl 0 rfl) ?_
          refine lv_iconst (v := nI 4) hx hb dJ6_numberOfTrailingZeros_0f7a4_63 (by decide) ?_
          refine lv_icmp_le (tgt := 74) hx hb dJ6_numberOfTrailingZeros_0f7a4_64 (by decide) (fun h_31 => ?_) (fun h_31 => ?_)
          · skip
            refine lv_iload_n hx hb dJ6_numberOfTrailingZeros_0f7a4_74 rfl (lv_at hl 1 rfl) ?_
            refine lv_iload_n hx hb dJ6_numberOfTrailingZeros_0f7a4_75 rfl (lv_at hl 0 rfl) ?_
            refine lv_iconst (v := nI 1) hx hb dJ6_numberOfTrailingZeros_0f7a4_76 (by decide) ?_
            refine lv_iushr (v := (y_30.toUInt32 >>> ((nI 1).toUInt32 &&& Int32.toUInt32 31)).toInt32) hx hb dJ6_numberOfTrailingZeros_0f7a4_77 (rfl) ?_
            refine lv_iadd hx hb dJ6_numberOfTrailingZeros_0f7a4_78 ?_
            exact rt_ni (mu := (fun _ => False)) C0 rfl ⟨rfl, _, rfl⟩ hS rfl dJ6_numberOfTrailingZeros_0f7a4_79
          · skip
            refine lv_iinc (v := nI ((((1 + 16) + 8) + 4) + 2)) (lv' := [(1, .int (nI ((((1 + 16) + 8) + 4) + 2))), (0, .int y_30)]) hx hb dJ6_numberOfTrailingZeros_0f7a4_67 hl (k := 1) rfl (nI_add _ 2) (by decide) rfl (fun ls hl => ?_)
            refine lv_iload_n hx hb dJ6_numberOfTrailingZeros_0f7a4_70 rfl (lv_at hl 1 rfl) ?_
            refine lv_iconst (v := nI 2) hx hb dJ6_numberOfTrailingZeros_0f7a4_71 (by decide) ?_
            refine lv_iushr (v := (y_30.toUInt32 >>> ((nI 2).toUInt32 &&& Int32.toUInt32 31)).toInt32) hx hb dJ6_numberOfTrailingZeros_0f7a4_72 (rfl) ?_
            obtain ⟨y_32, hy_32⟩ : ∃ z : Int32, (y_30.toUInt32 >>> ((nI 2).toUInt32 &&& Int32.toUInt32 31)).toInt32 = z := ⟨_, rfl⟩
            refine tp_i (y := y_32) (hy_32) ?_
            refine lv_istore_n (lv' := [(0, .int y_32), (1, .int (nI ((((1 + 16) + 8) + 4) + 2)))]) hx hb dJ6_numberOfTrailingZeros_0f7a4_73 rfl hl (by decide) rfl (fun ls hl => ?_)
            refine lv_iload_n hx hb dJ6_numberOfTrailingZeros_0f7a4_74 rfl (lv_at hl 1 rfl) ?_
            refine lv_iload_n hx hb dJ6_numberOfTrailingZeros_0f7a4_75 rfl (lv_at hl 0 rfl) ?_
            refine lv_iconst (v := nI 1) hx hb dJ6_numberOfTrailingZeros_0f7a4_76 (by decide) ?_
            refine lv_iushr (v := (y_32.toUInt32 >>> ((nI 1).toUInt32 &&& Int32.toUInt32 31)).toInt32) hx hb dJ6_numberOfTrailingZeros_0f7a4_77 (rfl) ?_
            refine lv_iadd hx hb dJ6_numberOfTrailingZeros_0f7a4_78 ?_
            exact rt_ni (mu := (fun _ => False)) C0 rfl ⟨rfl, _, rfl⟩ hS rfl dJ6_numberOfTrailingZeros_0f7a4_79
  · skip
    refine lv_iload_n hx hb dJ6_numberOfTrailingZeros_0f7a4_12 rfl (lv_at hl 0 rfl) ?_
    refine lv_bipush (v := nI 32) hx hb dJ6_numberOfTrailingZeros_0f7a4_13 (by decide) ?_
    refine lv_iand hx hb dJ6_numberOfTrailingZeros_0f7a4_15 ?_
    exact rt_ni (mu := (fun _ => False)) C0 rfl ⟨rfl, _, rfl⟩ hS rfl dJ6_numberOfTrailingZeros_0f7a4_16
abbrev rmJ13_bitCount_95d88 : Room := { frames := 0, cells := 0, slots := 0, locals := 0 }
set_option maxHeartbeats 4000000 in
set_option maxRecDepth 100000 in
theorem c_bc64 (l : Launch) (g : Gx) (H0 : Heap) (x : Int64) : Met l yJ13_bitCount_95d88 wsJ13_bitCount_95d88 rmJ13_bitCount_95d88 (va_Pc [.long x] (hB g H0)) (nQ H0 (fun _ => False) (fun r H1 => H0 = H1 ∧ ∃ rv : Int32, r = some (.int rv))) 0 0 (fun q => (fun _ => False) q ∨ H0.size ≤ q) := by
  refine cx_met (own := RJ13) (cc := cJ13_bitCount_95d88) (maxL := 2) (by decide) rfl rfl (Nat.le_of_ble_eq_true rfl) ?_
  intro p e s m below meth c ls C0 hB0 hnm hl
  obtain ⟨hH, hK⟩ := hB0
  obtain ⟨hx, hb, hr, hml, hown, hts, hlk⟩ := id C0
  subst hH
  have hS : va_S (fun q => (fun _ => False) q ∨ s.heap.size ≤ q) s.heap s.heap [] := va_S.rf
  have hA : ∀ q : Nat, s.heap.size ≤ q → (fun q => (fun _ => False) q ∨ s.heap.size ≤ q) q := fun q h => Or.inr h
  have hl : lv_has ls 2 [(0, .long x)] := hl
  refine lv_lload_n hx hb dJ13_bitCount_95d88_0 rfl (lv_at hl 0 rfl) ?_
  refine lv_lload_n hx hb dJ13_bitCount_95d88_1 rfl (lv_at hl 0 rfl) ?_
  refine lv_iconst (v := nI 1) hx hb dJ13_bitCount_95d88_2 (by decide) ?_
  refine lv_lushr (v := (x.toUInt64 >>> ((nI 1).toInt64.toUInt64 &&& Int64.toUInt64 63)).toInt64) hx hb dJ13_bitCount_95d88_3 (rfl) ?_
  refine lv_ldc2 (v := lN 6148914691236517205) hx hb hown (hts (.constantLong RJ13 314 (6148914691236517205)) (by decide +kernel)) dJ13_bitCount_95d88_4 ?_
  refine lv_land hx hb dJ13_bitCount_95d88_7 ?_
  refine lv_lsub hx hb dJ13_bitCount_95d88_8 ?_
  obtain ⟨y_1, hy_1⟩ : ∃ z : Int64, x - (((x.toUInt64 >>> ((nI 1).toInt64.toUInt64 &&& Int64.toUInt64 63)).toInt64) &&& (lN 6148914691236517205)) = z := ⟨_, rfl⟩
  refine tp_l (y := y_1) (hy_1) ?_
  refine lv_lstore_n (lv' := [(0, .long y_1)]) hx hb dJ13_bitCount_95d88_9 rfl hl (by decide) rfl (fun ls hl => ?_)
  refine lv_lload_n hx hb dJ13_bitCount_95d88_10 rfl (lv_at hl 0 rfl) ?_
  refine lv_ldc2 (v := lN 3689348814741910323) hx hb hown (hts (.constantLong RJ13 316 (3689348814741910323)) (by decide +kernel)) dJ13_bitCount_95d88_11 ?_
  refine lv_land hx hb dJ13_bitCount_95d88_14 ?_
  refine lv_lload_n hx hb dJ13_bitCount_95d88_15 rfl (lv_at hl 0 rfl) ?_
  refine lv_iconst (v := nI 2) hx hb dJ13_bitCount_95d88_16 (by decide) ?_
  refine lv_lushr (v := (y_1.toUInt64 >>> ((nI 2).toInt64.toUInt64 &&& Int64.toUInt64 63)).toInt64) hx hb dJ13_bitCount_95d88_17 (rfl) ?_
  refine lv_ldc2 (v := lN 3689348814741910323) hx hb hown (hts (.constantLong RJ13 316 (3689348814741910323)) (by decide +kernel)) dJ13_bitCount_95d88_18 ?_
  refine lv_land hx hb dJ13_bitCount_95d88_21 ?_
  refine lv_ladd hx hb dJ13_bitCount_95d88_22 ?_
  obtain ⟨y_2, hy_2⟩ : ∃ z : Int64, (y_1 &&& (lN 3689348814741910323)) + (((y_1.toUInt64 >>> ((nI 2).toInt64.toUInt64 &&& Int64.toUInt64 63)).toInt64) &&& (lN 3689348814741910323)) = z := ⟨_, rfl⟩
  refine tp_l (y := y_2) (hy_2) ?_
  refine lv_lstore_n (lv' := [(0, .long y_2)]) hx hb dJ13_bitCount_95d88_23 rfl hl (by decide) rfl (fun ls hl => ?_)
  refine lv_lload_n hx hb dJ13_bitCount_95d88_24 rfl (lv_at hl 0 rfl) ?_
  refine lv_lload_n hx hb dJ13_bitCount_95d88_25 rfl (lv_at hl 0 rfl) ?_
  refine lv_iconst (v := nI 4) hx hb dJ13_bitCount_95d88_26 (by decide) ?_
  refine lv_lushr (v := (y_2.toUInt64 >>> ((nI 4).toInt64.toUInt64 &&& Int64.toUInt64 63)).toInt64) hx hb dJ13_bitCount_95d88_27 (rfl) ?_
  refine lv_ladd hx hb dJ13_bitCount_95d88_28 ?_
  refine lv_ldc2 (v := lN 1085102592571150095) hx hb hown (hts (.constantLong RJ13 318 (1085102592571150095)) (by decide +kernel)) dJ13_bitCount_95d88_29 ?_
  refine lv_land hx hb dJ13_bitCount_95d88_32 ?_
  obtain ⟨y_3, hy_3⟩ : ∃ z : Int64, (y_2 + ((y_2.toUInt64 >>> ((nI 4).toInt64.toUInt64 &&& Int64.toUInt64 63)).toInt64)) &&& (lN 1085102592571150095) = z := ⟨_, rfl⟩
  refine tp_l (y := y_3) (hy_3) ?_
  refine lv_lstore_n (lv' := [(0, .long y_3)]) hx hb dJ13_bitCount_95d88_33 rfl hl (by decide) rfl (fun ls hl => ?_)
  refine lv_lload_n hx hb dJ13_bitCount_95d88_34 rfl (lv_at hl 0 rfl) ?_
  refine lv_lload_n hx hb dJ13_bitCount_95d88_35 rfl (lv_at hl 0 rfl) ?_
  refine lv_bipush (v := nI 8) hx hb dJ13_bitCount_95d88_36 (by decide) ?_
  refine lv_lushr (v := (y_3.toUInt64 >>> ((nI 8).toInt64.toUInt64 &&& Int64.toUInt64 63)).toInt64) hx hb dJ13_bitCount_95d88_38 (rfl) ?_
  refine lv_ladd hx hb dJ13_bitCount_95d88_39 ?_
  obtain ⟨y_4, hy_4⟩ : ∃ z : Int64, y_3 + ((y_3.toUInt64 >>> ((nI 8).toInt64.toUInt64 &&& Int64.toUInt64 63)).toInt64) = z := ⟨_, rfl⟩
  refine tp_l (y := y_4) (hy_4) ?_
  refine lv_lstore_n (lv' := [(0, .long y_4)]) hx hb dJ13_bitCount_95d88_40 rfl hl (by decide) rfl (fun ls hl => ?_)
  refine lv_lload_n hx hb dJ13_bitCount_95d88_41 rfl (lv_at hl 0 rfl) ?_
  refine lv_lload_n hx hb dJ13_bitCount_95d88_42 rfl (lv_at hl 0 rfl) ?_
  refine lv_bipush (v := nI 16) hx hb dJ13_bitCount_95d88_43 (by decide) ?_
  refine lv_lushr (v := (y_4.toUInt64 >>> ((nI 16).toInt64.toUInt64 &&& Int64.toUInt64 63)).toInt64) hx hb dJ13_bitCount_95d88_45 (rfl) ?_
  refine lv_ladd hx hb dJ13_bitCount_95d88_46 ?_
  obtain ⟨y_5, hy_5⟩ : ∃ z : Int64, y_4 + ((y_4.toUInt64 >>> ((nI 16).toInt64.toUInt64 &&& Int64.toUInt64 63)).toInt64) = z := ⟨_, rfl⟩
  refine tp_l (y := y_5) (hy_5) ?_
  refine lv_lstore_n (lv' := [(0, .long y_5)]) hx hb dJ13_bitCount_95d88_47 rfl hl (by decide) rfl (fun ls hl => ?_)
  refine lv_lload_n hx hb dJ13_bitCount_95d88_48 rfl (lv_at hl 0 rfl) ?_
  refine lv_lload_n hx hb dJ13_bitCount_95d88_49 rfl (lv_at hl 0 rfl) ?_
  refine lv_bipush (v := nI 32) hx hb dJ13_bitCount_95d88_50 (by decide) ?_
  refine lv_lushr (v := (y_5.toUInt64 >>> ((nI 32).toInt64.toUInt64 &&& Int64.toUInt64 63)).toInt64) hx hb dJ13_bitCount_95d88_52 (rfl) ?_
  refine lv_ladd hx hb dJ13_bitCount_95d88_53 ?_
  obtain ⟨y_6, hy_6⟩ : ∃ z : Int64, y_5 + ((y_5.toUInt64 >>> ((nI 32).toInt64.toUInt64 &&& Int64.toUInt64 63)).toInt64) = z := ⟨_, rfl⟩
  refine tp_l (y := y_6) (hy_6) ?_
  refine lv_lstore_n (lv' := [(0, .long y_6)]) hx hb dJ13_bitCount_95d88_54 rfl hl (by decide) rfl (fun ls hl => ?_)
  refine lv_lload_n hx hb dJ13_bitCount_95d88_55 rfl (lv_at hl 0 rfl) ?_
  refine lv_l2i (v := y_6.toInt32) hx hb dJ13_bitCount_95d88_56 (rfl) ?_
  refine lv_bipush (v := nI 127) hx hb dJ13_bitCount_95d88_57 (by decide) ?_
  refine lv_iand hx hb dJ13_bitCount_95d88_59 ?_
  exact rt_ni (mu := (fun _ => False)) C0 rfl ⟨rfl, _, rfl⟩ hS rfl dJ13_bitCount_95d88_60
abbrev rmJ13_signum_95d88 : Room := { frames := 0, cells := 0, slots := 0, locals := 0 }
set_option maxHeartbeats 4000000 in
set_option maxRecDepth 100000 in
theorem c_sg64 (l : Launch) (g : Gx) (H0 : Heap) (x : Int64) : Met l yJ13_signum_95d88 wsJ13_signum_95d88 rmJ13_signum_95d88 (va_Pc [.long x] (hB g H0)) (nQ H0 (fun _ => False) (fun r H1 => H0 = H1 ∧ ∃ rv : Int32, r = some (.int rv))) 0 0 (fun q => (fun _ => False) q ∨ H0.size ≤ q) := by
  refine cx_met (own := RJ13) (cc := cJ13_signum_95d88) (maxL := 2) (by decide) rfl rfl (Nat.le_of_ble_eq_true rfl) ?_
  intro p e s m below meth c ls C0 hB0 hnm hl
  obtain ⟨hH, hK⟩ := hB0
  obtain ⟨hx, hb, hr, hml, hown, hts, hlk⟩ := id C0
  subst hH
  have hS : va_S (fun q => (fun _ => False) q ∨ s.heap.size ≤ q) s.heap s.heap [] := va_S.rf
  have hA : ∀ q : Nat, s.heap.size ≤ q → (fun q => (fun _ => False) q ∨ s.heap.size ≤ q) q := fun q h => Or.inr h
  have hl : lv_has ls 2 [(0, .long x)] := hl
  refine lv_lload_n hx hb dJ13_signum_95d88_0 rfl (lv_at hl 0 rfl) ?_
  refine lv_bipush (v := nI 63) hx hb dJ13_signum_95d88_1 (by decide) ?_
  refine lv_lshr (v := x >>> ((nI 63).toInt64 &&& 63)) hx hb dJ13_signum_95d88_3 (rfl) ?_
  refine lv_lload_n hx hb dJ13_signum_95d88_4 rfl (lv_at hl 0 rfl) ?_
  refine lv_lneg hx hb dJ13_signum_95d88_5 ?_
  refine lv_bipush (v := nI 63) hx hb dJ13_signum_95d88_6 (by decide) ?_
  refine lv_lushr (v := ((-x).toUInt64 >>> ((nI 63).toInt64.toUInt64 &&& Int64.toUInt64 63)).toInt64) hx hb dJ13_signum_95d88_8 (rfl) ?_
  refine lv_lor hx hb dJ13_signum_95d88_9 ?_
  refine lv_l2i (v := ((x >>> ((nI 63).toInt64 &&& 63)) ||| (((-x).toUInt64 >>> ((nI 63).toInt64.toUInt64 &&& Int64.toUInt64 63)).toInt64)).toInt32) hx hb dJ13_signum_95d88_10 (rfl) ?_
  exact rt_ni (mu := (fun _ => False)) C0 rfl ⟨rfl, _, rfl⟩ hS rfl dJ13_signum_95d88_11
abbrev rmJ13_numberOfLeadingZeros_95d88 : Room := { frames := 1, cells := 0, slots := 0, locals := 21 }
set_option maxHeartbeats 4000000 in
set_option maxRecDepth 100000 in
theorem c_nlz64 (l : Launch) (g : Gx) (H0 : Heap) (x : Int64) : Met l yJ13_numberOfLeadingZeros_95d88 wsJ13_numberOfLeadingZeros_95d88 rmJ13_numberOfLeadingZeros_95d88 (va_Pc [.long x] (hB g H0)) (nQ H0 (fun _ => False) (fun r H1 => H0 = H1 ∧ ∃ rv : Int32, r = some (.int rv))) 0 0 (fun q => (fun _ => False) q ∨ H0.size ≤ q) := by
  refine cx_met (own := RJ13) (cc := cJ13_numberOfLeadingZeros_95d88) (maxL := 3) (by decide) rfl rfl (Nat.le_of_ble_eq_true rfl) ?_
  intro p e s m below meth c ls C0 hB0 hnm hl
  obtain ⟨hH, hK⟩ := hB0
  obtain ⟨hx, hb, hr, hml, hown, hts, hlk⟩ := id C0
  subst hH
  have hS : va_S (fun q => (fun _ => False) q ∨ s.heap.size ≤ q) s.heap s.heap [] := va_S.rf
  have hA : ∀ q : Nat, s.heap.size ≤ q → (fun q => (fun _ => False) q ∨ s.heap.size ≤ q) q := fun q h => Or.inr h
  have hl : lv_has ls 3 [(0, .long x)] := hl
  refine lv_lload_n hx hb dJ13_numberOfLeadingZeros_95d88_0 rfl (lv_at hl 0 rfl) ?_
  refine lv_bipush (v := nI 32) hx hb dJ13_numberOfLeadingZeros_95d88_1 (by decide) ?_
  refine lv_lushr (v := (x.toUInt64 >>> ((nI 32).toInt64.toUInt64 &&& Int64.toUInt64 63)).toInt64) hx hb dJ13_numberOfLeadingZeros_95d88_3 (rfl) ?_
  refine lv_l2i (v := ((x.toUInt64 >>> ((nI 32).toInt64.toUInt64 &&& Int64.toUInt64 63)).toInt64).toInt32) hx hb dJ13_numberOfLeadingZeros_95d88_4 (rfl) ?_
  obtain ⟨y_1, hy_1⟩ : ∃ z : Int32, ((x.toUInt64 >>> ((nI 32).toInt64.toUInt64 &&& Int64.toUInt64 63)).toInt64).toInt32 = z := ⟨_, rfl⟩
  refine tp_i (y := y_1) (hy_1) ?_
  refine lv_istore_n (lv' := [(2, .int y_1), (0, .long x)]) hx hb dJ13_numberOfLeadingZeros_95d88_5 rfl hl (by decide) rfl (fun ls hl => ?_)
  refine lv_iload_n hx hb dJ13_numberOfLeadingZeros_95d88_6 rfl (lv_at hl 0 rfl) ?_
  refine lv_if_ne (tgt := 21) hx hb dJ13_numberOfLeadingZeros_95d88_7 (by decide) (fun h_2 => ?_) (fun h_2 => ?_)
  · skip
    refine lv_iload_n hx hb dJ13_numberOfLeadingZeros_95d88_21 rfl (lv_at hl 0 rfl) ?_
    refine cn_S (As := [.int y_1]) (rest := []) C0 hl hK hS hA (fun q h => absurd h id) (c_nlz32 l g s.heap y_1) gJ13_numberOfLeadingZeros_95d88_J6_numberOfLeadingZeros_0f7a4 rfl ⟨rfl, rfl⟩ (show hd_ok yJ6_numberOfLeadingZeros_0f7a4 1 from ⟨by decide, by decide, by decide +kernel⟩) ⟨Nat.le_of_ble_eq_true rfl, Nat.le_of_ble_eq_true rfl⟩ rfl (Nat.le_of_ble_eq_true rfl) ⟨Nat.zero_le _, Nat.zero_le _⟩ dJ13_numberOfLeadingZeros_95d88_22 (fun r1 H1 locs hv hzz hk1 hS => ?_)
    obtain ⟨rfl, rv_3, rfl⟩ := hv
    refine W.widen (k := 0) (n := 0) (by decide) (by decide) ?_
    exact rt_ni (mu := (fun _ => False)) C0 rfl ⟨rfl, _, rfl⟩ hS rfl dJ13_numberOfLeadingZeros_95d88_25
  · skip
    refine lv_bipush (v := nI 32) hx hb dJ13_numberOfLeadingZeros_95d88_10 (by decide) ?_
    refine lv_lload_n hx hb dJ13_numberOfLeadingZeros_95d88_12 rfl (lv_at hl 1 rfl) ?_
    refine lv_l2i (v := x.toInt32) hx hb dJ13_numberOfLeadingZeros_95d88_13 (rfl) ?_
    refine cn_S (As := [.int x.toInt32]) (rest := [.int (nI 32)]) C0 hl hK hS hA (fun q h => absurd h id) (c_nlz32 l g s.heap x.toInt32) gJ13_numberOfLeadingZeros_95d88_J6_numberOfLeadingZeros_0f7a4 rfl ⟨rfl, rfl⟩ (show hd_ok yJ6_numberOfLeadingZeros_0f7a4 1 from ⟨by decide, by decide, by decide +kernel⟩) ⟨Nat.le_of_ble_eq_true rfl, Nat.le_of_ble_eq_true rfl⟩ rfl (Nat.le_of_ble_eq_true rfl) ⟨Nat.zero_le _, Nat.zero_le _⟩ dJ13_numberOfLeadingZeros_95d88_14 (fun r1 H1 locs hv hzz hk1 hS => ?_)
    obtain ⟨rfl, rv_4, rfl⟩ := hv
    refine lv_iadd hx hb dJ13_numberOfLeadingZeros_95d88_17 ?_
    refine lv_goto (tgt := 25) hx hb dJ13_numberOfLeadingZeros_95d88_18 (by decide) ?_
    refine W.widen (k := 0) (n := 0) (by decide) (by decide) ?_
    exact rt_ni (mu := (fun _ => False)) C0 rfl ⟨rfl, _, rfl⟩ hS rfl dJ13_numberOfLeadingZeros_95d88_25
abbrev rmJ13_numberOfTrailingZeros_95d88 : Room := { frames := 1, cells := 0, slots := 0, locals := 21 }
set_option maxHeartbeats 4000000 in
set_option maxRecDepth 100000 in
theorem c_ntz64 (l : Launch) (g : Gx) (H0 : Heap) (x : Int64) : Met l yJ13_numberOfTrailingZeros_95d88 wsJ13_numberOfTrailingZeros_95d88 rmJ13_numberOfTrailingZeros_95d88 (va_Pc [.long x] (hB g H0)) (nQ H0 (fun _ => False) (fun r H1 => H0 = H1 ∧ ∃ rv : Int32, r = some (.int rv))) 0 0 (fun q => (fun _ => False) q ∨ H0.size ≤ q) := by
  refine cx_met (own := RJ13) (cc := cJ13_numberOfTrailingZeros_95d88) (maxL := 3) (by decide) rfl rfl (Nat.le_of_ble_eq_true rfl) ?_
  intro p e s m below meth c ls C0 hB0 hnm hl
  obtain ⟨hH, hK⟩ := hB0
  obtain ⟨hx, hb, hr, hml, hown, hts, hlk⟩ := id C0
  subst hH
  have hS : va_S (fun q => (fun _ => False) q ∨ s.heap.size ≤ q) s.heap s.heap [] := va_S.rf
  have hA : ∀ q : Nat, s.heap.size ≤ q → (fun q => (fun _ => False) q ∨ s.heap.size ≤ q) q := fun q h => Or.inr h
  have hl : lv_has ls 3 [(0, .long x)] := hl
  refine lv_lload_n hx hb dJ13_numberOfTrailingZeros_95d88_0 rfl (lv_at hl 0 rfl) ?_
  refine lv_l2i (v := x.toInt32) hx hb dJ13_numberOfTrailingZeros_95d88_1 (rfl) ?_
  refine lv_istore_n (lv' := [(2, .int x.toInt32), (0, .long x)]) hx hb dJ13_numberOfTrailingZeros_95d88_2 rfl hl (by decide) rfl (fun ls hl => ?_)
  refine lv_iload_n hx hb dJ13_numberOfTrailingZeros_95d88_3 rfl (lv_at hl 0 rfl) ?_
  refine lv_if_ne (tgt := 21) hx hb dJ13_numberOfTrailingZeros_95d88_4 (by decide) (fun h_1 => ?_) (fun h_1 => ?_)
  · skip
    refine lv_iload_n hx hb dJ13_numberOfTrailingZeros_95d88_21 rfl (lv_at hl 0 rfl) ?_
    refine cn_S (As := [.int x.toInt32]) (rest := []) C0 hl hK hS hA (fun q h => absurd h id) (c_ntz32 l g s.heap x.toInt32) gJ13_numberOfTrailingZeros_95d88_J6_numberOfTrailingZeros_0f7a4 rfl ⟨rfl, rfl⟩ (show hd_ok yJ6_numberOfTrailingZeros_0f7a4 1 from ⟨by decide, by decide, by decide +kernel⟩) ⟨Nat.le_of_ble_eq_true rfl, Nat.le_of_ble_eq_true rfl⟩ rfl (Nat.le_of_ble_eq_true rfl) ⟨Nat.zero_le _, Nat.zero_le _⟩ dJ13_numberOfTrailingZeros_95d88_22 (fun r1 H1 locs hv hzz hk1 hS => ?_)
    obtain ⟨rfl, rv_2, rfl⟩ := hv
    refine W.widen (k := 0) (n := 0) (by decide) (by decide) ?_
    exact rt_ni (mu := (fun _ => False)) C0 rfl ⟨rfl, _, rfl⟩ hS rfl dJ13_numberOfTrailingZeros_95d88_25
  · skip
    refine lv_bipush (v := nI 32) hx hb dJ13_numberOfTrailingZeros_95d88_7 (by decide) ?_
    refine lv_lload_n hx hb dJ13_numberOfTrailingZeros_95d88_9 rfl (lv_at hl 1 rfl) ?_
    refine lv_bipush (v := nI 32) hx hb dJ13_numberOfTrailingZeros_95d88_10 (by decide) ?_
    refine lv_lushr (v := (x.toUInt64 >>> ((nI 32).toInt64.toUInt64 &&& Int64.toUInt64 63)).toInt64) hx hb dJ13_numberOfTrailingZeros_95d88_12 (rfl) ?_
    refine lv_l2i (v := ((x.toUInt64 >>> ((nI 32).toInt64.toUInt64 &&& Int64.toUInt64 63)).toInt64).toInt32) hx hb dJ13_numberOfTrailingZeros_95d88_13 (rfl) ?_
    refine cn_S (As := [.int (((x.toUInt64 >>> ((nI 32).toInt64.toUInt64 &&& Int64.toUInt64 63)).toInt64).toInt32)]) (rest := [.int (nI 32)]) C0 hl hK hS hA (fun q h => absurd h id) (c_ntz32 l g s.heap (((x.toUInt64 >>> ((nI 32).toInt64.toUInt64 &&& Int64.toUInt64 63)).toInt64).toInt32)) gJ13_numberOfTrailingZeros_95d88_J6_numberOfTrailingZeros_0f7a4 rfl ⟨rfl, rfl⟩ (show hd_ok yJ6_numberOfTrailingZeros_0f7a4 1 from ⟨by decide, by decide, by decide +kernel⟩) ⟨Nat.le_of_ble_eq_true rfl, Nat.le_of_ble_eq_true rfl⟩ rfl (Nat.le_of_ble_eq_true rfl) ⟨Nat.zero_le _, Nat.zero_le _⟩ dJ13_numberOfTrailingZeros_95d88_14 (fun r1 H1 locs hv hzz hk1 hS => ?_)
    obtain ⟨rfl, rv_3, rfl⟩ := hv
    refine lv_iadd hx hb dJ13_numberOfTrailingZeros_95d88_17 ?_
    refine lv_goto (tgt := 25) hx hb dJ13_numberOfTrailingZeros_95d88_18 (by decide) ?_
    refine W.widen (k := 0) (n := 0) (by decide) (by decide) ?_
    exact rt_ni (mu := (fun _ => False)) C0 rfl ⟨rfl, _, rfl⟩ hS rfl dJ13_numberOfTrailingZeros_95d88_25
abbrev rmX2_countOfInt : Room := { frames := 1, cells := 0, slots := 0, locals := 21 }
set_option maxHeartbeats 4000000 in
set_option maxRecDepth 100000 in
theorem c_cInt (l : Launch) (g : Gx) (H0 : Heap) (x : Int32) (d9 : Nat) (hd9 : d9 < 4) : Met l yX2_countOfInt wsX2_countOfInt rmX2_countOfInt (va_Pc [.int x, .int (nI d9)] (hB g H0)) (nQ H0 (fun _ => False) (fun r H1 => H0 = H1 ∧ ∃ rv : Int32, r = some (.int rv))) 0 0 (fun q => (fun _ => False) q ∨ H0.size ≤ q) := by
  refine cx_met (own := RX2) (cc := cX2_countOfInt) (maxL := 2) (by decide) rfl rfl (Nat.le_of_ble_eq_true rfl) ?_
  intro p e s m below meth c ls C0 hB0 hnm hl
  obtain ⟨hH, hK⟩ := hB0
  obtain ⟨hx, hb, hr, hml, hown, hts, hlk⟩ := id C0
  subst hH
  have hS : va_S (fun q => (fun _ => False) q ∨ s.heap.size ≤ q) s.heap s.heap [] := va_S.rf
  have hA : ∀ q : Nat, s.heap.size ≤ q → (fun q => (fun _ => False) q ∨ s.heap.size ≤ q) q := fun q h => Or.inr h
  have hl : lv_has ls 2 [(0, .int x), (1, .int (nI d9))] := hl
  have ed : (nI d9).toInt = (d9 : Int) := nI_toInt (by omega)
  refine lv_iload_n hx hb dX2_countOfInt_0 rfl (lv_at hl 1 rfl) ?_
  rcases (show d9 = 0 ∨ d9 = 1 ∨ d9 = 2 ∨ d9 = 3 by omega) with e | e | e | e
  · skip
    refine lv_tableIn (tgt := 28) (off := 27) (h1 := by rw [ed]; omega) (h2 := by rw [ed]; omega) (ho := by rw [ed, e]; rfl) (ht := by decide) hx hb dX2_countOfInt_1 ?_
    refine lv_iload_n hx hb dX2_countOfInt_28 rfl (lv_at hl 0 rfl) ?_
    refine cn_S (As := [.int x]) (rest := []) C0 hl hK hS hA (fun q h => absurd h id) (c_bc32 l g s.heap x) gX2_countOfInt_J6_bitCount_0f7a4 rfl ⟨rfl, rfl⟩ (show hd_ok yJ6_bitCount_0f7a4 1 from ⟨by decide, by decide, by decide +kernel⟩) ⟨Nat.le_of_ble_eq_true rfl, Nat.le_of_ble_eq_true rfl⟩ rfl (Nat.le_of_ble_eq_true rfl) ⟨Nat.zero_le _, Nat.zero_le _⟩ dX2_countOfInt_29 (fun r1 H1 locs hv hzz hk1 hS => ?_)
    obtain ⟨rfl, rv_1, rfl⟩ := hv
    refine W.widen (k := 0) (n := 0) (by decide) (by decide) ?_
    exact rt_ni (mu := (fun _ => False)) C0 rfl ⟨rfl, _, rfl⟩ hS rfl dX2_countOfInt_32
  · skip
    refine lv_tableIn (tgt := 33) (off := 32) (h1 := by rw [ed]; omega) (h2 := by rw [ed]; omega) (ho := by rw [ed, e]; rfl) (ht := by decide) hx hb dX2_countOfInt_1 ?_
    refine lv_iload_n hx hb dX2_countOfInt_33 rfl (lv_at hl 0 rfl) ?_
    refine cn_S (As := [.int x]) (rest := []) C0 hl hK hS hA (fun q h => absurd h id) (c_nlz32 l g s.heap x) gX2_countOfInt_J6_numberOfLeadingZeros_0f7a4 rfl ⟨rfl, rfl⟩ (show hd_ok yJ6_numberOfLeadingZeros_0f7a4 1 from ⟨by decide, by decide, by decide +kernel⟩) ⟨Nat.le_of_ble_eq_true rfl, Nat.le_of_ble_eq_true rfl⟩ rfl (Nat.le_of_ble_eq_true rfl) ⟨Nat.zero_le _, Nat.zero_le _⟩ dX2_countOfInt_34 (fun r1 H1 locs hv hzz hk1 hS => ?_)
    obtain ⟨rfl, rv_2, rfl⟩ := hv
    refine W.widen (k := 0) (n := 0) (by decide) (by decide) ?_
    exact rt_ni (mu := (fun _ => False)) C0 rfl ⟨rfl, _, rfl⟩ hS rfl dX2_countOfInt_37
  · skip
    refine lv_tableIn (tgt := 38) (off := 37) (h1 := by rw [ed]; omega) (h2 := by rw [ed]; omega) (ho := by rw [ed, e]; rfl) (ht := by decide) hx hb dX2_countOfInt_1 ?_
    refine lv_iload_n hx hb dX2_countOfInt_38 rfl (lv_at hl 0 rfl) ?_
    refine cn_S (As := [.int x]) (rest := []) C0 hl hK hS hA (fun q h => absurd h id) (c_ntz32 l g s.heap x) gX2_countOfInt_J6_numberOfTrailingZeros_0f7a4 rfl ⟨rfl, rfl⟩ (show hd_ok yJ6_numberOfTrailingZeros_0f7a4 1 from ⟨by decide, by decide, by decide +kernel⟩) ⟨Nat.le_of_ble_eq_true rfl, Nat.le_of_ble_eq_true rfl⟩ rfl (Nat.le_of_ble_eq_true rfl) ⟨Nat.zero_le _, Nat.zero_le _⟩ dX2_countOfInt_39 (fun r1 H1 locs hv hzz hk1 hS => ?_)
    obtain ⟨rfl, rv_3, rfl⟩ := hv
    refine W.widen (k := 0) (n := 0) (by decide) (by decide) ?_
    exact rt_ni (mu := (fun _ => False)) C0 rfl ⟨rfl, _, rfl⟩ hS rfl dX2_countOfInt_42
  · skip
    refine lv_tableOut (tgt := 43) (h := Or.inr (by rw [ed]; omega)) (ht := by decide) hx hb dX2_countOfInt_1 ?_
    refine lv_iload_n hx hb dX2_countOfInt_43 rfl (lv_at hl 0 rfl) ?_
    refine cn_S (As := [.int x]) (rest := []) C0 hl hK hS hA (fun q h => absurd h id) (c_sg32 l g s.heap x) gX2_countOfInt_J6_signum_0f7a4 rfl ⟨rfl, rfl⟩ (show hd_ok yJ6_signum_0f7a4 1 from ⟨by decide, by decide, by decide +kernel⟩) ⟨Nat.le_of_ble_eq_true rfl, Nat.le_of_ble_eq_true rfl⟩ rfl (Nat.le_of_ble_eq_true rfl) ⟨Nat.zero_le _, Nat.zero_le _⟩ dX2_countOfInt_44 (fun r1 H1 locs hv hzz hk1 hS => ?_)
    obtain ⟨rfl, rv_4, rfl⟩ := hv
    refine W.widen (k := 0) (n := 0) (by decide) (by decide) ?_
    exact rt_ni (mu := (fun _ => False)) C0 rfl ⟨rfl, _, rfl⟩ hS rfl dX2_countOfInt_47
abbrev rmX2_countOfLong : Room := { frames := 2, cells := 0, slots := 0, locals := 43 }
set_option maxHeartbeats 4000000 in
set_option maxRecDepth 100000 in
theorem c_cLong (l : Launch) (g : Gx) (H0 : Heap) (x : Int64) (d9 : Nat) (hd9 : d9 < 4) : Met l yX2_countOfLong wsX2_countOfLong rmX2_countOfLong (va_Pc [.long x, .int (nI d9)] (hB g H0)) (nQ H0 (fun _ => False) (fun r H1 => H0 = H1 ∧ ∃ rv : Int32, r = some (.int rv))) 0 0 (fun q => (fun _ => False) q ∨ H0.size ≤ q) := by
  refine cx_met (own := RX2) (cc := cX2_countOfLong) (maxL := 3) (by decide) rfl rfl (Nat.le_of_ble_eq_true rfl) ?_
  intro p e s m below meth c ls C0 hB0 hnm hl
  obtain ⟨hH, hK⟩ := hB0
  obtain ⟨hx, hb, hr, hml, hown, hts, hlk⟩ := id C0
  subst hH
  have hS : va_S (fun q => (fun _ => False) q ∨ s.heap.size ≤ q) s.heap s.heap [] := va_S.rf
  have hA : ∀ q : Nat, s.heap.size ≤ q → (fun q => (fun _ => False) q ∨ s.heap.size ≤ q) q := fun q h => Or.inr h
  have hl : lv_has ls 3 [(0, .long x), (2, .int (nI d9))] := hl
  have ed : (nI d9).toInt = (d9 : Int) := nI_toInt (by omega)
  refine lv_iload_n hx hb dX2_countOfLong_0 rfl (lv_at hl 1 rfl) ?_
  rcases (show d9 = 0 ∨ d9 = 1 ∨ d9 = 2 ∨ d9 = 3 by omega) with e | e | e | e
  · skip
    refine lv_tableIn (tgt := 28) (off := 27) (h1 := by rw [ed]; omega) (h2 := by rw [ed]; omega) (ho := by rw [ed, e]; rfl) (ht := by decide) hx hb dX2_countOfLong_1 ?_
    refine lv_lload_n hx hb dX2_countOfLong_28 rfl (lv_at hl 0 rfl) ?_
    refine cn_S (As := [.long x]) (rest := []) C0 hl hK hS hA (fun q h => absurd h id) (c_bc64 l g s.heap x) gX2_countOfLong_J13_bitCount_95d88 rfl ⟨rfl, rfl⟩ (show hd_ok yJ13_bitCount_95d88 1 from ⟨by decide, by decide, by decide +kernel⟩) ⟨Nat.le_of_ble_eq_true rfl, Nat.le_of_ble_eq_true rfl⟩ rfl (Nat.le_of_ble_eq_true rfl) ⟨Nat.zero_le _, Nat.zero_le _⟩ dX2_countOfLong_29 (fun r1 H1 locs hv hzz hk1 hS => ?_)
    obtain ⟨rfl, rv_1, rfl⟩ := hv
    refine W.widen (k := 0) (n := 0) (by decide) (by decide) ?_
    exact rt_ni (mu := (fun _ => False)) C0 rfl ⟨rfl, _, rfl⟩ hS rfl dX2_countOfLong_32
  · skip
    refine lv_tableIn (tgt := 33) (off := 32) (h1 := by rw [ed]; omega) (h2 := by rw [ed]; omega) (ho := by rw [ed, e]; rfl) (ht := by decide) hx hb dX2_countOfLong_1 ?_
    refine lv_lload_n hx hb dX2_countOfLong_33 rfl (lv_at hl 0 rfl) ?_
    refine cn_S (As := [.long x]) (rest := []) C0 hl hK hS hA (fun q h => absurd h id) (c_nlz64 l g s.heap x) gX2_countOfLong_J13_numberOfLeadingZeros_95d88 rfl ⟨rfl, rfl⟩ (show hd_ok yJ13_numberOfLeadingZeros_95d88 1 from ⟨by decide, by decide, by decide +kernel⟩) ⟨Nat.le_of_ble_eq_true rfl, Nat.le_of_ble_eq_true rfl⟩ rfl (Nat.le_of_ble_eq_true rfl) ⟨Nat.zero_le _, Nat.zero_le _⟩ dX2_countOfLong_34 (fun r1 H1 locs hv hzz hk1 hS => ?_)
    obtain ⟨rfl, rv_2, rfl⟩ := hv
    refine W.widen (k := 0) (n := 0) (by decide) (by decide) ?_
    exact rt_ni (mu := (fun _ => False)) C0 rfl ⟨rfl, _, rfl⟩ hS rfl dX2_countOfLong_37
  · skip
    refine lv_tableIn (tgt := 38) (off := 37) (h1 := by rw [ed]; omega) (h2 := by rw [ed]; omega) (ho := by rw [ed, e]; rfl) (ht := by decide) hx hb dX2_countOfLong_1 ?_
    refine lv_lload_n hx hb dX2_countOfLong_38 rfl (lv_at hl 0 rfl) ?_
    refine cn_S (As := [.long x]) (rest := []) C0 hl hK hS hA (fun q h => absurd h id) (c_ntz64 l g s.heap x) gX2_countOfLong_J13_numberOfTrailingZeros_95d88 rfl ⟨rfl, rfl⟩ (show hd_ok yJ13_numberOfTrailingZeros_95d88 1 from ⟨by decide, by decide, by decide +kernel⟩) ⟨Nat.le_of_ble_eq_true rfl, Nat.le_of_ble_eq_true rfl⟩ rfl (Nat.le_of_ble_eq_true rfl) ⟨Nat.zero_le _, Nat.zero_le _⟩ dX2_countOfLong_39 (fun r1 H1 locs hv hzz hk1 hS => ?_)
    obtain ⟨rfl, rv_3, rfl⟩ := hv
    refine W.widen (k := 0) (n := 0) (by decide) (by decide) ?_
    exact rt_ni (mu := (fun _ => False)) C0 rfl ⟨rfl, _, rfl⟩ hS rfl dX2_countOfLong_42
  · skip
    refine lv_tableOut (tgt := 43) (h := Or.inr (by rw [ed]; omega)) (ht := by decide) hx hb dX2_countOfLong_1 ?_
    refine lv_lload_n hx hb dX2_countOfLong_43 rfl (lv_at hl 0 rfl) ?_
    refine cn_S (As := [.long x]) (rest := []) C0 hl hK hS hA (fun q h => absurd h id) (c_sg64 l g s.heap x) gX2_countOfLong_J13_signum_95d88 rfl ⟨rfl, rfl⟩ (show hd_ok yJ13_signum_95d88 1 from ⟨by decide, by decide, by decide +kernel⟩) ⟨Nat.le_of_ble_eq_true rfl, Nat.le_of_ble_eq_true rfl⟩ rfl (Nat.le_of_ble_eq_true rfl) ⟨Nat.zero_le _, Nat.zero_le _⟩ dX2_countOfLong_44 (fun r1 H1 locs hv hzz hk1 hS => ?_)
    obtain ⟨rfl, rv_4, rfl⟩ := hv
    refine W.widen (k := 0) (n := 0) (by decide) (by decide) ?_
    exact rt_ni (mu := (fun _ => False)) C0 rfl ⟨rfl, _, rfl⟩ hS rfl dX2_countOfLong_47
abbrev rmX2_count : Room := { frames := 3, cells := 0, slots := 0, locals := 65 }
set_option maxHeartbeats 4000000 in
set_option maxRecDepth 100000 in
theorem c_xCount (l : Launch) (g : Gx) (H0 : Heap) (x0 lc tr tc sr sc : Nat) (i3 i4 i5 i6 : Int32) (V : Nat → Nat) (n : Nat) (t : Nat → Nat) (hL : CL g H0 x0 lc tr tc sr sc i3 i4 i5 i6 V n t) (i d9 : Nat) (zi : Bool) (hi : i < 8) (hd9 : d9 < 4) : Met l yX2_count wsX2_count rmX2_count (va_Pc [.ref x0, .int (nI i), .int (nI d9), .int (bI zi)] (hB g H0)) (nQ H0 (mC x0 lc tr tc sr sc) (zC g x0 lc tr tc sr sc (fun r V2 n2 t2 => (∃ rv : Int32, r = some (.int rv)) ∧ V2 = V ∧ n2 = n ∧ t2 = t))) 0 0 (fun q => (mC x0 lc tr tc sr sc) q ∨ H0.size ≤ q) := by
  refine cx_met (own := RX2) (cc := cX2_count) (maxL := 4) (by decide) rfl rfl (Nat.le_of_ble_eq_true rfl) ?_
  intro p e s m below meth c ls C0 hB0 hnm hl
  obtain ⟨hH, hK⟩ := hB0
  obtain ⟨hx, hb, hr, hml, hown, hts, hlk⟩ := id C0
  subst hH
  have hS : va_S (fun q => (mC x0 lc tr tc sr sc) q ∨ s.heap.size ≤ q) s.heap s.heap [] := va_S.rf
  have hA : ∀ q : Nat, s.heap.size ≤ q → (fun q => (mC x0 lc tr tc sr sc) q ∨ s.heap.size ≤ q) q := fun q h => Or.inr h
  have hl : lv_has ls 4 [(0, .ref x0), (1, .int (nI i)), (2, .int (nI d9)), (3, .int (bI zi))] := hl
  obtain ⟨hC, hR, hSp, hap⟩ := id hL
  obtain ⟨hf, hfl, hlc, ⟨f, hg9, hfv⟩, hV, hxl⟩ := id hC
  refine lv_iload_n hx hb dX2_count_0 rfl (lv_at hl 1 rfl) ?_
  refine cp_S (As := [.int (nI i)]) (rest := []) C0 hl hK hS hA (c_ckCell l g s.heap i (by assumption)) gX2_count_X2_checkCell rfl ⟨rfl, rfl⟩ (show hd_ok yX2_checkCell 1 from ⟨by decide, by decide, by decide +kernel⟩) ⟨Nat.le_of_ble_eq_true rfl, Nat.le_of_ble_eq_true rfl⟩ rfl (Nat.le_of_ble_eq_true rfl) ⟨Nat.zero_le _, Nat.zero_le _⟩ dX2_count_1 (fun locs hS => ?_)
  refine lv_iload_n hx hb dX2_count_4 rfl (lv_at hl 2 rfl) ?_
  refine lv_iconst (v := nI 3) hx hb dX2_count_5 (by decide) ?_
  refine cp_S (As := [.int (nI d9), .int (nI 3)]) (rest := []) C0 hl hK hS hA (c_ckWhat l g s.heap d9 3 (by omega) (by decide)) gX2_count_X2_checkWhat rfl ⟨rfl, rfl⟩ (show hd_ok yX2_checkWhat 2 from ⟨by decide, by decide, by decide +kernel⟩) ⟨Nat.le_of_ble_eq_true rfl, Nat.le_of_ble_eq_true rfl⟩ rfl (Nat.le_of_ble_eq_true rfl) ⟨Nat.zero_le _, Nat.zero_le _⟩ dX2_count_6 (fun locs hS => ?_)
  refine lv_iload_n hx hb dX2_count_9 rfl (lv_at hl 3 rfl) ?_
  refine lv_if_eq (tgt := 27) hx hb dX2_count_10 (by decide) (fun h1 => ?_) (fun h1 => ?_)
  · skip
    refine lv_aload_n hx hb dX2_count_27 rfl (lv_at hl 0 rfl) ?_
    refine va_get (ci := 3) (C := RX2) (T := TX2) (N := 7) (v := .ref lc) hx hb hts (by decide +kernel) hown hK.1 (p1 hf) 0 rfl rfl 0 (by decide) (hts (.fieldLink RX2 9 "Radixbench" "cells" "[J") (by decide +kernel)) (fun _ h9 => h9) rfl dX2_count_28 ?_
    refine lv_iload_n hx hb dX2_count_31 rfl (lv_at hl 1 rfl) ?_
    refine f_lald (j := i) hx hb hK hg9 (by assumption) (by decide) dX2_count_32 ?_
    refine tp_l (y := lN (V i)) (hfv i (by assumption)) ?_
    refine lv_iload_n hx hb dX2_count_33 rfl (lv_at hl 2 rfl) ?_
    refine cn_S (As := [.long (lN (V i)), .int (nI d9)]) (rest := []) C0 hl hK hS hA (fun q h => absurd h id) (c_cLong l g s.heap (lN (V i)) d9 hd9) gX2_count_X2_countOfLong rfl ⟨rfl, rfl⟩ (show hd_ok yX2_countOfLong 2 from ⟨by decide, by decide, by decide +kernel⟩) ⟨Nat.le_of_ble_eq_true rfl, Nat.le_of_ble_eq_true rfl⟩ rfl (Nat.le_of_ble_eq_true rfl) ⟨Nat.zero_le _, Nat.zero_le _⟩ dX2_count_34 (fun r1 H1 locs hv hzz hk1 hS => ?_)
    obtain ⟨rfl, rv_1, rfl⟩ := hv
    refine W.widen (k := 0) (n := 0) (by decide) (by decide) ?_
    exact rt_ni (mu := mC x0 lc tr tc sr sc) C0 rfl ⟨_, _, _, _, V, n, t, ⟨⟨_, rfl⟩, rfl, rfl, rfl⟩, hL⟩ hS rfl dX2_count_37
  · skip
    refine lv_aload_n hx hb dX2_count_13 rfl (lv_at hl 0 rfl) ?_
    refine va_get (ci := 3) (C := RX2) (T := TX2) (N := 7) (v := .ref lc) hx hb hts (by decide +kernel) hown hK.1 (p1 hf) 0 rfl rfl 0 (by decide) (hts (.fieldLink RX2 9 "Radixbench" "cells" "[J") (by decide +kernel)) (fun _ h9 => h9) rfl dX2_count_14 ?_
    refine lv_iload_n hx hb dX2_count_17 rfl (lv_at hl 1 rfl) ?_
    refine f_lald (j := i) hx hb hK hg9 (by assumption) (by decide) dX2_count_18 ?_
    refine tp_l (y := lN (V i)) (hfv i (by assumption)) ?_
    refine lv_l2i (v := (lN (V i)).toInt32) hx hb dX2_count_19 (rfl) ?_
    refine lv_iload_n hx hb dX2_count_20 rfl (lv_at hl 2 rfl) ?_
    refine cn_S (As := [.int ((lN (V i)).toInt32), .int (nI d9)]) (rest := []) C0 hl hK hS hA (fun q h => absurd h id) (c_cInt l g s.heap ((lN (V i)).toInt32) d9 hd9) gX2_count_X2_countOfInt rfl ⟨rfl, rfl⟩ (show hd_ok yX2_countOfInt 2 from ⟨by decide, by decide, by decide +kernel⟩) ⟨Nat.le_of_ble_eq_true rfl, Nat.le_of_ble_eq_true rfl⟩ rfl (Nat.le_of_ble_eq_true rfl) ⟨Nat.zero_le _, Nat.zero_le _⟩ dX2_count_21 (fun r1 H1 locs hv hzz hk1 hS => ?_)
    obtain ⟨rfl, rv_2, rfl⟩ := hv
    refine lv_goto (tgt := 37) hx hb dX2_count_24 (by decide) ?_
    refine W.widen (k := 0) (n := 0) (by decide) (by decide) ?_
    exact rt_ni (mu := mC x0 lc tr tc sr sc) C0 rfl ⟨_, _, _, _, V, n, t, ⟨⟨_, rfl⟩, rfl, rfl, rfl⟩, hL⟩ hS rfl dX2_count_37
abbrev rmX2_put : Room := { frames := 1, cells := 0, slots := 0, locals := 21 }
set_option maxHeartbeats 4000000 in
set_option maxRecDepth 100000 in
theorem c_xPut (l : Launch) (g : Gx) (H0 : Heap) (x0 lc tr tc sr sc : Nat) (i3 i4 i5 i6 : Int32) (V : Nat → Nat) (n : Nat) (t : Nat → Nat) (hL : CL g H0 x0 lc tr tc sr sc i3 i4 i5 i6 V n t) (i : Nat) (hi : i < 8) (x y : Int32) : Met l yX2_put wsX2_put rmX2_put (va_Pc [.ref x0, .int (nI i), .int x, .int y] (hB g H0)) (nQ H0 (mC x0 lc tr tc sr sc) (zC g x0 lc tr tc sr sc (fun r V2 n2 t2 => (∃ rv : Int32, r = some (.int rv)) ∧ n2 = n ∧ t2 = t ∧ V2 = va_up V i (tN ((x.toInt64 <<< ((nI 32).toInt64 &&& 63)) ||| (y.toInt64 &&& lN 4294967295)))))) 0 0 (fun q => (mC x0 lc tr tc sr sc) q ∨ H0.size ≤ q) := by
  refine cx_met (own := RX2) (cc := cX2_put) (maxL := 4) (by decide) rfl rfl (Nat.le_of_ble_eq_true rfl) ?_
  intro p e s m below meth c ls C0 hB0 hnm hl
  obtain ⟨hH, hK⟩ := hB0
  obtain ⟨hx, hb, hr, hml, hown, hts, hlk⟩ := id C0
  subst hH
  have hS : va_S (fun q => (mC x0 lc tr tc sr sc) q ∨ s.heap.size ≤ q) s.heap s.heap [] := va_S.rf
  have hA : ∀ q : Nat, s.heap.size ≤ q → (fun q => (mC x0 lc tr tc sr sc) q ∨ s.heap.size ≤ q) q := fun q h => Or.inr h
  have hl : lv_has ls 4 [(0, .ref x0), (1, .int (nI i)), (2, .int x), (3, .int y)] := hl
  obtain ⟨hC, hR, hSp, hap⟩ := id hL
  obtain ⟨hf, hfl, hlc, ⟨f, hg9, hfv⟩, hV, hxl⟩ := id hC
  refine lv_iload_n hx hb dX2_put_0 rfl (lv_at hl 1 rfl) ?_
  refine cp_S (As := [.int (nI i)]) (rest := []) C0 hl hK hS hA (c_ckCell l g s.heap i (by assumption)) gX2_put_X2_checkCell rfl ⟨rfl, rfl⟩ (show hd_ok yX2_checkCell 1 from ⟨by decide, by decide, by decide +kernel⟩) ⟨Nat.le_of_ble_eq_true rfl, Nat.le_of_ble_eq_true rfl⟩ rfl (Nat.le_of_ble_eq_true rfl) ⟨Nat.zero_le _, Nat.zero_le _⟩ dX2_put_1 (fun locs hS => ?_)
  refine lv_aload_n hx hb dX2_put_4 rfl (lv_at hl 0 rfl) ?_
  refine va_get (ci := 3) (C := RX2) (T := TX2) (N := 7) (v := .ref lc) hx hb hts (by decide +kernel) hown hK.1 (p1 hf) 0 rfl rfl 0 (by decide) (hts (.fieldLink RX2 9 "Radixbench" "cells" "[J") (by decide +kernel)) (fun _ h9 => h9) rfl dX2_put_5 ?_
  refine lv_iload_n hx hb dX2_put_8 rfl (lv_at hl 1 rfl) ?_
  refine lv_iload_n hx hb dX2_put_9 rfl (lv_at hl 2 rfl) ?_
  refine lv_i2l (v := x.toInt64) hx hb dX2_put_10 (rfl) ?_
  refine lv_bipush (v := nI 32) hx hb dX2_put_11 (by decide) ?_
  refine lv_lshl (v := x.toInt64 <<< ((nI 32).toInt64 &&& 63)) hx hb dX2_put_13 (rfl) ?_
  refine lv_iload_n hx hb dX2_put_14 rfl (lv_at hl 3 rfl) ?_
  refine lv_i2l (v := y.toInt64) hx hb dX2_put_15 (rfl) ?_
  refine lv_ldc2 (v := lN 4294967295) hx hb hown (hts (.constantLong RX2 27 (4294967295)) (by decide +kernel)) dX2_put_16 ?_
  refine lv_land hx hb dX2_put_19 ?_
  refine lv_lor hx hb dX2_put_20 ?_
  refine f_last (j := i) hx hb hK hS hg9 (Or.inl (mC_l rfl)) hi (by decide) dX2_put_21 (fun H1 locs g1 z1 o1 hS => ?_)
  have hC1 : CC g H1 x0 lc (fCL lc tr sr i3 i4 i5 i6) (va_up V i (tN ((x.toInt64 <<< ((nI 32).toInt64 &&& 63)) ||| (y.toInt64 &&& lN 4294967295)))) := by
    refine ⟨hf.kept (o1 _ hxl), hfl, hlc, ⟨_, g1, fun j hj => ?_⟩, fun j hj => ?_, hxl⟩
    · unfold vp_updL va_up
      by_cases e : j = i
      · rw [if_pos e, if_pos e]
        exact lN_tN _
      · rw [if_neg e, if_neg e]
        exact hfv j hj
    · unfold va_up
      by_cases e : j = i
      · rw [if_pos e]
        exact tN_lt _
      · rw [if_neg e]
        exact hV j hj
  have hL1 := hL.setV hC1 (fun q _ hq => o1 q hq)
  obtain ⟨hf1, -, -, ⟨f1, hg1, hfv1⟩, -, -⟩ := id hC1
  refine lv_aload_n hx hb dX2_put_22 rfl (lv_at hl 0 rfl) ?_
  refine va_get (ci := 3) (C := RX2) (T := TX2) (N := 7) (v := .ref lc) hx hb hts (by decide +kernel) hown hK.1 (p1 hf1) 0 rfl rfl 0 (by decide) (hts (.fieldLink RX2 9 "Radixbench" "cells" "[J") (by decide +kernel)) (fun _ h9 => h9) rfl dX2_put_23 ?_
  refine lv_iload_n hx hb dX2_put_26 rfl (lv_at hl 1 rfl) ?_
  refine f_lald (j := i) hx hb hK hg1 hi (by decide) dX2_put_27 ?_
  refine cn_S (As := [.long (f1 i)]) (rest := []) C0 hl hK hS hA (fun q h => absurd h id) (c_bc64 l g H1 (f1 i)) gX2_put_J13_bitCount_95d88 rfl ⟨rfl, rfl⟩ (show hd_ok yJ13_bitCount_95d88 1 from ⟨by decide, by decide, by decide +kernel⟩) ⟨Nat.le_of_ble_eq_true rfl, Nat.le_of_ble_eq_true rfl⟩ rfl (Nat.le_of_ble_eq_true rfl) ⟨Nat.zero_le _, Nat.zero_le _⟩ dX2_put_28 (fun r1 H2 locs hv hzz hk1 hS => ?_)
  obtain ⟨rfl, rv, rfl⟩ := hv
  refine W.widen (k := 0) (n := 0) (by decide) (by decide) ?_
  exact rt_ni (mu := mC x0 lc tr tc sr sc) C0 rfl ⟨_, _, _, _, _, n, t, ⟨⟨_, rfl⟩, rfl, rfl, rfl⟩, hL1⟩ hS rfl dX2_put_31
abbrev rmJ6_rotateLeft_7cf53 : Room := { frames := 0, cells := 0, slots := 0, locals := 0 }
set_option maxHeartbeats 4000000 in
set_option maxRecDepth 100000 in
theorem c_rot32 (l : Launch) (g : Gx) (H0 : Heap) (x : Int32) (d : Int32) : Met l yJ6_rotateLeft_7cf53 wsJ6_rotateLeft_7cf53 rmJ6_rotateLeft_7cf53 (va_Pc [.int x, .int d] (hB g H0)) (pQ (some (.int (jR32 x d))) H0) 0 0 (fun q => H0.size ≤ q) := by
  refine cx_met (own := RJ6) (cc := cJ6_rotateLeft_7cf53) (maxL := 2) (by decide) rfl rfl (Nat.le_of_ble_eq_true rfl) ?_
  intro p e s m below meth c ls C0 hB0 hnm hl
  obtain ⟨hH, hK⟩ := hB0
  obtain ⟨hx, hb, hr, hml, hown, hts, hlk⟩ := id C0
  subst hH
  have hS : va_S (fun q => s.heap.size ≤ q) s.heap s.heap [] := va_S.rf
  have hA : ∀ q : Nat, s.heap.size ≤ q → s.heap.size ≤ q := fun q h => h
  have hl : lv_has ls 2 [(0, .int x), (1, .int d)] := hl
  refine lv_iload_n hx hb dJ6_rotateLeft_7cf53_0 rfl (lv_at hl 0 rfl) ?_
  refine lv_iload_n hx hb dJ6_rotateLeft_7cf53_1 rfl (lv_at hl 1 rfl) ?_
  refine lv_ishl hx hb dJ6_rotateLeft_7cf53_2 ?_
  refine lv_iload_n hx hb dJ6_rotateLeft_7cf53_3 rfl (lv_at hl 0 rfl) ?_
  refine lv_iload_n hx hb dJ6_rotateLeft_7cf53_4 rfl (lv_at hl 1 rfl) ?_
  refine lv_ineg hx hb dJ6_rotateLeft_7cf53_5 ?_
  refine lv_iushr (v := (x.toUInt32 >>> ((-d).toUInt32 &&& Int32.toUInt32 31)).toInt32) hx hb dJ6_rotateLeft_7cf53_6 (rfl) ?_
  refine lv_ior hx hb dJ6_rotateLeft_7cf53_7 ?_
  exact rt_i C0 rfl hS rfl dJ6_rotateLeft_7cf53_8
abbrev rmJ13_rotateLeft_b2ac5 : Room := { frames := 0, cells := 0, slots := 0, locals := 0 }
set_option maxHeartbeats 4000000 in
set_option maxRecDepth 100000 in
theorem c_rot64 (l : Launch) (g : Gx) (H0 : Heap) (x : Int64) (d : Int32) : Met l yJ13_rotateLeft_b2ac5 wsJ13_rotateLeft_b2ac5 rmJ13_rotateLeft_b2ac5 (va_Pc [.long x, .int d] (hB g H0)) (pQ (some (.long (jR64 x d))) H0) 0 0 (fun q => H0.size ≤ q) := by
  refine cx_met (own := RJ13) (cc := cJ13_rotateLeft_b2ac5) (maxL := 3) (by decide) rfl rfl (Nat.le_of_ble_eq_true rfl) ?_
  intro p e s m below meth c ls C0 hB0 hnm hl
  obtain ⟨hH, hK⟩ := hB0
  obtain ⟨hx, hb, hr, hml, hown, hts, hlk⟩ := id C0
  subst hH
  have hS : va_S (fun q => s.heap.size ≤ q) s.heap s.heap [] := va_S.rf
  have hA : ∀ q : Nat, s.heap.size ≤ q → s.heap.size ≤ q := fun q h => h
  have hl : lv_has ls 3 [(0, .long x), (2, .int d)] := hl
  refine lv_lload_n hx hb dJ13_rotateLeft_b2ac5_0 rfl (lv_at hl 0 rfl) ?_
  refine lv_iload_n hx hb dJ13_rotateLeft_b2ac5_1 rfl (lv_at hl 1 rfl) ?_
  refine lv_lshl (v := x <<< (d.toInt64 &&& 63)) hx hb dJ13_rotateLeft_b2ac5_2 (rfl) ?_
  refine lv_lload_n hx hb dJ13_rotateLeft_b2ac5_3 rfl (lv_at hl 0 rfl) ?_
  refine lv_iload_n hx hb dJ13_rotateLeft_b2ac5_4 rfl (lv_at hl 1 rfl) ?_
  refine lv_ineg hx hb dJ13_rotateLeft_b2ac5_5 ?_
  refine lv_lushr (v := (x.toUInt64 >>> ((-d).toInt64.toUInt64 &&& Int64.toUInt64 63)).toInt64) hx hb dJ13_rotateLeft_b2ac5_6 (rfl) ?_
  refine lv_lor hx hb dJ13_rotateLeft_b2ac5_7 ?_
  exact rt_l C0 rfl hS rfl dJ13_rotateLeft_b2ac5_8
/-- a cell turned -/
def tuV (zi : Bool) (v : Nat) (d : Int32) : Nat := tN (if zi = true then (jR32 (nI v) d).toInt64 else jR64 (lN v) d)
abbrev rmX2_turn : Room := { frames := 1, cells := 0, slots := 0, locals := 24 }
set_option maxHeartbeats 4000000 in
set_option maxRecDepth 100000 in
theorem c_xTurn (l : Launch) (g : Gx) (H0 : Heap) (x0 lc tr tc sr sc : Nat) (i3 i4 i5 i6 : Int32) (V : Nat → Nat) (n : Nat) (t : Nat → Nat) (hL : CL g H0 x0 lc tr tc sr sc i3 i4 i5 i6 V n t) (i : Nat) (hi : i < 8) (y : Int32) (zi : Bool) : Met l yX2_turn wsX2_turn rmX2_turn (va_Pc [.ref x0, .int (nI i), .int y, .int (bI zi)] (hB g H0)) (nQ H0 (mC x0 lc tr tc sr sc) (zC g x0 lc tr tc sr sc (fun r V2 n2 t2 => r = some (.int (bI (!decide (tuV zi (V i) y = V i)))) ∧ n2 = n ∧ t2 = t ∧ V2 = va_up V i (tuV zi (V i) y)))) 0 0 (fun q => (mC x0 lc tr tc sr sc) q ∨ H0.size ≤ q) := by
  refine cx_met (own := RX2) (cc := cX2_turn) (maxL := 6) (by decide) rfl rfl (Nat.le_of_ble_eq_true rfl) ?_
  intro p e s m below meth c ls C0 hB0 hnm hl
  obtain ⟨hH, hK⟩ := hB0
  obtain ⟨hx, hb, hr, hml, hown, hts, hlk⟩ := id C0
  subst hH
  have hS : va_S (fun q => (mC x0 lc tr tc sr sc) q ∨ s.heap.size ≤ q) s.heap s.heap [] := va_S.rf
  have hA : ∀ q : Nat, s.heap.size ≤ q → (fun q => (mC x0 lc tr tc sr sc) q ∨ s.heap.size ≤ q) q := fun q h => Or.inr h
  have hl : lv_has ls 6 [(0, .ref x0), (1, .int (nI i)), (2, .int y), (3, .int (bI zi))] := hl
  obtain ⟨hC, hR, hSp, hap⟩ := id hL
  obtain ⟨hf, hfl, hlc, ⟨f, hg9, hfv⟩, hV, hxl⟩ := id hC
  have hw9 : tuV zi (V i) y < 65536 ^ 4 := tN_lt _
  refine lv_iload_n hx hb dX2_turn_0 rfl (lv_at hl 1 rfl) ?_
  refine cp_S (As := [.int (nI i)]) (rest := []) C0 hl hK hS hA (c_ckCell l g s.heap i (by assumption)) gX2_turn_X2_checkCell rfl ⟨rfl, rfl⟩ (show hd_ok yX2_checkCell 1 from ⟨by decide, by decide, by decide +kernel⟩) ⟨Nat.le_of_ble_eq_true rfl, Nat.le_of_ble_eq_true rfl⟩ rfl (Nat.le_of_ble_eq_true rfl) ⟨Nat.zero_le _, Nat.zero_le _⟩ dX2_turn_1 (fun locs hS => ?_)
  refine lv_aload_n hx hb dX2_turn_4 rfl (lv_at hl 0 rfl) ?_
  refine va_get (ci := 3) (C := RX2) (T := TX2) (N := 7) (v := .ref lc) hx hb hts (by decide +kernel) hown hK.1 (p1 hf) 0 rfl rfl 0 (by decide) (hts (.fieldLink RX2 9 "Radixbench" "cells" "[J") (by decide +kernel)) (fun _ h9 => h9) rfl dX2_turn_5 ?_
  refine lv_iload_n hx hb dX2_turn_8 rfl (lv_at hl 1 rfl) ?_
  refine f_lald (j := i) hx hb hK hg9 (by assumption) (by decide) dX2_turn_9 ?_
  refine tp_l (y := lN (V i)) (hfv i (by assumption)) ?_
  refine lv_lstore (lv' := [(4, .long (lN (V i))), (0, .ref x0), (1, .int (nI i)), (2, .int y), (3, .int (bI zi))]) hx hb dX2_turn_10 hl (by decide) rfl (fun ls hl => ?_)
  refine lv_iload_n hx hb dX2_turn_12 rfl (lv_at hl 4 rfl) ?_
  refine lv_if_eq (tgt := 30) hx hb dX2_turn_13 (by decide) (fun h1 => ?_) (fun h1 => ?_)
  · skip
    have z1 := bI_0 h1
    refine lv_aload_n hx hb dX2_turn_30 rfl (lv_at hl 1 rfl) ?_
    refine lv_iload_n hx hb dX2_turn_31 rfl (lv_at hl 2 rfl) ?_
    refine lv_lload hx hb dX2_turn_32 (lv_at hl 0 rfl) ?_
    refine lv_iload_n hx hb dX2_turn_34 rfl (lv_at hl 3 rfl) ?_
    refine cp_S (As := [.long (lN (V i)), .int y]) (rest := [.int (nI i), .ref x0]) C0 hl hK hS hA (c_rot64 l g s.heap (lN (V i)) y) gX2_turn_J13_rotateLeft_b2ac5 rfl ⟨rfl, rfl⟩ (show hd_ok yJ13_rotateLeft_b2ac5 2 from ⟨by decide, by decide, by decide +kernel⟩) ⟨Nat.le_of_ble_eq_true rfl, Nat.le_of_ble_eq_true rfl⟩ rfl (Nat.le_of_ble_eq_true rfl) ⟨Nat.zero_le _, Nat.zero_le _⟩ dX2_turn_35 (fun locs hS => ?_)
    refine tp_l (y := lN (tuV zi (V i) y)) ((by unfold tuV; rw [z1, if_neg (by decide)]; exact lN_tN _)) ?_
    refine cn_V (As := [.int (nI i), .long (lN (tuV zi (V i) y))]) (rest := []) C0 hl hK hS hA (fun q h => Or.inl (mC_l h)) (c_becC l g s.heap x0 lc _ V hC i (tuV zi (V i) y) (by assumption) hw9) gX2_turn_X2_become rfl ⟨rfl, rfl⟩ (hC.recv hK) ⟨rfl, (show hd_ok yX2_become 2 from ⟨by decide, by decide, by decide +kernel⟩)⟩ ⟨Nat.le_of_ble_eq_true rfl, Nat.le_of_ble_eq_true rfl⟩ rfl (Nat.le_of_ble_eq_true rfl) ⟨Nat.zero_le _, Nat.zero_le _⟩ dX2_turn_38 (fun r1 H1 locs hv hzz hk1 hS => ?_)
    obtain ⟨rfl, hC1⟩ := hv
    refine W.widen (k := 0) (n := 0) (by decide) (by decide) ?_
    exact rt_ni (mu := mC x0 lc tr tc sr sc) C0 (bI_nar _) ⟨i3, i4, i5, i6, _, n, t, ⟨rfl, rfl, rfl, rfl⟩, hL.setV hC1 hk1⟩ hS rfl dX2_turn_41
  · skip
    have z1 := bI_n0 h1
    refine lv_aload_n hx hb dX2_turn_16 rfl (lv_at hl 1 rfl) ?_
    refine lv_iload_n hx hb dX2_turn_17 rfl (lv_at hl 2 rfl) ?_
    refine lv_lload hx hb dX2_turn_18 (lv_at hl 0 rfl) ?_
    refine lv_l2i (v := nI (V i)) hx hb dX2_turn_20 (lN_i _) ?_
    refine lv_iload_n hx hb dX2_turn_21 rfl (lv_at hl 3 rfl) ?_
    refine cp_S (As := [.int (nI (V i)), .int y]) (rest := [.int (nI i), .ref x0]) C0 hl hK hS hA (c_rot32 l g s.heap (nI (V i)) y) gX2_turn_J6_rotateLeft_7cf53 rfl ⟨rfl, rfl⟩ (show hd_ok yJ6_rotateLeft_7cf53 2 from ⟨by decide, by decide, by decide +kernel⟩) ⟨Nat.le_of_ble_eq_true rfl, Nat.le_of_ble_eq_true rfl⟩ rfl (Nat.le_of_ble_eq_true rfl) ⟨Nat.zero_le _, Nat.zero_le _⟩ dX2_turn_22 (fun locs hS => ?_)
    refine lv_i2l (v := (jR32 (nI (V i)) y).toInt64) hx hb dX2_turn_25 (rfl) ?_
    refine tp_l (y := lN (tuV zi (V i) y)) ((by unfold tuV; rw [z1, if_pos rfl]; exact lN_tN _)) ?_
    refine cn_V (As := [.int (nI i), .long (lN (tuV zi (V i) y))]) (rest := []) C0 hl hK hS hA (fun q h => Or.inl (mC_l h)) (c_becC l g s.heap x0 lc _ V hC i (tuV zi (V i) y) (by assumption) hw9) gX2_turn_X2_become rfl ⟨rfl, rfl⟩ (hC.recv hK) ⟨rfl, (show hd_ok yX2_become 2 from ⟨by decide, by decide, by decide +kernel⟩)⟩ ⟨Nat.le_of_ble_eq_true rfl, Nat.le_of_ble_eq_true rfl⟩ rfl (Nat.le_of_ble_eq_true rfl) ⟨Nat.zero_le _, Nat.zero_le _⟩ dX2_turn_26 (fun r1 H1 locs hv hzz hk1 hS => ?_)
    obtain ⟨rfl, hC1⟩ := hv
    refine W.widen (k := 0) (n := 0) (by decide) (by decide) ?_
    exact rt_ni (mu := mC x0 lc tr tc sr sc) C0 (bI_nar _) ⟨i3, i4, i5, i6, _, n, t, ⟨rfl, rfl, rfl, rfl⟩, hL.setV hC1 hk1⟩ hS rfl dX2_turn_29
end M70

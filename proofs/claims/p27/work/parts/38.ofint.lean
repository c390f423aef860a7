-- an int as a row of two; put
/-- an int without its sign -/
def uN (x : Int32) : Nat := (x.toInt % 4294967296).toNat
theorem uN_lt (x : Int32) : uN x < 4294967296 := by unfold uN; omega
theorem oi_lo1 {x : Int32} (h : 0 ≤ oiT x) : oiT x = nI (uN x % 65536) := by
  have h1 := x.minValue_le_toInt
  have h2 := x.toInt_lt
  have h3 := oi_abs (z := x.toInt) (by exact h1) (by exact h2)
  have h4 := oiT_toInt x
  have h5 : (0 : Int) ≤ (oiT x).toInt := Int32.le_iff_toInt_le.mp h
  refine Int32.toInt_inj.mp ?_
  rw [nI_toInt (by omega)]
  unfold uN
  rw [h4] at h5 ⊢
  generalize x.toInt = z at *
  omega
theorem oi_lo2 {x : Int32} (h : ¬ 0 ≤ oiT x) : oiT x + nI 65536 = nI (uN x % 65536) := by
  have h1 := x.minValue_le_toInt
  have h2 := x.toInt_lt
  have h3 := oi_abs (z := x.toInt) (by exact h1) (by exact h2)
  have h4 := oiT_toInt x
  have h5 : ¬ (0 : Int) ≤ (oiT x).toInt := fun z => h (Int32.le_iff_toInt_le.mpr z)
  have h6 : (nI 65536).toInt = 65536 := nI_toInt (by decide)
  refine Int32.toInt_inj.mp ?_
  rw [nI_toInt (by omega), Int32.toInt_add, h6]
  unfold uN
  rw [h4] at h5 ⊢
  show (x.toInt.tmod 65536 + 65536).bmod 4294967296 = _
  rw [Int.bmod_eq_of_le (by omega) (by omega)]
  generalize x.toInt = z at *
  omega
/-- the high half of an int, with its sign -/
def oiH (x : Int32) : Int32 := (x - nI (uN x % 65536)) / nI 65536
theorem oiH_toInt (x : Int32) : (oiH x).toInt = x.toInt / 65536 := by
  have h1 : (-2147483648 : Int) ≤ x.toInt := x.minValue_le_toInt
  have h2 : x.toInt < 2147483648 := x.toInt_lt
  have h6 : (nI 65536).toInt = 65536 := nI_toInt (by decide)
  unfold oiH
  rw [Int32.toInt_div, h6, Int32.toInt_sub, nI_toInt (by omega)]
  unfold uN
  have e0 : ((((x.toInt % 4294967296).toNat % 65536 : Nat)) : Int) = x.toInt % 65536 := by omega
  rw [e0]
  generalize x.toInt = z at *
  have e1 : (z - z % 65536).bmod 4294967296 = z - z % 65536 := Int.bmod_eq_of_le (by omega) (by omega)
  show (((z - z % 65536).bmod 4294967296).tdiv 65536).bmod 4294967296 = _
  rw [e1]
  have e2 : z - z % 65536 = z / 65536 * 65536 := by omega
  rw [e2, Int.mul_tdiv_cancel _ (by decide)]
  exact Int.bmod_eq_of_le (by omega) (by omega)
theorem oi_hi1 {x : Int32} (h : 0 ≤ oiH x) : oiH x = nI (uN x / 65536) := by
  have h1 : (-2147483648 : Int) ≤ x.toInt := x.minValue_le_toInt
  have h2 : x.toInt < 2147483648 := x.toInt_lt
  have h4 := oiH_toInt x
  have h5 : (0 : Int) ≤ (oiH x).toInt := Int32.le_iff_toInt_le.mp h
  have h7 := uN_lt x
  refine Int32.toInt_inj.mp ?_
  rw [nI_toInt (by omega)]
  unfold uN
  rw [h4] at h5 ⊢
  generalize x.toInt = z at *
  omega
theorem oi_hi2 {x : Int32} (h : ¬ 0 ≤ oiH x) : oiH x + nI 65536 = nI (uN x / 65536) := by
  have h1 : (-2147483648 : Int) ≤ x.toInt := x.minValue_le_toInt
  have h2 : x.toInt < 2147483648 := x.toInt_lt
  have h4 := oiH_toInt x
  have h5 : ¬ (0 : Int) ≤ (oiH x).toInt := fun z => h (Int32.le_iff_toInt_le.mpr z)
  have h6 : (nI 65536).toInt = 65536 := nI_toInt (by decide)
  have h7 := uN_lt x
  refine Int32.toInt_inj.mp ?_
  rw [nI_toInt (by omega), Int32.toInt_add, h6]
  unfold uN
  rw [h4] at h5 ⊢
  show (x.toInt / 65536 + 65536).bmod 4294967296 = _
  rw [Int.bmod_eq_of_le (by omega) (by omega)]
  generalize x.toInt = z at *
  omega
theorem oi_row {x : Int32} : ∀ k, k < 2 → upd (upd (fun _ => 0) 0 (nI (uN x % 65536))) 1 (nI (uN x / 65536)) k = rw16 (uN x) k := fun k hk => by
  have h7 := uN_lt x
  rcases (show k = 0 ∨ k = 1 by omega) with rfl | rfl
  · show nI (uN x % 65536) = nI (uN x / 65536 ^ 0 % 65536)
    rw [Nat.pow_zero, Nat.div_one]
  · show nI (uN x / 65536) = nI (uN x / 65536 ^ 1 % 65536)
    rw [Nat.pow_one, Nat.mod_eq_of_lt (by omega : uN x / 65536 < 65536)]
section M38
variable {p : Program} {l : Launch} {e : Env} {s : State} {m : MethodId} {args : Array Value} {below : List Frame} {meth : Method} {c : Code} {H H0 : Heap} {locs : List Loc} {cells slots : Nat} {Q : State → Prop} {A : Nat → Prop} {g : Gx}
abbrev rmX4_ofInt : Room := { frames := 0, cells := 1, slots := 4, locals := 0 }
set_option maxHeartbeats 4000000 in
set_option maxRecDepth 100000 in
/-- ofInt(number) -/
theorem c_ofInt (l : Launch) (g : Gx) (H0 : Heap) (x : Int32) : Met l yX4_ofInt wsX4_ofInt rmX4_ofInt (va_Pc [.int x] (hB g H0)) (nQ H0 (fun _ => False) (mkR g H0 2 (uN x))) 1 4 (fun q => False ∨ H0.size ≤ q) := by
  refine cx_met (own := RX4) (cc := cX4_ofInt) (maxL := 3) (by decide) rfl rfl (Nat.le_of_ble_eq_true rfl) ?_
  intro p e s m below meth c ls C0 hB0 hnm hl
  obtain ⟨hH, hK⟩ := hB0
  obtain ⟨hx, hb, hr, hml, hown, hts, hlk⟩ := id C0
  subst hH
  have hS : va_S (fun q => False ∨ s.heap.size ≤ q) s.heap s.heap [] := va_S.rf
  have hA : ∀ q : Nat, s.heap.size ≤ q → (fun q => False ∨ s.heap.size ≤ q) q := fun q h => Or.inr h
  have hl : lv_has ls 3 [(0, .int x)] := hl
  refine lv_iload_n hx hb dX4_ofInt_0 rfl (lv_at hl 0 rfl) ?_
  refine lv_ldc (v := nI 65536) hx hb hown (hts (.constant RX4 52 (65536)) (by decide +kernel)) dX4_ofInt_1 ?_
  refine lv_irem hx hb dX4_ofInt_3 (by decide) ?_
  refine tp_i (y := oiT x) (rfl) ?_
  refine lv_istore_n (lv' := [(1, .int (oiT x)), (0, .int x)]) hx hb dX4_ofInt_4 rfl hl (by decide) rfl (fun ls hl => ?_)
  refine lv_iload_n hx hb dX4_ofInt_5 rfl (lv_at hl 0 rfl) ?_
  refine lv_if_ge (tgt := 14) hx hb dX4_ofInt_6 (by decide) (fun h1 => ?_) (fun h1 => ?_)
  · skip
    rw [oi_lo1 h1] at hl
    refine lv_iload_n hx hb dX4_ofInt_14 rfl (lv_at hl 1 rfl) ?_
    refine lv_iload_n hx hb dX4_ofInt_15 rfl (lv_at hl 0 rfl) ?_
    refine lv_isub hx hb dX4_ofInt_16 ?_
    refine lv_ldc (v := nI 65536) hx hb hown (hts (.constant RX4 52 (65536)) (by decide +kernel)) dX4_ofInt_17 ?_
    refine lv_idiv hx hb dX4_ofInt_19 (by decide) ?_
    refine tp_i (y := oiH x) (rfl) ?_
    refine lv_istore_n (lv' := [(2, .int (oiH x)), (1, .int (nI (uN x % 65536))), (0, .int x)]) hx hb dX4_ofInt_20 rfl hl (by decide) rfl (fun ls hl => ?_)
    refine lv_iconst (v := nI 2) hx hb dX4_ofInt_21 (by decide) ?_
    refine w_newi hx hb (hts (.arrayClass .int) (by decide +kernel)) hK p0 d0 hS hA (by omega) (by decide) (by show _ ≤ 4; omega) dX4_ofInt_22 (fun q H1 hq hP hD hS => ?_)
    have hP : va_P g.1 vwCl [(q, .inl (g.2 0, 2, .inl (fun _ => 0)))] H1 := hP
    have hD : va_D _ [(q, .inl (g.2 0, 2, .inl (fun _ => 0)))] := hD
    refine lv_dup hx hb dX4_ofInt_24 rfl ?_
    refine lv_iconst (v := nI 0) hx hb dX4_ofInt_25 (by decide) ?_
    refine lv_iload_n hx hb dX4_ofInt_26 rfl (lv_at hl 1 rfl) ?_
    refine w_iast (j := 0) hx hb hK hP hD hS 0 rfl (by decide) (by decide) dX4_ofInt_27 (fun H locs hP hD hS => ?_)
    have hP : va_P g.1 vwCl [(q, .inl (g.2 0, 2, .inl (upd (fun _ => 0) 0 (nI (uN x % 65536)))))] H := hP
    have hD : va_D _ [(q, .inl (g.2 0, 2, .inl (upd (fun _ => 0) 0 (nI (uN x % 65536)))))] := hD
    refine lv_dup hx hb dX4_ofInt_28 rfl ?_
    refine lv_iconst (v := nI 1) hx hb dX4_ofInt_29 (by decide) ?_
    refine lv_iload_n hx hb dX4_ofInt_30 rfl (lv_at hl 0 rfl) ?_
    refine lv_if_ge (tgt := 41) hx hb dX4_ofInt_31 (by decide) (fun h2 => ?_) (fun h2 => ?_)
    · skip
      refine lv_iload_n hx hb dX4_ofInt_41 rfl (lv_at hl 0 rfl) ?_
      refine tp_i (y := nI (uN x / 65536)) (oi_hi1 h2) ?_
      refine w_iast (j := 1) hx hb hK hP hD hS 0 rfl (by decide) (by decide) dX4_ofInt_42 (fun H locs hP hD hS => ?_)
      have hP : va_P g.1 vwCl [(q, .inl (g.2 0, 2, .inl (upd (upd (fun _ => 0) 0 (nI (uN x % 65536))) 1 (nI (uN x / 65536)))))] H := hP
      have hD : va_D _ [(q, .inl (g.2 0, 2, .inl (upd (upd (fun _ => 0) 0 (nI (uN x % 65536))) 1 (nI (uN x / 65536)))))] := hD
      refine W.widen (k := 1) (n := 4) (by decide) (by decide) ?_
      exact rt_a (mu := fun _ => False) C0 (Or.inr ⟨_, rfl⟩) ⟨q, rfl, hq, at_cong (hP 0 _ rfl) oi_row⟩ hS rfl dX4_ofInt_43
    · skip
      refine lv_iload_n hx hb dX4_ofInt_34 rfl (lv_at hl 0 rfl) ?_
      refine lv_ldc (v := nI 65536) hx hb hown (hts (.constant RX4 52 (65536)) (by decide +kernel)) dX4_ofInt_35 ?_
      refine lv_iadd hx hb dX4_ofInt_37 ?_
      refine tp_i (y := nI (uN x / 65536)) (oi_hi2 h2) ?_
      refine lv_goto (tgt := 42) hx hb dX4_ofInt_38 (by decide) ?_
      refine w_iast (j := 1) hx hb hK hP hD hS 0 rfl (by decide) (by decide) dX4_ofInt_42 (fun H locs hP hD hS => ?_)
      have hP : va_P g.1 vwCl [(q, .inl (g.2 0, 2, .inl (upd (upd (fun _ => 0) 0 (nI (uN x % 65536))) 1 (nI (uN x / 65536)))))] H := hP
      have hD : va_D _ [(q, .inl (g.2 0, 2, .inl (upd (upd (fun _ => 0) 0 (nI (uN x % 65536))) 1 (nI (uN x / 65536)))))] := hD
      refine W.widen (k := 1) (n := 4) (by decide) (by decide) ?_
      exact rt_a (mu := fun _ => False) C0 (Or.inr ⟨_, rfl⟩) ⟨q, rfl, hq, at_cong (hP 0 _ rfl) oi_row⟩ hS rfl dX4_ofInt_43
  · skip
    refine lv_iload_n hx hb dX4_ofInt_9 rfl (lv_at hl 0 rfl) ?_
    refine lv_ldc (v := nI 65536) hx hb hown (hts (.constant RX4 52 (65536)) (by decide +kernel)) dX4_ofInt_10 ?_
    refine lv_iadd hx hb dX4_ofInt_12 ?_
    refine tp_i (y := nI (uN x % 65536)) (oi_lo2 h1) ?_
    refine lv_istore_n (lv' := [(1, .int (nI (uN x % 65536))), (0, .int x)]) hx hb dX4_ofInt_13 rfl hl (by decide) rfl (fun ls hl => ?_)
    refine lv_iload_n hx hb dX4_ofInt_14 rfl (lv_at hl 1 rfl) ?_
    refine lv_iload_n hx hb dX4_ofInt_15 rfl (lv_at hl 0 rfl) ?_
    refine lv_isub hx hb dX4_ofInt_16 ?_
    refine lv_ldc (v := nI 65536) hx hb hown (hts (.constant RX4 52 (65536)) (by decide +kernel)) dX4_ofInt_17 ?_
    refine lv_idiv hx hb dX4_ofInt_19 (by decide) ?_
    refine tp_i (y := oiH x) (rfl) ?_
    refine lv_istore_n (lv' := [(2, .int (oiH x)), (1, .int (nI (uN x % 65536))), (0, .int x)]) hx hb dX4_ofInt_20 rfl hl (by decide) rfl (fun ls hl => ?_)
    refine lv_iconst (v := nI 2) hx hb dX4_ofInt_21 (by decide) ?_
    refine w_newi hx hb (hts (.arrayClass .int) (by decide +kernel)) hK p0 d0 hS hA (by omega) (by decide) (by show _ ≤ 4; omega) dX4_ofInt_22 (fun q H1 hq hP hD hS => ?_)
    have hP : va_P g.1 vwCl [(q, .inl (g.2 0, 2, .inl (fun _ => 0)))] H1 := hP
    have hD : va_D _ [(q, .inl (g.2 0, 2, .inl (fun _ => 0)))] := hD
    refine lv_dup hx hb dX4_ofInt_24 rfl ?_
    refine lv_iconst (v := nI 0) hx hb dX4_ofInt_25 (by decide) ?_
    refine lv_iload_n hx hb dX4_ofInt_26 rfl (lv_at hl 1 rfl) ?_
    refine w_iast (j := 0) hx hb hK hP hD hS 0 rfl (by decide) (by decide) dX4_ofInt_27 (fun H locs hP hD hS => ?_)
    have hP : va_P g.1 vwCl [(q, .inl (g.2 0, 2, .inl (upd (fun _ => 0) 0 (nI (uN x % 65536)))))] H := hP
    have hD : va_D _ [(q, .inl (g.2 0, 2, .inl (upd (fun _ => 0) 0 (nI (uN x % 65536)))))] := hD
    refine lv_dup hx hb dX4_ofInt_28 rfl ?_
    refine lv_iconst (v := nI 1) hx hb dX4_ofInt_29 (by decide) ?_
    refine lv_iload_n hx hb dX4_ofInt_30 rfl (lv_at hl 0 rfl) ?_
    refine lv_if_ge (tgt := 41) hx hb dX4_ofInt_31 (by decide) (fun h2 => ?_) (fun h2 => ?_)
    · skip
      refine lv_iload_n hx hb dX4_ofInt_41 rfl (lv_at hl 0 rfl) ?_
      refine tp_i (y := nI (uN x / 65536)) (oi_hi1 h2) ?_
      refine w_iast (j := 1) hx hb hK hP hD hS 0 rfl (by decide) (by decide) dX4_ofInt_42 (fun H locs hP hD hS => ?_)
      have hP : va_P g.1 vwCl [(q, .inl (g.2 0, 2, .inl (upd (upd (fun _ => 0) 0 (nI (uN x % 65536))) 1 (nI (uN x / 65536)))))] H := hP
      have hD : va_D _ [(q, .inl (g.2 0, 2, .inl (upd (upd (fun _ => 0) 0 (nI (uN x % 65536))) 1 (nI (uN x / 65536)))))] := hD
      refine W.widen (k := 1) (n := 4) (by decide) (by decide) ?_
      exact rt_a (mu := fun _ => False) C0 (Or.inr ⟨_, rfl⟩) ⟨q, rfl, hq, at_cong (hP 0 _ rfl) oi_row⟩ hS rfl dX4_ofInt_43
    · skip
      refine lv_iload_n hx hb dX4_ofInt_34 rfl (lv_at hl 0 rfl) ?_
      refine lv_ldc (v := nI 65536) hx hb hown (hts (.constant RX4 52 (65536)) (by decide +kernel)) dX4_ofInt_35 ?_
      refine lv_iadd hx hb dX4_ofInt_37 ?_
      refine tp_i (y := nI (uN x / 65536)) (oi_hi2 h2) ?_
      refine lv_goto (tgt := 42) hx hb dX4_ofInt_38 (by decide) ?_
      refine w_iast (j := 1) hx hb hK hP hD hS 0 rfl (by decide) (by decide) dX4_ofInt_42 (fun H locs hP hD hS => ?_)
      have hP : va_P g.1 vwCl [(q, .inl (g.2 0, 2, .inl (upd (upd (fun _ => 0) 0 (nI (uN x % 65536))) 1 (nI (uN x / 65536)))))] H := hP
      have hD : va_D _ [(q, .inl (g.2 0, 2, .inl (upd (upd (fun _ => 0) 0 (nI (uN x % 65536))) 1 (nI (uN x / 65536)))))] := hD
      refine W.widen (k := 1) (n := 4) (by decide) (by decide) ?_
      exact rt_a (mu := fun _ => False) C0 (Or.inr ⟨_, rfl⟩) ⟨q, rfl, hq, at_cong (hP 0 _ rfl) oi_row⟩ hS rfl dX4_ofInt_43
end M38

-- THE CLASS: its cells
/-- the class's object at x0: its fields fs, its cells V in the longs at lc -/
def CC (g : Gx) (H : Heap) (x0 lc : Nat) (fs : List Value) (V : Nat → Nat) : Prop :=
  va_at g.1 vwCl (x0, .inr (3, fs)) H ∧ fs.length = 7 ∧ fs[0]? = some (.ref lc) ∧ (∃ f : Nat → Int64, va_at g.1 vwCl (lc, .inl (g.2 2, 8, .inr (.inl f))) H ∧ ∀ i, i < 8 → f i = lN (V i)) ∧ (∀ i, i < 8 → V i < 65536 ^ 4) ∧ x0 ≠ lc
theorem CC.kept {g : Gx} {H H1 : Heap} {x0 lc : Nat} {fs : List Value} {V : Nat → Nat} (h : CC g H x0 lc fs V) (h1 : H1[x0]? = H[x0]?) (h2 : H1[lc]? = H[lc]?) : CC g H1 x0 lc fs V := by
  obtain ⟨a1, a2, a3, ⟨f, a4, a5⟩, a6⟩ := h
  exact ⟨a1.kept h1, a2, a3, ⟨f, a4.kept h2, a5⟩, a6⟩
theorem CC.recv {g : Gx} {s : State} {H : Heap} {x0 lc : Nat} {fs : List Value} {V : Nat → Nat} (hK : KK g s) (h : CC g H x0 lc fs V) : ∃ cell : Cell, H[x0]? = some cell ∧ cell.vm.isStatics = false ∧ s.vm.findClass RX2 = some cell.cls := va_recv hK.1 (p1 h.1) (ci := 3) (q0 := 0) rfl rfl
theorem nI_ti {w : Nat} (h : w < 2 ^ 32) : (nI w).toInt = if w < 2 ^ 31 then (w : Int) else (w : Int) - 2 ^ 32 := by
  split
  · rename_i h2
    exact nI_toInt h2
  · rename_i h2
    have h3 : nI w = nI (w - 2 ^ 31) + nI (2 ^ 31 - 1) + nI 1 := by rw [nI_add, nI_add]; congr 1; omega
    rw [h3, Int32.toInt_add, Int32.toInt_add, nI_toInt (by omega), nI_toInt (by decide), nI_toInt (by decide)]
    show ((((w - 2 ^ 31 : Nat) : Int) + ((2 ^ 31 - 1 : Nat) : Int)).bmod 4294967296 + ((1 : Nat) : Int)).bmod 4294967296 = _
    simp only [Int.bmod_def]
    omega
theorem i2l_sx (n : Nat) : (nI n).toInt64 = lN (wideN 2 (n % 65536 ^ 2)) := by
  have hw : n % 65536 ^ 2 < 2 ^ 32 := Nat.mod_lt _ (by decide)
  have e : nI n = nI (n % 65536 ^ 2) := (nI_mod n).symm
  rw [e]
  generalize n % 65536 ^ 2 = w at hw
  refine Int64.toInt_inj.mp ?_
  have hb : wideN 2 w < 2 ^ 64 := wideN_lt (Or.inl rfl) hw
  rw [Int32.toInt_toInt64, nI_ti hw, l_ti hb]
  unfold wideN
  repeat' split
  all_goals omega
theorem land32 {u : Nat} (hu : u < 2 ^ 64) : lN u &&& lN 4294967295 = lN (u % 65536 ^ 2) := wb_mask hu (k := 32) (by decide)
/-- what is told of a class's cell is what the model tells -/
theorem tl_isT {v r9 d9 k : Nat} {t : Nat → Nat} (hv : v < 65536 ^ 4) (hd : d9 < 4) {u : Nat} (hu : u = if d9 % 2 = 0 then wideN (nP (decide (d9 < 2))) (v % 65536 ^ nP (decide (d9 < 2))) else v % 65536 ^ nP (decide (d9 < 2)))
    (h : tlQ r9 (if decide (d9 % 2 = 0) = true ∧ 2 ^ 63 ≤ u then 2 ^ 64 - u else u) (decide (decide (d9 % 2 = 0) = true ∧ 2 ^ 63 ≤ u)) k t) : isT r9 (nP (decide (d9 < 2))) (v % 65536 ^ nP (decide (d9 < 2))) (decide (d9 % 2 = 0)) k t := by
  have hcase : d9 = 0 ∨ d9 = 1 ∨ d9 = 2 ∨ d9 = 3 := by omega
  have hmod : v % 65536 ^ 4 = v := Nat.mod_eq_of_lt hv
  have hw := Nat.mod_lt v (show 65536 ^ 2 > 0 by decide)
  have key : ∀ (ab w : Nat) (m : Nat), (2 ^ 63 ≤ u ↔ 65536 ^ m ≤ 2 * w) → (2 ^ 63 ≤ u → 2 ^ 64 - u = 65536 ^ m - w) → (¬ 2 ^ 63 ≤ u → u = w) → tlQ r9 (if (true = true) ∧ 2 ^ 63 ≤ u then 2 ^ 64 - u else u) (decide ((true = true) ∧ 2 ^ 63 ≤ u)) k t → isT r9 m w true k t := fun ab w m h1 h2 h3 hq => by
    by_cases hb : 2 ^ 63 ≤ u
    · rw [if_pos ⟨rfl, hb⟩, decide_eq_true ⟨rfl, hb⟩, h2 hb] at hq
      rcases hq with ⟨z, -⟩ | ⟨-, hq⟩
      · exact absurd z (by decide)
      · exact Or.inr ⟨⟨rfl, h1.mp hb⟩, hq⟩
    · rw [if_neg (fun z => hb z.2), decide_eq_false (fun z => hb z.2), h3 hb] at hq
      rcases hq with ⟨-, hq⟩ | ⟨z, -⟩
      · exact Or.inl ⟨fun z => hb (h1.mpr z.2), hq⟩
      · exact absurd z (by decide)
  have key2 : ∀ (w m : Nat), u = w → tlQ r9 (if (false = true) ∧ 2 ^ 63 ≤ u then 2 ^ 64 - u else u) (decide ((false = true) ∧ 2 ^ 63 ≤ u)) k t → isT r9 m w false k t := fun w m h1 hq => by
    rw [if_neg (fun z => absurd z.1 (by decide)), decide_eq_false (fun z => absurd z.1 (by decide)), h1] at hq
    rcases hq with ⟨-, hq⟩ | ⟨z, -⟩
    · exact Or.inl ⟨fun z => absurd z.1 (by decide), hq⟩
    · exact absurd z (by decide)
  rcases hcase with rfl | rfl | rfl | rfl
  · have hu' : u = wideN 2 (v % 65536 ^ 2) := hu
    refine key 0 (v % 65536 ^ 2) 2 ?_ ?_ ?_ h
    · rw [hu']; unfold wideN; split <;> omega
    · rw [hu']; unfold wideN; split <;> omega
    · rw [hu']; unfold wideN; split <;> omega
  · exact key2 (v % 65536 ^ 2) 2 hu h
  · have hu' : u = wideN 4 (v % 65536 ^ 4) := hu
    rw [hmod, wideN_4 hv] at hu'
    refine key 0 (v % 65536 ^ 4) 4 ?_ ?_ ?_ h
    · rw [hu', hmod]; omega
    · rw [hu', hmod]; omega
    · rw [hu', hmod]; omega
  · exact key2 (v % 65536 ^ 4) 4 hu h
section M67
variable {p : Program} {l : Launch} {e : Env} {s : State} {m : MethodId} {args : Array Value} {below : List Frame} {meth : Method} {c : Code} {H H0 : Heap} {locs : List Loc} {cells slots : Nat} {Q : State → Prop} {A : Nat → Prop} {g : Gx}
abbrev rmX2_setting : Room := { frames := 0, cells := 0, slots := 0, locals := 0 }
set_option maxHeartbeats 4000000 in
set_option maxRecDepth 100000 in
/-- setting(number, isInt) -/
theorem c_setting (l : Launch) (g : Gx) (H0 : Heap) (u : Nat) (zi : Bool) (hu : u < 65536 ^ 4) : Met l yX2_setting wsX2_setting rmX2_setting (va_Pc [.long (lN u), .int (bI zi)] (hB g H0)) (pQ (some (.long (lN (wideN (nP zi) (u % 65536 ^ nP zi))))) H0) 0 0 (fun q => H0.size ≤ q) := by
  refine cx_met (own := RX2) (cc := cX2_setting) (maxL := 3) (by decide) rfl rfl (Nat.le_of_ble_eq_true rfl) ?_
  intro p e s m below meth c ls C0 hB0 hnm hl
  obtain ⟨hH, hK⟩ := hB0
  obtain ⟨hx, hb, hr, hml, hown, hts, hlk⟩ := id C0
  subst hH
  have hS : va_S (fun q => s.heap.size ≤ q) s.heap s.heap [] := va_S.rf
  have hA : ∀ q : Nat, s.heap.size ≤ q → s.heap.size ≤ q := fun q h => h
  have hl : lv_has ls 3 [(0, .long (lN u)), (2, .int (bI zi))] := hl
  refine lv_iload_n hx hb dX2_setting_0 rfl (lv_at hl 1 rfl) ?_
  refine lv_if_eq (tgt := 10) hx hb dX2_setting_1 (by decide) (fun h1 => ?_) (fun h1 => ?_)
  · skip
    refine lv_lload_n hx hb dX2_setting_10 rfl (lv_at hl 0 rfl) ?_
    exact rt_l C0 (by rw [bI_0 h1]; show lN u = lN (wideN 4 (u % 65536 ^ 4)); rw [Nat.mod_eq_of_lt hu, wideN_4 hu]) hS rfl dX2_setting_11
  · skip
    refine lv_lload_n hx hb dX2_setting_4 rfl (lv_at hl 0 rfl) ?_
    refine lv_l2i (v := nI u) hx hb dX2_setting_5 (lN_i _) ?_
    refine lv_i2l (v := lN (wideN 2 (u % 65536 ^ 2))) hx hb dX2_setting_6 (i2l_sx u) ?_
    refine lv_goto (tgt := 11) hx hb dX2_setting_7 (by decide) ?_
    exact rt_l C0 (by rw [bI_n0 h1]; rfl) hS rfl dX2_setting_11
abbrev rmX2_signedOf : Room := { frames := 1, cells := 0, slots := 0, locals := 22 }
set_option maxHeartbeats 4000000 in
set_option maxRecDepth 100000 in
/-- signedOf(cell, isInt) -/
theorem c_sgnOf (l : Launch) (g : Gx) (H0 : Heap) (x0 lc : Nat) (fs : List Value) (V : Nat → Nat) (hC : CC g H0 x0 lc fs V) (i : Nat) (zi : Bool) (hi : i < 8) : Met l yX2_signedOf wsX2_signedOf rmX2_signedOf (va_Pc [.ref x0, .int (nI i), .int (bI zi)] (hB g H0)) (pQ (some (.long (lN (wideN (nP zi) (V i % 65536 ^ nP zi))))) H0) 0 0 (fun q => H0.size ≤ q) := by
  refine cx_met (own := RX2) (cc := cX2_signedOf) (maxL := 3) (by decide) rfl rfl (Nat.le_of_ble_eq_true rfl) ?_
  intro p e s m below meth c ls C0 hB0 hnm hl
  obtain ⟨hH, hK⟩ := hB0
  obtain ⟨hx, hb, hr, hml, hown, hts, hlk⟩ := id C0
  subst hH
  have hS : va_S (fun q => s.heap.size ≤ q) s.heap s.heap [] := va_S.rf
  have hA : ∀ q : Nat, s.heap.size ≤ q → s.heap.size ≤ q := fun q h => h
  have hl : lv_has ls 3 [(0, .ref x0), (1, .int (nI i)), (2, .int (bI zi))] := hl
  obtain ⟨hf, hfl, hlc, ⟨f, hg9, hfv⟩, hV, hxl⟩ := id hC
  refine lv_aload_n hx hb dX2_signedOf_0 rfl (lv_at hl 0 rfl) ?_
  refine va_get (ci := 3) (C := RX2) (T := TX2) (N := 7) (v := .ref lc) hx hb hts (by decide +kernel) hown hK.1 (p1 hf) 0 rfl rfl 0 (by decide) (hts (.fieldLink RX2 9 "Radixbench" "cells" "[J") (by decide +kernel)) (fun _ h9 => h9) hlc dX2_signedOf_1 ?_
  refine lv_iload_n hx hb dX2_signedOf_4 rfl (lv_at hl 1 rfl) ?_
  refine f_lald (j := i) hx hb hK hg9 hi (by decide) dX2_signedOf_5 ?_
  refine tp_l (y := lN (V i)) (hfv i hi) ?_
  refine lv_iload_n hx hb dX2_signedOf_6 rfl (lv_at hl 2 rfl) ?_
  refine cp_S (As := [.long (lN (V i)), .int (bI zi)]) (rest := []) C0 hl hK hS hA (c_setting l g s.heap (V i) zi (hV i hi)) gX2_signedOf_X2_setting rfl ⟨rfl, rfl⟩ (show hd_ok yX2_setting 2 from ⟨by decide, by decide, by decide +kernel⟩) ⟨Nat.le_of_ble_eq_true rfl, Nat.le_of_ble_eq_true rfl⟩ rfl (Nat.le_of_ble_eq_true rfl) ⟨Nat.zero_le _, Nat.zero_le _⟩ dX2_signedOf_7 (fun locs hS => ?_)
  exact rt_l C0 rfl hS rfl dX2_signedOf_10
abbrev rmX2_unsignedOf : Room := { frames := 0, cells := 0, slots := 0, locals := 0 }
set_option maxHeartbeats 4000000 in
set_option maxRecDepth 100000 in
/-- unsignedOf(cell, isInt) -/
theorem c_unsOf (l : Launch) (g : Gx) (H0 : Heap) (x0 lc : Nat) (fs : List Value) (V : Nat → Nat) (hC : CC g H0 x0 lc fs V) (i : Nat) (zi : Bool) (hi : i < 8) : Met l yX2_unsignedOf wsX2_unsignedOf rmX2_unsignedOf (va_Pc [.ref x0, .int (nI i), .int (bI zi)] (hB g H0)) (pQ (some (.long (lN (V i % 65536 ^ nP zi)))) H0) 0 0 (fun q => H0.size ≤ q) := by
  refine cx_met (own := RX2) (cc := cX2_unsignedOf) (maxL := 3) (by decide) rfl rfl (Nat.le_of_ble_eq_true rfl) ?_
  intro p e s m below meth c ls C0 hB0 hnm hl
  obtain ⟨hH, hK⟩ := hB0
  obtain ⟨hx, hb, hr, hml, hown, hts, hlk⟩ := id C0
  subst hH
  have hS : va_S (fun q => s.heap.size ≤ q) s.heap s.heap [] := va_S.rf
  have hA : ∀ q : Nat, s.heap.size ≤ q → s.heap.size ≤ q := fun q h => h
  have hl : lv_has ls 3 [(0, .ref x0), (1, .int (nI i)), (2, .int (bI zi))] := hl
  obtain ⟨hf, hfl, hlc, ⟨f, hg9, hfv⟩, hV, hxl⟩ := id hC
  refine lv_iload_n hx hb dX2_unsignedOf_0 rfl (lv_at hl 2 rfl) ?_
  refine lv_if_eq (tgt := 17) hx hb dX2_unsignedOf_1 (by decide) (fun h1 => ?_) (fun h1 => ?_)
  · skip
    refine lv_aload_n hx hb dX2_unsignedOf_17 rfl (lv_at hl 0 rfl) ?_
    refine va_get (ci := 3) (C := RX2) (T := TX2) (N := 7) (v := .ref lc) hx hb hts (by decide +kernel) hown hK.1 (p1 hf) 0 rfl rfl 0 (by decide) (hts (.fieldLink RX2 9 "Radixbench" "cells" "[J") (by decide +kernel)) (fun _ h9 => h9) hlc dX2_unsignedOf_18 ?_
    refine lv_iload_n hx hb dX2_unsignedOf_21 rfl (lv_at hl 1 rfl) ?_
    refine f_lald (j := i) hx hb hK hg9 hi (by decide) dX2_unsignedOf_22 ?_
    refine tp_l (y := lN (V i)) (hfv i hi) ?_
    exact rt_l C0 (by rw [bI_0 h1]; show lN (V i) = lN (V i % 65536 ^ 4); rw [Nat.mod_eq_of_lt (hV i hi)]) hS rfl dX2_unsignedOf_23
  · skip
    refine lv_aload_n hx hb dX2_unsignedOf_4 rfl (lv_at hl 0 rfl) ?_
    refine va_get (ci := 3) (C := RX2) (T := TX2) (N := 7) (v := .ref lc) hx hb hts (by decide +kernel) hown hK.1 (p1 hf) 0 rfl rfl 0 (by decide) (hts (.fieldLink RX2 9 "Radixbench" "cells" "[J") (by decide +kernel)) (fun _ h9 => h9) hlc dX2_unsignedOf_5 ?_
    refine lv_iload_n hx hb dX2_unsignedOf_8 rfl (lv_at hl 1 rfl) ?_
    refine f_lald (j := i) hx hb hK hg9 hi (by decide) dX2_unsignedOf_9 ?_
    refine tp_l (y := lN (V i)) (hfv i hi) ?_
    refine lv_ldc2 (v := lN 4294967295) hx hb hown (hts (.constantLong RX2 27 (4294967295)) (by decide +kernel)) dX2_unsignedOf_10 ?_
    refine lv_land hx hb dX2_unsignedOf_13 ?_
    refine tp_l (y := lN (V i % 65536 ^ 2)) (land32 (hV i hi)) ?_
    refine lv_goto (tgt := 23) hx hb dX2_unsignedOf_14 (by decide) ?_
    exact rt_l C0 (by rw [bI_n0 h1]; rfl) hS rfl dX2_unsignedOf_23
abbrev rmX2_isSameOf : Room := { frames := 1, cells := 0, slots := 0, locals := 22 }
set_option maxHeartbeats 4000000 in
set_option maxRecDepth 100000 in
/-- isSameOf(kind, one, other) -/
theorem c_smOf (l : Launch) (g : Gx) (H0 : Heap) (d9 u v : Nat) (hd9 : d9 < 4) (hu : u < 65536 ^ 4) (hv : v < 65536 ^ 4) : Met l yX2_isSameOf wsX2_isSameOf rmX2_isSameOf (va_Pc [.int (nI d9), .long (lN u), .long (lN v)] (hB g H0)) (pQ (some (.int (bI (decide (wideN (nP (decide (d9 = 0 ∨ d9 = 1))) (u % 65536 ^ nP (decide (d9 = 0 ∨ d9 = 1))) = wideN (nP (decide (d9 = 0 ∨ d9 = 1))) (v % 65536 ^ nP (decide (d9 = 0 ∨ d9 = 1)))))))) H0) 0 0 (fun q => H0.size ≤ q) := by
  refine cx_met (own := RX2) (cc := cX2_isSameOf) (maxL := 5) (by decide) rfl rfl (Nat.le_of_ble_eq_true rfl) ?_
  intro p e s m below meth c ls C0 hB0 hnm hl
  obtain ⟨hH, hK⟩ := hB0
  obtain ⟨hx, hb, hr, hml, hown, hts, hlk⟩ := id C0
  subst hH
  have hS : va_S (fun q => s.heap.size ≤ q) s.heap s.heap [] := va_S.rf
  have hA : ∀ q : Nat, s.heap.size ≤ q → s.heap.size ≤ q := fun q h => h
  have hl : lv_has ls 5 [(0, .int (nI d9)), (1, .long (lN u)), (3, .long (lN v))] := hl
  refine lv_lload_n hx hb dX2_isSameOf_0 rfl (lv_at hl 1 rfl) ?_
  refine lv_iload_n hx hb dX2_isSameOf_1 rfl (lv_at hl 0 rfl) ?_
  refine cp_S (As := [.int (nI d9)]) (rest := [.long (lN u)]) C0 hl hK hS hA (c_isOfInt l g s.heap d9 hd9) gX2_isSameOf_X2_isOfInt rfl ⟨rfl, rfl⟩ (show hd_ok yX2_isOfInt 1 from ⟨by decide, by decide, by decide +kernel⟩) ⟨Nat.le_of_ble_eq_true rfl, Nat.le_of_ble_eq_true rfl⟩ rfl (Nat.le_of_ble_eq_true rfl) ⟨Nat.zero_le _, Nat.zero_le _⟩ dX2_isSameOf_2 (fun locs hS => ?_)
  refine cp_S (As := [.long (lN u), .int (bI (decide (d9 = 0 ∨ d9 = 1)))]) (rest := []) C0 hl hK hS hA (c_setting l g s.heap u (decide (d9 = 0 ∨ d9 = 1)) hu) gX2_isSameOf_X2_setting rfl ⟨rfl, rfl⟩ (show hd_ok yX2_setting 2 from ⟨by decide, by decide, by decide +kernel⟩) ⟨Nat.le_of_ble_eq_true rfl, Nat.le_of_ble_eq_true rfl⟩ rfl (Nat.le_of_ble_eq_true rfl) ⟨Nat.zero_le _, Nat.zero_le _⟩ dX2_isSameOf_5 (fun locs hS => ?_)
  refine lv_lload_n hx hb dX2_isSameOf_8 rfl (lv_at hl 2 rfl) ?_
  refine lv_iload_n hx hb dX2_isSameOf_9 rfl (lv_at hl 0 rfl) ?_
  refine cp_S (As := [.int (nI d9)]) (rest := [.long (lN v), .long (lN (wideN (nP (decide (d9 = 0 ∨ d9 = 1))) (u % 65536 ^ nP (decide (d9 = 0 ∨ d9 = 1)))))]) C0 hl hK hS hA (c_isOfInt l g s.heap d9 hd9) gX2_isSameOf_X2_isOfInt rfl ⟨rfl, rfl⟩ (show hd_ok yX2_isOfInt 1 from ⟨by decide, by decide, by decide +kernel⟩) ⟨Nat.le_of_ble_eq_true rfl, Nat.le_of_ble_eq_true rfl⟩ rfl (Nat.le_of_ble_eq_true rfl) ⟨Nat.zero_le _, Nat.zero_le _⟩ dX2_isSameOf_10 (fun locs hS => ?_)
  refine cp_S (As := [.long (lN v), .int (bI (decide (d9 = 0 ∨ d9 = 1)))]) (rest := [.long (lN (wideN (nP (decide (d9 = 0 ∨ d9 = 1))) (u % 65536 ^ nP (decide (d9 = 0 ∨ d9 = 1)))))]) C0 hl hK hS hA (c_setting l g s.heap v (decide (d9 = 0 ∨ d9 = 1)) hv) gX2_isSameOf_X2_setting rfl ⟨rfl, rfl⟩ (show hd_ok yX2_setting 2 from ⟨by decide, by decide, by decide +kernel⟩) ⟨Nat.le_of_ble_eq_true rfl, Nat.le_of_ble_eq_true rfl⟩ rfl (Nat.le_of_ble_eq_true rfl) ⟨Nat.zero_le _, Nat.zero_le _⟩ dX2_isSameOf_13 (fun locs hS => ?_)
  have b1 : wideN (nP (decide (d9 = 0 ∨ d9 = 1))) (u % 65536 ^ nP (decide (d9 = 0 ∨ d9 = 1))) < 2 ^ 64 := wideN_lt (nP_or _) (Nat.mod_lt _ (Nat.pow_pos (by decide)))
  have b2 : wideN (nP (decide (d9 = 0 ∨ d9 = 1))) (v % 65536 ^ nP (decide (d9 = 0 ∨ d9 = 1))) < 2 ^ 64 := wideN_lt (nP_or _) (Nat.mod_lt _ (Nat.pow_pos (by decide)))
  refine W.lcmp hx hb dX2_isSameOf_16 ?_
  refine lv_if_ne (tgt := 24) hx hb dX2_isSameOf_17 (by decide) (fun h1 => ?_) (fun h1 => ?_)
  · skip
    refine lv_iconst (v := nI 0) hx hb dX2_isSameOf_24 (by decide) ?_
    exact rt_z C0 (by rw [bI_f (decide_eq_false (fun z => lc_ne h1 (by rw [z])))]; rfl) (by rfl) hS rfl dX2_isSameOf_25
  · skip
    refine lv_iconst (v := nI 1) hx hb dX2_isSameOf_20 (by decide) ?_
    refine lv_goto (tgt := 25) hx hb dX2_isSameOf_21 (by decide) ?_
    exact rt_z C0 (by rw [bI_t (decide_eq_true ((lN_inj b1 b2).mp (lc_eq h1)))]; rfl) (by rfl) hS rfl dX2_isSameOf_25
abbrev rmX2_become : Room := { frames := 0, cells := 0, slots := 0, locals := 0 }
set_option maxHeartbeats 4000000 in
set_option maxRecDepth 100000 in
/-- become(cell, number) -/
theorem c_becC (l : Launch) (g : Gx) (H0 : Heap) (x0 lc : Nat) (fs : List Value) (V : Nat → Nat) (hC : CC g H0 x0 lc fs V) (i w9 : Nat) (hi : i < 8) (hw9 : w9 < 65536 ^ 4) : Met l yX2_become wsX2_become rmX2_become (va_Pc [.ref x0, .int (nI i), .long (lN w9)] (hB g H0)) (nQ H0 (fun q => q = lc) (fun r H1 => r = some (.int (bI (!decide (w9 = V i)))) ∧ CC g H1 x0 lc fs (va_up V i w9))) 0 0 (fun q => q = lc ∨ H0.size ≤ q) := by
  refine cx_met (own := RX2) (cc := cX2_become) (maxL := 5) (by decide) rfl rfl (Nat.le_of_ble_eq_true rfl) ?_
  intro p e s m below meth c ls C0 hB0 hnm hl
  obtain ⟨hH, hK⟩ := hB0
  obtain ⟨hx, hb, hr, hml, hown, hts, hlk⟩ := id C0
  subst hH
  have hS : va_S (fun q => q = lc ∨ s.heap.size ≤ q) s.heap s.heap [] := va_S.rf
  have hA : ∀ q : Nat, s.heap.size ≤ q → (fun q => q = lc ∨ s.heap.size ≤ q) q := fun q h => Or.inr h
  have hl : lv_has ls 5 [(0, .ref x0), (1, .int (nI i)), (2, .long (lN w9))] := hl
  obtain ⟨hf, hfl, hlc, ⟨f, hg9, hfv⟩, hV, hxl⟩ := id hC
  refine lv_aload_n hx hb dX2_become_0 rfl (lv_at hl 0 rfl) ?_
  refine va_get (ci := 3) (C := RX2) (T := TX2) (N := 7) (v := .ref lc) hx hb hts (by decide +kernel) hown hK.1 (p1 hf) 0 rfl rfl 0 (by decide) (hts (.fieldLink RX2 9 "Radixbench" "cells" "[J") (by decide +kernel)) (fun _ h9 => h9) hlc dX2_become_1 ?_
  refine lv_iload_n hx hb dX2_become_4 rfl (lv_at hl 1 rfl) ?_
  refine f_lald (j := i) hx hb hK hg9 hi (by decide) dX2_become_5 ?_
  refine tp_l (y := lN (V i)) (hfv i hi) ?_
  refine lv_lload_n hx hb dX2_become_6 rfl (lv_at hl 2 rfl) ?_
  refine W.lcmp hx hb dX2_become_7 ?_
  refine lv_if_eq (tgt := 15) hx hb dX2_become_8 (by decide) (fun h1 => ?_) (fun h1 => ?_)
  · skip
    refine lv_iconst (v := nI 0) hx hb dX2_become_15 (by decide) ?_
    refine tp_i (y := bI false) (rfl) ?_
    refine lv_istore (lv' := [(4, .int (bI false)), (0, .ref x0), (1, .int (nI i)), (2, .long (lN w9))]) hx hb dX2_become_16 hl (by decide) rfl (fun ls hl => ?_)
    refine lv_aload_n hx hb dX2_become_18 rfl (lv_at hl 1 rfl) ?_
    refine va_get (ci := 3) (C := RX2) (T := TX2) (N := 7) (v := .ref lc) hx hb hts (by decide +kernel) hown hK.1 (p1 hf) 0 rfl rfl 0 (by decide) (hts (.fieldLink RX2 9 "Radixbench" "cells" "[J") (by decide +kernel)) (fun _ h9 => h9) hlc dX2_become_19 ?_
    refine lv_iload_n hx hb dX2_become_22 rfl (lv_at hl 2 rfl) ?_
    refine lv_lload_n hx hb dX2_become_23 rfl (lv_at hl 3 rfl) ?_
    refine f_last (j := i) hx hb hK hS hg9 (Or.inl rfl) hi (by decide) dX2_become_24 (fun H1 locs g1 z1 o1 hS => ?_)
    refine lv_iload hx hb dX2_become_25 (lv_at hl 0 rfl) ?_
    refine rt_ni (mu := fun q => q = lc) C0 (bI_nar _) ⟨by rw [decide_eq_true ((lN_inj (hV i hi) hw9).mp (lc_eq h1)).symm]; rfl, hf.kept (o1 _ hxl), hfl, hlc, ⟨_, g1, fun j hj => ?_⟩, fun j hj => ?_, hxl⟩ hS rfl dX2_become_27
    · unfold vp_updL va_up
      by_cases e : j = i
      · rw [if_pos e, if_pos e]
      · rw [if_neg e, if_neg e]
        exact hfv j hj
    · unfold va_up
      by_cases e : j = i
      · rw [if_pos e]
        exact hw9
      · rw [if_neg e]
        exact hV j hj
  · skip
    refine lv_iconst (v := nI 1) hx hb dX2_become_11 (by decide) ?_
    refine lv_goto (tgt := 16) hx hb dX2_become_12 (by decide) ?_
    refine tp_i (y := bI true) (rfl) ?_
    refine lv_istore (lv' := [(4, .int (bI true)), (0, .ref x0), (1, .int (nI i)), (2, .long (lN w9))]) hx hb dX2_become_16 hl (by decide) rfl (fun ls hl => ?_)
    refine lv_aload_n hx hb dX2_become_18 rfl (lv_at hl 1 rfl) ?_
    refine va_get (ci := 3) (C := RX2) (T := TX2) (N := 7) (v := .ref lc) hx hb hts (by decide +kernel) hown hK.1 (p1 hf) 0 rfl rfl 0 (by decide) (hts (.fieldLink RX2 9 "Radixbench" "cells" "[J") (by decide +kernel)) (fun _ h9 => h9) hlc dX2_become_19 ?_
    refine lv_iload_n hx hb dX2_become_22 rfl (lv_at hl 2 rfl) ?_
    refine lv_lload_n hx hb dX2_become_23 rfl (lv_at hl 3 rfl) ?_
    refine f_last (j := i) hx hb hK hS hg9 (Or.inl rfl) hi (by decide) dX2_become_24 (fun H1 locs g1 z1 o1 hS => ?_)
    refine lv_iload hx hb dX2_become_25 (lv_at hl 0 rfl) ?_
    refine rt_ni (mu := fun q => q = lc) C0 (bI_nar _) ⟨by rw [decide_eq_false (fun z => lc_ne h1 (by rw [z]))]; rfl, hf.kept (o1 _ hxl), hfl, hlc, ⟨_, g1, fun j hj => ?_⟩, fun j hj => ?_, hxl⟩ hS rfl dX2_become_27
    · unfold vp_updL va_up
      by_cases e : j = i
      · rw [if_pos e, if_pos e]
      · rw [if_neg e, if_neg e]
        exact hfv j hj
    · unfold va_up
      by_cases e : j = i
      · rw [if_pos e]
        exact hw9
      · rw [if_neg e]
        exact hV j hj
abbrev rmX2_tellInto : Room := { frames := 3, cells := 0, slots := 0, locals := 78 }
set_option maxHeartbeats 4000000 in
set_option maxRecDepth 100000 in
/-- tellInto(row, cell, radix, kind) -/
theorem c_tellIn (l : Launch) (g : Gx) (H0 : Heap) (x0 lc : Nat) (fs : List Value) (V : Nat → Nat) (hC : CC g H0 x0 lc fs V) (r c7 n : Nat) (t : Nat → Nat) (hR : RW g r c7 n t H0) (i r9 d9 : Nat) (hi : i < 8) (hr9 : 2 ≤ r9 ∧ r9 ≤ 36) (hd9 : d9 < 4) : Met l yX2_tellInto wsX2_tellInto rmX2_tellInto (va_Pc [.ref x0, .ref r, .int (nI i), .int (nI r9), .int (nI d9)] (hB g H0)) (nQ H0 (fun q => q = r ∨ q = c7) (fun r1 H1 => r1 = none ∧ ∃ (k : Nat) (t2 : Nat → Nat), isT r9 (nP (decide (d9 < 2))) (V i % 65536 ^ nP (decide (d9 < 2))) (decide (d9 % 2 = 0)) k t2 ∧ RW g r c7 k t2 H1)) 0 0 (fun q => (q = r ∨ q = c7) ∨ H0.size ≤ q) := by
  refine cx_met (own := RX2) (cc := cX2_tellInto) (maxL := 7) (by decide) rfl rfl (Nat.le_of_ble_eq_true rfl) ?_
  intro p e s m below meth c ls C0 hB0 hnm hl
  obtain ⟨hH, hK⟩ := hB0
  obtain ⟨hx, hb, hr, hml, hown, hts, hlk⟩ := id C0
  subst hH
  have hS : va_S (fun q => (q = r ∨ q = c7) ∨ s.heap.size ≤ q) s.heap s.heap [] := va_S.rf
  have hA : ∀ q : Nat, s.heap.size ≤ q → (fun q => (q = r ∨ q = c7) ∨ s.heap.size ≤ q) q := fun q h => Or.inr h
  have hl : lv_has ls 7 [(0, .ref x0), (1, .ref r), (2, .int (nI i)), (3, .int (nI r9)), (4, .int (nI d9))] := hl
  obtain ⟨-, -, -, -, hV, -⟩ := id hC
  have ez : decide (d9 = 0 ∨ d9 = 1) = (decide (d9 < 2)) := decide_eq_decide.mpr (by omega)
  have ey : decide (d9 = 0 ∨ d9 = 2) = (decide (d9 % 2 = 0)) := decide_eq_decide.mpr (by omega)
  refine lv_iload hx hb dX2_tellInto_0 (lv_at hl 4 rfl) ?_
  refine cp_S (As := [.int (nI d9)]) (rest := []) C0 hl hK hS hA (c_isOfInt l g s.heap d9 hd9) gX2_tellInto_X2_isOfInt rfl ⟨rfl, rfl⟩ (show hd_ok yX2_isOfInt 1 from ⟨by decide, by decide, by decide +kernel⟩) ⟨Nat.le_of_ble_eq_true rfl, Nat.le_of_ble_eq_true rfl⟩ rfl (Nat.le_of_ble_eq_true rfl) ⟨Nat.zero_le _, Nat.zero_le _⟩ dX2_tellInto_2 (fun locs hS => ?_)
  refine tp_i (y := bI (decide (d9 < 2))) ((by rw [ez])) ?_
  refine lv_istore (lv' := [(5, .int (bI (decide (d9 < 2)))), (0, .ref x0), (1, .ref r), (2, .int (nI i)), (3, .int (nI r9)), (4, .int (nI d9))]) hx hb dX2_tellInto_5 hl (by decide) rfl (fun ls hl => ?_)
  refine lv_iload hx hb dX2_tellInto_7 (lv_at hl 5 rfl) ?_
  refine cp_S (As := [.int (nI d9)]) (rest := []) C0 hl hK hS hA (c_isSigned l g s.heap d9 hd9) gX2_tellInto_X2_isSigned rfl ⟨rfl, rfl⟩ (show hd_ok yX2_isSigned 1 from ⟨by decide, by decide, by decide +kernel⟩) ⟨Nat.le_of_ble_eq_true rfl, Nat.le_of_ble_eq_true rfl⟩ rfl (Nat.le_of_ble_eq_true rfl) ⟨Nat.zero_le _, Nat.zero_le _⟩ dX2_tellInto_9 (fun locs hS => ?_)
  refine tp_i (y := bI (decide (d9 % 2 = 0))) ((by rw [ey])) ?_
  refine lv_istore (lv' := [(6, .int (bI (decide (d9 % 2 = 0)))), (5, .int (bI (decide (d9 < 2)))), (0, .ref x0), (1, .ref r), (2, .int (nI i)), (3, .int (nI r9)), (4, .int (nI d9))]) hx hb dX2_tellInto_12 hl (by decide) rfl (fun ls hl => ?_)
  refine lv_aload_n hx hb dX2_tellInto_14 rfl (lv_at hl 3 rfl) ?_
  refine lv_iload hx hb dX2_tellInto_15 (lv_at hl 0 rfl) ?_
  refine lv_if_eq (tgt := 30) hx hb dX2_tellInto_17 (by decide) (fun h1 => ?_) (fun h1 => ?_)
  · skip
    refine lv_aload_n hx hb dX2_tellInto_30 rfl (lv_at hl 2 rfl) ?_
    refine lv_iload_n hx hb dX2_tellInto_31 rfl (lv_at hl 4 rfl) ?_
    refine lv_iload hx hb dX2_tellInto_32 (lv_at hl 1 rfl) ?_
    refine cp_V (As := [.int (nI i), .int (bI (decide (d9 < 2)))]) (rest := [.ref r]) C0 hl hK hS hA (c_unsOf l g s.heap x0 lc fs V hC i (decide (d9 < 2)) hi) gX2_tellInto_X2_unsignedOf rfl ⟨rfl, rfl⟩ (hC.recv hK) ⟨rfl, (show hd_ok yX2_unsignedOf 2 from ⟨by decide, by decide, by decide +kernel⟩)⟩ ⟨Nat.le_of_ble_eq_true rfl, Nat.le_of_ble_eq_true rfl⟩ rfl (Nat.le_of_ble_eq_true rfl) ⟨Nat.zero_le _, Nat.zero_le _⟩ dX2_tellInto_34 (fun locs hS => ?_)
    refine lv_iload_n hx hb dX2_tellInto_37 rfl (lv_at hl 5 rfl) ?_
    refine lv_iload hx hb dX2_tellInto_38 (lv_at hl 0 rfl) ?_
    refine cn_V (As := [.long (lN (V i % 65536 ^ nP (decide (d9 < 2)))), .int (nI r9), .int (bI (decide (d9 % 2 = 0)))]) (rest := []) C0 hl hK hS hA (fun q h => Or.inl h) (c_tell l g s.heap r c7 n t hR (V i % 65536 ^ nP (decide (d9 < 2))) r9 (decide (d9 % 2 = 0)) (Nat.lt_of_le_of_lt (Nat.mod_le _ _) (hV i hi)) hr9) gX2_tellInto_X0_tell rfl ⟨rfl, rfl⟩ (hR.recv hK) ⟨rfl, (show hd_ok yX0_tell 3 from ⟨by decide, by decide, by decide +kernel⟩)⟩ ⟨Nat.le_of_ble_eq_true rfl, Nat.le_of_ble_eq_true rfl⟩ rfl (Nat.le_of_ble_eq_true rfl) ⟨Nat.zero_le _, Nat.zero_le _⟩ dX2_tellInto_40 (fun r1 H1 locs hv hzz hk1 hS => ?_)
    obtain ⟨rfl, k, t2, hq, hR1⟩ := hv
    refine W.widen (k := 0) (n := 0) (by decide) (by decide) ?_
    exact rt_v (mu := (fun q => q = r ∨ q = c7)) C0 ⟨rfl, k, t2, tl_isT (hV i hi) hd9 ((if_neg (of_decide_eq_false (bI_0 h1))).symm) hq, hR1⟩ hS rfl dX2_tellInto_43
  · skip
    refine lv_aload_n hx hb dX2_tellInto_20 rfl (lv_at hl 2 rfl) ?_
    refine lv_iload_n hx hb dX2_tellInto_21 rfl (lv_at hl 4 rfl) ?_
    refine lv_iload hx hb dX2_tellInto_22 (lv_at hl 1 rfl) ?_
    refine cp_V (As := [.int (nI i), .int (bI (decide (d9 < 2)))]) (rest := [.ref r]) C0 hl hK hS hA (c_sgnOf l g s.heap x0 lc fs V hC i (decide (d9 < 2)) hi) gX2_tellInto_X2_signedOf rfl ⟨rfl, rfl⟩ (hC.recv hK) ⟨rfl, (show hd_ok yX2_signedOf 2 from ⟨by decide, by decide, by decide +kernel⟩)⟩ ⟨Nat.le_of_ble_eq_true rfl, Nat.le_of_ble_eq_true rfl⟩ rfl (Nat.le_of_ble_eq_true rfl) ⟨Nat.zero_le _, Nat.zero_le _⟩ dX2_tellInto_24 (fun locs hS => ?_)
    refine lv_goto (tgt := 37) hx hb dX2_tellInto_27 (by decide) ?_
    refine lv_iload_n hx hb dX2_tellInto_37 rfl (lv_at hl 5 rfl) ?_
    refine lv_iload hx hb dX2_tellInto_38 (lv_at hl 0 rfl) ?_
    refine cn_V (As := [.long (lN (wideN (nP (decide (d9 < 2))) (V i % 65536 ^ nP (decide (d9 < 2))))), .int (nI r9), .int (bI (decide (d9 % 2 = 0)))]) (rest := []) C0 hl hK hS hA (fun q h => Or.inl h) (c_tell l g s.heap r c7 n t hR (wideN (nP (decide (d9 < 2))) (V i % 65536 ^ nP (decide (d9 < 2)))) r9 (decide (d9 % 2 = 0)) (wideN_lt (nP_or _) (Nat.mod_lt _ (Nat.pow_pos (by decide)))) hr9) gX2_tellInto_X0_tell rfl ⟨rfl, rfl⟩ (hR.recv hK) ⟨rfl, (show hd_ok yX0_tell 3 from ⟨by decide, by decide, by decide +kernel⟩)⟩ ⟨Nat.le_of_ble_eq_true rfl, Nat.le_of_ble_eq_true rfl⟩ rfl (Nat.le_of_ble_eq_true rfl) ⟨Nat.zero_le _, Nat.zero_le _⟩ dX2_tellInto_40 (fun r1 H1 locs hv hzz hk1 hS => ?_)
    obtain ⟨rfl, k, t2, hq, hR1⟩ := hv
    refine W.widen (k := 0) (n := 0) (by decide) (by decide) ?_
    exact rt_v (mu := (fun q => q = r ∨ q = c7)) C0 ⟨rfl, k, t2, tl_isT (hV i hi) hd9 ((if_pos (of_decide_eq_true (bI_n0 h1))).symm) hq, hR1⟩ hS rfl dX2_tellInto_43
abbrev rmX2_radixOfBase : Room := { frames := 0, cells := 0, slots := 0, locals := 0 }
set_option maxHeartbeats 4000000 in
set_option maxRecDepth 100000 in
theorem c_rdxOf (l : Launch) (g : Gx) (H0 : Heap) (d9 : Nat) (hd9 : d9 < 3) : Met l yX2_radixOfBase wsX2_radixOfBase rmX2_radixOfBase (va_Pc [.int (nI d9)] (hB g H0)) (pQ (some (.int (nI (basN d9)))) H0) 0 0 (fun q => H0.size ≤ q) := by
  refine cx_met (own := RX2) (cc := cX2_radixOfBase) (maxL := 1) (by decide) rfl rfl (Nat.le_of_ble_eq_true rfl) ?_
  intro p e s m below meth c ls C0 hB0 hnm hl
  obtain ⟨hH, hK⟩ := hB0
  obtain ⟨hx, hb, hr, hml, hown, hts, hlk⟩ := id C0
  subst hH
  have hS : va_S (fun q => s.heap.size ≤ q) s.heap s.heap [] := va_S.rf
  have hA : ∀ q : Nat, s.heap.size ≤ q → s.heap.size ≤ q := fun q h => h
  have hl : lv_has ls 1 [(0, .int (nI d9))] := hl
  refine lv_iload_n hx hb dX2_radixOfBase_0 rfl (lv_at hl 0 rfl) ?_
  refine lv_if_ne (tgt := 8) hx hb dX2_radixOfBase_1 (by decide) (fun h1 => ?_) (fun h1 => ?_)
  · skip
    have n1 : d9 ≠ 0 := fun z => h1 (by rw [z]; rfl)
    refine lv_iload_n hx hb dX2_radixOfBase_8 rfl (lv_at hl 0 rfl) ?_
    refine lv_iconst (v := nI 1) hx hb dX2_radixOfBase_9 (by decide) ?_
    refine lv_icmp_ne (tgt := 18) hx hb dX2_radixOfBase_10 (by decide) (fun h2 => ?_) (fun h2 => ?_)
    · skip
      have n2 : d9 ≠ 1 := fun z => h2 (by rw [z])
      refine lv_bipush (v := nI 16) hx hb dX2_radixOfBase_18 (by decide) ?_
      exact rt_i C0 (by unfold basN; rw [if_neg n1, if_neg n2]) hS rfl dX2_radixOfBase_20
    · skip
      have n2 : d9 = 1 := nI_inj (by omega) (by decide) h2
      refine lv_bipush (v := nI 8) hx hb dX2_radixOfBase_13 (by decide) ?_
      refine lv_goto (tgt := 20) hx hb dX2_radixOfBase_15 (by decide) ?_
      exact rt_i C0 (by unfold basN; rw [if_neg n1, if_pos n2]) hS rfl dX2_radixOfBase_20
  · skip
    have n1 : d9 = 0 := nI_inj (by omega) (by decide) h1
    refine lv_iconst (v := nI 2) hx hb dX2_radixOfBase_4 (by decide) ?_
    refine lv_goto (tgt := 20) hx hb dX2_radixOfBase_5 (by decide) ?_
    exact rt_i C0 (by unfold basN; rw [if_pos n1]) hS rfl dX2_radixOfBase_20
abbrev rmX2_checkCell : Room := { frames := 0, cells := 0, slots := 0, locals := 0 }
set_option maxHeartbeats 4000000 in
set_option maxRecDepth 100000 in
theorem c_ckCell (l : Launch) (g : Gx) (H0 : Heap) (i : Nat) (hi : i < 8) : Met l yX2_checkCell wsX2_checkCell rmX2_checkCell (va_Pc [.int (nI i)] (hB g H0)) (pQ none H0) 0 0 (fun q => H0.size ≤ q) := by
  refine cx_met (own := RX2) (cc := cX2_checkCell) (maxL := 1) (by decide) rfl rfl (Nat.le_of_ble_eq_true rfl) ?_
  intro p e s m below meth c ls C0 hB0 hnm hl
  obtain ⟨hH, hK⟩ := hB0
  obtain ⟨hx, hb, hr, hml, hown, hts, hlk⟩ := id C0
  subst hH
  have hS : va_S (fun q => s.heap.size ≤ q) s.heap s.heap [] := va_S.rf
  have hA : ∀ q : Nat, s.heap.size ≤ q → s.heap.size ≤ q := fun q h => h
  have hl : lv_has ls 1 [(0, .int (nI i))] := hl
  refine lv_iload_n hx hb dX2_checkCell_0 rfl (lv_at hl 0 rfl) ?_
  refine lv_if_lt (tgt := 10) hx hb dX2_checkCell_1 (by decide) (fun h1 => absurd h1 (nI_pos (by omega))) (fun h1 => ?_)
  refine lv_iload_n hx hb dX2_checkCell_4 rfl (lv_at hl 0 rfl) ?_
  refine lv_bipush (v := nI 8) hx hb dX2_checkCell_5 (by decide) ?_
  refine lv_icmp_lt (tgt := 20) hx hb dX2_checkCell_7 (by decide) (fun h2 => ?_) (fun h2 => absurd (nI_lt hi (by decide)) h2)
  exact rt_pv C0 hS rfl dX2_checkCell_20
abbrev rmX2_checkRadix : Room := { frames := 0, cells := 0, slots := 0, locals := 0 }
set_option maxHeartbeats 4000000 in
set_option maxRecDepth 100000 in
theorem c_ckRad (l : Launch) (g : Gx) (H0 : Heap) (r9 : Nat) (hr9 : 2 ≤ r9 ∧ r9 ≤ 36) : Met l yX2_checkRadix wsX2_checkRadix rmX2_checkRadix (va_Pc [.int (nI r9)] (hB g H0)) (pQ none H0) 0 0 (fun q => H0.size ≤ q) := by
  refine cx_met (own := RX2) (cc := cX2_checkRadix) (maxL := 1) (by decide) rfl rfl (Nat.le_of_ble_eq_true rfl) ?_
  intro p e s m below meth c ls C0 hB0 hnm hl
  obtain ⟨hH, hK⟩ := hB0
  obtain ⟨hx, hb, hr, hml, hown, hts, hlk⟩ := id C0
  subst hH
  have hS : va_S (fun q => s.heap.size ≤ q) s.heap s.heap [] := va_S.rf
  have hA : ∀ q : Nat, s.heap.size ≤ q → s.heap.size ≤ q := fun q h => h
  have hl : lv_has ls 1 [(0, .int (nI r9))] := hl
  refine lv_iload_n hx hb dX2_checkRadix_0 rfl (lv_at hl 0 rfl) ?_
  refine lv_iconst (v := nI 2) hx hb dX2_checkRadix_1 (by decide) ?_
  refine lv_icmp_lt (tgt := 11) hx hb dX2_checkRadix_2 (by decide) (fun h1 => absurd (nI_ltn (by omega) (by decide) h1) (by omega)) (fun h1 => ?_)
  refine lv_iload_n hx hb dX2_checkRadix_5 rfl (lv_at hl 0 rfl) ?_
  refine lv_bipush (v := nI 36) hx hb dX2_checkRadix_6 (by decide) ?_
  refine lv_icmp_le (tgt := 21) hx hb dX2_checkRadix_8 (by decide) (fun h2 => ?_) (fun h2 => absurd (nI_le hr9.2 (by decide)) h2)
  exact rt_pv C0 hS rfl dX2_checkRadix_21
abbrev rmX2_checkWhat : Room := { frames := 0, cells := 0, slots := 0, locals := 0 }
set_option maxHeartbeats 4000000 in
set_option maxRecDepth 100000 in
theorem c_ckWhat (l : Launch) (g : Gx) (H0 : Heap) (k m9 : Nat) (hk : k ≤ m9) (hm9 : m9 < 1000) : Met l yX2_checkWhat wsX2_checkWhat rmX2_checkWhat (va_Pc [.int (nI k), .int (nI m9)] (hB g H0)) (pQ none H0) 0 0 (fun q => H0.size ≤ q) := by
  refine cx_met (own := RX2) (cc := cX2_checkWhat) (maxL := 2) (by decide) rfl rfl (Nat.le_of_ble_eq_true rfl) ?_
  intro p e s m below meth c ls C0 hB0 hnm hl
  obtain ⟨hH, hK⟩ := hB0
  obtain ⟨hx, hb, hr, hml, hown, hts, hlk⟩ := id C0
  subst hH
  have hS : va_S (fun q => s.heap.size ≤ q) s.heap s.heap [] := va_S.rf
  have hA : ∀ q : Nat, s.heap.size ≤ q → s.heap.size ≤ q := fun q h => h
  have hl : lv_has ls 2 [(0, .int (nI k)), (1, .int (nI m9))] := hl
  refine lv_iload_n hx hb dX2_checkWhat_0 rfl (lv_at hl 0 rfl) ?_
  refine lv_if_lt (tgt := 9) hx hb dX2_checkWhat_1 (by decide) (fun h1 => absurd h1 (nI_pos (by omega))) (fun h1 => ?_)
  refine lv_iload_n hx hb dX2_checkWhat_4 rfl (lv_at hl 0 rfl) ?_
  refine lv_iload_n hx hb dX2_checkWhat_5 rfl (lv_at hl 1 rfl) ?_
  refine lv_icmp_le (tgt := 19) hx hb dX2_checkWhat_6 (by decide) (fun h2 => ?_) (fun h2 => absurd (nI_le hk (by omega)) h2)
  exact rt_pv C0 hS rfl dX2_checkWhat_19
abbrev rmX2_checkRadixAndKind : Room := { frames := 1, cells := 0, slots := 0, locals := 21 }
set_option maxHeartbeats 4000000 in
set_option maxRecDepth 100000 in
theorem c_ckRK (l : Launch) (g : Gx) (H0 : Heap) (r9 d9 : Nat) (hr9 : 2 ≤ r9 ∧ r9 ≤ 36) (hd9 : d9 < 4) : Met l yX2_checkRadixAndKind wsX2_checkRadixAndKind rmX2_checkRadixAndKind (va_Pc [.int (nI r9), .int (nI d9)] (hB g H0)) (pQ none H0) 0 0 (fun q => H0.size ≤ q) := by
  refine cx_met (own := RX2) (cc := cX2_checkRadixAndKind) (maxL := 2) (by decide) rfl rfl (Nat.le_of_ble_eq_true rfl) ?_
  intro p e s m below meth c ls C0 hB0 hnm hl
  obtain ⟨hH, hK⟩ := hB0
  obtain ⟨hx, hb, hr, hml, hown, hts, hlk⟩ := id C0
  subst hH
  have hS : va_S (fun q => s.heap.size ≤ q) s.heap s.heap [] := va_S.rf
  have hA : ∀ q : Nat, s.heap.size ≤ q → s.heap.size ≤ q := fun q h => h
  have hl : lv_has ls 2 [(0, .int (nI r9)), (1, .int (nI d9))] := hl
  refine lv_iload_n hx hb dX2_checkRadixAndKind_0 rfl (lv_at hl 0 rfl) ?_
  refine cp_S (As := [.int (nI r9)]) (rest := []) C0 hl hK hS hA (c_ckRad l g s.heap r9 hr9) gX2_checkRadixAndKind_X2_checkRadix rfl ⟨rfl, rfl⟩ (show hd_ok yX2_checkRadix 1 from ⟨by decide, by decide, by decide +kernel⟩) ⟨Nat.le_of_ble_eq_true rfl, Nat.le_of_ble_eq_true rfl⟩ rfl (Nat.le_of_ble_eq_true rfl) ⟨Nat.zero_le _, Nat.zero_le _⟩ dX2_checkRadixAndKind_1 (fun locs hS => ?_)
  refine lv_iload_n hx hb dX2_checkRadixAndKind_4 rfl (lv_at hl 1 rfl) ?_
  refine lv_iconst (v := nI 3) hx hb dX2_checkRadixAndKind_5 (by decide) ?_
  refine cp_S (As := [.int (nI d9), .int (nI 3)]) (rest := []) C0 hl hK hS hA (c_ckWhat l g s.heap d9 3 (by omega) (by decide)) gX2_checkRadixAndKind_X2_checkWhat rfl ⟨rfl, rfl⟩ (show hd_ok yX2_checkWhat 2 from ⟨by decide, by decide, by decide +kernel⟩) ⟨Nat.le_of_ble_eq_true rfl, Nat.le_of_ble_eq_true rfl⟩ rfl (Nat.le_of_ble_eq_true rfl) ⟨Nat.zero_le _, Nat.zero_le _⟩ dX2_checkRadixAndKind_6 (fun locs hS => ?_)
  exact rt_pv C0 hS rfl dX2_checkRadixAndKind_9
abbrev rmX2_checkDivisor : Room := { frames := 1, cells := 0, slots := 0, locals := 22 }
set_option maxHeartbeats 4000000 in
set_option maxRecDepth 100000 in
theorem c_ckDiv (l : Launch) (g : Gx) (H0 : Heap) (x0 lc : Nat) (fs : List Value) (V : Nat → Nat) (hC : CC g H0 x0 lc fs V) (i : Nat) (zi : Bool) (hi : i < 8) (hnz : V i % 65536 ^ nP zi ≠ 0) : Met l yX2_checkDivisor wsX2_checkDivisor rmX2_checkDivisor (va_Pc [.ref x0, .int (nI i), .int (bI zi)] (hB g H0)) (pQ none H0) 0 0 (fun q => H0.size ≤ q) := by
  refine cx_met (own := RX2) (cc := cX2_checkDivisor) (maxL := 3) (by decide) rfl rfl (Nat.le_of_ble_eq_true rfl) ?_
  intro p e s m below meth c ls C0 hB0 hnm hl
  obtain ⟨hH, hK⟩ := hB0
  obtain ⟨hx, hb, hr, hml, hown, hts, hlk⟩ := id C0
  subst hH
  have hS : va_S (fun q => s.heap.size ≤ q) s.heap s.heap [] := va_S.rf
  have hA : ∀ q : Nat, s.heap.size ≤ q → s.heap.size ≤ q := fun q h => h
  have hl : lv_has ls 3 [(0, .ref x0), (1, .int (nI i)), (2, .int (bI zi))] := hl
  obtain ⟨-, -, -, -, hV, -⟩ := id hC
  refine lv_aload_n hx hb dX2_checkDivisor_0 rfl (lv_at hl 0 rfl) ?_
  refine lv_iload_n hx hb dX2_checkDivisor_1 rfl (lv_at hl 1 rfl) ?_
  refine lv_iload_n hx hb dX2_checkDivisor_2 rfl (lv_at hl 2 rfl) ?_
  refine cp_V (As := [.int (nI i), .int (bI zi)]) (rest := []) C0 hl hK hS hA (c_unsOf l g s.heap x0 lc fs V hC i zi hi) gX2_checkDivisor_X2_unsignedOf rfl ⟨rfl, rfl⟩ (hC.recv hK) ⟨rfl, (show hd_ok yX2_unsignedOf 2 from ⟨by decide, by decide, by decide +kernel⟩)⟩ ⟨Nat.le_of_ble_eq_true rfl, Nat.le_of_ble_eq_true rfl⟩ rfl (Nat.le_of_ble_eq_true rfl) ⟨Nat.zero_le _, Nat.zero_le _⟩ dX2_checkDivisor_3 (fun locs hS => ?_)
  refine lv_lconst (v := lN 0) hx hb dX2_checkDivisor_6 rfl ?_
  refine W.lcmp hx hb dX2_checkDivisor_7 ?_
  refine lv_if_ne (tgt := 21) hx hb dX2_checkDivisor_8 (by decide) (fun h1 => ?_) (fun h1 => absurd ((lN_inj (Nat.lt_of_le_of_lt (Nat.mod_le _ _) (hV i hi)) (by decide)).mp (lc_eq h1)) hnz)
  exact rt_pv C0 hS rfl dX2_checkDivisor_21
end M67

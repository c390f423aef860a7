-- THE CLASS: its whole state, and what it answers where the arguments are right
/-- its fields -/
def fCL (lc tr sr : Nat) (i3 i4 i5 i6 : Int32) : List Value := [.ref lc, .ref tr, .ref sr, .int i3, .int i4, .int i5, .int i6]
/-- the class's object: cells V, text n t, a spare row, four counts -/
def CL (g : Gx) (H : Heap) (x0 lc tr tc sr sc : Nat) (i3 i4 i5 i6 : Int32) (V : Nat → Nat) (n : Nat) (t : Nat → Nat) : Prop :=
  CC g H x0 lc (fCL lc tr sr i3 i4 i5 i6) V ∧ RW g tr tc n t H ∧ (∃ (k : Nat) (u : Nat → Nat), RW g sr sc k u H) ∧ (x0 ≠ tr ∧ x0 ≠ tc ∧ x0 ≠ sr ∧ x0 ≠ sc ∧ lc ≠ tr ∧ lc ≠ tc ∧ lc ≠ sr ∧ lc ≠ sc ∧ tr ≠ sr ∧ tr ≠ sc ∧ tc ≠ sr ∧ tc ≠ sc)
/-- what the class writes -/
def mC (x0 lc tr tc sr sc q : Nat) : Prop := q = x0 ∨ q = lc ∨ q = tr ∨ q = tc ∨ q = sr ∨ q = sc
/-- an answer with the class's state behind it -/
def zC (g : Gx) (x0 lc tr tc sr sc : Nat) (P : Option Value → (Nat → Nat) → Nat → (Nat → Nat) → Prop) : Option Value → Heap → Prop := fun r H1 => ∃ (i3 i4 i5 i6 : Int32) (V : Nat → Nat) (n : Nat) (t : Nat → Nat), P r V n t ∧ CL g H1 x0 lc tr tc sr sc i3 i4 i5 i6 V n t
theorem lN_m (n : Nat) : lN n = lN (n % 2 ^ 64) := by
  refine Int64.toBitVec_inj.mp ?_
  rw [lN_bv, lN_bv]
  refine BitVec.eq_of_toNat_eq ?_
  rw [BitVec.toNat_ofNat, BitVec.toNat_ofNat, Nat.mod_mod]
section M68a
variable {x0 lc tr tc sr sc : Nat} {g : Gx} {H H1 : Heap} {i3 i4 i5 i6 : Int32} {V : Nat → Nat} {n : Nat} {t : Nat → Nat}
theorem mC_l {q : Nat} (h : q = lc) : mC x0 lc tr tc sr sc q := Or.inr (Or.inl h)
theorem mC_x : mC x0 lc tr tc sr sc x0 := Or.inl rfl
theorem mC_t {q : Nat} (h : q = tr ∨ q = tc) : mC x0 lc tr tc sr sc q := h.elim (fun h => Or.inr (Or.inr (Or.inl h))) (fun h => Or.inr (Or.inr (Or.inr (Or.inl h))))
theorem mC_s {q : Nat} (h : q = sr ∨ q = sc) : mC x0 lc tr tc sr sc q := h.elim (fun h => Or.inr (Or.inr (Or.inr (Or.inr (Or.inl h))))) (fun h => Or.inr (Or.inr (Or.inr (Or.inr (Or.inr h)))))
theorem CC.lt {fs : List Value} (h : CC g H x0 lc fs V) : x0 < H.size ∧ lc < H.size := by
  obtain ⟨a1, a2, a3, ⟨f, a4, a5⟩, a6⟩ := h
  exact ⟨a1.lt, a4.lt⟩
theorem CL.kept (h : CL g H x0 lc tr tc sr sc i3 i4 i5 i6 V n t) (hk : ∀ q : Nat, q < H.size → mC x0 lc tr tc sr sc q → H1[q]? = H[q]?) : CL g H1 x0 lc tr tc sr sc i3 i4 i5 i6 V n t := by
  obtain ⟨h1, h2, ⟨k, u, h3⟩, h4⟩ := h
  exact ⟨h1.kept (hk _ h1.lt.1 mC_x) (hk _ h1.lt.2 (mC_l rfl)), h2.kept (hk _ h2.lt.1 (mC_t (Or.inl rfl))) (hk _ h2.lt.2 (mC_t (Or.inr rfl))), ⟨k, u, h3.kept (hk _ h3.lt.1 (mC_s (Or.inl rfl))) (hk _ h3.lt.2 (mC_s (Or.inr rfl)))⟩, h4⟩
theorem CL.setV (h : CL g H x0 lc tr tc sr sc i3 i4 i5 i6 V n t) {W : Nat → Nat} (h1 : CC g H1 x0 lc (fCL lc tr sr i3 i4 i5 i6) W) (hk : ∀ q : Nat, q < H.size → ¬ q = lc → H1[q]? = H[q]?) : CL g H1 x0 lc tr tc sr sc i3 i4 i5 i6 W n t := by
  obtain ⟨-, h2, ⟨k, u, h3⟩, h4⟩ := h
  have h5 := h4
  obtain ⟨-, -, -, -, b1, b2, b3, b4, -⟩ := h5
  exact ⟨h1, h2.kept (hk _ h2.lt.1 b1.symm) (hk _ h2.lt.2 b2.symm), ⟨k, u, h3.kept (hk _ h3.lt.1 b3.symm) (hk _ h3.lt.2 b4.symm)⟩, h4⟩
theorem CL.setT (h : CL g H x0 lc tr tc sr sc i3 i4 i5 i6 V n t) {k2 : Nat} {u2 : Nat → Nat} (h2 : RW g tr tc k2 u2 H1) (hk : ∀ q : Nat, q < H.size → ¬ (q = tr ∨ q = tc) → H1[q]? = H[q]?) : CL g H1 x0 lc tr tc sr sc i3 i4 i5 i6 V k2 u2 := by
  obtain ⟨h1, -, ⟨k, u, h3⟩, h4⟩ := h
  have h5 := h4
  obtain ⟨a1, a2, a3, a4, b1, b2, b3, b4, c1, c2, c3, c4⟩ := h5
  exact ⟨h1.kept (hk _ h1.lt.1 (fun z => z.elim a1 a2)) (hk _ h1.lt.2 (fun z => z.elim b1 b2)), h2, ⟨k, u, h3.kept (hk _ h3.lt.1 (fun z => z.elim c1.symm c3.symm)) (hk _ h3.lt.2 (fun z => z.elim c2.symm c4.symm))⟩, h4⟩
theorem CL.setS (h : CL g H x0 lc tr tc sr sc i3 i4 i5 i6 V n t) {k2 : Nat} {u2 : Nat → Nat} (h3 : RW g sr sc k2 u2 H1) (hk : ∀ q : Nat, q < H.size → ¬ (q = sr ∨ q = sc) → H1[q]? = H[q]?) : CL g H1 x0 lc tr tc sr sc i3 i4 i5 i6 V n t := by
  obtain ⟨h1, h2, -, h4⟩ := h
  have h5 := h4
  obtain ⟨a1, a2, a3, a4, b1, b2, b3, b4, c1, c2, c3, c4⟩ := h5
  exact ⟨h1.kept (hk _ h1.lt.1 (fun z => z.elim a3 a4)) (hk _ h1.lt.2 (fun z => z.elim b3 b4)), h2.kept (hk _ h2.lt.1 (fun z => z.elim c1 c2)) (hk _ h2.lt.2 (fun z => z.elim c3 c4)), ⟨_, _, h3⟩, h4⟩
theorem CL.setI (h : CL g H x0 lc tr tc sr sc i3 i4 i5 i6 V n t) {j3 j4 j5 j6 : Int32} (h1 : va_at g.1 vwCl (x0, .inr (3, fCL lc tr sr j3 j4 j5 j6)) H1) (hk : ∀ q : Nat, q ≠ x0 → H1[q]? = H[q]?) : CL g H1 x0 lc tr tc sr sc j3 j4 j5 j6 V n t := by
  obtain ⟨⟨-, -, -, ⟨f, c1, c2⟩, c3, c4⟩, h2, ⟨k, u, h3⟩, h4⟩ := h
  have h5 := h4
  obtain ⟨a1, a2, a3, a4, -⟩ := h5
  exact ⟨⟨h1, rfl, rfl, ⟨f, c1.kept (hk _ c4.symm), c2⟩, c3, c4⟩, h2.kept (hk _ a1.symm) (hk _ a2.symm), ⟨k, u, h3.kept (hk _ a3.symm) (hk _ a4.symm)⟩, h4⟩
/-- what the class holds of a number's text is what the model says of it -/
theorem nh_sa {r d : Nat} (hr : r ≤ 36) (hd : d < 4) (h : saOK r n t d) : (∀ j, fdN n t ≤ j → j < n → wor (t j) < r) ∧ fdN n t ≤ n ∧ valN r t (fdN n t) (n - fdN n t) < 2 ^ 64 ∧ nhN r n t % 2 ^ 64 % 65536 ^ nP (decide (d < 2)) = saV r n t d := by
  obtain ⟨hk, -⟩ := h
  have e45 : (0 < n ∧ t 0 = 45) → d % 2 = 0 := fun z => by
    rcases Nat.mod_two_eq_zero_or_one d with e | e
    · exact e
    · have f0 : frN n t d = 0 := by
        unfold frN miB
        rw [if_neg]
        intro y
        rcases y with y | y
        · have := of_decide_eq_true y
          omega
        · omega
      have h9 := hk.2.1 0 (by omega) z.1
      rw [z.2, wor45] at h9
      omega
  have ef : frN n t d = fdN n t := by
    unfold frN fdN miB
    by_cases hb : 0 < n ∧ t 0 = 45
    · rw [if_pos (Or.inl (decide_eq_true ⟨hb.1, hb.2, e45 hb⟩)), if_pos (Or.inl hb)]
    · by_cases hp : 0 < n ∧ t 0 = 43
      · rw [if_pos (Or.inr hp), if_pos (Or.inr hp)]
      · rw [if_neg (fun z => z.elim (fun z => hb ⟨(of_decide_eq_true z).1, (of_decide_eq_true z).2.1⟩) hp), if_neg (fun z => z.elim hb hp)]
  unfold saV saX
  rw [ef] at hk ⊢
  refine ⟨hk.2.1, Nat.le_of_lt hk.1, okD_bd hk (by unfold nP; split <;> decide), ?_⟩
  have hX := hk.2.2
  unfold nhN rgV
  by_cases hb : 0 < n ∧ t 0 = 45
  · rw [if_pos hb, if_pos (show miB n t d = true from decide_eq_true ⟨hb.1, hb.2, e45 hb⟩)]
    generalize valN r t (fdN n t) (n - fdN n t) = X at hX
    rcases (show decide (d < 2) = true ∨ decide (d < 2) = false by cases decide (d < 2) <;> simp) with e | e
    · rw [e] at hX ⊢
      have hX : X < 65536 ^ 2 := hX
      show (2 ^ 64 - X) % 2 ^ 64 % 65536 ^ 2 = (65536 ^ 2 - X) % 65536 ^ 2
      omega
    · rw [e] at hX ⊢
      have hX : X < 65536 ^ 4 := hX
      show (2 ^ 64 - X) % 2 ^ 64 % 65536 ^ 4 = (65536 ^ 4 - X) % 65536 ^ 4
      omega
  · rw [if_neg hb, if_neg (show ¬ miB n t d = true from fun z => hb ⟨(of_decide_eq_true z).1, (of_decide_eq_true z).2.1⟩)]
    generalize valN r t (fdN n t) (n - fdN n t) = X at hX
    rcases (show decide (d < 2) = true ∨ decide (d < 2) = false by cases decide (d < 2) <;> simp) with e | e
    · rw [e] at hX ⊢
      have hX : X < 65536 ^ 2 := hX
      show X % 2 ^ 64 % 65536 ^ 2 = X
      omega
    · rw [e] at hX ⊢
      have hX : X < 65536 ^ 4 := hX
      show X % 2 ^ 64 % 65536 ^ 4 = X
      omega
end M68a
section M68
variable {p : Program} {l : Launch} {e : Env} {s : State} {m : MethodId} {args : Array Value} {below : List Frame} {meth : Method} {c : Code} {H H0 : Heap} {locs : List Loc} {cells slots : Nat} {Q : State → Prop} {A : Nat → Prop} {g : Gx} {b0 : Nat}
abbrev rmX2_copy : Room := { frames := 1, cells := 0, slots := 0, locals := 24 }
set_option maxHeartbeats 4000000 in
set_option maxRecDepth 100000 in
theorem c_xCopy (l : Launch) (g : Gx) (H0 : Heap) (x0 lc tr tc sr sc : Nat) (i3 i4 i5 i6 : Int32) (V : Nat → Nat) (n : Nat) (t : Nat → Nat) (hL : CL g H0 x0 lc tr tc sr sc i3 i4 i5 i6 V n t) (i j : Nat) (hi : i < 8) (hj : j < 8) : Met l yX2_copy wsX2_copy rmX2_copy (va_Pc [.ref x0, .int (nI i), .int (nI j)] (hB g H0)) (nQ H0 (mC x0 lc tr tc sr sc) (zC g x0 lc tr tc sr sc (fun r V2 n2 t2 => r = some (.int (bI (!decide (V j = V i)))) ∧ V2 = va_up V i (V j) ∧ n2 = n ∧ t2 = t))) 0 0 (fun q => (mC x0 lc tr tc sr sc) q ∨ H0.size ≤ q) := by
  refine cx_met (own := RX2) (cc := cX2_copy) (maxL := 3) (by decide) rfl rfl (Nat.le_of_ble_eq_true rfl) ?_
  intro p e s m below meth c ls C0 hB0 hnm hl
  obtain ⟨hH, hK⟩ := hB0
  obtain ⟨hx, hb, hr, hml, hown, hts, hlk⟩ := id C0
  subst hH
  have hS : va_S (fun q => (mC x0 lc tr tc sr sc) q ∨ s.heap.size ≤ q) s.heap s.heap [] := va_S.rf
  have hA : ∀ q : Nat, s.heap.size ≤ q → (fun q => (mC x0 lc tr tc sr sc) q ∨ s.heap.size ≤ q) q := fun q h => Or.inr h
  have hl : lv_has ls 3 [(0, .ref x0), (1, .int (nI i)), (2, .int (nI j))] := hl
  obtain ⟨hC, hR, hSp, hap⟩ := id hL
  obtain ⟨hf, hfl, hlc, ⟨f, hg9, hfv⟩, hV, hxl⟩ := id hC
  refine lv_iload_n hx hb dX2_copy_0 rfl (lv_at hl 1 rfl) ?_
  refine cp_S (As := [.int (nI i)]) (rest := []) C0 hl hK hS hA (c_ckCell l g s.heap i (by assumption)) gX2_copy_X2_checkCell rfl ⟨rfl, rfl⟩ (show hd_ok yX2_checkCell 1 from ⟨by decide, by decide, by decide +kernel⟩) ⟨Nat.le_of_ble_eq_true rfl, Nat.le_of_ble_eq_true rfl⟩ rfl (Nat.le_of_ble_eq_true rfl) ⟨Nat.zero_le _, Nat.zero_le _⟩ dX2_copy_1 (fun locs hS => ?_)
  refine lv_iload_n hx hb dX2_copy_4 rfl (lv_at hl 2 rfl) ?_
  refine cp_S (As := [.int (nI j)]) (rest := []) C0 hl hK hS hA (c_ckCell l g s.heap j (by assumption)) gX2_copy_X2_checkCell rfl ⟨rfl, rfl⟩ (show hd_ok yX2_checkCell 1 from ⟨by decide, by decide, by decide +kernel⟩) ⟨Nat.le_of_ble_eq_true rfl, Nat.le_of_ble_eq_true rfl⟩ rfl (Nat.le_of_ble_eq_true rfl) ⟨Nat.zero_le _, Nat.zero_le _⟩ dX2_copy_5 (fun locs hS => ?_)
  refine lv_aload_n hx hb dX2_copy_8 rfl (lv_at hl 0 rfl) ?_
  refine lv_iload_n hx hb dX2_copy_9 rfl (lv_at hl 1 rfl) ?_
  refine lv_aload_n hx hb dX2_copy_10 rfl (lv_at hl 0 rfl) ?_
  refine va_get (ci := 3) (C := RX2) (T := TX2) (N := 7) (v := .ref lc) hx hb hts (by decide +kernel) hown hK.1 (p1 hf) 0 rfl rfl 0 (by decide) (hts (.fieldLink RX2 9 "Radixbench" "cells" "[J") (by decide +kernel)) (fun _ h9 => h9) rfl dX2_copy_11 ?_
  refine lv_iload_n hx hb dX2_copy_14 rfl (lv_at hl 2 rfl) ?_
  refine f_lald (j := j) hx hb hK hg9 (by assumption) (by decide) dX2_copy_15 ?_
  refine tp_l (y := lN (V j)) (hfv j (by assumption)) ?_
  refine cn_V (As := [.int (nI i), .long (lN (V j))]) (rest := []) C0 hl hK hS hA (fun q h => Or.inl (mC_l h)) (c_becC l g s.heap x0 lc _ V hC i (V j) (by assumption) (hV j hj)) gX2_copy_X2_become rfl ⟨rfl, rfl⟩ (hC.recv hK) ⟨rfl, (show hd_ok yX2_become 2 from ⟨by decide, by decide, by decide +kernel⟩)⟩ ⟨Nat.le_of_ble_eq_true rfl, Nat.le_of_ble_eq_true rfl⟩ rfl (Nat.le_of_ble_eq_true rfl) ⟨Nat.zero_le _, Nat.zero_le _⟩ dX2_copy_16 (fun r1 H1 locs hv hzz hk1 hS => ?_)
  obtain ⟨rfl, hC1⟩ := hv
  refine W.widen (k := 0) (n := 0) (by decide) (by decide) ?_
  exact rt_ni (mu := mC x0 lc tr tc sr sc) C0 (bI_nar _) ⟨i3, i4, i5, i6, _, n, t, ⟨rfl, rfl, rfl, rfl⟩, hL.setV hC1 hk1⟩ hS rfl dX2_copy_19
abbrev rmX2_type : Room := { frames := 1, cells := 0, slots := 0, locals := 21 }
set_option maxHeartbeats 4000000 in
set_option maxRecDepth 100000 in
theorem c_xType (l : Launch) (g : Gx) (H0 : Heap) (x0 lc tr tc sr sc : Nat) (i3 i4 i5 i6 : Int32) (V : Nat → Nat) (n : Nat) (t : Nat → Nat) (hL : CL g H0 x0 lc tr tc sr sc i3 i4 i5 i6 V n t) (i : Nat) (zg : Bool) (hi : i ≤ 37) (hn : n < 70) : Met l yX2_type wsX2_type rmX2_type (va_Pc [.ref x0, .int (nI i), .int (bI zg)] (hB g H0)) (nQ H0 (mC x0 lc tr tc sr sc) (zC g x0 lc tr tc sr sc (fun r V2 n2 t2 => r = some (.int (nI (n + 1))) ∧ V2 = V ∧ n2 = n + 1 ∧ t2 = tup t n (chN i zg)))) 0 0 (fun q => (mC x0 lc tr tc sr sc) q ∨ H0.size ≤ q) := by
  refine cx_met (own := RX2) (cc := cX2_type) (maxL := 3) (by decide) rfl rfl (Nat.le_of_ble_eq_true rfl) ?_
  intro p e s m below meth c ls C0 hB0 hnm hl
  obtain ⟨hH, hK⟩ := hB0
  obtain ⟨hx, hb, hr, hml, hown, hts, hlk⟩ := id C0
  subst hH
  have hS : va_S (fun q => (mC x0 lc tr tc sr sc) q ∨ s.heap.size ≤ q) s.heap s.heap [] := va_S.rf
  have hA : ∀ q : Nat, s.heap.size ≤ q → (fun q => (mC x0 lc tr tc sr sc) q ∨ s.heap.size ≤ q) q := fun q h => Or.inr h
  have hl : lv_has ls 3 [(0, .ref x0), (1, .int (nI i)), (2, .int (bI zg))] := hl
  obtain ⟨hC, hR, hSp, hap⟩ := id hL
  obtain ⟨hf, hfl, hlc, ⟨f, hg9, hfv⟩, hV, hxl⟩ := id hC
  refine lv_iload_n hx hb dX2_type_0 rfl (lv_at hl 1 rfl) ?_
  refine lv_if_lt (tgt := 10) hx hb dX2_type_1 (by decide) (fun h1 => absurd h1 (nI_pos (by omega))) (fun h1 => ?_)
  refine lv_iload_n hx hb dX2_type_4 rfl (lv_at hl 1 rfl) ?_
  refine lv_bipush (v := nI 37) hx hb dX2_type_5 (by decide) ?_
  refine lv_icmp_le (tgt := 20) hx hb dX2_type_7 (by decide) (fun h2 => ?_) (fun h2 => absurd (nI_le hi (by decide)) h2)
  refine lv_aload_n hx hb dX2_type_20 rfl (lv_at hl 0 rfl) ?_
  refine va_get (ci := 3) (C := RX2) (T := TX2) (N := 7) (v := .ref tr) hx hb hts (by decide +kernel) hown hK.1 (p1 hf) 0 rfl rfl 1 (by decide) (hts (.fieldLink RX2 16 "Radixbench" "text" "LRadixbench$Row;") (by decide +kernel)) (fun _ h9 => h9) rfl dX2_type_21 ?_
  refine cp_V (As := []) (rest := []) C0 hl hK hS hA (c_rFull l g s.heap tr tc n t hR) gX2_type_X0_isFull rfl ⟨rfl, rfl⟩ (hR.recv hK) ⟨rfl, (show hd_ok yX0_isFull 0 from ⟨by decide, by decide, by decide +kernel⟩)⟩ ⟨Nat.le_of_ble_eq_true rfl, Nat.le_of_ble_eq_true rfl⟩ rfl (Nat.le_of_ble_eq_true rfl) ⟨Nat.zero_le _, Nat.zero_le _⟩ dX2_type_24 (fun locs hS => ?_)
  refine lv_if_eq (tgt := 40) hx hb dX2_type_27 (by decide) (fun h3 => ?_) (fun h3 => absurd (of_decide_eq_true (bI_n0 h3)) (by omega))
  refine lv_aload_n hx hb dX2_type_40 rfl (lv_at hl 0 rfl) ?_
  refine va_get (ci := 3) (C := RX2) (T := TX2) (N := 7) (v := .ref tr) hx hb hts (by decide +kernel) hown hK.1 (p1 hf) 0 rfl rfl 1 (by decide) (hts (.fieldLink RX2 16 "Radixbench" "text" "LRadixbench$Row;") (by decide +kernel)) (fun _ h9 => h9) rfl dX2_type_41 ?_
  refine lv_iload_n hx hb dX2_type_44 rfl (lv_at hl 1 rfl) ?_
  refine lv_iload_n hx hb dX2_type_45 rfl (lv_at hl 2 rfl) ?_
  refine cp_S (As := [.int (nI i), .int (bI zg)]) (rest := [.ref tr]) C0 hl hK hS hA (c_sgOf l g s.heap i zg hi) gX2_type_X0_signOf rfl ⟨rfl, rfl⟩ (show hd_ok yX0_signOf 2 from ⟨by decide, by decide, by decide +kernel⟩) ⟨Nat.le_of_ble_eq_true rfl, Nat.le_of_ble_eq_true rfl⟩ rfl (Nat.le_of_ble_eq_true rfl) ⟨Nat.zero_le _, Nat.zero_le _⟩ dX2_type_46 (fun locs hS => ?_)
  refine cn_V (As := [.int (nI (chN i zg))]) (rest := []) C0 hl hK hS hA (fun q h => Or.inl (mC_t h)) (c_rAdd l g s.heap tr tc n t hR (chN i zg) (chN_lt hi) hn) gX2_type_X0_add rfl ⟨rfl, rfl⟩ (hR.recv hK) ⟨rfl, (show hd_ok yX0_add 1 from ⟨by decide, by decide, by decide +kernel⟩)⟩ ⟨Nat.le_of_ble_eq_true rfl, Nat.le_of_ble_eq_true rfl⟩ rfl (Nat.le_of_ble_eq_true rfl) ⟨Nat.zero_le _, Nat.zero_le _⟩ dX2_type_49 (fun r1 H1 locs hv hzz hk1 hS => ?_)
  obtain ⟨rfl, hR1⟩ := hv
  have hL1 := hL.setT hR1 hk1
  have hf1 := hL1.1.1
  refine lv_aload_n hx hb dX2_type_52 rfl (lv_at hl 0 rfl) ?_
  refine va_get (ci := 3) (C := RX2) (T := TX2) (N := 7) (v := .ref tr) hx hb hts (by decide +kernel) hown hK.1 (p1 hf1) 0 rfl rfl 1 (by decide) (hts (.fieldLink RX2 16 "Radixbench" "text" "LRadixbench$Row;") (by decide +kernel)) (fun _ h9 => h9) rfl dX2_type_53 ?_
  refine cp_V (As := []) (rest := []) C0 hl hK hS hA (c_rSize l g H1 tr tc (n + 1) _ hR1) gX2_type_X0_size rfl ⟨rfl, rfl⟩ (hR1.recv hK) ⟨rfl, (show hd_ok yX0_size 0 from ⟨by decide, by decide, by decide +kernel⟩)⟩ ⟨Nat.le_of_ble_eq_true rfl, Nat.le_of_ble_eq_true rfl⟩ rfl (Nat.le_of_ble_eq_true rfl) ⟨Nat.zero_le _, Nat.zero_le _⟩ dX2_type_56 (fun locs hS => ?_)
  refine W.widen (k := 0) (n := 0) (by decide) (by decide) ?_
  exact rt_ni (mu := mC x0 lc tr tc sr sc) C0 rfl ⟨i3, i4, i5, i6, V, n + 1, _, ⟨rfl, rfl, rfl, rfl⟩, hL1⟩ hS rfl dX2_type_59
abbrev rmX2_erase : Room := { frames := 1, cells := 0, slots := 0, locals := 20 }
set_option maxHeartbeats 4000000 in
set_option maxRecDepth 100000 in
theorem c_xErase (l : Launch) (g : Gx) (H0 : Heap) (x0 lc tr tc sr sc : Nat) (i3 i4 i5 i6 : Int32) (V : Nat → Nat) (n : Nat) (t : Nat → Nat) (hL : CL g H0 x0 lc tr tc sr sc i3 i4 i5 i6 V n t) (hn : 0 < n) : Met l yX2_erase wsX2_erase rmX2_erase (va_Pc [.ref x0] (hB g H0)) (nQ H0 (mC x0 lc tr tc sr sc) (zC g x0 lc tr tc sr sc (fun r V2 n2 t2 => r = some (.int (nI (n - 1))) ∧ V2 = V ∧ n2 = n - 1 ∧ t2 = t))) 0 0 (fun q => (mC x0 lc tr tc sr sc) q ∨ H0.size ≤ q) := by
  refine cx_met (own := RX2) (cc := cX2_erase) (maxL := 1) (by decide) rfl rfl (Nat.le_of_ble_eq_true rfl) ?_
  intro p e s m below meth c ls C0 hB0 hnm hl
  obtain ⟨hH, hK⟩ := hB0
  obtain ⟨hx, hb, hr, hml, hown, hts, hlk⟩ := id C0
  subst hH
  have hS : va_S (fun q => (mC x0 lc tr tc sr sc) q ∨ s.heap.size ≤ q) s.heap s.heap [] := va_S.rf
  have hA : ∀ q : Nat, s.heap.size ≤ q → (fun q => (mC x0 lc tr tc sr sc) q ∨ s.heap.size ≤ q) q := fun q h => Or.inr h
  have hl : lv_has ls 1 [(0, .ref x0)] := hl
  obtain ⟨hC, hR, hSp, hap⟩ := id hL
  obtain ⟨hf, hfl, hlc, ⟨f, hg9, hfv⟩, hV, hxl⟩ := id hC
  obtain ⟨-, -, -, -, hn70, -, -⟩ := id hR
  refine lv_aload_n hx hb dX2_erase_0 rfl (lv_at hl 0 rfl) ?_
  refine va_get (ci := 3) (C := RX2) (T := TX2) (N := 7) (v := .ref tr) hx hb hts (by decide +kernel) hown hK.1 (p1 hf) 0 rfl rfl 1 (by decide) (hts (.fieldLink RX2 16 "Radixbench" "text" "LRadixbench$Row;") (by decide +kernel)) (fun _ h9 => h9) rfl dX2_erase_1 ?_
  refine cp_V (As := []) (rest := []) C0 hl hK hS hA (c_rSize l g s.heap tr tc n t hR) gX2_erase_X0_size rfl ⟨rfl, rfl⟩ (hR.recv hK) ⟨rfl, (show hd_ok yX0_size 0 from ⟨by decide, by decide, by decide +kernel⟩)⟩ ⟨Nat.le_of_ble_eq_true rfl, Nat.le_of_ble_eq_true rfl⟩ rfl (Nat.le_of_ble_eq_true rfl) ⟨Nat.zero_le _, Nat.zero_le _⟩ dX2_erase_4 (fun locs hS => ?_)
  refine lv_if_ne (tgt := 20) hx hb dX2_erase_7 (by decide) (fun h1 => ?_) (fun h1 => (by have z : n = 0 := nI_inj (by omega) (by decide) h1; omega))
  refine lv_aload_n hx hb dX2_erase_20 rfl (lv_at hl 0 rfl) ?_
  refine va_get (ci := 3) (C := RX2) (T := TX2) (N := 7) (v := .ref tr) hx hb hts (by decide +kernel) hown hK.1 (p1 hf) 0 rfl rfl 1 (by decide) (hts (.fieldLink RX2 16 "Radixbench" "text" "LRadixbench$Row;") (by decide +kernel)) (fun _ h9 => h9) rfl dX2_erase_21 ?_
  refine cn_V (As := []) (rest := []) C0 hl hK hS hA (fun q h => Or.inl (mC_t h)) (c_rDrop l g s.heap tr tc n t hR hn) gX2_erase_X0_dropLast rfl ⟨rfl, rfl⟩ (hR.recv hK) ⟨rfl, (show hd_ok yX0_dropLast 0 from ⟨by decide, by decide, by decide +kernel⟩)⟩ ⟨Nat.le_of_ble_eq_true rfl, Nat.le_of_ble_eq_true rfl⟩ rfl (Nat.le_of_ble_eq_true rfl) ⟨Nat.zero_le _, Nat.zero_le _⟩ dX2_erase_24 (fun r1 H1 locs hv hzz hk1 hS => ?_)
  obtain ⟨rfl, hR1⟩ := hv
  have hL1 := hL.setT hR1 hk1
  have hf1 := hL1.1.1
  refine lv_aload_n hx hb dX2_erase_27 rfl (lv_at hl 0 rfl) ?_
  refine va_get (ci := 3) (C := RX2) (T := TX2) (N := 7) (v := .ref tr) hx hb hts (by decide +kernel) hown hK.1 (p1 hf1) 0 rfl rfl 1 (by decide) (hts (.fieldLink RX2 16 "Radixbench" "text" "LRadixbench$Row;") (by decide +kernel)) (fun _ h9 => h9) rfl dX2_erase_28 ?_
  refine cp_V (As := []) (rest := []) C0 hl hK hS hA (c_rSize l g H1 tr tc (n - 1) _ hR1) gX2_erase_X0_size rfl ⟨rfl, rfl⟩ (hR1.recv hK) ⟨rfl, (show hd_ok yX0_size 0 from ⟨by decide, by decide, by decide +kernel⟩)⟩ ⟨Nat.le_of_ble_eq_true rfl, Nat.le_of_ble_eq_true rfl⟩ rfl (Nat.le_of_ble_eq_true rfl) ⟨Nat.zero_le _, Nat.zero_le _⟩ dX2_erase_31 (fun locs hS => ?_)
  refine W.widen (k := 0) (n := 0) (by decide) (by decide) ?_
  exact rt_ni (mu := mC x0 lc tr tc sr sc) C0 rfl ⟨i3, i4, i5, i6, V, n - 1, _, ⟨rfl, rfl, rfl, rfl⟩, hL1⟩ hS rfl dX2_erase_34
abbrev rmX2_clear : Room := { frames := 1, cells := 0, slots := 0, locals := 20 }
set_option maxHeartbeats 4000000 in
set_option maxRecDepth 100000 in
theorem c_xClear (l : Launch) (g : Gx) (H0 : Heap) (x0 lc tr tc sr sc : Nat) (i3 i4 i5 i6 : Int32) (V : Nat → Nat) (n : Nat) (t : Nat → Nat) (hL : CL g H0 x0 lc tr tc sr sc i3 i4 i5 i6 V n t) : Met l yX2_clear wsX2_clear rmX2_clear (va_Pc [.ref x0] (hB g H0)) (nQ H0 (mC x0 lc tr tc sr sc) (zC g x0 lc tr tc sr sc (fun r V2 n2 t2 => r = some (.int (nI n)) ∧ V2 = V ∧ n2 = 0))) 0 0 (fun q => (mC x0 lc tr tc sr sc) q ∨ H0.size ≤ q) := by
  refine cx_met (own := RX2) (cc := cX2_clear) (maxL := 2) (by decide) rfl rfl (Nat.le_of_ble_eq_true rfl) ?_
  intro p e s m below meth c ls C0 hB0 hnm hl
  obtain ⟨hH, hK⟩ := hB0
  obtain ⟨hx, hb, hr, hml, hown, hts, hlk⟩ := id C0
  subst hH
  have hS : va_S (fun q => (mC x0 lc tr tc sr sc) q ∨ s.heap.size ≤ q) s.heap s.heap [] := va_S.rf
  have hA : ∀ q : Nat, s.heap.size ≤ q → (fun q => (mC x0 lc tr tc sr sc) q ∨ s.heap.size ≤ q) q := fun q h => Or.inr h
  have hl : lv_has ls 2 [(0, .ref x0)] := hl
  obtain ⟨hC, hR, hSp, hap⟩ := id hL
  obtain ⟨hf, hfl, hlc, ⟨f, hg9, hfv⟩, hV, hxl⟩ := id hC
  refine lv_aload_n hx hb dX2_clear_0 rfl (lv_at hl 0 rfl) ?_
  refine va_get (ci := 3) (C := RX2) (T := TX2) (N := 7) (v := .ref tr) hx hb hts (by decide +kernel) hown hK.1 (p1 hf) 0 rfl rfl 1 (by decide) (hts (.fieldLink RX2 16 "Radixbench" "text" "LRadixbench$Row;") (by decide +kernel)) (fun _ h9 => h9) rfl dX2_clear_1 ?_
  refine cp_V (As := []) (rest := []) C0 hl hK hS hA (c_rSize l g s.heap tr tc n t hR) gX2_clear_X0_size rfl ⟨rfl, rfl⟩ (hR.recv hK) ⟨rfl, (show hd_ok yX0_size 0 from ⟨by decide, by decide, by decide +kernel⟩)⟩ ⟨Nat.le_of_ble_eq_true rfl, Nat.le_of_ble_eq_true rfl⟩ rfl (Nat.le_of_ble_eq_true rfl) ⟨Nat.zero_le _, Nat.zero_le _⟩ dX2_clear_4 (fun locs hS => ?_)
  refine lv_istore_n (lv' := [(1, .int (nI n)), (0, .ref x0)]) hx hb dX2_clear_7 rfl hl (by decide) rfl (fun ls hl => ?_)
  refine lv_aload_n hx hb dX2_clear_8 rfl (lv_at hl 1 rfl) ?_
  refine va_get (ci := 3) (C := RX2) (T := TX2) (N := 7) (v := .ref tr) hx hb hts (by decide +kernel) hown hK.1 (p1 hf) 0 rfl rfl 1 (by decide) (hts (.fieldLink RX2 16 "Radixbench" "text" "LRadixbench$Row;") (by decide +kernel)) (fun _ h9 => h9) rfl dX2_clear_9 ?_
  refine cn_V (As := []) (rest := []) C0 hl hK hS hA (fun q h => Or.inl (mC_t h)) (c_rEmpty l g s.heap tr tc n t hR) gX2_clear_X0_empty rfl ⟨rfl, rfl⟩ (hR.recv hK) ⟨rfl, (show hd_ok yX0_empty 0 from ⟨by decide, by decide, by decide +kernel⟩)⟩ ⟨Nat.le_of_ble_eq_true rfl, Nat.le_of_ble_eq_true rfl⟩ rfl (Nat.le_of_ble_eq_true rfl) ⟨Nat.zero_le _, Nat.zero_le _⟩ dX2_clear_12 (fun r1 H1 locs hv hzz hk1 hS => ?_)
  obtain ⟨rfl, hR1⟩ := hv
  have hL1 := hL.setT (hR1 t) hk1
  refine lv_iload_n hx hb dX2_clear_15 rfl (lv_at hl 0 rfl) ?_
  refine W.widen (k := 0) (n := 0) (by decide) (by decide) ?_
  exact rt_ni (mu := mC x0 lc tr tc sr sc) C0 rfl ⟨i3, i4, i5, i6, V, 0, t, ⟨rfl, rfl, rfl⟩, hL1⟩ hS rfl dX2_clear_16
abbrev rmX2_read : Room := { frames := 4, cells := 0, slots := 0, locals := 104 }
set_option maxHeartbeats 4000000 in
set_option maxRecDepth 100000 in
theorem c_xRead (l : Launch) (g : Gx) (b0 : Nat) (H0 : Heap) (x0 lc tr tc sr sc : Nat) (i3 i4 i5 i6 : Int32) (V : Nat → Nat) (n : Nat) (t : Nat → Nat) (hL : CL g H0 x0 lc tr tc sr sc i3 i4 i5 i6 V n t) (hmb : ∀ q : Nat, mC x0 lc tr tc sr sc q → b0 ≤ q) (i r9 d9 : Nat) (hi : i < 8) (hr9 : 2 ≤ r9 ∧ r9 ≤ 36) (hd9 : d9 < 4) : Met l yX2_read wsX2_read rmX2_read (va_Pc [.ref x0, .int (nI i), .int (nI r9), .int (nI d9)] (hJ g b0 H0)) (nQ H0 (mC x0 lc tr tc sr sc) (zC g x0 lc tr tc sr sc (fun r V2 n2 t2 => (∃ rv : Int32, r = some (.int rv)) ∧ n2 = n ∧ t2 = t ∧ ((saOK r9 n t d9 ∧ V2 = va_up V i (wideN (nP (decide (d9 < 2))) (saV r9 n t d9))) ∨ (¬ saOK r9 n t d9 ∧ V2 = V))))) 0 0 (fun q => (mC x0 lc tr tc sr sc) q ∨ H0.size ≤ q) := by
  refine cx_met (own := RX2) (cc := cX2_read) (maxL := 4) (by decide) rfl rfl (Nat.le_of_ble_eq_true rfl) ?_
  intro p e s m below meth c ls C0 hB0 hnm hl
  obtain ⟨hH, hK, hZ⟩ := hB0
  obtain ⟨hx, hb, hr, hml, hown, hts, hlk⟩ := id C0
  subst hH
  have hS : va_S (fun q => (mC x0 lc tr tc sr sc) q ∨ s.heap.size ≤ q) s.heap s.heap [] := va_S.rf
  have hA : ∀ q : Nat, s.heap.size ≤ q → (fun q => (mC x0 lc tr tc sr sc) q ∨ s.heap.size ≤ q) q := fun q h => Or.inr h
  have h0Z := hZ.1
  have hAb : ∀ q : Nat, (fun q => (mC x0 lc tr tc sr sc) q ∨ s.heap.size ≤ q) q → b0 ≤ q := fun q h => h.elim (hmb q) (fun h => Nat.le_trans h0Z h)
  have hl : lv_has ls 4 [(0, .ref x0), (1, .int (nI i)), (2, .int (nI r9)), (3, .int (nI d9))] := hl
  obtain ⟨hC, hR, hSp, hap⟩ := id hL
  obtain ⟨hf, hfl, hlc, ⟨f, hg9, hfv⟩, hV, hxl⟩ := id hC
  have ez : decide (d9 = 0 ∨ d9 = 1) = decide (d9 < 2) := decide_eq_decide.mpr (by omega)
  refine lv_iload_n hx hb dX2_read_0 rfl (lv_at hl 1 rfl) ?_
  refine cp_S (As := [.int (nI i)]) (rest := []) C0 hl hK hS hA (c_ckCell l g s.heap i (by assumption)) gX2_read_X2_checkCell rfl ⟨rfl, rfl⟩ (show hd_ok yX2_checkCell 1 from ⟨by decide, by decide, by decide +kernel⟩) ⟨Nat.le_of_ble_eq_true rfl, Nat.le_of_ble_eq_true rfl⟩ rfl (Nat.le_of_ble_eq_true rfl) ⟨Nat.zero_le _, Nat.zero_le _⟩ dX2_read_1 (fun locs hS => ?_)
  refine lv_iload_n hx hb dX2_read_4 rfl (lv_at hl 2 rfl) ?_
  refine lv_iload_n hx hb dX2_read_5 rfl (lv_at hl 3 rfl) ?_
  refine cp_S (As := [.int (nI r9), .int (nI d9)]) (rest := []) C0 hl hK hS hA (c_ckRK l g s.heap r9 d9 hr9 hd9) gX2_read_X2_checkRadixAndKind rfl ⟨rfl, rfl⟩ (show hd_ok yX2_checkRadixAndKind 2 from ⟨by decide, by decide, by decide +kernel⟩) ⟨Nat.le_of_ble_eq_true rfl, Nat.le_of_ble_eq_true rfl⟩ rfl (Nat.le_of_ble_eq_true rfl) ⟨Nat.zero_le _, Nat.zero_le _⟩ dX2_read_6 (fun locs hS => ?_)
  refine lv_aload_n hx hb dX2_read_9 rfl (lv_at hl 0 rfl) ?_
  refine lv_dup hx hb dX2_read_10 rfl ?_
  refine va_get (ci := 3) (C := RX2) (T := TX2) (N := 7) (v := .int i4) hx hb hts (by decide +kernel) hown hK.1 (p1 hf) 0 rfl rfl 4 (by decide) (hts (.fieldLink RX2 79 "Radixbench" "reads" "I") (by decide +kernel)) (fun _ h9 => h9) rfl dX2_read_11 ?_
  refine lv_iconst (v := nI 1) hx hb dX2_read_14 (by decide) ?_
  refine lv_iadd hx hb dX2_read_15 ?_
  refine w_putf (ci := 3) (C := RX2) (T := TX2) (N := 7) (ty := .int) hx hb hts (by decide +kernel) tyX2 tyX2_ok nmX2 hown hK hS hf (Or.inl mC_x) rfl 4 (by decide) (hts (.fieldLink RX2 79 "Radixbench" "reads" "I") (by decide +kernel)) (fun _ h9 => h9) rfl (by decide +kernel) rfl rfl (by show 4 < 7; decide) dX2_read_16 (fun H2 locs f2 s2 o2 hS => ?_)
  have hL2 : CL g H2 x0 lc tr tc sr sc i3 (i4 + nI 1) i5 i6 V n t := hL.setI f2 o2
  have hC2 := hL2.1
  have hR2 := hL2.2.1
  have hf2 := hC2.1
  refine lv_aload_n hx hb dX2_read_19 rfl (lv_at hl 0 rfl) ?_
  refine va_get (ci := 3) (C := RX2) (T := TX2) (N := 7) (v := .ref tr) hx hb hts (by decide +kernel) hown hK.1 (p1 hf2) 0 rfl rfl 1 (by decide) (hts (.fieldLink RX2 16 "Radixbench" "text" "LRadixbench$Row;") (by decide +kernel)) (fun _ h9 => h9) rfl dX2_read_20 ?_
  refine lv_iload_n hx hb dX2_read_23 rfl (lv_at hl 2 rfl) ?_
  refine lv_iload_n hx hb dX2_read_24 rfl (lv_at hl 3 rfl) ?_
  refine jp_V (As := [.int (nI r9), .int (nI d9)]) (rest := []) C0 hl hK hS hA (zat hZ hS hAb) (c_isNo l g b0 H2 tr tc n t hR2 r9 d9 hr9 hd9) gX2_read_X0_isNumberOf rfl ⟨rfl, rfl⟩ (hR2.recv hK) ⟨rfl, (show hd_ok yX0_isNumberOf 2 from ⟨by decide, by decide, by decide +kernel⟩)⟩ ⟨Nat.le_of_ble_eq_true rfl, Nat.le_of_ble_eq_true rfl⟩ rfl (Nat.le_of_ble_eq_true rfl) ⟨Nat.zero_le _, Nat.zero_le _⟩ dX2_read_25 (fun locs hS => ?_)
  by_cases hsa : saOK r9 n t d9
  · rw [bP_t hsa]
    refine lv_if_ne (tgt := 43) hx hb dX2_read_28 (by decide) (fun h1 => ?_) (fun h1 => absurd h1 (by decide))
    obtain ⟨z1, z2, z3, z4⟩ := nh_sa hr9.2 hd9 hsa
    refine lv_aload_n hx hb dX2_read_43 rfl (lv_at hl 0 rfl) ?_
    refine lv_iload_n hx hb dX2_read_44 rfl (lv_at hl 1 rfl) ?_
    refine lv_aload_n hx hb dX2_read_45 rfl (lv_at hl 0 rfl) ?_
    refine va_get (ci := 3) (C := RX2) (T := TX2) (N := 7) (v := .ref tr) hx hb hts (by decide +kernel) hown hK.1 (p1 hf2) 0 rfl rfl 1 (by decide) (hts (.fieldLink RX2 16 "Radixbench" "text" "LRadixbench$Row;") (by decide +kernel)) (fun _ h9 => h9) rfl dX2_read_46 ?_
    refine lv_iload_n hx hb dX2_read_49 rfl (lv_at hl 2 rfl) ?_
    refine cp_V (As := [.int (nI r9)]) (rest := [.int (nI i), .ref x0]) C0 hl hK hS hA (c_held l g H2 tr tc n t hR2 r9 hr9 z1 z2 z3) gX2_read_X0_numberHeld rfl ⟨rfl, rfl⟩ (hR2.recv hK) ⟨rfl, (show hd_ok yX0_numberHeld 1 from ⟨by decide, by decide, by decide +kernel⟩)⟩ ⟨Nat.le_of_ble_eq_true rfl, Nat.le_of_ble_eq_true rfl⟩ rfl (Nat.le_of_ble_eq_true rfl) ⟨Nat.zero_le _, Nat.zero_le _⟩ dX2_read_50 (fun locs hS => ?_)
    refine tp_l (y := lN (nhN r9 n t % 2 ^ 64)) (lN_m _) ?_
    refine lv_iload_n hx hb dX2_read_53 rfl (lv_at hl 3 rfl) ?_
    refine cp_S (As := [.int (nI d9)]) (rest := [.long (lN (nhN r9 n t % 2 ^ 64)), .int (nI i), .ref x0]) C0 hl hK hS hA (c_isOfInt l g H2 d9 hd9) gX2_read_X2_isOfInt rfl ⟨rfl, rfl⟩ (show hd_ok yX2_isOfInt 1 from ⟨by decide, by decide, by decide +kernel⟩) ⟨Nat.le_of_ble_eq_true rfl, Nat.le_of_ble_eq_true rfl⟩ rfl (Nat.le_of_ble_eq_true rfl) ⟨Nat.zero_le _, Nat.zero_le _⟩ dX2_read_54 (fun locs hS => ?_)
    refine tp_i (y := bI (decide (d9 < 2))) ((by rw [ez])) ?_
    refine cp_S (As := [.long (lN (nhN r9 n t % 2 ^ 64)), .int (bI (decide (d9 < 2)))]) (rest := [.int (nI i), .ref x0]) C0 hl hK hS hA (c_setting l g H2 (nhN r9 n t % 2 ^ 64) (decide (d9 < 2)) (Nat.mod_lt _ (by decide))) gX2_read_X2_setting rfl ⟨rfl, rfl⟩ (show hd_ok yX2_setting 2 from ⟨by decide, by decide, by decide +kernel⟩) ⟨Nat.le_of_ble_eq_true rfl, Nat.le_of_ble_eq_true rfl⟩ rfl (Nat.le_of_ble_eq_true rfl) ⟨Nat.zero_le _, Nat.zero_le _⟩ dX2_read_57 (fun locs hS => ?_)
    refine tp_l (y := lN (wideN (nP (decide (d9 < 2))) (saV r9 n t d9))) ((by rw [z4])) ?_
    have hw9 : wideN (nP (decide (d9 < 2))) (saV r9 n t d9) < 65536 ^ 4 := wideN_lt (nP_or _) (by rw [← z4]; exact Nat.mod_lt _ (Nat.pow_pos (by decide)))
    refine cn_V (As := [.int (nI i), .long (lN (wideN (nP (decide (d9 < 2))) (saV r9 n t d9)))]) (rest := []) C0 hl hK hS hA (fun q h => Or.inl (mC_l h)) (c_becC l g H2 x0 lc _ V hC2 i (wideN (nP (decide (d9 < 2))) (saV r9 n t d9)) (by assumption) hw9) gX2_read_X2_become rfl ⟨rfl, rfl⟩ (hC2.recv hK) ⟨rfl, (show hd_ok yX2_become 2 from ⟨by decide, by decide, by decide +kernel⟩)⟩ ⟨Nat.le_of_ble_eq_true rfl, Nat.le_of_ble_eq_true rfl⟩ rfl (Nat.le_of_ble_eq_true rfl) ⟨Nat.zero_le _, Nat.zero_le _⟩ dX2_read_60 (fun r1 H1 locs hv hzz hk1 hS => ?_)
    obtain ⟨rfl, hC1⟩ := hv
    refine lv_pop hx hb dX2_read_63 rfl ?_
    refine lv_iconst (v := nI 1) hx hb dX2_read_64 (by decide) ?_
    refine W.widen (k := 0) (n := 0) (by decide) (by decide) ?_
    exact rt_ni (mu := mC x0 lc tr tc sr sc) C0 rfl ⟨_, _, _, _, _, n, t, ⟨⟨_, rfl⟩, rfl, rfl, Or.inl ⟨hsa, rfl⟩⟩, hL2.setV hC1 hk1⟩ hS rfl dX2_read_65
  · rw [bP_f hsa]
    refine lv_if_ne (tgt := 43) hx hb dX2_read_28 (by decide) (fun h1 => absurd rfl h1) (fun h1 => ?_)
    refine lv_aload_n hx hb dX2_read_31 rfl (lv_at hl 0 rfl) ?_
    refine lv_dup hx hb dX2_read_32 rfl ?_
    refine va_get (ci := 3) (C := RX2) (T := TX2) (N := 7) (v := .int i3) hx hb hts (by decide +kernel) hown hK.1 (p1 hf2) 0 rfl rfl 3 (by decide) (hts (.fieldLink RX2 87 "Radixbench" "faults" "I") (by decide +kernel)) (fun _ h9 => h9) rfl dX2_read_33 ?_
    refine lv_iconst (v := nI 1) hx hb dX2_read_36 (by decide) ?_
    refine lv_iadd hx hb dX2_read_37 ?_
    refine w_putf (ci := 3) (C := RX2) (T := TX2) (N := 7) (ty := .int) hx hb hts (by decide +kernel) tyX2 tyX2_ok nmX2 hown hK hS hf2 (Or.inl mC_x) rfl 3 (by decide) (hts (.fieldLink RX2 87 "Radixbench" "faults" "I") (by decide +kernel)) (fun _ h9 => h9) rfl (by decide +kernel) rfl rfl (by show 3 < 7; decide) dX2_read_38 (fun H3 locs f3 s3 o3 hS => ?_)
    refine lv_iconst (v := nI 0) hx hb dX2_read_41 (by decide) ?_
    exact rt_ni (mu := mC x0 lc tr tc sr sc) C0 rfl ⟨_, _, _, _, V, n, t, ⟨⟨_, rfl⟩, rfl, rfl, Or.inr ⟨hsa, rfl⟩⟩, hL2.setI f3 o3⟩ hS rfl dX2_read_42
abbrev rmX2_write : Room := { frames := 4, cells := 0, slots := 0, locals := 104 }
set_option maxHeartbeats 4000000 in
set_option maxRecDepth 100000 in
theorem c_xWrite (l : Launch) (g : Gx) (H0 : Heap) (x0 lc tr tc sr sc : Nat) (i3 i4 i5 i6 : Int32) (V : Nat → Nat) (n : Nat) (t : Nat → Nat) (hL : CL g H0 x0 lc tr tc sr sc i3 i4 i5 i6 V n t) (i r9 d9 : Nat) (hi : i < 8) (hr9 : 2 ≤ r9 ∧ r9 ≤ 36) (hd9 : d9 < 4) : Met l yX2_write wsX2_write rmX2_write (va_Pc [.ref x0, .int (nI i), .int (nI r9), .int (nI d9)] (hB g H0)) (nQ H0 (mC x0 lc tr tc sr sc) (zC g x0 lc tr tc sr sc (fun r V2 n2 t2 => (∃ rv : Int32, r = some (.int rv)) ∧ V2 = V ∧ isT r9 (nP (decide (d9 < 2))) (V i % 65536 ^ nP (decide (d9 < 2))) (decide (d9 % 2 = 0)) n2 t2))) 0 0 (fun q => (mC x0 lc tr tc sr sc) q ∨ H0.size ≤ q) := by
  refine cx_met (own := RX2) (cc := cX2_write) (maxL := 4) (by decide) rfl rfl (Nat.le_of_ble_eq_true rfl) ?_
  intro p e s m below meth c ls C0 hB0 hnm hl
  obtain ⟨hH, hK⟩ := hB0
  obtain ⟨hx, hb, hr, hml, hown, hts, hlk⟩ := id C0
  subst hH
  have hS : va_S (fun q => (mC x0 lc tr tc sr sc) q ∨ s.heap.size ≤ q) s.heap s.heap [] := va_S.rf
  have hA : ∀ q : Nat, s.heap.size ≤ q → (fun q => (mC x0 lc tr tc sr sc) q ∨ s.heap.size ≤ q) q := fun q h => Or.inr h
  have hl : lv_has ls 4 [(0, .ref x0), (1, .int (nI i)), (2, .int (nI r9)), (3, .int (nI d9))] := hl
  obtain ⟨hC, hR, hSp, hap⟩ := id hL
  obtain ⟨hf, hfl, hlc, ⟨f, hg9, hfv⟩, hV, hxl⟩ := id hC
  refine lv_iload_n hx hb dX2_write_0 rfl (lv_at hl 1 rfl) ?_
  refine cp_S (As := [.int (nI i)]) (rest := []) C0 hl hK hS hA (c_ckCell l g s.heap i (by assumption)) gX2_write_X2_checkCell rfl ⟨rfl, rfl⟩ (show hd_ok yX2_checkCell 1 from ⟨by decide, by decide, by decide +kernel⟩) ⟨Nat.le_of_ble_eq_true rfl, Nat.le_of_ble_eq_true rfl⟩ rfl (Nat.le_of_ble_eq_true rfl) ⟨Nat.zero_le _, Nat.zero_le _⟩ dX2_write_1 (fun locs hS => ?_)
  refine lv_iload_n hx hb dX2_write_4 rfl (lv_at hl 2 rfl) ?_
  refine lv_iload_n hx hb dX2_write_5 rfl (lv_at hl 3 rfl) ?_
  refine cp_S (As := [.int (nI r9), .int (nI d9)]) (rest := []) C0 hl hK hS hA (c_ckRK l g s.heap r9 d9 hr9 hd9) gX2_write_X2_checkRadixAndKind rfl ⟨rfl, rfl⟩ (show hd_ok yX2_checkRadixAndKind 2 from ⟨by decide, by decide, by decide +kernel⟩) ⟨Nat.le_of_ble_eq_true rfl, Nat.le_of_ble_eq_true rfl⟩ rfl (Nat.le_of_ble_eq_true rfl) ⟨Nat.zero_le _, Nat.zero_le _⟩ dX2_write_6 (fun locs hS => ?_)
  refine lv_aload_n hx hb dX2_write_9 rfl (lv_at hl 0 rfl) ?_
  refine lv_dup hx hb dX2_write_10 rfl ?_
  refine va_get (ci := 3) (C := RX2) (T := TX2) (N := 7) (v := .int i5) hx hb hts (by decide +kernel) hown hK.1 (p1 hf) 0 rfl rfl 5 (by decide) (hts (.fieldLink RX2 102 "Radixbench" "writes" "I") (by decide +kernel)) (fun _ h9 => h9) rfl dX2_write_11 ?_
  refine lv_iconst (v := nI 1) hx hb dX2_write_14 (by decide) ?_
  refine lv_iadd hx hb dX2_write_15 ?_
  refine w_putf (ci := 3) (C := RX2) (T := TX2) (N := 7) (ty := .int) hx hb hts (by decide +kernel) tyX2 tyX2_ok nmX2 hown hK hS hf (Or.inl mC_x) rfl 5 (by decide) (hts (.fieldLink RX2 102 "Radixbench" "writes" "I") (by decide +kernel)) (fun _ h9 => h9) rfl (by decide +kernel) rfl rfl (by show 5 < 7; decide) dX2_write_16 (fun H2 locs f2 s2 o2 hS => ?_)
  have hL2 : CL g H2 x0 lc tr tc sr sc i3 i4 (i5 + nI 1) i6 V n t := hL.setI f2 o2
  have hC2 := hL2.1
  have hR2 := hL2.2.1
  have hf2 := hC2.1
  refine lv_aload_n hx hb dX2_write_19 rfl (lv_at hl 0 rfl) ?_
  refine lv_aload_n hx hb dX2_write_20 rfl (lv_at hl 0 rfl) ?_
  refine va_get (ci := 3) (C := RX2) (T := TX2) (N := 7) (v := .ref tr) hx hb hts (by decide +kernel) hown hK.1 (p1 hf2) 0 rfl rfl 1 (by decide) (hts (.fieldLink RX2 16 "Radixbench" "text" "LRadixbench$Row;") (by decide +kernel)) (fun _ h9 => h9) rfl dX2_write_21 ?_
  refine lv_iload_n hx hb dX2_write_24 rfl (lv_at hl 1 rfl) ?_
  refine lv_iload_n hx hb dX2_write_25 rfl (lv_at hl 2 rfl) ?_
  refine lv_iload_n hx hb dX2_write_26 rfl (lv_at hl 3 rfl) ?_
  refine cn_V (As := [.ref tr, .int (nI i), .int (nI r9), .int (nI d9)]) (rest := []) C0 hl hK hS hA (fun q h => Or.inl (mC_t h)) (c_tellIn l g H2 x0 lc _ V hC2 tr tc n t hR2 i r9 d9 hi hr9 hd9) gX2_write_X2_tellInto rfl ⟨rfl, rfl⟩ (hC2.recv hK) ⟨rfl, (show hd_ok yX2_tellInto 4 from ⟨by decide, by decide, by decide +kernel⟩)⟩ ⟨Nat.le_of_ble_eq_true rfl, Nat.le_of_ble_eq_true rfl⟩ rfl (Nat.le_of_ble_eq_true rfl) ⟨Nat.zero_le _, Nat.zero_le _⟩ dX2_write_27 (fun r1 H1 locs hv hzz hk1 hS => ?_)
  obtain ⟨rfl, k, t2, hT, hR1⟩ := hv
  have hL1 := hL2.setT hR1 hk1
  have hf1 := hL1.1.1
  refine lv_aload_n hx hb dX2_write_30 rfl (lv_at hl 0 rfl) ?_
  refine va_get (ci := 3) (C := RX2) (T := TX2) (N := 7) (v := .ref tr) hx hb hts (by decide +kernel) hown hK.1 (p1 hf1) 0 rfl rfl 1 (by decide) (hts (.fieldLink RX2 16 "Radixbench" "text" "LRadixbench$Row;") (by decide +kernel)) (fun _ h9 => h9) rfl dX2_write_31 ?_
  refine cp_V (As := []) (rest := []) C0 hl hK hS hA (c_rSize l g H1 tr tc k _ hR1) gX2_write_X0_size rfl ⟨rfl, rfl⟩ (hR1.recv hK) ⟨rfl, (show hd_ok yX0_size 0 from ⟨by decide, by decide, by decide +kernel⟩)⟩ ⟨Nat.le_of_ble_eq_true rfl, Nat.le_of_ble_eq_true rfl⟩ rfl (Nat.le_of_ble_eq_true rfl) ⟨Nat.zero_le _, Nat.zero_le _⟩ dX2_write_34 (fun locs hS => ?_)
  refine W.widen (k := 0) (n := 0) (by decide) (by decide) ?_
  exact rt_ni (mu := mC x0 lc tr tc sr sc) C0 rfl ⟨_, _, _, _, V, k, _, ⟨⟨_, rfl⟩, rfl, hT⟩, hL1⟩ hS rfl dX2_write_37
abbrev rmX2_bits : Room := { frames := 3, cells := 0, slots := 0, locals := 78 }
set_option maxHeartbeats 4000000 in
set_option maxRecDepth 100000 in
theorem c_xBits (l : Launch) (g : Gx) (H0 : Heap) (x0 lc tr tc sr sc : Nat) (i3 i4 i5 i6 : Int32) (V : Nat → Nat) (n : Nat) (t : Nat → Nat) (hL : CL g H0 x0 lc tr tc sr sc i3 i4 i5 i6 V n t) (i d9 : Nat) (zi : Bool) (hi : i < 8) (hd9 : d9 < 3) : Met l yX2_bits wsX2_bits rmX2_bits (va_Pc [.ref x0, .int (nI i), .int (nI d9), .int (bI zi)] (hB g H0)) (nQ H0 (mC x0 lc tr tc sr sc) (zC g x0 lc tr tc sr sc (fun r V2 n2 t2 => (∃ rv : Int32, r = some (.int rv)) ∧ V2 = V ∧ isW (basN d9) (V i % 65536 ^ nP zi) n2 ∧ t2 = dgT (basN d9) (V i % 65536 ^ nP zi) n2))) 0 0 (fun q => (mC x0 lc tr tc sr sc) q ∨ H0.size ≤ q) := by
  refine cx_met (own := RX2) (cc := cX2_bits) (maxL := 4) (by decide) rfl rfl (Nat.le_of_ble_eq_true rfl) ?_
  intro p e s m below meth c ls C0 hB0 hnm hl
  obtain ⟨hH, hK⟩ := hB0
  obtain ⟨hx, hb, hr, hml, hown, hts, hlk⟩ := id C0
  subst hH
  have hS : va_S (fun q => (mC x0 lc tr tc sr sc) q ∨ s.heap.size ≤ q) s.heap s.heap [] := va_S.rf
  have hA : ∀ q : Nat, s.heap.size ≤ q → (fun q => (mC x0 lc tr tc sr sc) q ∨ s.heap.size ≤ q) q := fun q h => Or.inr h
  have hl : lv_has ls 4 [(0, .ref x0), (1, .int (nI i)), (2, .int (nI d9)), (3, .int (bI zi))] := hl
  obtain ⟨hC, hR, hSp, hap⟩ := id hL
  obtain ⟨hf, hfl, hlc, ⟨f, hg9, hfv⟩, hV, hxl⟩ := id hC
  refine lv_iload_n hx hb dX2_bits_0 rfl (lv_at hl 1 rfl) ?_
  refine cp_S (As := [.int (nI i)]) (rest := []) C0 hl hK hS hA (c_ckCell l g s.heap i (by assumption)) gX2_bits_X2_checkCell rfl ⟨rfl, rfl⟩ (show hd_ok yX2_checkCell 1 from ⟨by decide, by decide, by decide +kernel⟩) ⟨Nat.le_of_ble_eq_true rfl, Nat.le_of_ble_eq_true rfl⟩ rfl (Nat.le_of_ble_eq_true rfl) ⟨Nat.zero_le _, Nat.zero_le _⟩ dX2_bits_1 (fun locs hS => ?_)
  refine lv_iload_n hx hb dX2_bits_4 rfl (lv_at hl 2 rfl) ?_
  refine lv_iconst (v := nI 2) hx hb dX2_bits_5 (by decide) ?_
  refine cp_S (As := [.int (nI d9), .int (nI 2)]) (rest := []) C0 hl hK hS hA (c_ckWhat l g s.heap d9 2 (by omega) (by decide)) gX2_bits_X2_checkWhat rfl ⟨rfl, rfl⟩ (show hd_ok yX2_checkWhat 2 from ⟨by decide, by decide, by decide +kernel⟩) ⟨Nat.le_of_ble_eq_true rfl, Nat.le_of_ble_eq_true rfl⟩ rfl (Nat.le_of_ble_eq_true rfl) ⟨Nat.zero_le _, Nat.zero_le _⟩ dX2_bits_6 (fun locs hS => ?_)
  refine lv_aload_n hx hb dX2_bits_9 rfl (lv_at hl 0 rfl) ?_
  refine lv_dup hx hb dX2_bits_10 rfl ?_
  refine va_get (ci := 3) (C := RX2) (T := TX2) (N := 7) (v := .int i5) hx hb hts (by decide +kernel) hown hK.1 (p1 hf) 0 rfl rfl 5 (by decide) (hts (.fieldLink RX2 102 "Radixbench" "writes" "I") (by decide +kernel)) (fun _ h9 => h9) rfl dX2_bits_11 ?_
  refine lv_iconst (v := nI 1) hx hb dX2_bits_14 (by decide) ?_
  refine lv_iadd hx hb dX2_bits_15 ?_
  refine w_putf (ci := 3) (C := RX2) (T := TX2) (N := 7) (ty := .int) hx hb hts (by decide +kernel) tyX2 tyX2_ok nmX2 hown hK hS hf (Or.inl mC_x) rfl 5 (by decide) (hts (.fieldLink RX2 102 "Radixbench" "writes" "I") (by decide +kernel)) (fun _ h9 => h9) rfl (by decide +kernel) rfl rfl (by show 5 < 7; decide) dX2_bits_16 (fun H2 locs f2 s2 o2 hS => ?_)
  have hL2 : CL g H2 x0 lc tr tc sr sc i3 i4 (i5 + nI 1) i6 V n t := hL.setI f2 o2
  have hC2 := hL2.1
  have hR2 := hL2.2.1
  have hf2 := hC2.1
  refine lv_aload_n hx hb dX2_bits_19 rfl (lv_at hl 0 rfl) ?_
  refine va_get (ci := 3) (C := RX2) (T := TX2) (N := 7) (v := .ref tr) hx hb hts (by decide +kernel) hown hK.1 (p1 hf2) 0 rfl rfl 1 (by decide) (hts (.fieldLink RX2 16 "Radixbench" "text" "LRadixbench$Row;") (by decide +kernel)) (fun _ h9 => h9) rfl dX2_bits_20 ?_
  refine lv_aload_n hx hb dX2_bits_23 rfl (lv_at hl 0 rfl) ?_
  refine lv_iload_n hx hb dX2_bits_24 rfl (lv_at hl 1 rfl) ?_
  refine lv_iload_n hx hb dX2_bits_25 rfl (lv_at hl 3 rfl) ?_
  refine cp_V (As := [.int (nI i), .int (bI zi)]) (rest := [.ref tr]) C0 hl hK hS hA (c_unsOf l g H2 x0 lc _ V hC2 i zi hi) gX2_bits_X2_unsignedOf rfl ⟨rfl, rfl⟩ (hC2.recv hK) ⟨rfl, (show hd_ok yX2_unsignedOf 2 from ⟨by decide, by decide, by decide +kernel⟩)⟩ ⟨Nat.le_of_ble_eq_true rfl, Nat.le_of_ble_eq_true rfl⟩ rfl (Nat.le_of_ble_eq_true rfl) ⟨Nat.zero_le _, Nat.zero_le _⟩ dX2_bits_26 (fun locs hS => ?_)
  refine lv_iload_n hx hb dX2_bits_29 rfl (lv_at hl 2 rfl) ?_
  refine cp_S (As := [.int (nI d9)]) (rest := [.long (lN (V i % 65536 ^ nP zi)), .ref tr]) C0 hl hK hS hA (c_rdxOf l g H2 d9 hd9) gX2_bits_X2_radixOfBase rfl ⟨rfl, rfl⟩ (show hd_ok yX2_radixOfBase 1 from ⟨by decide, by decide, by decide +kernel⟩) ⟨Nat.le_of_ble_eq_true rfl, Nat.le_of_ble_eq_true rfl⟩ rfl (Nat.le_of_ble_eq_true rfl) ⟨Nat.zero_le _, Nat.zero_le _⟩ dX2_bits_30 (fun locs hS => ?_)
  refine lv_iconst (v := nI 0) hx hb dX2_bits_33 (by decide) ?_
  refine tp_i (y := bI false) (rfl) ?_
  refine cn_V (As := [.long (lN (V i % 65536 ^ nP zi)), .int (nI (basN d9)), .int (bI false)]) (rest := []) C0 hl hK hS hA (fun q h => Or.inl (mC_t h)) (c_tell l g H2 tr tc n t hR2 (V i % 65536 ^ nP zi) (basN d9) false (Nat.lt_of_le_of_lt (Nat.mod_le _ _) (hV i hi)) (basN_r _)) gX2_bits_X0_tell rfl ⟨rfl, rfl⟩ (hR2.recv hK) ⟨rfl, (show hd_ok yX0_tell 3 from ⟨by decide, by decide, by decide +kernel⟩)⟩ ⟨Nat.le_of_ble_eq_true rfl, Nat.le_of_ble_eq_true rfl⟩ rfl (Nat.le_of_ble_eq_true rfl) ⟨Nat.zero_le _, Nat.zero_le _⟩ dX2_bits_34 (fun r1 H1 locs hv hzz hk1 hS => ?_)
  obtain ⟨rfl, k, t2, hT, hR1⟩ := hv
  have hL1 := hL2.setT hR1 hk1
  have hf1 := hL1.1.1
  rw [if_neg (fun z => absurd z.1 (by decide))] at hT
  obtain ⟨-, hT1, rfl⟩ := hT.resolve_right (fun z => absurd (of_decide_eq_true z.1).1 (by decide))
  refine lv_aload_n hx hb dX2_bits_37 rfl (lv_at hl 0 rfl) ?_
  refine va_get (ci := 3) (C := RX2) (T := TX2) (N := 7) (v := .ref tr) hx hb hts (by decide +kernel) hown hK.1 (p1 hf1) 0 rfl rfl 1 (by decide) (hts (.fieldLink RX2 16 "Radixbench" "text" "LRadixbench$Row;") (by decide +kernel)) (fun _ h9 => h9) rfl dX2_bits_38 ?_
  refine cp_V (As := []) (rest := []) C0 hl hK hS hA (c_rSize l g H1 tr tc k _ hR1) gX2_bits_X0_size rfl ⟨rfl, rfl⟩ (hR1.recv hK) ⟨rfl, (show hd_ok yX0_size 0 from ⟨by decide, by decide, by decide +kernel⟩)⟩ ⟨Nat.le_of_ble_eq_true rfl, Nat.le_of_ble_eq_true rfl⟩ rfl (Nat.le_of_ble_eq_true rfl) ⟨Nat.zero_le _, Nat.zero_le _⟩ dX2_bits_41 (fun locs hS => ?_)
  refine W.widen (k := 0) (n := 0) (by decide) (by decide) ?_
  exact rt_ni (mu := mC x0 lc tr tc sr sc) C0 rfl ⟨_, _, _, _, V, k, _, ⟨⟨_, rfl⟩, rfl, hT1, rfl⟩, hL1⟩ hS rfl dX2_bits_44
abbrev rmX2_knock : Room := { frames := 0, cells := 0, slots := 0, locals := 0 }
set_option maxHeartbeats 4000000 in
set_option maxRecDepth 100000 in
theorem c_xKnock (l : Launch) (g : Gx) (H0 : Heap) (x0 lc tr tc sr sc : Nat) (i3 i4 i5 i6 : Int32) (V : Nat → Nat) (n : Nat) (t : Nat → Nat) (hL : CL g H0 x0 lc tr tc sr sc i3 i4 i5 i6 V n t) : Met l yX2_knock wsX2_knock rmX2_knock (va_Pc [.ref x0] (hB g H0)) (nQ H0 (mC x0 lc tr tc sr sc) (zC g x0 lc tr tc sr sc (fun r V2 n2 t2 => (∃ rv : Int32, r = some (.int rv)) ∧ V2 = V ∧ n2 = n ∧ t2 = t))) 0 0 (fun q => (mC x0 lc tr tc sr sc) q ∨ H0.size ≤ q) := by
  refine cx_met (own := RX2) (cc := cX2_knock) (maxL := 1) (by decide) rfl rfl (Nat.le_of_ble_eq_true rfl) ?_
  intro p e s m below meth c ls C0 hB0 hnm hl
  obtain ⟨hH, hK⟩ := hB0
  obtain ⟨hx, hb, hr, hml, hown, hts, hlk⟩ := id C0
  subst hH
  have hS : va_S (fun q => (mC x0 lc tr tc sr sc) q ∨ s.heap.size ≤ q) s.heap s.heap [] := va_S.rf
  have hA : ∀ q : Nat, s.heap.size ≤ q → (fun q => (mC x0 lc tr tc sr sc) q ∨ s.heap.size ≤ q) q := fun q h => Or.inr h
  have hl : lv_has ls 1 [(0, .ref x0)] := hl
  obtain ⟨hC, hR, hSp, hap⟩ := id hL
  obtain ⟨hf, hfl, hlc, ⟨f, hg9, hfv⟩, hV, hxl⟩ := id hC
  refine lv_aload_n hx hb dX2_knock_0 rfl (lv_at hl 0 rfl) ?_
  refine lv_dup hx hb dX2_knock_1 rfl ?_
  refine va_get (ci := 3) (C := RX2) (T := TX2) (N := 7) (v := .int i6) hx hb hts (by decide +kernel) hown hK.1 (p1 hf) 0 rfl rfl 6 (by decide) (hts (.fieldLink RX2 171 "Radixbench" "knocks" "I") (by decide +kernel)) (fun _ h9 => h9) rfl dX2_knock_2 ?_
  refine lv_iconst (v := nI 1) hx hb dX2_knock_5 (by decide) ?_
  refine lv_iadd hx hb dX2_knock_6 ?_
  refine w_putf (ci := 3) (C := RX2) (T := TX2) (N := 7) (ty := .int) hx hb hts (by decide +kernel) tyX2 tyX2_ok nmX2 hown hK hS hf (Or.inl mC_x) rfl 6 (by decide) (hts (.fieldLink RX2 171 "Radixbench" "knocks" "I") (by decide +kernel)) (fun _ h9 => h9) rfl (by decide +kernel) rfl rfl (by show 6 < 7; decide) dX2_knock_7 (fun H2 locs f2 s2 o2 hS => ?_)
  have hL2 : CL g H2 x0 lc tr tc sr sc i3 i4 i5 (i6 + nI 1) V n t := hL.setI f2 o2
  have hf2 := hL2.1.1
  refine lv_aload_n hx hb dX2_knock_10 rfl (lv_at hl 0 rfl) ?_
  refine va_get (ci := 3) (C := RX2) (T := TX2) (N := 7) (v := .int (i6 + nI 1)) hx hb hts (by decide +kernel) hown hK.1 (p1 hf2) 0 rfl rfl 6 (by decide) (hts (.fieldLink RX2 171 "Radixbench" "knocks" "I") (by decide +kernel)) (fun _ h9 => h9) rfl dX2_knock_11 ?_
  exact rt_ni (mu := mC x0 lc tr tc sr sc) C0 rfl ⟨_, _, _, _, V, n, t, ⟨⟨_, rfl⟩, rfl, rfl, rfl⟩, hL2⟩ hS rfl dX2_knock_14
abbrev rmX2_low : Room := { frames := 1, cells := 0, slots := 0, locals := 20 }
set_option maxHeartbeats 4000000 in
set_option maxRecDepth 100000 in
theorem c_xLow (l : Launch) (g : Gx) (H0 : Heap) (x0 lc tr tc sr sc : Nat) (i3 i4 i5 i6 : Int32) (V : Nat → Nat) (n : Nat) (t : Nat → Nat) (hL : CL g H0 x0 lc tr tc sr sc i3 i4 i5 i6 V n t) (i : Nat) (hi : i < 8) : Met l yX2_low wsX2_low rmX2_low (va_Pc [.ref x0, .int (nI i)] (hB g H0)) (nQ H0 (mC x0 lc tr tc sr sc) (zC g x0 lc tr tc sr sc (fun r V2 n2 t2 => (∃ rv : Int32, r = some (.int rv)) ∧ V2 = V ∧ n2 = n ∧ t2 = t))) 0 0 (fun q => (mC x0 lc tr tc sr sc) q ∨ H0.size ≤ q) := by
  refine cx_met (own := RX2) (cc := cX2_low) (maxL := 2) (by decide) rfl rfl (Nat.le_of_ble_eq_true rfl) ?_
  intro p e s m below meth c ls C0 hB0 hnm hl
  obtain ⟨hH, hK⟩ := hB0
  obtain ⟨hx, hb, hr, hml, hown, hts, hlk⟩ := id C0
  subst hH
  have hS : va_S (fun q => (mC x0 lc tr tc sr sc) q ∨ s.heap.size ≤ q) s.heap s.heap [] := va_S.rf
  have hA : ∀ q : Nat, s.heap.size ≤ q → (fun q => (mC x0 lc tr tc sr sc) q ∨ s.heap.size ≤ q) q := fun q h => Or.inr h
  have hl : lv_has ls 2 [(0, .ref x0), (1, .int (nI i))] := hl
  obtain ⟨hC, hR, hSp, hap⟩ := id hL
  obtain ⟨hf, hfl, hlc, ⟨f, hg9, hfv⟩, hV, hxl⟩ := id hC
  refine lv_iload_n hx hb dX2_low_0 rfl (lv_at hl 1 rfl) ?_
  refine cp_S (As := [.int (nI i)]) (rest := []) C0 hl hK hS hA (c_ckCell l g s.heap i (by assumption)) gX2_low_X2_checkCell rfl ⟨rfl, rfl⟩ (show hd_ok yX2_checkCell 1 from ⟨by decide, by decide, by decide +kernel⟩) ⟨Nat.le_of_ble_eq_true rfl, Nat.le_of_ble_eq_true rfl⟩ rfl (Nat.le_of_ble_eq_true rfl) ⟨Nat.zero_le _, Nat.zero_le _⟩ dX2_low_1 (fun locs hS => ?_)
  refine lv_aload_n hx hb dX2_low_4 rfl (lv_at hl 0 rfl) ?_
  refine va_get (ci := 3) (C := RX2) (T := TX2) (N := 7) (v := .ref lc) hx hb hts (by decide +kernel) hown hK.1 (p1 hf) 0 rfl rfl 0 (by decide) (hts (.fieldLink RX2 9 "Radixbench" "cells" "[J") (by decide +kernel)) (fun _ h9 => h9) rfl dX2_low_5 ?_
  refine lv_iload_n hx hb dX2_low_8 rfl (lv_at hl 1 rfl) ?_
  refine f_lald (j := i) hx hb hK hg9 (by assumption) (by decide) dX2_low_9 ?_
  refine tp_l (y := lN (V i)) (hfv i (by assumption)) ?_
  refine lv_l2i (v := (lN (V i)).toInt32) hx hb dX2_low_10 (rfl) ?_
  exact rt_ni (mu := mC x0 lc tr tc sr sc) C0 rfl ⟨_, _, _, _, V, n, t, ⟨⟨_, rfl⟩, rfl, rfl, rfl⟩, hL⟩ hS rfl dX2_low_11
/-- the high half, as the machine makes it -/
def hiO (v : Int64) : Int32 := (v >>> ((nI 32).toInt64 &&& 63)).toInt32
abbrev rmX2_highOf : Room := { frames := 0, cells := 0, slots := 0, locals := 0 }
set_option maxHeartbeats 4000000 in
set_option maxRecDepth 100000 in
theorem c_hiOf (l : Launch) (g : Gx) (H0 : Heap) (v : Int64) : Met l yX2_highOf wsX2_highOf rmX2_highOf (va_Pc [.long v] (hB g H0)) (pQ (some (.int (hiO v))) H0) 0 0 (fun q => H0.size ≤ q) := by
  refine cx_met (own := RX2) (cc := cX2_highOf) (maxL := 2) (by decide) rfl rfl (Nat.le_of_ble_eq_true rfl) ?_
  intro p e s m below meth c ls C0 hB0 hnm hl
  obtain ⟨hH, hK⟩ := hB0
  obtain ⟨hx, hb, hr, hml, hown, hts, hlk⟩ := id C0
  subst hH
  have hS : va_S (fun q => s.heap.size ≤ q) s.heap s.heap [] := va_S.rf
  have hA : ∀ q : Nat, s.heap.size ≤ q → s.heap.size ≤ q := fun q h => h
  have hl : lv_has ls 2 [(0, .long v)] := hl
  refine lv_lload_n hx hb dX2_highOf_0 rfl (lv_at hl 0 rfl) ?_
  refine lv_bipush (v := nI 32) hx hb dX2_highOf_1 (by decide) ?_
  refine lv_lshr (v := v >>> ((nI 32).toInt64 &&& 63)) hx hb dX2_highOf_3 (rfl) ?_
  refine lv_l2i (v := (v >>> ((nI 32).toInt64 &&& 63)).toInt32) hx hb dX2_highOf_4 (rfl) ?_
  exact rt_i C0 rfl hS rfl dX2_highOf_5
abbrev rmX2_high : Room := { frames := 1, cells := 0, slots := 0, locals := 21 }
set_option maxHeartbeats 4000000 in
set_option maxRecDepth 100000 in
theorem c_xHigh (l : Launch) (g : Gx) (H0 : Heap) (x0 lc tr tc sr sc : Nat) (i3 i4 i5 i6 : Int32) (V : Nat → Nat) (n : Nat) (t : Nat → Nat) (hL : CL g H0 x0 lc tr tc sr sc i3 i4 i5 i6 V n t) (i : Nat) (hi : i < 8) : Met l yX2_high wsX2_high rmX2_high (va_Pc [.ref x0, .int (nI i)] (hB g H0)) (nQ H0 (mC x0 lc tr tc sr sc) (zC g x0 lc tr tc sr sc (fun r V2 n2 t2 => (∃ rv : Int32, r = some (.int rv)) ∧ V2 = V ∧ n2 = n ∧ t2 = t))) 0 0 (fun q => (mC x0 lc tr tc sr sc) q ∨ H0.size ≤ q) := by
  refine cx_met (own := RX2) (cc := cX2_high) (maxL := 2) (by decide) rfl rfl (Nat.le_of_ble_eq_true rfl) ?_
  intro p e s m below meth c ls C0 hB0 hnm hl
  obtain ⟨hH, hK⟩ := hB0
  obtain ⟨hx, hb, hr, hml, hown, hts, hlk⟩ := id C0
  subst hH
  have hS : va_S (fun q => (mC x0 lc tr tc sr sc) q ∨ s.heap.size ≤ q) s.heap s.heap [] := va_S.rf
  have hA : ∀ q : Nat, s.heap.size ≤ q → (fun q => (mC x0 lc tr tc sr sc) q ∨ s.heap.size ≤ q) q := fun q h => Or.inr h
  have hl : lv_has ls 2 [(0, .ref x0), (1, .int (nI i))] := hl
  obtain ⟨hC, hR, hSp, hap⟩ := id hL
  obtain ⟨hf, hfl, hlc, ⟨f, hg9, hfv⟩, hV, hxl⟩ := id hC
  refine lv_iload_n hx hb dX2_high_0 rfl (lv_at hl 1 rfl) ?_
  refine cp_S (As := [.int (nI i)]) (rest := []) C0 hl hK hS hA (c_ckCell l g s.heap i (by assumption)) gX2_high_X2_checkCell rfl ⟨rfl, rfl⟩ (show hd_ok yX2_checkCell 1 from ⟨by decide, by decide, by decide +kernel⟩) ⟨Nat.le_of_ble_eq_true rfl, Nat.le_of_ble_eq_true rfl⟩ rfl (Nat.le_of_ble_eq_true rfl) ⟨Nat.zero_le _, Nat.zero_le _⟩ dX2_high_1 (fun locs hS => ?_)
  refine lv_aload_n hx hb dX2_high_4 rfl (lv_at hl 0 rfl) ?_
  refine va_get (ci := 3) (C := RX2) (T := TX2) (N := 7) (v := .ref lc) hx hb hts (by decide +kernel) hown hK.1 (p1 hf) 0 rfl rfl 0 (by decide) (hts (.fieldLink RX2 9 "Radixbench" "cells" "[J") (by decide +kernel)) (fun _ h9 => h9) rfl dX2_high_5 ?_
  refine lv_iload_n hx hb dX2_high_8 rfl (lv_at hl 1 rfl) ?_
  refine f_lald (j := i) hx hb hK hg9 (by assumption) (by decide) dX2_high_9 ?_
  refine tp_l (y := lN (V i)) (hfv i (by assumption)) ?_
  refine cp_S (As := [.long (lN (V i))]) (rest := []) C0 hl hK hS hA (c_hiOf l g s.heap (lN (V i))) gX2_high_X2_highOf rfl ⟨rfl, rfl⟩ (show hd_ok yX2_highOf 1 from ⟨by decide, by decide, by decide +kernel⟩) ⟨Nat.le_of_ble_eq_true rfl, Nat.le_of_ble_eq_true rfl⟩ rfl (Nat.le_of_ble_eq_true rfl) ⟨Nat.zero_le _, Nat.zero_le _⟩ dX2_high_10 (fun locs hS => ?_)
  exact rt_ni (mu := mC x0 lc tr tc sr sc) C0 rfl ⟨_, _, _, _, V, n, t, ⟨⟨_, rfl⟩, rfl, rfl, rfl⟩, hL⟩ hS rfl dX2_high_13
abbrev rmX2_digit : Room := { frames := 2, cells := 0, slots := 0, locals := 43 }
set_option maxHeartbeats 4000000 in
set_option maxRecDepth 100000 in
theorem c_xDigit (l : Launch) (g : Gx) (H0 : Heap) (x0 lc tr tc sr sc : Nat) (i3 i4 i5 i6 : Int32) (V : Nat → Nat) (n : Nat) (t : Nat → Nat) (hL : CL g H0 x0 lc tr tc sr sc i3 i4 i5 i6 V n t) (j r9 : Nat) (hj : j < n) (hr9 : 2 ≤ r9 ∧ r9 ≤ 36) : Met l yX2_digit wsX2_digit rmX2_digit (va_Pc [.ref x0, .int (nI j), .int (nI r9)] (hB g H0)) (nQ H0 (mC x0 lc tr tc sr sc) (zC g x0 lc tr tc sr sc (fun r V2 n2 t2 => (∃ rv : Int32, r = some (.int rv)) ∧ V2 = V ∧ n2 = n ∧ t2 = t))) 0 0 (fun q => (mC x0 lc tr tc sr sc) q ∨ H0.size ≤ q) := by
  refine cx_met (own := RX2) (cc := cX2_digit) (maxL := 3) (by decide) rfl rfl (Nat.le_of_ble_eq_true rfl) ?_
  intro p e s m below meth c ls C0 hB0 hnm hl
  obtain ⟨hH, hK⟩ := hB0
  obtain ⟨hx, hb, hr, hml, hown, hts, hlk⟩ := id C0
  subst hH
  have hS : va_S (fun q => (mC x0 lc tr tc sr sc) q ∨ s.heap.size ≤ q) s.heap s.heap [] := va_S.rf
  have hA : ∀ q : Nat, s.heap.size ≤ q → (fun q => (mC x0 lc tr tc sr sc) q ∨ s.heap.size ≤ q) q := fun q h => Or.inr h
  have hl : lv_has ls 3 [(0, .ref x0), (1, .int (nI j)), (2, .int (nI r9))] := hl
  obtain ⟨hC, hR, hSp, hap⟩ := id hL
  obtain ⟨hf, hfl, hlc, ⟨f, hg9, hfv⟩, hV, hxl⟩ := id hC
  obtain ⟨-, -, -, -, hn70, -, -⟩ := id hR
  refine lv_iload_n hx hb dX2_digit_0 rfl (lv_at hl 1 rfl) ?_
  refine lv_if_lt (tgt := 15) hx hb dX2_digit_1 (by decide) (fun h1 => absurd h1 (nI_pos (by omega))) (fun h1 => ?_)
  refine lv_iload_n hx hb dX2_digit_4 rfl (lv_at hl 1 rfl) ?_
  refine lv_aload_n hx hb dX2_digit_5 rfl (lv_at hl 0 rfl) ?_
  refine va_get (ci := 3) (C := RX2) (T := TX2) (N := 7) (v := .ref tr) hx hb hts (by decide +kernel) hown hK.1 (p1 hf) 0 rfl rfl 1 (by decide) (hts (.fieldLink RX2 16 "Radixbench" "text" "LRadixbench$Row;") (by decide +kernel)) (fun _ h9 => h9) rfl dX2_digit_6 ?_
  refine cp_V (As := []) (rest := [.int (nI j)]) C0 hl hK hS hA (c_rSize l g s.heap tr tc n t hR) gX2_digit_X0_size rfl ⟨rfl, rfl⟩ (hR.recv hK) ⟨rfl, (show hd_ok yX0_size 0 from ⟨by decide, by decide, by decide +kernel⟩)⟩ ⟨Nat.le_of_ble_eq_true rfl, Nat.le_of_ble_eq_true rfl⟩ rfl (Nat.le_of_ble_eq_true rfl) ⟨Nat.zero_le _, Nat.zero_le _⟩ dX2_digit_9 (fun locs hS => ?_)
  refine lv_icmp_lt (tgt := 25) hx hb dX2_digit_12 (by decide) (fun h2 => ?_) (fun h2 => absurd (nI_lt hj (by omega)) h2)
  refine lv_iload_n hx hb dX2_digit_25 rfl (lv_at hl 2 rfl) ?_
  refine cp_S (As := [.int (nI r9)]) (rest := []) C0 hl hK hS hA (c_ckRad l g s.heap r9 hr9) gX2_digit_X2_checkRadix rfl ⟨rfl, rfl⟩ (show hd_ok yX2_checkRadix 1 from ⟨by decide, by decide, by decide +kernel⟩) ⟨Nat.le_of_ble_eq_true rfl, Nat.le_of_ble_eq_true rfl⟩ rfl (Nat.le_of_ble_eq_true rfl) ⟨Nat.zero_le _, Nat.zero_le _⟩ dX2_digit_26 (fun locs hS => ?_)
  refine lv_aload_n hx hb dX2_digit_29 rfl (lv_at hl 0 rfl) ?_
  refine va_get (ci := 3) (C := RX2) (T := TX2) (N := 7) (v := .ref tr) hx hb hts (by decide +kernel) hown hK.1 (p1 hf) 0 rfl rfl 1 (by decide) (hts (.fieldLink RX2 16 "Radixbench" "text" "LRadixbench$Row;") (by decide +kernel)) (fun _ h9 => h9) rfl dX2_digit_30 ?_
  refine lv_iload_n hx hb dX2_digit_33 rfl (lv_at hl 1 rfl) ?_
  refine lv_iload_n hx hb dX2_digit_34 rfl (lv_at hl 2 rfl) ?_
  refine cp_V (As := [.int (nI j), .int (nI r9)]) (rest := []) C0 hl hK hS hA (c_dgAt l g s.heap tr tc n t hR j r9 hj hr9.2) gX2_digit_X0_digitAt rfl ⟨rfl, rfl⟩ (hR.recv hK) ⟨rfl, (show hd_ok yX0_digitAt 2 from ⟨by decide, by decide, by decide +kernel⟩)⟩ ⟨Nat.le_of_ble_eq_true rfl, Nat.le_of_ble_eq_true rfl⟩ rfl (Nat.le_of_ble_eq_true rfl) ⟨Nat.zero_le _, Nat.zero_le _⟩ dX2_digit_35 (fun locs hS => ?_)
  exact rt_ni (mu := mC x0 lc tr tc sr sc) C0 rfl ⟨_, _, _, _, V, n, t, ⟨⟨_, rfl⟩, rfl, rfl, rfl⟩, hL⟩ hS rfl dX2_digit_38
abbrev rmX2_bench : Room := { frames := 1, cells := 0, slots := 0, locals := 21 }
set_option maxHeartbeats 4000000 in
set_option maxRecDepth 100000 in
theorem c_xBench (l : Launch) (g : Gx) (H0 : Heap) (x0 lc tr tc sr sc : Nat) (i3 i4 i5 i6 : Int32) (V : Nat → Nat) (n : Nat) (t : Nat → Nat) (hL : CL g H0 x0 lc tr tc sr sc i3 i4 i5 i6 V n t) (d9 : Nat) (hd9 : d9 < 5) : Met l yX2_bench wsX2_bench rmX2_bench (va_Pc [.ref x0, .int (nI d9)] (hB g H0)) (nQ H0 (mC x0 lc tr tc sr sc) (zC g x0 lc tr tc sr sc (fun r V2 n2 t2 => (∃ rv : Int32, r = some (.int rv)) ∧ V2 = V ∧ n2 = n ∧ t2 = t))) 0 0 (fun q => (mC x0 lc tr tc sr sc) q ∨ H0.size ≤ q) := by
  refine cx_met (own := RX2) (cc := cX2_bench) (maxL := 2) (by decide) rfl rfl (Nat.le_of_ble_eq_true rfl) ?_
  intro p e s m below meth c ls C0 hB0 hnm hl
  obtain ⟨hH, hK⟩ := hB0
  obtain ⟨hx, hb, hr, hml, hown, hts, hlk⟩ := id C0
  subst hH
  have hS : va_S (fun q => (mC x0 lc tr tc sr sc) q ∨ s.heap.size ≤ q) s.heap s.heap [] := va_S.rf
  have hA : ∀ q : Nat, s.heap.size ≤ q → (fun q => (mC x0 lc tr tc sr sc) q ∨ s.heap.size ≤ q) q := fun q h => Or.inr h
  have hl : lv_has ls 2 [(0, .ref x0), (1, .int (nI d9))] := hl
  obtain ⟨hC, hR, hSp, hap⟩ := id hL
  obtain ⟨hf, hfl, hlc, ⟨f, hg9, hfv⟩, hV, hxl⟩ := id hC
  have ed : (nI d9).toInt = (d9 : Int) := nI_toInt (by omega)
  refine lv_iload_n hx hb dX2_bench_0 rfl (lv_at hl 1 rfl) ?_
  refine lv_iconst (v := nI 4) hx hb dX2_bench_1 (by decide) ?_
  refine cp_S (As := [.int (nI d9), .int (nI 4)]) (rest := []) C0 hl hK hS hA (c_ckWhat l g s.heap d9 4 (by omega) (by decide)) gX2_bench_X2_checkWhat rfl ⟨rfl, rfl⟩ (show hd_ok yX2_checkWhat 2 from ⟨by decide, by decide, by decide +kernel⟩) ⟨Nat.le_of_ble_eq_true rfl, Nat.le_of_ble_eq_true rfl⟩ rfl (Nat.le_of_ble_eq_true rfl) ⟨Nat.zero_le _, Nat.zero_le _⟩ dX2_bench_2 (fun locs hS => ?_)
  refine lv_iload_n hx hb dX2_bench_5 rfl (lv_at hl 1 rfl) ?_
  rcases (show d9 = 0 ∨ d9 = 1 ∨ d9 = 2 ∨ d9 = 3 ∨ d9 = 4 by omega) with e | e | e | e | e
  · skip
    refine lv_tableIn (tgt := 36) (off := 30) (h1 := by rw [ed]; omega) (h2 := by rw [ed]; omega) (ho := by rw [ed, e]; rfl) (ht := by decide) hx hb dX2_bench_6 ?_
    refine lv_aload_n hx hb dX2_bench_36 rfl (lv_at hl 0 rfl) ?_
    refine va_get (ci := 3) (C := RX2) (T := TX2) (N := 7) (v := .ref tr) hx hb hts (by decide +kernel) hown hK.1 (p1 hf) 0 rfl rfl 1 (by decide) (hts (.fieldLink RX2 16 "Radixbench" "text" "LRadixbench$Row;") (by decide +kernel)) (fun _ h9 => h9) rfl dX2_bench_37 ?_
    refine cp_V (As := []) (rest := []) C0 hl hK hS hA (c_rSize l g s.heap tr tc n t hR) gX2_bench_X0_size rfl ⟨rfl, rfl⟩ (hR.recv hK) ⟨rfl, (show hd_ok yX0_size 0 from ⟨by decide, by decide, by decide +kernel⟩)⟩ ⟨Nat.le_of_ble_eq_true rfl, Nat.le_of_ble_eq_true rfl⟩ rfl (Nat.le_of_ble_eq_true rfl) ⟨Nat.zero_le _, Nat.zero_le _⟩ dX2_bench_40 (fun locs hS => ?_)
    exact rt_ni (mu := mC x0 lc tr tc sr sc) C0 rfl ⟨_, _, _, _, V, n, t, ⟨⟨_, rfl⟩, rfl, rfl, rfl⟩, hL⟩ hS rfl dX2_bench_43
  · skip
    refine lv_tableIn (tgt := 44) (off := 38) (h1 := by rw [ed]; omega) (h2 := by rw [ed]; omega) (ho := by rw [ed, e]; rfl) (ht := by decide) hx hb dX2_bench_6 ?_
    refine lv_aload_n hx hb dX2_bench_44 rfl (lv_at hl 0 rfl) ?_
    refine va_get (ci := 3) (C := RX2) (T := TX2) (N := 7) (v := .int i3) hx hb hts (by decide +kernel) hown hK.1 (p1 hf) 0 rfl rfl 3 (by decide) (hts (.fieldLink RX2 87 "Radixbench" "faults" "I") (by decide +kernel)) (fun _ h9 => h9) rfl dX2_bench_45 ?_
    exact rt_ni (mu := mC x0 lc tr tc sr sc) C0 rfl ⟨_, _, _, _, V, n, t, ⟨⟨_, rfl⟩, rfl, rfl, rfl⟩, hL⟩ hS rfl dX2_bench_48
  · skip
    refine lv_tableIn (tgt := 49) (off := 43) (h1 := by rw [ed]; omega) (h2 := by rw [ed]; omega) (ho := by rw [ed, e]; rfl) (ht := by decide) hx hb dX2_bench_6 ?_
    refine lv_aload_n hx hb dX2_bench_49 rfl (lv_at hl 0 rfl) ?_
    refine va_get (ci := 3) (C := RX2) (T := TX2) (N := 7) (v := .int i4) hx hb hts (by decide +kernel) hown hK.1 (p1 hf) 0 rfl rfl 4 (by decide) (hts (.fieldLink RX2 79 "Radixbench" "reads" "I") (by decide +kernel)) (fun _ h9 => h9) rfl dX2_bench_50 ?_
    exact rt_ni (mu := mC x0 lc tr tc sr sc) C0 rfl ⟨_, _, _, _, V, n, t, ⟨⟨_, rfl⟩, rfl, rfl, rfl⟩, hL⟩ hS rfl dX2_bench_53
  · skip
    refine lv_tableIn (tgt := 54) (off := 48) (h1 := by rw [ed]; omega) (h2 := by rw [ed]; omega) (ho := by rw [ed, e]; rfl) (ht := by decide) hx hb dX2_bench_6 ?_
    refine lv_aload_n hx hb dX2_bench_54 rfl (lv_at hl 0 rfl) ?_
    refine va_get (ci := 3) (C := RX2) (T := TX2) (N := 7) (v := .int i5) hx hb hts (by decide +kernel) hown hK.1 (p1 hf) 0 rfl rfl 5 (by decide) (hts (.fieldLink RX2 102 "Radixbench" "writes" "I") (by decide +kernel)) (fun _ h9 => h9) rfl dX2_bench_55 ?_
    exact rt_ni (mu := mC x0 lc tr tc sr sc) C0 rfl ⟨_, _, _, _, V, n, t, ⟨⟨_, rfl⟩, rfl, rfl, rfl⟩, hL⟩ hS rfl dX2_bench_58
  · skip
    refine lv_tableOut (tgt := 59) (h := Or.inr (by rw [ed]; omega)) (ht := by decide) hx hb dX2_bench_6 ?_
    refine lv_aload_n hx hb dX2_bench_59 rfl (lv_at hl 0 rfl) ?_
    refine va_get (ci := 3) (C := RX2) (T := TX2) (N := 7) (v := .int i6) hx hb hts (by decide +kernel) hown hK.1 (p1 hf) 0 rfl rfl 6 (by decide) (hts (.fieldLink RX2 171 "Radixbench" "knocks" "I") (by decide +kernel)) (fun _ h9 => h9) rfl dX2_bench_60 ?_
    exact rt_ni (mu := mC x0 lc tr tc sr sc) C0 rfl ⟨_, _, _, _, V, n, t, ⟨⟨_, rfl⟩, rfl, rfl, rfl⟩, hL⟩ hS rfl dX2_bench_63
abbrev rmX2_isNumber : Room := { frames := 4, cells := 0, slots := 0, locals := 104 }
set_option maxHeartbeats 4000000 in
set_option maxRecDepth 100000 in
theorem c_xIsNo (l : Launch) (g : Gx) (b0 : Nat) (H0 : Heap) (x0 lc tr tc sr sc : Nat) (i3 i4 i5 i6 : Int32) (V : Nat → Nat) (n : Nat) (t : Nat → Nat) (hL : CL g H0 x0 lc tr tc sr sc i3 i4 i5 i6 V n t) (hmb : ∀ q : Nat, mC x0 lc tr tc sr sc q → b0 ≤ q) (r9 d9 : Nat) (hr9 : 2 ≤ r9 ∧ r9 ≤ 36) (hd9 : d9 < 4) : Met l yX2_isNumber wsX2_isNumber rmX2_isNumber (va_Pc [.ref x0, .int (nI r9), .int (nI d9)] (hJ g b0 H0)) (nQ H0 (mC x0 lc tr tc sr sc) (zC g x0 lc tr tc sr sc (fun r V2 n2 t2 => (∃ rv : Int32, r = some (.int rv)) ∧ V2 = V ∧ n2 = n ∧ t2 = t))) 0 0 (fun q => (mC x0 lc tr tc sr sc) q ∨ H0.size ≤ q) := by
  refine cx_met (own := RX2) (cc := cX2_isNumber) (maxL := 3) (by decide) rfl rfl (Nat.le_of_ble_eq_true rfl) ?_
  intro p e s m below meth c ls C0 hB0 hnm hl
  obtain ⟨hH, hK, hZ⟩ := hB0
  obtain ⟨hx, hb, hr, hml, hown, hts, hlk⟩ := id C0
  subst hH
  have hS : va_S (fun q => (mC x0 lc tr tc sr sc) q ∨ s.heap.size ≤ q) s.heap s.heap [] := va_S.rf
  have hA : ∀ q : Nat, s.heap.size ≤ q → (fun q => (mC x0 lc tr tc sr sc) q ∨ s.heap.size ≤ q) q := fun q h => Or.inr h
  have h0Z := hZ.1
  have hAb : ∀ q : Nat, (fun q => (mC x0 lc tr tc sr sc) q ∨ s.heap.size ≤ q) q → b0 ≤ q := fun q h => h.elim (hmb q) (fun h => Nat.le_trans h0Z h)
  have hl : lv_has ls 3 [(0, .ref x0), (1, .int (nI r9)), (2, .int (nI d9))] := hl
  obtain ⟨hC, hR, hSp, hap⟩ := id hL
  obtain ⟨hf, hfl, hlc, ⟨f, hg9, hfv⟩, hV, hxl⟩ := id hC
  refine lv_iload_n hx hb dX2_isNumber_0 rfl (lv_at hl 1 rfl) ?_
  refine lv_iload_n hx hb dX2_isNumber_1 rfl (lv_at hl 2 rfl) ?_
  refine cp_S (As := [.int (nI r9), .int (nI d9)]) (rest := []) C0 hl hK hS hA (c_ckRK l g s.heap r9 d9 hr9 hd9) gX2_isNumber_X2_checkRadixAndKind rfl ⟨rfl, rfl⟩ (show hd_ok yX2_checkRadixAndKind 2 from ⟨by decide, by decide, by decide +kernel⟩) ⟨Nat.le_of_ble_eq_true rfl, Nat.le_of_ble_eq_true rfl⟩ rfl (Nat.le_of_ble_eq_true rfl) ⟨Nat.zero_le _, Nat.zero_le _⟩ dX2_isNumber_2 (fun locs hS => ?_)
  refine lv_aload_n hx hb dX2_isNumber_5 rfl (lv_at hl 0 rfl) ?_
  refine va_get (ci := 3) (C := RX2) (T := TX2) (N := 7) (v := .ref tr) hx hb hts (by decide +kernel) hown hK.1 (p1 hf) 0 rfl rfl 1 (by decide) (hts (.fieldLink RX2 16 "Radixbench" "text" "LRadixbench$Row;") (by decide +kernel)) (fun _ h9 => h9) rfl dX2_isNumber_6 ?_
  refine lv_iload_n hx hb dX2_isNumber_9 rfl (lv_at hl 1 rfl) ?_
  refine lv_iload_n hx hb dX2_isNumber_10 rfl (lv_at hl 2 rfl) ?_
  refine jp_V (As := [.int (nI r9), .int (nI d9)]) (rest := []) C0 hl hK hS hA (zat hZ hS hAb) (c_isNo l g b0 s.heap tr tc n t hR r9 d9 hr9 hd9) gX2_isNumber_X0_isNumberOf rfl ⟨rfl, rfl⟩ (hR.recv hK) ⟨rfl, (show hd_ok yX0_isNumberOf 2 from ⟨by decide, by decide, by decide +kernel⟩)⟩ ⟨Nat.le_of_ble_eq_true rfl, Nat.le_of_ble_eq_true rfl⟩ rfl (Nat.le_of_ble_eq_true rfl) ⟨Nat.zero_le _, Nat.zero_le _⟩ dX2_isNumber_11 (fun locs hS => ?_)
  exact rt_ni (mu := mC x0 lc tr tc sr sc) C0 (bP_nar _) ⟨_, _, _, _, V, n, t, ⟨⟨_, rfl⟩, rfl, rfl, rfl⟩, hL⟩ hS rfl dX2_isNumber_14
abbrev rmX2_would : Room := { frames := 4, cells := 0, slots := 0, locals := 104 }
set_option maxHeartbeats 4000000 in
set_option maxRecDepth 100000 in
theorem c_xWould (l : Launch) (g : Gx) (b0 : Nat) (H0 : Heap) (x0 lc tr tc sr sc : Nat) (i3 i4 i5 i6 : Int32) (V : Nat → Nat) (n : Nat) (t : Nat → Nat) (hL : CL g H0 x0 lc tr tc sr sc i3 i4 i5 i6 V n t) (hmb : ∀ q : Nat, mC x0 lc tr tc sr sc q → b0 ≤ q) (r9 d9 : Nat) (hr9 : 2 ≤ r9 ∧ r9 ≤ 36) (hd9 : d9 < 4) (zh : Bool) : Met l yX2_would wsX2_would rmX2_would (va_Pc [.ref x0, .int (nI r9), .int (nI d9), .int (bI zh)] (hJ g b0 H0)) (nQ H0 (mC x0 lc tr tc sr sc) (zC g x0 lc tr tc sr sc (fun r V2 n2 t2 => (∃ rv : Int32, r = some (.int rv)) ∧ V2 = V ∧ n2 = n ∧ t2 = t))) 0 0 (fun q => (mC x0 lc tr tc sr sc) q ∨ H0.size ≤ q) := by
  refine cx_met (own := RX2) (cc := cX2_would) (maxL := 6) (by decide) rfl rfl (Nat.le_of_ble_eq_true rfl) ?_
  intro p e s m below meth c ls C0 hB0 hnm hl
  obtain ⟨hH, hK, hZ⟩ := hB0
  obtain ⟨hx, hb, hr, hml, hown, hts, hlk⟩ := id C0
  subst hH
  have hS : va_S (fun q => (mC x0 lc tr tc sr sc) q ∨ s.heap.size ≤ q) s.heap s.heap [] := va_S.rf
  have hA : ∀ q : Nat, s.heap.size ≤ q → (fun q => (mC x0 lc tr tc sr sc) q ∨ s.heap.size ≤ q) q := fun q h => Or.inr h
  have h0Z := hZ.1
  have hAb : ∀ q : Nat, (fun q => (mC x0 lc tr tc sr sc) q ∨ s.heap.size ≤ q) q → b0 ≤ q := fun q h => h.elim (hmb q) (fun h => Nat.le_trans h0Z h)
  have hl : lv_has ls 6 [(0, .ref x0), (1, .int (nI r9)), (2, .int (nI d9)), (3, .int (bI zh))] := hl
  obtain ⟨hC, hR, hSp, hap⟩ := id hL
  obtain ⟨hf, hfl, hlc, ⟨f, hg9, hfv⟩, hV, hxl⟩ := id hC
  have ez : decide (d9 = 0 ∨ d9 = 1) = decide (d9 < 2) := decide_eq_decide.mpr (by omega)
  refine lv_iload_n hx hb dX2_would_0 rfl (lv_at hl 1 rfl) ?_
  refine lv_iload_n hx hb dX2_would_1 rfl (lv_at hl 2 rfl) ?_
  refine cp_S (As := [.int (nI r9), .int (nI d9)]) (rest := []) C0 hl hK hS hA (c_ckRK l g s.heap r9 d9 hr9 hd9) gX2_would_X2_checkRadixAndKind rfl ⟨rfl, rfl⟩ (show hd_ok yX2_checkRadixAndKind 2 from ⟨by decide, by decide, by decide +kernel⟩) ⟨Nat.le_of_ble_eq_true rfl, Nat.le_of_ble_eq_true rfl⟩ rfl (Nat.le_of_ble_eq_true rfl) ⟨Nat.zero_le _, Nat.zero_le _⟩ dX2_would_2 (fun locs hS => ?_)
  refine lv_aload_n hx hb dX2_would_5 rfl (lv_at hl 0 rfl) ?_
  refine va_get (ci := 3) (C := RX2) (T := TX2) (N := 7) (v := .ref tr) hx hb hts (by decide +kernel) hown hK.1 (p1 hf) 0 rfl rfl 1 (by decide) (hts (.fieldLink RX2 16 "Radixbench" "text" "LRadixbench$Row;") (by decide +kernel)) (fun _ h9 => h9) rfl dX2_would_6 ?_
  refine lv_iload_n hx hb dX2_would_9 rfl (lv_at hl 1 rfl) ?_
  refine lv_iload_n hx hb dX2_would_10 rfl (lv_at hl 2 rfl) ?_
  refine jp_V (As := [.int (nI r9), .int (nI d9)]) (rest := []) C0 hl hK hS hA (zat hZ hS hAb) (c_isNo l g b0 s.heap tr tc n t hR r9 d9 hr9 hd9) gX2_would_X0_isNumberOf rfl ⟨rfl, rfl⟩ (hR.recv hK) ⟨rfl, (show hd_ok yX0_isNumberOf 2 from ⟨by decide, by decide, by decide +kernel⟩)⟩ ⟨Nat.le_of_ble_eq_true rfl, Nat.le_of_ble_eq_true rfl⟩ rfl (Nat.le_of_ble_eq_true rfl) ⟨Nat.zero_le _, Nat.zero_le _⟩ dX2_would_11 (fun locs hS => ?_)
  by_cases hsa : saOK r9 n t d9
  · rw [bP_t hsa]
    refine lv_if_ne (tgt := 19) hx hb dX2_would_14 (by decide) (fun h1 => ?_) (fun h1 => absurd h1 (by decide))
    obtain ⟨z1, z2, z3, z4⟩ := nh_sa hr9.2 hd9 hsa
    refine lv_aload_n hx hb dX2_would_19 rfl (lv_at hl 0 rfl) ?_
    refine va_get (ci := 3) (C := RX2) (T := TX2) (N := 7) (v := .ref tr) hx hb hts (by decide +kernel) hown hK.1 (p1 hf) 0 rfl rfl 1 (by decide) (hts (.fieldLink RX2 16 "Radixbench" "text" "LRadixbench$Row;") (by decide +kernel)) (fun _ h9 => h9) rfl dX2_would_20 ?_
    refine lv_iload_n hx hb dX2_would_23 rfl (lv_at hl 1 rfl) ?_
    refine cp_V (As := [.int (nI r9)]) (rest := []) C0 hl hK hS hA (c_held l g s.heap tr tc n t hR r9 hr9 z1 z2 z3) gX2_would_X0_numberHeld rfl ⟨rfl, rfl⟩ (hR.recv hK) ⟨rfl, (show hd_ok yX0_numberHeld 1 from ⟨by decide, by decide, by decide +kernel⟩)⟩ ⟨Nat.le_of_ble_eq_true rfl, Nat.le_of_ble_eq_true rfl⟩ rfl (Nat.le_of_ble_eq_true rfl) ⟨Nat.zero_le _, Nat.zero_le _⟩ dX2_would_24 (fun locs hS => ?_)
    refine tp_l (y := lN (nhN r9 n t % 2 ^ 64)) (lN_m _) ?_
    refine lv_iload_n hx hb dX2_would_27 rfl (lv_at hl 2 rfl) ?_
    refine cp_S (As := [.int (nI d9)]) (rest := [.long (lN (nhN r9 n t % 2 ^ 64))]) C0 hl hK hS hA (c_isOfInt l g s.heap d9 hd9) gX2_would_X2_isOfInt rfl ⟨rfl, rfl⟩ (show hd_ok yX2_isOfInt 1 from ⟨by decide, by decide, by decide +kernel⟩) ⟨Nat.le_of_ble_eq_true rfl, Nat.le_of_ble_eq_true rfl⟩ rfl (Nat.le_of_ble_eq_true rfl) ⟨Nat.zero_le _, Nat.zero_le _⟩ dX2_would_28 (fun locs hS => ?_)
    refine tp_i (y := bI (decide (d9 < 2))) ((by rw [ez])) ?_
    refine cp_S (As := [.long (lN (nhN r9 n t % 2 ^ 64)), .int (bI (decide (d9 < 2)))]) (rest := []) C0 hl hK hS hA (c_setting l g s.heap (nhN r9 n t % 2 ^ 64) (decide (d9 < 2)) (Nat.mod_lt _ (by decide))) gX2_would_X2_setting rfl ⟨rfl, rfl⟩ (show hd_ok yX2_setting 2 from ⟨by decide, by decide, by decide +kernel⟩) ⟨Nat.le_of_ble_eq_true rfl, Nat.le_of_ble_eq_true rfl⟩ rfl (Nat.le_of_ble_eq_true rfl) ⟨Nat.zero_le _, Nat.zero_le _⟩ dX2_would_31 (fun locs hS => ?_)
    refine lv_lstore (lv' := [(4, .long (lN (wideN (nP (decide (d9 < 2))) (nhN r9 n t % 2 ^ 64 % 65536 ^ nP (decide (d9 < 2)))))), (0, .ref x0), (1, .int (nI r9)), (2, .int (nI d9)), (3, .int (bI zh))]) hx hb dX2_would_34 hl (by decide) rfl (fun ls hl => ?_)
    refine lv_iload_n hx hb dX2_would_36 rfl (lv_at hl 4 rfl) ?_
    refine lv_if_eq (tgt := 48) hx hb dX2_would_37 (by decide) (fun h2 => ?_) (fun h2 => ?_)
    · skip
      refine lv_lload hx hb dX2_would_48 (lv_at hl 0 rfl) ?_
      refine lv_l2i (v := (lN (wideN (nP (decide (d9 < 2))) (nhN r9 n t % 2 ^ 64 % 65536 ^ nP (decide (d9 < 2))))).toInt32) hx hb dX2_would_50 (rfl) ?_
      exact rt_ni (mu := mC x0 lc tr tc sr sc) C0 rfl ⟨_, _, _, _, V, n, t, ⟨⟨_, rfl⟩, rfl, rfl, rfl⟩, hL⟩ hS rfl dX2_would_51
    · skip
      refine lv_lload hx hb dX2_would_40 (lv_at hl 0 rfl) ?_
      refine cp_S (As := [.long (lN (wideN (nP (decide (d9 < 2))) (nhN r9 n t % 2 ^ 64 % 65536 ^ nP (decide (d9 < 2)))))]) (rest := []) C0 hl hK hS hA (c_hiOf l g s.heap (lN (wideN (nP (decide (d9 < 2))) (nhN r9 n t % 2 ^ 64 % 65536 ^ nP (decide (d9 < 2)))))) gX2_would_X2_highOf rfl ⟨rfl, rfl⟩ (show hd_ok yX2_highOf 1 from ⟨by decide, by decide, by decide +kernel⟩) ⟨Nat.le_of_ble_eq_true rfl, Nat.le_of_ble_eq_true rfl⟩ rfl (Nat.le_of_ble_eq_true rfl) ⟨Nat.zero_le _, Nat.zero_le _⟩ dX2_would_42 (fun locs hS => ?_)
      refine lv_goto (tgt := 51) hx hb dX2_would_45 (by decide) ?_
      exact rt_ni (mu := mC x0 lc tr tc sr sc) C0 rfl ⟨_, _, _, _, V, n, t, ⟨⟨_, rfl⟩, rfl, rfl, rfl⟩, hL⟩ hS rfl dX2_would_51
  · rw [bP_f hsa]
    refine lv_if_ne (tgt := 19) hx hb dX2_would_14 (by decide) (fun h1 => absurd rfl h1) (fun h1 => ?_)
    refine lv_iconst (v := nI 0) hx hb dX2_would_17 (by decide) ?_
    exact rt_ni (mu := mC x0 lc tr tc sr sc) C0 rfl ⟨_, _, _, _, V, n, t, ⟨⟨_, rfl⟩, rfl, rfl, rfl⟩, hL⟩ hS rfl dX2_would_18
end M68

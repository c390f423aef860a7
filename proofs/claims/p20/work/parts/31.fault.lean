-- the model's public calls: faultOf, divide, rest
/-- what is wrong with a division -/
def fauQ (x y : Int32) (zi : Bool) (V : Nat → Nat) (t : Int32) : Prop := (¬ (isC x ∧ isC y) ∧ t = nI 1) ∨ ∃ i j : Nat, i < 8 ∧ j < 8 ∧ x = nI i ∧ y = nI j ∧ t = (if V j % 65536 ^ nP zi = 0 then nI 2 else nI 0)
section M31
variable {p : Program} {l : Launch} {e : Env} {s : State} {m : MethodId} {args : Array Value} {below : List Frame} {meth : Method} {c : Code} {H H0 : Heap} {locs : List Loc} {cells slots : Nat} {Q : State → Prop} {A : Nat → Prop} {g : Gx}
abbrev rmX4_faultOf : Room := { frames := 2, cells := 1, slots := 4, locals := 45 }
set_option maxHeartbeats 4000000 in
set_option maxRecDepth 100000 in
/-- faultOf(own, by, isInt) -/
theorem c_faultOf (l : Launch) (g : Gx) (H0 : Heap) (z0 mc lf dg : Nat) (fs : List Value) (rr V : Nat → Nat) (hM : MD g H0 z0 mc lf dg fs rr V) (x y : Int32) (zi : Bool) : Met l yX4_faultOf wsX4_faultOf rmX4_faultOf (va_Pc [.ref z0, .int x, .int y, .int (bI zi)] (hB g H0)) (nQ H0 (fun _ => False) (fun r H1 => ∃ t : Int32, r = some (.int t) ∧ fauQ x y zi V t)) 1 4 (fun q => False ∨ H0.size ≤ q) := by
  refine cx_met (own := RX4) (cc := cX4_faultOf) (maxL := 4) (by decide) rfl rfl (Nat.le_of_ble_eq_true rfl) ?_
  intro p e s m below meth c ls C0 hB0 hnm hl
  obtain ⟨hH, hK⟩ := hB0
  obtain ⟨hx, hb, hr, hml, hown, hts, hlk⟩ := id C0
  subst hH
  have hS : va_S (fun q => False ∨ s.heap.size ≤ q) s.heap s.heap [] := va_S.rf
  have hA : ∀ q : Nat, s.heap.size ≤ q → (fun q => False ∨ s.heap.size ≤ q) q := fun q h => Or.inr h
  have hl : lv_has ls 4 [(0, .ref z0), (1, .int x), (2, .int y), (3, .int (bI zi))] := hl
  obtain ⟨hz, hfl, hmc, hdg, hlf, ⟨fr, hg9, hfr⟩, hrr, -, -, -⟩ := id hM
  refine lv_iload_n hx hb dX4_faultOf_0 rfl (lv_at hl 1 rfl) ?_
  refine cp_S (As := [.int x]) (rest := []) C0 hl hK hS hA (c_isCell l g s.heap x) gX4_faultOf_X4_isCell rfl ⟨rfl, rfl⟩ (show hd_ok yX4_isCell 1 from ⟨by decide, by decide, by decide +kernel⟩) ⟨Nat.le_of_ble_eq_true rfl, Nat.le_of_ble_eq_true rfl⟩ rfl (Nat.le_of_ble_eq_true rfl) ⟨by decide, by decide⟩ dX4_faultOf_1 (fun locs hS => ?_)
  refine lv_if_eq (tgt := 14) hx hb dX4_faultOf_4 (by decide) (fun h1 => ?_) (fun h1 => ?_)
  · skip
    refine W.widen (k := 1) (n := 4) (by decide) (by decide) ?_
    refine lv_iconst (v := nI 1) hx hb dX4_faultOf_14 (by decide) ?_
    refine lv_goto (tgt := 35) hx hb dX4_faultOf_15 (by decide) ?_
    exact rt_ni (mu := fun _ => False) C0 rfl ⟨_, rfl, Or.inl ⟨fun z => of_decide_eq_false (bI_0 h1) z.1, rfl⟩⟩ hS rfl dX4_faultOf_35
  · skip
    refine lv_iload_n hx hb dX4_faultOf_7 rfl (lv_at hl 2 rfl) ?_
    refine cp_S (As := [.int y]) (rest := []) C0 hl hK hS hA (c_isCell l g s.heap y) gX4_faultOf_X4_isCell rfl ⟨rfl, rfl⟩ (show hd_ok yX4_isCell 1 from ⟨by decide, by decide, by decide +kernel⟩) ⟨Nat.le_of_ble_eq_true rfl, Nat.le_of_ble_eq_true rfl⟩ rfl (Nat.le_of_ble_eq_true rfl) ⟨by decide, by decide⟩ dX4_faultOf_8 (fun locs hS => ?_)
    refine lv_if_ne (tgt := 18) hx hb dX4_faultOf_11 (by decide) (fun h2 => ?_) (fun h2 => ?_)
    · skip
      obtain ⟨i, hi, rfl⟩ := cell_of (of_decide_eq_true (bI_n0 h1))
      obtain ⟨j, hj, rfl⟩ := cell_of (of_decide_eq_true (bI_n0 h2))
      refine lv_aload_n hx hb dX4_faultOf_18 rfl (lv_at hl 0 rfl) ?_
      refine lv_iload_n hx hb dX4_faultOf_19 rfl (lv_at hl 2 rfl) ?_
      refine lv_iload_n hx hb dX4_faultOf_20 rfl (lv_at hl 3 rfl) ?_
      refine cn_V (As := [.int (nI j), .int (bI zi)]) (rest := []) C0 hl hK hS hA (fun z h => absurd h (fun z => z)) (c_of l g s.heap z0 mc j (rr j) (V j) zi _ fr hz hmc hg9 (hfr j hj) hj (hrr j hj).1) gX4_faultOf_X4_of rfl ⟨rfl, rfl⟩ ((va_recv hK.1 (p1 hz) (ci := 5) (q0 := 0) rfl rfl)) ⟨rfl, (show hd_ok yX4_of 2 from ⟨by decide, by decide, by decide +kernel⟩)⟩ ⟨Nat.le_of_ble_eq_true rfl, Nat.le_of_ble_eq_true rfl⟩ rfl (Nat.le_of_ble_eq_true rfl) ⟨by decide, by decide⟩ dX4_faultOf_21 (fun r1 H2 locs hv hzz hk2 hS => ?_)
      obtain ⟨q1, rfl, hq1, g1⟩ := hv
      refine cp_S (As := [.ref q1]) (rest := []) C0 hl hK hS hA (c_isZero l g H2 q1 (nP zi) _ (by rcases nP_or zi with h | h <;> omega) (Nat.mod_lt _ (Nat.pow_pos (by decide))) g1) gX4_faultOf_X4_isZero rfl ⟨rfl, rfl⟩ (show hd_ok yX4_isZero 1 from ⟨by decide, by decide, by decide +kernel⟩) ⟨Nat.le_of_ble_eq_true rfl, Nat.le_of_ble_eq_true rfl⟩ rfl (Nat.le_of_ble_eq_true rfl) ⟨by decide, by decide⟩ dX4_faultOf_24 (fun locs hS => ?_)
      refine lv_if_eq (tgt := 34) hx hb dX4_faultOf_27 (by decide) (fun h3 => ?_) (fun h3 => ?_)
      · skip
        refine lv_iconst (v := nI 0) hx hb dX4_faultOf_34 (by decide) ?_
        exact rt_ni (mu := fun _ => False) C0 rfl ⟨_, rfl, Or.inr ⟨i, j, hi, hj, rfl, rfl, by rw [if_neg (of_decide_eq_false (bI_0 h3))]⟩⟩ hS rfl dX4_faultOf_35
      · skip
        refine lv_iconst (v := nI 2) hx hb dX4_faultOf_30 (by decide) ?_
        refine lv_goto (tgt := 35) hx hb dX4_faultOf_31 (by decide) ?_
        exact rt_ni (mu := fun _ => False) C0 rfl ⟨_, rfl, Or.inr ⟨i, j, hi, hj, rfl, rfl, by rw [if_pos (of_decide_eq_true (bI_n0 h3))]⟩⟩ hS rfl dX4_faultOf_35
    · skip
      have h3 := h2
      refine W.widen (k := 1) (n := 4) (by decide) (by decide) ?_
      refine lv_iconst (v := nI 1) hx hb dX4_faultOf_14 (by decide) ?_
      refine lv_goto (tgt := 35) hx hb dX4_faultOf_15 (by decide) ?_
      exact rt_ni (mu := fun _ => False) C0 rfl ⟨_, rfl, Or.inl ⟨fun z => of_decide_eq_false (bI_0 h3) z.2, rfl⟩⟩ hS rfl dX4_faultOf_35
end M31

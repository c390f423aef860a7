-- the model's public calls: knock
section M35
variable {p : Program} {l : Launch} {e : Env} {s : State} {m : MethodId} {args : Array Value} {below : List Frame} {meth : Method} {c : Code} {H H0 : Heap} {locs : List Loc} {cells slots : Nat} {Q : State → Prop} {A : Nat → Prop} {g : Gx}
abbrev rmX4_knock : Room := { frames := 0, cells := 0, slots := 0, locals := 0 }
set_option maxHeartbeats 4000000 in
set_option maxRecDepth 100000 in
/-- knock() -/
theorem c_knock (l : Launch) (g : Gx) (H0 : Heap) (z0 mc lf dg : Nat) (fs : List Value) (rr V : Nat → Nat) (hM : MD g H0 z0 mc lf dg fs rr V) (n6 : Int32) (h6 : fs[6]? = some (.int n6)) : Met l yX4_knock wsX4_knock rmX4_knock (va_Pc [.ref z0] (hB g H0)) (nQ H0 (zM z0 mc lf dg) (zQ g z0 mc lf dg (fun r fs2 V2 => r = some (.int (n6 + nI 1)) ∧ fs2 = (fs.set 0 (.int (nI 0))).set 6 (.int (n6 + nI 1)) ∧ V2 = V))) 0 0 (fun q => zM z0 mc lf dg q ∨ H0.size ≤ q) := by
  refine cx_met (own := RX4) (cc := cX4_knock) (maxL := 1) (by decide) rfl rfl (Nat.le_of_ble_eq_true rfl) ?_
  intro p e s m below meth c ls C0 hB0 hnm hl
  obtain ⟨hH, hK⟩ := hB0
  obtain ⟨hx, hb, hr, hml, hown, hts, hlk⟩ := id C0
  subst hH
  have hS : va_S (fun q => zM z0 mc lf dg q ∨ s.heap.size ≤ q) s.heap s.heap [] := va_S.rf
  have hA : ∀ q : Nat, s.heap.size ≤ q → (fun q => zM z0 mc lf dg q ∨ s.heap.size ≤ q) q := fun q h => Or.inr h
  have hl : lv_has ls 1 [(0, .ref z0)] := hl
  obtain ⟨hz, hfl, -⟩ := id hM
  refine lv_aload_n hx hb dX4_knock_0 rfl (lv_at hl 0 rfl) ?_
  refine lv_iconst (v := nI 0) hx hb dX4_knock_1 (by decide) ?_
  refine w_putf (ci := 5) (C := RX4) (T := TX4) (N := 10) (ty := .int) hx hb hts (by decide +kernel) tyX4 tyX4_ok nmX4 hown hK hS hz (Or.inl (Or.inl rfl)) rfl 0 (by decide) (hts (.fieldLink RX4 27 "RadixbenchModel" "thrown" "I") (by decide +kernel)) (fun _ h9 => h9) rfl (by decide +kernel) rfl rfl (by rw [hfl]; decide) dX4_knock_2 (fun H1 locs hz1 hs1 ho1 hS => ?_)
  have hM1 := hM.fset (by decide) (by decide) (by decide) ho1 hz1
  obtain ⟨-, hfl1, hmc, hdg, hlf, ⟨fr, hg9, hfr⟩, hrr, -, -, -⟩ := id hM1
  have h61 : (fs.set 0 (.int (nI 0)))[6]? = some (.int n6) := by rw [List.getElem?_set_ne (by decide)]; exact h6
  refine lv_aload_n hx hb dX4_knock_5 rfl (lv_at hl 0 rfl) ?_
  refine lv_dup hx hb dX4_knock_6 rfl ?_
  refine va_get (ci := 5) (C := RX4) (T := TX4) (N := 10) (v := .int n6) hx hb hts (by decide +kernel) hown hK.1 (p1 hz1) 0 rfl rfl 6 (by decide) (hts (.fieldLink RX4 218 "RadixbenchModel" "knocks" "I") (by decide +kernel)) (fun _ h9 => h9) h61 dX4_knock_7 ?_
  refine lv_iconst (v := nI 1) hx hb dX4_knock_10 (by decide) ?_
  refine lv_iadd hx hb dX4_knock_11 ?_
  refine w_putf (ci := 5) (C := RX4) (T := TX4) (N := 10) (ty := .int) hx hb hts (by decide +kernel) tyX4 tyX4_ok nmX4 hown hK hS hz1 (Or.inl (Or.inl rfl)) rfl 6 (by decide) (hts (.fieldLink RX4 218 "RadixbenchModel" "knocks" "I") (by decide +kernel)) (fun _ h9 => h9) rfl (by decide +kernel) rfl rfl (by rw [List.length_set, hfl]; decide) dX4_knock_12 (fun H2 locs hz2 hs2 ho2 hS => ?_)
  have hM2 := hM1.fset (by decide) (by decide) (by decide) ho2 hz2
  refine lv_aload_n hx hb dX4_knock_15 rfl (lv_at hl 0 rfl) ?_
  refine va_get (ci := 5) (C := RX4) (T := TX4) (N := 10) (v := .int (n6 + nI 1)) hx hb hts (by decide +kernel) hown hK.1 (p1 hz2) 0 rfl rfl 6 (by decide) (hts (.fieldLink RX4 218 "RadixbenchModel" "knocks" "I") (by decide +kernel)) (fun _ h9 => h9) (List.getElem?_set_self (by rw [List.length_set, hfl]; decide)) dX4_knock_16 ?_
  exact rt_ni (mu := zM z0 mc lf dg) C0 rfl ⟨_, _, _, ⟨rfl, rfl, rfl⟩, hM2⟩ hS rfl dX4_knock_19
end M35

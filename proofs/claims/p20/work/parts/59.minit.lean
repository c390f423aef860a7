-- THE MODEL MADE
section M59
variable {p : Program} {l : Launch} {e : Env} {s : State} {m : MethodId} {args : Array Value} {below : List Frame} {meth : Method} {c : Code} {H H0 : Heap} {locs : List Loc} {cells slots : Nat} {Q : State → Prop} {A : Nat → Prop} {g : Gx} {b0 : Nat}
abbrev rmX4_init : Room := { frames := 1, cells := 11, slots := 108, locals := 40 }
set_option maxHeartbeats 4000000 in
set_option maxRecDepth 100000 in
/-- new RadixbenchModel() -/
theorem c_mInit (l : Launch) (g : Gx) (b0 : Nat) (H0 : Heap) (z0 : Nat) (hf : va_at g.1 vwCl (z0, .inr (5, [.int 0, .null, .null, .int 0, .int 0, .int 0, .int 0, .null, .null, .long 0])) H0) (hmb : ∀ q : Nat, (fun q => q = z0) q → b0 ≤ q) : Met l yX4_init wsX4_init rmX4_init (va_Pc [.ref z0] (hJ g b0 H0)) (nQ H0 (fun q => q = z0) (fun r H1 => r = none ∧ ∃ (mc lf dg a b : Nat) (fs : List Value) (rr : Nat → Nat), (H0.size ≤ mc ∧ H0.size ≤ lf ∧ H0.size ≤ dg) ∧ MT g H1 z0 mc lf dg fs rr (fun _ => 0) a b 0 (fun _ => 0))) 11 108 (fun q => (fun q => q = z0) q ∨ H0.size ≤ q) := by
  refine cx_met (own := RX4) (cc := cX4_init) (maxL := 1) (by decide) rfl rfl (Nat.le_of_ble_eq_true rfl) ?_
  intro p e s m below meth c ls C0 hB0 hnm hl
  obtain ⟨hH, hK, hZ⟩ := hB0
  obtain ⟨hx, hb, hr, hml, hown, hts, hlk⟩ := id C0
  subst hH
  have hS : va_S (fun q => (fun q => q = z0) q ∨ s.heap.size ≤ q) s.heap s.heap [] := va_S.rf
  have hA : ∀ q : Nat, s.heap.size ≤ q → (fun q => (fun q => q = z0) q ∨ s.heap.size ≤ q) q := fun q h => Or.inr h
  have h0Z := hZ.1
  have hAb : ∀ q : Nat, (fun q => (fun q => q = z0) q ∨ s.heap.size ≤ q) q → b0 ≤ q := fun q h => h.elim (hmb q) (fun h => Nat.le_trans h0Z h)
  have hl : lv_has ls 1 [(0, .ref z0)] := hl
  have lz := hf.lt
  dsimp only at lz
  refine lv_aload_n hx hb dX4_init_0 rfl (lv_at hl 0 rfl) ?_
  refine f_objInit hx hb hown (hts (.methodLink RX4 1 objectInit) (by decide +kernel)) (hts (.instanceMethod objectInit) (by decide +kernel)) (hts (.code objectInit ⟨#[0xb1]⟩ 1 none) (by decide +kernel)) (by rw [hml]; exact hl.1) dX4_init_1 (Nat.le_of_ble_eq_true rfl) (Nat.le_of_ble_eq_true rfl) ?_
  refine lv_aload_n hx hb dX4_init_4 rfl (lv_at hl 0 rfl) ?_
  refine lv_bipush (v := nI 8) hx hb dX4_init_5 (by decide) ?_
  refine lv_iconst (v := nI 4) hx hb dX4_init_7 (by decide) ?_
  refine w_mna (N := 8) (K := 4) hx hb hown (hts (.classLink RX4 9 "[[I") (by decide +kernel)) (hts (.arrayClass .int) (by decide +kernel)) hK hS (by decide) (by decide) (by decide) (by decide) dX4_init_8 (fun H1 hq1 hr1 hz1 ho1 hS => ?_)
  refine f_putF (ci := 5) (C := RX4) (T := TX4) (N := 10) (ty := (.array (.array .int))) hx hb hts (by decide +kernel) tyX4 tyX4_ok nmX4 hown hK hS (hf.kept (ho1 _ lz)) (Or.inl rfl) rfl 1 (by decide) (hts (.fieldLink RX4 11 "RadixbenchModel" "cells" "[[I") (by decide +kernel)) (fun _ h9 => h9) rfl hnm rfl (by decide +kernel) rfl rfl (by show 1 < 10; decide) dX4_init_12 (fun H2 locs f2 s2 o2 hS => ?_)
  refine lv_aload_n hx hb dX4_init_15 rfl (lv_at hl 0 rfl) ?_
  obtain ⟨-, -, -, -, -, -, ad, hR, ⟨b6, hb6, hq6, hs6⟩, -, -⟩ := zat hZ hS hAb
  refine va_ldcS (tx := "") hx hb hown (hR 0 _ rfl) dX4_init_16 ?_
  refine w_putf (ci := 5) (C := RX4) (T := TX4) (N := 10) (ty := (.object "java/lang/String")) hx hb hts (by decide +kernel) tyX4 tyX4_ok nmX4 hown hK hS f2 (Or.inl rfl) rfl 2 (by decide) (hts (.fieldLink RX4 16 "RadixbenchModel" "text" "Ljava/lang/String;") (by decide +kernel)) (fun _ h9 => h9) rfl (by decide +kernel) rfl rfl (by show 2 < 10; decide) dX4_init_18 (fun H3 locs f3 s3 o3 hS => ?_)
  refine lv_aload_n hx hb dX4_init_21 rfl (lv_at hl 0 rfl) ?_
  refine lv_bipush (v := nI 64) hx hb dX4_init_22 (by decide) ?_
  refine w_newF hx hb (hts (.arrayClass .int) (by decide +kernel)) hK hS (N := 64) (by decide) (by decide) (by decide) dX4_init_24 (fun dg H4 hqdg gdg hzdg hk4 hS => ?_)
  refine f_putF (ci := 5) (C := RX4) (T := TX4) (N := 10) (ty := (.array .int)) hx hb hts (by decide +kernel) tyX4 tyX4_ok nmX4 hown hK hS (f3.kept (hk4 _ f3.lt)) (Or.inl rfl) rfl 7 (by decide) (hts (.fieldLink RX4 20 "RadixbenchModel" "digits" "[I") (by decide +kernel)) (fun _ h9 => h9) rfl hnm rfl (by decide +kernel) rfl rfl (by show 7 < 10; decide) dX4_init_26 (fun H5 locs f5 s5 o5 hS => ?_)
  refine lv_aload_n hx hb dX4_init_29 rfl (lv_at hl 0 rfl) ?_
  refine lv_iconst (v := nI 4) hx hb dX4_init_30 (by decide) ?_
  refine w_newF hx hb (hts (.arrayClass .int) (by decide +kernel)) hK hS (N := 4) (by decide) (by decide) (by decide) dX4_init_31 (fun lf H6 hqlf glf hzlf hk6 hS => ?_)
  refine f_putF (ci := 5) (C := RX4) (T := TX4) (N := 10) (ty := (.array .int)) hx hb hts (by decide +kernel) tyX4 tyX4_ok nmX4 hown hK hS (f5.kept (hk6 _ f5.lt)) (Or.inl rfl) rfl 8 (by decide) (hts (.fieldLink RX4 24 "RadixbenchModel" "left" "[I") (by decide +kernel)) (fun _ h9 => h9) rfl hnm rfl (by decide +kernel) rfl rfl (by show 8 < 10; decide) dX4_init_33 (fun H7 locs f7 s7 o7 hS => ?_)
  have l4 := gdg.lt
  have l6 := glf.lt
  dsimp only at l4 l6
  have hkk : ∀ q : Nat, q ≠ z0 → q < H1.size → H7[q]? = H1[q]? := fun q h h1 => (o7 q h).trans ((hk6 q (by omega)).trans ((o5 q h).trans ((hk4 q (by omega)).trans ((o3 q h).trans (o2 q h)))))
  have hgd := ((gdg.kept (o5 _ (by omega))).kept (hk6 _ (by omega))).kept (o7 _ (by omega))
  have hgl := glf.kept (o7 _ (by omega))
  have hs7 : sS g (ad 0) b6 0 (fun _ => 0) H7 := by
    have k1 : ∀ q : Nat, q < b0 → H7[q]? = H2[q]? := fun q h => (hkk q (by have := hmb z0 rfl; omega) (by omega)).trans (o2 q (by have := hmb z0 rfl; omega)).symm
    exact hs6.kept (k1 _ hq6) (k1 _ hb6)
  have hzb := hmb z0 rfl
  have hMD : MD g H7 z0 s.heap.size lf dg [.int 0, .ref s.heap.size, .ref (ad 0), .int 0, .int 0, .int 0, .int 0, .ref dg, .ref lf, .long 0] (fun i => s.heap.size + 1 + i) (fun _ => 0) := by
    refine ⟨f7, rfl, rfl, rfl, rfl, ⟨_, hq1.kept (hkk _ (by omega) (by omega)), fun i hi => if_pos hi⟩, fun i hi => ⟨at_cong ((hr1 i hi).kept (hkk _ (by omega) (by omega))) (fun k _ => (rw16_0 k)), Nat.pow_pos (by decide), ?_, ?_, ?_, ?_⟩, ⟨_, hgl⟩, ⟨_, hgd⟩, ?_, ?_, ?_, ?_, ?_, ?_⟩
    all_goals (try dsimp only)
    all_goals omega
  refine W.widen (k := 11) (n := 108) (by decide) (by decide) ?_
  have zn : ∀ q : Nat, q < b0 → ¬ zM z0 s.heap.size lf dg q := fun q h z => by rcases z with e | e | e | e <;> omega
  exact rt_v (mu := (fun q => q = z0)) C0 ⟨rfl, _, lf, dg, ad 0, b6, _, _, ⟨Nat.le_refl _, by omega, by omega⟩, hMD, ⟨⟨_, rfl⟩, ⟨_, rfl⟩, ⟨_, rfl⟩, ⟨_, rfl⟩, ⟨_, rfl⟩, _, rfl⟩, rfl, hs7, zn _ hq6, zn _ hb6, by decide, fun j h => absurd h (Nat.not_lt_zero _)⟩ hS rfl dX4_init_36
end M59

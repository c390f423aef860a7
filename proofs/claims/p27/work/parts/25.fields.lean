-- the model's fields written; thrown, refuse, refuses, isSound, high, low
section PF
variable {p : Program} {l : Launch} {e : Env} {R : Room} {s : State} {m : MethodId} {args : Array Value} {below : List Frame} {meth : Method} {c : Code} {H H0 : Heap} {locs : List Loc} {cells slots : Nat} {Q : State → Prop}
variable {cc : ByteArray} {pc : Nat} {ls : Array Slot} {rest : List Value} {A : Nat → Prop} {a : Nat} {g : Gx}
theorem w_putf (hexec : p.tables.exec = Jvm.exec) (hb : c.code = cc) {own ref C : String} {T : u_T} {N ci index : Nat} {Ts : List Cond} (hts : ∀ w ∈ Ts, w.before args s = true) (hin : ∀ w ∈ u_ws C T N, w ∈ Ts) (ty0 : Nat → FieldType) (hty : ∀ k, k < N → parseFieldDescriptor (T k).2.2.1 = some (ty0 k)) (hnm : ∀ a, a < N → ∀ b, b < N → a ≠ b → (T a).2.1 ≠ (T b).2.1) (hown : s.vm.findClass own = some m.cls) (hK : KK g s) (hS0 : va_S A H0 H locs) {fs : List Value} (ha : va_at g.1 vwCl (a, .inr (ci, fs)) H) (hA : A a) (hc : vwCl[ci]? = some (C, T, N)) (k : Nat) (hk : k < N) (hlink : (Cond.fieldLink own index ref (T k).2.1 (T k).2.2.1).before args s = true) (hsame : ∀ x, s.fieldFound? (T k).1 (T k).2.1 (T k).2.2.1 = some x → s.fieldFound? ref (T k).2.1 (T k).2.2.1 = some x) (hfin : (T k).2.2.2 = false) {ty : FieldType} {v : Value} (hd : parseFieldDescriptor (T k).2.2.1 = some ty) (hn : narrow ty v = v) (hfit : fits ty v = true) (hl : k < fs.length)
    (hdg : decode cc pc = .ok (.putfield index, 3)) (kk : ∀ (H1 : Heap) (locs1 : List Loc), va_at g.1 vwCl (a, .inr (ci, fs.set k v)) H1 → H1.size = H.size → (∀ q : Nat, q ≠ a → H1[q]? = H[q]?) → va_S A H0 H1 locs1 → W p l e R s m args below meth c H1 locs1 cells slots Q (F0 m (pc + 3) ls rest)) : W p l e R s m args below meth c H locs cells slots Q (F0 m pc ls (v :: .ref a :: rest)) := by
  have hap := va_apart (own := own) hts hin ty0 hty hnm hK.1 hc
  obtain ⟨r, h1, cell, q1, q2, q3, q4⟩ := ha
  have hr : r = (C, T, N) := Option.some.inj (h1.symm.trans hc)
  subst hr
  obtain ⟨hS, hfc, kC, hkC, hkind⟩ := hK.1.1 ci _ hc
  obtain ⟨cf, kf, fi, f, hi, hsl⟩ := hS k hk
  have hlay := hts _ (hin _ (u_in_lay hk))
  unfold u_lay at hlay
  rw [if_neg (by rw [hfin]; decide)] at hlay
  have hst := (u_facts hfc hkC (u_lays hts hin hk) hi).1
  have h6 := u_store hfc hkC hkind hlay hi hd hn hfit
  refine W.putK hexec hb (f := f) ⟨hown, hlink, ⟨_, _, _, hsame _ hi⟩, hst⟩ (by rw [q2]; exact h6) q1 q3 (by rw [hsl]; exact k2_hasslot (q4 k hk)) rfl rfl hdg fun H' e1 e2 e3 => ?_
  rw [hsl] at e1 ⊢
  exact kk H' _ ⟨_, hc, t_OB.to (V := updV (vp_V fs) k v) ⟨_, e1, q2, q3, t_set q4 hap hk v⟩ (fun j _ => vp_updV_set hl v j)⟩ e2 e3 (hS0.put e2 e3 hA)
end PF
/-- the model with another field (none of its rows) -/
theorem MD.fset {g : Gx} {H0 H : Heap} {z0 mc lf dg k : Nat} {v : Value} {fs : List Value} {rr V : Nat → Nat} (h : MD g H0 z0 mc lf dg fs rr V) (h1 : k ≠ 1) (h7 : k ≠ 7) (h8 : k ≠ 8) (hk : ∀ q : Nat, q ≠ z0 → H[q]? = H0[q]?) (hz : va_at g.1 vwCl (z0, .inr (5, fs.set k v)) H) : MD g H z0 mc lf dg (fs.set k v) rr V := by
  obtain ⟨-, a0, a1, a2, a3, ⟨fr, hg9, hfr⟩, hrr, ⟨f, hf⟩, ⟨d, hd⟩, n1, n2, n3, n4, n5, n6⟩ := h
  refine ⟨hz, by rw [List.length_set]; exact a0, by rw [List.getElem?_set_ne h1]; exact a1, by rw [List.getElem?_set_ne h7]; exact a2, by rw [List.getElem?_set_ne h8]; exact a3, ⟨fr, hg9.kept (hk _ n1.symm), hfr⟩, fun i hi => ?_, ⟨f, hf.kept (hk _ n2.symm)⟩, ⟨d, hd.kept (hk _ n3.symm)⟩, n1, n2, n3, n4, n5, n6⟩
  obtain ⟨b1, b2, b3, b4⟩ := hrr i hi
  exact ⟨b1.kept (hk _ b3), b2, b3, b4⟩
/-- the addresses that the model's calls write -/
def zM (z0 mc lf dg : Nat) (q : Nat) : Prop := q = z0 ∨ q = mc ∨ q = lf ∨ q = dg
/-- an answer, and the model behind it -/
def zQ (g : Gx) (z0 mc lf dg : Nat) (P : Option Value → List Value → (Nat → Nat) → Prop) : Option Value → Heap → Prop := fun r H1 => ∃ (fs : List Value) (rr V : Nat → Nat), P r fs V ∧ MD g H1 z0 mc lf dg fs rr V
section M25
variable {p : Program} {l : Launch} {e : Env} {s : State} {m : MethodId} {args : Array Value} {below : List Frame} {meth : Method} {c : Code} {H H0 : Heap} {locs : List Loc} {cells slots : Nat} {Q : State → Prop} {A : Nat → Prop} {g : Gx}
abbrev rmX4_thrown : Room := { frames := 0, cells := 0, slots := 0, locals := 0 }
set_option maxHeartbeats 4000000 in
set_option maxRecDepth 100000 in
/-- thrown() -/
theorem c_thrown (l : Launch) (g : Gx) (H0 : Heap) (z0 : Nat) (t : Int32) (fs : List Value) (hz : va_at g.1 vwCl (z0, .inr (5, fs)) H0) (ht : fs[0]? = some (.int t)) : Met l yX4_thrown wsX4_thrown rmX4_thrown (va_Pc [.ref z0] (hB g H0)) (pQ (some (.int t)) H0) 0 0 (fun q => H0.size ≤ q) := by
  refine cx_met (own := RX4) (cc := cX4_thrown) (maxL := 1) (by decide) rfl rfl (Nat.le_of_ble_eq_true rfl) ?_
  intro p e s m below meth c ls C0 hB0 hnm hl
  obtain ⟨hH, hK⟩ := hB0
  obtain ⟨hx, hb, hr, hml, hown, hts, hlk⟩ := id C0
  subst hH
  have hS : va_S (fun q => s.heap.size ≤ q) s.heap s.heap [] := va_S.rf
  have hA : ∀ q : Nat, s.heap.size ≤ q → s.heap.size ≤ q := fun q h => h
  have hl : lv_has ls 1 [(0, .ref z0)] := hl
  refine lv_aload_n hx hb dX4_thrown_0 rfl (lv_at hl 0 rfl) ?_
  refine r_get (ci := 5) (C := RX4) (T := TX4) (N := 10) (v := .int t) hx hb hts (by decide +kernel) hown hK hS hz (nA hz) rfl 0 (by decide) (hts (.fieldLink RX4 27 "RadixbenchModel" "thrown" "I") (by decide +kernel)) (fun _ h9 => h9) ht dX4_thrown_1 ?_
  exact rt_i C0 rfl hS rfl dX4_thrown_4
abbrev rmX4_refuse : Room := { frames := 0, cells := 0, slots := 0, locals := 0 }
set_option maxHeartbeats 4000000 in
set_option maxRecDepth 100000 in
/-- refuse(number) -/
theorem c_refuse (l : Launch) (g : Gx) (H0 : Heap) (z0 mc lf dg : Nat) (fs : List Value) (rr V : Nat → Nat) (hM : MD g H0 z0 mc lf dg fs rr V) (t : Int32) : Met l yX4_refuse wsX4_refuse rmX4_refuse (va_Pc [.ref z0, .int t] (hB g H0)) (nQ H0 (zM z0 mc lf dg) (zQ g z0 mc lf dg (fun r fs2 V2 => r = some (.int (nI 0)) ∧ fs2 = fs.set 0 (.int t) ∧ V2 = V))) 0 0 (fun q => zM z0 mc lf dg q ∨ H0.size ≤ q) := by
  refine cx_met (own := RX4) (cc := cX4_refuse) (maxL := 2) (by decide) rfl rfl (Nat.le_of_ble_eq_true rfl) ?_
  intro p e s m below meth c ls C0 hB0 hnm hl
  obtain ⟨hH, hK⟩ := hB0
  obtain ⟨hx, hb, hr, hml, hown, hts, hlk⟩ := id C0
  subst hH
  have hS : va_S (fun q => zM z0 mc lf dg q ∨ s.heap.size ≤ q) s.heap s.heap [] := va_S.rf
  have hA : ∀ q : Nat, s.heap.size ≤ q → (fun q => zM z0 mc lf dg q ∨ s.heap.size ≤ q) q := fun q h => Or.inr h
  have hl : lv_has ls 2 [(0, .ref z0), (1, .int t)] := hl
  obtain ⟨hz, hfl, -⟩ := id hM
  refine lv_aload_n hx hb dX4_refuse_0 rfl (lv_at hl 0 rfl) ?_
  refine lv_iload_n hx hb dX4_refuse_1 rfl (lv_at hl 1 rfl) ?_
  refine w_putf (ci := 5) (C := RX4) (T := TX4) (N := 10) (ty := .int) hx hb hts (by decide +kernel) tyX4 tyX4_ok nmX4 hown hK hS hz (Or.inl (Or.inl rfl)) rfl 0 (by decide) (hts (.fieldLink RX4 27 "RadixbenchModel" "thrown" "I") (by decide +kernel)) (fun _ h9 => h9) rfl (by decide +kernel) rfl rfl (by rw [hfl]; decide) dX4_refuse_2 (fun H1 locs hz1 hs1 ho1 hS => ?_)
  refine lv_iconst (v := nI 0) hx hb dX4_refuse_5 (by decide) ?_
  exact rt_ni (mu := zM z0 mc lf dg) C0 rfl ⟨_, _, _, ⟨rfl, rfl, rfl⟩, hM.fset (by decide) (by decide) (by decide) ho1 hz1⟩ hS rfl dX4_refuse_6
abbrev rmX4_refuses : Room := { frames := 0, cells := 0, slots := 0, locals := 0 }
set_option maxHeartbeats 4000000 in
set_option maxRecDepth 100000 in
/-- refuses(number) -/
theorem c_refuses (l : Launch) (g : Gx) (H0 : Heap) (z0 mc lf dg : Nat) (fs : List Value) (rr V : Nat → Nat) (hM : MD g H0 z0 mc lf dg fs rr V) (t : Int32) : Met l yX4_refuses wsX4_refuses rmX4_refuses (va_Pc [.ref z0, .int t] (hB g H0)) (nQ H0 (zM z0 mc lf dg) (zQ g z0 mc lf dg (fun r fs2 V2 => r = some (.int (nI 0)) ∧ fs2 = fs.set 0 (.int t) ∧ V2 = V))) 0 0 (fun q => zM z0 mc lf dg q ∨ H0.size ≤ q) := by
  refine cx_met (own := RX4) (cc := cX4_refuses) (maxL := 2) (by decide) rfl rfl (Nat.le_of_ble_eq_true rfl) ?_
  intro p e s m below meth c ls C0 hB0 hnm hl
  obtain ⟨hH, hK⟩ := hB0
  obtain ⟨hx, hb, hr, hml, hown, hts, hlk⟩ := id C0
  subst hH
  have hS : va_S (fun q => zM z0 mc lf dg q ∨ s.heap.size ≤ q) s.heap s.heap [] := va_S.rf
  have hA : ∀ q : Nat, s.heap.size ≤ q → (fun q => zM z0 mc lf dg q ∨ s.heap.size ≤ q) q := fun q h => Or.inr h
  have hl : lv_has ls 2 [(0, .ref z0), (1, .int t)] := hl
  obtain ⟨hz, hfl, -⟩ := id hM
  refine lv_aload_n hx hb dX4_refuses_0 rfl (lv_at hl 0 rfl) ?_
  refine lv_iload_n hx hb dX4_refuses_1 rfl (lv_at hl 1 rfl) ?_
  refine w_putf (ci := 5) (C := RX4) (T := TX4) (N := 10) (ty := .int) hx hb hts (by decide +kernel) tyX4 tyX4_ok nmX4 hown hK hS hz (Or.inl (Or.inl rfl)) rfl 0 (by decide) (hts (.fieldLink RX4 27 "RadixbenchModel" "thrown" "I") (by decide +kernel)) (fun _ h9 => h9) rfl (by decide +kernel) rfl rfl (by rw [hfl]; decide) dX4_refuses_2 (fun H1 locs hz1 hs1 ho1 hS => ?_)
  refine lv_iconst (v := nI 0) hx hb dX4_refuses_5 (by decide) ?_
  exact rt_ni (mu := zM z0 mc lf dg) C0 rfl ⟨_, _, _, ⟨rfl, rfl, rfl⟩, hM.fset (by decide) (by decide) (by decide) ho1 hz1⟩ hS rfl dX4_refuses_6
end M25

-- the model's two kept rows: plain, divide, times
section RG
variable {p : Program} {l : Launch} {e : Env} {R : Room} {s : State} {m : MethodId} {args : Array Value} {below : List Frame} {meth : Method} {c : Code} {H H0 : Heap} {locs : List Loc} {cells slots : Nat} {Q : State → Prop}
variable {cc : ByteArray} {pc : Nat} {ls : Array Slot} {rest : List Value} {A : Nat → Prop} {a : Nat} {g : Gx}
theorem r_get (hx : p.tables.exec = Jvm.exec) (hb : c.code = cc) {own ref C : String} {T : u_T} {N ci index : Nat} {Ts : List Cond} (hts : ∀ w ∈ Ts, w.before args s = true) (hin : ∀ w ∈ u_ws C T N, w ∈ Ts) (hown : s.vm.findClass own = some m.cls) (hK : KK g s) (hS : va_S A H0 H locs) {fs : List Value} (ha : va_at g.1 vwCl (a, .inr (ci, fs)) H0) (hA : ¬ A a) (hc : vwCl[ci]? = some (C, T, N)) (k : Nat) (hk : k < N) (hlink : (Cond.fieldLink own index ref (T k).2.1 (T k).2.2.1).before args s = true) (hsame : ∀ x, s.fieldFound? (T k).1 (T k).2.1 (T k).2.2.1 = some x → s.fieldFound? ref (T k).2.1 (T k).2.2.1 = some x) {v : Value} (hv : fs[k]? = some v) (hdg : decode cc pc = .ok (.getfield index, 3))
    (kk : W p l e R s m args below meth c H locs cells slots Q (F0 m (pc + 3) ls (v :: rest))) : W p l e R s m args below meth c H locs cells slots Q (F0 m pc ls (.ref a :: rest)) :=
  va_get hx hb hts hin hown hK.1 (p1 (ha.kept (hS.2.1 a ha.lt hA))) 0 rfl hc k hk hlink hsame hv hdg kk
end RG
/-- the row's first many places hold x -/
def lowR (f : Nat → Int32) (many x : Nat) : Prop := x < 65536 ^ many ∧ ∀ k, k < many → f k = rw16 x k
/-- the kept row behind a call, with P of its contents -/
def lfQ (g : Gx) (lf : Nat) (P : Option Value → (Nat → Int32) → Prop) : Option Value → Heap → Prop := fun r H1 => ∃ f : Nat → Int32, P r f ∧ va_at g.1 vwCl (lf, .inl (g.2 0, 4, .inl f)) H1
theorem div_dig {x r j : Nat} (hr : 0 < r) : (x / 65536 ^ (j + 1) % r * 65536 + x / 65536 ^ j % 65536) / r = x / r / 65536 ^ j % 65536 ∧ (x / 65536 ^ (j + 1) % r * 65536 + x / 65536 ^ j % 65536) % r = x / 65536 ^ j % r := by
  obtain ⟨X, d, e1, e2, hd⟩ : ∃ X d, x / 65536 ^ (j + 1) = X ∧ x / 65536 ^ j % 65536 = d ∧ d < 65536 := ⟨_, _, rfl, rfl, Nat.mod_lt _ (by decide)⟩
  have e3 : x / 65536 ^ j = X * 65536 + d := by
    rw [← e1, ← e2, Nat.pow_succ, ← Nat.div_div_eq_div_mul]
    omega
  obtain ⟨q, t, e4, e5, ht⟩ : ∃ q t, X / r = q ∧ X % r = t ∧ t < r := ⟨_, _, rfl, rfl, Nat.mod_lt _ hr⟩
  have e6 : X = r * q + t := by
    have := Nat.div_add_mod X r
    rw [e4, e5] at this
    exact this.symm
  have e7 : x / 65536 ^ j = r * (q * 65536) + (t * 65536 + d) := by
    rw [e3, e6, Nat.add_mul, Nat.mul_assoc]
    omega
  have e8 : (t * 65536 + d) / r < 65536 := Nat.div_lt_of_lt_mul (by
    have h1 : (t + 1) * 65536 ≤ r * 65536 := Nat.mul_le_mul_right _ ht
    omega)
  rw [e1, e2, e5]
  constructor
  · rw [Nat.div_div_eq_div_mul, Nat.mul_comm r, ← Nat.div_div_eq_div_mul, e7, Nat.mul_add_div hr]
    generalize (t * 65536 + d) / r = w9 at e8 ⊢
    omega
  · rw [e7, Nat.mul_add_mod]
theorem rw_ext {x d j : Nat} (hx : x < 65536 ^ j) (hd : d < 65536) : x + d * 65536 ^ j < 65536 ^ (j + 1) ∧ (∀ k, k < j → rw16 (x + d * 65536 ^ j) k = rw16 x k) ∧ rw16 (x + d * 65536 ^ j) j = nI d := by
  have hB : 0 < 65536 ^ j := Nat.pow_pos (by decide)
  refine ⟨?_, fun k hk => ?_, ?_⟩
  · have h1 : (d + 1) * 65536 ^ j ≤ 65536 * 65536 ^ j := Nat.mul_le_mul_right _ hd
    rw [Nat.add_mul, Nat.one_mul] at h1
    rw [Nat.pow_succ, Nat.mul_comm (65536 ^ j)]
    omega
  · unfold rw16
    refine congrArg nI ?_
    rw [show d * 65536 ^ j = (65536 * (d * 65536 ^ (j - k - 1))) * 65536 ^ k by
      rw [show 65536 ^ j = 65536 * 65536 ^ (j - k - 1) * 65536 ^ k by rw [← Nat.pow_succ', ← Nat.pow_add]; congr 1; omega]
      simp only [Nat.mul_assoc, Nat.mul_left_comm, Nat.mul_comm], Nat.add_mul_div_right _ _ (Nat.pow_pos (by decide))]
    omega
  · unfold rw16
    rw [Nat.add_mul_div_right _ _ hB, Nat.div_eq_of_lt hx, Nat.zero_add, Nat.mod_eq_of_lt hd]
section M19
variable {p : Program} {l : Launch} {e : Env} {s : State} {m : MethodId} {args : Array Value} {below : List Frame} {meth : Method} {c : Code} {H H0 : Heap} {locs : List Loc} {cells slots : Nat} {Q : State → Prop} {A : Nat → Prop} {g : Gx}
abbrev rmX4_divide_ : Room := { frames := 0, cells := 0, slots := 0, locals := 0 }
set_option maxHeartbeats 4000000 in
set_option maxRecDepth 100000 in
theorem L_mdivide (C0 : Cx p s m args meth c RX4 cX4_divide_ 6 (some .int) wsX4_divide_) (hK : KK g s) {z0 lf k9 r9 y : Nat} {fs : List Value} (hz : va_at g.1 vwCl (z0, .inr (5, fs)) H0) (hlf : fs[8]? = some (.ref lf)) (hne : ¬ z0 = lf) (hk9 : k9 ≤ 4) (hr9 : 2 ≤ r9 ∧ r9 ≤ 36) (K : ∀ (x : Int32) (f : Nat → Int32) (hf : ∀ k, k < k9 → f k = rw16 (y / r9) k) (ls : Array Slot) (H : Heap) (locs : List Loc), va_P g.1 vwCl [(lf, .inl (g.2 0, 4, .inl f))] H → va_D (fun q => q = lf ∨ H0.size ≤ q) [(lf, .inl (g.2 0, 4, .inl f))] → va_S (fun q => q = lf ∨ H0.size ≤ q) H0 H locs → lv_has ls 6 [(4, .int x), (3, .int (nI (y % r9))), (0, .ref z0), (1, .int (nI k9)), (2, .int (nI r9))] → W p l e rmX4_divide_ s m args below meth c H locs 0 0 Q (F0 m 48 ls [])) : ∀ (n : Nat) (p9 : Nat) (x : Int32) (f : Nat → Int32), x = nI p9 - nI 1 → p9 ≤ k9 → (∀ k, k < p9 → f k = rw16 y k) → (∀ k, p9 ≤ k → k < k9 → f k = rw16 (y / r9) k) → p9 < n → ∀ (ls : Array Slot) (H : Heap) (locs : List Loc), va_P g.1 vwCl [(lf, .inl (g.2 0, 4, .inl f))] H → va_D (fun q => q = lf ∨ H0.size ≤ q) [(lf, .inl (g.2 0, 4, .inl f))] → va_S (fun q => q = lf ∨ H0.size ≤ q) H0 H locs → lv_has ls 6 [(4, .int x), (3, .int (nI (y / 65536 ^ p9 % r9))), (0, .ref z0), (1, .int (nI k9)), (2, .int (nI r9))] → W p l e rmX4_divide_ s m args below meth c H locs 0 0 Q (F0 m 7 ls []) := by
  obtain ⟨hx, hb, hr, hml, hown, hts, hlk⟩ := id C0
  have hA : ∀ q : Nat, H0.size ≤ q → (fun q => q = lf ∨ H0.size ≤ q) q := fun _ h => Or.inr h
  intro n
  induction n with
  | zero => intro p9 x f _ _ _ _ h; exact absurd h (Nat.not_lt_zero _)
  | succ n ih =>
    intro p9 x f ex hp9 hlow hup hn ls H locs hP hD hS hl
    refine lv_iload hx hb dX4_divide__7 (lv_at hl 0 rfl) ?_
    refine lv_if_lt (tgt := 48) hx hb dX4_divide__9 (by decide) (fun h1 => ?_) (fun h1 => ?_)
    · skip
      cases p9 with
      | zero =>
        rw [Nat.pow_zero, Nat.div_one] at hl
        exact K x f (fun k hk => hup k (Nat.zero_le k) hk) ls H locs hP hD hS hl
      | succ j =>
        rw [ex, pk_sub (Nat.le_add_left 1 j), Nat.add_sub_cancel] at h1
        exact absurd h1 (nI_pos (by omega))
    · skip
      cases p9 with
      | zero => exact absurd (by rw [ex]; decide) h1
      | succ j =>
        obtain rfl : x = nI j := by rw [ex, pk_sub (Nat.le_add_left 1 j), Nat.add_sub_cancel]
        have hdd := div_dig (x := y) (j := j) (show 0 < r9 by omega)
        have hl9 := rw16_lt y j
        have hm9 : y / 65536 ^ (j + 1) % r9 < r9 := Nat.mod_lt _ (by omega)
        have hq9 : y / r9 / 65536 ^ j % 65536 < 65536 := Nat.mod_lt _ (by decide)
        refine lv_iload_n hx hb dX4_divide__12 rfl (lv_at hl 1 rfl) ?_
        refine lv_ldc (v := nI 65536) hx hb hown (hts (.constant RX4 52 (65536)) (by decide +kernel)) dX4_divide__13 ?_
        refine lv_imul hx hb dX4_divide__15 ?_
        refine tp_i (y := nI ((y / 65536 ^ (j + 1) % r9) * 65536)) (pk_mul _ _) ?_
        refine lv_aload_n hx hb dX4_divide__16 rfl (lv_at hl 2 rfl) ?_
        refine r_get (ci := 5) (C := RX4) (T := TX4) (N := 10) (v := .ref lf) hx hb hts (by decide +kernel) hown hK hS hz (nA' hz hne) rfl 8 (by decide) (hts (.fieldLink RX4 24 "RadixbenchModel" "left" "[I") (by decide +kernel)) (fun _ h9 => h9) hlf dX4_divide__17 ?_
        refine lv_iload hx hb dX4_divide__20 (lv_at hl 0 rfl) ?_
        refine w_iald (j := j) hx hb hK hP 0 rfl (by omega) (by omega) dX4_divide__22 ?_
        refine tp_i (y := nI (y / 65536 ^ j % 65536)) (hlow j (Nat.lt_succ_self j)) ?_
        refine lv_iadd hx hb dX4_divide__23 ?_
        refine tp_i (y := nI (((y / 65536 ^ (j + 1) % r9) * 65536) + (y / 65536 ^ j % 65536))) (nI_add _ _) ?_
        refine lv_istore (lv' := [(5, .int (nI (((y / 65536 ^ (j + 1) % r9) * 65536) + (y / 65536 ^ j % 65536)))), (4, .int (nI j)), (3, .int (nI (y / 65536 ^ (j + 1) % r9))), (0, .ref z0), (1, .int (nI k9)), (2, .int (nI r9))]) hx hb dX4_divide__24 hl (by decide) rfl (fun ls hl => ?_)
        refine lv_aload_n hx hb dX4_divide__26 rfl (lv_at hl 3 rfl) ?_
        refine r_get (ci := 5) (C := RX4) (T := TX4) (N := 10) (v := .ref lf) hx hb hts (by decide +kernel) hown hK hS hz (nA' hz hne) rfl 8 (by decide) (hts (.fieldLink RX4 24 "RadixbenchModel" "left" "[I") (by decide +kernel)) (fun _ h9 => h9) hlf dX4_divide__27 ?_
        refine lv_iload hx hb dX4_divide__30 (lv_at hl 1 rfl) ?_
        refine lv_iload hx hb dX4_divide__32 (lv_at hl 0 rfl) ?_
        refine lv_iload_n hx hb dX4_divide__34 rfl (lv_at hl 5 rfl) ?_
        refine lv_idiv hx hb dX4_divide__35 (nI_ne0 (by omega) (by omega)) ?_
        refine tp_i (y := nI (y / r9 / 65536 ^ j % 65536)) ((pk_div (by omega) (by omega) (by omega)).trans (congrArg nI hdd.1)) ?_
        refine w_iast (j := j) hx hb hK hP hD hS 0 rfl (by omega) (by omega) dX4_divide__36 (fun H locs hP hD hS => ?_)
        have hP : va_P g.1 vwCl [(lf, .inl (g.2 0, 4, .inl (upd f j (nI (y / r9 / 65536 ^ j % 65536)))))] H := hP
        have hD : va_D _ [(lf, .inl (g.2 0, 4, .inl (upd f j (nI (y / r9 / 65536 ^ j % 65536)))))] := hD
        refine lv_iload hx hb dX4_divide__37 (lv_at hl 0 rfl) ?_
        refine lv_iload_n hx hb dX4_divide__39 rfl (lv_at hl 5 rfl) ?_
        refine lv_irem hx hb dX4_divide__40 (nI_ne0 (by omega) (by omega)) ?_
        refine tp_i (y := nI (y / 65536 ^ j % r9)) ((pk_rem (by omega) (by omega) (by omega)).trans (congrArg nI hdd.2)) ?_
        refine lv_istore_n (lv' := [(3, .int (nI (y / 65536 ^ j % r9))), (5, .int (nI (((y / 65536 ^ (j + 1) % r9) * 65536) + (y / 65536 ^ j % 65536)))), (4, .int (nI j)), (0, .ref z0), (1, .int (nI k9)), (2, .int (nI r9))]) hx hb dX4_divide__41 rfl hl (by decide) rfl (fun ls hl => ?_)
        refine lv_iinc (v := nI j - nI 1) (lv' := [(4, .int (nI j - nI 1)), (3, .int (nI (y / 65536 ^ j % r9))), (5, .int (nI (((y / 65536 ^ (j + 1) % r9) * 65536) + (y / 65536 ^ j % 65536)))), (0, .ref z0), (1, .int (nI k9)), (2, .int (nI r9))]) hx hb dX4_divide__42 hl (k := 2) rfl ((by rw [show nI j - nI 1 = nI j + -nI 1 from Int32.sub_eq_add_neg _ _]; rfl)) (by decide) rfl (fun ls hl => ?_)
        refine lv_goto (tgt := 7) hx hb dX4_divide__45 (by decide) ?_
        refine ih j _ _ rfl (by omega) (fun k hk => (pk_un (by omega)).trans (hlow k (by omega))) (fun k h9 hk => ?_) (by omega) ls H locs hP hD hS (lv_sub hl [0, 1, 3, 4, 5] rfl)
        by_cases ek : k = j
        · subst ek
          exact pk_us
        · exact (pk_un ek).trans (hup k (by omega) hk)
set_option maxHeartbeats 4000000 in
set_option maxRecDepth 100000 in
/-- divide(many, radix) -/
theorem c_mdivide (l : Launch) (g : Gx) (H0 : Heap) (z0 lf k9 r9 y : Nat) (f : Nat → Int32) (fs : List Value) (hz : va_at g.1 vwCl (z0, .inr (5, fs)) H0) (hlf : fs[8]? = some (.ref lf)) (hne : ¬ z0 = lf) (hf : va_at g.1 vwCl (lf, .inl (g.2 0, 4, .inl f)) H0) (hk9 : k9 ≤ 4) (hr9 : 2 ≤ r9 ∧ r9 ≤ 36) (hy : lowR f k9 y) : Met l yX4_divide_ wsX4_divide_ rmX4_divide_ (va_Pc [.ref z0, .int (nI k9), .int (nI r9)] (hB g H0)) (nQ H0 (fun q => q = lf) (lfQ g lf (fun r f => r = some (.int (nI (y % r9))) ∧ lowR f k9 (y / r9)))) 0 0 (fun q => q = lf ∨ H0.size ≤ q) := by
  refine cx_met (own := RX4) (cc := cX4_divide_) (maxL := 6) (by decide) rfl rfl (Nat.le_of_ble_eq_true rfl) ?_
  intro p e s m below meth c ls C0 hB0 hnm hl
  obtain ⟨hH, hK⟩ := hB0
  obtain ⟨hx, hb, hr, hml, hown, hts, hlk⟩ := id C0
  subst hH
  have hS : va_S (fun q => q = lf ∨ s.heap.size ≤ q) s.heap s.heap [] := va_S.rf
  have hA : ∀ q : Nat, s.heap.size ≤ q → (fun q => q = lf ∨ s.heap.size ≤ q) q := fun q h => Or.inr h
  have hl : lv_has ls 6 [(0, .ref z0), (1, .int (nI k9)), (2, .int (nI r9))] := hl
  refine lv_iconst (v := nI 0) hx hb dX4_divide__0 (by decide) ?_
  refine lv_istore_n (lv' := [(3, .int (nI 0)), (0, .ref z0), (1, .int (nI k9)), (2, .int (nI r9))]) hx hb dX4_divide__1 rfl hl (by decide) rfl (fun ls hl => ?_)
  refine lv_iload_n hx hb dX4_divide__2 rfl (lv_at hl 2 rfl) ?_
  refine lv_iconst (v := nI 1) hx hb dX4_divide__3 (by decide) ?_
  refine lv_isub hx hb dX4_divide__4 ?_
  refine tp_i (y := nI k9 - nI 1) (rfl) ?_
  refine lv_istore (lv' := [(4, .int (nI k9 - nI 1)), (3, .int (nI 0)), (0, .ref z0), (1, .int (nI k9)), (2, .int (nI r9))]) hx hb dX4_divide__5 hl (by decide) rfl (fun ls hl => ?_)
  refine L_mdivide C0 hK hz hlf hne hk9 hr9 (fun x f2 hf2 ls H locs hP hD hS hl => ?_) (k9 + 1) k9 _ f rfl (Nat.le_refl _) hy.2 (fun k h1 h2 => absurd h2 (Nat.not_lt.mpr h1)) (by omega) ls s.heap [] (p1 hf) (d1 (Or.inl rfl)) hS (by rw [Nat.div_eq_of_lt hy.1, Nat.zero_mod]; exact hl)
  refine lv_iload_n hx hb dX4_divide__48 rfl (lv_at hl 1 rfl) ?_
  exact rt_ni (mu := fun q => q = lf) C0 rfl ⟨f2, ⟨rfl, Nat.lt_of_le_of_lt (Nat.div_le_self _ _) hy.1, hf2⟩, hP 0 _ rfl⟩ hS rfl dX4_divide__49
abbrev rmX4_times : Room := { frames := 0, cells := 0, slots := 0, locals := 0 }
set_option maxHeartbeats 4000000 in
set_option maxRecDepth 100000 in
theorem L_times (C0 : Cx p s m args meth c RX4 cX4_times 7 (some .int) wsX4_times) (hK : KK g s) {z0 lf k9 r9 : Nat} {x3 : Int32} {fs : List Value} (hz : va_at g.1 vwCl (z0, .inr (5, fs)) H0) (hlf : fs[8]? = some (.ref lf)) (hne : ¬ z0 = lf) (hk9 : k9 ≤ 4) (K : ∀ (x : Int32) (f : Nat → Int32) (ls : Array Slot) (H : Heap) (locs : List Loc), va_P g.1 vwCl [(lf, .inl (g.2 0, 4, .inl f))] H → va_D (fun q => q = lf ∨ H0.size ≤ q) [(lf, .inl (g.2 0, 4, .inl f))] → va_S (fun q => q = lf ∨ H0.size ≤ q) H0 H locs → lv_has ls 7 [(5, .int (nI k9)), (4, .int x), (0, .ref z0), (1, .int (nI k9)), (2, .int (nI r9)), (3, .int x3)] → W p l e rmX4_times s m args below meth c H locs 0 0 Q (F0 m 51 ls [])) : ∀ (n : Nat) (j : Nat) (x : Int32) (f : Nat → Int32), j ≤ k9 → k9 - j < n → ∀ (ls : Array Slot) (H : Heap) (locs : List Loc), va_P g.1 vwCl [(lf, .inl (g.2 0, 4, .inl f))] H → va_D (fun q => q = lf ∨ H0.size ≤ q) [(lf, .inl (g.2 0, 4, .inl f))] → va_S (fun q => q = lf ∨ H0.size ≤ q) H0 H locs → lv_has ls 7 [(5, .int (nI j)), (4, .int x), (0, .ref z0), (1, .int (nI k9)), (2, .int (nI r9)), (3, .int x3)] → W p l e rmX4_times s m args below meth c H locs 0 0 Q (F0 m 6 ls []) := by
  obtain ⟨hx, hb, hr, hml, hown, hts, hlk⟩ := id C0
  have hA : ∀ q : Nat, H0.size ≤ q → (fun q => q = lf ∨ H0.size ≤ q) q := fun _ h => Or.inr h
  intro n
  induction n with
  | zero => intro j x f _ h; exact absurd h (Nat.not_lt_zero _)
  | succ n ih =>
    intro j x f hj hn ls H locs hP hD hS hl
    refine lv_iload hx hb dX4_times_6 (lv_at hl 0 rfl) ?_
    refine lv_iload_n hx hb dX4_times_8 rfl (lv_at hl 3 rfl) ?_
    refine lv_icmp_ge (tgt := 51) hx hb dX4_times_9 (by decide) (fun h1 => ?_) (fun h1 => ?_)
    · skip
      have hge : k9 ≤ j := by
        rcases Nat.lt_or_ge j k9 with h | h
        · exact absurd h1 (nI_ge h (by omega))
        · exact h
      obtain rfl : j = k9 := by omega
      exact K x f ls H locs hP hD hS hl
    · skip
      have hlt : j < k9 := by
        rcases Nat.lt_or_ge j k9 with h | h
        · exact h
        · exact absurd (nI_le h (by omega)) h1
      refine lv_aload_n hx hb dX4_times_12 rfl (lv_at hl 2 rfl) ?_
      refine r_get (ci := 5) (C := RX4) (T := TX4) (N := 10) (v := .ref lf) hx hb hts (by decide +kernel) hown hK hS hz (nA' hz hne) rfl 8 (by decide) (hts (.fieldLink RX4 24 "RadixbenchModel" "left" "[I") (by decide +kernel)) (fun _ h9 => h9) hlf dX4_times_13 ?_
      refine lv_iload hx hb dX4_times_16 (lv_at hl 0 rfl) ?_
      refine w_iald (j := j) hx hb hK hP 0 rfl (by omega) (by omega) dX4_times_18 ?_
      refine lv_iload_n hx hb dX4_times_19 rfl (lv_at hl 4 rfl) ?_
      refine lv_imul hx hb dX4_times_20 ?_
      refine lv_iload hx hb dX4_times_21 (lv_at hl 1 rfl) ?_
      refine lv_iadd hx hb dX4_times_23 ?_
      refine lv_istore (lv' := [(6, .int (((f j) * (nI r9)) + x)), (5, .int (nI j)), (4, .int x), (0, .ref z0), (1, .int (nI k9)), (2, .int (nI r9)), (3, .int x3)]) hx hb dX4_times_24 hl (by decide) rfl (fun ls hl => ?_)
      refine lv_aload_n hx hb dX4_times_26 rfl (lv_at hl 3 rfl) ?_
      refine r_get (ci := 5) (C := RX4) (T := TX4) (N := 10) (v := .ref lf) hx hb hts (by decide +kernel) hown hK hS hz (nA' hz hne) rfl 8 (by decide) (hts (.fieldLink RX4 24 "RadixbenchModel" "left" "[I") (by decide +kernel)) (fun _ h9 => h9) hlf dX4_times_27 ?_
      refine lv_iload hx hb dX4_times_30 (lv_at hl 1 rfl) ?_
      refine lv_iload hx hb dX4_times_32 (lv_at hl 0 rfl) ?_
      refine lv_ldc (v := nI 65536) hx hb hown (hts (.constant RX4 52 (65536)) (by decide +kernel)) dX4_times_34 ?_
      refine lv_irem hx hb dX4_times_36 (by decide) ?_
      refine w_iast (j := j) hx hb hK hP hD hS 0 rfl (by omega) (by omega) dX4_times_37 (fun H locs hP hD hS => ?_)
      have hP : va_P g.1 vwCl [(lf, .inl (g.2 0, 4, .inl (upd f j ((((f j) * (nI r9)) + x) - (((f j) * (nI r9)) + x) / (nI 65536) * (nI 65536)))))] H := hP
      have hD : va_D _ [(lf, .inl (g.2 0, 4, .inl (upd f j ((((f j) * (nI r9)) + x) - (((f j) * (nI r9)) + x) / (nI 65536) * (nI 65536)))))] := hD
      refine lv_iload hx hb dX4_times_38 (lv_at hl 0 rfl) ?_
      refine lv_ldc (v := nI 65536) hx hb hown (hts (.constant RX4 52 (65536)) (by decide +kernel)) dX4_times_40 ?_
      refine lv_idiv hx hb dX4_times_42 (by decide) ?_
      refine lv_istore (lv' := [(4, .int ((((f j) * (nI r9)) + x) / (nI 65536))), (6, .int (((f j) * (nI r9)) + x)), (5, .int (nI j)), (0, .ref z0), (1, .int (nI k9)), (2, .int (nI r9)), (3, .int x3)]) hx hb dX4_times_43 hl (by decide) rfl (fun ls hl => ?_)
      refine lv_iinc (v := nI (j + 1)) (lv' := [(5, .int (nI (j + 1))), (4, .int ((((f j) * (nI r9)) + x) / (nI 65536))), (6, .int (((f j) * (nI r9)) + x)), (0, .ref z0), (1, .int (nI k9)), (2, .int (nI r9)), (3, .int x3)]) hx hb dX4_times_45 hl (k := 2) rfl (nI_1 _) (by decide) rfl (fun ls hl => ?_)
      refine lv_goto (tgt := 6) hx hb dX4_times_48 (by decide) ?_
      exact ih (j + 1) _ _ hlt (by omega) ls H locs hP hD hS (lv_sub hl [0, 1, 3, 4, 5, 6] rfl)
set_option maxHeartbeats 4000000 in
set_option maxRecDepth 100000 in
/-- times(many, radix, more): that it ends -/
theorem c_times (l : Launch) (g : Gx) (H0 : Heap) (z0 lf k9 r9 : Nat) (x3 : Int32) (f : Nat → Int32) (fs : List Value) (hz : va_at g.1 vwCl (z0, .inr (5, fs)) H0) (hlf : fs[8]? = some (.ref lf)) (hne : ¬ z0 = lf) (hf : va_at g.1 vwCl (lf, .inl (g.2 0, 4, .inl f)) H0) (hk9 : k9 ≤ 4) : Met l yX4_times wsX4_times rmX4_times (va_Pc [.ref z0, .int (nI k9), .int (nI r9), .int x3] (hB g H0)) (nQ H0 (fun q => q = lf) (lfQ g lf (fun r f => ∃ y : Int32, r = some (.int y)))) 0 0 (fun q => q = lf ∨ H0.size ≤ q) := by
  refine cx_met (own := RX4) (cc := cX4_times) (maxL := 7) (by decide) rfl rfl (Nat.le_of_ble_eq_true rfl) ?_
  intro p e s m below meth c ls C0 hB0 hnm hl
  obtain ⟨hH, hK⟩ := hB0
  obtain ⟨hx, hb, hr, hml, hown, hts, hlk⟩ := id C0
  subst hH
  have hS : va_S (fun q => q = lf ∨ s.heap.size ≤ q) s.heap s.heap [] := va_S.rf
  have hA : ∀ q : Nat, s.heap.size ≤ q → (fun q => q = lf ∨ s.heap.size ≤ q) q := fun q h => Or.inr h
  have hl : lv_has ls 7 [(0, .ref z0), (1, .int (nI k9)), (2, .int (nI r9)), (3, .int x3)] := hl
  refine lv_iload_n hx hb dX4_times_0 rfl (lv_at hl 3 rfl) ?_
  refine lv_istore (lv' := [(4, .int x3), (0, .ref z0), (1, .int (nI k9)), (2, .int (nI r9)), (3, .int x3)]) hx hb dX4_times_1 hl (by decide) rfl (fun ls hl => ?_)
  refine lv_iconst (v := nI 0) hx hb dX4_times_3 (by decide) ?_
  refine lv_istore (lv' := [(5, .int (nI 0)), (4, .int x3), (0, .ref z0), (1, .int (nI k9)), (2, .int (nI r9)), (3, .int x3)]) hx hb dX4_times_4 hl (by decide) rfl (fun ls hl => ?_)
  refine L_times C0 hK hz hlf hne hk9 (fun x f2 ls H locs hP hD hS hl => ?_) (k9 + 1) 0 _ f (Nat.zero_le _) (by omega) ls s.heap [] (p1 hf) (d1 (Or.inl rfl)) hS hl
  refine lv_iload hx hb dX4_times_51 (lv_at hl 1 rfl) ?_
  exact rt_ni (mu := fun q => q = lf) C0 rfl ⟨f2, ⟨x, rfl⟩, hP 0 _ rfl⟩ hS rfl dX4_times_53
end M19

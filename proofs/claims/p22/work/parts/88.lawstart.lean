-- THE LAW'S START: the classes' numbers, what nobody writes, what is thrown; the three things made
/-- an array class of the tables -/
theorem ac_of {args : Array Value} {s : State} {ty : FieldType} (hp : ∀ C : String, ty ≠ .object C) (h : (Cond.arrayClass ty).before args s = true) : ∃ c : ClassId, ArrOfT s c ty ∧ va_RA s c ty := by
  obtain ⟨c, k, comp, h1, h2, h3⟩ := Cond.arrayClass_spec h
  refine ⟨c, fun n z => ⟨fun k h => (by cases h), k, h2, comp, h3⟩, ?_⟩
  cases ty with
  | object C => exact absurd rfl (hp C)
  | _ => exact h1
theorem ao_of {args : Array Value} {s : State} (h : (Cond.arrayOver (.array .int)).before args s = true) : ∃ c : ClassId, ArrOfT s c (.array .int) ∧ va_RA s c (.array .int) := by
  obtain ⟨comp, c, k, h1, h2, h3, h4, h5⟩ := arrayOverA_spec h
  exact ⟨c, fun n z => ⟨fun k h => (by cases h), k, h3, comp, h4⟩, h5⟩
theorem kk_of {args : Array Value} {s : State} (hts : ∀ w ∈ lw_tbl, w.before args s = true) : ∃ g : Gx, KK g s ∧ g.2 5 = g.2 4 ∧ g.2 6 = g.2 4 ∧ g.2 7 = g.2 4 := by
  obtain ⟨c0, i0, h0⟩ := u_known (C := RJ0) (T := TJ0) (N := 4) (n := 4) hts (by decide +kernel) (hts (.instantiable RJ0 4) (by decide +kernel))
  obtain ⟨c1, i1, h1⟩ := u_known (C := RJ4) (T := TJ4) (N := 4) (n := 4) hts (by decide +kernel) (hts (.instantiable RJ4 4) (by decide +kernel))
  obtain ⟨c2, i2, h2⟩ := u_known (C := RX0) (T := TX0) (N := 2) (n := 2) hts (by decide +kernel) (hts (.instantiable RX0 2) (by decide +kernel))
  obtain ⟨c3, i3, h3⟩ := u_known (C := RX2) (T := TX2) (N := 7) (n := 7) hts (by decide +kernel) (hts (.instantiable RX2 7) (by decide +kernel))
  obtain ⟨c4, i4, h4⟩ := u_known (C := RX3) (T := TX3) (N := 2) (n := 2) hts (by decide +kernel) (hts (.instantiable RX3 2) (by decide +kernel))
  obtain ⟨c5, i5, h5⟩ := u_known (C := RX4) (T := TX4) (N := 10) (n := 10) hts (by decide +kernel) (hts (.instantiable RX4 10) (by decide +kernel))
  obtain ⟨a0, q0, r0⟩ := ac_of (ty := .int) (fun C h => by cases h) (hts (.arrayClass .int) (by decide +kernel))
  have hao := hts (.arrayOver (.array .int)) (by decide +kernel)
  obtain ⟨a1, q1, r1⟩ := ao_of hao
  obtain ⟨a2, q2, r2⟩ := ac_of (ty := .long) (fun C h => by cases h) (hts (.arrayClass .long) (by decide +kernel))
  obtain ⟨a3, q3, r3⟩ := ac_of (ty := .char) (fun C h => by cases h) (hts (.arrayClass .char) (by decide +kernel))
  obtain ⟨a4, q4, r4⟩ := ac_of (ty := .byte) (fun C h => by cases h) (hts (.arrayClass .byte) (by decide +kernel))
  refine ⟨((fun k => ([c0, c1, c2, c3, c4, c5] : List ClassId).getD k c0, fun k => ([i0, i1, i2, i3, i4, i5] : List (Nat → Nat)).getD k i0), fun k => ([a0, a1, a2, a3] : List ClassId).getD k a4), ⟨⟨?_, ?_⟩, arrayOver_alikeB (Vm.Alike.refl s.vm) hao⟩, rfl, rfl, rfl⟩
  · intro k q hq
    match k, hq with
    | 0, hq => cases hq; exact h0
    | 1, hq => cases hq; exact h1
    | 2, hq => cases hq; exact h2
    | 3, hq => cases hq; exact h3
    | 4, hq => cases hq; exact h4
    | 5, hq => cases hq; exact h5
    | k + 6, hq => simp [vwCl] at hq
  · intro k q hq
    match k, hq with
    | 0, hq => cases hq; exact ⟨q0, r0⟩
    | 1, hq => cases hq; exact ⟨q1, r1⟩
    | 2, hq => cases hq; exact ⟨q2, r2⟩
    | 3, hq => cases hq; exact ⟨q3, r3⟩
    | 4, hq => cases hq; exact ⟨q4, r4⟩
    | k + 5, hq => simp [gT] at hq
/-- a constant text -/
theorem st_of {g : Gx} {args : Array Value} {s : State} (hK : KK g s) {tm : Term} {n : Nat} {f : Nat → Nat} (hn : n < 2 ^ 31) (hex : (Cond.exactly tm cS).before args s = true) (hco : (Cond.eq (.field tm cS "coder" "B") (.int 0)).before args s = true) (har : (Cond.arrayOf (.field tm cS "value" "[B") .byte).before args s = true) (hle : (Cond.eq (.length (.field tm cS "value" "[B")) (.int (Int32.ofNat n))).before args s = true)
    (hel : ∀ j : Nat, j < n → (Cond.eq (.elem (.field tm cS "value" "[B") (.int (Int32.ofNat j))) (.int (nI (f j)))).before args s = true) (hxb : (Cond.exactly (.field tm cS "value" "[B") "[B").before args s = true) :
    ∃ a b : Nat, tm.eval args s none [] s = some (.ref a) ∧ a < s.heap.size ∧ b < s.heap.size ∧ sS g a b n f s.heap := by
  have hA : ∀ a : Nat, a < s.heap.size → ¬ (fun _ : Nat => False) a := fun _ _ h => h
  obtain ⟨a, c, cA, kA, q1, q2, q3, q4, q5, q6, -⟩ := Cond.exactly_spec hex
  obtain ⟨b, hb, hT⟩ := va_Tof (f := fun j => .int (nI (f j))) (A := fun _ => False) hn har (va_eqt hle) (fun j hj => va_eqt (hel j hj)) hA
  obtain ⟨b', cb, cB, kB, p1, p2, p3, p4, p5, p6, -⟩ := Cond.exactly_spec hxb
  have eb : b' = b := by
    have h := p1.symm.trans hb
    cases h
    rfl
  subst eb
  obtain ⟨cell, t1, t2, t3, t4, t5, t6, -⟩ := hT
  obtain rfl : cell = cB := Option.some.inj (t1.symm.trans p3)
  obtain ⟨cf, kf, fi, ff, cell2, g1, g2, g3, g4, g5, -⟩ := vk_OFof (A := fun _ => False) q1 hb hA
  obtain ⟨cf', kf', fi', ff', cell3, g1', g2', g3', g4', g5', -⟩ := vk_OFof (A := fun _ => False) q1 (va_eqt hco) hA
  obtain rfl : cell2 = cA := Option.some.inj (g3.symm.trans q3)
  obtain rfl : cell3 = cell2 := Option.some.inj (g3'.symm.trans q3)
  obtain ⟨hSl, hfc, -⟩ := hK.1.1 0 _ rfl
  obtain ⟨cx, kx, fx, ffx, x1, x2⟩ := hSl 0 (by decide)
  obtain ⟨cy, ky, fy, ffy, y1, y2⟩ := hSl 1 (by decide)
  have e1 := Option.some.inj (x1.symm.trans g1)
  have e2 := Option.some.inj (y1.symm.trans g1')
  have e1' : ffx = ff := by cases e1; rfl
  have e2' : ffy = ff' := by cases e2; rfl
  have ecls : g.1.1 0 = c := Option.some.inj (hfc.symm.trans q2)
  have hb4 : s.vm.findClass "[B" = some (g.2 4) := va_nm_byte (hK.1.2 4 _ rfl).2
  have ebc : g.2 4 = cb := Option.some.inj (hb4.symm.trans p2)
  refine ⟨a, b', q1, (Array.getElem?_eq_some_iff.mp q3).1, (Array.getElem?_eq_some_iff.mp t1).1, ⟨cell3, q3, q6.trans ecls.symm, q5, g4, ?_, ?_⟩, cell, t1, Or.inl (p6.trans ebc.symm), t2.1, t3, t4, t5, t6⟩
  · rw [← x2, e1']
    exact g5
  · rw [← y2, e2']
    exact g5'
theorem rf_of {args : Array Value} {s : State} {own : String} {k : Nat} {tx : String} (h1 : (Cond.stringRef own k tx).before args s = true) (h2 : (Cond.exactly (.string own k) cS).before args s = true) : ∃ a : Nat, vk_R own k tx a s := by
  obtain ⟨a, c, cA, kA, q1, -⟩ := Cond.exactly_spec h2
  exact ⟨a, vk_R.of h1 q1⟩
set_option maxRecDepth 100000 in
theorem zw_of {g : Gx} {args : Array Value} {s : State} (hK : KK g s) (h5 : g.2 5 = g.2 4) (h6 : g.2 6 = g.2 4) (h7 : g.2 7 = g.2 4) (hts : ∀ w ∈ lw_tbl, w.before args s = true) (hgv : (Jvm.Cond.and given_1 narrow_1).before args s = true) : ZW g s.heap.size s s.heap := by
  have hs := flat_of_before _ hgv
  have hA : ∀ a : Nat, a < s.heap.size → ¬ s.heap.size ≤ a := fun a h1 h2 => absurd h1 (Nat.not_lt.mpr h2)
  have hby : ArrOfT s (g.2 4) .byte := (hK.1.2 4 _ rfl).1
  obtain ⟨a0, b0, e0, l0, m0, s0⟩ := st_of hK (tm := .string RX4 14) (n := 0) (f := fun _ => 0) (by decide) (hs _ (by decide +kernel)) (hs _ (by decide +kernel)) (hs _ (by decide +kernel)) (hs _ (by decide +kernel)) (fun j hj => absurd hj (Nat.not_lt_zero j)) (hs _ (by decide +kernel))
  obtain ⟨a1, b1, e1, l1, m1, s1⟩ := st_of hK (tm := .string RX4 111) (n := 1) (f := fun _ => 45) (by decide) (hs _ (by decide +kernel)) (hs _ (by decide +kernel)) (hs _ (by decide +kernel)) (hs _ (by decide +kernel)) (fun j hj => by
    obtain rfl : j = 0 := by omega
    exact hs _ (by decide +kernel)) (hs _ (by decide +kernel))
  obtain ⟨a2, b2, e2, l2, m2, s2⟩ := st_of hK (tm := .string RJ1 151) (n := 0) (f := fun _ => 0) (by decide) (hs _ (by decide +kernel)) (hs _ (by decide +kernel)) (hs _ (by decide +kernel)) (hs _ (by decide +kernel)) (fun j hj => absurd hj (Nat.not_lt_zero j)) (hs _ (by decide +kernel))
  have r0 : vk_R RX4 14 "" a0 s := vk_R.of (hts _ (by decide +kernel)) e0
  have r1 : vk_R RX4 111 "-" a1 s := vk_R.of (hts _ (by decide +kernel)) e1
  have r2 : vk_R RJ1 151 "" a2 s := vk_R.of (hts _ (by decide +kernel)) e2
  obtain ⟨a3, r3⟩ := rf_of (own := RX2) (k := 41) (tx := "no such sign") (hts _ (by decide +kernel)) (hs _ (by decide +kernel))
  obtain ⟨a4, r4⟩ := rf_of (own := RX2) (k := 52) (tx := "the text is full") (hts _ (by decide +kernel)) (hs _ (by decide +kernel))
  obtain ⟨a5, r5⟩ := rf_of (own := RX2) (k := 67) (tx := "the text is empty") (hts _ (by decide +kernel)) (hs _ (by decide +kernel))
  obtain ⟨a6, r6⟩ := rf_of (own := RX2) (k := 194) (tx := "no such place") (hts _ (by decide +kernel)) (hs _ (by decide +kernel))
  obtain ⟨a7, r7⟩ := rf_of (own := RX2) (k := 239) (tx := "no such cell") (hts _ (by decide +kernel)) (hs _ (by decide +kernel))
  obtain ⟨a8, r8⟩ := rf_of (own := RX2) (k := 241) (tx := "no such radix") (hts _ (by decide +kernel)) (hs _ (by decide +kernel))
  obtain ⟨a9, r9⟩ := rf_of (own := RX2) (k := 243) (tx := "no such choice") (hts _ (by decide +kernel)) (hs _ (by decide +kernel))
  obtain ⟨a10, r10⟩ := rf_of (own := RX2) (k := 245) (tx := "division by 0") (hts _ (by decide +kernel)) (hs _ (by decide +kernel))
  have z1 : va_Z cS "COMPACT_STRINGS" "Z" (.int 1) (fun q => s.heap.size ≤ q) s s.heap := va_Zof (hts (.laysStatic cS "COMPACT_STRINGS" "Z") (by decide +kernel)) (hts (.initialized cS) (by decide +kernel)) (va_eqi (hs (.eq (.static cS "COMPACT_STRINGS" "Z") (.int 1)) (by decide +kernel))) hA
  have z2 : va_Zq RJ3 "SIOOBE_FORMATTER" cF (fun q => s.heap.size ≤ q) s s.heap := va_Zqof (hts (.laysStatic RJ3 "SIOOBE_FORMATTER" cF) (by decide +kernel)) (hts (.initialized RJ3) (by decide +kernel)) (hs (.isRef (.static RJ3 "SIOOBE_FORMATTER" cF)) (by decide +kernel)) hA
  have z3 : vx_Zq Bundle.tN "UNASSIGNED_STACK" Bundle.steD (fun q => s.heap.size ≤ q) s s.heap := vx_Zqof (hts (.laysStatic Bundle.tN "UNASSIGNED_STACK" Bundle.steD) (by decide +kernel)) (hts (.initialized Bundle.tN) (by decide +kernel)) (hs (.isRef (.static Bundle.tN "UNASSIGNED_STACK" Bundle.steD)) (by decide +kernel)) hA
  have z4 : vx_Zq Bundle.tN "SUPPRESSED_SENTINEL" Bundle.listD (fun q => s.heap.size ≤ q) s s.heap := vx_Zqof (hts (.laysStatic Bundle.tN "SUPPRESSED_SENTINEL" Bundle.listD) (by decide +kernel)) (hts (.initialized Bundle.tN) (by decide +kernel)) (hs (.isRef (.static Bundle.tN "SUPPRESSED_SENTINEL" Bundle.listD)) (by decide +kernel)) hA
  have k1 := va_Nw.of (w := .castable "[B" "java/lang/Cloneable") rfl (hts _ (by decide +kernel))
  have k2 := va_Nw.of (w := .castable "[I" "java/lang/Cloneable") rfl (hts _ (by decide +kernel))
  have k3 := va_Nw.of (w := .methodLinkNest RX0 38 yX2_isSigned RX2) rfl (hts _ (by decide +kernel))
  have k4 := va_Nw.of (w := .methodLinkNest RL 111 yX3_init RL) rfl (hts _ (by decide +kernel))
  have k5 := va_Nw.of (w := .fieldLinkNest RL 13 RX3 "n" "J" RL) rfl (hts _ (by decide +kernel))
  have k6 := va_Nw.of (w := .fieldLinkNest RL 100 RX3 "s" "Ljava/lang/String;" RL) rfl (hts _ (by decide +kernel))
  refine ⟨Nat.le_refl _, z1, z2, ⟨z3, z4⟩, ⟨by rw [h5]; exact hby, by rw [h6]; exact hby, by rw [h7]; exact hby⟩, ⟨k1, k2, k3, k4, k5, k6⟩, fun i => ([a0, a1, a2, a3, a4, a5, a6, a7, a8, a9, a10] : List Nat).getD i 0, ?_, ⟨b0, m0, l0, s0⟩, ⟨b1, m1, l1, s1⟩, ⟨b2, m2, l2, s2⟩⟩
  intro i x hx
  match i, hx with
  | 0, hx => cases hx; exact r0
  | 1, hx => cases hx; exact r1
  | 2, hx => cases hx; exact r2
  | 3, hx => cases hx; exact r3
  | 4, hx => cases hx; exact r4
  | 5, hx => cases hx; exact r5
  | 6, hx => cases hx; exact r6
  | 7, hx => cases hx; exact r7
  | 8, hx => cases hx; exact r8
  | 9, hx => cases hx; exact r9
  | 10, hx => cases hx; exact r10
  | i + 11, hx => simp [KT] at hx
set_option maxRecDepth 100000 in
theorem ew_of {args : Array Value} {s : State} (hts : ∀ w ∈ lw_tbl, w.before args s = true) (hgv : (Jvm.Cond.and given_1 narrow_1).before args s = true) : EW s := by
  have hs := flat_of_before _ hgv
  exact ⟨⟨va_Nw.of rfl (hts _ (by decide +kernel)), va_Nw.of rfl (hts _ (by decide +kernel)), va_Nw.of rfl (hts _ (by decide +kernel))⟩, va_Nc.of (hs (.not (.castable nE2 nE1)) (by decide +kernel)), va_Nc.of (hs (.not (.castable nE3 nE1)) (by decide +kernel)), va_Nc.of (hs (.not (.castable nE3 nE2)) (by decide +kernel)), va_Nw.of rfl (hts _ (by decide +kernel)), va_Nw.of rfl (hts _ (by decide +kernel)), va_Nw.of rfl (hts _ (by decide +kernel))⟩
section M88
variable {p : Program} {l : Launch} {e : Env} {R : Room} {s : State} {m : MethodId} {args : Array Value} {below : List Frame} {meth : Method} {c : Code} {H H0 : Heap} {locs : List Loc} {cells slots : Nat} {Q : State → Prop}
variable {Ts ws ws' : List Cond} {cc bytes : ByteArray} {nL maxL index mc ms pc b0 : Nat} {own : String} {y : MethodName} {ret : Option FieldType} {rm : Room} {A : Addr → Prop}
variable {b : Addr} {As rest : List Value} {ls : Array Slot} {lv : List (Nat × Value)} {g : Gx}
/-- a nest mate's private constructor -/
theorem jn_IN {mu : Nat → Prop} {P : Option Value → Heap → Prop} (C0 : Cx p s m args meth c own cc nL ret Ts) (hl : lv_has ls nL lv) (hK : KK g s) (hS : va_S A H0 H locs) (hA : ∀ q, H0.size ≤ q → A q) (hm : ∀ q, mu q → A q) (hZ : ZW g b0 s H) {host : String} (hnl : va_Nw (.methodLinkNest own index y host) s)
    (hM : Met l y ws rm (va_Pc (.ref b :: As) (hJ g b0 H)) (nQ H mu P) mc ms (fun q => mu q ∨ H.size ≤ q)) (hG : GoodIn Ts ws) (hw : ws = Cond.code y bytes maxL none :: ws') (hrc : rm.cells = mc ∧ rm.slots = ms)
    (hi : Cond.initialized y.cls ∈ Ts ∧ Cond.instanceMethod y ∈ Ts ∧ y.name = "<init>")
    (hd : hd_ok y As.length) (hR : rm.frames + 1 ≤ R.frames ∧ 8 + (maxL + 11) + rm.locals ≤ R.locals) {st : List Value} (hst : st = As.reverse ++ .ref b :: rest) (hW : (rest.map fun v => v.category).sum ≤ 8) (hc : cells + mc ≤ R.cells ∧ slots + ms ≤ R.slots) (hdg : decode cc pc = .ok (.invokespecial index, 3))
    (kk : ∀ (v : Option Value) (H1 : Heap) (locs1 : List Loc), P v H1 → H.size ≤ H1.size → (∀ q : Nat, q < H.size → ¬ mu q → H1[q]? = H[q]?) → va_S A H0 H1 locs1 → W p l e R s m args below meth c H1 locs1 (cells + mc) (slots + ms) Q (F0 m (pc + 3) ls (v.toList ++ rest))) : W p l e R s m args below meth c H locs cells slots Q (F0 m pc ls st) := by
  obtain ⟨hx, hb, hr, hml, hown, hts, hlk⟩ := C0
  exact cr_new (va_to (va_runIN (g := F0 m pc ls st) ⟨hx, hb, hml, hown, hts⟩ hM ⟨va_cnB As.length hts hG hw hrc.1 hrc.2 hnl (hts _ hi.1) hd hR, hi.2.2, hts _ hi.2.1⟩ ⟨hJ_blind g b0 H (.ref b :: As), hJ_pre hK hZ (.ref b :: As)⟩ rfl rfl hl.1 hst (lv_room hW) hdg hc)) rfl hS hA hm kk
end M88
abbrev rmX3_init : Room := { frames := 1, cells := 0, slots := 0, locals := 40 }
/-- new Out() -/
theorem c_oInit (l : Launch) (g : Gx) (b0 : Nat) (H0 : Heap) (o0 : Nat) : Met l yX3_init wsX3_init rmX3_init (va_Pc [.ref o0] (hJ g b0 H0)) (nQ H0 (fun _ => False) (fun r _ => r = none)) 0 0 (fun q => (fun _ : Nat => False) q ∨ H0.size ≤ q) := by
  refine cx_met (own := RX3) (cc := cX3_init) (maxL := 1) (by decide) rfl rfl (Nat.le_of_ble_eq_true rfl) ?_
  intro p e s m below meth c ls C0 hB0 hnm hl
  obtain ⟨hH, hK, hZ⟩ := hB0
  obtain ⟨hx, hb, hr, hml, hown, hts, hlk⟩ := id C0
  subst hH
  have hS : va_S (fun q => (fun _ : Nat => False) q ∨ s.heap.size ≤ q) s.heap s.heap [] := va_S.rf
  have hl : lv_has ls 1 [(0, .ref o0)] := hl
  refine lv_aload_n hx hb dX3_init_0 rfl (lv_at hl 0 rfl) ?_
  refine f_objInit hx hb hown (hts (.methodLink RX3 1 objectInit) (by decide +kernel)) (hts (.instanceMethod objectInit) (by decide +kernel)) (hts (.code objectInit ⟨#[0xb1]⟩ 1 none) (by decide +kernel)) (by rw [hml]; exact hl.1) dX3_init_1 (Nat.le_of_ble_eq_true rfl) (Nat.le_of_ble_eq_true rfl) ?_
  exact rt_v (mu := fun _ => False) (P := fun r _ => r = none) C0 rfl hS rfl dX3_init_4

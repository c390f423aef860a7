-- THE REFUSALS: what the class throws, and what holds then
abbrev nE1 : String := "java/lang/IndexOutOfBoundsException"
abbrev nE2 : String := "java/lang/IllegalArgumentException"
abbrev nE3 : String := "java/lang/IllegalStateException"
abbrev xD1 : MethodName := ⟨"java/lang/RuntimeException", "<init>", "(Ljava/lang/String;)V"⟩
abbrev xD2 : MethodName := ⟨"java/lang/Exception", "<init>", "(Ljava/lang/String;)V"⟩
abbrev xD3 : MethodName := ⟨"java/lang/Throwable", "<init>", "(Ljava/lang/String;)V"⟩
abbrev xNm : List String := ["java/lang/RuntimeException", "java/lang/Exception"]
/-- what is known of the classes of what is thrown -/
def EW (U : State) : Prop := (va_Nw (.castable nE1 nE1) U ∧ va_Nw (.castable nE2 nE2) U ∧ va_Nw (.castable nE3 nE3) U) ∧ va_Nc nE2 nE1 U ∧ va_Nc nE3 nE1 U ∧ va_Nc nE3 nE2 U ∧ va_Nw (.declares xD1) U ∧ va_Nw (.declares xD2) U ∧ va_Nw (.declares xD3) U
theorem EW.call {U : State} {f : JFrame} {mk : MethodId} {a : Array Value} (h : EW U) : EW (U.calling f mk a) := by
  obtain ⟨⟨h1, h2, h3⟩, h4, h5, h6, h7, h8, h9⟩ := h
  exact ⟨⟨va_Nw.same rfl rfl h1, va_Nw.same rfl rfl h2, va_Nw.same rfl rfl h3⟩, va_Nc.moved (u := U) (U := U.calling f mk a) (Vm.Alike.refl U.vm) h4, va_Nc.moved (u := U) (U := U.calling f mk a) (Vm.Alike.refl U.vm) h5, va_Nc.moved (u := U) (U := U.calling f mk a) (Vm.Alike.refl U.vm) h6, va_Nw.same rfl rfl h7, va_Nw.same rfl rfl h8, va_Nw.same rfl rfl h9⟩
theorem EW.warm {s U : State} (hW : s.WarmedH U.vm) (h : EW s) : EW U := by
  obtain ⟨⟨h1, h2, h3⟩, h4, h5, h6, h7, h8, h9⟩ := h
  exact ⟨⟨va_Nw.warmC hW h1, va_Nw.warmC hW h2, va_Nw.warmC hW h3⟩, va_Nc.moved hW.alike h4, va_Nc.moved hW.alike h5, va_Nc.moved hW.alike h6, va_Nw.warmD hW h7, va_Nw.warmD hW h8, va_Nw.warmD hW h9⟩
/-- a contract's start, where something may be thrown -/
def hX (g : Gx) (b0 : Nat) (H0 : Heap) (U : State) : Prop := hJ g b0 H0 U ∧ EW U
theorem hX_blind (g : Gx) (b0 : Nat) (H0 : Heap) (av : List Value) : FrameBlind (va_Pc av (hX g b0 H0)) := fun _ _ _ _ q => ⟨q.1, ⟨q.2.1.1, q.2.1.2.1.call, q.2.1.2.2.call⟩, q.2.2.call⟩
/-- thrown: a thing of class E; the heap is as it was, but for what is new -/
def xQ (E : String) (H0 : Heap) : String → State → State → Prop := fun E' _ t => E' = E ∧ H0.size ≤ t.heap.size ∧ ∀ q : Nat, q < H0.size → t.heap[q]? = H0[q]?
/-- it doesn't return -/
def xN : Array Value → State → Outcome → State → Prop := fun _ _ _ _ => False
theorem tx_met {l : Launch} {y : MethodName} {ws ws' : List Cond} {rm : Room} {Qc : Array Value → State → Outcome → State → Prop} {XC : String → State → State → Prop} {mc ms : Nat} {free : Addr → Prop} {cc : ByteArray} {maxL : Nat} {ret : Option FieldType} {own : String} {av : List Value} {B : State → Prop}
    (hy : plainName y.cls = true) (hw : ws = Cond.code y cc maxL ret :: ws') (ho : y.cls = own) (hn : (lg_sl av).length ≤ maxL)
    (body : ∀ (p : Program) (e : Env) (s : State) (m : MethodId) (below : List Frame) (meth : Method) (c : Code) (ls : Array Slot), Cx p s m av.toArray meth c own cc maxL ret ws → B s → (∀ x ∈ c.exceptionTable.toList, False) → lv_has ls maxL (lv_args 0 av) →
      W p l e rm s m av.toArray below meth c s.heap [] 0 0 (vx_MQ below Qc XC av.toArray s mc ms free) (F0 m 0 ls [])) : vx_Met l y ws rm (va_Pc av B) Qc XC mc ms free := by
  refine vx_ofW (cc := cc) (maxL := maxL) (ret := ret) hy hw ?_
  intro p e s m args below meth c s₁ Bd hml hex hv
  obtain ⟨rfl, hB⟩ := hv
  rw [lg_entry_eq]
  have hown : s.vm.findClass own = some m.cls := by
    have h := findClass_of_methodNamed Bd.named
    rw [ho] at h
    exact h
  exact body p e s m below meth c _ ⟨Bd.exec, Bd.bytes, Bd.returns, hml, hown, atoms_spec (ws := ws) Bd.pre, Bd.notSynchronized⟩ hB hex (lv_entry av hn)
section TX
variable {p : Program} {l : Launch} {e : Env} {R : Room} {s : State} {m : MethodId} {args : Array Value} {below : List Frame} {meth : Method} {c : Code} {H H0 : Heap} {locs : List Loc} {cells slots : Nat} {Q : State → Prop}
variable {Ts ws ws' : List Cond} {cc bytes : ByteArray} {nL maxL index n mc ms pc b0 : Nat} {own C E : String} {y : MethodName} {ret ret' : Option FieldType} {rm : Room} {Qc : Array Value → State → Outcome → State → Prop} {free A : Addr → Prop}
variable {b : Addr} {As rest : List Value} {ls : Array Slot} {lv : List (Nat × Value)} {g : Gx} {v : Option Value}
theorem hX_pre (hK : KK g s) (hZ : ZW g b0 s H) (hE : EW s) (av : List Value) : ∀ U : State, U.heap = H → s.WarmedH U.vm → va_Pc av (hX g b0 H) av.toArray U := fun _ hU hW => ⟨rfl, ⟨hU, hK.warm hW, hZ.warm hW⟩, hE.warm hW⟩
/-- 'throw new E(text)', in a method that has no handler -/
theorem tx_throw (C0 : Cx p s m args meth c own cc nL ret Ts) (hl : lv_has ls nL lv) (hex : ∀ x ∈ c.exceptionTable.toList, False) (ht : l.stackTraces = false) (hZ : ZW g b0 s s.heap) (hE : va_Nw (.castable E E) s) (hEW : EW s) {ik is ic i : Nat} {text : String} (hk : KT[i]? = some (own, is, text))
    (hlk : Cond.classLink own ik E ∈ Ts) (hin : Cond.initialized E ∈ Ts) (hmem : ∀ w ∈ (vx_atS own ic E xNm).filter goodWord, w ∈ Ts) (hbad : ∀ w ∈ (vx_atS own ic E xNm).filter (fun w => !goodWord w), w ∈ [Cond.castable E E, Cond.declares xD1, Cond.declares xD2, Cond.declares xD3]) (hgood : ∀ w ∈ Cond.classLink own ik E :: Cond.initialized E :: vx_atS own ic E xNm, vx_ot w = true) (hfit : Bundle.fit E = true)
    (hS : va_S A s.heap s.heap locs) (hAb : ∀ q, A q → b0 ≤ q)
    (d0 : decode cc pc = .ok (.new ik, 3)) (d3 : decode cc (pc + 3) = .ok (.dup, 1)) (d4 : decode cc (pc + 4) = .ok (.ldc is, 2)) (d6 : decode cc (pc + 6) = .ok (.invokespecial ic, 3)) (d9 : decode cc (pc + 9) = .ok (.athrow, 1))
    (hR : 6 ≤ R.frames ∧ (rest.map fun v => v.category).sum + 82 ≤ R.locals ∧ 1 ≤ R.cells ∧ 6 ≤ R.slots) :
    W p l e R s m args below meth c s.heap locs 0 0 (vx_MQ below Qc (xQ E s.heap) args s 1 6 A) (F0 m pc ls rest) := by
  obtain ⟨hx, hb, hr, hml, hown, hts, hlk9⟩ := C0
  obtain ⟨-, -, -, ⟨hU, hN⟩, -, -, ad, hR9, -⟩ := hZ
  refine vx_throwS (own := own) (cls := E) (text := text) (names := xNm) (ik := ik) (is := is) (ic := ic) (sa := ad i) (A := A) hx hb ht hown hfit ?_ (hts _ hlk) (hts _ hin) (hR9 i _ hk) (vx_hat (fun w hw => hts w (hmem w hw)) hbad (vx_c (va_Nw.use rfl hE) (vx_c (va_Nw.use rfl hEW.2.2.2.2.1) (vx_c (va_Nw.use rfl hEW.2.2.2.2.2.1) (vx_c (va_Nw.use rfl hEW.2.2.2.2.2.2) vx_n))))) hgood (hU.narrow hAb) (hN.narrow hAb) hS (hl.1.trans hml.symm) d0 d3 d4 d6 d9 (fun x h => (hex x h).elim) ?_ ?_ hR.2.2.1 hR.2.2.2 hlk9 (fun t _ h1 h2 => ⟨rfl, h1, h2⟩) hS.2.2 (Nat.le_refl _) (Nat.le_refl _)
  · intro n hn
    rcases List.mem_cons.mp hn with h | h
    · rw [h]; decide +kernel
    · rcases List.mem_cons.mp h with h | h
      · rw [h]; decide +kernel
      · cases h
  · show 2 + 3 < R.frames
    exact hR.1
  · show _ + (13 * (2 + 1) + 43) ≤ R.locals
    exact hR.2.1
/-- what a callee threw goes on to the caller -/
theorem tx_pass {fr : JFrame} {Qa : State → Outcome → State → Prop} (C0 : Cx p s m args meth c own cc nL ret Ts) (hex : ∀ x ∈ c.exceptionTable.toList, False) (hS : va_S A s.heap s.heap locs) (hA : ∀ q, s.heap.size ≤ q → A q) (hq : ∀ st o t, ¬ Qa st o t)
    (hr : vx_Run p l e R s m args below meth c s.heap locs 0 0 1 6 fr rest Qa (xQ E s.heap) (fun q => s.heap.size ≤ q)) (hg : ({ fr with stack := rest } : JFrame) = F0 m pc ls rest) :
    W p l e R s m args below meth c s.heap locs 0 0 (vx_MQ below Qc (xQ E s.heap) args s 1 6 A) fr := by
  intro T hT X
  rcases hr T hT X with ⟨v, st, t, T', L, h0, X', hL, e1, e2, q1, go⟩ | ⟨q, st, t, T', L, E', ce, h0, X', hL, e1, e2, ⟨rfl, q1, q2⟩, hce, hcv, hcl, go⟩
  · exact absurd q1 (hq _ _ _)
  · obtain ⟨t2, a1, b1⟩ := vx_out (p := p) (l := l) (e := e) (R := R) (s := s) (m := m) (args := args) (below := below) (meth := meth) (c := c) (H := t.heap) (locs := locs ++ L) (cells := 0 + 1) (slots := 0 + 6) (free := A) (ls := ls) (rest := rest) (Qc := Qc) (XC := xQ E' s.heap) (pc := pc) (E := E') (ce := ce) (q := q) (mc := 1) (ms := 6)
      (fun x h => (hex x h).elim) C0.2.2.2.2.2.2 hce hcv hcl (fun t9 h9 _ => ⟨rfl, by rw [h9]; exact q1, by rw [h9]; exact q2⟩) (fun z hz => by
        rcases List.mem_append.mp hz with h | h
        · exact hS.2.2 z h
        · exact hA _ (hL z h)) (Nat.le_refl _) (Nat.le_refl _) T' e1 X'
    rw [hg] at go
    exact ⟨t2, go.trans a1, b1⟩
/-- a static method that throws -/
theorem tx_S (C0 : Cx p s m args meth c own cc nL ret Ts) (hl : lv_has ls nL lv) (hex : ∀ x ∈ c.exceptionTable.toList, False) (hK : KK g s) (hS : va_S A s.heap s.heap locs) (hA : ∀ q, s.heap.size ≤ q → A q) (hZ : ZW g b0 s s.heap) (hE : EW s)
    (hM : vx_Met l y ws rm (va_Pc As (hX g b0 s.heap)) xN (xQ E s.heap) 1 6 (fun q => s.heap.size ≤ q)) (hG : GoodIn Ts (va_wsS own index y ws)) (hw : ws = Cond.code y bytes maxL ret' :: ws') (hrc : rm.cells = 1 ∧ rm.slots = 6)
    (hd : hd_ok y As.length) (hR : rm.frames + 1 ≤ R.frames ∧ 8 + (maxL + 11) + rm.locals ≤ R.locals) {st : List Value} (hst : st = As.reverse ++ rest) (hW : (rest.map fun v => v.category).sum ≤ 8) (hc : 1 ≤ R.cells ∧ 6 ≤ R.slots) (hdg : decode cc pc = .ok (.invokestatic index, 3)) :
    W p l e R s m args below meth c s.heap locs 0 0 (vx_MQ below Qc (xQ E s.heap) args s 1 6 A) (F0 m pc ls st) := by
  obtain ⟨hx, hb, hr, hml, hown, hts, hlk⟩ := id C0
  exact tx_pass (ls := ls) (pc := pc) C0 hex hS hA (fun _ _ _ h => h) (vx_runS (g := F0 m pc ls st) ⟨hx, hb, hml, hown, hts⟩ hM (va_cwS As.length hts hG hw hrc.1 hrc.2 hd hR) ⟨hX_blind g b0 s.heap As, hX_pre hK hZ hE As⟩ rfl rfl hl.1 hst (lv_room hW) hdg hc) rfl
/-- a method of an object that throws -/
theorem tx_V (C0 : Cx p s m args meth c own cc nL ret Ts) (hl : lv_has ls nL lv) (hex : ∀ x ∈ c.exceptionTable.toList, False) (hK : KK g s) (hS : va_S A s.heap s.heap locs) (hA : ∀ q, s.heap.size ≤ q → A q) (hZ : ZW g b0 s s.heap) (hE : EW s)
    (hM : vx_Met l y ws rm (va_Pc (.ref b :: As) (hX g b0 s.heap)) xN (xQ E s.heap) 1 6 (fun q => s.heap.size ≤ q)) (hG : GoodIn Ts (wsV own index C y ws)) (hw : ws = Cond.code y bytes maxL ret' :: ws') (hrc : rm.cells = 1 ∧ rm.slots = 6)
    (hrv : ∃ cell : Cell, s.heap[b]? = some cell ∧ cell.vm.isStatics = false ∧ s.vm.findClass C = some cell.cls)
    (hd : y.cls = C ∧ hd_ok y As.length) (hR : rm.frames + 1 ≤ R.frames ∧ 8 + (maxL + 11) + rm.locals ≤ R.locals) {st : List Value} (hst : st = As.reverse ++ .ref b :: rest) (hW : (rest.map fun v => v.category).sum ≤ 8) (hc : 1 ≤ R.cells ∧ 6 ≤ R.slots) (hdg : decode cc pc = .ok (.invokevirtual index, 3)) :
    W p l e R s m args below meth c s.heap locs 0 0 (vx_MQ below Qc (xQ E s.heap) args s 1 6 A) (F0 m pc ls st) := by
  obtain ⟨hx, hb, hr, hml, hown, hts, hlk⟩ := id C0
  exact tx_pass (ls := ls) (pc := pc) C0 hex hS hA (fun _ _ _ h => h) (vx_runV (g := F0 m pc ls st) ⟨hx, hb, hml, hown, hts⟩ hM (cwV As.length hts hG hw hrc.1 hrc.2 hd hR) ⟨hX_blind g b0 s.heap (.ref b :: As), hrv, hX_pre hK hZ hE (.ref b :: As)⟩ rfl rfl hl.1 hst (lv_room hW) hdg hc) rfl
end TX
theorem nI0_le {x : Int32} (h : ¬ x < 0) : nI 0 ≤ x := Int32.not_lt.mp h
theorem lt_sub1 {x : Int32} {a b : Nat} (ha : (nI a).toInt = a) (hb : (nI b).toInt = b) (hab : a = b + 1) (h : x < nI a) : x ≤ nI b := by
  have h1 := Int32.lt_iff_toInt_lt.mp h
  refine Int32.le_iff_toInt_le.mpr ?_
  omega
theorem i32_le_lt {a b : Int32} (h1 : a ≤ b) (h2 : b < a) : False := absurd h2 (Int32.not_lt.mpr h1)
section M78
variable {p : Program} {l : Launch} {e : Env} {s : State} {m : MethodId} {args : Array Value} {below : List Frame} {meth : Method} {c : Code} {H H0 : Heap} {locs : List Loc} {cells slots : Nat} {Q : State → Prop} {A : Nat → Prop} {g : Gx} {b0 : Nat}
abbrev rtX2_checkCell : Room := { frames := 6, cells := 1, slots := 6, locals := 90 }
set_option maxHeartbeats 4000000 in
set_option maxRecDepth 100000 in
theorem t_ckCell (l : Launch) (hnt : l.stackTraces = false) (g : Gx) (b0 : Nat) (H0 : Heap) (x : Int32) (hn : ¬ isC x) : vx_Met l yX2_checkCell wsX2_checkCell rtX2_checkCell (va_Pc [.int x] (hX g b0 H0)) xN (xQ nE1 H0) 1 6 (fun q => H0.size ≤ q) := by
  refine tx_met (own := RX2) (cc := cX2_checkCell) (maxL := 1) (by decide) rfl rfl (Nat.le_of_ble_eq_true rfl) ?_
  intro p e s m below meth c ls C0 hB0 hex hl
  obtain ⟨⟨hH, hK, hZ⟩, hE⟩ := hB0
  obtain ⟨hx, hb, hr, hml, hown, hts, hlk⟩ := id C0
  subst hH
  have hS : va_S (fun q => s.heap.size ≤ q) s.heap s.heap [] := va_S.rf
  have hA : ∀ q : Nat, s.heap.size ≤ q → s.heap.size ≤ q := fun q h => h
  have h0Z := hZ.1
  have hAb : ∀ q : Nat, s.heap.size ≤ q → b0 ≤ q := fun q h => Nat.le_trans h0Z h
  have hl : lv_has ls 1 [(0, .int x)] := hl
  refine lv_iload_n hx hb dX2_checkCell_0 rfl (lv_at hl 0 rfl) ?_
  refine lv_if_lt (tgt := 10) hx hb dX2_checkCell_1 (by decide) (fun h1 => ?_) (fun h1 => ?_)
  · skip
    exact tx_throw (rest := []) (ik := 192) (is := 239) (ic := 196) (i := 7) (text := "no such cell") C0 hl hex hnt hZ hE.1.1 hE rfl (by decide +kernel) (by decide +kernel) (fun _ h => List.mem_cons_of_mem _ (List.mem_append_right _ h)) (by decide +kernel) (by decide +kernel) (by decide +kernel) hS hAb dX2_checkCell_10 dX2_checkCell_13 dX2_checkCell_14 dX2_checkCell_16 dX2_checkCell_19 ⟨Nat.le_of_ble_eq_true rfl, Nat.le_of_ble_eq_true rfl, Nat.le_of_ble_eq_true rfl, Nat.le_of_ble_eq_true rfl⟩
  · skip
    refine lv_iload_n hx hb dX2_checkCell_4 rfl (lv_at hl 0 rfl) ?_
    refine lv_bipush (v := nI 8) hx hb dX2_checkCell_5 (by decide) ?_
    refine lv_icmp_lt (tgt := 20) hx hb dX2_checkCell_7 (by decide) (fun h2 => absurd ⟨nI0_le h1, lt_sub1 (by decide) (by decide) rfl h2⟩ hn) (fun h2 => ?_)
    exact tx_throw (rest := []) (ik := 192) (is := 239) (ic := 196) (i := 7) (text := "no such cell") C0 hl hex hnt hZ hE.1.1 hE rfl (by decide +kernel) (by decide +kernel) (fun _ h => List.mem_cons_of_mem _ (List.mem_append_right _ h)) (by decide +kernel) (by decide +kernel) (by decide +kernel) hS hAb dX2_checkCell_10 dX2_checkCell_13 dX2_checkCell_14 dX2_checkCell_16 dX2_checkCell_19 ⟨Nat.le_of_ble_eq_true rfl, Nat.le_of_ble_eq_true rfl, Nat.le_of_ble_eq_true rfl, Nat.le_of_ble_eq_true rfl⟩
abbrev rtX2_checkRadix : Room := { frames := 6, cells := 1, slots := 6, locals := 90 }
set_option maxHeartbeats 4000000 in
set_option maxRecDepth 100000 in
theorem t_ckRad (l : Launch) (hnt : l.stackTraces = false) (g : Gx) (b0 : Nat) (H0 : Heap) (x : Int32) (hn : ¬ (nI 2 ≤ x ∧ x ≤ nI 36)) : vx_Met l yX2_checkRadix wsX2_checkRadix rtX2_checkRadix (va_Pc [.int x] (hX g b0 H0)) xN (xQ nE2 H0) 1 6 (fun q => H0.size ≤ q) := by
  refine tx_met (own := RX2) (cc := cX2_checkRadix) (maxL := 1) (by decide) rfl rfl (Nat.le_of_ble_eq_true rfl) ?_
  intro p e s m below meth c ls C0 hB0 hex hl
  obtain ⟨⟨hH, hK, hZ⟩, hE⟩ := hB0
  obtain ⟨hx, hb, hr, hml, hown, hts, hlk⟩ := id C0
  subst hH
  have hS : va_S (fun q => s.heap.size ≤ q) s.heap s.heap [] := va_S.rf
  have hA : ∀ q : Nat, s.heap.size ≤ q → s.heap.size ≤ q := fun q h => h
  have h0Z := hZ.1
  have hAb : ∀ q : Nat, s.heap.size ≤ q → b0 ≤ q := fun q h => Nat.le_trans h0Z h
  have hl : lv_has ls 1 [(0, .int x)] := hl
  refine lv_iload_n hx hb dX2_checkRadix_0 rfl (lv_at hl 0 rfl) ?_
  refine lv_iconst (v := nI 2) hx hb dX2_checkRadix_1 (by decide) ?_
  refine lv_icmp_lt (tgt := 11) hx hb dX2_checkRadix_2 (by decide) (fun h1 => ?_) (fun h1 => ?_)
  · skip
    exact tx_throw (rest := []) (ik := 39) (is := 241) (ic := 43) (i := 8) (text := "no such radix") C0 hl hex hnt hZ hE.1.2.1 hE rfl (by decide +kernel) (by decide +kernel) (fun _ h => List.mem_cons_of_mem _ (List.mem_append_right _ h)) (by decide +kernel) (by decide +kernel) (by decide +kernel) hS hAb dX2_checkRadix_11 dX2_checkRadix_14 dX2_checkRadix_15 dX2_checkRadix_17 dX2_checkRadix_20 ⟨Nat.le_of_ble_eq_true rfl, Nat.le_of_ble_eq_true rfl, Nat.le_of_ble_eq_true rfl, Nat.le_of_ble_eq_true rfl⟩
  · skip
    refine lv_iload_n hx hb dX2_checkRadix_5 rfl (lv_at hl 0 rfl) ?_
    refine lv_bipush (v := nI 36) hx hb dX2_checkRadix_6 (by decide) ?_
    refine lv_icmp_le (tgt := 21) hx hb dX2_checkRadix_8 (by decide) (fun h2 => absurd ⟨Int32.not_lt.mp h1, h2⟩ hn) (fun h2 => ?_)
    exact tx_throw (rest := []) (ik := 39) (is := 241) (ic := 43) (i := 8) (text := "no such radix") C0 hl hex hnt hZ hE.1.2.1 hE rfl (by decide +kernel) (by decide +kernel) (fun _ h => List.mem_cons_of_mem _ (List.mem_append_right _ h)) (by decide +kernel) (by decide +kernel) (by decide +kernel) hS hAb dX2_checkRadix_11 dX2_checkRadix_14 dX2_checkRadix_15 dX2_checkRadix_17 dX2_checkRadix_20 ⟨Nat.le_of_ble_eq_true rfl, Nat.le_of_ble_eq_true rfl, Nat.le_of_ble_eq_true rfl, Nat.le_of_ble_eq_true rfl⟩
abbrev rtX2_checkWhat : Room := { frames := 6, cells := 1, slots := 6, locals := 90 }
set_option maxHeartbeats 4000000 in
set_option maxRecDepth 100000 in
theorem t_ckWhat (l : Launch) (hnt : l.stackTraces = false) (g : Gx) (b0 : Nat) (H0 : Heap) (x : Int32) (k : Nat) (hn : ¬ (nI 0 ≤ x ∧ x ≤ nI k)) : vx_Met l yX2_checkWhat wsX2_checkWhat rtX2_checkWhat (va_Pc [.int x, .int (nI k)] (hX g b0 H0)) xN (xQ nE2 H0) 1 6 (fun q => H0.size ≤ q) := by
  refine tx_met (own := RX2) (cc := cX2_checkWhat) (maxL := 2) (by decide) rfl rfl (Nat.le_of_ble_eq_true rfl) ?_
  intro p e s m below meth c ls C0 hB0 hex hl
  obtain ⟨⟨hH, hK, hZ⟩, hE⟩ := hB0
  obtain ⟨hx, hb, hr, hml, hown, hts, hlk⟩ := id C0
  subst hH
  have hS : va_S (fun q => s.heap.size ≤ q) s.heap s.heap [] := va_S.rf
  have hA : ∀ q : Nat, s.heap.size ≤ q → s.heap.size ≤ q := fun q h => h
  have h0Z := hZ.1
  have hAb : ∀ q : Nat, s.heap.size ≤ q → b0 ≤ q := fun q h => Nat.le_trans h0Z h
  have hl : lv_has ls 2 [(0, .int x), (1, .int (nI k))] := hl
  refine lv_iload_n hx hb dX2_checkWhat_0 rfl (lv_at hl 0 rfl) ?_
  refine lv_if_lt (tgt := 9) hx hb dX2_checkWhat_1 (by decide) (fun h1 => ?_) (fun h1 => ?_)
  · skip
    exact tx_throw (rest := []) (ik := 39) (is := 243) (ic := 43) (i := 9) (text := "no such choice") C0 hl hex hnt hZ hE.1.2.1 hE rfl (by decide +kernel) (by decide +kernel) (fun _ h => List.mem_cons_of_mem _ (List.mem_append_right _ h)) (by decide +kernel) (by decide +kernel) (by decide +kernel) hS hAb dX2_checkWhat_9 dX2_checkWhat_12 dX2_checkWhat_13 dX2_checkWhat_15 dX2_checkWhat_18 ⟨Nat.le_of_ble_eq_true rfl, Nat.le_of_ble_eq_true rfl, Nat.le_of_ble_eq_true rfl, Nat.le_of_ble_eq_true rfl⟩
  · skip
    refine lv_iload_n hx hb dX2_checkWhat_4 rfl (lv_at hl 0 rfl) ?_
    refine lv_iload_n hx hb dX2_checkWhat_5 rfl (lv_at hl 1 rfl) ?_
    refine lv_icmp_le (tgt := 19) hx hb dX2_checkWhat_6 (by decide) (fun h2 => absurd ⟨nI0_le h1, h2⟩ hn) (fun h2 => ?_)
    exact tx_throw (rest := []) (ik := 39) (is := 243) (ic := 43) (i := 9) (text := "no such choice") C0 hl hex hnt hZ hE.1.2.1 hE rfl (by decide +kernel) (by decide +kernel) (fun _ h => List.mem_cons_of_mem _ (List.mem_append_right _ h)) (by decide +kernel) (by decide +kernel) (by decide +kernel) hS hAb dX2_checkWhat_9 dX2_checkWhat_12 dX2_checkWhat_13 dX2_checkWhat_15 dX2_checkWhat_18 ⟨Nat.le_of_ble_eq_true rfl, Nat.le_of_ble_eq_true rfl, Nat.le_of_ble_eq_true rfl, Nat.le_of_ble_eq_true rfl⟩
abbrev rtX2_checkRadixAndKind : Room := { frames := 7, cells := 1, slots := 6, locals := 111 }
set_option maxHeartbeats 4000000 in
set_option maxRecDepth 100000 in
theorem t_ckRK (l : Launch) (hnt : l.stackTraces = false) (g : Gx) (b0 : Nat) (H0 : Heap) (y kd : Int32) (hn : ¬ ((nI 2 ≤ y ∧ y ≤ nI 36) ∧ nI 0 ≤ kd ∧ kd ≤ nI 3)) : vx_Met l yX2_checkRadixAndKind wsX2_checkRadixAndKind rtX2_checkRadixAndKind (va_Pc [.int y, .int kd] (hX g b0 H0)) xN (xQ nE2 H0) 1 6 (fun q => H0.size ≤ q) := by
  refine tx_met (own := RX2) (cc := cX2_checkRadixAndKind) (maxL := 2) (by decide) rfl rfl (Nat.le_of_ble_eq_true rfl) ?_
  intro p e s m below meth c ls C0 hB0 hex hl
  obtain ⟨⟨hH, hK, hZ⟩, hE⟩ := hB0
  obtain ⟨hx, hb, hr, hml, hown, hts, hlk⟩ := id C0
  subst hH
  have hS : va_S (fun q => s.heap.size ≤ q) s.heap s.heap [] := va_S.rf
  have hA : ∀ q : Nat, s.heap.size ≤ q → s.heap.size ≤ q := fun q h => h
  have h0Z := hZ.1
  have hAb : ∀ q : Nat, s.heap.size ≤ q → b0 ≤ q := fun q h => Nat.le_trans h0Z h
  have hl : lv_has ls 2 [(0, .int y), (1, .int kd)] := hl
  by_cases hq : nI 2 ≤ y ∧ y ≤ nI 36
  · skip
    obtain ⟨r9, hr9, rfl⟩ := rad_of hq
    refine lv_iload_n hx hb dX2_checkRadixAndKind_0 rfl (lv_at hl 0 rfl) ?_
    refine cp_S (As := [.int (nI r9)]) (rest := []) C0 hl hK hS hA (c_ckRad l g s.heap r9 hr9) gX2_checkRadixAndKind_X2_checkRadix rfl ⟨rfl, rfl⟩ (show hd_ok yX2_checkRadix 1 from ⟨by decide, by decide, by decide +kernel⟩) ⟨Nat.le_of_ble_eq_true rfl, Nat.le_of_ble_eq_true rfl⟩ rfl (Nat.le_of_ble_eq_true rfl) ⟨Nat.zero_le _, Nat.zero_le _⟩ dX2_checkRadixAndKind_1 (fun locs hS => ?_)
    refine lv_iload_n hx hb dX2_checkRadixAndKind_4 rfl (lv_at hl 1 rfl) ?_
    refine lv_iconst (v := nI 3) hx hb dX2_checkRadixAndKind_5 (by decide) ?_
    exact tx_S (As := [.int kd, .int (nI 3)]) (rest := []) C0 hl hex hK hS hA hZ hE (t_ckWhat l hnt g b0 s.heap kd 3 (fun z => hn ⟨hq, z⟩)) gX2_checkRadixAndKind_X2_checkWhat rfl ⟨rfl, rfl⟩ (show hd_ok yX2_checkWhat 2 from ⟨by decide, by decide, by decide +kernel⟩) ⟨Nat.le_of_ble_eq_true rfl, Nat.le_of_ble_eq_true rfl⟩ rfl (Nat.le_of_ble_eq_true rfl) ⟨Nat.le_of_ble_eq_true rfl, Nat.le_of_ble_eq_true rfl⟩ dX2_checkRadixAndKind_6
  · skip
    refine lv_iload_n hx hb dX2_checkRadixAndKind_0 rfl (lv_at hl 0 rfl) ?_
    exact tx_S (As := [.int y]) (rest := []) C0 hl hex hK hS hA hZ hE (t_ckRad l hnt g b0 s.heap y hq) gX2_checkRadixAndKind_X2_checkRadix rfl ⟨rfl, rfl⟩ (show hd_ok yX2_checkRadix 1 from ⟨by decide, by decide, by decide +kernel⟩) ⟨Nat.le_of_ble_eq_true rfl, Nat.le_of_ble_eq_true rfl⟩ rfl (Nat.le_of_ble_eq_true rfl) ⟨Nat.le_of_ble_eq_true rfl, Nat.le_of_ble_eq_true rfl⟩ dX2_checkRadixAndKind_1
abbrev rtX2_checkDivisor : Room := { frames := 6, cells := 1, slots := 6, locals := 90 }
set_option maxHeartbeats 4000000 in
set_option maxRecDepth 100000 in
theorem t_ckDiv (l : Launch) (hnt : l.stackTraces = false) (g : Gx) (b0 : Nat) (H0 : Heap) (x0 lc : Nat) (fs : List Value) (V : Nat → Nat) (hC : CC g H0 x0 lc fs V) (i : Nat) (zi : Bool) (hi : i < 8) (hnz : V i % 65536 ^ nP zi = 0) : vx_Met l yX2_checkDivisor wsX2_checkDivisor rtX2_checkDivisor (va_Pc [.ref x0, .int (nI i), .int (bI zi)] (hX g b0 H0)) xN (xQ nE3 H0) 1 6 (fun q => H0.size ≤ q) := by
  refine tx_met (own := RX2) (cc := cX2_checkDivisor) (maxL := 3) (by decide) rfl rfl (Nat.le_of_ble_eq_true rfl) ?_
  intro p e s m below meth c ls C0 hB0 hex hl
  obtain ⟨⟨hH, hK, hZ⟩, hE⟩ := hB0
  obtain ⟨hx, hb, hr, hml, hown, hts, hlk⟩ := id C0
  subst hH
  have hS : va_S (fun q => s.heap.size ≤ q) s.heap s.heap [] := va_S.rf
  have hA : ∀ q : Nat, s.heap.size ≤ q → s.heap.size ≤ q := fun q h => h
  have h0Z := hZ.1
  have hAb : ∀ q : Nat, s.heap.size ≤ q → b0 ≤ q := fun q h => Nat.le_trans h0Z h
  have hl : lv_has ls 3 [(0, .ref x0), (1, .int (nI i)), (2, .int (bI zi))] := hl
  obtain ⟨-, -, -, -, hV, -⟩ := id hC
  refine lv_aload_n hx hb dX2_checkDivisor_0 rfl (lv_at hl 0 rfl) ?_
  refine lv_iload_n hx hb dX2_checkDivisor_1 rfl (lv_at hl 1 rfl) ?_
  refine lv_iload_n hx hb dX2_checkDivisor_2 rfl (lv_at hl 2 rfl) ?_
  refine cp_V (As := [.int (nI i), .int (bI zi)]) (rest := []) C0 hl hK hS hA (c_unsOf l g s.heap x0 lc fs V hC i zi hi) gX2_checkDivisor_X2_unsignedOf rfl ⟨rfl, rfl⟩ (hC.recv hK) ⟨rfl, (show hd_ok yX2_unsignedOf 2 from ⟨by decide, by decide, by decide +kernel⟩)⟩ ⟨Nat.le_of_ble_eq_true rfl, Nat.le_of_ble_eq_true rfl⟩ rfl (Nat.le_of_ble_eq_true rfl) ⟨Nat.zero_le _, Nat.zero_le _⟩ dX2_checkDivisor_3 (fun locs hS => ?_)
  refine lv_lconst (v := lN 0) hx hb dX2_checkDivisor_6 rfl ?_
  refine W.lcmp hx hb dX2_checkDivisor_7 ?_
  refine lv_if_ne (tgt := 21) hx hb dX2_checkDivisor_8 (by decide) (fun h1 => absurd (by rw [hnz] : lN (V i % 65536 ^ nP zi) = lN 0) (fun z => lc_ne h1 z)) (fun h1 => ?_)
  exact tx_throw (rest := []) (ik := 50) (is := 245) (ic := 54) (i := 10) (text := "division by 0") C0 hl hex hnt hZ hE.1.2.2 hE rfl (by decide +kernel) (by decide +kernel) (fun _ h => List.mem_cons_of_mem _ (List.mem_append_right _ h)) (by decide +kernel) (by decide +kernel) (by decide +kernel) hS hAb dX2_checkDivisor_11 dX2_checkDivisor_14 dX2_checkDivisor_15 dX2_checkDivisor_17 dX2_checkDivisor_20 ⟨Nat.le_of_ble_eq_true rfl, Nat.le_of_ble_eq_true rfl, Nat.le_of_ble_eq_true rfl, Nat.le_of_ble_eq_true rfl⟩
abbrev rtX2_put_a : Room := { frames := 7, cells := 1, slots := 6, locals := 110 }
set_option maxHeartbeats 4000000 in
set_option maxRecDepth 100000 in
theorem t_xPut (l : Launch) (hnt : l.stackTraces = false) (g : Gx) (b0 : Nat) (H0 : Heap) (x0 lc tr tc sr sc : Nat) (i3 i4 i5 i6 : Int32) (V : Nat → Nat) (n : Nat) (t : Nat → Nat) (hL : CL g H0 x0 lc tr tc sr sc i3 i4 i5 i6 V n t) (x : Int32) (y z : Int32) (hn : ¬ isC x) : vx_Met l yX2_put wsX2_put rtX2_put_a (va_Pc [.ref x0, .int x, .int y, .int z] (hX g b0 H0)) xN (xQ nE1 H0) 1 6 (fun q => H0.size ≤ q) := by
  refine tx_met (own := RX2) (cc := cX2_put) (maxL := 4) (by decide) rfl rfl (Nat.le_of_ble_eq_true rfl) ?_
  intro p e s m below meth c ls C0 hB0 hex hl
  obtain ⟨⟨hH, hK, hZ⟩, hE⟩ := hB0
  obtain ⟨hx, hb, hr, hml, hown, hts, hlk⟩ := id C0
  subst hH
  have hS : va_S (fun q => s.heap.size ≤ q) s.heap s.heap [] := va_S.rf
  have hA : ∀ q : Nat, s.heap.size ≤ q → s.heap.size ≤ q := fun q h => h
  have h0Z := hZ.1
  have hAb : ∀ q : Nat, s.heap.size ≤ q → b0 ≤ q := fun q h => Nat.le_trans h0Z h
  have hl : lv_has ls 4 [(0, .ref x0), (1, .int x), (2, .int y), (3, .int z)] := hl
  obtain ⟨hC, hR, hSp, hap⟩ := id hL
  obtain ⟨hf, hfl, hlc, ⟨f, hg9, hfv⟩, hV, hxl⟩ := id hC
  refine lv_iload_n hx hb dX2_put_0 rfl (lv_at hl 1 rfl) ?_
  exact tx_S (As := [.int x]) (rest := []) C0 hl hex hK hS hA hZ hE (t_ckCell l hnt g b0 s.heap x hn) gX2_put_X2_checkCell rfl ⟨rfl, rfl⟩ (show hd_ok yX2_checkCell 1 from ⟨by decide, by decide, by decide +kernel⟩) ⟨Nat.le_of_ble_eq_true rfl, Nat.le_of_ble_eq_true rfl⟩ rfl (Nat.le_of_ble_eq_true rfl) ⟨Nat.le_of_ble_eq_true rfl, Nat.le_of_ble_eq_true rfl⟩ dX2_put_1
abbrev rtX2_turn_a : Room := { frames := 7, cells := 1, slots := 6, locals := 110 }
set_option maxHeartbeats 4000000 in
set_option maxRecDepth 100000 in
theorem t_xTurn (l : Launch) (hnt : l.stackTraces = false) (g : Gx) (b0 : Nat) (H0 : Heap) (x0 lc tr tc sr sc : Nat) (i3 i4 i5 i6 : Int32) (V : Nat → Nat) (n : Nat) (t : Nat → Nat) (hL : CL g H0 x0 lc tr tc sr sc i3 i4 i5 i6 V n t) (x : Int32) (y : Int32) (zi : Bool) (hn : ¬ isC x) : vx_Met l yX2_turn wsX2_turn rtX2_turn_a (va_Pc [.ref x0, .int x, .int y, .int (bI zi)] (hX g b0 H0)) xN (xQ nE1 H0) 1 6 (fun q => H0.size ≤ q) := by
  refine tx_met (own := RX2) (cc := cX2_turn) (maxL := 6) (by decide) rfl rfl (Nat.le_of_ble_eq_true rfl) ?_
  intro p e s m below meth c ls C0 hB0 hex hl
  obtain ⟨⟨hH, hK, hZ⟩, hE⟩ := hB0
  obtain ⟨hx, hb, hr, hml, hown, hts, hlk⟩ := id C0
  subst hH
  have hS : va_S (fun q => s.heap.size ≤ q) s.heap s.heap [] := va_S.rf
  have hA : ∀ q : Nat, s.heap.size ≤ q → s.heap.size ≤ q := fun q h => h
  have h0Z := hZ.1
  have hAb : ∀ q : Nat, s.heap.size ≤ q → b0 ≤ q := fun q h => Nat.le_trans h0Z h
  have hl : lv_has ls 6 [(0, .ref x0), (1, .int x), (2, .int y), (3, .int (bI zi))] := hl
  obtain ⟨hC, hR, hSp, hap⟩ := id hL
  obtain ⟨hf, hfl, hlc, ⟨f, hg9, hfv⟩, hV, hxl⟩ := id hC
  refine lv_iload_n hx hb dX2_turn_0 rfl (lv_at hl 1 rfl) ?_
  exact tx_S (As := [.int x]) (rest := []) C0 hl hex hK hS hA hZ hE (t_ckCell l hnt g b0 s.heap x hn) gX2_turn_X2_checkCell rfl ⟨rfl, rfl⟩ (show hd_ok yX2_checkCell 1 from ⟨by decide, by decide, by decide +kernel⟩) ⟨Nat.le_of_ble_eq_true rfl, Nat.le_of_ble_eq_true rfl⟩ rfl (Nat.le_of_ble_eq_true rfl) ⟨Nat.le_of_ble_eq_true rfl, Nat.le_of_ble_eq_true rfl⟩ dX2_turn_1
abbrev rtX2_about_a : Room := { frames := 7, cells := 1, slots := 6, locals := 110 }
set_option maxHeartbeats 4000000 in
set_option maxRecDepth 100000 in
theorem t_xAbout (l : Launch) (hnt : l.stackTraces = false) (g : Gx) (b0 : Nat) (H0 : Heap) (x0 lc tr tc sr sc : Nat) (i3 i4 i5 i6 : Int32) (V : Nat → Nat) (n : Nat) (t : Nat → Nat) (hL : CL g H0 x0 lc tr tc sr sc i3 i4 i5 i6 V n t) (x : Int32) (zb zi : Bool) (hn : ¬ isC x) : vx_Met l yX2_about wsX2_about rtX2_about_a (va_Pc [.ref x0, .int x, .int (bI zb), .int (bI zi)] (hX g b0 H0)) xN (xQ nE1 H0) 1 6 (fun q => H0.size ≤ q) := by
  refine tx_met (own := RX2) (cc := cX2_about) (maxL := 7) (by decide) rfl rfl (Nat.le_of_ble_eq_true rfl) ?_
  intro p e s m below meth c ls C0 hB0 hex hl
  obtain ⟨⟨hH, hK, hZ⟩, hE⟩ := hB0
  obtain ⟨hx, hb, hr, hml, hown, hts, hlk⟩ := id C0
  subst hH
  have hS : va_S (fun q => s.heap.size ≤ q) s.heap s.heap [] := va_S.rf
  have hA : ∀ q : Nat, s.heap.size ≤ q → s.heap.size ≤ q := fun q h => h
  have h0Z := hZ.1
  have hAb : ∀ q : Nat, s.heap.size ≤ q → b0 ≤ q := fun q h => Nat.le_trans h0Z h
  have hl : lv_has ls 7 [(0, .ref x0), (1, .int x), (2, .int (bI zb)), (3, .int (bI zi))] := hl
  obtain ⟨hC, hR, hSp, hap⟩ := id hL
  obtain ⟨hf, hfl, hlc, ⟨f, hg9, hfv⟩, hV, hxl⟩ := id hC
  refine lv_iload_n hx hb dX2_about_0 rfl (lv_at hl 1 rfl) ?_
  exact tx_S (As := [.int x]) (rest := []) C0 hl hex hK hS hA hZ hE (t_ckCell l hnt g b0 s.heap x hn) gX2_about_X2_checkCell rfl ⟨rfl, rfl⟩ (show hd_ok yX2_checkCell 1 from ⟨by decide, by decide, by decide +kernel⟩) ⟨Nat.le_of_ble_eq_true rfl, Nat.le_of_ble_eq_true rfl⟩ rfl (Nat.le_of_ble_eq_true rfl) ⟨Nat.le_of_ble_eq_true rfl, Nat.le_of_ble_eq_true rfl⟩ dX2_about_1
abbrev rtX2_pick_a : Room := { frames := 7, cells := 1, slots := 6, locals := 110 }
set_option maxHeartbeats 4000000 in
set_option maxRecDepth 100000 in
theorem t_xPick (l : Launch) (hnt : l.stackTraces = false) (g : Gx) (b0 : Nat) (H0 : Heap) (x0 lc tr tc sr sc : Nat) (i3 i4 i5 i6 : Int32) (V : Nat → Nat) (n : Nat) (t : Nat → Nat) (hL : CL g H0 x0 lc tr tc sr sc i3 i4 i5 i6 V n t) (x : Int32) (zb zi : Bool) (hn : ¬ isC x) : vx_Met l yX2_pick wsX2_pick rtX2_pick_a (va_Pc [.ref x0, .int x, .int (bI zb), .int (bI zi)] (hX g b0 H0)) xN (xQ nE1 H0) 1 6 (fun q => H0.size ≤ q) := by
  refine tx_met (own := RX2) (cc := cX2_pick) (maxL := 7) (by decide) rfl rfl (Nat.le_of_ble_eq_true rfl) ?_
  intro p e s m below meth c ls C0 hB0 hex hl
  obtain ⟨⟨hH, hK, hZ⟩, hE⟩ := hB0
  obtain ⟨hx, hb, hr, hml, hown, hts, hlk⟩ := id C0
  subst hH
  have hS : va_S (fun q => s.heap.size ≤ q) s.heap s.heap [] := va_S.rf
  have hA : ∀ q : Nat, s.heap.size ≤ q → s.heap.size ≤ q := fun q h => h
  have h0Z := hZ.1
  have hAb : ∀ q : Nat, s.heap.size ≤ q → b0 ≤ q := fun q h => Nat.le_trans h0Z h
  have hl : lv_has ls 7 [(0, .ref x0), (1, .int x), (2, .int (bI zb)), (3, .int (bI zi))] := hl
  obtain ⟨hC, hR, hSp, hap⟩ := id hL
  obtain ⟨hf, hfl, hlc, ⟨f, hg9, hfv⟩, hV, hxl⟩ := id hC
  refine lv_iload_n hx hb dX2_pick_0 rfl (lv_at hl 1 rfl) ?_
  exact tx_S (As := [.int x]) (rest := []) C0 hl hex hK hS hA hZ hE (t_ckCell l hnt g b0 s.heap x hn) gX2_pick_X2_checkCell rfl ⟨rfl, rfl⟩ (show hd_ok yX2_checkCell 1 from ⟨by decide, by decide, by decide +kernel⟩) ⟨Nat.le_of_ble_eq_true rfl, Nat.le_of_ble_eq_true rfl⟩ rfl (Nat.le_of_ble_eq_true rfl) ⟨Nat.le_of_ble_eq_true rfl, Nat.le_of_ble_eq_true rfl⟩ dX2_pick_1
abbrev rtX2_high_a : Room := { frames := 7, cells := 1, slots := 6, locals := 110 }
set_option maxHeartbeats 4000000 in
set_option maxRecDepth 100000 in
theorem t_xHigh (l : Launch) (hnt : l.stackTraces = false) (g : Gx) (b0 : Nat) (H0 : Heap) (x0 lc tr tc sr sc : Nat) (i3 i4 i5 i6 : Int32) (V : Nat → Nat) (n : Nat) (t : Nat → Nat) (hL : CL g H0 x0 lc tr tc sr sc i3 i4 i5 i6 V n t) (x : Int32) (hn : ¬ isC x) : vx_Met l yX2_high wsX2_high rtX2_high_a (va_Pc [.ref x0, .int x] (hX g b0 H0)) xN (xQ nE1 H0) 1 6 (fun q => H0.size ≤ q) := by
  refine tx_met (own := RX2) (cc := cX2_high) (maxL := 2) (by decide) rfl rfl (Nat.le_of_ble_eq_true rfl) ?_
  intro p e s m below meth c ls C0 hB0 hex hl
  obtain ⟨⟨hH, hK, hZ⟩, hE⟩ := hB0
  obtain ⟨hx, hb, hr, hml, hown, hts, hlk⟩ := id C0
  subst hH
  have hS : va_S (fun q => s.heap.size ≤ q) s.heap s.heap [] := va_S.rf
  have hA : ∀ q : Nat, s.heap.size ≤ q → s.heap.size ≤ q := fun q h => h
  have h0Z := hZ.1
  have hAb : ∀ q : Nat, s.heap.size ≤ q → b0 ≤ q := fun q h => Nat.le_trans h0Z h
  have hl : lv_has ls 2 [(0, .ref x0), (1, .int x)] := hl
  obtain ⟨hC, hR, hSp, hap⟩ := id hL
  obtain ⟨hf, hfl, hlc, ⟨f, hg9, hfv⟩, hV, hxl⟩ := id hC
  refine lv_iload_n hx hb dX2_high_0 rfl (lv_at hl 1 rfl) ?_
  exact tx_S (As := [.int x]) (rest := []) C0 hl hex hK hS hA hZ hE (t_ckCell l hnt g b0 s.heap x hn) gX2_high_X2_checkCell rfl ⟨rfl, rfl⟩ (show hd_ok yX2_checkCell 1 from ⟨by decide, by decide, by decide +kernel⟩) ⟨Nat.le_of_ble_eq_true rfl, Nat.le_of_ble_eq_true rfl⟩ rfl (Nat.le_of_ble_eq_true rfl) ⟨Nat.le_of_ble_eq_true rfl, Nat.le_of_ble_eq_true rfl⟩ dX2_high_1
abbrev rtX2_low_a : Room := { frames := 7, cells := 1, slots := 6, locals := 110 }
set_option maxHeartbeats 4000000 in
set_option maxRecDepth 100000 in
theorem t_xLow (l : Launch) (hnt : l.stackTraces = false) (g : Gx) (b0 : Nat) (H0 : Heap) (x0 lc tr tc sr sc : Nat) (i3 i4 i5 i6 : Int32) (V : Nat → Nat) (n : Nat) (t : Nat → Nat) (hL : CL g H0 x0 lc tr tc sr sc i3 i4 i5 i6 V n t) (x : Int32) (hn : ¬ isC x) : vx_Met l yX2_low wsX2_low rtX2_low_a (va_Pc [.ref x0, .int x] (hX g b0 H0)) xN (xQ nE1 H0) 1 6 (fun q => H0.size ≤ q) := by
  refine tx_met (own := RX2) (cc := cX2_low) (maxL := 2) (by decide) rfl rfl (Nat.le_of_ble_eq_true rfl) ?_
  intro p e s m below meth c ls C0 hB0 hex hl
  obtain ⟨⟨hH, hK, hZ⟩, hE⟩ := hB0
  obtain ⟨hx, hb, hr, hml, hown, hts, hlk⟩ := id C0
  subst hH
  have hS : va_S (fun q => s.heap.size ≤ q) s.heap s.heap [] := va_S.rf
  have hA : ∀ q : Nat, s.heap.size ≤ q → s.heap.size ≤ q := fun q h => h
  have h0Z := hZ.1
  have hAb : ∀ q : Nat, s.heap.size ≤ q → b0 ≤ q := fun q h => Nat.le_trans h0Z h
  have hl : lv_has ls 2 [(0, .ref x0), (1, .int x)] := hl
  obtain ⟨hC, hR, hSp, hap⟩ := id hL
  obtain ⟨hf, hfl, hlc, ⟨f, hg9, hfv⟩, hV, hxl⟩ := id hC
  refine lv_iload_n hx hb dX2_low_0 rfl (lv_at hl 1 rfl) ?_
  exact tx_S (As := [.int x]) (rest := []) C0 hl hex hK hS hA hZ hE (t_ckCell l hnt g b0 s.heap x hn) gX2_low_X2_checkCell rfl ⟨rfl, rfl⟩ (show hd_ok yX2_checkCell 1 from ⟨by decide, by decide, by decide +kernel⟩) ⟨Nat.le_of_ble_eq_true rfl, Nat.le_of_ble_eq_true rfl⟩ rfl (Nat.le_of_ble_eq_true rfl) ⟨Nat.le_of_ble_eq_true rfl, Nat.le_of_ble_eq_true rfl⟩ dX2_low_1
abbrev rtX2_read_a : Room := { frames := 7, cells := 1, slots := 6, locals := 110 }
set_option maxHeartbeats 4000000 in
set_option maxRecDepth 100000 in
theorem t_xRead1 (l : Launch) (hnt : l.stackTraces = false) (g : Gx) (b0 : Nat) (H0 : Heap) (x0 lc tr tc sr sc : Nat) (i3 i4 i5 i6 : Int32) (V : Nat → Nat) (n : Nat) (t : Nat → Nat) (hL : CL g H0 x0 lc tr tc sr sc i3 i4 i5 i6 V n t) (x : Int32) (y kd : Int32) (hn : ¬ isC x) : vx_Met l yX2_read wsX2_read rtX2_read_a (va_Pc [.ref x0, .int x, .int y, .int kd] (hX g b0 H0)) xN (xQ nE1 H0) 1 6 (fun q => H0.size ≤ q) := by
  refine tx_met (own := RX2) (cc := cX2_read) (maxL := 4) (by decide) rfl rfl (Nat.le_of_ble_eq_true rfl) ?_
  intro p e s m below meth c ls C0 hB0 hex hl
  obtain ⟨⟨hH, hK, hZ⟩, hE⟩ := hB0
  obtain ⟨hx, hb, hr, hml, hown, hts, hlk⟩ := id C0
  subst hH
  have hS : va_S (fun q => s.heap.size ≤ q) s.heap s.heap [] := va_S.rf
  have hA : ∀ q : Nat, s.heap.size ≤ q → s.heap.size ≤ q := fun q h => h
  have h0Z := hZ.1
  have hAb : ∀ q : Nat, s.heap.size ≤ q → b0 ≤ q := fun q h => Nat.le_trans h0Z h
  have hl : lv_has ls 4 [(0, .ref x0), (1, .int x), (2, .int y), (3, .int kd)] := hl
  obtain ⟨hC, hR, hSp, hap⟩ := id hL
  obtain ⟨hf, hfl, hlc, ⟨f, hg9, hfv⟩, hV, hxl⟩ := id hC
  refine lv_iload_n hx hb dX2_read_0 rfl (lv_at hl 1 rfl) ?_
  exact tx_S (As := [.int x]) (rest := []) C0 hl hex hK hS hA hZ hE (t_ckCell l hnt g b0 s.heap x hn) gX2_read_X2_checkCell rfl ⟨rfl, rfl⟩ (show hd_ok yX2_checkCell 1 from ⟨by decide, by decide, by decide +kernel⟩) ⟨Nat.le_of_ble_eq_true rfl, Nat.le_of_ble_eq_true rfl⟩ rfl (Nat.le_of_ble_eq_true rfl) ⟨Nat.le_of_ble_eq_true rfl, Nat.le_of_ble_eq_true rfl⟩ dX2_read_1
abbrev rtX2_write_a : Room := { frames := 7, cells := 1, slots := 6, locals := 110 }
set_option maxHeartbeats 4000000 in
set_option maxRecDepth 100000 in
theorem t_xWrite1 (l : Launch) (hnt : l.stackTraces = false) (g : Gx) (b0 : Nat) (H0 : Heap) (x0 lc tr tc sr sc : Nat) (i3 i4 i5 i6 : Int32) (V : Nat → Nat) (n : Nat) (t : Nat → Nat) (hL : CL g H0 x0 lc tr tc sr sc i3 i4 i5 i6 V n t) (x : Int32) (y kd : Int32) (hn : ¬ isC x) : vx_Met l yX2_write wsX2_write rtX2_write_a (va_Pc [.ref x0, .int x, .int y, .int kd] (hX g b0 H0)) xN (xQ nE1 H0) 1 6 (fun q => H0.size ≤ q) := by
  refine tx_met (own := RX2) (cc := cX2_write) (maxL := 4) (by decide) rfl rfl (Nat.le_of_ble_eq_true rfl) ?_
  intro p e s m below meth c ls C0 hB0 hex hl
  obtain ⟨⟨hH, hK, hZ⟩, hE⟩ := hB0
  obtain ⟨hx, hb, hr, hml, hown, hts, hlk⟩ := id C0
  subst hH
  have hS : va_S (fun q => s.heap.size ≤ q) s.heap s.heap [] := va_S.rf
  have hA : ∀ q : Nat, s.heap.size ≤ q → s.heap.size ≤ q := fun q h => h
  have h0Z := hZ.1
  have hAb : ∀ q : Nat, s.heap.size ≤ q → b0 ≤ q := fun q h => Nat.le_trans h0Z h
  have hl : lv_has ls 4 [(0, .ref x0), (1, .int x), (2, .int y), (3, .int kd)] := hl
  obtain ⟨hC, hR, hSp, hap⟩ := id hL
  obtain ⟨hf, hfl, hlc, ⟨f, hg9, hfv⟩, hV, hxl⟩ := id hC
  refine lv_iload_n hx hb dX2_write_0 rfl (lv_at hl 1 rfl) ?_
  exact tx_S (As := [.int x]) (rest := []) C0 hl hex hK hS hA hZ hE (t_ckCell l hnt g b0 s.heap x hn) gX2_write_X2_checkCell rfl ⟨rfl, rfl⟩ (show hd_ok yX2_checkCell 1 from ⟨by decide, by decide, by decide +kernel⟩) ⟨Nat.le_of_ble_eq_true rfl, Nat.le_of_ble_eq_true rfl⟩ rfl (Nat.le_of_ble_eq_true rfl) ⟨Nat.le_of_ble_eq_true rfl, Nat.le_of_ble_eq_true rfl⟩ dX2_write_1
abbrev rtX2_written_a : Room := { frames := 7, cells := 1, slots := 6, locals := 110 }
set_option maxHeartbeats 4000000 in
set_option maxRecDepth 100000 in
theorem t_xWritten1 (l : Launch) (hnt : l.stackTraces = false) (g : Gx) (b0 : Nat) (H0 : Heap) (x0 lc tr tc sr sc : Nat) (i3 i4 i5 i6 : Int32) (V : Nat → Nat) (n : Nat) (t : Nat → Nat) (hL : CL g H0 x0 lc tr tc sr sc i3 i4 i5 i6 V n t) (x : Int32) (y kd : Int32) (hn : ¬ isC x) : vx_Met l yX2_written wsX2_written rtX2_written_a (va_Pc [.ref x0, .int x, .int y, .int kd] (hX g b0 H0)) xN (xQ nE1 H0) 1 6 (fun q => H0.size ≤ q) := by
  refine tx_met (own := RX2) (cc := cX2_written) (maxL := 4) (by decide) rfl rfl (Nat.le_of_ble_eq_true rfl) ?_
  intro p e s m below meth c ls C0 hB0 hex hl
  obtain ⟨⟨hH, hK, hZ⟩, hE⟩ := hB0
  obtain ⟨hx, hb, hr, hml, hown, hts, hlk⟩ := id C0
  subst hH
  have hS : va_S (fun q => s.heap.size ≤ q) s.heap s.heap [] := va_S.rf
  have hA : ∀ q : Nat, s.heap.size ≤ q → s.heap.size ≤ q := fun q h => h
  have h0Z := hZ.1
  have hAb : ∀ q : Nat, s.heap.size ≤ q → b0 ≤ q := fun q h => Nat.le_trans h0Z h
  have hl : lv_has ls 4 [(0, .ref x0), (1, .int x), (2, .int y), (3, .int kd)] := hl
  obtain ⟨hC, hR, hSp, hap⟩ := id hL
  obtain ⟨hf, hfl, hlc, ⟨f, hg9, hfv⟩, hV, hxl⟩ := id hC
  refine lv_iload_n hx hb dX2_written_0 rfl (lv_at hl 1 rfl) ?_
  exact tx_S (As := [.int x]) (rest := []) C0 hl hex hK hS hA hZ hE (t_ckCell l hnt g b0 s.heap x hn) gX2_written_X2_checkCell rfl ⟨rfl, rfl⟩ (show hd_ok yX2_checkCell 1 from ⟨by decide, by decide, by decide +kernel⟩) ⟨Nat.le_of_ble_eq_true rfl, Nat.le_of_ble_eq_true rfl⟩ rfl (Nat.le_of_ble_eq_true rfl) ⟨Nat.le_of_ble_eq_true rfl, Nat.le_of_ble_eq_true rfl⟩ dX2_written_1
abbrev rtX2_bits_a : Room := { frames := 7, cells := 1, slots := 6, locals := 110 }
set_option maxHeartbeats 4000000 in
set_option maxRecDepth 100000 in
theorem t_xBits1 (l : Launch) (hnt : l.stackTraces = false) (g : Gx) (b0 : Nat) (H0 : Heap) (x0 lc tr tc sr sc : Nat) (i3 i4 i5 i6 : Int32) (V : Nat → Nat) (n : Nat) (t : Nat → Nat) (hL : CL g H0 x0 lc tr tc sr sc i3 i4 i5 i6 V n t) (x : Int32) (y : Int32) (zi : Bool) (hn : ¬ isC x) : vx_Met l yX2_bits wsX2_bits rtX2_bits_a (va_Pc [.ref x0, .int x, .int y, .int (bI zi)] (hX g b0 H0)) xN (xQ nE1 H0) 1 6 (fun q => H0.size ≤ q) := by
  refine tx_met (own := RX2) (cc := cX2_bits) (maxL := 4) (by decide) rfl rfl (Nat.le_of_ble_eq_true rfl) ?_
  intro p e s m below meth c ls C0 hB0 hex hl
  obtain ⟨⟨hH, hK, hZ⟩, hE⟩ := hB0
  obtain ⟨hx, hb, hr, hml, hown, hts, hlk⟩ := id C0
  subst hH
  have hS : va_S (fun q => s.heap.size ≤ q) s.heap s.heap [] := va_S.rf
  have hA : ∀ q : Nat, s.heap.size ≤ q → s.heap.size ≤ q := fun q h => h
  have h0Z := hZ.1
  have hAb : ∀ q : Nat, s.heap.size ≤ q → b0 ≤ q := fun q h => Nat.le_trans h0Z h
  have hl : lv_has ls 4 [(0, .ref x0), (1, .int x), (2, .int y), (3, .int (bI zi))] := hl
  obtain ⟨hC, hR, hSp, hap⟩ := id hL
  obtain ⟨hf, hfl, hlc, ⟨f, hg9, hfv⟩, hV, hxl⟩ := id hC
  refine lv_iload_n hx hb dX2_bits_0 rfl (lv_at hl 1 rfl) ?_
  exact tx_S (As := [.int x]) (rest := []) C0 hl hex hK hS hA hZ hE (t_ckCell l hnt g b0 s.heap x hn) gX2_bits_X2_checkCell rfl ⟨rfl, rfl⟩ (show hd_ok yX2_checkCell 1 from ⟨by decide, by decide, by decide +kernel⟩) ⟨Nat.le_of_ble_eq_true rfl, Nat.le_of_ble_eq_true rfl⟩ rfl (Nat.le_of_ble_eq_true rfl) ⟨Nat.le_of_ble_eq_true rfl, Nat.le_of_ble_eq_true rfl⟩ dX2_bits_1
abbrev rtX2_count_a : Room := { frames := 7, cells := 1, slots := 6, locals := 110 }
set_option maxHeartbeats 4000000 in
set_option maxRecDepth 100000 in
theorem t_xCount1 (l : Launch) (hnt : l.stackTraces = false) (g : Gx) (b0 : Nat) (H0 : Heap) (x0 lc tr tc sr sc : Nat) (i3 i4 i5 i6 : Int32) (V : Nat → Nat) (n : Nat) (t : Nat → Nat) (hL : CL g H0 x0 lc tr tc sr sc i3 i4 i5 i6 V n t) (x : Int32) (y : Int32) (zi : Bool) (hn : ¬ isC x) : vx_Met l yX2_count wsX2_count rtX2_count_a (va_Pc [.ref x0, .int x, .int y, .int (bI zi)] (hX g b0 H0)) xN (xQ nE1 H0) 1 6 (fun q => H0.size ≤ q) := by
  refine tx_met (own := RX2) (cc := cX2_count) (maxL := 4) (by decide) rfl rfl (Nat.le_of_ble_eq_true rfl) ?_
  intro p e s m below meth c ls C0 hB0 hex hl
  obtain ⟨⟨hH, hK, hZ⟩, hE⟩ := hB0
  obtain ⟨hx, hb, hr, hml, hown, hts, hlk⟩ := id C0
  subst hH
  have hS : va_S (fun q => s.heap.size ≤ q) s.heap s.heap [] := va_S.rf
  have hA : ∀ q : Nat, s.heap.size ≤ q → s.heap.size ≤ q := fun q h => h
  have h0Z := hZ.1
  have hAb : ∀ q : Nat, s.heap.size ≤ q → b0 ≤ q := fun q h => Nat.le_trans h0Z h
  have hl : lv_has ls 4 [(0, .ref x0), (1, .int x), (2, .int y), (3, .int (bI zi))] := hl
  obtain ⟨hC, hR, hSp, hap⟩ := id hL
  obtain ⟨hf, hfl, hlc, ⟨f, hg9, hfv⟩, hV, hxl⟩ := id hC
  refine lv_iload_n hx hb dX2_count_0 rfl (lv_at hl 1 rfl) ?_
  exact tx_S (As := [.int x]) (rest := []) C0 hl hex hK hS hA hZ hE (t_ckCell l hnt g b0 s.heap x hn) gX2_count_X2_checkCell rfl ⟨rfl, rfl⟩ (show hd_ok yX2_checkCell 1 from ⟨by decide, by decide, by decide +kernel⟩) ⟨Nat.le_of_ble_eq_true rfl, Nat.le_of_ble_eq_true rfl⟩ rfl (Nat.le_of_ble_eq_true rfl) ⟨Nat.le_of_ble_eq_true rfl, Nat.le_of_ble_eq_true rfl⟩ dX2_count_1
abbrev rtX2_copy_a : Room := { frames := 7, cells := 1, slots := 6, locals := 110 }
set_option maxHeartbeats 4000000 in
set_option maxRecDepth 100000 in
theorem t_xCopy (l : Launch) (hnt : l.stackTraces = false) (g : Gx) (b0 : Nat) (H0 : Heap) (x0 lc tr tc sr sc : Nat) (i3 i4 i5 i6 : Int32) (V : Nat → Nat) (n : Nat) (t : Nat → Nat) (hL : CL g H0 x0 lc tr tc sr sc i3 i4 i5 i6 V n t) (x y : Int32) (hn : ¬ (isC x ∧ isC y)) : vx_Met l yX2_copy wsX2_copy rtX2_copy_a (va_Pc [.ref x0, .int x, .int y] (hX g b0 H0)) xN (xQ nE1 H0) 1 6 (fun q => H0.size ≤ q) := by
  refine tx_met (own := RX2) (cc := cX2_copy) (maxL := 3) (by decide) rfl rfl (Nat.le_of_ble_eq_true rfl) ?_
  intro p e s m below meth c ls C0 hB0 hex hl
  obtain ⟨⟨hH, hK, hZ⟩, hE⟩ := hB0
  obtain ⟨hx, hb, hr, hml, hown, hts, hlk⟩ := id C0
  subst hH
  have hS : va_S (fun q => s.heap.size ≤ q) s.heap s.heap [] := va_S.rf
  have hA : ∀ q : Nat, s.heap.size ≤ q → s.heap.size ≤ q := fun q h => h
  have h0Z := hZ.1
  have hAb : ∀ q : Nat, s.heap.size ≤ q → b0 ≤ q := fun q h => Nat.le_trans h0Z h
  have hl : lv_has ls 3 [(0, .ref x0), (1, .int x), (2, .int y)] := hl
  obtain ⟨hC, hR, hSp, hap⟩ := id hL
  obtain ⟨hf, hfl, hlc, ⟨f, hg9, hfv⟩, hV, hxl⟩ := id hC
  by_cases hq : isC x
  · skip
    obtain ⟨i, hi, rfl⟩ := cell_of hq
    refine lv_iload_n hx hb dX2_copy_0 rfl (lv_at hl 1 rfl) ?_
    refine cp_S (As := [.int (nI i)]) (rest := []) C0 hl hK hS hA (c_ckCell l g s.heap i hi) gX2_copy_X2_checkCell rfl ⟨rfl, rfl⟩ (show hd_ok yX2_checkCell 1 from ⟨by decide, by decide, by decide +kernel⟩) ⟨Nat.le_of_ble_eq_true rfl, Nat.le_of_ble_eq_true rfl⟩ rfl (Nat.le_of_ble_eq_true rfl) ⟨Nat.zero_le _, Nat.zero_le _⟩ dX2_copy_1 (fun locs hS => ?_)
    refine lv_iload_n hx hb dX2_copy_4 rfl (lv_at hl 2 rfl) ?_
    exact tx_S (As := [.int y]) (rest := []) C0 hl hex hK hS hA hZ hE (t_ckCell l hnt g b0 s.heap y (fun z => hn ⟨hq, z⟩)) gX2_copy_X2_checkCell rfl ⟨rfl, rfl⟩ (show hd_ok yX2_checkCell 1 from ⟨by decide, by decide, by decide +kernel⟩) ⟨Nat.le_of_ble_eq_true rfl, Nat.le_of_ble_eq_true rfl⟩ rfl (Nat.le_of_ble_eq_true rfl) ⟨Nat.le_of_ble_eq_true rfl, Nat.le_of_ble_eq_true rfl⟩ dX2_copy_5
  · skip
    refine lv_iload_n hx hb dX2_copy_0 rfl (lv_at hl 1 rfl) ?_
    exact tx_S (As := [.int x]) (rest := []) C0 hl hex hK hS hA hZ hE (t_ckCell l hnt g b0 s.heap x hq) gX2_copy_X2_checkCell rfl ⟨rfl, rfl⟩ (show hd_ok yX2_checkCell 1 from ⟨by decide, by decide, by decide +kernel⟩) ⟨Nat.le_of_ble_eq_true rfl, Nat.le_of_ble_eq_true rfl⟩ rfl (Nat.le_of_ble_eq_true rfl) ⟨Nat.le_of_ble_eq_true rfl, Nat.le_of_ble_eq_true rfl⟩ dX2_copy_1
abbrev rtX2_divide_a : Room := { frames := 7, cells := 1, slots := 6, locals := 110 }
set_option maxHeartbeats 4000000 in
set_option maxRecDepth 100000 in
theorem t_xDivide1 (l : Launch) (hnt : l.stackTraces = false) (g : Gx) (b0 : Nat) (H0 : Heap) (x0 lc tr tc sr sc : Nat) (i3 i4 i5 i6 : Int32) (V : Nat → Nat) (n : Nat) (t : Nat → Nat) (hL : CL g H0 x0 lc tr tc sr sc i3 i4 i5 i6 V n t) (x y : Int32) (zi : Bool) (hn : ¬ (isC x ∧ isC y)) : vx_Met l yX2_divide wsX2_divide rtX2_divide_a (va_Pc [.ref x0, .int x, .int y, .int (bI zi)] (hX g b0 H0)) xN (xQ nE1 H0) 1 6 (fun q => H0.size ≤ q) := by
  refine tx_met (own := RX2) (cc := cX2_divide) (maxL := 10) (by decide) rfl rfl (Nat.le_of_ble_eq_true rfl) ?_
  intro p e s m below meth c ls C0 hB0 hex hl
  obtain ⟨⟨hH, hK, hZ⟩, hE⟩ := hB0
  obtain ⟨hx, hb, hr, hml, hown, hts, hlk⟩ := id C0
  subst hH
  have hS : va_S (fun q => s.heap.size ≤ q) s.heap s.heap [] := va_S.rf
  have hA : ∀ q : Nat, s.heap.size ≤ q → s.heap.size ≤ q := fun q h => h
  have h0Z := hZ.1
  have hAb : ∀ q : Nat, s.heap.size ≤ q → b0 ≤ q := fun q h => Nat.le_trans h0Z h
  have hl : lv_has ls 10 [(0, .ref x0), (1, .int x), (2, .int y), (3, .int (bI zi))] := hl
  obtain ⟨hC, hR, hSp, hap⟩ := id hL
  obtain ⟨hf, hfl, hlc, ⟨f, hg9, hfv⟩, hV, hxl⟩ := id hC
  by_cases hq : isC x
  · skip
    obtain ⟨i, hi, rfl⟩ := cell_of hq
    refine lv_iload_n hx hb dX2_divide_0 rfl (lv_at hl 1 rfl) ?_
    refine cp_S (As := [.int (nI i)]) (rest := []) C0 hl hK hS hA (c_ckCell l g s.heap i hi) gX2_divide_X2_checkCell rfl ⟨rfl, rfl⟩ (show hd_ok yX2_checkCell 1 from ⟨by decide, by decide, by decide +kernel⟩) ⟨Nat.le_of_ble_eq_true rfl, Nat.le_of_ble_eq_true rfl⟩ rfl (Nat.le_of_ble_eq_true rfl) ⟨Nat.zero_le _, Nat.zero_le _⟩ dX2_divide_1 (fun locs hS => ?_)
    refine lv_iload_n hx hb dX2_divide_4 rfl (lv_at hl 2 rfl) ?_
    exact tx_S (As := [.int y]) (rest := []) C0 hl hex hK hS hA hZ hE (t_ckCell l hnt g b0 s.heap y (fun z => hn ⟨hq, z⟩)) gX2_divide_X2_checkCell rfl ⟨rfl, rfl⟩ (show hd_ok yX2_checkCell 1 from ⟨by decide, by decide, by decide +kernel⟩) ⟨Nat.le_of_ble_eq_true rfl, Nat.le_of_ble_eq_true rfl⟩ rfl (Nat.le_of_ble_eq_true rfl) ⟨Nat.le_of_ble_eq_true rfl, Nat.le_of_ble_eq_true rfl⟩ dX2_divide_5
  · skip
    refine lv_iload_n hx hb dX2_divide_0 rfl (lv_at hl 1 rfl) ?_
    exact tx_S (As := [.int x]) (rest := []) C0 hl hex hK hS hA hZ hE (t_ckCell l hnt g b0 s.heap x hq) gX2_divide_X2_checkCell rfl ⟨rfl, rfl⟩ (show hd_ok yX2_checkCell 1 from ⟨by decide, by decide, by decide +kernel⟩) ⟨Nat.le_of_ble_eq_true rfl, Nat.le_of_ble_eq_true rfl⟩ rfl (Nat.le_of_ble_eq_true rfl) ⟨Nat.le_of_ble_eq_true rfl, Nat.le_of_ble_eq_true rfl⟩ dX2_divide_1
abbrev rtX2_rest_a : Room := { frames := 7, cells := 1, slots := 6, locals := 110 }
set_option maxHeartbeats 4000000 in
set_option maxRecDepth 100000 in
theorem t_xRest1 (l : Launch) (hnt : l.stackTraces = false) (g : Gx) (b0 : Nat) (H0 : Heap) (x0 lc tr tc sr sc : Nat) (i3 i4 i5 i6 : Int32) (V : Nat → Nat) (n : Nat) (t : Nat → Nat) (hL : CL g H0 x0 lc tr tc sr sc i3 i4 i5 i6 V n t) (x y : Int32) (zi : Bool) (hn : ¬ (isC x ∧ isC y)) : vx_Met l yX2_rest wsX2_rest rtX2_rest_a (va_Pc [.ref x0, .int x, .int y, .int (bI zi)] (hX g b0 H0)) xN (xQ nE1 H0) 1 6 (fun q => H0.size ≤ q) := by
  refine tx_met (own := RX2) (cc := cX2_rest) (maxL := 10) (by decide) rfl rfl (Nat.le_of_ble_eq_true rfl) ?_
  intro p e s m below meth c ls C0 hB0 hex hl
  obtain ⟨⟨hH, hK, hZ⟩, hE⟩ := hB0
  obtain ⟨hx, hb, hr, hml, hown, hts, hlk⟩ := id C0
  subst hH
  have hS : va_S (fun q => s.heap.size ≤ q) s.heap s.heap [] := va_S.rf
  have hA : ∀ q : Nat, s.heap.size ≤ q → s.heap.size ≤ q := fun q h => h
  have h0Z := hZ.1
  have hAb : ∀ q : Nat, s.heap.size ≤ q → b0 ≤ q := fun q h => Nat.le_trans h0Z h
  have hl : lv_has ls 10 [(0, .ref x0), (1, .int x), (2, .int y), (3, .int (bI zi))] := hl
  obtain ⟨hC, hR, hSp, hap⟩ := id hL
  obtain ⟨hf, hfl, hlc, ⟨f, hg9, hfv⟩, hV, hxl⟩ := id hC
  by_cases hq : isC x
  · skip
    obtain ⟨i, hi, rfl⟩ := cell_of hq
    refine lv_iload_n hx hb dX2_rest_0 rfl (lv_at hl 1 rfl) ?_
    refine cp_S (As := [.int (nI i)]) (rest := []) C0 hl hK hS hA (c_ckCell l g s.heap i hi) gX2_rest_X2_checkCell rfl ⟨rfl, rfl⟩ (show hd_ok yX2_checkCell 1 from ⟨by decide, by decide, by decide +kernel⟩) ⟨Nat.le_of_ble_eq_true rfl, Nat.le_of_ble_eq_true rfl⟩ rfl (Nat.le_of_ble_eq_true rfl) ⟨Nat.zero_le _, Nat.zero_le _⟩ dX2_rest_1 (fun locs hS => ?_)
    refine lv_iload_n hx hb dX2_rest_4 rfl (lv_at hl 2 rfl) ?_
    exact tx_S (As := [.int y]) (rest := []) C0 hl hex hK hS hA hZ hE (t_ckCell l hnt g b0 s.heap y (fun z => hn ⟨hq, z⟩)) gX2_rest_X2_checkCell rfl ⟨rfl, rfl⟩ (show hd_ok yX2_checkCell 1 from ⟨by decide, by decide, by decide +kernel⟩) ⟨Nat.le_of_ble_eq_true rfl, Nat.le_of_ble_eq_true rfl⟩ rfl (Nat.le_of_ble_eq_true rfl) ⟨Nat.le_of_ble_eq_true rfl, Nat.le_of_ble_eq_true rfl⟩ dX2_rest_5
  · skip
    refine lv_iload_n hx hb dX2_rest_0 rfl (lv_at hl 1 rfl) ?_
    exact tx_S (As := [.int x]) (rest := []) C0 hl hex hK hS hA hZ hE (t_ckCell l hnt g b0 s.heap x hq) gX2_rest_X2_checkCell rfl ⟨rfl, rfl⟩ (show hd_ok yX2_checkCell 1 from ⟨by decide, by decide, by decide +kernel⟩) ⟨Nat.le_of_ble_eq_true rfl, Nat.le_of_ble_eq_true rfl⟩ rfl (Nat.le_of_ble_eq_true rfl) ⟨Nat.le_of_ble_eq_true rfl, Nat.le_of_ble_eq_true rfl⟩ dX2_rest_1
abbrev rtX2_compare_a : Room := { frames := 7, cells := 1, slots := 6, locals := 110 }
set_option maxHeartbeats 4000000 in
set_option maxRecDepth 100000 in
theorem t_xCompare (l : Launch) (hnt : l.stackTraces = false) (g : Gx) (b0 : Nat) (H0 : Heap) (x0 lc tr tc sr sc : Nat) (i3 i4 i5 i6 : Int32) (V : Nat → Nat) (n : Nat) (t : Nat → Nat) (hL : CL g H0 x0 lc tr tc sr sc i3 i4 i5 i6 V n t) (x y : Int32) (zu zi : Bool) (hn : ¬ (isC x ∧ isC y)) : vx_Met l yX2_compare wsX2_compare rtX2_compare_a (va_Pc [.ref x0, .int x, .int y, .int (bI zu), .int (bI zi)] (hX g b0 H0)) xN (xQ nE1 H0) 1 6 (fun q => H0.size ≤ q) := by
  refine tx_met (own := RX2) (cc := cX2_compare) (maxL := 10) (by decide) rfl rfl (Nat.le_of_ble_eq_true rfl) ?_
  intro p e s m below meth c ls C0 hB0 hex hl
  obtain ⟨⟨hH, hK, hZ⟩, hE⟩ := hB0
  obtain ⟨hx, hb, hr, hml, hown, hts, hlk⟩ := id C0
  subst hH
  have hS : va_S (fun q => s.heap.size ≤ q) s.heap s.heap [] := va_S.rf
  have hA : ∀ q : Nat, s.heap.size ≤ q → s.heap.size ≤ q := fun q h => h
  have h0Z := hZ.1
  have hAb : ∀ q : Nat, s.heap.size ≤ q → b0 ≤ q := fun q h => Nat.le_trans h0Z h
  have hl : lv_has ls 10 [(0, .ref x0), (1, .int x), (2, .int y), (3, .int (bI zu)), (4, .int (bI zi))] := hl
  obtain ⟨hC, hR, hSp, hap⟩ := id hL
  obtain ⟨hf, hfl, hlc, ⟨f, hg9, hfv⟩, hV, hxl⟩ := id hC
  by_cases hq : isC x
  · skip
    obtain ⟨i, hi, rfl⟩ := cell_of hq
    refine lv_iload_n hx hb dX2_compare_0 rfl (lv_at hl 1 rfl) ?_
    refine cp_S (As := [.int (nI i)]) (rest := []) C0 hl hK hS hA (c_ckCell l g s.heap i hi) gX2_compare_X2_checkCell rfl ⟨rfl, rfl⟩ (show hd_ok yX2_checkCell 1 from ⟨by decide, by decide, by decide +kernel⟩) ⟨Nat.le_of_ble_eq_true rfl, Nat.le_of_ble_eq_true rfl⟩ rfl (Nat.le_of_ble_eq_true rfl) ⟨Nat.zero_le _, Nat.zero_le _⟩ dX2_compare_1 (fun locs hS => ?_)
    refine lv_iload_n hx hb dX2_compare_4 rfl (lv_at hl 2 rfl) ?_
    exact tx_S (As := [.int y]) (rest := []) C0 hl hex hK hS hA hZ hE (t_ckCell l hnt g b0 s.heap y (fun z => hn ⟨hq, z⟩)) gX2_compare_X2_checkCell rfl ⟨rfl, rfl⟩ (show hd_ok yX2_checkCell 1 from ⟨by decide, by decide, by decide +kernel⟩) ⟨Nat.le_of_ble_eq_true rfl, Nat.le_of_ble_eq_true rfl⟩ rfl (Nat.le_of_ble_eq_true rfl) ⟨Nat.le_of_ble_eq_true rfl, Nat.le_of_ble_eq_true rfl⟩ dX2_compare_5
  · skip
    refine lv_iload_n hx hb dX2_compare_0 rfl (lv_at hl 1 rfl) ?_
    exact tx_S (As := [.int x]) (rest := []) C0 hl hex hK hS hA hZ hE (t_ckCell l hnt g b0 s.heap x hq) gX2_compare_X2_checkCell rfl ⟨rfl, rfl⟩ (show hd_ok yX2_checkCell 1 from ⟨by decide, by decide, by decide +kernel⟩) ⟨Nat.le_of_ble_eq_true rfl, Nat.le_of_ble_eq_true rfl⟩ rfl (Nat.le_of_ble_eq_true rfl) ⟨Nat.le_of_ble_eq_true rfl, Nat.le_of_ble_eq_true rfl⟩ dX2_compare_1
abbrev rtX2_join_a : Room := { frames := 7, cells := 1, slots := 6, locals := 110 }
set_option maxHeartbeats 4000000 in
set_option maxRecDepth 100000 in
theorem t_xJoin1 (l : Launch) (hnt : l.stackTraces = false) (g : Gx) (b0 : Nat) (H0 : Heap) (x0 lc tr tc sr sc : Nat) (i3 i4 i5 i6 : Int32) (V : Nat → Nat) (n : Nat) (t : Nat → Nat) (hL : CL g H0 x0 lc tr tc sr sc i3 i4 i5 i6 V n t) (x y : Int32) (k : Int32) (zi : Bool) (hn : ¬ (isC x ∧ isC y)) : vx_Met l yX2_join wsX2_join rtX2_join_a (va_Pc [.ref x0, .int x, .int y, .int k, .int (bI zi)] (hX g b0 H0)) xN (xQ nE1 H0) 1 6 (fun q => H0.size ≤ q) := by
  refine tx_met (own := RX2) (cc := cX2_join) (maxL := 11) (by decide) rfl rfl (Nat.le_of_ble_eq_true rfl) ?_
  intro p e s m below meth c ls C0 hB0 hex hl
  obtain ⟨⟨hH, hK, hZ⟩, hE⟩ := hB0
  obtain ⟨hx, hb, hr, hml, hown, hts, hlk⟩ := id C0
  subst hH
  have hS : va_S (fun q => s.heap.size ≤ q) s.heap s.heap [] := va_S.rf
  have hA : ∀ q : Nat, s.heap.size ≤ q → s.heap.size ≤ q := fun q h => h
  have h0Z := hZ.1
  have hAb : ∀ q : Nat, s.heap.size ≤ q → b0 ≤ q := fun q h => Nat.le_trans h0Z h
  have hl : lv_has ls 11 [(0, .ref x0), (1, .int x), (2, .int y), (3, .int k), (4, .int (bI zi))] := hl
  obtain ⟨hC, hR, hSp, hap⟩ := id hL
  obtain ⟨hf, hfl, hlc, ⟨f, hg9, hfv⟩, hV, hxl⟩ := id hC
  by_cases hq : isC x
  · skip
    obtain ⟨i, hi, rfl⟩ := cell_of hq
    refine lv_iload_n hx hb dX2_join_0 rfl (lv_at hl 1 rfl) ?_
    refine cp_S (As := [.int (nI i)]) (rest := []) C0 hl hK hS hA (c_ckCell l g s.heap i hi) gX2_join_X2_checkCell rfl ⟨rfl, rfl⟩ (show hd_ok yX2_checkCell 1 from ⟨by decide, by decide, by decide +kernel⟩) ⟨Nat.le_of_ble_eq_true rfl, Nat.le_of_ble_eq_true rfl⟩ rfl (Nat.le_of_ble_eq_true rfl) ⟨Nat.zero_le _, Nat.zero_le _⟩ dX2_join_1 (fun locs hS => ?_)
    refine lv_iload_n hx hb dX2_join_4 rfl (lv_at hl 2 rfl) ?_
    exact tx_S (As := [.int y]) (rest := []) C0 hl hex hK hS hA hZ hE (t_ckCell l hnt g b0 s.heap y (fun z => hn ⟨hq, z⟩)) gX2_join_X2_checkCell rfl ⟨rfl, rfl⟩ (show hd_ok yX2_checkCell 1 from ⟨by decide, by decide, by decide +kernel⟩) ⟨Nat.le_of_ble_eq_true rfl, Nat.le_of_ble_eq_true rfl⟩ rfl (Nat.le_of_ble_eq_true rfl) ⟨Nat.le_of_ble_eq_true rfl, Nat.le_of_ble_eq_true rfl⟩ dX2_join_5
  · skip
    refine lv_iload_n hx hb dX2_join_0 rfl (lv_at hl 1 rfl) ?_
    exact tx_S (As := [.int x]) (rest := []) C0 hl hex hK hS hA hZ hE (t_ckCell l hnt g b0 s.heap x hq) gX2_join_X2_checkCell rfl ⟨rfl, rfl⟩ (show hd_ok yX2_checkCell 1 from ⟨by decide, by decide, by decide +kernel⟩) ⟨Nat.le_of_ble_eq_true rfl, Nat.le_of_ble_eq_true rfl⟩ rfl (Nat.le_of_ble_eq_true rfl) ⟨Nat.le_of_ble_eq_true rfl, Nat.le_of_ble_eq_true rfl⟩ dX2_join_1
abbrev rtX2_read_b : Room := { frames := 8, cells := 1, slots := 6, locals := 132 }
set_option maxHeartbeats 4000000 in
set_option maxRecDepth 100000 in
theorem t_xRead2 (l : Launch) (hnt : l.stackTraces = false) (g : Gx) (b0 : Nat) (H0 : Heap) (x0 lc tr tc sr sc : Nat) (i3 i4 i5 i6 : Int32) (V : Nat → Nat) (n : Nat) (t : Nat → Nat) (hL : CL g H0 x0 lc tr tc sr sc i3 i4 i5 i6 V n t) (i : Nat) (hi : i < 8) (y kd : Int32) (hn : ¬ ((nI 2 ≤ y ∧ y ≤ nI 36) ∧ nI 0 ≤ kd ∧ kd ≤ nI 3)) : vx_Met l yX2_read wsX2_read rtX2_read_b (va_Pc [.ref x0, .int (nI i), .int y, .int kd] (hX g b0 H0)) xN (xQ nE2 H0) 1 6 (fun q => H0.size ≤ q) := by
  refine tx_met (own := RX2) (cc := cX2_read) (maxL := 4) (by decide) rfl rfl (Nat.le_of_ble_eq_true rfl) ?_
  intro p e s m below meth c ls C0 hB0 hex hl
  obtain ⟨⟨hH, hK, hZ⟩, hE⟩ := hB0
  obtain ⟨hx, hb, hr, hml, hown, hts, hlk⟩ := id C0
  subst hH
  have hS : va_S (fun q => s.heap.size ≤ q) s.heap s.heap [] := va_S.rf
  have hA : ∀ q : Nat, s.heap.size ≤ q → s.heap.size ≤ q := fun q h => h
  have h0Z := hZ.1
  have hAb : ∀ q : Nat, s.heap.size ≤ q → b0 ≤ q := fun q h => Nat.le_trans h0Z h
  have hl : lv_has ls 4 [(0, .ref x0), (1, .int (nI i)), (2, .int y), (3, .int kd)] := hl
  obtain ⟨hC, hR, hSp, hap⟩ := id hL
  obtain ⟨hf, hfl, hlc, ⟨f, hg9, hfv⟩, hV, hxl⟩ := id hC
  refine lv_iload_n hx hb dX2_read_0 rfl (lv_at hl 1 rfl) ?_
  refine cp_S (As := [.int (nI i)]) (rest := []) C0 hl hK hS hA (c_ckCell l g s.heap i hi) gX2_read_X2_checkCell rfl ⟨rfl, rfl⟩ (show hd_ok yX2_checkCell 1 from ⟨by decide, by decide, by decide +kernel⟩) ⟨Nat.le_of_ble_eq_true rfl, Nat.le_of_ble_eq_true rfl⟩ rfl (Nat.le_of_ble_eq_true rfl) ⟨Nat.zero_le _, Nat.zero_le _⟩ dX2_read_1 (fun locs hS => ?_)
  refine lv_iload_n hx hb dX2_read_4 rfl (lv_at hl 2 rfl) ?_
  refine lv_iload_n hx hb dX2_read_5 rfl (lv_at hl 3 rfl) ?_
  exact tx_S (As := [.int y, .int kd]) (rest := []) C0 hl hex hK hS hA hZ hE (t_ckRK l hnt g b0 s.heap y kd hn) gX2_read_X2_checkRadixAndKind rfl ⟨rfl, rfl⟩ (show hd_ok yX2_checkRadixAndKind 2 from ⟨by decide, by decide, by decide +kernel⟩) ⟨Nat.le_of_ble_eq_true rfl, Nat.le_of_ble_eq_true rfl⟩ rfl (Nat.le_of_ble_eq_true rfl) ⟨Nat.le_of_ble_eq_true rfl, Nat.le_of_ble_eq_true rfl⟩ dX2_read_6
abbrev rtX2_write_b : Room := { frames := 8, cells := 1, slots := 6, locals := 132 }
set_option maxHeartbeats 4000000 in
set_option maxRecDepth 100000 in
theorem t_xWrite2 (l : Launch) (hnt : l.stackTraces = false) (g : Gx) (b0 : Nat) (H0 : Heap) (x0 lc tr tc sr sc : Nat) (i3 i4 i5 i6 : Int32) (V : Nat → Nat) (n : Nat) (t : Nat → Nat) (hL : CL g H0 x0 lc tr tc sr sc i3 i4 i5 i6 V n t) (i : Nat) (hi : i < 8) (y kd : Int32) (hn : ¬ ((nI 2 ≤ y ∧ y ≤ nI 36) ∧ nI 0 ≤ kd ∧ kd ≤ nI 3)) : vx_Met l yX2_write wsX2_write rtX2_write_b (va_Pc [.ref x0, .int (nI i), .int y, .int kd] (hX g b0 H0)) xN (xQ nE2 H0) 1 6 (fun q => H0.size ≤ q) := by
  refine tx_met (own := RX2) (cc := cX2_write) (maxL := 4) (by decide) rfl rfl (Nat.le_of_ble_eq_true rfl) ?_
  intro p e s m below meth c ls C0 hB0 hex hl
  obtain ⟨⟨hH, hK, hZ⟩, hE⟩ := hB0
  obtain ⟨hx, hb, hr, hml, hown, hts, hlk⟩ := id C0
  subst hH
  have hS : va_S (fun q => s.heap.size ≤ q) s.heap s.heap [] := va_S.rf
  have hA : ∀ q : Nat, s.heap.size ≤ q → s.heap.size ≤ q := fun q h => h
  have h0Z := hZ.1
  have hAb : ∀ q : Nat, s.heap.size ≤ q → b0 ≤ q := fun q h => Nat.le_trans h0Z h
  have hl : lv_has ls 4 [(0, .ref x0), (1, .int (nI i)), (2, .int y), (3, .int kd)] := hl
  obtain ⟨hC, hR, hSp, hap⟩ := id hL
  obtain ⟨hf, hfl, hlc, ⟨f, hg9, hfv⟩, hV, hxl⟩ := id hC
  refine lv_iload_n hx hb dX2_write_0 rfl (lv_at hl 1 rfl) ?_
  refine cp_S (As := [.int (nI i)]) (rest := []) C0 hl hK hS hA (c_ckCell l g s.heap i hi) gX2_write_X2_checkCell rfl ⟨rfl, rfl⟩ (show hd_ok yX2_checkCell 1 from ⟨by decide, by decide, by decide +kernel⟩) ⟨Nat.le_of_ble_eq_true rfl, Nat.le_of_ble_eq_true rfl⟩ rfl (Nat.le_of_ble_eq_true rfl) ⟨Nat.zero_le _, Nat.zero_le _⟩ dX2_write_1 (fun locs hS => ?_)
  refine lv_iload_n hx hb dX2_write_4 rfl (lv_at hl 2 rfl) ?_
  refine lv_iload_n hx hb dX2_write_5 rfl (lv_at hl 3 rfl) ?_
  exact tx_S (As := [.int y, .int kd]) (rest := []) C0 hl hex hK hS hA hZ hE (t_ckRK l hnt g b0 s.heap y kd hn) gX2_write_X2_checkRadixAndKind rfl ⟨rfl, rfl⟩ (show hd_ok yX2_checkRadixAndKind 2 from ⟨by decide, by decide, by decide +kernel⟩) ⟨Nat.le_of_ble_eq_true rfl, Nat.le_of_ble_eq_true rfl⟩ rfl (Nat.le_of_ble_eq_true rfl) ⟨Nat.le_of_ble_eq_true rfl, Nat.le_of_ble_eq_true rfl⟩ dX2_write_6
abbrev rtX2_written_b : Room := { frames := 8, cells := 1, slots := 6, locals := 132 }
set_option maxHeartbeats 4000000 in
set_option maxRecDepth 100000 in
theorem t_xWritten2 (l : Launch) (hnt : l.stackTraces = false) (g : Gx) (b0 : Nat) (H0 : Heap) (x0 lc tr tc sr sc : Nat) (i3 i4 i5 i6 : Int32) (V : Nat → Nat) (n : Nat) (t : Nat → Nat) (hL : CL g H0 x0 lc tr tc sr sc i3 i4 i5 i6 V n t) (i : Nat) (hi : i < 8) (y kd : Int32) (hn : ¬ ((nI 2 ≤ y ∧ y ≤ nI 36) ∧ nI 0 ≤ kd ∧ kd ≤ nI 3)) : vx_Met l yX2_written wsX2_written rtX2_written_b (va_Pc [.ref x0, .int (nI i), .int y, .int kd] (hX g b0 H0)) xN (xQ nE2 H0) 1 6 (fun q => H0.size ≤ q) := by
  refine tx_met (own := RX2) (cc := cX2_written) (maxL := 4) (by decide) rfl rfl (Nat.le_of_ble_eq_true rfl) ?_
  intro p e s m below meth c ls C0 hB0 hex hl
  obtain ⟨⟨hH, hK, hZ⟩, hE⟩ := hB0
  obtain ⟨hx, hb, hr, hml, hown, hts, hlk⟩ := id C0
  subst hH
  have hS : va_S (fun q => s.heap.size ≤ q) s.heap s.heap [] := va_S.rf
  have hA : ∀ q : Nat, s.heap.size ≤ q → s.heap.size ≤ q := fun q h => h
  have h0Z := hZ.1
  have hAb : ∀ q : Nat, s.heap.size ≤ q → b0 ≤ q := fun q h => Nat.le_trans h0Z h
  have hl : lv_has ls 4 [(0, .ref x0), (1, .int (nI i)), (2, .int y), (3, .int kd)] := hl
  obtain ⟨hC, hR, hSp, hap⟩ := id hL
  obtain ⟨hf, hfl, hlc, ⟨f, hg9, hfv⟩, hV, hxl⟩ := id hC
  refine lv_iload_n hx hb dX2_written_0 rfl (lv_at hl 1 rfl) ?_
  refine cp_S (As := [.int (nI i)]) (rest := []) C0 hl hK hS hA (c_ckCell l g s.heap i hi) gX2_written_X2_checkCell rfl ⟨rfl, rfl⟩ (show hd_ok yX2_checkCell 1 from ⟨by decide, by decide, by decide +kernel⟩) ⟨Nat.le_of_ble_eq_true rfl, Nat.le_of_ble_eq_true rfl⟩ rfl (Nat.le_of_ble_eq_true rfl) ⟨Nat.zero_le _, Nat.zero_le _⟩ dX2_written_1 (fun locs hS => ?_)
  refine lv_iload_n hx hb dX2_written_4 rfl (lv_at hl 2 rfl) ?_
  refine lv_iload_n hx hb dX2_written_5 rfl (lv_at hl 3 rfl) ?_
  exact tx_S (As := [.int y, .int kd]) (rest := []) C0 hl hex hK hS hA hZ hE (t_ckRK l hnt g b0 s.heap y kd hn) gX2_written_X2_checkRadixAndKind rfl ⟨rfl, rfl⟩ (show hd_ok yX2_checkRadixAndKind 2 from ⟨by decide, by decide, by decide +kernel⟩) ⟨Nat.le_of_ble_eq_true rfl, Nat.le_of_ble_eq_true rfl⟩ rfl (Nat.le_of_ble_eq_true rfl) ⟨Nat.le_of_ble_eq_true rfl, Nat.le_of_ble_eq_true rfl⟩ dX2_written_6
abbrev rtX2_bits_b : Room := { frames := 7, cells := 1, slots := 6, locals := 111 }
set_option maxHeartbeats 4000000 in
set_option maxRecDepth 100000 in
theorem t_xBits2 (l : Launch) (hnt : l.stackTraces = false) (g : Gx) (b0 : Nat) (H0 : Heap) (x0 lc tr tc sr sc : Nat) (i3 i4 i5 i6 : Int32) (V : Nat → Nat) (n : Nat) (t : Nat → Nat) (hL : CL g H0 x0 lc tr tc sr sc i3 i4 i5 i6 V n t) (i : Nat) (hi : i < 8) (y : Int32) (zi : Bool) (hn : ¬ (nI 0 ≤ y ∧ y ≤ nI 2)) : vx_Met l yX2_bits wsX2_bits rtX2_bits_b (va_Pc [.ref x0, .int (nI i), .int y, .int (bI zi)] (hX g b0 H0)) xN (xQ nE2 H0) 1 6 (fun q => H0.size ≤ q) := by
  refine tx_met (own := RX2) (cc := cX2_bits) (maxL := 4) (by decide) rfl rfl (Nat.le_of_ble_eq_true rfl) ?_
  intro p e s m below meth c ls C0 hB0 hex hl
  obtain ⟨⟨hH, hK, hZ⟩, hE⟩ := hB0
  obtain ⟨hx, hb, hr, hml, hown, hts, hlk⟩ := id C0
  subst hH
  have hS : va_S (fun q => s.heap.size ≤ q) s.heap s.heap [] := va_S.rf
  have hA : ∀ q : Nat, s.heap.size ≤ q → s.heap.size ≤ q := fun q h => h
  have h0Z := hZ.1
  have hAb : ∀ q : Nat, s.heap.size ≤ q → b0 ≤ q := fun q h => Nat.le_trans h0Z h
  have hl : lv_has ls 4 [(0, .ref x0), (1, .int (nI i)), (2, .int y), (3, .int (bI zi))] := hl
  obtain ⟨hC, hR, hSp, hap⟩ := id hL
  obtain ⟨hf, hfl, hlc, ⟨f, hg9, hfv⟩, hV, hxl⟩ := id hC
  refine lv_iload_n hx hb dX2_bits_0 rfl (lv_at hl 1 rfl) ?_
  refine cp_S (As := [.int (nI i)]) (rest := []) C0 hl hK hS hA (c_ckCell l g s.heap i hi) gX2_bits_X2_checkCell rfl ⟨rfl, rfl⟩ (show hd_ok yX2_checkCell 1 from ⟨by decide, by decide, by decide +kernel⟩) ⟨Nat.le_of_ble_eq_true rfl, Nat.le_of_ble_eq_true rfl⟩ rfl (Nat.le_of_ble_eq_true rfl) ⟨Nat.zero_le _, Nat.zero_le _⟩ dX2_bits_1 (fun locs hS => ?_)
  refine lv_iload_n hx hb dX2_bits_4 rfl (lv_at hl 2 rfl) ?_
  refine lv_iconst (v := nI 2) hx hb dX2_bits_5 (by decide) ?_
  exact tx_S (As := [.int y, .int (nI 2)]) (rest := []) C0 hl hex hK hS hA hZ hE (t_ckWhat l hnt g b0 s.heap y 2 hn) gX2_bits_X2_checkWhat rfl ⟨rfl, rfl⟩ (show hd_ok yX2_checkWhat 2 from ⟨by decide, by decide, by decide +kernel⟩) ⟨Nat.le_of_ble_eq_true rfl, Nat.le_of_ble_eq_true rfl⟩ rfl (Nat.le_of_ble_eq_true rfl) ⟨Nat.le_of_ble_eq_true rfl, Nat.le_of_ble_eq_true rfl⟩ dX2_bits_6
abbrev rtX2_count_b : Room := { frames := 7, cells := 1, slots := 6, locals := 111 }
set_option maxHeartbeats 4000000 in
set_option maxRecDepth 100000 in
theorem t_xCount2 (l : Launch) (hnt : l.stackTraces = false) (g : Gx) (b0 : Nat) (H0 : Heap) (x0 lc tr tc sr sc : Nat) (i3 i4 i5 i6 : Int32) (V : Nat → Nat) (n : Nat) (t : Nat → Nat) (hL : CL g H0 x0 lc tr tc sr sc i3 i4 i5 i6 V n t) (i : Nat) (hi : i < 8) (y : Int32) (zi : Bool) (hn : ¬ (nI 0 ≤ y ∧ y ≤ nI 3)) : vx_Met l yX2_count wsX2_count rtX2_count_b (va_Pc [.ref x0, .int (nI i), .int y, .int (bI zi)] (hX g b0 H0)) xN (xQ nE2 H0) 1 6 (fun q => H0.size ≤ q) := by
  refine tx_met (own := RX2) (cc := cX2_count) (maxL := 4) (by decide) rfl rfl (Nat.le_of_ble_eq_true rfl) ?_
  intro p e s m below meth c ls C0 hB0 hex hl
  obtain ⟨⟨hH, hK, hZ⟩, hE⟩ := hB0
  obtain ⟨hx, hb, hr, hml, hown, hts, hlk⟩ := id C0
  subst hH
  have hS : va_S (fun q => s.heap.size ≤ q) s.heap s.heap [] := va_S.rf
  have hA : ∀ q : Nat, s.heap.size ≤ q → s.heap.size ≤ q := fun q h => h
  have h0Z := hZ.1
  have hAb : ∀ q : Nat, s.heap.size ≤ q → b0 ≤ q := fun q h => Nat.le_trans h0Z h
  have hl : lv_has ls 4 [(0, .ref x0), (1, .int (nI i)), (2, .int y), (3, .int (bI zi))] := hl
  obtain ⟨hC, hR, hSp, hap⟩ := id hL
  obtain ⟨hf, hfl, hlc, ⟨f, hg9, hfv⟩, hV, hxl⟩ := id hC
  refine lv_iload_n hx hb dX2_count_0 rfl (lv_at hl 1 rfl) ?_
  refine cp_S (As := [.int (nI i)]) (rest := []) C0 hl hK hS hA (c_ckCell l g s.heap i hi) gX2_count_X2_checkCell rfl ⟨rfl, rfl⟩ (show hd_ok yX2_checkCell 1 from ⟨by decide, by decide, by decide +kernel⟩) ⟨Nat.le_of_ble_eq_true rfl, Nat.le_of_ble_eq_true rfl⟩ rfl (Nat.le_of_ble_eq_true rfl) ⟨Nat.zero_le _, Nat.zero_le _⟩ dX2_count_1 (fun locs hS => ?_)
  refine lv_iload_n hx hb dX2_count_4 rfl (lv_at hl 2 rfl) ?_
  refine lv_iconst (v := nI 3) hx hb dX2_count_5 (by decide) ?_
  exact tx_S (As := [.int y, .int (nI 3)]) (rest := []) C0 hl hex hK hS hA hZ hE (t_ckWhat l hnt g b0 s.heap y 3 hn) gX2_count_X2_checkWhat rfl ⟨rfl, rfl⟩ (show hd_ok yX2_checkWhat 2 from ⟨by decide, by decide, by decide +kernel⟩) ⟨Nat.le_of_ble_eq_true rfl, Nat.le_of_ble_eq_true rfl⟩ rfl (Nat.le_of_ble_eq_true rfl) ⟨Nat.le_of_ble_eq_true rfl, Nat.le_of_ble_eq_true rfl⟩ dX2_count_6
abbrev rtX2_join_b : Room := { frames := 7, cells := 1, slots := 6, locals := 111 }
set_option maxHeartbeats 4000000 in
set_option maxRecDepth 100000 in
theorem t_xJoin2 (l : Launch) (hnt : l.stackTraces = false) (g : Gx) (b0 : Nat) (H0 : Heap) (x0 lc tr tc sr sc : Nat) (i3 i4 i5 i6 : Int32) (V : Nat → Nat) (n : Nat) (t : Nat → Nat) (hL : CL g H0 x0 lc tr tc sr sc i3 i4 i5 i6 V n t) (i j : Nat) (hi : i < 8) (hj : j < 8) (k : Int32) (zi : Bool) (hn : ¬ (nI 0 ≤ k ∧ k ≤ nI 2)) : vx_Met l yX2_join wsX2_join rtX2_join_b (va_Pc [.ref x0, .int (nI i), .int (nI j), .int k, .int (bI zi)] (hX g b0 H0)) xN (xQ nE2 H0) 1 6 (fun q => H0.size ≤ q) := by
  refine tx_met (own := RX2) (cc := cX2_join) (maxL := 11) (by decide) rfl rfl (Nat.le_of_ble_eq_true rfl) ?_
  intro p e s m below meth c ls C0 hB0 hex hl
  obtain ⟨⟨hH, hK, hZ⟩, hE⟩ := hB0
  obtain ⟨hx, hb, hr, hml, hown, hts, hlk⟩ := id C0
  subst hH
  have hS : va_S (fun q => s.heap.size ≤ q) s.heap s.heap [] := va_S.rf
  have hA : ∀ q : Nat, s.heap.size ≤ q → s.heap.size ≤ q := fun q h => h
  have h0Z := hZ.1
  have hAb : ∀ q : Nat, s.heap.size ≤ q → b0 ≤ q := fun q h => Nat.le_trans h0Z h
  have hl : lv_has ls 11 [(0, .ref x0), (1, .int (nI i)), (2, .int (nI j)), (3, .int k), (4, .int (bI zi))] := hl
  obtain ⟨hC, hR, hSp, hap⟩ := id hL
  obtain ⟨hf, hfl, hlc, ⟨f, hg9, hfv⟩, hV, hxl⟩ := id hC
  refine lv_iload_n hx hb dX2_join_0 rfl (lv_at hl 1 rfl) ?_
  refine cp_S (As := [.int (nI i)]) (rest := []) C0 hl hK hS hA (c_ckCell l g s.heap i hi) gX2_join_X2_checkCell rfl ⟨rfl, rfl⟩ (show hd_ok yX2_checkCell 1 from ⟨by decide, by decide, by decide +kernel⟩) ⟨Nat.le_of_ble_eq_true rfl, Nat.le_of_ble_eq_true rfl⟩ rfl (Nat.le_of_ble_eq_true rfl) ⟨Nat.zero_le _, Nat.zero_le _⟩ dX2_join_1 (fun locs hS => ?_)
  refine lv_iload_n hx hb dX2_join_4 rfl (lv_at hl 2 rfl) ?_
  refine cp_S (As := [.int (nI j)]) (rest := []) C0 hl hK hS hA (c_ckCell l g s.heap j hj) gX2_join_X2_checkCell rfl ⟨rfl, rfl⟩ (show hd_ok yX2_checkCell 1 from ⟨by decide, by decide, by decide +kernel⟩) ⟨Nat.le_of_ble_eq_true rfl, Nat.le_of_ble_eq_true rfl⟩ rfl (Nat.le_of_ble_eq_true rfl) ⟨Nat.zero_le _, Nat.zero_le _⟩ dX2_join_5 (fun locs hS => ?_)
  refine lv_iload_n hx hb dX2_join_8 rfl (lv_at hl 3 rfl) ?_
  refine lv_iconst (v := nI 2) hx hb dX2_join_9 (by decide) ?_
  exact tx_S (As := [.int k, .int (nI 2)]) (rest := []) C0 hl hex hK hS hA hZ hE (t_ckWhat l hnt g b0 s.heap k 2 hn) gX2_join_X2_checkWhat rfl ⟨rfl, rfl⟩ (show hd_ok yX2_checkWhat 2 from ⟨by decide, by decide, by decide +kernel⟩) ⟨Nat.le_of_ble_eq_true rfl, Nat.le_of_ble_eq_true rfl⟩ rfl (Nat.le_of_ble_eq_true rfl) ⟨Nat.le_of_ble_eq_true rfl, Nat.le_of_ble_eq_true rfl⟩ dX2_join_10
abbrev rtX2_divide_c : Room := { frames := 7, cells := 1, slots := 6, locals := 112 }
set_option maxHeartbeats 4000000 in
set_option maxRecDepth 100000 in
theorem t_xDivide2 (l : Launch) (hnt : l.stackTraces = false) (g : Gx) (b0 : Nat) (H0 : Heap) (x0 lc tr tc sr sc : Nat) (i3 i4 i5 i6 : Int32) (V : Nat → Nat) (n : Nat) (t : Nat → Nat) (hL : CL g H0 x0 lc tr tc sr sc i3 i4 i5 i6 V n t) (i j : Nat) (hi : i < 8) (hj : j < 8) (zi : Bool) (hnz : V j % 65536 ^ nP zi = 0) : vx_Met l yX2_divide wsX2_divide rtX2_divide_c (va_Pc [.ref x0, .int (nI i), .int (nI j), .int (bI zi)] (hX g b0 H0)) xN (xQ nE3 H0) 1 6 (fun q => H0.size ≤ q) := by
  refine tx_met (own := RX2) (cc := cX2_divide) (maxL := 10) (by decide) rfl rfl (Nat.le_of_ble_eq_true rfl) ?_
  intro p e s m below meth c ls C0 hB0 hex hl
  obtain ⟨⟨hH, hK, hZ⟩, hE⟩ := hB0
  obtain ⟨hx, hb, hr, hml, hown, hts, hlk⟩ := id C0
  subst hH
  have hS : va_S (fun q => s.heap.size ≤ q) s.heap s.heap [] := va_S.rf
  have hA : ∀ q : Nat, s.heap.size ≤ q → s.heap.size ≤ q := fun q h => h
  have h0Z := hZ.1
  have hAb : ∀ q : Nat, s.heap.size ≤ q → b0 ≤ q := fun q h => Nat.le_trans h0Z h
  have hl : lv_has ls 10 [(0, .ref x0), (1, .int (nI i)), (2, .int (nI j)), (3, .int (bI zi))] := hl
  obtain ⟨hC, hR, hSp, hap⟩ := id hL
  obtain ⟨hf, hfl, hlc, ⟨f, hg9, hfv⟩, hV, hxl⟩ := id hC
  refine lv_iload_n hx hb dX2_divide_0 rfl (lv_at hl 1 rfl) ?_
  refine cp_S (As := [.int (nI i)]) (rest := []) C0 hl hK hS hA (c_ckCell l g s.heap i hi) gX2_divide_X2_checkCell rfl ⟨rfl, rfl⟩ (show hd_ok yX2_checkCell 1 from ⟨by decide, by decide, by decide +kernel⟩) ⟨Nat.le_of_ble_eq_true rfl, Nat.le_of_ble_eq_true rfl⟩ rfl (Nat.le_of_ble_eq_true rfl) ⟨Nat.zero_le _, Nat.zero_le _⟩ dX2_divide_1 (fun locs hS => ?_)
  refine lv_iload_n hx hb dX2_divide_4 rfl (lv_at hl 2 rfl) ?_
  refine cp_S (As := [.int (nI j)]) (rest := []) C0 hl hK hS hA (c_ckCell l g s.heap j hj) gX2_divide_X2_checkCell rfl ⟨rfl, rfl⟩ (show hd_ok yX2_checkCell 1 from ⟨by decide, by decide, by decide +kernel⟩) ⟨Nat.le_of_ble_eq_true rfl, Nat.le_of_ble_eq_true rfl⟩ rfl (Nat.le_of_ble_eq_true rfl) ⟨Nat.zero_le _, Nat.zero_le _⟩ dX2_divide_5 (fun locs hS => ?_)
  refine lv_aload_n hx hb dX2_divide_8 rfl (lv_at hl 0 rfl) ?_
  refine lv_iload_n hx hb dX2_divide_9 rfl (lv_at hl 2 rfl) ?_
  refine lv_iload_n hx hb dX2_divide_10 rfl (lv_at hl 3 rfl) ?_
  exact tx_V (As := [.int (nI j), .int (bI zi)]) (rest := []) C0 hl hex hK hS hA hZ hE (t_ckDiv l hnt g b0 s.heap x0 lc _ V hC j zi hj hnz) gX2_divide_X2_checkDivisor rfl ⟨rfl, rfl⟩ (hC.recv hK) ⟨rfl, (show hd_ok yX2_checkDivisor 2 from ⟨by decide, by decide, by decide +kernel⟩)⟩ ⟨Nat.le_of_ble_eq_true rfl, Nat.le_of_ble_eq_true rfl⟩ rfl (Nat.le_of_ble_eq_true rfl) ⟨Nat.le_of_ble_eq_true rfl, Nat.le_of_ble_eq_true rfl⟩ dX2_divide_11
abbrev rtX2_rest_c : Room := { frames := 7, cells := 1, slots := 6, locals := 112 }
set_option maxHeartbeats 4000000 in
set_option maxRecDepth 100000 in
theorem t_xRest2 (l : Launch) (hnt : l.stackTraces = false) (g : Gx) (b0 : Nat) (H0 : Heap) (x0 lc tr tc sr sc : Nat) (i3 i4 i5 i6 : Int32) (V : Nat → Nat) (n : Nat) (t : Nat → Nat) (hL : CL g H0 x0 lc tr tc sr sc i3 i4 i5 i6 V n t) (i j : Nat) (hi : i < 8) (hj : j < 8) (zi : Bool) (hnz : V j % 65536 ^ nP zi = 0) : vx_Met l yX2_rest wsX2_rest rtX2_rest_c (va_Pc [.ref x0, .int (nI i), .int (nI j), .int (bI zi)] (hX g b0 H0)) xN (xQ nE3 H0) 1 6 (fun q => H0.size ≤ q) := by
  refine tx_met (own := RX2) (cc := cX2_rest) (maxL := 10) (by decide) rfl rfl (Nat.le_of_ble_eq_true rfl) ?_
  intro p e s m below meth c ls C0 hB0 hex hl
  obtain ⟨⟨hH, hK, hZ⟩, hE⟩ := hB0
  obtain ⟨hx, hb, hr, hml, hown, hts, hlk⟩ := id C0
  subst hH
  have hS : va_S (fun q => s.heap.size ≤ q) s.heap s.heap [] := va_S.rf
  have hA : ∀ q : Nat, s.heap.size ≤ q → s.heap.size ≤ q := fun q h => h
  have h0Z := hZ.1
  have hAb : ∀ q : Nat, s.heap.size ≤ q → b0 ≤ q := fun q h => Nat.le_trans h0Z h
  have hl : lv_has ls 10 [(0, .ref x0), (1, .int (nI i)), (2, .int (nI j)), (3, .int (bI zi))] := hl
  obtain ⟨hC, hR, hSp, hap⟩ := id hL
  obtain ⟨hf, hfl, hlc, ⟨f, hg9, hfv⟩, hV, hxl⟩ := id hC
  refine lv_iload_n hx hb dX2_rest_0 rfl (lv_at hl 1 rfl) ?_
  refine cp_S (As := [.int (nI i)]) (rest := []) C0 hl hK hS hA (c_ckCell l g s.heap i hi) gX2_rest_X2_checkCell rfl ⟨rfl, rfl⟩ (show hd_ok yX2_checkCell 1 from ⟨by decide, by decide, by decide +kernel⟩) ⟨Nat.le_of_ble_eq_true rfl, Nat.le_of_ble_eq_true rfl⟩ rfl (Nat.le_of_ble_eq_true rfl) ⟨Nat.zero_le _, Nat.zero_le _⟩ dX2_rest_1 (fun locs hS => ?_)
  refine lv_iload_n hx hb dX2_rest_4 rfl (lv_at hl 2 rfl) ?_
  refine cp_S (As := [.int (nI j)]) (rest := []) C0 hl hK hS hA (c_ckCell l g s.heap j hj) gX2_rest_X2_checkCell rfl ⟨rfl, rfl⟩ (show hd_ok yX2_checkCell 1 from ⟨by decide, by decide, by decide +kernel⟩) ⟨Nat.le_of_ble_eq_true rfl, Nat.le_of_ble_eq_true rfl⟩ rfl (Nat.le_of_ble_eq_true rfl) ⟨Nat.zero_le _, Nat.zero_le _⟩ dX2_rest_5 (fun locs hS => ?_)
  refine lv_aload_n hx hb dX2_rest_8 rfl (lv_at hl 0 rfl) ?_
  refine lv_iload_n hx hb dX2_rest_9 rfl (lv_at hl 2 rfl) ?_
  refine lv_iload_n hx hb dX2_rest_10 rfl (lv_at hl 3 rfl) ?_
  exact tx_V (As := [.int (nI j), .int (bI zi)]) (rest := []) C0 hl hex hK hS hA hZ hE (t_ckDiv l hnt g b0 s.heap x0 lc _ V hC j zi hj hnz) gX2_rest_X2_checkDivisor rfl ⟨rfl, rfl⟩ (hC.recv hK) ⟨rfl, (show hd_ok yX2_checkDivisor 2 from ⟨by decide, by decide, by decide +kernel⟩)⟩ ⟨Nat.le_of_ble_eq_true rfl, Nat.le_of_ble_eq_true rfl⟩ rfl (Nat.le_of_ble_eq_true rfl) ⟨Nat.le_of_ble_eq_true rfl, Nat.le_of_ble_eq_true rfl⟩ dX2_rest_11
abbrev rtX2_isNumber_b : Room := { frames := 8, cells := 1, slots := 6, locals := 132 }
set_option maxHeartbeats 4000000 in
set_option maxRecDepth 100000 in
theorem t_xIsNo (l : Launch) (hnt : l.stackTraces = false) (g : Gx) (b0 : Nat) (H0 : Heap) (x0 lc tr tc sr sc : Nat) (i3 i4 i5 i6 : Int32) (V : Nat → Nat) (n : Nat) (t : Nat → Nat) (hL : CL g H0 x0 lc tr tc sr sc i3 i4 i5 i6 V n t) (y kd : Int32) (hn : ¬ ((nI 2 ≤ y ∧ y ≤ nI 36) ∧ nI 0 ≤ kd ∧ kd ≤ nI 3)) : vx_Met l yX2_isNumber wsX2_isNumber rtX2_isNumber_b (va_Pc [.ref x0, .int y, .int kd] (hX g b0 H0)) xN (xQ nE2 H0) 1 6 (fun q => H0.size ≤ q) := by
  refine tx_met (own := RX2) (cc := cX2_isNumber) (maxL := 3) (by decide) rfl rfl (Nat.le_of_ble_eq_true rfl) ?_
  intro p e s m below meth c ls C0 hB0 hex hl
  obtain ⟨⟨hH, hK, hZ⟩, hE⟩ := hB0
  obtain ⟨hx, hb, hr, hml, hown, hts, hlk⟩ := id C0
  subst hH
  have hS : va_S (fun q => s.heap.size ≤ q) s.heap s.heap [] := va_S.rf
  have hA : ∀ q : Nat, s.heap.size ≤ q → s.heap.size ≤ q := fun q h => h
  have h0Z := hZ.1
  have hAb : ∀ q : Nat, s.heap.size ≤ q → b0 ≤ q := fun q h => Nat.le_trans h0Z h
  have hl : lv_has ls 3 [(0, .ref x0), (1, .int y), (2, .int kd)] := hl
  obtain ⟨hC, hR, hSp, hap⟩ := id hL
  obtain ⟨hf, hfl, hlc, ⟨f, hg9, hfv⟩, hV, hxl⟩ := id hC
  refine lv_iload_n hx hb dX2_isNumber_0 rfl (lv_at hl 1 rfl) ?_
  refine lv_iload_n hx hb dX2_isNumber_1 rfl (lv_at hl 2 rfl) ?_
  exact tx_S (As := [.int y, .int kd]) (rest := []) C0 hl hex hK hS hA hZ hE (t_ckRK l hnt g b0 s.heap y kd hn) gX2_isNumber_X2_checkRadixAndKind rfl ⟨rfl, rfl⟩ (show hd_ok yX2_checkRadixAndKind 2 from ⟨by decide, by decide, by decide +kernel⟩) ⟨Nat.le_of_ble_eq_true rfl, Nat.le_of_ble_eq_true rfl⟩ rfl (Nat.le_of_ble_eq_true rfl) ⟨Nat.le_of_ble_eq_true rfl, Nat.le_of_ble_eq_true rfl⟩ dX2_isNumber_2
abbrev rtX2_same_b : Room := { frames := 8, cells := 1, slots := 6, locals := 132 }
set_option maxHeartbeats 4000000 in
set_option maxRecDepth 100000 in
theorem t_xSame (l : Launch) (hnt : l.stackTraces = false) (g : Gx) (b0 : Nat) (H0 : Heap) (x0 lc tr tc sr sc : Nat) (i3 i4 i5 i6 : Int32) (V : Nat → Nat) (n : Nat) (t : Nat → Nat) (hL : CL g H0 x0 lc tr tc sr sc i3 i4 i5 i6 V n t) (y kd : Int32) (hn : ¬ ((nI 2 ≤ y ∧ y ≤ nI 36) ∧ nI 0 ≤ kd ∧ kd ≤ nI 3)) : vx_Met l yX2_same wsX2_same rtX2_same_b (va_Pc [.ref x0, .int y, .int kd] (hX g b0 H0)) xN (xQ nE2 H0) 1 6 (fun q => H0.size ≤ q) := by
  refine tx_met (own := RX2) (cc := cX2_same) (maxL := 7) (by decide) rfl rfl (Nat.le_of_ble_eq_true rfl) ?_
  intro p e s m below meth c ls C0 hB0 hex hl
  obtain ⟨⟨hH, hK, hZ⟩, hE⟩ := hB0
  obtain ⟨hx, hb, hr, hml, hown, hts, hlk⟩ := id C0
  subst hH
  have hS : va_S (fun q => s.heap.size ≤ q) s.heap s.heap [] := va_S.rf
  have hA : ∀ q : Nat, s.heap.size ≤ q → s.heap.size ≤ q := fun q h => h
  have h0Z := hZ.1
  have hAb : ∀ q : Nat, s.heap.size ≤ q → b0 ≤ q := fun q h => Nat.le_trans h0Z h
  have hl : lv_has ls 7 [(0, .ref x0), (1, .int y), (2, .int kd)] := hl
  obtain ⟨hC, hR, hSp, hap⟩ := id hL
  obtain ⟨hf, hfl, hlc, ⟨f, hg9, hfv⟩, hV, hxl⟩ := id hC
  refine lv_iload_n hx hb dX2_same_0 rfl (lv_at hl 1 rfl) ?_
  refine lv_iload_n hx hb dX2_same_1 rfl (lv_at hl 2 rfl) ?_
  exact tx_S (As := [.int y, .int kd]) (rest := []) C0 hl hex hK hS hA hZ hE (t_ckRK l hnt g b0 s.heap y kd hn) gX2_same_X2_checkRadixAndKind rfl ⟨rfl, rfl⟩ (show hd_ok yX2_checkRadixAndKind 2 from ⟨by decide, by decide, by decide +kernel⟩) ⟨Nat.le_of_ble_eq_true rfl, Nat.le_of_ble_eq_true rfl⟩ rfl (Nat.le_of_ble_eq_true rfl) ⟨Nat.le_of_ble_eq_true rfl, Nat.le_of_ble_eq_true rfl⟩ dX2_same_2
abbrev rtX2_would_b : Room := { frames := 8, cells := 1, slots := 6, locals := 132 }
set_option maxHeartbeats 4000000 in
set_option maxRecDepth 100000 in
theorem t_xWould (l : Launch) (hnt : l.stackTraces = false) (g : Gx) (b0 : Nat) (H0 : Heap) (x0 lc tr tc sr sc : Nat) (i3 i4 i5 i6 : Int32) (V : Nat → Nat) (n : Nat) (t : Nat → Nat) (hL : CL g H0 x0 lc tr tc sr sc i3 i4 i5 i6 V n t) (y kd : Int32) (zh : Bool) (hn : ¬ ((nI 2 ≤ y ∧ y ≤ nI 36) ∧ nI 0 ≤ kd ∧ kd ≤ nI 3)) : vx_Met l yX2_would wsX2_would rtX2_would_b (va_Pc [.ref x0, .int y, .int kd, .int (bI zh)] (hX g b0 H0)) xN (xQ nE2 H0) 1 6 (fun q => H0.size ≤ q) := by
  refine tx_met (own := RX2) (cc := cX2_would) (maxL := 6) (by decide) rfl rfl (Nat.le_of_ble_eq_true rfl) ?_
  intro p e s m below meth c ls C0 hB0 hex hl
  obtain ⟨⟨hH, hK, hZ⟩, hE⟩ := hB0
  obtain ⟨hx, hb, hr, hml, hown, hts, hlk⟩ := id C0
  subst hH
  have hS : va_S (fun q => s.heap.size ≤ q) s.heap s.heap [] := va_S.rf
  have hA : ∀ q : Nat, s.heap.size ≤ q → s.heap.size ≤ q := fun q h => h
  have h0Z := hZ.1
  have hAb : ∀ q : Nat, s.heap.size ≤ q → b0 ≤ q := fun q h => Nat.le_trans h0Z h
  have hl : lv_has ls 6 [(0, .ref x0), (1, .int y), (2, .int kd), (3, .int (bI zh))] := hl
  obtain ⟨hC, hR, hSp, hap⟩ := id hL
  obtain ⟨hf, hfl, hlc, ⟨f, hg9, hfv⟩, hV, hxl⟩ := id hC
  refine lv_iload_n hx hb dX2_would_0 rfl (lv_at hl 1 rfl) ?_
  refine lv_iload_n hx hb dX2_would_1 rfl (lv_at hl 2 rfl) ?_
  exact tx_S (As := [.int y, .int kd]) (rest := []) C0 hl hex hK hS hA hZ hE (t_ckRK l hnt g b0 s.heap y kd hn) gX2_would_X2_checkRadixAndKind rfl ⟨rfl, rfl⟩ (show hd_ok yX2_checkRadixAndKind 2 from ⟨by decide, by decide, by decide +kernel⟩) ⟨Nat.le_of_ble_eq_true rfl, Nat.le_of_ble_eq_true rfl⟩ rfl (Nat.le_of_ble_eq_true rfl) ⟨Nat.le_of_ble_eq_true rfl, Nat.le_of_ble_eq_true rfl⟩ dX2_would_2
abbrev rtX2_bench_b : Room := { frames := 7, cells := 1, slots := 6, locals := 111 }
set_option maxHeartbeats 4000000 in
set_option maxRecDepth 100000 in
theorem t_xBench (l : Launch) (hnt : l.stackTraces = false) (g : Gx) (b0 : Nat) (H0 : Heap) (x0 lc tr tc sr sc : Nat) (i3 i4 i5 i6 : Int32) (V : Nat → Nat) (n : Nat) (t : Nat → Nat) (hL : CL g H0 x0 lc tr tc sr sc i3 i4 i5 i6 V n t) (y : Int32) (hn : ¬ (nI 0 ≤ y ∧ y ≤ nI 4)) : vx_Met l yX2_bench wsX2_bench rtX2_bench_b (va_Pc [.ref x0, .int y] (hX g b0 H0)) xN (xQ nE2 H0) 1 6 (fun q => H0.size ≤ q) := by
  refine tx_met (own := RX2) (cc := cX2_bench) (maxL := 2) (by decide) rfl rfl (Nat.le_of_ble_eq_true rfl) ?_
  intro p e s m below meth c ls C0 hB0 hex hl
  obtain ⟨⟨hH, hK, hZ⟩, hE⟩ := hB0
  obtain ⟨hx, hb, hr, hml, hown, hts, hlk⟩ := id C0
  subst hH
  have hS : va_S (fun q => s.heap.size ≤ q) s.heap s.heap [] := va_S.rf
  have hA : ∀ q : Nat, s.heap.size ≤ q → s.heap.size ≤ q := fun q h => h
  have h0Z := hZ.1
  have hAb : ∀ q : Nat, s.heap.size ≤ q → b0 ≤ q := fun q h => Nat.le_trans h0Z h
  have hl : lv_has ls 2 [(0, .ref x0), (1, .int y)] := hl
  obtain ⟨hC, hR, hSp, hap⟩ := id hL
  obtain ⟨hf, hfl, hlc, ⟨f, hg9, hfv⟩, hV, hxl⟩ := id hC
  refine lv_iload_n hx hb dX2_bench_0 rfl (lv_at hl 1 rfl) ?_
  refine lv_iconst (v := nI 4) hx hb dX2_bench_1 (by decide) ?_
  exact tx_S (As := [.int y, .int (nI 4)]) (rest := []) C0 hl hex hK hS hA hZ hE (t_ckWhat l hnt g b0 s.heap y 4 hn) gX2_bench_X2_checkWhat rfl ⟨rfl, rfl⟩ (show hd_ok yX2_checkWhat 2 from ⟨by decide, by decide, by decide +kernel⟩) ⟨Nat.le_of_ble_eq_true rfl, Nat.le_of_ble_eq_true rfl⟩ rfl (Nat.le_of_ble_eq_true rfl) ⟨Nat.le_of_ble_eq_true rfl, Nat.le_of_ble_eq_true rfl⟩ dX2_bench_2
abbrev rtX2_type_b : Room := { frames := 6, cells := 1, slots := 6, locals := 90 }
set_option maxHeartbeats 4000000 in
set_option maxRecDepth 100000 in
theorem t_xType1 (l : Launch) (hnt : l.stackTraces = false) (g : Gx) (b0 : Nat) (H0 : Heap) (x0 lc tr tc sr sc : Nat) (i3 i4 i5 i6 : Int32) (V : Nat → Nat) (n : Nat) (t : Nat → Nat) (hL : CL g H0 x0 lc tr tc sr sc i3 i4 i5 i6 V n t) (x : Int32) (zg : Bool) (hn : ¬ (nI 0 ≤ x ∧ x ≤ nI 37)) : vx_Met l yX2_type wsX2_type rtX2_type_b (va_Pc [.ref x0, .int x, .int (bI zg)] (hX g b0 H0)) xN (xQ nE2 H0) 1 6 (fun q => H0.size ≤ q) := by
  refine tx_met (own := RX2) (cc := cX2_type) (maxL := 3) (by decide) rfl rfl (Nat.le_of_ble_eq_true rfl) ?_
  intro p e s m below meth c ls C0 hB0 hex hl
  obtain ⟨⟨hH, hK, hZ⟩, hE⟩ := hB0
  obtain ⟨hx, hb, hr, hml, hown, hts, hlk⟩ := id C0
  subst hH
  have hS : va_S (fun q => s.heap.size ≤ q) s.heap s.heap [] := va_S.rf
  have hA : ∀ q : Nat, s.heap.size ≤ q → s.heap.size ≤ q := fun q h => h
  have h0Z := hZ.1
  have hAb : ∀ q : Nat, s.heap.size ≤ q → b0 ≤ q := fun q h => Nat.le_trans h0Z h
  have hl : lv_has ls 3 [(0, .ref x0), (1, .int x), (2, .int (bI zg))] := hl
  obtain ⟨hC, hR, hSp, hap⟩ := id hL
  obtain ⟨hf, hfl, hlc, ⟨f, hg9, hfv⟩, hV, hxl⟩ := id hC
  refine lv_iload_n hx hb dX2_type_0 rfl (lv_at hl 1 rfl) ?_
  refine lv_if_lt (tgt := 10) hx hb dX2_type_1 (by decide) (fun h1 => ?_) (fun h1 => ?_)
  · skip
    exact tx_throw (rest := []) (ik := 39) (is := 41) (ic := 43) (i := 3) (text := "no such sign") C0 hl hex hnt hZ hE.1.2.1 hE rfl (by decide +kernel) (by decide +kernel) (fun _ h => List.mem_cons_of_mem _ (List.mem_append_left _ (List.mem_append_right _ h))) (by decide +kernel) (by decide +kernel) (by decide +kernel) hS hAb dX2_type_10 dX2_type_13 dX2_type_14 dX2_type_16 dX2_type_19 ⟨Nat.le_of_ble_eq_true rfl, Nat.le_of_ble_eq_true rfl, Nat.le_of_ble_eq_true rfl, Nat.le_of_ble_eq_true rfl⟩
  · skip
    refine lv_iload_n hx hb dX2_type_4 rfl (lv_at hl 1 rfl) ?_
    refine lv_bipush (v := nI 37) hx hb dX2_type_5 (by decide) ?_
    refine lv_icmp_le (tgt := 20) hx hb dX2_type_7 (by decide) (fun h2 => absurd ⟨nI0_le h1, h2⟩ hn) (fun h2 => ?_)
    exact tx_throw (rest := []) (ik := 39) (is := 41) (ic := 43) (i := 3) (text := "no such sign") C0 hl hex hnt hZ hE.1.2.1 hE rfl (by decide +kernel) (by decide +kernel) (fun _ h => List.mem_cons_of_mem _ (List.mem_append_left _ (List.mem_append_right _ h))) (by decide +kernel) (by decide +kernel) (by decide +kernel) hS hAb dX2_type_10 dX2_type_13 dX2_type_14 dX2_type_16 dX2_type_19 ⟨Nat.le_of_ble_eq_true rfl, Nat.le_of_ble_eq_true rfl, Nat.le_of_ble_eq_true rfl, Nat.le_of_ble_eq_true rfl⟩
abbrev rtX2_type_c : Room := { frames := 6, cells := 1, slots := 6, locals := 90 }
set_option maxHeartbeats 4000000 in
set_option maxRecDepth 100000 in
theorem t_xType2 (l : Launch) (hnt : l.stackTraces = false) (g : Gx) (b0 : Nat) (H0 : Heap) (x0 lc tr tc sr sc : Nat) (i3 i4 i5 i6 : Int32) (V : Nat → Nat) (n : Nat) (t : Nat → Nat) (hL : CL g H0 x0 lc tr tc sr sc i3 i4 i5 i6 V n t) (i : Nat) (hi : i ≤ 37) (zg : Bool) (hn : n = 70) : vx_Met l yX2_type wsX2_type rtX2_type_c (va_Pc [.ref x0, .int (nI i), .int (bI zg)] (hX g b0 H0)) xN (xQ nE3 H0) 1 6 (fun q => H0.size ≤ q) := by
  refine tx_met (own := RX2) (cc := cX2_type) (maxL := 3) (by decide) rfl rfl (Nat.le_of_ble_eq_true rfl) ?_
  intro p e s m below meth c ls C0 hB0 hex hl
  obtain ⟨⟨hH, hK, hZ⟩, hE⟩ := hB0
  obtain ⟨hx, hb, hr, hml, hown, hts, hlk⟩ := id C0
  subst hH
  have hS : va_S (fun q => s.heap.size ≤ q) s.heap s.heap [] := va_S.rf
  have hA : ∀ q : Nat, s.heap.size ≤ q → s.heap.size ≤ q := fun q h => h
  have h0Z := hZ.1
  have hAb : ∀ q : Nat, s.heap.size ≤ q → b0 ≤ q := fun q h => Nat.le_trans h0Z h
  have hl : lv_has ls 3 [(0, .ref x0), (1, .int (nI i)), (2, .int (bI zg))] := hl
  obtain ⟨hC, hR, hSp, hap⟩ := id hL
  obtain ⟨hf, hfl, hlc, ⟨f, hg9, hfv⟩, hV, hxl⟩ := id hC
  refine lv_iload_n hx hb dX2_type_0 rfl (lv_at hl 1 rfl) ?_
  refine lv_if_lt (tgt := 10) hx hb dX2_type_1 (by decide) (fun h1 => absurd h1 (nI_pos (by omega))) (fun h1 => ?_)
  refine lv_iload_n hx hb dX2_type_4 rfl (lv_at hl 1 rfl) ?_
  refine lv_bipush (v := nI 37) hx hb dX2_type_5 (by decide) ?_
  refine lv_icmp_le (tgt := 20) hx hb dX2_type_7 (by decide) (fun h2 => ?_) (fun h2 => absurd (nI_le hi (by decide)) h2)
  refine lv_aload_n hx hb dX2_type_20 rfl (lv_at hl 0 rfl) ?_
  refine va_get (ci := 3) (C := RX2) (T := TX2) (N := 7) (v := .ref tr) hx hb hts (by decide +kernel) hown hK.1 (p1 hf) 0 rfl rfl 1 (by decide) (hts (.fieldLink RX2 16 "Radixbench" "text" "LRadixbench$Row;") (by decide +kernel)) (fun _ h9 => h9) rfl dX2_type_21 ?_
  refine cp_V (As := []) (rest := []) C0 hl hK hS hA (c_rFull l g s.heap tr tc n t hR) gX2_type_X0_isFull rfl ⟨rfl, rfl⟩ (hR.recv hK) ⟨rfl, (show hd_ok yX0_isFull 0 from ⟨by decide, by decide, by decide +kernel⟩)⟩ ⟨Nat.le_of_ble_eq_true rfl, Nat.le_of_ble_eq_true rfl⟩ rfl (Nat.le_of_ble_eq_true rfl) ⟨Nat.zero_le _, Nat.zero_le _⟩ dX2_type_24 (fun locs hS => ?_)
  refine lv_if_eq (tgt := 40) hx hb dX2_type_27 (by decide) (fun h3 => absurd hn (of_decide_eq_false (bI_0 h3))) (fun h3 => ?_)
  exact tx_throw (rest := []) (ik := 50) (is := 52) (ic := 54) (i := 4) (text := "the text is full") C0 hl hex hnt hZ hE.1.2.2 hE rfl (by decide +kernel) (by decide +kernel) (fun _ h => List.mem_cons_of_mem _ (List.mem_append_right _ h)) (by decide +kernel) (by decide +kernel) (by decide +kernel) hS hAb dX2_type_30 dX2_type_33 dX2_type_34 dX2_type_36 dX2_type_39 ⟨Nat.le_of_ble_eq_true rfl, Nat.le_of_ble_eq_true rfl, Nat.le_of_ble_eq_true rfl, Nat.le_of_ble_eq_true rfl⟩
abbrev rtX2_erase_c : Room := { frames := 6, cells := 1, slots := 6, locals := 90 }
set_option maxHeartbeats 4000000 in
set_option maxRecDepth 100000 in
theorem t_xErase (l : Launch) (hnt : l.stackTraces = false) (g : Gx) (b0 : Nat) (H0 : Heap) (x0 lc tr tc sr sc : Nat) (i3 i4 i5 i6 : Int32) (V : Nat → Nat) (n : Nat) (t : Nat → Nat) (hL : CL g H0 x0 lc tr tc sr sc i3 i4 i5 i6 V n t) (hn : n = 0) : vx_Met l yX2_erase wsX2_erase rtX2_erase_c (va_Pc [.ref x0] (hX g b0 H0)) xN (xQ nE3 H0) 1 6 (fun q => H0.size ≤ q) := by
  refine tx_met (own := RX2) (cc := cX2_erase) (maxL := 1) (by decide) rfl rfl (Nat.le_of_ble_eq_true rfl) ?_
  intro p e s m below meth c ls C0 hB0 hex hl
  obtain ⟨⟨hH, hK, hZ⟩, hE⟩ := hB0
  obtain ⟨hx, hb, hr, hml, hown, hts, hlk⟩ := id C0
  subst hH
  have hS : va_S (fun q => s.heap.size ≤ q) s.heap s.heap [] := va_S.rf
  have hA : ∀ q : Nat, s.heap.size ≤ q → s.heap.size ≤ q := fun q h => h
  have h0Z := hZ.1
  have hAb : ∀ q : Nat, s.heap.size ≤ q → b0 ≤ q := fun q h => Nat.le_trans h0Z h
  have hl : lv_has ls 1 [(0, .ref x0)] := hl
  obtain ⟨hC, hR, hSp, hap⟩ := id hL
  obtain ⟨hf, hfl, hlc, ⟨f, hg9, hfv⟩, hV, hxl⟩ := id hC
  refine lv_aload_n hx hb dX2_erase_0 rfl (lv_at hl 0 rfl) ?_
  refine va_get (ci := 3) (C := RX2) (T := TX2) (N := 7) (v := .ref tr) hx hb hts (by decide +kernel) hown hK.1 (p1 hf) 0 rfl rfl 1 (by decide) (hts (.fieldLink RX2 16 "Radixbench" "text" "LRadixbench$Row;") (by decide +kernel)) (fun _ h9 => h9) rfl dX2_erase_1 ?_
  refine cp_V (As := []) (rest := []) C0 hl hK hS hA (c_rSize l g s.heap tr tc n t hR) gX2_erase_X0_size rfl ⟨rfl, rfl⟩ (hR.recv hK) ⟨rfl, (show hd_ok yX0_size 0 from ⟨by decide, by decide, by decide +kernel⟩)⟩ ⟨Nat.le_of_ble_eq_true rfl, Nat.le_of_ble_eq_true rfl⟩ rfl (Nat.le_of_ble_eq_true rfl) ⟨Nat.zero_le _, Nat.zero_le _⟩ dX2_erase_4 (fun locs hS => ?_)
  refine lv_if_ne (tgt := 20) hx hb dX2_erase_7 (by decide) (fun h1 => absurd (by rw [hn]; rfl) h1) (fun h1 => ?_)
  exact tx_throw (rest := []) (ik := 50) (is := 67) (ic := 54) (i := 5) (text := "the text is empty") C0 hl hex hnt hZ hE.1.2.2 hE rfl (by decide +kernel) (by decide +kernel) (fun _ h => List.mem_cons_of_mem _ (List.mem_append_right _ h)) (by decide +kernel) (by decide +kernel) (by decide +kernel) hS hAb dX2_erase_10 dX2_erase_13 dX2_erase_14 dX2_erase_16 dX2_erase_19 ⟨Nat.le_of_ble_eq_true rfl, Nat.le_of_ble_eq_true rfl, Nat.le_of_ble_eq_true rfl, Nat.le_of_ble_eq_true rfl⟩
abbrev rtX2_digit_a : Room := { frames := 6, cells := 1, slots := 6, locals := 90 }
set_option maxHeartbeats 4000000 in
set_option maxRecDepth 100000 in
theorem t_xDigit1 (l : Launch) (hnt : l.stackTraces = false) (g : Gx) (b0 : Nat) (H0 : Heap) (x0 lc tr tc sr sc : Nat) (i3 i4 i5 i6 : Int32) (V : Nat → Nat) (n : Nat) (t : Nat → Nat) (hL : CL g H0 x0 lc tr tc sr sc i3 i4 i5 i6 V n t) (x y : Int32) (hn : ¬ (nI 0 ≤ x ∧ x < nI n)) : vx_Met l yX2_digit wsX2_digit rtX2_digit_a (va_Pc [.ref x0, .int x, .int y] (hX g b0 H0)) xN (xQ nE1 H0) 1 6 (fun q => H0.size ≤ q) := by
  refine tx_met (own := RX2) (cc := cX2_digit) (maxL := 3) (by decide) rfl rfl (Nat.le_of_ble_eq_true rfl) ?_
  intro p e s m below meth c ls C0 hB0 hex hl
  obtain ⟨⟨hH, hK, hZ⟩, hE⟩ := hB0
  obtain ⟨hx, hb, hr, hml, hown, hts, hlk⟩ := id C0
  subst hH
  have hS : va_S (fun q => s.heap.size ≤ q) s.heap s.heap [] := va_S.rf
  have hA : ∀ q : Nat, s.heap.size ≤ q → s.heap.size ≤ q := fun q h => h
  have h0Z := hZ.1
  have hAb : ∀ q : Nat, s.heap.size ≤ q → b0 ≤ q := fun q h => Nat.le_trans h0Z h
  have hl : lv_has ls 3 [(0, .ref x0), (1, .int x), (2, .int y)] := hl
  obtain ⟨hC, hR, hSp, hap⟩ := id hL
  obtain ⟨hf, hfl, hlc, ⟨f, hg9, hfv⟩, hV, hxl⟩ := id hC
  refine lv_iload_n hx hb dX2_digit_0 rfl (lv_at hl 1 rfl) ?_
  refine lv_if_lt (tgt := 15) hx hb dX2_digit_1 (by decide) (fun h1 => ?_) (fun h1 => ?_)
  · skip
    exact tx_throw (rest := []) (ik := 192) (is := 194) (ic := 196) (i := 6) (text := "no such place") C0 hl hex hnt hZ hE.1.1 hE rfl (by decide +kernel) (by decide +kernel) (fun _ h => List.mem_cons_of_mem _ (List.mem_append_left _ (List.mem_append_right _ h))) (by decide +kernel) (by decide +kernel) (by decide +kernel) hS hAb dX2_digit_15 dX2_digit_18 dX2_digit_19 dX2_digit_21 dX2_digit_24 ⟨Nat.le_of_ble_eq_true rfl, Nat.le_of_ble_eq_true rfl, Nat.le_of_ble_eq_true rfl, Nat.le_of_ble_eq_true rfl⟩
  · skip
    refine lv_iload_n hx hb dX2_digit_4 rfl (lv_at hl 1 rfl) ?_
    refine lv_aload_n hx hb dX2_digit_5 rfl (lv_at hl 0 rfl) ?_
    refine va_get (ci := 3) (C := RX2) (T := TX2) (N := 7) (v := .ref tr) hx hb hts (by decide +kernel) hown hK.1 (p1 hf) 0 rfl rfl 1 (by decide) (hts (.fieldLink RX2 16 "Radixbench" "text" "LRadixbench$Row;") (by decide +kernel)) (fun _ h9 => h9) rfl dX2_digit_6 ?_
    refine cp_V (As := []) (rest := [.int x]) C0 hl hK hS hA (c_rSize l g s.heap tr tc n t hR) gX2_digit_X0_size rfl ⟨rfl, rfl⟩ (hR.recv hK) ⟨rfl, (show hd_ok yX0_size 0 from ⟨by decide, by decide, by decide +kernel⟩)⟩ ⟨Nat.le_of_ble_eq_true rfl, Nat.le_of_ble_eq_true rfl⟩ rfl (Nat.le_of_ble_eq_true rfl) ⟨Nat.zero_le _, Nat.zero_le _⟩ dX2_digit_9 (fun locs hS => ?_)
    refine lv_icmp_lt (tgt := 25) hx hb dX2_digit_12 (by decide) (fun h2 => absurd ⟨nI0_le h1, h2⟩ hn) (fun h2 => ?_)
    exact tx_throw (rest := []) (ik := 192) (is := 194) (ic := 196) (i := 6) (text := "no such place") C0 hl hex hnt hZ hE.1.1 hE rfl (by decide +kernel) (by decide +kernel) (fun _ h => List.mem_cons_of_mem _ (List.mem_append_left _ (List.mem_append_right _ h))) (by decide +kernel) (by decide +kernel) (by decide +kernel) hS hAb dX2_digit_15 dX2_digit_18 dX2_digit_19 dX2_digit_21 dX2_digit_24 ⟨Nat.le_of_ble_eq_true rfl, Nat.le_of_ble_eq_true rfl, Nat.le_of_ble_eq_true rfl, Nat.le_of_ble_eq_true rfl⟩
abbrev rtX2_digit_b : Room := { frames := 7, cells := 1, slots := 6, locals := 110 }
set_option maxHeartbeats 4000000 in
set_option maxRecDepth 100000 in
theorem t_xDigit2 (l : Launch) (hnt : l.stackTraces = false) (g : Gx) (b0 : Nat) (H0 : Heap) (x0 lc tr tc sr sc : Nat) (i3 i4 i5 i6 : Int32) (V : Nat → Nat) (n : Nat) (t : Nat → Nat) (hL : CL g H0 x0 lc tr tc sr sc i3 i4 i5 i6 V n t) (j : Nat) (hj : j < n) (y : Int32) (hn : ¬ (nI 2 ≤ y ∧ y ≤ nI 36)) : vx_Met l yX2_digit wsX2_digit rtX2_digit_b (va_Pc [.ref x0, .int (nI j), .int y] (hX g b0 H0)) xN (xQ nE2 H0) 1 6 (fun q => H0.size ≤ q) := by
  refine tx_met (own := RX2) (cc := cX2_digit) (maxL := 3) (by decide) rfl rfl (Nat.le_of_ble_eq_true rfl) ?_
  intro p e s m below meth c ls C0 hB0 hex hl
  obtain ⟨⟨hH, hK, hZ⟩, hE⟩ := hB0
  obtain ⟨hx, hb, hr, hml, hown, hts, hlk⟩ := id C0
  subst hH
  have hS : va_S (fun q => s.heap.size ≤ q) s.heap s.heap [] := va_S.rf
  have hA : ∀ q : Nat, s.heap.size ≤ q → s.heap.size ≤ q := fun q h => h
  have h0Z := hZ.1
  have hAb : ∀ q : Nat, s.heap.size ≤ q → b0 ≤ q := fun q h => Nat.le_trans h0Z h
  have hl : lv_has ls 3 [(0, .ref x0), (1, .int (nI j)), (2, .int y)] := hl
  obtain ⟨hC, hR, hSp, hap⟩ := id hL
  obtain ⟨hf, hfl, hlc, ⟨f, hg9, hfv⟩, hV, hxl⟩ := id hC
  obtain ⟨-, -, -, -, hn70, -, -⟩ := id hR
  refine lv_iload_n hx hb dX2_digit_0 rfl (lv_at hl 1 rfl) ?_
  refine lv_if_lt (tgt := 15) hx hb dX2_digit_1 (by decide) (fun h1 => absurd h1 (nI_pos (by omega))) (fun h1 => ?_)
  refine lv_iload_n hx hb dX2_digit_4 rfl (lv_at hl 1 rfl) ?_
  refine lv_aload_n hx hb dX2_digit_5 rfl (lv_at hl 0 rfl) ?_
  refine va_get (ci := 3) (C := RX2) (T := TX2) (N := 7) (v := .ref tr) hx hb hts (by decide +kernel) hown hK.1 (p1 hf) 0 rfl rfl 1 (by decide) (hts (.fieldLink RX2 16 "Radixbench" "text" "LRadixbench$Row;") (by decide +kernel)) (fun _ h9 => h9) rfl dX2_digit_6 ?_
  refine cp_V (As := []) (rest := [.int (nI j)]) C0 hl hK hS hA (c_rSize l g s.heap tr tc n t hR) gX2_digit_X0_size rfl ⟨rfl, rfl⟩ (hR.recv hK) ⟨rfl, (show hd_ok yX0_size 0 from ⟨by decide, by decide, by decide +kernel⟩)⟩ ⟨Nat.le_of_ble_eq_true rfl, Nat.le_of_ble_eq_true rfl⟩ rfl (Nat.le_of_ble_eq_true rfl) ⟨Nat.zero_le _, Nat.zero_le _⟩ dX2_digit_9 (fun locs hS => ?_)
  refine lv_icmp_lt (tgt := 25) hx hb dX2_digit_12 (by decide) (fun h2 => ?_) (fun h2 => absurd (nI_lt hj (by omega)) h2)
  refine lv_iload_n hx hb dX2_digit_25 rfl (lv_at hl 2 rfl) ?_
  exact tx_S (As := [.int y]) (rest := []) C0 hl hex hK hS hA hZ hE (t_ckRad l hnt g b0 s.heap y hn) gX2_digit_X2_checkRadix rfl ⟨rfl, rfl⟩ (show hd_ok yX2_checkRadix 1 from ⟨by decide, by decide, by decide +kernel⟩) ⟨Nat.le_of_ble_eq_true rfl, Nat.le_of_ble_eq_true rfl⟩ rfl (Nat.le_of_ble_eq_true rfl) ⟨Nat.le_of_ble_eq_true rfl, Nat.le_of_ble_eq_true rfl⟩ dX2_digit_26
end M78

-- WHAT NOBODY WRITES: statics and constant texts, below b0; texts in a heap; calls of methods that rely on them
/-- the classes of byte arrays: ours, and those of the three constant texts that are read -/
def isB (g : Gx) (c : ClassId) : Prop := c = g.2 4 ∨ c = g.2 5 ∨ c = g.2 6 ∨ c = g.2 7
/-- n bytes that spell t -/
def bT (g : Gx) (b n : Nat) (t : Nat → Nat) (H : Heap) : Prop := ∃ cell : Cell, H[b]? = some cell ∧ isB g cell.cls ∧ (∀ k, cell.vm ≠ .statics k) ∧ cell.vm ≠ .unknown ∧ n ≤ cell.slots.size ∧ cell.slots.size.toInt32 = nI n ∧ ∀ j, j < n → cell.slots[j]? = some (.int (nI (t j)))
/-- a String at a, its bytes at b, that says t -/
def sS (g : Gx) (a b n : Nat) (t : Nat → Nat) (H : Heap) : Prop := (∃ cell : Cell, H[a]? = some cell ∧ cell.cls = g.1.1 0 ∧ cell.vm.isStatics = false ∧ cell.vm ≠ .unknown ∧ cell.slots[g.1.2 0 0]? = some (.ref b) ∧ cell.slots[g.1.2 0 1]? = some (.int 0)) ∧ bT g b n t H
theorem bT.lt {g : Gx} {b n : Nat} {t : Nat → Nat} {H : Heap} (h : bT g b n t H) : b < H.size := by
  obtain ⟨cell, h1, -⟩ := h
  exact (Array.getElem?_eq_some_iff.mp h1).1
theorem sS.lt {g : Gx} {a b n : Nat} {t : Nat → Nat} {H : Heap} (h : sS g a b n t H) : a < H.size := by
  obtain ⟨⟨cell, h1, -⟩, -⟩ := h
  exact (Array.getElem?_eq_some_iff.mp h1).1
theorem bT.kept {g : Gx} {b n : Nat} {t : Nat → Nat} {H H1 : Heap} (h : bT g b n t H) (h1 : H1[b]? = H[b]?) : bT g b n t H1 := by
  obtain ⟨cell, q1, q⟩ := h
  exact ⟨cell, by rw [h1]; exact q1, q⟩
theorem sS.kept {g : Gx} {a b n : Nat} {t : Nat → Nat} {H H1 : Heap} (h : sS g a b n t H) (h1 : H1[a]? = H[a]?) (h2 : H1[b]? = H[b]?) : sS g a b n t H1 := by
  obtain ⟨⟨cell, q1, q⟩, hb⟩ := h
  exact ⟨⟨cell, by rw [h1]; exact q1, q⟩, hb.kept h2⟩
theorem bT.cong {g : Gx} {b n : Nat} {t u : Nat → Nat} {H : Heap} (h : bT g b n t H) (e : ∀ j, j < n → t j = u j) : bT g b n u H := by
  obtain ⟨cell, q1, q2, q3, q4, q5, q6, q7⟩ := h
  exact ⟨cell, q1, q2, q3, q4, q5, q6, fun j hj => by rw [q7 j hj, e j hj]⟩
/-- bytes that we made -/
theorem bT.of {g : Gx} {b n : Nat} {f : Nat → Int32} {t : Nat → Nat} {H : Heap} (h : va_at g.1 vwCl (b, .inl (g.2 4, n, .inl f)) H) (e : ∀ j, j < n → f j = nI (t j)) : bT g b n t H := by
  refine ⟨_, h, Or.inl rfl, fun k z => (by cases z), fun z => (by cases z), ?_, ?_, fun j hj => ?_⟩
  · show n ≤ (arrV _ _ _).slots.size
    rw [arrV_size]
    exact Nat.le_refl _
  · show (arrV _ _ _).slots.size.toInt32 = _
    rw [arrV_size]
    rfl
  · show (arrV _ _ _).slots[_]? = _
    rw [arrV_read _ _ hj, e j hj]
/-- the constant texts that are read, and those of the refusals -/
def KT : List (String × Nat × String) := [(RX4, 14, ""), (RX4, 111, "-"), (RJ1, 151, ""), (RX2, 41, "no such sign"), (RX2, 52, "the text is full"), (RX2, 67, "the text is empty"), (RX2, 194, "no such place"), (RX2, 239, "no such cell"), (RX2, 241, "no such radix"), (RX2, 243, "no such choice"), (RX2, 245, "division by 0")]
def cS : String := "java/lang/String"
def cF : String := "Ljava/util/function/BiFunction;"
def ZT (g : Gx) (b0 : Nat) (ad : Nat → Nat) (H : Heap) : Prop := (∃ b, b < b0 ∧ ad 0 < b0 ∧ sS g (ad 0) b 0 (fun _ => 0) H) ∧ (∃ b, b < b0 ∧ ad 1 < b0 ∧ sS g (ad 1) b 1 (fun _ => 45) H) ∧ (∃ b, b < b0 ∧ ad 2 < b0 ∧ sS g (ad 2) b 0 (fun _ => 0) H)
def ZW (g : Gx) (b0 : Nat) (U : State) (H : Heap) : Prop :=
  b0 ≤ H.size ∧ va_Z cS "COMPACT_STRINGS" "Z" (.int 1) (fun q => b0 ≤ q) U H ∧ va_Zq RJ3 "SIOOBE_FORMATTER" cF (fun q => b0 ≤ q) U H ∧ (vx_Zq Bundle.tN "UNASSIGNED_STACK" Bundle.steD (fun q => b0 ≤ q) U H ∧ vx_Zq Bundle.tN "SUPPRESSED_SENTINEL" Bundle.listD (fun q => b0 ≤ q) U H) ∧
  (ArrOfT U (g.2 5) .byte ∧ ArrOfT U (g.2 6) .byte ∧ ArrOfT U (g.2 7) .byte) ∧ (va_Nw (.castable "[B" "java/lang/Cloneable") U ∧ va_Nw (.castable "[I" "java/lang/Cloneable") U ∧ va_Nw (.methodLinkNest RX0 38 yX2_isSigned RX2) U ∧ va_Nw (.methodLinkNest RL 111 yX3_init RL) U ∧ va_Nw (.fieldLinkNest RL 13 RX3 "n" "J" RL) U ∧ va_Nw (.fieldLinkNest RL 100 RX3 "s" "Ljava/lang/String;" RL) U) ∧ ∃ ad : Nat → Nat, (∀ (i : Nat) (x : String × Nat × String), KT[i]? = some x → vk_R x.1 x.2.1 x.2.2 (ad i) U) ∧ ZT g b0 ad H
theorem ZT.kept {g : Gx} {b0 : Nat} {ad : Nat → Nat} {H H1 : Heap} (h : ZT g b0 ad H) (hk : ∀ q : Nat, q < b0 → H1[q]? = H[q]?) : ZT g b0 ad H1 := by
  obtain ⟨⟨b, h1, h2, h3⟩, ⟨b', h4, h5, h6⟩, ⟨b'', h7, h8, h9⟩⟩ := h
  exact ⟨⟨b, h1, h2, h3.kept (hk _ h2) (hk _ h1)⟩, ⟨b', h4, h5, h6.kept (hk _ h5) (hk _ h4)⟩, ⟨b'', h7, h8, h9.kept (hk _ h8) (hk _ h7)⟩⟩
theorem ZW.kept {g : Gx} {b0 : Nat} {U : State} {H H1 : Heap} (h : ZW g b0 U H) (hs : b0 ≤ H1.size) (hk : ∀ q : Nat, q < b0 → H1[q]? = H[q]?) : ZW g b0 U H1 := by
  have hk' : ∀ q : Nat, q < H.size → ¬ b0 ≤ q → H1[q]? = H[q]? := fun q _ h => hk q (by omega)
  obtain ⟨-, h1, h2, ⟨h3, h4⟩, h5, h8, ad, h6, h7⟩ := h
  exact ⟨hs, h1.kept hk', h2.kept hk', ⟨h3.kept hk', h4.kept hk'⟩, h5, h8, ad, h6, h7.kept hk⟩
theorem ZW.alike {g : Gx} {b0 : Nat} {u U : State} {H : Heap} (hvm : u.vm.Alike U.vm) (hr : ∀ (o tx : String) (k a : Nat), vk_R o k tx a u → vk_R o k tx a U) (hn : ∀ C D : String, va_Nw (.castable C D) u → va_Nw (.castable C D) U) (hm : ∀ (o : String) (i : Nat) (x : MethodName) (k : String), va_Nw (.methodLinkNest o i x k) u → va_Nw (.methodLinkNest o i x k) U) (hf : ∀ (o : String) (i : Nat) (b n d k : String), va_Nw (.fieldLinkNest o i b n d k) u → va_Nw (.fieldLinkNest o i b n d k) U) (h : ZW g b0 u H) : ZW g b0 U H := by
  obtain ⟨h0, h1, h2, ⟨h3, h4⟩, ⟨h5, h51, h52⟩, h8, ad, h6, h7⟩ := h
  exact ⟨h0, va_Z.moved hvm h1, va_Zq.moved hvm h2, ⟨vx_Zq.moved hvm h3, vx_Zq.moved hvm h4⟩, ⟨arrOfT_moved hvm h5, arrOfT_moved hvm h51, arrOfT_moved hvm h52⟩, ⟨hn _ _ h8.1, hn _ _ h8.2.1, hm _ _ _ _ h8.2.2.1, hm _ _ _ _ h8.2.2.2.1, hf _ _ _ _ _ _ h8.2.2.2.2.1, hf _ _ _ _ _ _ h8.2.2.2.2.2⟩, ad, fun i x hx => hr _ _ _ _ (h6 i x hx), h7⟩
theorem ZW.call {g : Gx} {b0 : Nat} {U : State} {H : Heap} {f : JFrame} {mk : MethodId} {a : Array Value} (h : ZW g b0 U H) : ZW g b0 (U.calling f mk a) H := ZW.alike (u := U) (U := U.calling f mk a) (Vm.Alike.refl U.vm) (fun _ _ _ _ q => vk_R.same (u := U) (U := U.calling f mk a) rfl q) (fun _ _ q => va_Nw.same rfl rfl q) (fun _ _ _ _ q => va_Nw.same rfl rfl q) (fun _ _ _ _ _ _ q => va_Nw.same rfl rfl q) h
theorem ZW.warm {g : Gx} {b0 : Nat} {s U : State} {H : Heap} (hW : s.WarmedH U.vm) (h : ZW g b0 s H) : ZW g b0 U H := ZW.alike hW.alike (fun _ _ _ _ q => vk_R.warm hW q) (fun _ _ q => va_Nw.warmC hW q) (fun _ _ _ _ q => va_Nw.warmM hW q) (fun _ _ _ _ _ _ q => va_Nw.warmF hW q) h
/-- here, too -/
theorem zat {g : Gx} {b0 : Nat} {s : State} {A : Nat → Prop} {H0 H : Heap} {locs : List Loc} (hZ : ZW g b0 s H0) (hS : va_S A H0 H locs) (hAb : ∀ q, A q → b0 ≤ q) : ZW g b0 s H := by
  have h0 := hZ.1
  exact hZ.kept (Nat.le_trans h0 hS.1) (fun q h => hS.2.1 q (by omega) (fun z => by have := hAb q z; omega))
/-- a contract's start: this heap, these tables, what nobody writes -/
def hJ (g : Gx) (b0 : Nat) (H0 : Heap) (U : State) : Prop := U.heap = H0 ∧ KK g U ∧ ZW g b0 U H0
section CJ
variable {p : Program} {l : Launch} {e : Env} {R : Room} {s : State} {m : MethodId} {args : Array Value} {below : List Frame} {meth : Method} {c : Code} {H H0 : Heap} {locs : List Loc} {cells slots : Nat} {Q : State → Prop}
variable {Ts ws ws' : List Cond} {cc bytes : ByteArray} {nL maxL index n mc ms pc b0 : Nat} {own C owner : String} {x y : MethodName} {ret ret' : Option FieldType} {rm : Room} {free A : Addr → Prop}
variable {b : Addr} {As rest : List Value} {ls : Array Slot} {lv : List (Nat × Value)} {g : Gx} {v : Option Value}
theorem hJ_blind (g : Gx) (b0 : Nat) (H0 : Heap) (av : List Value) : FrameBlind (va_Pc av (hJ g b0 H0)) := fun _ _ _ _ q => ⟨q.1, q.2.1, q.2.2.1.call, q.2.2.2.call⟩
theorem hJ_pre (hK : KK g s) (hZ : ZW g b0 s H) (av : List Value) : ∀ U : State, U.heap = H → s.WarmedH U.vm → va_Pc av (hJ g b0 H) av.toArray U := fun _ hU hW => ⟨rfl, hU, hK.warm hW, hZ.warm hW⟩
theorem va_to {fr : JFrame} {Qa : State → Outcome → State → Prop} (h : va_Run p l e R s m args below meth c H locs cells slots mc ms fr rest Qa free) : CallRun p l e R s m args below meth c H locs cells slots mc ms fr rest Qa free := fun T hT X => by
  obtain ⟨v, st, t, T', L, a1, a2, a3, a4, -, a6, a7⟩ := h T hT X
  exact ⟨v, st, t, T', L, a1, a2, a3, a4, a6, a7⟩
section PURE
variable (C0 : Cx p s m args meth c own cc nL ret Ts) (hl : lv_has ls nL lv) (hK : KK g s) (hS : va_S A H0 H locs) (hA : ∀ q, H0.size ≤ q → A q) (hZ : ZW g b0 s H)
theorem jp_S (C0 : Cx p s m args meth c own cc nL ret Ts) (hl : lv_has ls nL lv) (hK : KK g s) (hS : va_S A H0 H locs) (hA : ∀ q, H0.size ≤ q → A q) (hZ : ZW g b0 s H)
    (hM : Met l y ws rm (va_Pc As (hJ g b0 H)) (pQ v H) 0 0 (fun q => H.size ≤ q)) (hG : GoodIn Ts (va_wsS own index y ws)) (hw : ws = Cond.code y bytes maxL ret' :: ws') (hrc : rm.cells = 0 ∧ rm.slots = 0)
    (hd : hd_ok y As.length) (hR : rm.frames + 1 ≤ R.frames ∧ 8 + (maxL + 11) + rm.locals ≤ R.locals) {st : List Value} (hst : st = As.reverse ++ rest) (hW : (rest.map fun v => v.category).sum ≤ 8) (hc : cells ≤ R.cells ∧ slots ≤ R.slots) (hdg : decode cc pc = .ok (.invokestatic index, 3))
    (kk : ∀ locs1 : List Loc, va_S A H0 H locs1 → W p l e R s m args below meth c H locs1 cells slots Q (F0 m (pc + 3) ls (v.toList ++ rest))) : W p l e R s m args below meth c H locs cells slots Q (F0 m pc ls st) := by
  obtain ⟨hx, hb, hr, hml, hown, hts, hlk⟩ := C0
  exact cr_pure (W.runS (g := F0 m pc ls st) ⟨hx, hb, hml, hown, hts⟩ hM (va_cwS As.length hts hG hw hrc.1 hrc.2 hd hR) ⟨hJ_blind g b0 H As, hJ_pre hK hZ As⟩ rfl rfl hl.1 hst (lv_room hW) hdg hc) rfl hS hA kk
theorem jp_V (C0 : Cx p s m args meth c own cc nL ret Ts) (hl : lv_has ls nL lv) (hK : KK g s) (hS : va_S A H0 H locs) (hA : ∀ q, H0.size ≤ q → A q) (hZ : ZW g b0 s H)
    (hM : Met l y ws rm (va_Pc (.ref b :: As) (hJ g b0 H)) (pQ v H) 0 0 (fun q => H.size ≤ q)) (hG : GoodIn Ts (wsV own index C y ws)) (hw : ws = Cond.code y bytes maxL ret' :: ws') (hrc : rm.cells = 0 ∧ rm.slots = 0)
    (hrv : ∃ cell : Cell, H[b]? = some cell ∧ cell.vm.isStatics = false ∧ s.vm.findClass C = some cell.cls)
    (hd : y.cls = C ∧ hd_ok y As.length) (hR : rm.frames + 1 ≤ R.frames ∧ 8 + (maxL + 11) + rm.locals ≤ R.locals) {st : List Value} (hst : st = As.reverse ++ .ref b :: rest) (hW : (rest.map fun v => v.category).sum ≤ 8) (hc : cells ≤ R.cells ∧ slots ≤ R.slots) (hdg : decode cc pc = .ok (.invokevirtual index, 3))
    (kk : ∀ locs1 : List Loc, va_S A H0 H locs1 → W p l e R s m args below meth c H locs1 cells slots Q (F0 m (pc + 3) ls (v.toList ++ rest))) : W p l e R s m args below meth c H locs cells slots Q (F0 m pc ls st) := by
  obtain ⟨hx, hb, hr, hml, hown, hts, hlk⟩ := C0
  exact cr_pure (W.runV (g := F0 m pc ls st) ⟨hx, hb, hml, hown, hts⟩ hM (cwV As.length hts hG hw hrc.1 hrc.2 hd hR) ⟨hJ_blind g b0 H (.ref b :: As), hrv, hJ_pre hK hZ (.ref b :: As)⟩ rfl rfl hl.1 hst (lv_room hW) hdg hc) rfl hS hA kk
theorem jp_U (C0 : Cx p s m args meth c own cc nL ret Ts) (hl : lv_has ls nL lv) (hK : KK g s) (hS : va_S A H0 H locs) (hA : ∀ q, H0.size ≤ q → A q) (hZ : ZW g b0 s H)
    (hM : Met l y ws rm (va_Pc (.ref b :: As) (hJ g b0 H)) (pQ v H) 0 0 (fun q => H.size ≤ q)) (hG : GoodIn Ts (va_wsU own index C owner x y ws)) (hw : ws = Cond.code y bytes maxL ret' :: ws') (hrc : rm.cells = 0 ∧ rm.slots = 0)
    (hrv : ∃ cell : Cell, H[b]? = some cell ∧ cell.vm.isStatics = false ∧ s.vm.findClass C = some cell.cls)
    (hyx : y = ⟨owner, x.name, x.desc⟩) (hd : owner ≠ "java/lang/invoke/MethodHandle" ∧ owner ≠ "java/lang/invoke/VarHandle" ∧ (parseMethodDescriptor x.desc).map (fun d => d.parameters.length) = some As.length) (hR : rm.frames + 1 ≤ R.frames ∧ 8 + (maxL + 11) + rm.locals ≤ R.locals) {st : List Value} (hst : st = As.reverse ++ .ref b :: rest) (hW : (rest.map fun v => v.category).sum ≤ 8) (hc : cells ≤ R.cells ∧ slots ≤ R.slots) (hdg : decode cc pc = .ok (.invokevirtual index, 3))
    (kk : ∀ locs1 : List Loc, va_S A H0 H locs1 → W p l e R s m args below meth c H locs1 cells slots Q (F0 m (pc + 3) ls (v.toList ++ rest))) : W p l e R s m args below meth c H locs cells slots Q (F0 m pc ls st) := by
  obtain ⟨hx, hb, hr, hml, hown, hts, hlk⟩ := C0
  exact cr_pure (va_to (va_runU (g := F0 m pc ls st) ⟨hx, hb, hml, hown, hts⟩ hM (va_cwU As.length hts hG hw hrc.1 hrc.2 hyx hd hR) ⟨hJ_blind g b0 H (.ref b :: As), hrv, hJ_pre hK hZ (.ref b :: As)⟩ rfl rfl hl.1 hst (lv_room hW) hdg hc)) rfl hS hA kk
theorem jp_O (C0 : Cx p s m args meth c own cc nL ret Ts) (hl : lv_has ls nL lv) (hK : KK g s) (hS : va_S A H0 H locs) (hA : ∀ q, H0.size ≤ q → A q) (hZ : ZW g b0 s H)
    (hM : Met l y ws rm (va_Pc (.ref b :: As) (hJ g b0 H)) (pQ v H) 0 0 (fun q => H.size ≤ q)) (hG : GoodIn Ts (va_wsO own index C owner x y ws)) (hw : ws = Cond.code y bytes maxL ret' :: ws') (hrc : rm.cells = 0 ∧ rm.slots = 0)
    (hrv : ∃ cell : Cell, H[b]? = some cell ∧ cell.vm.isStatics = false ∧ s.vm.findClass C = some cell.cls) {bb : ByteArray} {mm : Nat} {rr : Option FieldType} (hcd : Cond.code ⟨owner, x.name, x.desc⟩ bb mm rr ∈ Ts)
    (hd : owner ≠ "java/lang/invoke/MethodHandle" ∧ owner ≠ "java/lang/invoke/VarHandle" ∧ (parseMethodDescriptor x.desc).map (fun d => d.parameters.length) = some As.length) (hR : rm.frames + 1 ≤ R.frames ∧ 8 + (maxL + 11) + rm.locals ≤ R.locals) {st : List Value} (hst : st = As.reverse ++ .ref b :: rest) (hW : (rest.map fun v => v.category).sum ≤ 8) (hc : cells ≤ R.cells ∧ slots ≤ R.slots) (hdg : decode cc pc = .ok (.invokevirtual index, 3))
    (kk : ∀ locs1 : List Loc, va_S A H0 H locs1 → W p l e R s m args below meth c H locs1 cells slots Q (F0 m (pc + 3) ls (v.toList ++ rest))) : W p l e R s m args below meth c H locs cells slots Q (F0 m pc ls st) := by
  obtain ⟨hx, hb, hr, hml, hown, hts, hlk⟩ := C0
  exact cr_pure (va_to (va_runU (g := F0 m pc ls st) ⟨hx, hb, hml, hown, hts⟩ hM (va_cwO As.length hts hG hw hrc.1 hrc.2 hcd hd hR) ⟨hJ_blind g b0 H (.ref b :: As), hrv, hJ_pre hK hZ (.ref b :: As)⟩ rfl rfl hl.1 hst (lv_room hW) hdg hc)) rfl hS hA kk
theorem jp_SU (C0 : Cx p s m args meth c own cc nL ret Ts) (hl : lv_has ls nL lv) (hK : KK g s) (hS : va_S A H0 H locs) (hA : ∀ q, H0.size ≤ q → A q) (hZ : ZW g b0 s H) {cC : ClassId} (hat : ClassAt s C cC)
    (hM : Met l y ws rm (va_Pc (.ref b :: As) (hJ g b0 H)) (pQ v H) 0 0 (fun q => H.size ≤ q)) (hG : GoodIn Ts (va_wsSU own index y ws)) (hw : ws = Cond.code y bytes maxL ret' :: ws') (hrc : rm.cells = 0 ∧ rm.slots = 0)
    (hrv : ∃ cell : Cell, H[b]? = some cell ∧ cell.vm.isStatics = false ∧ s.vm.findClass C = some cell.cls)
    (hd : y.name ≠ "<init>" ∧ (parseMethodDescriptor y.desc).map (fun d => d.parameters.length) = some As.length) (hR : rm.frames + 1 ≤ R.frames ∧ 8 + (maxL + 11) + rm.locals ≤ R.locals) {st : List Value} (hst : st = As.reverse ++ .ref b :: rest) (hW : (rest.map fun v => v.category).sum ≤ 8) (hc : cells ≤ R.cells ∧ slots ≤ R.slots) (hdg : decode cc pc = .ok (.invokespecial index, 3))
    (kk : ∀ locs1 : List Loc, va_S A H0 H locs1 → W p l e R s m args below meth c H locs1 cells slots Q (F0 m (pc + 3) ls (v.toList ++ rest))) : W p l e R s m args below meth c H locs cells slots Q (F0 m pc ls st) := by
  obtain ⟨hx, hb, hr, hml, hown, hts, hlk⟩ := C0
  exact cr_pure (va_to (va_runSU (g := F0 m pc ls st) hat ⟨hx, hb, hml, hown, hts⟩ hM (va_cwSU As.length hts hG hw hrc.1 hrc.2 hd hR) ⟨hJ_blind g b0 H (.ref b :: As), hrv, hJ_pre hK hZ (.ref b :: As)⟩ rfl rfl hl.1 hst (lv_room hW) hdg hc)) rfl hS hA kk
end PURE
theorem jn_S {mu : Nat → Prop} {P : Option Value → Heap → Prop} (C0 : Cx p s m args meth c own cc nL ret Ts) (hl : lv_has ls nL lv) (hK : KK g s) (hS : va_S A H0 H locs) (hA : ∀ q, H0.size ≤ q → A q) (hm : ∀ q, mu q → A q) (hZ : ZW g b0 s H)
    (hM : Met l y ws rm (va_Pc As (hJ g b0 H)) (nQ H mu P) mc ms (fun q => mu q ∨ H.size ≤ q)) (hG : GoodIn Ts (va_wsS own index y ws)) (hw : ws = Cond.code y bytes maxL ret' :: ws') (hrc : rm.cells = mc ∧ rm.slots = ms)
    (hd : hd_ok y As.length) (hR : rm.frames + 1 ≤ R.frames ∧ 8 + (maxL + 11) + rm.locals ≤ R.locals) {st : List Value} (hst : st = As.reverse ++ rest) (hW : (rest.map fun v => v.category).sum ≤ 8) (hc : cells + mc ≤ R.cells ∧ slots + ms ≤ R.slots) (hdg : decode cc pc = .ok (.invokestatic index, 3))
    (kk : ∀ (v : Option Value) (H1 : Heap) (locs1 : List Loc), P v H1 → H.size ≤ H1.size → (∀ q : Nat, q < H.size → ¬ mu q → H1[q]? = H[q]?) → va_S A H0 H1 locs1 → W p l e R s m args below meth c H1 locs1 (cells + mc) (slots + ms) Q (F0 m (pc + 3) ls (v.toList ++ rest))) : W p l e R s m args below meth c H locs cells slots Q (F0 m pc ls st) := by
  obtain ⟨hx, hb, hr, hml, hown, hts, hlk⟩ := C0
  exact cr_new (W.runS (g := F0 m pc ls st) ⟨hx, hb, hml, hown, hts⟩ hM (va_cwS As.length hts hG hw hrc.1 hrc.2 hd hR) ⟨hJ_blind g b0 H As, hJ_pre hK hZ As⟩ rfl rfl hl.1 hst (lv_room hW) hdg hc) rfl hS hA hm kk
theorem jn_V {mu : Nat → Prop} {P : Option Value → Heap → Prop} (C0 : Cx p s m args meth c own cc nL ret Ts) (hl : lv_has ls nL lv) (hK : KK g s) (hS : va_S A H0 H locs) (hA : ∀ q, H0.size ≤ q → A q) (hm : ∀ q, mu q → A q) (hZ : ZW g b0 s H)
    (hM : Met l y ws rm (va_Pc (.ref b :: As) (hJ g b0 H)) (nQ H mu P) mc ms (fun q => mu q ∨ H.size ≤ q)) (hG : GoodIn Ts (wsV own index C y ws)) (hw : ws = Cond.code y bytes maxL ret' :: ws') (hrc : rm.cells = mc ∧ rm.slots = ms)
    (hrv : ∃ cell : Cell, H[b]? = some cell ∧ cell.vm.isStatics = false ∧ s.vm.findClass C = some cell.cls)
    (hd : y.cls = C ∧ hd_ok y As.length) (hR : rm.frames + 1 ≤ R.frames ∧ 8 + (maxL + 11) + rm.locals ≤ R.locals) {st : List Value} (hst : st = As.reverse ++ .ref b :: rest) (hW : (rest.map fun v => v.category).sum ≤ 8) (hc : cells + mc ≤ R.cells ∧ slots + ms ≤ R.slots) (hdg : decode cc pc = .ok (.invokevirtual index, 3))
    (kk : ∀ (v : Option Value) (H1 : Heap) (locs1 : List Loc), P v H1 → H.size ≤ H1.size → (∀ q : Nat, q < H.size → ¬ mu q → H1[q]? = H[q]?) → va_S A H0 H1 locs1 → W p l e R s m args below meth c H1 locs1 (cells + mc) (slots + ms) Q (F0 m (pc + 3) ls (v.toList ++ rest))) : W p l e R s m args below meth c H locs cells slots Q (F0 m pc ls st) := by
  obtain ⟨hx, hb, hr, hml, hown, hts, hlk⟩ := C0
  exact cr_new (W.runV (g := F0 m pc ls st) ⟨hx, hb, hml, hown, hts⟩ hM (cwV As.length hts hG hw hrc.1 hrc.2 hd hR) ⟨hJ_blind g b0 H (.ref b :: As), hrv, hJ_pre hK hZ (.ref b :: As)⟩ rfl rfl hl.1 hst (lv_room hW) hdg hc) rfl hS hA hm kk
theorem jn_U {mu : Nat → Prop} {P : Option Value → Heap → Prop} (C0 : Cx p s m args meth c own cc nL ret Ts) (hl : lv_has ls nL lv) (hK : KK g s) (hS : va_S A H0 H locs) (hA : ∀ q, H0.size ≤ q → A q) (hm : ∀ q, mu q → A q) (hZ : ZW g b0 s H)
    (hM : Met l y ws rm (va_Pc (.ref b :: As) (hJ g b0 H)) (nQ H mu P) mc ms (fun q => mu q ∨ H.size ≤ q)) (hG : GoodIn Ts (va_wsU own index C owner x y ws)) (hw : ws = Cond.code y bytes maxL ret' :: ws') (hrc : rm.cells = mc ∧ rm.slots = ms)
    (hrv : ∃ cell : Cell, H[b]? = some cell ∧ cell.vm.isStatics = false ∧ s.vm.findClass C = some cell.cls)
    (hyx : y = ⟨owner, x.name, x.desc⟩) (hd : owner ≠ "java/lang/invoke/MethodHandle" ∧ owner ≠ "java/lang/invoke/VarHandle" ∧ (parseMethodDescriptor x.desc).map (fun d => d.parameters.length) = some As.length) (hR : rm.frames + 1 ≤ R.frames ∧ 8 + (maxL + 11) + rm.locals ≤ R.locals) {st : List Value} (hst : st = As.reverse ++ .ref b :: rest) (hW : (rest.map fun v => v.category).sum ≤ 8) (hc : cells + mc ≤ R.cells ∧ slots + ms ≤ R.slots) (hdg : decode cc pc = .ok (.invokevirtual index, 3))
    (kk : ∀ (v : Option Value) (H1 : Heap) (locs1 : List Loc), P v H1 → H.size ≤ H1.size → (∀ q : Nat, q < H.size → ¬ mu q → H1[q]? = H[q]?) → va_S A H0 H1 locs1 → W p l e R s m args below meth c H1 locs1 (cells + mc) (slots + ms) Q (F0 m (pc + 3) ls (v.toList ++ rest))) : W p l e R s m args below meth c H locs cells slots Q (F0 m pc ls st) := by
  obtain ⟨hx, hb, hr, hml, hown, hts, hlk⟩ := C0
  exact cr_new (va_to (va_runU (g := F0 m pc ls st) ⟨hx, hb, hml, hown, hts⟩ hM (va_cwU As.length hts hG hw hrc.1 hrc.2 hyx hd hR) ⟨hJ_blind g b0 H (.ref b :: As), hrv, hJ_pre hK hZ (.ref b :: As)⟩ rfl rfl hl.1 hst (lv_room hW) hdg hc)) rfl hS hA hm kk
theorem jn_SU {mu : Nat → Prop} {P : Option Value → Heap → Prop} (C0 : Cx p s m args meth c own cc nL ret Ts) (hl : lv_has ls nL lv) (hK : KK g s) (hS : va_S A H0 H locs) (hA : ∀ q, H0.size ≤ q → A q) (hm : ∀ q, mu q → A q) (hZ : ZW g b0 s H) {cC : ClassId} (hat : ClassAt s C cC)
    (hM : Met l y ws rm (va_Pc (.ref b :: As) (hJ g b0 H)) (nQ H mu P) mc ms (fun q => mu q ∨ H.size ≤ q)) (hG : GoodIn Ts (va_wsSU own index y ws)) (hw : ws = Cond.code y bytes maxL ret' :: ws') (hrc : rm.cells = mc ∧ rm.slots = ms)
    (hrv : ∃ cell : Cell, H[b]? = some cell ∧ cell.vm.isStatics = false ∧ s.vm.findClass C = some cell.cls)
    (hd : y.name ≠ "<init>" ∧ (parseMethodDescriptor y.desc).map (fun d => d.parameters.length) = some As.length) (hR : rm.frames + 1 ≤ R.frames ∧ 8 + (maxL + 11) + rm.locals ≤ R.locals) {st : List Value} (hst : st = As.reverse ++ .ref b :: rest) (hW : (rest.map fun v => v.category).sum ≤ 8) (hc : cells + mc ≤ R.cells ∧ slots + ms ≤ R.slots) (hdg : decode cc pc = .ok (.invokespecial index, 3))
    (kk : ∀ (v : Option Value) (H1 : Heap) (locs1 : List Loc), P v H1 → H.size ≤ H1.size → (∀ q : Nat, q < H.size → ¬ mu q → H1[q]? = H[q]?) → va_S A H0 H1 locs1 → W p l e R s m args below meth c H1 locs1 (cells + mc) (slots + ms) Q (F0 m (pc + 3) ls (v.toList ++ rest))) : W p l e R s m args below meth c H locs cells slots Q (F0 m pc ls st) := by
  obtain ⟨hx, hb, hr, hml, hown, hts, hlk⟩ := C0
  exact cr_new (va_to (va_runSU (g := F0 m pc ls st) hat ⟨hx, hb, hml, hown, hts⟩ hM (va_cwSU As.length hts hG hw hrc.1 hrc.2 hd hR) ⟨hJ_blind g b0 H (.ref b :: As), hrv, hJ_pre hK hZ (.ref b :: As)⟩ rfl rfl hl.1 hst (lv_room hW) hdg hc)) rfl hS hA hm kk
/-- a nest mate's static method -/
theorem jp_SN (C0 : Cx p s m args meth c own cc nL ret Ts) (hl : lv_has ls nL lv) (hK : KK g s) (hS : va_S A H0 H locs) (hA : ∀ q, H0.size ≤ q → A q) {host : String} (hn : va_Nw (.methodLinkNest own index y host) s)
    (hM : Met l y ws rm (va_Pc As (hB g H)) (pQ v H) 0 0 (fun q => H.size ≤ q)) (hG : GoodIn Ts ws) (hw : ws = Cond.code y bytes maxL ret' :: ws') (hrc : rm.cells = 0 ∧ rm.slots = 0) (hi : Cond.initialized y.cls ∈ Ts ∧ Cond.static y ∈ Ts)
    (hd : hd_ok y As.length) (hR : rm.frames + 1 ≤ R.frames ∧ 8 + (maxL + 11) + rm.locals ≤ R.locals) {st : List Value} (hst : st = As.reverse ++ rest) (hW : (rest.map fun v => v.category).sum ≤ 8) (hc : cells ≤ R.cells ∧ slots ≤ R.slots) (hdg : decode cc pc = .ok (.invokestatic index, 3))
    (kk : ∀ locs1 : List Loc, va_S A H0 H locs1 → W p l e R s m args below meth c H locs1 cells slots Q (F0 m (pc + 3) ls (v.toList ++ rest))) : W p l e R s m args below meth c H locs cells slots Q (F0 m pc ls st) := by
  obtain ⟨hx, hb, hr, hml, hown, hts, hlk⟩ := C0
  exact cr_pure (va_to (va_runSN (g := F0 m pc ls st) ⟨hx, hb, hml, hown, hts⟩ hM ⟨va_cnB As.length hts hG hw hrc.1 hrc.2 hn (hts _ hi.1) hd hR, hts _ hi.2, trivial⟩ ⟨hB_blind g H As, hB_pre hK As⟩ rfl rfl hl.1 hst (lv_room hW) hdg hc)) rfl hS hA kk
/-- a constructor -/
theorem jn_I {mu : Nat → Prop} {P : Option Value → Heap → Prop} (C0 : Cx p s m args meth c own cc nL ret Ts) (hl : lv_has ls nL lv) (hK : KK g s) (hS : va_S A H0 H locs) (hA : ∀ q, H0.size ≤ q → A q) (hm : ∀ q, mu q → A q) (hZ : ZW g b0 s H)
    (hM : Met l y ws rm (va_Pc (.ref b :: As) (hJ g b0 H)) (nQ H mu P) mc ms (fun q => mu q ∨ H.size ≤ q)) (hG : GoodIn Ts ws) (hw : ws = Cond.code y bytes maxL none :: ws') (hrc : rm.cells = mc ∧ rm.slots = ms)
    (hi : Cond.initialized y.cls ∈ Ts ∧ Cond.methodLink own index y ∈ Ts ∧ Cond.instanceMethod y ∈ Ts ∧ y.name = "<init>")
    (hd : hd_ok y As.length) (hR : rm.frames + 1 ≤ R.frames ∧ 8 + (maxL + 11) + rm.locals ≤ R.locals) {st : List Value} (hst : st = As.reverse ++ .ref b :: rest) (hW : (rest.map fun v => v.category).sum ≤ 8) (hc : cells + mc ≤ R.cells ∧ slots + ms ≤ R.slots) (hdg : decode cc pc = .ok (.invokespecial index, 3))
    (kk : ∀ (v : Option Value) (H1 : Heap) (locs1 : List Loc), P v H1 → H.size ≤ H1.size → (∀ q : Nat, q < H.size → ¬ mu q → H1[q]? = H[q]?) → va_S A H0 H1 locs1 → W p l e R s m args below meth c H1 locs1 (cells + mc) (slots + ms) Q (F0 m (pc + 3) ls (v.toList ++ rest))) : W p l e R s m args below meth c H locs cells slots Q (F0 m pc ls st) := by
  obtain ⟨hx, hb, hr, hml, hown, hts, hlk⟩ := C0
  exact cr_new (va_to (va_runI (g := F0 m pc ls st) ⟨hx, hb, hml, hown, hts⟩ hM (cwI As.length hts hG hw hrc.1 hrc.2 (hts _ hi.1) (hts _ hi.2.1) (hts _ hi.2.2.1) hi.2.2.2 hd hR) ⟨hJ_blind g b0 H (.ref b :: As), hJ_pre hK hZ (.ref b :: As)⟩ rfl rfl hl.1 hst (lv_room hW) hdg hc)) rfl hS hA hm kk
end CJ

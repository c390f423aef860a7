-- MY BASE: a method's frame in one word; contracts over a known heap; calls by them
/-- the frame of a method: the machine, its code, its words -/
def Cx (p : Program) (s : State) (m : MethodId) (args : Array Value) (meth : Method) (c : Code) (own : String) (cc : ByteArray) (nL : Nat) (ret : Option FieldType) (Ts : List Cond) : Prop :=
  p.tables.exec = Jvm.exec ∧ c.code = cc ∧ meth.sig.returnType = ret ∧ c.maxLocals = nL ∧ s.vm.findClass own = some m.cls ∧ (∀ w ∈ Ts, w.before args s = true) ∧ meth.locks = false
theorem cx_met {l : Launch} {y : MethodName} {ws ws' : List Cond} {rm : Room} {Qc : Array Value → State → Outcome → State → Prop} {mc ms : Nat} {free : Addr → Prop} {cc : ByteArray} {maxL : Nat} {ret : Option FieldType} {own : String} {av : List Value} {B : State → Prop}
    (hy : plainName y.cls = true) (hw : ws = Cond.code y cc maxL ret :: ws') (ho : y.cls = own) (hn : (lg_sl av).length ≤ maxL)
    (body : ∀ (p : Program) (e : Env) (s : State) (m : MethodId) (below : List Frame) (meth : Method) (c : Code) (ls : Array Slot), Cx p s m av.toArray meth c own cc maxL ret ws → B s → meth.name = y.name → lv_has ls maxL (lv_args 0 av) →
      W p l e rm s m av.toArray below meth c s.heap [] 0 0 (MQ below Qc av.toArray s mc ms free) (F0 m 0 ls [])) : Met l y ws rm (va_Pc av B) Qc mc ms free := by
  refine Met.ofW (cc := cc) (maxL := maxL) (ret := ret) hy hw ?_
  intro p e s m args below meth c s₁ Bd hml hv
  obtain ⟨rfl, hB⟩ := hv
  rw [lg_entry_eq]
  have hown : s.vm.findClass own = some m.cls := by
    have h := findClass_of_methodNamed Bd.named
    rw [ho] at h
    exact h
  exact body p e s m below meth c _ ⟨Bd.exec, Bd.bytes, Bd.returns, hml, hown, atoms_spec (ws := ws) Bd.pre, Bd.notSynchronized⟩ hB (name_of_methodNamed Bd.named Bd.method).1 (lv_entry av hn)
/-- the classes and array kinds as the tables have them: 0 int[], 1 int[][], 2 long[], 3 char[], 4 byte[] -/
abbrev Gx : Type := va_G × (Nat → ClassId)
def gT (g : Gx) : List (ClassId × FieldType) := [(g.2 0, .int), (g.2 1, .array .int), (g.2 2, .long), (g.2 3, .char), (g.2 4, .byte)]
/-- the tables' word of int[][] -/
def AO (U : State) : Prop := (Cond.arrayOver (.array .int)).before #[] U = true
def KK (g : Gx) (U : State) : Prop := va_K g.1 vwCl (gT g) U ∧ AO U
theorem AO.moved {u U : State} (hvm : u.vm.Alike U.vm) (h : AO u) : AO U := arrayOver_alikeB hvm h
theorem KK.moved {g : Gx} {u U : State} (hvm : u.vm.Alike U.vm) (h : KK g u) : KK g U := ⟨va_K.moved hvm h.1, h.2.moved hvm⟩
theorem KK.call {g : Gx} {U : State} {f : JFrame} {mk : MethodId} {a : Array Value} (h : KK g U) : KK g (U.calling f mk a) := KK.moved (u := U) (U := U.calling f mk a) (Vm.Alike.refl U.vm) h
theorem KK.warm {g : Gx} {s U : State} (hW : s.WarmedH U.vm) (h : KK g s) : KK g U := h.moved hW.alike
theorem kk_eq {D : va_G} {cl : List vw_C} {tys : List (ClassId × FieldType)} {U : State} (h : va_K D cl tys U) {i j : Nat} {ca cb : ClassId} {ty : FieldType} (hi : tys[i]? = some (ca, ty)) (hj : tys[j]? = some (cb, ty)) : ca = cb := by
  have h1 := (h.2 i _ hi).2
  have h2 := (h.2 j _ hj).2
  cases ty with
  | object C =>
    obtain ⟨_, _, _, _, _, h1⟩ := h1
    obtain ⟨_, _, _, _, _, h2⟩ := h2
    exact Option.some.inj (h1.symm.trans h2)
  | _ => exact Option.some.inj (h1.symm.trans h2)
/-- a contract's start: this heap, these tables -/
def hB (g : Gx) (H0 : Heap) (U : State) : Prop := U.heap = H0 ∧ KK g U
/-- exactly this answer, the heap as it was -/
def pQ (v : Option Value) (H0 : Heap) : Array Value → State → Outcome → State → Prop := fun _ _ o t => o = .returned v ∧ t.heap = H0
/-- an answer and a heap with P, the old cells outside the named ones as they were -/
def nQ (H0 : Heap) (mu : Nat → Prop) (P : Option Value → Heap → Prop) : Array Value → State → Outcome → State → Prop := fun _ _ o t =>
  ∃ v : Option Value, o = .returned v ∧ P v t.heap ∧ H0.size ≤ t.heap.size ∧ ∀ q : Nat, q < H0.size → ¬ mu q → t.heap[q]? = H0[q]?
section CW
variable {p : Program} {l : Launch} {e : Env} {R : Room} {s : State} {m : MethodId} {args : Array Value} {below : List Frame} {meth : Method} {c : Code} {H H0 : Heap} {locs : List Loc} {cells slots : Nat} {Q : State → Prop}
variable {Ts ws ws' : List Cond} {cc bytes : ByteArray} {nL maxL index n mc ms pc : Nat} {own C : String} {y : MethodName} {ret ret' : Option FieldType} {rm : Room} {B : State → Prop} {Qc : Array Value → State → Outcome → State → Prop} {free A : Addr → Prop}
variable {b : Addr} {As rest : List Value} {ls : Array Slot} {lv : List (Nat × Value)} {g : Gx} {v : Option Value}
theorem hB_blind (g : Gx) (H0 : Heap) (av : List Value) : FrameBlind (va_Pc av (hB g H0)) := fun _ _ _ _ q => ⟨q.1, q.2.1, q.2.2.call⟩
theorem hB_pre (hK : KK g s) (av : List Value) : ∀ U : State, U.heap = H → s.WarmedH U.vm → va_Pc av (hB g H) av.toArray U := fun _ hU hW => ⟨rfl, hU, hK.warm hW⟩
/-- the frame's end -/
def vS (A : Nat → Prop) (H0 H : Heap) (locs : List Loc) : Prop := va_S A H0 H locs
theorem cr_pure {fr : JFrame} {Qa : Array Value} (hr : CallRun p l e R s m args below meth c H locs cells slots 0 0 fr rest (pQ v H Qa) (fun q => H.size ≤ q)) (hg : fr = F0 m pc ls fr.stack) (hS : va_S A H0 H locs) (hA : ∀ q, H0.size ≤ q → A q)
    (kk : ∀ locs1 : List Loc, va_S A H0 H locs1 → W p l e R s m args below meth c H locs1 cells slots Q (F0 m (pc + 3) ls (v.toList ++ rest))) : W p l e R s m args below meth c H locs cells slots Q fr := by
  intro T hT X
  obtain ⟨v', st, t, T', L, h0, X', hL, e1, ⟨q1, q2⟩, go⟩ := hr T hT X
  cases q1
  obtain ⟨t2, a1, b1⟩ := kk (locs ++ L) ⟨hS.1, hS.2.1, fun q hq => by
      rcases List.mem_append.mp hq with h | h
      · exact hS.2.2 q h
      · exact hA _ (Nat.le_trans hS.1 (hL q h))⟩ T' (e1.trans q2) X'
  have e9 : ({ fr with pc := fr.pc + 3, stack := v.toList ++ rest } : JFrame) = F0 m (pc + 3) ls (v.toList ++ rest) := by rw [hg]
  rw [e9] at go
  exact ⟨t2, go t2 a1, b1⟩
theorem cr_new {fr : JFrame} {Qa : Array Value} {mu : Nat → Prop} {P : Option Value → Heap → Prop} (hr : CallRun p l e R s m args below meth c H locs cells slots mc ms fr rest (nQ H mu P Qa) (fun q => mu q ∨ H.size ≤ q)) (hg : fr = F0 m pc ls fr.stack) (hS : va_S A H0 H locs) (hA : ∀ q, H0.size ≤ q → A q) (hm : ∀ q, mu q → A q)
    (kk : ∀ (v : Option Value) (H1 : Heap) (locs1 : List Loc), P v H1 → H.size ≤ H1.size → (∀ q : Nat, q < H.size → ¬ mu q → H1[q]? = H[q]?) → va_S A H0 H1 locs1 → W p l e R s m args below meth c H1 locs1 (cells + mc) (slots + ms) Q (F0 m (pc + 3) ls (v.toList ++ rest))) : W p l e R s m args below meth c H locs cells slots Q fr := by
  intro T hT X
  obtain ⟨v', st, t, T', L, h0, X', hL, e1, ⟨v9, q1, q2, q3, q4⟩, go⟩ := hr T hT X
  cases q1
  obtain ⟨t2, a1, b1⟩ := kk v' t.heap (locs ++ L) q2 q3 q4 ⟨Nat.le_trans hS.1 q3, fun q h1 h2 => (q4 q (Nat.lt_of_lt_of_le h1 hS.1) (fun z => h2 (hm q z))).trans (hS.2.1 q h1 h2), fun q hq => by
      rcases List.mem_append.mp hq with h | h
      · exact hS.2.2 q h
      · rcases hL q h with h | h
        · exact hm _ h
        · exact hA _ (Nat.le_trans hS.1 h)⟩ T' e1 X'
  have e9 : ({ fr with pc := fr.pc + 3, stack := v'.toList ++ rest } : JFrame) = F0 m (pc + 3) ls (v'.toList ++ rest) := by rw [hg]
  rw [e9] at go
  exact ⟨t2, go t2 a1, b1⟩
/-- what a call of y wants of the numbers -/
def hd_ok (y : MethodName) (n : Nat) : Prop := y.cls ≠ "java/lang/invoke/MethodHandle" ∧ y.cls ≠ "java/lang/invoke/VarHandle" ∧ (parseMethodDescriptor y.desc).map (fun d => d.parameters.length) = some n
/-- a static call, pure -/
theorem cp_S (C0 : Cx p s m args meth c own cc nL ret Ts) (hl : lv_has ls nL lv) (hK : KK g s) (hS : va_S A H0 H locs) (hA : ∀ q, H0.size ≤ q → A q)
    (hM : Met l y ws rm (va_Pc As (hB g H)) (pQ v H) 0 0 (fun q => H.size ≤ q)) (hG : GoodIn Ts (va_wsS own index y ws)) (hw : ws = Cond.code y bytes maxL ret' :: ws') (hrc : rm.cells = 0 ∧ rm.slots = 0)
    (hd : hd_ok y As.length) (hR : rm.frames + 1 ≤ R.frames ∧ 8 + (maxL + 11) + rm.locals ≤ R.locals) {st : List Value} (hst : st = As.reverse ++ rest) (hW : (rest.map fun v => v.category).sum ≤ 8) (hc : cells ≤ R.cells ∧ slots ≤ R.slots) (hdg : decode cc pc = .ok (.invokestatic index, 3))
    (kk : ∀ locs1 : List Loc, va_S A H0 H locs1 → W p l e R s m args below meth c H locs1 cells slots Q (F0 m (pc + 3) ls (v.toList ++ rest))) : W p l e R s m args below meth c H locs cells slots Q (F0 m pc ls st) := by
  obtain ⟨hx, hb, hr, hml, hown, hts, hlk⟩ := C0
  exact cr_pure (W.runS (g := F0 m pc ls st) ⟨hx, hb, hml, hown, hts⟩ hM (va_cwS As.length hts hG hw hrc.1 hrc.2 hd hR) ⟨hB_blind g H As, hB_pre hK As⟩ rfl rfl hl.1 hst (lv_room hW) hdg hc) rfl hS hA kk
/-- a static call -/
theorem cn_S {mu : Nat → Prop} {P : Option Value → Heap → Prop} (C0 : Cx p s m args meth c own cc nL ret Ts) (hl : lv_has ls nL lv) (hK : KK g s) (hS : va_S A H0 H locs) (hA : ∀ q, H0.size ≤ q → A q) (hm : ∀ q, mu q → A q)
    (hM : Met l y ws rm (va_Pc As (hB g H)) (nQ H mu P) mc ms (fun q => mu q ∨ H.size ≤ q)) (hG : GoodIn Ts (va_wsS own index y ws)) (hw : ws = Cond.code y bytes maxL ret' :: ws') (hrc : rm.cells = mc ∧ rm.slots = ms)
    (hd : hd_ok y As.length) (hR : rm.frames + 1 ≤ R.frames ∧ 8 + (maxL + 11) + rm.locals ≤ R.locals) {st : List Value} (hst : st = As.reverse ++ rest) (hW : (rest.map fun v => v.category).sum ≤ 8) (hc : cells + mc ≤ R.cells ∧ slots + ms ≤ R.slots) (hdg : decode cc pc = .ok (.invokestatic index, 3))
    (kk : ∀ (v : Option Value) (H1 : Heap) (locs1 : List Loc), P v H1 → H.size ≤ H1.size → (∀ q : Nat, q < H.size → ¬ mu q → H1[q]? = H[q]?) → va_S A H0 H1 locs1 → W p l e R s m args below meth c H1 locs1 (cells + mc) (slots + ms) Q (F0 m (pc + 3) ls (v.toList ++ rest))) : W p l e R s m args below meth c H locs cells slots Q (F0 m pc ls st) := by
  obtain ⟨hx, hb, hr, hml, hown, hts, hlk⟩ := C0
  exact cr_new (W.runS (g := F0 m pc ls st) ⟨hx, hb, hml, hown, hts⟩ hM (va_cwS As.length hts hG hw hrc.1 hrc.2 hd hR) ⟨hB_blind g H As, hB_pre hK As⟩ rfl rfl hl.1 hst (lv_room hW) hdg hc) rfl hS hA hm kk
/-- a call of an instance method, pure; the receiver lies in H -/
theorem cp_V (C0 : Cx p s m args meth c own cc nL ret Ts) (hl : lv_has ls nL lv) (hK : KK g s) (hS : va_S A H0 H locs) (hA : ∀ q, H0.size ≤ q → A q)
    (hM : Met l y ws rm (va_Pc (.ref b :: As) (hB g H)) (pQ v H) 0 0 (fun q => H.size ≤ q)) (hG : GoodIn Ts (wsV own index C y ws)) (hw : ws = Cond.code y bytes maxL ret' :: ws') (hrc : rm.cells = 0 ∧ rm.slots = 0)
    (hrv : ∃ cell : Cell, H[b]? = some cell ∧ cell.vm.isStatics = false ∧ s.vm.findClass C = some cell.cls)
    (hd : y.cls = C ∧ hd_ok y As.length) (hR : rm.frames + 1 ≤ R.frames ∧ 8 + (maxL + 11) + rm.locals ≤ R.locals) {st : List Value} (hst : st = As.reverse ++ .ref b :: rest) (hW : (rest.map fun v => v.category).sum ≤ 8) (hc : cells ≤ R.cells ∧ slots ≤ R.slots) (hdg : decode cc pc = .ok (.invokevirtual index, 3))
    (kk : ∀ locs1 : List Loc, va_S A H0 H locs1 → W p l e R s m args below meth c H locs1 cells slots Q (F0 m (pc + 3) ls (v.toList ++ rest))) : W p l e R s m args below meth c H locs cells slots Q (F0 m pc ls st) := by
  obtain ⟨hx, hb, hr, hml, hown, hts, hlk⟩ := C0
  exact cr_pure (W.runV (g := F0 m pc ls st) ⟨hx, hb, hml, hown, hts⟩ hM (cwV As.length hts hG hw hrc.1 hrc.2 hd hR) ⟨hB_blind g H (.ref b :: As), hrv, hB_pre hK (.ref b :: As)⟩ rfl rfl hl.1 hst (lv_room hW) hdg hc) rfl hS hA kk
theorem cn_V {mu : Nat → Prop} {P : Option Value → Heap → Prop} (C0 : Cx p s m args meth c own cc nL ret Ts) (hl : lv_has ls nL lv) (hK : KK g s) (hS : va_S A H0 H locs) (hA : ∀ q, H0.size ≤ q → A q) (hm : ∀ q, mu q → A q)
    (hM : Met l y ws rm (va_Pc (.ref b :: As) (hB g H)) (nQ H mu P) mc ms (fun q => mu q ∨ H.size ≤ q)) (hG : GoodIn Ts (wsV own index C y ws)) (hw : ws = Cond.code y bytes maxL ret' :: ws') (hrc : rm.cells = mc ∧ rm.slots = ms)
    (hrv : ∃ cell : Cell, H[b]? = some cell ∧ cell.vm.isStatics = false ∧ s.vm.findClass C = some cell.cls)
    (hd : y.cls = C ∧ hd_ok y As.length) (hR : rm.frames + 1 ≤ R.frames ∧ 8 + (maxL + 11) + rm.locals ≤ R.locals) {st : List Value} (hst : st = As.reverse ++ .ref b :: rest) (hW : (rest.map fun v => v.category).sum ≤ 8) (hc : cells + mc ≤ R.cells ∧ slots + ms ≤ R.slots) (hdg : decode cc pc = .ok (.invokevirtual index, 3))
    (kk : ∀ (v : Option Value) (H1 : Heap) (locs1 : List Loc), P v H1 → H.size ≤ H1.size → (∀ q : Nat, q < H.size → ¬ mu q → H1[q]? = H[q]?) → va_S A H0 H1 locs1 → W p l e R s m args below meth c H1 locs1 (cells + mc) (slots + ms) Q (F0 m (pc + 3) ls (v.toList ++ rest))) : W p l e R s m args below meth c H locs cells slots Q (F0 m pc ls st) := by
  obtain ⟨hx, hb, hr, hml, hown, hts, hlk⟩ := C0
  exact cr_new (W.runV (g := F0 m pc ls st) ⟨hx, hb, hml, hown, hts⟩ hM (cwV As.length hts hG hw hrc.1 hrc.2 hd hR) ⟨hB_blind g H (.ref b :: As), hrv, hB_pre hK (.ref b :: As)⟩ rfl rfl hl.1 hst (lv_room hW) hdg hc) rfl hS hA hm kk
/-- ends -/
theorem rt_i {r v : Int32} (C0 : Cx p s m args meth c own cc nL (some .int) Ts) (hv : r = v) (hS : va_S (fun q => H0.size ≤ q) H0 H0 locs) (hH : s.heap = H0) (hdg : decode cc pc = .ok (.ireturn, 1)) : W p l e R s m args below meth c H0 locs 0 0 (MQ below (pQ (some (.int v)) H0) args s 0 0 (fun q => H0.size ≤ q)) (F0 m pc ls [.int r]) := by
  obtain ⟨hx, hb, hr, hml, hown, hts, hlk⟩ := C0
  subst hv
  exact W.iret hx hb hr (fun t ht _ => ⟨rfl, ht⟩) hS.2.2 hdg hlk
theorem rt_z {r v : Int32} (C0 : Cx p s m args meth c own cc nL (some .boolean) Ts) (hv : r = v) (hn : narrow .boolean (.int r) = .int r) (hS : va_S (fun q => H0.size ≤ q) H0 H0 locs) (hH : s.heap = H0) (hdg : decode cc pc = .ok (.ireturn, 1)) : W p l e R s m args below meth c H0 locs 0 0 (MQ below (pQ (some (.int v)) H0) args s 0 0 (fun q => H0.size ≤ q)) (F0 m pc ls [.int r]) := by
  obtain ⟨hx, hb, hr, hml, hown, hts, hlk⟩ := C0
  subst hv
  exact W.zret hx hb hr hn (fun t ht _ => ⟨rfl, ht⟩) hS.2.2 hdg hlk
theorem rt_l {r v : Int64} (C0 : Cx p s m args meth c own cc nL (some .long) Ts) (hv : r = v) (hS : va_S (fun q => H0.size ≤ q) H0 H0 locs) (hH : s.heap = H0) (hdg : decode cc pc = .ok (.lreturn, 1)) : W p l e R s m args below meth c H0 locs 0 0 (MQ below (pQ (some (.long v)) H0) args s 0 0 (fun q => H0.size ≤ q)) (F0 m pc ls [.long r]) := by
  obtain ⟨hx, hb, hr, hml, hown, hts, hlk⟩ := C0
  subst hv
  exact W.lret hx hb hr (fun t ht _ => ⟨rfl, ht⟩) hS.2.2 hdg hlk
/-- a reference comes back, with P of it and of the heap -/
theorem rt_a {q : Nat} {rt : FieldType} {mu : Nat → Prop} {P : Option Value → Heap → Prop} (C0 : Cx p s m args meth c own cc nL (some rt) Ts) (hrt : (∃ n, rt = .object n) ∨ ∃ t, rt = .array t) (hP : P (some (.ref q)) H) (hS : va_S (fun q => mu q ∨ H0.size ≤ q) H0 H locs) (hH : s.heap = H0) (hdg : decode cc pc = .ok (.areturn, 1)) : W p l e R s m args below meth c H locs mc ms (MQ below (nQ H0 mu P) args s mc ms (fun q => mu q ∨ H0.size ≤ q)) (F0 m pc ls [.ref q]) := by
  obtain ⟨hx, hb, hr, hml, hown, hts, hlk⟩ := C0
  exact W.aret hx hb hr hrt (Or.inr ⟨_, rfl⟩) (fun t ht _ => ⟨_, rfl, by rw [ht]; exact hP, by rw [ht]; exact hS.1, fun z h1 h2 => by rw [ht]; exact hS.2.1 z h1 (fun h => h.elim h2 (fun h => absurd h1 (Nat.not_lt.mpr h)))⟩) hS.2.2 hdg hlk
theorem rt_v {mu : Nat → Prop} {P : Option Value → Heap → Prop} (C0 : Cx p s m args meth c own cc nL none Ts) (hP : P none H) (hS : va_S (fun q => mu q ∨ H0.size ≤ q) H0 H locs) (hH : s.heap = H0) (hdg : decode cc pc = .ok (.return_, 1)) : W p l e R s m args below meth c H locs mc ms (MQ below (nQ H0 mu P) args s mc ms (fun q => mu q ∨ H0.size ≤ q)) (F0 m pc ls []) := by
  obtain ⟨hx, hb, hr, hml, hown, hts, hlk⟩ := C0
  exact W.vret hx hb hr (fun t ht _ => ⟨_, rfl, by rw [ht]; exact hP, by rw [ht]; exact hS.1, fun z h1 h2 => by rw [ht]; exact hS.2.1 z h1 (fun h => h.elim h2 (fun h => absurd h1 (Nat.not_lt.mpr h)))⟩) hS.2.2 hdg hlk
theorem rt_ni {r : Int32} {ty : FieldType} {mu : Nat → Prop} {P : Option Value → Heap → Prop} (C0 : Cx p s m args meth c own cc nL (some ty) Ts) (hn : narrow ty (.int r) = .int r) (hP : P (some (.int r)) H) (hS : va_S (fun q => mu q ∨ H0.size ≤ q) H0 H locs) (hH : s.heap = H0) (hdg : decode cc pc = .ok (.ireturn, 1)) : W p l e R s m args below meth c H locs mc ms (MQ below (nQ H0 mu P) args s mc ms (fun q => mu q ∨ H0.size ≤ q)) (F0 m pc ls [.int r]) := by
  obtain ⟨hx, hb, hr, hml, hown, hts, hlk⟩ := C0
  exact W.zret hx hb hr hn (fun t ht _ => ⟨_, rfl, by rw [ht]; exact hP, by rw [ht]; exact hS.1, fun z h1 h2 => by rw [ht]; exact hS.2.1 z h1 (fun h => h.elim h2 (fun h => absurd h1 (Nat.not_lt.mpr h)))⟩) hS.2.2 hdg hlk
end CW

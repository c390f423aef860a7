-- BUILDING TEXTS: rows told by facts (a final field, a copy of bytes, a clone), and what a builder is
section JW
variable {p : Program} {l : Launch} {e : Env} {R : Room} {s : State} {m : MethodId} {args : Array Value} {below : List Frame} {meth : Method} {c : Code} {H H0 : Heap} {locs : List Loc} {cells slots : Nat} {Q : State → Prop}
variable {cc : ByteArray} {pc : Nat} {ls : Array Slot} {rest : List Value} {A : Nat → Prop} {a b0 : Nat} {g : Gx}
theorem f_putF (hexec : p.tables.exec = Jvm.exec) (hb : c.code = cc) {own ref C : String} {T : u_T} {N ci index : Nat} {Ts : List Cond} (hts : ∀ w ∈ Ts, w.before args s = true) (hin : ∀ w ∈ u_ws C T N, w ∈ Ts) (ty0 : Nat → FieldType) (hty : ∀ k, k < N → parseFieldDescriptor (T k).2.2.1 = some (ty0 k)) (hnm : ∀ a, a < N → ∀ b, b < N → a ≠ b → (T a).2.1 ≠ (T b).2.1) (hown : s.vm.findClass own = some m.cls) (hK : KK g s) (hS0 : va_S A H0 H locs) {fs : List Value} (ha : va_at g.1 vwCl (a, .inr (ci, fs)) H) (hA : A a) (hc : vwCl[ci]? = some (C, T, N)) (k : Nat) (hk : k < N) (hlink : (Cond.fieldLink own index ref (T k).2.1 (T k).2.2.1).before args s = true) (hsame : ∀ x, s.fieldFound? (T k).1 (T k).2.1 (T k).2.2.1 = some x → s.fieldFound? ref (T k).2.1 (T k).2.2.1 = some x) (hfin : (T k).2.2.2 = true) (hin2 : meth.name = "<init>") (hdecl : (T k).1 = own) {ty : FieldType} {v : Value} (hd : parseFieldDescriptor (T k).2.2.1 = some ty) (hn : narrow ty v = v) (hfit : fits ty v = true) (hl : k < fs.length)
    (hdg : decode cc pc = .ok (.putfield index, 3)) (kk : ∀ (H1 : Heap) (locs1 : List Loc), va_at g.1 vwCl (a, .inr (ci, fs.set k v)) H1 → H1.size = H.size → (∀ q : Nat, q ≠ a → H1[q]? = H[q]?) → va_S A H0 H1 locs1 → W p l e R s m args below meth c H1 locs1 cells slots Q (F0 m (pc + 3) ls rest)) : W p l e R s m args below meth c H locs cells slots Q (F0 m pc ls (v :: .ref a :: rest)) := by
  have hap := va_apart (own := own) hts hin ty0 hty hnm hK.1 hc
  obtain ⟨r, h1, cell, q1, q2, q3, q4⟩ := ha
  have hr : r = (C, T, N) := Option.some.inj (h1.symm.trans hc)
  subst hr
  obtain ⟨hS, hfc, kC, hkC, hkind⟩ := hK.1.1 ci _ hc
  obtain ⟨cf, kf, fi, f, hi, hsl⟩ := hS k hk
  have hlay := hts _ (hin _ (u_in_lay hk))
  unfold u_lay at hlay
  rw [if_pos hfin] at hlay
  have hst := (u_facts hfc hkC (u_lays hts hin hk) hi).1
  have hcf : m.cls = cf := by
    obtain ⟨_, _, c', _, _, _, -, -, hf', -, -, -, hown2, -⟩ := Cond.laysFinal_spec hlay
    have e1 : c' = cf := by have := hi.symm.trans hf'; simp at this; exact this.1.symm
    rw [hdecl] at hown2
    rw [← e1]; exact Option.some.inj (hown.symm.trans hown2)
  have h6 := u_fits hfc hkC hkind (Or.inr hlay) hi hd hn hfit
  refine W.putFinK hexec hb hown hlink (hsame _ hi) hst hcf hin2 (by rw [q2]; exact h6) q1 q3 (by rw [hsl]; exact k2_hasslot (q4 k hk)) rfl rfl hdg fun H' e1 e2 e3 => ?_
  rw [hsl] at e1 ⊢
  exact kk H' _ ⟨_, hc, t_OB.to (V := updV (vp_V fs) k v) ⟨_, e1, q2, q3, t_set q4 hap hk v⟩ (fun j _ => vp_updV_set hl v j)⟩ e2 e3 (hS0.put e2 e3 hA)
/-- bytes, whosever: n places that hold f -/
def bS (g : Gx) (b n : Nat) (f : Nat → Int32) (H : Heap) : Prop := ∃ cell : Cell, H[b]? = some cell ∧ isB g cell.cls ∧ (∀ k, cell.vm ≠ .statics k) ∧ cell.vm ≠ .unknown ∧ n ≤ cell.slots.size ∧ cell.slots.size.toInt32 = nI n ∧ ∀ j, j < n → cell.slots[j]? = some (.int (f j))
theorem bS.ofT {b n : Nat} {t : Nat → Nat} {H : Heap} (h : bT g b n t H) : bS g b n (fun j => nI (t j)) H := h
theorem bS.of {b n : Nat} {f : Nat → Int32} {H : Heap} (h : va_at g.1 vwCl (b, .inl (g.2 4, n, .inl f)) H) : bS g b n f H := by
  refine ⟨_, h, Or.inl rfl, fun k z => (by cases z), fun z => (by cases z), ?_, ?_, fun j hj => ?_⟩
  · show n ≤ (arrV _ _ _).slots.size
    rw [arrV_size]
    exact Nat.le_refl _
  · show (arrV _ _ _).slots.size.toInt32 = _
    rw [arrV_size]
    rfl
  · show (arrV _ _ _).slots[_]? = _
    rw [arrV_read _ _ hj]
theorem bS.kept {b n : Nat} {f : Nat → Int32} {H H1 : Heap} (h : bS g b n f H) (h1 : H1[b]? = H[b]?) : bS g b n f H1 := by
  obtain ⟨cell, q1, q⟩ := h
  exact ⟨cell, by rw [h1]; exact q1, q⟩
theorem bS.lt {b n : Nat} {f : Nat → Int32} {H : Heap} (h : bS g b n f H) : b < H.size := by
  obtain ⟨cell, h1, -⟩ := h
  exact (Array.getElem?_eq_some_iff.mp h1).1
theorem j_slen (hx : p.tables.exec = Jvm.exec) (hb : c.code = cc) (hK : KK g s) (hZ : ZW g b0 s H) {b n : Nat} {f : Nat → Int32} (h : bS g b n f H) (hdg : decode cc pc = .ok (.arraylength, 1))
    (kk : W p l e R s m args below meth c H locs cells slots Q (F0 m (pc + 1) ls (.int (nI n) :: rest))) : W p l e R s m args below meth c H locs cells slots Q (F0 m pc ls (.ref b :: rest)) := by
  obtain ⟨cell, h1, h2, h3, -, -, h6, -⟩ := h
  exact W.alen hx hb h1 (isB_arr hK hZ h2 h3) h6 rfl rfl hdg kk
/-- a copy of n bytes -/
theorem f_copyb (hexec : p.tables.exec = Jvm.exec) (hb : c.code = cc) (hml : c.maxLocals = ls.size) {own : String} {index : Nat} (hown : s.vm.findClass own = some m.cls) (hlink : (Cond.methodLink own index arraycopyName).before args s = true) (hnat : (Cond.native arraycopyName).before args s = true) (hstat : (Cond.static arraycopyName).before args s = true) (hini : (Cond.initialized "java/lang/System").before args s = true)
    (hK : KK g s) (hS : va_S A H0 H locs) (hZ : ZW g b0 s H) {bs n0 : Nat} {f : Nat → Int32} (hs : bS g bs n0 f H) {n1 : Nat} {f1 : Nat → Int32} (hd : va_at g.1 vwCl (a, .inl (g.2 4, n1, .inl f1)) H) (hA : A a)
    {sp dp n : Nat} (h4 : sp + n ≤ n0) (h5 : dp + n ≤ n1) (hb0 : n0 < 2 ^ 30) (hb1 : n1 < 2 ^ 30) (hfit : ∀ i, i < n → fits .byte (.int (f (sp + i))) = true)
    (hframes : 1 ≤ R.frames) (hlocals : (rest.map fun v => v.category).sum + (nativeFrameWords "java/lang/System" "arraycopy" 5 + 11) ≤ R.locals) (hdg : decode cc pc = .ok (.invokestatic index, 3))
    (kk : ∀ (H1 : Heap) (locs1 : List Loc), va_at g.1 vwCl (a, .inl (g.2 4, n1, .inl (va_cpy f f1 sp dp n))) H1 → H1.size = H.size → (∀ q : Nat, q ≠ a → H1[q]? = H[q]?) → va_S A H0 H1 locs1 → W p l e R s m args below meth c H1 locs1 cells slots Q (F0 m (pc + 3) ls rest)) : W p l e R s m args below meth c H locs cells slots Q (F0 m pc ls (.int (nI n) :: .int (nI dp) :: .ref a :: .int (nI sp) :: .ref bs :: rest)) := by
  intro T hT X
  obtain ⟨scr, hs1, hsB, hs6, hs3, hs4, -, hs5⟩ := hs
  have hc0 : H[bs]? = some scr := hs1
  have hc1 : H[a]? = some (vp_cell (g.2 4) (n1, .inl f1)) := hd
  obtain ⟨-, k0, hk0, cm0, hkk0⟩ := isB_arr hK hZ hsB hs6
  obtain ⟨-, k1, hk1, cm1, hkk1⟩ := (hK.1.2 4 _ rfl).1 n1 (fun j => .int (f1 j))
  have c1 : (nI sp).toNatClampNeg = sp := nI_clamp (by omega)
  have c2 : (nI dp).toNatClampNeg = dp := nI_clamp (by omega)
  have c3 : (nI n).toNatClampNeg = n := nI_clamp (by omega)
  have i1 : (nI sp).toInt = sp := nI_toInt (by omega)
  have i2 : (nI dp).toInt = dp := nI_toInt (by omega)
  have i3 : (nI n).toInt = n := nI_toInt (by omega)
  obtain ⟨vm', X', step⟩ := X.arraycopy hexec hown hlink hnat hstat hini (src := bs) (dst := a) (cs := scr) (cd := vp_cell (g.2 4) (n1, .inl f1)) (srcPos := nI sp) (destPos := nI dp) (n := nI n) (by rw [hT]; exact hc0) (by rw [hT]; exact hc1)
    hs6 (fun _ h => by cases h) hs3 (fun h => by cases h) hk0 hk1 hkk0 hkk1 (by simp [refKind]) (nI_pos (by omega)) (nI_pos (by omega)) (nI_pos (by omega))
    (by rw [i1, i3]; omega)
    (by rw [i2, i3]; show ¬ _ > ((arrV (g.2 4) n1 (fun j => .int (f1 j))).slots.size : Int); rw [arrV_size]; omega)
    (fun vm₁ _ i hi => by
      rw [c3] at hi
      have e : scr.slots.getD ((nI sp).toNatClampNeg + i) .null = .int (f (sp + i)) := by
        rw [c1, Array.getD_eq_getD_getElem?, hs5 _ (by omega)]
        rfl
      refine ⟨?_, ?_⟩
      · rw [e]
        exact hfit i hi
      · rw [e]
        exact trivial)
    (g := F0 m pc ls (.int (nI n) :: .int (nI dp) :: .ref a :: .int (nI sp) :: .ref bs :: rest)) rfl (by rw [hml]) (rest := rest) rfl (by rw [hb]; exact hdg) hframes (by show 2 * 0 + _ + _ ≤ _; omega)
  have e1 : copied scr (vp_cell (g.2 4) (n1, .inl f1)) (nI sp) (nI dp) (nI n) = vp_cell (g.2 4) (n1, .inl (va_cpy f f1 (nI sp).toNatClampNeg (nI dp).toNatClampNeg (nI n).toNatClampNeg)) := va_copiedX (fun z => .int z) scr (g.2 4) f f1 hs5 (by rw [c1, c3]; exact h4)
  rw [c1, c2, c3] at e1
  rw [e1] at X' step
  have hl : a < H.size := (Array.getElem?_eq_some_iff.mp hc1).1
  have hheap : ((T.setVm vm').setCell a (vp_cell (g.2 4) (n1, .inl (va_cpy f f1 sp dp n)))).heap = H.setIfInBounds a (vp_cell (g.2 4) (n1, .inl (va_cpy f f1 sp dp n))) := by rw [← hT]; rfl
  have oq : ∀ q : Nat, q ≠ a → (H.setIfInBounds a (vp_cell (g.2 4) (n1, .inl (va_cpy f f1 sp dp n))))[q]? = H[q]? := fun q hq => by simp [Array.getElem?_setIfInBounds, Ne.symm hq]
  obtain ⟨t, a1, b1⟩ := kk _ _ (show (H.setIfInBounds a _)[a]? = some _ by simp [Array.getElem?_setIfInBounds, hl]) (by simp) oq ⟨by simp; exact hS.1, fun q g1 g2 => by
      rw [oq q (fun e => g2 (by rw [e]; exact hA))]
      exact hS.2.1 q g1 g2, fun q hq => by
      rcases List.mem_append.mp hq with h | h
      · exact hS.2.2 q h
      · obtain ⟨z, -, hz⟩ := List.mem_map.mp h
        rw [← hz]
        exact hA⟩ _ hheap X'
  exact ⟨t, step t a1, b1⟩
/-- a clone of an array of one of our kinds -/
theorem f_clone (hexec : p.tables.exec = Jvm.exec) (hb : c.code = cc) (hml : c.maxLocals = ls.size) {own ad : String} {index : Nat} (hown : s.vm.findClass own = some m.cls)
    (hlink : (Cond.methodLink own index ⟨ad, "clone", "()Ljava/lang/Object;"⟩).before args s = true) (hsame : (Cond.sameMethod ad "java/lang/Object" "clone" "()Ljava/lang/Object;").before args s = true)
    (hnat : (Cond.native ⟨"java/lang/Object", "clone", "()Ljava/lang/Object;"⟩).before args s = true) (hinst : (Cond.instanceMethod ⟨"java/lang/Object", "clone", "()Ljava/lang/Object;"⟩).before args s = true)
    (hsel : (Cond.selects ad ⟨ad, "clone", "()Ljava/lang/Object;"⟩ ⟨"java/lang/Object", "clone", "()Ljava/lang/Object;"⟩).before args s = true) (hcl : va_Nw (.castable ad "java/lang/Cloneable") s)
    (hK : KK g s) (hS : va_S A H0 H locs) (t0 : Nat) {cA : ClassId} {x : vp_A} {ty : FieldType} (ha : va_at g.1 vwCl (a, .inl (cA, x)) H) (ht : (gT g)[t0]? = some (cA, ty))
    (hnm : s.vm.findClass ad = some cA) (hfit : ∀ (i : Nat) (v : Value), (vp_cell cA x).slots[i]? = some v → fits ty v = true)
    (hframes : 1 ≤ R.frames) (hlocals : (rest.map fun v => v.category).sum + 14 ≤ R.locals) (hcells : cells + 1 ≤ R.cells) (hslots : slots + x.1 ≤ R.slots) (hdg : decode cc pc = .ok (.invokevirtual index, 3))
    (kk : ∀ (q : Nat) (H1 : Heap), q = H.size → va_at g.1 vwCl (q, .inl (cA, x)) H1 → H1.size = H.size + 1 → (∀ z : Nat, z < H.size → H1[z]? = H[z]?) → va_S A H0 H1 locs →
      W p l e R s m args below meth c H1 locs (cells + 1) (slots + x.1) Q (F0 m (pc + 3) ls (.ref q :: rest))) : W p l e R s m args below meth c H locs cells slots Q (F0 m pc ls (.ref a :: rest)) := by
  have hsz : (vp_cell cA x).slots.size = x.1 := by
    obtain ⟨n, f | f | f | f | f⟩ := x <;> exact arrV_size _ _ _
  have hvm0 : (vp_cell cA x).vm = .none := by
    obtain ⟨n, f | f | f | f | f⟩ := x <;> rfl
  have hcl0 : (vp_cell cA x).cls = cA := by
    obtain ⟨n, f | f | f | f | f⟩ := x <;> rfl
  have hcellE : ({ cls := (vp_cell cA x).cls, slots := (vp_cell cA x).slots } : Cell) = vp_cell cA x := by
    obtain ⟨n, f | f | f | f | f⟩ := x <;> rfl
  obtain ⟨c0, t0', f1, f2, f3⟩ := Cond.castable_spec (va_Nw.use (A := args) rfl hcl)
  cases hnm.symm.trans f1
  intro T hT X
  have hcellT : T.heap[a]? = some (vp_cell cA x) := by rw [hT]; exact ha
  obtain ⟨-, kA, hkA, comp, hkind⟩ := State.isArrayOf_alike X.warmed.alike ((hK.1.2 t0 _ ht).1 0 (fun _ => .null))
  obtain ⟨-, kS, hkS, compS, hkindS⟩ := (hK.1.2 t0 _ ht).1 0 (fun _ => .null)
  obtain ⟨vm', X', st⟩ := X.cloneArray hexec hown hlink hsame hnat hinst hsel (a := a) (cell := vp_cell cA x) hcellT (fun k h => by rw [hvm0] at h; cases h) (by rw [hvm0]; exact fun h => by cases h) (by rw [hcl0]; exact hnm) f2 (by rw [hcl0]; exact f3)
    (fun i v hv => by
      rw [hcl0]
      have hk' : T.vm.classes[cA]? = some kA := hkA
      simpa [State.fitsSlot, State.slotType?, hk', hkind] using hfit i v hv)
    (g := F0 m pc ls (.ref a :: rest)) rfl (by rw [hml]) rfl (by rw [hb]; exact hdg) hframes (by show 2 * 0 + _ + 14 ≤ _; omega) hcells (by rw [hsz]; exact hslots) (hloader := by rw [hcl0]; exact Vm.clonesLoader_of_array hkS hkindS)
  rw [hcellE, hsz] at X'
  generalize hH1 : H.push (vp_cell cA x) = H1
  have z1 : H1.size = H.size + 1 := by rw [← hH1, Array.size_push]
  have e1 : H1[H.size]? = some (vp_cell cA x) := by rw [← hH1, Array.getElem?_push_size]
  have o1 : ∀ q : Nat, q < H.size → H1[q]? = H[q]? := fun q hq => by rw [← hH1, Array.getElem?_push, if_neg (Nat.ne_of_lt hq)]
  obtain ⟨t, b1, b2⟩ := kk H.size H1 rfl e1 z1 o1 ⟨Nat.le_trans hS.1 (by omega), fun y h1 h2 => (o1 y (Nat.lt_of_lt_of_le h1 hS.1)).trans (hS.2.1 y h1 h2), hS.2.2⟩
    ((T.setVm vm').pushCell (vp_cell cA x)) (by rw [← hH1, ← hT]; rfl) X'
  refine ⟨t, st t ?_, b2⟩
  rw [hcellE, hT]
  exact b1
end JW
/-- a builder at a: its bytes at b, cap places, the first n spell t -/
def SB (g : Gx) (a b cap n : Nat) (t : Nat → Nat) (H : Heap) : Prop := ∃ (mb : Value) (f : Nat → Int32), va_at g.1 vwCl (a, .inr (1, [.ref b, .int 0, mb, .int (nI n)])) H ∧ va_at g.1 vwCl (b, .inl (g.2 4, cap, .inl f)) H ∧ (∀ j, j < n → f j = nI (t j)) ∧ (∀ j, j < cap → fits .byte (.int (f j)) = true) ∧ n ≤ cap ∧ cap < 4096 ∧ a ≠ b
theorem SB.lt {g : Gx} {a b cap n : Nat} {t : Nat → Nat} {H : Heap} (h : SB g a b cap n t H) : a < H.size ∧ b < H.size := by
  obtain ⟨mb, f, h1, h2, -⟩ := h
  exact ⟨h1.lt, h2.lt⟩
theorem SB.kept {g : Gx} {a b cap n : Nat} {t : Nat → Nat} {H H1 : Heap} (h : SB g a b cap n t H) (ha : H1[a]? = H[a]?) (hb : H1[b]? = H[b]?) : SB g a b cap n t H1 := by
  obtain ⟨mb, f, h1, h2, h3⟩ := h
  exact ⟨mb, f, h1.kept ha, h2.kept hb, h3⟩
theorem SB.recv {g : Gx} {s : State} {a b cap n : Nat} {t : Nat → Nat} {H : Heap} (hK : KK g s) (h : SB g a b cap n t H) : ∃ cell : Cell, H[a]? = some cell ∧ cell.vm.isStatics = false ∧ s.vm.findClass RJ4 = some cell.cls := by
  obtain ⟨mb, f, h1, -⟩ := h
  exact va_recv hK.1 (p1 h1) (ci := 1) (q0 := 0) rfl rfl
theorem fits_n {k : Nat} (h : k < 128) : fits .byte (.int (nI k)) = true := by
  obtain ⟨j, hj, rfl⟩ : ∃ j : Fin 128, True ∧ k = j.1 := ⟨⟨k, h⟩, trivial, rfl⟩
  revert j
  decide +kernel
theorem narb_n {k : Nat} (h : k < 128) : vp_nar .byte (nI k) = nI k := by
  obtain ⟨j, hj, rfl⟩ : ∃ j : Fin 128, True ∧ k = j.1 := ⟨⟨k, h⟩, trivial, rfl⟩
  revert j
  decide +kernel
theorem i2b_n {k : Nat} (h : k < 128) : (nI k).toInt8.toInt32 = nI k := by
  obtain ⟨j, hj, rfl⟩ : ∃ j : Fin 128, True ∧ k = j.1 := ⟨⟨k, h⟩, trivial, rfl⟩
  revert j
  decide +kernel
/-- a text with a sign behind it -/
def tup (t : Nat → Nat) (n x : Nat) : Nat → Nat := fun j => if j = n then x else t j
/-- a text behind another one -/
def tcat (t : Nat → Nat) (n : Nat) (u : Nat → Nat) : Nat → Nat := fun j => if j < n then t j else u (j - n)

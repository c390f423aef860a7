-- THE LAW'S BASE: its words, methods with handlers, its own thing, what each call does to the state, kinds of addresses
/-- private methods of the class below, asked for of a StringBuilder -/
def lw_more : List (MethodName × MethodName) := [(⟨"java/lang/AbstractStringBuilder", "appendNull", "()Ljava/lang/AbstractStringBuilder;"⟩, yJ5_isLatin1_aae02), (⟨"java/lang/AbstractStringBuilder", "ensureCapacityInternal", "(I)V"⟩, yJ5_isLatin1_aae02), (⟨"java/lang/AbstractStringBuilder", "newCapacity", "(I)I"⟩, yJ5_isLatin1_aae02), (⟨"java/lang/AbstractStringBuilder", "putStringAt", "(ILjava/lang/String;)V"⟩, yJ5_isLatin1_aae02), (⟨"java/lang/AbstractStringBuilder", "inflateIfNeededFor", "(Ljava/lang/String;)V"⟩, yJ5_isLatin1_aae02), (⟨"java/lang/AbstractStringBuilder", "inflate", "()V"⟩, yJ5_isLatin1_aae02)]
def lw_sel6 : List Cond := lw_more.map fun q => Cond.selects RJ4 q.1 q.1
theorem sel_below {C : String} {x0 y y' : MethodName} {s : State} {args : Array Value} (hy : y.cls ≠ "java/lang/invoke/MethodHandle" ∧ y.cls ≠ "java/lang/invoke/VarHandle") (hcc : y'.cls = y.cls)
    (h1 : (Cond.selects C x0 y').before args s = true) (hpriv : (Cond.privateMethod y).before args s = true) (hinst : (Cond.instanceMethod y).before args s = true) : (Cond.selects C y y).before args s = true := by
  obtain ⟨mk, methM, hnamed, hmethM, -, -⟩ := Cond.instanceMethod_spec hinst
  have hfound : s.methodFound? y.cls y.name y.desc = some mk := State.methodFound?_of_named hnamed hy
  simp only [Cond.before, Cond.holds, Cond.value] at h1 ⊢
  cases hc : s.vm.findClass C with
  | none => rw [hc] at h1; simp at h1
  | some c =>
    have hsel : selectMethod {} s.vm c mk = .method mk := selectMethod_private hmethM (Cond.privateMethod_at hpriv mk methM hnamed hmethM)
    cases hn : s.methodNamed? y' with
    | none => rw [hc, hn] at h1; cases hf : s.methodFound? x0.cls x0.name x0.desc <;> rw [hf] at h1 <;> simp at h1
    | some m' =>
      have hcl : m'.cls = mk.cls := by
        have e1 := findClass_of_methodNamed hn
        have e2 := findClass_of_methodNamed hnamed
        rw [hcc] at e1
        exact Option.some.inj (e1.symm.trans e2)
      have hni : ((s.vm.classes[mk.cls]?).any (!·.isInterface)) = true := by
        cases hf : s.methodFound? x0.cls x0.name x0.desc with
        | none => rw [hc, hn, hf] at h1; simp at h1
        | some r =>
          rw [hc, hn, hf] at h1
          dsimp only at h1
          cases hs : selectMethod {} s.vm c r with
          | method m9 =>
            rw [hs] at h1
            simp only [beq_iff_eq, Option.some.injEq, Bool.and_eq_true, decide_eq_true_eq] at h1
            rw [← hcl]
            exact h1.2
          | _ => rw [hs] at h1; simp at h1
      rw [hfound, hnamed]
      dsimp only
      rw [hsel]
      dsimp only
      rw [hni]
      simp
theorem lw_sel6_ok {args : Array Value} {s : State} (hts : ∀ w ∈ lw_tbl, w.before args s = true) : ∀ w ∈ lw_sel6, w.before args s = true := by
  intro w hw
  obtain ⟨q, hq, rfl⟩ := List.mem_map.mp hw
  have h0 : ∀ q ∈ lw_more, ((q.1.cls ≠ "java/lang/invoke/MethodHandle" ∧ q.1.cls ≠ "java/lang/invoke/VarHandle") ∧ q.2.cls = q.1.cls) ∧ Cond.selects RJ4 q.2 q.2 ∈ lw_tbl ∧ Cond.privateMethod q.1 ∈ lw_tbl ∧ Cond.instanceMethod q.1 ∈ lw_tbl := by decide +kernel
  obtain ⟨⟨a1, a2⟩, a3, a4, a5⟩ := h0 q hq
  exact sel_below a1 a2 (hts _ a3) (hts _ a4) (hts _ a5)
-- KINDS
def cq (H : Heap) (q : Nat) (c : ClassId) : Prop := ∃ cell : Cell, H[q]? = some cell ∧ cell.cls = c
theorem cq_ne {H : Heap} {q q' : Nat} {c c' : ClassId} (h : cq H q c) (h' : cq H q' c') (hne : c ≠ c') : q ≠ q' := by
  intro e
  subst e
  obtain ⟨x, h1, h2⟩ := h
  obtain ⟨y, h3, h4⟩ := h'
  cases Option.some.inj (h1.symm.trans h3)
  exact hne (h2.symm.trans h4)
theorem cq_a {D : va_G} {cl : List vw_C} {q : Nat} {c : ClassId} {a : vp_A} {H : Heap} (h : va_at D cl (q, .inl (c, a)) H) : cq H q c := by
  refine ⟨_, h, ?_⟩
  obtain ⟨n, f⟩ := a
  unfold vp_cell
  rcases f with f | f | f | f | f <;> rfl
theorem cq_o {D : va_G} {cl : List vw_C} {q ci : Nat} {fs : List Value} {H : Heap} (h : va_at D cl (q, .inr (ci, fs)) H) : cq H q (D.1 ci) := by
  obtain ⟨r, -, cell, h1, h2, -⟩ := h
  exact ⟨cell, h1, h2⟩
theorem kk_oo {g : Gx} {U : State} (h : KK g U) {i j : Nat} {p q : vw_C} (hi : vwCl[i]? = some p) (hj : vwCl[j]? = some q) (hn : p.1 ≠ q.1) : g.1.1 i ≠ g.1.1 j := by
  intro e
  obtain ⟨-, a1, -⟩ := h.1.1 i p hi
  obtain ⟨-, b1, -⟩ := h.1.1 j q hj
  rw [← e] at b1
  obtain ⟨k1, c1, d1⟩ := Vm.findClass_spec a1
  obtain ⟨k2, c2, d2⟩ := Vm.findClass_spec b1
  cases Option.some.inj (c1.symm.trans c2)
  exact hn (d1.symm.trans d2)
theorem kk_oB {g : Gx} {U : State} (h : KK g U) {i : Nat} {p : vw_C} {c : ClassId} {ty : FieldType} (hi : vwCl[i]? = some p) (hc : ArrOfT U c ty) : g.1.1 i ≠ c := by
  intro e
  obtain ⟨-, -, k, b1, b2⟩ := h.1.1 i p hi
  obtain ⟨-, k', c1, comp, c2⟩ := hc 0 (fun _ => .null)
  have c1 : U.vm.classes[c]? = some k' := c1
  rw [e] at b1
  cases Option.some.inj (b1.symm.trans c1)
  rw [b2] at c2
  cases c2
theorem kk_oa {g : Gx} {U : State} (h : KK g U) {i j : Nat} {p : vw_C} {q : ClassId × FieldType} (hi : vwCl[i]? = some p) (hj : (gT g)[j]? = some q) : g.1.1 i ≠ q.1 := kk_oB h hi (h.1.2 j q hj).1
theorem kk_aB {U : State} {c c' : ClassId} {t t' : FieldType} (h1 : ArrOfT U c t) (h2 : ArrOfT U c' t') (hn : t ≠ t') : c ≠ c' := by
  intro e
  obtain ⟨-, k, b1, comp, b2⟩ := h1 0 (fun _ => .null)
  obtain ⟨-, k', c1, comp', c2⟩ := h2 0 (fun _ => .null)
  have b1 : U.vm.classes[c]? = some k := b1
  have c1 : U.vm.classes[c']? = some k' := c1
  rw [e] at b1
  cases Option.some.inj (b1.symm.trans c1)
  rw [b2] at c2
  cases c2
  exact hn rfl
theorem kk_ar {g : Gx} {U : State} (h : KK g U) {j : Nat} {q : ClassId × FieldType} (hj : (gT g)[j]? = some q) : ArrOfT U q.1 q.2 := (h.1.2 j q hj).1
/-- an address of the class's kinds isn't one of the model's -/
theorem kk_xm {g : Gx} {U : State} (h : KK g U) {c c' : ClassId} (hB : ∀ d, isB g d → ArrOfT U d .byte) (hc : c = g.1.1 2 ∨ c = g.1.1 3 ∨ c = g.1.1 4 ∨ c = g.2 2 ∨ c = g.2 3) (hc' : c' = g.1.1 5 ∨ c' = g.1.1 0 ∨ c' = g.2 0 ∨ c' = g.2 1 ∨ isB g c') : c ≠ c' := by
  rcases hc with rfl | rfl | rfl | rfl | rfl <;> rcases hc' with rfl | rfl | rfl | rfl | hb
  · exact kk_oo h (i := 2) (j := 5) rfl rfl (by decide)
  · exact kk_oo h (i := 2) (j := 0) rfl rfl (by decide)
  · exact kk_oa h (i := 2) (j := 0) rfl rfl
  · exact kk_oa h (i := 2) (j := 1) rfl rfl
  · exact kk_oB h (i := 2) rfl (hB _ hb)
  · exact kk_oo h (i := 3) (j := 5) rfl rfl (by decide)
  · exact kk_oo h (i := 3) (j := 0) rfl rfl (by decide)
  · exact kk_oa h (i := 3) (j := 0) rfl rfl
  · exact kk_oa h (i := 3) (j := 1) rfl rfl
  · exact kk_oB h (i := 3) rfl (hB _ hb)
  · exact kk_oo h (i := 4) (j := 5) rfl rfl (by decide)
  · exact kk_oo h (i := 4) (j := 0) rfl rfl (by decide)
  · exact kk_oa h (i := 4) (j := 0) rfl rfl
  · exact kk_oa h (i := 4) (j := 1) rfl rfl
  · exact kk_oB h (i := 4) rfl (hB _ hb)
  · exact (kk_oa h (i := 5) (j := 2) rfl rfl).symm
  · exact (kk_oa h (i := 0) (j := 2) rfl rfl).symm
  · exact kk_aB (kk_ar h (j := 2) rfl) (kk_ar h (j := 0) rfl) (fun z => by cases z)
  · exact kk_aB (kk_ar h (j := 2) rfl) (kk_ar h (j := 1) rfl) (fun z => by cases z)
  · exact kk_aB (kk_ar h (j := 2) rfl) (hB _ hb) (fun z => by cases z)
  · exact (kk_oa h (i := 5) (j := 3) rfl rfl).symm
  · exact (kk_oa h (i := 0) (j := 3) rfl rfl).symm
  · exact kk_aB (kk_ar h (j := 3) rfl) (kk_ar h (j := 0) rfl) (fun z => by cases z)
  · exact kk_aB (kk_ar h (j := 3) rfl) (kk_ar h (j := 1) rfl) (fun z => by cases z)
  · exact kk_aB (kk_ar h (j := 3) rfl) (hB _ hb) (fun z => by cases z)
theorem isB_ar {g : Gx} {b0 : Nat} {U : State} {H : Heap} (h : KK g U) (hZ : ZW g b0 U H) : ∀ d, isB g d → ArrOfT U d .byte := by
  obtain ⟨-, -, -, -, ⟨h5, h6, h7⟩, -⟩ := hZ
  intro d hd
  rcases hd with rfl | rfl | rfl | rfl
  · exact kk_ar h (j := 4) rfl
  · exact h5
  · exact h6
  · exact h7
-- THE STATE OF THE LAW
/-- the class, and the law's own thing -/
def LQ (g : Gx) (H : Heap) (x0 lc tr tc sr sc o0 : Nat) (V : Nat → Nat) (n : Nat) (t : Nat → Nat) (v : Int64) : Prop := (∃ i3 i4 i5 i6 : Int32, CL g H x0 lc tr tc sr sc i3 i4 i5 i6 V n t) ∧ (∃ w : Value, va_at g.1 vwCl (o0, .inr (4, [.long v, w])) H) ∧ ¬ mC x0 lc tr tc sr sc o0
/-- what the class's calls write, and the law's own thing -/
def mL (x0 lc tr tc sr sc o0 : Nat) (q : Nat) : Prop := mC x0 lc tr tc sr sc q ∨ q = o0
/-- an answer of one of the law's own methods, and the state behind it -/
def zL (g : Gx) (x0 lc tr tc sr sc o0 : Nat) (P : Option Value → Int64 → (Nat → Nat) → Nat → (Nat → Nat) → Prop) : Option Value → Heap → Prop := fun r H1 => ∃ (v : Int64) (V : Nat → Nat) (n : Nat) (t : Nat → Nat), P r v V n t ∧ LQ g H1 x0 lc tr tc sr sc o0 V n t v
section LB1
variable {g : Gx} {H H1 : Heap} {x0 lc tr tc sr sc o0 : Nat} {V : Nat → Nat} {n : Nat} {t : Nat → Nat} {v : Int64} {z0 mc lf dg a b : Nat} {fs : List Value} {rr : Nat → Nat} {i3 i4 i5 i6 : Int32}
theorem CL.cqs (h : CL g H x0 lc tr tc sr sc i3 i4 i5 i6 V n t) : ∀ q, mC x0 lc tr tc sr sc q → ∃ c, cq H q c ∧ (c = g.1.1 2 ∨ c = g.1.1 3 ∨ c = g.1.1 4 ∨ c = g.2 2 ∨ c = g.2 3) := by
  obtain ⟨⟨h1, -, -, ⟨f, h2, -⟩, -⟩, ⟨f2, h3, h4, -⟩, ⟨k, u, f3, h5, h6, -⟩, -⟩ := h
  intro q hq
  rcases hq with rfl | rfl | rfl | rfl | rfl | rfl
  · exact ⟨_, cq_o h1, Or.inr (Or.inl rfl)⟩
  · exact ⟨_, cq_a h2, Or.inr (Or.inr (Or.inr (Or.inl rfl)))⟩
  · exact ⟨_, cq_o h3, Or.inl rfl⟩
  · exact ⟨_, cq_a h4, Or.inr (Or.inr (Or.inr (Or.inr rfl)))⟩
  · exact ⟨_, cq_o h5, Or.inl rfl⟩
  · exact ⟨_, cq_a h6, Or.inr (Or.inr (Or.inr (Or.inr rfl)))⟩
theorem LQ.cqs (h : LQ g H x0 lc tr tc sr sc o0 V n t v) : ∀ q, mL x0 lc tr tc sr sc o0 q → ∃ c, cq H q c ∧ (c = g.1.1 2 ∨ c = g.1.1 3 ∨ c = g.1.1 4 ∨ c = g.2 2 ∨ c = g.2 3) := by
  obtain ⟨⟨i3, i4, i5, i6, h1⟩, ⟨w, h2⟩, -⟩ := h
  intro q hq
  rcases hq with hq | rfl
  · exact h1.cqs q hq
  · exact ⟨_, cq_o h2, Or.inr (Or.inr (Or.inl rfl))⟩
theorem LQ.lt (h : LQ g H x0 lc tr tc sr sc o0 V n t v) : ∀ q, mL x0 lc tr tc sr sc o0 q → q < H.size := by
  intro q hq
  obtain ⟨c, ⟨cell, h1, -⟩, -⟩ := h.cqs q hq
  exact (Array.getElem?_eq_some_iff.mp h1).1
theorem LQ.kept (h : LQ g H x0 lc tr tc sr sc o0 V n t v) (hk : ∀ q : Nat, mL x0 lc tr tc sr sc o0 q → H1[q]? = H[q]?) : LQ g H1 x0 lc tr tc sr sc o0 V n t v := by
  obtain ⟨⟨i3, i4, i5, i6, h1⟩, ⟨w, h2⟩, h3⟩ := h
  exact ⟨⟨i3, i4, i5, i6, h1.kept (fun q _ hq => hk q (Or.inl hq))⟩, ⟨w, h2.kept (hk _ (Or.inr rfl))⟩, h3⟩
/-- the model's addresses -/
def mtA (z0 mc lf dg a b : Nat) (rr : Nat → Nat) (q : Nat) : Prop := q = z0 ∨ q = mc ∨ q = lf ∨ q = dg ∨ q = a ∨ q = b ∨ ∃ i, i < 8 ∧ q = rr i
theorem MT.cqs (h : MT g H z0 mc lf dg fs rr V a b n t) : ∀ q, mtA z0 mc lf dg a b rr q → ∃ c, cq H q c ∧ (c = g.1.1 5 ∨ c = g.1.1 0 ∨ c = g.2 0 ∨ c = g.2 1 ∨ isB g c) := by
  obtain ⟨⟨h1, -, -, -, -, ⟨fr, h2, -⟩, h3, ⟨f, h4⟩, ⟨d, h5⟩, -⟩, -, -, ⟨⟨ca, h6, h7, -⟩, cb, h8, h9, -⟩, -⟩ := h
  intro q hq
  rcases hq with rfl | rfl | rfl | rfl | rfl | rfl | ⟨i, hi, rfl⟩
  · exact ⟨_, cq_o h1, Or.inl rfl⟩
  · exact ⟨_, cq_a h2, Or.inr (Or.inr (Or.inr (Or.inl rfl)))⟩
  · exact ⟨_, cq_a h4, Or.inr (Or.inr (Or.inl rfl))⟩
  · exact ⟨_, cq_a h5, Or.inr (Or.inr (Or.inl rfl))⟩
  · exact ⟨_, ⟨ca, h6, h7⟩, Or.inr (Or.inl rfl)⟩
  · exact ⟨_, ⟨cb, h8, rfl⟩, Or.inr (Or.inr (Or.inr (Or.inr h9)))⟩
  · exact ⟨_, cq_a (h3 i hi).1, Or.inr (Or.inr (Or.inl rfl))⟩
theorem MT.keptA (h : MT g H z0 mc lf dg fs rr V a b n t) (hk : ∀ q : Nat, mtA z0 mc lf dg a b rr q → H1[q]? = H[q]?) : MT g H1 z0 mc lf dg fs rr V a b n t := by
  obtain ⟨⟨h1, a0, a1, a2, a3, ⟨fr, h2, h2'⟩, h3, ⟨f, h4⟩, ⟨d, h5⟩, h6⟩, h7, h8, h9, h10⟩ := h
  exact ⟨⟨h1.kept (hk _ (Or.inl rfl)), a0, a1, a2, a3, ⟨fr, h2.kept (hk _ (Or.inr (Or.inl rfl))), h2'⟩, fun i hi => ⟨(h3 i hi).1.kept (hk _ (Or.inr (Or.inr (Or.inr (Or.inr (Or.inr (Or.inr ⟨i, hi, rfl⟩)))))) ), (h3 i hi).2⟩, ⟨f, h4.kept (hk _ (Or.inr (Or.inr (Or.inl rfl))))⟩, ⟨d, h5.kept (hk _ (Or.inr (Or.inr (Or.inr (Or.inl rfl)))))⟩, h6⟩, h7, h8, h9.kept (hk _ (Or.inr (Or.inr (Or.inr (Or.inr (Or.inl rfl)))))) (hk _ (Or.inr (Or.inr (Or.inr (Or.inr (Or.inr (Or.inl rfl))))))), h10⟩
/-- the two sides write apart -/
theorem ls_mt {b0 : Nat} {U : State} {H9 : Heap} (hK : KK g U) (hZ : ZW g b0 U H9) {V' : Nat → Nat} {n' : Nat} {t' : Nat → Nat} (h1 : LQ g H x0 lc tr tc sr sc o0 V n t v) (h2 : MT g H z0 mc lf dg fs rr V' a b n' t') : (∀ q, mtA z0 mc lf dg a b rr q → ¬ mL x0 lc tr tc sr sc o0 q) ∧ ∀ q, mL x0 lc tr tc sr sc o0 q → ¬ zM z0 mc lf dg q := by
  have hh : ∀ q, mtA z0 mc lf dg a b rr q → ¬ mL x0 lc tr tc sr sc o0 q := by
    intro q hq hq'
    obtain ⟨c, c1, c2⟩ := h1.cqs q hq'
    obtain ⟨d, d1, d2⟩ := h2.cqs q hq
    exact cq_ne c1 d1 (kk_xm hK (isB_ar hK hZ) c2 d2) rfl
  refine ⟨hh, fun q hq hq' => hh q ?_ hq⟩
  rcases hq' with e | e | e | e
  · exact Or.inl e
  · exact Or.inr (Or.inl e)
  · exact Or.inr (Or.inr (Or.inl e))
  · exact Or.inr (Or.inr (Or.inr (Or.inl e)))
theorem mt_lt (h : MT g H z0 mc lf dg fs rr V a b n t) : ∀ q, mtA z0 mc lf dg a b rr q → q < H.size := by
  intro q hq
  obtain ⟨c, ⟨cell, h1, -⟩, -⟩ := h.cqs q hq
  exact (Array.getElem?_eq_some_iff.mp h1).1
end LB1
-- WHAT THE CALLS DO TO THE STATE
/-- one cell set to f of what it was -/
def oC1 (x : Int32) (f : Nat → Nat) (V V2 : Nat → Nat) : Prop := (∃ i, i < 8 ∧ x = nI i ∧ V2 = va_up V i (f (V i))) ∨ (¬ isC x ∧ V2 = V)
theorem oC1_uq {x : Int32} {f : Nat → Nat} {V V2 V3 : Nat → Nat} (h : oC1 x f V V2) (h' : oC1 x f V V3) : V3 = V2 := by
  rcases h with ⟨i, hi, e, rfl⟩ | ⟨hn, rfl⟩ <;> rcases h' with ⟨j, hj, e', rfl⟩ | ⟨hn', rfl⟩
  · have : i = j := nI_inj (by omega) (by omega) (e.symm.trans e')
    rw [this]
  · exact absurd (by rw [e]; exact isC_nI hi) hn'
  · exact absurd (by rw [e']; exact isC_nI hj) hn
  · rfl
/-- one cell set by another one -/
def oC2 (x y : Int32) (ok : Nat → Prop) (f : Nat → Nat → Nat) (V V2 : Nat → Nat) : Prop := (∃ i j, i < 8 ∧ j < 8 ∧ x = nI i ∧ y = nI j ∧ ok (V j) ∧ V2 = va_up V i (f (V i) (V j))) ∨ ((∀ i j, i < 8 → j < 8 → x = nI i → y = nI j → ¬ ok (V j)) ∧ V2 = V)
theorem oC2_uq {x y : Int32} {ok : Nat → Prop} {f : Nat → Nat → Nat} {V V2 V3 : Nat → Nat} (h : oC2 x y ok f V V2) (h' : oC2 x y ok f V V3) : V3 = V2 := by
  rcases h with ⟨i, j, hi, hj, e, e2, hok, rfl⟩ | ⟨hn, rfl⟩ <;> rcases h' with ⟨i', j', hi', hj', e', e2', hok', rfl⟩ | ⟨hn', rfl⟩
  · have a1 : i = i' := nI_inj (by omega) (by omega) (e.symm.trans e')
    have a2 : j = j' := nI_inj (by omega) (by omega) (e2.symm.trans e2')
    rw [a1, a2]
  · exact absurd hok (hn' i j hi hj e e2)
  · exact absurd hok' (hn i' j' hi' hj' e' e2')
  · rfl
def oTy (x : Int32) (zg : Bool) (n : Nat) (t : Nat → Nat) (n2 : Nat) (t2 : Nat → Nat) : Prop := (∃ i : Nat, i ≤ 37 ∧ x = nI i ∧ n < 70 ∧ n2 = n + 1 ∧ t2 = tup t n (chN i zg)) ∨ ((¬ (nI 0 ≤ x ∧ x ≤ nI 37) ∨ n = 70) ∧ n2 = n ∧ t2 = t)
theorem oTy_uq {x : Int32} {zg : Bool} {n n2 n3 : Nat} {t t2 t3 : Nat → Nat} (h : oTy x zg n t n2 t2) (h' : oTy x zg n t n3 t3) : n3 = n2 ∧ t3 = t2 := by
  rcases h with ⟨i, hi, e, hn, rfl, rfl⟩ | ⟨hn, rfl, rfl⟩ <;> rcases h' with ⟨i', hi', e', hn', rfl, rfl⟩ | ⟨hn', rfl, rfl⟩
  · have a1 : i = i' := nI_inj (by omega) (by omega) (e.symm.trans e')
    rw [a1]
    exact ⟨rfl, rfl⟩
  · rcases hn' with q | q
    · exact absurd (by rw [e]; exact ⟨nI_le (Nat.zero_le i) (by omega), nI_le hi (by decide)⟩) q
    · omega
  · rcases hn with q | q
    · exact absurd (by rw [e']; exact ⟨nI_le (Nat.zero_le i') (by omega), nI_le hi' (by decide)⟩) q
    · omega
  · exact ⟨rfl, rfl⟩
theorem isT_uq {r k9 v : Nat} {yb : Bool} {k k' : Nat} {t t' : Nat → Nat} (h : isT r k9 v yb k t) (h' : isT r k9 v yb k' t') : k' = k ∧ t' = t := by
  rcases h with ⟨h1, h2, rfl⟩ | ⟨h1, k2, rfl, h2, rfl⟩ <;> rcases h' with ⟨h3, h4, rfl⟩ | ⟨h3, k3, rfl, h4, rfl⟩
  · rw [isW_uniq h2 h4]
    exact ⟨rfl, rfl⟩
  · exact absurd h3 h1
  · exact absurd h1 h3
  · rw [isW_uniq h2 h4]
    exact ⟨rfl, rfl⟩
/-- the cell written as a text -/
def rkOK (y kd : Int32) : Prop := (nI 2 ≤ y ∧ y ≤ nI 36) ∧ nI 0 ≤ kd ∧ kd ≤ nI 3
theorem rkOK_nI {r d : Nat} (hr : 2 ≤ r ∧ r ≤ 36) (hd : d < 4) : rkOK (nI r) (nI d) := ⟨⟨nI_le hr.1 (by omega), nI_le hr.2 (by decide)⟩, nI_le (Nat.zero_le d) (by omega), nI_le (by omega) (by decide)⟩
theorem rkOK_of {y kd : Int32} (h : rkOK y kd) : ∃ r d : Nat, (2 ≤ r ∧ r ≤ 36) ∧ d < 4 ∧ y = nI r ∧ kd = nI d := by
  obtain ⟨r, hr, rfl⟩ := rad_of h.1
  obtain ⟨d, hd, rfl⟩ := kin_of h.2
  exact ⟨r, d, hr, hd, rfl, rfl⟩
def oWr (x y kd : Int32) (V : Nat → Nat) (n : Nat) (t : Nat → Nat) (n2 : Nat) (t2 : Nat → Nat) : Prop := (∃ i r9 d9 : Nat, i < 8 ∧ (2 ≤ r9 ∧ r9 ≤ 36) ∧ d9 < 4 ∧ x = nI i ∧ y = nI r9 ∧ kd = nI d9 ∧ isT r9 (nP (decide (d9 < 2))) (V i % 65536 ^ nP (decide (d9 < 2))) (decide (d9 % 2 = 0)) n2 t2) ∨ (¬ (isC x ∧ rkOK y kd) ∧ n2 = n ∧ t2 = t)
theorem oWr_uq {x y kd : Int32} {V : Nat → Nat} {n n2 n3 : Nat} {t t2 t3 : Nat → Nat} (h : oWr x y kd V n t n2 t2) (h' : oWr x y kd V n t n3 t3) : n3 = n2 ∧ t3 = t2 := by
  rcases h with ⟨i, r, d, hi, hr, hd, e1, e2, e3, hT⟩ | ⟨hn, rfl, rfl⟩ <;> rcases h' with ⟨i', r', d', hi', hr', hd', e1', e2', e3', hT'⟩ | ⟨hn', rfl, rfl⟩
  · have a1 : i = i' := nI_inj (by omega) (by omega) (e1.symm.trans e1')
    have a2 : r = r' := nI_inj (by omega) (by omega) (e2.symm.trans e2')
    have a3 : d = d' := nI_inj (by omega) (by omega) (e3.symm.trans e3')
    subst a1; subst a2; subst a3
    exact isT_uq hT hT'
  · exact absurd (by rw [e1, e2, e3]; exact ⟨isC_nI hi, rkOK_nI hr hd⟩) hn'
  · exact absurd (by rw [e1', e2', e3']; exact ⟨isC_nI hi', rkOK_nI hr' hd'⟩) hn
  · exact ⟨rfl, rfl⟩
def oBi (x y : Int32) (zi : Bool) (V : Nat → Nat) (n : Nat) (t : Nat → Nat) (n2 : Nat) (t2 : Nat → Nat) : Prop := (∃ i d9 : Nat, i < 8 ∧ d9 < 3 ∧ x = nI i ∧ y = nI d9 ∧ isW (basN d9) (V i % 65536 ^ nP zi) n2 ∧ t2 = dgT (basN d9) (V i % 65536 ^ nP zi) n2) ∨ (¬ (isC x ∧ (nI 0 ≤ y ∧ y ≤ nI 2)) ∧ n2 = n ∧ t2 = t)
theorem ba_nI {d : Nat} (hd : d < 3) : nI 0 ≤ nI d ∧ nI d ≤ nI 2 := ⟨nI_le (Nat.zero_le d) (by omega), nI_le (by omega) (by decide)⟩
theorem oBi_uq {x y : Int32} {zi : Bool} {V : Nat → Nat} {n n2 n3 : Nat} {t t2 t3 : Nat → Nat} (h : oBi x y zi V n t n2 t2) (h' : oBi x y zi V n t n3 t3) : n3 = n2 ∧ t3 = t2 := by
  rcases h with ⟨i, d, hi, hd, e1, e3, hT, rfl⟩ | ⟨hn, rfl, rfl⟩ <;> rcases h' with ⟨i', d', hi', hd', e1', e3', hT', rfl⟩ | ⟨hn', rfl, rfl⟩
  · have a1 : i = i' := nI_inj (by omega) (by omega) (e1.symm.trans e1')
    have a3 : d = d' := nI_inj (by omega) (by omega) (e3.symm.trans e3')
    subst a1; subst a3
    rw [isW_uniq hT hT']
    exact ⟨rfl, rfl⟩
  · exact absurd (by rw [e1, e3]; exact ⟨isC_nI hi, ba_nI hd⟩) hn'
  · exact absurd (by rw [e1', e3']; exact ⟨isC_nI hi', ba_nI hd'⟩) hn
  · exact ⟨rfl, rfl⟩
def oRd (x y kd : Int32) (n : Nat) (t : Nat → Nat) (V V2 : Nat → Nat) : Prop := (∃ i r9 d9 : Nat, i < 8 ∧ (2 ≤ r9 ∧ r9 ≤ 36) ∧ d9 < 4 ∧ x = nI i ∧ y = nI r9 ∧ kd = nI d9 ∧ ((saOK r9 n t d9 ∧ V2 = va_up V i (wideN (nP (decide (d9 < 2))) (saV r9 n t d9))) ∨ (¬ saOK r9 n t d9 ∧ V2 = V))) ∨ (¬ (isC x ∧ rkOK y kd) ∧ V2 = V)
theorem oRd_uq {x y kd : Int32} {n : Nat} {t : Nat → Nat} {V V2 V3 : Nat → Nat} (h : oRd x y kd n t V V2) (h' : oRd x y kd n t V V3) : V3 = V2 := by
  rcases h with ⟨i, r, d, hi, hr, hd, e1, e2, e3, hT⟩ | ⟨hn, rfl⟩ <;> rcases h' with ⟨i', r', d', hi', hr', hd', e1', e2', e3', hT'⟩ | ⟨hn', rfl⟩
  · have a1 : i = i' := nI_inj (by omega) (by omega) (e1.symm.trans e1')
    have a2 : r = r' := nI_inj (by omega) (by omega) (e2.symm.trans e2')
    have a3 : d = d' := nI_inj (by omega) (by omega) (e3.symm.trans e3')
    subst a1; subst a2; subst a3
    rcases hT with ⟨h1, rfl⟩ | ⟨h1, rfl⟩ <;> rcases hT' with ⟨h2, rfl⟩ | ⟨h2, rfl⟩
    · rfl
    · exact absurd h1 h2
    · exact absurd h2 h1
    · rfl
  · exact absurd (by rw [e1, e2, e3]; exact ⟨isC_nI hi, rkOK_nI hr hd⟩) hn'
  · exact absurd (by rw [e1', e2', e3']; exact ⟨isC_nI hi', rkOK_nI hr' hd'⟩) hn
  · rfl
/-- a long of a truth -/
def lB (b : Bool) : Int64 := if b then lN 1 else lN 0
-- METHODS WITH HANDLERS
theorem cxw_met {l : Launch} {y : MethodName} {ws ws' : List Cond} {rm : Room} {Qc : Array Value → State → Outcome → State → Prop} {mc ms : Nat} {free : Addr → Prop} {cc : ByteArray} {maxL : Nat} {ret : Option FieldType} {hh : List (Nat × Nat × Nat × Nat)} {own : String} {av : List Value} {B : State → Prop}
    (hy : plainName y.cls = true) (hw : ws = Cond.codeWith y cc maxL ret hh :: ws') (ho : y.cls = own) (hn : (lg_sl av).length ≤ maxL)
    (body : ∀ (p : Program) (e : Env) (s : State) (m : MethodId) (below : List Frame) (meth : Method) (c : Code) (ls : Array Slot), Cx p s m av.toArray meth c own cc maxL ret ws → B s → c.exceptionTable.toList = tableOf hh → lv_has ls maxL (lv_args 0 av) →
      W p l e rm s m av.toArray below meth c s.heap [] 0 0 (MQ below Qc av.toArray s mc ms free) (F0 m 0 ls [])) : Met l y ws rm (va_Pc av B) Qc mc ms free := by
  refine va_MetW (cc := cc) (maxL := maxL) (ret := ret) (hh := hh) hy hw ?_
  intro p e s m args below meth c s₁ Bd hml hv
  obtain ⟨rfl, hB⟩ := hv
  rw [lg_entry_eq]
  have hown : s.vm.findClass own = some m.cls := by
    have h := findClass_of_methodNamed Bd.named
    rw [ho] at h
    exact h
  have hts := atoms_spec (ws := ws) Bd.pre
  have htab := vx_table (x := y) Bd (hts _ (by rw [hw]; exact List.mem_cons_self))
  exact body p e s m below meth c _ ⟨Bd.exec, Bd.bytes, Bd.returns, hml, hown, hts, Bd.notSynchronized⟩ hB htab (lv_entry av hn)
section LBW
variable {p : Program} {l : Launch} {e : Env} {R : Room} {s : State} {m : MethodId} {args : Array Value} {below : List Frame} {meth : Method} {c : Code} {H H0 : Heap} {locs : List Loc} {cells slots : Nat} {Q : State → Prop}
variable {Ts ws ws' : List Cond} {cc bytes : ByteArray} {nL maxL index n mc ms pc b0 : Nat} {own C E : String} {y : MethodName} {ret ret' : Option FieldType} {rm : Room} {free A : Addr → Prop} {hh : List (Nat × Nat × Nat × Nat)}
variable {b : Addr} {As rest : List Value} {ls : Array Slot} {lv : List (Nat × Value)} {g : Gx} {v : Option Value}
/-- what a callee threw is caught here -/
theorem tx_catch {fr : JFrame} {Qa : State → Outcome → State → Prop} (C0 : Cx p s m args meth c own cc nL ret Ts) (hS : va_S A H0 H locs) (hA : ∀ q, H0.size ≤ q → A q) (hq : ∀ st o t, ¬ Qa st o t)
    (hr : vx_Run p l e R s m args below meth c H locs cells slots 1 6 fr rest Qa (xQ E H) (fun q => H.size ≤ q)) (hg : ({ fr with stack := rest } : JFrame) = F0 m pc ls rest)
    (pre : List ExceptionTableEntry) (x : ExceptionTableEntry) (suf : List ExceptionTableEntry) (hsplit : c.exceptionTable.toList = pre ++ x :: suf)
    (hpass : ∀ z ∈ pre, covers z pc = false ∨ (z.catchType ≠ 0 ∧ ∃ nm : String, (Cond.classLink own z.catchType nm).before args s = true ∧ va_Nc E nm s)) (hx : covers x pc = true) (h0 : x.catchType ≠ 0)
    (hlink : (Cond.classLink own x.catchType E).before args s = true) (hcast : (Cond.castable E E).before args s = true)
    (kk : ∀ (q : Nat) (H1 : Heap) (locs1 : List Loc), H.size ≤ H1.size → (∀ q : Nat, q < H.size → H1[q]? = H[q]?) → va_S A H0 H1 locs1 → W p l e R s m args below meth c H1 locs1 (cells + 1) (slots + 6) Q (F0 m x.handlerPc ls [.ref q])) :
    W p l e R s m args below meth c H locs cells slots Q fr := by
  intro T hT X
  rcases hr T hT X with ⟨v, st, t, T', L, h1, X', hL, e1, e2, q1, go⟩ | ⟨q, st, t, T', L, E', ce, h1, X', hL, e1, e2, ⟨rfl, q1, q2⟩, hce, hcv, hcl, go⟩
  · exact absurd q1 (hq _ _ _)
  · have hS1 : va_S A H0 t.heap (locs ++ L) := ⟨Nat.le_trans hS.1 q1, fun q h1 h2 => (q2 q (Nat.lt_of_lt_of_le h1 hS.1)).trans (hS.2.1 q h1 h2), fun z hz => by
      rcases List.mem_append.mp hz with h | h
      · exact hS.2.2 z h
      · exact hA _ (Nat.le_trans hS.1 (hL z h))⟩
    obtain ⟨t2, a1, b1⟩ := vx_catch (own := own) (name := E') (E := E') (ce := ce) (q := q) C0.2.2.2.2.1 pre x suf hsplit hpass hx h0 hlink hcast hce hcv hcl (kk q t.heap (locs ++ L) q1 q2 hS1) T' e1 X'
    rw [hg] at go
    exact ⟨t2, go.trans a1, b1⟩
/-- a method of an object that throws, and a handler -/
theorem tx_CV (C0 : Cx p s m args meth c own cc nL ret Ts) (hl : lv_has ls nL lv) (hK : KK g s) (hS : va_S A H0 H locs) (hA : ∀ q, H0.size ≤ q → A q) (hZ : ZW g b0 s H) (hE : EW s)
    (hM : vx_Met l y ws rm (va_Pc (.ref b :: As) (hX g b0 H)) xN (xQ E H) 1 6 (fun q => H.size ≤ q)) (hG : GoodIn Ts (wsV own index C y ws)) (hw : ws = Cond.code y bytes maxL ret' :: ws') (hrc : rm.cells = 1 ∧ rm.slots = 6)
    (hrv : ∃ cell : Cell, H[b]? = some cell ∧ cell.vm.isStatics = false ∧ s.vm.findClass C = some cell.cls)
    (hd : y.cls = C ∧ hd_ok y As.length) (hR : rm.frames + 1 ≤ R.frames ∧ 8 + (maxL + 11) + rm.locals ≤ R.locals) {st : List Value} (hst : st = As.reverse ++ .ref b :: rest) (hW : (rest.map fun v => v.category).sum ≤ 8) (hc : cells + 1 ≤ R.cells ∧ slots + 6 ≤ R.slots) (hdg : decode cc pc = .ok (.invokevirtual index, 3))
    (pre : List ExceptionTableEntry) (x : ExceptionTableEntry) (suf : List ExceptionTableEntry) (hsplit : c.exceptionTable.toList = pre ++ x :: suf)
    (hpass : ∀ z ∈ pre, covers z pc = false ∨ (z.catchType ≠ 0 ∧ ∃ nm : String, (Cond.classLink own z.catchType nm).before args s = true ∧ va_Nc E nm s)) (hx : covers x pc = true) (h0 : x.catchType ≠ 0)
    (hlink : (Cond.classLink own x.catchType E).before args s = true) (hcast : (Cond.castable E E).before args s = true)
    (kk : ∀ (q : Nat) (H1 : Heap) (locs1 : List Loc), H.size ≤ H1.size → (∀ q : Nat, q < H.size → H1[q]? = H[q]?) → va_S A H0 H1 locs1 → W p l e R s m args below meth c H1 locs1 (cells + 1) (slots + 6) Q (F0 m x.handlerPc ls [.ref q])) :
    W p l e R s m args below meth c H locs cells slots Q (F0 m pc ls st) := by
  obtain ⟨hx9, hb, hr, hml, hown, hts, hlk⟩ := id C0
  exact tx_catch (ls := ls) (pc := pc) C0 hS hA (fun _ _ _ h => h) (vx_runV (g := F0 m pc ls st) ⟨hx9, hb, hml, hown, hts⟩ hM (cwV As.length hts hG hw hrc.1 hrc.2 hd hR) ⟨hX_blind g b0 H (.ref b :: As), hrv, hX_pre hK hZ hE (.ref b :: As)⟩ rfl rfl hl.1 hst (lv_room hW) hdg hc) rfl pre x suf hsplit hpass hx h0 hlink hcast kk
/-- a static call of a method with handlers -/
theorem lx_S {mu : Nat → Prop} {P : Option Value → Heap → Prop} (C0 : Cx p s m args meth c own cc nL ret Ts) (hl : lv_has ls nL lv) (hK : KK g s) (hS : va_S A H0 H locs) (hA : ∀ q, H0.size ≤ q → A q) (hm : ∀ q, mu q → A q) (hZ : ZW g b0 s H) (hE : EW s)
    (hM : Met l y ws rm (va_Pc As (hX g b0 H)) (nQ H mu P) mc ms (fun q => mu q ∨ H.size ≤ q)) (hG : GoodIn Ts (va_wsS own index y ws)) (hw : ws = Cond.codeWith y bytes maxL ret' hh :: ws') (hrc : rm.cells = mc ∧ rm.slots = ms)
    (hd : hd_ok y As.length) (hR : rm.frames + 1 ≤ R.frames ∧ 8 + (maxL + 11) + rm.locals ≤ R.locals) {st : List Value} (hst : st = As.reverse ++ rest) (hW : (rest.map fun v => v.category).sum ≤ 8) (hc : cells + mc ≤ R.cells ∧ slots + ms ≤ R.slots) (hdg : decode cc pc = .ok (.invokestatic index, 3))
    (kk : ∀ (v : Option Value) (H1 : Heap) (locs1 : List Loc), P v H1 → H.size ≤ H1.size → (∀ q : Nat, q < H.size → ¬ mu q → H1[q]? = H[q]?) → va_S A H0 H1 locs1 → W p l e R s m args below meth c H1 locs1 (cells + mc) (slots + ms) Q (F0 m (pc + 3) ls (v.toList ++ rest))) : W p l e R s m args below meth c H locs cells slots Q (F0 m pc ls st) := by
  obtain ⟨hx, hb, hr, hml, hown, hts, hlk⟩ := C0
  exact cr_new (vx_runSW (g := F0 m pc ls st) (hh := hh) ⟨hx, hb, hml, hown, hts⟩ hM (vx_cwSW As.length hts hG hw hrc.1 hrc.2 hd hR) ⟨hX_blind g b0 H As, hX_pre hK hZ hE As⟩ rfl rfl hl.1 hst (lv_room hW) hdg hc).run rfl hS hA hm kk
/-- a private field of a nest mate written, told by facts -/
theorem w_putN (hexec : p.tables.exec = Jvm.exec) (hb : c.code = cc) {own ref C host : String} {T : u_T} {N ci index a : Nat} {Ts : List Cond} (hts : ∀ w ∈ Ts, w.before args s = true) (hin : ∀ w ∈ u_ws C T N, w ∈ Ts) (ty0 : Nat → FieldType) (hty : ∀ k, k < N → parseFieldDescriptor (T k).2.2.1 = some (ty0 k)) (hnm : ∀ a, a < N → ∀ b, b < N → a ≠ b → (T a).2.1 ≠ (T b).2.1) (hown : s.vm.findClass own = some m.cls) (hK : KK g s) (hS0 : va_S A H0 H locs) {fs : List Value} (ha : va_at g.1 vwCl (a, .inr (ci, fs)) H) (hA : A a) (hc : vwCl[ci]? = some (C, T, N)) (k : Nat) (hk : k < N) (hlink : (Cond.fieldLinkNest own index ref (T k).2.1 (T k).2.2.1 host).before args s = true) (hsame : ∀ x, s.fieldFound? (T k).1 (T k).2.1 (T k).2.2.1 = some x → s.fieldFound? ref (T k).2.1 (T k).2.2.1 = some x) (hfin : (T k).2.2.2 = false) {ty : FieldType} {v : Value} (hd : parseFieldDescriptor (T k).2.2.1 = some ty) (hn : narrow ty v = v) (hfit : fits ty v = true) (hl : k < fs.length)
    (hdg : decode cc pc = .ok (.putfield index, 3)) (kk : ∀ (H1 : Heap) (locs1 : List Loc), va_at g.1 vwCl (a, .inr (ci, fs.set k v)) H1 → H1.size = H.size → (∀ q : Nat, q ≠ a → H1[q]? = H[q]?) → va_S A H0 H1 locs1 → W p l e R s m args below meth c H1 locs1 cells slots Q (F0 m (pc + 3) ls rest)) : W p l e R s m args below meth c H locs cells slots Q (F0 m pc ls (v :: .ref a :: rest)) := by
  have hap := va_apart (own := own) hts hin ty0 hty hnm hK.1 hc
  obtain ⟨r, h1, cell, q1, q2, q3, q4⟩ := ha
  have hr : r = (C, T, N) := Option.some.inj (h1.symm.trans hc)
  subst hr
  obtain ⟨hS, hfc, kC, hkC, hkind⟩ := hK.1.1 ci _ hc
  obtain ⟨cf, kf, fi, f, hi, hsl⟩ := hS k hk
  have hlay := hts _ (hin _ (u_in_lay hk))
  unfold u_lay at hlay
  rw [if_neg (by rw [hfin]; decide)] at hlay
  have hst := (u_facts hfc hkC (u_lays hts hin hk) hi).1
  have h6 := u_store hfc hkC hkind hlay hi hd hn hfit
  refine va_WputK hexec hb (f := f) hown hlink (hsame _ hi) hst (by rw [q2]; exact h6) q1 q3 (by rw [hsl]; exact k2_hasslot (q4 k hk)) rfl rfl hdg fun H' e1 e2 e3 => ?_
  rw [hsl] at e1 ⊢
  exact kk H' _ ⟨_, hc, t_OB.to (V := updV (vp_V fs) k v) ⟨_, e1, q2, q3, t_set q4 hap hk v⟩ (fun j _ => vp_updV_set hl v j)⟩ e2 e3 (hS0.put e2 e3 hA)
/-- 'v != 0' -/
theorem lw_ne0 {v : Int32} (hx : p.tables.exec = Jvm.exec) (hb : c.code = cc) (d1 : decode cc pc = .ok (.ifCond .eq 7, 3)) (d2 : decode cc (pc + 3) = .ok (.iconst 1, 1)) (d3 : decode cc (pc + 4) = .ok (.goto 4, 3)) (d4 : decode cc (pc + 7) = .ok (.iconst 0, 1))
    (kk : W p l e R s m args below meth c H locs cells slots Q (F0 m (pc + 8) ls (.int (bI (decide (v ≠ 0))) :: rest))) : W p l e R s m args below meth c H locs cells slots Q (F0 m pc ls (.int v :: rest)) := by
  refine lv_if_eq (tgt := pc + 7) hx hb d1 (by omega) (fun h => ?_) (fun h => ?_)
  · refine lv_iconst (v := nI 0) hx hb d4 (by decide) ?_
    have e : bI (decide (v ≠ 0)) = nI 0 := by rw [decide_eq_false (fun z => z h)]; rfl
    rw [e] at kk
    exact kk
  · refine lv_iconst (v := nI 1) hx hb d2 (by decide) ?_
    have e : bI (decide (v ≠ 0)) = nI 1 := by rw [decide_eq_true h]; rfl
    rw [e] at kk
    exact lv_goto (tgt := pc + 8) hx hb d3 (by omega) kk
/-- 'b ? 1L : 0L' -/
theorem lw_zl {b : Bool} (hx : p.tables.exec = Jvm.exec) (hb : c.code = cc) (d1 : decode cc pc = .ok (.ifCond .eq 7, 3)) (d2 : decode cc (pc + 3) = .ok (.lconst 1, 1)) (d3 : decode cc (pc + 4) = .ok (.goto 4, 3)) (d4 : decode cc (pc + 7) = .ok (.lconst 0, 1))
    (kk : W p l e R s m args below meth c H locs cells slots Q (F0 m (pc + 8) ls (.long (lB b) :: rest))) : W p l e R s m args below meth c H locs cells slots Q (F0 m pc ls (.int (bI b) :: rest)) := by
  refine lv_if_eq (tgt := pc + 7) hx hb d1 (by omega) (fun h => ?_) (fun h => ?_)
  · refine lv_lconst (v := lN 0) hx hb d4 rfl ?_
    have e : b = false := bI_0 h
    rw [e] at kk
    exact kk
  · refine lv_lconst (v := lN 1) hx hb d2 rfl ?_
    have e : b = true := bI_n0 h
    rw [e] at kk
    exact lv_goto (tgt := pc + 8) hx hb d3 (by omega) kk
theorem lw_zv {v : Int32} (hx : p.tables.exec = Jvm.exec) (hb : c.code = cc) (d1 : decode cc pc = .ok (.ifCond .eq 7, 3)) (d2 : decode cc (pc + 3) = .ok (.lconst 1, 1)) (d3 : decode cc (pc + 4) = .ok (.goto 4, 3)) (d4 : decode cc (pc + 7) = .ok (.lconst 0, 1))
    (kk : W p l e R s m args below meth c H locs cells slots Q (F0 m (pc + 8) ls (.long (lB (decide (v ≠ 0))) :: rest))) : W p l e R s m args below meth c H locs cells slots Q (F0 m pc ls (.int v :: rest)) := by
  refine lv_if_eq (tgt := pc + 7) hx hb d1 (by omega) (fun h => ?_) (fun h => ?_)
  · refine lv_lconst (v := lN 0) hx hb d4 rfl ?_
    rw [decide_eq_false (fun z => z h)] at kk
    exact kk
  · refine lv_lconst (v := lN 1) hx hb d2 rfl ?_
    rw [decide_eq_true h] at kk
    exact lv_goto (tgt := pc + 8) hx hb d3 (by omega) kk
/-- the script read -/
theorem l_sld {b L j : Nat} {xs : Nat → Int32} (hx : p.tables.exec = Jvm.exec) (hb : c.code = cc) (hX : va_X b L xs s H0) (hbl : b < H0.size) (hbA : ¬ A b) (hS : va_S A H0 H locs) (hL : L ≤ 2560) (hj : j < L) (hdg : decode cc pc = .ok (.iaload, 1))
    (kk : W p l e R s m args below meth c H locs cells slots Q (F0 m (pc + 1) ls (.int (xs j) :: rest))) : W p l e R s m args below meth c H locs cells slots Q (F0 m pc ls (.int (nI j) :: .ref b :: rest)) := by
  have e : (nI j).toNatClampNeg = j := by
    have h1 : (nI j).toInt = (j : Int) := nI_toInt (by omega)
    show (nI j).toInt.toNat = j
    rw [h1]
    rfl
  refine va_sld hx hb hX hbl hbA hS (vp_in_nI hj (by omega)) hdg ?_
  rw [e]
  exact kk
end LBW
theorem i2l_B (b : Bool) : (bI b).toInt64 = lB b := by cases b <;> rfl
/-- is there another call? -/
theorem l_le5 {k L : Nat} (hk : k ≤ 2560) (hL : L ≤ 2560) (h : ¬ (nI L - nI 5 < nI k)) : k + 5 ≤ L := by
  rcases Nat.lt_or_ge L 5 with h5 | h5
  · refine absurd ?_ h
    have e0 : (nI k).toInt = (k : Int) := nI_toInt (by omega)
    refine Int32.lt_iff_toInt_lt.mpr ?_
    rw [e0]
    have : (nI L - nI 5).toInt < 0 := by
      rcases (show L = 0 ∨ L = 1 ∨ L = 2 ∨ L = 3 ∨ L = 4 by omega) with rfl | rfl | rfl | rfl | rfl <;> decide
    omega
  · rw [pk_sub h5] at h
    rcases Nat.lt_or_ge (L - 5) k with q | q
    · exact absurd (nI_lt q (by omega)) h
    · omega
theorem and31 (x : Int32) : ∃ c : Nat, c < 32 ∧ x &&& nI 31 = nI c := by
  obtain ⟨a, -, rfl⟩ := wb_of32 x
  exact ⟨a % 32, Nat.mod_lt _ (by decide), nI_and31 a⟩
theorem at_of2 {x : Int32} {n : Nat} (hn : n ≤ 70) (h : nI 0 ≤ x ∧ x < nI n) : ∃ j : Nat, j < n ∧ x = nI j := by
  have e9 : (nI n).toInt = (n : Int) := nI_toInt (by omega)
  have h1 := Int32.le_iff_toInt_le.mp h.1
  have h2 := Int32.lt_iff_toInt_lt.mp h.2
  have e0 : (nI 0).toInt = 0 := by decide
  have e70 : (nI 70).toInt = 70 := by decide
  obtain ⟨j, hj, rfl⟩ := nI_of2 (x := x) (M := nI 70) (n := 70) (by decide) (Int32.not_lt.mpr h.1) (Int32.le_iff_toInt_le.mpr (by omega))
  have e1 : (nI j).toInt = (j : Int) := nI_toInt (by omega)
  exact ⟨j, by omega, rfl⟩
theorem ben_of {x : Int32} (h : nI 0 ≤ x ∧ x ≤ nI 4) : ∃ i : Nat, i < 5 ∧ x = nI i := by
  obtain ⟨j, hj, rfl⟩ := nI_of2 (x := x) (M := nI 4) (n := 4) (by decide) (Int32.not_lt.mpr h.1) h.2
  exact ⟨j, by omega, rfl⟩

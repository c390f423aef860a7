-- rows of rows
/-- an int[][]: its rows by their places -/
def gRow (n : Nat) (f : Nat → Option Nat) (g : Gx) : va_E := .inl (g.2 1, n, .inr (.inr (.inr (.inr f))))
theorem gr_outer (c : ClassId) (N h0 : Nat) : ∀ i : Nat, Jvm.Free.Multi.outerC c N h0 i = arrV c N (fun j => va_rf (if j < i then some (h0 + 1 + j) else none))
  | 0 => by
    show ({ cls := c, slots := Array.replicate N .null, vm := .none } : Cell) = _
    rw [arrV_new]
    refine congrArg (arrV c N) (funext fun j => ?_)
    simp [va_rf]
  | i + 1 => by
    show (Jvm.Free.Multi.outerC c N h0 i).setSlot i (.ref (h0 + 1 + i)) = _
    rw [gr_outer c N h0 i, arrV_store]
    refine congrArg (arrV c N) (funext fun j => ?_)
    by_cases e : j = i
    · subst e
      simp [updV, va_rf]
    · by_cases h : j < i
      · simp [updV, e, h, Nat.lt_succ_of_lt h]
      · simp [updV, e, h, show ¬ j < i + 1 by omega]
section GR
variable {p : Program} {l : Launch} {e : Env} {R : Room} {s : State} {m : MethodId} {args : Array Value} {below : List Frame} {meth : Method} {c : Code} {H H0 : Heap} {locs : List Loc} {cells slots : Nat} {Q : State → Prop}
variable {cc : ByteArray} {pc : Nat} {ls : Array Slot} {rest : List Value} {A : Nat → Prop} {a : Nat} {ws : va_W} {g : Gx}
theorem w_aald (hx : p.tables.exec = Jvm.exec) (hb : c.code = cc) (hK : KK g s) {n : Nat} {f : Nat → Option Nat} (ha : va_at g.1 vwCl (a, gRow n f g) H) {j r : Nat} (hj : j < n) (hn : n < 2 ^ 31) (hr : f j = some r) (hdg : decode cc pc = .ok (.aaload, 1))
    (kk : W p l e R s m args below meth c H locs cells slots Q (F0 m (pc + 1) ls (.ref r :: rest))) : W p l e R s m args below meth c H locs cells slots Q (F0 m pc ls (.int (nI j) :: .ref a :: rest)) := by
  have hin : vp_in (nI j) n := vp_in_nI hj hn
  have hc : (nI j).toNatClampNeg = j := nI_clamp (by omega)
  have hv : va_rf (f j) = .ref r := by rw [hr]; rfl
  exact W.aald (v := .ref r) (ty := .array .int) hx hb ha ((hK.1.2 1 _ rfl).1 n (fun j => va_rf (f j))) rfl (fun q => by cases q) (by show ¬ (nI j < 0 ∨ (arrV _ _ _).slots.size ≤ _); rw [arrV_size]; exact hin) (by show (arrV _ _ _).slots[_]? = _; rw [hc, arrV_read _ _ hj, hv]) rfl rfl hdg kk
/-- a row is put into it -/
theorem w_aast (hx : p.tables.exec = Jvm.exec) (hb : c.code = cc) (hK : KK g s) (hP : va_P g.1 vwCl ws H) (hD : va_D A ws) (hS : va_S A H0 H locs) (q0 : Nat) {n : Nat} {f : Nat → Option Nat} (ha : ws[q0]? = some (a, gRow n f g)) {j : Nat} (hj : j < n) (hn : n < 2 ^ 31) {v k : Nat} {h : Nat → Int32} (hv : va_at g.1 vwCl (v, .inl (g.2 0, k, .inl h)) H) (hdg : decode cc pc = .ok (.aastore, 1))
    (kk : ∀ (H1 : Heap) (locs1 : List Loc), va_P g.1 vwCl (ws.set q0 (a, gRow n (va_up f j (some v)) g)) H1 → va_D A (ws.set q0 (a, gRow n (va_up f j (some v)) g)) → va_S A H0 H1 locs1 → H.size ≤ H1.size → (∀ q, q ≠ a → H1[q]? = H[q]?) → W p l e R s m args below meth c H1 locs1 cells slots Q (F0 m (pc + 1) ls rest)) : W p l e R s m args below meth c H locs cells slots Q (F0 m pc ls (.ref v :: .int (nI j) :: .ref a :: rest)) := by
  have hc : (nI j).toNatClampNeg = j := nI_clamp (by omega)
  obtain ⟨comp, c0, k0, p1, -, p3, p4, p5⟩ := arrayOver_specB hK.2
  have e0 : comp = g.2 0 := Option.some.inj (p1.symm.trans (hK.1.2 0 _ rfl).2)
  have e1 : c0 = g.2 1 := Option.some.inj (p5.symm.trans (hK.1.2 1 _ rfl).2)
  subst e0
  subst e1
  obtain ⟨-, k2, hk2, -⟩ := (hK.1.2 0 _ rfl).1 0 (fun _ => .null)
  have hk2' : s.vm.classes[g.2 0]? = some k2 := hk2
  refine W.aast (cv := vp_cell (g.2 0) (k, .inl h)) hx hb (hP q0 _ ha) (fun q h => by cases h) (fun h => by cases h) p3 p4 rfl hk2' ⟨nI_pos (by omega), by show _ < (arrV _ _ _).slots.size; rw [arrV_size, hc]; exact hj⟩ hv (fun q h => by cases h) hk2' (Vm.assignable_self _ _) rfl rfl hdg fun H1 e z oq => ?_
  refine kk H1 _ (hP.set hD ha ?_ oq) (hD.set ha) (hS.put z oq (hD.2 q0 _ ha)) (Nat.le_of_eq z.symm) oq
  show H1[a]? = some (vp_cell _ _)
  rw [e, hc, vp_cell_q, vp_cell_q, arrV_store]
  congr 2
  funext q
  by_cases hq : q = j
  · subst hq
    simp [updV, va_up, va_rf]
  · simp [updV, va_up, hq]
/-- new int[N][K] -/
theorem w_mna (hx : p.tables.exec = Jvm.exec) (hb : c.code = cc) {own : String} {index : Nat} (hown : s.vm.findClass own = some m.cls) (hclink : (Cond.classLink own index "[[I").before args s = true) (harr : (Cond.arrayClass .int).before args s = true) (hK : KK g s) (hS : va_S A H0 H locs) {N K : Nat} (hN : N < 2 ^ 20) (hM : K < 2 ^ 20) (hcells : cells + (1 + N) ≤ R.cells) (hslots : slots + (N + N * K) ≤ R.slots) (hdg : decode cc pc = .ok (.multianewarray index 2, 4))
    (kk : ∀ H1 : Heap, va_at g.1 vwCl (H.size, gRow N (fun i => if i < N then some (H.size + 1 + i) else none) g) H1 → (∀ i, i < N → va_at g.1 vwCl (H.size + 1 + i, .inl (g.2 0, K, .inl (fun _ => 0))) H1) → H1.size = H.size + 1 + N → (∀ x, x < H.size → H1[x]? = H[x]?) → va_S A H0 H1 locs → W p l e R s m args below meth c H1 locs (cells + 1 + N) (slots + N + N * K) Q (F0 m (pc + 4) ls (.ref H.size :: rest))) : W p l e R s m args below meth c H locs cells slots Q (F0 m pc ls (.int (nI K) :: .int (nI N) :: rest)) := by
  intro T hT Xs
  have hn : (nI N).toNatClampNeg = N := nI_clamp (by omega)
  have hk : (nI K).toNatClampNeg = K := nI_clamp (by omega)
  have hover : (Cond.arrayOver (.array .int)).before args s = true := arrayOver_alikeB (Vm.Alike.refl s.vm) hK.2
  obtain ⟨vm₁, cA, comp, -, fA, fC, -, -, X', step⟩ := Xs.multianewarray2F (n := nI N) (k := nI K) (ty := .int) hx hown hclink hover harr (g := F0 m pc ls (.int (nI K) :: .int (nI N) :: rest)) rfl (by rw [hb]; exact hdg) rfl (nI_pos (by omega)) (nI_pos (by omega)) (by rw [hn]; omega) (by rw [hk]; show K * 4 ≤ _; omega) (by rw [hk]; omega) rfl rfl (by rw [hn]; exact hcells) (by rw [hn, hk]; exact hslots)
  rw [hn, hk] at X' step
  have e1 : cA = g.2 1 := Option.some.inj (fA.symm.trans (hK.1.2 1 _ rfl).2)
  have e0 : comp = g.2 0 := Option.some.inj (fC.symm.trans (hK.1.2 0 _ rfl).2)
  subst e1
  subst e0
  generalize hF : Jvm.Free.Multi.fill (T.setVm vm₁) (g.2 1) (g.2 0) N K (defaultValue .int) N = F at X' step
  have hTh : (T.setVm vm₁).heap = H := hT
  obtain ⟨f1, f2, -, -⟩ := Jvm.Free.Multi.fill_facts (T.setVm vm₁) (g.2 1) (g.2 0) N K (defaultValue .int) N
  rw [hF, hTh] at f1 f2
  have hold : ∀ x : Nat, x < H.size → F.heap[x]? = H[x]? := fun x hx => by
    have := Jvm.Free.Multi.fill_old (T.setVm vm₁) (g.2 1) (g.2 0) N K (defaultValue .int) (a := x) (by rw [hTh]; exact hx) N
    rw [hF, hTh] at this
    exact this
  have hrow : ∀ j : Nat, j < N → va_at g.1 vwCl (H.size + 1 + j, .inl (g.2 0, K, .inl (fun _ => 0))) F.heap := fun j hj => by
    have := Jvm.Free.Multi.fill_inner (T.setVm vm₁) (g.2 1) (g.2 0) N K (defaultValue .int) N j hj
    rw [hF, hTh] at this
    refine this.trans (congrArg some ?_)
    show ({ cls := g.2 0, slots := Array.replicate K (.int 0), vm := .none } : Cell) = _
    rw [arrV_new]
    rfl
  have hout : va_at g.1 vwCl (H.size, gRow N (fun i => if i < N then some (H.size + 1 + i) else none) g) F.heap := by
    refine f2.trans (congrArg some ?_)
    rw [gr_outer]
    rfl
  obtain ⟨t, a1, b1⟩ := kk F.heap hout hrow f1 hold ⟨by rw [f1]; have := hS.1; omega, fun x h1 h2 => (hold x (Nat.lt_of_lt_of_le h1 hS.1)).trans (hS.2.1 x h1 h2), hS.2.2⟩ F rfl X'
  refine ⟨t, step t ?_, b1⟩
  have e : T.heap.size = H.size := by rw [hT]
  rw [e]
  exact a1
end GR
/-- three places apart -/
theorem d3 {A : Nat → Prop} {a b c : Nat} {x y z : va_E} (hab : a ≠ b) (hac : a ≠ c) (hbc : b ≠ c) (ha : A a) (hb : A b) (hc : A c) : va_D A [(a, x), (b, y), (c, z)] := by
  refine ⟨fun i j u v hu hv e => ?_, fun k u hu => ?_⟩
  · match i, j, hu, hv with
    | 0, 0, _, _ => rfl
    | 1, 1, _, _ => rfl
    | 2, 2, _, _ => rfl
    | 0, 1, hu, hv => cases hu; cases hv; exact absurd e hab
    | 1, 0, hu, hv => cases hu; cases hv; exact absurd e.symm hab
    | 0, 2, hu, hv => cases hu; cases hv; exact absurd e hac
    | 2, 0, hu, hv => cases hu; cases hv; exact absurd e.symm hac
    | 1, 2, hu, hv => cases hu; cases hv; exact absurd e hbc
    | 2, 1, hu, hv => cases hu; cases hv; exact absurd e.symm hbc
    | i + 3, _, hu, _ => simp at hu
    | 0, j + 3, _, hv => simp at hv
    | 1, j + 3, _, hv => simp at hv
    | 2, j + 3, _, hv => simp at hv
  · match k, hu with
    | 0, hu => cases hu; exact ha
    | 1, hu => cases hu; exact hb
    | 2, hu => cases hu; exact hc
    | k + 3, hu => simp at hu
theorem p3 {D : va_G} {cl : List vw_C} {a b c : Nat × va_E} {H : Heap} (ha : va_at D cl a H) (hb : va_at D cl b H) (hc : va_at D cl c H) : va_P D cl [a, b, c] H := by
  intro k u hu
  match k, hu with
  | 0, hu => cases hu; exact ha
  | 1, hu => cases hu; exact hb
  | 2, hu => cases hu; exact hc
  | k + 3, hu => simp at hu

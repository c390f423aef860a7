-- THE MODEL'S CALLS IN ONE FORM
theorem mpost {l : Launch} {y : MethodName} {ws : List Cond} {rm : Room} {Pc : Array Value → State → Prop} {H0 : Heap} {mu : Nat → Prop} {P P' : Option Value → Heap → Prop} {mc ms : Nat} {free : Addr → Prop} (hM : Met l y ws rm Pc (nQ H0 mu P) mc ms free)
    (h : ∀ (v : Option Value) (H1 : Heap), P v H1 → H0.size ≤ H1.size → (∀ q : Nat, q < H0.size → ¬ mu q → H1[q]? = H0[q]?) → P' v H1) : Met l y ws rm Pc (nQ H0 mu P') mc ms free := by
  intro p e ha hc hk s m args below hf hS hP hT
  obtain ⟨k, o, h1, h2, h3, ⟨v, q1, q2, q3, q4⟩, hL⟩ := hM p e ha hc hk s m args below hf hS hP hT
  exact ⟨k, o, h1, h2, h3, ⟨v, q1, h v _ q2 q3 q4, q3, q4⟩, hL⟩
section M85
variable {g : Gx} {b0 : Nat} {H0 H1 : Heap} {z0 mc lf dg a b n : Nat} {fs fs2 : List Value} {rr rr2 V V2 t : Nat → Nat}
theorem mt_md (h : MT g H0 z0 mc lf dg fs rr V a b n t) (hD : MD g H1 z0 mc lf dg fs2 rr2 V2) (hf : FT fs2 ∧ fs2[2]? = fs[2]?) (hk : ∀ q : Nat, q < H0.size → ¬ zM z0 mc lf dg q → H1[q]? = H0[q]?) : MT g H1 z0 mc lf dg fs2 rr2 V2 a b n t := by
  obtain ⟨-, -, h3, h4, h5, h6, h7⟩ := h
  have l1 := h4.lt
  have l2 : b < H0.size := h4.2.lt
  exact ⟨hD, hf.1, by rw [hf.2]; exact h3, h4.kept (hk _ l1 h5) (hk _ l2 h6), h5, h6, h7⟩
theorem ft0 (h : FT fs) (y : Int32) : FT (fs.set 0 (.int y)) ∧ (fs.set 0 (.int y))[2]? = fs[2]? := ⟨h.i (by decide), by rw [List.getElem?_set_ne (by decide)]⟩
theorem ft0' (h : FT fs) (he : ∃ y : Int32, fs2 = fs.set 0 (.int y)) : FT fs2 ∧ fs2[2]? = fs[2]? := by
  obtain ⟨y, rfl⟩ := he
  exact ft0 h y
theorem zq_zt {P : Option Value → List Value → (Nat → Nat) → Prop} {P' : Option Value → (Nat → Nat) → Nat → (Nat → Nat) → Prop} (hT : MT g H0 z0 mc lf dg fs rr V a b n t) (hf : ∀ r fs2 V2, P r fs2 V2 → (FT fs2 ∧ fs2[2]? = fs[2]?) ∧ P' r V2 n t) :
    ∀ (v : Option Value) (H1 : Heap), zQ g z0 mc lf dg P v H1 → H0.size ≤ H1.size → (∀ q : Nat, q < H0.size → ¬ zM z0 mc lf dg q → H1[q]? = H0[q]?) → zT g z0 mc lf dg P' v H1 := by
  intro v H1 ⟨fs2, rr2, V2, hP, hD⟩ _ hk
  obtain ⟨h1, h2⟩ := hf _ _ _ hP
  exact ⟨fs2, rr2, V2, a, b, n, t, h2, mt_md hT hD h1 hk⟩
theorem zt_zt {P P' : Option Value → (Nat → Nat) → Nat → (Nat → Nat) → Prop} (hf : ∀ r V2 n2 t2, P r V2 n2 t2 → P' r V2 n2 t2) :
    ∀ (v : Option Value) (H1 : Heap), zT g z0 mc lf dg P v H1 → H0.size ≤ H1.size → (∀ q : Nat, q < H0.size → ¬ zM z0 mc lf dg q → H1[q]? = H0[q]?) → zT g z0 mc lf dg P' v H1 := by
  intro v H1 ⟨fs2, rr2, V2, a2, b2, n2, t2, hP, hD⟩ _ _
  exact ⟨fs2, rr2, V2, a2, b2, n2, t2, hf _ _ _ _ hP, hD⟩
end M85
theorem m_put (l : Launch) (g : Gx) (H0 : Heap) (z0 mc lf dg : Nat) (fs : List Value) (rr V : Nat → Nat) (a b n : Nat) (t : Nat → Nat) (hT : MT g H0 z0 mc lf dg fs rr V a b n t) (x y z : Int32) : Met l yX4_put wsX4_put rmX4_put (va_Pc [.ref z0, .int x, .int y, .int z] (hB g H0)) (nQ H0 (zM z0 mc lf dg) (zT g z0 mc lf dg (fun r V2 n2 t2 => (∃ q9 : Int32, r = some (.int q9)) ∧ n2 = n ∧ t2 = t ∧ oC1 x (fun _ => uN z + 4294967296 * uN y) V V2))) 3 12 (fun q => zM z0 mc lf dg q ∨ H0.size ≤ q) :=
  mpost (c_put l g H0 z0 mc lf dg fs rr V hT.1 x y z) (zq_zt hT (fun r fs2 V2 h => by
    rcases h with ⟨i, hi, e, h1, h2, h3⟩ | ⟨hn, h1, h3, h2⟩
    · exact ⟨ft0' hT.2.1 ⟨_, h3⟩, ⟨_, h1⟩, rfl, rfl, Or.inl ⟨i, hi, e, h2⟩⟩
    · exact ⟨ft0' hT.2.1 ⟨_, h3⟩, ⟨_, h1⟩, rfl, rfl, Or.inr ⟨hn, h2⟩⟩))
theorem m_copy (l : Launch) (g : Gx) (H0 : Heap) (z0 mc lf dg : Nat) (fs : List Value) (rr V : Nat → Nat) (a b n : Nat) (t : Nat → Nat) (hT : MT g H0 z0 mc lf dg fs rr V a b n t) (x y : Int32) : Met l yX4_copy wsX4_copy rmX4_copy (va_Pc [.ref z0, .int x, .int y] (hB g H0)) (nQ H0 (zM z0 mc lf dg) (zT g z0 mc lf dg (fun r V2 n2 t2 => (∃ q9 : Int32, r = some (.int q9)) ∧ n2 = n ∧ t2 = t ∧ oC2 x y (fun _ => True) (fun _ w => w) V V2))) 1 4 (fun q => zM z0 mc lf dg q ∨ H0.size ≤ q) :=
  mpost (c_copy l g H0 z0 mc lf dg fs rr V hT.1 x y) (zq_zt hT (fun r fs2 V2 h => by
    rcases h with ⟨i, j, hi, hj, e, e2, ⟨h1, h2⟩, h3⟩ | ⟨hn, h1, h3, h2⟩
    · exact ⟨ft0' hT.2.1 ⟨_, h3⟩, ⟨_, h1⟩, rfl, rfl, Or.inl ⟨i, j, hi, hj, e, e2, trivial, h2⟩⟩
    · exact ⟨ft0' hT.2.1 ⟨_, h3⟩, ⟨_, h1⟩, rfl, rfl, Or.inr ⟨(fun i j hi hj e1 e2 _ => hn (by rw [e1, e2]; exact ⟨isC_nI hi, isC_nI hj⟩)), h2⟩⟩))
theorem m_divide (l : Launch) (g : Gx) (H0 : Heap) (z0 mc lf dg : Nat) (fs : List Value) (rr V : Nat → Nat) (a b n : Nat) (t : Nat → Nat) (hT : MT g H0 z0 mc lf dg fs rr V a b n t) (x y : Int32) (zi : Bool) : Met l yX4_divide wsX4_divide rmX4_divide (va_Pc [.ref z0, .int x, .int y, .int (bI zi)] (hB g H0)) (nQ H0 (zM z0 mc lf dg) (zT g z0 mc lf dg (fun r V2 n2 t2 => (∃ q9 : Int32, r = some (.int q9)) ∧ n2 = n ∧ t2 = t ∧ oC2 x y (fun w => 0 < w % 65536 ^ nP zi) (fun u w => wideN (nP zi) ((u % 65536 ^ nP zi) / (w % 65536 ^ nP zi))) V V2))) 199 796 (fun q => zM z0 mc lf dg q ∨ H0.size ≤ q) :=
  mpost (c_divide l g H0 z0 mc lf dg fs rr V hT.1 x y zi) (zq_zt hT (fun r fs2 V2 h => by
    rcases h with ⟨i, j, hi, hj, e, e2, h0, h1, h2, h3⟩ | ⟨tt, ht, hq, h1, h3, h2⟩
    · exact ⟨ft0' hT.2.1 ⟨_, h3⟩, ⟨_, h1⟩, rfl, rfl, Or.inl ⟨i, j, hi, hj, e, e2, h0, h2⟩⟩
    · refine ⟨ft0' hT.2.1 ⟨_, h3⟩, ⟨_, h1⟩, rfl, rfl, Or.inr ⟨fun i j hi hj e e2 h0 => ?_, h2⟩⟩
      rcases hq with ⟨hn, -⟩ | ⟨i9, j9, hi9, hj9, e9, e8, hq⟩
      · exact hn (by rw [e, e2]; exact ⟨isC_nI hi, isC_nI hj⟩)
      · rw [nI_inj (by omega) (by omega) (e2.symm.trans e8)] at h0
        rw [if_neg (by omega)] at hq
        exact ht (by rw [hq]; decide)))
theorem m_rest (l : Launch) (g : Gx) (H0 : Heap) (z0 mc lf dg : Nat) (fs : List Value) (rr V : Nat → Nat) (a b n : Nat) (t : Nat → Nat) (hT : MT g H0 z0 mc lf dg fs rr V a b n t) (x y : Int32) (zi : Bool) : Met l yX4_rest wsX4_rest rmX4_rest (va_Pc [.ref z0, .int x, .int y, .int (bI zi)] (hB g H0)) (nQ H0 (zM z0 mc lf dg) (zT g z0 mc lf dg (fun r V2 n2 t2 => (∃ q9 : Int32, r = some (.int q9)) ∧ n2 = n ∧ t2 = t ∧ oC2 x y (fun w => 0 < w % 65536 ^ nP zi) (fun u w => wideN (nP zi) ((u % 65536 ^ nP zi) % (w % 65536 ^ nP zi))) V V2))) 199 796 (fun q => zM z0 mc lf dg q ∨ H0.size ≤ q) :=
  mpost (c_rest l g H0 z0 mc lf dg fs rr V hT.1 x y zi) (zq_zt hT (fun r fs2 V2 h => by
    rcases h with ⟨i, j, hi, hj, e, e2, h0, h1, h2, h3⟩ | ⟨tt, ht, hq, h1, h3, h2⟩
    · exact ⟨ft0' hT.2.1 ⟨_, h3⟩, ⟨_, h1⟩, rfl, rfl, Or.inl ⟨i, j, hi, hj, e, e2, h0, h2⟩⟩
    · refine ⟨ft0' hT.2.1 ⟨_, h3⟩, ⟨_, h1⟩, rfl, rfl, Or.inr ⟨fun i j hi hj e e2 h0 => ?_, h2⟩⟩
      rcases hq with ⟨hn, -⟩ | ⟨i9, j9, hi9, hj9, e9, e8, hq⟩
      · exact hn (by rw [e, e2]; exact ⟨isC_nI hi, isC_nI hj⟩)
      · rw [nI_inj (by omega) (by omega) (e2.symm.trans e8)] at h0
        rw [if_neg (by omega)] at hq
        exact ht (by rw [hq]; decide)))
theorem m_about (l : Launch) (g : Gx) (H0 : Heap) (z0 mc lf dg : Nat) (fs : List Value) (rr V : Nat → Nat) (a b n : Nat) (t : Nat → Nat) (hT : MT g H0 z0 mc lf dg fs rr V a b n t) (x : Int32) (zb zi : Bool) : Met l yX4_about wsX4_about rmX4_about (va_Pc [.ref z0, .int x, .int (bI zb), .int (bI zi)] (hB g H0)) (nQ H0 (zM z0 mc lf dg) (zT g z0 mc lf dg (fun r V2 n2 t2 => (∃ q9 : Int32, r = some (.int q9)) ∧ n2 = n ∧ t2 = t ∧ oC1 x (fun u => wideN (nP zi) (tsum (u % 65536 ^ nP zi) (bpl (16 * nP zi) zb) (16 * nP zi) % 65536 ^ nP zi)) V V2))) 3 12 (fun q => zM z0 mc lf dg q ∨ H0.size ≤ q) :=
  mpost (c_about l g H0 z0 mc lf dg fs rr V hT.1 x zb zi) (zq_zt hT (fun r fs2 V2 h => by
    rcases h with ⟨i, hi, e, ⟨h1, h2⟩, h3⟩ | ⟨hn, h1, h3, h2⟩
    · exact ⟨ft0' hT.2.1 ⟨_, h3⟩, ⟨_, h1⟩, rfl, rfl, Or.inl ⟨i, hi, e, h2⟩⟩
    · exact ⟨ft0' hT.2.1 ⟨_, h3⟩, ⟨_, h1⟩, rfl, rfl, Or.inr ⟨hn, h2⟩⟩))
theorem m_pick (l : Launch) (g : Gx) (H0 : Heap) (z0 mc lf dg : Nat) (fs : List Value) (rr V : Nat → Nat) (a b n : Nat) (t : Nat → Nat) (hT : MT g H0 z0 mc lf dg fs rr V a b n t) (x : Int32) (zb zi : Bool) : Met l yX4_pick wsX4_pick rmX4_pick (va_Pc [.ref z0, .int x, .int (bI zb), .int (bI zi)] (hB g H0)) (nQ H0 (zM z0 mc lf dg) (zT g z0 mc lf dg (fun r V2 n2 t2 => (∃ q9 : Int32, r = some (.int q9)) ∧ n2 = n ∧ t2 = t ∧ oC1 x (fun u => wideN (nP zi) (pkN (oneN (u % 65536 ^ nP zi) zb (16 * nP zi)))) V V2))) 3 12 (fun q => zM z0 mc lf dg q ∨ H0.size ≤ q) :=
  mpost (c_pick l g H0 z0 mc lf dg fs rr V hT.1 x zb zi) (zq_zt hT (fun r fs2 V2 h => by
    rcases h with ⟨i, hi, e, h1, h2, h3⟩ | ⟨hn, h1, h3, h2⟩
    · exact ⟨ft0' hT.2.1 ⟨_, h3⟩, ⟨_, h1⟩, rfl, rfl, Or.inl ⟨i, hi, e, h2⟩⟩
    · exact ⟨ft0' hT.2.1 ⟨_, h3⟩, ⟨_, h1⟩, rfl, rfl, Or.inr ⟨hn, h2⟩⟩))
theorem m_join (l : Launch) (g : Gx) (H0 : Heap) (z0 mc lf dg : Nat) (fs : List Value) (rr V : Nat → Nat) (a b n : Nat) (t : Nat → Nat) (hT : MT g H0 z0 mc lf dg fs rr V a b n t) (x y k : Int32) (zi : Bool) : Met l yX4_join wsX4_join rmX4_join (va_Pc [.ref z0, .int x, .int y, .int k, .int (bI zi)] (hB g H0)) (nQ H0 (zM z0 mc lf dg) (zT g z0 mc lf dg (fun r V2 n2 t2 => (∃ q9 : Int32, r = some (.int q9)) ∧ n2 = n ∧ t2 = t ∧ oC2 x y (fun _ => nI 0 ≤ k ∧ k ≤ nI 2) (fun u w => wideN (nP zi) (jnN zi k (u % 65536 ^ nP zi) (w % 65536 ^ nP zi))) V V2))) 4 16 (fun q => zM z0 mc lf dg q ∨ H0.size ≤ q) :=
  mpost (c_join l g H0 z0 mc lf dg fs rr V hT.1 x y k zi) (zq_zt hT (fun r fs2 V2 h => by
    rcases h with ⟨i, j, hi, hj, e, e2, h0, h1, h2, h3⟩ | ⟨hn, h1, h3, h2⟩ | ⟨hn1, hn2, hn, h1, h3, h2⟩
    · exact ⟨ft0' hT.2.1 ⟨_, h3⟩, ⟨_, h1⟩, rfl, rfl, Or.inl ⟨i, j, hi, hj, e, e2, h0, h2⟩⟩
    · exact ⟨ft0' hT.2.1 ⟨_, h3⟩, ⟨_, h1⟩, rfl, rfl, Or.inr ⟨(fun i j hi hj e1 e2 _ => hn (by rw [e1, e2]; exact ⟨isC_nI hi, isC_nI hj⟩)), h2⟩⟩
    · exact ⟨ft0' hT.2.1 ⟨_, h3⟩, ⟨_, h1⟩, rfl, rfl, Or.inr ⟨fun _ _ _ _ _ _ z => hn z, h2⟩⟩))
theorem m_high (l : Launch) (g : Gx) (H0 : Heap) (z0 mc lf dg : Nat) (fs : List Value) (rr V : Nat → Nat) (a b n : Nat) (t : Nat → Nat) (hT : MT g H0 z0 mc lf dg fs rr V a b n t) (x : Int32) : Met l yX4_high wsX4_high rmX4_high (va_Pc [.ref z0, .int x] (hB g H0)) (nQ H0 (zM z0 mc lf dg) (zT g z0 mc lf dg (fun r V2 n2 t2 => (∃ q9 : Int32, r = some (.int q9)) ∧ V2 = V ∧ n2 = n ∧ t2 = t))) 0 0 (fun q => zM z0 mc lf dg q ∨ H0.size ≤ q) :=
  mpost (c_high l g H0 z0 mc lf dg fs rr V hT.1 x) (zq_zt hT (fun r fs2 V2 h => by
    exact ⟨ft0' hT.2.1 h.2.1, h.1, h.2.2, rfl, rfl⟩))
theorem m_low (l : Launch) (g : Gx) (H0 : Heap) (z0 mc lf dg : Nat) (fs : List Value) (rr V : Nat → Nat) (a b n : Nat) (t : Nat → Nat) (hT : MT g H0 z0 mc lf dg fs rr V a b n t) (x : Int32) : Met l yX4_low wsX4_low rmX4_low (va_Pc [.ref z0, .int x] (hB g H0)) (nQ H0 (zM z0 mc lf dg) (zT g z0 mc lf dg (fun r V2 n2 t2 => (∃ q9 : Int32, r = some (.int q9)) ∧ V2 = V ∧ n2 = n ∧ t2 = t))) 0 0 (fun q => zM z0 mc lf dg q ∨ H0.size ≤ q) :=
  mpost (c_low l g H0 z0 mc lf dg fs rr V hT.1 x) (zq_zt hT (fun r fs2 V2 h => by
    exact ⟨ft0' hT.2.1 h.2.1, h.1, h.2.2, rfl, rfl⟩))
theorem m_isSound (l : Launch) (g : Gx) (H0 : Heap) (z0 mc lf dg : Nat) (fs : List Value) (rr V : Nat → Nat) (a b n : Nat) (t : Nat → Nat) (hT : MT g H0 z0 mc lf dg fs rr V a b n t) (k9 : Nat) (hk9 : scost V 8 ≤ k9) : Met l yX4_isSound wsX4_isSound (rmX4_isSound k9) (va_Pc [.ref z0] (hB g H0)) (nQ H0 (zM z0 mc lf dg) (zT g z0 mc lf dg (fun r V2 n2 t2 => (∃ q9 : Int32, r = some (.int q9)) ∧ V2 = V ∧ n2 = n ∧ t2 = t))) k9 (4 * k9) (fun q => zM z0 mc lf dg q ∨ H0.size ≤ q) :=
  mpost (c_isSound l g H0 z0 mc lf dg fs rr V hT.1 k9 hk9) (zq_zt hT (fun r fs2 V2 h => by
    exact ⟨ft0' hT.2.1 h.2.1, h.1, h.2.2, rfl, rfl⟩))
theorem m_count (l : Launch) (g : Gx) (H0 : Heap) (z0 mc lf dg : Nat) (fs : List Value) (rr V : Nat → Nat) (a b n : Nat) (t : Nat → Nat) (hT : MT g H0 z0 mc lf dg fs rr V a b n t) (x y : Int32) (zi : Bool) : Met l yX4_count_ wsX4_count_ rmX4_count_ (va_Pc [.ref z0, .int x, .int y, .int (bI zi)] (hB g H0)) (nQ H0 (zM z0 mc lf dg) (zT g z0 mc lf dg (fun r V2 n2 t2 => (∃ q9 : Int32, r = some (.int q9)) ∧ V2 = V ∧ n2 = n ∧ t2 = t))) 1 4 (fun q => zM z0 mc lf dg q ∨ H0.size ≤ q) :=
  mpost (c_count_ l g H0 z0 mc lf dg fs rr V hT.1 x y zi) (zq_zt hT (fun r fs2 V2 h => by
    exact ⟨ft0' hT.2.1 h.2.1, h.1, h.2.2, rfl, rfl⟩))
theorem m_compare (l : Launch) (g : Gx) (H0 : Heap) (z0 mc lf dg : Nat) (fs : List Value) (rr V : Nat → Nat) (a b n : Nat) (t : Nat → Nat) (hT : MT g H0 z0 mc lf dg fs rr V a b n t) (x y : Int32) (zu zi : Bool) : Met l yX4_compare_ wsX4_compare_ rmX4_compare_ (va_Pc [.ref z0, .int x, .int y, .int (bI zu), .int (bI zi)] (hB g H0)) (nQ H0 (zM z0 mc lf dg) (zT g z0 mc lf dg (fun r V2 n2 t2 => (∃ q9 : Int32, r = some (.int q9)) ∧ V2 = V ∧ n2 = n ∧ t2 = t))) 2 8 (fun q => zM z0 mc lf dg q ∨ H0.size ≤ q) :=
  mpost (c_compare_ l g H0 z0 mc lf dg fs rr V hT.1 x y zu zi) (zq_zt hT (fun r fs2 V2 h => by
    rcases h with ⟨i, j, hi, hj, e, e2, h1, h2, h3⟩ | ⟨hn, h1, h3, h2⟩
    · exact ⟨ft0' hT.2.1 ⟨_, h3⟩, ⟨_, h1⟩, h2, rfl, rfl⟩
    · exact ⟨ft0' hT.2.1 ⟨_, h3⟩, ⟨_, h1⟩, h2, rfl, rfl⟩))
theorem m_knock (l : Launch) (g : Gx) (H0 : Heap) (z0 mc lf dg : Nat) (fs : List Value) (rr V : Nat → Nat) (a b n : Nat) (t : Nat → Nat) (hT : MT g H0 z0 mc lf dg fs rr V a b n t) : Met l yX4_knock wsX4_knock rmX4_knock (va_Pc [.ref z0] (hB g H0)) (nQ H0 (zM z0 mc lf dg) (zT g z0 mc lf dg (fun r V2 n2 t2 => (∃ q9 : Int32, r = some (.int q9)) ∧ V2 = V ∧ n2 = n ∧ t2 = t))) 0 0 (fun q => zM z0 mc lf dg q ∨ H0.size ≤ q) := by
  obtain ⟨n6, h6⟩ := hT.2.1.2.2.2.2.1
  exact mpost (c_knock l g H0 z0 mc lf dg fs rr V hT.1 n6 h6) (zq_zt hT (fun r fs2 V2 h => by
    obtain ⟨h1, rfl, h2⟩ := h
    refine ⟨⟨(hT.2.1.i (by decide)).i (by decide), ?_⟩, ⟨_, h1⟩, h2, rfl, rfl⟩
    rw [List.getElem?_set_ne (by decide), List.getElem?_set_ne (by decide)]))
/-- an answer, the model's fields, and the model with its text behind it -/
def zU (g : Gx) (z0 mc lf dg : Nat) (P : Option Value → List Value → (Nat → Nat) → Nat → (Nat → Nat) → Prop) : Option Value → Heap → Prop := fun r H1 => ∃ (fs : List Value) (rr V : Nat → Nat) (a b n : Nat) (t : Nat → Nat), P r fs V n t ∧ MT g H1 z0 mc lf dg fs rr V a b n t
theorem m_turn (l : Launch) (g : Gx) (H0 : Heap) (z0 mc lf dg : Nat) (fs : List Value) (rr V : Nat → Nat) (a b n : Nat) (t : Nat → Nat) (hT : MT g H0 z0 mc lf dg fs rr V a b n t) (x y : Int32) (zi : Bool) : Met l yX4_turn wsX4_turn rmX4_turn (va_Pc [.ref z0, .int x, .int y, .int (bI zi)] (hB g H0)) (nQ H0 (zM z0 mc lf dg) (zU g z0 mc lf dg (fun r fs2 V2 n2 t2 => n2 = n ∧ t2 = t ∧ oC1 x (fun u => wideN (nP zi) (tsum (u % 65536 ^ nP zi) (tpl (16 * nP zi) (tby (16 * nP zi) y)) (16 * nP zi) % 65536 ^ nP zi)) V V2 ∧ ((∃ i, i < 8 ∧ x = nI i ∧ r = some (.int (bI (!decide ((fun u => wideN (nP zi) (tsum (u % 65536 ^ nP zi) (tpl (16 * nP zi) (tby (16 * nP zi) y)) (16 * nP zi) % 65536 ^ nP zi)) (V i) = V i)))) ∧ fs2[0]? = some (.int (nI 0))) ∨ (¬ isC x ∧ r = some (.int (nI 0)) ∧ fs2[0]? = some (.int (nI 1))))))) 3 12 (fun q => zM z0 mc lf dg q ∨ H0.size ≤ q) := by
  refine mpost (c_turn l g H0 z0 mc lf dg fs rr V hT.1 x y zi) ?_
  intro v H1 ⟨fs2, rr2, V2, hP, hD⟩ _ hk
  have h10 : fs.length = 10 := hT.1.2.1
  rcases hP with ⟨i, hi, e, ⟨h1, h2⟩, h3⟩ | ⟨hn, h1, h3, h2⟩
  · exact ⟨fs2, rr2, V2, a, b, n, t, ⟨rfl, rfl, Or.inl ⟨i, hi, e, h2⟩, Or.inl ⟨i, hi, e, h1, by rw [h3, List.getElem?_set_self (by omega)]⟩⟩, mt_md hT hD (ft0' hT.2.1 ⟨_, h3⟩) hk⟩
  · exact ⟨fs2, rr2, V2, a, b, n, t, ⟨rfl, rfl, Or.inr ⟨hn, h2⟩, Or.inr ⟨hn, h1, by rw [h3, List.getElem?_set_self (by omega)]⟩⟩, mt_md hT hD (ft0' hT.2.1 ⟨_, h3⟩) hk⟩
theorem m_type (l : Launch) (g : Gx) (b0 : Nat) (H0 : Heap) (z0 mc lf dg : Nat) (fs : List Value) (rr V : Nat → Nat) (a b n : Nat) (t : Nat → Nat) (hT : MT g H0 z0 mc lf dg fs rr V a b n t) (hmb : ∀ q : Nat, zM z0 mc lf dg q → b0 ≤ q) (x : Int32) (zg : Bool) : Met l yX4_type wsX4_type rmX4_type (va_Pc [.ref z0, .int x, .int (bI zg)] (hJ g b0 H0)) (nQ H0 (zM z0 mc lf dg) (zT g z0 mc lf dg (fun r V2 n2 t2 => (∃ q9 : Int32, r = some (.int q9)) ∧ V2 = V ∧ oTy x zg n t n2 t2))) 6 307 (fun q => zM z0 mc lf dg q ∨ H0.size ≤ q) :=
  mpost (c_type l g b0 H0 z0 mc lf dg fs rr V a b n t hT hmb x zg) (zt_zt (fun r V2 n2 t2 h => by
    obtain ⟨h0, ⟨i, hi, e, hn, h1, h2, h3⟩ | ⟨h2, h3, h1, hn⟩⟩ := h
    · exact ⟨⟨_, h1⟩, h0, Or.inl ⟨i, hi, e, hn, h2, h3⟩⟩
    · exact ⟨⟨_, h1⟩, h0, Or.inr ⟨hn, h2, h3⟩⟩))
theorem m_erase (l : Launch) (g : Gx) (b0 : Nat) (H0 : Heap) (z0 mc lf dg : Nat) (fs : List Value) (rr V : Nat → Nat) (a b n : Nat) (t : Nat → Nat) (hT : MT g H0 z0 mc lf dg fs rr V a b n t) (hmb : ∀ q : Nat, zM z0 mc lf dg q → b0 ≤ q) : Met l yX4_erase wsX4_erase rmX4_erase (va_Pc [.ref z0] (hJ g b0 H0)) (nQ H0 (zM z0 mc lf dg) (zT g z0 mc lf dg (fun r V2 n2 t2 => (∃ q9 : Int32, r = some (.int q9)) ∧ V2 = V ∧ n2 = n - 1 ∧ t2 = t))) 2 74 (fun q => zM z0 mc lf dg q ∨ H0.size ≤ q) :=
  mpost (c_erase l g b0 H0 z0 mc lf dg fs rr V a b n t hT hmb ) (zt_zt (fun r V2 n2 t2 h => by
    obtain ⟨h0, ⟨hn, h1, h2, h3⟩ | ⟨hn, h2, h3, h1⟩⟩ := h
    · exact ⟨⟨_, h1⟩, h0, h2, h3⟩
    · exact ⟨⟨_, h1⟩, h0, by omega, h3⟩))
theorem m_clear (l : Launch) (g : Gx) (b0 : Nat) (H0 : Heap) (z0 mc lf dg : Nat) (fs : List Value) (rr V : Nat → Nat) (a b n : Nat) (t : Nat → Nat) (hT : MT g H0 z0 mc lf dg fs rr V a b n t) (hmb : ∀ q : Nat, zM z0 mc lf dg q → b0 ≤ q) : Met l yX4_clear wsX4_clear rmX4_clear (va_Pc [.ref z0] (hJ g b0 H0)) (nQ H0 (zM z0 mc lf dg) (zT g z0 mc lf dg (fun r V2 n2 t2 => (∃ q9 : Int32, r = some (.int q9)) ∧ V2 = V ∧ n2 = 0))) 0 0 (fun q => zM z0 mc lf dg q ∨ H0.size ≤ q) :=
  mpost (c_clear l g b0 H0 z0 mc lf dg fs rr V a b n t hT hmb ) (zt_zt (fun r V2 n2 t2 h => by
    exact ⟨⟨_, h.2.1⟩, h.1, h.2.2⟩))
theorem m_read (l : Launch) (g : Gx) (b0 : Nat) (H0 : Heap) (z0 mc lf dg : Nat) (fs : List Value) (rr V : Nat → Nat) (a b n : Nat) (t : Nat → Nat) (hT : MT g H0 z0 mc lf dg fs rr V a b n t) (hmb : ∀ q : Nat, zM z0 mc lf dg q → b0 ≤ q) (x y kd : Int32) : Met l yX4_read wsX4_read rmX4_read (va_Pc [.ref z0, .int x, .int y, .int kd] (hJ g b0 H0)) (nQ H0 (zM z0 mc lf dg) (zT g z0 mc lf dg (fun r V2 n2 t2 => (∃ q9 : Int32, r = some (.int q9)) ∧ n2 = n ∧ t2 = t ∧ oRd x y kd n t V V2))) 4 16 (fun q => zM z0 mc lf dg q ∨ H0.size ≤ q) :=
  mpost (c_read l g b0 H0 z0 mc lf dg fs rr V a b n t hT hmb x y kd) (zt_zt (fun r V2 n2 t2 h => by
    exact h))
theorem m_write (l : Launch) (g : Gx) (b0 : Nat) (H0 : Heap) (z0 mc lf dg : Nat) (fs : List Value) (rr V : Nat → Nat) (a b n : Nat) (t : Nat → Nat) (hT : MT g H0 z0 mc lf dg fs rr V a b n t) (hmb : ∀ q : Nat, zM z0 mc lf dg q → b0 ≤ q) (x y kd : Int32) : Met l yX4_write wsX4_write rmX4_write (va_Pc [.ref z0, .int x, .int y, .int kd] (hJ g b0 H0)) (nQ H0 (zM z0 mc lf dg) (zT g z0 mc lf dg (fun r V2 n2 t2 => (∃ q9 : Int32, r = some (.int q9)) ∧ V2 = V ∧ oWr x y kd V n t n2 t2))) 18 484 (fun q => zM z0 mc lf dg q ∨ H0.size ≤ q) :=
  mpost (c_write l g b0 H0 z0 mc lf dg fs rr V a b n t hT hmb x y kd) (zt_zt (fun r V2 n2 t2 h => by
    exact h))
theorem m_bits (l : Launch) (g : Gx) (b0 : Nat) (H0 : Heap) (z0 mc lf dg : Nat) (fs : List Value) (rr V : Nat → Nat) (a b n : Nat) (t : Nat → Nat) (hT : MT g H0 z0 mc lf dg fs rr V a b n t) (hmb : ∀ q : Nat, zM z0 mc lf dg q → b0 ≤ q) (x y : Int32) (zi : Bool) : Met l yX4_bits_ wsX4_bits_ rmX4_bits_ (va_Pc [.ref z0, .int x, .int y, .int (bI zi)] (hJ g b0 H0)) (nQ H0 (zM z0 mc lf dg) (zT g z0 mc lf dg (fun r V2 n2 t2 => (∃ q9 : Int32, r = some (.int q9)) ∧ V2 = V ∧ oBi x y zi V n t n2 t2))) 12 324 (fun q => zM z0 mc lf dg q ∨ H0.size ≤ q) :=
  mpost (c_bitsM l g b0 H0 z0 mc lf dg fs rr V a b n t hT hmb x y zi) (zt_zt (fun r V2 n2 t2 h => by
    exact h))
theorem m_isNo (l : Launch) (g : Gx) (b0 : Nat) (H0 : Heap) (z0 mc lf dg : Nat) (fs : List Value) (rr V : Nat → Nat) (a b n : Nat) (t : Nat → Nat) (hT : MT g H0 z0 mc lf dg fs rr V a b n t) (hmb : ∀ q : Nat, zM z0 mc lf dg q → b0 ≤ q) (y kd : Int32) : Met l yX4_isNumber wsX4_isNumber rmX4_isNumber (va_Pc [.ref z0, .int y, .int kd] (hJ g b0 H0)) (nQ H0 (zM z0 mc lf dg) (zT g z0 mc lf dg (fun r V2 n2 t2 => (∃ q9 : Int32, r = some (.int q9)) ∧ V2 = V ∧ n2 = n ∧ t2 = t))) 3 12 (fun q => zM z0 mc lf dg q ∨ H0.size ≤ q) :=
  mpost (c_isNum l g b0 H0 z0 mc lf dg fs rr V a b n t hT hmb y kd) (zt_zt (fun r V2 n2 t2 h => by
    exact h))
theorem m_would (l : Launch) (g : Gx) (b0 : Nat) (H0 : Heap) (z0 mc lf dg : Nat) (fs : List Value) (rr V : Nat → Nat) (a b n : Nat) (t : Nat → Nat) (hT : MT g H0 z0 mc lf dg fs rr V a b n t) (hmb : ∀ q : Nat, zM z0 mc lf dg q → b0 ≤ q) (y kd : Int32) (zh : Bool) : Met l yX4_would wsX4_would rmX4_would (va_Pc [.ref z0, .int y, .int kd, .int (bI zh)] (hJ g b0 H0)) (nQ H0 (zM z0 mc lf dg) (zT g z0 mc lf dg (fun r V2 n2 t2 => (∃ q9 : Int32, r = some (.int q9)) ∧ V2 = V ∧ n2 = n ∧ t2 = t))) 4 16 (fun q => zM z0 mc lf dg q ∨ H0.size ≤ q) :=
  mpost (c_would l g b0 H0 z0 mc lf dg fs rr V a b n t hT hmb y kd zh) (zt_zt (fun r V2 n2 t2 h => by
    exact h))
theorem m_same (l : Launch) (g : Gx) (b0 : Nat) (H0 : Heap) (z0 mc lf dg : Nat) (fs : List Value) (rr V : Nat → Nat) (a b n : Nat) (t : Nat → Nat) (hT : MT g H0 z0 mc lf dg fs rr V a b n t) (hmb : ∀ q : Nat, zM z0 mc lf dg q → b0 ≤ q) (y kd : Int32) : Met l yX4_same wsX4_same rmX4_same (va_Pc [.ref z0, .int y, .int kd] (hJ g b0 H0)) (nQ H0 (zM z0 mc lf dg) (zT g z0 mc lf dg (fun r V2 n2 t2 => (∃ q9 : Int32, r = some (.int q9)) ∧ V2 = V ∧ n2 = n ∧ t2 = t))) 11 44 (fun q => zM z0 mc lf dg q ∨ H0.size ≤ q) :=
  mpost (c_same l g b0 H0 z0 mc lf dg fs rr V a b n t hT hmb y kd) (zt_zt (fun r V2 n2 t2 h => by
    exact h))
theorem m_digit (l : Launch) (g : Gx) (b0 : Nat) (H0 : Heap) (z0 mc lf dg : Nat) (fs : List Value) (rr V : Nat → Nat) (a b n : Nat) (t : Nat → Nat) (hT : MT g H0 z0 mc lf dg fs rr V a b n t) (hmb : ∀ q : Nat, zM z0 mc lf dg q → b0 ≤ q) (x y : Int32) : Met l yX4_digit wsX4_digit rmX4_digit (va_Pc [.ref z0, .int x, .int y] (hJ g b0 H0)) (nQ H0 (zM z0 mc lf dg) (zT g z0 mc lf dg (fun r V2 n2 t2 => (∃ q9 : Int32, r = some (.int q9)) ∧ V2 = V ∧ n2 = n ∧ t2 = t))) 0 0 (fun q => zM z0 mc lf dg q ∨ H0.size ≤ q) :=
  mpost (c_digit l g b0 H0 z0 mc lf dg fs rr V a b n t hT hmb x y) (zt_zt (fun r V2 n2 t2 h => by
    exact h))
theorem m_bench (l : Launch) (g : Gx) (b0 : Nat) (H0 : Heap) (z0 mc lf dg : Nat) (fs : List Value) (rr V : Nat → Nat) (a b n : Nat) (t : Nat → Nat) (hT : MT g H0 z0 mc lf dg fs rr V a b n t) (hmb : ∀ q : Nat, zM z0 mc lf dg q → b0 ≤ q) (y : Int32) : Met l yX4_bench wsX4_bench rmX4_bench (va_Pc [.ref z0, .int y] (hJ g b0 H0)) (nQ H0 (zM z0 mc lf dg) (zT g z0 mc lf dg (fun r V2 n2 t2 => (∃ q9 : Int32, r = some (.int q9)) ∧ V2 = V ∧ n2 = n ∧ t2 = t))) 0 0 (fun q => zM z0 mc lf dg q ∨ H0.size ≤ q) :=
  mpost (c_bench l g b0 H0 z0 mc lf dg fs rr V a b n t hT hmb y) (zt_zt (fun r V2 n2 t2 h => by
    exact h))
theorem m_text (l : Launch) (g : Gx) (b0 : Nat) (H0 : Heap) (z0 mc lf dg : Nat) (fs : List Value) (rr V : Nat → Nat) (a b n : Nat) (t : Nat → Nat) (hT : MT g H0 z0 mc lf dg fs rr V a b n t) (hmb : ∀ q : Nat, zM z0 mc lf dg q → b0 ≤ q) : Met l yX4_text wsX4_text rmX4_text (va_Pc [.ref z0] (hJ g b0 H0)) (nQ H0 (zM z0 mc lf dg) (zT g z0 mc lf dg (fun r V2 n2 t2 => (∃ q9 : Nat, r = some (.ref q9)) ∧ V2 = V ∧ n2 = n ∧ t2 = t))) 0 0 (fun q => zM z0 mc lf dg q ∨ H0.size ≤ q) :=
  mpost (c_text l g b0 H0 z0 mc lf dg fs rr V a b n t hT hmb ) (zt_zt (fun r V2 n2 t2 h => by
    exact h))
theorem m_written (l : Launch) (g : Gx) (b0 : Nat) (H0 : Heap) (z0 mc lf dg : Nat) (fs : List Value) (rr V : Nat → Nat) (a b n : Nat) (t : Nat → Nat) (hT : MT g H0 z0 mc lf dg fs rr V a b n t) (hmb : ∀ q : Nat, zM z0 mc lf dg q → b0 ≤ q) (x y kd : Int32) : Met l yX4_written wsX4_written rmX4_written (va_Pc [.ref z0, .int x, .int y, .int kd] (hJ g b0 H0)) (nQ H0 (zM z0 mc lf dg) (zT g z0 mc lf dg (fun r V2 n2 t2 => (∃ q9 : Nat, r = some (.ref q9)) ∧ V2 = V ∧ n2 = n ∧ t2 = t))) 18 484 (fun q => zM z0 mc lf dg q ∨ H0.size ≤ q) :=
  mpost (c_written l g b0 H0 z0 mc lf dg fs rr V a b n t hT hmb x y kd) (zt_zt (fun r V2 n2 t2 h => by
    exact h))
theorem m_digest (l : Launch) (g : Gx) (b0 : Nat) (H0 : Heap) (z0 mc lf dg : Nat) (fs : List Value) (rr V : Nat → Nat) (a b n : Nat) (t : Nat → Nat) (hT : MT g H0 z0 mc lf dg fs rr V a b n t) (hmb : ∀ q : Nat, zM z0 mc lf dg q → b0 ≤ q) : Met l yX4_digest wsX4_digest rmX4_digest (va_Pc [.ref z0] (hJ g b0 H0)) (nQ H0 (zM z0 mc lf dg) (zT g z0 mc lf dg (fun r V2 n2 t2 => (∃ q9 : Int64, r = some (.long q9)) ∧ V2 = V ∧ n2 = n ∧ t2 = t))) 2087 9996 (fun q => zM z0 mc lf dg q ∨ H0.size ≤ q) := by
  refine mpost (c_digest l g b0 H0 z0 mc lf dg fs rr V a b n t hT hmb) ?_
  intro v H1 ⟨h1, fs2, h2⟩ _ _
  exact ⟨fs2, rr, V, a, b, n, t, ⟨h1, rfl, rfl, rfl⟩, h2⟩

-- THE LAW, CALL BY CALL
/-- a text of no signs is any text of no signs -/
theorem lq_0 {g : Gx} {H : Heap} {x0 lc tr tc sr sc o0 : Nat} {V : Nat → Nat} {n : Nat} {t : Nat → Nat} {v : Int64} (h : LQ g H x0 lc tr tc sr sc o0 V n t v) (hn : n = 0) (t2 : Nat → Nat) : LQ g H x0 lc tr tc sr sc o0 V n t2 v := by
  subst hn
  obtain ⟨⟨i3, i4, i5, i6, h1, ⟨f, a1, a2, -, a4, -, a6⟩, h3⟩, h4⟩ := h
  exact ⟨⟨i3, i4, i5, i6, h1, ⟨f, a1, a2, fun j hj => absurd hj (Nat.not_lt_zero j), a4, fun j hj => absurd hj (Nat.not_lt_zero j), a6⟩, h3⟩, h4⟩
section M86
variable {p : Program} {l : Launch} {e : Env} {R : Room} {s : State} {m : MethodId} {args : Array Value} {below : List Frame} {meth : Method} {c : Code} {H : Heap} {locs : List Loc} {cells slots : Nat} {Q : State → Prop} {g : Gx}
variable {b9 L k x0 lc tr tc sr sc o0 z0 mc lf dg a b n : Nat} {xs : Nat → Int32} {V t rr : Nat → Nat} {v0 : Int64} {fs : List Value} {ls : Array Slot}
set_option maxHeartbeats 4000000 in
set_option maxRecDepth 100000 in
theorem lk_0 (C0 : Cx p s m args meth c RL cL_law 7 (some .boolean) wsL_law) (hK : KK g s) (hZ : ZW g s.heap.size s s.heap) (hE : EW s) (hnt : l.stackTraces = false) (hX : va_X b9 L xs s s.heap) (hbl : b9 < s.heap.size) (hL9 : L ≤ 2560) (hk5 : k + 5 ≤ L) (hRc : cells + 2087 ≤ R.cells ∧ slots + 9996 ≤ R.slots) (hRf : 20 ≤ R.frames ∧ 600 ≤ R.locals) (hmL : ∀ q : Nat, mL x0 lc tr tc sr sc o0 q → s.heap.size ≤ q) (hmZ : ∀ q : Nat, zM z0 mc lf dg q → s.heap.size ≤ q) (hQ : LQ g H x0 lc tr tc sr sc o0 V n t v0) (hT : MT g H z0 mc lf dg fs rr V a b n t) (hS : va_S (fun q => s.heap.size ≤ q) s.heap H locs) (hl : lv_has ls 7 [(0, .ref b9), (1, .ref x0), (2, .ref z0), (3, .ref o0), (4, .int (nI k))])
    (K : ∀ (ls : Array Slot) (H : Heap) (locs : List Loc) (V : Nat → Nat) (n : Nat) (t : Nat → Nat) (v0 : Int64) (fs : List Value) (rr : Nat → Nat) (a b : Nat), LQ g H x0 lc tr tc sr sc o0 V n t v0 → MT g H z0 mc lf dg fs rr V a b n t → va_S (fun q => s.heap.size ≤ q) s.heap H locs → lv_has ls 7 [(0, .ref b9), (1, .ref x0), (2, .ref z0), (3, .ref o0), (4, .int (nI k))] → W p l e R s m args below meth c H locs (cells + 2087) (slots + 9996) Q (F0 m 1538 ls [])) : W p l e R s m args below meth c H locs cells slots Q (F0 m 168 ls []) := by
  obtain ⟨hx, hb, hr, hml, hown, hts, hlk⟩ := id C0
  have hA : ∀ q : Nat, s.heap.size ≤ q → s.heap.size ≤ q := fun q h => h
  have hAb : ∀ q : Nat, s.heap.size ≤ q → s.heap.size ≤ q := fun q h => h
  have hbA : ¬ s.heap.size ≤ b9 := Nat.not_le.mpr hbl
  have hap := ls_mt hK hZ hQ hT
  obtain ⟨⟨i3, i4, i5, i6, hC⟩, ⟨w0, ho⟩, hno⟩ := id hQ
  have hmC : ∀ q : Nat, mC x0 lc tr tc sr sc q → s.heap.size ≤ q := fun q h => hmL q (Or.inl h)
  refine lv_aload_n hx hb dL_law_168 rfl (lv_at hl 1 rfl) ?_
  refine lv_aload_n hx hb dL_law_169 rfl (lv_at hl 0 rfl) ?_
  refine lv_iload hx hb dL_law_170 (lv_at hl 4 rfl) ?_
  refine lv_iconst (v := nI 1) hx hb dL_law_172 (by decide) ?_
  refine lv_iadd hx hb dL_law_173 ?_
  refine tp_i (y := nI (k + 1)) (nI_add _ _) ?_
  refine l_sld hx hb hX hbl hbA hS hL9 (show (k + 1) < L by omega) dL_law_174 ?_
  refine lv_aload_n hx hb dL_law_175 rfl (lv_at hl 0 rfl) ?_
  refine lv_iload hx hb dL_law_176 (lv_at hl 4 rfl) ?_
  refine lv_iconst (v := nI 2) hx hb dL_law_178 (by decide) ?_
  refine lv_iadd hx hb dL_law_179 ?_
  refine tp_i (y := nI (k + 2)) (nI_add _ _) ?_
  refine l_sld hx hb hX hbl hbA hS hL9 (show (k + 2) < L by omega) dL_law_180 ?_
  refine lv_aload_n hx hb dL_law_181 rfl (lv_at hl 0 rfl) ?_
  refine lv_iload hx hb dL_law_182 (lv_at hl 4 rfl) ?_
  refine lv_iconst (v := nI 3) hx hb dL_law_184 (by decide) ?_
  refine lv_iadd hx hb dL_law_185 ?_
  refine tp_i (y := nI (k + 3)) (nI_add _ _) ?_
  refine l_sld hx hb hX hbl hbA hS hL9 (show (k + 3) < L by omega) dL_law_186 ?_
  refine lv_aload_n hx hb dL_law_187 rfl (lv_at hl 3 rfl) ?_
  refine lx_S (As := [.ref x0, .int (xs (k + 1)), .int (xs (k + 2)), .int (xs (k + 3)), .ref o0]) (rest := []) (hh := [(0, 13, 16, 19)]) C0 hl hK hS hA hmL (zat hZ hS hAb) hE (s_put l hnt g s.heap.size H x0 lc tr tc sr sc o0 V n t v0 hQ hmL (xs (k + 1)) (xs (k + 2)) (xs (k + 3))) gL_law_L_put rfl ⟨rfl, rfl⟩ (show hd_ok yL_put 5 from ⟨by decide, by decide, by decide +kernel⟩) ⟨Nat.le_trans (Nat.le_of_ble_eq_true rfl) hRf.1, Nat.le_trans (Nat.le_of_ble_eq_true rfl) hRf.2⟩ rfl (Nat.le_of_ble_eq_true rfl) ⟨by omega, by omega⟩ dL_law_188 (fun r1 H1 locs hv hzz hk1 hS => ?_)
  obtain ⟨v1, V1, n1, t1, hP1, hQ1⟩ := hv
  have hT1 := hT.keptA (fun q hq => hk1 q (mt_lt hT q hq) (hap.1 q hq))
  obtain ⟨⟨k19, rfl⟩, hP1⟩ := hP1
  refine lv_istore (lv' := [(5, .int k19), (0, .ref b9), (1, .ref x0), (2, .ref z0), (3, .ref o0), (4, .int (nI k))]) hx hb dL_law_191 hl (by decide) rfl (fun ls hl => ?_)
  refine lv_aload_n hx hb dL_law_193 rfl (lv_at hl 3 rfl) ?_
  refine lv_aload_n hx hb dL_law_194 rfl (lv_at hl 1 rfl) ?_
  refine lv_iload hx hb dL_law_195 (lv_at hl 5 rfl) ?_
  refine lv_iconst (v := nI 1) hx hb dL_law_197 (by decide) ?_
  refine lv_iadd hx hb dL_law_198 ?_
  refine tp_i (y := nI (k + 1)) (nI_add _ _) ?_
  refine l_sld hx hb hX hbl hbA hS hL9 (show (k + 1) < L by omega) dL_law_199 ?_
  refine lv_aload_n hx hb dL_law_200 rfl (lv_at hl 1 rfl) ?_
  refine lv_iload hx hb dL_law_201 (lv_at hl 5 rfl) ?_
  refine lv_iconst (v := nI 2) hx hb dL_law_203 (by decide) ?_
  refine lv_iadd hx hb dL_law_204 ?_
  refine tp_i (y := nI (k + 2)) (nI_add _ _) ?_
  refine l_sld hx hb hX hbl hbA hS hL9 (show (k + 2) < L by omega) dL_law_205 ?_
  refine lv_aload_n hx hb dL_law_206 rfl (lv_at hl 1 rfl) ?_
  refine lv_iload hx hb dL_law_207 (lv_at hl 5 rfl) ?_
  refine lv_iconst (v := nI 3) hx hb dL_law_209 (by decide) ?_
  refine lv_iadd hx hb dL_law_210 ?_
  refine tp_i (y := nI (k + 3)) (nI_add _ _) ?_
  refine l_sld hx hb hX hbl hbA hS hL9 (show (k + 3) < L by omega) dL_law_211 ?_
  refine cn_V (As := [.int (xs (k + 1)), .int (xs (k + 2)), .int (xs (k + 3))]) (rest := []) C0 hl hK hS hA hmZ (m_put l g H1 z0 mc lf dg fs rr V a b n t hT1 (xs (k + 1)) (xs (k + 2)) (xs (k + 3))) gL_law_X4_put rfl ⟨rfl, rfl⟩ (va_recv hK.1 (p1 hT1.1.1) (ci := 5) (q0 := 0) rfl rfl) ⟨rfl, (show hd_ok yX4_put 3 from ⟨by decide, by decide, by decide +kernel⟩)⟩ ⟨Nat.le_trans (Nat.le_of_ble_eq_true rfl) hRf.1, Nat.le_trans (Nat.le_of_ble_eq_true rfl) hRf.2⟩ rfl (Nat.le_of_ble_eq_true rfl) ⟨by omega, by omega⟩ dL_law_212 (fun r2 H2 locs hv hzz hk2 hS => ?_)
  obtain ⟨fs2, rr2, V2, a2, b2, n2, t2, hP2, hT2⟩ := hv
  have hap1 := ls_mt hK hZ hQ1 hT1
  have hQ2 := hQ1.kept (fun q hq => hk2 q (hQ1.lt q hq) (hap1.2 q hq))
  obtain ⟨⟨k29, rfl⟩, hP2⟩ := hP2
  have eV : V2 = V1 := oC1_uq hP1.2.2 hP2.2.2
  have en : n2 = n1 := hP2.1.trans hP1.1.symm
  have et : t2 = t1 := hP2.2.1.trans hP1.2.1.symm
  rw [eV, en, et] at hT2
  refine lv_istore (lv' := [(6, .int k29), (5, .int k19), (0, .ref b9), (1, .ref x0), (2, .ref z0), (3, .ref o0), (4, .int (nI k))]) hx hb dL_law_215 hl (by decide) rfl (fun ls hl => ?_)
  refine lv_goto (tgt := 1538) hx hb dL_law_217 (by decide) ?_
  refine W.widen (k := cells + 2087) (n := slots + 9996) (by omega) (by omega) ?_
  exact K ls H2 locs _ _ _ _ _ _ _ _ hQ2 hT2 hS (lv_sub hl [2, 3, 4, 5, 6] rfl)
set_option maxHeartbeats 4000000 in
set_option maxRecDepth 100000 in
theorem lk_1 (C0 : Cx p s m args meth c RL cL_law 7 (some .boolean) wsL_law) (hK : KK g s) (hZ : ZW g s.heap.size s s.heap) (hE : EW s) (hnt : l.stackTraces = false) (hX : va_X b9 L xs s s.heap) (hbl : b9 < s.heap.size) (hL9 : L ≤ 2560) (hk5 : k + 5 ≤ L) (hRc : cells + 2087 ≤ R.cells ∧ slots + 9996 ≤ R.slots) (hRf : 20 ≤ R.frames ∧ 600 ≤ R.locals) (hmL : ∀ q : Nat, mL x0 lc tr tc sr sc o0 q → s.heap.size ≤ q) (hmZ : ∀ q : Nat, zM z0 mc lf dg q → s.heap.size ≤ q) (hQ : LQ g H x0 lc tr tc sr sc o0 V n t v0) (hT : MT g H z0 mc lf dg fs rr V a b n t) (hS : va_S (fun q => s.heap.size ≤ q) s.heap H locs) (hl : lv_has ls 7 [(0, .ref b9), (1, .ref x0), (2, .ref z0), (3, .ref o0), (4, .int (nI k))])
    (K : ∀ (ls : Array Slot) (H : Heap) (locs : List Loc) (V : Nat → Nat) (n : Nat) (t : Nat → Nat) (v0 : Int64) (fs : List Value) (rr : Nat → Nat) (a b : Nat), LQ g H x0 lc tr tc sr sc o0 V n t v0 → MT g H z0 mc lf dg fs rr V a b n t → va_S (fun q => s.heap.size ≤ q) s.heap H locs → lv_has ls 7 [(0, .ref b9), (1, .ref x0), (2, .ref z0), (3, .ref o0), (4, .int (nI k))] → W p l e R s m args below meth c H locs (cells + 2087) (slots + 9996) Q (F0 m 1538 ls [])) : W p l e R s m args below meth c H locs cells slots Q (F0 m 220 ls []) := by
  obtain ⟨hx, hb, hr, hml, hown, hts, hlk⟩ := id C0
  have hA : ∀ q : Nat, s.heap.size ≤ q → s.heap.size ≤ q := fun q h => h
  have hAb : ∀ q : Nat, s.heap.size ≤ q → s.heap.size ≤ q := fun q h => h
  have hbA : ¬ s.heap.size ≤ b9 := Nat.not_le.mpr hbl
  have hap := ls_mt hK hZ hQ hT
  obtain ⟨⟨i3, i4, i5, i6, hC⟩, ⟨w0, ho⟩, hno⟩ := id hQ
  have hmC : ∀ q : Nat, mC x0 lc tr tc sr sc q → s.heap.size ≤ q := fun q h => hmL q (Or.inl h)
  refine lv_aload_n hx hb dL_law_220 rfl (lv_at hl 1 rfl) ?_
  refine lv_aload_n hx hb dL_law_221 rfl (lv_at hl 0 rfl) ?_
  refine lv_iload hx hb dL_law_222 (lv_at hl 4 rfl) ?_
  refine lv_iconst (v := nI 1) hx hb dL_law_224 (by decide) ?_
  refine lv_iadd hx hb dL_law_225 ?_
  refine tp_i (y := nI (k + 1)) (nI_add _ _) ?_
  refine l_sld hx hb hX hbl hbA hS hL9 (show (k + 1) < L by omega) dL_law_226 ?_
  refine lv_aload_n hx hb dL_law_227 rfl (lv_at hl 0 rfl) ?_
  refine lv_iload hx hb dL_law_228 (lv_at hl 4 rfl) ?_
  refine lv_iconst (v := nI 2) hx hb dL_law_230 (by decide) ?_
  refine lv_iadd hx hb dL_law_231 ?_
  refine tp_i (y := nI (k + 2)) (nI_add _ _) ?_
  refine l_sld hx hb hX hbl hbA hS hL9 (show (k + 2) < L by omega) dL_law_232 ?_
  refine lv_aload_n hx hb dL_law_233 rfl (lv_at hl 3 rfl) ?_
  refine lx_S (As := [.ref x0, .int (xs (k + 1)), .int (xs (k + 2)), .ref o0]) (rest := []) (hh := [(0, 18, 21, 19)]) C0 hl hK hS hA hmL (zat hZ hS hAb) hE (s_copy l hnt g s.heap.size H x0 lc tr tc sr sc o0 V n t v0 hQ hmL (xs (k + 1)) (xs (k + 2))) gL_law_L_copy rfl ⟨rfl, rfl⟩ (show hd_ok yL_copy 4 from ⟨by decide, by decide, by decide +kernel⟩) ⟨Nat.le_trans (Nat.le_of_ble_eq_true rfl) hRf.1, Nat.le_trans (Nat.le_of_ble_eq_true rfl) hRf.2⟩ rfl (Nat.le_of_ble_eq_true rfl) ⟨by omega, by omega⟩ dL_law_234 (fun r1 H1 locs hv hzz hk1 hS => ?_)
  obtain ⟨v1, V1, n1, t1, hP1, hQ1⟩ := hv
  have hT1 := hT.keptA (fun q hq => hk1 q (mt_lt hT q hq) (hap.1 q hq))
  obtain ⟨⟨k19, rfl⟩, hP1⟩ := hP1
  refine lv_istore (lv' := [(5, .int k19), (0, .ref b9), (1, .ref x0), (2, .ref z0), (3, .ref o0), (4, .int (nI k))]) hx hb dL_law_237 hl (by decide) rfl (fun ls hl => ?_)
  refine lv_aload_n hx hb dL_law_239 rfl (lv_at hl 3 rfl) ?_
  refine lv_aload_n hx hb dL_law_240 rfl (lv_at hl 1 rfl) ?_
  refine lv_iload hx hb dL_law_241 (lv_at hl 5 rfl) ?_
  refine lv_iconst (v := nI 1) hx hb dL_law_243 (by decide) ?_
  refine lv_iadd hx hb dL_law_244 ?_
  refine tp_i (y := nI (k + 1)) (nI_add _ _) ?_
  refine l_sld hx hb hX hbl hbA hS hL9 (show (k + 1) < L by omega) dL_law_245 ?_
  refine lv_aload_n hx hb dL_law_246 rfl (lv_at hl 1 rfl) ?_
  refine lv_iload hx hb dL_law_247 (lv_at hl 5 rfl) ?_
  refine lv_iconst (v := nI 2) hx hb dL_law_249 (by decide) ?_
  refine lv_iadd hx hb dL_law_250 ?_
  refine tp_i (y := nI (k + 2)) (nI_add _ _) ?_
  refine l_sld hx hb hX hbl hbA hS hL9 (show (k + 2) < L by omega) dL_law_251 ?_
  refine cn_V (As := [.int (xs (k + 1)), .int (xs (k + 2))]) (rest := []) C0 hl hK hS hA hmZ (m_copy l g H1 z0 mc lf dg fs rr V a b n t hT1 (xs (k + 1)) (xs (k + 2))) gL_law_X4_copy rfl ⟨rfl, rfl⟩ (va_recv hK.1 (p1 hT1.1.1) (ci := 5) (q0 := 0) rfl rfl) ⟨rfl, (show hd_ok yX4_copy 2 from ⟨by decide, by decide, by decide +kernel⟩)⟩ ⟨Nat.le_trans (Nat.le_of_ble_eq_true rfl) hRf.1, Nat.le_trans (Nat.le_of_ble_eq_true rfl) hRf.2⟩ rfl (Nat.le_of_ble_eq_true rfl) ⟨by omega, by omega⟩ dL_law_252 (fun r2 H2 locs hv hzz hk2 hS => ?_)
  obtain ⟨fs2, rr2, V2, a2, b2, n2, t2, hP2, hT2⟩ := hv
  have hap1 := ls_mt hK hZ hQ1 hT1
  have hQ2 := hQ1.kept (fun q hq => hk2 q (hQ1.lt q hq) (hap1.2 q hq))
  obtain ⟨⟨k29, rfl⟩, hP2⟩ := hP2
  have eV : V2 = V1 := oC2_uq hP1.2.2 hP2.2.2
  have en : n2 = n1 := hP2.1.trans hP1.1.symm
  have et : t2 = t1 := hP2.2.1.trans hP1.2.1.symm
  rw [eV, en, et] at hT2
  refine lv_istore (lv' := [(6, .int k29), (5, .int k19), (0, .ref b9), (1, .ref x0), (2, .ref z0), (3, .ref o0), (4, .int (nI k))]) hx hb dL_law_255 hl (by decide) rfl (fun ls hl => ?_)
  refine lv_goto (tgt := 1538) hx hb dL_law_257 (by decide) ?_
  refine W.widen (k := cells + 2087) (n := slots + 9996) (by omega) (by omega) ?_
  exact K ls H2 locs _ _ _ _ _ _ _ _ hQ2 hT2 hS (lv_sub hl [2, 3, 4, 5, 6] rfl)
set_option maxHeartbeats 4000000 in
set_option maxRecDepth 100000 in
theorem lk_2 (C0 : Cx p s m args meth c RL cL_law 7 (some .boolean) wsL_law) (hK : KK g s) (hZ : ZW g s.heap.size s s.heap) (hE : EW s) (hnt : l.stackTraces = false) (hX : va_X b9 L xs s s.heap) (hbl : b9 < s.heap.size) (hL9 : L ≤ 2560) (hk5 : k + 5 ≤ L) (hRc : cells + 2087 ≤ R.cells ∧ slots + 9996 ≤ R.slots) (hRf : 20 ≤ R.frames ∧ 600 ≤ R.locals) (hmL : ∀ q : Nat, mL x0 lc tr tc sr sc o0 q → s.heap.size ≤ q) (hmZ : ∀ q : Nat, zM z0 mc lf dg q → s.heap.size ≤ q) (hQ : LQ g H x0 lc tr tc sr sc o0 V n t v0) (hT : MT g H z0 mc lf dg fs rr V a b n t) (hS : va_S (fun q => s.heap.size ≤ q) s.heap H locs) (hl : lv_has ls 7 [(0, .ref b9), (1, .ref x0), (2, .ref z0), (3, .ref o0), (4, .int (nI k))])
    (K : ∀ (ls : Array Slot) (H : Heap) (locs : List Loc) (V : Nat → Nat) (n : Nat) (t : Nat → Nat) (v0 : Int64) (fs : List Value) (rr : Nat → Nat) (a b : Nat), LQ g H x0 lc tr tc sr sc o0 V n t v0 → MT g H z0 mc lf dg fs rr V a b n t → va_S (fun q => s.heap.size ≤ q) s.heap H locs → lv_has ls 7 [(0, .ref b9), (1, .ref x0), (2, .ref z0), (3, .ref o0), (4, .int (nI k))] → W p l e R s m args below meth c H locs (cells + 2087) (slots + 9996) Q (F0 m 1538 ls [])) : W p l e R s m args below meth c H locs cells slots Q (F0 m 260 ls []) := by
  obtain ⟨hx, hb, hr, hml, hown, hts, hlk⟩ := id C0
  have hA : ∀ q : Nat, s.heap.size ≤ q → s.heap.size ≤ q := fun q h => h
  have hAb : ∀ q : Nat, s.heap.size ≤ q → s.heap.size ≤ q := fun q h => h
  have hbA : ¬ s.heap.size ≤ b9 := Nat.not_le.mpr hbl
  have hap := ls_mt hK hZ hQ hT
  obtain ⟨⟨i3, i4, i5, i6, hC⟩, ⟨w0, ho⟩, hno⟩ := id hQ
  have hmC : ∀ q : Nat, mC x0 lc tr tc sr sc q → s.heap.size ≤ q := fun q h => hmL q (Or.inl h)
  refine lv_aload_n hx hb dL_law_260 rfl (lv_at hl 1 rfl) ?_
  refine lv_aload_n hx hb dL_law_261 rfl (lv_at hl 0 rfl) ?_
  refine lv_iload hx hb dL_law_262 (lv_at hl 4 rfl) ?_
  refine lv_iconst (v := nI 1) hx hb dL_law_264 (by decide) ?_
  refine lv_iadd hx hb dL_law_265 ?_
  refine tp_i (y := nI (k + 1)) (nI_add _ _) ?_
  refine l_sld hx hb hX hbl hbA hS hL9 (show (k + 1) < L by omega) dL_law_266 ?_
  refine lv_aload_n hx hb dL_law_267 rfl (lv_at hl 0 rfl) ?_
  refine lv_iload hx hb dL_law_268 (lv_at hl 4 rfl) ?_
  refine lv_iconst (v := nI 2) hx hb dL_law_270 (by decide) ?_
  refine lv_iadd hx hb dL_law_271 ?_
  refine tp_i (y := nI (k + 2)) (nI_add _ _) ?_
  refine l_sld hx hb hX hbl hbA hS hL9 (show (k + 2) < L by omega) dL_law_272 ?_
  refine lw_ne0 hx hb dL_law_273 dL_law_276 dL_law_277 dL_law_280 ?_
  refine lv_aload_n hx hb dL_law_281 rfl (lv_at hl 3 rfl) ?_
  refine lx_S (As := [.ref x0, .int (xs (k + 1)), .int (bI (decide (xs (k + 2) ≠ 0))), .ref o0]) (rest := []) (hh := [(0, 11, 14, 29), (0, 11, 18, 31)]) C0 hl hK hS hA hmL (zat hZ hS hAb) hE (s_type l hnt g s.heap.size H x0 lc tr tc sr sc o0 V n t v0 hQ hmL (xs (k + 1)) (decide (xs (k + 2) ≠ 0))) gL_law_L_type rfl ⟨rfl, rfl⟩ (show hd_ok yL_type 4 from ⟨by decide, by decide, by decide +kernel⟩) ⟨Nat.le_trans (Nat.le_of_ble_eq_true rfl) hRf.1, Nat.le_trans (Nat.le_of_ble_eq_true rfl) hRf.2⟩ rfl (Nat.le_of_ble_eq_true rfl) ⟨by omega, by omega⟩ dL_law_282 (fun r1 H1 locs hv hzz hk1 hS => ?_)
  obtain ⟨v1, V1, n1, t1, hP1, hQ1⟩ := hv
  have hT1 := hT.keptA (fun q hq => hk1 q (mt_lt hT q hq) (hap.1 q hq))
  obtain ⟨⟨k19, rfl⟩, hP1⟩ := hP1
  refine lv_istore (lv' := [(5, .int k19), (0, .ref b9), (1, .ref x0), (2, .ref z0), (3, .ref o0), (4, .int (nI k))]) hx hb dL_law_285 hl (by decide) rfl (fun ls hl => ?_)
  refine lv_aload_n hx hb dL_law_287 rfl (lv_at hl 3 rfl) ?_
  refine lv_aload_n hx hb dL_law_288 rfl (lv_at hl 1 rfl) ?_
  refine lv_iload hx hb dL_law_289 (lv_at hl 5 rfl) ?_
  refine lv_iconst (v := nI 1) hx hb dL_law_291 (by decide) ?_
  refine lv_iadd hx hb dL_law_292 ?_
  refine tp_i (y := nI (k + 1)) (nI_add _ _) ?_
  refine l_sld hx hb hX hbl hbA hS hL9 (show (k + 1) < L by omega) dL_law_293 ?_
  refine lv_aload_n hx hb dL_law_294 rfl (lv_at hl 1 rfl) ?_
  refine lv_iload hx hb dL_law_295 (lv_at hl 5 rfl) ?_
  refine lv_iconst (v := nI 2) hx hb dL_law_297 (by decide) ?_
  refine lv_iadd hx hb dL_law_298 ?_
  refine tp_i (y := nI (k + 2)) (nI_add _ _) ?_
  refine l_sld hx hb hX hbl hbA hS hL9 (show (k + 2) < L by omega) dL_law_299 ?_
  refine lw_ne0 hx hb dL_law_300 dL_law_303 dL_law_304 dL_law_307 ?_
  refine jn_V (As := [.int (xs (k + 1)), .int (bI (decide (xs (k + 2) ≠ 0)))]) (rest := []) C0 hl hK hS hA hmZ (zat hZ hS hAb) (m_type l g s.heap.size H1 z0 mc lf dg fs rr V a b n t hT1 hmZ (xs (k + 1)) (decide (xs (k + 2) ≠ 0))) gL_law_X4_type rfl ⟨rfl, rfl⟩ (va_recv hK.1 (p1 hT1.1.1) (ci := 5) (q0 := 0) rfl rfl) ⟨rfl, (show hd_ok yX4_type 2 from ⟨by decide, by decide, by decide +kernel⟩)⟩ ⟨Nat.le_trans (Nat.le_of_ble_eq_true rfl) hRf.1, Nat.le_trans (Nat.le_of_ble_eq_true rfl) hRf.2⟩ rfl (Nat.le_of_ble_eq_true rfl) ⟨by omega, by omega⟩ dL_law_308 (fun r2 H2 locs hv hzz hk2 hS => ?_)
  obtain ⟨fs2, rr2, V2, a2, b2, n2, t2, hP2, hT2⟩ := hv
  have hap1 := ls_mt hK hZ hQ1 hT1
  have hQ2 := hQ1.kept (fun q hq => hk2 q (hQ1.lt q hq) (hap1.2 q hq))
  obtain ⟨⟨k29, rfl⟩, hP2⟩ := hP2
  have eV : V2 = V1 := hP2.1.trans hP1.1.symm
  have en : n2 = n1 := (oTy_uq hP1.2 hP2.2).1
  have et : t2 = t1 := (oTy_uq hP1.2 hP2.2).2
  rw [eV, en, et] at hT2
  refine lv_istore (lv' := [(6, .int k29), (5, .int k19), (0, .ref b9), (1, .ref x0), (2, .ref z0), (3, .ref o0), (4, .int (nI k))]) hx hb dL_law_311 hl (by decide) rfl (fun ls hl => ?_)
  refine lv_goto (tgt := 1538) hx hb dL_law_313 (by decide) ?_
  refine W.widen (k := cells + 2087) (n := slots + 9996) (by omega) (by omega) ?_
  exact K ls H2 locs _ _ _ _ _ _ _ _ hQ2 hT2 hS (lv_sub hl [2, 3, 4, 5, 6] rfl)
set_option maxHeartbeats 4000000 in
set_option maxRecDepth 100000 in
theorem lk_3 (C0 : Cx p s m args meth c RL cL_law 7 (some .boolean) wsL_law) (hK : KK g s) (hZ : ZW g s.heap.size s s.heap) (hE : EW s) (hnt : l.stackTraces = false) (hX : va_X b9 L xs s s.heap) (hbl : b9 < s.heap.size) (hL9 : L ≤ 2560) (hk5 : k + 5 ≤ L) (hRc : cells + 2087 ≤ R.cells ∧ slots + 9996 ≤ R.slots) (hRf : 20 ≤ R.frames ∧ 600 ≤ R.locals) (hmL : ∀ q : Nat, mL x0 lc tr tc sr sc o0 q → s.heap.size ≤ q) (hmZ : ∀ q : Nat, zM z0 mc lf dg q → s.heap.size ≤ q) (hQ : LQ g H x0 lc tr tc sr sc o0 V n t v0) (hT : MT g H z0 mc lf dg fs rr V a b n t) (hS : va_S (fun q => s.heap.size ≤ q) s.heap H locs) (hl : lv_has ls 7 [(0, .ref b9), (1, .ref x0), (2, .ref z0), (3, .ref o0), (4, .int (nI k))])
    (K : ∀ (ls : Array Slot) (H : Heap) (locs : List Loc) (V : Nat → Nat) (n : Nat) (t : Nat → Nat) (v0 : Int64) (fs : List Value) (rr : Nat → Nat) (a b : Nat), LQ g H x0 lc tr tc sr sc o0 V n t v0 → MT g H z0 mc lf dg fs rr V a b n t → va_S (fun q => s.heap.size ≤ q) s.heap H locs → lv_has ls 7 [(0, .ref b9), (1, .ref x0), (2, .ref z0), (3, .ref o0), (4, .int (nI k))] → W p l e R s m args below meth c H locs (cells + 2087) (slots + 9996) Q (F0 m 1538 ls [])) : W p l e R s m args below meth c H locs cells slots Q (F0 m 316 ls []) := by
  obtain ⟨hx, hb, hr, hml, hown, hts, hlk⟩ := id C0
  have hA : ∀ q : Nat, s.heap.size ≤ q → s.heap.size ≤ q := fun q h => h
  have hAb : ∀ q : Nat, s.heap.size ≤ q → s.heap.size ≤ q := fun q h => h
  have hbA : ¬ s.heap.size ≤ b9 := Nat.not_le.mpr hbl
  have hap := ls_mt hK hZ hQ hT
  obtain ⟨⟨i3, i4, i5, i6, hC⟩, ⟨w0, ho⟩, hno⟩ := id hQ
  have hmC : ∀ q : Nat, mC x0 lc tr tc sr sc q → s.heap.size ≤ q := fun q h => hmL q (Or.inl h)
  refine lv_aload_n hx hb dL_law_316 rfl (lv_at hl 1 rfl) ?_
  refine lv_aload_n hx hb dL_law_317 rfl (lv_at hl 3 rfl) ?_
  refine lx_S (As := [.ref x0, .ref o0]) (rest := []) (hh := [(0, 9, 12, 31)]) C0 hl hK hS hA hmL (zat hZ hS hAb) hE (s_erase l hnt g s.heap.size H x0 lc tr tc sr sc o0 V n t v0 hQ hmL ) gL_law_L_erase rfl ⟨rfl, rfl⟩ (show hd_ok yL_erase 2 from ⟨by decide, by decide, by decide +kernel⟩) ⟨Nat.le_trans (Nat.le_of_ble_eq_true rfl) hRf.1, Nat.le_trans (Nat.le_of_ble_eq_true rfl) hRf.2⟩ rfl (Nat.le_of_ble_eq_true rfl) ⟨by omega, by omega⟩ dL_law_318 (fun r1 H1 locs hv hzz hk1 hS => ?_)
  obtain ⟨v1, V1, n1, t1, hP1, hQ1⟩ := hv
  have hT1 := hT.keptA (fun q hq => hk1 q (mt_lt hT q hq) (hap.1 q hq))
  obtain ⟨⟨k19, rfl⟩, hP1⟩ := hP1
  refine lv_istore (lv' := [(5, .int k19), (0, .ref b9), (1, .ref x0), (2, .ref z0), (3, .ref o0), (4, .int (nI k))]) hx hb dL_law_321 hl (by decide) rfl (fun ls hl => ?_)
  refine lv_aload_n hx hb dL_law_323 rfl (lv_at hl 3 rfl) ?_
  refine jn_V (As := []) (rest := []) C0 hl hK hS hA hmZ (zat hZ hS hAb) (m_erase l g s.heap.size H1 z0 mc lf dg fs rr V a b n t hT1 hmZ ) gL_law_X4_erase rfl ⟨rfl, rfl⟩ (va_recv hK.1 (p1 hT1.1.1) (ci := 5) (q0 := 0) rfl rfl) ⟨rfl, (show hd_ok yX4_erase 0 from ⟨by decide, by decide, by decide +kernel⟩)⟩ ⟨Nat.le_trans (Nat.le_of_ble_eq_true rfl) hRf.1, Nat.le_trans (Nat.le_of_ble_eq_true rfl) hRf.2⟩ rfl (Nat.le_of_ble_eq_true rfl) ⟨by omega, by omega⟩ dL_law_324 (fun r2 H2 locs hv hzz hk2 hS => ?_)
  obtain ⟨fs2, rr2, V2, a2, b2, n2, t2, hP2, hT2⟩ := hv
  have hap1 := ls_mt hK hZ hQ1 hT1
  have hQ2 := hQ1.kept (fun q hq => hk2 q (hQ1.lt q hq) (hap1.2 q hq))
  obtain ⟨⟨k29, rfl⟩, hP2⟩ := hP2
  have eV : V2 = V1 := hP2.1.trans hP1.1.symm
  have en : n2 = n1 := hP2.2.1.trans hP1.2.1.symm
  have et : t2 = t1 := hP2.2.2.trans hP1.2.2.symm
  rw [eV, en, et] at hT2
  refine lv_istore (lv' := [(6, .int k29), (5, .int k19), (0, .ref b9), (1, .ref x0), (2, .ref z0), (3, .ref o0), (4, .int (nI k))]) hx hb dL_law_327 hl (by decide) rfl (fun ls hl => ?_)
  refine lv_goto (tgt := 1538) hx hb dL_law_329 (by decide) ?_
  refine W.widen (k := cells + 2087) (n := slots + 9996) (by omega) (by omega) ?_
  exact K ls H2 locs _ _ _ _ _ _ _ _ hQ2 hT2 hS (lv_sub hl [2, 3, 4, 5, 6] rfl)
set_option maxHeartbeats 4000000 in
set_option maxRecDepth 100000 in
theorem lk_4 (C0 : Cx p s m args meth c RL cL_law 7 (some .boolean) wsL_law) (hK : KK g s) (hZ : ZW g s.heap.size s s.heap) (hE : EW s) (hnt : l.stackTraces = false) (hX : va_X b9 L xs s s.heap) (hbl : b9 < s.heap.size) (hL9 : L ≤ 2560) (hk5 : k + 5 ≤ L) (hRc : cells + 2087 ≤ R.cells ∧ slots + 9996 ≤ R.slots) (hRf : 20 ≤ R.frames ∧ 600 ≤ R.locals) (hmL : ∀ q : Nat, mL x0 lc tr tc sr sc o0 q → s.heap.size ≤ q) (hmZ : ∀ q : Nat, zM z0 mc lf dg q → s.heap.size ≤ q) (hQ : LQ g H x0 lc tr tc sr sc o0 V n t v0) (hT : MT g H z0 mc lf dg fs rr V a b n t) (hS : va_S (fun q => s.heap.size ≤ q) s.heap H locs) (hl : lv_has ls 7 [(0, .ref b9), (1, .ref x0), (2, .ref z0), (3, .ref o0), (4, .int (nI k))])
    (K : ∀ (ls : Array Slot) (H : Heap) (locs : List Loc) (V : Nat → Nat) (n : Nat) (t : Nat → Nat) (v0 : Int64) (fs : List Value) (rr : Nat → Nat) (a b : Nat), LQ g H x0 lc tr tc sr sc o0 V n t v0 → MT g H z0 mc lf dg fs rr V a b n t → va_S (fun q => s.heap.size ≤ q) s.heap H locs → lv_has ls 7 [(0, .ref b9), (1, .ref x0), (2, .ref z0), (3, .ref o0), (4, .int (nI k))] → W p l e R s m args below meth c H locs (cells + 2087) (slots + 9996) Q (F0 m 1538 ls [])) : W p l e R s m args below meth c H locs cells slots Q (F0 m 332 ls []) := by
  obtain ⟨hx, hb, hr, hml, hown, hts, hlk⟩ := id C0
  have hA : ∀ q : Nat, s.heap.size ≤ q → s.heap.size ≤ q := fun q h => h
  have hAb : ∀ q : Nat, s.heap.size ≤ q → s.heap.size ≤ q := fun q h => h
  have hbA : ¬ s.heap.size ≤ b9 := Nat.not_le.mpr hbl
  have hap := ls_mt hK hZ hQ hT
  obtain ⟨⟨i3, i4, i5, i6, hC⟩, ⟨w0, ho⟩, hno⟩ := id hQ
  have hmC : ∀ q : Nat, mC x0 lc tr tc sr sc q → s.heap.size ≤ q := fun q h => hmL q (Or.inl h)
  refine lv_aload_n hx hb dL_law_332 rfl (lv_at hl 1 rfl) ?_
  refine cn_V (As := []) (rest := []) C0 hl hK hS hA hmC (c_xClear l g H x0 lc tr tc sr sc i3 i4 i5 i6 V n t hC) gL_law_X2_clear rfl ⟨rfl, rfl⟩ (hC.1.recv hK) ⟨rfl, (show hd_ok yX2_clear 0 from ⟨by decide, by decide, by decide +kernel⟩)⟩ ⟨Nat.le_trans (Nat.le_of_ble_eq_true rfl) hRf.1, Nat.le_trans (Nat.le_of_ble_eq_true rfl) hRf.2⟩ rfl (Nat.le_of_ble_eq_true rfl) ⟨by omega, by omega⟩ dL_law_333 (fun r1 H1 locs hv hzz hk1 hS => ?_)
  obtain ⟨j3, j4, j5, j6, V1, n1, t1, hP1, hC1⟩ := hv
  have hQ1 : LQ g H1 x0 lc tr tc sr sc o0 V1 n1 t1 v0 := ⟨⟨_, _, _, _, hC1⟩, ⟨_, ho.kept (hk1 _ ho.lt hno)⟩, hno⟩
  have hT1 := hT.keptA (fun q hq => hk1 q (mt_lt hT q hq) (fun z => hap.1 q hq (Or.inl z)))
  obtain ⟨rfl, hP1⟩ := hP1
  refine lv_pop hx hb dL_law_336 rfl ?_
  refine lv_aload_n hx hb dL_law_337 rfl (lv_at hl 2 rfl) ?_
  refine jn_V (As := []) (rest := []) C0 hl hK hS hA hmZ (zat hZ hS hAb) (m_clear l g s.heap.size H1 z0 mc lf dg fs rr V a b n t hT1 hmZ ) gL_law_X4_clear rfl ⟨rfl, rfl⟩ (va_recv hK.1 (p1 hT1.1.1) (ci := 5) (q0 := 0) rfl rfl) ⟨rfl, (show hd_ok yX4_clear 0 from ⟨by decide, by decide, by decide +kernel⟩)⟩ ⟨Nat.le_trans (Nat.le_of_ble_eq_true rfl) hRf.1, Nat.le_trans (Nat.le_of_ble_eq_true rfl) hRf.2⟩ rfl (Nat.le_of_ble_eq_true rfl) ⟨by omega, by omega⟩ dL_law_338 (fun r2 H2 locs hv hzz hk2 hS => ?_)
  obtain ⟨fs2, rr2, V2, a2, b2, n2, t2, hP2, hT2⟩ := hv
  have hap1 := ls_mt hK hZ hQ1 hT1
  have hQ2 := hQ1.kept (fun q hq => hk2 q (hQ1.lt q hq) (hap1.2 q hq))
  obtain ⟨⟨k29, rfl⟩, hP2⟩ := hP2
  have eV : V2 = V1 := hP2.1.trans hP1.1.symm
  have en : n2 = n1 := hP2.2.trans hP1.2.symm
  rw [eV, en] at hT2
  have hQ2 := lq_0 hQ2 hP1.2 t2
  refine lv_pop hx hb dL_law_341 rfl ?_
  refine lv_goto (tgt := 1538) hx hb dL_law_342 (by decide) ?_
  refine W.widen (k := cells + 2087) (n := slots + 9996) (by omega) (by omega) ?_
  exact K ls H2 locs _ _ _ _ _ _ _ _ hQ2 hT2 hS (lv_sub hl [0, 1, 2, 3, 4] rfl)
set_option maxHeartbeats 4000000 in
set_option maxRecDepth 100000 in
theorem lk_5 (C0 : Cx p s m args meth c RL cL_law 7 (some .boolean) wsL_law) (hK : KK g s) (hZ : ZW g s.heap.size s s.heap) (hE : EW s) (hnt : l.stackTraces = false) (hX : va_X b9 L xs s s.heap) (hbl : b9 < s.heap.size) (hL9 : L ≤ 2560) (hk5 : k + 5 ≤ L) (hRc : cells + 2087 ≤ R.cells ∧ slots + 9996 ≤ R.slots) (hRf : 20 ≤ R.frames ∧ 600 ≤ R.locals) (hmL : ∀ q : Nat, mL x0 lc tr tc sr sc o0 q → s.heap.size ≤ q) (hmZ : ∀ q : Nat, zM z0 mc lf dg q → s.heap.size ≤ q) (hQ : LQ g H x0 lc tr tc sr sc o0 V n t v0) (hT : MT g H z0 mc lf dg fs rr V a b n t) (hS : va_S (fun q => s.heap.size ≤ q) s.heap H locs) (hl : lv_has ls 7 [(0, .ref b9), (1, .ref x0), (2, .ref z0), (3, .ref o0), (4, .int (nI k))])
    (K : ∀ (ls : Array Slot) (H : Heap) (locs : List Loc) (V : Nat → Nat) (n : Nat) (t : Nat → Nat) (v0 : Int64) (fs : List Value) (rr : Nat → Nat) (a b : Nat), LQ g H x0 lc tr tc sr sc o0 V n t v0 → MT g H z0 mc lf dg fs rr V a b n t → va_S (fun q => s.heap.size ≤ q) s.heap H locs → lv_has ls 7 [(0, .ref b9), (1, .ref x0), (2, .ref z0), (3, .ref o0), (4, .int (nI k))] → W p l e R s m args below meth c H locs (cells + 2087) (slots + 9996) Q (F0 m 1538 ls [])) : W p l e R s m args below meth c H locs cells slots Q (F0 m 345 ls []) := by
  obtain ⟨hx, hb, hr, hml, hown, hts, hlk⟩ := id C0
  have hA : ∀ q : Nat, s.heap.size ≤ q → s.heap.size ≤ q := fun q h => h
  have hAb : ∀ q : Nat, s.heap.size ≤ q → s.heap.size ≤ q := fun q h => h
  have hbA : ¬ s.heap.size ≤ b9 := Nat.not_le.mpr hbl
  have hap := ls_mt hK hZ hQ hT
  obtain ⟨⟨i3, i4, i5, i6, hC⟩, ⟨w0, ho⟩, hno⟩ := id hQ
  have hmC : ∀ q : Nat, mC x0 lc tr tc sr sc q → s.heap.size ≤ q := fun q h => hmL q (Or.inl h)
  refine lv_aload_n hx hb dL_law_345 rfl (lv_at hl 1 rfl) ?_
  refine lv_aload_n hx hb dL_law_346 rfl (lv_at hl 0 rfl) ?_
  refine lv_iload hx hb dL_law_347 (lv_at hl 4 rfl) ?_
  refine lv_iconst (v := nI 1) hx hb dL_law_349 (by decide) ?_
  refine lv_iadd hx hb dL_law_350 ?_
  refine tp_i (y := nI (k + 1)) (nI_add _ _) ?_
  refine l_sld hx hb hX hbl hbA hS hL9 (show (k + 1) < L by omega) dL_law_351 ?_
  refine lv_aload_n hx hb dL_law_352 rfl (lv_at hl 0 rfl) ?_
  refine lv_iload hx hb dL_law_353 (lv_at hl 4 rfl) ?_
  refine lv_iconst (v := nI 2) hx hb dL_law_355 (by decide) ?_
  refine lv_iadd hx hb dL_law_356 ?_
  refine tp_i (y := nI (k + 2)) (nI_add _ _) ?_
  refine l_sld hx hb hX hbl hbA hS hL9 (show (k + 2) < L by omega) dL_law_357 ?_
  refine lv_aload_n hx hb dL_law_358 rfl (lv_at hl 0 rfl) ?_
  refine lv_iload hx hb dL_law_359 (lv_at hl 4 rfl) ?_
  refine lv_iconst (v := nI 3) hx hb dL_law_361 (by decide) ?_
  refine lv_iadd hx hb dL_law_362 ?_
  refine tp_i (y := nI (k + 3)) (nI_add _ _) ?_
  refine l_sld hx hb hX hbl hbA hS hL9 (show (k + 3) < L by omega) dL_law_363 ?_
  refine lv_aload_n hx hb dL_law_364 rfl (lv_at hl 3 rfl) ?_
  refine lx_S (As := [.ref x0, .int (xs (k + 1)), .int (xs (k + 2)), .int (xs (k + 3)), .ref o0]) (rest := []) (hh := [(0, 13, 16, 19), (0, 13, 20, 29)]) C0 hl hK hS hA hmL (zat hZ hS hAb) hE (s_read l hnt g s.heap.size H x0 lc tr tc sr sc o0 V n t v0 hQ hmL (xs (k + 1)) (xs (k + 2)) (xs (k + 3))) gL_law_L_read rfl ⟨rfl, rfl⟩ (show hd_ok yL_read 5 from ⟨by decide, by decide, by decide +kernel⟩) ⟨Nat.le_trans (Nat.le_of_ble_eq_true rfl) hRf.1, Nat.le_trans (Nat.le_of_ble_eq_true rfl) hRf.2⟩ rfl (Nat.le_of_ble_eq_true rfl) ⟨by omega, by omega⟩ dL_law_365 (fun r1 H1 locs hv hzz hk1 hS => ?_)
  obtain ⟨v1, V1, n1, t1, hP1, hQ1⟩ := hv
  have hT1 := hT.keptA (fun q hq => hk1 q (mt_lt hT q hq) (hap.1 q hq))
  obtain ⟨⟨k19, rfl⟩, hP1⟩ := hP1
  refine lv_istore (lv' := [(5, .int k19), (0, .ref b9), (1, .ref x0), (2, .ref z0), (3, .ref o0), (4, .int (nI k))]) hx hb dL_law_368 hl (by decide) rfl (fun ls hl => ?_)
  refine lv_aload_n hx hb dL_law_370 rfl (lv_at hl 3 rfl) ?_
  refine lv_aload_n hx hb dL_law_371 rfl (lv_at hl 1 rfl) ?_
  refine lv_iload hx hb dL_law_372 (lv_at hl 5 rfl) ?_
  refine lv_iconst (v := nI 1) hx hb dL_law_374 (by decide) ?_
  refine lv_iadd hx hb dL_law_375 ?_
  refine tp_i (y := nI (k + 1)) (nI_add _ _) ?_
  refine l_sld hx hb hX hbl hbA hS hL9 (show (k + 1) < L by omega) dL_law_376 ?_
  refine lv_aload_n hx hb dL_law_377 rfl (lv_at hl 1 rfl) ?_
  refine lv_iload hx hb dL_law_378 (lv_at hl 5 rfl) ?_
  refine lv_iconst (v := nI 2) hx hb dL_law_380 (by decide) ?_
  refine lv_iadd hx hb dL_law_381 ?_
  refine tp_i (y := nI (k + 2)) (nI_add _ _) ?_
  refine l_sld hx hb hX hbl hbA hS hL9 (show (k + 2) < L by omega) dL_law_382 ?_
  refine lv_aload_n hx hb dL_law_383 rfl (lv_at hl 1 rfl) ?_
  refine lv_iload hx hb dL_law_384 (lv_at hl 5 rfl) ?_
  refine lv_iconst (v := nI 3) hx hb dL_law_386 (by decide) ?_
  refine lv_iadd hx hb dL_law_387 ?_
  refine tp_i (y := nI (k + 3)) (nI_add _ _) ?_
  refine l_sld hx hb hX hbl hbA hS hL9 (show (k + 3) < L by omega) dL_law_388 ?_
  refine jn_V (As := [.int (xs (k + 1)), .int (xs (k + 2)), .int (xs (k + 3))]) (rest := []) C0 hl hK hS hA hmZ (zat hZ hS hAb) (m_read l g s.heap.size H1 z0 mc lf dg fs rr V a b n t hT1 hmZ (xs (k + 1)) (xs (k + 2)) (xs (k + 3))) gL_law_X4_read rfl ⟨rfl, rfl⟩ (va_recv hK.1 (p1 hT1.1.1) (ci := 5) (q0 := 0) rfl rfl) ⟨rfl, (show hd_ok yX4_read 3 from ⟨by decide, by decide, by decide +kernel⟩)⟩ ⟨Nat.le_trans (Nat.le_of_ble_eq_true rfl) hRf.1, Nat.le_trans (Nat.le_of_ble_eq_true rfl) hRf.2⟩ rfl (Nat.le_of_ble_eq_true rfl) ⟨by omega, by omega⟩ dL_law_389 (fun r2 H2 locs hv hzz hk2 hS => ?_)
  obtain ⟨fs2, rr2, V2, a2, b2, n2, t2, hP2, hT2⟩ := hv
  have hap1 := ls_mt hK hZ hQ1 hT1
  have hQ2 := hQ1.kept (fun q hq => hk2 q (hQ1.lt q hq) (hap1.2 q hq))
  obtain ⟨⟨k29, rfl⟩, hP2⟩ := hP2
  have eV : V2 = V1 := oRd_uq hP1.2.2 hP2.2.2
  have en : n2 = n1 := hP2.1.trans hP1.1.symm
  have et : t2 = t1 := hP2.2.1.trans hP1.2.1.symm
  rw [eV, en, et] at hT2
  refine lv_istore (lv' := [(6, .int k29), (5, .int k19), (0, .ref b9), (1, .ref x0), (2, .ref z0), (3, .ref o0), (4, .int (nI k))]) hx hb dL_law_392 hl (by decide) rfl (fun ls hl => ?_)
  refine lv_goto (tgt := 1538) hx hb dL_law_394 (by decide) ?_
  refine W.widen (k := cells + 2087) (n := slots + 9996) (by omega) (by omega) ?_
  exact K ls H2 locs _ _ _ _ _ _ _ _ hQ2 hT2 hS (lv_sub hl [2, 3, 4, 5, 6] rfl)
set_option maxHeartbeats 4000000 in
set_option maxRecDepth 100000 in
theorem lk_6 (C0 : Cx p s m args meth c RL cL_law 7 (some .boolean) wsL_law) (hK : KK g s) (hZ : ZW g s.heap.size s s.heap) (hE : EW s) (hnt : l.stackTraces = false) (hX : va_X b9 L xs s s.heap) (hbl : b9 < s.heap.size) (hL9 : L ≤ 2560) (hk5 : k + 5 ≤ L) (hRc : cells + 2087 ≤ R.cells ∧ slots + 9996 ≤ R.slots) (hRf : 20 ≤ R.frames ∧ 600 ≤ R.locals) (hmL : ∀ q : Nat, mL x0 lc tr tc sr sc o0 q → s.heap.size ≤ q) (hmZ : ∀ q : Nat, zM z0 mc lf dg q → s.heap.size ≤ q) (hQ : LQ g H x0 lc tr tc sr sc o0 V n t v0) (hT : MT g H z0 mc lf dg fs rr V a b n t) (hS : va_S (fun q => s.heap.size ≤ q) s.heap H locs) (hl : lv_has ls 7 [(0, .ref b9), (1, .ref x0), (2, .ref z0), (3, .ref o0), (4, .int (nI k))])
    (K : ∀ (ls : Array Slot) (H : Heap) (locs : List Loc) (V : Nat → Nat) (n : Nat) (t : Nat → Nat) (v0 : Int64) (fs : List Value) (rr : Nat → Nat) (a b : Nat), LQ g H x0 lc tr tc sr sc o0 V n t v0 → MT g H z0 mc lf dg fs rr V a b n t → va_S (fun q => s.heap.size ≤ q) s.heap H locs → lv_has ls 7 [(0, .ref b9), (1, .ref x0), (2, .ref z0), (3, .ref o0), (4, .int (nI k))] → W p l e R s m args below meth c H locs (cells + 2087) (slots + 9996) Q (F0 m 1538 ls [])) : W p l e R s m args below meth c H locs cells slots Q (F0 m 397 ls []) := by
  obtain ⟨hx, hb, hr, hml, hown, hts, hlk⟩ := id C0
  have hA : ∀ q : Nat, s.heap.size ≤ q → s.heap.size ≤ q := fun q h => h
  have hAb : ∀ q : Nat, s.heap.size ≤ q → s.heap.size ≤ q := fun q h => h
  have hbA : ¬ s.heap.size ≤ b9 := Nat.not_le.mpr hbl
  have hap := ls_mt hK hZ hQ hT
  obtain ⟨⟨i3, i4, i5, i6, hC⟩, ⟨w0, ho⟩, hno⟩ := id hQ
  have hmC : ∀ q : Nat, mC x0 lc tr tc sr sc q → s.heap.size ≤ q := fun q h => hmL q (Or.inl h)
  refine lv_aload_n hx hb dL_law_397 rfl (lv_at hl 1 rfl) ?_
  refine lv_aload_n hx hb dL_law_398 rfl (lv_at hl 0 rfl) ?_
  refine lv_iload hx hb dL_law_399 (lv_at hl 4 rfl) ?_
  refine lv_iconst (v := nI 1) hx hb dL_law_401 (by decide) ?_
  refine lv_iadd hx hb dL_law_402 ?_
  refine tp_i (y := nI (k + 1)) (nI_add _ _) ?_
  refine l_sld hx hb hX hbl hbA hS hL9 (show (k + 1) < L by omega) dL_law_403 ?_
  refine lv_aload_n hx hb dL_law_404 rfl (lv_at hl 0 rfl) ?_
  refine lv_iload hx hb dL_law_405 (lv_at hl 4 rfl) ?_
  refine lv_iconst (v := nI 2) hx hb dL_law_407 (by decide) ?_
  refine lv_iadd hx hb dL_law_408 ?_
  refine tp_i (y := nI (k + 2)) (nI_add _ _) ?_
  refine l_sld hx hb hX hbl hbA hS hL9 (show (k + 2) < L by omega) dL_law_409 ?_
  refine lv_aload_n hx hb dL_law_410 rfl (lv_at hl 0 rfl) ?_
  refine lv_iload hx hb dL_law_411 (lv_at hl 4 rfl) ?_
  refine lv_iconst (v := nI 3) hx hb dL_law_413 (by decide) ?_
  refine lv_iadd hx hb dL_law_414 ?_
  refine tp_i (y := nI (k + 3)) (nI_add _ _) ?_
  refine l_sld hx hb hX hbl hbA hS hL9 (show (k + 3) < L by omega) dL_law_415 ?_
  refine lv_aload_n hx hb dL_law_416 rfl (lv_at hl 3 rfl) ?_
  refine lx_S (As := [.ref x0, .int (xs (k + 1)), .int (xs (k + 2)), .int (xs (k + 3)), .ref o0]) (rest := []) (hh := [(0, 13, 16, 19), (0, 13, 20, 29)]) C0 hl hK hS hA hmL (zat hZ hS hAb) hE (s_write l hnt g s.heap.size H x0 lc tr tc sr sc o0 V n t v0 hQ hmL (xs (k + 1)) (xs (k + 2)) (xs (k + 3))) gL_law_L_write rfl ⟨rfl, rfl⟩ (show hd_ok yL_write 5 from ⟨by decide, by decide, by decide +kernel⟩) ⟨Nat.le_trans (Nat.le_of_ble_eq_true rfl) hRf.1, Nat.le_trans (Nat.le_of_ble_eq_true rfl) hRf.2⟩ rfl (Nat.le_of_ble_eq_true rfl) ⟨by omega, by omega⟩ dL_law_417 (fun r1 H1 locs hv hzz hk1 hS => ?_)
  obtain ⟨v1, V1, n1, t1, hP1, hQ1⟩ := hv
  have hT1 := hT.keptA (fun q hq => hk1 q (mt_lt hT q hq) (hap.1 q hq))
  obtain ⟨⟨k19, rfl⟩, hP1⟩ := hP1
  refine lv_istore (lv' := [(5, .int k19), (0, .ref b9), (1, .ref x0), (2, .ref z0), (3, .ref o0), (4, .int (nI k))]) hx hb dL_law_420 hl (by decide) rfl (fun ls hl => ?_)
  refine lv_aload_n hx hb dL_law_422 rfl (lv_at hl 3 rfl) ?_
  refine lv_aload_n hx hb dL_law_423 rfl (lv_at hl 1 rfl) ?_
  refine lv_iload hx hb dL_law_424 (lv_at hl 5 rfl) ?_
  refine lv_iconst (v := nI 1) hx hb dL_law_426 (by decide) ?_
  refine lv_iadd hx hb dL_law_427 ?_
  refine tp_i (y := nI (k + 1)) (nI_add _ _) ?_
  refine l_sld hx hb hX hbl hbA hS hL9 (show (k + 1) < L by omega) dL_law_428 ?_
  refine lv_aload_n hx hb dL_law_429 rfl (lv_at hl 1 rfl) ?_
  refine lv_iload hx hb dL_law_430 (lv_at hl 5 rfl) ?_
  refine lv_iconst (v := nI 2) hx hb dL_law_432 (by decide) ?_
  refine lv_iadd hx hb dL_law_433 ?_
  refine tp_i (y := nI (k + 2)) (nI_add _ _) ?_
  refine l_sld hx hb hX hbl hbA hS hL9 (show (k + 2) < L by omega) dL_law_434 ?_
  refine lv_aload_n hx hb dL_law_435 rfl (lv_at hl 1 rfl) ?_
  refine lv_iload hx hb dL_law_436 (lv_at hl 5 rfl) ?_
  refine lv_iconst (v := nI 3) hx hb dL_law_438 (by decide) ?_
  refine lv_iadd hx hb dL_law_439 ?_
  refine tp_i (y := nI (k + 3)) (nI_add _ _) ?_
  refine l_sld hx hb hX hbl hbA hS hL9 (show (k + 3) < L by omega) dL_law_440 ?_
  refine jn_V (As := [.int (xs (k + 1)), .int (xs (k + 2)), .int (xs (k + 3))]) (rest := []) C0 hl hK hS hA hmZ (zat hZ hS hAb) (m_write l g s.heap.size H1 z0 mc lf dg fs rr V a b n t hT1 hmZ (xs (k + 1)) (xs (k + 2)) (xs (k + 3))) gL_law_X4_write rfl ⟨rfl, rfl⟩ (va_recv hK.1 (p1 hT1.1.1) (ci := 5) (q0 := 0) rfl rfl) ⟨rfl, (show hd_ok yX4_write 3 from ⟨by decide, by decide, by decide +kernel⟩)⟩ ⟨Nat.le_trans (Nat.le_of_ble_eq_true rfl) hRf.1, Nat.le_trans (Nat.le_of_ble_eq_true rfl) hRf.2⟩ rfl (Nat.le_of_ble_eq_true rfl) ⟨by omega, by omega⟩ dL_law_441 (fun r2 H2 locs hv hzz hk2 hS => ?_)
  obtain ⟨fs2, rr2, V2, a2, b2, n2, t2, hP2, hT2⟩ := hv
  have hap1 := ls_mt hK hZ hQ1 hT1
  have hQ2 := hQ1.kept (fun q hq => hk2 q (hQ1.lt q hq) (hap1.2 q hq))
  obtain ⟨⟨k29, rfl⟩, hP2⟩ := hP2
  have eV : V2 = V1 := hP2.1.trans hP1.1.symm
  have en : n2 = n1 := (oWr_uq hP1.2 hP2.2).1
  have et : t2 = t1 := (oWr_uq hP1.2 hP2.2).2
  rw [eV, en, et] at hT2
  refine lv_istore (lv' := [(6, .int k29), (5, .int k19), (0, .ref b9), (1, .ref x0), (2, .ref z0), (3, .ref o0), (4, .int (nI k))]) hx hb dL_law_444 hl (by decide) rfl (fun ls hl => ?_)
  refine lv_goto (tgt := 1538) hx hb dL_law_446 (by decide) ?_
  refine W.widen (k := cells + 2087) (n := slots + 9996) (by omega) (by omega) ?_
  exact K ls H2 locs _ _ _ _ _ _ _ _ hQ2 hT2 hS (lv_sub hl [2, 3, 4, 5, 6] rfl)
set_option maxHeartbeats 4000000 in
set_option maxRecDepth 100000 in
theorem lk_7 (C0 : Cx p s m args meth c RL cL_law 7 (some .boolean) wsL_law) (hK : KK g s) (hZ : ZW g s.heap.size s s.heap) (hE : EW s) (hnt : l.stackTraces = false) (hX : va_X b9 L xs s s.heap) (hbl : b9 < s.heap.size) (hL9 : L ≤ 2560) (hk5 : k + 5 ≤ L) (hRc : cells + 2087 ≤ R.cells ∧ slots + 9996 ≤ R.slots) (hRf : 20 ≤ R.frames ∧ 600 ≤ R.locals) (hmL : ∀ q : Nat, mL x0 lc tr tc sr sc o0 q → s.heap.size ≤ q) (hmZ : ∀ q : Nat, zM z0 mc lf dg q → s.heap.size ≤ q) (hQ : LQ g H x0 lc tr tc sr sc o0 V n t v0) (hT : MT g H z0 mc lf dg fs rr V a b n t) (hS : va_S (fun q => s.heap.size ≤ q) s.heap H locs) (hl : lv_has ls 7 [(0, .ref b9), (1, .ref x0), (2, .ref z0), (3, .ref o0), (4, .int (nI k))])
    (K : ∀ (ls : Array Slot) (H : Heap) (locs : List Loc) (V : Nat → Nat) (n : Nat) (t : Nat → Nat) (v0 : Int64) (fs : List Value) (rr : Nat → Nat) (a b : Nat), LQ g H x0 lc tr tc sr sc o0 V n t v0 → MT g H z0 mc lf dg fs rr V a b n t → va_S (fun q => s.heap.size ≤ q) s.heap H locs → lv_has ls 7 [(0, .ref b9), (1, .ref x0), (2, .ref z0), (3, .ref o0), (4, .int (nI k))] → W p l e R s m args below meth c H locs (cells + 2087) (slots + 9996) Q (F0 m 1538 ls [])) : W p l e R s m args below meth c H locs cells slots Q (F0 m 449 ls []) := by
  obtain ⟨hx, hb, hr, hml, hown, hts, hlk⟩ := id C0
  have hA : ∀ q : Nat, s.heap.size ≤ q → s.heap.size ≤ q := fun q h => h
  have hAb : ∀ q : Nat, s.heap.size ≤ q → s.heap.size ≤ q := fun q h => h
  have hbA : ¬ s.heap.size ≤ b9 := Nat.not_le.mpr hbl
  have hap := ls_mt hK hZ hQ hT
  obtain ⟨⟨i3, i4, i5, i6, hC⟩, ⟨w0, ho⟩, hno⟩ := id hQ
  have hmC : ∀ q : Nat, mC x0 lc tr tc sr sc q → s.heap.size ≤ q := fun q h => hmL q (Or.inl h)
  refine lv_aload_n hx hb dL_law_449 rfl (lv_at hl 1 rfl) ?_
  refine lv_aload_n hx hb dL_law_450 rfl (lv_at hl 0 rfl) ?_
  refine lv_iload hx hb dL_law_451 (lv_at hl 4 rfl) ?_
  refine lv_iconst (v := nI 1) hx hb dL_law_453 (by decide) ?_
  refine lv_iadd hx hb dL_law_454 ?_
  refine tp_i (y := nI (k + 1)) (nI_add _ _) ?_
  refine l_sld hx hb hX hbl hbA hS hL9 (show (k + 1) < L by omega) dL_law_455 ?_
  refine lv_aload_n hx hb dL_law_456 rfl (lv_at hl 0 rfl) ?_
  refine lv_iload hx hb dL_law_457 (lv_at hl 4 rfl) ?_
  refine lv_iconst (v := nI 2) hx hb dL_law_459 (by decide) ?_
  refine lv_iadd hx hb dL_law_460 ?_
  refine tp_i (y := nI (k + 2)) (nI_add _ _) ?_
  refine l_sld hx hb hX hbl hbA hS hL9 (show (k + 2) < L by omega) dL_law_461 ?_
  refine lv_aload_n hx hb dL_law_462 rfl (lv_at hl 0 rfl) ?_
  refine lv_iload hx hb dL_law_463 (lv_at hl 4 rfl) ?_
  refine lv_iconst (v := nI 3) hx hb dL_law_465 (by decide) ?_
  refine lv_iadd hx hb dL_law_466 ?_
  refine tp_i (y := nI (k + 3)) (nI_add _ _) ?_
  refine l_sld hx hb hX hbl hbA hS hL9 (show (k + 3) < L by omega) dL_law_467 ?_
  refine lw_ne0 hx hb dL_law_468 dL_law_471 dL_law_472 dL_law_475 ?_
  refine lv_aload_n hx hb dL_law_476 rfl (lv_at hl 3 rfl) ?_
  refine lx_S (As := [.ref x0, .int (xs (k + 1)), .int (xs (k + 2)), .int (bI (decide (xs (k + 3) ≠ 0))), .ref o0]) (rest := []) (hh := [(0, 13, 16, 19), (0, 13, 20, 29)]) C0 hl hK hS hA hmL (zat hZ hS hAb) hE (s_bits l hnt g s.heap.size H x0 lc tr tc sr sc o0 V n t v0 hQ hmL (xs (k + 1)) (xs (k + 2)) (decide (xs (k + 3) ≠ 0))) gL_law_L_bits rfl ⟨rfl, rfl⟩ (show hd_ok yL_bits 5 from ⟨by decide, by decide, by decide +kernel⟩) ⟨Nat.le_trans (Nat.le_of_ble_eq_true rfl) hRf.1, Nat.le_trans (Nat.le_of_ble_eq_true rfl) hRf.2⟩ rfl (Nat.le_of_ble_eq_true rfl) ⟨by omega, by omega⟩ dL_law_477 (fun r1 H1 locs hv hzz hk1 hS => ?_)
  obtain ⟨v1, V1, n1, t1, hP1, hQ1⟩ := hv
  have hT1 := hT.keptA (fun q hq => hk1 q (mt_lt hT q hq) (hap.1 q hq))
  obtain ⟨⟨k19, rfl⟩, hP1⟩ := hP1
  refine lv_istore (lv' := [(5, .int k19), (0, .ref b9), (1, .ref x0), (2, .ref z0), (3, .ref o0), (4, .int (nI k))]) hx hb dL_law_480 hl (by decide) rfl (fun ls hl => ?_)
  refine lv_aload_n hx hb dL_law_482 rfl (lv_at hl 3 rfl) ?_
  refine lv_aload_n hx hb dL_law_483 rfl (lv_at hl 1 rfl) ?_
  refine lv_iload hx hb dL_law_484 (lv_at hl 5 rfl) ?_
  refine lv_iconst (v := nI 1) hx hb dL_law_486 (by decide) ?_
  refine lv_iadd hx hb dL_law_487 ?_
  refine tp_i (y := nI (k + 1)) (nI_add _ _) ?_
  refine l_sld hx hb hX hbl hbA hS hL9 (show (k + 1) < L by omega) dL_law_488 ?_
  refine lv_aload_n hx hb dL_law_489 rfl (lv_at hl 1 rfl) ?_
  refine lv_iload hx hb dL_law_490 (lv_at hl 5 rfl) ?_
  refine lv_iconst (v := nI 2) hx hb dL_law_492 (by decide) ?_
  refine lv_iadd hx hb dL_law_493 ?_
  refine tp_i (y := nI (k + 2)) (nI_add _ _) ?_
  refine l_sld hx hb hX hbl hbA hS hL9 (show (k + 2) < L by omega) dL_law_494 ?_
  refine lv_aload_n hx hb dL_law_495 rfl (lv_at hl 1 rfl) ?_
  refine lv_iload hx hb dL_law_496 (lv_at hl 5 rfl) ?_
  refine lv_iconst (v := nI 3) hx hb dL_law_498 (by decide) ?_
  refine lv_iadd hx hb dL_law_499 ?_
  refine tp_i (y := nI (k + 3)) (nI_add _ _) ?_
  refine l_sld hx hb hX hbl hbA hS hL9 (show (k + 3) < L by omega) dL_law_500 ?_
  refine lw_ne0 hx hb dL_law_501 dL_law_504 dL_law_505 dL_law_508 ?_
  refine jn_V (As := [.int (xs (k + 1)), .int (xs (k + 2)), .int (bI (decide (xs (k + 3) ≠ 0)))]) (rest := []) C0 hl hK hS hA hmZ (zat hZ hS hAb) (m_bits l g s.heap.size H1 z0 mc lf dg fs rr V a b n t hT1 hmZ (xs (k + 1)) (xs (k + 2)) (decide (xs (k + 3) ≠ 0))) gL_law_X4_bits_ rfl ⟨rfl, rfl⟩ (va_recv hK.1 (p1 hT1.1.1) (ci := 5) (q0 := 0) rfl rfl) ⟨rfl, (show hd_ok yX4_bits_ 3 from ⟨by decide, by decide, by decide +kernel⟩)⟩ ⟨Nat.le_trans (Nat.le_of_ble_eq_true rfl) hRf.1, Nat.le_trans (Nat.le_of_ble_eq_true rfl) hRf.2⟩ rfl (Nat.le_of_ble_eq_true rfl) ⟨by omega, by omega⟩ dL_law_509 (fun r2 H2 locs hv hzz hk2 hS => ?_)
  obtain ⟨fs2, rr2, V2, a2, b2, n2, t2, hP2, hT2⟩ := hv
  have hap1 := ls_mt hK hZ hQ1 hT1
  have hQ2 := hQ1.kept (fun q hq => hk2 q (hQ1.lt q hq) (hap1.2 q hq))
  obtain ⟨⟨k29, rfl⟩, hP2⟩ := hP2
  have eV : V2 = V1 := hP2.1.trans hP1.1.symm
  have en : n2 = n1 := (oBi_uq hP1.2 hP2.2).1
  have et : t2 = t1 := (oBi_uq hP1.2 hP2.2).2
  rw [eV, en, et] at hT2
  refine lv_istore (lv' := [(6, .int k29), (5, .int k19), (0, .ref b9), (1, .ref x0), (2, .ref z0), (3, .ref o0), (4, .int (nI k))]) hx hb dL_law_512 hl (by decide) rfl (fun ls hl => ?_)
  refine lv_goto (tgt := 1538) hx hb dL_law_514 (by decide) ?_
  refine W.widen (k := cells + 2087) (n := slots + 9996) (by omega) (by omega) ?_
  exact K ls H2 locs _ _ _ _ _ _ _ _ hQ2 hT2 hS (lv_sub hl [2, 3, 4, 5, 6] rfl)
set_option maxHeartbeats 4000000 in
set_option maxRecDepth 100000 in
theorem lk_8 (C0 : Cx p s m args meth c RL cL_law 7 (some .boolean) wsL_law) (hK : KK g s) (hZ : ZW g s.heap.size s s.heap) (hE : EW s) (hnt : l.stackTraces = false) (hX : va_X b9 L xs s s.heap) (hbl : b9 < s.heap.size) (hL9 : L ≤ 2560) (hk5 : k + 5 ≤ L) (hRc : cells + 2087 ≤ R.cells ∧ slots + 9996 ≤ R.slots) (hRf : 20 ≤ R.frames ∧ 600 ≤ R.locals) (hmL : ∀ q : Nat, mL x0 lc tr tc sr sc o0 q → s.heap.size ≤ q) (hmZ : ∀ q : Nat, zM z0 mc lf dg q → s.heap.size ≤ q) (hQ : LQ g H x0 lc tr tc sr sc o0 V n t v0) (hT : MT g H z0 mc lf dg fs rr V a b n t) (hS : va_S (fun q => s.heap.size ≤ q) s.heap H locs) (hl : lv_has ls 7 [(0, .ref b9), (1, .ref x0), (2, .ref z0), (3, .ref o0), (4, .int (nI k))])
    (K : ∀ (ls : Array Slot) (H : Heap) (locs : List Loc) (V : Nat → Nat) (n : Nat) (t : Nat → Nat) (v0 : Int64) (fs : List Value) (rr : Nat → Nat) (a b : Nat), LQ g H x0 lc tr tc sr sc o0 V n t v0 → MT g H z0 mc lf dg fs rr V a b n t → va_S (fun q => s.heap.size ≤ q) s.heap H locs → lv_has ls 7 [(0, .ref b9), (1, .ref x0), (2, .ref z0), (3, .ref o0), (4, .int (nI k))] → W p l e R s m args below meth c H locs (cells + 2087) (slots + 9996) Q (F0 m 1538 ls [])) : W p l e R s m args below meth c H locs cells slots Q (F0 m 517 ls []) := by
  obtain ⟨hx, hb, hr, hml, hown, hts, hlk⟩ := id C0
  have hA : ∀ q : Nat, s.heap.size ≤ q → s.heap.size ≤ q := fun q h => h
  have hAb : ∀ q : Nat, s.heap.size ≤ q → s.heap.size ≤ q := fun q h => h
  have hbA : ¬ s.heap.size ≤ b9 := Nat.not_le.mpr hbl
  have hap := ls_mt hK hZ hQ hT
  obtain ⟨⟨i3, i4, i5, i6, hC⟩, ⟨w0, ho⟩, hno⟩ := id hQ
  have hmC : ∀ q : Nat, mC x0 lc tr tc sr sc q → s.heap.size ≤ q := fun q h => hmL q (Or.inl h)
  refine lv_aload_n hx hb dL_law_517 rfl (lv_at hl 1 rfl) ?_
  refine lv_aload_n hx hb dL_law_518 rfl (lv_at hl 0 rfl) ?_
  refine lv_iload hx hb dL_law_519 (lv_at hl 4 rfl) ?_
  refine lv_iconst (v := nI 1) hx hb dL_law_521 (by decide) ?_
  refine lv_iadd hx hb dL_law_522 ?_
  refine tp_i (y := nI (k + 1)) (nI_add _ _) ?_
  refine l_sld hx hb hX hbl hbA hS hL9 (show (k + 1) < L by omega) dL_law_523 ?_
  refine lv_aload_n hx hb dL_law_524 rfl (lv_at hl 0 rfl) ?_
  refine lv_iload hx hb dL_law_525 (lv_at hl 4 rfl) ?_
  refine lv_iconst (v := nI 2) hx hb dL_law_527 (by decide) ?_
  refine lv_iadd hx hb dL_law_528 ?_
  refine tp_i (y := nI (k + 2)) (nI_add _ _) ?_
  refine l_sld hx hb hX hbl hbA hS hL9 (show (k + 2) < L by omega) dL_law_529 ?_
  refine lv_aload_n hx hb dL_law_530 rfl (lv_at hl 0 rfl) ?_
  refine lv_iload hx hb dL_law_531 (lv_at hl 4 rfl) ?_
  refine lv_iconst (v := nI 3) hx hb dL_law_533 (by decide) ?_
  refine lv_iadd hx hb dL_law_534 ?_
  refine tp_i (y := nI (k + 3)) (nI_add _ _) ?_
  refine l_sld hx hb hX hbl hbA hS hL9 (show (k + 3) < L by omega) dL_law_535 ?_
  refine lw_ne0 hx hb dL_law_536 dL_law_539 dL_law_540 dL_law_543 ?_
  refine lv_aload_n hx hb dL_law_544 rfl (lv_at hl 3 rfl) ?_
  refine lx_S (As := [.ref x0, .int (xs (k + 1)), .int (xs (k + 2)), .int (bI (decide (xs (k + 3) ≠ 0))), .ref o0]) (rest := []) (hh := [(0, 20, 23, 19), (0, 20, 27, 31)]) C0 hl hK hS hA hmL (zat hZ hS hAb) hE (s_divide l hnt g s.heap.size H x0 lc tr tc sr sc o0 V n t v0 hQ hmL (xs (k + 1)) (xs (k + 2)) (decide (xs (k + 3) ≠ 0))) gL_law_L_divide rfl ⟨rfl, rfl⟩ (show hd_ok yL_divide 5 from ⟨by decide, by decide, by decide +kernel⟩) ⟨Nat.le_trans (Nat.le_of_ble_eq_true rfl) hRf.1, Nat.le_trans (Nat.le_of_ble_eq_true rfl) hRf.2⟩ rfl (Nat.le_of_ble_eq_true rfl) ⟨by omega, by omega⟩ dL_law_545 (fun r1 H1 locs hv hzz hk1 hS => ?_)
  obtain ⟨v1, V1, n1, t1, hP1, hQ1⟩ := hv
  have hT1 := hT.keptA (fun q hq => hk1 q (mt_lt hT q hq) (hap.1 q hq))
  obtain ⟨⟨k19, rfl⟩, hP1⟩ := hP1
  refine lv_istore (lv' := [(5, .int k19), (0, .ref b9), (1, .ref x0), (2, .ref z0), (3, .ref o0), (4, .int (nI k))]) hx hb dL_law_548 hl (by decide) rfl (fun ls hl => ?_)
  refine lv_aload_n hx hb dL_law_550 rfl (lv_at hl 3 rfl) ?_
  refine lv_aload_n hx hb dL_law_551 rfl (lv_at hl 1 rfl) ?_
  refine lv_iload hx hb dL_law_552 (lv_at hl 5 rfl) ?_
  refine lv_iconst (v := nI 1) hx hb dL_law_554 (by decide) ?_
  refine lv_iadd hx hb dL_law_555 ?_
  refine tp_i (y := nI (k + 1)) (nI_add _ _) ?_
  refine l_sld hx hb hX hbl hbA hS hL9 (show (k + 1) < L by omega) dL_law_556 ?_
  refine lv_aload_n hx hb dL_law_557 rfl (lv_at hl 1 rfl) ?_
  refine lv_iload hx hb dL_law_558 (lv_at hl 5 rfl) ?_
  refine lv_iconst (v := nI 2) hx hb dL_law_560 (by decide) ?_
  refine lv_iadd hx hb dL_law_561 ?_
  refine tp_i (y := nI (k + 2)) (nI_add _ _) ?_
  refine l_sld hx hb hX hbl hbA hS hL9 (show (k + 2) < L by omega) dL_law_562 ?_
  refine lv_aload_n hx hb dL_law_563 rfl (lv_at hl 1 rfl) ?_
  refine lv_iload hx hb dL_law_564 (lv_at hl 5 rfl) ?_
  refine lv_iconst (v := nI 3) hx hb dL_law_566 (by decide) ?_
  refine lv_iadd hx hb dL_law_567 ?_
  refine tp_i (y := nI (k + 3)) (nI_add _ _) ?_
  refine l_sld hx hb hX hbl hbA hS hL9 (show (k + 3) < L by omega) dL_law_568 ?_
  refine lw_ne0 hx hb dL_law_569 dL_law_572 dL_law_573 dL_law_576 ?_
  refine cn_V (As := [.int (xs (k + 1)), .int (xs (k + 2)), .int (bI (decide (xs (k + 3) ≠ 0)))]) (rest := []) C0 hl hK hS hA hmZ (m_divide l g H1 z0 mc lf dg fs rr V a b n t hT1 (xs (k + 1)) (xs (k + 2)) (decide (xs (k + 3) ≠ 0))) gL_law_X4_divide rfl ⟨rfl, rfl⟩ (va_recv hK.1 (p1 hT1.1.1) (ci := 5) (q0 := 0) rfl rfl) ⟨rfl, (show hd_ok yX4_divide 3 from ⟨by decide, by decide, by decide +kernel⟩)⟩ ⟨Nat.le_trans (Nat.le_of_ble_eq_true rfl) hRf.1, Nat.le_trans (Nat.le_of_ble_eq_true rfl) hRf.2⟩ rfl (Nat.le_of_ble_eq_true rfl) ⟨by omega, by omega⟩ dL_law_577 (fun r2 H2 locs hv hzz hk2 hS => ?_)
  obtain ⟨fs2, rr2, V2, a2, b2, n2, t2, hP2, hT2⟩ := hv
  have hap1 := ls_mt hK hZ hQ1 hT1
  have hQ2 := hQ1.kept (fun q hq => hk2 q (hQ1.lt q hq) (hap1.2 q hq))
  obtain ⟨⟨k29, rfl⟩, hP2⟩ := hP2
  have eV : V2 = V1 := oC2_uq hP1.2.2 hP2.2.2
  have en : n2 = n1 := hP2.1.trans hP1.1.symm
  have et : t2 = t1 := hP2.2.1.trans hP1.2.1.symm
  rw [eV, en, et] at hT2
  refine lv_istore (lv' := [(6, .int k29), (5, .int k19), (0, .ref b9), (1, .ref x0), (2, .ref z0), (3, .ref o0), (4, .int (nI k))]) hx hb dL_law_580 hl (by decide) rfl (fun ls hl => ?_)
  refine lv_goto (tgt := 1538) hx hb dL_law_582 (by decide) ?_
  refine W.widen (k := cells + 2087) (n := slots + 9996) (by omega) (by omega) ?_
  exact K ls H2 locs _ _ _ _ _ _ _ _ hQ2 hT2 hS (lv_sub hl [2, 3, 4, 5, 6] rfl)
set_option maxHeartbeats 4000000 in
set_option maxRecDepth 100000 in
theorem lk_9 (C0 : Cx p s m args meth c RL cL_law 7 (some .boolean) wsL_law) (hK : KK g s) (hZ : ZW g s.heap.size s s.heap) (hE : EW s) (hnt : l.stackTraces = false) (hX : va_X b9 L xs s s.heap) (hbl : b9 < s.heap.size) (hL9 : L ≤ 2560) (hk5 : k + 5 ≤ L) (hRc : cells + 2087 ≤ R.cells ∧ slots + 9996 ≤ R.slots) (hRf : 20 ≤ R.frames ∧ 600 ≤ R.locals) (hmL : ∀ q : Nat, mL x0 lc tr tc sr sc o0 q → s.heap.size ≤ q) (hmZ : ∀ q : Nat, zM z0 mc lf dg q → s.heap.size ≤ q) (hQ : LQ g H x0 lc tr tc sr sc o0 V n t v0) (hT : MT g H z0 mc lf dg fs rr V a b n t) (hS : va_S (fun q => s.heap.size ≤ q) s.heap H locs) (hl : lv_has ls 7 [(0, .ref b9), (1, .ref x0), (2, .ref z0), (3, .ref o0), (4, .int (nI k))])
    (K : ∀ (ls : Array Slot) (H : Heap) (locs : List Loc) (V : Nat → Nat) (n : Nat) (t : Nat → Nat) (v0 : Int64) (fs : List Value) (rr : Nat → Nat) (a b : Nat), LQ g H x0 lc tr tc sr sc o0 V n t v0 → MT g H z0 mc lf dg fs rr V a b n t → va_S (fun q => s.heap.size ≤ q) s.heap H locs → lv_has ls 7 [(0, .ref b9), (1, .ref x0), (2, .ref z0), (3, .ref o0), (4, .int (nI k))] → W p l e R s m args below meth c H locs (cells + 2087) (slots + 9996) Q (F0 m 1538 ls [])) : W p l e R s m args below meth c H locs cells slots Q (F0 m 585 ls []) := by
  obtain ⟨hx, hb, hr, hml, hown, hts, hlk⟩ := id C0
  have hA : ∀ q : Nat, s.heap.size ≤ q → s.heap.size ≤ q := fun q h => h
  have hAb : ∀ q : Nat, s.heap.size ≤ q → s.heap.size ≤ q := fun q h => h
  have hbA : ¬ s.heap.size ≤ b9 := Nat.not_le.mpr hbl
  have hap := ls_mt hK hZ hQ hT
  obtain ⟨⟨i3, i4, i5, i6, hC⟩, ⟨w0, ho⟩, hno⟩ := id hQ
  have hmC : ∀ q : Nat, mC x0 lc tr tc sr sc q → s.heap.size ≤ q := fun q h => hmL q (Or.inl h)
  refine lv_aload_n hx hb dL_law_585 rfl (lv_at hl 1 rfl) ?_
  refine lv_aload_n hx hb dL_law_586 rfl (lv_at hl 0 rfl) ?_
  refine lv_iload hx hb dL_law_587 (lv_at hl 4 rfl) ?_
  refine lv_iconst (v := nI 1) hx hb dL_law_589 (by decide) ?_
  refine lv_iadd hx hb dL_law_590 ?_
  refine tp_i (y := nI (k + 1)) (nI_add _ _) ?_
  refine l_sld hx hb hX hbl hbA hS hL9 (show (k + 1) < L by omega) dL_law_591 ?_
  refine lv_aload_n hx hb dL_law_592 rfl (lv_at hl 0 rfl) ?_
  refine lv_iload hx hb dL_law_593 (lv_at hl 4 rfl) ?_
  refine lv_iconst (v := nI 2) hx hb dL_law_595 (by decide) ?_
  refine lv_iadd hx hb dL_law_596 ?_
  refine tp_i (y := nI (k + 2)) (nI_add _ _) ?_
  refine l_sld hx hb hX hbl hbA hS hL9 (show (k + 2) < L by omega) dL_law_597 ?_
  refine lv_aload_n hx hb dL_law_598 rfl (lv_at hl 0 rfl) ?_
  refine lv_iload hx hb dL_law_599 (lv_at hl 4 rfl) ?_
  refine lv_iconst (v := nI 3) hx hb dL_law_601 (by decide) ?_
  refine lv_iadd hx hb dL_law_602 ?_
  refine tp_i (y := nI (k + 3)) (nI_add _ _) ?_
  refine l_sld hx hb hX hbl hbA hS hL9 (show (k + 3) < L by omega) dL_law_603 ?_
  refine lw_ne0 hx hb dL_law_604 dL_law_607 dL_law_608 dL_law_611 ?_
  refine lv_aload_n hx hb dL_law_612 rfl (lv_at hl 3 rfl) ?_
  refine lx_S (As := [.ref x0, .int (xs (k + 1)), .int (xs (k + 2)), .int (bI (decide (xs (k + 3) ≠ 0))), .ref o0]) (rest := []) (hh := [(0, 20, 23, 19), (0, 20, 27, 31)]) C0 hl hK hS hA hmL (zat hZ hS hAb) hE (s_rest l hnt g s.heap.size H x0 lc tr tc sr sc o0 V n t v0 hQ hmL (xs (k + 1)) (xs (k + 2)) (decide (xs (k + 3) ≠ 0))) gL_law_L_rest rfl ⟨rfl, rfl⟩ (show hd_ok yL_rest 5 from ⟨by decide, by decide, by decide +kernel⟩) ⟨Nat.le_trans (Nat.le_of_ble_eq_true rfl) hRf.1, Nat.le_trans (Nat.le_of_ble_eq_true rfl) hRf.2⟩ rfl (Nat.le_of_ble_eq_true rfl) ⟨by omega, by omega⟩ dL_law_613 (fun r1 H1 locs hv hzz hk1 hS => ?_)
  obtain ⟨v1, V1, n1, t1, hP1, hQ1⟩ := hv
  have hT1 := hT.keptA (fun q hq => hk1 q (mt_lt hT q hq) (hap.1 q hq))
  obtain ⟨⟨k19, rfl⟩, hP1⟩ := hP1
  refine lv_istore (lv' := [(5, .int k19), (0, .ref b9), (1, .ref x0), (2, .ref z0), (3, .ref o0), (4, .int (nI k))]) hx hb dL_law_616 hl (by decide) rfl (fun ls hl => ?_)
  refine lv_aload_n hx hb dL_law_618 rfl (lv_at hl 3 rfl) ?_
  refine lv_aload_n hx hb dL_law_619 rfl (lv_at hl 1 rfl) ?_
  refine lv_iload hx hb dL_law_620 (lv_at hl 5 rfl) ?_
  refine lv_iconst (v := nI 1) hx hb dL_law_622 (by decide) ?_
  refine lv_iadd hx hb dL_law_623 ?_
  refine tp_i (y := nI (k + 1)) (nI_add _ _) ?_
  refine l_sld hx hb hX hbl hbA hS hL9 (show (k + 1) < L by omega) dL_law_624 ?_
  refine lv_aload_n hx hb dL_law_625 rfl (lv_at hl 1 rfl) ?_
  refine lv_iload hx hb dL_law_626 (lv_at hl 5 rfl) ?_
  refine lv_iconst (v := nI 2) hx hb dL_law_628 (by decide) ?_
  refine lv_iadd hx hb dL_law_629 ?_
  refine tp_i (y := nI (k + 2)) (nI_add _ _) ?_
  refine l_sld hx hb hX hbl hbA hS hL9 (show (k + 2) < L by omega) dL_law_630 ?_
  refine lv_aload_n hx hb dL_law_631 rfl (lv_at hl 1 rfl) ?_
  refine lv_iload hx hb dL_law_632 (lv_at hl 5 rfl) ?_
  refine lv_iconst (v := nI 3) hx hb dL_law_634 (by decide) ?_
  refine lv_iadd hx hb dL_law_635 ?_
  refine tp_i (y := nI (k + 3)) (nI_add _ _) ?_
  refine l_sld hx hb hX hbl hbA hS hL9 (show (k + 3) < L by omega) dL_law_636 ?_
  refine lw_ne0 hx hb dL_law_637 dL_law_640 dL_law_641 dL_law_644 ?_
  refine cn_V (As := [.int (xs (k + 1)), .int (xs (k + 2)), .int (bI (decide (xs (k + 3) ≠ 0)))]) (rest := []) C0 hl hK hS hA hmZ (m_rest l g H1 z0 mc lf dg fs rr V a b n t hT1 (xs (k + 1)) (xs (k + 2)) (decide (xs (k + 3) ≠ 0))) gL_law_X4_rest rfl ⟨rfl, rfl⟩ (va_recv hK.1 (p1 hT1.1.1) (ci := 5) (q0 := 0) rfl rfl) ⟨rfl, (show hd_ok yX4_rest 3 from ⟨by decide, by decide, by decide +kernel⟩)⟩ ⟨Nat.le_trans (Nat.le_of_ble_eq_true rfl) hRf.1, Nat.le_trans (Nat.le_of_ble_eq_true rfl) hRf.2⟩ rfl (Nat.le_of_ble_eq_true rfl) ⟨by omega, by omega⟩ dL_law_645 (fun r2 H2 locs hv hzz hk2 hS => ?_)
  obtain ⟨fs2, rr2, V2, a2, b2, n2, t2, hP2, hT2⟩ := hv
  have hap1 := ls_mt hK hZ hQ1 hT1
  have hQ2 := hQ1.kept (fun q hq => hk2 q (hQ1.lt q hq) (hap1.2 q hq))
  obtain ⟨⟨k29, rfl⟩, hP2⟩ := hP2
  have eV : V2 = V1 := oC2_uq hP1.2.2 hP2.2.2
  have en : n2 = n1 := hP2.1.trans hP1.1.symm
  have et : t2 = t1 := hP2.2.1.trans hP1.2.1.symm
  rw [eV, en, et] at hT2
  refine lv_istore (lv' := [(6, .int k29), (5, .int k19), (0, .ref b9), (1, .ref x0), (2, .ref z0), (3, .ref o0), (4, .int (nI k))]) hx hb dL_law_648 hl (by decide) rfl (fun ls hl => ?_)
  refine lv_goto (tgt := 1538) hx hb dL_law_650 (by decide) ?_
  refine W.widen (k := cells + 2087) (n := slots + 9996) (by omega) (by omega) ?_
  exact K ls H2 locs _ _ _ _ _ _ _ _ hQ2 hT2 hS (lv_sub hl [2, 3, 4, 5, 6] rfl)
set_option maxHeartbeats 4000000 in
set_option maxRecDepth 100000 in
theorem lk_10 (C0 : Cx p s m args meth c RL cL_law 7 (some .boolean) wsL_law) (hK : KK g s) (hZ : ZW g s.heap.size s s.heap) (hE : EW s) (hnt : l.stackTraces = false) (hX : va_X b9 L xs s s.heap) (hbl : b9 < s.heap.size) (hL9 : L ≤ 2560) (hk5 : k + 5 ≤ L) (hRc : cells + 2087 ≤ R.cells ∧ slots + 9996 ≤ R.slots) (hRf : 20 ≤ R.frames ∧ 600 ≤ R.locals) (hmL : ∀ q : Nat, mL x0 lc tr tc sr sc o0 q → s.heap.size ≤ q) (hmZ : ∀ q : Nat, zM z0 mc lf dg q → s.heap.size ≤ q) (hQ : LQ g H x0 lc tr tc sr sc o0 V n t v0) (hT : MT g H z0 mc lf dg fs rr V a b n t) (hS : va_S (fun q => s.heap.size ≤ q) s.heap H locs) (hl : lv_has ls 7 [(0, .ref b9), (1, .ref x0), (2, .ref z0), (3, .ref o0), (4, .int (nI k))])
    (K : ∀ (ls : Array Slot) (H : Heap) (locs : List Loc) (V : Nat → Nat) (n : Nat) (t : Nat → Nat) (v0 : Int64) (fs : List Value) (rr : Nat → Nat) (a b : Nat), LQ g H x0 lc tr tc sr sc o0 V n t v0 → MT g H z0 mc lf dg fs rr V a b n t → va_S (fun q => s.heap.size ≤ q) s.heap H locs → lv_has ls 7 [(0, .ref b9), (1, .ref x0), (2, .ref z0), (3, .ref o0), (4, .int (nI k))] → W p l e R s m args below meth c H locs (cells + 2087) (slots + 9996) Q (F0 m 1538 ls [])) : W p l e R s m args below meth c H locs cells slots Q (F0 m 653 ls []) := by
  obtain ⟨hx, hb, hr, hml, hown, hts, hlk⟩ := id C0
  have hA : ∀ q : Nat, s.heap.size ≤ q → s.heap.size ≤ q := fun q h => h
  have hAb : ∀ q : Nat, s.heap.size ≤ q → s.heap.size ≤ q := fun q h => h
  have hbA : ¬ s.heap.size ≤ b9 := Nat.not_le.mpr hbl
  have hap := ls_mt hK hZ hQ hT
  obtain ⟨⟨i3, i4, i5, i6, hC⟩, ⟨w0, ho⟩, hno⟩ := id hQ
  have hmC : ∀ q : Nat, mC x0 lc tr tc sr sc q → s.heap.size ≤ q := fun q h => hmL q (Or.inl h)
  refine lv_aload_n hx hb dL_law_653 rfl (lv_at hl 1 rfl) ?_
  refine lv_aload_n hx hb dL_law_654 rfl (lv_at hl 0 rfl) ?_
  refine lv_iload hx hb dL_law_655 (lv_at hl 4 rfl) ?_
  refine lv_iconst (v := nI 1) hx hb dL_law_657 (by decide) ?_
  refine lv_iadd hx hb dL_law_658 ?_
  refine tp_i (y := nI (k + 1)) (nI_add _ _) ?_
  refine l_sld hx hb hX hbl hbA hS hL9 (show (k + 1) < L by omega) dL_law_659 ?_
  refine lv_aload_n hx hb dL_law_660 rfl (lv_at hl 0 rfl) ?_
  refine lv_iload hx hb dL_law_661 (lv_at hl 4 rfl) ?_
  refine lv_iconst (v := nI 2) hx hb dL_law_663 (by decide) ?_
  refine lv_iadd hx hb dL_law_664 ?_
  refine tp_i (y := nI (k + 2)) (nI_add _ _) ?_
  refine l_sld hx hb hX hbl hbA hS hL9 (show (k + 2) < L by omega) dL_law_665 ?_
  refine lv_aload_n hx hb dL_law_666 rfl (lv_at hl 0 rfl) ?_
  refine lv_iload hx hb dL_law_667 (lv_at hl 4 rfl) ?_
  refine lv_iconst (v := nI 3) hx hb dL_law_669 (by decide) ?_
  refine lv_iadd hx hb dL_law_670 ?_
  refine tp_i (y := nI (k + 3)) (nI_add _ _) ?_
  refine l_sld hx hb hX hbl hbA hS hL9 (show (k + 3) < L by omega) dL_law_671 ?_
  refine lw_ne0 hx hb dL_law_672 dL_law_675 dL_law_676 dL_law_679 ?_
  refine lv_aload_n hx hb dL_law_680 rfl (lv_at hl 3 rfl) ?_
  refine lx_S (As := [.ref x0, .int (xs (k + 1)), .int (xs (k + 2)), .int (bI (decide (xs (k + 3) ≠ 0))), .ref o0]) (rest := []) (hh := [(0, 20, 23, 19)]) C0 hl hK hS hA hmL (zat hZ hS hAb) hE (s_turn l hnt g s.heap.size H x0 lc tr tc sr sc o0 V n t v0 hQ hmL (xs (k + 1)) (xs (k + 2)) (decide (xs (k + 3) ≠ 0))) gL_law_L_turn rfl ⟨rfl, rfl⟩ (show hd_ok yL_turn 5 from ⟨by decide, by decide, by decide +kernel⟩) ⟨Nat.le_trans (Nat.le_of_ble_eq_true rfl) hRf.1, Nat.le_trans (Nat.le_of_ble_eq_true rfl) hRf.2⟩ rfl (Nat.le_of_ble_eq_true rfl) ⟨by omega, by omega⟩ dL_law_681 (fun r1 H1 locs hv hzz hk1 hS => ?_)
  obtain ⟨v1, V1, n1, t1, hP1, hQ1⟩ := hv
  have hT1 := hT.keptA (fun q hq => hk1 q (mt_lt hT q hq) (hap.1 q hq))
  obtain ⟨k19, rfl⟩ : ∃ k : Int32, r1 = some (.int k) := by
    rcases hP1.2.2.2 with ⟨_, _, _, h, _⟩ | ⟨_, h⟩
    · exact ⟨_, h⟩
    · exact ⟨_, h⟩
  refine lv_istore (lv' := [(5, .int k19), (0, .ref b9), (1, .ref x0), (2, .ref z0), (3, .ref o0), (4, .int (nI k))]) hx hb dL_law_684 hl (by decide) rfl (fun ls hl => ?_)
  refine lv_aload_n hx hb dL_law_686 rfl (lv_at hl 3 rfl) ?_
  refine lv_aload_n hx hb dL_law_687 rfl (lv_at hl 1 rfl) ?_
  refine lv_iload hx hb dL_law_688 (lv_at hl 5 rfl) ?_
  refine lv_iconst (v := nI 1) hx hb dL_law_690 (by decide) ?_
  refine lv_iadd hx hb dL_law_691 ?_
  refine tp_i (y := nI (k + 1)) (nI_add _ _) ?_
  refine l_sld hx hb hX hbl hbA hS hL9 (show (k + 1) < L by omega) dL_law_692 ?_
  refine lv_aload_n hx hb dL_law_693 rfl (lv_at hl 1 rfl) ?_
  refine lv_iload hx hb dL_law_694 (lv_at hl 5 rfl) ?_
  refine lv_iconst (v := nI 2) hx hb dL_law_696 (by decide) ?_
  refine lv_iadd hx hb dL_law_697 ?_
  refine tp_i (y := nI (k + 2)) (nI_add _ _) ?_
  refine l_sld hx hb hX hbl hbA hS hL9 (show (k + 2) < L by omega) dL_law_698 ?_
  refine lv_aload_n hx hb dL_law_699 rfl (lv_at hl 1 rfl) ?_
  refine lv_iload hx hb dL_law_700 (lv_at hl 5 rfl) ?_
  refine lv_iconst (v := nI 3) hx hb dL_law_702 (by decide) ?_
  refine lv_iadd hx hb dL_law_703 ?_
  refine tp_i (y := nI (k + 3)) (nI_add _ _) ?_
  refine l_sld hx hb hX hbl hbA hS hL9 (show (k + 3) < L by omega) dL_law_704 ?_
  refine lw_ne0 hx hb dL_law_705 dL_law_708 dL_law_709 dL_law_712 ?_
  refine cn_V (As := [.int (xs (k + 1)), .int (xs (k + 2)), .int (bI (decide (xs (k + 3) ≠ 0)))]) (rest := []) C0 hl hK hS hA hmZ (m_turn l g H1 z0 mc lf dg fs rr V a b n t hT1 (xs (k + 1)) (xs (k + 2)) (decide (xs (k + 3) ≠ 0))) gL_law_X4_turn rfl ⟨rfl, rfl⟩ (va_recv hK.1 (p1 hT1.1.1) (ci := 5) (q0 := 0) rfl rfl) ⟨rfl, (show hd_ok yX4_turn 3 from ⟨by decide, by decide, by decide +kernel⟩)⟩ ⟨Nat.le_trans (Nat.le_of_ble_eq_true rfl) hRf.1, Nat.le_trans (Nat.le_of_ble_eq_true rfl) hRf.2⟩ rfl (Nat.le_of_ble_eq_true rfl) ⟨by omega, by omega⟩ dL_law_713 (fun r2 H2 locs hv hzz hk2 hS => ?_)
  obtain ⟨fs2, rr2, V2, a2, b2, n2, t2, hP2, hT2⟩ := hv
  have hap1 := ls_mt hK hZ hQ1 hT1
  have hQ2 := hQ1.kept (fun q hq => hk2 q (hQ1.lt q hq) (hap1.2 q hq))
  obtain ⟨k29, rfl⟩ : ∃ k : Int32, r2 = some (.int k) := by
    rcases hP2.2.2.2 with ⟨_, _, _, h, _⟩ | ⟨_, h, _⟩
    · exact ⟨_, h⟩
    · exact ⟨_, h⟩
  have eV : V2 = V1 := oC1_uq hP1.2.2.1 hP2.2.2.1
  have en : n2 = n1 := hP2.1.trans hP1.1.symm
  have et : t2 = t1 := hP2.2.1.trans hP1.2.1.symm
  rw [eV, en, et] at hT2
  refine lv_istore (lv' := [(6, .int k29), (5, .int k19), (0, .ref b9), (1, .ref x0), (2, .ref z0), (3, .ref o0), (4, .int (nI k))]) hx hb dL_law_716 hl (by decide) rfl (fun ls hl => ?_)
  refine lv_goto (tgt := 1538) hx hb dL_law_718 (by decide) ?_
  refine W.widen (k := cells + 2087) (n := slots + 9996) (by omega) (by omega) ?_
  exact K ls H2 locs _ _ _ _ _ _ _ _ hQ2 hT2 hS (lv_sub hl [2, 3, 4, 5, 6] rfl)
set_option maxHeartbeats 4000000 in
set_option maxRecDepth 100000 in
theorem lk_11 (C0 : Cx p s m args meth c RL cL_law 7 (some .boolean) wsL_law) (hK : KK g s) (hZ : ZW g s.heap.size s s.heap) (hE : EW s) (hnt : l.stackTraces = false) (hX : va_X b9 L xs s s.heap) (hbl : b9 < s.heap.size) (hL9 : L ≤ 2560) (hk5 : k + 5 ≤ L) (hRc : cells + 2087 ≤ R.cells ∧ slots + 9996 ≤ R.slots) (hRf : 20 ≤ R.frames ∧ 600 ≤ R.locals) (hmL : ∀ q : Nat, mL x0 lc tr tc sr sc o0 q → s.heap.size ≤ q) (hmZ : ∀ q : Nat, zM z0 mc lf dg q → s.heap.size ≤ q) (hQ : LQ g H x0 lc tr tc sr sc o0 V n t v0) (hT : MT g H z0 mc lf dg fs rr V a b n t) (hS : va_S (fun q => s.heap.size ≤ q) s.heap H locs) (hl : lv_has ls 7 [(0, .ref b9), (1, .ref x0), (2, .ref z0), (3, .ref o0), (4, .int (nI k))])
    (K : ∀ (ls : Array Slot) (H : Heap) (locs : List Loc) (V : Nat → Nat) (n : Nat) (t : Nat → Nat) (v0 : Int64) (fs : List Value) (rr : Nat → Nat) (a b : Nat), LQ g H x0 lc tr tc sr sc o0 V n t v0 → MT g H z0 mc lf dg fs rr V a b n t → va_S (fun q => s.heap.size ≤ q) s.heap H locs → lv_has ls 7 [(0, .ref b9), (1, .ref x0), (2, .ref z0), (3, .ref o0), (4, .int (nI k))] → W p l e R s m args below meth c H locs (cells + 2087) (slots + 9996) Q (F0 m 1538 ls [])) : W p l e R s m args below meth c H locs cells slots Q (F0 m 721 ls []) := by
  obtain ⟨hx, hb, hr, hml, hown, hts, hlk⟩ := id C0
  have hA : ∀ q : Nat, s.heap.size ≤ q → s.heap.size ≤ q := fun q h => h
  have hAb : ∀ q : Nat, s.heap.size ≤ q → s.heap.size ≤ q := fun q h => h
  have hbA : ¬ s.heap.size ≤ b9 := Nat.not_le.mpr hbl
  have hap := ls_mt hK hZ hQ hT
  obtain ⟨⟨i3, i4, i5, i6, hC⟩, ⟨w0, ho⟩, hno⟩ := id hQ
  have hmC : ∀ q : Nat, mC x0 lc tr tc sr sc q → s.heap.size ≤ q := fun q h => hmL q (Or.inl h)
  refine lv_aload_n hx hb dL_law_721 rfl (lv_at hl 1 rfl) ?_
  refine lv_aload_n hx hb dL_law_722 rfl (lv_at hl 0 rfl) ?_
  refine lv_iload hx hb dL_law_723 (lv_at hl 4 rfl) ?_
  refine lv_iconst (v := nI 1) hx hb dL_law_725 (by decide) ?_
  refine lv_iadd hx hb dL_law_726 ?_
  refine tp_i (y := nI (k + 1)) (nI_add _ _) ?_
  refine l_sld hx hb hX hbl hbA hS hL9 (show (k + 1) < L by omega) dL_law_727 ?_
  refine lv_aload_n hx hb dL_law_728 rfl (lv_at hl 0 rfl) ?_
  refine lv_iload hx hb dL_law_729 (lv_at hl 4 rfl) ?_
  refine lv_iconst (v := nI 2) hx hb dL_law_731 (by decide) ?_
  refine lv_iadd hx hb dL_law_732 ?_
  refine tp_i (y := nI (k + 2)) (nI_add _ _) ?_
  refine l_sld hx hb hX hbl hbA hS hL9 (show (k + 2) < L by omega) dL_law_733 ?_
  refine lw_ne0 hx hb dL_law_734 dL_law_737 dL_law_738 dL_law_741 ?_
  refine lv_aload_n hx hb dL_law_742 rfl (lv_at hl 0 rfl) ?_
  refine lv_iload hx hb dL_law_743 (lv_at hl 4 rfl) ?_
  refine lv_iconst (v := nI 3) hx hb dL_law_745 (by decide) ?_
  refine lv_iadd hx hb dL_law_746 ?_
  refine tp_i (y := nI (k + 3)) (nI_add _ _) ?_
  refine l_sld hx hb hX hbl hbA hS hL9 (show (k + 3) < L by omega) dL_law_747 ?_
  refine lw_ne0 hx hb dL_law_748 dL_law_751 dL_law_752 dL_law_755 ?_
  refine lv_aload_n hx hb dL_law_756 rfl (lv_at hl 3 rfl) ?_
  refine lx_S (As := [.ref x0, .int (xs (k + 1)), .int (bI (decide (xs (k + 2) ≠ 0))), .int (bI (decide (xs (k + 3) ≠ 0))), .ref o0]) (rest := []) (hh := [(0, 20, 23, 19)]) C0 hl hK hS hA hmL (zat hZ hS hAb) hE (s_about l hnt g s.heap.size H x0 lc tr tc sr sc o0 V n t v0 hQ hmL (xs (k + 1)) (decide (xs (k + 2) ≠ 0)) (decide (xs (k + 3) ≠ 0))) gL_law_L_about rfl ⟨rfl, rfl⟩ (show hd_ok yL_about 5 from ⟨by decide, by decide, by decide +kernel⟩) ⟨Nat.le_trans (Nat.le_of_ble_eq_true rfl) hRf.1, Nat.le_trans (Nat.le_of_ble_eq_true rfl) hRf.2⟩ rfl (Nat.le_of_ble_eq_true rfl) ⟨by omega, by omega⟩ dL_law_757 (fun r1 H1 locs hv hzz hk1 hS => ?_)
  obtain ⟨v1, V1, n1, t1, hP1, hQ1⟩ := hv
  have hT1 := hT.keptA (fun q hq => hk1 q (mt_lt hT q hq) (hap.1 q hq))
  obtain ⟨⟨k19, rfl⟩, hP1⟩ := hP1
  refine lv_istore (lv' := [(5, .int k19), (0, .ref b9), (1, .ref x0), (2, .ref z0), (3, .ref o0), (4, .int (nI k))]) hx hb dL_law_760 hl (by decide) rfl (fun ls hl => ?_)
  refine lv_aload_n hx hb dL_law_762 rfl (lv_at hl 3 rfl) ?_
  refine lv_aload_n hx hb dL_law_763 rfl (lv_at hl 1 rfl) ?_
  refine lv_iload hx hb dL_law_764 (lv_at hl 5 rfl) ?_
  refine lv_iconst (v := nI 1) hx hb dL_law_766 (by decide) ?_
  refine lv_iadd hx hb dL_law_767 ?_
  refine tp_i (y := nI (k + 1)) (nI_add _ _) ?_
  refine l_sld hx hb hX hbl hbA hS hL9 (show (k + 1) < L by omega) dL_law_768 ?_
  refine lv_aload_n hx hb dL_law_769 rfl (lv_at hl 1 rfl) ?_
  refine lv_iload hx hb dL_law_770 (lv_at hl 5 rfl) ?_
  refine lv_iconst (v := nI 2) hx hb dL_law_772 (by decide) ?_
  refine lv_iadd hx hb dL_law_773 ?_
  refine tp_i (y := nI (k + 2)) (nI_add _ _) ?_
  refine l_sld hx hb hX hbl hbA hS hL9 (show (k + 2) < L by omega) dL_law_774 ?_
  refine lw_ne0 hx hb dL_law_775 dL_law_778 dL_law_779 dL_law_782 ?_
  refine lv_aload_n hx hb dL_law_783 rfl (lv_at hl 1 rfl) ?_
  refine lv_iload hx hb dL_law_784 (lv_at hl 5 rfl) ?_
  refine lv_iconst (v := nI 3) hx hb dL_law_786 (by decide) ?_
  refine lv_iadd hx hb dL_law_787 ?_
  refine tp_i (y := nI (k + 3)) (nI_add _ _) ?_
  refine l_sld hx hb hX hbl hbA hS hL9 (show (k + 3) < L by omega) dL_law_788 ?_
  refine lw_ne0 hx hb dL_law_789 dL_law_792 dL_law_793 dL_law_796 ?_
  refine cn_V (As := [.int (xs (k + 1)), .int (bI (decide (xs (k + 2) ≠ 0))), .int (bI (decide (xs (k + 3) ≠ 0)))]) (rest := []) C0 hl hK hS hA hmZ (m_about l g H1 z0 mc lf dg fs rr V a b n t hT1 (xs (k + 1)) (decide (xs (k + 2) ≠ 0)) (decide (xs (k + 3) ≠ 0))) gL_law_X4_about rfl ⟨rfl, rfl⟩ (va_recv hK.1 (p1 hT1.1.1) (ci := 5) (q0 := 0) rfl rfl) ⟨rfl, (show hd_ok yX4_about 3 from ⟨by decide, by decide, by decide +kernel⟩)⟩ ⟨Nat.le_trans (Nat.le_of_ble_eq_true rfl) hRf.1, Nat.le_trans (Nat.le_of_ble_eq_true rfl) hRf.2⟩ rfl (Nat.le_of_ble_eq_true rfl) ⟨by omega, by omega⟩ dL_law_797 (fun r2 H2 locs hv hzz hk2 hS => ?_)
  obtain ⟨fs2, rr2, V2, a2, b2, n2, t2, hP2, hT2⟩ := hv
  have hap1 := ls_mt hK hZ hQ1 hT1
  have hQ2 := hQ1.kept (fun q hq => hk2 q (hQ1.lt q hq) (hap1.2 q hq))
  obtain ⟨⟨k29, rfl⟩, hP2⟩ := hP2
  have eV : V2 = V1 := oC1_uq hP1.2.2 hP2.2.2
  have en : n2 = n1 := hP2.1.trans hP1.1.symm
  have et : t2 = t1 := hP2.2.1.trans hP1.2.1.symm
  rw [eV, en, et] at hT2
  refine lv_istore (lv' := [(6, .int k29), (5, .int k19), (0, .ref b9), (1, .ref x0), (2, .ref z0), (3, .ref o0), (4, .int (nI k))]) hx hb dL_law_800 hl (by decide) rfl (fun ls hl => ?_)
  refine lv_goto (tgt := 1538) hx hb dL_law_802 (by decide) ?_
  refine W.widen (k := cells + 2087) (n := slots + 9996) (by omega) (by omega) ?_
  exact K ls H2 locs _ _ _ _ _ _ _ _ hQ2 hT2 hS (lv_sub hl [2, 3, 4, 5, 6] rfl)
set_option maxHeartbeats 4000000 in
set_option maxRecDepth 100000 in
theorem lk_12 (C0 : Cx p s m args meth c RL cL_law 7 (some .boolean) wsL_law) (hK : KK g s) (hZ : ZW g s.heap.size s s.heap) (hE : EW s) (hnt : l.stackTraces = false) (hX : va_X b9 L xs s s.heap) (hbl : b9 < s.heap.size) (hL9 : L ≤ 2560) (hk5 : k + 5 ≤ L) (hRc : cells + 2087 ≤ R.cells ∧ slots + 9996 ≤ R.slots) (hRf : 20 ≤ R.frames ∧ 600 ≤ R.locals) (hmL : ∀ q : Nat, mL x0 lc tr tc sr sc o0 q → s.heap.size ≤ q) (hmZ : ∀ q : Nat, zM z0 mc lf dg q → s.heap.size ≤ q) (hQ : LQ g H x0 lc tr tc sr sc o0 V n t v0) (hT : MT g H z0 mc lf dg fs rr V a b n t) (hS : va_S (fun q => s.heap.size ≤ q) s.heap H locs) (hl : lv_has ls 7 [(0, .ref b9), (1, .ref x0), (2, .ref z0), (3, .ref o0), (4, .int (nI k))])
    (K : ∀ (ls : Array Slot) (H : Heap) (locs : List Loc) (V : Nat → Nat) (n : Nat) (t : Nat → Nat) (v0 : Int64) (fs : List Value) (rr : Nat → Nat) (a b : Nat), LQ g H x0 lc tr tc sr sc o0 V n t v0 → MT g H z0 mc lf dg fs rr V a b n t → va_S (fun q => s.heap.size ≤ q) s.heap H locs → lv_has ls 7 [(0, .ref b9), (1, .ref x0), (2, .ref z0), (3, .ref o0), (4, .int (nI k))] → W p l e R s m args below meth c H locs (cells + 2087) (slots + 9996) Q (F0 m 1538 ls [])) : W p l e R s m args below meth c H locs cells slots Q (F0 m 805 ls []) := by
  obtain ⟨hx, hb, hr, hml, hown, hts, hlk⟩ := id C0
  have hA : ∀ q : Nat, s.heap.size ≤ q → s.heap.size ≤ q := fun q h => h
  have hAb : ∀ q : Nat, s.heap.size ≤ q → s.heap.size ≤ q := fun q h => h
  have hbA : ¬ s.heap.size ≤ b9 := Nat.not_le.mpr hbl
  have hap := ls_mt hK hZ hQ hT
  obtain ⟨⟨i3, i4, i5, i6, hC⟩, ⟨w0, ho⟩, hno⟩ := id hQ
  have hmC : ∀ q : Nat, mC x0 lc tr tc sr sc q → s.heap.size ≤ q := fun q h => hmL q (Or.inl h)
  refine lv_aload_n hx hb dL_law_805 rfl (lv_at hl 1 rfl) ?_
  refine lv_aload_n hx hb dL_law_806 rfl (lv_at hl 0 rfl) ?_
  refine lv_iload hx hb dL_law_807 (lv_at hl 4 rfl) ?_
  refine lv_iconst (v := nI 1) hx hb dL_law_809 (by decide) ?_
  refine lv_iadd hx hb dL_law_810 ?_
  refine tp_i (y := nI (k + 1)) (nI_add _ _) ?_
  refine l_sld hx hb hX hbl hbA hS hL9 (show (k + 1) < L by omega) dL_law_811 ?_
  refine lv_aload_n hx hb dL_law_812 rfl (lv_at hl 0 rfl) ?_
  refine lv_iload hx hb dL_law_813 (lv_at hl 4 rfl) ?_
  refine lv_iconst (v := nI 2) hx hb dL_law_815 (by decide) ?_
  refine lv_iadd hx hb dL_law_816 ?_
  refine tp_i (y := nI (k + 2)) (nI_add _ _) ?_
  refine l_sld hx hb hX hbl hbA hS hL9 (show (k + 2) < L by omega) dL_law_817 ?_
  refine lw_ne0 hx hb dL_law_818 dL_law_821 dL_law_822 dL_law_825 ?_
  refine lv_aload_n hx hb dL_law_826 rfl (lv_at hl 0 rfl) ?_
  refine lv_iload hx hb dL_law_827 (lv_at hl 4 rfl) ?_
  refine lv_iconst (v := nI 3) hx hb dL_law_829 (by decide) ?_
  refine lv_iadd hx hb dL_law_830 ?_
  refine tp_i (y := nI (k + 3)) (nI_add _ _) ?_
  refine l_sld hx hb hX hbl hbA hS hL9 (show (k + 3) < L by omega) dL_law_831 ?_
  refine lw_ne0 hx hb dL_law_832 dL_law_835 dL_law_836 dL_law_839 ?_
  refine lv_aload_n hx hb dL_law_840 rfl (lv_at hl 3 rfl) ?_
  refine lx_S (As := [.ref x0, .int (xs (k + 1)), .int (bI (decide (xs (k + 2) ≠ 0))), .int (bI (decide (xs (k + 3) ≠ 0))), .ref o0]) (rest := []) (hh := [(0, 13, 16, 19)]) C0 hl hK hS hA hmL (zat hZ hS hAb) hE (s_pick l hnt g s.heap.size H x0 lc tr tc sr sc o0 V n t v0 hQ hmL (xs (k + 1)) (decide (xs (k + 2) ≠ 0)) (decide (xs (k + 3) ≠ 0))) gL_law_L_pick rfl ⟨rfl, rfl⟩ (show hd_ok yL_pick 5 from ⟨by decide, by decide, by decide +kernel⟩) ⟨Nat.le_trans (Nat.le_of_ble_eq_true rfl) hRf.1, Nat.le_trans (Nat.le_of_ble_eq_true rfl) hRf.2⟩ rfl (Nat.le_of_ble_eq_true rfl) ⟨by omega, by omega⟩ dL_law_841 (fun r1 H1 locs hv hzz hk1 hS => ?_)
  obtain ⟨v1, V1, n1, t1, hP1, hQ1⟩ := hv
  have hT1 := hT.keptA (fun q hq => hk1 q (mt_lt hT q hq) (hap.1 q hq))
  obtain ⟨⟨k19, rfl⟩, hP1⟩ := hP1
  refine lv_istore (lv' := [(5, .int k19), (0, .ref b9), (1, .ref x0), (2, .ref z0), (3, .ref o0), (4, .int (nI k))]) hx hb dL_law_844 hl (by decide) rfl (fun ls hl => ?_)
  refine lv_aload_n hx hb dL_law_846 rfl (lv_at hl 3 rfl) ?_
  refine lv_aload_n hx hb dL_law_847 rfl (lv_at hl 1 rfl) ?_
  refine lv_iload hx hb dL_law_848 (lv_at hl 5 rfl) ?_
  refine lv_iconst (v := nI 1) hx hb dL_law_850 (by decide) ?_
  refine lv_iadd hx hb dL_law_851 ?_
  refine tp_i (y := nI (k + 1)) (nI_add _ _) ?_
  refine l_sld hx hb hX hbl hbA hS hL9 (show (k + 1) < L by omega) dL_law_852 ?_
  refine lv_aload_n hx hb dL_law_853 rfl (lv_at hl 1 rfl) ?_
  refine lv_iload hx hb dL_law_854 (lv_at hl 5 rfl) ?_
  refine lv_iconst (v := nI 2) hx hb dL_law_856 (by decide) ?_
  refine lv_iadd hx hb dL_law_857 ?_
  refine tp_i (y := nI (k + 2)) (nI_add _ _) ?_
  refine l_sld hx hb hX hbl hbA hS hL9 (show (k + 2) < L by omega) dL_law_858 ?_
  refine lw_ne0 hx hb dL_law_859 dL_law_862 dL_law_863 dL_law_866 ?_
  refine lv_aload_n hx hb dL_law_867 rfl (lv_at hl 1 rfl) ?_
  refine lv_iload hx hb dL_law_868 (lv_at hl 5 rfl) ?_
  refine lv_iconst (v := nI 3) hx hb dL_law_870 (by decide) ?_
  refine lv_iadd hx hb dL_law_871 ?_
  refine tp_i (y := nI (k + 3)) (nI_add _ _) ?_
  refine l_sld hx hb hX hbl hbA hS hL9 (show (k + 3) < L by omega) dL_law_872 ?_
  refine lw_ne0 hx hb dL_law_873 dL_law_876 dL_law_877 dL_law_880 ?_
  refine cn_V (As := [.int (xs (k + 1)), .int (bI (decide (xs (k + 2) ≠ 0))), .int (bI (decide (xs (k + 3) ≠ 0)))]) (rest := []) C0 hl hK hS hA hmZ (m_pick l g H1 z0 mc lf dg fs rr V a b n t hT1 (xs (k + 1)) (decide (xs (k + 2) ≠ 0)) (decide (xs (k + 3) ≠ 0))) gL_law_X4_pick rfl ⟨rfl, rfl⟩ (va_recv hK.1 (p1 hT1.1.1) (ci := 5) (q0 := 0) rfl rfl) ⟨rfl, (show hd_ok yX4_pick 3 from ⟨by decide, by decide, by decide +kernel⟩)⟩ ⟨Nat.le_trans (Nat.le_of_ble_eq_true rfl) hRf.1, Nat.le_trans (Nat.le_of_ble_eq_true rfl) hRf.2⟩ rfl (Nat.le_of_ble_eq_true rfl) ⟨by omega, by omega⟩ dL_law_881 (fun r2 H2 locs hv hzz hk2 hS => ?_)
  obtain ⟨fs2, rr2, V2, a2, b2, n2, t2, hP2, hT2⟩ := hv
  have hap1 := ls_mt hK hZ hQ1 hT1
  have hQ2 := hQ1.kept (fun q hq => hk2 q (hQ1.lt q hq) (hap1.2 q hq))
  obtain ⟨⟨k29, rfl⟩, hP2⟩ := hP2
  have eV : V2 = V1 := oC1_uq hP1.2.2 hP2.2.2
  have en : n2 = n1 := hP2.1.trans hP1.1.symm
  have et : t2 = t1 := hP2.2.1.trans hP1.2.1.symm
  rw [eV, en, et] at hT2
  refine lv_istore (lv' := [(6, .int k29), (5, .int k19), (0, .ref b9), (1, .ref x0), (2, .ref z0), (3, .ref o0), (4, .int (nI k))]) hx hb dL_law_884 hl (by decide) rfl (fun ls hl => ?_)
  refine lv_goto (tgt := 1538) hx hb dL_law_886 (by decide) ?_
  refine W.widen (k := cells + 2087) (n := slots + 9996) (by omega) (by omega) ?_
  exact K ls H2 locs _ _ _ _ _ _ _ _ hQ2 hT2 hS (lv_sub hl [2, 3, 4, 5, 6] rfl)
set_option maxHeartbeats 4000000 in
set_option maxRecDepth 100000 in
theorem lk_13 (C0 : Cx p s m args meth c RL cL_law 7 (some .boolean) wsL_law) (hK : KK g s) (hZ : ZW g s.heap.size s s.heap) (hE : EW s) (hnt : l.stackTraces = false) (hX : va_X b9 L xs s s.heap) (hbl : b9 < s.heap.size) (hL9 : L ≤ 2560) (hk5 : k + 5 ≤ L) (hRc : cells + 2087 ≤ R.cells ∧ slots + 9996 ≤ R.slots) (hRf : 20 ≤ R.frames ∧ 600 ≤ R.locals) (hmL : ∀ q : Nat, mL x0 lc tr tc sr sc o0 q → s.heap.size ≤ q) (hmZ : ∀ q : Nat, zM z0 mc lf dg q → s.heap.size ≤ q) (hQ : LQ g H x0 lc tr tc sr sc o0 V n t v0) (hT : MT g H z0 mc lf dg fs rr V a b n t) (hS : va_S (fun q => s.heap.size ≤ q) s.heap H locs) (hl : lv_has ls 7 [(0, .ref b9), (1, .ref x0), (2, .ref z0), (3, .ref o0), (4, .int (nI k))])
    (K : ∀ (ls : Array Slot) (H : Heap) (locs : List Loc) (V : Nat → Nat) (n : Nat) (t : Nat → Nat) (v0 : Int64) (fs : List Value) (rr : Nat → Nat) (a b : Nat), LQ g H x0 lc tr tc sr sc o0 V n t v0 → MT g H z0 mc lf dg fs rr V a b n t → va_S (fun q => s.heap.size ≤ q) s.heap H locs → lv_has ls 7 [(0, .ref b9), (1, .ref x0), (2, .ref z0), (3, .ref o0), (4, .int (nI k))] → W p l e R s m args below meth c H locs (cells + 2087) (slots + 9996) Q (F0 m 1538 ls [])) : W p l e R s m args below meth c H locs cells slots Q (F0 m 889 ls []) := by
  obtain ⟨hx, hb, hr, hml, hown, hts, hlk⟩ := id C0
  have hA : ∀ q : Nat, s.heap.size ≤ q → s.heap.size ≤ q := fun q h => h
  have hAb : ∀ q : Nat, s.heap.size ≤ q → s.heap.size ≤ q := fun q h => h
  have hbA : ¬ s.heap.size ≤ b9 := Nat.not_le.mpr hbl
  have hap := ls_mt hK hZ hQ hT
  obtain ⟨⟨i3, i4, i5, i6, hC⟩, ⟨w0, ho⟩, hno⟩ := id hQ
  have hmC : ∀ q : Nat, mC x0 lc tr tc sr sc q → s.heap.size ≤ q := fun q h => hmL q (Or.inl h)
  refine lv_aload_n hx hb dL_law_889 rfl (lv_at hl 1 rfl) ?_
  refine lv_aload_n hx hb dL_law_890 rfl (lv_at hl 0 rfl) ?_
  refine lv_iload hx hb dL_law_891 (lv_at hl 4 rfl) ?_
  refine lv_iconst (v := nI 1) hx hb dL_law_893 (by decide) ?_
  refine lv_iadd hx hb dL_law_894 ?_
  refine tp_i (y := nI (k + 1)) (nI_add _ _) ?_
  refine l_sld hx hb hX hbl hbA hS hL9 (show (k + 1) < L by omega) dL_law_895 ?_
  refine lv_aload_n hx hb dL_law_896 rfl (lv_at hl 0 rfl) ?_
  refine lv_iload hx hb dL_law_897 (lv_at hl 4 rfl) ?_
  refine lv_iconst (v := nI 2) hx hb dL_law_899 (by decide) ?_
  refine lv_iadd hx hb dL_law_900 ?_
  refine tp_i (y := nI (k + 2)) (nI_add _ _) ?_
  refine l_sld hx hb hX hbl hbA hS hL9 (show (k + 2) < L by omega) dL_law_901 ?_
  refine lv_aload_n hx hb dL_law_902 rfl (lv_at hl 0 rfl) ?_
  refine lv_iload hx hb dL_law_903 (lv_at hl 4 rfl) ?_
  refine lv_iconst (v := nI 3) hx hb dL_law_905 (by decide) ?_
  refine lv_iadd hx hb dL_law_906 ?_
  refine tp_i (y := nI (k + 3)) (nI_add _ _) ?_
  refine l_sld hx hb hX hbl hbA hS hL9 (show (k + 3) < L by omega) dL_law_907 ?_
  refine lv_aload_n hx hb dL_law_908 rfl (lv_at hl 0 rfl) ?_
  refine lv_iload hx hb dL_law_909 (lv_at hl 4 rfl) ?_
  refine lv_iconst (v := nI 4) hx hb dL_law_911 (by decide) ?_
  refine lv_iadd hx hb dL_law_912 ?_
  refine tp_i (y := nI (k + 4)) (nI_add _ _) ?_
  refine l_sld hx hb hX hbl hbA hS hL9 (show (k + 4) < L by omega) dL_law_913 ?_
  refine lw_ne0 hx hb dL_law_914 dL_law_917 dL_law_918 dL_law_921 ?_
  refine lv_aload_n hx hb dL_law_922 rfl (lv_at hl 3 rfl) ?_
  refine lx_S (As := [.ref x0, .int (xs (k + 1)), .int (xs (k + 2)), .int (xs (k + 3)), .int (bI (decide (xs (k + 4) ≠ 0))), .ref o0]) (rest := []) (hh := [(0, 22, 25, 19), (0, 22, 29, 29)]) C0 hl hK hS hA hmL (zat hZ hS hAb) hE (s_join l hnt g s.heap.size H x0 lc tr tc sr sc o0 V n t v0 hQ hmL (xs (k + 1)) (xs (k + 2)) (xs (k + 3)) (decide (xs (k + 4) ≠ 0))) gL_law_L_join rfl ⟨rfl, rfl⟩ (show hd_ok yL_join 6 from ⟨by decide, by decide, by decide +kernel⟩) ⟨Nat.le_trans (Nat.le_of_ble_eq_true rfl) hRf.1, Nat.le_trans (Nat.le_of_ble_eq_true rfl) hRf.2⟩ rfl (Nat.le_of_ble_eq_true rfl) ⟨by omega, by omega⟩ dL_law_923 (fun r1 H1 locs hv hzz hk1 hS => ?_)
  obtain ⟨v1, V1, n1, t1, hP1, hQ1⟩ := hv
  have hT1 := hT.keptA (fun q hq => hk1 q (mt_lt hT q hq) (hap.1 q hq))
  obtain ⟨⟨k19, rfl⟩, hP1⟩ := hP1
  refine lv_istore (lv' := [(5, .int k19), (0, .ref b9), (1, .ref x0), (2, .ref z0), (3, .ref o0), (4, .int (nI k))]) hx hb dL_law_926 hl (by decide) rfl (fun ls hl => ?_)
  refine lv_aload_n hx hb dL_law_928 rfl (lv_at hl 3 rfl) ?_
  refine lv_aload_n hx hb dL_law_929 rfl (lv_at hl 1 rfl) ?_
  refine lv_iload hx hb dL_law_930 (lv_at hl 5 rfl) ?_
  refine lv_iconst (v := nI 1) hx hb dL_law_932 (by decide) ?_
  refine lv_iadd hx hb dL_law_933 ?_
  refine tp_i (y := nI (k + 1)) (nI_add _ _) ?_
  refine l_sld hx hb hX hbl hbA hS hL9 (show (k + 1) < L by omega) dL_law_934 ?_
  refine lv_aload_n hx hb dL_law_935 rfl (lv_at hl 1 rfl) ?_
  refine lv_iload hx hb dL_law_936 (lv_at hl 5 rfl) ?_
  refine lv_iconst (v := nI 2) hx hb dL_law_938 (by decide) ?_
  refine lv_iadd hx hb dL_law_939 ?_
  refine tp_i (y := nI (k + 2)) (nI_add _ _) ?_
  refine l_sld hx hb hX hbl hbA hS hL9 (show (k + 2) < L by omega) dL_law_940 ?_
  refine lv_aload_n hx hb dL_law_941 rfl (lv_at hl 1 rfl) ?_
  refine lv_iload hx hb dL_law_942 (lv_at hl 5 rfl) ?_
  refine lv_iconst (v := nI 3) hx hb dL_law_944 (by decide) ?_
  refine lv_iadd hx hb dL_law_945 ?_
  refine tp_i (y := nI (k + 3)) (nI_add _ _) ?_
  refine l_sld hx hb hX hbl hbA hS hL9 (show (k + 3) < L by omega) dL_law_946 ?_
  refine lv_aload_n hx hb dL_law_947 rfl (lv_at hl 1 rfl) ?_
  refine lv_iload hx hb dL_law_948 (lv_at hl 5 rfl) ?_
  refine lv_iconst (v := nI 4) hx hb dL_law_950 (by decide) ?_
  refine lv_iadd hx hb dL_law_951 ?_
  refine tp_i (y := nI (k + 4)) (nI_add _ _) ?_
  refine l_sld hx hb hX hbl hbA hS hL9 (show (k + 4) < L by omega) dL_law_952 ?_
  refine lw_ne0 hx hb dL_law_953 dL_law_956 dL_law_957 dL_law_960 ?_
  refine cn_V (As := [.int (xs (k + 1)), .int (xs (k + 2)), .int (xs (k + 3)), .int (bI (decide (xs (k + 4) ≠ 0)))]) (rest := []) C0 hl hK hS hA hmZ (m_join l g H1 z0 mc lf dg fs rr V a b n t hT1 (xs (k + 1)) (xs (k + 2)) (xs (k + 3)) (decide (xs (k + 4) ≠ 0))) gL_law_X4_join rfl ⟨rfl, rfl⟩ (va_recv hK.1 (p1 hT1.1.1) (ci := 5) (q0 := 0) rfl rfl) ⟨rfl, (show hd_ok yX4_join 4 from ⟨by decide, by decide, by decide +kernel⟩)⟩ ⟨Nat.le_trans (Nat.le_of_ble_eq_true rfl) hRf.1, Nat.le_trans (Nat.le_of_ble_eq_true rfl) hRf.2⟩ rfl (Nat.le_of_ble_eq_true rfl) ⟨by omega, by omega⟩ dL_law_961 (fun r2 H2 locs hv hzz hk2 hS => ?_)
  obtain ⟨fs2, rr2, V2, a2, b2, n2, t2, hP2, hT2⟩ := hv
  have hap1 := ls_mt hK hZ hQ1 hT1
  have hQ2 := hQ1.kept (fun q hq => hk2 q (hQ1.lt q hq) (hap1.2 q hq))
  obtain ⟨⟨k29, rfl⟩, hP2⟩ := hP2
  have eV : V2 = V1 := oC2_uq hP1.2.2 hP2.2.2
  have en : n2 = n1 := hP2.1.trans hP1.1.symm
  have et : t2 = t1 := hP2.2.1.trans hP1.2.1.symm
  rw [eV, en, et] at hT2
  refine lv_istore (lv' := [(6, .int k29), (5, .int k19), (0, .ref b9), (1, .ref x0), (2, .ref z0), (3, .ref o0), (4, .int (nI k))]) hx hb dL_law_964 hl (by decide) rfl (fun ls hl => ?_)
  refine lv_goto (tgt := 1538) hx hb dL_law_966 (by decide) ?_
  refine W.widen (k := cells + 2087) (n := slots + 9996) (by omega) (by omega) ?_
  exact K ls H2 locs _ _ _ _ _ _ _ _ hQ2 hT2 hS (lv_sub hl [2, 3, 4, 5, 6] rfl)
set_option maxHeartbeats 4000000 in
set_option maxRecDepth 100000 in
theorem lk_14 (C0 : Cx p s m args meth c RL cL_law 7 (some .boolean) wsL_law) (hK : KK g s) (hZ : ZW g s.heap.size s s.heap) (hE : EW s) (hnt : l.stackTraces = false) (hX : va_X b9 L xs s s.heap) (hbl : b9 < s.heap.size) (hL9 : L ≤ 2560) (hk5 : k + 5 ≤ L) (hRc : cells + 2087 ≤ R.cells ∧ slots + 9996 ≤ R.slots) (hRf : 20 ≤ R.frames ∧ 600 ≤ R.locals) (hmL : ∀ q : Nat, mL x0 lc tr tc sr sc o0 q → s.heap.size ≤ q) (hmZ : ∀ q : Nat, zM z0 mc lf dg q → s.heap.size ≤ q) (hQ : LQ g H x0 lc tr tc sr sc o0 V n t v0) (hT : MT g H z0 mc lf dg fs rr V a b n t) (hS : va_S (fun q => s.heap.size ≤ q) s.heap H locs) (hl : lv_has ls 7 [(0, .ref b9), (1, .ref x0), (2, .ref z0), (3, .ref o0), (4, .int (nI k))])
    (K : ∀ (ls : Array Slot) (H : Heap) (locs : List Loc) (V : Nat → Nat) (n : Nat) (t : Nat → Nat) (v0 : Int64) (fs : List Value) (rr : Nat → Nat) (a b : Nat), LQ g H x0 lc tr tc sr sc o0 V n t v0 → MT g H z0 mc lf dg fs rr V a b n t → va_S (fun q => s.heap.size ≤ q) s.heap H locs → lv_has ls 7 [(0, .ref b9), (1, .ref x0), (2, .ref z0), (3, .ref o0), (4, .int (nI k))] → W p l e R s m args below meth c H locs (cells + 2087) (slots + 9996) Q (F0 m 1538 ls [])) : W p l e R s m args below meth c H locs cells slots Q (F0 m 969 ls []) := by
  obtain ⟨hx, hb, hr, hml, hown, hts, hlk⟩ := id C0
  have hA : ∀ q : Nat, s.heap.size ≤ q → s.heap.size ≤ q := fun q h => h
  have hAb : ∀ q : Nat, s.heap.size ≤ q → s.heap.size ≤ q := fun q h => h
  have hbA : ¬ s.heap.size ≤ b9 := Nat.not_le.mpr hbl
  have hap := ls_mt hK hZ hQ hT
  obtain ⟨⟨i3, i4, i5, i6, hC⟩, ⟨w0, ho⟩, hno⟩ := id hQ
  have hmC : ∀ q : Nat, mC x0 lc tr tc sr sc q → s.heap.size ≤ q := fun q h => hmL q (Or.inl h)
  refine lv_aload_n hx hb dL_law_969 rfl (lv_at hl 1 rfl) ?_
  refine cn_V (As := []) (rest := []) C0 hl hK hS hA hmC (c_xKnock l g H x0 lc tr tc sr sc i3 i4 i5 i6 V n t hC) gL_law_X2_knock rfl ⟨rfl, rfl⟩ (hC.1.recv hK) ⟨rfl, (show hd_ok yX2_knock 0 from ⟨by decide, by decide, by decide +kernel⟩)⟩ ⟨Nat.le_trans (Nat.le_of_ble_eq_true rfl) hRf.1, Nat.le_trans (Nat.le_of_ble_eq_true rfl) hRf.2⟩ rfl (Nat.le_of_ble_eq_true rfl) ⟨by omega, by omega⟩ dL_law_970 (fun r1 H1 locs hv hzz hk1 hS => ?_)
  obtain ⟨j3, j4, j5, j6, V1, n1, t1, hP1, hC1⟩ := hv
  have hQ1 : LQ g H1 x0 lc tr tc sr sc o0 V1 n1 t1 v0 := ⟨⟨_, _, _, _, hC1⟩, ⟨_, ho.kept (hk1 _ ho.lt hno)⟩, hno⟩
  have hT1 := hT.keptA (fun q hq => hk1 q (mt_lt hT q hq) (fun z => hap.1 q hq (Or.inl z)))
  obtain ⟨⟨k19, rfl⟩, hP1⟩ := hP1
  refine lv_pop hx hb dL_law_973 rfl ?_
  refine lv_aload_n hx hb dL_law_974 rfl (lv_at hl 2 rfl) ?_
  refine cn_V (As := []) (rest := []) C0 hl hK hS hA hmZ (m_knock l g H1 z0 mc lf dg fs rr V a b n t hT1 ) gL_law_X4_knock rfl ⟨rfl, rfl⟩ (va_recv hK.1 (p1 hT1.1.1) (ci := 5) (q0 := 0) rfl rfl) ⟨rfl, (show hd_ok yX4_knock 0 from ⟨by decide, by decide, by decide +kernel⟩)⟩ ⟨Nat.le_trans (Nat.le_of_ble_eq_true rfl) hRf.1, Nat.le_trans (Nat.le_of_ble_eq_true rfl) hRf.2⟩ rfl (Nat.le_of_ble_eq_true rfl) ⟨by omega, by omega⟩ dL_law_975 (fun r2 H2 locs hv hzz hk2 hS => ?_)
  obtain ⟨fs2, rr2, V2, a2, b2, n2, t2, hP2, hT2⟩ := hv
  have hap1 := ls_mt hK hZ hQ1 hT1
  have hQ2 := hQ1.kept (fun q hq => hk2 q (hQ1.lt q hq) (hap1.2 q hq))
  obtain ⟨⟨k29, rfl⟩, hP2⟩ := hP2
  have eV : V2 = V1 := hP2.1.trans hP1.1.symm
  have en : n2 = n1 := hP2.2.1.trans hP1.2.1.symm
  have et : t2 = t1 := hP2.2.2.trans hP1.2.2.symm
  rw [eV, en, et] at hT2
  refine lv_pop hx hb dL_law_978 rfl ?_
  refine lv_goto (tgt := 1538) hx hb dL_law_979 (by decide) ?_
  refine W.widen (k := cells + 2087) (n := slots + 9996) (by omega) (by omega) ?_
  exact K ls H2 locs _ _ _ _ _ _ _ _ hQ2 hT2 hS (lv_sub hl [0, 1, 2, 3, 4] rfl)
set_option maxHeartbeats 4000000 in
set_option maxRecDepth 100000 in
theorem lk_15 (C0 : Cx p s m args meth c RL cL_law 7 (some .boolean) wsL_law) (hK : KK g s) (hZ : ZW g s.heap.size s s.heap) (hE : EW s) (hnt : l.stackTraces = false) (hX : va_X b9 L xs s s.heap) (hbl : b9 < s.heap.size) (hL9 : L ≤ 2560) (hk5 : k + 5 ≤ L) (hRc : cells + 2087 ≤ R.cells ∧ slots + 9996 ≤ R.slots) (hRf : 20 ≤ R.frames ∧ 600 ≤ R.locals) (hmL : ∀ q : Nat, mL x0 lc tr tc sr sc o0 q → s.heap.size ≤ q) (hmZ : ∀ q : Nat, zM z0 mc lf dg q → s.heap.size ≤ q) (hQ : LQ g H x0 lc tr tc sr sc o0 V n t v0) (hT : MT g H z0 mc lf dg fs rr V a b n t) (hS : va_S (fun q => s.heap.size ≤ q) s.heap H locs) (hl : lv_has ls 7 [(0, .ref b9), (1, .ref x0), (2, .ref z0), (3, .ref o0), (4, .int (nI k))])
    (K : ∀ (ls : Array Slot) (H : Heap) (locs : List Loc) (V : Nat → Nat) (n : Nat) (t : Nat → Nat) (v0 : Int64) (fs : List Value) (rr : Nat → Nat) (a b : Nat), LQ g H x0 lc tr tc sr sc o0 V n t v0 → MT g H z0 mc lf dg fs rr V a b n t → va_S (fun q => s.heap.size ≤ q) s.heap H locs → lv_has ls 7 [(0, .ref b9), (1, .ref x0), (2, .ref z0), (3, .ref o0), (4, .int (nI k))] → W p l e R s m args below meth c H locs (cells + 2087) (slots + 9996) Q (F0 m 1538 ls [])) : W p l e R s m args below meth c H locs cells slots Q (F0 m 982 ls []) := by
  obtain ⟨hx, hb, hr, hml, hown, hts, hlk⟩ := id C0
  have hA : ∀ q : Nat, s.heap.size ≤ q → s.heap.size ≤ q := fun q h => h
  have hAb : ∀ q : Nat, s.heap.size ≤ q → s.heap.size ≤ q := fun q h => h
  have hbA : ¬ s.heap.size ≤ b9 := Nat.not_le.mpr hbl
  have hap := ls_mt hK hZ hQ hT
  obtain ⟨⟨i3, i4, i5, i6, hC⟩, ⟨w0, ho⟩, hno⟩ := id hQ
  have hmC : ∀ q : Nat, mC x0 lc tr tc sr sc q → s.heap.size ≤ q := fun q h => hmL q (Or.inl h)
  refine lv_aload_n hx hb dL_law_982 rfl (lv_at hl 1 rfl) ?_
  refine lv_aload_n hx hb dL_law_983 rfl (lv_at hl 0 rfl) ?_
  refine lv_iload hx hb dL_law_984 (lv_at hl 4 rfl) ?_
  refine lv_iconst (v := nI 1) hx hb dL_law_986 (by decide) ?_
  refine lv_iadd hx hb dL_law_987 ?_
  refine tp_i (y := nI (k + 1)) (nI_add _ _) ?_
  refine l_sld hx hb hX hbl hbA hS hL9 (show (k + 1) < L by omega) dL_law_988 ?_
  refine lv_aload_n hx hb dL_law_989 rfl (lv_at hl 3 rfl) ?_
  refine lx_S (As := [.ref x0, .int (xs (k + 1)), .ref o0]) (rest := []) (hh := [(0, 10, 13, 19)]) C0 hl hK hS hA hmL (zat hZ hS hAb) hE (s_high l hnt g s.heap.size H x0 lc tr tc sr sc o0 V n t v0 hQ hmL (xs (k + 1))) gL_law_L_high rfl ⟨rfl, rfl⟩ (show hd_ok yL_high 3 from ⟨by decide, by decide, by decide +kernel⟩) ⟨Nat.le_trans (Nat.le_of_ble_eq_true rfl) hRf.1, Nat.le_trans (Nat.le_of_ble_eq_true rfl) hRf.2⟩ rfl (Nat.le_of_ble_eq_true rfl) ⟨by omega, by omega⟩ dL_law_990 (fun r1 H1 locs hv hzz hk1 hS => ?_)
  obtain ⟨v1, V1, n1, t1, hP1, hQ1⟩ := hv
  have hT1 := hT.keptA (fun q hq => hk1 q (mt_lt hT q hq) (hap.1 q hq))
  obtain ⟨⟨k19, rfl⟩, hP1⟩ := hP1
  refine lv_istore (lv' := [(5, .int k19), (0, .ref b9), (1, .ref x0), (2, .ref z0), (3, .ref o0), (4, .int (nI k))]) hx hb dL_law_993 hl (by decide) rfl (fun ls hl => ?_)
  refine lv_aload_n hx hb dL_law_995 rfl (lv_at hl 3 rfl) ?_
  refine lv_aload_n hx hb dL_law_996 rfl (lv_at hl 1 rfl) ?_
  refine lv_iload hx hb dL_law_997 (lv_at hl 5 rfl) ?_
  refine lv_iconst (v := nI 1) hx hb dL_law_999 (by decide) ?_
  refine lv_iadd hx hb dL_law_1000 ?_
  refine tp_i (y := nI (k + 1)) (nI_add _ _) ?_
  refine l_sld hx hb hX hbl hbA hS hL9 (show (k + 1) < L by omega) dL_law_1001 ?_
  refine cn_V (As := [.int (xs (k + 1))]) (rest := []) C0 hl hK hS hA hmZ (m_high l g H1 z0 mc lf dg fs rr V a b n t hT1 (xs (k + 1))) gL_law_X4_high rfl ⟨rfl, rfl⟩ (va_recv hK.1 (p1 hT1.1.1) (ci := 5) (q0 := 0) rfl rfl) ⟨rfl, (show hd_ok yX4_high 1 from ⟨by decide, by decide, by decide +kernel⟩)⟩ ⟨Nat.le_trans (Nat.le_of_ble_eq_true rfl) hRf.1, Nat.le_trans (Nat.le_of_ble_eq_true rfl) hRf.2⟩ rfl (Nat.le_of_ble_eq_true rfl) ⟨by omega, by omega⟩ dL_law_1002 (fun r2 H2 locs hv hzz hk2 hS => ?_)
  obtain ⟨fs2, rr2, V2, a2, b2, n2, t2, hP2, hT2⟩ := hv
  have hap1 := ls_mt hK hZ hQ1 hT1
  have hQ2 := hQ1.kept (fun q hq => hk2 q (hQ1.lt q hq) (hap1.2 q hq))
  obtain ⟨⟨k29, rfl⟩, hP2⟩ := hP2
  have eV : V2 = V1 := hP2.1.trans hP1.1.symm
  have en : n2 = n1 := hP2.2.1.trans hP1.2.1.symm
  have et : t2 = t1 := hP2.2.2.trans hP1.2.2.symm
  rw [eV, en, et] at hT2
  refine lv_istore (lv' := [(6, .int k29), (5, .int k19), (0, .ref b9), (1, .ref x0), (2, .ref z0), (3, .ref o0), (4, .int (nI k))]) hx hb dL_law_1005 hl (by decide) rfl (fun ls hl => ?_)
  refine lv_goto (tgt := 1538) hx hb dL_law_1007 (by decide) ?_
  refine W.widen (k := cells + 2087) (n := slots + 9996) (by omega) (by omega) ?_
  exact K ls H2 locs _ _ _ _ _ _ _ _ hQ2 hT2 hS (lv_sub hl [2, 3, 4, 5, 6] rfl)
set_option maxHeartbeats 4000000 in
set_option maxRecDepth 100000 in
theorem lk_16 (C0 : Cx p s m args meth c RL cL_law 7 (some .boolean) wsL_law) (hK : KK g s) (hZ : ZW g s.heap.size s s.heap) (hE : EW s) (hnt : l.stackTraces = false) (hX : va_X b9 L xs s s.heap) (hbl : b9 < s.heap.size) (hL9 : L ≤ 2560) (hk5 : k + 5 ≤ L) (hRc : cells + 2087 ≤ R.cells ∧ slots + 9996 ≤ R.slots) (hRf : 20 ≤ R.frames ∧ 600 ≤ R.locals) (hmL : ∀ q : Nat, mL x0 lc tr tc sr sc o0 q → s.heap.size ≤ q) (hmZ : ∀ q : Nat, zM z0 mc lf dg q → s.heap.size ≤ q) (hQ : LQ g H x0 lc tr tc sr sc o0 V n t v0) (hT : MT g H z0 mc lf dg fs rr V a b n t) (hS : va_S (fun q => s.heap.size ≤ q) s.heap H locs) (hl : lv_has ls 7 [(0, .ref b9), (1, .ref x0), (2, .ref z0), (3, .ref o0), (4, .int (nI k))])
    (K : ∀ (ls : Array Slot) (H : Heap) (locs : List Loc) (V : Nat → Nat) (n : Nat) (t : Nat → Nat) (v0 : Int64) (fs : List Value) (rr : Nat → Nat) (a b : Nat), LQ g H x0 lc tr tc sr sc o0 V n t v0 → MT g H z0 mc lf dg fs rr V a b n t → va_S (fun q => s.heap.size ≤ q) s.heap H locs → lv_has ls 7 [(0, .ref b9), (1, .ref x0), (2, .ref z0), (3, .ref o0), (4, .int (nI k))] → W p l e R s m args below meth c H locs (cells + 2087) (slots + 9996) Q (F0 m 1538 ls [])) : W p l e R s m args below meth c H locs cells slots Q (F0 m 1010 ls []) := by
  obtain ⟨hx, hb, hr, hml, hown, hts, hlk⟩ := id C0
  have hA : ∀ q : Nat, s.heap.size ≤ q → s.heap.size ≤ q := fun q h => h
  have hAb : ∀ q : Nat, s.heap.size ≤ q → s.heap.size ≤ q := fun q h => h
  have hbA : ¬ s.heap.size ≤ b9 := Nat.not_le.mpr hbl
  have hap := ls_mt hK hZ hQ hT
  obtain ⟨⟨i3, i4, i5, i6, hC⟩, ⟨w0, ho⟩, hno⟩ := id hQ
  have hmC : ∀ q : Nat, mC x0 lc tr tc sr sc q → s.heap.size ≤ q := fun q h => hmL q (Or.inl h)
  refine lv_aload_n hx hb dL_law_1010 rfl (lv_at hl 1 rfl) ?_
  refine lv_aload_n hx hb dL_law_1011 rfl (lv_at hl 0 rfl) ?_
  refine lv_iload hx hb dL_law_1012 (lv_at hl 4 rfl) ?_
  refine lv_iconst (v := nI 1) hx hb dL_law_1014 (by decide) ?_
  refine lv_iadd hx hb dL_law_1015 ?_
  refine tp_i (y := nI (k + 1)) (nI_add _ _) ?_
  refine l_sld hx hb hX hbl hbA hS hL9 (show (k + 1) < L by omega) dL_law_1016 ?_
  refine lv_aload_n hx hb dL_law_1017 rfl (lv_at hl 3 rfl) ?_
  refine lx_S (As := [.ref x0, .int (xs (k + 1)), .ref o0]) (rest := []) (hh := [(0, 10, 13, 19)]) C0 hl hK hS hA hmL (zat hZ hS hAb) hE (s_low l hnt g s.heap.size H x0 lc tr tc sr sc o0 V n t v0 hQ hmL (xs (k + 1))) gL_law_L_low rfl ⟨rfl, rfl⟩ (show hd_ok yL_low 3 from ⟨by decide, by decide, by decide +kernel⟩) ⟨Nat.le_trans (Nat.le_of_ble_eq_true rfl) hRf.1, Nat.le_trans (Nat.le_of_ble_eq_true rfl) hRf.2⟩ rfl (Nat.le_of_ble_eq_true rfl) ⟨by omega, by omega⟩ dL_law_1018 (fun r1 H1 locs hv hzz hk1 hS => ?_)
  obtain ⟨v1, V1, n1, t1, hP1, hQ1⟩ := hv
  have hT1 := hT.keptA (fun q hq => hk1 q (mt_lt hT q hq) (hap.1 q hq))
  obtain ⟨⟨k19, rfl⟩, hP1⟩ := hP1
  refine lv_istore (lv' := [(5, .int k19), (0, .ref b9), (1, .ref x0), (2, .ref z0), (3, .ref o0), (4, .int (nI k))]) hx hb dL_law_1021 hl (by decide) rfl (fun ls hl => ?_)
  refine lv_aload_n hx hb dL_law_1023 rfl (lv_at hl 3 rfl) ?_
  refine lv_aload_n hx hb dL_law_1024 rfl (lv_at hl 1 rfl) ?_
  refine lv_iload hx hb dL_law_1025 (lv_at hl 5 rfl) ?_
  refine lv_iconst (v := nI 1) hx hb dL_law_1027 (by decide) ?_
  refine lv_iadd hx hb dL_law_1028 ?_
  refine tp_i (y := nI (k + 1)) (nI_add _ _) ?_
  refine l_sld hx hb hX hbl hbA hS hL9 (show (k + 1) < L by omega) dL_law_1029 ?_
  refine cn_V (As := [.int (xs (k + 1))]) (rest := []) C0 hl hK hS hA hmZ (m_low l g H1 z0 mc lf dg fs rr V a b n t hT1 (xs (k + 1))) gL_law_X4_low rfl ⟨rfl, rfl⟩ (va_recv hK.1 (p1 hT1.1.1) (ci := 5) (q0 := 0) rfl rfl) ⟨rfl, (show hd_ok yX4_low 1 from ⟨by decide, by decide, by decide +kernel⟩)⟩ ⟨Nat.le_trans (Nat.le_of_ble_eq_true rfl) hRf.1, Nat.le_trans (Nat.le_of_ble_eq_true rfl) hRf.2⟩ rfl (Nat.le_of_ble_eq_true rfl) ⟨by omega, by omega⟩ dL_law_1030 (fun r2 H2 locs hv hzz hk2 hS => ?_)
  obtain ⟨fs2, rr2, V2, a2, b2, n2, t2, hP2, hT2⟩ := hv
  have hap1 := ls_mt hK hZ hQ1 hT1
  have hQ2 := hQ1.kept (fun q hq => hk2 q (hQ1.lt q hq) (hap1.2 q hq))
  obtain ⟨⟨k29, rfl⟩, hP2⟩ := hP2
  have eV : V2 = V1 := hP2.1.trans hP1.1.symm
  have en : n2 = n1 := hP2.2.1.trans hP1.2.1.symm
  have et : t2 = t1 := hP2.2.2.trans hP1.2.2.symm
  rw [eV, en, et] at hT2
  refine lv_istore (lv' := [(6, .int k29), (5, .int k19), (0, .ref b9), (1, .ref x0), (2, .ref z0), (3, .ref o0), (4, .int (nI k))]) hx hb dL_law_1033 hl (by decide) rfl (fun ls hl => ?_)
  refine lv_goto (tgt := 1538) hx hb dL_law_1035 (by decide) ?_
  refine W.widen (k := cells + 2087) (n := slots + 9996) (by omega) (by omega) ?_
  exact K ls H2 locs _ _ _ _ _ _ _ _ hQ2 hT2 hS (lv_sub hl [2, 3, 4, 5, 6] rfl)
set_option maxHeartbeats 4000000 in
set_option maxRecDepth 100000 in
theorem lk_17 (C0 : Cx p s m args meth c RL cL_law 7 (some .boolean) wsL_law) (hK : KK g s) (hZ : ZW g s.heap.size s s.heap) (hE : EW s) (hnt : l.stackTraces = false) (hX : va_X b9 L xs s s.heap) (hbl : b9 < s.heap.size) (hL9 : L ≤ 2560) (hk5 : k + 5 ≤ L) (hRc : cells + 2087 ≤ R.cells ∧ slots + 9996 ≤ R.slots) (hRf : 20 ≤ R.frames ∧ 600 ≤ R.locals) (hmL : ∀ q : Nat, mL x0 lc tr tc sr sc o0 q → s.heap.size ≤ q) (hmZ : ∀ q : Nat, zM z0 mc lf dg q → s.heap.size ≤ q) (hQ : LQ g H x0 lc tr tc sr sc o0 V n t v0) (hT : MT g H z0 mc lf dg fs rr V a b n t) (hS : va_S (fun q => s.heap.size ≤ q) s.heap H locs) (hl : lv_has ls 7 [(0, .ref b9), (1, .ref x0), (2, .ref z0), (3, .ref o0), (4, .int (nI k))])
    (K : ∀ (ls : Array Slot) (H : Heap) (locs : List Loc) (V : Nat → Nat) (n : Nat) (t : Nat → Nat) (v0 : Int64) (fs : List Value) (rr : Nat → Nat) (a b : Nat), LQ g H x0 lc tr tc sr sc o0 V n t v0 → MT g H z0 mc lf dg fs rr V a b n t → va_S (fun q => s.heap.size ≤ q) s.heap H locs → lv_has ls 7 [(0, .ref b9), (1, .ref x0), (2, .ref z0), (3, .ref o0), (4, .int (nI k))] → W p l e R s m args below meth c H locs (cells + 2087) (slots + 9996) Q (F0 m 1538 ls [])) : W p l e R s m args below meth c H locs cells slots Q (F0 m 1038 ls []) := by
  obtain ⟨hx, hb, hr, hml, hown, hts, hlk⟩ := id C0
  have hA : ∀ q : Nat, s.heap.size ≤ q → s.heap.size ≤ q := fun q h => h
  have hAb : ∀ q : Nat, s.heap.size ≤ q → s.heap.size ≤ q := fun q h => h
  have hbA : ¬ s.heap.size ≤ b9 := Nat.not_le.mpr hbl
  have hap := ls_mt hK hZ hQ hT
  obtain ⟨⟨i3, i4, i5, i6, hC⟩, ⟨w0, ho⟩, hno⟩ := id hQ
  have hmC : ∀ q : Nat, mC x0 lc tr tc sr sc q → s.heap.size ≤ q := fun q h => hmL q (Or.inl h)
  refine lv_aload_n hx hb dL_law_1038 rfl (lv_at hl 1 rfl) ?_
  refine lv_aload_n hx hb dL_law_1039 rfl (lv_at hl 0 rfl) ?_
  refine lv_iload hx hb dL_law_1040 (lv_at hl 4 rfl) ?_
  refine lv_iconst (v := nI 1) hx hb dL_law_1042 (by decide) ?_
  refine lv_iadd hx hb dL_law_1043 ?_
  refine tp_i (y := nI (k + 1)) (nI_add _ _) ?_
  refine l_sld hx hb hX hbl hbA hS hL9 (show (k + 1) < L by omega) dL_law_1044 ?_
  refine lv_aload_n hx hb dL_law_1045 rfl (lv_at hl 0 rfl) ?_
  refine lv_iload hx hb dL_law_1046 (lv_at hl 4 rfl) ?_
  refine lv_iconst (v := nI 2) hx hb dL_law_1048 (by decide) ?_
  refine lv_iadd hx hb dL_law_1049 ?_
  refine tp_i (y := nI (k + 2)) (nI_add _ _) ?_
  refine l_sld hx hb hX hbl hbA hS hL9 (show (k + 2) < L by omega) dL_law_1050 ?_
  refine lv_aload_n hx hb dL_law_1051 rfl (lv_at hl 0 rfl) ?_
  refine lv_iload hx hb dL_law_1052 (lv_at hl 4 rfl) ?_
  refine lv_iconst (v := nI 3) hx hb dL_law_1054 (by decide) ?_
  refine lv_iadd hx hb dL_law_1055 ?_
  refine tp_i (y := nI (k + 3)) (nI_add _ _) ?_
  refine l_sld hx hb hX hbl hbA hS hL9 (show (k + 3) < L by omega) dL_law_1056 ?_
  refine lw_ne0 hx hb dL_law_1057 dL_law_1060 dL_law_1061 dL_law_1064 ?_
  refine lv_aload_n hx hb dL_law_1065 rfl (lv_at hl 3 rfl) ?_
  refine lx_S (As := [.ref x0, .int (xs (k + 1)), .int (xs (k + 2)), .int (bI (decide (xs (k + 3) ≠ 0))), .ref o0]) (rest := []) (hh := [(0, 13, 16, 19), (0, 13, 20, 29)]) C0 hl hK hS hA hmL (zat hZ hS hAb) hE (s_count l hnt g s.heap.size H x0 lc tr tc sr sc o0 V n t v0 hQ hmL (xs (k + 1)) (xs (k + 2)) (decide (xs (k + 3) ≠ 0))) gL_law_L_count rfl ⟨rfl, rfl⟩ (show hd_ok yL_count 5 from ⟨by decide, by decide, by decide +kernel⟩) ⟨Nat.le_trans (Nat.le_of_ble_eq_true rfl) hRf.1, Nat.le_trans (Nat.le_of_ble_eq_true rfl) hRf.2⟩ rfl (Nat.le_of_ble_eq_true rfl) ⟨by omega, by omega⟩ dL_law_1066 (fun r1 H1 locs hv hzz hk1 hS => ?_)
  obtain ⟨v1, V1, n1, t1, hP1, hQ1⟩ := hv
  have hT1 := hT.keptA (fun q hq => hk1 q (mt_lt hT q hq) (hap.1 q hq))
  obtain ⟨⟨k19, rfl⟩, hP1⟩ := hP1
  refine lv_istore (lv' := [(5, .int k19), (0, .ref b9), (1, .ref x0), (2, .ref z0), (3, .ref o0), (4, .int (nI k))]) hx hb dL_law_1069 hl (by decide) rfl (fun ls hl => ?_)
  refine lv_aload_n hx hb dL_law_1071 rfl (lv_at hl 3 rfl) ?_
  refine lv_aload_n hx hb dL_law_1072 rfl (lv_at hl 1 rfl) ?_
  refine lv_iload hx hb dL_law_1073 (lv_at hl 5 rfl) ?_
  refine lv_iconst (v := nI 1) hx hb dL_law_1075 (by decide) ?_
  refine lv_iadd hx hb dL_law_1076 ?_
  refine tp_i (y := nI (k + 1)) (nI_add _ _) ?_
  refine l_sld hx hb hX hbl hbA hS hL9 (show (k + 1) < L by omega) dL_law_1077 ?_
  refine lv_aload_n hx hb dL_law_1078 rfl (lv_at hl 1 rfl) ?_
  refine lv_iload hx hb dL_law_1079 (lv_at hl 5 rfl) ?_
  refine lv_iconst (v := nI 2) hx hb dL_law_1081 (by decide) ?_
  refine lv_iadd hx hb dL_law_1082 ?_
  refine tp_i (y := nI (k + 2)) (nI_add _ _) ?_
  refine l_sld hx hb hX hbl hbA hS hL9 (show (k + 2) < L by omega) dL_law_1083 ?_
  refine lv_aload_n hx hb dL_law_1084 rfl (lv_at hl 1 rfl) ?_
  refine lv_iload hx hb dL_law_1085 (lv_at hl 5 rfl) ?_
  refine lv_iconst (v := nI 3) hx hb dL_law_1087 (by decide) ?_
  refine lv_iadd hx hb dL_law_1088 ?_
  refine tp_i (y := nI (k + 3)) (nI_add _ _) ?_
  refine l_sld hx hb hX hbl hbA hS hL9 (show (k + 3) < L by omega) dL_law_1089 ?_
  refine lw_ne0 hx hb dL_law_1090 dL_law_1093 dL_law_1094 dL_law_1097 ?_
  refine cn_V (As := [.int (xs (k + 1)), .int (xs (k + 2)), .int (bI (decide (xs (k + 3) ≠ 0)))]) (rest := []) C0 hl hK hS hA hmZ (m_count l g H1 z0 mc lf dg fs rr V a b n t hT1 (xs (k + 1)) (xs (k + 2)) (decide (xs (k + 3) ≠ 0))) gL_law_X4_count_ rfl ⟨rfl, rfl⟩ (va_recv hK.1 (p1 hT1.1.1) (ci := 5) (q0 := 0) rfl rfl) ⟨rfl, (show hd_ok yX4_count_ 3 from ⟨by decide, by decide, by decide +kernel⟩)⟩ ⟨Nat.le_trans (Nat.le_of_ble_eq_true rfl) hRf.1, Nat.le_trans (Nat.le_of_ble_eq_true rfl) hRf.2⟩ rfl (Nat.le_of_ble_eq_true rfl) ⟨by omega, by omega⟩ dL_law_1098 (fun r2 H2 locs hv hzz hk2 hS => ?_)
  obtain ⟨fs2, rr2, V2, a2, b2, n2, t2, hP2, hT2⟩ := hv
  have hap1 := ls_mt hK hZ hQ1 hT1
  have hQ2 := hQ1.kept (fun q hq => hk2 q (hQ1.lt q hq) (hap1.2 q hq))
  obtain ⟨⟨k29, rfl⟩, hP2⟩ := hP2
  have eV : V2 = V1 := hP2.1.trans hP1.1.symm
  have en : n2 = n1 := hP2.2.1.trans hP1.2.1.symm
  have et : t2 = t1 := hP2.2.2.trans hP1.2.2.symm
  rw [eV, en, et] at hT2
  refine lv_istore (lv' := [(6, .int k29), (5, .int k19), (0, .ref b9), (1, .ref x0), (2, .ref z0), (3, .ref o0), (4, .int (nI k))]) hx hb dL_law_1101 hl (by decide) rfl (fun ls hl => ?_)
  refine lv_goto (tgt := 1538) hx hb dL_law_1103 (by decide) ?_
  refine W.widen (k := cells + 2087) (n := slots + 9996) (by omega) (by omega) ?_
  exact K ls H2 locs _ _ _ _ _ _ _ _ hQ2 hT2 hS (lv_sub hl [2, 3, 4, 5, 6] rfl)
set_option maxHeartbeats 4000000 in
set_option maxRecDepth 100000 in
theorem lk_18 (C0 : Cx p s m args meth c RL cL_law 7 (some .boolean) wsL_law) (hK : KK g s) (hZ : ZW g s.heap.size s s.heap) (hE : EW s) (hnt : l.stackTraces = false) (hX : va_X b9 L xs s s.heap) (hbl : b9 < s.heap.size) (hL9 : L ≤ 2560) (hk5 : k + 5 ≤ L) (hRc : cells + 2087 ≤ R.cells ∧ slots + 9996 ≤ R.slots) (hRf : 20 ≤ R.frames ∧ 600 ≤ R.locals) (hmL : ∀ q : Nat, mL x0 lc tr tc sr sc o0 q → s.heap.size ≤ q) (hmZ : ∀ q : Nat, zM z0 mc lf dg q → s.heap.size ≤ q) (hQ : LQ g H x0 lc tr tc sr sc o0 V n t v0) (hT : MT g H z0 mc lf dg fs rr V a b n t) (hS : va_S (fun q => s.heap.size ≤ q) s.heap H locs) (hl : lv_has ls 7 [(0, .ref b9), (1, .ref x0), (2, .ref z0), (3, .ref o0), (4, .int (nI k))])
    (K : ∀ (ls : Array Slot) (H : Heap) (locs : List Loc) (V : Nat → Nat) (n : Nat) (t : Nat → Nat) (v0 : Int64) (fs : List Value) (rr : Nat → Nat) (a b : Nat), LQ g H x0 lc tr tc sr sc o0 V n t v0 → MT g H z0 mc lf dg fs rr V a b n t → va_S (fun q => s.heap.size ≤ q) s.heap H locs → lv_has ls 7 [(0, .ref b9), (1, .ref x0), (2, .ref z0), (3, .ref o0), (4, .int (nI k))] → W p l e R s m args below meth c H locs (cells + 2087) (slots + 9996) Q (F0 m 1538 ls [])) : W p l e R s m args below meth c H locs cells slots Q (F0 m 1106 ls []) := by
  obtain ⟨hx, hb, hr, hml, hown, hts, hlk⟩ := id C0
  have hA : ∀ q : Nat, s.heap.size ≤ q → s.heap.size ≤ q := fun q h => h
  have hAb : ∀ q : Nat, s.heap.size ≤ q → s.heap.size ≤ q := fun q h => h
  have hbA : ¬ s.heap.size ≤ b9 := Nat.not_le.mpr hbl
  have hap := ls_mt hK hZ hQ hT
  obtain ⟨⟨i3, i4, i5, i6, hC⟩, ⟨w0, ho⟩, hno⟩ := id hQ
  have hmC : ∀ q : Nat, mC x0 lc tr tc sr sc q → s.heap.size ≤ q := fun q h => hmL q (Or.inl h)
  refine lv_aload_n hx hb dL_law_1106 rfl (lv_at hl 1 rfl) ?_
  refine lv_aload_n hx hb dL_law_1107 rfl (lv_at hl 0 rfl) ?_
  refine lv_iload hx hb dL_law_1108 (lv_at hl 4 rfl) ?_
  refine lv_iconst (v := nI 1) hx hb dL_law_1110 (by decide) ?_
  refine lv_iadd hx hb dL_law_1111 ?_
  refine tp_i (y := nI (k + 1)) (nI_add _ _) ?_
  refine l_sld hx hb hX hbl hbA hS hL9 (show (k + 1) < L by omega) dL_law_1112 ?_
  refine lv_aload_n hx hb dL_law_1113 rfl (lv_at hl 0 rfl) ?_
  refine lv_iload hx hb dL_law_1114 (lv_at hl 4 rfl) ?_
  refine lv_iconst (v := nI 2) hx hb dL_law_1116 (by decide) ?_
  refine lv_iadd hx hb dL_law_1117 ?_
  refine tp_i (y := nI (k + 2)) (nI_add _ _) ?_
  refine l_sld hx hb hX hbl hbA hS hL9 (show (k + 2) < L by omega) dL_law_1118 ?_
  refine lv_aload_n hx hb dL_law_1119 rfl (lv_at hl 0 rfl) ?_
  refine lv_iload hx hb dL_law_1120 (lv_at hl 4 rfl) ?_
  refine lv_iconst (v := nI 3) hx hb dL_law_1122 (by decide) ?_
  refine lv_iadd hx hb dL_law_1123 ?_
  refine tp_i (y := nI (k + 3)) (nI_add _ _) ?_
  refine l_sld hx hb hX hbl hbA hS hL9 (show (k + 3) < L by omega) dL_law_1124 ?_
  refine lw_ne0 hx hb dL_law_1125 dL_law_1128 dL_law_1129 dL_law_1132 ?_
  refine lv_aload_n hx hb dL_law_1133 rfl (lv_at hl 0 rfl) ?_
  refine lv_iload hx hb dL_law_1134 (lv_at hl 4 rfl) ?_
  refine lv_iconst (v := nI 4) hx hb dL_law_1136 (by decide) ?_
  refine lv_iadd hx hb dL_law_1137 ?_
  refine tp_i (y := nI (k + 4)) (nI_add _ _) ?_
  refine l_sld hx hb hX hbl hbA hS hL9 (show (k + 4) < L by omega) dL_law_1138 ?_
  refine lw_ne0 hx hb dL_law_1139 dL_law_1142 dL_law_1143 dL_law_1146 ?_
  refine lv_aload_n hx hb dL_law_1147 rfl (lv_at hl 3 rfl) ?_
  refine lx_S (As := [.ref x0, .int (xs (k + 1)), .int (xs (k + 2)), .int (bI (decide (xs (k + 3) ≠ 0))), .int (bI (decide (xs (k + 4) ≠ 0))), .ref o0]) (rest := []) (hh := [(0, 15, 18, 19)]) C0 hl hK hS hA hmL (zat hZ hS hAb) hE (s_compare l hnt g s.heap.size H x0 lc tr tc sr sc o0 V n t v0 hQ hmL (xs (k + 1)) (xs (k + 2)) (decide (xs (k + 3) ≠ 0)) (decide (xs (k + 4) ≠ 0))) gL_law_L_compare rfl ⟨rfl, rfl⟩ (show hd_ok yL_compare 6 from ⟨by decide, by decide, by decide +kernel⟩) ⟨Nat.le_trans (Nat.le_of_ble_eq_true rfl) hRf.1, Nat.le_trans (Nat.le_of_ble_eq_true rfl) hRf.2⟩ rfl (Nat.le_of_ble_eq_true rfl) ⟨by omega, by omega⟩ dL_law_1148 (fun r1 H1 locs hv hzz hk1 hS => ?_)
  obtain ⟨v1, V1, n1, t1, hP1, hQ1⟩ := hv
  have hT1 := hT.keptA (fun q hq => hk1 q (mt_lt hT q hq) (hap.1 q hq))
  obtain ⟨⟨k19, rfl⟩, hP1⟩ := hP1
  refine lv_istore (lv' := [(5, .int k19), (0, .ref b9), (1, .ref x0), (2, .ref z0), (3, .ref o0), (4, .int (nI k))]) hx hb dL_law_1151 hl (by decide) rfl (fun ls hl => ?_)
  refine lv_aload_n hx hb dL_law_1153 rfl (lv_at hl 3 rfl) ?_
  refine lv_aload_n hx hb dL_law_1154 rfl (lv_at hl 1 rfl) ?_
  refine lv_iload hx hb dL_law_1155 (lv_at hl 5 rfl) ?_
  refine lv_iconst (v := nI 1) hx hb dL_law_1157 (by decide) ?_
  refine lv_iadd hx hb dL_law_1158 ?_
  refine tp_i (y := nI (k + 1)) (nI_add _ _) ?_
  refine l_sld hx hb hX hbl hbA hS hL9 (show (k + 1) < L by omega) dL_law_1159 ?_
  refine lv_aload_n hx hb dL_law_1160 rfl (lv_at hl 1 rfl) ?_
  refine lv_iload hx hb dL_law_1161 (lv_at hl 5 rfl) ?_
  refine lv_iconst (v := nI 2) hx hb dL_law_1163 (by decide) ?_
  refine lv_iadd hx hb dL_law_1164 ?_
  refine tp_i (y := nI (k + 2)) (nI_add _ _) ?_
  refine l_sld hx hb hX hbl hbA hS hL9 (show (k + 2) < L by omega) dL_law_1165 ?_
  refine lv_aload_n hx hb dL_law_1166 rfl (lv_at hl 1 rfl) ?_
  refine lv_iload hx hb dL_law_1167 (lv_at hl 5 rfl) ?_
  refine lv_iconst (v := nI 3) hx hb dL_law_1169 (by decide) ?_
  refine lv_iadd hx hb dL_law_1170 ?_
  refine tp_i (y := nI (k + 3)) (nI_add _ _) ?_
  refine l_sld hx hb hX hbl hbA hS hL9 (show (k + 3) < L by omega) dL_law_1171 ?_
  refine lw_ne0 hx hb dL_law_1172 dL_law_1175 dL_law_1176 dL_law_1179 ?_
  refine lv_aload_n hx hb dL_law_1180 rfl (lv_at hl 1 rfl) ?_
  refine lv_iload hx hb dL_law_1181 (lv_at hl 5 rfl) ?_
  refine lv_iconst (v := nI 4) hx hb dL_law_1183 (by decide) ?_
  refine lv_iadd hx hb dL_law_1184 ?_
  refine tp_i (y := nI (k + 4)) (nI_add _ _) ?_
  refine l_sld hx hb hX hbl hbA hS hL9 (show (k + 4) < L by omega) dL_law_1185 ?_
  refine lw_ne0 hx hb dL_law_1186 dL_law_1189 dL_law_1190 dL_law_1193 ?_
  refine cn_V (As := [.int (xs (k + 1)), .int (xs (k + 2)), .int (bI (decide (xs (k + 3) ≠ 0))), .int (bI (decide (xs (k + 4) ≠ 0)))]) (rest := []) C0 hl hK hS hA hmZ (m_compare l g H1 z0 mc lf dg fs rr V a b n t hT1 (xs (k + 1)) (xs (k + 2)) (decide (xs (k + 3) ≠ 0)) (decide (xs (k + 4) ≠ 0))) gL_law_X4_compare_ rfl ⟨rfl, rfl⟩ (va_recv hK.1 (p1 hT1.1.1) (ci := 5) (q0 := 0) rfl rfl) ⟨rfl, (show hd_ok yX4_compare_ 4 from ⟨by decide, by decide, by decide +kernel⟩)⟩ ⟨Nat.le_trans (Nat.le_of_ble_eq_true rfl) hRf.1, Nat.le_trans (Nat.le_of_ble_eq_true rfl) hRf.2⟩ rfl (Nat.le_of_ble_eq_true rfl) ⟨by omega, by omega⟩ dL_law_1194 (fun r2 H2 locs hv hzz hk2 hS => ?_)
  obtain ⟨fs2, rr2, V2, a2, b2, n2, t2, hP2, hT2⟩ := hv
  have hap1 := ls_mt hK hZ hQ1 hT1
  have hQ2 := hQ1.kept (fun q hq => hk2 q (hQ1.lt q hq) (hap1.2 q hq))
  obtain ⟨⟨k29, rfl⟩, hP2⟩ := hP2
  have eV : V2 = V1 := hP2.1.trans hP1.1.symm
  have en : n2 = n1 := hP2.2.1.trans hP1.2.1.symm
  have et : t2 = t1 := hP2.2.2.trans hP1.2.2.symm
  rw [eV, en, et] at hT2
  refine lv_istore (lv' := [(6, .int k29), (5, .int k19), (0, .ref b9), (1, .ref x0), (2, .ref z0), (3, .ref o0), (4, .int (nI k))]) hx hb dL_law_1197 hl (by decide) rfl (fun ls hl => ?_)
  refine lv_goto (tgt := 1538) hx hb dL_law_1199 (by decide) ?_
  refine W.widen (k := cells + 2087) (n := slots + 9996) (by omega) (by omega) ?_
  exact K ls H2 locs _ _ _ _ _ _ _ _ hQ2 hT2 hS (lv_sub hl [2, 3, 4, 5, 6] rfl)
set_option maxHeartbeats 4000000 in
set_option maxRecDepth 100000 in
theorem lk_19 (C0 : Cx p s m args meth c RL cL_law 7 (some .boolean) wsL_law) (hK : KK g s) (hZ : ZW g s.heap.size s s.heap) (hE : EW s) (hnt : l.stackTraces = false) (hX : va_X b9 L xs s s.heap) (hbl : b9 < s.heap.size) (hL9 : L ≤ 2560) (hk5 : k + 5 ≤ L) (hRc : cells + 2087 ≤ R.cells ∧ slots + 9996 ≤ R.slots) (hRf : 20 ≤ R.frames ∧ 600 ≤ R.locals) (hmL : ∀ q : Nat, mL x0 lc tr tc sr sc o0 q → s.heap.size ≤ q) (hmZ : ∀ q : Nat, zM z0 mc lf dg q → s.heap.size ≤ q) (hQ : LQ g H x0 lc tr tc sr sc o0 V n t v0) (hT : MT g H z0 mc lf dg fs rr V a b n t) (hS : va_S (fun q => s.heap.size ≤ q) s.heap H locs) (hl : lv_has ls 7 [(0, .ref b9), (1, .ref x0), (2, .ref z0), (3, .ref o0), (4, .int (nI k))])
    (K : ∀ (ls : Array Slot) (H : Heap) (locs : List Loc) (V : Nat → Nat) (n : Nat) (t : Nat → Nat) (v0 : Int64) (fs : List Value) (rr : Nat → Nat) (a b : Nat), LQ g H x0 lc tr tc sr sc o0 V n t v0 → MT g H z0 mc lf dg fs rr V a b n t → va_S (fun q => s.heap.size ≤ q) s.heap H locs → lv_has ls 7 [(0, .ref b9), (1, .ref x0), (2, .ref z0), (3, .ref o0), (4, .int (nI k))] → W p l e R s m args below meth c H locs (cells + 2087) (slots + 9996) Q (F0 m 1538 ls [])) : W p l e R s m args below meth c H locs cells slots Q (F0 m 1202 ls []) := by
  obtain ⟨hx, hb, hr, hml, hown, hts, hlk⟩ := id C0
  have hA : ∀ q : Nat, s.heap.size ≤ q → s.heap.size ≤ q := fun q h => h
  have hAb : ∀ q : Nat, s.heap.size ≤ q → s.heap.size ≤ q := fun q h => h
  have hbA : ¬ s.heap.size ≤ b9 := Nat.not_le.mpr hbl
  have hap := ls_mt hK hZ hQ hT
  obtain ⟨⟨i3, i4, i5, i6, hC⟩, ⟨w0, ho⟩, hno⟩ := id hQ
  have hmC : ∀ q : Nat, mC x0 lc tr tc sr sc q → s.heap.size ≤ q := fun q h => hmL q (Or.inl h)
  refine lv_aload_n hx hb dL_law_1202 rfl (lv_at hl 1 rfl) ?_
  refine jn_V (As := []) (rest := []) C0 hl hK hS hA hmC (zat hZ hS hAb) (c_xText l g s.heap.size H x0 lc tr tc sr sc i3 i4 i5 i6 V n t hC hmC) gL_law_X2_text rfl ⟨rfl, rfl⟩ (hC.1.recv hK) ⟨rfl, (show hd_ok yX2_text 0 from ⟨by decide, by decide, by decide +kernel⟩)⟩ ⟨Nat.le_trans (Nat.le_of_ble_eq_true rfl) hRf.1, Nat.le_trans (Nat.le_of_ble_eq_true rfl) hRf.2⟩ rfl (Nat.le_of_ble_eq_true rfl) ⟨by omega, by omega⟩ dL_law_1203 (fun r1 H1 locs hv hzz hk1 hS => ?_)
  obtain ⟨j3, j4, j5, j6, V1, n1, t1, hP1, hC1⟩ := hv
  have hQ1 : LQ g H1 x0 lc tr tc sr sc o0 V1 n1 t1 v0 := ⟨⟨_, _, _, _, hC1⟩, ⟨_, ho.kept (hk1 _ ho.lt hno)⟩, hno⟩
  have hT1 := hT.keptA (fun q hq => hk1 q (mt_lt hT q hq) (fun z => hap.1 q hq (Or.inl z)))
  obtain ⟨⟨k19, rfl⟩, hP1⟩ := hP1
  refine lv_pop hx hb dL_law_1206 rfl ?_
  refine lv_aload_n hx hb dL_law_1207 rfl (lv_at hl 2 rfl) ?_
  refine jn_V (As := []) (rest := []) C0 hl hK hS hA hmZ (zat hZ hS hAb) (m_text l g s.heap.size H1 z0 mc lf dg fs rr V a b n t hT1 hmZ ) gL_law_X4_text rfl ⟨rfl, rfl⟩ (va_recv hK.1 (p1 hT1.1.1) (ci := 5) (q0 := 0) rfl rfl) ⟨rfl, (show hd_ok yX4_text 0 from ⟨by decide, by decide, by decide +kernel⟩)⟩ ⟨Nat.le_trans (Nat.le_of_ble_eq_true rfl) hRf.1, Nat.le_trans (Nat.le_of_ble_eq_true rfl) hRf.2⟩ rfl (Nat.le_of_ble_eq_true rfl) ⟨by omega, by omega⟩ dL_law_1208 (fun r2 H2 locs hv hzz hk2 hS => ?_)
  obtain ⟨fs2, rr2, V2, a2, b2, n2, t2, hP2, hT2⟩ := hv
  have hap1 := ls_mt hK hZ hQ1 hT1
  have hQ2 := hQ1.kept (fun q hq => hk2 q (hQ1.lt q hq) (hap1.2 q hq))
  obtain ⟨⟨k29, rfl⟩, hP2⟩ := hP2
  have eV : V2 = V1 := hP2.1.trans hP1.1.symm
  have en : n2 = n1 := hP2.2.1.trans hP1.2.1.symm
  have et : t2 = t1 := hP2.2.2.trans hP1.2.2.symm
  rw [eV, en, et] at hT2
  refine lv_pop hx hb dL_law_1211 rfl ?_
  refine lv_goto (tgt := 1538) hx hb dL_law_1212 (by decide) ?_
  refine W.widen (k := cells + 2087) (n := slots + 9996) (by omega) (by omega) ?_
  exact K ls H2 locs _ _ _ _ _ _ _ _ hQ2 hT2 hS (lv_sub hl [0, 1, 2, 3, 4] rfl)
set_option maxHeartbeats 4000000 in
set_option maxRecDepth 100000 in
theorem lk_20 (C0 : Cx p s m args meth c RL cL_law 7 (some .boolean) wsL_law) (hK : KK g s) (hZ : ZW g s.heap.size s s.heap) (hE : EW s) (hnt : l.stackTraces = false) (hX : va_X b9 L xs s s.heap) (hbl : b9 < s.heap.size) (hL9 : L ≤ 2560) (hk5 : k + 5 ≤ L) (hRc : cells + 2087 ≤ R.cells ∧ slots + 9996 ≤ R.slots) (hRf : 20 ≤ R.frames ∧ 600 ≤ R.locals) (hmL : ∀ q : Nat, mL x0 lc tr tc sr sc o0 q → s.heap.size ≤ q) (hmZ : ∀ q : Nat, zM z0 mc lf dg q → s.heap.size ≤ q) (hQ : LQ g H x0 lc tr tc sr sc o0 V n t v0) (hT : MT g H z0 mc lf dg fs rr V a b n t) (hS : va_S (fun q => s.heap.size ≤ q) s.heap H locs) (hl : lv_has ls 7 [(0, .ref b9), (1, .ref x0), (2, .ref z0), (3, .ref o0), (4, .int (nI k))])
    (K : ∀ (ls : Array Slot) (H : Heap) (locs : List Loc) (V : Nat → Nat) (n : Nat) (t : Nat → Nat) (v0 : Int64) (fs : List Value) (rr : Nat → Nat) (a b : Nat), LQ g H x0 lc tr tc sr sc o0 V n t v0 → MT g H z0 mc lf dg fs rr V a b n t → va_S (fun q => s.heap.size ≤ q) s.heap H locs → lv_has ls 7 [(0, .ref b9), (1, .ref x0), (2, .ref z0), (3, .ref o0), (4, .int (nI k))] → W p l e R s m args below meth c H locs (cells + 2087) (slots + 9996) Q (F0 m 1538 ls [])) : W p l e R s m args below meth c H locs cells slots Q (F0 m 1215 ls []) := by
  obtain ⟨hx, hb, hr, hml, hown, hts, hlk⟩ := id C0
  have hA : ∀ q : Nat, s.heap.size ≤ q → s.heap.size ≤ q := fun q h => h
  have hAb : ∀ q : Nat, s.heap.size ≤ q → s.heap.size ≤ q := fun q h => h
  have hbA : ¬ s.heap.size ≤ b9 := Nat.not_le.mpr hbl
  have hap := ls_mt hK hZ hQ hT
  obtain ⟨⟨i3, i4, i5, i6, hC⟩, ⟨w0, ho⟩, hno⟩ := id hQ
  have hmC : ∀ q : Nat, mC x0 lc tr tc sr sc q → s.heap.size ≤ q := fun q h => hmL q (Or.inl h)
  refine lv_aload_n hx hb dL_law_1215 rfl (lv_at hl 1 rfl) ?_
  refine lv_aload_n hx hb dL_law_1216 rfl (lv_at hl 0 rfl) ?_
  refine lv_iload hx hb dL_law_1217 (lv_at hl 4 rfl) ?_
  refine lv_iconst (v := nI 1) hx hb dL_law_1219 (by decide) ?_
  refine lv_iadd hx hb dL_law_1220 ?_
  refine tp_i (y := nI (k + 1)) (nI_add _ _) ?_
  refine l_sld hx hb hX hbl hbA hS hL9 (show (k + 1) < L by omega) dL_law_1221 ?_
  refine lv_aload_n hx hb dL_law_1222 rfl (lv_at hl 0 rfl) ?_
  refine lv_iload hx hb dL_law_1223 (lv_at hl 4 rfl) ?_
  refine lv_iconst (v := nI 2) hx hb dL_law_1225 (by decide) ?_
  refine lv_iadd hx hb dL_law_1226 ?_
  refine tp_i (y := nI (k + 2)) (nI_add _ _) ?_
  refine l_sld hx hb hX hbl hbA hS hL9 (show (k + 2) < L by omega) dL_law_1227 ?_
  refine lv_aload_n hx hb dL_law_1228 rfl (lv_at hl 3 rfl) ?_
  refine lx_S (As := [.ref x0, .int (xs (k + 1)), .int (xs (k + 2)), .ref o0]) (rest := []) (hh := [(0, 11, 14, 19), (0, 11, 18, 29)]) C0 hl hK hS hA hmL (zat hZ hS hAb) hE (s_digit l hnt g s.heap.size H x0 lc tr tc sr sc o0 V n t v0 hQ hmL (xs (k + 1)) (xs (k + 2))) gL_law_L_digit rfl ⟨rfl, rfl⟩ (show hd_ok yL_digit 4 from ⟨by decide, by decide, by decide +kernel⟩) ⟨Nat.le_trans (Nat.le_of_ble_eq_true rfl) hRf.1, Nat.le_trans (Nat.le_of_ble_eq_true rfl) hRf.2⟩ rfl (Nat.le_of_ble_eq_true rfl) ⟨by omega, by omega⟩ dL_law_1229 (fun r1 H1 locs hv hzz hk1 hS => ?_)
  obtain ⟨v1, V1, n1, t1, hP1, hQ1⟩ := hv
  have hT1 := hT.keptA (fun q hq => hk1 q (mt_lt hT q hq) (hap.1 q hq))
  obtain ⟨⟨k19, rfl⟩, hP1⟩ := hP1
  refine lv_istore (lv' := [(5, .int k19), (0, .ref b9), (1, .ref x0), (2, .ref z0), (3, .ref o0), (4, .int (nI k))]) hx hb dL_law_1232 hl (by decide) rfl (fun ls hl => ?_)
  refine lv_aload_n hx hb dL_law_1234 rfl (lv_at hl 3 rfl) ?_
  refine lv_aload_n hx hb dL_law_1235 rfl (lv_at hl 1 rfl) ?_
  refine lv_iload hx hb dL_law_1236 (lv_at hl 5 rfl) ?_
  refine lv_iconst (v := nI 1) hx hb dL_law_1238 (by decide) ?_
  refine lv_iadd hx hb dL_law_1239 ?_
  refine tp_i (y := nI (k + 1)) (nI_add _ _) ?_
  refine l_sld hx hb hX hbl hbA hS hL9 (show (k + 1) < L by omega) dL_law_1240 ?_
  refine lv_aload_n hx hb dL_law_1241 rfl (lv_at hl 1 rfl) ?_
  refine lv_iload hx hb dL_law_1242 (lv_at hl 5 rfl) ?_
  refine lv_iconst (v := nI 2) hx hb dL_law_1244 (by decide) ?_
  refine lv_iadd hx hb dL_law_1245 ?_
  refine tp_i (y := nI (k + 2)) (nI_add _ _) ?_
  refine l_sld hx hb hX hbl hbA hS hL9 (show (k + 2) < L by omega) dL_law_1246 ?_
  refine jn_V (As := [.int (xs (k + 1)), .int (xs (k + 2))]) (rest := []) C0 hl hK hS hA hmZ (zat hZ hS hAb) (m_digit l g s.heap.size H1 z0 mc lf dg fs rr V a b n t hT1 hmZ (xs (k + 1)) (xs (k + 2))) gL_law_X4_digit rfl ⟨rfl, rfl⟩ (va_recv hK.1 (p1 hT1.1.1) (ci := 5) (q0 := 0) rfl rfl) ⟨rfl, (show hd_ok yX4_digit 2 from ⟨by decide, by decide, by decide +kernel⟩)⟩ ⟨Nat.le_trans (Nat.le_of_ble_eq_true rfl) hRf.1, Nat.le_trans (Nat.le_of_ble_eq_true rfl) hRf.2⟩ rfl (Nat.le_of_ble_eq_true rfl) ⟨by omega, by omega⟩ dL_law_1247 (fun r2 H2 locs hv hzz hk2 hS => ?_)
  obtain ⟨fs2, rr2, V2, a2, b2, n2, t2, hP2, hT2⟩ := hv
  have hap1 := ls_mt hK hZ hQ1 hT1
  have hQ2 := hQ1.kept (fun q hq => hk2 q (hQ1.lt q hq) (hap1.2 q hq))
  obtain ⟨⟨k29, rfl⟩, hP2⟩ := hP2
  have eV : V2 = V1 := hP2.1.trans hP1.1.symm
  have en : n2 = n1 := hP2.2.1.trans hP1.2.1.symm
  have et : t2 = t1 := hP2.2.2.trans hP1.2.2.symm
  rw [eV, en, et] at hT2
  refine lv_istore (lv' := [(6, .int k29), (5, .int k19), (0, .ref b9), (1, .ref x0), (2, .ref z0), (3, .ref o0), (4, .int (nI k))]) hx hb dL_law_1250 hl (by decide) rfl (fun ls hl => ?_)
  refine lv_goto (tgt := 1538) hx hb dL_law_1252 (by decide) ?_
  refine W.widen (k := cells + 2087) (n := slots + 9996) (by omega) (by omega) ?_
  exact K ls H2 locs _ _ _ _ _ _ _ _ hQ2 hT2 hS (lv_sub hl [2, 3, 4, 5, 6] rfl)
set_option maxHeartbeats 4000000 in
set_option maxRecDepth 100000 in
theorem lk_21 (C0 : Cx p s m args meth c RL cL_law 7 (some .boolean) wsL_law) (hK : KK g s) (hZ : ZW g s.heap.size s s.heap) (hE : EW s) (hnt : l.stackTraces = false) (hX : va_X b9 L xs s s.heap) (hbl : b9 < s.heap.size) (hL9 : L ≤ 2560) (hk5 : k + 5 ≤ L) (hRc : cells + 2087 ≤ R.cells ∧ slots + 9996 ≤ R.slots) (hRf : 20 ≤ R.frames ∧ 600 ≤ R.locals) (hmL : ∀ q : Nat, mL x0 lc tr tc sr sc o0 q → s.heap.size ≤ q) (hmZ : ∀ q : Nat, zM z0 mc lf dg q → s.heap.size ≤ q) (hQ : LQ g H x0 lc tr tc sr sc o0 V n t v0) (hT : MT g H z0 mc lf dg fs rr V a b n t) (hS : va_S (fun q => s.heap.size ≤ q) s.heap H locs) (hl : lv_has ls 7 [(0, .ref b9), (1, .ref x0), (2, .ref z0), (3, .ref o0), (4, .int (nI k))])
    (K : ∀ (ls : Array Slot) (H : Heap) (locs : List Loc) (V : Nat → Nat) (n : Nat) (t : Nat → Nat) (v0 : Int64) (fs : List Value) (rr : Nat → Nat) (a b : Nat), LQ g H x0 lc tr tc sr sc o0 V n t v0 → MT g H z0 mc lf dg fs rr V a b n t → va_S (fun q => s.heap.size ≤ q) s.heap H locs → lv_has ls 7 [(0, .ref b9), (1, .ref x0), (2, .ref z0), (3, .ref o0), (4, .int (nI k))] → W p l e R s m args below meth c H locs (cells + 2087) (slots + 9996) Q (F0 m 1538 ls [])) : W p l e R s m args below meth c H locs cells slots Q (F0 m 1255 ls []) := by
  obtain ⟨hx, hb, hr, hml, hown, hts, hlk⟩ := id C0
  have hA : ∀ q : Nat, s.heap.size ≤ q → s.heap.size ≤ q := fun q h => h
  have hAb : ∀ q : Nat, s.heap.size ≤ q → s.heap.size ≤ q := fun q h => h
  have hbA : ¬ s.heap.size ≤ b9 := Nat.not_le.mpr hbl
  have hap := ls_mt hK hZ hQ hT
  obtain ⟨⟨i3, i4, i5, i6, hC⟩, ⟨w0, ho⟩, hno⟩ := id hQ
  have hmC : ∀ q : Nat, mC x0 lc tr tc sr sc q → s.heap.size ≤ q := fun q h => hmL q (Or.inl h)
  refine lv_aload_n hx hb dL_law_1255 rfl (lv_at hl 1 rfl) ?_
  refine lv_aload_n hx hb dL_law_1256 rfl (lv_at hl 0 rfl) ?_
  refine lv_iload hx hb dL_law_1257 (lv_at hl 4 rfl) ?_
  refine lv_iconst (v := nI 1) hx hb dL_law_1259 (by decide) ?_
  refine lv_iadd hx hb dL_law_1260 ?_
  refine tp_i (y := nI (k + 1)) (nI_add _ _) ?_
  refine l_sld hx hb hX hbl hbA hS hL9 (show (k + 1) < L by omega) dL_law_1261 ?_
  refine lv_aload_n hx hb dL_law_1262 rfl (lv_at hl 3 rfl) ?_
  refine lx_S (As := [.ref x0, .int (xs (k + 1)), .ref o0]) (rest := []) (hh := [(0, 10, 13, 29)]) C0 hl hK hS hA hmL (zat hZ hS hAb) hE (s_bench l hnt g s.heap.size H x0 lc tr tc sr sc o0 V n t v0 hQ hmL (xs (k + 1))) gL_law_L_bench rfl ⟨rfl, rfl⟩ (show hd_ok yL_bench 3 from ⟨by decide, by decide, by decide +kernel⟩) ⟨Nat.le_trans (Nat.le_of_ble_eq_true rfl) hRf.1, Nat.le_trans (Nat.le_of_ble_eq_true rfl) hRf.2⟩ rfl (Nat.le_of_ble_eq_true rfl) ⟨by omega, by omega⟩ dL_law_1263 (fun r1 H1 locs hv hzz hk1 hS => ?_)
  obtain ⟨v1, V1, n1, t1, hP1, hQ1⟩ := hv
  have hT1 := hT.keptA (fun q hq => hk1 q (mt_lt hT q hq) (hap.1 q hq))
  obtain ⟨⟨k19, rfl⟩, hP1⟩ := hP1
  refine lv_istore (lv' := [(5, .int k19), (0, .ref b9), (1, .ref x0), (2, .ref z0), (3, .ref o0), (4, .int (nI k))]) hx hb dL_law_1266 hl (by decide) rfl (fun ls hl => ?_)
  refine lv_aload_n hx hb dL_law_1268 rfl (lv_at hl 3 rfl) ?_
  refine lv_aload_n hx hb dL_law_1269 rfl (lv_at hl 1 rfl) ?_
  refine lv_iload hx hb dL_law_1270 (lv_at hl 5 rfl) ?_
  refine lv_iconst (v := nI 1) hx hb dL_law_1272 (by decide) ?_
  refine lv_iadd hx hb dL_law_1273 ?_
  refine tp_i (y := nI (k + 1)) (nI_add _ _) ?_
  refine l_sld hx hb hX hbl hbA hS hL9 (show (k + 1) < L by omega) dL_law_1274 ?_
  refine jn_V (As := [.int (xs (k + 1))]) (rest := []) C0 hl hK hS hA hmZ (zat hZ hS hAb) (m_bench l g s.heap.size H1 z0 mc lf dg fs rr V a b n t hT1 hmZ (xs (k + 1))) gL_law_X4_bench rfl ⟨rfl, rfl⟩ (va_recv hK.1 (p1 hT1.1.1) (ci := 5) (q0 := 0) rfl rfl) ⟨rfl, (show hd_ok yX4_bench 1 from ⟨by decide, by decide, by decide +kernel⟩)⟩ ⟨Nat.le_trans (Nat.le_of_ble_eq_true rfl) hRf.1, Nat.le_trans (Nat.le_of_ble_eq_true rfl) hRf.2⟩ rfl (Nat.le_of_ble_eq_true rfl) ⟨by omega, by omega⟩ dL_law_1275 (fun r2 H2 locs hv hzz hk2 hS => ?_)
  obtain ⟨fs2, rr2, V2, a2, b2, n2, t2, hP2, hT2⟩ := hv
  have hap1 := ls_mt hK hZ hQ1 hT1
  have hQ2 := hQ1.kept (fun q hq => hk2 q (hQ1.lt q hq) (hap1.2 q hq))
  obtain ⟨⟨k29, rfl⟩, hP2⟩ := hP2
  have eV : V2 = V1 := hP2.1.trans hP1.1.symm
  have en : n2 = n1 := hP2.2.1.trans hP1.2.1.symm
  have et : t2 = t1 := hP2.2.2.trans hP1.2.2.symm
  rw [eV, en, et] at hT2
  refine lv_istore (lv' := [(6, .int k29), (5, .int k19), (0, .ref b9), (1, .ref x0), (2, .ref z0), (3, .ref o0), (4, .int (nI k))]) hx hb dL_law_1278 hl (by decide) rfl (fun ls hl => ?_)
  refine lv_goto (tgt := 1538) hx hb dL_law_1280 (by decide) ?_
  refine W.widen (k := cells + 2087) (n := slots + 9996) (by omega) (by omega) ?_
  exact K ls H2 locs _ _ _ _ _ _ _ _ hQ2 hT2 hS (lv_sub hl [2, 3, 4, 5, 6] rfl)
set_option maxHeartbeats 4000000 in
set_option maxRecDepth 100000 in
theorem lk_22 (C0 : Cx p s m args meth c RL cL_law 7 (some .boolean) wsL_law) (hK : KK g s) (hZ : ZW g s.heap.size s s.heap) (hE : EW s) (hnt : l.stackTraces = false) (hX : va_X b9 L xs s s.heap) (hbl : b9 < s.heap.size) (hL9 : L ≤ 2560) (hk5 : k + 5 ≤ L) (hRc : cells + 2087 ≤ R.cells ∧ slots + 9996 ≤ R.slots) (hRf : 20 ≤ R.frames ∧ 600 ≤ R.locals) (hmL : ∀ q : Nat, mL x0 lc tr tc sr sc o0 q → s.heap.size ≤ q) (hmZ : ∀ q : Nat, zM z0 mc lf dg q → s.heap.size ≤ q) (hQ : LQ g H x0 lc tr tc sr sc o0 V n t v0) (hT : MT g H z0 mc lf dg fs rr V a b n t) (hS : va_S (fun q => s.heap.size ≤ q) s.heap H locs) (hl : lv_has ls 7 [(0, .ref b9), (1, .ref x0), (2, .ref z0), (3, .ref o0), (4, .int (nI k))])
    (K : ∀ (ls : Array Slot) (H : Heap) (locs : List Loc) (V : Nat → Nat) (n : Nat) (t : Nat → Nat) (v0 : Int64) (fs : List Value) (rr : Nat → Nat) (a b : Nat), LQ g H x0 lc tr tc sr sc o0 V n t v0 → MT g H z0 mc lf dg fs rr V a b n t → va_S (fun q => s.heap.size ≤ q) s.heap H locs → lv_has ls 7 [(0, .ref b9), (1, .ref x0), (2, .ref z0), (3, .ref o0), (4, .int (nI k))] → W p l e R s m args below meth c H locs (cells + 2087) (slots + 9996) Q (F0 m 1538 ls [])) : W p l e R s m args below meth c H locs cells slots Q (F0 m 1283 ls []) := by
  obtain ⟨hx, hb, hr, hml, hown, hts, hlk⟩ := id C0
  have hA : ∀ q : Nat, s.heap.size ≤ q → s.heap.size ≤ q := fun q h => h
  have hAb : ∀ q : Nat, s.heap.size ≤ q → s.heap.size ≤ q := fun q h => h
  have hbA : ¬ s.heap.size ≤ b9 := Nat.not_le.mpr hbl
  have hap := ls_mt hK hZ hQ hT
  obtain ⟨⟨i3, i4, i5, i6, hC⟩, ⟨w0, ho⟩, hno⟩ := id hQ
  have hmC : ∀ q : Nat, mC x0 lc tr tc sr sc q → s.heap.size ≤ q := fun q h => hmL q (Or.inl h)
  refine lv_aload_n hx hb dL_law_1283 rfl (lv_at hl 1 rfl) ?_
  refine lv_aload_n hx hb dL_law_1284 rfl (lv_at hl 0 rfl) ?_
  refine lv_iload hx hb dL_law_1285 (lv_at hl 4 rfl) ?_
  refine lv_iconst (v := nI 1) hx hb dL_law_1287 (by decide) ?_
  refine lv_iadd hx hb dL_law_1288 ?_
  refine tp_i (y := nI (k + 1)) (nI_add _ _) ?_
  refine l_sld hx hb hX hbl hbA hS hL9 (show (k + 1) < L by omega) dL_law_1289 ?_
  refine lv_aload_n hx hb dL_law_1290 rfl (lv_at hl 0 rfl) ?_
  refine lv_iload hx hb dL_law_1291 (lv_at hl 4 rfl) ?_
  refine lv_iconst (v := nI 2) hx hb dL_law_1293 (by decide) ?_
  refine lv_iadd hx hb dL_law_1294 ?_
  refine tp_i (y := nI (k + 2)) (nI_add _ _) ?_
  refine l_sld hx hb hX hbl hbA hS hL9 (show (k + 2) < L by omega) dL_law_1295 ?_
  refine lv_aload_n hx hb dL_law_1296 rfl (lv_at hl 3 rfl) ?_
  refine lx_S (As := [.ref x0, .int (xs (k + 1)), .int (xs (k + 2)), .ref o0]) (rest := []) (hh := [(0, 18, 21, 29)]) C0 hl hK hS hA hmL (zat hZ hS hAb) hE (s_isNo l hnt g s.heap.size H x0 lc tr tc sr sc o0 V n t v0 hQ hmL (xs (k + 1)) (xs (k + 2))) gL_law_L_isNumber rfl ⟨rfl, rfl⟩ (show hd_ok yL_isNumber 4 from ⟨by decide, by decide, by decide +kernel⟩) ⟨Nat.le_trans (Nat.le_of_ble_eq_true rfl) hRf.1, Nat.le_trans (Nat.le_of_ble_eq_true rfl) hRf.2⟩ rfl (Nat.le_of_ble_eq_true rfl) ⟨by omega, by omega⟩ dL_law_1297 (fun r1 H1 locs hv hzz hk1 hS => ?_)
  obtain ⟨v1, V1, n1, t1, hP1, hQ1⟩ := hv
  have hT1 := hT.keptA (fun q hq => hk1 q (mt_lt hT q hq) (hap.1 q hq))
  obtain ⟨⟨k19, rfl⟩, hP1⟩ := hP1
  refine lv_istore (lv' := [(5, .int k19), (0, .ref b9), (1, .ref x0), (2, .ref z0), (3, .ref o0), (4, .int (nI k))]) hx hb dL_law_1300 hl (by decide) rfl (fun ls hl => ?_)
  refine lv_aload_n hx hb dL_law_1302 rfl (lv_at hl 3 rfl) ?_
  refine lv_aload_n hx hb dL_law_1303 rfl (lv_at hl 1 rfl) ?_
  refine lv_iload hx hb dL_law_1304 (lv_at hl 5 rfl) ?_
  refine lv_iconst (v := nI 1) hx hb dL_law_1306 (by decide) ?_
  refine lv_iadd hx hb dL_law_1307 ?_
  refine tp_i (y := nI (k + 1)) (nI_add _ _) ?_
  refine l_sld hx hb hX hbl hbA hS hL9 (show (k + 1) < L by omega) dL_law_1308 ?_
  refine lv_aload_n hx hb dL_law_1309 rfl (lv_at hl 1 rfl) ?_
  refine lv_iload hx hb dL_law_1310 (lv_at hl 5 rfl) ?_
  refine lv_iconst (v := nI 2) hx hb dL_law_1312 (by decide) ?_
  refine lv_iadd hx hb dL_law_1313 ?_
  refine tp_i (y := nI (k + 2)) (nI_add _ _) ?_
  refine l_sld hx hb hX hbl hbA hS hL9 (show (k + 2) < L by omega) dL_law_1314 ?_
  refine jn_V (As := [.int (xs (k + 1)), .int (xs (k + 2))]) (rest := []) C0 hl hK hS hA hmZ (zat hZ hS hAb) (m_isNo l g s.heap.size H1 z0 mc lf dg fs rr V a b n t hT1 hmZ (xs (k + 1)) (xs (k + 2))) gL_law_X4_isNumber rfl ⟨rfl, rfl⟩ (va_recv hK.1 (p1 hT1.1.1) (ci := 5) (q0 := 0) rfl rfl) ⟨rfl, (show hd_ok yX4_isNumber 2 from ⟨by decide, by decide, by decide +kernel⟩)⟩ ⟨Nat.le_trans (Nat.le_of_ble_eq_true rfl) hRf.1, Nat.le_trans (Nat.le_of_ble_eq_true rfl) hRf.2⟩ rfl (Nat.le_of_ble_eq_true rfl) ⟨by omega, by omega⟩ dL_law_1315 (fun r2 H2 locs hv hzz hk2 hS => ?_)
  obtain ⟨fs2, rr2, V2, a2, b2, n2, t2, hP2, hT2⟩ := hv
  have hap1 := ls_mt hK hZ hQ1 hT1
  have hQ2 := hQ1.kept (fun q hq => hk2 q (hQ1.lt q hq) (hap1.2 q hq))
  obtain ⟨⟨k29, rfl⟩, hP2⟩ := hP2
  have eV : V2 = V1 := hP2.1.trans hP1.1.symm
  have en : n2 = n1 := hP2.2.1.trans hP1.2.1.symm
  have et : t2 = t1 := hP2.2.2.trans hP1.2.2.symm
  rw [eV, en, et] at hT2
  refine lv_istore (lv' := [(6, .int k29), (5, .int k19), (0, .ref b9), (1, .ref x0), (2, .ref z0), (3, .ref o0), (4, .int (nI k))]) hx hb dL_law_1318 hl (by decide) rfl (fun ls hl => ?_)
  refine lv_goto (tgt := 1538) hx hb dL_law_1320 (by decide) ?_
  refine W.widen (k := cells + 2087) (n := slots + 9996) (by omega) (by omega) ?_
  exact K ls H2 locs _ _ _ _ _ _ _ _ hQ2 hT2 hS (lv_sub hl [2, 3, 4, 5, 6] rfl)
set_option maxHeartbeats 4000000 in
set_option maxRecDepth 100000 in
theorem lk_23 (C0 : Cx p s m args meth c RL cL_law 7 (some .boolean) wsL_law) (hK : KK g s) (hZ : ZW g s.heap.size s s.heap) (hE : EW s) (hnt : l.stackTraces = false) (hX : va_X b9 L xs s s.heap) (hbl : b9 < s.heap.size) (hL9 : L ≤ 2560) (hk5 : k + 5 ≤ L) (hRc : cells + 2087 ≤ R.cells ∧ slots + 9996 ≤ R.slots) (hRf : 20 ≤ R.frames ∧ 600 ≤ R.locals) (hmL : ∀ q : Nat, mL x0 lc tr tc sr sc o0 q → s.heap.size ≤ q) (hmZ : ∀ q : Nat, zM z0 mc lf dg q → s.heap.size ≤ q) (hQ : LQ g H x0 lc tr tc sr sc o0 V n t v0) (hT : MT g H z0 mc lf dg fs rr V a b n t) (hS : va_S (fun q => s.heap.size ≤ q) s.heap H locs) (hl : lv_has ls 7 [(0, .ref b9), (1, .ref x0), (2, .ref z0), (3, .ref o0), (4, .int (nI k))])
    (K : ∀ (ls : Array Slot) (H : Heap) (locs : List Loc) (V : Nat → Nat) (n : Nat) (t : Nat → Nat) (v0 : Int64) (fs : List Value) (rr : Nat → Nat) (a b : Nat), LQ g H x0 lc tr tc sr sc o0 V n t v0 → MT g H z0 mc lf dg fs rr V a b n t → va_S (fun q => s.heap.size ≤ q) s.heap H locs → lv_has ls 7 [(0, .ref b9), (1, .ref x0), (2, .ref z0), (3, .ref o0), (4, .int (nI k))] → W p l e R s m args below meth c H locs (cells + 2087) (slots + 9996) Q (F0 m 1538 ls [])) : W p l e R s m args below meth c H locs cells slots Q (F0 m 1323 ls []) := by
  obtain ⟨hx, hb, hr, hml, hown, hts, hlk⟩ := id C0
  have hA : ∀ q : Nat, s.heap.size ≤ q → s.heap.size ≤ q := fun q h => h
  have hAb : ∀ q : Nat, s.heap.size ≤ q → s.heap.size ≤ q := fun q h => h
  have hbA : ¬ s.heap.size ≤ b9 := Nat.not_le.mpr hbl
  have hap := ls_mt hK hZ hQ hT
  obtain ⟨⟨i3, i4, i5, i6, hC⟩, ⟨w0, ho⟩, hno⟩ := id hQ
  have hmC : ∀ q : Nat, mC x0 lc tr tc sr sc q → s.heap.size ≤ q := fun q h => hmL q (Or.inl h)
  refine lv_aload_n hx hb dL_law_1323 rfl (lv_at hl 1 rfl) ?_
  refine lv_aload_n hx hb dL_law_1324 rfl (lv_at hl 0 rfl) ?_
  refine lv_iload hx hb dL_law_1325 (lv_at hl 4 rfl) ?_
  refine lv_iconst (v := nI 1) hx hb dL_law_1327 (by decide) ?_
  refine lv_iadd hx hb dL_law_1328 ?_
  refine tp_i (y := nI (k + 1)) (nI_add _ _) ?_
  refine l_sld hx hb hX hbl hbA hS hL9 (show (k + 1) < L by omega) dL_law_1329 ?_
  refine lv_aload_n hx hb dL_law_1330 rfl (lv_at hl 0 rfl) ?_
  refine lv_iload hx hb dL_law_1331 (lv_at hl 4 rfl) ?_
  refine lv_iconst (v := nI 2) hx hb dL_law_1333 (by decide) ?_
  refine lv_iadd hx hb dL_law_1334 ?_
  refine tp_i (y := nI (k + 2)) (nI_add _ _) ?_
  refine l_sld hx hb hX hbl hbA hS hL9 (show (k + 2) < L by omega) dL_law_1335 ?_
  refine lv_aload_n hx hb dL_law_1336 rfl (lv_at hl 0 rfl) ?_
  refine lv_iload hx hb dL_law_1337 (lv_at hl 4 rfl) ?_
  refine lv_iconst (v := nI 3) hx hb dL_law_1339 (by decide) ?_
  refine lv_iadd hx hb dL_law_1340 ?_
  refine tp_i (y := nI (k + 3)) (nI_add _ _) ?_
  refine l_sld hx hb hX hbl hbA hS hL9 (show (k + 3) < L by omega) dL_law_1341 ?_
  refine lw_ne0 hx hb dL_law_1342 dL_law_1345 dL_law_1346 dL_law_1349 ?_
  refine lv_aload_n hx hb dL_law_1350 rfl (lv_at hl 3 rfl) ?_
  refine lx_S (As := [.ref x0, .int (xs (k + 1)), .int (xs (k + 2)), .int (bI (decide (xs (k + 3) ≠ 0))), .ref o0]) (rest := []) (hh := [(0, 13, 16, 29)]) C0 hl hK hS hA hmL (zat hZ hS hAb) hE (s_would l hnt g s.heap.size H x0 lc tr tc sr sc o0 V n t v0 hQ hmL (xs (k + 1)) (xs (k + 2)) (decide (xs (k + 3) ≠ 0))) gL_law_L_would rfl ⟨rfl, rfl⟩ (show hd_ok yL_would 5 from ⟨by decide, by decide, by decide +kernel⟩) ⟨Nat.le_trans (Nat.le_of_ble_eq_true rfl) hRf.1, Nat.le_trans (Nat.le_of_ble_eq_true rfl) hRf.2⟩ rfl (Nat.le_of_ble_eq_true rfl) ⟨by omega, by omega⟩ dL_law_1351 (fun r1 H1 locs hv hzz hk1 hS => ?_)
  obtain ⟨v1, V1, n1, t1, hP1, hQ1⟩ := hv
  have hT1 := hT.keptA (fun q hq => hk1 q (mt_lt hT q hq) (hap.1 q hq))
  obtain ⟨⟨k19, rfl⟩, hP1⟩ := hP1
  refine lv_istore (lv' := [(5, .int k19), (0, .ref b9), (1, .ref x0), (2, .ref z0), (3, .ref o0), (4, .int (nI k))]) hx hb dL_law_1354 hl (by decide) rfl (fun ls hl => ?_)
  refine lv_aload_n hx hb dL_law_1356 rfl (lv_at hl 3 rfl) ?_
  refine lv_aload_n hx hb dL_law_1357 rfl (lv_at hl 1 rfl) ?_
  refine lv_iload hx hb dL_law_1358 (lv_at hl 5 rfl) ?_
  refine lv_iconst (v := nI 1) hx hb dL_law_1360 (by decide) ?_
  refine lv_iadd hx hb dL_law_1361 ?_
  refine tp_i (y := nI (k + 1)) (nI_add _ _) ?_
  refine l_sld hx hb hX hbl hbA hS hL9 (show (k + 1) < L by omega) dL_law_1362 ?_
  refine lv_aload_n hx hb dL_law_1363 rfl (lv_at hl 1 rfl) ?_
  refine lv_iload hx hb dL_law_1364 (lv_at hl 5 rfl) ?_
  refine lv_iconst (v := nI 2) hx hb dL_law_1366 (by decide) ?_
  refine lv_iadd hx hb dL_law_1367 ?_
  refine tp_i (y := nI (k + 2)) (nI_add _ _) ?_
  refine l_sld hx hb hX hbl hbA hS hL9 (show (k + 2) < L by omega) dL_law_1368 ?_
  refine lv_aload_n hx hb dL_law_1369 rfl (lv_at hl 1 rfl) ?_
  refine lv_iload hx hb dL_law_1370 (lv_at hl 5 rfl) ?_
  refine lv_iconst (v := nI 3) hx hb dL_law_1372 (by decide) ?_
  refine lv_iadd hx hb dL_law_1373 ?_
  refine tp_i (y := nI (k + 3)) (nI_add _ _) ?_
  refine l_sld hx hb hX hbl hbA hS hL9 (show (k + 3) < L by omega) dL_law_1374 ?_
  refine lw_ne0 hx hb dL_law_1375 dL_law_1378 dL_law_1379 dL_law_1382 ?_
  refine jn_V (As := [.int (xs (k + 1)), .int (xs (k + 2)), .int (bI (decide (xs (k + 3) ≠ 0)))]) (rest := []) C0 hl hK hS hA hmZ (zat hZ hS hAb) (m_would l g s.heap.size H1 z0 mc lf dg fs rr V a b n t hT1 hmZ (xs (k + 1)) (xs (k + 2)) (decide (xs (k + 3) ≠ 0))) gL_law_X4_would rfl ⟨rfl, rfl⟩ (va_recv hK.1 (p1 hT1.1.1) (ci := 5) (q0 := 0) rfl rfl) ⟨rfl, (show hd_ok yX4_would 3 from ⟨by decide, by decide, by decide +kernel⟩)⟩ ⟨Nat.le_trans (Nat.le_of_ble_eq_true rfl) hRf.1, Nat.le_trans (Nat.le_of_ble_eq_true rfl) hRf.2⟩ rfl (Nat.le_of_ble_eq_true rfl) ⟨by omega, by omega⟩ dL_law_1383 (fun r2 H2 locs hv hzz hk2 hS => ?_)
  obtain ⟨fs2, rr2, V2, a2, b2, n2, t2, hP2, hT2⟩ := hv
  have hap1 := ls_mt hK hZ hQ1 hT1
  have hQ2 := hQ1.kept (fun q hq => hk2 q (hQ1.lt q hq) (hap1.2 q hq))
  obtain ⟨⟨k29, rfl⟩, hP2⟩ := hP2
  have eV : V2 = V1 := hP2.1.trans hP1.1.symm
  have en : n2 = n1 := hP2.2.1.trans hP1.2.1.symm
  have et : t2 = t1 := hP2.2.2.trans hP1.2.2.symm
  rw [eV, en, et] at hT2
  refine lv_istore (lv' := [(6, .int k29), (5, .int k19), (0, .ref b9), (1, .ref x0), (2, .ref z0), (3, .ref o0), (4, .int (nI k))]) hx hb dL_law_1386 hl (by decide) rfl (fun ls hl => ?_)
  refine lv_goto (tgt := 1538) hx hb dL_law_1388 (by decide) ?_
  refine W.widen (k := cells + 2087) (n := slots + 9996) (by omega) (by omega) ?_
  exact K ls H2 locs _ _ _ _ _ _ _ _ hQ2 hT2 hS (lv_sub hl [2, 3, 4, 5, 6] rfl)
set_option maxHeartbeats 4000000 in
set_option maxRecDepth 100000 in
theorem lk_24 (C0 : Cx p s m args meth c RL cL_law 7 (some .boolean) wsL_law) (hK : KK g s) (hZ : ZW g s.heap.size s s.heap) (hE : EW s) (hnt : l.stackTraces = false) (hX : va_X b9 L xs s s.heap) (hbl : b9 < s.heap.size) (hL9 : L ≤ 2560) (hk5 : k + 5 ≤ L) (hRc : cells + 2087 ≤ R.cells ∧ slots + 9996 ≤ R.slots) (hRf : 20 ≤ R.frames ∧ 600 ≤ R.locals) (hmL : ∀ q : Nat, mL x0 lc tr tc sr sc o0 q → s.heap.size ≤ q) (hmZ : ∀ q : Nat, zM z0 mc lf dg q → s.heap.size ≤ q) (hQ : LQ g H x0 lc tr tc sr sc o0 V n t v0) (hT : MT g H z0 mc lf dg fs rr V a b n t) (hS : va_S (fun q => s.heap.size ≤ q) s.heap H locs) (hl : lv_has ls 7 [(0, .ref b9), (1, .ref x0), (2, .ref z0), (3, .ref o0), (4, .int (nI k))])
    (K : ∀ (ls : Array Slot) (H : Heap) (locs : List Loc) (V : Nat → Nat) (n : Nat) (t : Nat → Nat) (v0 : Int64) (fs : List Value) (rr : Nat → Nat) (a b : Nat), LQ g H x0 lc tr tc sr sc o0 V n t v0 → MT g H z0 mc lf dg fs rr V a b n t → va_S (fun q => s.heap.size ≤ q) s.heap H locs → lv_has ls 7 [(0, .ref b9), (1, .ref x0), (2, .ref z0), (3, .ref o0), (4, .int (nI k))] → W p l e R s m args below meth c H locs (cells + 2087) (slots + 9996) Q (F0 m 1538 ls [])) : W p l e R s m args below meth c H locs cells slots Q (F0 m 1391 ls []) := by
  obtain ⟨hx, hb, hr, hml, hown, hts, hlk⟩ := id C0
  have hA : ∀ q : Nat, s.heap.size ≤ q → s.heap.size ≤ q := fun q h => h
  have hAb : ∀ q : Nat, s.heap.size ≤ q → s.heap.size ≤ q := fun q h => h
  have hbA : ¬ s.heap.size ≤ b9 := Nat.not_le.mpr hbl
  have hap := ls_mt hK hZ hQ hT
  obtain ⟨⟨i3, i4, i5, i6, hC⟩, ⟨w0, ho⟩, hno⟩ := id hQ
  have hmC : ∀ q : Nat, mC x0 lc tr tc sr sc q → s.heap.size ≤ q := fun q h => hmL q (Or.inl h)
  refine lv_aload_n hx hb dL_law_1391 rfl (lv_at hl 1 rfl) ?_
  refine lv_aload_n hx hb dL_law_1392 rfl (lv_at hl 0 rfl) ?_
  refine lv_iload hx hb dL_law_1393 (lv_at hl 4 rfl) ?_
  refine lv_iconst (v := nI 1) hx hb dL_law_1395 (by decide) ?_
  refine lv_iadd hx hb dL_law_1396 ?_
  refine tp_i (y := nI (k + 1)) (nI_add _ _) ?_
  refine l_sld hx hb hX hbl hbA hS hL9 (show (k + 1) < L by omega) dL_law_1397 ?_
  refine lv_aload_n hx hb dL_law_1398 rfl (lv_at hl 0 rfl) ?_
  refine lv_iload hx hb dL_law_1399 (lv_at hl 4 rfl) ?_
  refine lv_iconst (v := nI 2) hx hb dL_law_1401 (by decide) ?_
  refine lv_iadd hx hb dL_law_1402 ?_
  refine tp_i (y := nI (k + 2)) (nI_add _ _) ?_
  refine l_sld hx hb hX hbl hbA hS hL9 (show (k + 2) < L by omega) dL_law_1403 ?_
  refine lv_aload_n hx hb dL_law_1404 rfl (lv_at hl 0 rfl) ?_
  refine lv_iload hx hb dL_law_1405 (lv_at hl 4 rfl) ?_
  refine lv_iconst (v := nI 3) hx hb dL_law_1407 (by decide) ?_
  refine lv_iadd hx hb dL_law_1408 ?_
  refine tp_i (y := nI (k + 3)) (nI_add _ _) ?_
  refine l_sld hx hb hX hbl hbA hS hL9 (show (k + 3) < L by omega) dL_law_1409 ?_
  refine lv_aload_n hx hb dL_law_1410 rfl (lv_at hl 3 rfl) ?_
  refine lx_S (As := [.ref x0, .int (xs (k + 1)), .int (xs (k + 2)), .int (xs (k + 3)), .ref o0]) (rest := []) (hh := [(0, 12, 15, 19), (0, 12, 19, 29)]) C0 hl hK hS hA hmL (zat hZ hS hAb) hE (s_written l hnt g s.heap.size H x0 lc tr tc sr sc o0 V n t v0 hQ hmL (xs (k + 1)) (xs (k + 2)) (xs (k + 3))) gL_law_L_written rfl ⟨rfl, rfl⟩ (show hd_ok yL_written 5 from ⟨by decide, by decide, by decide +kernel⟩) ⟨Nat.le_trans (Nat.le_of_ble_eq_true rfl) hRf.1, Nat.le_trans (Nat.le_of_ble_eq_true rfl) hRf.2⟩ rfl (Nat.le_of_ble_eq_true rfl) ⟨by omega, by omega⟩ dL_law_1411 (fun r1 H1 locs hv hzz hk1 hS => ?_)
  obtain ⟨v1, V1, n1, t1, hP1, hQ1⟩ := hv
  have hT1 := hT.keptA (fun q hq => hk1 q (mt_lt hT q hq) (hap.1 q hq))
  obtain ⟨⟨k19, rfl⟩, hP1⟩ := hP1
  refine lv_istore (lv' := [(5, .int k19), (0, .ref b9), (1, .ref x0), (2, .ref z0), (3, .ref o0), (4, .int (nI k))]) hx hb dL_law_1414 hl (by decide) rfl (fun ls hl => ?_)
  refine lv_aload_n hx hb dL_law_1416 rfl (lv_at hl 3 rfl) ?_
  refine lv_aload_n hx hb dL_law_1417 rfl (lv_at hl 1 rfl) ?_
  refine lv_iload hx hb dL_law_1418 (lv_at hl 5 rfl) ?_
  refine lv_iconst (v := nI 1) hx hb dL_law_1420 (by decide) ?_
  refine lv_iadd hx hb dL_law_1421 ?_
  refine tp_i (y := nI (k + 1)) (nI_add _ _) ?_
  refine l_sld hx hb hX hbl hbA hS hL9 (show (k + 1) < L by omega) dL_law_1422 ?_
  refine lv_aload_n hx hb dL_law_1423 rfl (lv_at hl 1 rfl) ?_
  refine lv_iload hx hb dL_law_1424 (lv_at hl 5 rfl) ?_
  refine lv_iconst (v := nI 2) hx hb dL_law_1426 (by decide) ?_
  refine lv_iadd hx hb dL_law_1427 ?_
  refine tp_i (y := nI (k + 2)) (nI_add _ _) ?_
  refine l_sld hx hb hX hbl hbA hS hL9 (show (k + 2) < L by omega) dL_law_1428 ?_
  refine lv_aload_n hx hb dL_law_1429 rfl (lv_at hl 1 rfl) ?_
  refine lv_iload hx hb dL_law_1430 (lv_at hl 5 rfl) ?_
  refine lv_iconst (v := nI 3) hx hb dL_law_1432 (by decide) ?_
  refine lv_iadd hx hb dL_law_1433 ?_
  refine tp_i (y := nI (k + 3)) (nI_add _ _) ?_
  refine l_sld hx hb hX hbl hbA hS hL9 (show (k + 3) < L by omega) dL_law_1434 ?_
  refine jn_V (As := [.int (xs (k + 1)), .int (xs (k + 2)), .int (xs (k + 3))]) (rest := []) C0 hl hK hS hA hmZ (zat hZ hS hAb) (m_written l g s.heap.size H1 z0 mc lf dg fs rr V a b n t hT1 hmZ (xs (k + 1)) (xs (k + 2)) (xs (k + 3))) gL_law_X4_written rfl ⟨rfl, rfl⟩ (va_recv hK.1 (p1 hT1.1.1) (ci := 5) (q0 := 0) rfl rfl) ⟨rfl, (show hd_ok yX4_written 3 from ⟨by decide, by decide, by decide +kernel⟩)⟩ ⟨Nat.le_trans (Nat.le_of_ble_eq_true rfl) hRf.1, Nat.le_trans (Nat.le_of_ble_eq_true rfl) hRf.2⟩ rfl (Nat.le_of_ble_eq_true rfl) ⟨by omega, by omega⟩ dL_law_1435 (fun r2 H2 locs hv hzz hk2 hS => ?_)
  obtain ⟨fs2, rr2, V2, a2, b2, n2, t2, hP2, hT2⟩ := hv
  have hap1 := ls_mt hK hZ hQ1 hT1
  have hQ2 := hQ1.kept (fun q hq => hk2 q (hQ1.lt q hq) (hap1.2 q hq))
  obtain ⟨⟨k29, rfl⟩, hP2⟩ := hP2
  have eV : V2 = V1 := hP2.1.trans hP1.1.symm
  have en : n2 = n1 := hP2.2.1.trans hP1.2.1.symm
  have et : t2 = t1 := hP2.2.2.trans hP1.2.2.symm
  rw [eV, en, et] at hT2
  refine lv_astore (lv' := [(6, .ref k29), (5, .int k19), (0, .ref b9), (1, .ref x0), (2, .ref z0), (3, .ref o0), (4, .int (nI k))]) hx hb dL_law_1438 hl (by decide) rfl (fun ls hl => ?_)
  refine lv_goto (tgt := 1538) hx hb dL_law_1440 (by decide) ?_
  refine W.widen (k := cells + 2087) (n := slots + 9996) (by omega) (by omega) ?_
  exact K ls H2 locs _ _ _ _ _ _ _ _ hQ2 hT2 hS (lv_sub hl [2, 3, 4, 5, 6] rfl)
set_option maxHeartbeats 4000000 in
set_option maxRecDepth 100000 in
theorem lk_25 (C0 : Cx p s m args meth c RL cL_law 7 (some .boolean) wsL_law) (hK : KK g s) (hZ : ZW g s.heap.size s s.heap) (hE : EW s) (hnt : l.stackTraces = false) (hX : va_X b9 L xs s s.heap) (hbl : b9 < s.heap.size) (hL9 : L ≤ 2560) (hk5 : k + 5 ≤ L) (hRc : cells + 2087 ≤ R.cells ∧ slots + 9996 ≤ R.slots) (hRf : 20 ≤ R.frames ∧ 600 ≤ R.locals) (hmL : ∀ q : Nat, mL x0 lc tr tc sr sc o0 q → s.heap.size ≤ q) (hmZ : ∀ q : Nat, zM z0 mc lf dg q → s.heap.size ≤ q) (hQ : LQ g H x0 lc tr tc sr sc o0 V n t v0) (hT : MT g H z0 mc lf dg fs rr V a b n t) (hS : va_S (fun q => s.heap.size ≤ q) s.heap H locs) (hl : lv_has ls 7 [(0, .ref b9), (1, .ref x0), (2, .ref z0), (3, .ref o0), (4, .int (nI k))])
    (K : ∀ (ls : Array Slot) (H : Heap) (locs : List Loc) (V : Nat → Nat) (n : Nat) (t : Nat → Nat) (v0 : Int64) (fs : List Value) (rr : Nat → Nat) (a b : Nat), LQ g H x0 lc tr tc sr sc o0 V n t v0 → MT g H z0 mc lf dg fs rr V a b n t → va_S (fun q => s.heap.size ≤ q) s.heap H locs → lv_has ls 7 [(0, .ref b9), (1, .ref x0), (2, .ref z0), (3, .ref o0), (4, .int (nI k))] → W p l e R s m args below meth c H locs (cells + 2087) (slots + 9996) Q (F0 m 1538 ls [])) : W p l e R s m args below meth c H locs cells slots Q (F0 m 1443 ls []) := by
  obtain ⟨hx, hb, hr, hml, hown, hts, hlk⟩ := id C0
  have hA : ∀ q : Nat, s.heap.size ≤ q → s.heap.size ≤ q := fun q h => h
  have hAb : ∀ q : Nat, s.heap.size ≤ q → s.heap.size ≤ q := fun q h => h
  have hbA : ¬ s.heap.size ≤ b9 := Nat.not_le.mpr hbl
  have hap := ls_mt hK hZ hQ hT
  obtain ⟨⟨i3, i4, i5, i6, hC⟩, ⟨w0, ho⟩, hno⟩ := id hQ
  have hmC : ∀ q : Nat, mC x0 lc tr tc sr sc q → s.heap.size ≤ q := fun q h => hmL q (Or.inl h)
  refine lv_aload_n hx hb dL_law_1443 rfl (lv_at hl 1 rfl) ?_
  refine lv_aload_n hx hb dL_law_1444 rfl (lv_at hl 0 rfl) ?_
  refine lv_iload hx hb dL_law_1445 (lv_at hl 4 rfl) ?_
  refine lv_iconst (v := nI 1) hx hb dL_law_1447 (by decide) ?_
  refine lv_iadd hx hb dL_law_1448 ?_
  refine tp_i (y := nI (k + 1)) (nI_add _ _) ?_
  refine l_sld hx hb hX hbl hbA hS hL9 (show (k + 1) < L by omega) dL_law_1449 ?_
  refine lv_aload_n hx hb dL_law_1450 rfl (lv_at hl 0 rfl) ?_
  refine lv_iload hx hb dL_law_1451 (lv_at hl 4 rfl) ?_
  refine lv_iconst (v := nI 2) hx hb dL_law_1453 (by decide) ?_
  refine lv_iadd hx hb dL_law_1454 ?_
  refine tp_i (y := nI (k + 2)) (nI_add _ _) ?_
  refine l_sld hx hb hX hbl hbA hS hL9 (show (k + 2) < L by omega) dL_law_1455 ?_
  refine lv_aload_n hx hb dL_law_1456 rfl (lv_at hl 3 rfl) ?_
  refine lx_S (As := [.ref x0, .int (xs (k + 1)), .int (xs (k + 2)), .ref o0]) (rest := []) (hh := [(0, 11, 14, 29)]) C0 hl hK hS hA hmL (zat hZ hS hAb) hE (s_sameE l hnt g s.heap.size H x0 lc tr tc sr sc o0 V n t v0 hQ hmL (xs (k + 1)) (xs (k + 2))) gL_law_L_same rfl ⟨rfl, rfl⟩ (show hd_ok yL_same 4 from ⟨by decide, by decide, by decide +kernel⟩) ⟨Nat.le_trans (Nat.le_of_ble_eq_true rfl) hRf.1, Nat.le_trans (Nat.le_of_ble_eq_true rfl) hRf.2⟩ rfl (Nat.le_of_ble_eq_true rfl) ⟨by omega, by omega⟩ dL_law_1457 (fun r1 H1 locs hv hzz hk1 hS => ?_)
  obtain ⟨v1, V1, n1, t1, hP1, hQ1⟩ := hv
  have hT1 := hT.keptA (fun q hq => hk1 q (mt_lt hT q hq) (hap.1 q hq))
  obtain ⟨k1, hk1_, hr1⟩ := k_same hP1.2.2.2
  subst hr1
  refine lv_istore (lv' := [(5, .int (nI k1)), (0, .ref b9), (1, .ref x0), (2, .ref z0), (3, .ref o0), (4, .int (nI k))]) hx hb dL_law_1460 hl (by decide) rfl (fun ls hl => ?_)
  refine lv_aload_n hx hb dL_law_1462 rfl (lv_at hl 3 rfl) ?_
  refine lv_aload_n hx hb dL_law_1463 rfl (lv_at hl 1 rfl) ?_
  refine lv_iload hx hb dL_law_1464 (lv_at hl 5 rfl) ?_
  refine lv_iconst (v := nI 1) hx hb dL_law_1466 (by decide) ?_
  refine lv_iadd hx hb dL_law_1467 ?_
  refine tp_i (y := nI (k + 1)) (nI_add _ _) ?_
  refine l_sld hx hb hX hbl hbA hS hL9 (show (k + 1) < L by omega) dL_law_1468 ?_
  refine lv_aload_n hx hb dL_law_1469 rfl (lv_at hl 1 rfl) ?_
  refine lv_iload hx hb dL_law_1470 (lv_at hl 5 rfl) ?_
  refine lv_iconst (v := nI 2) hx hb dL_law_1472 (by decide) ?_
  refine lv_iadd hx hb dL_law_1473 ?_
  refine tp_i (y := nI (k + 2)) (nI_add _ _) ?_
  refine l_sld hx hb hX hbl hbA hS hL9 (show (k + 2) < L by omega) dL_law_1474 ?_
  refine jn_V (As := [.int (xs (k + 1)), .int (xs (k + 2))]) (rest := []) C0 hl hK hS hA hmZ (zat hZ hS hAb) (c_sameE l g s.heap.size H1 z0 mc lf dg fs rr V a b n t hT1 hmZ (xs (k + 1)) (xs (k + 2))) gL_law_X4_same rfl ⟨rfl, rfl⟩ (va_recv hK.1 (p1 hT1.1.1) (ci := 5) (q0 := 0) rfl rfl) ⟨rfl, (show hd_ok yX4_same 2 from ⟨by decide, by decide, by decide +kernel⟩)⟩ ⟨Nat.le_trans (Nat.le_of_ble_eq_true rfl) hRf.1, Nat.le_trans (Nat.le_of_ble_eq_true rfl) hRf.2⟩ rfl (Nat.le_of_ble_eq_true rfl) ⟨by omega, by omega⟩ dL_law_1475 (fun r2 H2 locs hv hzz hk2 hS => ?_)
  obtain ⟨fs2, rr2, V2, a2, b2, n2, t2, hP2, hT2⟩ := hv
  have hap1 := ls_mt hK hZ hQ1 hT1
  have hQ2 := hQ1.kept (fun q hq => hk2 q (hQ1.lt q hq) (hap1.2 q hq))
  have eV : V2 = V1 := hP2.1.trans hP1.1.symm
  have en : n2 = n1 := hP2.2.1.trans hP1.2.1.symm
  have et : t2 = t1 := hP2.2.2.1.trans hP1.2.2.1.symm
  rw [eV, en, et] at hT2
  obtain ⟨hf2, yb9, hr2, hv9⟩ := ag_same hP1.2.2.2 hP2.2.2.2 hk1_ rfl
  subst hr2
  refine lv_istore (lv' := [(6, .int yb9), (5, .int (nI k1)), (0, .ref b9), (1, .ref x0), (2, .ref z0), (3, .ref o0), (4, .int (nI k))]) hx hb dL_law_1478 hl (by decide) rfl (fun ls hl => ?_)
  refine lv_aload_n hx hb dL_law_1480 rfl (lv_at hl 4 rfl) ?_
  refine cp_V (As := []) (rest := []) C0 hl hK hS hA (c_thrown l g H2 z0 (nI k1) fs2 hT2.1.1 hf2) gL_law_X4_thrown rfl ⟨rfl, rfl⟩ (va_recv hK.1 (p1 hT2.1.1) (ci := 5) (q0 := 0) rfl rfl) ⟨rfl, (show hd_ok yX4_thrown 0 from ⟨by decide, by decide, by decide +kernel⟩)⟩ ⟨Nat.le_trans (Nat.le_of_ble_eq_true rfl) hRf.1, Nat.le_trans (Nat.le_of_ble_eq_true rfl) hRf.2⟩ rfl (Nat.le_of_ble_eq_true rfl) ⟨by omega, by omega⟩ dL_law_1481 (fun locs hS => ?_)
  refine lv_iload hx hb dL_law_1484 (lv_at hl 1 rfl) ?_
  refine lv_icmp_eq (tgt := 1491) hx hb dL_law_1486 (by decide) (fun h1 => ?_) (fun h1 => absurd rfl h1)
  refine lv_iload hx hb dL_law_1491 (lv_at hl 1 rfl) ?_
  refine lv_if_ne (tgt := 1509) hx hb dL_law_1493 (by decide) (fun h2 => ?_) (fun h2 => ?_)
  · skip
    refine lv_goto (tgt := 1538) hx hb dL_law_1509 (by decide) ?_
    refine W.widen (k := cells + 2087) (n := slots + 9996) (by omega) (by omega) ?_
    exact K ls H2 locs _ _ _ _ _ _ _ _ hQ2 hT2 hS (lv_sub hl [2, 3, 4, 5, 6] rfl)
  · skip
    have hk0 : k1 = 0 := nI_inj (by omega) (by decide) h2
    refine lv_aload_n hx hb dL_law_1496 rfl (lv_at hl 5 rfl) ?_
    obtain ⟨-, ⟨w2, ho2⟩, -⟩ := id hQ2
    refine va_getN (ci := 4) (C := RX3) (T := TX3) (N := 2) (v := .long v1) hx hb hts (by decide +kernel) hown hK.1 (p1 ho2) 0 rfl rfl 0 (by decide) (va_Nw.use rfl hZ.2.2.2.2.2.1.2.2.2.2.1) (fun _ h9 => h9) rfl dL_law_1497 ?_
    refine lv_iload hx hb dL_law_1500 (lv_at hl 0 rfl) ?_
    refine lv_i2l (v := yb9.toInt64) hx hb dL_law_1502 (rfl) ?_
    refine W.lcmp hx hb dL_law_1503 ?_
    refine lv_if_eq (tgt := 1509) hx hb dL_law_1504 (by decide) (fun h3 => ?_) (fun h3 => absurd (hv9 hk0) (lc_ne h3))
    refine lv_goto (tgt := 1538) hx hb dL_law_1509 (by decide) ?_
    refine W.widen (k := cells + 2087) (n := slots + 9996) (by omega) (by omega) ?_
    exact K ls H2 locs _ _ _ _ _ _ _ _ hQ2 hT2 hS (lv_sub hl [2, 3, 4, 5, 6] rfl)
set_option maxHeartbeats 4000000 in
set_option maxRecDepth 100000 in
theorem lk_26 (C0 : Cx p s m args meth c RL cL_law 7 (some .boolean) wsL_law) (hK : KK g s) (hZ : ZW g s.heap.size s s.heap) (hE : EW s) (hnt : l.stackTraces = false) (hX : va_X b9 L xs s s.heap) (hbl : b9 < s.heap.size) (hL9 : L ≤ 2560) (hk5 : k + 5 ≤ L) (hRc : cells + 2087 ≤ R.cells ∧ slots + 9996 ≤ R.slots) (hRf : 20 ≤ R.frames ∧ 600 ≤ R.locals) (hmL : ∀ q : Nat, mL x0 lc tr tc sr sc o0 q → s.heap.size ≤ q) (hmZ : ∀ q : Nat, zM z0 mc lf dg q → s.heap.size ≤ q) (hQ : LQ g H x0 lc tr tc sr sc o0 V n t v0) (hT : MT g H z0 mc lf dg fs rr V a b n t) (hS : va_S (fun q => s.heap.size ≤ q) s.heap H locs) (hl : lv_has ls 7 [(0, .ref b9), (1, .ref x0), (2, .ref z0), (3, .ref o0), (4, .int (nI k))])
    (K : ∀ (ls : Array Slot) (H : Heap) (locs : List Loc) (V : Nat → Nat) (n : Nat) (t : Nat → Nat) (v0 : Int64) (fs : List Value) (rr : Nat → Nat) (a b : Nat), LQ g H x0 lc tr tc sr sc o0 V n t v0 → MT g H z0 mc lf dg fs rr V a b n t → va_S (fun q => s.heap.size ≤ q) s.heap H locs → lv_has ls 7 [(0, .ref b9), (1, .ref x0), (2, .ref z0), (3, .ref o0), (4, .int (nI k))] → W p l e R s m args below meth c H locs (cells + 2087) (slots + 9996) Q (F0 m 1538 ls [])) : W p l e R s m args below meth c H locs cells slots Q (F0 m 1512 ls []) := by
  obtain ⟨hx, hb, hr, hml, hown, hts, hlk⟩ := id C0
  have hA : ∀ q : Nat, s.heap.size ≤ q → s.heap.size ≤ q := fun q h => h
  have hAb : ∀ q : Nat, s.heap.size ≤ q → s.heap.size ≤ q := fun q h => h
  have hbA : ¬ s.heap.size ≤ b9 := Nat.not_le.mpr hbl
  have hap := ls_mt hK hZ hQ hT
  obtain ⟨⟨i3, i4, i5, i6, hC⟩, ⟨w0, ho⟩, hno⟩ := id hQ
  have hmC : ∀ q : Nat, mC x0 lc tr tc sr sc q → s.heap.size ≤ q := fun q h => hmL q (Or.inl h)
  refine lv_aload_n hx hb dL_law_1512 rfl (lv_at hl 1 rfl) ?_
  refine jn_V (As := []) (rest := []) C0 hl hK hS hA hmC (zat hZ hS hAb) (c_xSound l g s.heap.size H x0 lc tr tc sr sc i3 i4 i5 i6 V n t hC hmC) gL_law_X2_isSound rfl ⟨rfl, rfl⟩ (hC.1.recv hK) ⟨rfl, (show hd_ok yX2_isSound 0 from ⟨by decide, by decide, by decide +kernel⟩)⟩ ⟨Nat.le_trans (Nat.le_of_ble_eq_true rfl) hRf.1, Nat.le_trans (Nat.le_of_ble_eq_true rfl) hRf.2⟩ rfl (Nat.le_of_ble_eq_true rfl) ⟨by omega, by omega⟩ dL_law_1513 (fun r1 H1 locs hv hzz hk1 hS => ?_)
  obtain ⟨j3, j4, j5, j6, V1, n1, t1, hP1, hC1⟩ := hv
  have hQ1 : LQ g H1 x0 lc tr tc sr sc o0 V1 n1 t1 v0 := ⟨⟨_, _, _, _, hC1⟩, ⟨_, ho.kept (hk1 _ ho.lt hno)⟩, hno⟩
  have hT1 := hT.keptA (fun q hq => hk1 q (mt_lt hT q hq) (fun z => hap.1 q hq (Or.inl z)))
  obtain ⟨⟨k19, rfl⟩, hP1⟩ := hP1
  refine lv_pop hx hb dL_law_1516 rfl ?_
  refine lv_aload_n hx hb dL_law_1517 rfl (lv_at hl 2 rfl) ?_
  have hV4 : ∀ i, i < 8 → V i < 65536 ^ 4 := fun i hi => (hT.1.2.2.2.2.2.2.1 i hi).2.1
  refine cn_V (As := []) (rest := []) C0 hl hK hS hA hmZ (m_isSound l g H1 z0 mc lf dg fs rr V a b n t hT1 1908 (scost_le hV4)) gL_law_X4_isSound rfl ⟨rfl, rfl⟩ (va_recv hK.1 (p1 hT1.1.1) (ci := 5) (q0 := 0) rfl rfl) ⟨rfl, (show hd_ok yX4_isSound 0 from ⟨by decide, by decide, by decide +kernel⟩)⟩ ⟨Nat.le_trans (Nat.le_of_ble_eq_true rfl) hRf.1, Nat.le_trans (Nat.le_of_ble_eq_true rfl) hRf.2⟩ rfl (Nat.le_of_ble_eq_true rfl) ⟨by omega, by omega⟩ dL_law_1518 (fun r2 H2 locs hv hzz hk2 hS => ?_)
  obtain ⟨fs2, rr2, V2, a2, b2, n2, t2, hP2, hT2⟩ := hv
  have hap1 := ls_mt hK hZ hQ1 hT1
  have hQ2 := hQ1.kept (fun q hq => hk2 q (hQ1.lt q hq) (hap1.2 q hq))
  obtain ⟨⟨k29, rfl⟩, hP2⟩ := hP2
  have eV : V2 = V1 := hP2.1.trans hP1.1.symm
  have en : n2 = n1 := hP2.2.1.trans hP1.2.1.symm
  have et : t2 = t1 := hP2.2.2.trans hP1.2.2.symm
  rw [eV, en, et] at hT2
  refine lv_pop hx hb dL_law_1521 rfl ?_
  refine lv_goto (tgt := 1538) hx hb dL_law_1522 (by decide) ?_
  refine W.widen (k := cells + 2087) (n := slots + 9996) (by omega) (by omega) ?_
  exact K ls H2 locs _ _ _ _ _ _ _ _ hQ2 hT2 hS (lv_sub hl [0, 1, 2, 3, 4] rfl)
set_option maxHeartbeats 4000000 in
set_option maxRecDepth 100000 in
theorem lk_27 (C0 : Cx p s m args meth c RL cL_law 7 (some .boolean) wsL_law) (hK : KK g s) (hZ : ZW g s.heap.size s s.heap) (hE : EW s) (hnt : l.stackTraces = false) (hX : va_X b9 L xs s s.heap) (hbl : b9 < s.heap.size) (hL9 : L ≤ 2560) (hk5 : k + 5 ≤ L) (hRc : cells + 2087 ≤ R.cells ∧ slots + 9996 ≤ R.slots) (hRf : 20 ≤ R.frames ∧ 600 ≤ R.locals) (hmL : ∀ q : Nat, mL x0 lc tr tc sr sc o0 q → s.heap.size ≤ q) (hmZ : ∀ q : Nat, zM z0 mc lf dg q → s.heap.size ≤ q) (hQ : LQ g H x0 lc tr tc sr sc o0 V n t v0) (hT : MT g H z0 mc lf dg fs rr V a b n t) (hS : va_S (fun q => s.heap.size ≤ q) s.heap H locs) (hl : lv_has ls 7 [(0, .ref b9), (1, .ref x0), (2, .ref z0), (3, .ref o0), (4, .int (nI k))])
    (K : ∀ (ls : Array Slot) (H : Heap) (locs : List Loc) (V : Nat → Nat) (n : Nat) (t : Nat → Nat) (v0 : Int64) (fs : List Value) (rr : Nat → Nat) (a b : Nat), LQ g H x0 lc tr tc sr sc o0 V n t v0 → MT g H z0 mc lf dg fs rr V a b n t → va_S (fun q => s.heap.size ≤ q) s.heap H locs → lv_has ls 7 [(0, .ref b9), (1, .ref x0), (2, .ref z0), (3, .ref o0), (4, .int (nI k))] → W p l e R s m args below meth c H locs (cells + 2087) (slots + 9996) Q (F0 m 1538 ls [])) : W p l e R s m args below meth c H locs cells slots Q (F0 m 1525 ls []) := by
  obtain ⟨hx, hb, hr, hml, hown, hts, hlk⟩ := id C0
  have hA : ∀ q : Nat, s.heap.size ≤ q → s.heap.size ≤ q := fun q h => h
  have hAb : ∀ q : Nat, s.heap.size ≤ q → s.heap.size ≤ q := fun q h => h
  have hbA : ¬ s.heap.size ≤ b9 := Nat.not_le.mpr hbl
  have hap := ls_mt hK hZ hQ hT
  obtain ⟨⟨i3, i4, i5, i6, hC⟩, ⟨w0, ho⟩, hno⟩ := id hQ
  have hmC : ∀ q : Nat, mC x0 lc tr tc sr sc q → s.heap.size ≤ q := fun q h => hmL q (Or.inl h)
  refine lv_aload_n hx hb dL_law_1525 rfl (lv_at hl 1 rfl) ?_
  refine jn_V (As := []) (rest := []) C0 hl hK hS hA hmC (zat hZ hS hAb) (c_xDigest l g s.heap.size H x0 lc tr tc sr sc i3 i4 i5 i6 V n t hC hmC) gL_law_X2_digest rfl ⟨rfl, rfl⟩ (hC.1.recv hK) ⟨rfl, (show hd_ok yX2_digest 0 from ⟨by decide, by decide, by decide +kernel⟩)⟩ ⟨Nat.le_trans (Nat.le_of_ble_eq_true rfl) hRf.1, Nat.le_trans (Nat.le_of_ble_eq_true rfl) hRf.2⟩ rfl (Nat.le_of_ble_eq_true rfl) ⟨by omega, by omega⟩ dL_law_1526 (fun r1 H1 locs hv hzz hk1 hS => ?_)
  obtain ⟨j3, j4, j5, j6, V1, n1, t1, hP1, hC1⟩ := hv
  have hQ1 : LQ g H1 x0 lc tr tc sr sc o0 V1 n1 t1 v0 := ⟨⟨_, _, _, _, hC1⟩, ⟨_, ho.kept (hk1 _ ho.lt hno)⟩, hno⟩
  have hT1 := hT.keptA (fun q hq => hk1 q (mt_lt hT q hq) (fun z => hap.1 q hq (Or.inl z)))
  obtain ⟨⟨k19, rfl⟩, hP1⟩ := hP1
  refine lv_pop2_2 hx hb dL_law_1529 rfl ?_
  refine lv_aload_n hx hb dL_law_1530 rfl (lv_at hl 2 rfl) ?_
  refine jn_V (As := []) (rest := []) C0 hl hK hS hA hmZ (zat hZ hS hAb) (m_digest l g s.heap.size H1 z0 mc lf dg fs rr V a b n t hT1 hmZ ) gL_law_X4_digest rfl ⟨rfl, rfl⟩ (va_recv hK.1 (p1 hT1.1.1) (ci := 5) (q0 := 0) rfl rfl) ⟨rfl, (show hd_ok yX4_digest 0 from ⟨by decide, by decide, by decide +kernel⟩)⟩ ⟨Nat.le_trans (Nat.le_of_ble_eq_true rfl) hRf.1, Nat.le_trans (Nat.le_of_ble_eq_true rfl) hRf.2⟩ rfl (Nat.le_of_ble_eq_true rfl) ⟨by omega, by omega⟩ dL_law_1531 (fun r2 H2 locs hv hzz hk2 hS => ?_)
  obtain ⟨fs2, rr2, V2, a2, b2, n2, t2, hP2, hT2⟩ := hv
  have hap1 := ls_mt hK hZ hQ1 hT1
  have hQ2 := hQ1.kept (fun q hq => hk2 q (hQ1.lt q hq) (hap1.2 q hq))
  obtain ⟨⟨k29, rfl⟩, hP2⟩ := hP2
  have eV : V2 = V1 := hP2.1.trans hP1.1.symm
  have en : n2 = n1 := hP2.2.1.trans hP1.2.1.symm
  have et : t2 = t1 := hP2.2.2.trans hP1.2.2.symm
  rw [eV, en, et] at hT2
  refine lv_pop2_2 hx hb dL_law_1534 rfl ?_
  refine lv_goto (tgt := 1538) hx hb dL_law_1535 (by decide) ?_
  refine W.widen (k := cells + 2087) (n := slots + 9996) (by omega) (by omega) ?_
  exact K ls H2 locs _ _ _ _ _ _ _ _ hQ2 hT2 hS (lv_sub hl [0, 1, 2, 3, 4] rfl)
end M86

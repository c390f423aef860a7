-- THE LAW FROM ITS ENTRY, in any room that is large enough
section M89
variable {p : Program} {l : Launch} {e : Env} {R : Room} {s : State} {m : MethodId} {args : Array Value} {below : List Frame} {meth : Method} {c : Code} {g : Gx}
variable {b9 L kk nn : Nat} {xs : Nat → Int32} {ls : Array Slot}
set_option maxHeartbeats 4000000 in
set_option maxRecDepth 100000 in
theorem law_start (C0 : Cx p s m args meth c RL cL_law 7 (some .boolean) wsL_law) (hK : KK g s) (hZ : ZW g s.heap.size s s.heap) (hE : EW s) (hnt : l.stackTraces = false) (hX : va_X b9 L xs s s.heap) (hbl : b9 < s.heap.size) (hL9 : L ≤ 2560) (hRc : 19 + 2087 * 512 ≤ R.cells ∧ 279 + 9996 * 512 ≤ R.slots) (hkn : 19 + 2087 * 512 ≤ kk ∧ 279 + 9996 * 512 ≤ nn) (hRf : 20 ≤ R.frames ∧ 600 ≤ R.locals) (hl : lv_has ls 7 [(0, .ref b9)]) :
    W p l e R s m args below meth c s.heap [] 0 0 (lz_Z below s kk nn) (F0 m 0 ls []) := by
  obtain ⟨hx, hb, hr, hml, hown, hts, hlk⟩ := id C0
  have hS : va_S (fun q : Nat => s.heap.size ≤ q) s.heap s.heap [] := va_S.rf
  have hA : ∀ q : Nat, s.heap.size ≤ q → s.heap.size ≤ q := fun q h => h
  have hAb : ∀ q : Nat, s.heap.size ≤ q → s.heap.size ≤ q := fun q h => h
  refine f_new (ci := 3) (C := RX2) (T := TX2) (N := 7) (fs := [.null, .null, .null, .int 0, .int 0, .int 0, .int 0]) hx hb hts inlX2 tyX2 tyX2_ok hown (hts (.classLink RL 8 RX2) (by decide +kernel)) (hts (.instantiable RX2 7) (by decide +kernel)) (hts (.initialized RX2) (by decide +kernel)) hK hS rfl (fun j hj => by rcases (show j = 0 ∨ j = 1 ∨ j = 2 ∨ j = 3 ∨ j = 4 ∨ j = 5 ∨ j = 6 by omega) with rfl | rfl | rfl | rfl | rfl | rfl | rfl <;> rfl) (by omega) (by omega) dL_law_0 (fun x0 H1 hq1 fx1 z1 hk1 hS => ?_)
  refine lv_dup hx hb dL_law_3 rfl ?_
  refine jn_I (As := []) (rest := [.ref x0]) C0 hl hK hS hA (fun q h => by have h : q = x0 := h; omega) (zat hZ hS hAb) (c_xInit l g s.heap.size H1 x0 fx1 (fun q h => by have h : q = x0 := h; omega)) gL_law_X2_init rfl ⟨rfl, rfl⟩ ⟨by decide +kernel, by decide +kernel, by decide +kernel, rfl⟩ (show hd_ok yX2_init 0 from ⟨by decide, by decide, by decide +kernel⟩) ⟨Nat.le_trans (Nat.le_of_ble_eq_true rfl) hRf.1, Nat.le_trans (Nat.le_of_ble_eq_true rfl) hRf.2⟩ rfl (Nat.le_of_ble_eq_true rfl) ⟨by omega, by omega⟩ dL_law_4 (fun v H2 locs hv hz2 hk2 hS => ?_)
  obtain ⟨rfl, lc, tr, tc, sr, sc, ⟨glc, gtr, gtc, gsr, gsc⟩, hC⟩ := hv
  have lC : ∀ q, mC x0 lc tr tc sr sc q → q < H2.size := fun q hq => by
    obtain ⟨c9, ⟨cell, h1, -⟩, -⟩ := hC.cqs q hq
    exact (Array.getElem?_eq_some_iff.mp h1).1
  refine lv_astore_n (lv' := [(1, .ref x0), (0, .ref b9)]) hx hb dL_law_7 rfl hl (by decide) rfl (fun ls hl => ?_)
  refine f_new (ci := 5) (C := RX4) (T := TX4) (N := 10) (fs := [.int 0, .null, .null, .int 0, .int 0, .int 0, .int 0, .null, .null, .long 0]) hx hb hts inlX4 tyX4 tyX4_ok hown (hts (.classLink RL 108 RX4) (by decide +kernel)) (hts (.instantiable RX4 10) (by decide +kernel)) (hts (.initialized RX4) (by decide +kernel)) hK hS rfl (fun j hj => by rcases (show j = 0 ∨ j = 1 ∨ j = 2 ∨ j = 3 ∨ j = 4 ∨ j = 5 ∨ j = 6 ∨ j = 7 ∨ j = 8 ∨ j = 9 by omega) with rfl | rfl | rfl | rfl | rfl | rfl | rfl | rfl | rfl | rfl <;> rfl) (by omega) (by omega) dL_law_8 (fun z0 H3 hq3 fz3 z3 hk3 hS => ?_)
  refine lv_dup hx hb dL_law_11 rfl ?_
  refine jn_I (As := []) (rest := [.ref z0]) C0 hl hK hS hA (fun q h => by have h : q = z0 := h; omega) (zat hZ hS hAb) (c_mInit l g s.heap.size H3 z0 fz3 (fun q h => by have h : q = z0 := h; omega)) gL_law_X4_init rfl ⟨rfl, rfl⟩ ⟨by decide +kernel, by decide +kernel, by decide +kernel, rfl⟩ (show hd_ok yX4_init 0 from ⟨by decide, by decide, by decide +kernel⟩) ⟨Nat.le_trans (Nat.le_of_ble_eq_true rfl) hRf.1, Nat.le_trans (Nat.le_of_ble_eq_true rfl) hRf.2⟩ rfl (Nat.le_of_ble_eq_true rfl) ⟨by omega, by omega⟩ dL_law_12 (fun v H4 locs hv hz4 hk4 hS => ?_)
  obtain ⟨rfl, mc, lf, dg, a, b, fs, rr, ⟨gmc, glf, gdg⟩, hT⟩ := hv
  refine lv_astore_n (lv' := [(2, .ref z0), (1, .ref x0), (0, .ref b9)]) hx hb dL_law_15 rfl hl (by decide) rfl (fun ls hl => ?_)
  refine f_new (ci := 4) (C := RX3) (T := TX3) (N := 2) (fs := [.long 0, .null]) hx hb hts inlX3 tyX3 tyX3_ok hown (hts (.classLink RL 14 RX3) (by decide +kernel)) (hts (.instantiable RX3 2) (by decide +kernel)) (hts (.initialized RX3) (by decide +kernel)) hK hS rfl (fun j hj => by rcases (show j = 0 ∨ j = 1 by omega) with rfl | rfl <;> rfl) (by omega) (by omega) dL_law_16 (fun o0 H5 hq5 fo5 z5 hk5 hS => ?_)
  refine lv_dup hx hb dL_law_19 rfl ?_
  refine jn_IN (As := []) (rest := [.ref o0]) C0 hl hK hS hA (fun q h => h.elim) (zat hZ hS hAb) (zat hZ hS hAb).2.2.2.2.2.1.2.2.2.1 (c_oInit l g s.heap.size H5 o0) gL_law_X3_init_n111 rfl ⟨rfl, rfl⟩ ⟨by decide +kernel, by decide +kernel, rfl⟩ (show hd_ok yX3_init 0 from ⟨by decide, by decide, by decide +kernel⟩) ⟨Nat.le_trans (Nat.le_of_ble_eq_true rfl) hRf.1, Nat.le_trans (Nat.le_of_ble_eq_true rfl) hRf.2⟩ rfl (Nat.le_of_ble_eq_true rfl) ⟨by omega, by omega⟩ dL_law_20 (fun v H6 locs hv hz6 hk6 hS => ?_)
  subst hv
  refine lv_astore_n (lv' := [(3, .ref o0), (2, .ref z0), (1, .ref x0), (0, .ref b9)]) hx hb dL_law_23 rfl hl (by decide) rfl (fun ls hl => ?_)
  refine lv_iconst (v := nI 0) hx hb dL_law_24 (by decide) ?_
  refine lv_istore (lv' := [(4, .int (nI 0)), (3, .ref o0), (2, .ref z0), (1, .ref x0), (0, .ref b9)]) hx hb dL_law_25 hl (by decide) rfl (fun ls hl => ?_)
  have lo5 := fo5.lt
  dsimp only at lo5
  have lz3 := fz3.lt
  dsimp only at lz3
  have hkC : ∀ q, mC x0 lc tr tc sr sc q → H6[q]? = H2[q]? := fun q hq => by
    have h9 := lC q hq
    exact (hk6 q (by omega) (fun z => z)).trans ((hk5 q (by omega)).trans ((hk4 q (by omega) (fun (z : q = z0) => by omega)).trans (hk3 q (by omega))))
  have hkT : ∀ q, mtA z0 mc lf dg a b rr q → H6[q]? = H4[q]? := fun q hq => by
    have h9 := mt_lt hT q hq
    exact (hk6 q (by omega) (fun z => z)).trans (hk5 q (by omega))
  have hQ6 : LQ g H6 x0 lc tr tc sr sc o0 (fun _ => 0) 0 (fun _ => 0) 0 := ⟨⟨_, _, _, _, hC.kept (fun q _ hq => hkC q hq)⟩, ⟨_, fo5.kept (hk6 _ (by omega) (fun z => z))⟩, fun h => by
    have h9 := lC _ h
    omega⟩
  have hT6 := hT.keptA hkT
  have hmL : ∀ q : Nat, mL x0 lc tr tc sr sc o0 q → s.heap.size ≤ q := fun q hq => by
    rcases hq with (h | h | h | h | h | h) | h <;> omega
  have hmZ : ∀ q : Nat, zM z0 mc lf dg q → s.heap.size ≤ q := fun q hq => by
    rcases hq with h | h | h | h <;> omega
  refine W.widen (k := 19 + 2087 * 0) (n := 279 + 9996 * 0) (by omega) (by omega) ?_
  exact law_loop (c9 := 19) (s9 := 279) C0 hK hZ hE hnt hX hbl hL9 hRc hkn hRf hmL hmZ (L + 1) 0 (by omega) (by omega) ls H6 _ _ _ _ _ _ _ _ _ hQ6 hT6 hS (lv_sub hl [4, 3, 2, 1, 0] rfl)
end M89

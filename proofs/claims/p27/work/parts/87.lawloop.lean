-- THE LAW'S LOOP, in any room that is large enough
/-- the law's end, in numbers of its own -/
def lz_Q (kk nn : Nat) (s : State) (o : Outcome) (t : State) : Prop := o = .returned (some (.int 1)) ∧ Framed s o t [] kk nn
def lz_Z (below : List Frame) (s : State) (kk nn : Nat) : State → Prop := fun t => ∃ o, t.status = .running ∧ Ended t below o ∧ lz_Q kk nn s o t
theorem lz_ret {p : Program} {l : Launch} {e : Env} {R : Room} {s : State} {m : MethodId} {below : List Frame} {meth : Method} {c : Code} {args : Array Value} {kk nn : Nat} (hx : p.tables.exec = Jvm.exec) (hb : c.code = cL_law) (hr : meth.sig.returnType = some .boolean) (hlocks : meth.locks = false) {pc : Nat} {H : Heap} {ls : Array Slot} (hdg : decode cL_law pc = .ok (.ireturn, 1)) : W p l e R s m args below meth c H [] kk nn (lz_Z below s kk nn) (F0 m pc ls [.int 1]) := by
  intro T hT X
  obtain ⟨fs, hret, hrun, hended, hW, hframe⟩ := X.leave (v := some (.int 1)) (hlocks := hlocks) (fun h => by rw [hr] at h; cases h)
  have hmeth' : T.vm.method? m = some meth := X.method'
  refine ⟨T.setFrames fs, ?_, .returned (some (.int 1)), hrun, hended, rfl, ⟨_, rfl⟩, hW, hframe⟩
  jvm_step X.here [X.here.top, hx, hb, hdg, hmeth', hr, narrow_b1]
  (try refine ⟨rfl, ?_⟩); (try refine ⟨rfl, ?_⟩)
  first | (intro acts; rw [hret _ acts rfl rfl rfl]) | rw [hret _ _ rfl rfl rfl]
  exact Steps.refl _
section M87
variable {p : Program} {l : Launch} {e : Env} {R : Room} {s : State} {m : MethodId} {args : Array Value} {below : List Frame} {meth : Method} {c : Code} {g : Gx}
variable {b9 L x0 lc tr tc sr sc o0 z0 mc lf dg c9 s9 kk nn : Nat} {xs : Nat → Int32}
set_option maxHeartbeats 4000000 in
set_option maxRecDepth 100000 in
theorem law_loop (C0 : Cx p s m args meth c RL cL_law 7 (some .boolean) wsL_law) (hK : KK g s) (hZ : ZW g s.heap.size s s.heap) (hE : EW s) (hnt : l.stackTraces = false) (hX : va_X b9 L xs s s.heap) (hbl : b9 < s.heap.size) (hL9 : L ≤ 2560) (hRc : c9 + 2087 * 512 ≤ R.cells ∧ s9 + 9996 * 512 ≤ R.slots) (hkn : c9 + 2087 * 512 ≤ kk ∧ s9 + 9996 * 512 ≤ nn) (hRf : 20 ≤ R.frames ∧ 600 ≤ R.locals) (hmL : ∀ q : Nat, mL x0 lc tr tc sr sc o0 q → s.heap.size ≤ q) (hmZ : ∀ q : Nat, zM z0 mc lf dg q → s.heap.size ≤ q) :
    ∀ (N j : Nat), L + 1 ≤ 5 * j + N → 5 * j ≤ 2560 → ∀ (ls : Array Slot) (H : Heap) (locs : List Loc) (V : Nat → Nat) (n : Nat) (t : Nat → Nat) (v0 : Int64) (fs : List Value) (rr : Nat → Nat) (a b : Nat), LQ g H x0 lc tr tc sr sc o0 V n t v0 → MT g H z0 mc lf dg fs rr V a b n t → va_S (fun q => s.heap.size ≤ q) s.heap H locs → lv_has ls 7 [(0, .ref b9), (1, .ref x0), (2, .ref z0), (3, .ref o0), (4, .int (nI (5 * j)))] → W p l e R s m args below meth c H locs (c9 + 2087 * j) (s9 + 9996 * j) (lz_Z below s kk nn) (F0 m 27 ls []) := by
  obtain ⟨hx, hb, hr, hml, hown, hts, hlk⟩ := id C0
  have hbA : ¬ (fun q : Nat => s.heap.size ≤ q) b9 := Nat.not_le.mpr hbl
  intro N
  induction N with
  | zero => intro j h1 h2 ls H locs V n t v0 fs rr a b hQ hT hS hl
            refine lv_iload hx hb dL_law_27 (lv_at hl 4 rfl) ?_
            refine lv_aload_n hx hb dL_law_29 rfl (lv_at hl 0 rfl) ?_
            refine va_slen hx hb hX hbl hbA hS dL_law_30 ?_
            refine tp_i (y := nI L) rfl ?_
            refine lv_iconst (v := nI 5) hx hb dL_law_31 (by decide) ?_
            refine lv_isub hx hb dL_law_32 ?_
            refine lv_icmp_gt (tgt := 1544) hx hb dL_law_33 (by decide) (fun h => ?_) (fun h => absurd (l_le5 h2 hL9 h) (by omega))
            refine lv_iconst (v := 1) hx hb dL_law_1544 (by decide) ?_
            refine va_forget (fun q hq => hS.2.2 q hq) ?_
            refine W.widen (k := kk) (n := nn) (by omega) (by omega) ?_
            exact lz_ret hx hb hr hlk dL_law_1545
  | succ N ih =>
    intro j h1 h2 ls H locs V n t v0 fs rr a b hQ hT hS hl
    refine lv_iload hx hb dL_law_27 (lv_at hl 4 rfl) ?_
    refine lv_aload_n hx hb dL_law_29 rfl (lv_at hl 0 rfl) ?_
    refine va_slen hx hb hX hbl hbA hS dL_law_30 ?_
    refine tp_i (y := nI L) rfl ?_
    refine lv_iconst (v := nI 5) hx hb dL_law_31 (by decide) ?_
    refine lv_isub hx hb dL_law_32 ?_
    refine lv_icmp_gt (tgt := 1544) hx hb dL_law_33 (by decide) (fun h => ?_) (fun h => ?_)
    · refine lv_iconst (v := 1) hx hb dL_law_1544 (by decide) ?_
      refine va_forget (fun q hq => hS.2.2 q hq) ?_
      refine W.widen (k := kk) (n := nn) (by omega) (by omega) ?_
      exact lz_ret hx hb hr hlk dL_law_1545
    · have hk5 : 5 * j + 5 ≤ L := l_le5 h2 hL9 h
      have hRj : c9 + 2087 * j + 2087 ≤ R.cells ∧ s9 + 9996 * j + 9996 ≤ R.slots := ⟨by omega, by omega⟩
      have K : ∀ (ls : Array Slot) (H : Heap) (locs : List Loc) (V : Nat → Nat) (n : Nat) (t : Nat → Nat) (v0 : Int64) (fs : List Value) (rr : Nat → Nat) (a b : Nat), LQ g H x0 lc tr tc sr sc o0 V n t v0 → MT g H z0 mc lf dg fs rr V a b n t → va_S (fun q => s.heap.size ≤ q) s.heap H locs → lv_has ls 7 [(0, .ref b9), (1, .ref x0), (2, .ref z0), (3, .ref o0), (4, .int (nI (5 * j)))] → W p l e R s m args below meth c H locs (c9 + 2087 * j + 2087) (s9 + 9996 * j + 9996) (lz_Z below s kk nn) (F0 m 1538 ls []) := by
        intro ls H locs V n t v0 fs rr a b hQ hT hS hl
        refine lv_iinc (v := nI (5 * (j + 1))) (lv' := [(4, .int (nI (5 * (j + 1)))), (0, .ref b9), (1, .ref x0), (2, .ref z0), (3, .ref o0)]) hx hb dL_law_1538 hl (k := 4) rfl (nI_add (5 * j) 5) (by decide) rfl (fun ls hl => ?_)
        refine lv_goto (tgt := 27) hx hb dL_law_1541 (by decide) ?_
        refine W.widen (k := c9 + 2087 * (j + 1)) (n := s9 + 9996 * (j + 1)) (by omega) (by omega) ?_
        exact ih (j + 1) (by omega) (by omega) ls H locs V n t v0 fs rr a b hQ hT hS (lv_sub hl [1, 2, 3, 4, 0] rfl)
      refine lv_aload_n hx hb dL_law_36 rfl (lv_at hl 0 rfl) ?_
      refine lv_iload hx hb dL_law_37 (lv_at hl 4 rfl) ?_
      refine l_sld hx hb hX hbl hbA hS hL9 (show 5 * j < L by omega) dL_law_39 ?_
      refine lv_bipush (v := nI 31) hx hb dL_law_40 (by decide) ?_
      refine lv_iand hx hb dL_law_42 ?_
      obtain ⟨c, hc, ec⟩ := and31 (xs (5 * j))
      refine tp_i (y := nI c) ec ?_
      rcases (show c = 0 ∨ c = 1 ∨ c = 2 ∨ c = 3 ∨ c = 4 ∨ c = 5 ∨ c = 6 ∨ c = 7 ∨ c = 8 ∨ c = 9 ∨ c = 10 ∨ c = 11 ∨ c = 12 ∨ c = 13 ∨ c = 14 ∨ c = 15 ∨ c = 16 ∨ c = 17 ∨ c = 18 ∨ c = 19 ∨ c = 20 ∨ c = 21 ∨ c = 22 ∨ c = 23 ∨ c = 24 ∨ c = 25 ∨ c = 26 ∨ c = 27 ∨ 28 ≤ c by omega) with e | e | e | e | e | e | e | e | e | e | e | e | e | e | e | e | e | e | e | e | e | e | e | e | e | e | e | e | e
      · rw [e]
        refine lv_tableIn (tgt := 168) (off := 125) (h1 := by decide) (h2 := by decide) (ho := by decide) (ht := by decide) hx hb dL_law_43 ?_
        exact lk_0 C0 hK hZ hE hnt hX hbl hL9 hk5 hRj hRf hmL hmZ hQ hT hS hl K
      · rw [e]
        refine lv_tableIn (tgt := 220) (off := 177) (h1 := by decide) (h2 := by decide) (ho := by decide) (ht := by decide) hx hb dL_law_43 ?_
        exact lk_1 C0 hK hZ hE hnt hX hbl hL9 hk5 hRj hRf hmL hmZ hQ hT hS hl K
      · rw [e]
        refine lv_tableIn (tgt := 260) (off := 217) (h1 := by decide) (h2 := by decide) (ho := by decide) (ht := by decide) hx hb dL_law_43 ?_
        exact lk_2 C0 hK hZ hE hnt hX hbl hL9 hk5 hRj hRf hmL hmZ hQ hT hS hl K
      · rw [e]
        refine lv_tableIn (tgt := 316) (off := 273) (h1 := by decide) (h2 := by decide) (ho := by decide) (ht := by decide) hx hb dL_law_43 ?_
        exact lk_3 C0 hK hZ hE hnt hX hbl hL9 hk5 hRj hRf hmL hmZ hQ hT hS hl K
      · rw [e]
        refine lv_tableIn (tgt := 332) (off := 289) (h1 := by decide) (h2 := by decide) (ho := by decide) (ht := by decide) hx hb dL_law_43 ?_
        exact lk_4 C0 hK hZ hE hnt hX hbl hL9 hk5 hRj hRf hmL hmZ hQ hT hS hl K
      · rw [e]
        refine lv_tableIn (tgt := 345) (off := 302) (h1 := by decide) (h2 := by decide) (ho := by decide) (ht := by decide) hx hb dL_law_43 ?_
        exact lk_5 C0 hK hZ hE hnt hX hbl hL9 hk5 hRj hRf hmL hmZ hQ hT hS hl K
      · rw [e]
        refine lv_tableIn (tgt := 397) (off := 354) (h1 := by decide) (h2 := by decide) (ho := by decide) (ht := by decide) hx hb dL_law_43 ?_
        exact lk_6 C0 hK hZ hE hnt hX hbl hL9 hk5 hRj hRf hmL hmZ hQ hT hS hl K
      · rw [e]
        refine lv_tableIn (tgt := 449) (off := 406) (h1 := by decide) (h2 := by decide) (ho := by decide) (ht := by decide) hx hb dL_law_43 ?_
        exact lk_7 C0 hK hZ hE hnt hX hbl hL9 hk5 hRj hRf hmL hmZ hQ hT hS hl K
      · rw [e]
        refine lv_tableIn (tgt := 517) (off := 474) (h1 := by decide) (h2 := by decide) (ho := by decide) (ht := by decide) hx hb dL_law_43 ?_
        exact lk_8 C0 hK hZ hE hnt hX hbl hL9 hk5 hRj hRf hmL hmZ hQ hT hS hl K
      · rw [e]
        refine lv_tableIn (tgt := 585) (off := 542) (h1 := by decide) (h2 := by decide) (ho := by decide) (ht := by decide) hx hb dL_law_43 ?_
        exact lk_9 C0 hK hZ hE hnt hX hbl hL9 hk5 hRj hRf hmL hmZ hQ hT hS hl K
      · rw [e]
        refine lv_tableIn (tgt := 653) (off := 610) (h1 := by decide) (h2 := by decide) (ho := by decide) (ht := by decide) hx hb dL_law_43 ?_
        exact lk_10 C0 hK hZ hE hnt hX hbl hL9 hk5 hRj hRf hmL hmZ hQ hT hS hl K
      · rw [e]
        refine lv_tableIn (tgt := 721) (off := 678) (h1 := by decide) (h2 := by decide) (ho := by decide) (ht := by decide) hx hb dL_law_43 ?_
        exact lk_11 C0 hK hZ hE hnt hX hbl hL9 hk5 hRj hRf hmL hmZ hQ hT hS hl K
      · rw [e]
        refine lv_tableIn (tgt := 805) (off := 762) (h1 := by decide) (h2 := by decide) (ho := by decide) (ht := by decide) hx hb dL_law_43 ?_
        exact lk_12 C0 hK hZ hE hnt hX hbl hL9 hk5 hRj hRf hmL hmZ hQ hT hS hl K
      · rw [e]
        refine lv_tableIn (tgt := 889) (off := 846) (h1 := by decide) (h2 := by decide) (ho := by decide) (ht := by decide) hx hb dL_law_43 ?_
        exact lk_13 C0 hK hZ hE hnt hX hbl hL9 hk5 hRj hRf hmL hmZ hQ hT hS hl K
      · rw [e]
        refine lv_tableIn (tgt := 969) (off := 926) (h1 := by decide) (h2 := by decide) (ho := by decide) (ht := by decide) hx hb dL_law_43 ?_
        exact lk_14 C0 hK hZ hE hnt hX hbl hL9 hk5 hRj hRf hmL hmZ hQ hT hS hl K
      · rw [e]
        refine lv_tableIn (tgt := 982) (off := 939) (h1 := by decide) (h2 := by decide) (ho := by decide) (ht := by decide) hx hb dL_law_43 ?_
        exact lk_15 C0 hK hZ hE hnt hX hbl hL9 hk5 hRj hRf hmL hmZ hQ hT hS hl K
      · rw [e]
        refine lv_tableIn (tgt := 1010) (off := 967) (h1 := by decide) (h2 := by decide) (ho := by decide) (ht := by decide) hx hb dL_law_43 ?_
        exact lk_16 C0 hK hZ hE hnt hX hbl hL9 hk5 hRj hRf hmL hmZ hQ hT hS hl K
      · rw [e]
        refine lv_tableIn (tgt := 1038) (off := 995) (h1 := by decide) (h2 := by decide) (ho := by decide) (ht := by decide) hx hb dL_law_43 ?_
        exact lk_17 C0 hK hZ hE hnt hX hbl hL9 hk5 hRj hRf hmL hmZ hQ hT hS hl K
      · rw [e]
        refine lv_tableIn (tgt := 1106) (off := 1063) (h1 := by decide) (h2 := by decide) (ho := by decide) (ht := by decide) hx hb dL_law_43 ?_
        exact lk_18 C0 hK hZ hE hnt hX hbl hL9 hk5 hRj hRf hmL hmZ hQ hT hS hl K
      · rw [e]
        refine lv_tableIn (tgt := 1202) (off := 1159) (h1 := by decide) (h2 := by decide) (ho := by decide) (ht := by decide) hx hb dL_law_43 ?_
        exact lk_19 C0 hK hZ hE hnt hX hbl hL9 hk5 hRj hRf hmL hmZ hQ hT hS hl K
      · rw [e]
        refine lv_tableIn (tgt := 1215) (off := 1172) (h1 := by decide) (h2 := by decide) (ho := by decide) (ht := by decide) hx hb dL_law_43 ?_
        exact lk_20 C0 hK hZ hE hnt hX hbl hL9 hk5 hRj hRf hmL hmZ hQ hT hS hl K
      · rw [e]
        refine lv_tableIn (tgt := 1255) (off := 1212) (h1 := by decide) (h2 := by decide) (ho := by decide) (ht := by decide) hx hb dL_law_43 ?_
        exact lk_21 C0 hK hZ hE hnt hX hbl hL9 hk5 hRj hRf hmL hmZ hQ hT hS hl K
      · rw [e]
        refine lv_tableIn (tgt := 1283) (off := 1240) (h1 := by decide) (h2 := by decide) (ho := by decide) (ht := by decide) hx hb dL_law_43 ?_
        exact lk_22 C0 hK hZ hE hnt hX hbl hL9 hk5 hRj hRf hmL hmZ hQ hT hS hl K
      · rw [e]
        refine lv_tableIn (tgt := 1323) (off := 1280) (h1 := by decide) (h2 := by decide) (ho := by decide) (ht := by decide) hx hb dL_law_43 ?_
        exact lk_23 C0 hK hZ hE hnt hX hbl hL9 hk5 hRj hRf hmL hmZ hQ hT hS hl K
      · rw [e]
        refine lv_tableIn (tgt := 1391) (off := 1348) (h1 := by decide) (h2 := by decide) (ho := by decide) (ht := by decide) hx hb dL_law_43 ?_
        exact lk_24 C0 hK hZ hE hnt hX hbl hL9 hk5 hRj hRf hmL hmZ hQ hT hS hl K
      · rw [e]
        refine lv_tableIn (tgt := 1443) (off := 1400) (h1 := by decide) (h2 := by decide) (ho := by decide) (ht := by decide) hx hb dL_law_43 ?_
        exact lk_25 C0 hK hZ hE hnt hX hbl hL9 hk5 hRj hRf hmL hmZ hQ hT hS hl K
      · rw [e]
        refine lv_tableIn (tgt := 1512) (off := 1469) (h1 := by decide) (h2 := by decide) (ho := by decide) (ht := by decide) hx hb dL_law_43 ?_
        exact lk_26 C0 hK hZ hE hnt hX hbl hL9 hk5 hRj hRf hmL hmZ hQ hT hS hl K
      · rw [e]
        refine lv_tableIn (tgt := 1525) (off := 1482) (h1 := by decide) (h2 := by decide) (ho := by decide) (ht := by decide) hx hb dL_law_43 ?_
        exact lk_27 C0 hK hZ hE hnt hX hbl hL9 hk5 hRj hRf hmL hmZ hQ hT hS hl K
      · have e9 : (nI c).toInt = (c : Int) := nI_toInt (by omega)
        refine lv_tableOut (tgt := 1538) (h := Or.inr (by rw [e9]; omega)) (ht := by decide) hx hb dL_law_43 ?_
        refine W.widen (k := c9 + 2087 * j + 2087) (n := s9 + 9996 * j + 9996) (by omega) (by omega) ?_
        exact K ls H locs V n t v0 fs rr a b hQ hT hS hl
end M87

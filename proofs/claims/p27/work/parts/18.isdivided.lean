-- isDivided: that it ends, and what it makes
theorem pcs {D : va_G} {cl : List vw_C} {q : Nat × va_E} {ws : va_W} {H : Heap} (h : va_at D cl q H) (t : va_P D cl ws H) : va_P D cl (q :: ws) H := by
  intro k u hu
  match k, hu with
  | 0, hu => cases hu; exact h
  | k + 1, hu => exact t k u hu
/-- what the product makes down to the place p -/
def pcost (N w p : Nat) : Nat := (N - p) + pcN (w / 2 ^ p) (N - p)
theorem pc_step {N w j : Nat} (hj : j < N) : pcost N w j = pcost N w (j + 1) + 1 + w / 2 ^ j % 2 := by
  unfold pcost
  have h1 := pcN_split (w / 2 ^ j) 1 (N - (j + 1))
  rw [show 1 + (N - (j + 1)) = N - j by omega, Nat.div_div_eq_div_mul, ← Nat.pow_add] at h1
  have h2 : pcN (w / 2 ^ j) 1 = w / 2 ^ j % 2 := by
    show 0 + w / 2 ^ j / 2 ^ 0 % 2 = _
    rw [Nat.pow_zero, Nat.div_one, Nat.zero_add]
  rw [h1, h2]
  omega
theorem pc_le {N w j : Nat} (hj : j ≤ N) : pcost N w j ≤ N + pcN w N := by
  unfold pcost
  have h1 := pcN_top (w := w) hj
  omega
theorem dc_0 (N u v : Nat) : dcost N u v 0 = 3 + N + 2 * pcN (u / v) N := by
  unfold dcost
  rw [Nat.pow_zero, Nat.div_one, Nat.sub_zero]
/-- some truth comes back -/
def someB (_ : Gx) (_ : Heap) : Option Value → Heap → Prop := fun r _ => ∃ y : Bool, r = some (.int (bI y))
/-- new int[N], told by facts -/
theorem w_newF {p : Program} {l : Launch} {e : Env} {R : Room} {s : State} {m : MethodId} {args : Array Value} {below : List Frame} {meth : Method} {c : Code} {H H0 : Heap} {locs : List Loc} {cells slots : Nat} {Q : State → Prop} {cc : ByteArray} {pc : Nat} {ls : Array Slot} {rest : List Value} {A : Nat → Prop} {g : Gx}
    (hx : p.tables.exec = Jvm.exec) (hb : c.code = cc) (harr : (Cond.arrayClass .int).before args s = true) (hK : KK g s) (hS : va_S A H0 H locs) {N : Nat} (hN : N < 2 ^ 26) (hcells : cells + 1 ≤ R.cells) (hslots : slots + N ≤ R.slots) (hdg : decode cc pc = .ok (.newarray .int, 2))
    (kk : ∀ (q : Nat) (H1 : Heap), H.size ≤ q → va_at g.1 vwCl (q, .inl (g.2 0, N, .inl (fun _ => 0))) H1 → H.size ≤ H1.size → (∀ x : Nat, x < H.size → H1[x]? = H[x]?) → va_S A H0 H1 locs →
      W p l e R s m args below meth c H1 locs (cells + 1) (slots + N) Q (F0 m (pc + 2) ls (.ref q :: rest))) : W p l e R s m args below meth c H locs cells slots Q (F0 m pc ls (.int (nI N) :: rest)) := by
  refine va_newaK (atype := .int) (N := N) (n := nI N) hx hb harr rfl hdg rfl (nI_pos (by omega)) (nI_clamp (by omega)) (by show N * 4 ≤ _; omega) hcells hslots rfl fun H1 cA e1 z1 o1 hAr hNm => ?_
  have hcA : cA = g.2 0 := by
    have h1 := (hK.1.2 0 _ rfl).2
    exact (Option.some.inj (h1.symm.trans hNm)).symm
  subst hcA
  exact kk H.size H1 (Nat.le_refl _) e1 (by omega) o1 ⟨Nat.le_trans hS.1 (by omega), fun x h1 h2 => (o1 x (Nat.lt_of_lt_of_le h1 hS.1)).trans (hS.2.1 x h1 h2), hS.2.2⟩
section M18
variable {p : Program} {l : Launch} {e : Env} {s : State} {m : MethodId} {args : Array Value} {below : List Frame} {meth : Method} {c : Code} {H H0 : Heap} {locs : List Loc} {cells slots : Nat} {Q : State → Prop} {A : Nat → Prop} {g : Gx}
abbrev rmX4_isDivided (k : Nat) : Room := { frames := 4, cells := k, slots := 4 * k, locals := 90 }
set_option maxHeartbeats 4000000 in
set_option maxRecDepth 100000 in
theorem L_isDivided (C0 : Cx p s m args meth c RX4 cX4_isDivided 6 (some .boolean) wsX4_isDivided) (hK : KK g s) {z0 a b q r0 r1 u v k0 k9 : Nat} {f : Nat → Option Nat} (hf0 : f 0 = some r0) (ha : va_at g.1 vwCl (a, .inl (g.2 0, 4, .inl (rw16 u))) H0) (hb9 : va_at g.1 vwCl (b, .inl (g.2 0, 4, .inl (rw16 v))) H0) (hk9 : k0 + (64 + pcN (u / v) 64) ≤ k9)
    (K : ∀ (x : Int32) (pr w : Nat) (ls : Array Slot) (H : Heap) (locs : List Loc), va_P g.1 vwCl [(q, gRow 2 f g), (r0, .inl (g.2 0, 4, .inl (rw16 (u / v)))), (r1, .inl (g.2 0, 4, .inl (rw16 (u % v)))), (pr, .inl (g.2 0, 4, .inl (rw16 w)))] H → va_S (fun q => False ∨ H0.size ≤ q) H0 H locs → lv_has ls 6 [(5, .int x), (4, .ref pr), (3, .ref q), (0, .ref z0), (1, .ref a), (2, .ref b)] → W p l e (rmX4_isDivided k9) s m args below meth c H locs (k0 + pcost 64 (u / v) 0) (4 * (k0 + pcost 64 (u / v) 0)) Q (F0 m 69 ls [])) :
    ∀ (n p9 : Nat) (x : Int32) (pr w : Nat), x = nI p9 - nI 1 → p9 ≤ 64 → p9 < n → ∀ (ls : Array Slot) (H : Heap) (locs : List Loc), va_P g.1 vwCl [(q, gRow 2 f g), (r0, .inl (g.2 0, 4, .inl (rw16 (u / v)))), (r1, .inl (g.2 0, 4, .inl (rw16 (u % v)))), (pr, .inl (g.2 0, 4, .inl (rw16 w)))] H → va_S (fun q => False ∨ H0.size ≤ q) H0 H locs → lv_has ls 6 [(5, .int x), (4, .ref pr), (3, .ref q), (0, .ref z0), (1, .ref a), (2, .ref b)] → W p l e (rmX4_isDivided k9) s m args below meth c H locs (k0 + pcost 64 (u / v) p9) (4 * (k0 + pcost 64 (u / v) p9)) Q (F0 m 29 ls []) := by
  obtain ⟨hx, hb, hr, hml, hown, hts, hlk⟩ := id C0
  have hA : ∀ q : Nat, H0.size ≤ q → (fun q => False ∨ H0.size ≤ q) q := fun _ h => Or.inr h
  intro n
  induction n with
  | zero => intro p9 x pr w _ _ h; exact absurd h (Nat.not_lt_zero _)
  | succ n ih =>
    intro p9 x pr w ex hp9 hn ls H locs hP hS hl
    refine lv_iload hx hb dX4_isDivided_29 (lv_at hl 0 rfl) ?_
    refine lv_if_lt (tgt := 69) hx hb dX4_isDivided_31 (by decide) (fun h1 => ?_) (fun h1 => ?_)
    · skip
      cases p9 with
      | zero => exact K x pr w ls H locs hP hS hl
      | succ j =>
        rw [ex, pk_sub (Nat.le_add_left 1 j), Nat.add_sub_cancel] at h1
        exact absurd h1 (nI_pos (by omega))
    · skip
      cases p9 with
      | zero => exact absurd (by rw [ex]; decide) h1
      | succ j =>
        obtain rfl : x = nI j := by rw [ex, pk_sub (Nat.le_add_left 1 j), Nat.add_sub_cancel]
        have hst := pc_step (N := 64) (w := u / v) (j := j) (by omega)
        have hle := pc_le (N := 64) (w := u / v) (j := j) (by omega)
        have hb2 := Nat.mod_lt (u / v / 2 ^ j) (show 0 < 2 by decide)
        refine lv_aload hx hb dX4_isDivided_34 (lv_at hl 1 rfl) ?_
        refine lv_aload hx hb dX4_isDivided_36 (lv_at hl 1 rfl) ?_
        refine cn_S (As := [.ref pr, .ref pr]) (rest := []) C0 hl hK hS hA (fun q h => absurd h id) (c_sum l g H pr pr 4 w w (by decide) (hP 3 _ rfl) (hP 3 _ rfl)) gX4_isDivided_X4_sum rfl ⟨rfl, rfl⟩ (show hd_ok yX4_sum 2 from ⟨by decide, by decide, by decide +kernel⟩) ⟨Nat.le_of_ble_eq_true rfl, Nat.le_of_ble_eq_true rfl⟩ rfl (Nat.le_of_ble_eq_true rfl) ⟨by show _ ≤ k9; omega, by show _ ≤ 4 * k9; omega⟩ dX4_isDivided_38 (fun r9 H1 locs hv hzz hk1 hS => ?_)
        obtain ⟨p2, rfl, hp2, h2⟩ := hv
        have hP1 : va_P g.1 vwCl [(q, gRow 2 f g), (r0, .inl (g.2 0, 4, .inl (rw16 (u / v)))), (r1, .inl (g.2 0, 4, .inl (rw16 (u % v)))), (p2, .inl (g.2 0, 4, .inl (rw16 ((w + w) % 65536 ^ 4))))] H1 := pcs ((hP 0 _ rfl).kept (hk1 _ (hP 0 _ rfl).lt (fun z => z))) (pcs ((hP 1 _ rfl).kept (hk1 _ (hP 1 _ rfl).lt (fun z => z))) (pcs ((hP 2 _ rfl).kept (hk1 _ (hP 2 _ rfl).lt (fun z => z))) (p1 h2)))
        refine lv_astore (lv' := [(4, .ref p2), (5, .int (nI j)), (3, .ref q), (0, .ref z0), (1, .ref a), (2, .ref b)]) hx hb dX4_isDivided_41 hl (by decide) rfl (fun ls hl => ?_)
        refine lv_aload_n hx hb dX4_isDivided_43 rfl (lv_at hl 2 rfl) ?_
        refine lv_iconst (v := nI 0) hx hb dX4_isDivided_44 (by decide) ?_
        refine w_aald (j := 0) hx hb hK (hP1 0 _ rfl) (by decide) (by decide) hf0 dX4_isDivided_45 ?_
        refine lv_iload hx hb dX4_isDivided_46 (lv_at hl 1 rfl) ?_
        refine cp_S (As := [.ref r0, .int (nI j)]) (rest := []) C0 hl hK hS hA (c_bit l g H1 r0 4 (u / v) j (hP1 1 _ rfl) (by omega) (by decide)) gX4_isDivided_X4_bit rfl ⟨rfl, rfl⟩ (show hd_ok yX4_bit 2 from ⟨by decide, by decide, by decide +kernel⟩) ⟨Nat.le_of_ble_eq_true rfl, Nat.le_of_ble_eq_true rfl⟩ rfl (Nat.le_of_ble_eq_true rfl) ⟨by show _ ≤ k9; omega, by show _ ≤ 4 * k9; omega⟩ dX4_isDivided_48 (fun locs hS => ?_)
        refine lv_iconst (v := nI 1) hx hb dX4_isDivided_51 (by decide) ?_
        refine lv_icmp_ne (tgt := 63) hx hb dX4_isDivided_52 (by decide) (fun h3 => ?_) (fun h3 => ?_)
        · skip
          refine lv_iinc (v := nI j - nI 1) (lv' := [(5, .int (nI j - nI 1)), (4, .ref p2), (3, .ref q), (0, .ref z0), (1, .ref a), (2, .ref b)]) hx hb dX4_isDivided_63 hl (k := 1) rfl ((by rw [show nI j - nI 1 = nI j + -nI 1 from Int32.sub_eq_add_neg _ _]; rfl)) (by decide) rfl (fun ls hl => ?_)
          refine lv_goto (tgt := 29) hx hb dX4_isDivided_66 (by decide) ?_
          refine W.widen (k := k0 + pcost 64 (u / v) j) (n := 4 * (k0 + pcost 64 (u / v) j)) (by omega) (by omega) ?_
          exact ih j _ p2 _ rfl (by omega) (by omega) ls H1 locs hP1 hS (lv_sub hl [0, 1, 2, 3, 4, 5] rfl)
        · skip
          have h4 : u / v / 2 ^ j % 2 = 1 := nI_inj (by omega) (by decide) h3
          refine lv_aload hx hb dX4_isDivided_55 (lv_at hl 0 rfl) ?_
          refine lv_aload_n hx hb dX4_isDivided_57 rfl (lv_at hl 5 rfl) ?_
          refine cn_S (As := [.ref p2, .ref b]) (rest := []) C0 hl hK hS hA (fun q h => absurd h id) (c_sum l g H1 p2 b 4 ((w + w) % 65536 ^ 4) v (by decide) (hP1 3 _ rfl) (hb9.kp hS (nA' hb9 (fun z => z)))) gX4_isDivided_X4_sum rfl ⟨rfl, rfl⟩ (show hd_ok yX4_sum 2 from ⟨by decide, by decide, by decide +kernel⟩) ⟨Nat.le_of_ble_eq_true rfl, Nat.le_of_ble_eq_true rfl⟩ rfl (Nat.le_of_ble_eq_true rfl) ⟨by show _ ≤ k9; omega, by show _ ≤ 4 * k9; omega⟩ dX4_isDivided_58 (fun r9 H2 locs hv hzz hk2 hS => ?_)
          obtain ⟨p3, rfl, hp3, h3v⟩ := hv
          have hP2 : va_P g.1 vwCl [(q, gRow 2 f g), (r0, .inl (g.2 0, 4, .inl (rw16 (u / v)))), (r1, .inl (g.2 0, 4, .inl (rw16 (u % v)))), (p3, .inl (g.2 0, 4, .inl (rw16 (((w + w) % 65536 ^ 4 + v) % 65536 ^ 4))))] H2 := pcs ((hP1 0 _ rfl).kept (hk2 _ (hP1 0 _ rfl).lt (fun z => z))) (pcs ((hP1 1 _ rfl).kept (hk2 _ (hP1 1 _ rfl).lt (fun z => z))) (pcs ((hP1 2 _ rfl).kept (hk2 _ (hP1 2 _ rfl).lt (fun z => z))) (p1 h3v)))
          refine lv_astore (lv' := [(4, .ref p3), (5, .int (nI j)), (3, .ref q), (0, .ref z0), (1, .ref a), (2, .ref b)]) hx hb dX4_isDivided_61 hl (by decide) rfl (fun ls hl => ?_)
          refine lv_iinc (v := nI j - nI 1) (lv' := [(5, .int (nI j - nI 1)), (4, .ref p3), (3, .ref q), (0, .ref z0), (1, .ref a), (2, .ref b)]) hx hb dX4_isDivided_63 hl (k := 1) rfl ((by rw [show nI j - nI 1 = nI j + -nI 1 from Int32.sub_eq_add_neg _ _]; rfl)) (by decide) rfl (fun ls hl => ?_)
          refine lv_goto (tgt := 29) hx hb dX4_isDivided_66 (by decide) ?_
          refine W.widen (k := k0 + pcost 64 (u / v) j) (n := 4 * (k0 + pcost 64 (u / v) j)) (by omega) (by omega) ?_
          exact ih j _ p3 _ rfl (by omega) (by omega) ls H2 locs hP2 hS (lv_sub hl [0, 1, 2, 3, 4, 5] rfl)
set_option maxHeartbeats 4000000 in
set_option maxRecDepth 100000 in
/-- isDivided(own, by) -/
theorem c_isDivided (l : Launch) (g : Gx) (H0 : Heap) (z0 a b u v k9 : Nat) (hu : u < 65536 ^ 4) (hvb : v < 65536 ^ 4) (ha : va_at g.1 vwCl (a, .inl (g.2 0, 4, .inl (rw16 u))) H0) (hb9 : va_at g.1 vwCl (b, .inl (g.2 0, 4, .inl (rw16 v))) H0) (hk9 : (if v = 0 then 0 else 133 + 3 * pcN (u / v) 64) ≤ k9) : Met l yX4_isDivided wsX4_isDivided (rmX4_isDivided k9) (va_Pc [.ref z0, .ref a, .ref b] (hB g H0)) (nQ H0 (fun _ => False) (someB g H0)) k9 (4 * k9) (fun q => False ∨ H0.size ≤ q) := by
  refine cx_met (own := RX4) (cc := cX4_isDivided) (maxL := 6) (by decide) rfl rfl (Nat.le_of_ble_eq_true rfl) ?_
  intro p e s m below meth c ls C0 hB0 hnm hl
  obtain ⟨hH, hK⟩ := hB0
  obtain ⟨hx, hb, hr, hml, hown, hts, hlk⟩ := id C0
  subst hH
  have hS : va_S (fun q => False ∨ s.heap.size ≤ q) s.heap s.heap [] := va_S.rf
  have hA : ∀ q : Nat, s.heap.size ≤ q → (fun q => False ∨ s.heap.size ≤ q) q := fun q h => Or.inr h
  have hl : lv_has ls 6 [(0, .ref z0), (1, .ref a), (2, .ref b)] := hl
  refine lv_aload_n hx hb dX4_isDivided_0 rfl (lv_at hl 2 rfl) ?_
  refine cp_S (As := [.ref b]) (rest := []) C0 hl hK hS hA (c_isZero l g s.heap b 4 v (by decide) hvb hb9) gX4_isDivided_X4_isZero rfl ⟨rfl, rfl⟩ (show hd_ok yX4_isZero 1 from ⟨by decide, by decide, by decide +kernel⟩) ⟨Nat.le_of_ble_eq_true rfl, Nat.le_of_ble_eq_true rfl⟩ rfl (Nat.le_of_ble_eq_true rfl) ⟨Nat.zero_le _, Nat.zero_le _⟩ dX4_isDivided_1 (fun locs hS => ?_)
  refine lv_if_eq (tgt := 9) hx hb dX4_isDivided_4 (by decide) (fun h1 => ?_) (fun h1 => ?_)
  · skip
    have hv0 : 0 < v := Nat.pos_of_ne_zero (of_decide_eq_false (bI_0 h1))
    rw [if_neg (Nat.ne_of_gt hv0)] at hk9
    have hd0 := dc_0 64 u v
    refine lv_aload_n hx hb dX4_isDivided_9 rfl (lv_at hl 1 rfl) ?_
    refine lv_aload_n hx hb dX4_isDivided_10 rfl (lv_at hl 2 rfl) ?_
    refine cn_S (As := [.ref a, .ref b]) (rest := []) C0 hl hK hS hA (fun q h => absurd h id) (c_divided l g s.heap a b 4 u v (dcost 64 u v 0) (Or.inr rfl) hu hvb hv0 ha hb9 (Nat.le_refl _)) gX4_isDivided_X4_divided rfl ⟨rfl, rfl⟩ (show hd_ok yX4_divided 2 from ⟨by decide, by decide, by decide +kernel⟩) ⟨Nat.le_of_ble_eq_true rfl, Nat.le_of_ble_eq_true rfl⟩ rfl (Nat.le_of_ble_eq_true rfl) ⟨by show _ ≤ k9; omega, by show _ ≤ 4 * k9; omega⟩ dX4_isDivided_11 (fun r9 H1 locs hv hzz hk1 hS => ?_)
    obtain ⟨q, r0, r1, f, rfl, hq9, hr0, hr1, hf0, hf1, g1, g2, g3⟩ := hv
    refine lv_astore_n (lv' := [(3, .ref q), (0, .ref z0), (1, .ref a), (2, .ref b)]) hx hb dX4_isDivided_14 rfl hl (by decide) rfl (fun ls hl => ?_)
    refine lv_aload_n hx hb dX4_isDivided_15 rfl (lv_at hl 2 rfl) ?_
    refine r_alen hx hb hK hS ha (nA' ha (fun z => z)) dX4_isDivided_16 ?_
    refine w_newF hx hb (hts (.arrayClass .int) (by decide +kernel)) hK hS (by decide) (by show _ ≤ k9; omega) (by show _ ≤ 4 * k9; omega) dX4_isDivided_17 (fun pr H2 hpr hprA hzz hk2 hS => ?_)
    refine lv_astore (lv' := [(4, .ref pr), (3, .ref q), (0, .ref z0), (1, .ref a), (2, .ref b)]) hx hb dX4_isDivided_19 hl (by decide) rfl (fun ls hl => ?_)
    refine lv_aload_n hx hb dX4_isDivided_21 rfl (lv_at hl 3 rfl) ?_
    refine cp_S (As := [.ref a]) (rest := []) C0 hl hK hS hA (c_bits l g H2 a 4 (rw16 u) (ha.kp hS (nA' ha (fun z => z)))) gX4_isDivided_X4_bits rfl ⟨rfl, rfl⟩ (show hd_ok yX4_bits 1 from ⟨by decide, by decide, by decide +kernel⟩) ⟨Nat.le_of_ble_eq_true rfl, Nat.le_of_ble_eq_true rfl⟩ rfl (Nat.le_of_ble_eq_true rfl) ⟨by show _ ≤ k9; omega, by show _ ≤ 4 * k9; omega⟩ dX4_isDivided_22 (fun locs hS => ?_)
    refine lv_iconst (v := nI 1) hx hb dX4_isDivided_25 (by decide) ?_
    refine lv_isub hx hb dX4_isDivided_26 ?_
    refine tp_i (y := nI 64 - nI 1) (rfl) ?_
    refine lv_istore (lv' := [(5, .int (nI 64 - nI 1)), (4, .ref pr), (3, .ref q), (0, .ref z0), (1, .ref a), (2, .ref b)]) hx hb dX4_isDivided_27 hl (by decide) rfl (fun ls hl => ?_)
    have hP3 : va_P g.1 vwCl [(q, gRow 2 f g), (r0, .inl (g.2 0, 4, .inl (rw16 (u / v)))), (r1, .inl (g.2 0, 4, .inl (rw16 (u % v)))), (pr, .inl (g.2 0, 4, .inl (rw16 0)))] H2 := pcs (g1.kept (hk2 _ g1.lt)) (pcs (g2.kept (hk2 _ g2.lt)) (pcs (g3.kept (hk2 _ g3.lt)) (p1 (at_cong hprA (fun k _ => rw16_0 k)))))
    have hz64 : pcost 64 (u / v) 64 = 0 := by unfold pcost; rw [Nat.sub_self]; rfl
    refine W.widen (k := (dcost 64 u v 0 + 1) + pcost 64 (u / v) 64) (n := 4 * ((dcost 64 u v 0 + 1) + pcost 64 (u / v) 64)) (by omega) (by omega) ?_
    refine L_isDivided (k0 := dcost 64 u v 0 + 1) C0 hK hf0 ha hb9 (by omega) (fun x pr w ls H locs hP hS hl => ?_) 65 64 _ pr 0 rfl (Nat.le_refl _) (by omega) ls H2 locs hP3 hS (lv_sub hl [0, 1, 2, 3, 4, 5] rfl)
    have hz0 := pc_le (N := 64) (w := u / v) (j := 0) (by decide)
    refine lv_aload_n hx hb dX4_isDivided_69 rfl (lv_at hl 2 rfl) ?_
    refine lv_iconst (v := nI 1) hx hb dX4_isDivided_70 (by decide) ?_
    refine w_aald (j := 1) hx hb hK (hP 0 _ rfl) (by decide) (by decide) hf1 dX4_isDivided_71 ?_
    refine lv_aload_n hx hb dX4_isDivided_72 rfl (lv_at hl 5 rfl) ?_
    refine cp_S (As := [.ref r1, .ref b]) (rest := []) C0 hl hK hS hA (c_compare l g H r1 b 4 (u % v) v (by decide) (Nat.lt_trans (Nat.mod_lt u hv0) hvb) hvb (hP 2 _ rfl) (hb9.kp hS (nA' hb9 (fun z => z)))) gX4_isDivided_X4_compare rfl ⟨rfl, rfl⟩ (show hd_ok yX4_compare 2 from ⟨by decide, by decide, by decide +kernel⟩) ⟨Nat.le_of_ble_eq_true rfl, Nat.le_of_ble_eq_true rfl⟩ rfl (Nat.le_of_ble_eq_true rfl) ⟨by show _ ≤ k9; omega, by show _ ≤ 4 * k9; omega⟩ dX4_isDivided_73 (fun locs hS => ?_)
    refine lv_if_ge (tgt := 98) hx hb dX4_isDivided_76 (by decide) (fun h5 => ?_) (fun h5 => ?_)
    · skip
      refine lv_iconst (v := nI 0) hx hb dX4_isDivided_98 (by decide) ?_
      rw [show nI 0 = bI false from rfl]
      refine W.widen (k := k9) (n := 4 * k9) (by omega) (by omega) ?_
      exact rt_ni (mu := fun _ => False) C0 (bI_nar false) ⟨false, rfl⟩ hS rfl dX4_isDivided_99
    · skip
      refine lv_aload hx hb dX4_isDivided_79 (lv_at hl 1 rfl) ?_
      refine lv_aload_n hx hb dX4_isDivided_81 rfl (lv_at hl 2 rfl) ?_
      refine lv_iconst (v := nI 1) hx hb dX4_isDivided_82 (by decide) ?_
      refine w_aald (j := 1) hx hb hK (hP 0 _ rfl) (by decide) (by decide) hf1 dX4_isDivided_83 ?_
      refine cn_S (As := [.ref pr, .ref r1]) (rest := []) C0 hl hK hS hA (fun q h => absurd h id) (c_sum l g H pr r1 4 w (u % v) (by decide) (hP 3 _ rfl) (hP 2 _ rfl)) gX4_isDivided_X4_sum rfl ⟨rfl, rfl⟩ (show hd_ok yX4_sum 2 from ⟨by decide, by decide, by decide +kernel⟩) ⟨Nat.le_of_ble_eq_true rfl, Nat.le_of_ble_eq_true rfl⟩ rfl (Nat.le_of_ble_eq_true rfl) ⟨by show _ ≤ k9; omega, by show _ ≤ 4 * k9; omega⟩ dX4_isDivided_84 (fun r9 H4 locs hv hzz hk4 hS => ?_)
      obtain ⟨p4, rfl, hp4, h4⟩ := hv
      refine lv_aload_n hx hb dX4_isDivided_87 rfl (lv_at hl 4 rfl) ?_
      refine cp_S (As := [.ref p4, .ref a]) (rest := []) C0 hl hK hS hA (c_isSame l g H4 p4 a 4 ((w + u % v) % 65536 ^ 4) u (by decide) (Nat.mod_lt _ (by decide)) hu h4 (ha.kp hS (nA' ha (fun z => z)))) gX4_isDivided_X4_isSame rfl ⟨rfl, rfl⟩ (show hd_ok yX4_isSame 2 from ⟨by decide, by decide, by decide +kernel⟩) ⟨Nat.le_of_ble_eq_true rfl, Nat.le_of_ble_eq_true rfl⟩ rfl (Nat.le_of_ble_eq_true rfl) ⟨by show _ ≤ k9; omega, by show _ ≤ 4 * k9; omega⟩ dX4_isDivided_88 (fun locs hS => ?_)
      refine lv_if_eq (tgt := 98) hx hb dX4_isDivided_91 (by decide) (fun h6 => ?_) (fun h6 => ?_)
      · skip
        refine lv_iconst (v := nI 0) hx hb dX4_isDivided_98 (by decide) ?_
        rw [show nI 0 = bI false from rfl]
        refine W.widen (k := k9) (n := 4 * k9) (by omega) (by omega) ?_
        exact rt_ni (mu := fun _ => False) C0 (bI_nar false) ⟨false, rfl⟩ hS rfl dX4_isDivided_99
      · skip
        refine lv_iconst (v := nI 1) hx hb dX4_isDivided_94 (by decide) ?_
        refine lv_goto (tgt := 99) hx hb dX4_isDivided_95 (by decide) ?_
        rw [show nI 1 = bI true from rfl]
        refine W.widen (k := k9) (n := 4 * k9) (by omega) (by omega) ?_
        exact rt_ni (mu := fun _ => False) C0 (bI_nar true) ⟨true, rfl⟩ hS rfl dX4_isDivided_99
  · skip
    refine lv_iconst (v := nI 1) hx hb dX4_isDivided_7 (by decide) ?_
    rw [show nI 1 = bI true from rfl]
    have hk0 : 0 ≤ k9 := Nat.zero_le _
    refine W.widen (k := k9) (n := 4 * k9) (by omega) (by omega) ?_
    exact rt_ni (mu := fun _ => False) C0 (bI_nar true) ⟨true, rfl⟩ hS rfl dX4_isDivided_8
end M18

-- THE CLASS: Row tells its number, and is written anew
/-- what a text holds, its sign put to it -/
def nhN (r n : Nat) (t : Nat → Nat) : Nat := if 0 < n ∧ t 0 = 45 then 2 ^ 64 - valN r t (fdN n t) (n - fdN n t) else valN r t (fdN n t) (n - fdN n t)
theorem okD_bd {r n f k9 : Nat} {t : Nat → Nat} (h : okD r t f n k9) (hk : k9 ≤ 4) : valN r t f (n - f) < 2 ^ 64 := Nat.lt_of_lt_of_le h.2.2 (Nat.le_trans (Nat.pow_le_pow_right (by decide) hk) (by decide))
/-- k signs t tell the number ab, with '-' ahead if bl -/
def tlQ (r ab : Nat) (bl : Bool) (k : Nat) (t : Nat → Nat) : Prop := (bl = false ∧ isW r ab k ∧ t = dgT r ab k) ∨ (bl = true ∧ ∃ k2, k = 1 + k2 ∧ isW r ab k2 ∧ t = tcat (fun _ => 45) 1 (dgT r ab k2))
section M66
variable {p : Program} {l : Launch} {e : Env} {s : State} {m : MethodId} {args : Array Value} {below : List Frame} {meth : Method} {c : Code} {H H0 : Heap} {locs : List Loc} {cells slots : Nat} {Q : State → Prop} {A : Nat → Prop} {g : Gx}
abbrev rmX0_numberHeld : Room := { frames := 2, cells := 0, slots := 0, locals := 43 }
set_option maxHeartbeats 4000000 in
set_option maxRecDepth 100000 in
theorem L_held (C0 : Cx p s m args meth c RX0 cX0_numberHeld 5 (some .long) wsX0_numberHeld) (hK : KK g s) (hA : ∀ q, s.heap.size ≤ q → s.heap.size ≤ q) {r c7 n f9 r9 : Nat} {t : Nat → Nat} (hR : RW g r c7 n t s.heap) (hr9 : 2 ≤ r9 ∧ r9 ≤ 36) (hdg : ∀ j, f9 ≤ j → j < n → wor (t j) < r9)
    (K : ∀ (ls : Array Slot) (locs : List Loc), va_S (fun q => s.heap.size ≤ q) s.heap s.heap locs → lv_has ls 5 [(2, .long (lN (valN r9 t f9 (n - f9)))), (0, .ref r)] → W p l e rmX0_numberHeld s m args below meth c s.heap locs 0 0 Q (F0 m 37 ls [])) :
    ∀ (n9 k : Nat), f9 + k ≤ n → n - (f9 + k) < n9 → ∀ (ls : Array Slot) (locs : List Loc), va_S (fun q => s.heap.size ≤ q) s.heap s.heap locs → lv_has ls 5 [(4, .int (nI (f9 + k))), (2, .long (lN (valN r9 t f9 k))), (0, .ref r), (1, .int (nI r9))] → W p l e rmX0_numberHeld s m args below meth c s.heap locs 0 0 Q (F0 m 8 ls []) := by
  obtain ⟨hx, hb, hr, hml, hown, hts, hlk⟩ := id C0
  obtain ⟨f, hf, hc9, hft, hn70, ht128, hrc⟩ := id hR
  intro n9
  induction n9 with
  | zero => intro k _ h; exact absurd h (Nat.not_lt_zero _)
  | succ n9 ih =>
    intro k hk hn9 ls locs hS hl
    refine lv_iload hx hb dX0_numberHeld_8 (lv_at hl 0 rfl) ?_
    refine lv_aload_n hx hb dX0_numberHeld_10 rfl (lv_at hl 2 rfl) ?_
    refine va_get (ci := 2) (C := RX0) (T := TX0) (N := 2) (v := .int (nI n)) hx hb hts (by decide +kernel) hown hK.1 (p1 hf) 0 rfl rfl 1 (by decide) (hts (.fieldLink RX0 15 "Radixbench$Row" "size" "I") (by decide +kernel)) (fun _ h9 => h9) rfl dX0_numberHeld_11 ?_
    refine lv_icmp_ge (tgt := 37) hx hb dX0_numberHeld_14 (by decide) (fun h1 => ?_) (fun h1 => ?_)
    · skip
      have h2 := le_n (by omega) h1
      have ek : n - f9 = k := by omega
      exact K ls _ hS (by rw [ek]; exact lv_sub hl [1, 2] rfl)
    · skip
      have hlt := nle_n (by omega) h1
      have hgood := hdg (f9 + k) (by omega) hlt
      refine lv_lload_n hx hb dX0_numberHeld_17 rfl (lv_at hl 1 rfl) ?_
      refine lv_iload_n hx hb dX0_numberHeld_18 rfl (lv_at hl 3 rfl) ?_
      refine lv_i2l (v := lN r9) hx hb dX0_numberHeld_19 (nI_l (by omega)) ?_
      refine lv_lmul hx hb dX0_numberHeld_20 ?_
      refine tp_l (y := lN (valN r9 t f9 k * r9)) (lN_mul _ _) ?_
      refine lv_aload_n hx hb dX0_numberHeld_21 rfl (lv_at hl 2 rfl) ?_
      refine lv_iload hx hb dX0_numberHeld_22 (lv_at hl 0 rfl) ?_
      refine lv_iload_n hx hb dX0_numberHeld_24 rfl (lv_at hl 3 rfl) ?_
      refine cp_V (As := [.int (nI (f9 + k)), .int (nI r9)]) (rest := [.long (lN (valN r9 t f9 k * r9))]) C0 hl hK hS hA (c_dgAt l g s.heap r c7 n t hR (f9 + k) r9 hlt hr9.2) gX0_numberHeld_X0_digitAt rfl ⟨rfl, rfl⟩ (hR.recv hK) ⟨rfl, (show hd_ok yX0_digitAt 2 from ⟨by decide, by decide, by decide +kernel⟩)⟩ ⟨Nat.le_of_ble_eq_true rfl, Nat.le_of_ble_eq_true rfl⟩ rfl (Nat.le_of_ble_eq_true rfl) ⟨Nat.zero_le _, Nat.zero_le _⟩ dX0_numberHeld_25 (fun locs hS => ?_)
      refine tp_i (y := nI (wor (t (f9 + k)))) (if_pos hgood) ?_
      refine lv_i2l (v := lN (wor (t (f9 + k)))) hx hb dX0_numberHeld_28 (nI_l (by omega)) ?_
      refine lv_ladd hx hb dX0_numberHeld_29 ?_
      refine tp_l (y := lN (valN r9 t f9 (k + 1))) (lN_add _ _) ?_
      refine lv_lstore_n (lv' := [(2, .long (lN (valN r9 t f9 (k + 1)))), (4, .int (nI (f9 + k))), (0, .ref r), (1, .int (nI r9))]) hx hb dX0_numberHeld_30 rfl hl (by decide) rfl (fun ls hl => ?_)
      refine lv_iinc (v := nI ((f9 + k) + 1)) (lv' := [(4, .int (nI ((f9 + k) + 1))), (2, .long (lN (valN r9 t f9 (k + 1)))), (0, .ref r), (1, .int (nI r9))]) hx hb dX0_numberHeld_31 hl (k := 1) rfl (nI_1 _) (by decide) rfl (fun ls hl => ?_)
      refine lv_goto (tgt := 8) hx hb dX0_numberHeld_34 (by decide) ?_
      exact ih (k + 1) (by omega) (by omega) ls _ hS (lv_sub hl [0, 1, 2, 3] rfl)
set_option maxHeartbeats 4000000 in
set_option maxRecDepth 100000 in
/-- numberHeld(radix) -/
theorem c_held (l : Launch) (g : Gx) (H0 : Heap) (r c7 n : Nat) (t : Nat → Nat) (hR : RW g r c7 n t H0) (r9 : Nat) (hr9 : 2 ≤ r9 ∧ r9 ≤ 36) (hdg : ∀ j, fdN n t ≤ j → j < n → wor (t j) < r9) (hfn : fdN n t ≤ n) (hbd : valN r9 t (fdN n t) (n - fdN n t) < 2 ^ 64) : Met l yX0_numberHeld wsX0_numberHeld rmX0_numberHeld (va_Pc [.ref r, .int (nI r9)] (hB g H0)) (pQ (some (.long (lN (nhN r9 n t)))) H0) 0 0 (fun q => H0.size ≤ q) := by
  refine cx_met (own := RX0) (cc := cX0_numberHeld) (maxL := 5) (by decide) rfl rfl (Nat.le_of_ble_eq_true rfl) ?_
  intro p e s m below meth c ls C0 hB0 hnm hl
  obtain ⟨hH, hK⟩ := hB0
  obtain ⟨hx, hb, hr, hml, hown, hts, hlk⟩ := id C0
  subst hH
  have hS : va_S (fun q => s.heap.size ≤ q) s.heap s.heap [] := va_S.rf
  have hA : ∀ q : Nat, s.heap.size ≤ q → s.heap.size ≤ q := fun q h => h
  have hl : lv_has ls 5 [(0, .ref r), (1, .int (nI r9))] := hl
  refine lv_lconst (v := lN 0) hx hb dX0_numberHeld_0 rfl ?_
  refine lv_lstore_n (lv' := [(2, .long (lN 0)), (0, .ref r), (1, .int (nI r9))]) hx hb dX0_numberHeld_1 rfl hl (by decide) rfl (fun ls hl => ?_)
  refine lv_aload_n hx hb dX0_numberHeld_2 rfl (lv_at hl 1 rfl) ?_
  refine cp_V (As := []) (rest := []) C0 hl hK hS hA (c_fDig l g s.heap r c7 n t hR) gX0_numberHeld_X0_firstDigit rfl ⟨rfl, rfl⟩ (hR.recv hK) ⟨rfl, (show hd_ok yX0_firstDigit 0 from ⟨by decide, by decide, by decide +kernel⟩)⟩ ⟨Nat.le_of_ble_eq_true rfl, Nat.le_of_ble_eq_true rfl⟩ rfl (Nat.le_of_ble_eq_true rfl) ⟨Nat.zero_le _, Nat.zero_le _⟩ dX0_numberHeld_3 (fun locs hS => ?_)
  refine lv_istore (lv' := [(4, .int (nI (fdN n t))), (2, .long (lN 0)), (0, .ref r), (1, .int (nI r9))]) hx hb dX0_numberHeld_6 hl (by decide) rfl (fun ls hl => ?_)
  refine L_held C0 hK hA hR hr9 hdg (fun ls locs hS hl => ?_) (n + 1) 0 hfn (by omega) ls _ hS (lv_sub hl [0, 1, 2, 3] rfl)
  refine lv_aload_n hx hb dX0_numberHeld_37 rfl (lv_at hl 1 rfl) ?_
  refine lv_bipush (v := nI 45) hx hb dX0_numberHeld_38 (by decide) ?_
  refine cp_V (As := [.int (nI 45)]) (rest := []) C0 hl hK hS hA (c_stW l g s.heap r c7 n t hR 45 (by decide)) gX0_numberHeld_X0_startsWith rfl ⟨rfl, rfl⟩ (hR.recv hK) ⟨rfl, (show hd_ok yX0_startsWith 1 from ⟨by decide, by decide, by decide +kernel⟩)⟩ ⟨Nat.le_of_ble_eq_true rfl, Nat.le_of_ble_eq_true rfl⟩ rfl (Nat.le_of_ble_eq_true rfl) ⟨Nat.zero_le _, Nat.zero_le _⟩ dX0_numberHeld_40 (fun locs hS => ?_)
  refine lv_if_eq (tgt := 51) hx hb dX0_numberHeld_43 (by decide) (fun h1 => ?_) (fun h1 => ?_)
  · skip
    refine lv_lload_n hx hb dX0_numberHeld_51 rfl (lv_at hl 0 rfl) ?_
    exact rt_l C0 (by unfold nhN; rw [if_neg (of_decide_eq_false (bI_0 h1))]) hS rfl dX0_numberHeld_52
  · skip
    refine lv_lload_n hx hb dX0_numberHeld_46 rfl (lv_at hl 0 rfl) ?_
    refine lv_lneg hx hb dX0_numberHeld_47 ?_
    refine lv_goto (tgt := 52) hx hb dX0_numberHeld_48 (by decide) ?_
    exact rt_l C0 (by unfold nhN; rw [if_pos (of_decide_eq_true (bI_n0 h1))]; exact neg_N (by omega)) hS rfl dX0_numberHeld_52
abbrev rmX0_turnRound : Room := { frames := 0, cells := 0, slots := 0, locals := 0 }
/-- the first k signs and the last k swapped -/
def swN (n : Nat) (t : Nat → Nat) (k : Nat) : Nat → Nat := fun j => if j < k ∨ n - k ≤ j ∧ j < n then t (n - 1 - j) else t j
set_option maxHeartbeats 4000000 in
set_option maxRecDepth 100000 in
theorem L_turnR (C0 : Cx p s m args meth c RX0 cX0_turnRound 4 none wsX0_turnRound) (hK : KK g s) {r c7 n : Nat} {t : Nat → Nat} (hAc : A c7)
    (K : ∀ (ls : Array Slot) (H : Heap) (locs : List Loc), RW g r c7 n (fun j => t (n - 1 - j)) H → va_S A s.heap H locs → W p l e rmX0_turnRound s m args below meth c H locs 0 0 Q (F0 m 49 ls [])) :
    ∀ (n9 k : Nat) (x : Int32), x = nI (n - k) - nI 1 → 2 * k ≤ n + 1 → n + 1 - 2 * k < n9 → ∀ (ls : Array Slot) (H : Heap) (locs : List Loc), RW g r c7 n (swN n t k) H → va_S A s.heap H locs → lv_has ls 4 [(2, .int x), (1, .int (nI k)), (0, .ref r)] → W p l e rmX0_turnRound s m args below meth c H locs 0 0 Q (F0 m 9 ls []) := by
  obtain ⟨hx, hb, hr, hml, hown, hts, hlk⟩ := id C0
  intro n9
  induction n9 with
  | zero => intro k x _ _ h; exact absurd h (Nat.not_lt_zero _)
  | succ n9 ih =>
    intro k x ex hk hn9 ls H locs hR hS hl
    obtain ⟨f, hf, hc9, hft, hn70, ht128, hrc⟩ := id hR
    refine lv_iload_n hx hb dX0_turnRound_9 rfl (lv_at hl 1 rfl) ?_
    refine lv_iload_n hx hb dX0_turnRound_10 rfl (lv_at hl 0 rfl) ?_
    refine lv_icmp_ge (tgt := 49) hx hb dX0_turnRound_11 (by decide) (fun h1 => ?_) (fun h1 => ?_)
    · skip
      have hend : n ≤ 2 * k + 1 := by
        rcases Nat.lt_or_ge (2 * k + 1) n with h | h
        · rw [ex, pk_sub (by omega)] at h1
          exact absurd (le_n (by omega) h1) (by omega)
        · exact h
      refine K ls H _ (hR.cong (fun j hj => ?_)) hS
      unfold swN
      by_cases e : j < k ∨ n - k ≤ j ∧ j < n
      · rw [if_pos e]
      · rw [if_neg e]
        congr 1
        omega
    · skip
      have hgo : 2 * k + 1 < n := by
        rcases Nat.lt_or_ge (2 * k + 1) n with h | h
        · exact h
        · refine absurd ?_ h1
          rw [ex]
          rcases Nat.eq_zero_or_pos (n - k) with e | e
          · rw [e]
            exact Int32.le_trans (show nI 0 - nI 1 ≤ nI 0 by decide) (nI_le (Nat.zero_le _) (by omega))
          · rw [pk_sub e]
            exact nI_le (by omega) (by omega)
      have ex2 : x = nI (n - k - 1) := by rw [ex, pk_sub (by omega)]
      subst ex2
      have e1 : swN n t k k = t k := by unfold swN; rw [if_neg (by omega)]
      have e2 : swN n t k (n - k - 1) = t (n - k - 1) := by unfold swN; rw [if_neg (by omega)]
      have t1 := ht128 k (by omega)
      rw [e1] at t1
      have t2 := ht128 (n - k - 1) (by omega)
      rw [e2] at t2
      refine lv_aload_n hx hb dX0_turnRound_14 rfl (lv_at hl 2 rfl) ?_
      refine va_get (ci := 2) (C := RX0) (T := TX0) (N := 2) (v := .ref c7) hx hb hts (by decide +kernel) hown hK.1 (p1 hf) 0 rfl rfl 0 (by decide) (hts (.fieldLink RX0 9 "Radixbench$Row" "signs" "[C") (by decide +kernel)) (fun _ h9 => h9) rfl dX0_turnRound_15 ?_
      refine lv_iload_n hx hb dX0_turnRound_18 rfl (lv_at hl 1 rfl) ?_
      refine f_cald (j := k) hx hb hK hc9 (by omega) (by decide) dX0_turnRound_19 ?_
      refine tp_i (y := nI (t k)) ((hft _ (by omega)).trans (congrArg nI e1)) ?_
      refine lv_istore_n (lv' := [(3, .int (nI (t k))), (2, .int (nI (n - k - 1))), (1, .int (nI k)), (0, .ref r)]) hx hb dX0_turnRound_20 rfl hl (by decide) rfl (fun ls hl => ?_)
      refine lv_aload_n hx hb dX0_turnRound_21 rfl (lv_at hl 3 rfl) ?_
      refine va_get (ci := 2) (C := RX0) (T := TX0) (N := 2) (v := .ref c7) hx hb hts (by decide +kernel) hown hK.1 (p1 hf) 0 rfl rfl 0 (by decide) (hts (.fieldLink RX0 9 "Radixbench$Row" "signs" "[C") (by decide +kernel)) (fun _ h9 => h9) rfl dX0_turnRound_22 ?_
      refine lv_iload_n hx hb dX0_turnRound_25 rfl (lv_at hl 2 rfl) ?_
      refine lv_aload_n hx hb dX0_turnRound_26 rfl (lv_at hl 3 rfl) ?_
      refine va_get (ci := 2) (C := RX0) (T := TX0) (N := 2) (v := .ref c7) hx hb hts (by decide +kernel) hown hK.1 (p1 hf) 0 rfl rfl 0 (by decide) (hts (.fieldLink RX0 9 "Radixbench$Row" "signs" "[C") (by decide +kernel)) (fun _ h9 => h9) rfl dX0_turnRound_27 ?_
      refine lv_iload_n hx hb dX0_turnRound_30 rfl (lv_at hl 1 rfl) ?_
      refine f_cald (j := n - k - 1) hx hb hK hc9 (by omega) (by decide) dX0_turnRound_31 ?_
      refine tp_i (y := nI (t (n - k - 1))) ((hft _ (by omega)).trans (congrArg nI e2)) ?_
      refine f_cast (j := k) hx hb hK hS hc9 hAc (by omega) (by decide) dX0_turnRound_32 (fun H1 locs g1 z1 o1 hS => ?_)
      have hf1 := hf.kept (o1 _ hrc)
      refine lv_aload_n hx hb dX0_turnRound_33 rfl (lv_at hl 3 rfl) ?_
      refine va_get (ci := 2) (C := RX0) (T := TX0) (N := 2) (v := .ref c7) hx hb hts (by decide +kernel) hown hK.1 (p1 hf1) 0 rfl rfl 0 (by decide) (hts (.fieldLink RX0 9 "Radixbench$Row" "signs" "[C") (by decide +kernel)) (fun _ h9 => h9) rfl dX0_turnRound_34 ?_
      refine lv_iload_n hx hb dX0_turnRound_37 rfl (lv_at hl 1 rfl) ?_
      refine lv_iload_n hx hb dX0_turnRound_38 rfl (lv_at hl 0 rfl) ?_
      refine f_cast (j := n - k - 1) hx hb hK hS g1 hAc (by omega) (by decide) dX0_turnRound_39 (fun H2 locs g2 z2 o2 hS => ?_)
      have hf2 := hf1.kept (o2 _ hrc)
      refine lv_iinc (v := nI (k + 1)) (lv' := [(1, .int (nI (k + 1))), (3, .int (nI (t k))), (2, .int (nI (n - k - 1))), (0, .ref r)]) hx hb dX0_turnRound_40 hl (k := 2) rfl (nI_1 _) (by decide) rfl (fun ls hl => ?_)
      refine lv_iinc (v := nI (n - (k + 1)) - nI 1) (lv' := [(2, .int (nI (n - (k + 1)) - nI 1)), (1, .int (nI (k + 1))), (3, .int (nI (t k))), (0, .ref r)]) hx hb dX0_turnRound_43 hl (k := 2) rfl ((by rw [show n - (k + 1) = n - k - 1 by omega, show nI (n - k - 1) - nI 1 = nI (n - k - 1) + -nI 1 from Int32.sub_eq_add_neg _ _]; rfl)) (by decide) rfl (fun ls hl => ?_)
      refine lv_goto (tgt := 9) hx hb dX0_turnRound_46 (by decide) ?_
      refine ih (k + 1) _ rfl (by omega) (by omega) ls H2 _ ⟨_, hf2, g2, fun j hj => ?_, hn70, fun j hj => ?_, hrc⟩ hS (lv_sub hl [0, 1, 3] rfl)
      · unfold upd
        by_cases a1 : j = n - k - 1
        · rw [if_pos a1, narc_n t1]
          unfold swN
          rw [if_pos (Or.inr ⟨by omega, hj⟩)]
          congr 2
          omega
        · rw [if_neg a1]
          by_cases a2 : j = k
          · rw [if_pos a2, narc_n t2]
            unfold swN
            rw [if_pos (Or.inl (by omega))]
            congr 2
            omega
          · rw [if_neg a2, hft j hj]
            refine congrArg nI ?_
            unfold swN
            by_cases a3 : j < k ∨ n - k ≤ j ∧ j < n
            · rw [if_pos a3, if_pos (by omega)]
            · rw [if_neg a3, if_neg (by omega)]
      · have b1 : ∀ i, i < n → t i < 128 := fun i hi => by
          by_cases a3 : i < k ∨ n - k ≤ i ∧ i < n
          · have h9 := ht128 (n - 1 - i) (by omega)
            unfold swN at h9
            rw [if_pos (by omega), show n - 1 - (n - 1 - i) = i by omega] at h9
            exact h9
          · have h9 := ht128 i hi
            unfold swN at h9
            rw [if_neg a3] at h9
            exact h9
        unfold swN
        split
        · exact b1 _ (by omega)
        · exact b1 _ hj
set_option maxHeartbeats 4000000 in
set_option maxRecDepth 100000 in
/-- turnRound() -/
theorem c_turnR (l : Launch) (g : Gx) (H0 : Heap) (r c7 n : Nat) (t : Nat → Nat) (hR : RW g r c7 n t H0) : Met l yX0_turnRound wsX0_turnRound rmX0_turnRound (va_Pc [.ref r] (hB g H0)) (nQ H0 (fun q => q = r ∨ q = c7) (fun r1 H1 => r1 = none ∧ RW g r c7 n (fun j => t (n - 1 - j)) H1)) 0 0 (fun q => (q = r ∨ q = c7) ∨ H0.size ≤ q) := by
  refine cx_met (own := RX0) (cc := cX0_turnRound) (maxL := 4) (by decide) rfl rfl (Nat.le_of_ble_eq_true rfl) ?_
  intro p e s m below meth c ls C0 hB0 hnm hl
  obtain ⟨hH, hK⟩ := hB0
  obtain ⟨hx, hb, hr, hml, hown, hts, hlk⟩ := id C0
  subst hH
  have hS : va_S (fun q => (q = r ∨ q = c7) ∨ s.heap.size ≤ q) s.heap s.heap [] := va_S.rf
  have hA : ∀ q : Nat, s.heap.size ≤ q → (fun q => (q = r ∨ q = c7) ∨ s.heap.size ≤ q) q := fun q h => Or.inr h
  have hl : lv_has ls 4 [(0, .ref r)] := hl
  obtain ⟨f, hf, hc9, hft, hn70, ht128, hrc⟩ := id hR
  refine lv_iconst (v := nI 0) hx hb dX0_turnRound_0 (by decide) ?_
  refine lv_istore_n (lv' := [(1, .int (nI 0)), (0, .ref r)]) hx hb dX0_turnRound_1 rfl hl (by decide) rfl (fun ls hl => ?_)
  refine lv_aload_n hx hb dX0_turnRound_2 rfl (lv_at hl 1 rfl) ?_
  refine va_get (ci := 2) (C := RX0) (T := TX0) (N := 2) (v := .int (nI n)) hx hb hts (by decide +kernel) hown hK.1 (p1 hf) 0 rfl rfl 1 (by decide) (hts (.fieldLink RX0 15 "Radixbench$Row" "size" "I") (by decide +kernel)) (fun _ h9 => h9) rfl dX0_turnRound_3 ?_
  refine lv_iconst (v := nI 1) hx hb dX0_turnRound_6 (by decide) ?_
  refine lv_isub hx hb dX0_turnRound_7 ?_
  refine tp_i (y := nI (n - 0) - nI 1) (rfl) ?_
  refine lv_istore_n (lv' := [(2, .int (nI (n - 0) - nI 1)), (1, .int (nI 0)), (0, .ref r)]) hx hb dX0_turnRound_8 rfl hl (by decide) rfl (fun ls hl => ?_)
  refine L_turnR C0 hK (Or.inl (Or.inr rfl)) (fun ls H locs hR hS => ?_) (n + 2) 0 _ rfl (by omega) (by omega) ls s.heap _ (hR.cong (fun j hj => by unfold swN; rw [if_neg (by omega)])) hS (lv_sub hl [0, 1, 2] rfl)
  exact rt_v (mu := (fun q => q = r ∨ q = c7)) C0 ⟨rfl, hR⟩ hS rfl dX0_turnRound_49
abbrev rmX0_tell : Room := { frames := 2, cells := 0, slots := 0, locals := 48 }
set_option maxHeartbeats 4000000 in
set_option maxRecDepth 100000 in
theorem L_tell (C0 : Cx p s m args meth c RX0 cX0_tell 11 none wsX0_tell) (hK : KK g s) (hA : ∀ q, s.heap.size ≤ q → A q) {r c7 r9 v : Nat} {bl : Bool} (hmA : ∀ q, q = r ∨ q = c7 → A q) (hr9 : 2 ≤ r9 ∧ r9 ≤ 36) (hv : v < 2 ^ 64)
    (K : ∀ (k : Nat) (ls : Array Slot) (H : Heap) (locs : List Loc), isW r9 v k → RW g r c7 k (fun j => sgn (v / r9 ^ j % r9)) H → va_S A s.heap H locs → lv_has ls 11 [(5, .int (bI bl)), (0, .ref r)] → W p l e rmX0_tell s m args below meth c H locs 0 0 Q (F0 m 94 ls [])) :
    ∀ (n9 k : Nat), k ≤ 64 → (∀ j, 1 ≤ j → j < k → v / r9 ^ j ≠ 0) → 65 - k < n9 → ∀ (ls : Array Slot) (H : Heap) (locs : List Loc), RW g r c7 k (fun j => sgn (v / r9 ^ j % r9)) H → va_S A s.heap H locs → lv_has ls 11 [(8, .int (nI k)), (6, .long (lN (v / r9 ^ k))), (5, .int (bI bl)), (0, .ref r), (3, .int (nI r9))] → W p l e rmX0_tell s m args below meth c H locs 0 0 Q (F0 m 39 ls []) := by
  obtain ⟨hx, hb, hr, hml, hown, hts, hlk⟩ := id C0
  intro n9
  induction n9 with
  | zero => intro k _ _ h; exact absurd h (Nat.not_lt_zero _)
  | succ n9 ih =>
    intro k hk hnz hn9 ls H locs hR hS hl
    have h64 : v / r9 ^ 64 = 0 := Nat.div_eq_of_lt (Nat.lt_of_lt_of_le hv (Nat.pow_le_pow_left hr9.1 64))
    have hvk : v / r9 ^ k < 2 ^ 64 := Nat.lt_of_le_of_lt (Nat.div_le_self _ _) hv
    refine lv_iload hx hb dX0_tell_39 (lv_at hl 0 rfl) ?_
    refine lv_bipush (v := nI 64) hx hb dX0_tell_41 (by decide) ?_
    refine lv_icmp_ge (tgt := 94) hx hb dX0_tell_43 (by decide) (fun h1 => ?_) (fun h1 => ?_)
    · skip
      have n1 := le_n (by decide) h1
      obtain rfl : k = 64 := by omega
      exact K 64 ls H _ ⟨by decide, by decide, h64, hnz⟩ hR hS (lv_sub hl [2, 3] rfl)
    · skip
      have n1 := nle_n (by omega) h1
      refine lv_iload hx hb dX0_tell_46 (lv_at hl 0 rfl) ?_
      refine lv_if_eq (tgt := 58) hx hb dX0_tell_48 (by decide) (fun h2 => ?_) (fun h2 => ?_)
      · skip
        have h0 : k = 0 := nI_inj (by omega) (by decide) h2
        have hm9 : v / r9 ^ k % r9 < 36 := Nat.lt_of_lt_of_le (Nat.mod_lt _ (by omega)) hr9.2
        have hq0 : v / r9 ^ k / r9 * r9 ≤ v / r9 ^ k := Nat.div_mul_le_self _ _
        have hem : v / r9 ^ k - v / r9 ^ k / r9 * r9 = v / r9 ^ k % r9 := by have := Nat.div_add_mod (v / r9 ^ k) r9; rw [Nat.mul_comm] at this; omega
        refine lv_lload hx hb dX0_tell_58 (lv_at hl 1 rfl) ?_
        refine lv_iload_n hx hb dX0_tell_60 rfl (lv_at hl 4 rfl) ?_
        refine lv_i2l (v := lN r9) hx hb dX0_tell_61 (nI_l (by omega)) ?_
        refine cp_S (As := [.long (lN (v / r9 ^ k)), .long (lN r9)]) (rest := []) C0 hl hK hS hA (c_uQuo l g H (v / r9 ^ k) r9 hvk (by omega)) gX0_tell_X1_quotient rfl ⟨rfl, rfl⟩ (show hd_ok yX1_quotient 2 from ⟨by decide, by decide, by decide +kernel⟩) ⟨Nat.le_of_ble_eq_true rfl, Nat.le_of_ble_eq_true rfl⟩ rfl (Nat.le_of_ble_eq_true rfl) ⟨Nat.zero_le _, Nat.zero_le _⟩ dX0_tell_62 (fun locs hS => ?_)
        refine lv_lstore (lv' := [(9, .long (lN (v / r9 ^ k / r9))), (8, .int (nI k)), (6, .long (lN (v / r9 ^ k))), (5, .int (bI bl)), (0, .ref r), (3, .int (nI r9))]) hx hb dX0_tell_65 hl (by decide) rfl (fun ls hl => ?_)
        refine lv_aload_n hx hb dX0_tell_67 rfl (lv_at hl 4 rfl) ?_
        refine lv_lload hx hb dX0_tell_68 (lv_at hl 2 rfl) ?_
        refine lv_lload hx hb dX0_tell_70 (lv_at hl 0 rfl) ?_
        refine lv_iload_n hx hb dX0_tell_72 rfl (lv_at hl 5 rfl) ?_
        refine lv_i2l (v := lN r9) hx hb dX0_tell_73 (nI_l (by omega)) ?_
        refine lv_lmul hx hb dX0_tell_74 ?_
        refine tp_l (y := lN (v / r9 ^ k / r9 * r9)) (lN_mul _ _) ?_
        refine lv_lsub hx hb dX0_tell_75 ?_
        refine tp_l (y := lN (v / r9 ^ k % r9)) ((lN_sub hq0).trans (congrArg lN hem)) ?_
        refine lv_l2i (v := nI (v / r9 ^ k % r9)) hx hb dX0_tell_76 (lN_i _) ?_
        refine lv_iconst (v := nI 0) hx hb dX0_tell_77 (by decide) ?_
        refine tp_i (y := bI false) (rfl) ?_
        refine cp_S (As := [.int (nI (v / r9 ^ k % r9)), .int (bI false)]) (rest := [.ref r]) C0 hl hK hS hA (c_sgOf l g H (v / r9 ^ k % r9) false (by omega)) gX0_tell_X0_signOf rfl ⟨rfl, rfl⟩ (show hd_ok yX0_signOf 2 from ⟨by decide, by decide, by decide +kernel⟩) ⟨Nat.le_of_ble_eq_true rfl, Nat.le_of_ble_eq_true rfl⟩ rfl (Nat.le_of_ble_eq_true rfl) ⟨Nat.zero_le _, Nat.zero_le _⟩ dX0_tell_78 (fun locs hS => ?_)
        refine tp_i (y := nI (sgn (v / r9 ^ k % r9))) ((congrArg nI (by unfold chN; rw [if_neg (by omega), if_neg (by omega), if_neg (fun z => absurd z.1 (by decide))]))) ?_
        refine cn_V (As := [.int (nI (sgn (v / r9 ^ k % r9)))]) (rest := []) C0 hl hK hS hA (fun q h => hmA q h) (c_rAdd l g H r c7 k (fun j => sgn (v / r9 ^ j % r9)) hR (sgn (v / r9 ^ k % r9)) (sgn_lt hm9) (by omega)) gX0_tell_X0_add rfl ⟨rfl, rfl⟩ (hR.recv hK) ⟨rfl, (show hd_ok yX0_add 1 from ⟨by decide, by decide, by decide +kernel⟩)⟩ ⟨Nat.le_of_ble_eq_true rfl, Nat.le_of_ble_eq_true rfl⟩ rfl (Nat.le_of_ble_eq_true rfl) ⟨Nat.zero_le _, Nat.zero_le _⟩ dX0_tell_81 (fun r1 H1 locs hv hzz hk1 hS => ?_)
        obtain ⟨rfl, hR1⟩ := hv
        refine lv_lload hx hb dX0_tell_84 (lv_at hl 0 rfl) ?_
        refine lv_lstore (lv' := [(6, .long (lN (v / r9 ^ k / r9))), (9, .long (lN (v / r9 ^ k / r9))), (8, .int (nI k)), (5, .int (bI bl)), (0, .ref r), (3, .int (nI r9))]) hx hb dX0_tell_86 hl (by decide) rfl (fun ls hl => ?_)
        refine lv_iinc (v := nI (k + 1)) (lv' := [(8, .int (nI (k + 1))), (6, .long (lN (v / r9 ^ k / r9))), (9, .long (lN (v / r9 ^ k / r9))), (5, .int (bI bl)), (0, .ref r), (3, .int (nI r9))]) hx hb dX0_tell_88 hl (k := 2) rfl (nI_1 _) (by decide) rfl (fun ls hl => ?_)
        refine lv_goto (tgt := 39) hx hb dX0_tell_91 (by decide) ?_
        rw [Nat.div_div_eq_div_mul, ← Nat.pow_succ] at hl
        refine ih (k + 1) (by omega) (fun j h1 h2 => ?_) (by omega) ls H1 _ (hR1.cong (fun j hj => ?_)) hS (lv_sub hl [0, 1, 3, 4, 5] rfl)
        · rcases Nat.lt_or_ge j k with e | e
          · exact hnz j h1 e
          · have e9 : j = k := by omega
            rw [e9]
            exact absurd h1 (by omega)
        · unfold tup
          by_cases ej : j = k
          · rw [if_pos ej, ej]
          · rw [if_neg ej]
      · skip
        have h0 : k ≠ 0 := fun z => h2 (by rw [z]; rfl)
        refine lv_lload hx hb dX0_tell_51 (lv_at hl 1 rfl) ?_
        refine lv_lconst (v := lN 0) hx hb dX0_tell_53 rfl ?_
        refine W.lcmp hx hb dX0_tell_54 ?_
        refine lv_if_eq (tgt := 94) hx hb dX0_tell_55 (by decide) (fun h3 => ?_) (fun h3 => ?_)
        · skip
          have h4 : v / r9 ^ k = 0 := (lN_inj hvk (by decide)).mp (lc_eq h3)
          exact K k ls H _ ⟨by omega, hk, h4, hnz⟩ hR hS (lv_sub hl [2, 3] rfl)
        · skip
          have h4 : v / r9 ^ k ≠ 0 := fun z => lc_ne h3 (by rw [z])
          have hm9 : v / r9 ^ k % r9 < 36 := Nat.lt_of_lt_of_le (Nat.mod_lt _ (by omega)) hr9.2
          have hq0 : v / r9 ^ k / r9 * r9 ≤ v / r9 ^ k := Nat.div_mul_le_self _ _
          have hem : v / r9 ^ k - v / r9 ^ k / r9 * r9 = v / r9 ^ k % r9 := by have := Nat.div_add_mod (v / r9 ^ k) r9; rw [Nat.mul_comm] at this; omega
          refine lv_lload hx hb dX0_tell_58 (lv_at hl 1 rfl) ?_
          refine lv_iload_n hx hb dX0_tell_60 rfl (lv_at hl 4 rfl) ?_
          refine lv_i2l (v := lN r9) hx hb dX0_tell_61 (nI_l (by omega)) ?_
          refine cp_S (As := [.long (lN (v / r9 ^ k)), .long (lN r9)]) (rest := []) C0 hl hK hS hA (c_uQuo l g H (v / r9 ^ k) r9 hvk (by omega)) gX0_tell_X1_quotient rfl ⟨rfl, rfl⟩ (show hd_ok yX1_quotient 2 from ⟨by decide, by decide, by decide +kernel⟩) ⟨Nat.le_of_ble_eq_true rfl, Nat.le_of_ble_eq_true rfl⟩ rfl (Nat.le_of_ble_eq_true rfl) ⟨Nat.zero_le _, Nat.zero_le _⟩ dX0_tell_62 (fun locs hS => ?_)
          refine lv_lstore (lv' := [(9, .long (lN (v / r9 ^ k / r9))), (8, .int (nI k)), (6, .long (lN (v / r9 ^ k))), (5, .int (bI bl)), (0, .ref r), (3, .int (nI r9))]) hx hb dX0_tell_65 hl (by decide) rfl (fun ls hl => ?_)
          refine lv_aload_n hx hb dX0_tell_67 rfl (lv_at hl 4 rfl) ?_
          refine lv_lload hx hb dX0_tell_68 (lv_at hl 2 rfl) ?_
          refine lv_lload hx hb dX0_tell_70 (lv_at hl 0 rfl) ?_
          refine lv_iload_n hx hb dX0_tell_72 rfl (lv_at hl 5 rfl) ?_
          refine lv_i2l (v := lN r9) hx hb dX0_tell_73 (nI_l (by omega)) ?_
          refine lv_lmul hx hb dX0_tell_74 ?_
          refine tp_l (y := lN (v / r9 ^ k / r9 * r9)) (lN_mul _ _) ?_
          refine lv_lsub hx hb dX0_tell_75 ?_
          refine tp_l (y := lN (v / r9 ^ k % r9)) ((lN_sub hq0).trans (congrArg lN hem)) ?_
          refine lv_l2i (v := nI (v / r9 ^ k % r9)) hx hb dX0_tell_76 (lN_i _) ?_
          refine lv_iconst (v := nI 0) hx hb dX0_tell_77 (by decide) ?_
          refine tp_i (y := bI false) (rfl) ?_
          refine cp_S (As := [.int (nI (v / r9 ^ k % r9)), .int (bI false)]) (rest := [.ref r]) C0 hl hK hS hA (c_sgOf l g H (v / r9 ^ k % r9) false (by omega)) gX0_tell_X0_signOf rfl ⟨rfl, rfl⟩ (show hd_ok yX0_signOf 2 from ⟨by decide, by decide, by decide +kernel⟩) ⟨Nat.le_of_ble_eq_true rfl, Nat.le_of_ble_eq_true rfl⟩ rfl (Nat.le_of_ble_eq_true rfl) ⟨Nat.zero_le _, Nat.zero_le _⟩ dX0_tell_78 (fun locs hS => ?_)
          refine tp_i (y := nI (sgn (v / r9 ^ k % r9))) ((congrArg nI (by unfold chN; rw [if_neg (by omega), if_neg (by omega), if_neg (fun z => absurd z.1 (by decide))]))) ?_
          refine cn_V (As := [.int (nI (sgn (v / r9 ^ k % r9)))]) (rest := []) C0 hl hK hS hA (fun q h => hmA q h) (c_rAdd l g H r c7 k (fun j => sgn (v / r9 ^ j % r9)) hR (sgn (v / r9 ^ k % r9)) (sgn_lt hm9) (by omega)) gX0_tell_X0_add rfl ⟨rfl, rfl⟩ (hR.recv hK) ⟨rfl, (show hd_ok yX0_add 1 from ⟨by decide, by decide, by decide +kernel⟩)⟩ ⟨Nat.le_of_ble_eq_true rfl, Nat.le_of_ble_eq_true rfl⟩ rfl (Nat.le_of_ble_eq_true rfl) ⟨Nat.zero_le _, Nat.zero_le _⟩ dX0_tell_81 (fun r1 H1 locs hv hzz hk1 hS => ?_)
          obtain ⟨rfl, hR1⟩ := hv
          refine lv_lload hx hb dX0_tell_84 (lv_at hl 0 rfl) ?_
          refine lv_lstore (lv' := [(6, .long (lN (v / r9 ^ k / r9))), (9, .long (lN (v / r9 ^ k / r9))), (8, .int (nI k)), (5, .int (bI bl)), (0, .ref r), (3, .int (nI r9))]) hx hb dX0_tell_86 hl (by decide) rfl (fun ls hl => ?_)
          refine lv_iinc (v := nI (k + 1)) (lv' := [(8, .int (nI (k + 1))), (6, .long (lN (v / r9 ^ k / r9))), (9, .long (lN (v / r9 ^ k / r9))), (5, .int (bI bl)), (0, .ref r), (3, .int (nI r9))]) hx hb dX0_tell_88 hl (k := 2) rfl (nI_1 _) (by decide) rfl (fun ls hl => ?_)
          refine lv_goto (tgt := 39) hx hb dX0_tell_91 (by decide) ?_
          rw [Nat.div_div_eq_div_mul, ← Nat.pow_succ] at hl
          refine ih (k + 1) (by omega) (fun j h1 h2 => ?_) (by omega) ls H1 _ (hR1.cong (fun j hj => ?_)) hS (lv_sub hl [0, 1, 3, 4, 5] rfl)
          · rcases Nat.lt_or_ge j k with e | e
            · exact hnz j h1 e
            · have e9 : j = k := by omega
              rw [e9]
              exact h4
          · unfold tup
            by_cases ej : j = k
            · rw [if_pos ej, ej]
            · rw [if_neg ej]
set_option maxHeartbeats 4000000 in
set_option maxRecDepth 100000 in
/-- tell(number, radix, isSigned) -/
theorem c_tell (l : Launch) (g : Gx) (H0 : Heap) (r c7 n : Nat) (t : Nat → Nat) (hR : RW g r c7 n t H0) (u r9 : Nat) (ys : Bool) (hu : u < 2 ^ 64) (hr9 : 2 ≤ r9 ∧ r9 ≤ 36) : Met l yX0_tell wsX0_tell rmX0_tell (va_Pc [.ref r, .long (lN u), .int (nI r9), .int (bI ys)] (hB g H0)) (nQ H0 (fun q => q = r ∨ q = c7) (fun r1 H1 => r1 = none ∧ ∃ (k : Nat) (t2 : Nat → Nat), tlQ r9 (if ys = true ∧ 2 ^ 63 ≤ u then 2 ^ 64 - u else u) (decide (ys = true ∧ 2 ^ 63 ≤ u)) k t2 ∧ RW g r c7 k t2 H1)) 0 0 (fun q => (q = r ∨ q = c7) ∨ H0.size ≤ q) := by
  refine cx_met (own := RX0) (cc := cX0_tell) (maxL := 11) (by decide) rfl rfl (Nat.le_of_ble_eq_true rfl) ?_
  intro p e s m below meth c ls C0 hB0 hnm hl
  obtain ⟨hH, hK⟩ := hB0
  obtain ⟨hx, hb, hr, hml, hown, hts, hlk⟩ := id C0
  subst hH
  have hS : va_S (fun q => (q = r ∨ q = c7) ∨ s.heap.size ≤ q) s.heap s.heap [] := va_S.rf
  have hA : ∀ q : Nat, s.heap.size ≤ q → (fun q => (q = r ∨ q = c7) ∨ s.heap.size ≤ q) q := fun q h => Or.inr h
  have hl : lv_has ls 11 [(0, .ref r), (1, .long (lN u)), (3, .int (nI r9)), (4, .int (bI ys))] := hl
  obtain ⟨f, hf, hc9, hft, hn70, ht128, hrc⟩ := id hR
  have hmA : ∀ q, q = r ∨ q = c7 → (fun q => (q = r ∨ q = c7) ∨ s.heap.size ≤ q) q := fun q h => Or.inl h
  refine lv_iload hx hb dX0_tell_0 (lv_at hl 3 rfl) ?_
  refine lv_if_eq (tgt := 15) hx hb dX0_tell_2 (by decide) (fun h1 => ?_) (fun h1 => ?_)
  · skip
    have hno : ¬ (ys = true ∧ 2 ^ 63 ≤ u) := fun z => absurd z.1 (by rw [bI_0 h1]; decide)
    refine lv_iconst (v := nI 0) hx hb dX0_tell_15 (by decide) ?_
    refine lv_istore (lv' := [(5, .int (nI 0)), (0, .ref r), (1, .long (lN u)), (3, .int (nI r9)), (4, .int (bI ys))]) hx hb dX0_tell_16 hl (by decide) rfl (fun ls hl => ?_)
    refine lv_iload hx hb dX0_tell_18 (lv_at hl 0 rfl) ?_
    refine lv_if_eq (tgt := 28) hx hb dX0_tell_20 (by decide) (fun h8 => ?_) (fun h8 => absurd rfl h8)
    refine lv_lload_n hx hb dX0_tell_28 rfl (lv_at hl 2 rfl) ?_
    refine lv_lstore (lv' := [(6, .long (lN u)), (5, .int (nI 0)), (0, .ref r), (1, .long (lN u)), (3, .int (nI r9)), (4, .int (bI ys))]) hx hb dX0_tell_29 hl (by decide) rfl (fun ls hl => ?_)
    refine lv_aload_n hx hb dX0_tell_31 rfl (lv_at hl 2 rfl) ?_
    refine lv_iconst (v := nI 0) hx hb dX0_tell_32 (by decide) ?_
    refine w_putf (ci := 2) (C := RX0) (T := TX0) (N := 2) (ty := .int) hx hb hts (by decide +kernel) tyX0 tyX0_ok nmX0 hown hK hS hf (Or.inl (Or.inl rfl)) rfl 1 (by decide) (hts (.fieldLink RX0 15 "Radixbench$Row" "size" "I") (by decide +kernel)) (fun _ h9 => h9) rfl (by decide +kernel) rfl rfl (by show 1 < 2; decide) dX0_tell_33 (fun H2 locs f2 s2 o2 hS => ?_)
    refine lv_iconst (v := nI 0) hx hb dX0_tell_36 (by decide) ?_
    refine lv_istore (lv' := [(8, .int (nI 0)), (6, .long (lN u)), (5, .int (nI 0)), (0, .ref r), (1, .long (lN u)), (3, .int (nI r9)), (4, .int (bI ys))]) hx hb dX0_tell_37 hl (by decide) rfl (fun ls hl => ?_)
    have hl : lv_has ls 11 [(8, .int (nI 0)), (6, .long (lN (u / r9 ^ 0))), (5, .int (bI false)), (0, .ref r), (3, .int (nI r9))] := by rw [Nat.pow_zero, Nat.div_one]; exact lv_sub hl [0, 1, 2, 3, 5] rfl
    refine L_tell C0 hK hA (v := u) (bl := false) hmA hr9 (by omega) (fun k ls H locs hW hR hS hl => ?_) 66 0 (by decide) (fun j h1 h2 => by omega) (by decide) ls H2 _ ⟨f, f2, hc9.kept (o2 _ hrc.symm), fun j hj => absurd hj (Nat.not_lt_zero _), by decide, fun j hj => absurd hj (Nat.not_lt_zero _), hrc⟩ hS hl
    have hk64 := hW.2.1
    refine lv_iload hx hb dX0_tell_94 (lv_at hl 0 rfl) ?_
    refine lv_if_eq (tgt := 105) hx hb dX0_tell_96 (by decide) (fun h9 => ?_) (fun h9 => absurd rfl h9)
    refine lv_aload_n hx hb dX0_tell_105 rfl (lv_at hl 1 rfl) ?_
    refine cn_V (As := []) (rest := []) C0 hl hK hS hA (fun q h => Or.inl h) (c_turnR l g H r c7 k _ hR) gX0_tell_X0_turnRound rfl ⟨rfl, rfl⟩ (hR.recv hK) ⟨rfl, (show hd_ok yX0_turnRound 0 from ⟨by decide, by decide, by decide +kernel⟩)⟩ ⟨Nat.le_of_ble_eq_true rfl, Nat.le_of_ble_eq_true rfl⟩ rfl (Nat.le_of_ble_eq_true rfl) ⟨Nat.zero_le _, Nat.zero_le _⟩ dX0_tell_106 (fun r1 H9 locs hv hzz hk9 hS => ?_)
    obtain ⟨rfl, hR9⟩ := hv
    refine W.widen (k := 0) (n := 0) (by decide) (by decide) ?_
    refine rt_v (mu := (fun q => q = r ∨ q = c7)) C0 ⟨rfl, k, _, Or.inl ⟨decide_eq_false hno, by rw [if_neg hno]; exact hW, rfl⟩, hR9.cong (fun j hj => ?_)⟩ hS rfl dX0_tell_109
    rw [if_neg hno]
    rfl
  · skip
    refine lv_lload_n hx hb dX0_tell_5 rfl (lv_at hl 1 rfl) ?_
    refine lv_lconst (v := lN 0) hx hb dX0_tell_6 rfl ?_
    refine W.lcmp hx hb dX0_tell_7 ?_
    refine lv_if_ge (tgt := 15) hx hb dX0_tell_8 (by decide) (fun h2 => ?_) (fun h2 => ?_)
    · skip
      have hno : ¬ (ys = true ∧ 2 ^ 63 ≤ u) := fun z => lc_ge h2 ((neg_lN hu).mpr z.2)
      refine lv_iconst (v := nI 0) hx hb dX0_tell_15 (by decide) ?_
      refine lv_istore (lv' := [(5, .int (nI 0)), (0, .ref r), (1, .long (lN u)), (3, .int (nI r9)), (4, .int (bI ys))]) hx hb dX0_tell_16 hl (by decide) rfl (fun ls hl => ?_)
      refine lv_iload hx hb dX0_tell_18 (lv_at hl 0 rfl) ?_
      refine lv_if_eq (tgt := 28) hx hb dX0_tell_20 (by decide) (fun h8 => ?_) (fun h8 => absurd rfl h8)
      refine lv_lload_n hx hb dX0_tell_28 rfl (lv_at hl 2 rfl) ?_
      refine lv_lstore (lv' := [(6, .long (lN u)), (5, .int (nI 0)), (0, .ref r), (1, .long (lN u)), (3, .int (nI r9)), (4, .int (bI ys))]) hx hb dX0_tell_29 hl (by decide) rfl (fun ls hl => ?_)
      refine lv_aload_n hx hb dX0_tell_31 rfl (lv_at hl 2 rfl) ?_
      refine lv_iconst (v := nI 0) hx hb dX0_tell_32 (by decide) ?_
      refine w_putf (ci := 2) (C := RX0) (T := TX0) (N := 2) (ty := .int) hx hb hts (by decide +kernel) tyX0 tyX0_ok nmX0 hown hK hS hf (Or.inl (Or.inl rfl)) rfl 1 (by decide) (hts (.fieldLink RX0 15 "Radixbench$Row" "size" "I") (by decide +kernel)) (fun _ h9 => h9) rfl (by decide +kernel) rfl rfl (by show 1 < 2; decide) dX0_tell_33 (fun H2 locs f2 s2 o2 hS => ?_)
      refine lv_iconst (v := nI 0) hx hb dX0_tell_36 (by decide) ?_
      refine lv_istore (lv' := [(8, .int (nI 0)), (6, .long (lN u)), (5, .int (nI 0)), (0, .ref r), (1, .long (lN u)), (3, .int (nI r9)), (4, .int (bI ys))]) hx hb dX0_tell_37 hl (by decide) rfl (fun ls hl => ?_)
      have hl : lv_has ls 11 [(8, .int (nI 0)), (6, .long (lN (u / r9 ^ 0))), (5, .int (bI false)), (0, .ref r), (3, .int (nI r9))] := by rw [Nat.pow_zero, Nat.div_one]; exact lv_sub hl [0, 1, 2, 3, 5] rfl
      refine L_tell C0 hK hA (v := u) (bl := false) hmA hr9 (by omega) (fun k ls H locs hW hR hS hl => ?_) 66 0 (by decide) (fun j h1 h2 => by omega) (by decide) ls H2 _ ⟨f, f2, hc9.kept (o2 _ hrc.symm), fun j hj => absurd hj (Nat.not_lt_zero _), by decide, fun j hj => absurd hj (Nat.not_lt_zero _), hrc⟩ hS hl
      have hk64 := hW.2.1
      refine lv_iload hx hb dX0_tell_94 (lv_at hl 0 rfl) ?_
      refine lv_if_eq (tgt := 105) hx hb dX0_tell_96 (by decide) (fun h9 => ?_) (fun h9 => absurd rfl h9)
      refine lv_aload_n hx hb dX0_tell_105 rfl (lv_at hl 1 rfl) ?_
      refine cn_V (As := []) (rest := []) C0 hl hK hS hA (fun q h => Or.inl h) (c_turnR l g H r c7 k _ hR) gX0_tell_X0_turnRound rfl ⟨rfl, rfl⟩ (hR.recv hK) ⟨rfl, (show hd_ok yX0_turnRound 0 from ⟨by decide, by decide, by decide +kernel⟩)⟩ ⟨Nat.le_of_ble_eq_true rfl, Nat.le_of_ble_eq_true rfl⟩ rfl (Nat.le_of_ble_eq_true rfl) ⟨Nat.zero_le _, Nat.zero_le _⟩ dX0_tell_106 (fun r1 H9 locs hv hzz hk9 hS => ?_)
      obtain ⟨rfl, hR9⟩ := hv
      refine W.widen (k := 0) (n := 0) (by decide) (by decide) ?_
      refine rt_v (mu := (fun q => q = r ∨ q = c7)) C0 ⟨rfl, k, _, Or.inl ⟨decide_eq_false hno, by rw [if_neg hno]; exact hW, rfl⟩, hR9.cong (fun j hj => ?_)⟩ hS rfl dX0_tell_109
      rw [if_neg hno]
      rfl
    · skip
      have hyes : ys = true ∧ 2 ^ 63 ≤ u := ⟨bI_n0 h1, (neg_lN hu).mp (lc_nge h2)⟩
      refine lv_iconst (v := nI 1) hx hb dX0_tell_11 (by decide) ?_
      refine lv_goto (tgt := 16) hx hb dX0_tell_12 (by decide) ?_
      refine lv_istore (lv' := [(5, .int (nI 1)), (0, .ref r), (1, .long (lN u)), (3, .int (nI r9)), (4, .int (bI ys))]) hx hb dX0_tell_16 hl (by decide) rfl (fun ls hl => ?_)
      refine lv_iload hx hb dX0_tell_18 (lv_at hl 0 rfl) ?_
      refine lv_if_eq (tgt := 28) hx hb dX0_tell_20 (by decide) (fun h8 => absurd h8 (by decide)) (fun h8 => ?_)
      refine lv_lload_n hx hb dX0_tell_23 rfl (lv_at hl 2 rfl) ?_
      refine lv_lneg hx hb dX0_tell_24 ?_
      refine tp_l (y := lN (2 ^ 64 - u)) (neg_N (by omega)) ?_
      refine lv_goto (tgt := 29) hx hb dX0_tell_25 (by decide) ?_
      refine lv_lstore (lv' := [(6, .long (lN (2 ^ 64 - u))), (5, .int (nI 1)), (0, .ref r), (1, .long (lN u)), (3, .int (nI r9)), (4, .int (bI ys))]) hx hb dX0_tell_29 hl (by decide) rfl (fun ls hl => ?_)
      refine lv_aload_n hx hb dX0_tell_31 rfl (lv_at hl 2 rfl) ?_
      refine lv_iconst (v := nI 0) hx hb dX0_tell_32 (by decide) ?_
      refine w_putf (ci := 2) (C := RX0) (T := TX0) (N := 2) (ty := .int) hx hb hts (by decide +kernel) tyX0 tyX0_ok nmX0 hown hK hS hf (Or.inl (Or.inl rfl)) rfl 1 (by decide) (hts (.fieldLink RX0 15 "Radixbench$Row" "size" "I") (by decide +kernel)) (fun _ h9 => h9) rfl (by decide +kernel) rfl rfl (by show 1 < 2; decide) dX0_tell_33 (fun H2 locs f2 s2 o2 hS => ?_)
      refine lv_iconst (v := nI 0) hx hb dX0_tell_36 (by decide) ?_
      refine lv_istore (lv' := [(8, .int (nI 0)), (6, .long (lN (2 ^ 64 - u))), (5, .int (nI 1)), (0, .ref r), (1, .long (lN u)), (3, .int (nI r9)), (4, .int (bI ys))]) hx hb dX0_tell_37 hl (by decide) rfl (fun ls hl => ?_)
      have hl : lv_has ls 11 [(8, .int (nI 0)), (6, .long (lN ((2 ^ 64 - u) / r9 ^ 0))), (5, .int (bI true)), (0, .ref r), (3, .int (nI r9))] := by rw [Nat.pow_zero, Nat.div_one]; exact lv_sub hl [0, 1, 2, 3, 5] rfl
      refine L_tell C0 hK hA (v := (2 ^ 64 - u)) (bl := true) hmA hr9 (by omega) (fun k ls H locs hW hR hS hl => ?_) 66 0 (by decide) (fun j h1 h2 => by omega) (by decide) ls H2 _ ⟨f, f2, hc9.kept (o2 _ hrc.symm), fun j hj => absurd hj (Nat.not_lt_zero _), by decide, fun j hj => absurd hj (Nat.not_lt_zero _), hrc⟩ hS hl
      have hk64 := hW.2.1
      refine lv_iload hx hb dX0_tell_94 (lv_at hl 0 rfl) ?_
      refine lv_if_eq (tgt := 105) hx hb dX0_tell_96 (by decide) (fun h9 => absurd h9 (by decide)) (fun h9 => ?_)
      refine lv_aload_n hx hb dX0_tell_99 rfl (lv_at hl 1 rfl) ?_
      refine lv_bipush (v := nI 45) hx hb dX0_tell_100 (by decide) ?_
      refine cn_V (As := [.int (nI 45)]) (rest := []) C0 hl hK hS hA (fun q h => Or.inl h) (c_rAdd l g H r c7 k _ hR 45 (by decide) (by omega)) gX0_tell_X0_add rfl ⟨rfl, rfl⟩ (hR.recv hK) ⟨rfl, (show hd_ok yX0_add 1 from ⟨by decide, by decide, by decide +kernel⟩)⟩ ⟨Nat.le_of_ble_eq_true rfl, Nat.le_of_ble_eq_true rfl⟩ rfl (Nat.le_of_ble_eq_true rfl) ⟨Nat.zero_le _, Nat.zero_le _⟩ dX0_tell_102 (fun r1 H4 locs hv hzz hk4 hS => ?_)
      obtain ⟨rfl, hR4⟩ := hv
      refine lv_aload_n hx hb dX0_tell_105 rfl (lv_at hl 1 rfl) ?_
      rw [show k + 1 = 1 + k from Nat.add_comm _ _] at hR4
      refine cn_V (As := []) (rest := []) C0 hl hK hS hA (fun q h => Or.inl h) (c_turnR l g H4 r c7 (1 + k) _ hR4) gX0_tell_X0_turnRound rfl ⟨rfl, rfl⟩ (hR4.recv hK) ⟨rfl, (show hd_ok yX0_turnRound 0 from ⟨by decide, by decide, by decide +kernel⟩)⟩ ⟨Nat.le_of_ble_eq_true rfl, Nat.le_of_ble_eq_true rfl⟩ rfl (Nat.le_of_ble_eq_true rfl) ⟨Nat.zero_le _, Nat.zero_le _⟩ dX0_tell_106 (fun r1 H9 locs hv hzz hk9 hS => ?_)
      obtain ⟨rfl, hR9⟩ := hv
      refine W.widen (k := 0) (n := 0) (by decide) (by decide) ?_
      refine rt_v (mu := (fun q => q = r ∨ q = c7)) C0 ⟨rfl, (1 + k), _, Or.inr ⟨decide_eq_true hyes, k, rfl, by rw [if_pos hyes]; exact hW, rfl⟩, hR9.cong (fun j hj => ?_)⟩ hS rfl dX0_tell_109
      rw [if_pos hyes]
      unfold tup tcat dgT
      by_cases e : j < 1
      · rw [if_pos (by omega), if_pos e]
      · rw [if_neg (by omega), if_neg e]
        show sgn _ = sgn _
        rw [show 1 + k - 1 - j = k - 1 - (j - 1) by omega]
end M66

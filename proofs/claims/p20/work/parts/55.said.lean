-- THE MODEL's READING: said
section M55
variable {p : Program} {l : Launch} {e : Env} {s : State} {m : MethodId} {args : Array Value} {below : List Frame} {meth : Method} {c : Code} {H H0 : Heap} {locs : List Loc} {cells slots : Nat} {Q : State → Prop} {A : Nat → Prop} {g : Gx} {b0 : Nat}
abbrev rmX4_said : Room := { frames := 4, cells := 3, slots := 12, locals := 85 }
set_option maxHeartbeats 4000000 in
set_option maxRecDepth 100000 in
/-- the row left, taken r times, and c put to it -/
theorem L_sin (C0 : Cx p s m args meth c RX4 cX4_said 10 (some (.array .int)) wsX4_said) (hK : KK g s) {a q k9 r9 d9 f9 at9 x c9 : Nat} {ym : Bool} {HB : Heap} (hAq : A q) (hk9 : k9 ≤ 4) (hr9 : 2 ≤ r9 ∧ r9 ≤ 36) (hc9 : c9 < r9)
    (K : ∀ (f : Nat → Int32) (hf : ∀ k, k < k9 → f k = rw16 (x * r9 + c9) k) (ls : Array Slot) (H : Heap) (locs : List Loc), va_at g.1 vwCl (q, .inl (g.2 0, k9, .inl f)) H → H.size = HB.size → (∀ z, z ≠ q → H[z]? = HB[z]?) → va_S A H0 H locs → lv_has ls 10 [(7, .int (nI (mac x r9 c9 k9))), (6, .int (nI at9)), (5, .ref q), (4, .int (nI f9)), (3, .int (bI ym)), (0, .ref a), (1, .int (nI r9)), (2, .int (nI d9))] → W p l e rmX4_said s m args below meth c H locs cells slots Q (F0 m 154 ls [])) :
    ∀ (n : Nat) (j : Nat) (f : Nat → Int32), j ≤ k9 → (∀ k, k < j → f k = rw16 (x * r9 + c9) k) → (∀ k, j ≤ k → k < k9 → f k = rw16 x k) → k9 - j < n → ∀ (ls : Array Slot) (H : Heap) (locs : List Loc), va_at g.1 vwCl (q, .inl (g.2 0, k9, .inl f)) H → H.size = HB.size → (∀ z, z ≠ q → H[z]? = HB[z]?) → va_S A H0 H locs → lv_has ls 10 [(8, .int (nI j)), (7, .int (nI (mac x r9 c9 j))), (6, .int (nI at9)), (5, .ref q), (4, .int (nI f9)), (3, .int (bI ym)), (0, .ref a), (1, .int (nI r9)), (2, .int (nI d9))] → W p l e rmX4_said s m args below meth c H locs cells slots Q (F0 m 111 ls []) := by
  obtain ⟨hx, hb, hr, hml, hown, hts, hlk⟩ := id C0
  intro n
  induction n with
  | zero => intro j f _ _ _ h; exact absurd h (Nat.not_lt_zero _)
  | succ n ih =>
    intro j f hj hlow hup hn ls H locs hf hsz hkk hS hl
    refine lv_iload hx hb dX4_said_111 (lv_at hl 0 rfl) ?_
    refine lv_aload hx hb dX4_said_113 (lv_at hl 3 rfl) ?_
    refine f_alen (x := (k9, _)) hx hb hK 0 rfl hf dX4_said_115 ?_
    refine lv_icmp_ge (tgt := 154) hx hb dX4_said_116 (by decide) (fun h1 => ?_) (fun h1 => ?_)
    · skip
      have h2 := le_n (by omega) h1
      obtain rfl : j = k9 := by omega
      exact K f hlow ls H locs hf hsz hkk hS (lv_sub hl [1, 2, 3, 4, 5, 6, 7, 8] rfl)
    · skip
      have hlt := nle_n (by omega) h1
      have hm := mac_lt (x := x) (j := j) hc9
      have hd := rw16_lt x j
      obtain ⟨e1, e2⟩ := mac_s x r9 c9 j
      have hp : x / 65536 ^ j % 65536 * r9 ≤ 65535 * 36 := Nat.mul_le_mul (by omega) hr9.2
      refine lv_aload hx hb dX4_said_119 (lv_at hl 3 rfl) ?_
      refine lv_iload hx hb dX4_said_121 (lv_at hl 0 rfl) ?_
      refine f_iald (j := j) hx hb hK hf (by omega) (by omega) dX4_said_123 ?_
      refine tp_i (y := nI (x / 65536 ^ j % 65536)) (hup j (Nat.le_refl _) hlt) ?_
      refine lv_iload_n hx hb dX4_said_124 rfl (lv_at hl 7 rfl) ?_
      refine lv_imul hx hb dX4_said_125 ?_
      refine tp_i (y := nI ((x / 65536 ^ j % 65536) * r9)) (pk_mul _ _) ?_
      refine lv_iload hx hb dX4_said_126 (lv_at hl 1 rfl) ?_
      refine lv_iadd hx hb dX4_said_128 ?_
      refine tp_i (y := nI (((x / 65536 ^ j % 65536) * r9) + (mac x r9 c9 j))) (nI_add _ _) ?_
      refine lv_istore (lv' := [(9, .int (nI (((x / 65536 ^ j % 65536) * r9) + (mac x r9 c9 j)))), (8, .int (nI j)), (7, .int (nI (mac x r9 c9 j))), (6, .int (nI at9)), (5, .ref q), (4, .int (nI f9)), (3, .int (bI ym)), (0, .ref a), (1, .int (nI r9)), (2, .int (nI d9))]) hx hb dX4_said_129 hl (by decide) rfl (fun ls hl => ?_)
      refine lv_aload hx hb dX4_said_131 (lv_at hl 4 rfl) ?_
      refine lv_iload hx hb dX4_said_133 (lv_at hl 1 rfl) ?_
      refine lv_iload hx hb dX4_said_135 (lv_at hl 0 rfl) ?_
      refine lv_ldc (v := nI 65536) hx hb hown (hts (.constant RX4 52 (65536)) (by decide +kernel)) dX4_said_137 ?_
      refine lv_irem hx hb dX4_said_139 (by decide) ?_
      refine tp_i (y := nI ((x * r9 + c9) / 65536 ^ j % 65536)) ((pk_rem (by omega) (by decide) (by decide)).trans (congrArg nI e2)) ?_
      refine f_iast (j := j) hx hb hK hS hf hAq (by omega) (by omega) dX4_said_140 (fun H1 locs hf1 hz1 ho1 hS => ?_)
      refine lv_iload hx hb dX4_said_141 (lv_at hl 0 rfl) ?_
      refine lv_ldc (v := nI 65536) hx hb hown (hts (.constant RX4 52 (65536)) (by decide +kernel)) dX4_said_143 ?_
      refine lv_idiv hx hb dX4_said_145 (by decide) ?_
      refine tp_i (y := nI (mac x r9 c9 (j + 1))) ((pk_div (by omega) (by decide) (by decide)).trans (congrArg nI e1)) ?_
      refine lv_istore (lv' := [(7, .int (nI (mac x r9 c9 (j + 1)))), (9, .int (nI (((x / 65536 ^ j % 65536) * r9) + (mac x r9 c9 j)))), (8, .int (nI j)), (6, .int (nI at9)), (5, .ref q), (4, .int (nI f9)), (3, .int (bI ym)), (0, .ref a), (1, .int (nI r9)), (2, .int (nI d9))]) hx hb dX4_said_146 hl (by decide) rfl (fun ls hl => ?_)
      refine lv_iinc (v := nI (j + 1)) (lv' := [(8, .int (nI (j + 1))), (7, .int (nI (mac x r9 c9 (j + 1)))), (9, .int (nI (((x / 65536 ^ j % 65536) * r9) + (mac x r9 c9 j)))), (6, .int (nI at9)), (5, .ref q), (4, .int (nI f9)), (3, .int (bI ym)), (0, .ref a), (1, .int (nI r9)), (2, .int (nI d9))]) hx hb dX4_said_148 hl (k := 2) rfl (nI_1 _) (by decide) rfl (fun ls hl => ?_)
      refine lv_goto (tgt := 111) hx hb dX4_said_151 (by decide) ?_
      refine ih (j + 1) _ hlt (upd_step hlow rfl) (fun k h9 hk => (pk_un (by omega)).trans (hup k (by omega) hk)) (by omega) ls H1 locs hf1 (hz1.trans hsz) (fun z hz => (ho1 z hz).trans (hkk z hz)) hS (lv_sub hl [0, 1, 3, 4, 5, 6, 7, 8, 9] rfl)
set_option maxHeartbeats 4000000 in
set_option maxRecDepth 100000 in
/-- sign by sign -/
theorem L_said (C0 : Cx p s m args meth c RX4 cX4_said 10 (some (.array .int)) wsX4_said) (hK : KK g s) (hZ : ZW g b0 s s.heap) (hA : ∀ q, s.heap.size ≤ q → A q) (hAb : ∀ q, A q → b0 ≤ q) {a b q k9 r9 d9 f9 n9 : Nat} {t : Nat → Nat} {ym : Bool} {HB : Heap} (hq9 : s.heap.size ≤ q) (hk9 : k9 ≤ 4) (hr9 : 2 ≤ r9 ∧ r9 ≤ 36) (hs : sS g a b n9 t HB) (haq : a ≠ q ∧ b ≠ q) (hn9 : n9 ≤ 70) (ht : ∀ j, j < n9 → t j < 128) (hfn : f9 < n9) (hc9 : cells ≤ 3) (hs9 : slots ≤ 12)
    (N1 : ∀ (ls : Array Slot) (H : Heap) (locs : List Loc), ¬ okD r9 t f9 n9 k9 → H.size = HB.size → (∀ z, z ≠ q → H[z]? = HB[z]?) → va_S A s.heap H locs → lv_has ls 10 [(0, .ref a)] → W p l e rmX4_said s m args below meth c H locs cells slots Q (F0 m 106 ls []))
    (N2 : ∀ (ls : Array Slot) (H : Heap) (locs : List Loc), ¬ okD r9 t f9 n9 k9 → H.size = HB.size → (∀ z, z ≠ q → H[z]? = HB[z]?) → va_S A s.heap H locs → lv_has ls 10 [(0, .ref a)] → W p l e rmX4_said s m args below meth c H locs cells slots Q (F0 m 159 ls []))
    (K : ∀ (f : Nat → Int32) (ls : Array Slot) (H : Heap) (locs : List Loc), okD r9 t f9 n9 k9 → (∀ j, j < k9 → f j = rw16 (valN r9 t f9 (n9 - f9)) j) → va_at g.1 vwCl (q, .inl (g.2 0, k9, .inl f)) H → H.size = HB.size → (∀ z, z ≠ q → H[z]? = HB[z]?) → va_S A s.heap H locs → lv_has ls 10 [(5, .ref q), (4, .int (nI f9)), (3, .int (bI ym)), (0, .ref a), (1, .int (nI r9)), (2, .int (nI d9))] → W p l e rmX4_said s m args below meth c H locs cells slots Q (F0 m 167 ls [])) :
    ∀ (n : Nat) (k : Nat) (f : Nat → Int32), f9 + k ≤ n9 → (∀ j, f9 ≤ j → j < f9 + k → wor (t j) < r9) → valN r9 t f9 k < 65536 ^ k9 → (∀ j, j < k9 → f j = rw16 (valN r9 t f9 k) j) → n9 - (f9 + k) < n → ∀ (ls : Array Slot) (H : Heap) (locs : List Loc), va_at g.1 vwCl (q, .inl (g.2 0, k9, .inl f)) H → H.size = HB.size → (∀ z, z ≠ q → H[z]? = HB[z]?) → va_S A s.heap H locs → lv_has ls 10 [(6, .int (nI (f9 + k))), (5, .ref q), (4, .int (nI f9)), (3, .int (bI ym)), (0, .ref a), (1, .int (nI r9)), (2, .int (nI d9))] → W p l e rmX4_said s m args below meth c H locs cells slots Q (F0 m 80 ls []) := by
  obtain ⟨hx, hb, hr, hml, hown, hts, hlk⟩ := id C0
  intro n
  induction n with
  | zero => intro k f _ _ _ _ h; exact absurd h (Nat.not_lt_zero _)
  | succ n ih =>
    intro k f hk hdig hval hf9 hn ls H locs hf hsz hkk hS hl
    have hsH := hs.kept (hkk a haq.1) (hkk b haq.2)
    refine lv_iload hx hb dX4_said_80 (lv_at hl 0 rfl) ?_
    refine lv_aload_n hx hb dX4_said_82 rfl (lv_at hl 4 rfl) ?_
    refine jp_V (As := []) (rest := [.int (nI (f9 + k))]) C0 hl hK hS hA (zat hZ hS hAb) (c_sLen l g b0 H a b n9 t hsH) gX4_said_J0_length_8abf5 rfl ⟨rfl, rfl⟩ (j_srecv hK hsH) ⟨rfl, (show hd_ok yJ0_length_8abf5 0 from ⟨by decide, by decide, by decide +kernel⟩)⟩ ⟨Nat.le_of_ble_eq_true rfl, Nat.le_of_ble_eq_true rfl⟩ rfl (Nat.le_of_ble_eq_true rfl) ⟨by show cells ≤ 3; omega, by show slots ≤ 12; omega⟩ dX4_said_83 (fun locs hS => ?_)
    refine lv_icmp_ge (tgt := 167) hx hb dX4_said_86 (by decide) (fun h1 => ?_) (fun h1 => ?_)
    · skip
      have h2 := le_n (by omega) h1
      have ek : n9 - f9 = k := by omega
      exact K f ls H _ ⟨hfn, fun j h3 h4 => hdig j h3 (by omega), by rw [ek]; exact hval⟩ (by rw [ek]; exact hf9) hf hsz hkk hS (lv_sub hl [1, 2, 3, 4, 5, 6] rfl)
    · skip
      have hlt := nle_n (by omega) h1
      have ht1 := ht (f9 + k) hlt
      refine lv_aload_n hx hb dX4_said_89 rfl (lv_at hl 4 rfl) ?_
      refine lv_iload hx hb dX4_said_90 (lv_at hl 0 rfl) ?_
      refine jp_V (As := [.int (nI (f9 + k))]) (rest := []) C0 hl hK hS hA (zat hZ hS hAb) (c_sCharAt l g b0 H a b n9 t hsH (f9 + k) hlt (by omega) ht1) gX4_said_J0_charAt_5068e rfl ⟨rfl, rfl⟩ (j_srecv hK hsH) ⟨rfl, (show hd_ok yJ0_charAt_5068e 1 from ⟨by decide, by decide, by decide +kernel⟩)⟩ ⟨Nat.le_of_ble_eq_true rfl, Nat.le_of_ble_eq_true rfl⟩ rfl (Nat.le_of_ble_eq_true rfl) ⟨by show cells ≤ 3; omega, by show slots ≤ 12; omega⟩ dX4_said_92 (fun locs hS => ?_)
      refine cp_S (As := [.int (nI (t (f9 + k)))]) (rest := []) C0 hl hK hS hA (c_worth l g H (t (f9 + k)) ht1) gX4_said_X4_worth rfl ⟨rfl, rfl⟩ (show hd_ok yX4_worth 1 from ⟨by decide, by decide, by decide +kernel⟩) ⟨Nat.le_of_ble_eq_true rfl, Nat.le_of_ble_eq_true rfl⟩ rfl (Nat.le_of_ble_eq_true rfl) ⟨by show cells ≤ 3; omega, by show slots ≤ 12; omega⟩ dX4_said_95 (fun locs hS => ?_)
      have hw9 : wor (t (f9 + k)) ≤ 99 := by unfold wor; (repeat' split) <;> omega
      refine lv_istore (lv' := [(7, .int (nI (wor (t (f9 + k))))), (6, .int (nI (f9 + k))), (5, .ref q), (4, .int (nI f9)), (3, .int (bI ym)), (0, .ref a), (1, .int (nI r9)), (2, .int (nI d9))]) hx hb dX4_said_98 hl (by decide) rfl (fun ls hl => ?_)
      refine lv_iload hx hb dX4_said_100 (lv_at hl 0 rfl) ?_
      refine lv_iload_n hx hb dX4_said_102 rfl (lv_at hl 6 rfl) ?_
      refine lv_icmp_lt (tgt := 108) hx hb dX4_said_103 (by decide) (fun h2 => ?_) (fun h2 => ?_)
      · skip
        have hwr := nI_ltn (by omega) (by omega) h2
        refine lv_iconst (v := nI 0) hx hb dX4_said_108 (by decide) ?_
        refine lv_istore (lv' := [(8, .int (nI 0)), (7, .int (nI (wor (t (f9 + k))))), (6, .int (nI (f9 + k))), (5, .ref q), (4, .int (nI f9)), (3, .int (bI ym)), (0, .ref a), (1, .int (nI r9)), (2, .int (nI d9))]) hx hb dX4_said_109 hl (by decide) rfl (fun ls hl => ?_)
        have hl : lv_has ls 10 [(8, .int (nI 0)), (7, .int (nI (mac (valN r9 t f9 k) r9 (wor (t (f9 + k))) 0))), (6, .int (nI (f9 + k))), (5, .ref q), (4, .int (nI f9)), (3, .int (bI ym)), (0, .ref a), (1, .int (nI r9)), (2, .int (nI d9))] := by rw [mac_0]; exact lv_sub hl [0, 1, 2, 3, 4, 5, 6, 7, 8] rfl
        refine L_sin C0 hK (HB := H) (x := valN r9 t f9 k) (c9 := wor (t (f9 + k))) (hA q hq9) hk9 hr9 hwr (fun f2 hf2 ls H1 locs hq1 hz1 ho1 hS hl => ?_) (k9 + 1) 0 f (Nat.zero_le _) (fun i h => absurd h (Nat.not_lt_zero _)) (fun i _ hi => hf9 i hi) (by omega) ls H _ hf rfl (fun z _ => rfl) hS hl
        rw [mac_top hval] at hl
        have ev : valN r9 t f9 (k + 1) = valN r9 t f9 k * r9 + wor (t (f9 + k)) := rfl
        have hov : (valN r9 t f9 k * r9 + wor (t (f9 + k))) / 65536 ^ k9 < 36 := by rw [← mac_top hval]; exact Nat.lt_of_lt_of_le (mac_lt hwr) hr9.2
        refine lv_iload hx hb dX4_said_154 (lv_at hl 0 rfl) ?_
        refine lv_if_le (tgt := 161) hx hb dX4_said_156 (by decide) (fun h3 => ?_) (fun h3 => ?_)
        · skip
          have e0 := le_n (by omega) h3
          have hv1 : valN r9 t f9 (k + 1) < 65536 ^ k9 := by rw [ev]; exact (Nat.div_eq_zero_iff.mp (Nat.le_zero.mp e0)).resolve_left (Nat.ne_of_gt (Nat.pow_pos (by decide)))
          refine lv_iinc (v := nI ((f9 + k) + 1)) (lv' := [(6, .int (nI ((f9 + k) + 1))), (7, .int (nI ((valN r9 t f9 k * r9 + wor (t (f9 + k))) / 65536 ^ k9))), (5, .ref q), (4, .int (nI f9)), (3, .int (bI ym)), (0, .ref a), (1, .int (nI r9)), (2, .int (nI d9))]) hx hb dX4_said_161 hl (k := 1) rfl (nI_1 _) (by decide) rfl (fun ls hl => ?_)
          refine lv_goto (tgt := 80) hx hb dX4_said_164 (by decide) ?_
          refine ih (k + 1) f2 (by omega) (fun i h4 h5 => ?_) hv1 (fun i hi => hf2 i hi) (by omega) ls H1 _ hq1 (hz1.trans hsz) (fun z hz => (ho1 z hz).trans (hkk z hz)) hS (lv_sub hl [0, 2, 3, 4, 5, 6, 7] rfl)
          rcases Nat.lt_or_ge i (f9 + k) with e | e
          · exact hdig i h4 e
          · rw [show i = f9 + k by omega]; exact hwr
        · skip
          have e0 : 0 < (valN r9 t f9 k * r9 + wor (t (f9 + k))) / 65536 ^ k9 := nle_n (by omega) h3
          refine N2 ls H1 _ (fun z => ?_) (hz1.trans hsz) (fun z hz => (ho1 z hz).trans (hkk z hz)) hS (lv_sub hl [5] rfl)
          have h6 : valN r9 t f9 (k + 1) ≤ valN r9 t f9 (n9 - f9) := valN_mono (by omega) (by omega)
          have h7 := z.2.2
          rw [ev] at h6
          have h8 := Nat.div_eq_of_lt (Nat.lt_of_le_of_lt h6 h7)
          omega
      · skip
        have hwr := nlt_n (by omega) h2
        refine N1 ls H _ (fun z => ?_) hsz hkk hS (lv_sub hl [5] rfl)
        have h6 := z.2.1 (f9 + k) (by omega) hlt
        omega
set_option maxHeartbeats 4000000 in
set_option maxRecDepth 100000 in
/-- said(text, radix, kind) -/
theorem c_said (l : Launch) (g : Gx) (b0 : Nat) (H0 : Heap) (a b n9 r9 d9 : Nat) (t : Nat → Nat) (hs : sS g a b n9 t H0) (hn9 : n9 ≤ 70) (ht : ∀ j, j < n9 → t j < 128) (hr9 : 2 ≤ r9 ∧ r9 ≤ 36) (hd9 : d9 < 4) : Met l yX4_said wsX4_said rmX4_said (va_Pc [.ref a, .int (nI r9), .int (nI d9)] (hJ g b0 H0)) (nQ H0 (fun _ => False) (fun r H1 => (¬ saOK r9 n9 t d9 ∧ r = some .null) ∨ (saOK r9 n9 t d9 ∧ ∃ q : Nat, r = some (.ref q) ∧ H0.size ≤ q ∧ va_at g.1 vwCl (q, .inl (g.2 0, (nP (decide (d9 < 2))), .inl (rw16 (saV r9 n9 t d9)))) H1))) 3 12 (fun q => (fun _ => False) q ∨ H0.size ≤ q) := by
  refine cx_met (own := RX4) (cc := cX4_said) (maxL := 10) (by decide) rfl rfl (Nat.le_of_ble_eq_true rfl) ?_
  intro p e s m below meth c ls C0 hB0 hnm hl
  obtain ⟨hH, hK, hZ⟩ := hB0
  obtain ⟨hx, hb, hr, hml, hown, hts, hlk⟩ := id C0
  subst hH
  have hS : va_S (fun q => (fun _ => False) q ∨ s.heap.size ≤ q) s.heap s.heap [] := va_S.rf
  have hA : ∀ q : Nat, s.heap.size ≤ q → (fun q => (fun _ => False) q ∨ s.heap.size ≤ q) q := fun q h => Or.inr h
  have h0Z := hZ.1
  have hAb : ∀ q : Nat, (fun q => (fun _ => False) q ∨ s.heap.size ≤ q) q → b0 ≤ q := fun q h => h.elim (fun z => absurd z id) (fun h => Nat.le_trans h0Z h)
  have hl : lv_has ls 10 [(0, .ref a), (1, .int (nI r9)), (2, .int (nI d9))] := hl
  refine w_cut (nL := 10) (pcT := 29) (lvT := [(3, .int (bI (miB n9 t d9))), (0, .ref a), (1, .int (nI r9)), (2, .int (nI d9))]) (H0 := s.heap) (A := fun q => (fun _ => False) q ∨ s.heap.size ≤ q) (fun hrest => ?_) (fun ls locs hS hl => ?_)
  · skip
    refine lv_aload_n hx hb dX4_said_0 rfl (lv_at hl 0 rfl) ?_
    refine jp_V (As := []) (rest := []) C0 hl hK hS hA (zat hZ hS hAb) (c_sLen l g b0 s.heap a b n9 t hs) gX4_said_J0_length_8abf5 rfl ⟨rfl, rfl⟩ (j_srecv hK hs) ⟨rfl, (show hd_ok yJ0_length_8abf5 0 from ⟨by decide, by decide, by decide +kernel⟩)⟩ ⟨Nat.le_of_ble_eq_true rfl, Nat.le_of_ble_eq_true rfl⟩ rfl (Nat.le_of_ble_eq_true rfl) ⟨by decide, by decide⟩ dX4_said_1 (fun locs hS => ?_)
    refine lv_if_le (tgt := 27) hx hb dX4_said_4 (by decide) (fun h1 => ?_) (fun h1 => ?_)
    · skip
      have n1 : n9 ≤ 0 := le_n (by omega) h1
      refine lv_iconst (v := nI 0) hx hb dX4_said_27 (by decide) ?_
      refine tp_i (y := bI (miB n9 t d9)) ((by unfold miB; rw [decide_eq_false (fun z => by have := z.1; omega)]; rfl)) ?_
      refine lv_istore_n (lv' := [(3, .int (bI (miB n9 t d9))), (0, .ref a), (1, .int (nI r9)), (2, .int (nI d9))]) hx hb dX4_said_28 rfl hl (by decide) rfl (fun ls hl => ?_)
      exact hrest ls _ hS (lv_sub hl [0, 1, 2, 3] rfl)
    · skip
      have n1 : 0 < n9 := nle_n (by omega) h1
      refine lv_aload_n hx hb dX4_said_7 rfl (lv_at hl 0 rfl) ?_
      refine lv_iconst (v := nI 0) hx hb dX4_said_8 (by decide) ?_
      refine jp_V (As := [.int (nI 0)]) (rest := []) C0 hl hK hS hA (zat hZ hS hAb) (c_sCharAt l g b0 s.heap a b n9 t hs 0 n1 (by omega) (ht 0 n1)) gX4_said_J0_charAt_5068e rfl ⟨rfl, rfl⟩ (j_srecv hK hs) ⟨rfl, (show hd_ok yJ0_charAt_5068e 1 from ⟨by decide, by decide, by decide +kernel⟩)⟩ ⟨Nat.le_of_ble_eq_true rfl, Nat.le_of_ble_eq_true rfl⟩ rfl (Nat.le_of_ble_eq_true rfl) ⟨by decide, by decide⟩ dX4_said_9 (fun locs hS => ?_)
      have ht0 := ht 0 n1
      refine lv_bipush (v := nI 45) hx hb dX4_said_12 (by decide) ?_
      refine lv_icmp_ne (tgt := 27) hx hb dX4_said_14 (by decide) (fun h2 => ?_) (fun h2 => ?_)
      · skip
        refine lv_iconst (v := nI 0) hx hb dX4_said_27 (by decide) ?_
        refine tp_i (y := bI (miB n9 t d9)) ((by unfold miB; rw [decide_eq_false (fun z => h2 (by rw [z.2.1]))]; rfl)) ?_
        refine lv_istore_n (lv' := [(3, .int (bI (miB n9 t d9))), (0, .ref a), (1, .int (nI r9)), (2, .int (nI d9))]) hx hb dX4_said_28 rfl hl (by decide) rfl (fun ls hl => ?_)
        exact hrest ls _ hS (lv_sub hl [0, 1, 2, 3] rfl)
      · skip
        have e2 : t 0 = 45 := nI_inj (by omega) (by decide) h2
        refine lv_iload_n hx hb dX4_said_17 rfl (lv_at hl 2 rfl) ?_
        refine lv_iconst (v := nI 2) hx hb dX4_said_18 (by decide) ?_
        refine lv_irem hx hb dX4_said_19 (by decide) ?_
        refine tp_i (y := nI (d9 % 2)) (pk_rem (by omega) (by omega) (by omega)) ?_
        refine lv_if_ne (tgt := 27) hx hb dX4_said_20 (by decide) (fun h3 => ?_) (fun h3 => ?_)
        · skip
          refine lv_iconst (v := nI 0) hx hb dX4_said_27 (by decide) ?_
          refine tp_i (y := bI (miB n9 t d9)) ((by unfold miB; rw [decide_eq_false (fun z => h3 (by rw [z.2.2]; rfl))]; rfl)) ?_
          refine lv_istore_n (lv' := [(3, .int (bI (miB n9 t d9))), (0, .ref a), (1, .int (nI r9)), (2, .int (nI d9))]) hx hb dX4_said_28 rfl hl (by decide) rfl (fun ls hl => ?_)
          exact hrest ls _ hS (lv_sub hl [0, 1, 2, 3] rfl)
        · skip
          have e3 : d9 % 2 = 0 := nI_inj (by omega) (by decide) h3
          refine lv_iconst (v := nI 1) hx hb dX4_said_23 (by decide) ?_
          refine lv_goto (tgt := 28) hx hb dX4_said_24 (by decide) ?_
          refine tp_i (y := bI (miB n9 t d9)) ((by unfold miB; rw [decide_eq_true ⟨n1, e2, e3⟩]; rfl)) ?_
          refine lv_istore_n (lv' := [(3, .int (bI (miB n9 t d9))), (0, .ref a), (1, .int (nI r9)), (2, .int (nI d9))]) hx hb dX4_said_28 rfl hl (by decide) rfl (fun ls hl => ?_)
          exact hrest ls _ hS (lv_sub hl [0, 1, 2, 3] rfl)
  · skip
    refine w_cut (nL := 10) (pcT := 57) (lvT := [(4, .int (nI (frN n9 t d9))), (3, .int (bI (miB n9 t d9))), (0, .ref a), (1, .int (nI r9)), (2, .int (nI d9))]) (H0 := s.heap) (A := fun q => (fun _ => False) q ∨ s.heap.size ≤ q) (fun hrest => ?_) (fun ls locs hS hl => ?_)
    · skip
      refine lv_iload_n hx hb dX4_said_29 rfl (lv_at hl 0 rfl) ?_
      refine lv_if_ne (tgt := 50) hx hb dX4_said_30 (by decide) (fun h1 => ?_) (fun h1 => ?_)
      · skip
        refine lv_iconst (v := nI 1) hx hb dX4_said_50 (by decide) ?_
        refine lv_goto (tgt := 55) hx hb dX4_said_51 (by decide) ?_
        refine tp_i (y := nI (frN n9 t d9)) ((by unfold frN; rw [if_pos (Or.inl (bI_n0 h1))])) ?_
        refine lv_istore (lv' := [(4, .int (nI (frN n9 t d9))), (3, .int (bI (miB n9 t d9))), (0, .ref a), (1, .int (nI r9)), (2, .int (nI d9))]) hx hb dX4_said_55 hl (by decide) rfl (fun ls hl => ?_)
        exact hrest ls _ hS (lv_sub hl [0, 1, 2, 3, 4] rfl)
      · skip
        have hym := bI_0 h1
        refine lv_aload_n hx hb dX4_said_33 rfl (lv_at hl 1 rfl) ?_
        refine jp_V (As := []) (rest := []) C0 hl hK hS hA (zat hZ hS hAb) (c_sLen l g b0 s.heap a b n9 t hs) gX4_said_J0_length_8abf5 rfl ⟨rfl, rfl⟩ (j_srecv hK hs) ⟨rfl, (show hd_ok yJ0_length_8abf5 0 from ⟨by decide, by decide, by decide +kernel⟩)⟩ ⟨Nat.le_of_ble_eq_true rfl, Nat.le_of_ble_eq_true rfl⟩ rfl (Nat.le_of_ble_eq_true rfl) ⟨by decide, by decide⟩ dX4_said_34 (fun locs hS => ?_)
        refine lv_if_le (tgt := 54) hx hb dX4_said_37 (by decide) (fun h2 => ?_) (fun h2 => ?_)
        · skip
          have n1 : n9 ≤ 0 := le_n (by omega) h2
          refine lv_iconst (v := nI 0) hx hb dX4_said_54 (by decide) ?_
          refine tp_i (y := nI (frN n9 t d9)) ((by unfold frN; rw [if_neg (fun z => z.elim (fun z => absurd z (by rw [hym]; decide)) (fun z => by have := z.1; omega))])) ?_
          refine lv_istore (lv' := [(4, .int (nI (frN n9 t d9))), (3, .int (bI (miB n9 t d9))), (0, .ref a), (1, .int (nI r9)), (2, .int (nI d9))]) hx hb dX4_said_55 hl (by decide) rfl (fun ls hl => ?_)
          exact hrest ls _ hS (lv_sub hl [0, 1, 2, 3, 4] rfl)
        · skip
          have n1 : 0 < n9 := nle_n (by omega) h2
          refine lv_aload_n hx hb dX4_said_40 rfl (lv_at hl 1 rfl) ?_
          refine lv_iconst (v := nI 0) hx hb dX4_said_41 (by decide) ?_
          refine jp_V (As := [.int (nI 0)]) (rest := []) C0 hl hK hS hA (zat hZ hS hAb) (c_sCharAt l g b0 s.heap a b n9 t hs 0 n1 (by omega) (ht 0 n1)) gX4_said_J0_charAt_5068e rfl ⟨rfl, rfl⟩ (j_srecv hK hs) ⟨rfl, (show hd_ok yJ0_charAt_5068e 1 from ⟨by decide, by decide, by decide +kernel⟩)⟩ ⟨Nat.le_of_ble_eq_true rfl, Nat.le_of_ble_eq_true rfl⟩ rfl (Nat.le_of_ble_eq_true rfl) ⟨by decide, by decide⟩ dX4_said_42 (fun locs hS => ?_)
          have ht0 := ht 0 n1
          refine lv_bipush (v := nI 43) hx hb dX4_said_45 (by decide) ?_
          refine lv_icmp_ne (tgt := 54) hx hb dX4_said_47 (by decide) (fun h3 => ?_) (fun h3 => ?_)
          · skip
            refine lv_iconst (v := nI 0) hx hb dX4_said_54 (by decide) ?_
            refine tp_i (y := nI (frN n9 t d9)) ((by unfold frN; rw [if_neg (fun z => z.elim (fun z => absurd z (by rw [hym]; decide)) (fun z => h3 (by rw [z.2])))])) ?_
            refine lv_istore (lv' := [(4, .int (nI (frN n9 t d9))), (3, .int (bI (miB n9 t d9))), (0, .ref a), (1, .int (nI r9)), (2, .int (nI d9))]) hx hb dX4_said_55 hl (by decide) rfl (fun ls hl => ?_)
            exact hrest ls _ hS (lv_sub hl [0, 1, 2, 3, 4] rfl)
          · skip
            have e2 : t 0 = 43 := nI_inj (by omega) (by decide) h3
            refine lv_iconst (v := nI 1) hx hb dX4_said_50 (by decide) ?_
            refine lv_goto (tgt := 55) hx hb dX4_said_51 (by decide) ?_
            refine tp_i (y := nI (frN n9 t d9)) ((by unfold frN; rw [if_pos (Or.inr ⟨n1, e2⟩)])) ?_
            refine lv_istore (lv' := [(4, .int (nI (frN n9 t d9))), (3, .int (bI (miB n9 t d9))), (0, .ref a), (1, .int (nI r9)), (2, .int (nI d9))]) hx hb dX4_said_55 hl (by decide) rfl (fun ls hl => ?_)
            exact hrest ls _ hS (lv_sub hl [0, 1, 2, 3, 4] rfl)
    · skip
      have hf1 : frN n9 t d9 ≤ 1 := by unfold frN; split <;> omega
      have hk9 : (nP (decide (d9 < 2))) = 2 ∨ (nP (decide (d9 < 2))) = 4 := nP_or _
      refine lv_iload_n hx hb dX4_said_57 rfl (lv_at hl 4 rfl) ?_
      refine cp_S (As := [.int (nI d9)]) (rest := []) C0 hl hK hS hA (c_size l g s.heap d9 hd9) gX4_said_X4_size rfl ⟨rfl, rfl⟩ (show hd_ok yX4_size 1 from ⟨by decide, by decide, by decide +kernel⟩) ⟨Nat.le_of_ble_eq_true rfl, Nat.le_of_ble_eq_true rfl⟩ rfl (Nat.le_of_ble_eq_true rfl) ⟨by decide, by decide⟩ dX4_said_58 (fun locs hS => ?_)
      refine tp_i (y := nI (nP (decide (d9 < 2)))) ((congrArg nI (by unfold nP; by_cases e : d9 < 2; rw [if_pos e, decide_eq_true e]; rfl; rw [if_neg e, decide_eq_false e]; rfl))) ?_
      refine w_newF hx hb (hts (.arrayClass .int) (by decide +kernel)) hK hS (N := (nP (decide (d9 < 2)))) (by omega) (by decide) (by show 0 + (nP (decide (d9 < 2))) ≤ 12; omega) dX4_said_61 (fun q H1 hq gq hz1 hk1 hS => ?_)
      refine lv_astore (lv' := [(5, .ref q), (4, .int (nI (frN n9 t d9))), (3, .int (bI (miB n9 t d9))), (0, .ref a), (1, .int (nI r9)), (2, .int (nI d9))]) hx hb dX4_said_63 hl (by decide) rfl (fun ls hl => ?_)
      refine lv_iload hx hb dX4_said_65 (lv_at hl 1 rfl) ?_
      refine W.widen (k := 1) (n := 4) (by decide) (by omega) ?_
      have l1 := hs.lt
      have l2 := hs.2.lt
      have hs1 := hs.kept (hk1 _ l1) (hk1 _ l2)
      refine lv_aload_n hx hb dX4_said_67 rfl (lv_at hl 3 rfl) ?_
      refine jp_V (As := []) (rest := [.int (nI (frN n9 t d9))]) C0 hl hK hS hA (zat hZ hS hAb) (c_sLen l g b0 H1 a b n9 t hs1) gX4_said_J0_length_8abf5 rfl ⟨rfl, rfl⟩ (j_srecv hK hs1) ⟨rfl, (show hd_ok yJ0_length_8abf5 0 from ⟨by decide, by decide, by decide +kernel⟩)⟩ ⟨Nat.le_of_ble_eq_true rfl, Nat.le_of_ble_eq_true rfl⟩ rfl (Nat.le_of_ble_eq_true rfl) ⟨by decide, by decide⟩ dX4_said_68 (fun locs hS => ?_)
      refine lv_icmp_ne (tgt := 76) hx hb dX4_said_71 (by decide) (fun h2 => ?_) (fun h2 => ?_)
      · skip
        have hfn : frN n9 t d9 ≠ n9 := fun z => h2 (by rw [z])
        have hfn2 : frN n9 t d9 < n9 ∨ n9 < frN n9 t d9 := by omega
        have hfn3 : frN n9 t d9 < n9 := by
          rcases hfn2 with e | e
          · exact e
          · have e0 : n9 = 0 := by omega
            have e1 : frN n9 t d9 = 0 := by unfold frN miB; rw [if_neg (by rintro (z | z); exact absurd (of_decide_eq_true z).1 (by omega); exact absurd z.1 (by omega))]
            omega
        refine lv_iload hx hb dX4_said_76 (lv_at hl 1 rfl) ?_
        refine lv_istore (lv' := [(6, .int (nI (frN n9 t d9))), (5, .ref q), (4, .int (nI (frN n9 t d9))), (3, .int (bI (miB n9 t d9))), (0, .ref a), (1, .int (nI r9)), (2, .int (nI d9))]) hx hb dX4_said_78 hl (by decide) rfl (fun ls hl => ?_)
        have g0 : ∀ j, j < (nP (decide (d9 < 2))) → (fun _ : Nat => (0 : Int32)) j = rw16 (valN r9 t (frN n9 t d9) 0) j := fun j _ => rw16_0 j
        refine L_said C0 hK hZ hA hAb (HB := H1) (k9 := (nP (decide (d9 < 2)))) (by omega) (by omega) hr9 hs1 ⟨by omega, by omega⟩ hn9 ht hfn3 (by decide) (by decide) (fun ls H locs hno hsz hkk hS hl => ?_) (fun ls H locs hno hsz hkk hS hl => ?_) (fun f ls H locs hok hf9 hf hsz hkk hS hl => ?_) (n9 + 1) 0 _ (by omega) (fun j h1 h2 => by omega) (Nat.pow_pos (by decide)) g0 (by omega) ls H1 _ gq rfl (fun z _ => rfl) hS (lv_sub hl [0, 1, 2, 3, 4, 5, 6] rfl)
        · skip
          refine lv_null hx hb dX4_said_106 ?_
          refine W.widen (k := 3) (n := 12) (by decide) (by decide) ?_
          exact rt_an (mu := (fun _ => False)) C0 (Or.inr ⟨_, rfl⟩) (Or.inl ⟨fun z => hno z.1, rfl⟩) hS rfl dX4_said_107
        · skip
          refine lv_null hx hb dX4_said_159 ?_
          refine W.widen (k := 3) (n := 12) (by decide) (by decide) ?_
          exact rt_an (mu := (fun _ => False)) C0 (Or.inr ⟨_, rfl⟩) (Or.inl ⟨fun z => hno z.1, rfl⟩) hS rfl dX4_said_160
        · skip
          refine lv_aload hx hb dX4_said_167 (lv_at hl 0 rfl) ?_
          refine lv_iload_n hx hb dX4_said_169 rfl (lv_at hl 2 rfl) ?_
          refine lv_iload_n hx hb dX4_said_170 rfl (lv_at hl 5 rfl) ?_
          refine lv_iconst (v := nI 2) hx hb dX4_said_171 (by decide) ?_
          refine lv_irem hx hb dX4_said_172 (by decide) ?_
          refine tp_i (y := nI (d9 % 2)) (pk_rem (by omega) (by omega) (by omega)) ?_
          refine lv_if_ne (tgt := 180) hx hb dX4_said_173 (by decide) (fun h5 => ?_) (fun h5 => ?_)
          · skip
            have e5 : d9 % 2 = 1 := by rcases Nat.mod_two_eq_zero_or_one d9 with e | e; exact absurd (by rw [e]; rfl) h5; exact e
            refine lv_iconst (v := nI 0) hx hb dX4_said_180 (by decide) ?_
            refine tp_i (y := bI (decide (d9 % 2 = 0))) ((by rw [e5]; rfl)) ?_
            refine cn_S (As := [.ref q, .int (bI (miB n9 t d9)), .int (bI (decide (d9 % 2 = 0)))]) (rest := []) C0 hl hK hS hA (fun z h => absurd h (fun z => z)) (c_ranged l g H q (nP (decide (d9 < 2))) (saX r9 n9 t d9) (miB n9 t d9) (decide (d9 % 2 = 0)) hk9 hok.2.2 (at_cong hf hf9)) gX4_said_X4_ranged rfl ⟨rfl, rfl⟩ (show hd_ok yX4_ranged 3 from ⟨by decide, by decide, by decide +kernel⟩) ⟨Nat.le_of_ble_eq_true rfl, Nat.le_of_ble_eq_true rfl⟩ rfl (Nat.le_of_ble_eq_true rfl) ⟨by decide, by decide⟩ dX4_said_181 (fun r1 H9 locs hv hzz hk9b hS => ?_)
            have hsz9 := hS.1
            rcases hv with ⟨h7, rfl⟩ | ⟨h7, q9, rfl, hq9, g9⟩
            · skip
              exact rt_an (mu := (fun _ => False)) C0 (Or.inr ⟨_, rfl⟩) (Or.inl ⟨fun z => z.2 h7, rfl⟩) hS rfl dX4_said_184
            · skip
              exact rt_a (mu := (fun _ => False)) C0 (Or.inr ⟨_, rfl⟩) (Or.inr ⟨⟨hok, h7⟩, q9, rfl, by rcases hq9 with e | e <;> omega, g9⟩) hS rfl dX4_said_184
          · skip
            have e5 : d9 % 2 = 0 := nI_inj (by omega) (by decide) h5
            refine lv_iconst (v := nI 1) hx hb dX4_said_176 (by decide) ?_
            refine lv_goto (tgt := 181) hx hb dX4_said_177 (by decide) ?_
            refine tp_i (y := bI (decide (d9 % 2 = 0))) ((by rw [decide_eq_true e5]; rfl)) ?_
            refine cn_S (As := [.ref q, .int (bI (miB n9 t d9)), .int (bI (decide (d9 % 2 = 0)))]) (rest := []) C0 hl hK hS hA (fun z h => absurd h (fun z => z)) (c_ranged l g H q (nP (decide (d9 < 2))) (saX r9 n9 t d9) (miB n9 t d9) (decide (d9 % 2 = 0)) hk9 hok.2.2 (at_cong hf hf9)) gX4_said_X4_ranged rfl ⟨rfl, rfl⟩ (show hd_ok yX4_ranged 3 from ⟨by decide, by decide, by decide +kernel⟩) ⟨Nat.le_of_ble_eq_true rfl, Nat.le_of_ble_eq_true rfl⟩ rfl (Nat.le_of_ble_eq_true rfl) ⟨by decide, by decide⟩ dX4_said_181 (fun r1 H9 locs hv hzz hk9b hS => ?_)
            have hsz9 := hS.1
            rcases hv with ⟨h7, rfl⟩ | ⟨h7, q9, rfl, hq9, g9⟩
            · skip
              exact rt_an (mu := (fun _ => False)) C0 (Or.inr ⟨_, rfl⟩) (Or.inl ⟨fun z => z.2 h7, rfl⟩) hS rfl dX4_said_184
            · skip
              exact rt_a (mu := (fun _ => False)) C0 (Or.inr ⟨_, rfl⟩) (Or.inr ⟨⟨hok, h7⟩, q9, rfl, by rcases hq9 with e | e <;> omega, g9⟩) hS rfl dX4_said_184
      · skip
        have hfn : frN n9 t d9 = n9 := nI_inj (by omega) (by omega) h2
        refine lv_null hx hb dX4_said_74 ?_
        refine W.widen (k := 3) (n := 12) (by decide) (by decide) ?_
        exact rt_an (mu := (fun _ => False)) C0 (Or.inr ⟨_, rfl⟩) (Or.inl ⟨fun z => by have := z.1.1; omega, rfl⟩) hS rfl dX4_said_75
end M55

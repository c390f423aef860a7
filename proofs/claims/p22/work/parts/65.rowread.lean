-- THE CLASS: Row reads its text
/-- 1 if P, else 0 -/
noncomputable def bP (P : Prop) : Int32 := @ite _ P (Classical.propDecidable P) 1 0
theorem bP_t {P : Prop} (h : P) : bP P = 1 := by unfold bP; rw [if_pos h]
theorem bP_f {P : Prop} (h : ¬ P) : bP P = 0 := by unfold bP; rw [if_neg h]
theorem bP_0 {P : Prop} (h : bP P = 0) : ¬ P := fun z => absurd ((bP_t z).symm.trans h) (by decide)
theorem bP_n0 {P : Prop} (h : ¬ bP P = 0) : P := by
  rcases Classical.em P with z | z
  · exact z
  · exact absurd (bP_f z) h
theorem bP_nar (P : Prop) : narrow .boolean (.int (bP P)) = .int (bP P) := by
  rcases Classical.em P with z | z
  · rw [bP_t z]; rfl
  · rw [bP_f z]; rfl
theorem bP_congr {P Q : Prop} (h : P ↔ Q) : bP P = bP Q := by rw [propext h]
/-- within the greatest one -/
def okG (r : Nat) (t : Nat → Nat) (f n G : Nat) : Prop := (∀ j, f ≤ j → j < n → wor (t j) < r) ∧ valN r t f (n - f) ≤ G
theorem neg_N {v : Nat} (h : v ≤ 2 ^ 64) : -(lN v) = lN (2 ^ 64 - v) := by
  refine Int64.toBitVec_inj.mp ?_
  rw [Int64.toBitVec_neg, wb_tb, wb_tb]
  refine BitVec.eq_of_toNat_eq ?_
  rw [BitVec.toNat_neg, BitVec.toNat_ofNat, BitVec.toNat_ofNat]
  omega
theorem dgC_eq {c r : Nat} (h : r ≤ 36) : dgC c r = -1 ↔ ¬ wor c < r := by
  unfold dgC
  constructor
  · intro e z
    rw [if_pos z] at e
    exact absurd (Int32.le_of_eq e) (nIm_neg (by omega))
  · intro z
    rw [if_neg z]
/-- is it a number of the kind? the class's way -/
def clOK (r n : Nat) (t : Nat → Nat) (d : Nat) : Prop := ¬ ((0 < n ∧ t 0 = 45) ∧ d % 2 = 1) ∧ fdN n t < n ∧ okG r t (fdN n t) n (gtN d (decide (0 < n ∧ t 0 = 45)))
theorem wor45 : wor 45 = 99 := by decide
theorem cl_sa {r n : Nat} {t : Nat → Nat} {d : Nat} (hr : r ≤ 36) (hd : d < 4) : clOK r n t d ↔ saOK r n t d := by
  unfold clOK saOK okD okG
  by_cases hb : 0 < n ∧ t 0 = 45
  · rcases Nat.mod_two_eq_zero_or_one d with e | e
    · have em : miB n t d = true := by unfold miB; exact decide_eq_true ⟨hb.1, hb.2, e⟩
      have e1 : frN n t d = 1 := by unfold frN; rw [if_pos (Or.inl em)]
      have e2 : fdN n t = 1 := by unfold fdN; rw [if_pos (Or.inl hb)]
      have e3 : decide (0 < n ∧ t 0 = 45) = true := decide_eq_true hb
      unfold saX rgB
      rw [e1, e2, e3, em]
      generalize valN r t 1 (n - 1) = X
      have hdd : d = 0 ∨ d = 2 := by omega
      rcases hdd with rfl | rfl
      · show ¬ (_ ∧ (0 : Nat) = 1) ∧ 1 < n ∧ _ ∧ X ≤ 2 ^ 31 ↔ (1 < n ∧ _ ∧ X < 65536 ^ 2) ∧ ¬ (true = true ∧ 65536 ^ 2 ≤ 2 * X ∧ ¬ (true = true ∧ 2 * X = 65536 ^ 2))
        constructor
        · rintro ⟨-, h1, h2, h3⟩
          exact ⟨⟨h1, h2, by omega⟩, fun z => z.2.2 ⟨rfl, by omega⟩⟩
        · rintro ⟨⟨h1, h2, h3⟩, h4⟩
          refine ⟨fun z => absurd z.2 (by decide), h1, h2, ?_⟩
          rcases Nat.lt_or_ge (2 ^ 31) X with h | h
          · exact absurd ⟨rfl, by omega, fun z => by omega⟩ h4
          · exact h
      · show ¬ (_ ∧ (0 : Nat) = 1) ∧ 1 < n ∧ _ ∧ X ≤ 2 ^ 63 ↔ (1 < n ∧ _ ∧ X < 65536 ^ 4) ∧ ¬ (true = true ∧ 65536 ^ 4 ≤ 2 * X ∧ ¬ (true = true ∧ 2 * X = 65536 ^ 4))
        constructor
        · rintro ⟨-, h1, h2, h3⟩
          exact ⟨⟨h1, h2, by omega⟩, fun z => z.2.2 ⟨rfl, by omega⟩⟩
        · rintro ⟨⟨h1, h2, h3⟩, h4⟩
          refine ⟨fun z => absurd z.2 (by decide), h1, h2, ?_⟩
          rcases Nat.lt_or_ge (2 ^ 63) X with h | h
          · exact absurd ⟨rfl, by omega, fun z => by omega⟩ h4
          · exact h
    · have em : miB n t d = false := by unfold miB; exact decide_eq_false (fun z => by have := z.2.2; omega)
      have e1 : frN n t d = 0 := by unfold frN; rw [if_neg (fun z => z.elim (fun z => absurd (em.symm.trans z) (by decide)) (fun z => by have h1 := hb.2; have h2 := z.2; omega))]
      rw [e1]
      constructor
      · intro z
        exact absurd ⟨hb, e⟩ z.1
      · rintro ⟨⟨-, h2, -⟩, -⟩
        have h3 := h2 0 (Nat.le_refl 0) hb.1
        rw [hb.2, wor45] at h3
        omega
  · have em : miB n t d = false := by unfold miB; exact decide_eq_false (fun z => hb ⟨z.1, z.2.1⟩)
    have e1 : frN n t d = fdN n t := by
      unfold frN fdN
      rw [em]
      by_cases h : 0 < n ∧ t 0 = 43
      · rw [if_pos (Or.inr h), if_pos (Or.inr h)]
      · rw [if_neg (fun z => z.elim (fun z => absurd z (by decide)) h), if_neg (fun z => z.elim hb h)]
    have e3 : decide (0 < n ∧ t 0 = 45) = false := decide_eq_false hb
    unfold saX rgB
    rw [e1, e3, em]
    generalize fdN n t = f
    generalize valN r t f (n - f) = X
    have hdd : d = 0 ∨ d = 1 ∨ d = 2 ∨ d = 3 := by omega
    rcases hdd with rfl | rfl | rfl | rfl
    · show ¬ (_ ∧ (0 : Nat) = 1) ∧ f < n ∧ _ ∧ X ≤ 2 ^ 31 - 1 ↔ (f < n ∧ _ ∧ X < 65536 ^ 2) ∧ ¬ (true = true ∧ 65536 ^ 2 ≤ 2 * X ∧ ¬ (false = true ∧ 2 * X = 65536 ^ 2))
      constructor
      · rintro ⟨-, h1, h2, h3⟩
        exact ⟨⟨h1, h2, by omega⟩, fun z => by have := z.2.1; omega⟩
      · rintro ⟨⟨h1, h2, h3⟩, h4⟩
        refine ⟨fun z => absurd z.2 (by decide), h1, h2, ?_⟩
        rcases Nat.lt_or_ge (2 ^ 31 - 1) X with h | h
        · exact absurd ⟨rfl, by omega, fun z => absurd z.1 (by decide)⟩ h4
        · exact h
    · show ¬ (_ ∧ (1 : Nat) = 1) ∧ f < n ∧ _ ∧ X ≤ 2 ^ 32 - 1 ↔ (f < n ∧ _ ∧ X < 65536 ^ 2) ∧ ¬ (false = true ∧ _)
      constructor
      · rintro ⟨-, h1, h2, h3⟩
        exact ⟨⟨h1, h2, by omega⟩, fun z => absurd z.1 (by decide)⟩
      · rintro ⟨⟨h1, h2, h3⟩, -⟩
        exact ⟨fun z => hb z.1, h1, h2, by omega⟩
    · show ¬ (_ ∧ (0 : Nat) = 1) ∧ f < n ∧ _ ∧ X ≤ 2 ^ 63 - 1 ↔ (f < n ∧ _ ∧ X < 65536 ^ 4) ∧ ¬ (true = true ∧ 65536 ^ 4 ≤ 2 * X ∧ ¬ (false = true ∧ 2 * X = 65536 ^ 4))
      constructor
      · rintro ⟨-, h1, h2, h3⟩
        exact ⟨⟨h1, h2, by omega⟩, fun z => by have := z.2.1; omega⟩
      · rintro ⟨⟨h1, h2, h3⟩, h4⟩
        refine ⟨fun z => absurd z.2 (by decide), h1, h2, ?_⟩
        rcases Nat.lt_or_ge (2 ^ 63 - 1) X with h | h
        · exact absurd ⟨rfl, by omega, fun z => absurd z.1 (by decide)⟩ h4
        · exact h
    · show ¬ (_ ∧ (1 : Nat) = 1) ∧ f < n ∧ _ ∧ X ≤ 2 ^ 64 - 1 ↔ (f < n ∧ _ ∧ X < 65536 ^ 4) ∧ ¬ (false = true ∧ _)
      constructor
      · rintro ⟨-, h1, h2, h3⟩
        exact ⟨⟨h1, h2, by omega⟩, fun z => absurd z.1 (by decide)⟩
      · rintro ⟨⟨h1, h2, h3⟩, -⟩
        exact ⟨fun z => hb z.1, h1, h2, by omega⟩
section M65
variable {p : Program} {l : Launch} {e : Env} {s : State} {m : MethodId} {args : Array Value} {below : List Frame} {meth : Method} {c : Code} {H H0 : Heap} {locs : List Loc} {cells slots : Nat} {Q : State → Prop} {A : Nat → Prop} {g : Gx}
abbrev rmX2_isSigned : Room := { frames := 0, cells := 0, slots := 0, locals := 0 }
set_option maxHeartbeats 4000000 in
set_option maxRecDepth 100000 in
theorem c_isSigned (l : Launch) (g : Gx) (H0 : Heap) (d9 : Nat) (hd9 : d9 < 4) : Met l yX2_isSigned wsX2_isSigned rmX2_isSigned (va_Pc [.int (nI d9)] (hB g H0)) (pQ (some (.int (bI (decide (d9 = 0 ∨ d9 = 2))))) H0) 0 0 (fun q => H0.size ≤ q) := by
  refine cx_met (own := RX2) (cc := cX2_isSigned) (maxL := 1) (by decide) rfl rfl (Nat.le_of_ble_eq_true rfl) ?_
  intro p e s m below meth c ls C0 hB0 hnm hl
  obtain ⟨hH, hK⟩ := hB0
  obtain ⟨hx, hb, hr, hml, hown, hts, hlk⟩ := id C0
  subst hH
  have hS : va_S (fun q => s.heap.size ≤ q) s.heap s.heap [] := va_S.rf
  have hA : ∀ q : Nat, s.heap.size ≤ q → s.heap.size ≤ q := fun q h => h
  have hl : lv_has ls 1 [(0, .int (nI d9))] := hl
  refine lv_iload_n hx hb dX2_isSigned_0 rfl (lv_at hl 0 rfl) ?_
  refine lv_if_eq (tgt := 9) hx hb dX2_isSigned_1 (by decide) (fun h1 => ?_) (fun h1 => ?_)
  · skip
    have n1 : d9 = 0 := nI_inj (by omega) (by decide) h1
    refine lv_iconst (v := nI 1) hx hb dX2_isSigned_9 (by decide) ?_
    refine lv_goto (tgt := 14) hx hb dX2_isSigned_10 (by decide) ?_
    exact rt_z C0 (by rw [bI_t (decide_eq_true (Or.inl n1))]; rfl) (by rfl) hS rfl dX2_isSigned_14
  · skip
    have n1 : d9 ≠ 0 := fun z => h1 (by rw [z]; rfl)
    refine lv_iload_n hx hb dX2_isSigned_4 rfl (lv_at hl 0 rfl) ?_
    refine lv_iconst (v := nI 2) hx hb dX2_isSigned_5 (by decide) ?_
    refine lv_icmp_ne (tgt := 13) hx hb dX2_isSigned_6 (by decide) (fun h2 => ?_) (fun h2 => ?_)
    · skip
      have n2 : d9 ≠ 2 := fun z => h2 (by rw [z])
      refine lv_iconst (v := nI 0) hx hb dX2_isSigned_13 (by decide) ?_
      exact rt_z C0 (by rw [bI_f (decide_eq_false (fun z => z.elim n1 n2))]; rfl) (by rfl) hS rfl dX2_isSigned_14
    · skip
      have n2 : d9 = 2 := nI_inj (by omega) (by decide) h2
      refine lv_iconst (v := nI 1) hx hb dX2_isSigned_9 (by decide) ?_
      refine lv_goto (tgt := 14) hx hb dX2_isSigned_10 (by decide) ?_
      exact rt_z C0 (by rw [bI_t (decide_eq_true (Or.inr n2))]; rfl) (by rfl) hS rfl dX2_isSigned_14
abbrev rmX2_isOfInt : Room := { frames := 0, cells := 0, slots := 0, locals := 0 }
set_option maxHeartbeats 4000000 in
set_option maxRecDepth 100000 in
theorem c_isOfInt (l : Launch) (g : Gx) (H0 : Heap) (d9 : Nat) (hd9 : d9 < 4) : Met l yX2_isOfInt wsX2_isOfInt rmX2_isOfInt (va_Pc [.int (nI d9)] (hB g H0)) (pQ (some (.int (bI (decide (d9 = 0 ∨ d9 = 1))))) H0) 0 0 (fun q => H0.size ≤ q) := by
  refine cx_met (own := RX2) (cc := cX2_isOfInt) (maxL := 1) (by decide) rfl rfl (Nat.le_of_ble_eq_true rfl) ?_
  intro p e s m below meth c ls C0 hB0 hnm hl
  obtain ⟨hH, hK⟩ := hB0
  obtain ⟨hx, hb, hr, hml, hown, hts, hlk⟩ := id C0
  subst hH
  have hS : va_S (fun q => s.heap.size ≤ q) s.heap s.heap [] := va_S.rf
  have hA : ∀ q : Nat, s.heap.size ≤ q → s.heap.size ≤ q := fun q h => h
  have hl : lv_has ls 1 [(0, .int (nI d9))] := hl
  refine lv_iload_n hx hb dX2_isOfInt_0 rfl (lv_at hl 0 rfl) ?_
  refine lv_if_eq (tgt := 9) hx hb dX2_isOfInt_1 (by decide) (fun h1 => ?_) (fun h1 => ?_)
  · skip
    have n1 : d9 = 0 := nI_inj (by omega) (by decide) h1
    refine lv_iconst (v := nI 1) hx hb dX2_isOfInt_9 (by decide) ?_
    refine lv_goto (tgt := 14) hx hb dX2_isOfInt_10 (by decide) ?_
    exact rt_z C0 (by rw [bI_t (decide_eq_true (Or.inl n1))]; rfl) (by rfl) hS rfl dX2_isOfInt_14
  · skip
    have n1 : d9 ≠ 0 := fun z => h1 (by rw [z]; rfl)
    refine lv_iload_n hx hb dX2_isOfInt_4 rfl (lv_at hl 0 rfl) ?_
    refine lv_iconst (v := nI 1) hx hb dX2_isOfInt_5 (by decide) ?_
    refine lv_icmp_ne (tgt := 13) hx hb dX2_isOfInt_6 (by decide) (fun h2 => ?_) (fun h2 => ?_)
    · skip
      have n2 : d9 ≠ 1 := fun z => h2 (by rw [z])
      refine lv_iconst (v := nI 0) hx hb dX2_isOfInt_13 (by decide) ?_
      exact rt_z C0 (by rw [bI_f (decide_eq_false (fun z => z.elim n1 n2))]; rfl) (by rfl) hS rfl dX2_isOfInt_14
    · skip
      have n2 : d9 = 1 := nI_inj (by omega) (by decide) h2
      refine lv_iconst (v := nI 1) hx hb dX2_isOfInt_9 (by decide) ?_
      refine lv_goto (tgt := 14) hx hb dX2_isOfInt_10 (by decide) ?_
      exact rt_z C0 (by rw [bI_t (decide_eq_true (Or.inr n2))]; rfl) (by rfl) hS rfl dX2_isOfInt_14
abbrev rmX0_isWithin : Room := { frames := 2, cells := 0, slots := 0, locals := 48 }
set_option maxHeartbeats 4000000 in
set_option maxRecDepth 100000 in
theorem L_within (C0 : Cx p s m args meth c RX0 cX0_isWithin 13 (some .boolean) wsX0_isWithin) (hK : KK g s) (hA : ∀ q, s.heap.size ≤ q → s.heap.size ≤ q) {r c7 n f9 r9 G : Nat} {t : Nat → Nat} (hR : RW g r c7 n t s.heap) (hG : G < 2 ^ 64) (hr9 : 2 ≤ r9 ∧ r9 ≤ 36)
    (KT : ∀ (ls : Array Slot) (locs : List Loc), okG r9 t f9 n G → va_S (fun q => s.heap.size ≤ q) s.heap s.heap locs → W p l e rmX0_isWithin s m args below meth c s.heap locs 0 0 Q (F0 m 93 ls []))
    (KF : ∀ (ls : Array Slot) (locs : List Loc), ¬ okG r9 t f9 n G → va_S (fun q => s.heap.size ≤ q) s.heap s.heap locs → W p l e rmX0_isWithin s m args below meth c s.heap locs 0 0 Q (F0 m 74 ls [])) :
    ∀ (n9 k : Nat), f9 + k ≤ n → (∀ j, f9 ≤ j → j < f9 + k → wor (t j) < r9) → valN r9 t f9 k ≤ G → n - (f9 + k) < n9 → ∀ (ls : Array Slot) (locs : List Loc), va_S (fun q => s.heap.size ≤ q) s.heap s.heap locs → lv_has ls 13 [(11, .int (nI (f9 + k))), (9, .long (lN (valN r9 t f9 k))), (7, .long (lN (G - G / r9 * r9))), (5, .long (lN (G / r9))), (0, .ref r), (2, .int (nI r9))] → W p l e rmX0_isWithin s m args below meth c s.heap locs 0 0 Q (F0 m 23 ls []) := by
  obtain ⟨hx, hb, hr, hml, hown, hts, hlk⟩ := id C0
  obtain ⟨f, hf, hc9, hft, hn70, ht128, hrc⟩ := id hR
  intro n9
  induction n9 with
  | zero => intro k _ _ _ h; exact absurd h (Nat.not_lt_zero _)
  | succ n9 ih =>
    intro k hk hdig hval hn9 ls locs hS hl
    refine lv_iload hx hb dX0_isWithin_23 (lv_at hl 0 rfl) ?_
    refine lv_aload_n hx hb dX0_isWithin_25 rfl (lv_at hl 4 rfl) ?_
    refine va_get (ci := 2) (C := RX0) (T := TX0) (N := 2) (v := .int (nI n)) hx hb hts (by decide +kernel) hown hK.1 (p1 hf) 0 rfl rfl 1 (by decide) (hts (.fieldLink RX0 15 "Radixbench$Row" "size" "I") (by decide +kernel)) (fun _ h9 => h9) rfl dX0_isWithin_26 ?_
    refine lv_icmp_ge (tgt := 93) hx hb dX0_isWithin_29 (by decide) (fun h1 => ?_) (fun h1 => ?_)
    · skip
      have h2 := le_n (by omega) h1
      have ek : n - f9 = k := by omega
      exact KT ls _ ⟨fun j h3 h4 => hdig j h3 (by omega), by rw [ek]; exact hval⟩ hS
    · skip
      have hlt := nle_n (by omega) h1
      have hw9 : wor (t (f9 + k)) ≤ 99 := by unfold wor; (repeat' split) <;> omega
      have ev : valN r9 t f9 (k + 1) = valN r9 t f9 k * r9 + wor (t (f9 + k)) := rfl
      have hmon : valN r9 t f9 (k + 1) ≤ valN r9 t f9 (n - f9) := valN_mono (by omega) (by omega)
      have hq0 : G / r9 * r9 ≤ G := Nat.div_mul_le_self _ _
      have hq1 : G < (G / r9 + 1) * r9 := by rw [Nat.mul_comm]; exact Nat.lt_mul_div_succ _ (by omega)
      rw [Nat.add_mul, Nat.one_mul] at hq1
      refine lv_aload_n hx hb dX0_isWithin_32 rfl (lv_at hl 4 rfl) ?_
      refine lv_iload hx hb dX0_isWithin_33 (lv_at hl 0 rfl) ?_
      refine lv_iload_n hx hb dX0_isWithin_35 rfl (lv_at hl 5 rfl) ?_
      refine cp_V (As := [.int (nI (f9 + k)), .int (nI r9)]) (rest := []) C0 hl hK hS hA (c_dgAt l g s.heap r c7 n t hR (f9 + k) r9 hlt hr9.2) gX0_isWithin_X0_digitAt rfl ⟨rfl, rfl⟩ (hR.recv hK) ⟨rfl, (show hd_ok yX0_digitAt 2 from ⟨by decide, by decide, by decide +kernel⟩)⟩ ⟨Nat.le_of_ble_eq_true rfl, Nat.le_of_ble_eq_true rfl⟩ rfl (Nat.le_of_ble_eq_true rfl) ⟨Nat.zero_le _, Nat.zero_le _⟩ dX0_isWithin_36 (fun locs hS => ?_)
      refine lv_istore (lv' := [(12, .int (dgC (t (f9 + k)) r9)), (11, .int (nI (f9 + k))), (9, .long (lN (valN r9 t f9 k))), (7, .long (lN (G - G / r9 * r9))), (5, .long (lN (G / r9))), (0, .ref r), (2, .int (nI r9))]) hx hb dX0_isWithin_39 hl (by decide) rfl (fun ls hl => ?_)
      refine lv_iload hx hb dX0_isWithin_41 (lv_at hl 0 rfl) ?_
      refine lv_iconst (v := (-1)) hx hb dX0_isWithin_43 (by decide) ?_
      refine lv_icmp_eq (tgt := 74) hx hb dX0_isWithin_44 (by decide) (fun h2 => ?_) (fun h2 => ?_)
      · skip
        have hbad := (dgC_eq hr9.2).mp h2
        exact KF ls _ (fun z => hbad (z.1 (f9 + k) (by omega) hlt)) hS
      · skip
        have hgood : wor (t (f9 + k)) < r9 := Classical.byContradiction (fun z => h2 ((dgC_eq hr9.2).mpr z))
        rw [show dgC (t (f9 + k)) r9 = nI (wor (t (f9 + k))) from if_pos hgood] at hl
        refine lv_lload hx hb dX0_isWithin_47 (lv_at hl 4 rfl) ?_
        refine lv_lload hx hb dX0_isWithin_49 (lv_at hl 2 rfl) ?_
        refine cp_S (As := [.long (lN (G / r9)), .long (lN (valN r9 t f9 k))]) (rest := []) C0 hl hK hS hA (c_uLess l g s.heap (G / r9) (valN r9 t f9 k) (Nat.lt_of_le_of_lt (Nat.div_le_self _ _) hG) (by omega)) gX0_isWithin_X1_isLess rfl ⟨rfl, rfl⟩ (show hd_ok yX1_isLess 2 from ⟨by decide, by decide, by decide +kernel⟩) ⟨Nat.le_of_ble_eq_true rfl, Nat.le_of_ble_eq_true rfl⟩ rfl (Nat.le_of_ble_eq_true rfl) ⟨Nat.zero_le _, Nat.zero_le _⟩ dX0_isWithin_51 (fun locs hS => ?_)
        refine lv_if_ne (tgt := 74) hx hb dX0_isWithin_54 (by decide) (fun h3 => ?_) (fun h3 => ?_)
        · skip
          have n3 := of_decide_eq_true (bI_n0 h3)
          refine KF ls _ (fun z => ?_) hS
          have h5 := z.2
          have h6 : (G / r9 + 1) * r9 ≤ valN r9 t f9 k * r9 := Nat.mul_le_mul_right _ n3
          rw [Nat.add_mul, Nat.one_mul] at h6
          omega
        · skip
          have n3 := of_decide_eq_false (bI_0 h3)
          refine lv_lload hx hb dX0_isWithin_57 (lv_at hl 2 rfl) ?_
          refine lv_lload hx hb dX0_isWithin_59 (lv_at hl 4 rfl) ?_
          refine W.lcmp hx hb dX0_isWithin_61 ?_
          refine lv_if_ne (tgt := 76) hx hb dX0_isWithin_62 (by decide) (fun h4 => ?_) (fun h4 => ?_)
          · skip
            have n4 : valN r9 t f9 k ≠ G / r9 := fun z => lc_ne h4 (by rw [z])
            have hv1 : valN r9 t f9 (k + 1) ≤ G := by
              have h6 : (valN r9 t f9 k + 1) * r9 ≤ G / r9 * r9 := Nat.mul_le_mul_right _ (by omega)
              rw [Nat.add_mul, Nat.one_mul] at h6
              omega
            refine lv_lload hx hb dX0_isWithin_76 (lv_at hl 2 rfl) ?_
            refine lv_iload_n hx hb dX0_isWithin_78 rfl (lv_at hl 6 rfl) ?_
            refine lv_i2l (v := lN r9) hx hb dX0_isWithin_79 (nI_l (by omega)) ?_
            refine lv_lmul hx hb dX0_isWithin_80 ?_
            refine tp_l (y := lN (valN r9 t f9 k * r9)) (lN_mul _ _) ?_
            refine lv_iload hx hb dX0_isWithin_81 (lv_at hl 0 rfl) ?_
            refine lv_i2l (v := lN (wor (t (f9 + k)))) hx hb dX0_isWithin_83 (nI_l (by omega)) ?_
            refine lv_ladd hx hb dX0_isWithin_84 ?_
            refine tp_l (y := lN (valN r9 t f9 (k + 1))) (lN_add _ _) ?_
            refine lv_lstore (lv' := [(9, .long (lN (valN r9 t f9 (k + 1)))), (12, .int (nI (wor (t (f9 + k))))), (11, .int (nI (f9 + k))), (7, .long (lN (G - G / r9 * r9))), (5, .long (lN (G / r9))), (0, .ref r), (2, .int (nI r9))]) hx hb dX0_isWithin_85 hl (by decide) rfl (fun ls hl => ?_)
            refine lv_iinc (v := nI ((f9 + k) + 1)) (lv' := [(11, .int (nI ((f9 + k) + 1))), (9, .long (lN (valN r9 t f9 (k + 1)))), (12, .int (nI (wor (t (f9 + k))))), (7, .long (lN (G - G / r9 * r9))), (5, .long (lN (G / r9))), (0, .ref r), (2, .int (nI r9))]) hx hb dX0_isWithin_87 hl (k := 2) rfl (nI_1 _) (by decide) rfl (fun ls hl => ?_)
            refine lv_goto (tgt := 23) hx hb dX0_isWithin_90 (by decide) ?_
            exact ih (k + 1) (by omega) (fun i h5 h6 => by rcases Nat.lt_or_ge i (f9 + k) with e | e; exact hdig i h5 e; rw [show i = f9 + k by omega]; exact hgood) hv1 (by omega) ls _ hS (lv_sub hl [0, 1, 3, 4, 5, 6] rfl)
          · skip
            have n4 : valN r9 t f9 k = G / r9 := (lN_inj (by omega) (Nat.lt_of_le_of_lt (Nat.div_le_self _ _) hG)).mp (lc_eq h4)
            refine lv_iload hx hb dX0_isWithin_65 (lv_at hl 0 rfl) ?_
            refine lv_i2l (v := lN (wor (t (f9 + k)))) hx hb dX0_isWithin_67 (nI_l (by omega)) ?_
            refine lv_lload hx hb dX0_isWithin_68 (lv_at hl 3 rfl) ?_
            refine W.lcmp hx hb dX0_isWithin_70 ?_
            refine lv_if_le (tgt := 76) hx hb dX0_isWithin_71 (by decide) (fun h5 => ?_) (fun h5 => ?_)
            · skip
              have n5 := (pk_lLE (by omega) (by omega)).mp (lc_le h5)
              have hv1 : valN r9 t f9 (k + 1) ≤ G := by
                rw [ev, n4]
                omega
              refine lv_lload hx hb dX0_isWithin_76 (lv_at hl 2 rfl) ?_
              refine lv_iload_n hx hb dX0_isWithin_78 rfl (lv_at hl 6 rfl) ?_
              refine lv_i2l (v := lN r9) hx hb dX0_isWithin_79 (nI_l (by omega)) ?_
              refine lv_lmul hx hb dX0_isWithin_80 ?_
              refine tp_l (y := lN (valN r9 t f9 k * r9)) (lN_mul _ _) ?_
              refine lv_iload hx hb dX0_isWithin_81 (lv_at hl 0 rfl) ?_
              refine lv_i2l (v := lN (wor (t (f9 + k)))) hx hb dX0_isWithin_83 (nI_l (by omega)) ?_
              refine lv_ladd hx hb dX0_isWithin_84 ?_
              refine tp_l (y := lN (valN r9 t f9 (k + 1))) (lN_add _ _) ?_
              refine lv_lstore (lv' := [(9, .long (lN (valN r9 t f9 (k + 1)))), (12, .int (nI (wor (t (f9 + k))))), (11, .int (nI (f9 + k))), (7, .long (lN (G - G / r9 * r9))), (5, .long (lN (G / r9))), (0, .ref r), (2, .int (nI r9))]) hx hb dX0_isWithin_85 hl (by decide) rfl (fun ls hl => ?_)
              refine lv_iinc (v := nI ((f9 + k) + 1)) (lv' := [(11, .int (nI ((f9 + k) + 1))), (9, .long (lN (valN r9 t f9 (k + 1)))), (12, .int (nI (wor (t (f9 + k))))), (7, .long (lN (G - G / r9 * r9))), (5, .long (lN (G / r9))), (0, .ref r), (2, .int (nI r9))]) hx hb dX0_isWithin_87 hl (k := 2) rfl (nI_1 _) (by decide) rfl (fun ls hl => ?_)
              refine lv_goto (tgt := 23) hx hb dX0_isWithin_90 (by decide) ?_
              exact ih (k + 1) (by omega) (fun i h5 h6 => by rcases Nat.lt_or_ge i (f9 + k) with e | e; exact hdig i h5 e; rw [show i = f9 + k by omega]; exact hgood) hv1 (by omega) ls _ hS (lv_sub hl [0, 1, 3, 4, 5, 6] rfl)
            · skip
              have n5 : ¬ wor (t (f9 + k)) ≤ G - G / r9 * r9 := fun z => lc_nle h5 ((pk_lLE (by omega) (by omega)).mpr z)
              exact KF ls _ (fun z => by have h6 := z.2; rw [ev, n4] at hmon; omega) hS
set_option maxHeartbeats 4000000 in
set_option maxRecDepth 100000 in
/-- isWithin(first, radix, greatest) -/
theorem c_within (l : Launch) (g : Gx) (H0 : Heap) (r c7 n : Nat) (t : Nat → Nat) (hR : RW g r c7 n t H0) (f9 r9 G : Nat) (hf9 : f9 ≤ n) (hG : G < 2 ^ 64) (hr9 : 2 ≤ r9 ∧ r9 ≤ 36) : Met l yX0_isWithin wsX0_isWithin rmX0_isWithin (va_Pc [.ref r, .int (nI f9), .int (nI r9), .long (lN G)] (hB g H0)) (pQ (some (.int (bP (okG r9 t f9 n G)))) H0) 0 0 (fun q => H0.size ≤ q) := by
  refine cx_met (own := RX0) (cc := cX0_isWithin) (maxL := 13) (by decide) rfl rfl (Nat.le_of_ble_eq_true rfl) ?_
  intro p e s m below meth c ls C0 hB0 hnm hl
  obtain ⟨hH, hK⟩ := hB0
  obtain ⟨hx, hb, hr, hml, hown, hts, hlk⟩ := id C0
  subst hH
  have hS : va_S (fun q => s.heap.size ≤ q) s.heap s.heap [] := va_S.rf
  have hA : ∀ q : Nat, s.heap.size ≤ q → s.heap.size ≤ q := fun q h => h
  have hl : lv_has ls 13 [(0, .ref r), (1, .int (nI f9)), (2, .int (nI r9)), (3, .long (lN G))] := hl
  obtain ⟨-, -, -, -, hn70x, -, -⟩ := id hR
  have hq0 : G / r9 * r9 ≤ G := Nat.div_mul_le_self _ _
  refine lv_lload_n hx hb dX0_isWithin_0 rfl (lv_at hl 3 rfl) ?_
  refine lv_iload_n hx hb dX0_isWithin_1 rfl (lv_at hl 2 rfl) ?_
  refine lv_i2l (v := lN r9) hx hb dX0_isWithin_2 (nI_l (by omega)) ?_
  refine cp_S (As := [.long (lN G), .long (lN r9)]) (rest := []) C0 hl hK hS hA (c_uQuo l g s.heap G r9 hG (by omega)) gX0_isWithin_X1_quotient rfl ⟨rfl, rfl⟩ (show hd_ok yX1_quotient 2 from ⟨by decide, by decide, by decide +kernel⟩) ⟨Nat.le_of_ble_eq_true rfl, Nat.le_of_ble_eq_true rfl⟩ rfl (Nat.le_of_ble_eq_true rfl) ⟨Nat.zero_le _, Nat.zero_le _⟩ dX0_isWithin_3 (fun locs hS => ?_)
  refine lv_lstore (lv' := [(5, .long (lN (G / r9))), (0, .ref r), (1, .int (nI f9)), (2, .int (nI r9)), (3, .long (lN G))]) hx hb dX0_isWithin_6 hl (by decide) rfl (fun ls hl => ?_)
  refine lv_lload_n hx hb dX0_isWithin_8 rfl (lv_at hl 4 rfl) ?_
  refine lv_lload hx hb dX0_isWithin_9 (lv_at hl 0 rfl) ?_
  refine lv_iload_n hx hb dX0_isWithin_11 rfl (lv_at hl 3 rfl) ?_
  refine lv_i2l (v := lN r9) hx hb dX0_isWithin_12 (nI_l (by omega)) ?_
  refine lv_lmul hx hb dX0_isWithin_13 ?_
  refine tp_l (y := lN (G / r9 * r9)) (lN_mul _ _) ?_
  refine lv_lsub hx hb dX0_isWithin_14 ?_
  refine tp_l (y := lN (G - G / r9 * r9)) (lN_sub hq0) ?_
  refine lv_lstore (lv' := [(7, .long (lN (G - G / r9 * r9))), (5, .long (lN (G / r9))), (0, .ref r), (1, .int (nI f9)), (2, .int (nI r9)), (3, .long (lN G))]) hx hb dX0_isWithin_15 hl (by decide) rfl (fun ls hl => ?_)
  refine lv_lconst (v := lN 0) hx hb dX0_isWithin_17 rfl ?_
  refine lv_lstore (lv' := [(9, .long (lN 0)), (7, .long (lN (G - G / r9 * r9))), (5, .long (lN (G / r9))), (0, .ref r), (1, .int (nI f9)), (2, .int (nI r9)), (3, .long (lN G))]) hx hb dX0_isWithin_18 hl (by decide) rfl (fun ls hl => ?_)
  refine lv_iload_n hx hb dX0_isWithin_20 rfl (lv_at hl 4 rfl) ?_
  refine lv_istore (lv' := [(11, .int (nI f9)), (9, .long (lN 0)), (7, .long (lN (G - G / r9 * r9))), (5, .long (lN (G / r9))), (0, .ref r), (1, .int (nI f9)), (2, .int (nI r9)), (3, .long (lN G))]) hx hb dX0_isWithin_21 hl (by decide) rfl (fun ls hl => ?_)
  refine L_within C0 hK hA hR hG hr9 (fun ls locs hok hS => ?_) (fun ls locs hno hS => ?_) (n + 1) 0 hf9 (fun j h1 h2 => by omega) (Nat.zero_le _) (by omega) ls _ hS (lv_sub hl [0, 1, 2, 3, 4, 6] rfl)
  · skip
    refine lv_iconst (v := nI 1) hx hb dX0_isWithin_93 (by decide) ?_
    exact rt_z C0 (by rw [bP_t hok]; rfl) (by rfl) hS rfl dX0_isWithin_94
  · skip
    refine lv_iconst (v := nI 0) hx hb dX0_isWithin_74 (by decide) ?_
    exact rt_z C0 (by rw [bP_f hno]; rfl) (by rfl) hS rfl dX0_isWithin_75
end M65
section M65B
variable {p : Program} {l : Launch} {e : Env} {s : State} {m : MethodId} {args : Array Value} {below : List Frame} {meth : Method} {c : Code} {H H0 : Heap} {locs : List Loc} {cells slots : Nat} {Q : State → Prop} {A : Nat → Prop} {g : Gx} {b0 : Nat}
abbrev rmX0_isNumberOf : Room := { frames := 3, cells := 0, slots := 0, locals := 80 }
set_option maxHeartbeats 4000000 in
set_option maxRecDepth 100000 in
/-- isNumberOf(radix, kind) -/
theorem c_isNo (l : Launch) (g : Gx) (b0 : Nat) (H0 : Heap) (r c7 n : Nat) (t : Nat → Nat) (hR : RW g r c7 n t H0) (r9 d9 : Nat) (hr9 : 2 ≤ r9 ∧ r9 ≤ 36) (hd9 : d9 < 4) : Met l yX0_isNumberOf wsX0_isNumberOf rmX0_isNumberOf (va_Pc [.ref r, .int (nI r9), .int (nI d9)] (hJ g b0 H0)) (pQ (some (.int (bP (saOK r9 n t d9)))) H0) 0 0 (fun q => H0.size ≤ q) := by
  refine cx_met (own := RX0) (cc := cX0_isNumberOf) (maxL := 5) (by decide) rfl rfl (Nat.le_of_ble_eq_true rfl) ?_
  intro p e s m below meth c ls C0 hB0 hnm hl
  obtain ⟨hH, hK, hZ⟩ := hB0
  obtain ⟨hx, hb, hr, hml, hown, hts, hlk⟩ := id C0
  subst hH
  have hS : va_S (fun q => s.heap.size ≤ q) s.heap s.heap [] := va_S.rf
  have hA : ∀ q : Nat, s.heap.size ≤ q → (fun q => s.heap.size ≤ q) q := fun q h => h
  have h0Z := hZ.1
  have hAb : ∀ q : Nat, (fun q => s.heap.size ≤ q) q → b0 ≤ q := fun q h => Nat.le_trans h0Z h
  have hl : lv_has ls 5 [(0, .ref r), (1, .int (nI r9)), (2, .int (nI d9))] := hl
  obtain ⟨f, hf, hc9, hft, hn70, ht128, hrc⟩ := id hR
  rw [show bP (saOK r9 n t d9) = bP (clOK r9 n t d9) from bP_congr (cl_sa hr9.2 hd9).symm]
  refine lv_aload_n hx hb dX0_isNumberOf_0 rfl (lv_at hl 0 rfl) ?_
  refine lv_bipush (v := nI 45) hx hb dX0_isNumberOf_1 (by decide) ?_
  refine cp_V (As := [.int (nI 45)]) (rest := []) C0 hl hK hS hA (c_stW l g s.heap r c7 n t hR 45 (by decide)) gX0_isNumberOf_X0_startsWith rfl ⟨rfl, rfl⟩ (hR.recv hK) ⟨rfl, (show hd_ok yX0_startsWith 1 from ⟨by decide, by decide, by decide +kernel⟩)⟩ ⟨Nat.le_of_ble_eq_true rfl, Nat.le_of_ble_eq_true rfl⟩ rfl (Nat.le_of_ble_eq_true rfl) ⟨Nat.zero_le _, Nat.zero_le _⟩ dX0_isNumberOf_3 (fun locs hS => ?_)
  refine lv_istore_n (lv' := [(3, .int (bI (decide (0 < n ∧ t 0 = 45)))), (0, .ref r), (1, .int (nI r9)), (2, .int (nI d9))]) hx hb dX0_isNumberOf_6 rfl hl (by decide) rfl (fun ls hl => ?_)
  refine lv_iload_n hx hb dX0_isNumberOf_7 rfl (lv_at hl 0 rfl) ?_
  refine lv_if_eq (tgt := 20) hx hb dX0_isNumberOf_8 (by decide) (fun h1 => ?_) (fun h1 => ?_)
  · skip
    refine lv_aload_n hx hb dX0_isNumberOf_20 rfl (lv_at hl 1 rfl) ?_
    refine cp_V (As := []) (rest := []) C0 hl hK hS hA (c_fDig l g s.heap r c7 n t hR) gX0_isNumberOf_X0_firstDigit rfl ⟨rfl, rfl⟩ (hR.recv hK) ⟨rfl, (show hd_ok yX0_firstDigit 0 from ⟨by decide, by decide, by decide +kernel⟩)⟩ ⟨Nat.le_of_ble_eq_true rfl, Nat.le_of_ble_eq_true rfl⟩ rfl (Nat.le_of_ble_eq_true rfl) ⟨Nat.zero_le _, Nat.zero_le _⟩ dX0_isNumberOf_21 (fun locs hS => ?_)
    have hfd : fdN n t ≤ 1 := by unfold fdN; split <;> omega
    refine lv_istore (lv' := [(4, .int (nI (fdN n t))), (3, .int (bI (decide (0 < n ∧ t 0 = 45)))), (0, .ref r), (1, .int (nI r9)), (2, .int (nI d9))]) hx hb dX0_isNumberOf_24 hl (by decide) rfl (fun ls hl => ?_)
    refine lv_iload hx hb dX0_isNumberOf_26 (lv_at hl 0 rfl) ?_
    refine lv_aload_n hx hb dX0_isNumberOf_28 rfl (lv_at hl 2 rfl) ?_
    refine va_get (ci := 2) (C := RX0) (T := TX0) (N := 2) (v := .int (nI n)) hx hb hts (by decide +kernel) hown hK.1 (p1 hf) 0 rfl rfl 1 (by decide) (hts (.fieldLink RX0 15 "Radixbench$Row" "size" "I") (by decide +kernel)) (fun _ h9 => h9) rfl dX0_isNumberOf_29 ?_
    refine lv_icmp_ge (tgt := 54) hx hb dX0_isNumberOf_32 (by decide) (fun h5 => ?_) (fun h5 => ?_)
    · skip
      have n5 := le_n (by omega) h5
      refine lv_iconst (v := nI 0) hx hb dX0_isNumberOf_54 (by decide) ?_
      exact rt_z C0 (by rw [bP_f (fun z => by have := z.2.1; omega)]; rfl) (by rfl) hS rfl dX0_isNumberOf_55
    · skip
      have n5 := nle_n (by omega) h5
      refine lv_aload_n hx hb dX0_isNumberOf_35 rfl (lv_at hl 2 rfl) ?_
      refine lv_iload hx hb dX0_isNumberOf_36 (lv_at hl 0 rfl) ?_
      refine lv_iload_n hx hb dX0_isNumberOf_38 rfl (lv_at hl 3 rfl) ?_
      refine lv_iload_n hx hb dX0_isNumberOf_39 rfl (lv_at hl 4 rfl) ?_
      refine lv_iload_n hx hb dX0_isNumberOf_40 rfl (lv_at hl 1 rfl) ?_
      refine cp_S (As := [.int (nI d9), .int (bI (decide (0 < n ∧ t 0 = 45)))]) (rest := [.int (nI r9), .int (nI (fdN n t)), .ref r]) C0 hl hK hS hA (c_gtN l g s.heap d9 (decide (0 < n ∧ t 0 = 45)) hd9) gX0_isNumberOf_X0_greatest rfl ⟨rfl, rfl⟩ (show hd_ok yX0_greatest 2 from ⟨by decide, by decide, by decide +kernel⟩) ⟨Nat.le_of_ble_eq_true rfl, Nat.le_of_ble_eq_true rfl⟩ rfl (Nat.le_of_ble_eq_true rfl) ⟨Nat.zero_le _, Nat.zero_le _⟩ dX0_isNumberOf_41 (fun locs hS => ?_)
      have hgt : gtN d9 (decide (0 < n ∧ t 0 = 45)) < 2 ^ 64 := by unfold gtN; (repeat' split) <;> decide
      refine cp_V (As := [.int (nI (fdN n t)), .int (nI r9), .long (lN (gtN d9 (decide (0 < n ∧ t 0 = 45))))]) (rest := []) C0 hl hK hS hA (c_within l g s.heap r c7 n t hR (fdN n t) r9 (gtN d9 (decide (0 < n ∧ t 0 = 45))) (by omega) hgt hr9) gX0_isNumberOf_X0_isWithin rfl ⟨rfl, rfl⟩ (hR.recv hK) ⟨rfl, (show hd_ok yX0_isWithin 3 from ⟨by decide, by decide, by decide +kernel⟩)⟩ ⟨Nat.le_of_ble_eq_true rfl, Nat.le_of_ble_eq_true rfl⟩ rfl (Nat.le_of_ble_eq_true rfl) ⟨Nat.zero_le _, Nat.zero_le _⟩ dX0_isNumberOf_44 (fun locs hS => ?_)
      refine lv_if_eq (tgt := 54) hx hb dX0_isNumberOf_47 (by decide) (fun h6 => ?_) (fun h6 => ?_)
      · skip
        have n6 := bP_0 h6
        refine lv_iconst (v := nI 0) hx hb dX0_isNumberOf_54 (by decide) ?_
        exact rt_z C0 (by rw [bP_f (fun z => n6 z.2.2)]; rfl) (by rfl) hS rfl dX0_isNumberOf_55
      · skip
        have n6 := bP_n0 h6
        refine lv_iconst (v := nI 1) hx hb dX0_isNumberOf_50 (by decide) ?_
        refine lv_goto (tgt := 55) hx hb dX0_isNumberOf_51 (by decide) ?_
        exact rt_z C0 (by rw [bP_t ⟨fun z => of_decide_eq_false (bI_0 h1) z.1, n5, n6⟩]; rfl) (by rfl) hS rfl dX0_isNumberOf_55
  · skip
    have nb := of_decide_eq_true (bI_n0 h1)
    refine lv_iload_n hx hb dX0_isNumberOf_11 rfl (lv_at hl 3 rfl) ?_
    refine jp_SN (As := [.int (nI d9)]) (rest := []) C0 hl hK hS hA hZ.2.2.2.2.2.1.2.2.1 (c_isSigned l g s.heap d9 hd9) gX0_isNumberOf_X2_isSigned_n38 rfl ⟨rfl, rfl⟩ ⟨by decide +kernel, by decide +kernel⟩ (show hd_ok yX2_isSigned 1 from ⟨by decide, by decide, by decide +kernel⟩) ⟨Nat.le_of_ble_eq_true rfl, Nat.le_of_ble_eq_true rfl⟩ rfl (Nat.le_of_ble_eq_true rfl) ⟨Nat.zero_le _, Nat.zero_le _⟩ dX0_isNumberOf_12 (fun locs hS => ?_)
    refine lv_if_ne (tgt := 20) hx hb dX0_isNumberOf_15 (by decide) (fun h2 => ?_) (fun h2 => ?_)
    · skip
      have n2 := of_decide_eq_true (bI_n0 h2)
      refine lv_aload_n hx hb dX0_isNumberOf_20 rfl (lv_at hl 1 rfl) ?_
      refine cp_V (As := []) (rest := []) C0 hl hK hS hA (c_fDig l g s.heap r c7 n t hR) gX0_isNumberOf_X0_firstDigit rfl ⟨rfl, rfl⟩ (hR.recv hK) ⟨rfl, (show hd_ok yX0_firstDigit 0 from ⟨by decide, by decide, by decide +kernel⟩)⟩ ⟨Nat.le_of_ble_eq_true rfl, Nat.le_of_ble_eq_true rfl⟩ rfl (Nat.le_of_ble_eq_true rfl) ⟨Nat.zero_le _, Nat.zero_le _⟩ dX0_isNumberOf_21 (fun locs hS => ?_)
      have hfd : fdN n t ≤ 1 := by unfold fdN; split <;> omega
      refine lv_istore (lv' := [(4, .int (nI (fdN n t))), (3, .int (bI (decide (0 < n ∧ t 0 = 45)))), (0, .ref r), (1, .int (nI r9)), (2, .int (nI d9))]) hx hb dX0_isNumberOf_24 hl (by decide) rfl (fun ls hl => ?_)
      refine lv_iload hx hb dX0_isNumberOf_26 (lv_at hl 0 rfl) ?_
      refine lv_aload_n hx hb dX0_isNumberOf_28 rfl (lv_at hl 2 rfl) ?_
      refine va_get (ci := 2) (C := RX0) (T := TX0) (N := 2) (v := .int (nI n)) hx hb hts (by decide +kernel) hown hK.1 (p1 hf) 0 rfl rfl 1 (by decide) (hts (.fieldLink RX0 15 "Radixbench$Row" "size" "I") (by decide +kernel)) (fun _ h9 => h9) rfl dX0_isNumberOf_29 ?_
      refine lv_icmp_ge (tgt := 54) hx hb dX0_isNumberOf_32 (by decide) (fun h5 => ?_) (fun h5 => ?_)
      · skip
        have n5 := le_n (by omega) h5
        refine lv_iconst (v := nI 0) hx hb dX0_isNumberOf_54 (by decide) ?_
        exact rt_z C0 (by rw [bP_f (fun z => by have := z.2.1; omega)]; rfl) (by rfl) hS rfl dX0_isNumberOf_55
      · skip
        have n5 := nle_n (by omega) h5
        refine lv_aload_n hx hb dX0_isNumberOf_35 rfl (lv_at hl 2 rfl) ?_
        refine lv_iload hx hb dX0_isNumberOf_36 (lv_at hl 0 rfl) ?_
        refine lv_iload_n hx hb dX0_isNumberOf_38 rfl (lv_at hl 3 rfl) ?_
        refine lv_iload_n hx hb dX0_isNumberOf_39 rfl (lv_at hl 4 rfl) ?_
        refine lv_iload_n hx hb dX0_isNumberOf_40 rfl (lv_at hl 1 rfl) ?_
        refine cp_S (As := [.int (nI d9), .int (bI (decide (0 < n ∧ t 0 = 45)))]) (rest := [.int (nI r9), .int (nI (fdN n t)), .ref r]) C0 hl hK hS hA (c_gtN l g s.heap d9 (decide (0 < n ∧ t 0 = 45)) hd9) gX0_isNumberOf_X0_greatest rfl ⟨rfl, rfl⟩ (show hd_ok yX0_greatest 2 from ⟨by decide, by decide, by decide +kernel⟩) ⟨Nat.le_of_ble_eq_true rfl, Nat.le_of_ble_eq_true rfl⟩ rfl (Nat.le_of_ble_eq_true rfl) ⟨Nat.zero_le _, Nat.zero_le _⟩ dX0_isNumberOf_41 (fun locs hS => ?_)
        have hgt : gtN d9 (decide (0 < n ∧ t 0 = 45)) < 2 ^ 64 := by unfold gtN; (repeat' split) <;> decide
        refine cp_V (As := [.int (nI (fdN n t)), .int (nI r9), .long (lN (gtN d9 (decide (0 < n ∧ t 0 = 45))))]) (rest := []) C0 hl hK hS hA (c_within l g s.heap r c7 n t hR (fdN n t) r9 (gtN d9 (decide (0 < n ∧ t 0 = 45))) (by omega) hgt hr9) gX0_isNumberOf_X0_isWithin rfl ⟨rfl, rfl⟩ (hR.recv hK) ⟨rfl, (show hd_ok yX0_isWithin 3 from ⟨by decide, by decide, by decide +kernel⟩)⟩ ⟨Nat.le_of_ble_eq_true rfl, Nat.le_of_ble_eq_true rfl⟩ rfl (Nat.le_of_ble_eq_true rfl) ⟨Nat.zero_le _, Nat.zero_le _⟩ dX0_isNumberOf_44 (fun locs hS => ?_)
        refine lv_if_eq (tgt := 54) hx hb dX0_isNumberOf_47 (by decide) (fun h6 => ?_) (fun h6 => ?_)
        · skip
          have n6 := bP_0 h6
          refine lv_iconst (v := nI 0) hx hb dX0_isNumberOf_54 (by decide) ?_
          exact rt_z C0 (by rw [bP_f (fun z => n6 z.2.2)]; rfl) (by rfl) hS rfl dX0_isNumberOf_55
        · skip
          have n6 := bP_n0 h6
          refine lv_iconst (v := nI 1) hx hb dX0_isNumberOf_50 (by decide) ?_
          refine lv_goto (tgt := 55) hx hb dX0_isNumberOf_51 (by decide) ?_
          exact rt_z C0 (by rw [bP_t ⟨fun z => by have := z.2; omega, n5, n6⟩]; rfl) (by rfl) hS rfl dX0_isNumberOf_55
    · skip
      have n2 := of_decide_eq_false (bI_0 h2)
      refine lv_iconst (v := nI 0) hx hb dX0_isNumberOf_18 (by decide) ?_
      exact rt_z C0 (by rw [bP_f (fun z => z.1 ⟨nb, by omega⟩)]; rfl) (by rfl) hS rfl dX0_isNumberOf_19
end M65B

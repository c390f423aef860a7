-- THE MODEL's TEXTS: what a sign is worth, the sign of a worth, a number's digits
theorem nlt_n {a b : Nat} (hb : b < 2 ^ 31) (h : ¬ nI a < nI b) : b ≤ a := Nat.le_of_not_lt (fun z => h (nI_lt z hb))
theorem le_n {a b : Nat} (ha : a < 2 ^ 31) (h : nI a ≤ nI b) : a ≤ b := Nat.le_of_not_lt (fun z => absurd h (nI_ge z ha))
theorem nle_n {a b : Nat} (hb : b < 2 ^ 31) (h : ¬ nI a ≤ nI b) : b < a := Nat.lt_of_not_le (fun z => h (nI_le z hb))
/-- what a sign is worth -/
def wor (c : Nat) : Nat := if 48 ≤ c ∧ c ≤ 57 then c - 48 else if 97 ≤ c ∧ c ≤ 122 then c - 97 + 10 else if 65 ≤ c ∧ c ≤ 90 then c - 65 + 10 else 99
/-- the sign of a worth -/
def sgn (w : Nat) : Nat := if w < 10 then 48 + w else 97 + w - 10
theorem sgn_lt {w : Nat} (h : w < 36) : sgn w < 128 := by unfold sgn; split <;> omega
/-- k is how many digits v has in the radix r -/
def isW (r v k : Nat) : Prop := 1 ≤ k ∧ k ≤ 64 ∧ v / r ^ k = 0 ∧ ∀ j, 1 ≤ j → j < k → v / r ^ j ≠ 0
theorem isW_uniq {r v k k2 : Nat} (h : isW r v k) (h2 : isW r v k2) : k = k2 := by
  obtain ⟨a1, -, a3, a4⟩ := h
  obtain ⟨b1, -, b3, b4⟩ := h2
  rcases Nat.lt_or_ge k k2 with e | e
  · exact absurd a3 (b4 k a1 e)
  · rcases Nat.lt_or_ge k2 k with e2 | e2
    · exact absurd b3 (a4 k2 b1 e2)
    · omega
def dgT (r v k : Nat) : Nat → Nat := fun j => sgn (v / r ^ (k - 1 - j) % r)
/-- how many places a builder of k signs has, what its growing has cost -/
def kc (k : Nat) : Nat := if k ≤ 16 then 16 else if k ≤ 34 then 34 else 70
def uc (k : Nat) : Nat := if k ≤ 16 then 0 else if k ≤ 34 then 1 else 2
def us (k : Nat) : Nat := if k ≤ 16 then 0 else if k ≤ 34 then 34 else 104
theorem uc_le (k : Nat) : uc k ≤ 2 ∧ us k ≤ 104 := by unfold uc us; (repeat' split) <;> omega
theorem kc_s {k : Nat} (h : k < 70) : capA k (kc k) = kc (k + 1) ∧ uc k + celA k (kc k) = uc (k + 1) ∧ us k + sloA k (kc k) = us (k + 1) := by
  obtain ⟨j, hj, rfl⟩ : ∃ j : Fin 70, True ∧ k = j.1 := ⟨⟨k, h⟩, trivial, rfl⟩
  clear h hj
  revert j
  decide +kernel
theorem kc_le (k : Nat) : kc k ≤ 70 := by unfold kc; (repeat' split) <;> omega
theorem SB.cong {g : Gx} {a b cap n : Nat} {t u : Nat → Nat} {H : Heap} (h : SB g a b cap n t H) (e : ∀ j, j < n → t j = u j) : SB g a b cap n u H := by
  obtain ⟨mb, f, h1, h2, h3, h4⟩ := h
  exact ⟨mb, f, h1, h2, fun j hj => by rw [h3 j hj, e j hj], h4⟩
theorem intName : "[" ++ FieldType.int.toString = "[I" := by decide +kernel
theorem clone_fiti {cA : ClassId} {n : Nat} {f : Nat → Int32} : ∀ (i : Nat) (v : Value), (vp_cell cA (n, .inl f)).slots[i]? = some v → fits .int v = true := fun i v hv => by
  have h1 : (arrV cA n (fun j => .int (f j))).slots[i]? = some v := hv
  have hi : i < n := by
    have := (Array.getElem?_eq_some_iff.mp h1).1
    rwa [arrV_size] at this
  rw [arrV_read _ _ hi] at h1
  rw [← Option.some.inj h1]
  rfl
section M49
variable {p : Program} {l : Launch} {e : Env} {s : State} {m : MethodId} {args : Array Value} {below : List Frame} {meth : Method} {c : Code} {H H0 : Heap} {locs : List Loc} {cells slots : Nat} {Q : State → Prop} {A : Nat → Prop} {g : Gx}
abbrev rmX4_worth : Room := { frames := 0, cells := 0, slots := 0, locals := 0 }
set_option maxHeartbeats 4000000 in
set_option maxRecDepth 100000 in
theorem c_worth (l : Launch) (g : Gx) (H0 : Heap) (c9 : Nat) (hc9 : c9 < 128) : Met l yX4_worth wsX4_worth rmX4_worth (va_Pc [.int (nI c9)] (hB g H0)) (pQ (some (.int (nI (wor c9)))) H0) 0 0 (fun q => H0.size ≤ q) := by
  refine cx_met (own := RX4) (cc := cX4_worth) (maxL := 1) (by decide) rfl rfl (Nat.le_of_ble_eq_true rfl) ?_
  intro p e s m below meth c ls C0 hB0 hnm hl
  obtain ⟨hH, hK⟩ := hB0
  obtain ⟨hx, hb, hr, hml, hown, hts, hlk⟩ := id C0
  subst hH
  have hS : va_S (fun q => s.heap.size ≤ q) s.heap s.heap [] := va_S.rf
  have hA : ∀ q : Nat, s.heap.size ≤ q → s.heap.size ≤ q := fun q h => h
  have hl : lv_has ls 1 [(0, .int (nI c9))] := hl
  refine lv_iload_n hx hb dX4_worth_0 rfl (lv_at hl 0 rfl) ?_
  refine lv_bipush (v := nI 48) hx hb dX4_worth_1 (by decide) ?_
  refine lv_icmp_lt (tgt := 17) hx hb dX4_worth_3 (by decide) (fun h1 => ?_) (fun h1 => ?_)
  · skip
    have n1 := nI_ltn (by omega) (by omega) h1
    refine lv_iload_n hx hb dX4_worth_17 rfl (lv_at hl 0 rfl) ?_
    refine lv_bipush (v := nI 97) hx hb dX4_worth_18 (by decide) ?_
    refine lv_icmp_lt (tgt := 37) hx hb dX4_worth_20 (by decide) (fun h1 => ?_) (fun h1 => ?_)
    · skip
      have n1 := nI_ltn (by omega) (by omega) h1
      refine lv_iload_n hx hb dX4_worth_37 rfl (lv_at hl 0 rfl) ?_
      refine lv_bipush (v := nI 65) hx hb dX4_worth_38 (by decide) ?_
      refine lv_icmp_lt (tgt := 59) hx hb dX4_worth_40 (by decide) (fun h1 => ?_) (fun h1 => ?_)
      · skip
        have n1 := nI_ltn (by omega) (by omega) h1
        refine lv_bipush (v := nI 99) hx hb dX4_worth_59 (by decide) ?_
        exact rt_i C0 (congrArg nI (by unfold wor; (repeat' split) <;> omega)) hS rfl dX4_worth_61
      · skip
        have n1 := nlt_n (by omega) h1
        refine lv_iload_n hx hb dX4_worth_43 rfl (lv_at hl 0 rfl) ?_
        refine lv_bipush (v := nI 90) hx hb dX4_worth_44 (by decide) ?_
        refine lv_icmp_gt (tgt := 59) hx hb dX4_worth_46 (by decide) (fun h2 => ?_) (fun h2 => ?_)
        · skip
          have n2 := nI_ltn (by omega) (by omega) h2
          refine lv_bipush (v := nI 99) hx hb dX4_worth_59 (by decide) ?_
          exact rt_i C0 (congrArg nI (by unfold wor; (repeat' split) <;> omega)) hS rfl dX4_worth_61
        · skip
          have n2 := nlt_n (by omega) h2
          refine lv_iload_n hx hb dX4_worth_49 rfl (lv_at hl 0 rfl) ?_
          refine lv_bipush (v := nI 65) hx hb dX4_worth_50 (by decide) ?_
          refine lv_isub hx hb dX4_worth_52 ?_
          refine tp_i (y := nI (c9 - 65)) (pk_sub (by omega)) ?_
          refine lv_bipush (v := nI 10) hx hb dX4_worth_53 (by decide) ?_
          refine lv_iadd hx hb dX4_worth_55 ?_
          refine tp_i (y := nI ((c9 - 65) + 10)) (nI_add _ _) ?_
          refine lv_goto (tgt := 61) hx hb dX4_worth_56 (by decide) ?_
          exact rt_i C0 (congrArg nI (by unfold wor; (repeat' split) <;> omega)) hS rfl dX4_worth_61
    · skip
      have n1 := nlt_n (by omega) h1
      refine lv_iload_n hx hb dX4_worth_23 rfl (lv_at hl 0 rfl) ?_
      refine lv_bipush (v := nI 122) hx hb dX4_worth_24 (by decide) ?_
      refine lv_icmp_gt (tgt := 37) hx hb dX4_worth_26 (by decide) (fun h2 => ?_) (fun h2 => ?_)
      · skip
        have n2 := nI_ltn (by omega) (by omega) h2
        refine lv_iload_n hx hb dX4_worth_37 rfl (lv_at hl 0 rfl) ?_
        refine lv_bipush (v := nI 65) hx hb dX4_worth_38 (by decide) ?_
        refine lv_icmp_lt (tgt := 59) hx hb dX4_worth_40 (by decide) (fun h1 => ?_) (fun h1 => ?_)
        · skip
          have n1 := nI_ltn (by omega) (by omega) h1
          refine lv_bipush (v := nI 99) hx hb dX4_worth_59 (by decide) ?_
          exact rt_i C0 (congrArg nI (by unfold wor; (repeat' split) <;> omega)) hS rfl dX4_worth_61
        · skip
          have n1 := nlt_n (by omega) h1
          refine lv_iload_n hx hb dX4_worth_43 rfl (lv_at hl 0 rfl) ?_
          refine lv_bipush (v := nI 90) hx hb dX4_worth_44 (by decide) ?_
          refine lv_icmp_gt (tgt := 59) hx hb dX4_worth_46 (by decide) (fun h2 => ?_) (fun h2 => ?_)
          · skip
            have n2 := nI_ltn (by omega) (by omega) h2
            refine lv_bipush (v := nI 99) hx hb dX4_worth_59 (by decide) ?_
            exact rt_i C0 (congrArg nI (by unfold wor; (repeat' split) <;> omega)) hS rfl dX4_worth_61
          · skip
            have n2 := nlt_n (by omega) h2
            refine lv_iload_n hx hb dX4_worth_49 rfl (lv_at hl 0 rfl) ?_
            refine lv_bipush (v := nI 65) hx hb dX4_worth_50 (by decide) ?_
            refine lv_isub hx hb dX4_worth_52 ?_
            refine tp_i (y := nI (c9 - 65)) (pk_sub (by omega)) ?_
            refine lv_bipush (v := nI 10) hx hb dX4_worth_53 (by decide) ?_
            refine lv_iadd hx hb dX4_worth_55 ?_
            refine tp_i (y := nI ((c9 - 65) + 10)) (nI_add _ _) ?_
            refine lv_goto (tgt := 61) hx hb dX4_worth_56 (by decide) ?_
            exact rt_i C0 (congrArg nI (by unfold wor; (repeat' split) <;> omega)) hS rfl dX4_worth_61
      · skip
        have n2 := nlt_n (by omega) h2
        refine lv_iload_n hx hb dX4_worth_29 rfl (lv_at hl 0 rfl) ?_
        refine lv_bipush (v := nI 97) hx hb dX4_worth_30 (by decide) ?_
        refine lv_isub hx hb dX4_worth_32 ?_
        refine tp_i (y := nI (c9 - 97)) (pk_sub (by omega)) ?_
        refine lv_bipush (v := nI 10) hx hb dX4_worth_33 (by decide) ?_
        refine lv_iadd hx hb dX4_worth_35 ?_
        refine tp_i (y := nI ((c9 - 97) + 10)) (nI_add _ _) ?_
        exact rt_i C0 (congrArg nI (by unfold wor; (repeat' split) <;> omega)) hS rfl dX4_worth_36
  · skip
    have n1 := nlt_n (by omega) h1
    refine lv_iload_n hx hb dX4_worth_6 rfl (lv_at hl 0 rfl) ?_
    refine lv_bipush (v := nI 57) hx hb dX4_worth_7 (by decide) ?_
    refine lv_icmp_gt (tgt := 17) hx hb dX4_worth_9 (by decide) (fun h2 => ?_) (fun h2 => ?_)
    · skip
      have n2 := nI_ltn (by omega) (by omega) h2
      refine lv_iload_n hx hb dX4_worth_17 rfl (lv_at hl 0 rfl) ?_
      refine lv_bipush (v := nI 97) hx hb dX4_worth_18 (by decide) ?_
      refine lv_icmp_lt (tgt := 37) hx hb dX4_worth_20 (by decide) (fun h1 => ?_) (fun h1 => ?_)
      · skip
        have n1 := nI_ltn (by omega) (by omega) h1
        refine lv_iload_n hx hb dX4_worth_37 rfl (lv_at hl 0 rfl) ?_
        refine lv_bipush (v := nI 65) hx hb dX4_worth_38 (by decide) ?_
        refine lv_icmp_lt (tgt := 59) hx hb dX4_worth_40 (by decide) (fun h1 => ?_) (fun h1 => ?_)
        · skip
          have n1 := nI_ltn (by omega) (by omega) h1
          refine lv_bipush (v := nI 99) hx hb dX4_worth_59 (by decide) ?_
          exact rt_i C0 (congrArg nI (by unfold wor; (repeat' split) <;> omega)) hS rfl dX4_worth_61
        · skip
          have n1 := nlt_n (by omega) h1
          refine lv_iload_n hx hb dX4_worth_43 rfl (lv_at hl 0 rfl) ?_
          refine lv_bipush (v := nI 90) hx hb dX4_worth_44 (by decide) ?_
          refine lv_icmp_gt (tgt := 59) hx hb dX4_worth_46 (by decide) (fun h2 => ?_) (fun h2 => ?_)
          · skip
            have n2 := nI_ltn (by omega) (by omega) h2
            refine lv_bipush (v := nI 99) hx hb dX4_worth_59 (by decide) ?_
            exact rt_i C0 (congrArg nI (by unfold wor; (repeat' split) <;> omega)) hS rfl dX4_worth_61
          · skip
            have n2 := nlt_n (by omega) h2
            refine lv_iload_n hx hb dX4_worth_49 rfl (lv_at hl 0 rfl) ?_
            refine lv_bipush (v := nI 65) hx hb dX4_worth_50 (by decide) ?_
            refine lv_isub hx hb dX4_worth_52 ?_
            refine tp_i (y := nI (c9 - 65)) (pk_sub (by omega)) ?_
            refine lv_bipush (v := nI 10) hx hb dX4_worth_53 (by decide) ?_
            refine lv_iadd hx hb dX4_worth_55 ?_
            refine tp_i (y := nI ((c9 - 65) + 10)) (nI_add _ _) ?_
            refine lv_goto (tgt := 61) hx hb dX4_worth_56 (by decide) ?_
            exact rt_i C0 (congrArg nI (by unfold wor; (repeat' split) <;> omega)) hS rfl dX4_worth_61
      · skip
        have n1 := nlt_n (by omega) h1
        refine lv_iload_n hx hb dX4_worth_23 rfl (lv_at hl 0 rfl) ?_
        refine lv_bipush (v := nI 122) hx hb dX4_worth_24 (by decide) ?_
        refine lv_icmp_gt (tgt := 37) hx hb dX4_worth_26 (by decide) (fun h2 => ?_) (fun h2 => ?_)
        · skip
          have n2 := nI_ltn (by omega) (by omega) h2
          refine lv_iload_n hx hb dX4_worth_37 rfl (lv_at hl 0 rfl) ?_
          refine lv_bipush (v := nI 65) hx hb dX4_worth_38 (by decide) ?_
          refine lv_icmp_lt (tgt := 59) hx hb dX4_worth_40 (by decide) (fun h1 => ?_) (fun h1 => ?_)
          · skip
            have n1 := nI_ltn (by omega) (by omega) h1
            refine lv_bipush (v := nI 99) hx hb dX4_worth_59 (by decide) ?_
            exact rt_i C0 (congrArg nI (by unfold wor; (repeat' split) <;> omega)) hS rfl dX4_worth_61
          · skip
            have n1 := nlt_n (by omega) h1
            refine lv_iload_n hx hb dX4_worth_43 rfl (lv_at hl 0 rfl) ?_
            refine lv_bipush (v := nI 90) hx hb dX4_worth_44 (by decide) ?_
            refine lv_icmp_gt (tgt := 59) hx hb dX4_worth_46 (by decide) (fun h2 => ?_) (fun h2 => ?_)
            · skip
              have n2 := nI_ltn (by omega) (by omega) h2
              refine lv_bipush (v := nI 99) hx hb dX4_worth_59 (by decide) ?_
              exact rt_i C0 (congrArg nI (by unfold wor; (repeat' split) <;> omega)) hS rfl dX4_worth_61
            · skip
              have n2 := nlt_n (by omega) h2
              refine lv_iload_n hx hb dX4_worth_49 rfl (lv_at hl 0 rfl) ?_
              refine lv_bipush (v := nI 65) hx hb dX4_worth_50 (by decide) ?_
              refine lv_isub hx hb dX4_worth_52 ?_
              refine tp_i (y := nI (c9 - 65)) (pk_sub (by omega)) ?_
              refine lv_bipush (v := nI 10) hx hb dX4_worth_53 (by decide) ?_
              refine lv_iadd hx hb dX4_worth_55 ?_
              refine tp_i (y := nI ((c9 - 65) + 10)) (nI_add _ _) ?_
              refine lv_goto (tgt := 61) hx hb dX4_worth_56 (by decide) ?_
              exact rt_i C0 (congrArg nI (by unfold wor; (repeat' split) <;> omega)) hS rfl dX4_worth_61
        · skip
          have n2 := nlt_n (by omega) h2
          refine lv_iload_n hx hb dX4_worth_29 rfl (lv_at hl 0 rfl) ?_
          refine lv_bipush (v := nI 97) hx hb dX4_worth_30 (by decide) ?_
          refine lv_isub hx hb dX4_worth_32 ?_
          refine tp_i (y := nI (c9 - 97)) (pk_sub (by omega)) ?_
          refine lv_bipush (v := nI 10) hx hb dX4_worth_33 (by decide) ?_
          refine lv_iadd hx hb dX4_worth_35 ?_
          refine tp_i (y := nI ((c9 - 97) + 10)) (nI_add _ _) ?_
          exact rt_i C0 (congrArg nI (by unfold wor; (repeat' split) <;> omega)) hS rfl dX4_worth_36
    · skip
      have n2 := nlt_n (by omega) h2
      refine lv_iload_n hx hb dX4_worth_12 rfl (lv_at hl 0 rfl) ?_
      refine lv_bipush (v := nI 48) hx hb dX4_worth_13 (by decide) ?_
      refine lv_isub hx hb dX4_worth_15 ?_
      refine tp_i (y := nI (c9 - 48)) (pk_sub (by omega)) ?_
      exact rt_i C0 (congrArg nI (by unfold wor; (repeat' split) <;> omega)) hS rfl dX4_worth_16
abbrev rmX4_sign : Room := { frames := 0, cells := 0, slots := 0, locals := 0 }
set_option maxHeartbeats 4000000 in
set_option maxRecDepth 100000 in
theorem c_sign (l : Launch) (g : Gx) (H0 : Heap) (w9 : Nat) (hw9 : w9 < 36) : Met l yX4_sign wsX4_sign rmX4_sign (va_Pc [.int (nI w9)] (hB g H0)) (pQ (some (.int (nI (sgn w9)))) H0) 0 0 (fun q => H0.size ≤ q) := by
  refine cx_met (own := RX4) (cc := cX4_sign) (maxL := 1) (by decide) rfl rfl (Nat.le_of_ble_eq_true rfl) ?_
  intro p e s m below meth c ls C0 hB0 hnm hl
  obtain ⟨hH, hK⟩ := hB0
  obtain ⟨hx, hb, hr, hml, hown, hts, hlk⟩ := id C0
  subst hH
  have hS : va_S (fun q => s.heap.size ≤ q) s.heap s.heap [] := va_S.rf
  have hA : ∀ q : Nat, s.heap.size ≤ q → s.heap.size ≤ q := fun q h => h
  have hl : lv_has ls 1 [(0, .int (nI w9))] := hl
  refine lv_iload_n hx hb dX4_sign_0 rfl (lv_at hl 0 rfl) ?_
  refine lv_bipush (v := nI 10) hx hb dX4_sign_1 (by decide) ?_
  refine lv_icmp_ge (tgt := 13) hx hb dX4_sign_3 (by decide) (fun h1 => ?_) (fun h1 => ?_)
  · skip
    have n1 := le_n (by omega) h1
    refine lv_bipush (v := nI 97) hx hb dX4_sign_13 (by decide) ?_
    refine lv_iload_n hx hb dX4_sign_15 rfl (lv_at hl 0 rfl) ?_
    refine lv_iadd hx hb dX4_sign_16 ?_
    refine tp_i (y := nI (97 + w9)) (nI_add _ _) ?_
    refine lv_bipush (v := nI 10) hx hb dX4_sign_17 (by decide) ?_
    refine lv_isub hx hb dX4_sign_19 ?_
    refine tp_i (y := nI ((97 + w9) - 10)) (pk_sub (by omega)) ?_
    refine lv_i2c (v := nI (97 + w9 - 10)) hx hb dX4_sign_20 (i2c_n (k := 97 + w9 - 10) (by omega)) ?_
    exact rt_p C0 (congrArg nI (by unfold sgn; rw [if_neg (by omega)])) (nar_char (by omega)) hS rfl dX4_sign_21
  · skip
    have n1 := nle_n (by omega) h1
    refine lv_bipush (v := nI 48) hx hb dX4_sign_6 (by decide) ?_
    refine lv_iload_n hx hb dX4_sign_8 rfl (lv_at hl 0 rfl) ?_
    refine lv_iadd hx hb dX4_sign_9 ?_
    refine tp_i (y := nI (48 + w9)) (nI_add _ _) ?_
    refine lv_goto (tgt := 20) hx hb dX4_sign_10 (by decide) ?_
    refine lv_i2c (v := nI (48 + w9)) hx hb dX4_sign_20 (i2c_n (k := 48 + w9) (by omega)) ?_
    exact rt_p C0 (congrArg nI (by unfold sgn; rw [if_pos n1])) (nar_char (by omega)) hS rfl dX4_sign_21
abbrev rmX4_digitOf : Room := { frames := 1, cells := 0, slots := 0, locals := 20 }
/-- a sign as a digit, or none -/
def dgO (c : Nat) (r : Int32) : Int32 := if r ≤ nI (wor c) then -1 else nI (wor c)
set_option maxHeartbeats 4000000 in
set_option maxRecDepth 100000 in
theorem c_digitOf (l : Launch) (g : Gx) (H0 : Heap) (c9 : Nat) (hc9 : c9 < 128) (r : Int32) : Met l yX4_digitOf wsX4_digitOf rmX4_digitOf (va_Pc [.int (nI c9), .int r] (hB g H0)) (pQ (some (.int (dgO c9 r))) H0) 0 0 (fun q => H0.size ≤ q) := by
  refine cx_met (own := RX4) (cc := cX4_digitOf) (maxL := 2) (by decide) rfl rfl (Nat.le_of_ble_eq_true rfl) ?_
  intro p e s m below meth c ls C0 hB0 hnm hl
  obtain ⟨hH, hK⟩ := hB0
  obtain ⟨hx, hb, hr, hml, hown, hts, hlk⟩ := id C0
  subst hH
  have hS : va_S (fun q => s.heap.size ≤ q) s.heap s.heap [] := va_S.rf
  have hA : ∀ q : Nat, s.heap.size ≤ q → s.heap.size ≤ q := fun q h => h
  have hl : lv_has ls 2 [(0, .int (nI c9)), (1, .int r)] := hl
  refine lv_iload_n hx hb dX4_digitOf_0 rfl (lv_at hl 0 rfl) ?_
  refine cp_S (As := [.int (nI c9)]) (rest := []) C0 hl hK hS hA (c_worth l g s.heap c9 hc9) gX4_digitOf_X4_worth rfl ⟨rfl, rfl⟩ (show hd_ok yX4_worth 1 from ⟨by decide, by decide, by decide +kernel⟩) ⟨Nat.le_of_ble_eq_true rfl, Nat.le_of_ble_eq_true rfl⟩ rfl (Nat.le_of_ble_eq_true rfl) ⟨Nat.zero_le _, Nat.zero_le _⟩ dX4_digitOf_1 (fun locs hS => ?_)
  refine lv_iload_n hx hb dX4_digitOf_4 rfl (lv_at hl 1 rfl) ?_
  refine lv_icmp_ge (tgt := 15) hx hb dX4_digitOf_5 (by decide) (fun h1 => ?_) (fun h1 => ?_)
  · skip
    refine lv_iconst (v := (-1)) hx hb dX4_digitOf_15 (by decide) ?_
    exact rt_i C0 (by unfold dgO; rw [if_pos h1]) hS rfl dX4_digitOf_16
  · skip
    refine lv_iload_n hx hb dX4_digitOf_8 rfl (lv_at hl 0 rfl) ?_
    refine cp_S (As := [.int (nI c9)]) (rest := []) C0 hl hK hS hA (c_worth l g s.heap c9 hc9) gX4_digitOf_X4_worth rfl ⟨rfl, rfl⟩ (show hd_ok yX4_worth 1 from ⟨by decide, by decide, by decide +kernel⟩) ⟨Nat.le_of_ble_eq_true rfl, Nat.le_of_ble_eq_true rfl⟩ rfl (Nat.le_of_ble_eq_true rfl) ⟨Nat.zero_le _, Nat.zero_le _⟩ dX4_digitOf_9 (fun locs hS => ?_)
    refine lv_goto (tgt := 16) hx hb dX4_digitOf_12 (by decide) ?_
    exact rt_i C0 (by unfold dgO; rw [if_neg h1]) hS rfl dX4_digitOf_16
end M49
section M49B
variable {p : Program} {l : Launch} {e : Env} {s : State} {m : MethodId} {args : Array Value} {below : List Frame} {meth : Method} {c : Code} {H H0 : Heap} {locs : List Loc} {cells slots : Nat} {Q : State → Prop} {A : Nat → Prop} {g : Gx} {b0 : Nat}
abbrev rmX4_unsigned : Room := { frames := 6, cells := 11, slots := 320, locals := 171 }
set_option maxHeartbeats 4000000 in
set_option maxRecDepth 100000 in
/-- the row left, divided by the radix -/
theorem L_udiv (C0 : Cx p s m args meth c RX4 cX4_unsigned 7 (some (.object "java/lang/String")) wsX4_unsigned) (hK : KK g s) {a q c3 k9 r9 y : Nat} {HB : Heap} (hAq : A q) (hk9 : k9 ≤ 4) (hr9 : 2 ≤ r9 ∧ r9 ≤ 36)
    (K : ∀ (x : Int32) (f : Nat → Int32) (hf : ∀ k, k < k9 → f k = rw16 (y / r9) k) (ls : Array Slot) (H : Heap) (locs : List Loc), va_at g.1 vwCl (q, .inl (g.2 0, k9, .inl f)) H → H.size = HB.size → (∀ z, z ≠ q → H[z]? = HB[z]?) → va_S A H0 H locs → lv_has ls 7 [(4, .int (nI (y % r9))), (0, .ref a), (1, .int (nI r9)), (2, .ref q), (3, .ref c3)] → W p l e rmX4_unsigned s m args below meth c H locs cells slots Q (F0 m 76 ls [])) :
    ∀ (n : Nat) (p9 : Nat) (x : Int32) (f : Nat → Int32), x = nI p9 - nI 1 → p9 ≤ k9 → (∀ k, k < p9 → f k = rw16 y k) → (∀ k, p9 ≤ k → k < k9 → f k = rw16 (y / r9) k) → p9 < n → ∀ (ls : Array Slot) (H : Heap) (locs : List Loc), va_at g.1 vwCl (q, .inl (g.2 0, k9, .inl f)) H → H.size = HB.size → (∀ z, z ≠ q → H[z]? = HB[z]?) → va_S A H0 H locs → lv_has ls 7 [(5, .int x), (4, .int (nI (y / 65536 ^ p9 % r9))), (0, .ref a), (1, .int (nI r9)), (2, .ref q), (3, .ref c3)] → W p l e rmX4_unsigned s m args below meth c H locs cells slots Q (F0 m 39 ls []) := by
  obtain ⟨hx, hb, hr, hml, hown, hts, hlk⟩ := id C0
  intro n
  induction n with
  | zero => intro p9 x f _ _ _ _ h; exact absurd h (Nat.not_lt_zero _)
  | succ n ih =>
    intro p9 x f ex hp9 hlow hup hn ls H locs hf hsz hkk hS hl
    refine lv_iload hx hb dX4_unsigned_39 (lv_at hl 0 rfl) ?_
    refine lv_if_lt (tgt := 76) hx hb dX4_unsigned_41 (by decide) (fun h1 => ?_) (fun h1 => ?_)
    · skip
      cases p9 with
      | zero =>
        rw [Nat.pow_zero, Nat.div_one] at hl
        exact K x f (fun k hk => hup k (Nat.zero_le k) hk) ls H locs hf hsz hkk hS (lv_sub hl [1, 2, 3, 4, 5] rfl)
      | succ j =>
        rw [ex, pk_sub (Nat.le_add_left 1 j), Nat.add_sub_cancel] at h1
        exact absurd h1 (nI_pos (by omega))
    · skip
      cases p9 with
      | zero => exact absurd (by rw [ex]; decide) h1
      | succ j =>
        obtain rfl : x = nI j := by rw [ex, pk_sub (Nat.le_add_left 1 j), Nat.add_sub_cancel]
        have hdd := div_dig (x := y) (j := j) (show 0 < r9 by omega)
        have hl9 := rw16_lt y j
        have hm9 : y / 65536 ^ (j + 1) % r9 < r9 := Nat.mod_lt _ (by omega)
        have hq9 : y / r9 / 65536 ^ j % 65536 < 65536 := Nat.mod_lt _ (by decide)
        refine lv_iload hx hb dX4_unsigned_44 (lv_at hl 1 rfl) ?_
        refine lv_ldc (v := nI 65536) hx hb hown (hts (.constant RX4 52 (65536)) (by decide +kernel)) dX4_unsigned_46 ?_
        refine lv_imul hx hb dX4_unsigned_48 ?_
        refine tp_i (y := nI ((y / 65536 ^ (j + 1) % r9) * 65536)) (pk_mul _ _) ?_
        refine lv_aload_n hx hb dX4_unsigned_49 rfl (lv_at hl 4 rfl) ?_
        refine lv_iload hx hb dX4_unsigned_50 (lv_at hl 0 rfl) ?_
        refine f_iald (j := j) hx hb hK hf (by omega) (by omega) dX4_unsigned_52 ?_
        refine tp_i (y := nI (y / 65536 ^ j % 65536)) (hlow j (Nat.lt_succ_self j)) ?_
        refine lv_iadd hx hb dX4_unsigned_53 ?_
        refine tp_i (y := nI (((y / 65536 ^ (j + 1) % r9) * 65536) + (y / 65536 ^ j % 65536))) (nI_add _ _) ?_
        refine lv_istore (lv' := [(6, .int (nI (((y / 65536 ^ (j + 1) % r9) * 65536) + (y / 65536 ^ j % 65536)))), (5, .int (nI j)), (4, .int (nI (y / 65536 ^ (j + 1) % r9))), (0, .ref a), (1, .int (nI r9)), (2, .ref q), (3, .ref c3)]) hx hb dX4_unsigned_54 hl (by decide) rfl (fun ls hl => ?_)
        refine lv_aload_n hx hb dX4_unsigned_56 rfl (lv_at hl 5 rfl) ?_
        refine lv_iload hx hb dX4_unsigned_57 (lv_at hl 1 rfl) ?_
        refine lv_iload hx hb dX4_unsigned_59 (lv_at hl 0 rfl) ?_
        refine lv_iload_n hx hb dX4_unsigned_61 rfl (lv_at hl 4 rfl) ?_
        refine lv_idiv hx hb dX4_unsigned_62 (nI_ne0 (by omega) (by omega)) ?_
        refine tp_i (y := nI (y / r9 / 65536 ^ j % 65536)) ((pk_div (by omega) (by omega) (by omega)).trans (congrArg nI hdd.1)) ?_
        refine f_iast (j := j) hx hb hK hS hf hAq (by omega) (by omega) dX4_unsigned_63 (fun H1 locs hf1 hz1 ho1 hS => ?_)
        refine lv_iload hx hb dX4_unsigned_64 (lv_at hl 0 rfl) ?_
        refine lv_iload_n hx hb dX4_unsigned_66 rfl (lv_at hl 4 rfl) ?_
        refine lv_irem hx hb dX4_unsigned_67 (nI_ne0 (by omega) (by omega)) ?_
        refine tp_i (y := nI (y / 65536 ^ j % r9)) ((pk_rem (by omega) (by omega) (by omega)).trans (congrArg nI hdd.2)) ?_
        refine lv_istore (lv' := [(4, .int (nI (y / 65536 ^ j % r9))), (6, .int (nI (((y / 65536 ^ (j + 1) % r9) * 65536) + (y / 65536 ^ j % 65536)))), (5, .int (nI j)), (0, .ref a), (1, .int (nI r9)), (2, .ref q), (3, .ref c3)]) hx hb dX4_unsigned_68 hl (by decide) rfl (fun ls hl => ?_)
        refine lv_iinc (v := nI j - nI 1) (lv' := [(5, .int (nI j - nI 1)), (4, .int (nI (y / 65536 ^ j % r9))), (6, .int (nI (((y / 65536 ^ (j + 1) % r9) * 65536) + (y / 65536 ^ j % 65536)))), (0, .ref a), (1, .int (nI r9)), (2, .ref q), (3, .ref c3)]) hx hb dX4_unsigned_70 hl (k := 2) rfl ((by rw [show nI j - nI 1 = nI j + -nI 1 from Int32.sub_eq_add_neg _ _]; rfl)) (by decide) rfl (fun ls hl => ?_)
        refine lv_goto (tgt := 39) hx hb dX4_unsigned_73 (by decide) ?_
        refine ih j _ _ rfl (by omega) (fun k hk => (pk_un (by omega)).trans (hlow k (by omega))) (fun k h9 hk => ?_) (by omega) ls H1 locs hf1 (hz1.trans hsz) (fun z hz => (ho1 z hz).trans (hkk z hz)) hS (lv_sub hl [0, 1, 3, 4, 5, 6] rfl)
        by_cases ek : k = j
        · subst ek
          exact pk_us
        · exact (pk_un ek).trans (hup k (by omega) hk)
set_option maxHeartbeats 4000000 in
set_option maxRecDepth 100000 in
/-- the digits, the lowest one first -/
theorem L_uns (C0 : Cx p s m args meth c RX4 cX4_unsigned 7 (some (.object "java/lang/String")) wsX4_unsigned) (hK : KK g s) (hZ : ZW g b0 s s.heap) (hA : ∀ q, s.heap.size ≤ q → A q) (hAb : ∀ q, A q → b0 ≤ q) {a q c3 k9 r9 v c9 s9 : Nat} (hq9 : s.heap.size ≤ q) (hc3 : s.heap.size ≤ c3) (hqc : q ≠ c3) (hk9 : k9 ≤ 4) (hr9 : 2 ≤ r9 ∧ r9 ≤ 36) (hv9 : v < 65536 ^ k9) (hcc : c9 + 2 ≤ 11) (hss : s9 + 104 ≤ 320)
    (K : ∀ (k b3 : Nat) (hW : isW r9 v k) (ls : Array Slot) (H : Heap) (locs : List Loc), s.heap.size ≤ b3 → SB g c3 b3 (kc k) k (fun j => sgn (v / r9 ^ j % r9)) H → va_S A s.heap H locs → lv_has ls 7 [(0, .ref a), (1, .int (nI r9)), (2, .ref q), (3, .ref c3)] → W p l e rmX4_unsigned s m args below meth c H locs (c9 + uc k) (s9 + us k) Q (F0 m 89 ls [])) :
    ∀ (n k b3 : Nat) (f : Nat → Int32), k ≤ 64 → (∀ j, 1 ≤ j → j < k → v / r9 ^ j ≠ 0) → (∀ j, j < k9 → f j = rw16 (v / r9 ^ k) j) → 65 - k < n → ∀ (ls : Array Slot) (H : Heap) (locs : List Loc), va_at g.1 vwCl (q, .inl (g.2 0, k9, .inl f)) H → s.heap.size ≤ b3 → q ≠ b3 → SB g c3 b3 (kc k) k (fun j => sgn (v / r9 ^ j % r9)) H → va_S A s.heap H locs → lv_has ls 7 [(0, .ref a), (1, .int (nI r9)), (2, .ref q), (3, .ref c3)] → W p l e rmX4_unsigned s m args below meth c H locs (c9 + uc k) (s9 + us k) Q (F0 m 16 ls []) := by
  obtain ⟨hx, hb, hr, hml, hown, hts, hlk⟩ := id C0
  intro n
  induction n with
  | zero => intro k b3 f _ _ _ h; exact absurd h (Nat.not_lt_zero _)
  | succ n ih =>
    intro k b3 f hk hnz hf9 hn ls H locs hf hb3 hqb hSB hS hl
    have hu := uc_le k
    have hy : v / r9 ^ k < 65536 ^ k9 := Nat.lt_of_le_of_lt (Nat.div_le_self _ _) hv9
    have h64 : v / r9 ^ 64 = 0 := Nat.div_eq_of_lt (Nat.lt_of_lt_of_le hv9 (Nat.le_trans (show 65536 ^ k9 ≤ 2 ^ 64 from Nat.le_trans (Nat.pow_le_pow_right (by decide) hk9) (by decide)) (Nat.pow_le_pow_left hr9.1 64)))
    have hgo : k < 64 → (k = 0 ∨ v / r9 ^ k ≠ 0) → ∀ (locs : List Loc), va_S A s.heap H locs → W p l e rmX4_unsigned s m args below meth c H locs (c9 + uc k) (s9 + us k) Q (F0 m 30 ls []) := by
      intro hk64 hk0 locs hS
      refine lv_iconst (v := nI 0) hx hb dX4_unsigned_30 (by decide) ?_
      refine lv_istore (lv' := [(4, .int (nI 0)), (0, .ref a), (1, .int (nI r9)), (2, .ref q), (3, .ref c3)]) hx hb dX4_unsigned_31 hl (by decide) rfl (fun ls hl => ?_)
      refine lv_aload_n hx hb dX4_unsigned_33 rfl (lv_at hl 3 rfl) ?_
      refine f_alen (x := (k9, _)) hx hb hK 0 rfl hf dX4_unsigned_34 ?_
      refine lv_iconst (v := nI 1) hx hb dX4_unsigned_35 (by decide) ?_
      refine lv_isub hx hb dX4_unsigned_36 ?_
      refine tp_i (y := nI k9 - nI 1) (rfl) ?_
      refine lv_istore (lv' := [(5, .int (nI k9 - nI 1)), (4, .int (nI 0)), (0, .ref a), (1, .int (nI r9)), (2, .ref q), (3, .ref c3)]) hx hb dX4_unsigned_37 hl (by decide) rfl (fun ls hl => ?_)
      have hrest : nI 0 = nI (v / r9 ^ k / 65536 ^ k9 % r9) := by rw [Nat.div_eq_of_lt hy, Nat.zero_mod]
      rw [hrest] at hl
      refine L_udiv C0 hK (HB := H) (hA q hq9) hk9 hr9 (fun x f2 hf2 ls H1 locs hq1 hz1 ho1 hS hl => ?_) (k9 + 1) k9 _ f rfl (Nat.le_refl _) hf9 (fun j h1 h2 => absurd h2 (Nat.not_lt.mpr h1)) (by omega) ls H locs hf rfl (fun z _ => rfl) hS (lv_sub hl [0, 1, 2, 3, 4, 5] rfl)
      have hm9 : v / r9 ^ k % r9 < 36 := Nat.lt_of_lt_of_le (Nat.mod_lt _ (by omega)) hr9.2
      have hSB1 := hSB.kept (ho1 _ hqc.symm) (ho1 _ hqb.symm)
      obtain ⟨e1, e2, e3⟩ := kc_s (k := k) (by omega)
      have hu1 := uc_le (k + 1)
      refine lv_aload_n hx hb dX4_unsigned_76 rfl (lv_at hl 4 rfl) ?_
      refine lv_iload hx hb dX4_unsigned_77 (lv_at hl 0 rfl) ?_
      refine cp_S (As := [.int (nI (v / r9 ^ k % r9))]) (rest := [.ref c3]) C0 hl hK hS hA (c_sign l g H1 (v / r9 ^ k % r9) hm9) gX4_unsigned_X4_sign rfl ⟨rfl, rfl⟩ (show hd_ok yX4_sign 1 from ⟨by decide, by decide, by decide +kernel⟩) ⟨Nat.le_of_ble_eq_true rfl, Nat.le_of_ble_eq_true rfl⟩ rfl (Nat.le_of_ble_eq_true rfl) ⟨by show c9 + uc k ≤ 11; omega, by show s9 + us k ≤ 320; omega⟩ dX4_unsigned_79 (fun locs hS => ?_)
      obtain ⟨lc, lb⟩ := hSB1.lt
      refine jn_V (As := [.int (nI (sgn (v / r9 ^ k % r9)))]) (rest := []) C0 hl hK hS hA (fun q h => h.elim (fun h => by rw [h]; exact hA _ hc3) (fun h => by rw [h]; exact hA _ hb3)) (zat hZ hS hAb) (c_append l g b0 H1 c3 b3 (kc k) k (fun j => sgn (v / r9 ^ j % r9)) hSB1 (sgn (v / r9 ^ k % r9)) (sgn_lt hm9) (by omega) (fun q h => h.elim (fun h => by rw [h]; exact hAb _ (hA _ hc3)) (fun h => by rw [h]; exact hAb _ (hA _ hb3)))) gX4_unsigned_J4_append_cf468 rfl ⟨rfl, rfl⟩ (hSB1.recv hK) ⟨rfl, (show hd_ok yJ4_append_cf468 1 from ⟨by decide, by decide, by decide +kernel⟩)⟩ ⟨Nat.le_of_ble_eq_true rfl, Nat.le_of_ble_eq_true rfl⟩ rfl (Nat.le_of_ble_eq_true rfl) ⟨by show c9 + uc k + celA k (kc k) ≤ 11; omega, by show s9 + us k + sloA k (kc k) ≤ 320; omega⟩ dX4_unsigned_82 (fun v H2 locs hv hzz hk2 hS => ?_)
      obtain ⟨rfl, b4, hb4, hSB2⟩ := hv
      refine lv_pop hx hb dX4_unsigned_85 rfl ?_
      refine lv_goto (tgt := 16) hx hb dX4_unsigned_86 (by decide) ?_
      rw [e1] at hSB2
      refine W.widen (k := c9 + uc (k + 1)) (n := s9 + us (k + 1)) (by omega) (by omega) ?_
      have lq := hq1.lt
      dsimp only at lq
      have hs2 := hS.1
      refine ih (k + 1) b4 f2 (by omega) (fun j h1 h2 => ?_) (fun j hj => ?_) (by omega) ls H2 locs (hq1.kept (hk2 _ lq (fun z => z.elim hqc hqb))) (by have := hS.1; rcases hb4 with e | e <;> omega) (by rcases hb4 with e | e <;> omega) (hSB2.cong (fun j hj => ?_)) hS (lv_sub hl [1, 2, 3, 4] rfl)
      · rcases Nat.lt_or_ge j k with e | e
        · exact hnz j h1 e
        · have e9 : j = k := by omega
          rw [e9]
          exact hk0.resolve_left (by omega)
      · rw [hf2 j hj, Nat.div_div_eq_div_mul, ← Nat.pow_succ]
      · unfold tup
        by_cases ej : j = k
        · rw [if_pos ej, ej]
        · rw [if_neg ej]
    refine lv_aload_n hx hb dX4_unsigned_16 rfl (lv_at hl 3 rfl) ?_
    refine jp_V (As := []) (rest := []) C0 hl hK hS hA (zat hZ hS hAb) (c_bLen l g b0 H c3 b3 (kc k) k (fun j => sgn (v / r9 ^ j % r9)) hSB) gX4_unsigned_J4_length_8abf5 rfl ⟨rfl, rfl⟩ (hSB.recv hK) ⟨rfl, (show hd_ok yJ4_length_8abf5 0 from ⟨by decide, by decide, by decide +kernel⟩)⟩ ⟨Nat.le_of_ble_eq_true rfl, Nat.le_of_ble_eq_true rfl⟩ rfl (Nat.le_of_ble_eq_true rfl) ⟨by show c9 + uc k ≤ 11; omega, by show s9 + us k ≤ 320; omega⟩ dX4_unsigned_17 (fun locs hS => ?_)
    refine lv_if_eq (tgt := 30) hx hb dX4_unsigned_20 (by decide) (fun h1 => ?_) (fun h1 => ?_)
    · skip
      have h0 : k = 0 := nI_inj (by omega) (by decide) h1
      exact hgo (by omega) (Or.inl h0) _ hS
    · skip
      have h0 : k ≠ 0 := fun z => h1 (by rw [z]; rfl)
      refine lv_aload_n hx hb dX4_unsigned_23 rfl (lv_at hl 2 rfl) ?_
      refine cp_S (As := [.ref q]) (rest := []) C0 hl hK hS hA (c_isZero l g H q k9 (v / r9 ^ k) (by omega) hy (at_cong hf hf9)) gX4_unsigned_X4_isZero rfl ⟨rfl, rfl⟩ (show hd_ok yX4_isZero 1 from ⟨by decide, by decide, by decide +kernel⟩) ⟨Nat.le_of_ble_eq_true rfl, Nat.le_of_ble_eq_true rfl⟩ rfl (Nat.le_of_ble_eq_true rfl) ⟨by show c9 + uc k ≤ 11; omega, by show s9 + us k ≤ 320; omega⟩ dX4_unsigned_24 (fun locs hS => ?_)
      refine lv_if_ne (tgt := 89) hx hb dX4_unsigned_27 (by decide) (fun h2 => ?_) (fun h2 => ?_)
      · skip
        exact K k b3 ⟨by omega, hk, of_decide_eq_true (bI_n0 h2), hnz⟩ ls H _ hb3 hSB hS hl
      · skip
        have h3 := of_decide_eq_false (bI_0 h2)
        refine hgo ?_ (Or.inr h3) _ hS
        rcases Nat.lt_or_ge k 64 with e | e
        · exact e
        · exact absurd (by rw [show k = 64 by omega]; exact h64) h3
end M49B

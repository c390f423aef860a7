-- BOTH SIDES AGREE
theorem k_eq {a k : Nat} (ha : a ≤ 2) (hk : k ≤ 2) (h : some (Value.int (nI a)) = some (Value.int (nI k))) : a = k := nI_inj (by omega) (by omega) (Value.int.inj (Option.some.inj h))
section M93
variable {V t : Nat → Nat} {n k : Nat} {x y kd : Int32} {zi zu : Bool} {r1 r2 f9 : Option Value} {v1 : Int64}
theorem k_rest (h1 : (∃ i j, i < 8 ∧ j < 8 ∧ x = nI i ∧ y = nI j ∧ 0 < V j % 65536 ^ nP zi ∧ r1 = some (.int (nI 0)) ∧ v1 = lB (decide ((V i % 65536 ^ nP zi) % (V j % 65536 ^ nP zi) = 0))) ∨ (¬ (isC x ∧ isC y) ∧ r1 = some (.int (nI 1))) ∨ (∃ i j, i < 8 ∧ j < 8 ∧ x = nI i ∧ y = nI j ∧ V j % 65536 ^ nP zi = 0 ∧ r1 = some (.int (nI 2)))) : ∃ k : Nat, k ≤ 2 ∧ r1 = some (.int (nI k)) := by
  rcases h1 with ⟨i, j, hi, hj, ei, ej, h0, hr1, hv⟩ | ⟨hn, hr1⟩ | ⟨i, j, hi, hj, ei, ej, hz, hr1⟩
  · exact ⟨0, by decide, hr1⟩
  · exact ⟨1, by decide, hr1⟩
  · exact ⟨2, by decide, hr1⟩
theorem ag_rest (h1 : (∃ i j, i < 8 ∧ j < 8 ∧ x = nI i ∧ y = nI j ∧ 0 < V j % 65536 ^ nP zi ∧ r1 = some (.int (nI 0)) ∧ v1 = lB (decide ((V i % 65536 ^ nP zi) % (V j % 65536 ^ nP zi) = 0))) ∨ (¬ (isC x ∧ isC y) ∧ r1 = some (.int (nI 1))) ∨ (∃ i j, i < 8 ∧ j < 8 ∧ x = nI i ∧ y = nI j ∧ V j % 65536 ^ nP zi = 0 ∧ r1 = some (.int (nI 2)))) (h2 : (∃ i j, i < 8 ∧ j < 8 ∧ x = nI i ∧ y = nI j ∧ 0 < V j % 65536 ^ nP zi ∧ r2 = some (.int (bI (decide ((V i % 65536 ^ nP zi) % (V j % 65536 ^ nP zi) = 0)))) ∧ f9 = some (.int (nI 0))) ∨ (¬ (isC x ∧ isC y) ∧ r2 = some (.int (nI 0)) ∧ f9 = some (.int (nI 1))) ∨ (∃ i j, i < 8 ∧ j < 8 ∧ x = nI i ∧ y = nI j ∧ V j % 65536 ^ nP zi = 0 ∧ r2 = some (.int (nI 0)) ∧ f9 = some (.int (nI 2)))) (hk : k ≤ 2) (hr : r1 = some (.int (nI k))) : f9 = some (.int (nI k)) ∧ ∃ b : Bool, r2 = some (.int (bI b)) ∧ (k = 0 → v1 = lB b) := by
  rcases h1 with ⟨i, j, hi, hj, ei, ej, h0, hr1, hv⟩ | ⟨hn, hr1⟩ | ⟨i, j, hi, hj, ei, ej, hz, hr1⟩ <;> rcases h2 with ⟨i2, j2, hi2, hj2, ei2, ej2, h02, hr2, hf⟩ | ⟨hn2, hr2, hf⟩ | ⟨i2, j2, hi2, hj2, ei2, ej2, hz2, hr2, hf⟩
  · obtain rfl := k_eq (by decide) hk (hr1.symm.trans hr)
    have a1 : i = i2 := nI_inj (by omega) (by omega) (ei.symm.trans ei2)
    have a2 : j = j2 := nI_inj (by omega) (by omega) (ej.symm.trans ej2)
    subst a1; subst a2
    exact ⟨hf, _, hr2, fun _ => hv⟩
  · exact absurd (by rw [ei, ej]; exact ⟨isC_nI (by assumption), isC_nI (by assumption)⟩) hn2
  · have a2 : j = j2 := nI_inj (by omega) (by omega) (ej.symm.trans ej2)
    subst a2
    omega
  · exact absurd (by rw [ei2, ej2]; exact ⟨isC_nI (by assumption), isC_nI (by assumption)⟩) hn
  · obtain rfl := k_eq (by decide) hk (hr1.symm.trans hr)
    exact ⟨hf, false, hr2, fun z => absurd z (by decide)⟩
  · exact absurd (by rw [ei2, ej2]; exact ⟨isC_nI (by assumption), isC_nI (by assumption)⟩) hn
  · have a2 : j = j2 := nI_inj (by omega) (by omega) (ej.symm.trans ej2)
    subst a2
    omega
  · exact absurd (by rw [ei, ej]; exact ⟨isC_nI (by assumption), isC_nI (by assumption)⟩) hn2
  · obtain rfl := k_eq (by decide) hk (hr1.symm.trans hr)
    exact ⟨hf, false, hr2, fun z => absurd z (by decide)⟩
theorem k_compare (h1 : (∃ i j, i < 8 ∧ j < 8 ∧ x = nI i ∧ y = nI j ∧ r1 = some (.int (nI 0)) ∧ v1 = (if zu = true then cmpI (V i % 65536 ^ nP zi) (V j % 65536 ^ nP zi) else cmpS (nP zi - 1 + 1) (V i % 65536 ^ nP zi) (V j % 65536 ^ nP zi)).toInt64) ∨ (¬ (isC x ∧ isC y) ∧ r1 = some (.int (nI 1)))) : ∃ k : Nat, k ≤ 2 ∧ r1 = some (.int (nI k)) := by
  rcases h1 with ⟨i, j, hi, hj, ei, ej, hr1, hv⟩ | ⟨hn, hr1⟩
  · exact ⟨0, by decide, hr1⟩
  · exact ⟨1, by decide, hr1⟩
theorem ag_compare (h1 : (∃ i j, i < 8 ∧ j < 8 ∧ x = nI i ∧ y = nI j ∧ r1 = some (.int (nI 0)) ∧ v1 = (if zu = true then cmpI (V i % 65536 ^ nP zi) (V j % 65536 ^ nP zi) else cmpS (nP zi - 1 + 1) (V i % 65536 ^ nP zi) (V j % 65536 ^ nP zi)).toInt64) ∨ (¬ (isC x ∧ isC y) ∧ r1 = some (.int (nI 1)))) (h2 : (∃ i j, i < 8 ∧ j < 8 ∧ x = nI i ∧ y = nI j ∧ r2 = some (.int (if zu = true then cmpI (V i % 65536 ^ nP zi) (V j % 65536 ^ nP zi) else cmpS (nP zi - 1 + 1) (V i % 65536 ^ nP zi) (V j % 65536 ^ nP zi))) ∧ f9 = some (.int (nI 0))) ∨ (¬ (isC x ∧ isC y) ∧ r2 = some (.int (nI 0)) ∧ f9 = some (.int (nI 1)))) (hk : k ≤ 2) (hr : r1 = some (.int (nI k))) : f9 = some (.int (nI k)) ∧ ∃ q : Int32, r2 = some (.int q) ∧ (k = 0 → v1 = q.toInt64) := by
  rcases h1 with ⟨i, j, hi, hj, ei, ej, hr1, hv⟩ | ⟨hn, hr1⟩ <;> rcases h2 with ⟨i2, j2, hi2, hj2, ei2, ej2, hr2, hf⟩ | ⟨hn2, hr2, hf⟩
  · obtain rfl := k_eq (by decide) hk (hr1.symm.trans hr)
    have a1 : i = i2 := nI_inj (by omega) (by omega) (ei.symm.trans ei2)
    have a2 : j = j2 := nI_inj (by omega) (by omega) (ej.symm.trans ej2)
    subst a1; subst a2
    exact ⟨hf, _, hr2, fun _ => hv⟩
  · exact absurd (by rw [ei, ej]; exact ⟨isC_nI (by assumption), isC_nI (by assumption)⟩) hn2
  · exact absurd (by rw [ei2, ej2]; exact ⟨isC_nI (by assumption), isC_nI (by assumption)⟩) hn
  · obtain rfl := k_eq (by decide) hk (hr1.symm.trans hr)
    exact ⟨hf, _, hr2, fun z => absurd z (by decide)⟩
theorem k_digit (h1 : (∃ j r9 : Nat, j < n ∧ (2 ≤ r9 ∧ r9 ≤ 36) ∧ x = nI j ∧ y = nI r9 ∧ r1 = some (.int (nI 0)) ∧ v1 = (dgC (t j) r9).toInt64) ∨ (¬ (nI 0 ≤ x ∧ x < nI n) ∧ r1 = some (.int (nI 1))) ∨ ((nI 0 ≤ x ∧ x < nI n) ∧ ¬ (nI 2 ≤ y ∧ y ≤ nI 36) ∧ r1 = some (.int (nI 2)))) : ∃ k : Nat, k ≤ 2 ∧ r1 = some (.int (nI k)) := by
  rcases h1 with ⟨j, r9, hj, hr9, ej, er, hr1, hv⟩ | ⟨hn, hr1⟩ | ⟨hi, hn, hr1⟩
  · exact ⟨0, by decide, hr1⟩
  · exact ⟨1, by decide, hr1⟩
  · exact ⟨2, by decide, hr1⟩
theorem ag_digit (hn70 : n ≤ 70) (h1 : (∃ j r9 : Nat, j < n ∧ (2 ≤ r9 ∧ r9 ≤ 36) ∧ x = nI j ∧ y = nI r9 ∧ r1 = some (.int (nI 0)) ∧ v1 = (dgC (t j) r9).toInt64) ∨ (¬ (nI 0 ≤ x ∧ x < nI n) ∧ r1 = some (.int (nI 1))) ∨ ((nI 0 ≤ x ∧ x < nI n) ∧ ¬ (nI 2 ≤ y ∧ y ≤ nI 36) ∧ r1 = some (.int (nI 2)))) (h2 : (∃ j r9 : Nat, j < n ∧ (2 ≤ r9 ∧ r9 ≤ 36) ∧ x = nI j ∧ y = nI r9 ∧ r2 = some (.int (dgC (t j) r9)) ∧ f9 = some (.int (nI 0))) ∨ (¬ (nI 0 ≤ x ∧ x < nI n) ∧ r2 = some (.int (nI 0)) ∧ f9 = some (.int (nI 1))) ∨ ((nI 0 ≤ x ∧ x < nI n) ∧ ¬ (nI 2 ≤ y ∧ y ≤ nI 36) ∧ r2 = some (.int (nI 0)) ∧ f9 = some (.int (nI 2)))) (hk : k ≤ 2) (hr : r1 = some (.int (nI k))) : f9 = some (.int (nI k)) ∧ ∃ q : Int32, r2 = some (.int q) ∧ (k = 0 → v1 = q.toInt64) := by
  rcases h1 with ⟨j, r9, hj, hr9, ej, er, hr1, hv⟩ | ⟨hn, hr1⟩ | ⟨hi, hn, hr1⟩ <;> rcases h2 with ⟨j2, r92, hj2, hr92, ej2, er2, hr2, hf⟩ | ⟨hn2, hr2, hf⟩ | ⟨hi2, hn2, hr2, hf⟩
  · obtain rfl := k_eq (by decide) hk (hr1.symm.trans hr)
    have a1 : j = j2 := nI_inj (by omega) (by omega) (ej.symm.trans ej2)
    have a2 : r9 = r92 := nI_inj (by omega) (by omega) (er.symm.trans er2)
    subst a1; subst a2
    exact ⟨hf, _, hr2, fun _ => hv⟩
  · exact absurd (by rw [ej]; exact ⟨nI_le (Nat.zero_le _) (by omega), nI_lt (by assumption) (by omega)⟩) hn2
  · exact absurd (by rw [er]; exact ⟨nI_le hr9.1 (by omega), nI_le hr9.2 (by decide)⟩) hn2
  · exact absurd (by rw [ej2]; exact ⟨nI_le (Nat.zero_le _) (by omega), nI_lt (by assumption) (by omega)⟩) hn
  · obtain rfl := k_eq (by decide) hk (hr1.symm.trans hr)
    exact ⟨hf, _, hr2, fun z => absurd z (by decide)⟩
  · exact absurd hi2 hn
  · exact absurd (by rw [er2]; exact ⟨nI_le hr92.1 (by omega), nI_le hr92.2 (by decide)⟩) hn
  · exact absurd hi hn2
  · obtain rfl := k_eq (by decide) hk (hr1.symm.trans hr)
    exact ⟨hf, _, hr2, fun z => absurd z (by decide)⟩
theorem k_same (h1 : (∃ r9 d9 : Nat, ∃ q9 : Int32, (2 ≤ r9 ∧ r9 ≤ 36) ∧ d9 < 4 ∧ y = nI r9 ∧ kd = nI d9 ∧ SMQ V n t r9 d9 q9 ∧ r1 = some (.int (nI 0)) ∧ v1 = q9.toInt64) ∨ (¬ rkOK y kd ∧ r1 = some (.int (nI 1)))) : ∃ k : Nat, k ≤ 2 ∧ r1 = some (.int (nI k)) := by
  rcases h1 with ⟨r9, d9, q9, hr9, hd9, er, ed, hq, hr1, hv⟩ | ⟨hn, hr1⟩
  · exact ⟨0, by decide, hr1⟩
  · exact ⟨1, by decide, hr1⟩
theorem ag_same (h1 : (∃ r9 d9 : Nat, ∃ q9 : Int32, (2 ≤ r9 ∧ r9 ≤ 36) ∧ d9 < 4 ∧ y = nI r9 ∧ kd = nI d9 ∧ SMQ V n t r9 d9 q9 ∧ r1 = some (.int (nI 0)) ∧ v1 = q9.toInt64) ∨ (¬ rkOK y kd ∧ r1 = some (.int (nI 1)))) (h2 : (∃ r9 d9 : Nat, (2 ≤ r9 ∧ r9 ≤ 36) ∧ d9 < 4 ∧ y = nI r9 ∧ kd = nI d9 ∧ (∃ q9 : Int32, r2 = some (.int q9) ∧ SMQ V n t r9 d9 q9) ∧ f9 = some (.int (nI 0))) ∨ (¬ rkOK y kd ∧ r2 = some (.int (nI 0)) ∧ f9 = some (.int (nI 1)))) (hk : k ≤ 2) (hr : r1 = some (.int (nI k))) : f9 = some (.int (nI k)) ∧ ∃ q : Int32, r2 = some (.int q) ∧ (k = 0 → v1 = q.toInt64) := by
  rcases h1 with ⟨r9, d9, q9, hr9, hd9, er, ed, hq, hr1, hv⟩ | ⟨hn, hr1⟩ <;> rcases h2 with ⟨r92, d92, hr92, hd92, er2, ed2, ⟨q92, hr2, hq2⟩, hf⟩ | ⟨hn2, hr2, hf⟩
  · obtain rfl := k_eq (by decide) hk (hr1.symm.trans hr)
    have a1 : r9 = r92 := nI_inj (by omega) (by omega) (er.symm.trans er2)
    have a2 : d9 = d92 := nI_inj (by omega) (by omega) (ed.symm.trans ed2)
    subst a1; subst a2
    exact ⟨hf, _, hr2, fun _ => by rw [hv, SMQ_uq hq hq2]⟩
  · exact absurd (by rw [er, ed]; exact rkOK_nI hr9 hd9) hn2
  · exact absurd (by rw [er2, ed2]; exact rkOK_nI hr92 hd92) hn
  · obtain rfl := k_eq (by decide) hk (hr1.symm.trans hr)
    exact ⟨hf, _, hr2, fun z => absurd z (by decide)⟩
end M93

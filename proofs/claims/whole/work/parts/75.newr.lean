/-! LAYER 3: a new reference, the first row -/
def ZR : SA := fun i => if 73 ≤ i ∧ i < 76 then -nI 1 else nI 0
theorem l9_clB2 {a : Nat} {A : SA} : ∀ (j fu k : Nat) (μ : Mem), j < fu → k + j = 3 → gK μ a = 101 → gL μ a = 6740 → (∀ i, gI μ a i = if i < 6740 then (if 73 ≤ i ∧ i < 73 + k then -nI 1 else nI 0) else A i) →
    ∃ μ', L_X9_clearBoard_21 fu a (nI k) μ = some μ' ∧ (∀ i, gI μ' a i = if i < 6740 then ZR i else A i) ∧ Fx (fun b => b = a) μ μ' := by
  intro j
  induction j with
  | zero =>
    intro fu k μ hf he h1 h2 h3
    obtain ⟨fu, rfl⟩ : ∃ k, fu = k + 1 := ⟨fu - 1, by omega⟩
    obtain rfl : k = 3 := by omega
    exact ⟨μ, by simp (disch := first | assumption | omega) only [q_bl, q_baT, q_bi, q_ba, q_pr, q_ob, q_iT, q_iN, q_it, q_if, q_of, nI_add, pk_mul, pk_sub, nI_leI, nI_ltI, nI_eq, nI_clamp, nI_lt0, nI_eqm, m1_eq, true_or, or_true, not_false_eq_true, m1_lt, m1_nlt, m1_le, m1_nle, b01, b011, q_em, q_m1, n_0, n_1, n_2, n_3, n_4, n_5, n_6, n_7, n_8, n_9, n_10, n_11, n_12, n_14, n_15, n_16, n_20, n_24, n_25, n_32, n_36, n_40, n_41, n_42, n_43, n_45, n_46, n_48, n_57, n_59, n_60, n_73, n_76, n_97, n_99, n_100, n_106, n_109, n_120, n_122, n_136, n_160, n_176, n_200, n_255, n_800, n_1000, n_1001, n_1002, n_1003, n_1006, n_1012, n_1018, n_1019, n_1020, n_1100, n_1140, n_4800, n_4920, n_5940, n_6740, n_20220, L_X9_clearBoard_21, B_X9_clearBoard_21], h3, Fx.same⟩
  | succ j ih =>
    intro fu k μ hf he h1 h2 h3
    obtain ⟨fu, rfl⟩ : ∃ k, fu = k + 1 := ⟨fu - 1, by omega⟩
    obtain ⟨μ', q1, q2, q3⟩ := ih fu (k + 1) (stI μ a (73 + k) (-nI 1)) (by omega) (by omega) h1 h2 (fun i => by
      rw [q_iI]
      by_cases hi : i = 73 + k
      · subst hi; rw [q_us, if_pos (by omega), if_pos (by omega)]
      · rw [q_un (fun e => hi e.2), h3 i]
        by_cases h4 : i < 6740
        · rw [if_pos h4, if_pos h4]
          by_cases h5 : 73 ≤ i ∧ i < 73 + k
          · rw [if_pos h5, if_pos (by omega)]
          · rw [if_neg h5, if_neg (by omega)]
        · rw [if_neg h4, if_neg h4])
    refine ⟨μ', ?_, q2, (Fx.stI (P := fun b => b = a) rfl).trans q3⟩
    clear h3 q2 q3 ih
    simp (disch := first | assumption | omega) only [q_bl, q_baT, q_bi, q_ba, q_pr, q_ob, q_iT, q_iN, q_it, q_if, q_of, nI_add, pk_mul, pk_sub, nI_leI, nI_ltI, nI_eq, nI_clamp, nI_lt0, nI_eqm, m1_eq, true_or, or_true, not_false_eq_true, m1_lt, m1_nlt, m1_le, m1_nle, b01, b011, q_em, q_m1, n_0, n_1, n_2, n_3, n_4, n_5, n_6, n_7, n_8, n_9, n_10, n_11, n_12, n_14, n_15, n_16, n_20, n_24, n_25, n_32, n_36, n_40, n_41, n_42, n_43, n_45, n_46, n_48, n_57, n_59, n_60, n_73, n_76, n_97, n_99, n_100, n_106, n_109, n_120, n_122, n_136, n_160, n_176, n_200, n_255, n_800, n_1000, n_1001, n_1002, n_1003, n_1006, n_1012, n_1018, n_1019, n_1020, n_1100, n_1140, n_4800, n_4920, n_5940, n_6740, n_20220, L_X9_clearBoard_21, B_X9_clearBoard_21, h1, h2, q1]
theorem l9_clB1 {a : Nat} {A : SA} : ∀ (j fu k : Nat) (μ : Mem), j < fu → k + j = 6740 → gK μ a = 101 → gL μ a = 6740 → (∀ i, gI μ a i = if i < k then nI 0 else A i) →
    ∃ μ', L_X9_clearBoard_2 fu a (nI k) μ = some μ' ∧ (∀ i, gI μ' a i = if i < 6740 then ZR i else A i) ∧ Fx (fun b => b = a) μ μ' := by
  intro j
  induction j with
  | zero =>
    intro fu k μ hf he h1 h2 h3
    obtain ⟨fu, rfl⟩ : ∃ k, fu = k + 1 := ⟨fu - 1, by omega⟩
    obtain rfl : k = 6740 := by omega
    obtain ⟨μ', q1, q2, q3⟩ := l9_clB2 (A := A) 3 FU 0 μ (FU_gt (by decide)) (by decide) h1 h2 (fun i => by
      rw [h3 i]
      by_cases h4 : i < 6740
      · rw [if_pos h4, if_pos h4, if_neg (by omega)]
      · rw [if_neg h4, if_neg h4])
    refine ⟨μ', ?_, q2, q3⟩
    clear h3 q2 q3
    simp (disch := first | assumption | omega) only [q_bl, q_baT, q_bi, q_ba, q_pr, q_ob, q_iT, q_iN, q_it, q_if, q_of, nI_add, pk_mul, pk_sub, nI_leI, nI_ltI, nI_eq, nI_clamp, nI_lt0, nI_eqm, m1_eq, true_or, or_true, not_false_eq_true, m1_lt, m1_nlt, m1_le, m1_nle, b01, b011, q_em, q_m1, n_0, n_1, n_2, n_3, n_4, n_5, n_6, n_7, n_8, n_9, n_10, n_11, n_12, n_14, n_15, n_16, n_20, n_24, n_25, n_32, n_36, n_40, n_41, n_42, n_43, n_45, n_46, n_48, n_57, n_59, n_60, n_73, n_76, n_97, n_99, n_100, n_106, n_109, n_120, n_122, n_136, n_160, n_176, n_200, n_255, n_800, n_1000, n_1001, n_1002, n_1003, n_1006, n_1012, n_1018, n_1019, n_1020, n_1100, n_1140, n_4800, n_4920, n_5940, n_6740, n_20220, L_X9_clearBoard_2, B_X9_clearBoard_2, q1]
  | succ j ih =>
    intro fu k μ hf he h1 h2 h3
    obtain ⟨fu, rfl⟩ : ∃ k, fu = k + 1 := ⟨fu - 1, by omega⟩
    obtain ⟨μ', q1, q2, q3⟩ := ih fu (k + 1) (stI μ a k (nI 0)) (by omega) (by omega) h1 h2 (fun i => by
      rw [q_iI]
      by_cases hi : i = k
      · subst hi; rw [q_us, if_pos (by omega)]
      · rw [q_un (fun e => hi e.2), h3 i]
        by_cases h5 : i < k
        · rw [if_pos h5, if_pos (by omega)]
        · rw [if_neg h5, if_neg (by omega)])
    refine ⟨μ', ?_, q2, (Fx.stI (P := fun b => b = a) rfl).trans q3⟩
    clear h3 q2 q3 ih
    simp (disch := first | assumption | omega) only [q_bl, q_baT, q_bi, q_ba, q_pr, q_ob, q_iT, q_iN, q_it, q_if, q_of, nI_add, pk_mul, pk_sub, nI_leI, nI_ltI, nI_eq, nI_clamp, nI_lt0, nI_eqm, m1_eq, true_or, or_true, not_false_eq_true, m1_lt, m1_nlt, m1_le, m1_nle, b01, b011, q_em, q_m1, n_0, n_1, n_2, n_3, n_4, n_5, n_6, n_7, n_8, n_9, n_10, n_11, n_12, n_14, n_15, n_16, n_20, n_24, n_25, n_32, n_36, n_40, n_41, n_42, n_43, n_45, n_46, n_48, n_57, n_59, n_60, n_73, n_76, n_97, n_99, n_100, n_106, n_109, n_120, n_122, n_136, n_160, n_176, n_200, n_255, n_800, n_1000, n_1001, n_1002, n_1003, n_1006, n_1012, n_1018, n_1019, n_1020, n_1100, n_1140, n_4800, n_4920, n_5940, n_6740, n_20220, L_X9_clearBoard_2, B_X9_clearBoard_2, h1, h2, q1]
/-- an emptied row -/
theorem x9_clearB {μ : Mem} {a : Nat} (h1 : gK μ a = 101) (h2 : gL μ a = 6740) : ∃ μ', F_X9_clearBoard a μ = some μ' ∧ (∀ i, gI μ' a i = if i < 6740 then ZR i else gI μ a i) ∧ Fx (fun b => b = a) μ μ' := by
  obtain ⟨μ', q1, q2, q3⟩ := l9_clB1 (A := gI μ a) 6740 FU 0 μ (FU_gt (by decide)) (by decide) h1 h2 (fun i => by rw [if_neg (by omega)])
  refine ⟨μ', ?_, q2, q3⟩
  clear q2 q3
  simp (disch := first | assumption | omega) only [q_bl, q_baT, q_bi, q_ba, q_pr, q_ob, q_iT, q_iN, q_it, q_if, q_of, nI_add, pk_mul, pk_sub, nI_leI, nI_ltI, nI_eq, nI_clamp, nI_lt0, nI_eqm, m1_eq, true_or, or_true, not_false_eq_true, m1_lt, m1_nlt, m1_le, m1_nle, b01, b011, q_em, q_m1, n_0, n_1, n_2, n_3, n_4, n_5, n_6, n_7, n_8, n_9, n_10, n_11, n_12, n_14, n_15, n_16, n_20, n_24, n_25, n_32, n_36, n_40, n_41, n_42, n_43, n_45, n_46, n_48, n_57, n_59, n_60, n_73, n_76, n_97, n_99, n_100, n_106, n_109, n_120, n_122, n_136, n_160, n_176, n_200, n_255, n_800, n_1000, n_1001, n_1002, n_1003, n_1006, n_1012, n_1018, n_1019, n_1020, n_1100, n_1140, n_4800, n_4920, n_5940, n_6740, n_20220, F_X9_clearBoard, q1]

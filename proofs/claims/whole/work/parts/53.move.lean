/-! LAYER 3: cards moved -/
-- the reference's
def mvk (A : SA) (a b k : Nat) : SA := fun i => if 200 + 20 * b ≤ i ∧ i < 200 + 20 * b + k then A (i + 20 * a - 20 * b) else A i
theorem mvk_0 {A : SA} {a b : Nat} : mvk A a b 0 = A := by funext i; unfold mvk; rw [if_neg (by omega)]
theorem mvk_s {A : SA} {a b k : Nat} : ua (mvk A a b k) (200 + 20 * b + k) (A (200 + 20 * a + k)) = mvk A a b (k + 1) := by
  funext i
  by_cases hi : i = 200 + 20 * b + k
  · subst hi; rw [ua_s]; unfold mvk; rw [if_pos (by omega)]; congr 1; omega
  · rw [ua_n hi]; unfold mvk
    by_cases h2 : 200 + 20 * b ≤ i ∧ i < 200 + 20 * b + k
    · rw [if_pos h2, if_pos (by omega)]
    · rw [if_neg h2, if_neg (by omega)]
theorem mvk_20 {A : SA} {a b : Nat} : mvk A a b 20 = mv A a b := by
  funext i; unfold mvk mv; rw [show 200 + 20 * b + 20 = 220 + 20 * b from by omega]
theorem l9_move {m a b : Nat} {A : SA} (ha : a < 40) (hb : b < 40) (hab : ¬ a = b) : ∀ (j fu k : Nat) (μ : Mem), j < fu → k + j = 20 → RA μ m (mvk A a b k) → ∃ μ', L_X9_move_2 fu m (nI a) (nI b) (nI k) μ = some μ' ∧ RA μ' m (mv A a b) ∧ Fx (fun a => a = m + 1) μ μ' := by
  intro j
  induction j with
  | zero =>
    intro fu k μ hf he h
    obtain ⟨fu, rfl⟩ : ∃ k, fu = k + 1 := ⟨fu - 1, by omega⟩
    obtain rfl : k = 20 := by omega
    rw [mvk_20] at h
    exact ⟨μ, by simp (disch := first | assumption | omega) only [q_bl, q_baT, q_bi, q_ba, q_pr, q_ob, q_iT, q_iN, q_it, q_if, q_of, nI_add, pk_mul, pk_sub, nI_leI, nI_ltI, nI_eq, nI_clamp, nI_lt0, nI_eqm, m1_eq, true_or, or_true, not_false_eq_true, m1_lt, m1_nlt, m1_le, m1_nle, b01, b011, q_em, q_m1, n_0, n_1, n_2, n_3, n_4, n_5, n_6, n_7, n_8, n_9, n_10, n_11, n_12, n_14, n_15, n_16, n_20, n_24, n_25, n_32, n_36, n_40, n_41, n_42, n_43, n_45, n_46, n_48, n_57, n_59, n_60, n_73, n_76, n_97, n_99, n_100, n_106, n_109, n_120, n_122, n_136, n_160, n_176, n_200, n_255, n_800, n_1000, n_1001, n_1002, n_1003, n_1006, n_1012, n_1018, n_1019, n_1020, n_1100, n_1140, n_4800, n_4920, n_5940, n_6740, n_20220, q_kI, q_lI, q_nI, q_rI, q_iI, q_jI, q_dI, q_kJ, q_lJ, q_nJ, q_rJ, q_iJ, q_jJ, q_dJ, q_kC, q_lC, q_nC, q_rC, q_jC, q_dC, q_kF, q_lF, q_nF, q_rF, q_jF, q_dF, q_us, q_un, q_ua, L_X9_move_2, B_X9_move_2], h, Fx.same⟩
  | succ j ih =>
    intro fu k μ hf he h
    obtain ⟨fu, rfl⟩ : ∃ k, fu = k + 1 := ⟨fu - 1, by omega⟩
    have s := h.1
    have hA : gI μ (m + 1) (200 + 20 * a + k) = A (200 + 20 * a + k) := by rw [h.2]; unfold mvk; rw [if_neg (by omega)]
    have p1 := h.put (j := 200 + 20 * b + k) (v := A (200 + 20 * a + k))
    rw [mvk_s] at p1
    obtain ⟨μ', q1, q2, q3⟩ := ih fu (k + 1) _ (by omega) (by omega) p1
    exact ⟨μ', by simp (disch := first | assumption | omega) only [q_bl, q_baT, q_bi, q_ba, q_pr, q_ob, q_iT, q_iN, q_it, q_if, q_of, nI_add, pk_mul, pk_sub, nI_leI, nI_ltI, nI_eq, nI_clamp, nI_lt0, nI_eqm, m1_eq, true_or, or_true, not_false_eq_true, m1_lt, m1_nlt, m1_le, m1_nle, b01, b011, q_em, q_m1, n_0, n_1, n_2, n_3, n_4, n_5, n_6, n_7, n_8, n_9, n_10, n_11, n_12, n_14, n_15, n_16, n_20, n_24, n_25, n_32, n_36, n_40, n_41, n_42, n_43, n_45, n_46, n_48, n_57, n_59, n_60, n_73, n_76, n_97, n_99, n_100, n_106, n_109, n_120, n_122, n_136, n_160, n_176, n_200, n_255, n_800, n_1000, n_1001, n_1002, n_1003, n_1006, n_1012, n_1018, n_1019, n_1020, n_1100, n_1140, n_4800, n_4920, n_5940, n_6740, n_20220, q_kI, q_lI, q_nI, q_rI, q_iI, q_jI, q_dI, q_kJ, q_lJ, q_nJ, q_rJ, q_iJ, q_jJ, q_dJ, q_kC, q_lC, q_nC, q_rC, q_jC, q_dC, q_kF, q_lF, q_nF, q_rF, q_jF, q_dF, q_us, q_un, q_ua, L_X9_move_2, B_X9_move_2, s.k0, s.r0, s.k1, s.l1, hA, q1], q2, (Fx.stI (P := fun a => a = m + 1) rfl).trans q3⟩
theorem x9_move {μ : Mem} {m a b : Nat} {A : SA} (h : RA μ m A) (ha : a < 40) (hb : b < 40) (hab : ¬ a = b) : ∃ μ', F_X9_move m (nI a) (nI b) μ = some μ' ∧ RA μ' m (mv A a b) ∧ Fx (fun a => a = m + 1) μ μ' := by
  obtain ⟨μ', q1, q2, q3⟩ := l9_move (A := A) ha hb hab 20 FU 0 μ (FU_gt (by decide)) (by decide) (by rw [mvk_0]; exact h)
  exact ⟨μ', by simp (disch := first | assumption | omega) only [q_bl, q_baT, q_bi, q_ba, q_pr, q_ob, q_iT, q_iN, q_it, q_if, q_of, nI_add, pk_mul, pk_sub, nI_leI, nI_ltI, nI_eq, nI_clamp, nI_lt0, nI_eqm, m1_eq, true_or, or_true, not_false_eq_true, m1_lt, m1_nlt, m1_le, m1_nle, b01, b011, q_em, q_m1, n_0, n_1, n_2, n_3, n_4, n_5, n_6, n_7, n_8, n_9, n_10, n_11, n_12, n_14, n_15, n_16, n_20, n_24, n_25, n_32, n_36, n_40, n_41, n_42, n_43, n_45, n_46, n_48, n_57, n_59, n_60, n_73, n_76, n_97, n_99, n_100, n_106, n_109, n_120, n_122, n_136, n_160, n_176, n_200, n_255, n_800, n_1000, n_1001, n_1002, n_1003, n_1006, n_1012, n_1018, n_1019, n_1020, n_1100, n_1140, n_4800, n_4920, n_5940, n_6740, n_20220, q_kI, q_lI, q_nI, q_rI, q_iI, q_jI, q_dI, q_kJ, q_lJ, q_nJ, q_rJ, q_iJ, q_jJ, q_dJ, q_kC, q_lC, q_nC, q_rC, q_jC, q_dC, q_kF, q_lF, q_nF, q_rF, q_jF, q_dF, q_us, q_un, q_ua, F_X9_move, q1], q2, q3⟩

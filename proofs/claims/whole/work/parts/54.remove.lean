/-! LAYER 3: cards taken out -/
-- taking out
def rms : Nat → Nat → SA → SA
  | 0, _, A => A
  | k + 1, c, A => rms k (c + 1) (mv A (c + 1) c)
theorem rms_lo : ∀ (k c : Nat) (A : SA) (i : Nat), i < 200 → rms k c A i = A i := by
  intro k
  induction k with
  | zero => intro c A i h; rfl
  | succ k ih => intro c A i h; show rms k (c + 1) (mv A (c + 1) c) i = _; rw [ih _ _ _ h, mv_o (by omega)]
theorem rms_lc {n : Nat} : ∀ (k c : Nat) (A : SA), c + k < n → lcn A n → lcn (rms k c A) n := by
  intro k
  induction k with
  | zero => intro c A hc h; exact h
  | succ k ih => intro c A hc h; exact ih (c + 1) _ (by omega) (h.mv (by omega))
theorem l9_rm {m n : Nat} (hn : n ≤ 40) : ∀ (k fu c : Nat) (μ : Mem) (A : SA), k < fu → c + k + 1 = n → A 8 = nI n → RA μ m A → ∃ μc, RA μc m (ua (rms k c A) 8 (nI (n - 1))) ∧ Fx (fun a => a = m + 1) μ μc ∧ ∀ μ2, F_X9_resetMachine m μc = some μ2 → L_X9_takeOut_2 fu m (nI c) μ = some μ2 := by
  intro k
  induction k with
  | zero =>
    intro fu c μ A hf he h8 h
    obtain ⟨fu, rfl⟩ : ∃ k, fu = k + 1 := ⟨fu - 1, by omega⟩
    have s := h.1
    have g8 : gI μ (m + 1) 8 = nI n := by rw [h.2]; exact h8
    refine ⟨_, h.put (j := 8) (v := nI (n - 1)), Fx.stI rfl, fun μ2 e => ?_⟩
    simp (disch := first | assumption | omega) only [q_bl, q_baT, q_bi, q_ba, q_pr, q_ob, q_iT, q_iN, q_it, q_if, q_of, nI_add, pk_mul, pk_sub, nI_leI, nI_ltI, nI_eq, nI_clamp, nI_lt0, nI_eqm, m1_eq, true_or, or_true, not_false_eq_true, m1_lt, m1_nlt, m1_le, m1_nle, b01, b011, q_em, q_m1, n_0, n_1, n_2, n_3, n_4, n_5, n_6, n_7, n_8, n_9, n_10, n_11, n_12, n_14, n_15, n_16, n_20, n_24, n_25, n_32, n_36, n_40, n_41, n_42, n_43, n_45, n_46, n_48, n_57, n_59, n_60, n_73, n_76, n_97, n_99, n_100, n_106, n_109, n_120, n_122, n_136, n_160, n_176, n_200, n_255, n_800, n_1000, n_1001, n_1002, n_1003, n_1006, n_1012, n_1018, n_1019, n_1020, n_1100, n_1140, n_4800, n_4920, n_5940, n_6740, n_20220, q_kI, q_lI, q_nI, q_rI, q_iI, q_jI, q_dI, q_kJ, q_lJ, q_nJ, q_rJ, q_iJ, q_jJ, q_dJ, q_kC, q_lC, q_nC, q_rC, q_jC, q_dC, q_kF, q_lF, q_nF, q_rF, q_jF, q_dF, q_us, q_un, q_ua, L_X9_takeOut_2, B_X9_takeOut_2, s.k0, s.r0, s.k1, s.l1, g8, e]
  | succ k ih =>
    intro fu c μ A hf he h8 h
    obtain ⟨fu, rfl⟩ : ∃ k, fu = k + 1 := ⟨fu - 1, by omega⟩
    have s := h.1
    have g8 : gI μ (m + 1) 8 = nI n := by rw [h.2]; exact h8
    obtain ⟨μ1, e1, h1, f1⟩ := x9_move (a := c + 1) (b := c) h (by omega) (by omega) (by omega)
    obtain ⟨μc, q1, q2, q3⟩ := ih fu (c + 1) μ1 (mv A (c + 1) c) (by omega) (by omega) (by rw [mv_o (by omega)]; exact h8) h1
    refine ⟨μc, q1, f1.trans q2, fun μ2 e => ?_⟩
    have := q3 μ2 e
    simp (disch := first | assumption | omega) only [q_bl, q_baT, q_bi, q_ba, q_pr, q_ob, q_iT, q_iN, q_it, q_if, q_of, nI_add, pk_mul, pk_sub, nI_leI, nI_ltI, nI_eq, nI_clamp, nI_lt0, nI_eqm, m1_eq, true_or, or_true, not_false_eq_true, m1_lt, m1_nlt, m1_le, m1_nle, b01, b011, q_em, q_m1, n_0, n_1, n_2, n_3, n_4, n_5, n_6, n_7, n_8, n_9, n_10, n_11, n_12, n_14, n_15, n_16, n_20, n_24, n_25, n_32, n_36, n_40, n_41, n_42, n_43, n_45, n_46, n_48, n_57, n_59, n_60, n_73, n_76, n_97, n_99, n_100, n_106, n_109, n_120, n_122, n_136, n_160, n_176, n_200, n_255, n_800, n_1000, n_1001, n_1002, n_1003, n_1006, n_1012, n_1018, n_1019, n_1020, n_1100, n_1140, n_4800, n_4920, n_5940, n_6740, n_20220, q_kI, q_lI, q_nI, q_rI, q_iI, q_jI, q_dI, q_kJ, q_lJ, q_nJ, q_rJ, q_iJ, q_jJ, q_dJ, q_kC, q_lC, q_nC, q_rC, q_jC, q_dC, q_kF, q_lF, q_nF, q_rF, q_jF, q_dF, q_us, q_un, q_ua, L_X9_takeOut_2, B_X9_takeOut_2, s.k0, s.r0, s.k1, s.l1, g8, e1, this]
theorem l2_drop {d n : Nat} (hn : n ≤ 40) : ∀ (k fu c : Nat) (μ : Mem) (A : SA), k < fu → c + k + 1 = n → SD μ d → gI μ d 1 = nI n → RDn (gI μ) d A n → ∃ μ', L_X2_dropCard_17 fu d (nI (c + 1)) μ = some μ' ∧ gI μ' d 1 = nI (n - 1) ∧ RDn (gI μ') d (rms k c A) n ∧ Fx (fun a => a = d ∨ a = d + 1) μ μ' := by
  intro k
  induction k with
  | zero =>
    intro fu c μ A hf he h g hr
    obtain ⟨fu, rfl⟩ : ∃ k, fu = k + 1 := ⟨fu - 1, by omega⟩
    have k1 := h.1
    refine ⟨stI μ d 1 (nI (n - 1)), ?_, by rw [q_iI, q_us], fun i j hi j1 j2 => by rw [q_iI, q_un (by omega)]; exact hr i j hi j1 j2, Fx.stI (Or.inl rfl)⟩
    simp (disch := first | assumption | omega) only [q_bl, q_baT, q_bi, q_ba, q_pr, q_ob, q_iT, q_iN, q_it, q_if, q_of, nI_add, pk_mul, pk_sub, nI_leI, nI_ltI, nI_eq, nI_clamp, nI_lt0, nI_eqm, m1_eq, true_or, or_true, not_false_eq_true, m1_lt, m1_nlt, m1_le, m1_nle, b01, b011, q_em, q_m1, n_0, n_1, n_2, n_3, n_4, n_5, n_6, n_7, n_8, n_9, n_10, n_11, n_12, n_14, n_15, n_16, n_20, n_24, n_25, n_32, n_36, n_40, n_41, n_42, n_43, n_45, n_46, n_48, n_57, n_59, n_60, n_73, n_76, n_97, n_99, n_100, n_106, n_109, n_120, n_122, n_136, n_160, n_176, n_200, n_255, n_800, n_1000, n_1001, n_1002, n_1003, n_1006, n_1012, n_1018, n_1019, n_1020, n_1100, n_1140, n_4800, n_4920, n_5940, n_6740, n_20220, q_kI, q_lI, q_nI, q_rI, q_iI, q_jI, q_dI, q_kJ, q_lJ, q_nJ, q_rJ, q_iJ, q_jJ, q_dJ, q_kC, q_lC, q_nC, q_rC, q_jC, q_dC, q_kF, q_lF, q_nF, q_rF, q_jF, q_dF, q_us, q_un, q_ua, L_X2_dropCard_17, B_X2_dropCard_17, k1, g]
  | succ k ih =>
    intro fu c μ A hf he h g hr
    obtain ⟨fu, rfl⟩ : ∃ k, fu = k + 1 := ⟨fu - 1, by omega⟩
    have k1 := h.1
    obtain ⟨μ1, e1, h1, f1⟩ := x2_tk (a := c + 1) (b := c) h g hn (by omega) (by omega) (by omega) hr.x
    obtain ⟨μ', q1, q2, q3, q4⟩ := ih fu (c + 1) μ1 (mv A (c + 1) c) (by omega) (by omega) (h.fx f1) (by rw [f1.I (by omega)]; exact g) h1
    refine ⟨μ', ?_, q2, q3, (f1.mono (fun a ha => Or.inr ha)).trans q4⟩
    clear q2 q3 q4 h1 hr ih
    simp (disch := first | assumption | omega) only [q_bl, q_baT, q_bi, q_ba, q_pr, q_ob, q_iT, q_iN, q_it, q_if, q_of, nI_add, pk_mul, pk_sub, nI_leI, nI_ltI, nI_eq, nI_clamp, nI_lt0, nI_eqm, m1_eq, true_or, or_true, not_false_eq_true, m1_lt, m1_nlt, m1_le, m1_nle, b01, b011, q_em, q_m1, n_0, n_1, n_2, n_3, n_4, n_5, n_6, n_7, n_8, n_9, n_10, n_11, n_12, n_14, n_15, n_16, n_20, n_24, n_25, n_32, n_36, n_40, n_41, n_42, n_43, n_45, n_46, n_48, n_57, n_59, n_60, n_73, n_76, n_97, n_99, n_100, n_106, n_109, n_120, n_122, n_136, n_160, n_176, n_200, n_255, n_800, n_1000, n_1001, n_1002, n_1003, n_1006, n_1012, n_1018, n_1019, n_1020, n_1100, n_1140, n_4800, n_4920, n_5940, n_6740, n_20220, q_kI, q_lI, q_nI, q_rI, q_iI, q_jI, q_dI, q_kJ, q_lJ, q_nJ, q_rJ, q_iJ, q_jJ, q_dJ, q_kC, q_lC, q_nC, q_rC, q_jC, q_dC, q_kF, q_lF, q_nF, q_rF, q_jF, q_dF, q_us, q_un, q_ua, L_X2_dropCard_17, B_X2_dropCard_17, k1, g, Nat.add_sub_cancel, e1, q1]

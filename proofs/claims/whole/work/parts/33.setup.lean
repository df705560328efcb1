/-! LAYER 3: the class's machine: restart, copies -/
theorem l_rst {r : Nat} : ∀ (m n k : Nat) (μ : Mem), m < n → k + m = 6 → SM μ r → (∀ j, j < k → gI μ (r + 23) j = nI 0) → ∃ μ', L_X3_restart_26 n r (nI k) μ = some μ' ∧ (∀ j, j < 6 → gI μ' (r + 23) j = nI 0) ∧ gI μ' (r + 26) 2 = nI 0 ∧ gI μ' (r + 29) 1 = nI 0 ∧ gI μ' r 9 = nI 0 ∧ gI μ' r 10 = nI 0 ∧ gI μ' r 11 = nI 0 ∧ Fx (fun a => a = r + 23 ∨ a = r + 26 ∨ a = r + 29 ∨ a = r) μ μ' := by
  intro m
  induction m with
  | zero =>
    intro n k μ hn he s hj
    obtain ⟨n, rfl⟩ : ∃ k, n = k + 1 := ⟨n - 1, by omega⟩
    obtain rfl : k = 6 := by omega
    have f1 : Fx (fun a => a = r + 23 ∨ a = r + 26 ∨ a = r + 29 ∨ a = r) μ (stI μ (r + 26) 2 (nI 0)) := Fx.stI (Or.inr (Or.inl rfl))
    have f2 : Fx (fun a => a = r + 23 ∨ a = r + 26 ∨ a = r + 29 ∨ a = r) μ (stI (stI μ (r + 26) 2 (nI 0)) (r + 29) 1 (nI 0)) := f1.trans (Fx.stI (Or.inr (Or.inr (Or.inl rfl))))
    have e1 := x4_clear s.sp
    have e2 := x2_clear (s.fx f1).su
    refine ⟨stI (stI (stI (stI (stI μ (r + 26) 2 (nI 0)) (r + 29) 1 (nI 0)) r 9 (nI 0)) r 10 (nI 0)) r 11 (nI 0), ?_, fun j h => ?_, ?_, ?_, ?_, ?_, ?_, f2.trans ((Fx.stI (Or.inr (Or.inr (Or.inr rfl)))).trans ((Fx.stI (Or.inr (Or.inr (Or.inr rfl)))).trans (Fx.stI (Or.inr (Or.inr (Or.inr rfl))))))⟩
    · simp (disch := first | assumption | omega) only [q_bl, q_baT, q_bi, q_ba, q_pr, q_ob, q_iT, q_iN, q_it, q_if, q_of, nI_add, pk_mul, pk_sub, nI_leI, nI_ltI, nI_eq, nI_clamp, nI_lt0, nI_eqm, m1_eq, true_or, or_true, not_false_eq_true, m1_lt, m1_nlt, m1_le, m1_nle, b01, b011, q_em, q_m1, n_0, n_1, n_2, n_3, n_4, n_5, n_6, n_7, n_8, n_9, n_10, n_11, n_12, n_14, n_15, n_16, n_20, n_24, n_25, n_32, n_36, n_40, n_41, n_42, n_43, n_45, n_46, n_48, n_57, n_59, n_60, n_73, n_76, n_97, n_99, n_100, n_106, n_109, n_120, n_122, n_136, n_160, n_176, n_200, n_255, n_800, n_1000, n_1001, n_1002, n_1003, n_1006, n_1012, n_1018, n_1019, n_1020, n_1100, n_1140, n_4800, n_4920, n_5940, n_6740, n_20220, q_kI, q_lI, q_nI, q_rI, q_iI, q_jI, q_dI, q_kJ, q_lJ, q_nJ, q_rJ, q_iJ, q_jJ, q_dJ, q_kC, q_lC, q_nC, q_rC, q_jC, q_dC, q_kF, q_lF, q_nF, q_rF, q_jF, q_dF, q_us, q_un, q_ua, L_X3_restart_26, B_X3_restart_26, s.k0, s.r4, s.k23, s.l23, s.r7, s.k26, s.r8, s.k29, e1, e2]
    · simp (disch := first | assumption | omega) only [q_bl, q_baT, q_bi, q_ba, q_pr, q_ob, q_iT, q_iN, q_it, q_if, q_of, nI_add, pk_mul, pk_sub, nI_leI, nI_ltI, nI_eq, nI_clamp, nI_lt0, nI_eqm, m1_eq, true_or, or_true, not_false_eq_true, m1_lt, m1_nlt, m1_le, m1_nle, b01, b011, q_em, q_m1, n_0, n_1, n_2, n_3, n_4, n_5, n_6, n_7, n_8, n_9, n_10, n_11, n_12, n_14, n_15, n_16, n_20, n_24, n_25, n_32, n_36, n_40, n_41, n_42, n_43, n_45, n_46, n_48, n_57, n_59, n_60, n_73, n_76, n_97, n_99, n_100, n_106, n_109, n_120, n_122, n_136, n_160, n_176, n_200, n_255, n_800, n_1000, n_1001, n_1002, n_1003, n_1006, n_1012, n_1018, n_1019, n_1020, n_1100, n_1140, n_4800, n_4920, n_5940, n_6740, n_20220, q_kI, q_lI, q_nI, q_rI, q_iI, q_jI, q_dI, q_kJ, q_lJ, q_nJ, q_rJ, q_iJ, q_jJ, q_dJ, q_kC, q_lC, q_nC, q_rC, q_jC, q_dC, q_kF, q_lF, q_nF, q_rF, q_jF, q_dF, q_us, q_un, q_ua]; exact hj j h
    · simp (disch := first | assumption | omega) only [q_bl, q_baT, q_bi, q_ba, q_pr, q_ob, q_iT, q_iN, q_it, q_if, q_of, nI_add, pk_mul, pk_sub, nI_leI, nI_ltI, nI_eq, nI_clamp, nI_lt0, nI_eqm, m1_eq, true_or, or_true, not_false_eq_true, m1_lt, m1_nlt, m1_le, m1_nle, b01, b011, q_em, q_m1, n_0, n_1, n_2, n_3, n_4, n_5, n_6, n_7, n_8, n_9, n_10, n_11, n_12, n_14, n_15, n_16, n_20, n_24, n_25, n_32, n_36, n_40, n_41, n_42, n_43, n_45, n_46, n_48, n_57, n_59, n_60, n_73, n_76, n_97, n_99, n_100, n_106, n_109, n_120, n_122, n_136, n_160, n_176, n_200, n_255, n_800, n_1000, n_1001, n_1002, n_1003, n_1006, n_1012, n_1018, n_1019, n_1020, n_1100, n_1140, n_4800, n_4920, n_5940, n_6740, n_20220, q_kI, q_lI, q_nI, q_rI, q_iI, q_jI, q_dI, q_kJ, q_lJ, q_nJ, q_rJ, q_iJ, q_jJ, q_dJ, q_kC, q_lC, q_nC, q_rC, q_jC, q_dC, q_kF, q_lF, q_nF, q_rF, q_jF, q_dF, q_us, q_un, q_ua]
    · simp (disch := first | assumption | omega) only [q_bl, q_baT, q_bi, q_ba, q_pr, q_ob, q_iT, q_iN, q_it, q_if, q_of, nI_add, pk_mul, pk_sub, nI_leI, nI_ltI, nI_eq, nI_clamp, nI_lt0, nI_eqm, m1_eq, true_or, or_true, not_false_eq_true, m1_lt, m1_nlt, m1_le, m1_nle, b01, b011, q_em, q_m1, n_0, n_1, n_2, n_3, n_4, n_5, n_6, n_7, n_8, n_9, n_10, n_11, n_12, n_14, n_15, n_16, n_20, n_24, n_25, n_32, n_36, n_40, n_41, n_42, n_43, n_45, n_46, n_48, n_57, n_59, n_60, n_73, n_76, n_97, n_99, n_100, n_106, n_109, n_120, n_122, n_136, n_160, n_176, n_200, n_255, n_800, n_1000, n_1001, n_1002, n_1003, n_1006, n_1012, n_1018, n_1019, n_1020, n_1100, n_1140, n_4800, n_4920, n_5940, n_6740, n_20220, q_kI, q_lI, q_nI, q_rI, q_iI, q_jI, q_dI, q_kJ, q_lJ, q_nJ, q_rJ, q_iJ, q_jJ, q_dJ, q_kC, q_lC, q_nC, q_rC, q_jC, q_dC, q_kF, q_lF, q_nF, q_rF, q_jF, q_dF, q_us, q_un, q_ua]
    · simp (disch := first | assumption | omega) only [q_bl, q_baT, q_bi, q_ba, q_pr, q_ob, q_iT, q_iN, q_it, q_if, q_of, nI_add, pk_mul, pk_sub, nI_leI, nI_ltI, nI_eq, nI_clamp, nI_lt0, nI_eqm, m1_eq, true_or, or_true, not_false_eq_true, m1_lt, m1_nlt, m1_le, m1_nle, b01, b011, q_em, q_m1, n_0, n_1, n_2, n_3, n_4, n_5, n_6, n_7, n_8, n_9, n_10, n_11, n_12, n_14, n_15, n_16, n_20, n_24, n_25, n_32, n_36, n_40, n_41, n_42, n_43, n_45, n_46, n_48, n_57, n_59, n_60, n_73, n_76, n_97, n_99, n_100, n_106, n_109, n_120, n_122, n_136, n_160, n_176, n_200, n_255, n_800, n_1000, n_1001, n_1002, n_1003, n_1006, n_1012, n_1018, n_1019, n_1020, n_1100, n_1140, n_4800, n_4920, n_5940, n_6740, n_20220, q_kI, q_lI, q_nI, q_rI, q_iI, q_jI, q_dI, q_kJ, q_lJ, q_nJ, q_rJ, q_iJ, q_jJ, q_dJ, q_kC, q_lC, q_nC, q_rC, q_jC, q_dC, q_kF, q_lF, q_nF, q_rF, q_jF, q_dF, q_us, q_un, q_ua]
    · simp (disch := first | assumption | omega) only [q_bl, q_baT, q_bi, q_ba, q_pr, q_ob, q_iT, q_iN, q_it, q_if, q_of, nI_add, pk_mul, pk_sub, nI_leI, nI_ltI, nI_eq, nI_clamp, nI_lt0, nI_eqm, m1_eq, true_or, or_true, not_false_eq_true, m1_lt, m1_nlt, m1_le, m1_nle, b01, b011, q_em, q_m1, n_0, n_1, n_2, n_3, n_4, n_5, n_6, n_7, n_8, n_9, n_10, n_11, n_12, n_14, n_15, n_16, n_20, n_24, n_25, n_32, n_36, n_40, n_41, n_42, n_43, n_45, n_46, n_48, n_57, n_59, n_60, n_73, n_76, n_97, n_99, n_100, n_106, n_109, n_120, n_122, n_136, n_160, n_176, n_200, n_255, n_800, n_1000, n_1001, n_1002, n_1003, n_1006, n_1012, n_1018, n_1019, n_1020, n_1100, n_1140, n_4800, n_4920, n_5940, n_6740, n_20220, q_kI, q_lI, q_nI, q_rI, q_iI, q_jI, q_dI, q_kJ, q_lJ, q_nJ, q_rJ, q_iJ, q_jJ, q_dJ, q_kC, q_lC, q_nC, q_rC, q_jC, q_dC, q_kF, q_lF, q_nF, q_rF, q_jF, q_dF, q_us, q_un, q_ua]
    · simp (disch := first | assumption | omega) only [q_bl, q_baT, q_bi, q_ba, q_pr, q_ob, q_iT, q_iN, q_it, q_if, q_of, nI_add, pk_mul, pk_sub, nI_leI, nI_ltI, nI_eq, nI_clamp, nI_lt0, nI_eqm, m1_eq, true_or, or_true, not_false_eq_true, m1_lt, m1_nlt, m1_le, m1_nle, b01, b011, q_em, q_m1, n_0, n_1, n_2, n_3, n_4, n_5, n_6, n_7, n_8, n_9, n_10, n_11, n_12, n_14, n_15, n_16, n_20, n_24, n_25, n_32, n_36, n_40, n_41, n_42, n_43, n_45, n_46, n_48, n_57, n_59, n_60, n_73, n_76, n_97, n_99, n_100, n_106, n_109, n_120, n_122, n_136, n_160, n_176, n_200, n_255, n_800, n_1000, n_1001, n_1002, n_1003, n_1006, n_1012, n_1018, n_1019, n_1020, n_1100, n_1140, n_4800, n_4920, n_5940, n_6740, n_20220, q_kI, q_lI, q_nI, q_rI, q_iI, q_jI, q_dI, q_kJ, q_lJ, q_nJ, q_rJ, q_iJ, q_jJ, q_dJ, q_kC, q_lC, q_nC, q_rC, q_jC, q_dC, q_kF, q_lF, q_nF, q_rF, q_jF, q_dF, q_us, q_un, q_ua]
  | succ m ih =>
    intro n k μ hn he s hj
    obtain ⟨n, rfl⟩ : ∃ k, n = k + 1 := ⟨n - 1, by omega⟩
    have f1 : Fx (fun a => a = r + 23 ∨ a = r + 26 ∨ a = r + 29 ∨ a = r) μ (stI μ (r + 23) k (nI 0)) := Fx.stI (Or.inl rfl)
    obtain ⟨μ2, e2, q1, q2, q3, q4, q5, q6, f2⟩ := ih n (k + 1) (stI μ (r + 23) k (nI 0)) (by omega) (by omega) (s.fx f1) (fun j h => by
      rw [q_iI]
      by_cases hjk : j = k
      · subst hjk; rw [q_us]
      · rw [q_un (by omega)]; exact hj j (by omega))
    exact ⟨μ2, by simp (disch := first | assumption | omega) only [q_bl, q_baT, q_bi, q_ba, q_pr, q_ob, q_iT, q_iN, q_it, q_if, q_of, nI_add, pk_mul, pk_sub, nI_leI, nI_ltI, nI_eq, nI_clamp, nI_lt0, nI_eqm, m1_eq, true_or, or_true, not_false_eq_true, m1_lt, m1_nlt, m1_le, m1_nle, b01, b011, q_em, q_m1, n_0, n_1, n_2, n_3, n_4, n_5, n_6, n_7, n_8, n_9, n_10, n_11, n_12, n_14, n_15, n_16, n_20, n_24, n_25, n_32, n_36, n_40, n_41, n_42, n_43, n_45, n_46, n_48, n_57, n_59, n_60, n_73, n_76, n_97, n_99, n_100, n_106, n_109, n_120, n_122, n_136, n_160, n_176, n_200, n_255, n_800, n_1000, n_1001, n_1002, n_1003, n_1006, n_1012, n_1018, n_1019, n_1020, n_1100, n_1140, n_4800, n_4920, n_5940, n_6740, n_20220, q_kI, q_lI, q_nI, q_rI, q_iI, q_jI, q_dI, q_kJ, q_lJ, q_nJ, q_rJ, q_iJ, q_jJ, q_dJ, q_kC, q_lC, q_nC, q_rC, q_jC, q_dC, q_kF, q_lF, q_nF, q_rF, q_jF, q_dF, q_us, q_un, q_ua, L_X3_restart_26, B_X3_restart_26, s.k0, s.r4, s.k23, s.l23, e2, true_or], q1, q2, q3, q4, q5, q6, f1.trans f2⟩
theorem reset_lo {A : SA} {i : Nat} (h : i < 1000) : sp_reset A i = A i := by unfold sp_reset; rw [if_neg (by omega)]
theorem reset_hi {A : SA} {i : Nat} (h : 1020 ≤ i) : sp_reset A i = A i := by unfold sp_reset; rw [if_neg (by omega)]
theorem reset_0 {A : SA} {i : Nat} (h : 1000 ≤ i) (h2 : i < 1020) : sp_reset A i = nI 0 := by unfold sp_reset; rw [if_pos ⟨h, h2⟩]
theorem nt0 : nt (nI 0) = 0 := nt_nI (by decide)
theorem isN0 (b : Nat) : isN (nI 0) 0 b := ⟨0, rfl, by omega, by omega⟩
theorem WM.reset {A : SA} (w : WB A) : WM (sp_reset A) 0 := by
  unfold WM
  rw [reset_0 (i := 1000) (by decide) (by decide), reset_0 (i := 1001) (by decide) (by decide), reset_0 (i := 1002) (by decide) (by decide), reset_0 (i := 1018) (by decide) (by decide), reset_0 (i := 1019) (by decide) (by decide), nt0]
  exact ⟨isN0 _, isN0 _, ⟨isN0 _, Nat.pow_pos (by decide)⟩, fun k hk => by rw [reset_0 (by omega) (by omega)]; decide +kernel, fun k hk => by rw [reset_0 (by omega) (by omega)]; exact isN0 _, isN0 _, isN0 _, fun i k hi => by omega⟩
theorem x3_restart {μ : Mem} {r : Nat} {A : SA} (s : SM μ r) (hr : RBD (gI μ) r A) (w : WB A) : ∃ μ', F_X3_restart r μ = some μ' ∧ MO μ' r (sp_reset A) 0 ∧ Fx (MR r) μ μ' := by
  have e1 := f_fill2 (r := r + 21) (v := nI 0) (μ := μ) s.k21 (by rw [s.l21]; decide)
  rw [s.l21] at e1
  have f1 : Fx (MR r) μ (stF μ (r + 21) 0 6 (nI 0)) := Fx.stF ⟨by omega, by omega⟩
  have s1 := s.fx f1
  have e2 := f_fill2 (r := r + 22) (v := nI 0) s1.k22 (by rw [s1.l22]; decide)
  rw [s1.l22] at e2
  have f2 := f1.trans (Fx.stF (P := MR r) (a := r + 22) (lo := 0) (hi := 6) (v := nI 0) ⟨by omega, by omega⟩)
  have s2 := s.fx f2
  have e3 := f_fill2 (r := r + 24) (v := nI 0) s2.k24 (by rw [s2.l24]; decide)
  rw [s2.l24] at e3
  have f3 := f2.trans (Fx.stF (P := MR r) (a := r + 24) (lo := 0) (hi := 4) (v := nI 0) ⟨by omega, by omega⟩)
  have s3 := s.fx f3
  obtain ⟨μ', e4, q1, q2, q3, q4, q5, q6, f4⟩ := l_rst (r := r) 6 FU 0 _ (FU_gt (by decide)) (by decide) s3 (fun j hj => by omega)
  have f5 : Fx (MR r) μ μ' := f3.trans (f4.mono (fun a ha => by rcases ha with h | h | h | h <;> exact ⟨by omega, by omega⟩))
  have eI : ∀ a, ¬ a = r + 23 → ¬ a = r + 26 → ¬ a = r + 29 → ¬ a = r → gI μ' a = gI (stF (stF (stF μ (r + 21) 0 6 (nI 0)) (r + 22) 0 6 (nI 0)) (r + 24) 0 4 (nI 0)) a := fun a a1 a2 a3 a4 => f4.I (fun q => by rcases q with q | q | q | q <;> contradiction)
  have eJ : ∀ a, ¬ (r + 21 ≤ a ∧ a ≤ r + 30) → ¬ a = r → gI μ' a = gI μ a := fun a ha h0 => by
    rw [eI a (by omega) (by omega) (by omega) h0, q_iFo (by omega), q_iFo (by omega), q_iFo (by omega)]
  have z : ∀ i, 1000 ≤ i → i < 1020 → sp_reset A i = nI 0 := fun i h1 h2 => reset_0 h1 h2
  refine ⟨μ', ?_, ⟨s.fx f5, ⟨hr.1.cg w (fun a h1 h2 => eJ a (by omega) (by omega)) (fun i hi => reset_lo hi), hr.2.cg w (eJ _ (by omega) (by omega)) (eJ _ (by omega) (by omega)) (fun i hi => reset_lo hi), fun k hk => ?_, fun k hk => ?_, fun k hk => ?_, fun l h1 h2 => ?_, ⟨?_, ?_⟩, ⟨?_, ?_⟩, ?_⟩, w.cg (fun i hi => reset_lo hi), WM.reset w⟩, f5⟩
  · simp (disch := first | assumption | omega) only [q_bl, q_baT, q_bi, q_ba, q_pr, q_ob, q_iT, q_iN, q_it, q_if, q_of, nI_add, pk_mul, pk_sub, nI_leI, nI_ltI, nI_eq, nI_clamp, nI_lt0, nI_eqm, m1_eq, true_or, or_true, not_false_eq_true, m1_lt, m1_nlt, m1_le, m1_nle, b01, b011, q_em, q_m1, n_0, n_1, n_2, n_3, n_4, n_5, n_6, n_7, n_8, n_9, n_10, n_11, n_12, n_14, n_15, n_16, n_20, n_24, n_25, n_32, n_36, n_40, n_41, n_42, n_43, n_45, n_46, n_48, n_57, n_59, n_60, n_73, n_76, n_97, n_99, n_100, n_106, n_109, n_120, n_122, n_136, n_160, n_176, n_200, n_255, n_800, n_1000, n_1001, n_1002, n_1003, n_1006, n_1012, n_1018, n_1019, n_1020, n_1100, n_1140, n_4800, n_4920, n_5940, n_6740, n_20220, q_kI, q_lI, q_nI, q_rI, q_iI, q_jI, q_dI, q_kJ, q_lJ, q_nJ, q_rJ, q_iJ, q_jJ, q_dJ, q_kC, q_lC, q_nC, q_rC, q_jC, q_dC, q_kF, q_lF, q_nF, q_rF, q_jF, q_dF, q_us, q_un, q_ua, F_X3_restart, s.k0, s.r2, s.r3, s.r5, s1.k0, s1.r3, s2.k0, s2.r5, e1, e2, e3, e4]
  · rw [eI _ (by omega) (by omega) (by omega) (by omega), q_iFo (by omega), q_iFo (by omega), q_iF, if_pos (by omega), z _ (by omega) (by omega)]
  · rw [eI _ (by omega) (by omega) (by omega) (by omega), q_iFo (by omega), q_iF, if_pos (by omega), z _ (by omega) (by omega)]
  · rw [q1 k hk, z 1002 (by decide) (by decide), nt0, Nat.zero_div, Nat.zero_mod]
  · rw [eI _ (by omega) (by omega) (by omega) (by omega), q_iF, if_pos (by omega), z _ (by omega) (by omega)]
  · rw [q2, z 1018 (by decide) (by decide)]
  · rw [z 1018 (by decide) (by decide), nt0]; intro l hl; omega
  · rw [q3, z 1019 (by decide) (by decide), nt0]; rfl
  · rw [z 1019 (by decide) (by decide), nt0]; intro i k hi; omega
  · exact ⟨by rw [q4, z 1019 (by decide) (by decide)], by rw [q5, z 1000 (by decide) (by decide)], by rw [q6, z 1001 (by decide) (by decide)]⟩
-- copies
theorem x6_cp {μ : Mem} {t t2 : Nat} (h : ST μ t) (h2 : ST μ t2) (hn : ¬ t2 = t + 1) (hn2 : ¬ t2 = t) (hn3 : ¬ t2 + 1 = t) : ∃ μ', F_X6_copyFrom t t2 μ = some μ' ∧ Fx (fun a => a = t ∨ a = t + 1) μ μ' ∧ gI μ' t 2 = gI μ t2 2 ∧ ∀ j, j < 60 → gI μ' (t + 1) j = gI μ (t2 + 1) j :=
  ⟨_, x6_copy h h2 hn, (Fx.stC (Or.inr rfl)).trans (Fx.stI (Or.inl rfl)), by rw [q_iI, q_us], fun j hj => by
    rw [q_iI, q_un (by omega), q_iCi (by omega) (by omega)]; congr 1; omega⟩
theorem x2_cp {μ : Mem} {d d2 : Nat} (h : SD μ d) (h2 : SD μ d2) (hn : ¬ d2 = d + 1) (hn2 : ¬ d2 = d) (hn3 : ¬ d2 + 1 = d) : ∃ μ', F_X2_copyFrom d d2 μ = some μ' ∧ Fx (fun a => a = d ∨ a = d + 1) μ μ' ∧ gI μ' d 1 = gI μ d2 1 ∧ ∀ j, j < 800 → gI μ' (d + 1) j = gI μ (d2 + 1) j := by
  obtain ⟨h1, h2', h3, h4⟩ := h
  obtain ⟨a1, a2, a3, a4⟩ := h2
  refine ⟨stI (stC μ (d2 + 1) 0 (d + 1) 0 800) d 1 (gI μ d2 1), ?_, (Fx.stC (Or.inr rfl)).trans (Fx.stI (Or.inl rfl)), by rw [q_iI, q_us], fun j hj => by
    rw [q_iI, q_un (by omega), q_iCi (by omega) (by omega)]; congr 1; omega⟩
  simp (disch := first | assumption | omega) only [q_bl, q_baT, q_bi, q_ba, q_pr, q_ob, q_iT, q_iN, q_it, q_if, q_of, nI_add, pk_mul, pk_sub, nI_leI, nI_ltI, nI_eq, nI_clamp, nI_lt0, nI_eqm, m1_eq, true_or, or_true, not_false_eq_true, m1_lt, m1_nlt, m1_le, m1_nle, b01, b011, q_em, q_m1, n_0, n_1, n_2, n_3, n_4, n_5, n_6, n_7, n_8, n_9, n_10, n_11, n_12, n_14, n_15, n_16, n_20, n_24, n_25, n_32, n_36, n_40, n_41, n_42, n_43, n_45, n_46, n_48, n_57, n_59, n_60, n_73, n_76, n_97, n_99, n_100, n_106, n_109, n_120, n_122, n_136, n_160, n_176, n_200, n_255, n_800, n_1000, n_1001, n_1002, n_1003, n_1006, n_1012, n_1018, n_1019, n_1020, n_1100, n_1140, n_4800, n_4920, n_5940, n_6740, n_20220, q_kI, q_lI, q_nI, q_rI, q_iI, q_jI, q_dI, q_kJ, q_lJ, q_nJ, q_rJ, q_iJ, q_jJ, q_dJ, q_kC, q_lC, q_nC, q_rC, q_jC, q_dC, q_kF, q_lF, q_nF, q_rF, q_jF, q_dF, q_us, q_un, q_ua, F_X2_copyFrom, h1, h2', h3, h4, a1, a2, a3, a4, q_oT, Nat.zero_add, q_iCo]
theorem x4_cp {μ : Mem} {d d2 : Nat} (h : SP μ d) (h2 : SP μ d2) (hn : d + 3 ≤ d2 ∨ d2 + 3 ≤ d) : ∃ μ', F_X4_copyFrom d d2 μ = some μ' ∧ Fx (fun a => d ≤ a ∧ a < d + 3) μ μ' ∧ gI μ' d 2 = gI μ d2 2 ∧ (∀ j, j < 4800 → gI μ' (d + 1) j = gI μ (d2 + 1) j) ∧ ∀ j, j < 120 → gI μ' (d + 2) j = gI μ (d2 + 2) j := by
  obtain ⟨h1, h2', h3, h4, h5, h6, h7⟩ := h
  obtain ⟨a1, a2, a3, a4, a5, a6, a7⟩ := h2
  refine ⟨stI (stC (stC μ (d2 + 1) 0 (d + 1) 0 4800) (d2 + 2) 0 (d + 2) 0 120) d 2 (gI μ d2 2), ?_, (Fx.stC ⟨by omega, by omega⟩).trans ((Fx.stC ⟨by omega, by omega⟩).trans (Fx.stI ⟨by omega, by omega⟩)), by rw [q_iI, q_us], fun j hj => ?_, fun j hj => ?_⟩
  · simp (disch := first | assumption | omega) only [q_bl, q_baT, q_bi, q_ba, q_pr, q_ob, q_iT, q_iN, q_it, q_if, q_of, nI_add, pk_mul, pk_sub, nI_leI, nI_ltI, nI_eq, nI_clamp, nI_lt0, nI_eqm, m1_eq, true_or, or_true, not_false_eq_true, m1_lt, m1_nlt, m1_le, m1_nle, b01, b011, q_em, q_m1, n_0, n_1, n_2, n_3, n_4, n_5, n_6, n_7, n_8, n_9, n_10, n_11, n_12, n_14, n_15, n_16, n_20, n_24, n_25, n_32, n_36, n_40, n_41, n_42, n_43, n_45, n_46, n_48, n_57, n_59, n_60, n_73, n_76, n_97, n_99, n_100, n_106, n_109, n_120, n_122, n_136, n_160, n_176, n_200, n_255, n_800, n_1000, n_1001, n_1002, n_1003, n_1006, n_1012, n_1018, n_1019, n_1020, n_1100, n_1140, n_4800, n_4920, n_5940, n_6740, n_20220, q_kI, q_lI, q_nI, q_rI, q_iI, q_jI, q_dI, q_kJ, q_lJ, q_nJ, q_rJ, q_iJ, q_jJ, q_dJ, q_kC, q_lC, q_nC, q_rC, q_jC, q_dC, q_kF, q_lF, q_nF, q_rF, q_jF, q_dF, q_us, q_un, q_ua, F_X4_copyFrom, h1, h2', h3, h4, h5, h6, h7, a1, a2, a3, a4, a5, a6, a7, q_oT, Nat.zero_add, q_iCo]
  · rw [q_iI, q_un (by omega), q_iCo (by omega), q_iCi (by omega) (by omega)]; congr 1; omega
  · rw [q_iI, q_un (by omega), q_iCi (by omega) (by omega), q_iCo (by omega)]; congr 1; omega
def bdEq (I' I : Nat → SA) (b c : Nat) : Prop := (∀ k, k < 8 → I' (b + 1 + 2 * k) 2 = I (c + 1 + 2 * k) 2 ∧ ∀ j, j < 60 → I' (b + 2 + 2 * k) j = I (c + 2 + 2 * k) j) ∧ ∀ j, j < 4 → I' (b + 17) j = I (c + 17) j
theorem x1_cp {μ : Mem} {b c : Nat} (h : SB μ b) (h2 : SB μ c) (hn : b + 18 ≤ c ∨ c + 18 ≤ b) : ∃ μ', F_X1_copyFrom b c μ = some μ' ∧ Fx (fun a => b ≤ a ∧ a < b + 18) μ μ' ∧ bdEq (gI μ') (gI μ) b c := by
  have g0 := h
  have k0 := h2
  have f0 : Fx (fun a => b ≤ a ∧ a < b + 18) μ μ := Fx.same
  obtain ⟨μ1, e1, p1, q1, r1⟩ := x6_cp (t := b + 1) (t2 := c + 1) (g0.2.1 0 (by decide)).2 (k0.2.1 0 (by decide)).2 (by omega) (by omega) (by omega)
  have f1 := f0.trans (p1.mono (fun a ha => by rcases ha with w | w <;> exact ⟨by omega, by omega⟩) : Fx (fun a => b ≤ a ∧ a < b + 18) _ _)
  have g1 := h.fx f1
  have k1 := h2.fx f1
  obtain ⟨μ2, e2, p2, q2, r2⟩ := x6_cp (t := b + 3) (t2 := c + 3) (g1.2.1 1 (by decide)).2 (k1.2.1 1 (by decide)).2 (by omega) (by omega) (by omega)
  have f2 := f1.trans (p2.mono (fun a ha => by rcases ha with w | w <;> exact ⟨by omega, by omega⟩) : Fx (fun a => b ≤ a ∧ a < b + 18) _ _)
  have g2 := h.fx f2
  have k2 := h2.fx f2
  obtain ⟨μ3, e3, p3, q3, r3⟩ := x6_cp (t := b + 5) (t2 := c + 5) (g2.2.1 2 (by decide)).2 (k2.2.1 2 (by decide)).2 (by omega) (by omega) (by omega)
  have f3 := f2.trans (p3.mono (fun a ha => by rcases ha with w | w <;> exact ⟨by omega, by omega⟩) : Fx (fun a => b ≤ a ∧ a < b + 18) _ _)
  have g3 := h.fx f3
  have k3 := h2.fx f3
  obtain ⟨μ4, e4, p4, q4, r4⟩ := x6_cp (t := b + 7) (t2 := c + 7) (g3.2.1 3 (by decide)).2 (k3.2.1 3 (by decide)).2 (by omega) (by omega) (by omega)
  have f4 := f3.trans (p4.mono (fun a ha => by rcases ha with w | w <;> exact ⟨by omega, by omega⟩) : Fx (fun a => b ≤ a ∧ a < b + 18) _ _)
  have g4 := h.fx f4
  have k4 := h2.fx f4
  obtain ⟨μ5, e5, p5, q5, r5⟩ := x6_cp (t := b + 9) (t2 := c + 9) (g4.2.1 4 (by decide)).2 (k4.2.1 4 (by decide)).2 (by omega) (by omega) (by omega)
  have f5 := f4.trans (p5.mono (fun a ha => by rcases ha with w | w <;> exact ⟨by omega, by omega⟩) : Fx (fun a => b ≤ a ∧ a < b + 18) _ _)
  have g5 := h.fx f5
  have k5 := h2.fx f5
  obtain ⟨μ6, e6, p6, q6, r6⟩ := x6_cp (t := b + 11) (t2 := c + 11) (g5.2.1 5 (by decide)).2 (k5.2.1 5 (by decide)).2 (by omega) (by omega) (by omega)
  have f6 := f5.trans (p6.mono (fun a ha => by rcases ha with w | w <;> exact ⟨by omega, by omega⟩) : Fx (fun a => b ≤ a ∧ a < b + 18) _ _)
  have g6 := h.fx f6
  have k6 := h2.fx f6
  obtain ⟨μ7, e7, p7, q7, r7⟩ := x6_cp (t := b + 13) (t2 := c + 13) (g6.2.1 6 (by decide)).2 (k6.2.1 6 (by decide)).2 (by omega) (by omega) (by omega)
  have f7 := f6.trans (p7.mono (fun a ha => by rcases ha with w | w <;> exact ⟨by omega, by omega⟩) : Fx (fun a => b ≤ a ∧ a < b + 18) _ _)
  have g7 := h.fx f7
  have k7 := h2.fx f7
  obtain ⟨μ8, e8, p8, q8, r8⟩ := x6_cp (t := b + 15) (t2 := c + 15) (g7.2.1 7 (by decide)).2 (k7.2.1 7 (by decide)).2 (by omega) (by omega) (by omega)
  have f8 := f7.trans (p8.mono (fun a ha => by rcases ha with w | w <;> exact ⟨by omega, by omega⟩) : Fx (fun a => b ≤ a ∧ a < b + 18) _ _)
  have g8 := h.fx f8
  have k8 := h2.fx f8
  refine ⟨stC μ8 (c + 17) 0 (b + 17) 0 4, ?_, f8.trans (Fx.stC ⟨by omega, by omega⟩), fun k hk => ?_, fun j hj => ?_⟩
  · have u0 : gR μ b 0 = b + 1 := (g0.2.1 0 (by decide)).1
    have v0 : gR μ c 0 = c + 1 := (k0.2.1 0 (by decide)).1
    have w0 : gK μ (b + 1) = 6 := (g0.2.1 0 (by decide)).2.1
    have u1 : gR μ1 b 1 = b + 3 := (g1.2.1 1 (by decide)).1
    have v1 : gR μ1 c 1 = c + 3 := (k1.2.1 1 (by decide)).1
    have w1 : gK μ1 (b + 3) = 6 := (g1.2.1 1 (by decide)).2.1
    have u2 : gR μ2 b 2 = b + 5 := (g2.2.1 2 (by decide)).1
    have v2 : gR μ2 c 2 = c + 5 := (k2.2.1 2 (by decide)).1
    have w2 : gK μ2 (b + 5) = 6 := (g2.2.1 2 (by decide)).2.1
    have u3 : gR μ3 b 3 = b + 7 := (g3.2.1 3 (by decide)).1
    have v3 : gR μ3 c 3 = c + 7 := (k3.2.1 3 (by decide)).1
    have w3 : gK μ3 (b + 7) = 6 := (g3.2.1 3 (by decide)).2.1
    have u4 : gR μ4 b 4 = b + 9 := (g4.2.1 4 (by decide)).1
    have v4 : gR μ4 c 4 = c + 9 := (k4.2.1 4 (by decide)).1
    have w4 : gK μ4 (b + 9) = 6 := (g4.2.1 4 (by decide)).2.1
    have u5 : gR μ5 b 5 = b + 11 := (g5.2.1 5 (by decide)).1
    have v5 : gR μ5 c 5 = c + 11 := (k5.2.1 5 (by decide)).1
    have w5 : gK μ5 (b + 11) = 6 := (g5.2.1 5 (by decide)).2.1
    have u6 : gR μ6 b 6 = b + 13 := (g6.2.1 6 (by decide)).1
    have v6 : gR μ6 c 6 = c + 13 := (k6.2.1 6 (by decide)).1
    have w6 : gK μ6 (b + 13) = 6 := (g6.2.1 6 (by decide)).2.1
    have u7 : gR μ7 b 7 = b + 15 := (g7.2.1 7 (by decide)).1
    have v7 : gR μ7 c 7 = c + 15 := (k7.2.1 7 (by decide)).1
    have w7 : gK μ7 (b + 15) = 6 := (g7.2.1 7 (by decide)).2.1
    simp (disch := first | assumption | omega) only [q_bl, q_baT, q_bi, q_ba, q_pr, q_ob, q_iT, q_iN, q_it, q_if, q_of, nI_add, pk_mul, pk_sub, nI_leI, nI_ltI, nI_eq, nI_clamp, nI_lt0, nI_eqm, m1_eq, true_or, or_true, not_false_eq_true, m1_lt, m1_nlt, m1_le, m1_nle, b01, b011, q_em, q_m1, n_0, n_1, n_2, n_3, n_4, n_5, n_6, n_7, n_8, n_9, n_10, n_11, n_12, n_14, n_15, n_16, n_20, n_24, n_25, n_32, n_36, n_40, n_41, n_42, n_43, n_45, n_46, n_48, n_57, n_59, n_60, n_73, n_76, n_97, n_99, n_100, n_106, n_109, n_120, n_122, n_136, n_160, n_176, n_200, n_255, n_800, n_1000, n_1001, n_1002, n_1003, n_1006, n_1012, n_1018, n_1019, n_1020, n_1100, n_1140, n_4800, n_4920, n_5940, n_6740, n_20220, q_kI, q_lI, q_nI, q_rI, q_iI, q_jI, q_dI, q_kJ, q_lJ, q_nJ, q_rJ, q_iJ, q_jJ, q_dJ, q_kC, q_lC, q_nC, q_rC, q_jC, q_dC, q_kF, q_lF, q_nF, q_rF, q_jF, q_dF, q_us, q_un, q_ua, F_X1_copyFrom, g0.1, k0.1, g1.1, k1.1, g2.1, k2.1, g3.1, k3.1, g4.1, k4.1, g5.1, k5.1, g6.1, k6.1, g7.1, k7.1, g8.1, k8.1, u0, v0, w0, u1, v1, w1, u2, v2, w2, u3, v3, w3, u4, v4, w4, u5, v5, w5, u6, v6, w6, u7, v7, w7, g8.2.2.1, g8.2.2.2.1, g8.2.2.2.2, k8.2.2.1, k8.2.2.2.1, k8.2.2.2.2, e1, e2, e3, e4, e5, e6, e7, e8, q_oT, Nat.zero_add]
  · match k, hk with
    | 0, _ =>
      refine ⟨?_, fun j hj => ?_⟩
      · show gI (stC μ8 (c + 17) 0 (b + 17) 0 4) (b + 1) 2 = gI μ (c + 1) 2
        rw [q_iCo (by omega), p8.I (a := b + 1) (by omega), p7.I (a := b + 1) (by omega), p6.I (a := b + 1) (by omega), p5.I (a := b + 1) (by omega), p4.I (a := b + 1) (by omega), p3.I (a := b + 1) (by omega), p2.I (a := b + 1) (by omega), q1]
      · show gI (stC μ8 (c + 17) 0 (b + 17) 0 4) (b + 2) j = gI μ (c + 2) j
        rw [q_iCo (by omega), p8.I (a := b + 2) (by omega), p7.I (a := b + 2) (by omega), p6.I (a := b + 2) (by omega), p5.I (a := b + 2) (by omega), p4.I (a := b + 2) (by omega), p3.I (a := b + 2) (by omega), p2.I (a := b + 2) (by omega), r1 j hj]
    | 1, _ =>
      refine ⟨?_, fun j hj => ?_⟩
      · show gI (stC μ8 (c + 17) 0 (b + 17) 0 4) (b + 3) 2 = gI μ (c + 3) 2
        rw [q_iCo (by omega), p8.I (a := b + 3) (by omega), p7.I (a := b + 3) (by omega), p6.I (a := b + 3) (by omega), p5.I (a := b + 3) (by omega), p4.I (a := b + 3) (by omega), p3.I (a := b + 3) (by omega), q2, p1.I (a := c + 3) (by omega)]
      · show gI (stC μ8 (c + 17) 0 (b + 17) 0 4) (b + 4) j = gI μ (c + 4) j
        rw [q_iCo (by omega), p8.I (a := b + 4) (by omega), p7.I (a := b + 4) (by omega), p6.I (a := b + 4) (by omega), p5.I (a := b + 4) (by omega), p4.I (a := b + 4) (by omega), p3.I (a := b + 4) (by omega), r2 j hj]
        show gI μ1 (c + 4) j = gI μ (c + 4) j
        rw [p1.I (a := c + 4) (by omega)]
    | 2, _ =>
      refine ⟨?_, fun j hj => ?_⟩
      · show gI (stC μ8 (c + 17) 0 (b + 17) 0 4) (b + 5) 2 = gI μ (c + 5) 2
        rw [q_iCo (by omega), p8.I (a := b + 5) (by omega), p7.I (a := b + 5) (by omega), p6.I (a := b + 5) (by omega), p5.I (a := b + 5) (by omega), p4.I (a := b + 5) (by omega), q3, p2.I (a := c + 5) (by omega), p1.I (a := c + 5) (by omega)]
      · show gI (stC μ8 (c + 17) 0 (b + 17) 0 4) (b + 6) j = gI μ (c + 6) j
        rw [q_iCo (by omega), p8.I (a := b + 6) (by omega), p7.I (a := b + 6) (by omega), p6.I (a := b + 6) (by omega), p5.I (a := b + 6) (by omega), p4.I (a := b + 6) (by omega), r3 j hj]
        show gI μ2 (c + 6) j = gI μ (c + 6) j
        rw [p2.I (a := c + 6) (by omega), p1.I (a := c + 6) (by omega)]
    | 3, _ =>
      refine ⟨?_, fun j hj => ?_⟩
      · show gI (stC μ8 (c + 17) 0 (b + 17) 0 4) (b + 7) 2 = gI μ (c + 7) 2
        rw [q_iCo (by omega), p8.I (a := b + 7) (by omega), p7.I (a := b + 7) (by omega), p6.I (a := b + 7) (by omega), p5.I (a := b + 7) (by omega), q4, p3.I (a := c + 7) (by omega), p2.I (a := c + 7) (by omega), p1.I (a := c + 7) (by omega)]
      · show gI (stC μ8 (c + 17) 0 (b + 17) 0 4) (b + 8) j = gI μ (c + 8) j
        rw [q_iCo (by omega), p8.I (a := b + 8) (by omega), p7.I (a := b + 8) (by omega), p6.I (a := b + 8) (by omega), p5.I (a := b + 8) (by omega), r4 j hj]
        show gI μ3 (c + 8) j = gI μ (c + 8) j
        rw [p3.I (a := c + 8) (by omega), p2.I (a := c + 8) (by omega), p1.I (a := c + 8) (by omega)]
    | 4, _ =>
      refine ⟨?_, fun j hj => ?_⟩
      · show gI (stC μ8 (c + 17) 0 (b + 17) 0 4) (b + 9) 2 = gI μ (c + 9) 2
        rw [q_iCo (by omega), p8.I (a := b + 9) (by omega), p7.I (a := b + 9) (by omega), p6.I (a := b + 9) (by omega), q5, p4.I (a := c + 9) (by omega), p3.I (a := c + 9) (by omega), p2.I (a := c + 9) (by omega), p1.I (a := c + 9) (by omega)]
      · show gI (stC μ8 (c + 17) 0 (b + 17) 0 4) (b + 10) j = gI μ (c + 10) j
        rw [q_iCo (by omega), p8.I (a := b + 10) (by omega), p7.I (a := b + 10) (by omega), p6.I (a := b + 10) (by omega), r5 j hj]
        show gI μ4 (c + 10) j = gI μ (c + 10) j
        rw [p4.I (a := c + 10) (by omega), p3.I (a := c + 10) (by omega), p2.I (a := c + 10) (by omega), p1.I (a := c + 10) (by omega)]
    | 5, _ =>
      refine ⟨?_, fun j hj => ?_⟩
      · show gI (stC μ8 (c + 17) 0 (b + 17) 0 4) (b + 11) 2 = gI μ (c + 11) 2
        rw [q_iCo (by omega), p8.I (a := b + 11) (by omega), p7.I (a := b + 11) (by omega), q6, p5.I (a := c + 11) (by omega), p4.I (a := c + 11) (by omega), p3.I (a := c + 11) (by omega), p2.I (a := c + 11) (by omega), p1.I (a := c + 11) (by omega)]
      · show gI (stC μ8 (c + 17) 0 (b + 17) 0 4) (b + 12) j = gI μ (c + 12) j
        rw [q_iCo (by omega), p8.I (a := b + 12) (by omega), p7.I (a := b + 12) (by omega), r6 j hj]
        show gI μ5 (c + 12) j = gI μ (c + 12) j
        rw [p5.I (a := c + 12) (by omega), p4.I (a := c + 12) (by omega), p3.I (a := c + 12) (by omega), p2.I (a := c + 12) (by omega), p1.I (a := c + 12) (by omega)]
    | 6, _ =>
      refine ⟨?_, fun j hj => ?_⟩
      · show gI (stC μ8 (c + 17) 0 (b + 17) 0 4) (b + 13) 2 = gI μ (c + 13) 2
        rw [q_iCo (by omega), p8.I (a := b + 13) (by omega), q7, p6.I (a := c + 13) (by omega), p5.I (a := c + 13) (by omega), p4.I (a := c + 13) (by omega), p3.I (a := c + 13) (by omega), p2.I (a := c + 13) (by omega), p1.I (a := c + 13) (by omega)]
      · show gI (stC μ8 (c + 17) 0 (b + 17) 0 4) (b + 14) j = gI μ (c + 14) j
        rw [q_iCo (by omega), p8.I (a := b + 14) (by omega), r7 j hj]
        show gI μ6 (c + 14) j = gI μ (c + 14) j
        rw [p6.I (a := c + 14) (by omega), p5.I (a := c + 14) (by omega), p4.I (a := c + 14) (by omega), p3.I (a := c + 14) (by omega), p2.I (a := c + 14) (by omega), p1.I (a := c + 14) (by omega)]
    | 7, _ =>
      refine ⟨?_, fun j hj => ?_⟩
      · show gI (stC μ8 (c + 17) 0 (b + 17) 0 4) (b + 15) 2 = gI μ (c + 15) 2
        rw [q_iCo (by omega), q8, p7.I (a := c + 15) (by omega), p6.I (a := c + 15) (by omega), p5.I (a := c + 15) (by omega), p4.I (a := c + 15) (by omega), p3.I (a := c + 15) (by omega), p2.I (a := c + 15) (by omega), p1.I (a := c + 15) (by omega)]
      · show gI (stC μ8 (c + 17) 0 (b + 17) 0 4) (b + 16) j = gI μ (c + 16) j
        rw [q_iCo (by omega), r8 j hj]
        show gI μ7 (c + 16) j = gI μ (c + 16) j
        rw [p7.I (a := c + 16) (by omega), p6.I (a := c + 16) (by omega), p5.I (a := c + 16) (by omega), p4.I (a := c + 16) (by omega), p3.I (a := c + 16) (by omega), p2.I (a := c + 16) (by omega), p1.I (a := c + 16) (by omega)]
    | k + 8, hk => omega
  · rw [q_iCi (by omega) (by omega), show 0 + (j - 0) = j from by omega, p8.I (a := c + 17) (by omega), p7.I (a := c + 17) (by omega), p6.I (a := c + 17) (by omega), p5.I (a := c + 17) (by omega), p4.I (a := c + 17) (by omega), p3.I (a := c + 17) (by omega), p2.I (a := c + 17) (by omega), p1.I (a := c + 17) (by omega)]

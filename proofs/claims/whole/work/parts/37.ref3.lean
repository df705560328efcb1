/-! LAYER 3: the reference: counting a card, lines -/
theorem x9_adds {μ : Mem} {m b k : Nat} {A : SA} (h : RA μ m A) (w : WB A) (wm : WM A b) (hk : k < nt (A 2)) : F_X9_adds m (nI k) μ = some (if sp_adds A k = true then nI 1 else nI 0) := by
  have c2 := w.c2.2
  have c1 := w.c1.2
  have q := w.ctr hk
  have q3 := q.2.2.2.1
  have q4 := q.2.2.2.2.1
  have q5 := q.2.2.2.2.2.2.2.2.2
  have on := wm.2.2.1.1.ex (by decide)
  obtain ⟨s, hA⟩ := h
  rcases q3 with e | ⟨e, e2, e3⟩
  · have h1 : sp_adds A k = true := by unfold sp_adds; rw [if_pos e]
    rw [h1]
    simp (disch := first | assumption | omega) only [q_bl, q_baT, q_bi, q_ba, q_pr, q_ob, q_iT, q_iN, q_it, q_if, q_of, nI_add, pk_mul, pk_sub, nI_leI, nI_ltI, nI_eq, nI_clamp, nI_lt0, nI_eqm, m1_eq, true_or, or_true, not_false_eq_true, m1_lt, m1_nlt, m1_le, m1_nle, b01, b011, q_em, q_m1, n_0, n_1, n_2, n_3, n_4, n_5, n_6, n_7, n_8, n_9, n_10, n_11, n_12, n_14, n_15, n_16, n_20, n_24, n_25, n_32, n_36, n_40, n_41, n_42, n_43, n_45, n_46, n_48, n_57, n_59, n_60, n_73, n_76, n_97, n_99, n_100, n_106, n_109, n_120, n_122, n_136, n_160, n_176, n_200, n_255, n_800, n_1000, n_1001, n_1002, n_1003, n_1006, n_1012, n_1018, n_1019, n_1020, n_1100, n_1140, n_4800, n_4920, n_5940, n_6740, n_20220, q_kI, q_lI, q_nI, q_rI, q_iI, q_jI, q_dI, q_kJ, q_lJ, q_nJ, q_rJ, q_iJ, q_jJ, q_dJ, q_kC, q_lC, q_nC, q_rC, q_jC, q_dC, q_kF, q_lF, q_nF, q_rF, q_jF, q_dF, q_us, q_un, q_ua, F_X9_adds, s.k0, s.r0, s.k1, s.l1, hA, e]
  · have ne : ¬ A (43 + 5 * k + 3) = -nI 1 := by rw [e, nI_eqm (by omega)]; exact id
    have hs : sp_adds A k = decide (¬ nt (A 1002) / 2 ^ nt (A (43 + 5 * k + 3)) % 2 = nt (A (43 + 5 * k + 4))) := by unfold sp_adds; rw [if_neg ne]
    rw [hs]
    generalize nt (A (43 + 5 * k + 4)) = un at *
    generalize nt (A (43 + 5 * k + 3)) = ch at *
    generalize nt (A 1002) = ob at *
    have hsh : nI ob >>> (nI ch &&& nI 31) = nI (ob / 2 ^ ch) := by
      have : ∀ c, c < 6 → (((nI c &&& nI 31).toBitVec.smod 32).toNat = c) := by decide +kernel
      exact pk_shrN (by omega) _ ch (this ch (by omega))
    have han : nI (ob / 2 ^ ch) &&& nI 1 = nI (ob / 2 ^ ch % 2) := by
      have hle : ob / 2 ^ ch ≤ ob := Nat.div_le_self _ _
      have := pk_andN (n := ob / 2 ^ ch) (by omega) (m := nI 1) 1 (by decide +kernel)
      exact this
    have hm := mod2 (ob / 2 ^ ch)
    generalize ob / 2 ^ ch = d at *
    by_cases hx : d % 2 = un
    · simp (disch := first | assumption | omega) only [q_bl, q_baT, q_bi, q_ba, q_pr, q_ob, q_iT, q_iN, q_it, q_if, q_of, nI_add, pk_mul, pk_sub, nI_leI, nI_ltI, nI_eq, nI_clamp, nI_lt0, nI_eqm, m1_eq, true_or, or_true, not_false_eq_true, m1_lt, m1_nlt, m1_le, m1_nle, b01, b011, q_em, q_m1, n_0, n_1, n_2, n_3, n_4, n_5, n_6, n_7, n_8, n_9, n_10, n_11, n_12, n_14, n_15, n_16, n_20, n_24, n_25, n_32, n_36, n_40, n_41, n_42, n_43, n_45, n_46, n_48, n_57, n_59, n_60, n_73, n_76, n_97, n_99, n_100, n_106, n_109, n_120, n_122, n_136, n_160, n_176, n_200, n_255, n_800, n_1000, n_1001, n_1002, n_1003, n_1006, n_1012, n_1018, n_1019, n_1020, n_1100, n_1140, n_4800, n_4920, n_5940, n_6740, n_20220, q_kI, q_lI, q_nI, q_rI, q_iI, q_jI, q_dI, q_kJ, q_lJ, q_nJ, q_rJ, q_iJ, q_jJ, q_dJ, q_kC, q_lC, q_nC, q_rC, q_jC, q_dC, q_kF, q_lF, q_nF, q_rF, q_jF, q_dF, q_us, q_un, q_ua, F_X9_adds, s.k0, s.r0, s.k1, s.l1, hA, e, on.1, q4, n_31, hsh, han, hx, decide_false, Bool.false_eq_true, not_true_eq_false]
    · simp (disch := first | assumption | omega) only [q_bl, q_baT, q_bi, q_ba, q_pr, q_ob, q_iT, q_iN, q_it, q_if, q_of, nI_add, pk_mul, pk_sub, nI_leI, nI_ltI, nI_eq, nI_clamp, nI_lt0, nI_eqm, m1_eq, true_or, or_true, not_false_eq_true, m1_lt, m1_nlt, m1_le, m1_nle, b01, b011, q_em, q_m1, n_0, n_1, n_2, n_3, n_4, n_5, n_6, n_7, n_8, n_9, n_10, n_11, n_12, n_14, n_15, n_16, n_20, n_24, n_25, n_32, n_36, n_40, n_41, n_42, n_43, n_45, n_46, n_48, n_57, n_59, n_60, n_73, n_76, n_97, n_99, n_100, n_106, n_109, n_120, n_122, n_136, n_160, n_176, n_200, n_255, n_800, n_1000, n_1001, n_1002, n_1003, n_1006, n_1012, n_1018, n_1019, n_1020, n_1100, n_1140, n_4800, n_4920, n_5940, n_6740, n_20220, q_kI, q_lI, q_nI, q_rI, q_iI, q_jI, q_dI, q_kJ, q_lJ, q_nJ, q_rJ, q_iJ, q_jJ, q_dJ, q_kC, q_lC, q_nC, q_rC, q_jC, q_dC, q_kF, q_lF, q_nF, q_rF, q_jF, q_dF, q_us, q_un, q_ua, F_X9_adds, s.k0, s.r0, s.k1, s.l1, hA, e, on.1, q4, n_31, hsh, han, decide_true, decide_eq_true_eq]
theorem l9_cnt {m card : Nat} : ∀ (j n k b : Nat) (μ : Mem) (A : SA), j < n → RA μ m A → EX A b → card < nt (A 8) → k + j = nt (A 2) → ∃ μ', L_X9_count_2 n m (nI card) (nI k) μ = some μ' ∧ RA μ' m (sp_cnt card k j A) ∧ Fx (s1 m) μ μ' := by
  intro j
  induction j with
  | zero =>
    intro n k b μ A hn h ex hc he
    obtain ⟨n, rfl⟩ : ∃ k, n = k + 1 := ⟨n - 1, by omega⟩
    have c2 := ex.w.c2
    have h' := h
    obtain ⟨s, hA⟩ := h'
    refine ⟨μ, ?_, h, Fx.same⟩
    generalize nt (A 2) = n2 at *
    simp (disch := first | assumption | omega) only [q_bl, q_baT, q_bi, q_ba, q_pr, q_ob, q_iT, q_iN, q_it, q_if, q_of, nI_add, pk_mul, pk_sub, nI_leI, nI_ltI, nI_eq, nI_clamp, nI_lt0, nI_eqm, m1_eq, true_or, or_true, not_false_eq_true, m1_lt, m1_nlt, m1_le, m1_nle, b01, b011, q_em, q_m1, n_0, n_1, n_2, n_3, n_4, n_5, n_6, n_7, n_8, n_9, n_10, n_11, n_12, n_14, n_15, n_16, n_20, n_24, n_25, n_32, n_36, n_40, n_41, n_42, n_43, n_45, n_46, n_48, n_57, n_59, n_60, n_73, n_76, n_97, n_99, n_100, n_106, n_109, n_120, n_122, n_136, n_160, n_176, n_200, n_255, n_800, n_1000, n_1001, n_1002, n_1003, n_1006, n_1012, n_1018, n_1019, n_1020, n_1100, n_1140, n_4800, n_4920, n_5940, n_6740, n_20220, q_kI, q_lI, q_nI, q_rI, q_iI, q_jI, q_dI, q_kJ, q_lJ, q_nJ, q_rJ, q_iJ, q_jJ, q_dJ, q_kC, q_lC, q_nC, q_rC, q_jC, q_dC, q_kF, q_lF, q_nF, q_rF, q_jF, q_dF, q_us, q_un, q_ua, L_X9_count_2, B_X9_count_2, s.k0, s.r0, s.k1, s.l1, hA, c2.1]
  | succ j ih =>
    intro n k b μ A hn h ex hc he
    obtain ⟨n, rfl⟩ : ∃ k, n = k + 1 := ⟨n - 1, by omega⟩
    have w := ex.w
    have c2 := w.c2
    have hk : k < nt (A 2) := by omega
    have q := w.ctr hk
    have hact := x9_adds h w ex.m hk
    have v1 := x9_plain h w hc q.2.2.2.2.2.2.2.1
    have v2 := x9_signed h w hc q.2.2.2.2.2.2.2.1
    have h' := h
    obtain ⟨s, hA⟩ := h'
    by_cases hx : sp_adds A k = true
    · obtain ⟨μ1, e1, m1, f1⟩ := x9_add (a := sp_amt A card k) h w hk
      have ex1 := ex.add hk (amt_abs w hc hk)
      have ec : ∀ i, i < 1000 → sp_add A k (sp_amt A card k) i = A i := fun i hi => sp_add_at (by omega) (by omega)
      obtain ⟨μ2, e2, m2, f2⟩ := ih n (k + 1) (b + 1) μ1 _ (by omega) m1 ex1 (by rw [ec 8 (by decide)]; exact hc) (by rw [ec 2 (by decide)]; omega)
      refine ⟨μ2, ?_, ?_, f1.trans f2⟩
      · rw [if_pos hx] at hact
        have hm2 : nt (A (43 + 5 * k + 2)) ≤ 2 := q.2.2.2.2.2.2.2.2.1
        have u1 := q.2.1
        have u2 := q.2.2.1
        have am : F_X9_amount m (nI card) (nI (nt (A (43 + 5 * k + 1)))) (nI (nt (A (43 + 5 * k + 2)))) μ = some (sp_amt A card k) := by
          by_cases h1 : nt (A (43 + 5 * k + 2)) = 1
          · have ea : sp_amt A card k = -nI (sp_val A card (nt (A (43 + 5 * k + 1)))) := by
              unfold sp_amt; rw [u2, h1, if_neg (by decide +kernel), if_pos rfl]
            rw [ea, h1]
            simp (disch := first | assumption | omega) only [q_bl, q_baT, q_bi, q_ba, q_pr, q_ob, q_iT, q_iN, q_it, q_if, q_of, nI_add, pk_mul, pk_sub, nI_leI, nI_ltI, nI_eq, nI_clamp, nI_lt0, nI_eqm, m1_eq, true_or, or_true, not_false_eq_true, m1_lt, m1_nlt, m1_le, m1_nle, b01, b011, q_em, q_m1, n_0, n_1, n_2, n_3, n_4, n_5, n_6, n_7, n_8, n_9, n_10, n_11, n_12, n_14, n_15, n_16, n_20, n_24, n_25, n_32, n_36, n_40, n_41, n_42, n_43, n_45, n_46, n_48, n_57, n_59, n_60, n_73, n_76, n_97, n_99, n_100, n_106, n_109, n_120, n_122, n_136, n_160, n_176, n_200, n_255, n_800, n_1000, n_1001, n_1002, n_1003, n_1006, n_1012, n_1018, n_1019, n_1020, n_1100, n_1140, n_4800, n_4920, n_5940, n_6740, n_20220, q_kI, q_lI, q_nI, q_rI, q_iI, q_jI, q_dI, q_kJ, q_lJ, q_nJ, q_rJ, q_iJ, q_jJ, q_dJ, q_kC, q_lC, q_nC, q_rC, q_jC, q_dC, q_kF, q_lF, q_nF, q_rF, q_jF, q_dF, q_us, q_un, q_ua, F_X9_amount, s.k0, v1]
          · by_cases h2 : nt (A (43 + 5 * k + 2)) = 2
            · have ea : sp_amt A card k = sp_sval A card (nt (A (43 + 5 * k + 1))) := by
                unfold sp_amt; rw [u2, h2, if_neg (by decide +kernel), if_neg (by decide +kernel)]
              rw [ea, h2]
              simp (disch := first | assumption | omega) only [q_bl, q_baT, q_bi, q_ba, q_pr, q_ob, q_iT, q_iN, q_it, q_if, q_of, nI_add, pk_mul, pk_sub, nI_leI, nI_ltI, nI_eq, nI_clamp, nI_lt0, nI_eqm, m1_eq, true_or, or_true, not_false_eq_true, m1_lt, m1_nlt, m1_le, m1_nle, b01, b011, q_em, q_m1, n_0, n_1, n_2, n_3, n_4, n_5, n_6, n_7, n_8, n_9, n_10, n_11, n_12, n_14, n_15, n_16, n_20, n_24, n_25, n_32, n_36, n_40, n_41, n_42, n_43, n_45, n_46, n_48, n_57, n_59, n_60, n_73, n_76, n_97, n_99, n_100, n_106, n_109, n_120, n_122, n_136, n_160, n_176, n_200, n_255, n_800, n_1000, n_1001, n_1002, n_1003, n_1006, n_1012, n_1018, n_1019, n_1020, n_1100, n_1140, n_4800, n_4920, n_5940, n_6740, n_20220, q_kI, q_lI, q_nI, q_rI, q_iI, q_jI, q_dI, q_kJ, q_lJ, q_nJ, q_rJ, q_iJ, q_jJ, q_dJ, q_kC, q_lC, q_nC, q_rC, q_jC, q_dC, q_kF, q_lF, q_nF, q_rF, q_jF, q_dF, q_us, q_un, q_ua, F_X9_amount, s.k0, v2]
            · have h0 : nt (A (43 + 5 * k + 2)) = 0 := by omega
              have ea : sp_amt A card k = nI (sp_val A card (nt (A (43 + 5 * k + 1)))) := by
                unfold sp_amt; rw [u2, h0, if_pos rfl]
              rw [ea, h0]
              simp (disch := first | assumption | omega) only [q_bl, q_baT, q_bi, q_ba, q_pr, q_ob, q_iT, q_iN, q_it, q_if, q_of, nI_add, pk_mul, pk_sub, nI_leI, nI_ltI, nI_eq, nI_clamp, nI_lt0, nI_eqm, m1_eq, true_or, or_true, not_false_eq_true, m1_lt, m1_nlt, m1_le, m1_nle, b01, b011, q_em, q_m1, n_0, n_1, n_2, n_3, n_4, n_5, n_6, n_7, n_8, n_9, n_10, n_11, n_12, n_14, n_15, n_16, n_20, n_24, n_25, n_32, n_36, n_40, n_41, n_42, n_43, n_45, n_46, n_48, n_57, n_59, n_60, n_73, n_76, n_97, n_99, n_100, n_106, n_109, n_120, n_122, n_136, n_160, n_176, n_200, n_255, n_800, n_1000, n_1001, n_1002, n_1003, n_1006, n_1012, n_1018, n_1019, n_1020, n_1100, n_1140, n_4800, n_4920, n_5940, n_6740, n_20220, q_kI, q_lI, q_nI, q_rI, q_iI, q_jI, q_dI, q_kJ, q_lJ, q_nJ, q_rJ, q_iJ, q_jJ, q_dJ, q_kC, q_lC, q_nC, q_rC, q_jC, q_dC, q_kF, q_lF, q_nF, q_rF, q_jF, q_dF, q_us, q_un, q_ua, F_X9_amount, s.k0, v1]
        generalize sp_amt A card k = am0 at *
        clear v1 v2
        generalize nt (A (43 + 5 * k + 1)) = fl at *
        generalize nt (A (43 + 5 * k + 2)) = md at *
        generalize nt (A 2) = n2 at *
        simp (disch := first | assumption | omega) only [q_bl, q_baT, q_bi, q_ba, q_pr, q_ob, q_iT, q_iN, q_it, q_if, q_of, nI_add, pk_mul, pk_sub, nI_leI, nI_ltI, nI_eq, nI_clamp, nI_lt0, nI_eqm, m1_eq, true_or, or_true, not_false_eq_true, m1_lt, m1_nlt, m1_le, m1_nle, b01, b011, q_em, q_m1, n_0, n_1, n_2, n_3, n_4, n_5, n_6, n_7, n_8, n_9, n_10, n_11, n_12, n_14, n_15, n_16, n_20, n_24, n_25, n_32, n_36, n_40, n_41, n_42, n_43, n_45, n_46, n_48, n_57, n_59, n_60, n_73, n_76, n_97, n_99, n_100, n_106, n_109, n_120, n_122, n_136, n_160, n_176, n_200, n_255, n_800, n_1000, n_1001, n_1002, n_1003, n_1006, n_1012, n_1018, n_1019, n_1020, n_1100, n_1140, n_4800, n_4920, n_5940, n_6740, n_20220, q_kI, q_lI, q_nI, q_rI, q_iI, q_jI, q_dI, q_kJ, q_lJ, q_nJ, q_rJ, q_iJ, q_jJ, q_dJ, q_kC, q_lC, q_nC, q_rC, q_jC, q_dC, q_kF, q_lF, q_nF, q_rF, q_jF, q_dF, q_us, q_un, q_ua, L_X9_count_2, B_X9_count_2, B_X9_count_54, s.k0, s.r0, s.k1, s.l1, hA, c2.1, hact, u1, u2, am, e1, e2]
      · unfold sp_cnt
        rw [if_pos hx]
        exact m2
    · obtain ⟨μ2, e2, m2, f2⟩ := ih n (k + 1) b μ A (by omega) h ex hc (by omega)
      refine ⟨μ2, ?_, ?_, f2⟩
      · rw [if_neg hx] at hact
        generalize nt (A 2) = n2 at *
        simp (disch := first | assumption | omega) only [q_bl, q_baT, q_bi, q_ba, q_pr, q_ob, q_iT, q_iN, q_it, q_if, q_of, nI_add, pk_mul, pk_sub, nI_leI, nI_ltI, nI_eq, nI_clamp, nI_lt0, nI_eqm, m1_eq, true_or, or_true, not_false_eq_true, m1_lt, m1_nlt, m1_le, m1_nle, b01, b011, q_em, q_m1, n_0, n_1, n_2, n_3, n_4, n_5, n_6, n_7, n_8, n_9, n_10, n_11, n_12, n_14, n_15, n_16, n_20, n_24, n_25, n_32, n_36, n_40, n_41, n_42, n_43, n_45, n_46, n_48, n_57, n_59, n_60, n_73, n_76, n_97, n_99, n_100, n_106, n_109, n_120, n_122, n_136, n_160, n_176, n_200, n_255, n_800, n_1000, n_1001, n_1002, n_1003, n_1006, n_1012, n_1018, n_1019, n_1020, n_1100, n_1140, n_4800, n_4920, n_5940, n_6740, n_20220, q_kI, q_lI, q_nI, q_rI, q_iI, q_jI, q_dI, q_kJ, q_lJ, q_nJ, q_rJ, q_iJ, q_jJ, q_dJ, q_kC, q_lC, q_nC, q_rC, q_jC, q_dC, q_kF, q_lF, q_nF, q_rF, q_jF, q_dF, q_us, q_un, q_ua, L_X9_count_2, B_X9_count_2, B_X9_count_54, s.k0, s.r0, s.k1, s.l1, hA, c2.1, hact, e2]
      · unfold sp_cnt
        rw [if_neg hx]
        exact m2
theorem x9_cnt {μ : Mem} {m b card : Nat} {A : SA} (h : RA μ m A) (ex : EX A b) (hc : card < nt (A 8)) : ∃ μ', F_X9_count m (nI card) μ = some μ' ∧ RA μ' m (sp_cnt card 0 (nt (A 2)) A) ∧ Fx (s1 m) μ μ' := by
  have c2 := ex.w.c2.2
  obtain ⟨μ', e, q1, q2⟩ := l9_cnt (nt (A 2)) FU 0 b μ A (FU_gt (by omega)) h ex hc (by omega)
  exact ⟨μ', by simp (disch := first | assumption | omega) only [q_bl, q_baT, q_bi, q_ba, q_pr, q_ob, q_iT, q_iN, q_it, q_if, q_of, nI_add, pk_mul, pk_sub, nI_leI, nI_ltI, nI_eq, nI_clamp, nI_lt0, nI_eqm, m1_eq, true_or, or_true, not_false_eq_true, m1_lt, m1_nlt, m1_le, m1_nle, b01, b011, q_em, q_m1, n_0, n_1, n_2, n_3, n_4, n_5, n_6, n_7, n_8, n_9, n_10, n_11, n_12, n_14, n_15, n_16, n_20, n_24, n_25, n_32, n_36, n_40, n_41, n_42, n_43, n_45, n_46, n_48, n_57, n_59, n_60, n_73, n_76, n_97, n_99, n_100, n_106, n_109, n_120, n_122, n_136, n_160, n_176, n_200, n_255, n_800, n_1000, n_1001, n_1002, n_1003, n_1006, n_1012, n_1018, n_1019, n_1020, n_1100, n_1140, n_4800, n_4920, n_5940, n_6740, n_20220, q_kI, q_lI, q_nI, q_rI, q_iI, q_jI, q_dI, q_kJ, q_lJ, q_nJ, q_rJ, q_iJ, q_jJ, q_dJ, q_kC, q_lC, q_nC, q_rC, q_jC, q_dC, q_kF, q_lF, q_nF, q_rF, q_jF, q_dF, q_us, q_un, q_ua, F_X9_count, e], q1, q2⟩
-- lines
/-- the line that is written holds ln, where it counts -/
def RLn (μ : Mem) (m : Nat) (ln : SA) : Prop := ∀ p, 1 ≤ p → p ≤ 40 → gI μ (m + 9) p = ln p
def s9 (m : Nat) : Nat → Prop := fun q => q = m + 9
theorem RA.s9 {μ μ' : Mem} {m : Nat} {A : SA} (h : RA μ m A) (f : Fx (s9 m) μ μ') : RA μ' m A := h.fx f (fun (e : m + 1 = m + 9) => by omega)
theorem l9_clrl {m : Nat} : ∀ (j n k : Nat) (μ : Mem), j < n → SR μ m → k + j = 41 → (∀ p, p < k → gI μ (m + 9) p = nI 32) → ∃ μ', L_X9_clearLine_2 n m (nI k) μ = some μ' ∧ RLn μ' m bln ∧ Fx (s9 m) μ μ' := by
  intro j
  induction j with
  | zero =>
    intro n k μ hn s he hj
    obtain ⟨n, rfl⟩ : ∃ k, n = k + 1 := ⟨n - 1, by omega⟩
    obtain rfl : k = 41 := by omega
    exact ⟨μ, by simp (disch := first | assumption | omega) only [q_bl, q_baT, q_bi, q_ba, q_pr, q_ob, q_iT, q_iN, q_it, q_if, q_of, nI_add, pk_mul, pk_sub, nI_leI, nI_ltI, nI_eq, nI_clamp, nI_lt0, nI_eqm, m1_eq, true_or, or_true, not_false_eq_true, m1_lt, m1_nlt, m1_le, m1_nle, b01, b011, q_em, q_m1, n_0, n_1, n_2, n_3, n_4, n_5, n_6, n_7, n_8, n_9, n_10, n_11, n_12, n_14, n_15, n_16, n_20, n_24, n_25, n_32, n_36, n_40, n_41, n_42, n_43, n_45, n_46, n_48, n_57, n_59, n_60, n_73, n_76, n_97, n_99, n_100, n_106, n_109, n_120, n_122, n_136, n_160, n_176, n_200, n_255, n_800, n_1000, n_1001, n_1002, n_1003, n_1006, n_1012, n_1018, n_1019, n_1020, n_1100, n_1140, n_4800, n_4920, n_5940, n_6740, n_20220, q_kI, q_lI, q_nI, q_rI, q_iI, q_jI, q_dI, q_kJ, q_lJ, q_nJ, q_rJ, q_iJ, q_jJ, q_dJ, q_kC, q_lC, q_nC, q_rC, q_jC, q_dC, q_kF, q_lF, q_nF, q_rF, q_jF, q_dF, q_us, q_un, q_ua, L_X9_clearLine_2, B_X9_clearLine_2], fun p p1 p2 => hj p (by omega), Fx.same⟩
  | succ j ih =>
    intro n k μ hn s he hj
    obtain ⟨n, rfl⟩ : ∃ k, n = k + 1 := ⟨n - 1, by omega⟩
    have f1 : Fx (s9 m) μ (stI μ (m + 9) k (nI 32)) := Fx.stI rfl
    obtain ⟨μ2, e2, q1, f2⟩ := ih n (k + 1) (stI μ (m + 9) k (nI 32)) (by omega) (s.fx f1) (by omega) (fun p hp => by
      rw [q_iI]
      by_cases hpk : p = k
      · subst hpk; rw [q_us]
      · rw [q_un (by omega)]; exact hj p (by omega))
    exact ⟨μ2, by simp (disch := first | assumption | omega) only [q_bl, q_baT, q_bi, q_ba, q_pr, q_ob, q_iT, q_iN, q_it, q_if, q_of, nI_add, pk_mul, pk_sub, nI_leI, nI_ltI, nI_eq, nI_clamp, nI_lt0, nI_eqm, m1_eq, true_or, or_true, not_false_eq_true, m1_lt, m1_nlt, m1_le, m1_nle, b01, b011, q_em, q_m1, n_0, n_1, n_2, n_3, n_4, n_5, n_6, n_7, n_8, n_9, n_10, n_11, n_12, n_14, n_15, n_16, n_20, n_24, n_25, n_32, n_36, n_40, n_41, n_42, n_43, n_45, n_46, n_48, n_57, n_59, n_60, n_73, n_76, n_97, n_99, n_100, n_106, n_109, n_120, n_122, n_136, n_160, n_176, n_200, n_255, n_800, n_1000, n_1001, n_1002, n_1003, n_1006, n_1012, n_1018, n_1019, n_1020, n_1100, n_1140, n_4800, n_4920, n_5940, n_6740, n_20220, q_kI, q_lI, q_nI, q_rI, q_iI, q_jI, q_dI, q_kJ, q_lJ, q_nJ, q_rJ, q_iJ, q_jJ, q_dJ, q_kC, q_lC, q_nC, q_rC, q_jC, q_dC, q_kF, q_lF, q_nF, q_rF, q_jF, q_dF, q_us, q_un, q_ua, L_X9_clearLine_2, B_X9_clearLine_2, s.k0, s.r22, s.k9, s.l9, e2], q1, f1.trans f2⟩
theorem x9_clrl {μ : Mem} {m : Nat} (s : SR μ m) : ∃ μ', F_X9_clearLine m μ = some μ' ∧ RLn μ' m bln ∧ Fx (s9 m) μ μ' := by
  obtain ⟨μ', e, q1, q2⟩ := l9_clrl 41 FU 0 μ (FU_gt (by decide)) s (by decide) (fun p hp => by omega)
  exact ⟨μ', by simp (disch := first | assumption | omega) only [q_bl, q_baT, q_bi, q_ba, q_pr, q_ob, q_iT, q_iN, q_it, q_if, q_of, nI_add, pk_mul, pk_sub, nI_leI, nI_ltI, nI_eq, nI_clamp, nI_lt0, nI_eqm, m1_eq, true_or, or_true, not_false_eq_true, m1_lt, m1_nlt, m1_le, m1_nle, b01, b011, q_em, q_m1, n_0, n_1, n_2, n_3, n_4, n_5, n_6, n_7, n_8, n_9, n_10, n_11, n_12, n_14, n_15, n_16, n_20, n_24, n_25, n_32, n_36, n_40, n_41, n_42, n_43, n_45, n_46, n_48, n_57, n_59, n_60, n_73, n_76, n_97, n_99, n_100, n_106, n_109, n_120, n_122, n_136, n_160, n_176, n_200, n_255, n_800, n_1000, n_1001, n_1002, n_1003, n_1006, n_1012, n_1018, n_1019, n_1020, n_1100, n_1140, n_4800, n_4920, n_5940, n_6740, n_20220, q_kI, q_lI, q_nI, q_rI, q_iI, q_jI, q_dI, q_kJ, q_lJ, q_nJ, q_rJ, q_iJ, q_jJ, q_dJ, q_kC, q_lC, q_nC, q_rC, q_jC, q_dC, q_kF, q_lF, q_nF, q_rF, q_jF, q_dF, q_us, q_un, q_ua, F_X9_clearLine, e], q1, q2⟩
theorem x9_print {μ : Mem} {m k : Nat} {ln : SA} {v : Int32} (s : SR μ m) (h : RLn μ m ln) (h1 : 1 ≤ k) (h2 : k < 2 ^ 30) : ∃ μ', F_X9_print m (nI k) v μ = some μ' ∧ RLn μ' m (pt k v ln) ∧ Fx (s9 m) μ μ' := by
  by_cases hx : k ≤ 40
  · refine ⟨stI μ (m + 9) k v, by simp (disch := first | assumption | omega) only [q_bl, q_baT, q_bi, q_ba, q_pr, q_ob, q_iT, q_iN, q_it, q_if, q_of, nI_add, pk_mul, pk_sub, nI_leI, nI_ltI, nI_eq, nI_clamp, nI_lt0, nI_eqm, m1_eq, true_or, or_true, not_false_eq_true, m1_lt, m1_nlt, m1_le, m1_nle, b01, b011, q_em, q_m1, n_0, n_1, n_2, n_3, n_4, n_5, n_6, n_7, n_8, n_9, n_10, n_11, n_12, n_14, n_15, n_16, n_20, n_24, n_25, n_32, n_36, n_40, n_41, n_42, n_43, n_45, n_46, n_48, n_57, n_59, n_60, n_73, n_76, n_97, n_99, n_100, n_106, n_109, n_120, n_122, n_136, n_160, n_176, n_200, n_255, n_800, n_1000, n_1001, n_1002, n_1003, n_1006, n_1012, n_1018, n_1019, n_1020, n_1100, n_1140, n_4800, n_4920, n_5940, n_6740, n_20220, q_kI, q_lI, q_nI, q_rI, q_iI, q_jI, q_dI, q_kJ, q_lJ, q_nJ, q_rJ, q_iJ, q_jJ, q_dJ, q_kC, q_lC, q_nC, q_rC, q_jC, q_dC, q_kF, q_lF, q_nF, q_rF, q_jF, q_dF, q_us, q_un, q_ua, F_X9_print, s.k0, s.r22, s.k9, s.l9], fun p p1 p2 => ?_, Fx.stI rfl⟩
    unfold pt
    rw [if_pos hx, q_iI]
    by_cases hp : p = k
    · subst hp; rw [q_us, ua_s]
    · rw [q_un (by omega), ua_n hp]; exact h p p1 p2
  · refine ⟨μ, by simp (disch := first | assumption | omega) only [q_bl, q_baT, q_bi, q_ba, q_pr, q_ob, q_iT, q_iN, q_it, q_if, q_of, nI_add, pk_mul, pk_sub, nI_leI, nI_ltI, nI_eq, nI_clamp, nI_lt0, nI_eqm, m1_eq, true_or, or_true, not_false_eq_true, m1_lt, m1_nlt, m1_le, m1_nle, b01, b011, q_em, q_m1, n_0, n_1, n_2, n_3, n_4, n_5, n_6, n_7, n_8, n_9, n_10, n_11, n_12, n_14, n_15, n_16, n_20, n_24, n_25, n_32, n_36, n_40, n_41, n_42, n_43, n_45, n_46, n_48, n_57, n_59, n_60, n_73, n_76, n_97, n_99, n_100, n_106, n_109, n_120, n_122, n_136, n_160, n_176, n_200, n_255, n_800, n_1000, n_1001, n_1002, n_1003, n_1006, n_1012, n_1018, n_1019, n_1020, n_1100, n_1140, n_4800, n_4920, n_5940, n_6740, n_20220, q_kI, q_lI, q_nI, q_rI, q_iI, q_jI, q_dI, q_kJ, q_lJ, q_nJ, q_rJ, q_iJ, q_jJ, q_dJ, q_kC, q_lC, q_nC, q_rC, q_jC, q_dC, q_kF, q_lF, q_nF, q_rF, q_jF, q_dF, q_us, q_un, q_ua, F_X9_print], fun p p1 p2 => ?_, Fx.same⟩
    unfold pt
    rw [if_neg hx]; exact h p p1 p2
theorem RLn.ext {μ : Mem} {m : Nat} {ln ln' : SA} (h : RLn μ m ln) (e : ∀ p, 1 ≤ p → p ≤ 40 → ln' p = ln p) : RLn μ m ln' := fun p h1 h2 => by rw [e p h1 h2]; exact h p h1 h2
theorem l9_pnum {m pos w : Nat} {x : Int32} (hp1 : 1 ≤ pos) (hp2 : pos ≤ 40) (hw1 : 1 ≤ w) (hw2 : w ≤ 9) : ∀ (j n left : Nat) (ln : SA) (μ : Mem), j < n → j ≤ w → left < 2 ^ 30 → SR μ m → RLn μ m ln →
    ∃ μ', L_X9_printNumber_46 n m (nI pos) (nI w) x (nI left) (nI j + -nI 1) μ = some μ' ∧ RLn μ' m (pt (pos + w) (if x < nI 0 then nI 45 else nI 32) (sp_num pos w j left ln)) ∧ Fx (s9 m) μ μ' := by
  intro j
  induction j with
  | zero =>
    intro n left ln μ hn hm hl s h
    obtain ⟨n, rfl⟩ : ∃ k, n = k + 1 := ⟨n - 1, by omega⟩
    have e0 : nI 0 + -nI 1 = -nI 1 := by decide +kernel
    have e1 : -nI 1 < nI 0 := by decide +kernel
    by_cases hx : x < nI 0
    · obtain ⟨μ1, q1, q2, q3⟩ := x9_print (k := pos + w) (v := nI 45) s h (by omega) (by omega)
      refine ⟨μ1, ?_, ?_, q3⟩
      · have hy : ¬ nI 0 ≤ x := by rw [lt0_T] at hx; rw [le0_T]; omega
        simp (disch := first | assumption | omega) only [q_bl, q_baT, q_bi, q_ba, q_pr, q_ob, q_iT, q_iN, q_it, q_if, q_of, pk_mul, pk_sub, nI_leI, nI_ltI, nI_eq, nI_clamp, nI_lt0, nI_eqm, m1_eq, true_or, or_true, not_false_eq_true, m1_lt, m1_nlt, m1_le, m1_nle, b01, b011, q_em, q_m1, n_0, n_1, n_2, n_3, n_4, n_5, n_6, n_7, n_8, n_9, n_10, n_11, n_12, n_14, n_15, n_16, n_20, n_24, n_25, n_32, n_36, n_40, n_41, n_42, n_43, n_45, n_46, n_48, n_57, n_59, n_60, n_73, n_76, n_97, n_99, n_100, n_106, n_109, n_120, n_122, n_136, n_160, n_176, n_200, n_255, n_800, n_1000, n_1001, n_1002, n_1003, n_1006, n_1012, n_1018, n_1019, n_1020, n_1100, n_1140, n_4800, n_4920, n_5940, n_6740, n_20220, q_kI, q_lI, q_nI, q_rI, q_iI, q_jI, q_dI, q_kJ, q_lJ, q_nJ, q_rJ, q_iJ, q_jJ, q_dJ, q_kC, q_lC, q_nC, q_rC, q_jC, q_dC, q_kF, q_lF, q_nF, q_rF, q_jF, q_dF, q_us, q_un, q_ua, L_X9_printNumber_46, B_X9_printNumber_46, B_X9_printNumber_114, e0, s.k0, q1, nI_add pos w]
      · rw [if_pos hx]; exact q2
    · obtain ⟨μ1, q1, q2, q3⟩ := x9_print (k := pos + w) (v := nI 32) s h (by omega) (by omega)
      refine ⟨μ1, ?_, ?_, q3⟩
      · have hy : nI 0 ≤ x := by rw [lt0_T] at hx; rw [le0_T]; omega
        simp (disch := first | assumption | omega) only [q_bl, q_baT, q_bi, q_ba, q_pr, q_ob, q_iT, q_iN, q_it, q_if, q_of, pk_mul, pk_sub, nI_leI, nI_ltI, nI_eq, nI_clamp, nI_lt0, nI_eqm, m1_eq, true_or, or_true, not_false_eq_true, m1_lt, m1_nlt, m1_le, m1_nle, b01, b011, q_em, q_m1, n_0, n_1, n_2, n_3, n_4, n_5, n_6, n_7, n_8, n_9, n_10, n_11, n_12, n_14, n_15, n_16, n_20, n_24, n_25, n_32, n_36, n_40, n_41, n_42, n_43, n_45, n_46, n_48, n_57, n_59, n_60, n_73, n_76, n_97, n_99, n_100, n_106, n_109, n_120, n_122, n_136, n_160, n_176, n_200, n_255, n_800, n_1000, n_1001, n_1002, n_1003, n_1006, n_1012, n_1018, n_1019, n_1020, n_1100, n_1140, n_4800, n_4920, n_5940, n_6740, n_20220, q_kI, q_lI, q_nI, q_rI, q_iI, q_jI, q_dI, q_kJ, q_lJ, q_nJ, q_rJ, q_iJ, q_jJ, q_dJ, q_kC, q_lC, q_nC, q_rC, q_jC, q_dC, q_kF, q_lF, q_nF, q_rF, q_jF, q_dF, q_us, q_un, q_ua, L_X9_printNumber_46, B_X9_printNumber_46, B_X9_printNumber_114, e0, s.k0, q1, nI_add pos w]
      · rw [if_neg hx]; exact q2
  | succ j ih =>
    intro n left ln μ hn hm hl s h
    obtain ⟨n, rfl⟩ : ∃ k, n = k + 1 := ⟨n - 1, by omega⟩
    have hr : left - left / 10 * 10 = left % 10 := by omega
    have hd := pk_div (a := left) (d := 10) (by omega) (by decide) (by decide)
    by_cases hx : left = 0 ∧ j < w - 1
    · obtain ⟨μ1, q1, q2, q3⟩ := x9_print (k := pos + j) (v := nI 32) s h (by omega) (by omega)
      obtain ⟨μ2, p1, p2, p3⟩ := ih n (left / 10) _ μ1 (by omega) (by omega) (by omega) (s.fx q3) q2
      refine ⟨μ2, ?_, ?_, q3.trans p3⟩
      · simp (disch := first | assumption | omega) only [q_bl, q_baT, q_bi, q_ba, q_pr, q_ob, q_iT, q_iN, q_it, q_if, q_of, nI_add, pk_mul, pk_sub, nI_leI, nI_ltI, nI_eq, nI_clamp, nI_lt0, nI_eqm, m1_eq, true_or, or_true, not_false_eq_true, m1_lt, m1_nlt, m1_le, m1_nle, b01, b011, q_em, q_m1, n_0, n_1, n_2, n_3, n_4, n_5, n_6, n_7, n_8, n_9, n_10, n_11, n_12, n_14, n_15, n_16, n_20, n_24, n_25, n_32, n_36, n_40, n_41, n_42, n_43, n_45, n_46, n_48, n_57, n_59, n_60, n_73, n_76, n_97, n_99, n_100, n_106, n_109, n_120, n_122, n_136, n_160, n_176, n_200, n_255, n_800, n_1000, n_1001, n_1002, n_1003, n_1006, n_1012, n_1018, n_1019, n_1020, n_1100, n_1140, n_4800, n_4920, n_5940, n_6740, n_20220, q_kI, q_lI, q_nI, q_rI, q_iI, q_jI, q_dI, q_kJ, q_lJ, q_nJ, q_rJ, q_iJ, q_jJ, q_dJ, q_kC, q_lC, q_nC, q_rC, q_jC, q_dC, q_kF, q_lF, q_nF, q_rF, q_jF, q_dF, q_us, q_un, q_ua, L_X9_printNumber_46, B_X9_printNumber_46, B_X9_printNumber_82, s.k0, q1, hd, p1]
      · unfold sp_num; rw [if_pos hx]; exact p2
    · obtain ⟨μ1, q1, q2, q3⟩ := x9_print (k := pos + j) (v := nI (48 + left % 10)) s h (by omega) (by omega)
      obtain ⟨μ2, p1, p2, p3⟩ := ih n (left / 10) _ μ1 (by omega) (by omega) (by omega) (s.fx q3) q2
      refine ⟨μ2, ?_, ?_, q3.trans p3⟩
      · by_cases h0 : left = 0
        · simp (disch := first | assumption | omega) only [q_bl, q_baT, q_bi, q_ba, q_pr, q_ob, q_iT, q_iN, q_it, q_if, q_of, nI_add, pk_mul, pk_sub, nI_leI, nI_ltI, nI_eq, nI_clamp, nI_lt0, nI_eqm, m1_eq, true_or, or_true, not_false_eq_true, m1_lt, m1_nlt, m1_le, m1_nle, b01, b011, q_em, q_m1, n_0, n_1, n_2, n_3, n_4, n_5, n_6, n_7, n_8, n_9, n_10, n_11, n_12, n_14, n_15, n_16, n_20, n_24, n_25, n_32, n_36, n_40, n_41, n_42, n_43, n_45, n_46, n_48, n_57, n_59, n_60, n_73, n_76, n_97, n_99, n_100, n_106, n_109, n_120, n_122, n_136, n_160, n_176, n_200, n_255, n_800, n_1000, n_1001, n_1002, n_1003, n_1006, n_1012, n_1018, n_1019, n_1020, n_1100, n_1140, n_4800, n_4920, n_5940, n_6740, n_20220, q_kI, q_lI, q_nI, q_rI, q_iI, q_jI, q_dI, q_kJ, q_lJ, q_nJ, q_rJ, q_iJ, q_jJ, q_dJ, q_kC, q_lC, q_nC, q_rC, q_jC, q_dC, q_kF, q_lF, q_nF, q_rF, q_jF, q_dF, q_us, q_un, q_ua, L_X9_printNumber_46, B_X9_printNumber_46, B_X9_printNumber_74, B_X9_printNumber_82, s.k0, q1, hr, hd, p1]
        · simp (disch := first | assumption | omega) only [q_bl, q_baT, q_bi, q_ba, q_pr, q_ob, q_iT, q_iN, q_it, q_if, q_of, nI_add, pk_mul, pk_sub, nI_leI, nI_ltI, nI_eq, nI_clamp, nI_lt0, nI_eqm, m1_eq, true_or, or_true, not_false_eq_true, m1_lt, m1_nlt, m1_le, m1_nle, b01, b011, q_em, q_m1, n_0, n_1, n_2, n_3, n_4, n_5, n_6, n_7, n_8, n_9, n_10, n_11, n_12, n_14, n_15, n_16, n_20, n_24, n_25, n_32, n_36, n_40, n_41, n_42, n_43, n_45, n_46, n_48, n_57, n_59, n_60, n_73, n_76, n_97, n_99, n_100, n_106, n_109, n_120, n_122, n_136, n_160, n_176, n_200, n_255, n_800, n_1000, n_1001, n_1002, n_1003, n_1006, n_1012, n_1018, n_1019, n_1020, n_1100, n_1140, n_4800, n_4920, n_5940, n_6740, n_20220, q_kI, q_lI, q_nI, q_rI, q_iI, q_jI, q_dI, q_kJ, q_lJ, q_nJ, q_rJ, q_iJ, q_jJ, q_dJ, q_kC, q_lC, q_nC, q_rC, q_jC, q_dC, q_kF, q_lF, q_nF, q_rF, q_jF, q_dF, q_us, q_un, q_ua, L_X9_printNumber_46, B_X9_printNumber_46, B_X9_printNumber_74, B_X9_printNumber_82, s.k0, q1, hr, hd, p1]
      · unfold sp_num; rw [if_neg hx]; exact p2
theorem x9_pnum {μ : Mem} {m c pos : Nat} {A : SA} {ln : SA} (h : RA μ m A) (w : WB A) (hc : c < nt (A 2)) (hp1 : 1 ≤ pos) (hp2 : pos ≤ 40) (hl : RLn μ m ln) (hx : (A (1006 + c)).toInt.natAbs < 1000000000) :
    ∃ μ', F_X9_printNumber m (nI c) (nI pos) μ = some μ' ∧ RLn μ' m (sp_pnum A c pos ln) ∧ Fx (s9 m) μ μ' := by
  have c2 := w.c2.2
  have cc := w.ctr hc
  have e43 : A (43 + 5 * c + 0) = nI (nt (A (43 + 5 * c))) := cc.1
  obtain ⟨μ', e, q⟩ := l9_pnum (m := m) (x := A (1006 + c)) hp1 hp2 cc.2.2.2.2.2.1 cc.2.2.2.2.2.2.1 (nt (A (43 + 5 * c))) FU (A (1006 + c)).toInt.natAbs ln μ (FU_gt (by have := cc.2.2.2.2.2.2.1; omega)) (by omega) (by omega) h.1 hl
  refine ⟨μ', ?_, q⟩
  obtain ⟨s, hA⟩ := h
  have w1 := cc.2.2.2.2.2.1
  generalize nt (A (43 + 5 * c)) = wd at *
  have hw : nI wd - nI 1 = nI wd + -nI 1 := Int32.sub_eq_add_neg _ _
  by_cases h0 : 0 ≤ (A (1006 + c)).toInt
  · have e1 := sz_pos h0
    have e2 : nI 0 ≤ A (1006 + c) := by rw [le0_T]; exact h0
    rw [← e1] at e
    simp (disch := first | assumption | omega) only [q_bl, q_baT, q_bi, q_ba, q_pr, q_ob, q_iT, q_iN, q_it, q_if, q_of, nI_add, pk_mul, nI_leI, nI_ltI, nI_eq, nI_clamp, nI_lt0, nI_eqm, m1_eq, true_or, or_true, not_false_eq_true, m1_lt, m1_nlt, m1_le, m1_nle, b01, b011, q_em, q_m1, n_0, n_1, n_2, n_3, n_4, n_5, n_6, n_7, n_8, n_9, n_10, n_11, n_12, n_14, n_15, n_16, n_20, n_24, n_25, n_32, n_36, n_40, n_41, n_42, n_43, n_45, n_46, n_48, n_57, n_59, n_60, n_73, n_76, n_97, n_99, n_100, n_106, n_109, n_120, n_122, n_136, n_160, n_176, n_200, n_255, n_800, n_1000, n_1001, n_1002, n_1003, n_1006, n_1012, n_1018, n_1019, n_1020, n_1100, n_1140, n_4800, n_4920, n_5940, n_6740, n_20220, q_kI, q_lI, q_nI, q_rI, q_iI, q_jI, q_dI, q_kJ, q_lJ, q_nJ, q_rJ, q_iJ, q_jJ, q_dJ, q_kC, q_lC, q_nC, q_rC, q_jC, q_dC, q_kF, q_lF, q_nF, q_rF, q_jF, q_dF, q_us, q_un, q_ua, F_X9_printNumber, B_X9_printNumber_39, s.k0, s.r0, s.k1, s.l1, hA, e43, hw, e]
  · have e1 := sz_neg (x := A (1006 + c)) (by omega) (by omega)
    have e2 : ¬ nI 0 ≤ A (1006 + c) := by rw [le0_T]; exact h0
    rw [← e1] at e
    simp (disch := first | assumption | omega) only [q_bl, q_baT, q_bi, q_ba, q_pr, q_ob, q_iT, q_iN, q_it, q_if, q_of, nI_add, pk_mul, nI_leI, nI_ltI, nI_eq, nI_clamp, nI_lt0, nI_eqm, m1_eq, true_or, or_true, not_false_eq_true, m1_lt, m1_nlt, m1_le, m1_nle, b01, b011, q_em, q_m1, n_0, n_1, n_2, n_3, n_4, n_5, n_6, n_7, n_8, n_9, n_10, n_11, n_12, n_14, n_15, n_16, n_20, n_24, n_25, n_32, n_36, n_40, n_41, n_42, n_43, n_45, n_46, n_48, n_57, n_59, n_60, n_73, n_76, n_97, n_99, n_100, n_106, n_109, n_120, n_122, n_136, n_160, n_176, n_200, n_255, n_800, n_1000, n_1001, n_1002, n_1003, n_1006, n_1012, n_1018, n_1019, n_1020, n_1100, n_1140, n_4800, n_4920, n_5940, n_6740, n_20220, q_kI, q_lI, q_nI, q_rI, q_iI, q_jI, q_dI, q_kJ, q_lJ, q_nJ, q_rJ, q_iJ, q_jJ, q_dJ, q_kC, q_lC, q_nC, q_rC, q_jC, q_dC, q_kF, q_lF, q_nF, q_rF, q_jF, q_dF, q_us, q_un, q_ua, F_X9_printNumber, B_X9_printNumber_39, s.k0, s.r0, s.k1, s.l1, hA, e43, hw, e]
/-- the row while a line is copied: k places of it are there -/
def endk (A : SA) (lv : Int32) (ln : SA) (k : Nat) : SA := fun i => if i = 1020 + nt (A 1018) then lv else if 1140 + 40 * nt (A 1018) ≤ i ∧ i < 1140 + 40 * nt (A 1018) + k then ln (i - (1140 + 40 * nt (A 1018)) + 1) else A i
theorem endk_s {A : SA} {lv : Int32} {ln : SA} {k : Nat} {v : Int32} (hn : nt (A 1018) < 120) (hv : v = ln (k + 1)) : ua (endk A lv ln k) (1140 + 40 * nt (A 1018) + (k + 1) - 1) v = endk A lv ln (k + 1) := by
  funext i
  unfold ua endk
  by_cases hi : i = 1140 + 40 * nt (A 1018) + (k + 1) - 1
  · rw [if_pos hi, if_neg (by omega), if_pos (by omega), hv]; congr 1; omega
  · rw [if_neg hi]
    by_cases h1 : i = 1020 + nt (A 1018)
    · rw [if_pos h1, if_pos h1]
    · rw [if_neg h1, if_neg h1]
      by_cases h2 : 1140 + 40 * nt (A 1018) ≤ i ∧ i < 1140 + 40 * nt (A 1018) + k
      · rw [if_pos h2, if_pos (by omega)]
      · rw [if_neg h2, if_neg (by omega)]
theorem endk_f {A : SA} {lv : Int32} {ln : SA} (hn : nt (A 1018) < 120) : ua (endk A lv ln 40) 1018 (A 1018 + nI 1) = sp_endl A lv ln := by
  funext i
  unfold ua endk sp_endl
  by_cases h0 : i = 1018
  · rw [if_pos h0, if_pos h0]
  · rw [if_neg h0, if_neg h0]
    by_cases h1 : i = 1020 + nt (A 1018)
    · rw [if_pos h1, if_pos ⟨hn, h1⟩]
    · rw [if_neg h1, if_neg (show ¬ (nt (A 1018) < 120 ∧ i = 1020 + nt (A 1018)) from fun e => h1 e.2)]
      by_cases h2 : 1140 + 40 * nt (A 1018) ≤ i ∧ i < 1140 + 40 * nt (A 1018) + 40
      · rw [if_pos h2, if_pos ⟨hn, h2⟩]
      · rw [if_neg h2, if_neg (show ¬ (nt (A 1018) < 120 ∧ 1140 + 40 * nt (A 1018) ≤ i ∧ i < 1140 + 40 * nt (A 1018) + 40) from fun e => h2 e.2)]
theorem l9_endl {m nn : Nat} {A : SA} {lv : Int32} {ln : SA} (hn0 : nn = nt (A 1018)) (hn : nn < 120) : ∀ (j n k : Nat) (μ : Mem), j < n → k + j = 40 → RA μ m (endk A lv ln k) → RLn μ m ln → ∃ μ', L_X9_endLine_28 n m (nI nn) (nI (k + 1)) μ = some μ' ∧ RA μ' m (sp_endl A lv ln) ∧ Fx (s1 m) μ μ' := by
  intro j
  induction j with
  | zero =>
    intro n k μ hj he h hl
    obtain ⟨n, rfl⟩ : ∃ k, n = k + 1 := ⟨n - 1, by omega⟩
    obtain rfl : k = 40 := by omega
    have e18 : endk A lv ln 40 1018 = A 1018 := by unfold endk; rw [if_neg (by omega), if_neg (by omega)]
    have hp := h.put (j := 1018) (v := A 1018 + nI 1)
    rw [endk_f (by omega)] at hp
    obtain ⟨s, hA⟩ := h
    exact ⟨_, by simp (disch := first | assumption | omega) only [q_bl, q_baT, q_bi, q_ba, q_pr, q_ob, q_iT, q_iN, q_it, q_if, q_of, nI_add, pk_mul, pk_sub, nI_leI, nI_ltI, nI_eq, nI_clamp, nI_lt0, nI_eqm, m1_eq, true_or, or_true, not_false_eq_true, m1_lt, m1_nlt, m1_le, m1_nle, b01, b011, q_em, q_m1, n_0, n_1, n_2, n_3, n_4, n_5, n_6, n_7, n_8, n_9, n_10, n_11, n_12, n_14, n_15, n_16, n_20, n_24, n_25, n_32, n_36, n_40, n_41, n_42, n_43, n_45, n_46, n_48, n_57, n_59, n_60, n_73, n_76, n_97, n_99, n_100, n_106, n_109, n_120, n_122, n_136, n_160, n_176, n_200, n_255, n_800, n_1000, n_1001, n_1002, n_1003, n_1006, n_1012, n_1018, n_1019, n_1020, n_1100, n_1140, n_4800, n_4920, n_5940, n_6740, n_20220, q_kI, q_lI, q_nI, q_rI, q_iI, q_jI, q_dI, q_kJ, q_lJ, q_nJ, q_rJ, q_iJ, q_jJ, q_dJ, q_kC, q_lC, q_nC, q_rC, q_jC, q_dC, q_kF, q_lF, q_nF, q_rF, q_jF, q_dF, q_us, q_un, q_ua, L_X9_endLine_28, B_X9_endLine_28, B_X9_endLine_63, s.k0, s.r0, s.k1, s.l1, hA, e18], hp, Fx.stI rfl⟩
  | succ j ih =>
    intro n k μ hj he h hl
    obtain ⟨n, rfl⟩ : ∃ k, n = k + 1 := ⟨n - 1, by omega⟩
    have hp := h.put (j := 1140 + 40 * nt (A 1018) + (k + 1) - 1) (v := ln (k + 1))
    rw [endk_s (by omega) rfl, ← hn0] at hp
    have f1 : Fx (s1 m) μ (stI μ (m + 1) (1140 + 40 * nn + (k + 1) - 1) (ln (k + 1))) := Fx.stI rfl
    obtain ⟨μ', e, q1, q2⟩ := ih n (k + 1) _ (by omega) (by omega) hp (fun p p1 p2 => by rw [q_iI, q_un (by omega)]; exact hl p p1 p2)
    obtain ⟨s, hA⟩ := h
    have hk := hl (k + 1) (by omega) (by omega)
    exact ⟨μ', by simp (disch := first | assumption | omega) only [q_bl, q_baT, q_bi, q_ba, q_pr, q_ob, q_iT, q_iN, q_it, q_if, q_of, nI_add, pk_mul, pk_sub, nI_leI, nI_ltI, nI_eq, nI_clamp, nI_lt0, nI_eqm, m1_eq, true_or, or_true, not_false_eq_true, m1_lt, m1_nlt, m1_le, m1_nle, b01, b011, q_em, q_m1, n_0, n_1, n_2, n_3, n_4, n_5, n_6, n_7, n_8, n_9, n_10, n_11, n_12, n_14, n_15, n_16, n_20, n_24, n_25, n_32, n_36, n_40, n_41, n_42, n_43, n_45, n_46, n_48, n_57, n_59, n_60, n_73, n_76, n_97, n_99, n_100, n_106, n_109, n_120, n_122, n_136, n_160, n_176, n_200, n_255, n_800, n_1000, n_1001, n_1002, n_1003, n_1006, n_1012, n_1018, n_1019, n_1020, n_1100, n_1140, n_4800, n_4920, n_5940, n_6740, n_20220, q_kI, q_lI, q_nI, q_rI, q_iI, q_jI, q_dI, q_kJ, q_lJ, q_nJ, q_rJ, q_iJ, q_jJ, q_dJ, q_kC, q_lC, q_nC, q_rC, q_jC, q_dC, q_kF, q_lF, q_nF, q_rF, q_jF, q_dF, q_us, q_un, q_ua, L_X9_endLine_28, B_X9_endLine_28, s.k0, s.r0, s.k1, s.l1, s.r22, s.k9, s.l9, hk, e], q1, f1.trans q2⟩
theorem x9_endl {μ : Mem} {m b : Nat} {A : SA} {lv : Int32} {ln : SA} (h : RA μ m A) (wm : WM A b) (hb : b < 1000000) (hl : RLn μ m ln) : ∃ μ', F_X9_endLine m lv μ = some μ' ∧ RA μ' m (sp_endl A lv ln) ∧ Fx (s1 m) μ μ' := by
  have q := wm.2.2.2.2.2.1.ex (by omega)
  have h' := h
  obtain ⟨s, hA⟩ := h'
  by_cases hn : nt (A 1018) < 120
  · have hp := h.put (j := 1020 + nt (A 1018)) (v := lv)
    have e0 : ua A (1020 + nt (A 1018)) lv = endk A lv ln 0 := by
      funext i; unfold ua endk
      by_cases h1 : i = 1020 + nt (A 1018)
      · rw [if_pos h1, if_pos h1]
      · rw [if_neg h1, if_neg h1, if_neg (by omega)]
    rw [e0] at hp
    have f1 : Fx (s1 m) μ (stI μ (m + 1) (1020 + nt (A 1018)) lv) := Fx.stI rfl
    obtain ⟨μ', e, q1, q2⟩ := l9_endl (ln := ln) rfl hn 40 FU 0 _ (FU_gt (by decide)) (by decide) hp (fun p p1 p2 => by rw [q_iI, q_un (by omega)]; exact hl p p1 p2)
    refine ⟨μ', ?_, q1, f1.trans q2⟩
    have v := q.1
    generalize nt (A 1018) = nn at *
    simp (disch := first | assumption | omega) only [q_bl, q_baT, q_bi, q_ba, q_pr, q_ob, q_iT, q_iN, q_it, q_if, q_of, nI_add, pk_mul, pk_sub, nI_leI, nI_ltI, nI_eq, nI_clamp, nI_lt0, nI_eqm, m1_eq, true_or, or_true, not_false_eq_true, m1_lt, m1_nlt, m1_le, m1_nle, b01, b011, q_em, q_m1, n_0, n_1, n_2, n_3, n_4, n_5, n_6, n_7, n_8, n_9, n_10, n_11, n_12, n_14, n_15, n_16, n_20, n_24, n_25, n_32, n_36, n_40, n_41, n_42, n_43, n_45, n_46, n_48, n_57, n_59, n_60, n_73, n_76, n_97, n_99, n_100, n_106, n_109, n_120, n_122, n_136, n_160, n_176, n_200, n_255, n_800, n_1000, n_1001, n_1002, n_1003, n_1006, n_1012, n_1018, n_1019, n_1020, n_1100, n_1140, n_4800, n_4920, n_5940, n_6740, n_20220, q_kI, q_lI, q_nI, q_rI, q_iI, q_jI, q_dI, q_kJ, q_lJ, q_nJ, q_rJ, q_iJ, q_jJ, q_dJ, q_kC, q_lC, q_nC, q_rC, q_jC, q_dC, q_kF, q_lF, q_nF, q_rF, q_jF, q_dF, q_us, q_un, q_ua, F_X9_endLine, s.k0, s.r0, s.k1, s.l1, hA, v, e]
  · have hp := h.put (j := 1018) (v := A 1018 + nI 1)
    have e0 : ua A 1018 (A 1018 + nI 1) = sp_endl A lv ln := by
      funext i; unfold ua sp_endl
      by_cases h1 : i = 1018
      · rw [if_pos h1, if_pos h1]
      · rw [if_neg h1, if_neg h1, if_neg (fun e => hn e.1), if_neg (fun e => hn e.1)]
    rw [e0] at hp
    refine ⟨_, ?_, hp, Fx.stI rfl⟩
    have v : A 1018 = nI (nt (A 1018)) := q.1
    have hle : ¬ A 1018 < nI 120 := by rw [v]; exact nI_nlt (by omega) (by omega)
    have hle2 : nI 120 ≤ A 1018 := by rw [v]; exact nI_le (by omega) (by omega)
    simp (disch := first | assumption | omega) only [q_bl, q_baT, q_bi, q_ba, q_pr, q_ob, q_iT, q_iN, q_it, q_if, q_of, nI_add, pk_mul, pk_sub, nI_leI, nI_ltI, nI_eq, nI_clamp, nI_lt0, nI_eqm, m1_eq, true_or, or_true, not_false_eq_true, m1_lt, m1_nlt, m1_le, m1_nle, b01, b011, q_em, q_m1, n_0, n_1, n_2, n_3, n_4, n_5, n_6, n_7, n_8, n_9, n_10, n_11, n_12, n_14, n_15, n_16, n_20, n_24, n_25, n_32, n_36, n_40, n_41, n_42, n_43, n_45, n_46, n_48, n_57, n_59, n_60, n_73, n_76, n_97, n_99, n_100, n_106, n_109, n_120, n_122, n_136, n_160, n_176, n_200, n_255, n_800, n_1000, n_1001, n_1002, n_1003, n_1006, n_1012, n_1018, n_1019, n_1020, n_1100, n_1140, n_4800, n_4920, n_5940, n_6740, n_20220, q_kI, q_lI, q_nI, q_rI, q_iI, q_jI, q_dI, q_kJ, q_lJ, q_nJ, q_rJ, q_iJ, q_jJ, q_dJ, q_kC, q_lC, q_nC, q_rC, q_jC, q_dC, q_kF, q_lF, q_nF, q_rF, q_jF, q_dF, q_us, q_un, q_ua, F_X9_endLine, B_X9_endLine_63, s.k0, s.r0, s.k1, s.l1, hA]

/-! LAYER 3: the class's machine: counting a card -/
theorem mod2 (n : Nat) : n % 2 = 0 ∨ n % 2 = 1 := by omega
theorem x3_active {μ : Mem} {r b k : Nat} {A : SA} (h : MO μ r A b) (hk : k < nt (A 2)) : F_X3_isActive r (nI k) μ = some (if sp_adds A k = true then nI 1 else nI 0) := by
  obtain ⟨s, hr, w, wm⟩ := h
  have c2 := w.c2.2
  have c1 := w.c1.2
  have q := w.ctr hk
  have a3 := x6_at (p := 3) s.st2 (hr.n2 w) (by omega) hk (by decide)
  have a4 := x6_at (p := 4) s.st2 (hr.n2 w) (by omega) hk (by decide)
  rw [show r + 6 + 1 = r + 7 from rfl, hr.1.2.2.1.2 k 3 hk (by decide)] at a3
  rw [show r + 6 + 1 = r + 7 from rfl, hr.1.2.2.1.2 k 4 hk (by decide), q.2.2.2.2.1] at a4
  rcases q.2.2.2.1 with e | ⟨e, e2, e3⟩
  · rw [e] at a3
    have h1 : sp_adds A k = true := by unfold sp_adds; rw [if_pos e]
    have h2 : -nI 1 < nI 0 := by decide +kernel
    rw [h1]
    simp (disch := first | assumption | omega) only [q_bl, q_baT, q_bi, q_ba, q_pr, q_ob, q_iT, q_iN, q_it, q_if, q_of, nI_add, pk_mul, pk_sub, nI_leI, nI_ltI, nI_eq, nI_clamp, nI_lt0, nI_eqm, m1_eq, true_or, or_true, not_false_eq_true, m1_lt, m1_nlt, m1_le, m1_nle, b01, b011, q_em, q_m1, n_0, n_1, n_2, n_3, n_4, n_5, n_6, n_7, n_8, n_9, n_10, n_11, n_12, n_14, n_15, n_16, n_20, n_24, n_25, n_32, n_36, n_40, n_41, n_42, n_43, n_45, n_46, n_48, n_57, n_59, n_60, n_73, n_76, n_97, n_99, n_100, n_106, n_109, n_120, n_122, n_136, n_160, n_176, n_200, n_255, n_800, n_1000, n_1001, n_1002, n_1003, n_1006, n_1012, n_1018, n_1019, n_1020, n_1100, n_1140, n_4800, n_4920, n_5940, n_6740, n_20220, q_kI, q_lI, q_nI, q_rI, q_iI, q_jI, q_dI, q_kJ, q_lJ, q_nJ, q_rJ, q_iJ, q_jJ, q_dJ, q_kC, q_lC, q_nC, q_rC, q_jC, q_dC, q_kF, q_lF, q_nF, q_rF, q_jF, q_dF, q_us, q_un, q_ua, F_X3_isActive, s.k0, s.r0, s.k1, s.b2, s.k6, a3]
  · have ne : ¬ A (43 + 5 * k + 3) = -nI 1 := by rw [e, nI_eqm (by omega)]; exact id
    have hs : sp_adds A k = decide (¬ nt (A 1002) / 2 ^ nt (A (43 + 5 * k + 3)) % 2 = nt (A (43 + 5 * k + 4))) := by unfold sp_adds; rw [if_neg ne]
    have hsel : gI μ (r + 23) (nt (A (43 + 5 * k + 3))) = nI (nt (A 1002) / 2 ^ nt (A (43 + 5 * k + 3)) % 2) := hr.2.2.2.2.1 _ (by omega)
    rw [e] at a3
    have hm := mod2 (nt (A 1002) / 2 ^ nt (A (43 + 5 * k + 3)))
    generalize nt (A 1002) / 2 ^ nt (A (43 + 5 * k + 3)) % 2 = bit at *
    by_cases hu : nt (A (43 + 5 * k + 4)) = 1
    · rw [hu] at a4 hs
      by_cases hb : bit = 1
      · have : sp_adds A k = false := by rw [hs, hb]; rfl
        rw [this]
        simp (disch := first | assumption | omega) only [q_bl, q_baT, q_bi, q_ba, q_pr, q_ob, q_iT, q_iN, q_it, q_if, q_of, nI_add, pk_mul, pk_sub, nI_leI, nI_ltI, nI_eq, nI_clamp, nI_lt0, nI_eqm, m1_eq, true_or, or_true, not_false_eq_true, m1_lt, m1_nlt, m1_le, m1_nle, b01, b011, q_em, q_m1, n_0, n_1, n_2, n_3, n_4, n_5, n_6, n_7, n_8, n_9, n_10, n_11, n_12, n_14, n_15, n_16, n_20, n_24, n_25, n_32, n_36, n_40, n_41, n_42, n_43, n_45, n_46, n_48, n_57, n_59, n_60, n_73, n_76, n_97, n_99, n_100, n_106, n_109, n_120, n_122, n_136, n_160, n_176, n_200, n_255, n_800, n_1000, n_1001, n_1002, n_1003, n_1006, n_1012, n_1018, n_1019, n_1020, n_1100, n_1140, n_4800, n_4920, n_5940, n_6740, n_20220, q_kI, q_lI, q_nI, q_rI, q_iI, q_jI, q_dI, q_kJ, q_lJ, q_nJ, q_rJ, q_iJ, q_jJ, q_dJ, q_kC, q_lC, q_nC, q_rC, q_jC, q_dC, q_kF, q_lF, q_nF, q_rF, q_jF, q_dF, q_us, q_un, q_ua, F_X3_isActive, B_X3_isActive_49, s.k0, s.r0, s.k1, s.b2, s.k6, a3, a4, s.r4, s.k23, s.l23, hsel, hb, Bool.false_eq_true]
      · have : sp_adds A k = true := by rw [hs]; exact decide_eq_true hb
        rw [this]
        simp (disch := first | assumption | omega) only [q_bl, q_baT, q_bi, q_ba, q_pr, q_ob, q_iT, q_iN, q_it, q_if, q_of, nI_add, pk_mul, pk_sub, nI_leI, nI_ltI, nI_eq, nI_clamp, nI_lt0, nI_eqm, m1_eq, true_or, or_true, not_false_eq_true, m1_lt, m1_nlt, m1_le, m1_nle, b01, b011, q_em, q_m1, n_0, n_1, n_2, n_3, n_4, n_5, n_6, n_7, n_8, n_9, n_10, n_11, n_12, n_14, n_15, n_16, n_20, n_24, n_25, n_32, n_36, n_40, n_41, n_42, n_43, n_45, n_46, n_48, n_57, n_59, n_60, n_73, n_76, n_97, n_99, n_100, n_106, n_109, n_120, n_122, n_136, n_160, n_176, n_200, n_255, n_800, n_1000, n_1001, n_1002, n_1003, n_1006, n_1012, n_1018, n_1019, n_1020, n_1100, n_1140, n_4800, n_4920, n_5940, n_6740, n_20220, q_kI, q_lI, q_nI, q_rI, q_iI, q_jI, q_dI, q_kJ, q_lJ, q_nJ, q_rJ, q_iJ, q_jJ, q_dJ, q_kC, q_lC, q_nC, q_rC, q_jC, q_dC, q_kF, q_lF, q_nF, q_rF, q_jF, q_dF, q_us, q_un, q_ua, F_X3_isActive, B_X3_isActive_49, s.k0, s.r0, s.k1, s.b2, s.k6, a3, a4, s.r4, s.k23, s.l23, hsel]
    · have hu0 : nt (A (43 + 5 * k + 4)) = 0 := by omega
      rw [hu0] at a4 hs
      by_cases hb : bit = 0
      · have : sp_adds A k = false := by rw [hs, hb]; rfl
        rw [this]
        simp (disch := first | assumption | omega) only [q_bl, q_baT, q_bi, q_ba, q_pr, q_ob, q_iT, q_iN, q_it, q_if, q_of, nI_add, pk_mul, pk_sub, nI_leI, nI_ltI, nI_eq, nI_clamp, nI_lt0, nI_eqm, m1_eq, true_or, or_true, not_false_eq_true, m1_lt, m1_nlt, m1_le, m1_nle, b01, b011, q_em, q_m1, n_0, n_1, n_2, n_3, n_4, n_5, n_6, n_7, n_8, n_9, n_10, n_11, n_12, n_14, n_15, n_16, n_20, n_24, n_25, n_32, n_36, n_40, n_41, n_42, n_43, n_45, n_46, n_48, n_57, n_59, n_60, n_73, n_76, n_97, n_99, n_100, n_106, n_109, n_120, n_122, n_136, n_160, n_176, n_200, n_255, n_800, n_1000, n_1001, n_1002, n_1003, n_1006, n_1012, n_1018, n_1019, n_1020, n_1100, n_1140, n_4800, n_4920, n_5940, n_6740, n_20220, q_kI, q_lI, q_nI, q_rI, q_iI, q_jI, q_dI, q_kJ, q_lJ, q_nJ, q_rJ, q_iJ, q_jJ, q_dJ, q_kC, q_lC, q_nC, q_rC, q_jC, q_dC, q_kF, q_lF, q_nF, q_rF, q_jF, q_dF, q_us, q_un, q_ua, F_X3_isActive, B_X3_isActive_49, s.k0, s.r0, s.k1, s.b2, s.k6, a3, a4, s.r4, s.k23, s.l23, hsel, hb, Bool.false_eq_true]
      · have : sp_adds A k = true := by rw [hs]; exact decide_eq_true hb
        rw [this]
        simp (disch := first | assumption | omega) only [q_bl, q_baT, q_bi, q_ba, q_pr, q_ob, q_iT, q_iN, q_it, q_if, q_of, nI_add, pk_mul, pk_sub, nI_leI, nI_ltI, nI_eq, nI_clamp, nI_lt0, nI_eqm, m1_eq, true_or, or_true, not_false_eq_true, m1_lt, m1_nlt, m1_le, m1_nle, b01, b011, q_em, q_m1, n_0, n_1, n_2, n_3, n_4, n_5, n_6, n_7, n_8, n_9, n_10, n_11, n_12, n_14, n_15, n_16, n_20, n_24, n_25, n_32, n_36, n_40, n_41, n_42, n_43, n_45, n_46, n_48, n_57, n_59, n_60, n_73, n_76, n_97, n_99, n_100, n_106, n_109, n_120, n_122, n_136, n_160, n_176, n_200, n_255, n_800, n_1000, n_1001, n_1002, n_1003, n_1006, n_1012, n_1018, n_1019, n_1020, n_1100, n_1140, n_4800, n_4920, n_5940, n_6740, n_20220, q_kI, q_lI, q_nI, q_rI, q_iI, q_jI, q_dI, q_kJ, q_lJ, q_nJ, q_rJ, q_iJ, q_jJ, q_dJ, q_kC, q_lC, q_nC, q_rC, q_jC, q_dC, q_kF, q_lF, q_nF, q_rF, q_jF, q_dF, q_us, q_un, q_ua, F_X3_isActive, B_X3_isActive_49, s.k0, s.r0, s.k1, s.b2, s.k6, a3, a4, s.r4, s.k23, s.l23, hsel]
theorem sval_abs {A : SA} {card f : Nat} (h : WB A) (hc : card < nt (A 8)) (hf : f < nt (A 0)) : (sp_sval A card f).toInt.natAbs < 1000000000 := by
  have := sp_val_lt h hc hf
  unfold sp_sval
  split
  · rw [neg_T (by omega)]; omega
  · rw [nI_toInt (by omega)]; omega
theorem amt_abs {A : SA} {card k : Nat} (h : WB A) (hc : card < nt (A 8)) (hk : k < nt (A 2)) : (sp_amt A card k).toInt.natAbs < 1000000000 := by
  have q := h.ctr hk
  have h1 := sp_val_lt h hc q.2.2.2.2.2.2.2.1
  have h2 := sval_abs h hc q.2.2.2.2.2.2.2.1
  unfold sp_amt
  split
  · rw [nI_toInt (by omega)]; omega
  · split
    · rw [neg_T (by omega)]; omega
    · exact h2
theorem l_cnt {r card : Nat} : ∀ (m n k b : Nat) (μ : Mem) (A : SA), m < n → MO μ r A b → card < nt (A 8) → k + m = nt (A 2) → ∃ μ', L_X3_addAmounts_2 n r (nI card) (nI k) μ = some μ' ∧ MO μ' r (sp_cnt card k m A) (b + m) ∧ Fx (MR r) μ μ' := by
  intro m
  induction m with
  | zero =>
    intro n k b μ A hn h hc he
    obtain ⟨n, rfl⟩ : ∃ k, n = k + 1 := ⟨n - 1, by omega⟩
    obtain ⟨s, hr, w, m⟩ := h
    have c2 := w.c2.2
    exact ⟨μ, by simp (disch := first | assumption | omega) only [q_bl, q_baT, q_bi, q_ba, q_pr, q_ob, q_iT, q_iN, q_it, q_if, q_of, nI_add, pk_mul, pk_sub, nI_leI, nI_ltI, nI_eq, nI_clamp, nI_lt0, nI_eqm, m1_eq, true_or, or_true, not_false_eq_true, m1_lt, m1_nlt, m1_le, m1_nle, b01, b011, q_em, q_m1, n_0, n_1, n_2, n_3, n_4, n_5, n_6, n_7, n_8, n_9, n_10, n_11, n_12, n_14, n_15, n_16, n_20, n_24, n_25, n_32, n_36, n_40, n_41, n_42, n_43, n_45, n_46, n_48, n_57, n_59, n_60, n_73, n_76, n_97, n_99, n_100, n_106, n_109, n_120, n_122, n_136, n_160, n_176, n_200, n_255, n_800, n_1000, n_1001, n_1002, n_1003, n_1006, n_1012, n_1018, n_1019, n_1020, n_1100, n_1140, n_4800, n_4920, n_5940, n_6740, n_20220, q_kI, q_lI, q_nI, q_rI, q_iI, q_jI, q_dI, q_kJ, q_lJ, q_nJ, q_rJ, q_iJ, q_jJ, q_dJ, q_kC, q_lC, q_nC, q_rC, q_jC, q_dC, q_kF, q_lF, q_nF, q_rF, q_jF, q_dF, q_us, q_un, q_ua, L_X3_addAmounts_2, B_X3_addAmounts_2, s.k0, s.r0, s.k1, s.b2, s.k6, hr.n2 w], ⟨s, hr, w, m⟩, Fx.same⟩
  | succ m ih =>
    intro n k b μ A hn h hc he
    obtain ⟨n, rfl⟩ : ∃ k, n = k + 1 := ⟨n - 1, by omega⟩
    have h' := h
    obtain ⟨s, hr, w, wm⟩ := h'
    have c2 := w.c2.2
    have hk : k < nt (A 2) := by omega
    have q := w.ctr hk
    have hact := x3_active h hk
    have a1 := x6_at (p := 1) s.st2 (hr.n2 w) (by omega) hk (by decide)
    have a2 := x6_at (p := 2) s.st2 (hr.n2 w) (by omega) hk (by decide)
    rw [show r + 6 + 1 = r + 7 from rfl, hr.1.2.2.1.2 k 1 hk (by decide), q.2.1] at a1
    rw [show r + 6 + 1 = r + 7 from rfl, hr.1.2.2.1.2 k 2 hk (by decide), q.2.2.1] at a2
    have v1 := x3_value s hr.bd w hc q.2.2.2.2.2.2.2.1
    have v2 := x3_signed s hr.bd w hc q.2.2.2.2.2.2.2.1
    by_cases hx : sp_adds A k = true
    · obtain ⟨μ1, e1, m1, f1⟩ := x3_addTo h hk (amt_abs w hc hk)
      have ec : ∀ i, i < 1000 → sp_add A k (sp_amt A card k) i = A i := fun i hi => sp_add_at (by omega) (by omega)
      obtain ⟨μ2, e2, m2, f2⟩ := ih n (k + 1) (b + 1) μ1 _ (by omega) m1 (by rw [ec 8 (by decide)]; exact hc) (by rw [ec 2 (by decide)]; omega)
      refine ⟨μ2, ?_, ?_, f1.trans f2⟩
      · rw [hx] at hact
        have hm2 : nt (A (43 + 5 * k + 2)) ≤ 2 := q.2.2.2.2.2.2.2.2.1
        by_cases h1 : nt (A (43 + 5 * k + 2)) = 1
        · have ea : sp_amt A card k = -nI (sp_val A card (nt (A (43 + 5 * k + 1)))) := by
            unfold sp_amt; rw [q.2.2.1, h1, if_neg (by decide +kernel), if_pos rfl]
          rw [ea] at e1
          rw [h1] at a2
          simp (disch := first | assumption | omega) only [q_bl, q_baT, q_bi, q_ba, q_pr, q_ob, q_iT, q_iN, q_it, q_if, q_of, nI_add, pk_mul, pk_sub, nI_leI, nI_ltI, nI_eq, nI_clamp, nI_lt0, nI_eqm, m1_eq, true_or, or_true, not_false_eq_true, m1_lt, m1_nlt, m1_le, m1_nle, b01, b011, q_em, q_m1, n_0, n_1, n_2, n_3, n_4, n_5, n_6, n_7, n_8, n_9, n_10, n_11, n_12, n_14, n_15, n_16, n_20, n_24, n_25, n_32, n_36, n_40, n_41, n_42, n_43, n_45, n_46, n_48, n_57, n_59, n_60, n_73, n_76, n_97, n_99, n_100, n_106, n_109, n_120, n_122, n_136, n_160, n_176, n_200, n_255, n_800, n_1000, n_1001, n_1002, n_1003, n_1006, n_1012, n_1018, n_1019, n_1020, n_1100, n_1140, n_4800, n_4920, n_5940, n_6740, n_20220, q_kI, q_lI, q_nI, q_rI, q_iI, q_jI, q_dI, q_kJ, q_lJ, q_nJ, q_rJ, q_iJ, q_jJ, q_dJ, q_kC, q_lC, q_nC, q_rC, q_jC, q_dC, q_kF, q_lF, q_nF, q_rF, q_jF, q_dF, q_us, q_un, q_ua, L_X3_addAmounts_2, B_X3_addAmounts_2, B_X3_addAmounts_120, s.k0, s.r0, s.k1, s.b2, s.k6, hr.n2 w, hact, a1, a2, v1, e1, e2]
        · by_cases h2 : nt (A (43 + 5 * k + 2)) = 2
          · have ea : sp_amt A card k = sp_sval A card (nt (A (43 + 5 * k + 1))) := by
              unfold sp_amt; rw [q.2.2.1, h2, if_neg (by decide +kernel), if_neg (by decide +kernel)]
            rw [ea] at e1
            rw [h2] at a2
            simp (disch := first | assumption | omega) only [q_bl, q_baT, q_bi, q_ba, q_pr, q_ob, q_iT, q_iN, q_it, q_if, q_of, nI_add, pk_mul, pk_sub, nI_leI, nI_ltI, nI_eq, nI_clamp, nI_lt0, nI_eqm, m1_eq, true_or, or_true, not_false_eq_true, m1_lt, m1_nlt, m1_le, m1_nle, b01, b011, q_em, q_m1, n_0, n_1, n_2, n_3, n_4, n_5, n_6, n_7, n_8, n_9, n_10, n_11, n_12, n_14, n_15, n_16, n_20, n_24, n_25, n_32, n_36, n_40, n_41, n_42, n_43, n_45, n_46, n_48, n_57, n_59, n_60, n_73, n_76, n_97, n_99, n_100, n_106, n_109, n_120, n_122, n_136, n_160, n_176, n_200, n_255, n_800, n_1000, n_1001, n_1002, n_1003, n_1006, n_1012, n_1018, n_1019, n_1020, n_1100, n_1140, n_4800, n_4920, n_5940, n_6740, n_20220, q_kI, q_lI, q_nI, q_rI, q_iI, q_jI, q_dI, q_kJ, q_lJ, q_nJ, q_rJ, q_iJ, q_jJ, q_dJ, q_kC, q_lC, q_nC, q_rC, q_jC, q_dC, q_kF, q_lF, q_nF, q_rF, q_jF, q_dF, q_us, q_un, q_ua, L_X3_addAmounts_2, B_X3_addAmounts_2, B_X3_addAmounts_120, s.k0, s.r0, s.k1, s.b2, s.k6, hr.n2 w, hact, a1, a2, v2, e1, e2]
          · have h0 : nt (A (43 + 5 * k + 2)) = 0 := by omega
            have ea : sp_amt A card k = nI (sp_val A card (nt (A (43 + 5 * k + 1)))) := by
              unfold sp_amt; rw [q.2.2.1, h0, if_pos rfl]
            rw [ea] at e1
            rw [h0] at a2
            simp (disch := first | assumption | omega) only [q_bl, q_baT, q_bi, q_ba, q_pr, q_ob, q_iT, q_iN, q_it, q_if, q_of, nI_add, pk_mul, pk_sub, nI_leI, nI_ltI, nI_eq, nI_clamp, nI_lt0, nI_eqm, m1_eq, true_or, or_true, not_false_eq_true, m1_lt, m1_nlt, m1_le, m1_nle, b01, b011, q_em, q_m1, n_0, n_1, n_2, n_3, n_4, n_5, n_6, n_7, n_8, n_9, n_10, n_11, n_12, n_14, n_15, n_16, n_20, n_24, n_25, n_32, n_36, n_40, n_41, n_42, n_43, n_45, n_46, n_48, n_57, n_59, n_60, n_73, n_76, n_97, n_99, n_100, n_106, n_109, n_120, n_122, n_136, n_160, n_176, n_200, n_255, n_800, n_1000, n_1001, n_1002, n_1003, n_1006, n_1012, n_1018, n_1019, n_1020, n_1100, n_1140, n_4800, n_4920, n_5940, n_6740, n_20220, q_kI, q_lI, q_nI, q_rI, q_iI, q_jI, q_dI, q_kJ, q_lJ, q_nJ, q_rJ, q_iJ, q_jJ, q_dJ, q_kC, q_lC, q_nC, q_rC, q_jC, q_dC, q_kF, q_lF, q_nF, q_rF, q_jF, q_dF, q_us, q_un, q_ua, L_X3_addAmounts_2, B_X3_addAmounts_2, B_X3_addAmounts_120, s.k0, s.r0, s.k1, s.b2, s.k6, hr.n2 w, hact, a1, a2, v1, e1, e2]
      · unfold sp_cnt
        rw [if_pos hx, show b + (m + 1) = b + 1 + m from by omega]
        exact m2
    · obtain ⟨μ2, e2, m2, f2⟩ := ih n (k + 1) b μ A (by omega) h hc (by omega)
      refine ⟨μ2, ?_, ?_, f2⟩
      · rw [if_neg hx] at hact
        simp (disch := first | assumption | omega) only [q_bl, q_baT, q_bi, q_ba, q_pr, q_ob, q_iT, q_iN, q_it, q_if, q_of, nI_add, pk_mul, pk_sub, nI_leI, nI_ltI, nI_eq, nI_clamp, nI_lt0, nI_eqm, m1_eq, true_or, or_true, not_false_eq_true, m1_lt, m1_nlt, m1_le, m1_nle, b01, b011, q_em, q_m1, n_0, n_1, n_2, n_3, n_4, n_5, n_6, n_7, n_8, n_9, n_10, n_11, n_12, n_14, n_15, n_16, n_20, n_24, n_25, n_32, n_36, n_40, n_41, n_42, n_43, n_45, n_46, n_48, n_57, n_59, n_60, n_73, n_76, n_97, n_99, n_100, n_106, n_109, n_120, n_122, n_136, n_160, n_176, n_200, n_255, n_800, n_1000, n_1001, n_1002, n_1003, n_1006, n_1012, n_1018, n_1019, n_1020, n_1100, n_1140, n_4800, n_4920, n_5940, n_6740, n_20220, q_kI, q_lI, q_nI, q_rI, q_iI, q_jI, q_dI, q_kJ, q_lJ, q_nJ, q_rJ, q_iJ, q_jJ, q_dJ, q_kC, q_lC, q_nC, q_rC, q_jC, q_dC, q_kF, q_lF, q_nF, q_rF, q_jF, q_dF, q_us, q_un, q_ua, L_X3_addAmounts_2, B_X3_addAmounts_2, B_X3_addAmounts_120, s.k0, s.r0, s.k1, s.b2, s.k6, hr.n2 w, hact, e2]
      · unfold sp_cnt
        rw [if_neg hx]
        exact ⟨m2.1, m2.2.1, m2.2.2.1, m2.2.2.2.up (by omega)⟩
theorem x3_cnt {μ : Mem} {r b card : Nat} {A : SA} (h : MO μ r A b) (hc : card < nt (A 8)) : ∃ μ', F_X3_addAmounts r (nI card) μ = some μ' ∧ MO μ' r (sp_cnt card 0 (nt (A 2)) A) (b + 6) ∧ Fx (MR r) μ μ' := by
  have c2 := h.2.2.1.c2.2
  obtain ⟨μ', e, m, f⟩ := l_cnt (nt (A 2)) FU 0 b μ A (FU_gt (by omega)) h hc (by omega)
  exact ⟨μ', by simp (disch := first | assumption | omega) only [q_bl, q_baT, q_bi, q_ba, q_pr, q_ob, q_iT, q_iN, q_it, q_if, q_of, nI_add, pk_mul, pk_sub, nI_leI, nI_ltI, nI_eq, nI_clamp, nI_lt0, nI_eqm, m1_eq, true_or, or_true, not_false_eq_true, m1_lt, m1_nlt, m1_le, m1_nle, b01, b011, q_em, q_m1, n_0, n_1, n_2, n_3, n_4, n_5, n_6, n_7, n_8, n_9, n_10, n_11, n_12, n_14, n_15, n_16, n_20, n_24, n_25, n_32, n_36, n_40, n_41, n_42, n_43, n_45, n_46, n_48, n_57, n_59, n_60, n_73, n_76, n_97, n_99, n_100, n_106, n_109, n_120, n_122, n_136, n_160, n_176, n_200, n_255, n_800, n_1000, n_1001, n_1002, n_1003, n_1006, n_1012, n_1018, n_1019, n_1020, n_1100, n_1140, n_4800, n_4920, n_5940, n_6740, n_20220, q_kI, q_lI, q_nI, q_rI, q_iI, q_jI, q_dI, q_kJ, q_lJ, q_nJ, q_rJ, q_iJ, q_jJ, q_dJ, q_kC, q_lC, q_nC, q_rC, q_jC, q_dC, q_kF, q_lF, q_nF, q_rF, q_jF, q_dF, q_us, q_un, q_ua, F_X3_addAmounts, e], ⟨m.1, m.2.1, m.2.2.1, m.2.2.2.up (by omega)⟩, f⟩

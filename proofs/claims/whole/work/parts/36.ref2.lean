/-! LAYER 3: the reference: rolling, selecting, counting -/
/-- rows that a machine of the class may hold, in some memory -/
def EX (A : SA) (b : Nat) : Prop := ∃ (μ : Mem) (r : Nat), MO μ r A b
theorem EX.w {A : SA} {b : Nat} (h : EX A b) : WB A := by obtain ⟨_, _, h⟩ := h; exact h.2.2.1
theorem EX.m {A : SA} {b : Nat} (h : EX A b) : WM A b := by obtain ⟨_, _, h⟩ := h; exact h.2.2.2
theorem EX.add {A : SA} {b k : Nat} {a : Int32} (h : EX A b) (hk : k < nt (A 2)) (ha : a.toInt.natAbs < 1000000000) : EX (sp_add A k a) (b + 1) := by
  obtain ⟨μ, r, h⟩ := h
  obtain ⟨μ', e, m, f⟩ := x3_addTo h hk ha
  exact ⟨μ', r, m⟩
theorem EX.num {A : SA} {b k : Nat} (h : EX A b) (hk : k < 6) : EX (ua A (1006 + k) (nI 0)) b := by
  obtain ⟨μ, r, h⟩ := h
  exact ⟨_, r, MO.num h hk (by decide +kernel)⟩
def s1 (m : Nat) : Nat → Prop := fun q => q = m + 1
theorem l9_roll {m l : Nat} (hl : l ≤ 3) : ∀ (j n k b : Nat) (μ : Mem) (A : SA), j < n → RA μ m A → EX A b → k + j = nt (A 5) → ∃ μ' n', L_X9_totalCycle_2 n m (nI l) (nI k) μ = L_X9_totalCycle_2 (n' + 1) m (nI l) (nI (nt (A 5))) μ' ∧ RA μ' m (sp_roll l k j A) ∧ Fx (s1 m) μ μ' := by
  intro j
  induction j with
  | zero =>
    intro n k b μ A hn h ex he
    obtain ⟨n, rfl⟩ : ∃ k, n = k + 1 := ⟨n - 1, by omega⟩
    obtain rfl : k = nt (A 5) := by omega
    exact ⟨μ, n, rfl, h, Fx.same⟩
  | succ j ih =>
    intro n k b μ A hn h ex he
    obtain ⟨n, rfl⟩ : ∃ k, n = k + 1 := ⟨n - 1, by omega⟩
    have w := ex.w
    have c5 := w.c5
    have c2 := w.c2.2
    have hk : k < nt (A 5) := by omega
    have c := w.rol hk
    have h' := h
    obtain ⟨s, hA⟩ := h'
    by_cases hx : nt (A (136 + 3 * k)) = l
    · obtain ⟨μ1, e1, m1, f1⟩ := x9_add (a := A (1006 + nt (A (136 + 3 * k + 1)))) h w c.2.2.2.2.2
      have ex1 := ex.add c.2.2.2.2.2 (ex.m.2.2.2.1 (nt (A (136 + 3 * k + 1))) (by omega))
      have e5 : sp_add A (nt (A (136 + 3 * k + 2))) (A (1006 + nt (A (136 + 3 * k + 1)))) 5 = A 5 := sp_add_at (by omega) (by omega)
      obtain ⟨μ2, n', e2, m2, f2⟩ := ih n (k + 1) (b + 1) μ1 _ (by omega) m1 ex1 (by rw [e5]; omega)
      rw [e5] at e2
      refine ⟨μ2, n', ?_, ?_, f1.trans f2⟩
      · rw [← e2]
        have v1 : A (136 + 3 * k) = nI l := by rw [c.1, hx]
        have v2 : A (136 + 3 * k + 1) = nI (nt (A (136 + 3 * k + 1))) := c.2.1
        have v3 : A (136 + 3 * k + 2) = nI (nt (A (136 + 3 * k + 2))) := c.2.2.1
        generalize nt (A (136 + 3 * k + 1)) = a1 at *
        generalize nt (A (136 + 3 * k + 2)) = a2 at *
        generalize nt (A 5) = n5 at *
        simp (disch := first | assumption | omega) only [q_bl, q_baT, q_bi, q_ba, q_pr, q_ob, q_iT, q_iN, q_it, q_if, q_of, nI_add, pk_mul, pk_sub, nI_leI, nI_ltI, nI_eq, nI_clamp, nI_lt0, nI_eqm, m1_eq, true_or, or_true, not_false_eq_true, m1_lt, m1_nlt, m1_le, m1_nle, b01, b011, q_em, q_m1, n_0, n_1, n_2, n_3, n_4, n_5, n_6, n_7, n_8, n_9, n_10, n_11, n_12, n_14, n_15, n_16, n_20, n_24, n_25, n_32, n_36, n_40, n_41, n_42, n_43, n_45, n_46, n_48, n_57, n_59, n_60, n_73, n_76, n_97, n_99, n_100, n_106, n_109, n_120, n_122, n_136, n_160, n_176, n_200, n_255, n_800, n_1000, n_1001, n_1002, n_1003, n_1006, n_1012, n_1018, n_1019, n_1020, n_1100, n_1140, n_4800, n_4920, n_5940, n_6740, n_20220, q_kI, q_lI, q_nI, q_rI, q_iI, q_jI, q_dI, q_kJ, q_lJ, q_nJ, q_rJ, q_iJ, q_jJ, q_dJ, q_kC, q_lC, q_nC, q_rC, q_jC, q_dC, q_kF, q_lF, q_nF, q_rF, q_jF, q_dF, q_us, q_un, q_ua, L_X9_totalCycle_2, B_X9_totalCycle_2, B_X9_totalCycle_70, s.k0, s.r0, s.k1, s.l1, hA, c5.1, v1, v2, v3, e1]
      · have : A (136 + 3 * k) = nI l := by rw [c.1, hx]
        unfold sp_roll
        rw [if_pos this]
        exact m2
    · obtain ⟨μ2, n', e2, m2, f2⟩ := ih n (k + 1) b μ A (by omega) h ex (by omega)
      refine ⟨μ2, n', ?_, ?_, f2⟩
      · rw [← e2]
        have v1 : A (136 + 3 * k) = nI (nt (A (136 + 3 * k))) := c.1
        generalize nt (A (136 + 3 * k)) = a1 at *
        generalize nt (A 5) = n5 at *
        simp (disch := first | assumption | omega) only [q_bl, q_baT, q_bi, q_ba, q_pr, q_ob, q_iT, q_iN, q_it, q_if, q_of, nI_add, pk_mul, pk_sub, nI_leI, nI_ltI, nI_eq, nI_clamp, nI_lt0, nI_eqm, m1_eq, true_or, or_true, not_false_eq_true, m1_lt, m1_nlt, m1_le, m1_nle, b01, b011, q_em, q_m1, n_0, n_1, n_2, n_3, n_4, n_5, n_6, n_7, n_8, n_9, n_10, n_11, n_12, n_14, n_15, n_16, n_20, n_24, n_25, n_32, n_36, n_40, n_41, n_42, n_43, n_45, n_46, n_48, n_57, n_59, n_60, n_73, n_76, n_97, n_99, n_100, n_106, n_109, n_120, n_122, n_136, n_160, n_176, n_200, n_255, n_800, n_1000, n_1001, n_1002, n_1003, n_1006, n_1012, n_1018, n_1019, n_1020, n_1100, n_1140, n_4800, n_4920, n_5940, n_6740, n_20220, q_kI, q_lI, q_nI, q_rI, q_iI, q_jI, q_dI, q_kJ, q_lJ, q_nJ, q_rJ, q_iJ, q_jJ, q_dJ, q_kC, q_lC, q_nC, q_rC, q_jC, q_dC, q_kF, q_lF, q_nF, q_rF, q_jF, q_dF, q_us, q_un, q_ua, L_X9_totalCycle_2, B_X9_totalCycle_2, B_X9_totalCycle_70, s.k0, s.r0, s.k1, s.l1, hA, c5.1, v1]
      · have : ¬ A (136 + 3 * k) = nI l := by rw [c.1, nI_eq (by omega) (by omega)]; exact hx
        unfold sp_roll
        rw [if_neg this]
        exact m2
theorem l9_clr {m l : Nat} (hl1 : 1 ≤ l) (hl : l ≤ 3) : ∀ (j n k b : Nat) (μ : Mem) (A : SA), j < n → RA μ m A → EX A b → k + j = nt (A 6) → ∃ μ', L_X9_totalCycle_88 n m (nI l) (nI k) μ = some μ' ∧ RA μ' m (ua (sp_clear l k j A) (1003 + l - 1) (sp_clear l k j A (1003 + l - 1) + nI 1)) ∧ Fx (s1 m) μ μ' := by
  intro j
  induction j with
  | zero =>
    intro n k b μ A hn h ex he
    obtain ⟨n, rfl⟩ : ∃ k, n = k + 1 := ⟨n - 1, by omega⟩
    have c6 := ex.w.c6
    have h' := h
    obtain ⟨s, hA⟩ := h'
    refine ⟨stI μ (m + 1) (1003 + l - 1) (A (1003 + l - 1) + nI 1), ?_, h.put, Fx.stI rfl⟩
    generalize nt (A 6) = n6 at *
    simp (disch := first | assumption | omega) only [q_bl, q_baT, q_bi, q_ba, q_pr, q_ob, q_iT, q_iN, q_it, q_if, q_of, nI_add, pk_mul, pk_sub, nI_leI, nI_ltI, nI_eq, nI_clamp, nI_lt0, nI_eqm, m1_eq, true_or, or_true, not_false_eq_true, m1_lt, m1_nlt, m1_le, m1_nle, b01, b011, q_em, q_m1, n_0, n_1, n_2, n_3, n_4, n_5, n_6, n_7, n_8, n_9, n_10, n_11, n_12, n_14, n_15, n_16, n_20, n_24, n_25, n_32, n_36, n_40, n_41, n_42, n_43, n_45, n_46, n_48, n_57, n_59, n_60, n_73, n_76, n_97, n_99, n_100, n_106, n_109, n_120, n_122, n_136, n_160, n_176, n_200, n_255, n_800, n_1000, n_1001, n_1002, n_1003, n_1006, n_1012, n_1018, n_1019, n_1020, n_1100, n_1140, n_4800, n_4920, n_5940, n_6740, n_20220, q_kI, q_lI, q_nI, q_rI, q_iI, q_jI, q_dI, q_kJ, q_lJ, q_nJ, q_rJ, q_iJ, q_jJ, q_dJ, q_kC, q_lC, q_nC, q_rC, q_jC, q_dC, q_kF, q_lF, q_nF, q_rF, q_jF, q_dF, q_us, q_un, q_ua, L_X9_totalCycle_88, B_X9_totalCycle_88, s.k0, s.r0, s.k1, s.l1, hA, c6.1]
  | succ j ih =>
    intro n k b μ A hn h ex he
    obtain ⟨n, rfl⟩ : ∃ k, n = k + 1 := ⟨n - 1, by omega⟩
    have w := ex.w
    have c6 := w.c6
    have c2 := w.c2.2
    have hk : k < nt (A 6) := by omega
    have c := w.clr hk
    have h' := h
    obtain ⟨s, hA⟩ := h'
    by_cases hx : nt (A (160 + 2 * k)) = l
    · have ex1 := ex.num (show nt (A (160 + 2 * k + 1)) < 6 by omega)
      obtain ⟨μ2, e2, m2, f2⟩ := ih n (k + 1) b _ _ (by omega) (h.put (j := 1006 + nt (A (160 + 2 * k + 1))) (v := nI 0)) ex1 (by rw [ua_n (by omega)]; omega)
      refine ⟨μ2, ?_, ?_, Fx.trans (Fx.stI rfl) f2⟩
      · have v1 : A (160 + 2 * k) = nI l := by rw [c.1, hx]
        have v2 : A (160 + 2 * k + 1) = nI (nt (A (160 + 2 * k + 1))) := c.2.1
        generalize nt (A (160 + 2 * k + 1)) = a1 at *
        generalize nt (A 6) = n6 at *
        simp (disch := first | assumption | omega) only [q_bl, q_baT, q_bi, q_ba, q_pr, q_ob, q_iT, q_iN, q_it, q_if, q_of, nI_add, pk_mul, pk_sub, nI_leI, nI_ltI, nI_eq, nI_clamp, nI_lt0, nI_eqm, m1_eq, true_or, or_true, not_false_eq_true, m1_lt, m1_nlt, m1_le, m1_nle, b01, b011, q_em, q_m1, n_0, n_1, n_2, n_3, n_4, n_5, n_6, n_7, n_8, n_9, n_10, n_11, n_12, n_14, n_15, n_16, n_20, n_24, n_25, n_32, n_36, n_40, n_41, n_42, n_43, n_45, n_46, n_48, n_57, n_59, n_60, n_73, n_76, n_97, n_99, n_100, n_106, n_109, n_120, n_122, n_136, n_160, n_176, n_200, n_255, n_800, n_1000, n_1001, n_1002, n_1003, n_1006, n_1012, n_1018, n_1019, n_1020, n_1100, n_1140, n_4800, n_4920, n_5940, n_6740, n_20220, q_kI, q_lI, q_nI, q_rI, q_iI, q_jI, q_dI, q_kJ, q_lJ, q_nJ, q_rJ, q_iJ, q_jJ, q_dJ, q_kC, q_lC, q_nC, q_rC, q_jC, q_dC, q_kF, q_lF, q_nF, q_rF, q_jF, q_dF, q_us, q_un, q_ua, L_X9_totalCycle_88, B_X9_totalCycle_88, B_X9_totalCycle_139, s.k0, s.r0, s.k1, s.l1, hA, c6.1, v1, v2, e2]
      · have : A (160 + 2 * k) = nI l := by rw [c.1, hx]
        unfold sp_clear
        rw [if_pos this]
        exact m2
    · obtain ⟨μ2, e2, m2, f2⟩ := ih n (k + 1) b μ A (by omega) h ex (by omega)
      refine ⟨μ2, ?_, ?_, f2⟩
      · have v1 : A (160 + 2 * k) = nI (nt (A (160 + 2 * k))) := c.1
        generalize nt (A (160 + 2 * k)) = a1 at *
        generalize nt (A 6) = n6 at *
        simp (disch := first | assumption | omega) only [q_bl, q_baT, q_bi, q_ba, q_pr, q_ob, q_iT, q_iN, q_it, q_if, q_of, nI_add, pk_mul, pk_sub, nI_leI, nI_ltI, nI_eq, nI_clamp, nI_lt0, nI_eqm, m1_eq, true_or, or_true, not_false_eq_true, m1_lt, m1_nlt, m1_le, m1_nle, b01, b011, q_em, q_m1, n_0, n_1, n_2, n_3, n_4, n_5, n_6, n_7, n_8, n_9, n_10, n_11, n_12, n_14, n_15, n_16, n_20, n_24, n_25, n_32, n_36, n_40, n_41, n_42, n_43, n_45, n_46, n_48, n_57, n_59, n_60, n_73, n_76, n_97, n_99, n_100, n_106, n_109, n_120, n_122, n_136, n_160, n_176, n_200, n_255, n_800, n_1000, n_1001, n_1002, n_1003, n_1006, n_1012, n_1018, n_1019, n_1020, n_1100, n_1140, n_4800, n_4920, n_5940, n_6740, n_20220, q_kI, q_lI, q_nI, q_rI, q_iI, q_jI, q_dI, q_kJ, q_lJ, q_nJ, q_rJ, q_iJ, q_jJ, q_dJ, q_kC, q_lC, q_nC, q_rC, q_jC, q_dC, q_kF, q_lF, q_nF, q_rF, q_jF, q_dF, q_us, q_un, q_ua, L_X9_totalCycle_88, B_X9_totalCycle_88, B_X9_totalCycle_139, s.k0, s.r0, s.k1, s.l1, hA, c6.1, v1, e2]
      · have : ¬ A (160 + 2 * k) = nI l := by rw [c.1, nI_eq (by omega) (by omega)]; exact hx
        unfold sp_clear
        rw [if_neg this]
        exact m2
-- selectors
theorem x9_has {μ : Mem} {m sel card : Nat} {A : SA} (h : RA μ m A) (w : WB A) (hs : sel < nt (A 1)) (hc : card < nt (A 8)) : F_X9_has m (nI card) (nI sel) μ = some (if hp (A (200 + 20 * card + nt (A (25 + 3 * sel)) - 1)) (nt (A (25 + 3 * sel + 1))) = true then nI 1 else nI 0) := by
  have c1 := w.c1.2
  have c8 := w.c8.2
  have q := w.sel hs
  have hk := x9_code h (show card < 40 by omega) q.2.2.2.1 q.2.2.2.2.1
  have hl := w.lc hc q.2.2.2.1 q.2.2.2.2.1
  obtain ⟨s, hA⟩ := h
  have v1 := q.1
  have v2 := q.2.1
  have q10 := q.2.2.2.2.2.1
  generalize nt (A (25 + 3 * sel)) = cl at *
  generalize nt (A (25 + 3 * sel + 1)) = pn at *
  generalize A (200 + 20 * card + cl - 1) = c at *
  by_cases h10 : pn = 10
  · subst h10
    by_cases hx : nI 99 ≤ c
    · have hy : ¬ c < nI 99 := le_nlt ▸ hx
      simp (disch := first | assumption | omega) only [q_bl, q_baT, q_bi, q_ba, q_pr, q_ob, q_iT, q_iN, q_it, q_if, q_of, nI_add, pk_mul, pk_sub, nI_leI, nI_ltI, nI_eq, nI_clamp, nI_lt0, nI_eqm, m1_eq, true_or, or_true, not_false_eq_true, m1_lt, m1_nlt, m1_le, m1_nle, b01, b011, q_em, q_m1, n_0, n_1, n_2, n_3, n_4, n_5, n_6, n_7, n_8, n_9, n_10, n_11, n_12, n_14, n_15, n_16, n_20, n_24, n_25, n_32, n_36, n_40, n_41, n_42, n_43, n_45, n_46, n_48, n_57, n_59, n_60, n_73, n_76, n_97, n_99, n_100, n_106, n_109, n_120, n_122, n_136, n_160, n_176, n_200, n_255, n_800, n_1000, n_1001, n_1002, n_1003, n_1006, n_1012, n_1018, n_1019, n_1020, n_1100, n_1140, n_4800, n_4920, n_5940, n_6740, n_20220, q_kI, q_lI, q_nI, q_rI, q_iI, q_jI, q_dI, q_kJ, q_lJ, q_nJ, q_rJ, q_iJ, q_jJ, q_dJ, q_kC, q_lC, q_nC, q_rC, q_jC, q_dC, q_kF, q_lF, q_nF, q_rF, q_jF, q_dF, q_us, q_un, q_ua, F_X9_has, s.k0, s.r0, s.k1, s.l1, hA, v1, v2, hk, x9_hasX, hp, decide_eq_true_eq]
    · have hy : c < nI 99 := Decidable.of_not_not (fun e => hx (le_nlt ▸ e))
      simp (disch := first | assumption | omega) only [q_bl, q_baT, q_bi, q_ba, q_pr, q_ob, q_iT, q_iN, q_it, q_if, q_of, nI_add, pk_mul, pk_sub, nI_leI, nI_ltI, nI_eq, nI_clamp, nI_lt0, nI_eqm, m1_eq, true_or, or_true, not_false_eq_true, m1_lt, m1_nlt, m1_le, m1_nle, b01, b011, q_em, q_m1, n_0, n_1, n_2, n_3, n_4, n_5, n_6, n_7, n_8, n_9, n_10, n_11, n_12, n_14, n_15, n_16, n_20, n_24, n_25, n_32, n_36, n_40, n_41, n_42, n_43, n_45, n_46, n_48, n_57, n_59, n_60, n_73, n_76, n_97, n_99, n_100, n_106, n_109, n_120, n_122, n_136, n_160, n_176, n_200, n_255, n_800, n_1000, n_1001, n_1002, n_1003, n_1006, n_1012, n_1018, n_1019, n_1020, n_1100, n_1140, n_4800, n_4920, n_5940, n_6740, n_20220, q_kI, q_lI, q_nI, q_rI, q_iI, q_jI, q_dI, q_kJ, q_lJ, q_nJ, q_rJ, q_iJ, q_jJ, q_dJ, q_kC, q_lC, q_nC, q_rC, q_jC, q_dC, q_kF, q_lF, q_nF, q_rF, q_jF, q_dF, q_us, q_un, q_ua, F_X9_has, s.k0, s.r0, s.k1, s.l1, hA, v1, v2, hk, x9_hasX, hp, decide_eq_true_eq]
  · rcases hl.dig with ⟨d1, d2, d3, d4⟩ | ⟨d1, d2, d3, d4, d5⟩
    · have hh : hp c pn = false := by
        unfold hp; rw [if_neg h10]
        rcases d2 with d2 | d2
        · rw [if_pos d2]
        · by_cases e : c = -nI 1
          · rw [if_pos e]
          · rw [if_neg e, if_pos d2]
      rw [hh]
      simp (disch := first | assumption | omega) only [q_bl, q_baT, q_bi, q_ba, q_pr, q_ob, q_iT, q_iN, q_it, q_if, q_of, nI_add, pk_mul, pk_sub, nI_leI, nI_ltI, nI_eq, nI_clamp, nI_lt0, nI_eqm, m1_eq, true_or, or_true, not_false_eq_true, m1_lt, m1_nlt, m1_le, m1_nle, b01, b011, q_em, q_m1, n_0, n_1, n_2, n_3, n_4, n_5, n_6, n_7, n_8, n_9, n_10, n_11, n_12, n_14, n_15, n_16, n_20, n_24, n_25, n_32, n_36, n_40, n_41, n_42, n_43, n_45, n_46, n_48, n_57, n_59, n_60, n_73, n_76, n_97, n_99, n_100, n_106, n_109, n_120, n_122, n_136, n_160, n_176, n_200, n_255, n_800, n_1000, n_1001, n_1002, n_1003, n_1006, n_1012, n_1018, n_1019, n_1020, n_1100, n_1140, n_4800, n_4920, n_5940, n_6740, n_20220, q_kI, q_lI, q_nI, q_rI, q_iI, q_jI, q_dI, q_kJ, q_lJ, q_nJ, q_rJ, q_iJ, q_jJ, q_dJ, q_kC, q_lC, q_nC, q_rC, q_jC, q_dC, q_kF, q_lF, q_nF, q_rF, q_jF, q_dF, q_us, q_un, q_ua, F_X9_has, s.k0, s.r0, s.k1, s.l1, hA, v1, v2, hk, x9_digitOf, d1, Bool.false_eq_true]
    · by_cases hx : dz c = pn
      · simp (disch := first | assumption | omega) only [q_bl, q_baT, q_bi, q_ba, q_pr, q_ob, q_iT, q_iN, q_it, q_if, q_of, nI_add, pk_mul, pk_sub, nI_leI, nI_ltI, nI_eq, nI_clamp, nI_lt0, nI_eqm, m1_eq, true_or, or_true, not_false_eq_true, m1_lt, m1_nlt, m1_le, m1_nle, b01, b011, q_em, q_m1, n_0, n_1, n_2, n_3, n_4, n_5, n_6, n_7, n_8, n_9, n_10, n_11, n_12, n_14, n_15, n_16, n_20, n_24, n_25, n_32, n_36, n_40, n_41, n_42, n_43, n_45, n_46, n_48, n_57, n_59, n_60, n_73, n_76, n_97, n_99, n_100, n_106, n_109, n_120, n_122, n_136, n_160, n_176, n_200, n_255, n_800, n_1000, n_1001, n_1002, n_1003, n_1006, n_1012, n_1018, n_1019, n_1020, n_1100, n_1140, n_4800, n_4920, n_5940, n_6740, n_20220, q_kI, q_lI, q_nI, q_rI, q_iI, q_jI, q_dI, q_kJ, q_lJ, q_nJ, q_rJ, q_iJ, q_jJ, q_dJ, q_kC, q_lC, q_nC, q_rC, q_jC, q_dC, q_kF, q_lF, q_nF, q_rF, q_jF, q_dF, q_us, q_un, q_ua, F_X9_has, s.k0, s.r0, s.k1, s.l1, hA, v1, v2, hk, x9_digitOf, d1, hp, decide_eq_true_eq]
      · simp (disch := first | assumption | omega) only [q_bl, q_baT, q_bi, q_ba, q_pr, q_ob, q_iT, q_iN, q_it, q_if, q_of, nI_add, pk_mul, pk_sub, nI_leI, nI_ltI, nI_eq, nI_clamp, nI_lt0, nI_eqm, m1_eq, true_or, or_true, not_false_eq_true, m1_lt, m1_nlt, m1_le, m1_nle, b01, b011, q_em, q_m1, n_0, n_1, n_2, n_3, n_4, n_5, n_6, n_7, n_8, n_9, n_10, n_11, n_12, n_14, n_15, n_16, n_20, n_24, n_25, n_32, n_36, n_40, n_41, n_42, n_43, n_45, n_46, n_48, n_57, n_59, n_60, n_73, n_76, n_97, n_99, n_100, n_106, n_109, n_120, n_122, n_136, n_160, n_176, n_200, n_255, n_800, n_1000, n_1001, n_1002, n_1003, n_1006, n_1012, n_1018, n_1019, n_1020, n_1100, n_1140, n_4800, n_4920, n_5940, n_6740, n_20220, q_kI, q_lI, q_nI, q_rI, q_iI, q_jI, q_dI, q_kJ, q_lJ, q_nJ, q_rJ, q_iJ, q_jJ, q_dJ, q_kC, q_lC, q_nC, q_rC, q_jC, q_dC, q_kF, q_lF, q_nF, q_rF, q_jF, q_dF, q_us, q_un, q_ua, F_X9_has, s.k0, s.r0, s.k1, s.l1, hA, v1, v2, hk, x9_digitOf, d1, hp, decide_eq_true_eq]
theorem or_bit : ∀ k, k < 6 → ∀ a, a < 2 ^ k → nI a ||| (nI 1 <<< (nI k &&& nI 31)) = nI (a + 2 ^ k) := by
  intro k hk a ha
  have h64 : a < 64 := Nat.lt_of_lt_of_le ha (Nat.pow_le_pow_right (n := 2) (by decide) (show k ≤ 6 by omega))
  have : ∀ k, k < 6 → ∀ a, a < 64 → a < 2 ^ k → nI a ||| (nI 1 <<< (nI k &&& nI 31)) = nI (a + 2 ^ k) := by decide +kernel
  exact this k hk a h64 ha
theorem n_31 : (31 : Int32) = nI 31 := of_eq_true (eq_true rfl)
theorem l9_sel {m card : Nat} {A : SA} (w : WB A) (hc : card < nt (A 8)) : ∀ (j n k : Nat) (μ : Mem), j < n → RA μ m (ua A 1002 (nI (onb A card k))) → k + j = nt (A 1) → ∃ μ', L_X9_select_11 n m (nI card) (nI k) μ = some μ' ∧ RA μ' m (ua A 1002 (nI (onb A card (nt (A 1))))) ∧ Fx (s1 m) μ μ' := by
  have c1 := w.c1
  have c8 := w.c8.2
  intro j
  induction j with
  | zero =>
    intro n k μ hn h he
    obtain ⟨n, rfl⟩ : ∃ k, n = k + 1 := ⟨n - 1, by omega⟩
    obtain rfl : k = nt (A 1) := by omega
    refine ⟨μ, ?_, h, Fx.same⟩
    obtain ⟨s, hA⟩ := h
    have e1 : ua A 1002 (nI (onb A card (nt (A 1)))) 1 = nI (nt (A 1)) := by rw [ua_n (by decide)]; exact c1.1
    simp (disch := first | assumption | omega) only [q_bl, q_baT, q_bi, q_ba, q_pr, q_ob, q_iT, q_iN, q_it, q_if, q_of, nI_add, pk_mul, pk_sub, nI_leI, nI_ltI, nI_eq, nI_clamp, nI_lt0, nI_eqm, m1_eq, true_or, or_true, not_false_eq_true, m1_lt, m1_nlt, m1_le, m1_nle, b01, b011, q_em, q_m1, n_0, n_1, n_2, n_3, n_4, n_5, n_6, n_7, n_8, n_9, n_10, n_11, n_12, n_14, n_15, n_16, n_20, n_24, n_25, n_32, n_36, n_40, n_41, n_42, n_43, n_45, n_46, n_48, n_57, n_59, n_60, n_73, n_76, n_97, n_99, n_100, n_106, n_109, n_120, n_122, n_136, n_160, n_176, n_200, n_255, n_800, n_1000, n_1001, n_1002, n_1003, n_1006, n_1012, n_1018, n_1019, n_1020, n_1100, n_1140, n_4800, n_4920, n_5940, n_6740, n_20220, q_kI, q_lI, q_nI, q_rI, q_iI, q_jI, q_dI, q_kJ, q_lJ, q_nJ, q_rJ, q_iJ, q_jJ, q_dJ, q_kC, q_lC, q_nC, q_rC, q_jC, q_dC, q_kF, q_lF, q_nF, q_rF, q_jF, q_dF, q_us, q_un, q_ua, L_X9_select_11, B_X9_select_11, s.k0, s.r0, s.k1, s.l1, hA, e1]
  | succ j ih =>
    intro n k μ hn h he
    obtain ⟨n, rfl⟩ : ∃ k, n = k + 1 := ⟨n - 1, by omega⟩
    have hk : k < nt (A 1) := by omega
    have q := w.sel hk
    have hlt := onb_lt (A := A) (card := card) k
    have h' := h
    obtain ⟨s, hA⟩ := h'
    have wA : ∀ i, i < 1000 → ua A 1002 (nI (onb A card k)) i = A i := fun i hi => ua_n (by omega)
    have w' : WB (ua A 1002 (nI (onb A card k))) := w.cg wA
    have e1 : ua A 1002 (nI (onb A card k)) 1 = nI (nt (A 1)) := by rw [ua_n (by decide)]; exact c1.1
    have e2 : ua A 1002 (nI (onb A card k)) (25 + 3 * k + 2) = nI (nt (A (25 + 3 * k + 2))) := by rw [ua_n (by omega)]; exact q.2.2.1
    have e3 : ua A 1002 (nI (onb A card k)) 1002 = nI (onb A card k) := ua_s _ _ _
    have has : ∀ cc, cc < nt (A 8) → F_X9_has m (nI cc) (nI k) μ = some (if hp (A (200 + 20 * cc + nt (A (25 + 3 * k)) - 1)) (nt (A (25 + 3 * k + 1))) = true then nI 1 else nI 0) := fun cc hcc => by
      have := x9_has (sel := k) (card := cc) h w' (by rw [wA 1 (by decide)]; exact hk) (by rw [wA 8 (by decide)]; exact hcc)
      rw [wA (25 + 3 * k) (by omega), wA (25 + 3 * k + 1) (by omega), wA (200 + 20 * cc + nt (A (25 + 3 * k)) - 1) (by have := q.2.2.2.2.1; omega)] at this
      exact this
    have yes : sp_on A card k = true → ∃ μ', L_X9_select_11 n m (nI card) (nI (k + 1)) (stI μ (m + 1) 1002 (nI (onb A card k + 2 ^ k))) = some μ' ∧ RA μ' m (ua A 1002 (nI (onb A card (nt (A 1))))) ∧ Fx (s1 m) μ μ' := fun hon => by
      have ho : onb A card (k + 1) = onb A card k + 2 ^ k := by
        show onb A card k + (if sp_on A card k = true then 2 ^ k else 0) = _
        rw [if_pos hon]
      have hu : ua (ua A 1002 (nI (onb A card k))) 1002 (nI (onb A card k + 2 ^ k)) = ua A 1002 (nI (onb A card (k + 1))) := by
        rw [ho]; funext i; unfold ua; split <;> rfl
      have := ih n (k + 1) (stI μ (m + 1) 1002 (nI (onb A card k + 2 ^ k))) (by omega) (by rw [← hu]; exact h.put) (by omega)
      obtain ⟨μ', a1, a2, a3⟩ := this
      exact ⟨μ', a1, a2, Fx.trans (Fx.stI rfl) a3⟩
    have no : ¬ sp_on A card k = true → ∃ μ', L_X9_select_11 n m (nI card) (nI (k + 1)) μ = some μ' ∧ RA μ' m (ua A 1002 (nI (onb A card (nt (A 1))))) ∧ Fx (s1 m) μ μ' := fun hon => by
      have ho : onb A card (k + 1) = onb A card k := by
        show onb A card k + (if sp_on A card k = true then 2 ^ k else 0) = _
        rw [if_neg hon]; rfl
      exact ih n (k + 1) μ (by omega) (by rw [ho]; exact h) (by omega)
    have hb := or_bit k (by omega) (onb A card k) hlt
    by_cases hd : A (25 + 3 * k + 2) = nI 1
    · have hd1 : nt (A (25 + 3 * k + 2)) = 1 := by rw [hd]; exact nt_nI (by decide)
      rw [hd1] at e2
      by_cases h0 : card = 0
      · have hon : ¬ sp_on A card k = true := by rw [sp_on_c hd, if_pos h0]; decide
        obtain ⟨μ', a1, a2, a3⟩ := no hon
        have em : nI card - nI 1 < nI 0 := by subst h0; decide +kernel
        refine ⟨μ', ?_, a2, a3⟩
        generalize nt (A 1) = n1 at *
        simp (disch := first | assumption | omega) only [q_bl, q_baT, q_bi, q_ba, q_pr, q_ob, q_iT, q_iN, q_it, q_if, q_of, nI_add, pk_mul, nI_leI, nI_ltI, nI_eq, nI_clamp, nI_lt0, nI_eqm, m1_eq, true_or, or_true, not_false_eq_true, m1_lt, m1_nlt, m1_le, m1_nle, b01, b011, q_em, q_m1, n_0, n_1, n_2, n_3, n_4, n_5, n_6, n_7, n_8, n_9, n_10, n_11, n_12, n_14, n_15, n_16, n_20, n_24, n_25, n_32, n_36, n_40, n_41, n_42, n_43, n_45, n_46, n_48, n_57, n_59, n_60, n_73, n_76, n_97, n_99, n_100, n_106, n_109, n_120, n_122, n_136, n_160, n_176, n_200, n_255, n_800, n_1000, n_1001, n_1002, n_1003, n_1006, n_1012, n_1018, n_1019, n_1020, n_1100, n_1140, n_4800, n_4920, n_5940, n_6740, n_20220, q_kI, q_lI, q_nI, q_rI, q_iI, q_jI, q_dI, q_kJ, q_lJ, q_nJ, q_rJ, q_iJ, q_jJ, q_dJ, q_kC, q_lC, q_nC, q_rC, q_jC, q_dC, q_kF, q_lF, q_nF, q_rF, q_jF, q_dF, q_us, q_un, q_ua, L_X9_select_11, B_X9_select_11, B_X9_select_43, B_X9_select_55, B_X9_select_86, s.k0, s.r0, s.k1, s.l1, hA, e1, e2, a1]
      · have hh := has (card - 1) (by omega)
        have hon := sp_on_c (card := card) hd
        rw [if_neg h0] at hon
        rw [← hon] at hh
        by_cases hy : sp_on A card k = true
        · obtain ⟨μ', a1, a2, a3⟩ := yes hy
          refine ⟨μ', ?_, a2, a3⟩
          rw [if_pos hy] at hh
          generalize nt (A 1) = n1 at *
          simp (disch := first | assumption | omega) only [q_bl, q_baT, q_bi, q_ba, q_pr, q_ob, q_iT, q_iN, q_it, q_if, q_of, nI_add, pk_mul, pk_sub, nI_leI, nI_ltI, nI_eq, nI_clamp, nI_lt0, nI_eqm, m1_eq, true_or, or_true, not_false_eq_true, m1_lt, m1_nlt, m1_le, m1_nle, b01, b011, q_em, q_m1, n_0, n_1, n_2, n_3, n_4, n_5, n_6, n_7, n_8, n_9, n_10, n_11, n_12, n_14, n_15, n_16, n_20, n_24, n_25, n_32, n_36, n_40, n_41, n_42, n_43, n_45, n_46, n_48, n_57, n_59, n_60, n_73, n_76, n_97, n_99, n_100, n_106, n_109, n_120, n_122, n_136, n_160, n_176, n_200, n_255, n_800, n_1000, n_1001, n_1002, n_1003, n_1006, n_1012, n_1018, n_1019, n_1020, n_1100, n_1140, n_4800, n_4920, n_5940, n_6740, n_20220, q_kI, q_lI, q_nI, q_rI, q_iI, q_jI, q_dI, q_kJ, q_lJ, q_nJ, q_rJ, q_iJ, q_jJ, q_dJ, q_kC, q_lC, q_nC, q_rC, q_jC, q_dC, q_kF, q_lF, q_nF, q_rF, q_jF, q_dF, q_us, q_un, q_ua, L_X9_select_11, B_X9_select_11, B_X9_select_43, B_X9_select_55, B_X9_select_86, s.k0, s.r0, s.k1, s.l1, hA, e1, e2, e3, hh, hb, n_31, a1]
        · obtain ⟨μ', a1, a2, a3⟩ := no hy
          refine ⟨μ', ?_, a2, a3⟩
          rw [if_neg hy] at hh
          generalize nt (A 1) = n1 at *
          simp (disch := first | assumption | omega) only [q_bl, q_baT, q_bi, q_ba, q_pr, q_ob, q_iT, q_iN, q_it, q_if, q_of, nI_add, pk_mul, pk_sub, nI_leI, nI_ltI, nI_eq, nI_clamp, nI_lt0, nI_eqm, m1_eq, true_or, or_true, not_false_eq_true, m1_lt, m1_nlt, m1_le, m1_nle, b01, b011, q_em, q_m1, n_0, n_1, n_2, n_3, n_4, n_5, n_6, n_7, n_8, n_9, n_10, n_11, n_12, n_14, n_15, n_16, n_20, n_24, n_25, n_32, n_36, n_40, n_41, n_42, n_43, n_45, n_46, n_48, n_57, n_59, n_60, n_73, n_76, n_97, n_99, n_100, n_106, n_109, n_120, n_122, n_136, n_160, n_176, n_200, n_255, n_800, n_1000, n_1001, n_1002, n_1003, n_1006, n_1012, n_1018, n_1019, n_1020, n_1100, n_1140, n_4800, n_4920, n_5940, n_6740, n_20220, q_kI, q_lI, q_nI, q_rI, q_iI, q_jI, q_dI, q_kJ, q_lJ, q_nJ, q_rJ, q_iJ, q_jJ, q_dJ, q_kC, q_lC, q_nC, q_rC, q_jC, q_dC, q_kF, q_lF, q_nF, q_rF, q_jF, q_dF, q_us, q_un, q_ua, L_X9_select_11, B_X9_select_11, B_X9_select_43, B_X9_select_55, B_X9_select_86, s.k0, s.r0, s.k1, s.l1, hA, e1, e2, e3, hh, hb, n_31, a1]
    · have hne : ¬ nt (A (25 + 3 * k + 2)) = 1 := fun e => hd (by rw [q.2.2.1, e])
      have hh := has card hc
      rw [← sp_on_n (card := card) hd] at hh
      have q2 := q.2.2.2.2.2.2
      by_cases hy : sp_on A card k = true
      · obtain ⟨μ', a1, a2, a3⟩ := yes hy
        refine ⟨μ', ?_, a2, a3⟩
        rw [if_pos hy] at hh
        generalize nt (A 1) = n1 at *
        generalize nt (A (25 + 3 * k + 2)) = dl at *
        simp (disch := first | assumption | omega) only [q_bl, q_baT, q_bi, q_ba, q_pr, q_ob, q_iT, q_iN, q_it, q_if, q_of, nI_add, pk_mul, pk_sub, nI_leI, nI_ltI, nI_eq, nI_clamp, nI_lt0, nI_eqm, m1_eq, true_or, or_true, not_false_eq_true, m1_lt, m1_nlt, m1_le, m1_nle, b01, b011, q_em, q_m1, n_0, n_1, n_2, n_3, n_4, n_5, n_6, n_7, n_8, n_9, n_10, n_11, n_12, n_14, n_15, n_16, n_20, n_24, n_25, n_32, n_36, n_40, n_41, n_42, n_43, n_45, n_46, n_48, n_57, n_59, n_60, n_73, n_76, n_97, n_99, n_100, n_106, n_109, n_120, n_122, n_136, n_160, n_176, n_200, n_255, n_800, n_1000, n_1001, n_1002, n_1003, n_1006, n_1012, n_1018, n_1019, n_1020, n_1100, n_1140, n_4800, n_4920, n_5940, n_6740, n_20220, q_kI, q_lI, q_nI, q_rI, q_iI, q_jI, q_dI, q_kJ, q_lJ, q_nJ, q_rJ, q_iJ, q_jJ, q_dJ, q_kC, q_lC, q_nC, q_rC, q_jC, q_dC, q_kF, q_lF, q_nF, q_rF, q_jF, q_dF, q_us, q_un, q_ua, L_X9_select_11, B_X9_select_11, B_X9_select_43, B_X9_select_55, B_X9_select_86, s.k0, s.r0, s.k1, s.l1, hA, e1, e2, e3, hh, hb, n_31, a1]
      · obtain ⟨μ', a1, a2, a3⟩ := no hy
        refine ⟨μ', ?_, a2, a3⟩
        rw [if_neg hy] at hh
        generalize nt (A 1) = n1 at *
        generalize nt (A (25 + 3 * k + 2)) = dl at *
        simp (disch := first | assumption | omega) only [q_bl, q_baT, q_bi, q_ba, q_pr, q_ob, q_iT, q_iN, q_it, q_if, q_of, nI_add, pk_mul, pk_sub, nI_leI, nI_ltI, nI_eq, nI_clamp, nI_lt0, nI_eqm, m1_eq, true_or, or_true, not_false_eq_true, m1_lt, m1_nlt, m1_le, m1_nle, b01, b011, q_em, q_m1, n_0, n_1, n_2, n_3, n_4, n_5, n_6, n_7, n_8, n_9, n_10, n_11, n_12, n_14, n_15, n_16, n_20, n_24, n_25, n_32, n_36, n_40, n_41, n_42, n_43, n_45, n_46, n_48, n_57, n_59, n_60, n_73, n_76, n_97, n_99, n_100, n_106, n_109, n_120, n_122, n_136, n_160, n_176, n_200, n_255, n_800, n_1000, n_1001, n_1002, n_1003, n_1006, n_1012, n_1018, n_1019, n_1020, n_1100, n_1140, n_4800, n_4920, n_5940, n_6740, n_20220, q_kI, q_lI, q_nI, q_rI, q_iI, q_jI, q_dI, q_kJ, q_lJ, q_nJ, q_rJ, q_iJ, q_jJ, q_dJ, q_kC, q_lC, q_nC, q_rC, q_jC, q_dC, q_kF, q_lF, q_nF, q_rF, q_jF, q_dF, q_us, q_un, q_ua, L_X9_select_11, B_X9_select_11, B_X9_select_43, B_X9_select_55, B_X9_select_86, s.k0, s.r0, s.k1, s.l1, hA, e1, e2, e3, hh, hb, n_31, a1]
theorem x9_sel {μ : Mem} {m card : Nat} {A : SA} (h : RA μ m A) (w : WB A) (hc : card < nt (A 8)) : ∃ μ', F_X9_select m (nI card) μ = some μ' ∧ RA μ' m (sp_sel A card) ∧ Fx (s1 m) μ μ' := by
  have c1 := w.c1.2
  obtain ⟨μ', e, q1, q2⟩ := l9_sel w hc (nt (A 1)) FU 0 (stI μ (m + 1) 1002 (nI 0)) (FU_gt (by omega)) h.put (by omega)
  have s := h.1
  exact ⟨μ', by simp (disch := first | assumption | omega) only [q_bl, q_baT, q_bi, q_ba, q_pr, q_ob, q_iT, q_iN, q_it, q_if, q_of, nI_add, pk_mul, pk_sub, nI_leI, nI_ltI, nI_eq, nI_clamp, nI_lt0, nI_eqm, m1_eq, true_or, or_true, not_false_eq_true, m1_lt, m1_nlt, m1_le, m1_nle, b01, b011, q_em, q_m1, n_0, n_1, n_2, n_3, n_4, n_5, n_6, n_7, n_8, n_9, n_10, n_11, n_12, n_14, n_15, n_16, n_20, n_24, n_25, n_32, n_36, n_40, n_41, n_42, n_43, n_45, n_46, n_48, n_57, n_59, n_60, n_73, n_76, n_97, n_99, n_100, n_106, n_109, n_120, n_122, n_136, n_160, n_176, n_200, n_255, n_800, n_1000, n_1001, n_1002, n_1003, n_1006, n_1012, n_1018, n_1019, n_1020, n_1100, n_1140, n_4800, n_4920, n_5940, n_6740, n_20220, q_kI, q_lI, q_nI, q_rI, q_iI, q_jI, q_dI, q_kJ, q_lJ, q_nJ, q_rJ, q_iJ, q_jJ, q_dJ, q_kC, q_lC, q_nC, q_rC, q_jC, q_dC, q_kF, q_lF, q_nF, q_rF, q_jF, q_dF, q_us, q_un, q_ua, F_X9_select, s.k0, s.r0, s.k1, s.l1, e], q1, Fx.trans (Fx.stI rfl) q2⟩

/-! LAYER 3: the reference: total lines, detail lines, summary cards -/
def s19 (m : Nat) : Nat → Prop := fun q => q = m + 1 ∨ q = m + 9 ∨ q = m + 10
theorem fx19a {μ μ' : Mem} {m : Nat} (f : Fx (s1 m) μ μ') : Fx (s19 m) μ μ' := f.mono (fun _ h => Or.inl h)
theorem fx19b {μ μ' : Mem} {m : Nat} (f : Fx (s9 m) μ μ') : Fx (s19 m) μ μ' := f.mono (fun _ h => Or.inr (Or.inl h))
theorem l9_star {m l b : Nat} {A : SA} {ln : SA} (wm : WM A b) (hb : b < 1000000) (hl : l ≤ 3) : ∀ (j n k : Nat) (μ : Mem), j < n → k + j = l → RA μ m A → (∀ p, 1 ≤ p → p ≤ 40 → gI μ (m + 9) p = if 41 - l ≤ p ∧ p < 41 - l + k then nI 42 else ln p) →
    ∃ μ', L_X9_printTotals_81 n m (nI l) (nI (41 - l + k)) μ = some μ' ∧ RA μ' m (sp_endl A (nI l) (sp_star l ln)) ∧ Fx (s19 m) μ μ' := by
  intro j
  induction j with
  | zero =>
    intro n k μ hn he h hp
    obtain ⟨n, rfl⟩ : ∃ k, n = k + 1 := ⟨n - 1, by omega⟩
    obtain rfl : k = l := by omega
    obtain ⟨μ', e, q1, q2⟩ := x9_endl (lv := nI k) (ln := sp_star k ln) h wm hb (fun p p1 p2 => by
      rw [hp p p1 p2]; unfold sp_star
      by_cases hx : 40 < p + k ∧ p ≤ 40
      · rw [if_pos hx, if_pos (by omega)]
      · rw [if_neg hx, if_neg (by omega)])
    have s := h.1
    exact ⟨μ', by simp (disch := first | assumption | omega) only [q_bl, q_baT, q_bi, q_ba, q_pr, q_ob, q_iT, q_iN, q_it, q_if, q_of, nI_add, pk_mul, pk_sub, nI_leI, nI_ltI, nI_eq, nI_clamp, nI_lt0, nI_eqm, m1_eq, true_or, or_true, not_false_eq_true, m1_lt, m1_nlt, m1_le, m1_nle, b01, b011, q_em, q_m1, n_0, n_1, n_2, n_3, n_4, n_5, n_6, n_7, n_8, n_9, n_10, n_11, n_12, n_14, n_15, n_16, n_20, n_24, n_25, n_32, n_36, n_40, n_41, n_42, n_43, n_45, n_46, n_48, n_57, n_59, n_60, n_73, n_76, n_97, n_99, n_100, n_106, n_109, n_120, n_122, n_136, n_160, n_176, n_200, n_255, n_800, n_1000, n_1001, n_1002, n_1003, n_1006, n_1012, n_1018, n_1019, n_1020, n_1100, n_1140, n_4800, n_4920, n_5940, n_6740, n_20220, q_kI, q_lI, q_nI, q_rI, q_iI, q_jI, q_dI, q_kJ, q_lJ, q_nJ, q_rJ, q_iJ, q_jJ, q_dJ, q_kC, q_lC, q_nC, q_rC, q_jC, q_dC, q_kF, q_lF, q_nF, q_rF, q_jF, q_dF, q_us, q_un, q_ua, L_X9_printTotals_81, B_X9_printTotals_81, s.k0, e], q1, fx19a q2⟩
  | succ j ih =>
    intro n k μ hn he h hp
    obtain ⟨n, rfl⟩ : ∃ k, n = k + 1 := ⟨n - 1, by omega⟩
    have s := h.1
    obtain ⟨μ1, q1, q2, q3⟩ := x9_print (ln := fun p => if 41 - l ≤ p ∧ p < 41 - l + k then nI 42 else ln p) (k := 41 - l + k) (v := nI 42) s hp (by omega) (by omega)
    obtain ⟨μ2, p1, p2, p3⟩ := ih n (k + 1) μ1 (by omega) (by omega) (h.s9 q3) (fun p a1 a2 => by
      rw [q2 p a1 a2]; unfold pt
      rw [if_pos (show 41 - l + k ≤ 40 by omega)]
      by_cases hx : p = 41 - l + k
      · rw [hx, ua_s, if_pos (by omega)]
      · rw [ua_n hx]
        by_cases hy : 41 - l ≤ p ∧ p < 41 - l + k
        · rw [if_pos hy, if_pos (by omega)]
        · rw [if_neg hy, if_neg (by omega)])
    exact ⟨μ2, by simp (disch := first | assumption | omega) only [q_bl, q_baT, q_bi, q_ba, q_pr, q_ob, q_iT, q_iN, q_it, q_if, q_of, nI_add, pk_mul, pk_sub, nI_leI, nI_ltI, nI_eq, nI_clamp, nI_lt0, nI_eqm, m1_eq, true_or, or_true, not_false_eq_true, m1_lt, m1_nlt, m1_le, m1_nle, b01, b011, q_em, q_m1, n_0, n_1, n_2, n_3, n_4, n_5, n_6, n_7, n_8, n_9, n_10, n_11, n_12, n_14, n_15, n_16, n_20, n_24, n_25, n_32, n_36, n_40, n_41, n_42, n_43, n_45, n_46, n_48, n_57, n_59, n_60, n_73, n_76, n_97, n_99, n_100, n_106, n_109, n_120, n_122, n_136, n_160, n_176, n_200, n_255, n_800, n_1000, n_1001, n_1002, n_1003, n_1006, n_1012, n_1018, n_1019, n_1020, n_1100, n_1140, n_4800, n_4920, n_5940, n_6740, n_20220, q_kI, q_lI, q_nI, q_rI, q_iI, q_jI, q_dI, q_kJ, q_lJ, q_nJ, q_rJ, q_iJ, q_jJ, q_dJ, q_kC, q_lC, q_nC, q_rC, q_jC, q_dC, q_kF, q_lF, q_nF, q_rF, q_jF, q_dF, q_us, q_un, q_ua, L_X9_printTotals_81, B_X9_printTotals_81, s.k0, q1, Nat.add_assoc, p1], p2, (fx19b q3).trans p3⟩
theorem l9_tots {m l b : Nat} {A : SA} (w : WB A) (wm : WM A b) (hb : b < 1000000) (hl1 : 1 ≤ l) (hl : l ≤ 3) : ∀ (j n k : Nat) (ln : SA) (any : Nat) (μ : Mem), j < n → k + j = nt (A 4) → (any = 1 ∧ hasl A 100 3 l (nt (A 4)) ∨ any = 0 ∧ ∀ i, i < k → ¬ A (100 + 3 * i) = nI l) → RA μ m A → RLn μ m ln →
    ∃ μ', L_X9_printTotals_8 n m (nI l) (nI any) (nI k) μ = some μ' ∧ RA μ' m (@ite _ (hasl A 100 3 l (nt (A 4))) (Classical.propDecidable _) (sp_endl A (nI l) (sp_star l (sp_tots A l k j ln))) A) ∧ Fx (s19 m) μ μ' := by
  have c4 := w.c4
  intro j
  induction j with
  | zero =>
    intro n k ln any μ hn he ha h hln
    obtain ⟨n, rfl⟩ : ∃ k, n = k + 1 := ⟨n - 1, by omega⟩
    have h' := h
    obtain ⟨s, hA⟩ := h'
    rcases ha with ⟨rfl, hx⟩ | ⟨rfl, hx⟩
    · obtain ⟨μ', e, q1, q2⟩ := l9_star (ln := ln) wm hb hl l FU 0 μ (FU_gt (by omega)) (by omega) h (fun p p1 p2 => by rw [if_neg (by omega)]; exact hln p p1 p2)
      rw [Nat.add_zero] at e
      refine ⟨μ', ?_, by rw [if_pos hx]; exact q1, q2⟩
      generalize nt (A 4) = n4 at *
      simp (disch := first | assumption | omega) only [q_bl, q_baT, q_bi, q_ba, q_pr, q_ob, q_iT, q_iN, q_it, q_if, q_of, nI_add, pk_mul, pk_sub, nI_leI, nI_ltI, nI_eq, nI_clamp, nI_lt0, nI_eqm, m1_eq, true_or, or_true, not_false_eq_true, m1_lt, m1_nlt, m1_le, m1_nle, b01, b011, q_em, q_m1, n_0, n_1, n_2, n_3, n_4, n_5, n_6, n_7, n_8, n_9, n_10, n_11, n_12, n_14, n_15, n_16, n_20, n_24, n_25, n_32, n_36, n_40, n_41, n_42, n_43, n_45, n_46, n_48, n_57, n_59, n_60, n_73, n_76, n_97, n_99, n_100, n_106, n_109, n_120, n_122, n_136, n_160, n_176, n_200, n_255, n_800, n_1000, n_1001, n_1002, n_1003, n_1006, n_1012, n_1018, n_1019, n_1020, n_1100, n_1140, n_4800, n_4920, n_5940, n_6740, n_20220, q_kI, q_lI, q_nI, q_rI, q_iI, q_jI, q_dI, q_kJ, q_lJ, q_nJ, q_rJ, q_iJ, q_jJ, q_dJ, q_kC, q_lC, q_nC, q_rC, q_jC, q_dC, q_kF, q_lF, q_nF, q_rF, q_jF, q_dF, q_us, q_un, q_ua, L_X9_printTotals_8, B_X9_printTotals_8, s.k0, s.r0, s.k1, s.l1, hA, c4.1, n_41, e]
    · have hno : ¬ hasl A 100 3 l (nt (A 4)) := fun ⟨i, i1, i2⟩ => hx i (by omega) i2
      refine ⟨μ, ?_, by rw [if_neg hno]; exact h, Fx.same⟩
      generalize nt (A 4) = n4 at *
      simp (disch := first | assumption | omega) only [q_bl, q_baT, q_bi, q_ba, q_pr, q_ob, q_iT, q_iN, q_it, q_if, q_of, nI_add, pk_mul, pk_sub, nI_leI, nI_ltI, nI_eq, nI_clamp, nI_lt0, nI_eqm, m1_eq, true_or, or_true, not_false_eq_true, m1_lt, m1_nlt, m1_le, m1_nle, b01, b011, q_em, q_m1, n_0, n_1, n_2, n_3, n_4, n_5, n_6, n_7, n_8, n_9, n_10, n_11, n_12, n_14, n_15, n_16, n_20, n_24, n_25, n_32, n_36, n_40, n_41, n_42, n_43, n_45, n_46, n_48, n_57, n_59, n_60, n_73, n_76, n_97, n_99, n_100, n_106, n_109, n_120, n_122, n_136, n_160, n_176, n_200, n_255, n_800, n_1000, n_1001, n_1002, n_1003, n_1006, n_1012, n_1018, n_1019, n_1020, n_1100, n_1140, n_4800, n_4920, n_5940, n_6740, n_20220, q_kI, q_lI, q_nI, q_rI, q_iI, q_jI, q_dI, q_kJ, q_lJ, q_nJ, q_rJ, q_iJ, q_jJ, q_dJ, q_kC, q_lC, q_nC, q_rC, q_jC, q_dC, q_kF, q_lF, q_nF, q_rF, q_jF, q_dF, q_us, q_un, q_ua, L_X9_printTotals_8, B_X9_printTotals_8, s.k0, s.r0, s.k1, s.l1, hA, c4.1]
  | succ j ih =>
    intro n k ln any μ hn he ha h hln
    obtain ⟨n, rfl⟩ : ∃ k, n = k + 1 := ⟨n - 1, by omega⟩
    have h' := h
    obtain ⟨s, hA⟩ := h'
    have c2 := w.c2.2
    have hk : k < nt (A 4) := by omega
    have c := w.tot hk
    have v1 := c.1
    have v2 := c.2.1
    have v3 := c.2.2.1
    have b4 := c.2.2.2.1
    by_cases hx : nt (A (100 + 3 * k)) = l
    · have hAl : A (100 + 3 * k) = nI l := by rw [c.1, hx]
      obtain ⟨μ1, e1, p1, f1⟩ := x9_pnum h w c.2.2.2.2.1 c.2.2.2.2.2.1 c.2.2.2.2.2.2 hln (wm.2.2.2.1 (nt (A (100 + 3 * k + 1))) (by have := c.2.2.2.2.1; omega))
      obtain ⟨μ2, e2, p2, f2⟩ := ih n (k + 1) _ 1 μ1 (by omega) (by omega) (Or.inl ⟨rfl, k, hk, hAl⟩) (h.s9 f1) p1
      refine ⟨μ2, ?_, ?_, (fx19b f1).trans f2⟩
      · generalize nt (A (100 + 3 * k + 1)) = a1 at *
        generalize nt (A (100 + 3 * k + 2)) = a2 at *
        generalize nt (A 4) = n4 at *
        simp (disch := first | assumption | omega) only [q_bl, q_baT, q_bi, q_ba, q_pr, q_ob, q_iT, q_iN, q_it, q_if, q_of, nI_add, pk_mul, pk_sub, nI_leI, nI_ltI, nI_eq, nI_clamp, nI_lt0, nI_eqm, m1_eq, true_or, or_true, not_false_eq_true, m1_lt, m1_nlt, m1_le, m1_nle, b01, b011, q_em, q_m1, n_0, n_1, n_2, n_3, n_4, n_5, n_6, n_7, n_8, n_9, n_10, n_11, n_12, n_14, n_15, n_16, n_20, n_24, n_25, n_32, n_36, n_40, n_41, n_42, n_43, n_45, n_46, n_48, n_57, n_59, n_60, n_73, n_76, n_97, n_99, n_100, n_106, n_109, n_120, n_122, n_136, n_160, n_176, n_200, n_255, n_800, n_1000, n_1001, n_1002, n_1003, n_1006, n_1012, n_1018, n_1019, n_1020, n_1100, n_1140, n_4800, n_4920, n_5940, n_6740, n_20220, q_kI, q_lI, q_nI, q_rI, q_iI, q_jI, q_dI, q_kJ, q_lJ, q_nJ, q_rJ, q_iJ, q_jJ, q_dJ, q_kC, q_lC, q_nC, q_rC, q_jC, q_dC, q_kF, q_lF, q_nF, q_rF, q_jF, q_dF, q_us, q_un, q_ua, L_X9_printTotals_8, B_X9_printTotals_8, B_X9_printTotals_65, s.k0, s.r0, s.k1, s.l1, hA, c4.1, hAl, v2, v3, e1, e2]
      · rw [show sp_tots A l k (j + 1) ln = sp_tots A l (k + 1) j (sp_pnum A (nt (A (100 + 3 * k + 1))) (nt (A (100 + 3 * k + 2))) ln) from by
          show sp_tots A l (k + 1) j (if A (100 + 3 * k) = nI l then _ else _) = _
          rw [if_pos hAl]]
        exact p2
    · have hAl : ¬ A (100 + 3 * k) = nI l := by rw [c.1, nI_eq (by omega) (by omega)]; exact hx
      obtain ⟨μ2, e2, p2, f2⟩ := ih n (k + 1) ln any μ (by omega) (by omega) (ha.imp id (fun q => ⟨q.1, fun i hi => by
        by_cases hik : i = k
        · rw [hik]; exact hAl
        · exact q.2 i (by omega)⟩)) h hln
      refine ⟨μ2, ?_, ?_, f2⟩
      · clear hAl ih
        generalize nt (A (100 + 3 * k)) = a1 at *
        generalize nt (A 4) = n4 at *
        simp (disch := first | assumption | omega) only [q_bl, q_baT, q_bi, q_ba, q_pr, q_ob, q_iT, q_iN, q_it, q_if, q_of, nI_add, pk_mul, pk_sub, nI_leI, nI_ltI, nI_eq, nI_clamp, nI_lt0, nI_eqm, m1_eq, true_or, or_true, not_false_eq_true, m1_lt, m1_nlt, m1_le, m1_nle, b01, b011, q_em, q_m1, n_0, n_1, n_2, n_3, n_4, n_5, n_6, n_7, n_8, n_9, n_10, n_11, n_12, n_14, n_15, n_16, n_20, n_24, n_25, n_32, n_36, n_40, n_41, n_42, n_43, n_45, n_46, n_48, n_57, n_59, n_60, n_73, n_76, n_97, n_99, n_100, n_106, n_109, n_120, n_122, n_136, n_160, n_176, n_200, n_255, n_800, n_1000, n_1001, n_1002, n_1003, n_1006, n_1012, n_1018, n_1019, n_1020, n_1100, n_1140, n_4800, n_4920, n_5940, n_6740, n_20220, q_kI, q_lI, q_nI, q_rI, q_iI, q_jI, q_dI, q_kJ, q_lJ, q_nJ, q_rJ, q_iJ, q_jJ, q_dJ, q_kC, q_lC, q_nC, q_rC, q_jC, q_dC, q_kF, q_lF, q_nF, q_rF, q_jF, q_dF, q_us, q_un, q_ua, L_X9_printTotals_8, B_X9_printTotals_8, B_X9_printTotals_65, s.k0, s.r0, s.k1, s.l1, hA, c4.1, v1, e2]
      · rw [show sp_tots A l k (j + 1) ln = sp_tots A l (k + 1) j ln from by
          show sp_tots A l (k + 1) j (if A (100 + 3 * k) = nI l then _ else _) = _
          rw [if_neg hAl]]
        exact p2
theorem x9_ptot {μ : Mem} {m l b : Nat} {A : SA} (h : RA μ m A) (ex : EX A b) (hb : b < 1000000) (hl1 : 1 ≤ l) (hl : l ≤ 3) : ∃ μ', F_X9_printTotals m (nI l) μ = some μ' ∧ RA μ' m (sp_ptot A l) ∧ Fx (s19 m) μ μ' := by
  have w := ex.w
  have c4 := w.c4.2
  have s := h.1
  obtain ⟨μ1, e1, p1, f1⟩ := x9_clrl s
  obtain ⟨μ2, e2, p2, f2⟩ := l9_tots w ex.m hb hl1 hl (nt (A 4)) FU 0 bln 0 μ1 (FU_gt (by omega)) (by omega) (Or.inr ⟨rfl, fun i hi => by omega⟩) (h.s9 f1) p1
  exact ⟨μ2, by simp (disch := first | assumption | omega) only [q_bl, q_baT, q_bi, q_ba, q_pr, q_ob, q_iT, q_iN, q_it, q_if, q_of, nI_add, pk_mul, pk_sub, nI_leI, nI_ltI, nI_eq, nI_clamp, nI_lt0, nI_eqm, m1_eq, true_or, or_true, not_false_eq_true, m1_lt, m1_nlt, m1_le, m1_nle, b01, b011, q_em, q_m1, n_0, n_1, n_2, n_3, n_4, n_5, n_6, n_7, n_8, n_9, n_10, n_11, n_12, n_14, n_15, n_16, n_20, n_24, n_25, n_32, n_36, n_40, n_41, n_42, n_43, n_45, n_46, n_48, n_57, n_59, n_60, n_73, n_76, n_97, n_99, n_100, n_106, n_109, n_120, n_122, n_136, n_160, n_176, n_200, n_255, n_800, n_1000, n_1001, n_1002, n_1003, n_1006, n_1012, n_1018, n_1019, n_1020, n_1100, n_1140, n_4800, n_4920, n_5940, n_6740, n_20220, q_kI, q_lI, q_nI, q_rI, q_iI, q_jI, q_dI, q_kJ, q_lJ, q_nJ, q_rJ, q_iJ, q_jJ, q_dJ, q_kC, q_lC, q_nC, q_rC, q_jC, q_dC, q_kF, q_lF, q_nF, q_rF, q_jF, q_dF, q_us, q_un, q_ua, F_X9_printTotals, s.k0, e1, e2], p2, (fx19b f1).trans f2⟩
-- detail lines
theorem x9_dpc {c : Int32} (h : lc c) : (if nI 0 ≤ (if c < nI 99 then c else c - nI 100) then nI 48 + (if c < nI 99 then c else c - nI 100) else nI 32) = pc c := by
  rcases h.dig with ⟨d1, d2, d3, d4⟩ | ⟨d1, d2, d3, d4, d5⟩
  · rw [d1, d4]; rfl
  · rw [d1, d5, if_pos (nI_le (by omega) (by omega)), nI_add]
theorem l9_df {m card k2 f : Nat} {A : SA} {k16 : Nat → Int32 → Int32 → Mem → Option Mem} (w : WB A) (hc : card < nt (A 8)) (hf : f < nt (A 0)) : ∀ (j n c pos : Nat) (ln : SA) (μ : Mem), j < n → c + j = tr A f + 1 → 1 ≤ c → 1 ≤ pos → pos + j < 2 ^ 20 → RA μ m A → RLn μ m ln →
    ∃ μ', L_X9_detail_66 k16 n m (nI card) (nI k2) (nI f) (nI pos) (nI c) μ = k16 m (nI card) (nI (k2 + 1)) μ' ∧ RLn μ' m (sp_df A card c j pos ln) ∧ Fx (s9 m) μ μ' := by
  obtain ⟨f1, f2, f3, f4, f5, f6⟩ := w.fld hf
  have c0 := w.c0.2
  have c8 := w.c8.2
  intro j
  induction j with
  | zero =>
    intro n c pos ln μ hn he h1 hp1 hp2 h hl
    obtain ⟨n, rfl⟩ : ∃ k, n = k + 1 := ⟨n - 1, by omega⟩
    obtain ⟨s, hA⟩ := h
    exact ⟨μ, by simp (disch := first | assumption | omega) only [q_bl, q_baT, q_bi, q_ba, q_pr, q_ob, q_iT, q_iN, q_it, q_if, q_of, nI_add, pk_mul, pk_sub, nI_leI, nI_ltI, nI_eq, nI_clamp, nI_lt0, nI_eqm, m1_eq, true_or, or_true, not_false_eq_true, m1_lt, m1_nlt, m1_le, m1_nle, b01, b011, q_em, q_m1, n_0, n_1, n_2, n_3, n_4, n_5, n_6, n_7, n_8, n_9, n_10, n_11, n_12, n_14, n_15, n_16, n_20, n_24, n_25, n_32, n_36, n_40, n_41, n_42, n_43, n_45, n_46, n_48, n_57, n_59, n_60, n_73, n_76, n_97, n_99, n_100, n_106, n_109, n_120, n_122, n_136, n_160, n_176, n_200, n_255, n_800, n_1000, n_1001, n_1002, n_1003, n_1006, n_1012, n_1018, n_1019, n_1020, n_1100, n_1140, n_4800, n_4920, n_5940, n_6740, n_20220, q_kI, q_lI, q_nI, q_rI, q_iI, q_jI, q_dI, q_kJ, q_lJ, q_nJ, q_rJ, q_iJ, q_jJ, q_dJ, q_kC, q_lC, q_nC, q_rC, q_jC, q_dC, q_kF, q_lF, q_nF, q_rF, q_jF, q_dF, q_us, q_un, q_ua, L_X9_detail_66, B_X9_detail_66, s.k0, s.r0, s.k1, s.l1, hA, f2], hl, Fx.same⟩
  | succ j ih =>
    intro n c pos ln μ hn he h1 hp1 hp2 h hl
    obtain ⟨n, rfl⟩ : ∃ k, n = k + 1 := ⟨n - 1, by omega⟩
    have hk := x9_code h (show card < 40 by omega) h1 (show c ≤ 20 by omega)
    obtain ⟨μ1, q1, q2, q3⟩ := x9_print (k := pos) (v := pc (A (200 + 20 * card + c - 1))) h.1 hl hp1 (by omega)
    obtain ⟨μ2, p1, p2, p3⟩ := ih n (c + 1) (pos + 1) _ μ1 (by omega) (by omega) (by omega) (by omega) (by omega) (h.s9 q3) q2
    refine ⟨μ2, ?_, p2, q3.trans p3⟩
    obtain ⟨s, hA⟩ := h
    rcases (w.lc hc h1 (show c ≤ 20 by omega)).dig with ⟨d1, d2, d3, d4⟩ | ⟨d1, d2, d3, d4, d5⟩
    · rw [d4] at q1
      have hm : ¬ nI 0 ≤ -nI 1 := by decide +kernel
      simp (disch := first | assumption | omega) only [q_bl, q_baT, q_bi, q_ba, q_pr, q_ob, q_iT, q_iN, q_it, q_if, q_of, nI_add, pk_mul, pk_sub, nI_leI, nI_ltI, nI_eq, nI_clamp, nI_lt0, nI_eqm, m1_eq, true_or, or_true, not_false_eq_true, m1_lt, m1_nlt, m1_le, m1_nle, b01, b011, q_em, q_m1, n_0, n_1, n_2, n_3, n_4, n_5, n_6, n_7, n_8, n_9, n_10, n_11, n_12, n_14, n_15, n_16, n_20, n_24, n_25, n_32, n_36, n_40, n_41, n_42, n_43, n_45, n_46, n_48, n_57, n_59, n_60, n_73, n_76, n_97, n_99, n_100, n_106, n_109, n_120, n_122, n_136, n_160, n_176, n_200, n_255, n_800, n_1000, n_1001, n_1002, n_1003, n_1006, n_1012, n_1018, n_1019, n_1020, n_1100, n_1140, n_4800, n_4920, n_5940, n_6740, n_20220, q_kI, q_lI, q_nI, q_rI, q_iI, q_jI, q_dI, q_kJ, q_lJ, q_nJ, q_rJ, q_iJ, q_jJ, q_dJ, q_kC, q_lC, q_nC, q_rC, q_jC, q_dC, q_kF, q_lF, q_nF, q_rF, q_jF, q_dF, q_us, q_un, q_ua, L_X9_detail_66, B_X9_detail_66, B_X9_detail_114, s.k0, s.r0, s.k1, s.l1, hA, f2, hk, x9_digitOf, d1, q1, p1]
    · rw [d5] at q1
      simp (disch := first | assumption | omega) only [q_bl, q_baT, q_bi, q_ba, q_pr, q_ob, q_iT, q_iN, q_it, q_if, q_of, nI_add, pk_mul, pk_sub, nI_leI, nI_ltI, nI_eq, nI_clamp, nI_lt0, nI_eqm, m1_eq, true_or, or_true, not_false_eq_true, m1_lt, m1_nlt, m1_le, m1_nle, b01, b011, q_em, q_m1, n_0, n_1, n_2, n_3, n_4, n_5, n_6, n_7, n_8, n_9, n_10, n_11, n_12, n_14, n_15, n_16, n_20, n_24, n_25, n_32, n_36, n_40, n_41, n_42, n_43, n_45, n_46, n_48, n_57, n_59, n_60, n_73, n_76, n_97, n_99, n_100, n_106, n_109, n_120, n_122, n_136, n_160, n_176, n_200, n_255, n_800, n_1000, n_1001, n_1002, n_1003, n_1006, n_1012, n_1018, n_1019, n_1020, n_1100, n_1140, n_4800, n_4920, n_5940, n_6740, n_20220, q_kI, q_lI, q_nI, q_rI, q_iI, q_jI, q_dI, q_kJ, q_lJ, q_nJ, q_rJ, q_iJ, q_jJ, q_dJ, q_kC, q_lC, q_nC, q_rC, q_jC, q_dC, q_kF, q_lF, q_nF, q_rF, q_jF, q_dF, q_us, q_un, q_ua, L_X9_detail_66, B_X9_detail_66, B_X9_detail_114, s.k0, s.r0, s.k1, s.l1, hA, f2, hk, x9_digitOf, d1, q1, p1]
theorem l9_dls {m card b : Nat} {A : SA} (w : WB A) (wm : WM A b) (hb : b < 1000000) (hc : card < nt (A 8)) : ∀ (j n k : Nat) (ln : SA) (μ : Mem), j < n → k + j = nt (A 3) → RA μ m A → RLn μ m ln →
    ∃ μ', L_X9_detail_16 n m (nI card) (nI k) μ = some μ' ∧ RA μ' m (sp_endl A (nI 0) (sp_dls A card k j ln)) ∧ Fx (s19 m) μ μ' := by
  have c3 := w.c3
  have c0 := w.c0.2
  intro j
  induction j with
  | zero =>
    intro n k ln μ hn he h hl
    obtain ⟨n, rfl⟩ : ∃ k, n = k + 1 := ⟨n - 1, by omega⟩
    obtain ⟨μ', e, q1, q2⟩ := x9_endl (lv := nI 0) (ln := ln) h wm hb hl
    obtain ⟨s, hA⟩ := h
    refine ⟨μ', ?_, q1, fx19a q2⟩
    generalize nt (A 3) = n3 at *
    simp (disch := first | assumption | omega) only [q_bl, q_baT, q_bi, q_ba, q_pr, q_ob, q_iT, q_iN, q_it, q_if, q_of, nI_add, pk_mul, pk_sub, nI_leI, nI_ltI, nI_eq, nI_clamp, nI_lt0, nI_eqm, m1_eq, true_or, or_true, not_false_eq_true, m1_lt, m1_nlt, m1_le, m1_nle, b01, b011, q_em, q_m1, n_0, n_1, n_2, n_3, n_4, n_5, n_6, n_7, n_8, n_9, n_10, n_11, n_12, n_14, n_15, n_16, n_20, n_24, n_25, n_32, n_36, n_40, n_41, n_42, n_43, n_45, n_46, n_48, n_57, n_59, n_60, n_73, n_76, n_97, n_99, n_100, n_106, n_109, n_120, n_122, n_136, n_160, n_176, n_200, n_255, n_800, n_1000, n_1001, n_1002, n_1003, n_1006, n_1012, n_1018, n_1019, n_1020, n_1100, n_1140, n_4800, n_4920, n_5940, n_6740, n_20220, q_kI, q_lI, q_nI, q_rI, q_iI, q_jI, q_dI, q_kJ, q_lJ, q_nJ, q_rJ, q_iJ, q_jJ, q_dJ, q_kC, q_lC, q_nC, q_rC, q_jC, q_dC, q_kF, q_lF, q_nF, q_rF, q_jF, q_dF, q_us, q_un, q_ua, L_X9_detail_16, B_X9_detail_16, s.k0, s.r0, s.k1, s.l1, hA, c3.1, e]
  | succ j ih =>
    intro n k ln μ hn he h hl
    obtain ⟨n, rfl⟩ : ∃ k, n = k + 1 := ⟨n - 1, by omega⟩
    have hk : k < nt (A 3) := by omega
    have c := w.lst hk
    have v1 := c.1
    have v2 := c.2.1
    have hf := c.2.2.1
    have q0 := w.fld hf
    obtain ⟨μ1, e1, p1, f1⟩ := l9_df (k2 := k) (k16 := L_X9_detail_16 n) w hc hf (tr A (nt (A (76 + 2 * k))) + 1 - fr A (nt (A (76 + 2 * k)))) FU (fr A (nt (A (76 + 2 * k)))) (nt (A (76 + 2 * k + 1))) ln μ (FU_gt (by omega)) (by omega) (by omega) (by omega) (by omega) h hl
    obtain ⟨μ2, e2, p2, f2⟩ := ih n (k + 1) _ μ1 (by omega) (by omega) (h.s9 f1) p1
    obtain ⟨s, hA⟩ := h
    refine ⟨μ2, ?_, p2, (fx19b f1).trans f2⟩
    have g := q0.1
    clear q0 p1 p2 ih
    generalize nt (A (76 + 2 * k)) = fl at *
    generalize nt (A (76 + 2 * k + 1)) = po at *
    generalize nt (A 3) = n3 at *
    simp (disch := first | assumption | omega) only [q_bl, q_baT, q_bi, q_ba, q_pr, q_ob, q_iT, q_iN, q_it, q_if, q_of, nI_add, pk_mul, pk_sub, nI_leI, nI_ltI, nI_eq, nI_clamp, nI_lt0, nI_eqm, m1_eq, true_or, or_true, not_false_eq_true, m1_lt, m1_nlt, m1_le, m1_nle, b01, b011, q_em, q_m1, n_0, n_1, n_2, n_3, n_4, n_5, n_6, n_7, n_8, n_9, n_10, n_11, n_12, n_14, n_15, n_16, n_20, n_24, n_25, n_32, n_36, n_40, n_41, n_42, n_43, n_45, n_46, n_48, n_57, n_59, n_60, n_73, n_76, n_97, n_99, n_100, n_106, n_109, n_120, n_122, n_136, n_160, n_176, n_200, n_255, n_800, n_1000, n_1001, n_1002, n_1003, n_1006, n_1012, n_1018, n_1019, n_1020, n_1100, n_1140, n_4800, n_4920, n_5940, n_6740, n_20220, q_kI, q_lI, q_nI, q_rI, q_iI, q_jI, q_dI, q_kJ, q_lJ, q_nJ, q_rJ, q_iJ, q_jJ, q_dJ, q_kC, q_lC, q_nC, q_rC, q_jC, q_dC, q_kF, q_lF, q_nF, q_rF, q_jF, q_dF, q_us, q_un, q_ua, L_X9_detail_16, B_X9_detail_16, s.k0, s.r0, s.k1, s.l1, hA, c3.1, v1, v2, g, e1, e2]
theorem x9_det {μ : Mem} {m b card : Nat} {A : SA} (h : RA μ m A) (ex : EX A b) (hb : b < 1000000) (hc : card < nt (A 8)) : ∃ μ', F_X9_detail m (nI card) μ = some μ' ∧ RA μ' m (sp_det A card) ∧ Fx (s19 m) μ μ' := by
  have w := ex.w
  have c3 := w.c3
  have s := h.1
  unfold sp_det
  by_cases hx : nt (A 3) = 0
  · have e3 : A 3 = nI 0 := by rw [c3.1, hx]
    have hA := h.2
    refine ⟨μ, by simp (disch := first | assumption | omega) only [q_bl, q_baT, q_bi, q_ba, q_pr, q_ob, q_iT, q_iN, q_it, q_if, q_of, nI_add, pk_mul, pk_sub, nI_leI, nI_ltI, nI_eq, nI_clamp, nI_lt0, nI_eqm, m1_eq, true_or, or_true, not_false_eq_true, m1_lt, m1_nlt, m1_le, m1_nle, b01, b011, q_em, q_m1, n_0, n_1, n_2, n_3, n_4, n_5, n_6, n_7, n_8, n_9, n_10, n_11, n_12, n_14, n_15, n_16, n_20, n_24, n_25, n_32, n_36, n_40, n_41, n_42, n_43, n_45, n_46, n_48, n_57, n_59, n_60, n_73, n_76, n_97, n_99, n_100, n_106, n_109, n_120, n_122, n_136, n_160, n_176, n_200, n_255, n_800, n_1000, n_1001, n_1002, n_1003, n_1006, n_1012, n_1018, n_1019, n_1020, n_1100, n_1140, n_4800, n_4920, n_5940, n_6740, n_20220, q_kI, q_lI, q_nI, q_rI, q_iI, q_jI, q_dI, q_kJ, q_lJ, q_nJ, q_rJ, q_iJ, q_jJ, q_dJ, q_kC, q_lC, q_nC, q_rC, q_jC, q_dC, q_kF, q_lF, q_nF, q_rF, q_jF, q_dF, q_us, q_un, q_ua, F_X9_detail, s.k0, s.r0, s.k1, s.l1, hA, e3], ?_, Fx.same⟩
    rw [if_pos hx]; exact h
  · obtain ⟨μ1, e1, p1, f1⟩ := x9_clrl s
    obtain ⟨μ2, e2, p2, f2⟩ := l9_dls w ex.m hb hc (nt (A 3)) FU 0 bln μ1 (FU_gt (by omega)) (by omega) (h.s9 f1) p1
    have hA := h.2
    refine ⟨μ2, ?_, ?_, (fx19b f1).trans f2⟩
    · generalize nt (A 3) = n3 at *
      simp (disch := first | assumption | omega) only [q_bl, q_baT, q_bi, q_ba, q_pr, q_ob, q_iT, q_iN, q_it, q_if, q_of, nI_add, pk_mul, pk_sub, nI_leI, nI_ltI, nI_eq, nI_clamp, nI_lt0, nI_eqm, m1_eq, true_or, or_true, not_false_eq_true, m1_lt, m1_nlt, m1_le, m1_nle, b01, b011, q_em, q_m1, n_0, n_1, n_2, n_3, n_4, n_5, n_6, n_7, n_8, n_9, n_10, n_11, n_12, n_14, n_15, n_16, n_20, n_24, n_25, n_32, n_36, n_40, n_41, n_42, n_43, n_45, n_46, n_48, n_57, n_59, n_60, n_73, n_76, n_97, n_99, n_100, n_106, n_109, n_120, n_122, n_136, n_160, n_176, n_200, n_255, n_800, n_1000, n_1001, n_1002, n_1003, n_1006, n_1012, n_1018, n_1019, n_1020, n_1100, n_1140, n_4800, n_4920, n_5940, n_6740, n_20220, q_kI, q_lI, q_nI, q_rI, q_iI, q_jI, q_dI, q_kJ, q_lJ, q_nJ, q_rJ, q_iJ, q_jJ, q_dJ, q_kC, q_lC, q_nC, q_rC, q_jC, q_dC, q_kF, q_lF, q_nF, q_rF, q_jF, q_dF, q_us, q_un, q_ua, F_X9_detail, s.k0, s.r0, s.k1, s.l1, hA, c3.1, e1, e2]
    · rw [if_neg hx]; exact p2

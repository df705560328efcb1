/-! LAYER 3: the reference: summary cards, cycles, cards, runs -/
/-- the card that is punched holds cd -/
def RC (μ : Mem) (m : Nat) (cd : SA) : Prop := ∀ k, k < 20 → gI μ (m + 10) k = cd k
def s10 (m : Nat) : Nat → Prop := fun q => q = m + 10
theorem RA.s10 {μ μ' : Mem} {m : Nat} {A : SA} (h : RA μ m A) (f : Fx (s10 m) μ μ') : RA μ' m A := h.fx f (fun (e : m + 1 = m + 10) => by omega)
theorem fx19c {μ μ' : Mem} {m : Nat} (f : Fx (s10 m) μ μ') : Fx (s19 m) μ μ' := f.mono (fun _ h => Or.inr (Or.inr h))
theorem x9_pu {μ : Mem} {m k : Nat} {cd : SA} {v : Int32} (s : SR μ m) (h : RC μ m cd) (h1 : 1 ≤ k) (h2 : k < 2 ^ 20) : ∃ μ', F_X9_punch_ m (nI k) v μ = some μ' ∧ RC μ' m (pu k v cd) ∧ Fx (s10 m) μ μ' := by
  by_cases hx : k ≤ 20
  · refine ⟨stI μ (m + 10) (k - 1) v, by simp (disch := first | assumption | omega) only [q_bl, q_baT, q_bi, q_ba, q_pr, q_ob, q_iT, q_iN, q_it, q_if, q_of, nI_add, pk_mul, pk_sub, nI_leI, nI_ltI, nI_eq, nI_clamp, nI_lt0, nI_eqm, m1_eq, true_or, or_true, not_false_eq_true, m1_lt, m1_nlt, m1_le, m1_nle, b01, b011, q_em, q_m1, n_0, n_1, n_2, n_3, n_4, n_5, n_6, n_7, n_8, n_9, n_10, n_11, n_12, n_14, n_15, n_16, n_20, n_24, n_25, n_32, n_36, n_40, n_41, n_42, n_43, n_45, n_46, n_48, n_57, n_59, n_60, n_73, n_76, n_97, n_99, n_100, n_106, n_109, n_120, n_122, n_136, n_160, n_176, n_200, n_255, n_800, n_1000, n_1001, n_1002, n_1003, n_1006, n_1012, n_1018, n_1019, n_1020, n_1100, n_1140, n_4800, n_4920, n_5940, n_6740, n_20220, q_kI, q_lI, q_nI, q_rI, q_iI, q_jI, q_dI, q_kJ, q_lJ, q_nJ, q_rJ, q_iJ, q_jJ, q_dJ, q_kC, q_lC, q_nC, q_rC, q_jC, q_dC, q_kF, q_lF, q_nF, q_rF, q_jF, q_dF, q_us, q_un, q_ua, F_X9_punch_, s.k0, s.r23, s.k10, s.l10], fun p hp => ?_, Fx.stI rfl⟩
    unfold pu
    rw [if_pos hx, q_iI]
    by_cases hp2 : p = k - 1
    · subst hp2; rw [q_us, ua_s]
    · rw [q_un (by omega), ua_n hp2]; exact h p hp
  · refine ⟨μ, by simp (disch := first | assumption | omega) only [q_bl, q_baT, q_bi, q_ba, q_pr, q_ob, q_iT, q_iN, q_it, q_if, q_of, nI_add, pk_mul, pk_sub, nI_leI, nI_ltI, nI_eq, nI_clamp, nI_lt0, nI_eqm, m1_eq, true_or, or_true, not_false_eq_true, m1_lt, m1_nlt, m1_le, m1_nle, b01, b011, q_em, q_m1, n_0, n_1, n_2, n_3, n_4, n_5, n_6, n_7, n_8, n_9, n_10, n_11, n_12, n_14, n_15, n_16, n_20, n_24, n_25, n_32, n_36, n_40, n_41, n_42, n_43, n_45, n_46, n_48, n_57, n_59, n_60, n_73, n_76, n_97, n_99, n_100, n_106, n_109, n_120, n_122, n_136, n_160, n_176, n_200, n_255, n_800, n_1000, n_1001, n_1002, n_1003, n_1006, n_1012, n_1018, n_1019, n_1020, n_1100, n_1140, n_4800, n_4920, n_5940, n_6740, n_20220, q_kI, q_lI, q_nI, q_rI, q_iI, q_jI, q_dI, q_kJ, q_lJ, q_nJ, q_rJ, q_iJ, q_jJ, q_dJ, q_kC, q_lC, q_nC, q_rC, q_jC, q_dC, q_kF, q_lF, q_nF, q_rF, q_jF, q_dF, q_us, q_un, q_ua, F_X9_punch_], fun p hp => ?_, Fx.same⟩
    unfold pu
    rw [if_neg hx]; exact h p hp
theorem l9_pf {m col fl b : Nat} {A : SA} (w : WB A) (wm : WM A b) (hf : fl < nt (A 0)) (hd : 1 ≤ nt (A 1000)) (hcl : 1 ≤ col) (hcl2 : col ≤ 20) : ∀ (j n c : Nat) (cd : SA) (μ : Mem), j < n → c + j = tr A fl + 1 → fr A fl ≤ c → RA μ m A → RC μ m cd →
    ∃ μ', L_X9_punchOne_21 n m (nI fl) (nI col) (nI (fr A fl)) (nI c) μ = some μ' ∧ RC μ' m (sp_pf A (fr A fl) col c j cd) ∧ Fx (s10 m) μ μ' := by
  obtain ⟨f1, f2, f3, f4, f5, f6⟩ := w.fld hf
  have c0 := w.c0.2
  have c8 := w.c8.2
  have hda := wm.1.ex (by omega)
  intro j
  induction j with
  | zero =>
    intro n c cd μ hn he h1 h hl
    obtain ⟨n, rfl⟩ : ∃ k, n = k + 1 := ⟨n - 1, by omega⟩
    obtain ⟨s, hA⟩ := h
    exact ⟨μ, by simp (disch := first | assumption | omega) only [q_bl, q_baT, q_bi, q_ba, q_pr, q_ob, q_iT, q_iN, q_it, q_if, q_of, nI_add, pk_mul, pk_sub, nI_leI, nI_ltI, nI_eq, nI_clamp, nI_lt0, nI_eqm, m1_eq, true_or, or_true, not_false_eq_true, m1_lt, m1_nlt, m1_le, m1_nle, b01, b011, q_em, q_m1, n_0, n_1, n_2, n_3, n_4, n_5, n_6, n_7, n_8, n_9, n_10, n_11, n_12, n_14, n_15, n_16, n_20, n_24, n_25, n_32, n_36, n_40, n_41, n_42, n_43, n_45, n_46, n_48, n_57, n_59, n_60, n_73, n_76, n_97, n_99, n_100, n_106, n_109, n_120, n_122, n_136, n_160, n_176, n_200, n_255, n_800, n_1000, n_1001, n_1002, n_1003, n_1006, n_1012, n_1018, n_1019, n_1020, n_1100, n_1140, n_4800, n_4920, n_5940, n_6740, n_20220, q_kI, q_lI, q_nI, q_rI, q_iI, q_jI, q_dI, q_kJ, q_lJ, q_nJ, q_rJ, q_iJ, q_jJ, q_dJ, q_kC, q_lC, q_nC, q_rC, q_jC, q_dC, q_kF, q_lF, q_nF, q_rF, q_jF, q_dF, q_us, q_un, q_ua, L_X9_punchOne_21, B_X9_punchOne_21, s.k0, s.r0, s.k1, s.l1, hA, f2], hl, Fx.same⟩
  | succ j ih =>
    intro n c cd μ hn he h1 h hl
    obtain ⟨n, rfl⟩ : ∃ k, n = k + 1 := ⟨n - 1, by omega⟩
    have hk := x9_code (card := nt (A 1000) - 1) h (by omega) (show 1 ≤ c by omega) (show c ≤ 20 by omega)
    obtain ⟨μ1, q1, q2, q3⟩ := x9_pu (k := col + c - fr A fl) (v := A (200 + 20 * (nt (A 1000) - 1) + c - 1)) h.1 hl (by omega) (by omega)
    obtain ⟨μ2, p1, p2, p3⟩ := ih n (c + 1) _ μ1 (by omega) (by omega) (by omega) (h.s10 q3) q2
    refine ⟨μ2, ?_, p2, q3.trans p3⟩
    obtain ⟨s, hA⟩ := h
    have v := hda.1
    generalize nt (A 1000) = dn at *
    simp (disch := first | assumption | omega) only [q_bl, q_baT, q_bi, q_ba, q_pr, q_ob, q_iT, q_iN, q_it, q_if, q_of, nI_add, pk_mul, pk_sub, nI_leI, nI_ltI, nI_eq, nI_clamp, nI_lt0, nI_eqm, m1_eq, true_or, or_true, not_false_eq_true, m1_lt, m1_nlt, m1_le, m1_nle, b01, b011, q_em, q_m1, n_0, n_1, n_2, n_3, n_4, n_5, n_6, n_7, n_8, n_9, n_10, n_11, n_12, n_14, n_15, n_16, n_20, n_24, n_25, n_32, n_36, n_40, n_41, n_42, n_43, n_45, n_46, n_48, n_57, n_59, n_60, n_73, n_76, n_97, n_99, n_100, n_106, n_109, n_120, n_122, n_136, n_160, n_176, n_200, n_255, n_800, n_1000, n_1001, n_1002, n_1003, n_1006, n_1012, n_1018, n_1019, n_1020, n_1100, n_1140, n_4800, n_4920, n_5940, n_6740, n_20220, q_kI, q_lI, q_nI, q_rI, q_iI, q_jI, q_dI, q_kJ, q_lJ, q_nJ, q_rJ, q_iJ, q_jJ, q_dJ, q_kC, q_lC, q_nC, q_rC, q_jC, q_dC, q_kF, q_lF, q_nF, q_rF, q_jF, q_dF, q_us, q_un, q_ua, L_X9_punchOne_21, B_X9_punchOne_21, s.k0, s.r0, s.k1, s.l1, hA, f2, v, hk, q1, p1]
theorem l9_pc {m col w : Nat} {x : Int32} (hcl : 1 ≤ col) (hcl2 : col ≤ 20) (hw1 : 1 ≤ w) (hw2 : w ≤ 9) : ∀ (j n left : Nat) (cd : SA) (μ : Mem), j < n → j ≤ w → left < 2 ^ 30 → SR μ m → RC μ m cd →
    ∃ μ', L_X9_punchOne_124 n m (nI col) (nI w) x (nI left) (nI j + -nI 1) μ = some μ' ∧ RC μ' m (sp_pc (decide (x < nI 0)) col w j left cd) ∧ Fx (s10 m) μ μ' := by
  intro j
  induction j with
  | zero =>
    intro n left cd μ hn hm hl s h
    obtain ⟨n, rfl⟩ : ∃ k, n = k + 1 := ⟨n - 1, by omega⟩
    have e0 : nI 0 + -nI 1 = -nI 1 := by decide +kernel
    have e1 : -nI 1 < nI 0 := by decide +kernel
    exact ⟨μ, by simp (disch := first | assumption | omega) only [q_bl, q_baT, q_bi, q_ba, q_pr, q_ob, q_iT, q_iN, q_it, q_if, q_of, nI_add, pk_mul, pk_sub, nI_leI, nI_ltI, nI_eq, nI_clamp, nI_lt0, nI_eqm, m1_eq, true_or, or_true, not_false_eq_true, m1_lt, m1_nlt, m1_le, m1_nle, b01, b011, q_em, q_m1, n_0, n_1, n_2, n_3, n_4, n_5, n_6, n_7, n_8, n_9, n_10, n_11, n_12, n_14, n_15, n_16, n_20, n_24, n_25, n_32, n_36, n_40, n_41, n_42, n_43, n_45, n_46, n_48, n_57, n_59, n_60, n_73, n_76, n_97, n_99, n_100, n_106, n_109, n_120, n_122, n_136, n_160, n_176, n_200, n_255, n_800, n_1000, n_1001, n_1002, n_1003, n_1006, n_1012, n_1018, n_1019, n_1020, n_1100, n_1140, n_4800, n_4920, n_5940, n_6740, n_20220, q_kI, q_lI, q_nI, q_rI, q_iI, q_jI, q_dI, q_kJ, q_lJ, q_nJ, q_rJ, q_iJ, q_jJ, q_dJ, q_kC, q_lC, q_nC, q_rC, q_jC, q_dC, q_kF, q_lF, q_nF, q_rF, q_jF, q_dF, q_us, q_un, q_ua, L_X9_punchOne_124, B_X9_punchOne_124, e0], h, Fx.same⟩
  | succ j ih =>
    intro n left cd μ hn hm hl s h
    obtain ⟨n, rfl⟩ : ∃ k, n = k + 1 := ⟨n - 1, by omega⟩
    have hr : left - left / 10 * 10 = left % 10 := by omega
    have hd := pk_div (a := left) (d := 10) (by omega) (by decide) (by decide)
    by_cases hx : j = w - 1 ∧ x < nI 0
    · have hy : ¬ nI 0 ≤ x := by have := hx.2; rw [lt0_T] at this; rw [le0_T]; omega
      have hj := hx.1
      obtain ⟨μ1, q1, q2, q3⟩ := x9_pu (k := col + j) (v := nI (left % 10 + 100)) s h (by omega) (by omega)
      obtain ⟨μ2, p1, p2, p3⟩ := ih n (left / 10) _ μ1 (by omega) (by omega) (by omega) (s.fx q3) q2
      refine ⟨μ2, ?_, ?_, q3.trans p3⟩
      · simp (disch := first | assumption | omega) only [q_bl, q_baT, q_bi, q_ba, q_pr, q_ob, q_iT, q_iN, q_it, q_if, q_of, nI_add, pk_mul, pk_sub, nI_leI, nI_ltI, nI_eq, nI_clamp, nI_lt0, nI_eqm, m1_eq, true_or, or_true, not_false_eq_true, m1_lt, m1_nlt, m1_le, m1_nle, b01, b011, q_em, q_m1, n_0, n_1, n_2, n_3, n_4, n_5, n_6, n_7, n_8, n_9, n_10, n_11, n_12, n_14, n_15, n_16, n_20, n_24, n_25, n_32, n_36, n_40, n_41, n_42, n_43, n_45, n_46, n_48, n_57, n_59, n_60, n_73, n_76, n_97, n_99, n_100, n_106, n_109, n_120, n_122, n_136, n_160, n_176, n_200, n_255, n_800, n_1000, n_1001, n_1002, n_1003, n_1006, n_1012, n_1018, n_1019, n_1020, n_1100, n_1140, n_4800, n_4920, n_5940, n_6740, n_20220, q_kI, q_lI, q_nI, q_rI, q_iI, q_jI, q_dI, q_kJ, q_lJ, q_nJ, q_rJ, q_iJ, q_jJ, q_dJ, q_kC, q_lC, q_nC, q_rC, q_jC, q_dC, q_kF, q_lF, q_nF, q_rF, q_jF, q_dF, q_us, q_un, q_ua, L_X9_punchOne_124, B_X9_punchOne_124, B_X9_punchOne_158, s.k0, q1, hr, hd, p1]
      · unfold sp_pc; rw [if_pos ⟨hj, decide_eq_true hx.2⟩]; exact p2
    · obtain ⟨μ1, q1, q2, q3⟩ := x9_pu (k := col + j) (v := nI (left % 10)) s h (by omega) (by omega)
      obtain ⟨μ2, p1, p2, p3⟩ := ih n (left / 10) _ μ1 (by omega) (by omega) (by omega) (s.fx q3) q2
      refine ⟨μ2, ?_, ?_, q3.trans p3⟩
      · by_cases h0 : j = w - 1
        · have hy : nI 0 ≤ x := by
            have : ¬ x < nI 0 := fun e => hx ⟨h0, e⟩
            rw [lt0_T] at this; rw [le0_T]; omega
          simp (disch := first | assumption | omega) only [q_bl, q_baT, q_bi, q_ba, q_pr, q_ob, q_iT, q_iN, q_it, q_if, q_of, nI_add, pk_mul, pk_sub, nI_leI, nI_ltI, nI_eq, nI_clamp, nI_lt0, nI_eqm, m1_eq, true_or, or_true, not_false_eq_true, m1_lt, m1_nlt, m1_le, m1_nle, b01, b011, q_em, q_m1, n_0, n_1, n_2, n_3, n_4, n_5, n_6, n_7, n_8, n_9, n_10, n_11, n_12, n_14, n_15, n_16, n_20, n_24, n_25, n_32, n_36, n_40, n_41, n_42, n_43, n_45, n_46, n_48, n_57, n_59, n_60, n_73, n_76, n_97, n_99, n_100, n_106, n_109, n_120, n_122, n_136, n_160, n_176, n_200, n_255, n_800, n_1000, n_1001, n_1002, n_1003, n_1006, n_1012, n_1018, n_1019, n_1020, n_1100, n_1140, n_4800, n_4920, n_5940, n_6740, n_20220, q_kI, q_lI, q_nI, q_rI, q_iI, q_jI, q_dI, q_kJ, q_lJ, q_nJ, q_rJ, q_iJ, q_jJ, q_dJ, q_kC, q_lC, q_nC, q_rC, q_jC, q_dC, q_kF, q_lF, q_nF, q_rF, q_jF, q_dF, q_us, q_un, q_ua, L_X9_punchOne_124, B_X9_punchOne_124, B_X9_punchOne_157, B_X9_punchOne_158, s.k0, q1, hr, hd, p1, Nat.add_zero]
        · simp (disch := first | assumption | omega) only [q_bl, q_baT, q_bi, q_ba, q_pr, q_ob, q_iT, q_iN, q_it, q_if, q_of, nI_add, pk_mul, pk_sub, nI_leI, nI_ltI, nI_eq, nI_clamp, nI_lt0, nI_eqm, m1_eq, true_or, or_true, not_false_eq_true, m1_lt, m1_nlt, m1_le, m1_nle, b01, b011, q_em, q_m1, n_0, n_1, n_2, n_3, n_4, n_5, n_6, n_7, n_8, n_9, n_10, n_11, n_12, n_14, n_15, n_16, n_20, n_24, n_25, n_32, n_36, n_40, n_41, n_42, n_43, n_45, n_46, n_48, n_57, n_59, n_60, n_73, n_76, n_97, n_99, n_100, n_106, n_109, n_120, n_122, n_136, n_160, n_176, n_200, n_255, n_800, n_1000, n_1001, n_1002, n_1003, n_1006, n_1012, n_1018, n_1019, n_1020, n_1100, n_1140, n_4800, n_4920, n_5940, n_6740, n_20220, q_kI, q_lI, q_nI, q_rI, q_iI, q_jI, q_dI, q_kJ, q_lJ, q_nJ, q_rJ, q_iJ, q_jJ, q_dJ, q_kC, q_lC, q_nC, q_rC, q_jC, q_dC, q_kF, q_lF, q_nF, q_rF, q_jF, q_dF, q_us, q_un, q_ua, L_X9_punchOne_124, B_X9_punchOne_124, B_X9_punchOne_157, B_X9_punchOne_158, s.k0, q1, hr, hd, p1, Nat.add_zero]
      · unfold sp_pc; rw [if_neg (fun e => hx ⟨e.1, of_decide_eq_true e.2⟩)]; exact p2
theorem x9_p1 {μ : Mem} {m what col b : Nat} {A : SA} {cd : SA} (h : RA μ m A) (w : WB A) (wm : WM A b) (hw13 : what ≤ 13) (hwh : (what < 8 ∧ what < nt (A 0)) ∨ (8 ≤ what ∧ what - 8 < nt (A 2))) (hd : 1 ≤ nt (A 1000)) (hcl : 1 ≤ col) (hcl2 : col ≤ 20) (hl : RC μ m cd) : ∃ μ', F_X9_punchOne m (nI what) (nI col) μ = some μ' ∧ RC μ' m (sp_p1 A what col cd) ∧ Fx (s10 m) μ μ' := by
  have c2 := w.c2.2
  unfold sp_p1
  by_cases h8 : what < 8
  · have hf : what < nt (A 0) := by rcases hwh with e | e <;> omega
    obtain ⟨f1, f2, f3, f4, f5, f6⟩ := w.fld hf
    obtain ⟨μ1, e1, p1, q1⟩ := l9_pf (m := m) w wm hf hd hcl hcl2 (tr A what + 1 - fr A what) FU (fr A what) cd μ (FU_gt (by omega)) (by omega) (by omega) h hl
    obtain ⟨s, hA⟩ := h
    exact ⟨μ1, by simp (disch := first | assumption | omega) only [q_bl, q_baT, q_bi, q_ba, q_pr, q_ob, q_iT, q_iN, q_it, q_if, q_of, nI_add, pk_mul, pk_sub, nI_leI, nI_ltI, nI_eq, nI_clamp, nI_lt0, nI_eqm, m1_eq, true_or, or_true, not_false_eq_true, m1_lt, m1_nlt, m1_le, m1_nle, b01, b011, q_em, q_m1, n_0, n_1, n_2, n_3, n_4, n_5, n_6, n_7, n_8, n_9, n_10, n_11, n_12, n_14, n_15, n_16, n_20, n_24, n_25, n_32, n_36, n_40, n_41, n_42, n_43, n_45, n_46, n_48, n_57, n_59, n_60, n_73, n_76, n_97, n_99, n_100, n_106, n_109, n_120, n_122, n_136, n_160, n_176, n_200, n_255, n_800, n_1000, n_1001, n_1002, n_1003, n_1006, n_1012, n_1018, n_1019, n_1020, n_1100, n_1140, n_4800, n_4920, n_5940, n_6740, n_20220, q_kI, q_lI, q_nI, q_rI, q_iI, q_jI, q_dI, q_kJ, q_lJ, q_nJ, q_rJ, q_iJ, q_jJ, q_dJ, q_kC, q_lC, q_nC, q_rC, q_jC, q_dC, q_kF, q_lF, q_nF, q_rF, q_jF, q_dF, q_us, q_un, q_ua, F_X9_punchOne, s.k0, s.r0, s.k1, s.l1, hA, f1, e1], by rw [if_pos h8]; exact p1, q1⟩
  · have hc : what - 8 < nt (A 2) := by rcases hwh with e | e <;> omega
    have cc := w.ctr hc
    have hv : (A (1006 + what - 8)).toInt.natAbs < 1000000000 := by
      have := wm.2.2.2.1 (what - 8) (by omega)
      rw [show 1006 + (what - 8) = 1006 + what - 8 from by omega] at this; exact this
    have e43 : A (43 + 5 * (what - 8) + 0) = nI (nt (A (43 + 5 * (what - 8)))) := cc.1
    have w1 := cc.2.2.2.2.2.1
    have w2 := cc.2.2.2.2.2.2.1
    obtain ⟨μ1, e1, p1, q1⟩ := l9_pc (m := m) (x := A (1006 + what - 8)) hcl hcl2 w1 w2 (nt (A (43 + 5 * (what - 8)))) FU (A (1006 + what - 8)).toInt.natAbs cd μ (FU_gt (by omega)) (by omega) (by omega) h.1 hl
    refine ⟨μ1, ?_, by rw [if_neg h8]; exact p1, q1⟩
    obtain ⟨s, hA⟩ := h
    generalize nt (A (43 + 5 * (what - 8))) = wd at *
    have hw : nI wd - nI 1 = nI wd + -nI 1 := Int32.sub_eq_add_neg _ _
    have h6 : nI (1006 + what) - nI 8 = nI (1006 + what - 8) := pk_sub (by omega)
    have h7 : nI what - nI 8 = nI (what - 8) := pk_sub (by omega)
    by_cases h0 : 0 ≤ (A (1006 + what - 8)).toInt
    · have s1 := sz_pos h0
      have s2 : nI 0 ≤ A (1006 + what - 8) := by rw [le0_T]; exact h0
      rw [← s1] at e1
      simp (disch := first | assumption | omega) only [q_bl, q_baT, q_bi, q_ba, q_pr, q_ob, q_iT, q_iN, q_it, q_if, q_of, nI_add, pk_mul, nI_leI, nI_ltI, nI_eq, nI_clamp, nI_lt0, nI_eqm, m1_eq, true_or, or_true, not_false_eq_true, m1_lt, m1_nlt, m1_le, m1_nle, b01, b011, q_em, q_m1, n_0, n_1, n_2, n_3, n_4, n_5, n_6, n_7, n_8, n_9, n_10, n_11, n_12, n_14, n_15, n_16, n_20, n_24, n_25, n_32, n_36, n_40, n_41, n_42, n_43, n_45, n_46, n_48, n_57, n_59, n_60, n_73, n_76, n_97, n_99, n_100, n_106, n_109, n_120, n_122, n_136, n_160, n_176, n_200, n_255, n_800, n_1000, n_1001, n_1002, n_1003, n_1006, n_1012, n_1018, n_1019, n_1020, n_1100, n_1140, n_4800, n_4920, n_5940, n_6740, n_20220, q_kI, q_lI, q_nI, q_rI, q_iI, q_jI, q_dI, q_kJ, q_lJ, q_nJ, q_rJ, q_iJ, q_jJ, q_dJ, q_kC, q_lC, q_nC, q_rC, q_jC, q_dC, q_kF, q_lF, q_nF, q_rF, q_jF, q_dF, q_us, q_un, q_ua, F_X9_punchOne, B_X9_punchOne_117, s.k0, s.r0, s.k1, s.l1, hA, e43, h6, h7, hw, e1]
    · have s1 := sz_neg (x := A (1006 + what - 8)) (by omega) (by omega)
      have s2 : ¬ nI 0 ≤ A (1006 + what - 8) := by rw [le0_T]; exact h0
      rw [← s1] at e1
      simp (disch := first | assumption | omega) only [q_bl, q_baT, q_bi, q_ba, q_pr, q_ob, q_iT, q_iN, q_it, q_if, q_of, nI_add, pk_mul, nI_leI, nI_ltI, nI_eq, nI_clamp, nI_lt0, nI_eqm, m1_eq, true_or, or_true, not_false_eq_true, m1_lt, m1_nlt, m1_le, m1_nle, b01, b011, q_em, q_m1, n_0, n_1, n_2, n_3, n_4, n_5, n_6, n_7, n_8, n_9, n_10, n_11, n_12, n_14, n_15, n_16, n_20, n_24, n_25, n_32, n_36, n_40, n_41, n_42, n_43, n_45, n_46, n_48, n_57, n_59, n_60, n_73, n_76, n_97, n_99, n_100, n_106, n_109, n_120, n_122, n_136, n_160, n_176, n_200, n_255, n_800, n_1000, n_1001, n_1002, n_1003, n_1006, n_1012, n_1018, n_1019, n_1020, n_1100, n_1140, n_4800, n_4920, n_5940, n_6740, n_20220, q_kI, q_lI, q_nI, q_rI, q_iI, q_jI, q_dI, q_kJ, q_lJ, q_nJ, q_rJ, q_iJ, q_jJ, q_dJ, q_kC, q_lC, q_nC, q_rC, q_jC, q_dC, q_kF, q_lF, q_nF, q_rF, q_jF, q_dF, q_us, q_un, q_ua, F_X9_punchOne, B_X9_punchOne_117, s.k0, s.r0, s.k1, s.l1, hA, e43, h6, h7, hw, e1]
/-- the row while a card is copied -/
def endc (A : SA) (cd : SA) (k : Nat) : SA := fun i => if 5940 + 20 * nt (A 1019) ≤ i ∧ i < 5940 + 20 * nt (A 1019) + k then cd (i - (5940 + 20 * nt (A 1019))) else A i
theorem endc_s {A : SA} {cd : SA} {k : Nat} : ua (endc A cd k) (5940 + 20 * nt (A 1019) + k) (cd k) = endc A cd (k + 1) := by
  funext i
  unfold ua endc
  by_cases hi : i = 5940 + 20 * nt (A 1019) + k
  · rw [if_pos hi, if_pos (by omega)]; congr 1; omega
  · rw [if_neg hi]
    by_cases h2 : 5940 + 20 * nt (A 1019) ≤ i ∧ i < 5940 + 20 * nt (A 1019) + k
    · rw [if_pos h2, if_pos (by omega)]
    · rw [if_neg h2, if_neg (by omega)]
theorem endc_f {A : SA} {cd : SA} (hn : nt (A 1019) < 40) : ua (endc A cd 20) 1019 (A 1019 + nI 1) = sp_ends A cd := by
  funext i
  unfold ua endc sp_ends
  by_cases h0 : i = 1019
  · rw [if_pos h0, if_pos h0]
  · rw [if_neg h0, if_neg h0]
    by_cases h2 : 5940 + 20 * nt (A 1019) ≤ i ∧ i < 5940 + 20 * nt (A 1019) + 20
    · rw [if_pos h2, if_pos ⟨hn, h2⟩]
    · rw [if_neg h2, if_neg (show ¬ (nt (A 1019) < 40 ∧ 5940 + 20 * nt (A 1019) ≤ i ∧ i < 5940 + 20 * nt (A 1019) + 20) from fun e => h2 e.2)]
theorem l9_ends {m nn : Nat} {A : SA} {cd : SA} (hn0 : nn = nt (A 1019)) (hn : nn < 40) : ∀ (j n k : Nat) (μ : Mem), j < n → k + j = 20 → RA μ m (endc A cd k) → RC μ m cd → ∃ μ', L_X9_punchSummary_109 n m (nI nn) (nI k) μ = some μ' ∧ RA μ' m (sp_ends A cd) ∧ Fx (s1 m) μ μ' := by
  intro j
  induction j with
  | zero =>
    intro n k μ hj he h hl
    obtain ⟨n, rfl⟩ : ∃ k, n = k + 1 := ⟨n - 1, by omega⟩
    obtain rfl : k = 20 := by omega
    have e19 : endc A cd 20 1019 = A 1019 := by unfold endc; rw [if_neg (by omega)]
    have hp := h.put (j := 1019) (v := A 1019 + nI 1)
    rw [endc_f (by omega)] at hp
    obtain ⟨s, hA⟩ := h
    exact ⟨_, by simp (disch := first | assumption | omega) only [q_bl, q_baT, q_bi, q_ba, q_pr, q_ob, q_iT, q_iN, q_it, q_if, q_of, nI_add, pk_mul, pk_sub, nI_leI, nI_ltI, nI_eq, nI_clamp, nI_lt0, nI_eqm, m1_eq, true_or, or_true, not_false_eq_true, m1_lt, m1_nlt, m1_le, m1_nle, b01, b011, q_em, q_m1, n_0, n_1, n_2, n_3, n_4, n_5, n_6, n_7, n_8, n_9, n_10, n_11, n_12, n_14, n_15, n_16, n_20, n_24, n_25, n_32, n_36, n_40, n_41, n_42, n_43, n_45, n_46, n_48, n_57, n_59, n_60, n_73, n_76, n_97, n_99, n_100, n_106, n_109, n_120, n_122, n_136, n_160, n_176, n_200, n_255, n_800, n_1000, n_1001, n_1002, n_1003, n_1006, n_1012, n_1018, n_1019, n_1020, n_1100, n_1140, n_4800, n_4920, n_5940, n_6740, n_20220, q_kI, q_lI, q_nI, q_rI, q_iI, q_jI, q_dI, q_kJ, q_lJ, q_nJ, q_rJ, q_iJ, q_jJ, q_dJ, q_kC, q_lC, q_nC, q_rC, q_jC, q_dC, q_kF, q_lF, q_nF, q_rF, q_jF, q_dF, q_us, q_un, q_ua, L_X9_punchSummary_109, B_X9_punchSummary_109, B_X9_punchSummary_151, s.k0, s.r0, s.k1, s.l1, hA, e19], hp, Fx.stI rfl⟩
  | succ j ih =>
    intro n k μ hj he h hl
    obtain ⟨n, rfl⟩ : ∃ k, n = k + 1 := ⟨n - 1, by omega⟩
    have hp := h.put (j := 5940 + 20 * nt (A 1019) + k) (v := cd k)
    rw [endc_s, ← hn0] at hp
    have f1 : Fx (s1 m) μ (stI μ (m + 1) (5940 + 20 * nn + k) (cd k)) := Fx.stI rfl
    obtain ⟨μ', e, q1, q2⟩ := ih n (k + 1) _ (by omega) (by omega) hp (fun p hp => by rw [q_iI, q_un (by omega)]; exact hl p hp)
    obtain ⟨s, hA⟩ := h
    have hk := hl k (by omega)
    exact ⟨μ', by simp (disch := first | assumption | omega) only [q_bl, q_baT, q_bi, q_ba, q_pr, q_ob, q_iT, q_iN, q_it, q_if, q_of, nI_add, pk_mul, pk_sub, nI_leI, nI_ltI, nI_eq, nI_clamp, nI_lt0, nI_eqm, m1_eq, true_or, or_true, not_false_eq_true, m1_lt, m1_nlt, m1_le, m1_nle, b01, b011, q_em, q_m1, n_0, n_1, n_2, n_3, n_4, n_5, n_6, n_7, n_8, n_9, n_10, n_11, n_12, n_14, n_15, n_16, n_20, n_24, n_25, n_32, n_36, n_40, n_41, n_42, n_43, n_45, n_46, n_48, n_57, n_59, n_60, n_73, n_76, n_97, n_99, n_100, n_106, n_109, n_120, n_122, n_136, n_160, n_176, n_200, n_255, n_800, n_1000, n_1001, n_1002, n_1003, n_1006, n_1012, n_1018, n_1019, n_1020, n_1100, n_1140, n_4800, n_4920, n_5940, n_6740, n_20220, q_kI, q_lI, q_nI, q_rI, q_iI, q_jI, q_dI, q_kJ, q_lJ, q_nJ, q_rJ, q_iJ, q_jJ, q_dJ, q_kC, q_lC, q_nC, q_rC, q_jC, q_dC, q_kF, q_lF, q_nF, q_rF, q_jF, q_dF, q_us, q_un, q_ua, L_X9_punchSummary_109, B_X9_punchSummary_109, s.k0, s.r0, s.k1, s.l1, s.r23, s.k10, s.l10, hk, e], q1, f1.trans q2⟩
theorem x9_ends {μ : Mem} {m b : Nat} {A : SA} {cd : SA} (h : RA μ m A) (wm : WM A b) (hb : b < 1000000) (hl : RC μ m cd) : ∃ μ', L_X9_punchSummary_109 FU m (A 1019) (nI 0) μ = some μ' ∧ RA μ' m (sp_ends A cd) ∧ Fx (s1 m) μ μ' := by
  have q := wm.2.2.2.2.2.2.1.ex (by omega)
  by_cases hn : nt (A 1019) < 40
  · have e0 : A = endc A cd 0 := by
      funext i; unfold endc; rw [if_neg (by omega)]
    obtain ⟨μ', e, q1, q2⟩ := l9_ends (cd := cd) rfl hn 20 FU 0 μ (FU_gt (by decide)) (by decide) (e0 ▸ h) hl
    exact ⟨μ', by rw [q.1]; exact e, q1, q2⟩
  · have hp := h.put (j := 1019) (v := A 1019 + nI 1)
    have e0 : ua A 1019 (A 1019 + nI 1) = sp_ends A cd := by
      funext i; unfold ua sp_ends
      by_cases h1 : i = 1019
      · rw [if_pos h1, if_pos h1]
      · rw [if_neg h1, if_neg h1, if_neg (fun e => hn e.1)]
    rw [e0] at hp
    obtain ⟨s, hA⟩ := h
    refine ⟨_, ?_, hp, Fx.stI rfl⟩
    have hle2 : nI 40 ≤ A 1019 := by rw [q.1]; exact nI_le (by omega) (by omega)
    have hFU : FU = (FU - 1) + 1 := by unfold FU; rfl
    rw [hFU]
    generalize FU - 1 = fu
    simp (disch := first | assumption | omega) only [q_bl, q_baT, q_bi, q_ba, q_pr, q_ob, q_iT, q_iN, q_it, q_if, q_of, nI_add, pk_mul, pk_sub, nI_leI, nI_ltI, nI_eq, nI_clamp, nI_lt0, nI_eqm, m1_eq, true_or, or_true, not_false_eq_true, m1_lt, m1_nlt, m1_le, m1_nle, b01, b011, q_em, q_m1, n_0, n_1, n_2, n_3, n_4, n_5, n_6, n_7, n_8, n_9, n_10, n_11, n_12, n_14, n_15, n_16, n_20, n_24, n_25, n_32, n_36, n_40, n_41, n_42, n_43, n_45, n_46, n_48, n_57, n_59, n_60, n_73, n_76, n_97, n_99, n_100, n_106, n_109, n_120, n_122, n_136, n_160, n_176, n_200, n_255, n_800, n_1000, n_1001, n_1002, n_1003, n_1006, n_1012, n_1018, n_1019, n_1020, n_1100, n_1140, n_4800, n_4920, n_5940, n_6740, n_20220, q_kI, q_lI, q_nI, q_rI, q_iI, q_jI, q_dI, q_kJ, q_lJ, q_nJ, q_rJ, q_iJ, q_jJ, q_dJ, q_kC, q_lC, q_nC, q_rC, q_jC, q_dC, q_kF, q_lF, q_nF, q_rF, q_jF, q_dF, q_us, q_un, q_ua, L_X9_punchSummary_109, B_X9_punchSummary_109, B_X9_punchSummary_151, s.k0, s.r0, s.k1, s.l1, hA]
theorem l9_puns {m l b : Nat} {A : SA} (w : WB A) (wm : WM A b) (hb : b < 1000000) (hl : l ≤ 3) (hd : 1 ≤ nt (A 1000)) : ∀ (j n k : Nat) (cd : SA) (any : Nat) (μ : Mem), j < n → k + j = nt (A 7) → (any = 1 ∧ hasl A 176 3 l (nt (A 7)) ∨ any = 0 ∧ ∀ i, i < k → ¬ A (176 + 3 * i) = nI l) → RA μ m A → RC μ m cd →
    ∃ μ', L_X9_punchSummary_25 n m (nI l) (nI any) (nI k) μ = some μ' ∧ RA μ' m (@ite _ (hasl A 176 3 l (nt (A 7))) (Classical.propDecidable _) (sp_ends A (sp_puns A l k j cd)) A) ∧ Fx (s19 m) μ μ' := by
  have c7 := w.c7
  intro j
  induction j with
  | zero =>
    intro n k cd any μ hn he ha h hln
    obtain ⟨n, rfl⟩ : ∃ k, n = k + 1 := ⟨n - 1, by omega⟩
    have h' := h
    obtain ⟨s, hA⟩ := h'
    rcases ha with ⟨rfl, hx⟩ | ⟨rfl, hx⟩
    · obtain ⟨μ', e, q1, q2⟩ := x9_ends h wm hb hln
      refine ⟨μ', ?_, by rw [if_pos hx]; exact q1, fx19a q2⟩
      generalize nt (A 7) = n7 at *
      simp (disch := first | assumption | omega) only [q_bl, q_baT, q_bi, q_ba, q_pr, q_ob, q_iT, q_iN, q_it, q_if, q_of, nI_add, pk_mul, pk_sub, nI_leI, nI_ltI, nI_eq, nI_clamp, nI_lt0, nI_eqm, m1_eq, true_or, or_true, not_false_eq_true, m1_lt, m1_nlt, m1_le, m1_nle, b01, b011, q_em, q_m1, n_0, n_1, n_2, n_3, n_4, n_5, n_6, n_7, n_8, n_9, n_10, n_11, n_12, n_14, n_15, n_16, n_20, n_24, n_25, n_32, n_36, n_40, n_41, n_42, n_43, n_45, n_46, n_48, n_57, n_59, n_60, n_73, n_76, n_97, n_99, n_100, n_106, n_109, n_120, n_122, n_136, n_160, n_176, n_200, n_255, n_800, n_1000, n_1001, n_1002, n_1003, n_1006, n_1012, n_1018, n_1019, n_1020, n_1100, n_1140, n_4800, n_4920, n_5940, n_6740, n_20220, q_kI, q_lI, q_nI, q_rI, q_iI, q_jI, q_dI, q_kJ, q_lJ, q_nJ, q_rJ, q_iJ, q_jJ, q_dJ, q_kC, q_lC, q_nC, q_rC, q_jC, q_dC, q_kF, q_lF, q_nF, q_rF, q_jF, q_dF, q_us, q_un, q_ua, L_X9_punchSummary_25, B_X9_punchSummary_25, s.k0, s.r0, s.k1, s.l1, hA, c7.1, e]
    · have hno : ¬ hasl A 176 3 l (nt (A 7)) := fun ⟨i, i1, i2⟩ => hx i (by omega) i2
      refine ⟨μ, ?_, by rw [if_neg hno]; exact h, Fx.same⟩
      generalize nt (A 7) = n7 at *
      simp (disch := first | assumption | omega) only [q_bl, q_baT, q_bi, q_ba, q_pr, q_ob, q_iT, q_iN, q_it, q_if, q_of, nI_add, pk_mul, pk_sub, nI_leI, nI_ltI, nI_eq, nI_clamp, nI_lt0, nI_eqm, m1_eq, true_or, or_true, not_false_eq_true, m1_lt, m1_nlt, m1_le, m1_nle, b01, b011, q_em, q_m1, n_0, n_1, n_2, n_3, n_4, n_5, n_6, n_7, n_8, n_9, n_10, n_11, n_12, n_14, n_15, n_16, n_20, n_24, n_25, n_32, n_36, n_40, n_41, n_42, n_43, n_45, n_46, n_48, n_57, n_59, n_60, n_73, n_76, n_97, n_99, n_100, n_106, n_109, n_120, n_122, n_136, n_160, n_176, n_200, n_255, n_800, n_1000, n_1001, n_1002, n_1003, n_1006, n_1012, n_1018, n_1019, n_1020, n_1100, n_1140, n_4800, n_4920, n_5940, n_6740, n_20220, q_kI, q_lI, q_nI, q_rI, q_iI, q_jI, q_dI, q_kJ, q_lJ, q_nJ, q_rJ, q_iJ, q_jJ, q_dJ, q_kC, q_lC, q_nC, q_rC, q_jC, q_dC, q_kF, q_lF, q_nF, q_rF, q_jF, q_dF, q_us, q_un, q_ua, L_X9_punchSummary_25, B_X9_punchSummary_25, s.k0, s.r0, s.k1, s.l1, hA, c7.1]
  | succ j ih =>
    intro n k cd any μ hn he ha h hln
    obtain ⟨n, rfl⟩ : ∃ k, n = k + 1 := ⟨n - 1, by omega⟩
    have h' := h
    obtain ⟨s, hA⟩ := h'
    have hk : k < nt (A 7) := by omega
    have c := w.pun hk
    have v1 := c.1
    have v2 := c.2.1
    have v3 := c.2.2.1
    have b4 := c.2.2.2.1
    by_cases hx : nt (A (176 + 3 * k)) = l
    · have hAl : A (176 + 3 * k) = nI l := by rw [c.1, hx]
      obtain ⟨μ1, e1, p1, f1⟩ := x9_p1 h w wm c.2.2.2.2.1 c.2.2.2.2.2.1 hd c.2.2.2.2.2.2.1 c.2.2.2.2.2.2.2 hln
      obtain ⟨μ2, e2, p2, f2⟩ := ih n (k + 1) _ 1 μ1 (by omega) (by omega) (Or.inl ⟨rfl, k, hk, hAl⟩) (h.s10 f1) p1
      refine ⟨μ2, ?_, ?_, (fx19c f1).trans f2⟩
      · generalize nt (A (176 + 3 * k + 1)) = a1 at *
        generalize nt (A (176 + 3 * k + 2)) = a2 at *
        generalize nt (A 7) = n7 at *
        simp (disch := first | assumption | omega) only [q_bl, q_baT, q_bi, q_ba, q_pr, q_ob, q_iT, q_iN, q_it, q_if, q_of, nI_add, pk_mul, pk_sub, nI_leI, nI_ltI, nI_eq, nI_clamp, nI_lt0, nI_eqm, m1_eq, true_or, or_true, not_false_eq_true, m1_lt, m1_nlt, m1_le, m1_nle, b01, b011, q_em, q_m1, n_0, n_1, n_2, n_3, n_4, n_5, n_6, n_7, n_8, n_9, n_10, n_11, n_12, n_14, n_15, n_16, n_20, n_24, n_25, n_32, n_36, n_40, n_41, n_42, n_43, n_45, n_46, n_48, n_57, n_59, n_60, n_73, n_76, n_97, n_99, n_100, n_106, n_109, n_120, n_122, n_136, n_160, n_176, n_200, n_255, n_800, n_1000, n_1001, n_1002, n_1003, n_1006, n_1012, n_1018, n_1019, n_1020, n_1100, n_1140, n_4800, n_4920, n_5940, n_6740, n_20220, q_kI, q_lI, q_nI, q_rI, q_iI, q_jI, q_dI, q_kJ, q_lJ, q_nJ, q_rJ, q_iJ, q_jJ, q_dJ, q_kC, q_lC, q_nC, q_rC, q_jC, q_dC, q_kF, q_lF, q_nF, q_rF, q_jF, q_dF, q_us, q_un, q_ua, L_X9_punchSummary_25, B_X9_punchSummary_25, B_X9_punchSummary_86, s.k0, s.r0, s.k1, s.l1, hA, c7.1, hAl, v2, v3, e1, e2]
      · rw [show sp_puns A l k (j + 1) cd = sp_puns A l (k + 1) j (sp_p1 A (nt (A (176 + 3 * k + 1))) (nt (A (176 + 3 * k + 2))) cd) from by
          show sp_puns A l (k + 1) j (if A (176 + 3 * k) = nI l then _ else _) = _
          rw [if_pos hAl]]
        exact p2
    · have hAl : ¬ A (176 + 3 * k) = nI l := by rw [c.1, nI_eq (by omega) (by omega)]; exact hx
      obtain ⟨μ2, e2, p2, f2⟩ := ih n (k + 1) cd any μ (by omega) (by omega) (ha.imp id (fun q => ⟨q.1, fun i hi => by
        by_cases hik : i = k
        · rw [hik]; exact hAl
        · exact q.2 i (by omega)⟩)) h hln
      refine ⟨μ2, ?_, ?_, f2⟩
      · clear hAl ih
        generalize nt (A (176 + 3 * k)) = a1 at *
        generalize nt (A 7) = n7 at *
        simp (disch := first | assumption | omega) only [q_bl, q_baT, q_bi, q_ba, q_pr, q_ob, q_iT, q_iN, q_it, q_if, q_of, nI_add, pk_mul, pk_sub, nI_leI, nI_ltI, nI_eq, nI_clamp, nI_lt0, nI_eqm, m1_eq, true_or, or_true, not_false_eq_true, m1_lt, m1_nlt, m1_le, m1_nle, b01, b011, q_em, q_m1, n_0, n_1, n_2, n_3, n_4, n_5, n_6, n_7, n_8, n_9, n_10, n_11, n_12, n_14, n_15, n_16, n_20, n_24, n_25, n_32, n_36, n_40, n_41, n_42, n_43, n_45, n_46, n_48, n_57, n_59, n_60, n_73, n_76, n_97, n_99, n_100, n_106, n_109, n_120, n_122, n_136, n_160, n_176, n_200, n_255, n_800, n_1000, n_1001, n_1002, n_1003, n_1006, n_1012, n_1018, n_1019, n_1020, n_1100, n_1140, n_4800, n_4920, n_5940, n_6740, n_20220, q_kI, q_lI, q_nI, q_rI, q_iI, q_jI, q_dI, q_kJ, q_lJ, q_nJ, q_rJ, q_iJ, q_jJ, q_dJ, q_kC, q_lC, q_nC, q_rC, q_jC, q_dC, q_kF, q_lF, q_nF, q_rF, q_jF, q_dF, q_us, q_un, q_ua, L_X9_punchSummary_25, B_X9_punchSummary_25, B_X9_punchSummary_86, s.k0, s.r0, s.k1, s.l1, hA, c7.1, v1, e2]
      · rw [show sp_puns A l k (j + 1) cd = sp_puns A l (k + 1) j cd from by
          show sp_puns A l (k + 1) j (if A (176 + 3 * k) = nI l then _ else _) = _
          rw [if_neg hAl]]
        exact p2
theorem l9_clrc {m l b : Nat} {A : SA} (w : WB A) (wm : WM A b) (hb : b < 1000000) (hl : l ≤ 3) (hd : 1 ≤ nt (A 1000)) : ∀ (j n k : Nat) (μ : Mem), j < n → RA μ m A → k + j = 20 → (∀ p, p < k → gI μ (m + 10) p = -nI 1) → ∃ μ', L_X9_punchSummary_4 n m (nI l) (nI 0) (nI k) μ = some μ' ∧ RA μ' m (sp_psum A l) ∧ Fx (s19 m) μ μ' := by
  intro j
  induction j with
  | zero =>
    intro n k μ hn h he hj
    obtain ⟨n, rfl⟩ : ∃ k, n = k + 1 := ⟨n - 1, by omega⟩
    obtain rfl : k = 20 := by omega
    have c7 := w.c7.2
    obtain ⟨μ2, e2, p2, f2⟩ := l9_puns w wm hb hl hd (nt (A 7)) FU 0 bcd 0 μ (FU_gt (by omega)) (by omega) (Or.inr ⟨rfl, fun i hi => by omega⟩) h (fun p hp => hj p hp)
    exact ⟨μ2, by simp (disch := first | assumption | omega) only [q_bl, q_baT, q_bi, q_ba, q_pr, q_ob, q_iT, q_iN, q_it, q_if, q_of, nI_add, pk_mul, pk_sub, nI_leI, nI_ltI, nI_eq, nI_clamp, nI_lt0, nI_eqm, m1_eq, true_or, or_true, not_false_eq_true, m1_lt, m1_nlt, m1_le, m1_nle, b01, b011, q_em, q_m1, n_0, n_1, n_2, n_3, n_4, n_5, n_6, n_7, n_8, n_9, n_10, n_11, n_12, n_14, n_15, n_16, n_20, n_24, n_25, n_32, n_36, n_40, n_41, n_42, n_43, n_45, n_46, n_48, n_57, n_59, n_60, n_73, n_76, n_97, n_99, n_100, n_106, n_109, n_120, n_122, n_136, n_160, n_176, n_200, n_255, n_800, n_1000, n_1001, n_1002, n_1003, n_1006, n_1012, n_1018, n_1019, n_1020, n_1100, n_1140, n_4800, n_4920, n_5940, n_6740, n_20220, q_kI, q_lI, q_nI, q_rI, q_iI, q_jI, q_dI, q_kJ, q_lJ, q_nJ, q_rJ, q_iJ, q_jJ, q_dJ, q_kC, q_lC, q_nC, q_rC, q_jC, q_dC, q_kF, q_lF, q_nF, q_rF, q_jF, q_dF, q_us, q_un, q_ua, L_X9_punchSummary_4, B_X9_punchSummary_4, e2], p2, f2⟩
  | succ j ih =>
    intro n k μ hn h he hj
    obtain ⟨n, rfl⟩ : ∃ k, n = k + 1 := ⟨n - 1, by omega⟩
    have s := h.1
    have f1 : Fx (s10 m) μ (stI μ (m + 10) k (-nI 1)) := Fx.stI rfl
    obtain ⟨μ2, e2, q1, f2⟩ := ih n (k + 1) (stI μ (m + 10) k (-nI 1)) (by omega) (h.s10 f1) (by omega) (fun p hp => by
      rw [q_iI]
      by_cases hpk : p = k
      · subst hpk; rw [q_us]
      · rw [q_un (by omega)]; exact hj p (by omega))
    exact ⟨μ2, by simp (disch := first | assumption | omega) only [q_bl, q_baT, q_bi, q_ba, q_pr, q_ob, q_iT, q_iN, q_it, q_if, q_of, nI_add, pk_mul, pk_sub, nI_leI, nI_ltI, nI_eq, nI_clamp, nI_lt0, nI_eqm, m1_eq, true_or, or_true, not_false_eq_true, m1_lt, m1_nlt, m1_le, m1_nle, b01, b011, q_em, q_m1, n_0, n_1, n_2, n_3, n_4, n_5, n_6, n_7, n_8, n_9, n_10, n_11, n_12, n_14, n_15, n_16, n_20, n_24, n_25, n_32, n_36, n_40, n_41, n_42, n_43, n_45, n_46, n_48, n_57, n_59, n_60, n_73, n_76, n_97, n_99, n_100, n_106, n_109, n_120, n_122, n_136, n_160, n_176, n_200, n_255, n_800, n_1000, n_1001, n_1002, n_1003, n_1006, n_1012, n_1018, n_1019, n_1020, n_1100, n_1140, n_4800, n_4920, n_5940, n_6740, n_20220, q_kI, q_lI, q_nI, q_rI, q_iI, q_jI, q_dI, q_kJ, q_lJ, q_nJ, q_rJ, q_iJ, q_jJ, q_dJ, q_kC, q_lC, q_nC, q_rC, q_jC, q_dC, q_kF, q_lF, q_nF, q_rF, q_jF, q_dF, q_us, q_un, q_ua, L_X9_punchSummary_4, B_X9_punchSummary_4, s.k0, s.r23, s.k10, s.l10, e2], q1, (fx19c f1).trans f2⟩
theorem x9_psum {μ : Mem} {m l b : Nat} {A : SA} (h : RA μ m A) (ex : EX A b) (hb : b < 1000000) (hl : l ≤ 3) (hd : 1 ≤ nt (A 1000)) : ∃ μ', F_X9_punchSummary m (nI l) μ = some μ' ∧ RA μ' m (sp_psum A l) ∧ Fx (s19 m) μ μ' := by
  obtain ⟨μ2, e2, p2, f2⟩ := l9_clrc ex.w ex.m hb hl hd 20 FU 0 μ (FU_gt (by decide)) h (by decide) (fun p hp => by omega)
  exact ⟨μ2, by simp (disch := first | assumption | omega) only [q_bl, q_baT, q_bi, q_ba, q_pr, q_ob, q_iT, q_iN, q_it, q_if, q_of, nI_add, pk_mul, pk_sub, nI_leI, nI_ltI, nI_eq, nI_clamp, nI_lt0, nI_eqm, m1_eq, true_or, or_true, not_false_eq_true, m1_lt, m1_nlt, m1_le, m1_nle, b01, b011, q_em, q_m1, n_0, n_1, n_2, n_3, n_4, n_5, n_6, n_7, n_8, n_9, n_10, n_11, n_12, n_14, n_15, n_16, n_20, n_24, n_25, n_32, n_36, n_40, n_41, n_42, n_43, n_45, n_46, n_48, n_57, n_59, n_60, n_73, n_76, n_97, n_99, n_100, n_106, n_109, n_120, n_122, n_136, n_160, n_176, n_200, n_255, n_800, n_1000, n_1001, n_1002, n_1003, n_1006, n_1012, n_1018, n_1019, n_1020, n_1100, n_1140, n_4800, n_4920, n_5940, n_6740, n_20220, q_kI, q_lI, q_nI, q_rI, q_iI, q_jI, q_dI, q_kJ, q_lJ, q_nJ, q_rJ, q_iJ, q_jJ, q_dJ, q_kC, q_lC, q_nC, q_rC, q_jC, q_dC, q_kF, q_lF, q_nF, q_rF, q_jF, q_dF, q_us, q_un, q_ua, F_X9_punchSummary, e2], p2, f2⟩
-- cycles
theorem EX.roll {A : SA} {b l : Nat} (h : EX A b) (hl : l ≤ 3) : EX (sp_roll l 0 (nt (A 5)) A) (b + 8) := by
  obtain ⟨μ, r, h⟩ := h
  obtain ⟨μ', e, m, f⟩ := x3_roll h hl
  exact ⟨μ', r, m⟩
theorem EX.ptot {A : SA} {b l : Nat} (h : EX A b) (hb : b < 1000000) (hl : l ≤ 3) : EX (sp_ptot A l) (b + 1) := by
  obtain ⟨μ, r, h⟩ := h
  obtain ⟨μ', e, m, f⟩ := x3_ptot h hb hl
  exact ⟨μ', r, m⟩
theorem EX.psum {A : SA} {b l : Nat} (h : EX A b) (hb : b < 1000000) (hl : l ≤ 3) (hd : 1 ≤ nt (A 1000)) : EX (sp_psum A l) (b + 1) := by
  obtain ⟨μ, r, h⟩ := h
  obtain ⟨μ', e, m, f⟩ := x3_psum h hb hl hd
  exact ⟨μ', r, m⟩
theorem EX.cyc {A : SA} {b l : Nat} (h : EX A b) (hb : b < 900000) (h1 : 1 ≤ l) (hl : l ≤ 3) (hd : 1 ≤ nt (A 1000)) : EX (sp_cyc A l) (b + 10) := by
  obtain ⟨μ, r, h⟩ := h
  obtain ⟨μ', e, m, f⟩ := x3_cyc (n := 0) (hi := nI l) h hb h1 hl (nI_nlt (Nat.le_refl _) (by omega)) hd
  exact ⟨μ', r, m⟩
theorem EX.cycs {A : SA} {b hi : Nat} (h : EX A b) (hb : b < 800000) (hl : hi ≤ 3) (hd : 0 < hi → 1 ≤ nt (A 1000)) : EX (sp_cycs 1 hi A) (b + 30) := by
  obtain ⟨μ, r, h⟩ := h
  obtain ⟨μ', e, m, f⟩ := x3_cycs h hb hl hd
  exact ⟨μ', r, m⟩
theorem EX.sel {A : SA} {b card : Nat} (h : EX A b) (hc : card < nt (A 8)) : EX (sp_sel A card) b := by
  obtain ⟨μ, r, h⟩ := h
  obtain ⟨μ', e, m, f⟩ := x3_sel h hc
  exact ⟨μ', r, m⟩
theorem EX.cnt {A : SA} {b card : Nat} (h : EX A b) (hc : card < nt (A 8)) : EX (sp_cnt card 0 (nt (A 2)) A) (b + 6) := by
  obtain ⟨μ, r, h⟩ := h
  obtain ⟨μ', e, m, f⟩ := x3_cnt h hc
  exact ⟨μ', r, m⟩
theorem EX.proc {A : SA} {b : Nat} (h : EX A b) (hb : b < 700000) (hc : nt (A 1000) < nt (A 8)) : EX (sp_proc A) (b + 40) := by
  obtain ⟨μ, r, h⟩ := h
  obtain ⟨μ', e, m, f⟩ := x3_proc h hb hc
  exact ⟨μ', r, m⟩
theorem x9_cyc {μ : Mem} {m l b : Nat} {A : SA} (h : RA μ m A) (ex : EX A b) (hb : b < 900000) (hl1 : 1 ≤ l) (hl : l ≤ 3) (hd : 1 ≤ nt (A 1000)) : ∃ μ', F_X9_totalCycle m (nI l) μ = some μ' ∧ RA μ' m (sp_cyc A l) ∧ Fx (s19 m) μ μ' := by
  have w := ex.w
  have c5 := w.c5
  have c6 := w.c6.2
  obtain ⟨μ1, n', e1, p1, f1⟩ := l9_roll (m := m) hl (nt (A 5)) FU 0 b μ A (FU_gt (by have := c5.2; omega)) h ex (by omega)
  have ex1 := ex.roll hl
  have r1 : ∀ j, j < 1003 → sp_roll l 0 (nt (A 5)) A j = A j := fun j hj => roll_o _ _ _ _ (by omega) (by omega) w
  obtain ⟨μ2, e2, p2, f2⟩ := x9_ptot p1 ex1 (by omega) hl1 hl
  have ex2 := ex1.ptot (by omega) hl
  have r2 : ∀ j, j < 1003 → sp_ptot (sp_roll l 0 (nt (A 5)) A) l j = A j := fun j hj => by rw [ptot_o (by omega), r1 j hj]
  obtain ⟨μ3, e3, p3, f3⟩ := x9_psum p2 ex2 (by omega) hl (by rw [r2 1000 (by decide)]; exact hd)
  have ex3 := ex2.psum (by omega) hl (by rw [r2 1000 (by decide)]; exact hd)
  have r3 : ∀ j, j < 1003 → sp_psum (sp_ptot (sp_roll l 0 (nt (A 5)) A) l) l j = A j := fun j hj => by rw [psum_o (by omega) (by omega), r2 j hj]
  obtain ⟨μ4, e4, p4, f4⟩ := l9_clr (m := m) hl1 hl (nt (A 6)) FU 0 _ μ3 _ (FU_gt (by omega)) p3 ex3 (by rw [r3 6 (by decide)]; omega)
  refine ⟨μ4, ?_, ?_, (fx19a f1).trans (f2.trans (f3.trans (fx19a f4)))⟩
  · have hA1 := p1.2
    have s1' := p1.1
    have s2 := p2.1
    have v5 : sp_roll l 0 (nt (A 5)) A 5 = nI (nt (A 5)) := by rw [r1 5 (by decide)]; exact c5.1
    have c52 := c5.2
    have hF : F_X9_totalCycle m (nI l) μ = L_X9_totalCycle_2 (n' + 1) m (nI l) (nI (nt (A 5))) μ1 := by
      rw [← e1]; simp (disch := first | assumption | omega) only [q_bl, q_baT, q_bi, q_ba, q_pr, q_ob, q_iT, q_iN, q_it, q_if, q_of, nI_add, pk_mul, pk_sub, nI_leI, nI_ltI, nI_eq, nI_clamp, nI_lt0, nI_eqm, m1_eq, true_or, or_true, not_false_eq_true, m1_lt, m1_nlt, m1_le, m1_nle, b01, b011, q_em, q_m1, n_0, n_1, n_2, n_3, n_4, n_5, n_6, n_7, n_8, n_9, n_10, n_11, n_12, n_14, n_15, n_16, n_20, n_24, n_25, n_32, n_36, n_40, n_41, n_42, n_43, n_45, n_46, n_48, n_57, n_59, n_60, n_73, n_76, n_97, n_99, n_100, n_106, n_109, n_120, n_122, n_136, n_160, n_176, n_200, n_255, n_800, n_1000, n_1001, n_1002, n_1003, n_1006, n_1012, n_1018, n_1019, n_1020, n_1100, n_1140, n_4800, n_4920, n_5940, n_6740, n_20220, q_kI, q_lI, q_nI, q_rI, q_iI, q_jI, q_dI, q_kJ, q_lJ, q_nJ, q_rJ, q_iJ, q_jJ, q_dJ, q_kC, q_lC, q_nC, q_rC, q_jC, q_dC, q_kF, q_lF, q_nF, q_rF, q_jF, q_dF, q_us, q_un, q_ua, F_X9_totalCycle]
    rw [hF]
    generalize sp_roll l 0 (nt (A 5)) A = A1 at *
    generalize nt (A 5) = n5 at *
    simp (disch := first | assumption | omega) only [q_bl, q_baT, q_bi, q_ba, q_pr, q_ob, q_iT, q_iN, q_it, q_if, q_of, nI_add, pk_mul, pk_sub, nI_leI, nI_ltI, nI_eq, nI_clamp, nI_lt0, nI_eqm, m1_eq, true_or, or_true, not_false_eq_true, m1_lt, m1_nlt, m1_le, m1_nle, b01, b011, q_em, q_m1, n_0, n_1, n_2, n_3, n_4, n_5, n_6, n_7, n_8, n_9, n_10, n_11, n_12, n_14, n_15, n_16, n_20, n_24, n_25, n_32, n_36, n_40, n_41, n_42, n_43, n_45, n_46, n_48, n_57, n_59, n_60, n_73, n_76, n_97, n_99, n_100, n_106, n_109, n_120, n_122, n_136, n_160, n_176, n_200, n_255, n_800, n_1000, n_1001, n_1002, n_1003, n_1006, n_1012, n_1018, n_1019, n_1020, n_1100, n_1140, n_4800, n_4920, n_5940, n_6740, n_20220, q_kI, q_lI, q_nI, q_rI, q_iI, q_jI, q_dI, q_kJ, q_lJ, q_nJ, q_rJ, q_iJ, q_jJ, q_dJ, q_kC, q_lC, q_nC, q_rC, q_jC, q_dC, q_kF, q_lF, q_nF, q_rF, q_jF, q_dF, q_us, q_un, q_ua, L_X9_totalCycle_2, B_X9_totalCycle_2, s1'.k0, s1'.r0, s1'.k1, s1'.l1, hA1, v5, e2, s2.k0, e3, e4]
  · rw [sp_cyc_eq]
    exact p4

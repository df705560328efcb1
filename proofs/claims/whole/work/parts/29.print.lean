/-! LAYER 3: the class's machine: total lines and detail lines -/
/-- what stays while a line is printed -/
def LQ (μ : Mem) (r : Nat) (A : SA) : Prop := SM μ r ∧ RBD (gI μ) r A ∧ RN (gI μ) r A ∧ WB A
theorem LQ.fx {μ μ' : Mem} {r : Nat} {A : SA} (h : LQ μ r A) (f : Fx (PR r) μ μ') : LQ μ' r A := by
  have eI : ∀ a, ¬ (r + 26 ≤ a ∧ a < r + 29) → gI μ' a = gI μ a := fun a ha => f.I ha
  exact ⟨h.1.fx f, h.2.1.cg h.2.2.2 (fun a h1 h2 => eI a (by omega)) (fun _ _ => rfl), h.2.2.1.cg (eI _ (by omega)) (fun _ _ => rfl), h.2.2.2⟩
theorem MO.lq {μ : Mem} {r b : Nat} {A : SA} (h : MO μ r A b) : LQ μ r A := ⟨h.1, h.2.1.bd, h.2.1.2.2.1, h.2.2.1⟩
theorem star_step {j p : Nat} {ln : SA} (hj : j ≤ 39) (h1 : 1 ≤ p) (h2 : p ≤ 40) : sp_star (j + 1) ln p = pt (40 - j) (nI 42) (sp_star j ln) p := by
  unfold pt
  rw [if_pos (show 40 - j ≤ 40 by omega)]
  by_cases hp : p = 40 - j
  · rw [hp, ua_s]; unfold sp_star; rw [if_pos (by omega)]
  · rw [ua_n hp]
    unfold sp_star
    by_cases hq : 40 < p + j ∧ p ≤ 40
    · rw [if_pos hq, if_pos (by omega)]
    · rw [if_neg hq, if_neg (by omega)]
theorem l_star {r nn l : Nat} {A : SA} {lv : Int32} {ln : SA} (hnn : nn < 2 ^ 30) (hl : l ≤ 3) : ∀ (m n j : Nat) (μ : Mem), m < n → j + m = l → SM μ r → LnP (gI μ) r A nn lv (sp_star j ln) →
    ∃ μ', L_X3_printTotalLine_98 n r (nI l) (nI j) μ = some μ' ∧ LnP (gI μ') r A nn lv (sp_star l ln) ∧ Fx (PR r) μ μ' := by
  intro m
  induction m with
  | zero =>
    intro n j μ hn he s h
    obtain ⟨n, rfl⟩ : ∃ k, n = k + 1 := ⟨n - 1, by omega⟩
    obtain rfl : j = l := by omega
    exact ⟨μ, by simp (disch := first | assumption | omega) only [q_bl, q_baT, q_bi, q_ba, q_pr, q_ob, q_iT, q_iN, q_it, q_if, q_of, nI_add, pk_mul, pk_sub, nI_leI, nI_ltI, nI_eq, nI_clamp, nI_lt0, nI_eqm, m1_eq, true_or, or_true, not_false_eq_true, m1_lt, m1_nlt, m1_le, m1_nle, b01, b011, q_em, q_m1, n_0, n_1, n_2, n_3, n_4, n_5, n_6, n_7, n_8, n_9, n_10, n_11, n_12, n_14, n_15, n_16, n_20, n_24, n_25, n_32, n_36, n_40, n_41, n_42, n_43, n_45, n_46, n_48, n_57, n_59, n_60, n_73, n_76, n_97, n_99, n_100, n_106, n_109, n_120, n_122, n_136, n_160, n_176, n_200, n_255, n_800, n_1000, n_1001, n_1002, n_1003, n_1006, n_1012, n_1018, n_1019, n_1020, n_1100, n_1140, n_4800, n_4920, n_5940, n_6740, n_20220, q_kI, q_lI, q_nI, q_rI, q_iI, q_jI, q_dI, q_kJ, q_lJ, q_nJ, q_rJ, q_iJ, q_jJ, q_dJ, q_kC, q_lC, q_nC, q_rC, q_jC, q_dC, q_kF, q_lF, q_nF, q_rF, q_jF, q_dF, q_us, q_un, q_ua, L_X3_printTotalLine_98, B_X3_printTotalLine_98], h, Fx.same⟩
  | succ m ih =>
    intro n j μ hn he s h
    obtain ⟨n, rfl⟩ : ∃ k, n = k + 1 := ⟨n - 1, by omega⟩
    obtain ⟨μ1, q1, q2, q3⟩ := LnP.put (k := 40 - j) (v := nI 42) s h hnn (by omega) (by omega)
    obtain ⟨μ2, p1, p2, p3⟩ := ih n (j + 1) μ1 (by omega) (by omega) (s.fx q3) (q2.ext (fun p h1 h2 => star_step (by omega) h1 h2))
    exact ⟨μ2, by simp (disch := first | assumption | omega) only [q_bl, q_baT, q_bi, q_ba, q_pr, q_ob, q_iT, q_iN, q_it, q_if, q_of, nI_add, pk_mul, pk_sub, nI_leI, nI_ltI, nI_eq, nI_clamp, nI_lt0, nI_eqm, m1_eq, true_or, or_true, not_false_eq_true, m1_lt, m1_nlt, m1_le, m1_nle, b01, b011, q_em, q_m1, n_0, n_1, n_2, n_3, n_4, n_5, n_6, n_7, n_8, n_9, n_10, n_11, n_12, n_14, n_15, n_16, n_20, n_24, n_25, n_32, n_36, n_40, n_41, n_42, n_43, n_45, n_46, n_48, n_57, n_59, n_60, n_73, n_76, n_97, n_99, n_100, n_106, n_109, n_120, n_122, n_136, n_160, n_176, n_200, n_255, n_800, n_1000, n_1001, n_1002, n_1003, n_1006, n_1012, n_1018, n_1019, n_1020, n_1100, n_1140, n_4800, n_4920, n_5940, n_6740, n_20220, q_kI, q_lI, q_nI, q_rI, q_iI, q_jI, q_dI, q_kJ, q_lJ, q_nJ, q_rJ, q_iJ, q_jJ, q_dJ, q_kC, q_lC, q_nC, q_rC, q_jC, q_dC, q_kF, q_lF, q_nF, q_rF, q_jF, q_dF, q_us, q_un, q_ua, L_X3_printTotalLine_98, B_X3_printTotalLine_98, s.k0, s.r7, s.k26, q1, p1], p2, q3.trans p3⟩
theorem l_tots {r nn l : Nat} {A : SA} {lv : Int32} (hnn : nn < 2 ^ 30) (hl : l ≤ 3) (hv : ∀ k, k < 6 → (A (1006 + k)).toInt.natAbs < 1000000000) : ∀ (m n k : Nat) (ln : SA) (μ : Mem), m < n → k + m = nt (A 4) → LQ μ r A → LnP (gI μ) r A nn lv ln →
    ∃ μ', L_X3_printTotalLine_28 n r (nI l) (r + 10) (nI k) μ = some μ' ∧ LnP (gI μ') r A nn lv (sp_star l (sp_tots A l k m ln)) ∧ Fx (PR r) μ μ' := by
  intro m
  induction m with
  | zero =>
    intro n k ln μ hn he q h
    obtain ⟨n, rfl⟩ : ∃ k, n = k + 1 := ⟨n - 1, by omega⟩
    obtain ⟨s, hr, hN, w⟩ := q
    have c4 := w.c4.2
    obtain ⟨μ1, q1, q2, q3⟩ := l_star (ln := ln) hnn hl l FU 0 μ (FU_gt (by omega)) (by omega) s (h.ext (fun p h1 h2 => by unfold sp_star; rw [if_neg (by omega)]))
    exact ⟨μ1, by simp (disch := first | assumption | omega) only [q_bl, q_baT, q_bi, q_ba, q_pr, q_ob, q_iT, q_iN, q_it, q_if, q_of, nI_add, pk_mul, pk_sub, nI_leI, nI_ltI, nI_eq, nI_clamp, nI_lt0, nI_eqm, m1_eq, true_or, or_true, not_false_eq_true, m1_lt, m1_nlt, m1_le, m1_nle, b01, b011, q_em, q_m1, n_0, n_1, n_2, n_3, n_4, n_5, n_6, n_7, n_8, n_9, n_10, n_11, n_12, n_14, n_15, n_16, n_20, n_24, n_25, n_32, n_36, n_40, n_41, n_42, n_43, n_45, n_46, n_48, n_57, n_59, n_60, n_73, n_76, n_97, n_99, n_100, n_106, n_109, n_120, n_122, n_136, n_160, n_176, n_200, n_255, n_800, n_1000, n_1001, n_1002, n_1003, n_1006, n_1012, n_1018, n_1019, n_1020, n_1100, n_1140, n_4800, n_4920, n_5940, n_6740, n_20220, q_kI, q_lI, q_nI, q_rI, q_iI, q_jI, q_dI, q_kJ, q_lJ, q_nJ, q_rJ, q_iJ, q_jJ, q_dJ, q_kC, q_lC, q_nC, q_rC, q_jC, q_dC, q_kF, q_lF, q_nF, q_rF, q_jF, q_dF, q_us, q_un, q_ua, L_X3_printTotalLine_28, B_X3_printTotalLine_28, s.k10, hr.n4 w, q1], q2, q3⟩
  | succ m ih =>
    intro n k ln μ hn he q h
    obtain ⟨n, rfl⟩ : ∃ k, n = k + 1 := ⟨n - 1, by omega⟩
    have q' := q
    obtain ⟨s, hr, hN, w⟩ := q'
    have c4 := w.c4.2
    have c2 := w.c2.2
    have hk : k < nt (A 4) := by omega
    have c := w.tot hk
    have a0 := x6_at (p := 0) s.st4 (hr.n4 w) (by omega) hk (by decide)
    have a1 := x6_at (p := 1) s.st4 (hr.n4 w) (by omega) hk (by decide)
    have a2 := x6_at (p := 2) s.st4 (hr.n4 w) (by omega) hk (by decide)
    rw [show r + 10 + 1 = r + 11 from rfl, hr.1.2.2.2.2.1.2 k 0 hk (by decide), show 100 + 3 * k + 0 = 100 + 3 * k from rfl, c.1] at a0
    rw [show r + 10 + 1 = r + 11 from rfl, hr.1.2.2.2.2.1.2 k 1 hk (by decide), c.2.1] at a1
    rw [show r + 10 + 1 = r + 11 from rfl, hr.1.2.2.2.2.1.2 k 2 hk (by decide), c.2.2.1] at a2
    by_cases hx : nt (A (100 + 3 * k)) = l
    · have cc := w.ctr c.2.2.2.2.1
      have aw := x6_at (p := 0) s.st2 (hr.n2 w) (by omega) c.2.2.2.2.1 (by decide)
      rw [show r + 6 + 1 = r + 7 from rfl, hr.1.2.2.1.2 _ 0 c.2.2.2.2.1 (by decide), show 43 + 5 * nt (A (100 + 3 * k + 1)) + 0 = 43 + 5 * nt (A (100 + 3 * k + 1)) from rfl, cc.1] at aw
      have hn1 : F_X3_numberIn r (nI (nt (A (100 + 3 * k + 1)))) μ = some (A (1006 + nt (A (100 + 3 * k + 1)))) := by
        have hn : gI μ (r + 21) (nt (A (100 + 3 * k + 1))) = A (1006 + nt (A (100 + 3 * k + 1))) := hN _ (by omega)
        simp (disch := first | assumption | omega) only [q_bl, q_baT, q_bi, q_ba, q_pr, q_ob, q_iT, q_iN, q_it, q_if, q_of, nI_add, pk_mul, pk_sub, nI_leI, nI_ltI, nI_eq, nI_clamp, nI_lt0, nI_eqm, m1_eq, true_or, or_true, not_false_eq_true, m1_lt, m1_nlt, m1_le, m1_nle, b01, b011, q_em, q_m1, n_0, n_1, n_2, n_3, n_4, n_5, n_6, n_7, n_8, n_9, n_10, n_11, n_12, n_14, n_15, n_16, n_20, n_24, n_25, n_32, n_36, n_40, n_41, n_42, n_43, n_45, n_46, n_48, n_57, n_59, n_60, n_73, n_76, n_97, n_99, n_100, n_106, n_109, n_120, n_122, n_136, n_160, n_176, n_200, n_255, n_800, n_1000, n_1001, n_1002, n_1003, n_1006, n_1012, n_1018, n_1019, n_1020, n_1100, n_1140, n_4800, n_4920, n_5940, n_6740, n_20220, q_kI, q_lI, q_nI, q_rI, q_iI, q_jI, q_dI, q_kJ, q_lJ, q_nJ, q_rJ, q_iJ, q_jJ, q_dJ, q_kC, q_lC, q_nC, q_rC, q_jC, q_dC, q_kF, q_lF, q_nF, q_rF, q_jF, q_dF, q_us, q_un, q_ua, F_X3_numberIn, s.k0, s.r2, s.k21, s.l21, hn]
      obtain ⟨μ1, e1, m1, f1⟩ := x4_pnum hnn c.2.2.2.2.2.1 c.2.2.2.2.2.2 cc.2.2.2.2.2.1 cc.2.2.2.2.2.2.1 s h (hv (nt (A (100 + 3 * k + 1))) (by omega))
      obtain ⟨μ2, e2, m2, f2⟩ := ih n (k + 1) _ μ1 (by omega) (by omega) (q.fx f1) m1
      refine ⟨μ2, ?_, ?_, f1.trans f2⟩
      · simp (disch := first | assumption | omega) only [q_bl, q_baT, q_bi, q_ba, q_pr, q_ob, q_iT, q_iN, q_it, q_if, q_of, nI_add, pk_mul, pk_sub, nI_leI, nI_ltI, nI_eq, nI_clamp, nI_lt0, nI_eqm, m1_eq, true_or, or_true, not_false_eq_true, m1_lt, m1_nlt, m1_le, m1_nle, b01, b011, q_em, q_m1, n_0, n_1, n_2, n_3, n_4, n_5, n_6, n_7, n_8, n_9, n_10, n_11, n_12, n_14, n_15, n_16, n_20, n_24, n_25, n_32, n_36, n_40, n_41, n_42, n_43, n_45, n_46, n_48, n_57, n_59, n_60, n_73, n_76, n_97, n_99, n_100, n_106, n_109, n_120, n_122, n_136, n_160, n_176, n_200, n_255, n_800, n_1000, n_1001, n_1002, n_1003, n_1006, n_1012, n_1018, n_1019, n_1020, n_1100, n_1140, n_4800, n_4920, n_5940, n_6740, n_20220, q_kI, q_lI, q_nI, q_rI, q_iI, q_jI, q_dI, q_kJ, q_lJ, q_nJ, q_rJ, q_iJ, q_jJ, q_dJ, q_kC, q_lC, q_nC, q_rC, q_jC, q_dC, q_kF, q_lF, q_nF, q_rF, q_jF, q_dF, q_us, q_un, q_ua, L_X3_printTotalLine_28, B_X3_printTotalLine_28, B_X3_printTotalLine_90, s.k10, s.k0, s.r0, s.k1, s.b2, s.k6, s.r7, s.k26, hr.n4 w, a0, a1, a2, aw, hn1, e1, e2]
      · have : A (100 + 3 * k) = nI l := by rw [c.1, hx]
        unfold sp_tots
        rw [if_pos this]
        exact m2
    · obtain ⟨μ2, e2, m2, f2⟩ := ih n (k + 1) ln μ (by omega) (by omega) q h
      refine ⟨μ2, ?_, ?_, f2⟩
      · simp (disch := first | assumption | omega) only [q_bl, q_baT, q_bi, q_ba, q_pr, q_ob, q_iT, q_iN, q_it, q_if, q_of, nI_add, pk_mul, pk_sub, nI_leI, nI_ltI, nI_eq, nI_clamp, nI_lt0, nI_eqm, m1_eq, true_or, or_true, not_false_eq_true, m1_lt, m1_nlt, m1_le, m1_nle, b01, b011, q_em, q_m1, n_0, n_1, n_2, n_3, n_4, n_5, n_6, n_7, n_8, n_9, n_10, n_11, n_12, n_14, n_15, n_16, n_20, n_24, n_25, n_32, n_36, n_40, n_41, n_42, n_43, n_45, n_46, n_48, n_57, n_59, n_60, n_73, n_76, n_97, n_99, n_100, n_106, n_109, n_120, n_122, n_136, n_160, n_176, n_200, n_255, n_800, n_1000, n_1001, n_1002, n_1003, n_1006, n_1012, n_1018, n_1019, n_1020, n_1100, n_1140, n_4800, n_4920, n_5940, n_6740, n_20220, q_kI, q_lI, q_nI, q_rI, q_iI, q_jI, q_dI, q_kJ, q_lJ, q_nJ, q_rJ, q_iJ, q_jJ, q_dJ, q_kC, q_lC, q_nC, q_rC, q_jC, q_dC, q_kF, q_lF, q_nF, q_rF, q_jF, q_dF, q_us, q_un, q_ua, L_X3_printTotalLine_28, B_X3_printTotalLine_28, B_X3_printTotalLine_90, s.k10, hr.n4 w, a0, e2]
      · have : ¬ A (100 + 3 * k) = nI l := by rw [c.1, nI_eq (by omega) (by omega)]; exact hx
        unfold sp_tots
        rw [if_neg this]
        exact m2
theorem x3_ptot {μ : Mem} {r b l : Nat} {A : SA} (h : MO μ r A b) (hb : b < 1000000) (hl : l ≤ 3) : ∃ μ', F_X3_printTotalLine r (nI l) μ = some μ' ∧ MO μ' r (sp_ptot A l) (b + 1) ∧ Fx (MR r) μ μ' := by
  have h' := h
  obtain ⟨s, hr, w, m⟩ := h'
  have c4 := w.c4.2
  have hw : ∀ j, j < nt (A 4) → gI μ (r + 11) (j * 5 + 0) = A (100 + 3 * j) := fun j hj => hr.1.2.2.2.2.1.2 j 0 hj (by decide)
  have hw2 : ∀ j, j < nt (A 4) → ∃ v, gI μ (r + 10 + 1) (j * 5 + 0) = nI v ∧ v < 100 := fun j hj => ⟨nt (A (100 + 3 * j)), (hw j hj).trans (w.tot hj).1, by have := (w.tot hj).2.2.2.1; omega⟩
  unfold sp_ptot
  by_cases hx : hasl A 100 3 l (nt (A 4))
  · have hh := x6_has (v := l) s.st4 (hr.n4 w) (by omega) (show 0 < 5 by decide) (by omega) hw2 (by obtain ⟨k, k1, k2⟩ := hx; exact ⟨k, k1, (hw k k1).trans k2⟩)
    obtain ⟨μ1, e1, p1, f1⟩ := LnP.start (lv := nI l) h hb
    have q := m.2.2.2.2.2.1.ex (by omega)
    obtain ⟨μ2, e2, p2, f2⟩ := l_tots (by omega) hl m.2.2.2.1 (nt (A 4)) FU 0 bln μ1 (FU_gt (by omega)) (by omega) (h.lq.fx f1) p1
    have mf := LnP.fin h hb (f1.trans f2) p2
    refine ⟨μ2, by simp (disch := first | assumption | omega) only [q_bl, q_baT, q_bi, q_ba, q_pr, q_ob, q_iT, q_iN, q_it, q_if, q_of, nI_add, pk_mul, pk_sub, nI_leI, nI_ltI, nI_eq, nI_clamp, nI_lt0, nI_eqm, m1_eq, true_or, or_true, not_false_eq_true, m1_lt, m1_nlt, m1_le, m1_nle, b01, b011, q_em, q_m1, n_0, n_1, n_2, n_3, n_4, n_5, n_6, n_7, n_8, n_9, n_10, n_11, n_12, n_14, n_15, n_16, n_20, n_24, n_25, n_32, n_36, n_40, n_41, n_42, n_43, n_45, n_46, n_48, n_57, n_59, n_60, n_73, n_76, n_97, n_99, n_100, n_106, n_109, n_120, n_122, n_136, n_160, n_176, n_200, n_255, n_800, n_1000, n_1001, n_1002, n_1003, n_1006, n_1012, n_1018, n_1019, n_1020, n_1100, n_1140, n_4800, n_4920, n_5940, n_6740, n_20220, q_kI, q_lI, q_nI, q_rI, q_iI, q_jI, q_dI, q_kJ, q_lJ, q_nJ, q_rJ, q_iJ, q_jJ, q_dJ, q_kC, q_lC, q_nC, q_rC, q_jC, q_dC, q_kF, q_lF, q_nF, q_rF, q_jF, q_dF, q_us, q_un, q_ua, F_X3_printTotalLine, s.k0, s.r0, s.k1, s.b4, s.k10, s.r7, s.k26, hh, e1, e2], ?_, (f1.trans f2).mono (fun a ha => ⟨by have := ha.1; omega, by have := ha.2; omega⟩)⟩
    rw [if_pos hx]; exact mf
  · have hh := x6_hasNo (v := l) s.st4 (hr.n4 w) (by omega) (show 0 < 5 by decide) (by omega) hw2 (fun k k1 k2 => hx ⟨k, k1, (hw k k1).symm.trans k2⟩)
    refine ⟨μ, by simp (disch := first | assumption | omega) only [q_bl, q_baT, q_bi, q_ba, q_pr, q_ob, q_iT, q_iN, q_it, q_if, q_of, nI_add, pk_mul, pk_sub, nI_leI, nI_ltI, nI_eq, nI_clamp, nI_lt0, nI_eqm, m1_eq, true_or, or_true, not_false_eq_true, m1_lt, m1_nlt, m1_le, m1_nle, b01, b011, q_em, q_m1, n_0, n_1, n_2, n_3, n_4, n_5, n_6, n_7, n_8, n_9, n_10, n_11, n_12, n_14, n_15, n_16, n_20, n_24, n_25, n_32, n_36, n_40, n_41, n_42, n_43, n_45, n_46, n_48, n_57, n_59, n_60, n_73, n_76, n_97, n_99, n_100, n_106, n_109, n_120, n_122, n_136, n_160, n_176, n_200, n_255, n_800, n_1000, n_1001, n_1002, n_1003, n_1006, n_1012, n_1018, n_1019, n_1020, n_1100, n_1140, n_4800, n_4920, n_5940, n_6740, n_20220, q_kI, q_lI, q_nI, q_rI, q_iI, q_jI, q_dI, q_kJ, q_lJ, q_nJ, q_rJ, q_iJ, q_jJ, q_dJ, q_kC, q_lC, q_nC, q_rC, q_jC, q_dC, q_kF, q_lF, q_nF, q_rF, q_jF, q_dF, q_us, q_un, q_ua, F_X3_printTotalLine, s.k0, s.r0, s.k1, s.b4, s.k10, hh], ?_, Fx.same⟩
    rw [if_neg hx]; exact ⟨s, hr, w, m.up (by omega)⟩
-- detail lines
theorem l_df {r nn card to k2 : Nat} {A : SA} {lv : Int32} {k24 : Nat → Int32 → Int32 → Mem → Option Mem} (hnn : nn < 2 ^ 30) (hc : card < nt (A 8)) (ht : to ≤ 20) : ∀ (m n c pos : Nat) (ln : SA) (μ : Mem), m < n → c + m = to + 1 → 1 ≤ c → 1 ≤ pos → pos + m < 2 ^ 20 → LQ μ r A → LnP (gI μ) r A nn lv ln →
    ∃ μ', L_X3_printDetailLine_93 k24 n r (nI card) (nI k2) (nI pos) (nI to) (nI c) μ = k24 r (nI card) (nI (k2 + 1)) μ' ∧ LnP (gI μ') r A nn lv (sp_df A card c m pos ln) ∧ Fx (PR r) μ μ' := by
  intro m
  induction m with
  | zero =>
    intro n c pos ln μ hn he h1 hp1 hp2 q h
    obtain ⟨n, rfl⟩ : ∃ k, n = k + 1 := ⟨n - 1, by omega⟩
    exact ⟨μ, by simp (disch := first | assumption | omega) only [q_bl, q_baT, q_bi, q_ba, q_pr, q_ob, q_iT, q_iN, q_it, q_if, q_of, nI_add, pk_mul, pk_sub, nI_leI, nI_ltI, nI_eq, nI_clamp, nI_lt0, nI_eqm, m1_eq, true_or, or_true, not_false_eq_true, m1_lt, m1_nlt, m1_le, m1_nle, b01, b011, q_em, q_m1, n_0, n_1, n_2, n_3, n_4, n_5, n_6, n_7, n_8, n_9, n_10, n_11, n_12, n_14, n_15, n_16, n_20, n_24, n_25, n_32, n_36, n_40, n_41, n_42, n_43, n_45, n_46, n_48, n_57, n_59, n_60, n_73, n_76, n_97, n_99, n_100, n_106, n_109, n_120, n_122, n_136, n_160, n_176, n_200, n_255, n_800, n_1000, n_1001, n_1002, n_1003, n_1006, n_1012, n_1018, n_1019, n_1020, n_1100, n_1140, n_4800, n_4920, n_5940, n_6740, n_20220, q_kI, q_lI, q_nI, q_rI, q_iI, q_jI, q_dI, q_kJ, q_lJ, q_nJ, q_rJ, q_iJ, q_jJ, q_dJ, q_kC, q_lC, q_nC, q_rC, q_jC, q_dC, q_kF, q_lF, q_nF, q_rF, q_jF, q_dF, q_us, q_un, q_ua, L_X3_printDetailLine_93, B_X3_printDetailLine_93], h, Fx.same⟩
  | succ m ih =>
    intro n c pos ln μ hn he h1 hp1 hp2 q h
    obtain ⟨n, rfl⟩ : ∃ k, n = k + 1 := ⟨n - 1, by omega⟩
    have q' := q
    obtain ⟨s, hr, hN, w⟩ := q'
    have c8 := w.c8.2
    have hk := hr.code s w hc h1 (show c ≤ 20 by omega)
    obtain ⟨μ1, q1, q2, q3⟩ := LnP.put (k := pos) (v := pc (A (200 + 20 * card + c - 1))) s h hnn hp1 (by omega)
    obtain ⟨μ2, p1, p2, p3⟩ := ih n (c + 1) (pos + 1) _ μ1 (by omega) (by omega) (by omega) (by omega) (by omega) (q.fx q3) q2
    refine ⟨μ2, ?_, p2, q3.trans p3⟩
    rcases (w.lc hc h1 (show c ≤ 20 by omega)).dig with ⟨d1, d2, d3, d4⟩ | ⟨d1, d2, d3, d4, d5⟩
    · rw [d4] at q1
      simp (disch := first | assumption | omega) only [q_bl, q_baT, q_bi, q_ba, q_pr, q_ob, q_iT, q_iN, q_it, q_if, q_of, nI_add, pk_mul, pk_sub, nI_leI, nI_ltI, nI_eq, nI_clamp, nI_lt0, nI_eqm, m1_eq, true_or, or_true, not_false_eq_true, m1_lt, m1_nlt, m1_le, m1_nle, b01, b011, q_em, q_m1, n_0, n_1, n_2, n_3, n_4, n_5, n_6, n_7, n_8, n_9, n_10, n_11, n_12, n_14, n_15, n_16, n_20, n_24, n_25, n_32, n_36, n_40, n_41, n_42, n_43, n_45, n_46, n_48, n_57, n_59, n_60, n_73, n_76, n_97, n_99, n_100, n_106, n_109, n_120, n_122, n_136, n_160, n_176, n_200, n_255, n_800, n_1000, n_1001, n_1002, n_1003, n_1006, n_1012, n_1018, n_1019, n_1020, n_1100, n_1140, n_4800, n_4920, n_5940, n_6740, n_20220, q_kI, q_lI, q_nI, q_rI, q_iI, q_jI, q_dI, q_kJ, q_lJ, q_nJ, q_rJ, q_iJ, q_jJ, q_dJ, q_kC, q_lC, q_nC, q_rC, q_jC, q_dC, q_kF, q_lF, q_nF, q_rF, q_jF, q_dF, q_us, q_un, q_ua, L_X3_printDetailLine_93, B_X3_printDetailLine_93, B_X3_printDetailLine_137, s.k0, s.r1, s.k19, s.r7, s.k26, hk, x2_digitOf, d1, q1, p1]
    · rw [d5] at q1
      simp (disch := first | assumption | omega) only [q_bl, q_baT, q_bi, q_ba, q_pr, q_ob, q_iT, q_iN, q_it, q_if, q_of, nI_add, pk_mul, pk_sub, nI_leI, nI_ltI, nI_eq, nI_clamp, nI_lt0, nI_eqm, m1_eq, true_or, or_true, not_false_eq_true, m1_lt, m1_nlt, m1_le, m1_nle, b01, b011, q_em, q_m1, n_0, n_1, n_2, n_3, n_4, n_5, n_6, n_7, n_8, n_9, n_10, n_11, n_12, n_14, n_15, n_16, n_20, n_24, n_25, n_32, n_36, n_40, n_41, n_42, n_43, n_45, n_46, n_48, n_57, n_59, n_60, n_73, n_76, n_97, n_99, n_100, n_106, n_109, n_120, n_122, n_136, n_160, n_176, n_200, n_255, n_800, n_1000, n_1001, n_1002, n_1003, n_1006, n_1012, n_1018, n_1019, n_1020, n_1100, n_1140, n_4800, n_4920, n_5940, n_6740, n_20220, q_kI, q_lI, q_nI, q_rI, q_iI, q_jI, q_dI, q_kJ, q_lJ, q_nJ, q_rJ, q_iJ, q_jJ, q_dJ, q_kC, q_lC, q_nC, q_rC, q_jC, q_dC, q_kF, q_lF, q_nF, q_rF, q_jF, q_dF, q_us, q_un, q_ua, L_X3_printDetailLine_93, B_X3_printDetailLine_93, B_X3_printDetailLine_137, s.k0, s.r1, s.k19, s.r7, s.k26, hk, x2_digitOf, d1, q1, p1]
theorem l_dls {r nn card : Nat} {A : SA} {lv : Int32} (hnn : nn < 2 ^ 30) (hc : card < nt (A 8)) : ∀ (m n k : Nat) (ln : SA) (μ : Mem), m < n → k + m = nt (A 3) → LQ μ r A → LnP (gI μ) r A nn lv ln →
    ∃ μ', L_X3_printDetailLine_24 n r (nI card) (nI k) μ = some μ' ∧ LnP (gI μ') r A nn lv (sp_dls A card k m ln) ∧ Fx (PR r) μ μ' := by
  intro m
  induction m with
  | zero =>
    intro n k ln μ hn he q h
    obtain ⟨n, rfl⟩ : ∃ k, n = k + 1 := ⟨n - 1, by omega⟩
    obtain ⟨s, hr, hN, w⟩ := q
    have c3 := w.c3.2
    exact ⟨μ, by simp (disch := first | assumption | omega) only [q_bl, q_baT, q_bi, q_ba, q_pr, q_ob, q_iT, q_iN, q_it, q_if, q_of, nI_add, pk_mul, pk_sub, nI_leI, nI_ltI, nI_eq, nI_clamp, nI_lt0, nI_eqm, m1_eq, true_or, or_true, not_false_eq_true, m1_lt, m1_nlt, m1_le, m1_nle, b01, b011, q_em, q_m1, n_0, n_1, n_2, n_3, n_4, n_5, n_6, n_7, n_8, n_9, n_10, n_11, n_12, n_14, n_15, n_16, n_20, n_24, n_25, n_32, n_36, n_40, n_41, n_42, n_43, n_45, n_46, n_48, n_57, n_59, n_60, n_73, n_76, n_97, n_99, n_100, n_106, n_109, n_120, n_122, n_136, n_160, n_176, n_200, n_255, n_800, n_1000, n_1001, n_1002, n_1003, n_1006, n_1012, n_1018, n_1019, n_1020, n_1100, n_1140, n_4800, n_4920, n_5940, n_6740, n_20220, q_kI, q_lI, q_nI, q_rI, q_iI, q_jI, q_dI, q_kJ, q_lJ, q_nJ, q_rJ, q_iJ, q_jJ, q_dJ, q_kC, q_lC, q_nC, q_rC, q_jC, q_dC, q_kF, q_lF, q_nF, q_rF, q_jF, q_dF, q_us, q_un, q_ua, L_X3_printDetailLine_24, B_X3_printDetailLine_24, s.k0, s.r0, s.k1, s.b3, s.k8, hr.n3 w], h, Fx.same⟩
  | succ m ih =>
    intro n k ln μ hn he q h
    obtain ⟨n, rfl⟩ : ∃ k, n = k + 1 := ⟨n - 1, by omega⟩
    have q' := q
    obtain ⟨s, hr, hN, w⟩ := q'
    have c3 := w.c3.2
    have c0 := w.c0.2
    have hk : k < nt (A 3) := by omega
    have c := w.lst hk
    have a0 := x6_at (p := 0) s.st3 (hr.n3 w) (by omega) hk (by decide)
    have a1 := x6_at (p := 1) s.st3 (hr.n3 w) (by omega) hk (by decide)
    rw [show r + 8 + 1 = r + 9 from rfl, hr.1.2.2.2.1.2 k 0 hk (by decide), show 76 + 2 * k + 0 = 76 + 2 * k from rfl, c.1] at a0
    rw [show r + 8 + 1 = r + 9 from rfl, hr.1.2.2.2.1.2 k 1 hk (by decide), c.2.1] at a1
    have hf := c.2.2.1
    have q0 := w.fld hf
    have b0 := x6_at (p := 0) s.st0 (hr.n0 w) (by omega) hf (by decide)
    have b1 := x6_at (p := 1) s.st0 (hr.n0 w) (by omega) hf (by decide)
    rw [show r + 2 + 1 = r + 3 from rfl, (hr.fld w hf).1] at b0
    rw [show r + 2 + 1 = r + 3 from rfl, (hr.fld w hf).2] at b1
    obtain ⟨μ1, e1, p1, f1⟩ := l_df (k2 := k) (k24 := L_X3_printDetailLine_24 n) hnn hc q0.2.2.2.2.1 (tr A (nt (A (76 + 2 * k))) + 1 - fr A (nt (A (76 + 2 * k)))) FU (fr A (nt (A (76 + 2 * k)))) (nt (A (76 + 2 * k + 1))) ln μ (FU_gt (by omega)) (by omega) (by omega) (by omega) (by omega) q h
    obtain ⟨μ2, e2, p2, f2⟩ := ih n (k + 1) _ μ1 (by omega) (by omega) (q.fx f1) p1
    exact ⟨μ2, by simp (disch := first | assumption | omega) only [q_bl, q_baT, q_bi, q_ba, q_pr, q_ob, q_iT, q_iN, q_it, q_if, q_of, nI_add, pk_mul, pk_sub, nI_leI, nI_ltI, nI_eq, nI_clamp, nI_lt0, nI_eqm, m1_eq, true_or, or_true, not_false_eq_true, m1_lt, m1_nlt, m1_le, m1_nle, b01, b011, q_em, q_m1, n_0, n_1, n_2, n_3, n_4, n_5, n_6, n_7, n_8, n_9, n_10, n_11, n_12, n_14, n_15, n_16, n_20, n_24, n_25, n_32, n_36, n_40, n_41, n_42, n_43, n_45, n_46, n_48, n_57, n_59, n_60, n_73, n_76, n_97, n_99, n_100, n_106, n_109, n_120, n_122, n_136, n_160, n_176, n_200, n_255, n_800, n_1000, n_1001, n_1002, n_1003, n_1006, n_1012, n_1018, n_1019, n_1020, n_1100, n_1140, n_4800, n_4920, n_5940, n_6740, n_20220, q_kI, q_lI, q_nI, q_rI, q_iI, q_jI, q_dI, q_kJ, q_lJ, q_nJ, q_rJ, q_iJ, q_jJ, q_dJ, q_kC, q_lC, q_nC, q_rC, q_jC, q_dC, q_kF, q_lF, q_nF, q_rF, q_jF, q_dF, q_us, q_un, q_ua, L_X3_printDetailLine_24, B_X3_printDetailLine_24, s.k0, s.r0, s.k1, s.b3, s.k8, s.b0, s.k2, hr.n3 w, a0, a1, b0, b1, e1, e2], p2, f1.trans f2⟩
theorem x3_det {μ : Mem} {r b card : Nat} {A : SA} (h : MO μ r A b) (hb : b < 1000000) (hc : card < nt (A 8)) : ∃ μ', F_X3_printDetailLine r (nI card) μ = some μ' ∧ MO μ' r (sp_det A card) (b + 1) ∧ Fx (MR r) μ μ' := by
  have h' := h
  obtain ⟨s, hr, w, m⟩ := h'
  have c3 := w.c3.2
  unfold sp_det
  by_cases hx : nt (A 3) = 0
  · have n3 := hr.n3 w
    rw [hx] at n3
    refine ⟨μ, by simp (disch := first | assumption | omega) only [q_bl, q_baT, q_bi, q_ba, q_pr, q_ob, q_iT, q_iN, q_it, q_if, q_of, nI_add, pk_mul, pk_sub, nI_leI, nI_ltI, nI_eq, nI_clamp, nI_lt0, nI_eqm, m1_eq, true_or, or_true, not_false_eq_true, m1_lt, m1_nlt, m1_le, m1_nle, b01, b011, q_em, q_m1, n_0, n_1, n_2, n_3, n_4, n_5, n_6, n_7, n_8, n_9, n_10, n_11, n_12, n_14, n_15, n_16, n_20, n_24, n_25, n_32, n_36, n_40, n_41, n_42, n_43, n_45, n_46, n_48, n_57, n_59, n_60, n_73, n_76, n_97, n_99, n_100, n_106, n_109, n_120, n_122, n_136, n_160, n_176, n_200, n_255, n_800, n_1000, n_1001, n_1002, n_1003, n_1006, n_1012, n_1018, n_1019, n_1020, n_1100, n_1140, n_4800, n_4920, n_5940, n_6740, n_20220, q_kI, q_lI, q_nI, q_rI, q_iI, q_jI, q_dI, q_kJ, q_lJ, q_nJ, q_rJ, q_iJ, q_jJ, q_dJ, q_kC, q_lC, q_nC, q_rC, q_jC, q_dC, q_kF, q_lF, q_nF, q_rF, q_jF, q_dF, q_us, q_un, q_ua, F_X3_printDetailLine, s.k0, s.r0, s.k1, s.b3, s.k8, n3], ?_, Fx.same⟩
    rw [if_pos hx]; exact ⟨s, hr, w, m.up (by omega)⟩
  · obtain ⟨μ1, e1, p1, f1⟩ := LnP.start (lv := nI 0) h hb
    have q := m.2.2.2.2.2.1.ex (by omega)
    obtain ⟨μ2, e2, p2, f2⟩ := l_dls (by omega) hc (nt (A 3)) FU 0 bln μ1 (FU_gt (by omega)) (by omega) (h.lq.fx f1) p1
    have mf := LnP.fin h hb (f1.trans f2) p2
    refine ⟨μ2, by simp (disch := first | assumption | omega) only [q_bl, q_baT, q_bi, q_ba, q_pr, q_ob, q_iT, q_iN, q_it, q_if, q_of, nI_add, pk_mul, pk_sub, nI_leI, nI_ltI, nI_eq, nI_clamp, nI_lt0, nI_eqm, m1_eq, true_or, or_true, not_false_eq_true, m1_lt, m1_nlt, m1_le, m1_nle, b01, b011, q_em, q_m1, n_0, n_1, n_2, n_3, n_4, n_5, n_6, n_7, n_8, n_9, n_10, n_11, n_12, n_14, n_15, n_16, n_20, n_24, n_25, n_32, n_36, n_40, n_41, n_42, n_43, n_45, n_46, n_48, n_57, n_59, n_60, n_73, n_76, n_97, n_99, n_100, n_106, n_109, n_120, n_122, n_136, n_160, n_176, n_200, n_255, n_800, n_1000, n_1001, n_1002, n_1003, n_1006, n_1012, n_1018, n_1019, n_1020, n_1100, n_1140, n_4800, n_4920, n_5940, n_6740, n_20220, q_kI, q_lI, q_nI, q_rI, q_iI, q_jI, q_dI, q_kJ, q_lJ, q_nJ, q_rJ, q_iJ, q_jJ, q_dJ, q_kC, q_lC, q_nC, q_rC, q_jC, q_dC, q_kF, q_lF, q_nF, q_rF, q_jF, q_dF, q_us, q_un, q_ua, F_X3_printDetailLine, s.k0, s.r0, s.k1, s.b3, s.k8, s.r7, s.k26, hr.n3 w, e1, e2], ?_, (f1.trans f2).mono (fun a ha => ⟨by have := ha.1; omega, by have := ha.2; omega⟩)⟩
    rw [if_neg hx]; exact mf

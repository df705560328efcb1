/-! LAYER 3: the class's machine: rolling, clearing, selecting, counting -/
theorem x3_numIn {μ : Mem} {r b k : Nat} {A : SA} (h : MO μ r A b) (hk : k < 6) : F_X3_numberIn r (nI k) μ = some (A (1006 + k)) := by
  obtain ⟨s, hr, w, m⟩ := h
  have hn : gI μ (r + 21) k = A (1006 + k) := hr.2.2.1 k hk
  simp (disch := first | assumption | omega) only [q_bl, q_baT, q_bi, q_ba, q_pr, q_ob, q_iT, q_iN, q_it, q_if, q_of, nI_add, pk_mul, pk_sub, nI_leI, nI_ltI, nI_eq, nI_clamp, nI_lt0, nI_eqm, m1_eq, true_or, or_true, not_false_eq_true, m1_lt, m1_nlt, m1_le, m1_nle, b01, b011, q_em, q_m1, n_0, n_1, n_2, n_3, n_4, n_5, n_6, n_7, n_8, n_9, n_10, n_11, n_12, n_14, n_15, n_16, n_20, n_24, n_25, n_32, n_36, n_40, n_41, n_42, n_43, n_45, n_46, n_48, n_57, n_59, n_60, n_73, n_76, n_97, n_99, n_100, n_106, n_109, n_120, n_122, n_136, n_160, n_176, n_200, n_255, n_800, n_1000, n_1001, n_1002, n_1003, n_1006, n_1012, n_1018, n_1019, n_1020, n_1100, n_1140, n_4800, n_4920, n_5940, n_6740, n_20220, q_kI, q_lI, q_nI, q_rI, q_iI, q_jI, q_dI, q_kJ, q_lJ, q_nJ, q_rJ, q_iJ, q_jJ, q_dJ, q_kC, q_lC, q_nC, q_rC, q_jC, q_dC, q_kF, q_lF, q_nF, q_rF, q_jF, q_dF, q_us, q_un, q_ua, F_X3_numberIn, s.k0, s.r2, s.k21, s.l21, hn]
theorem l_roll {r l : Nat} (hl : l ≤ 3) : ∀ (m n k b : Nat) (μ : Mem) (A : SA), m < n → MO μ r A b → k + m = nt (A 5) → ∃ μ', L_X3_rollCounters_10 n r (nI l) (r + 12) (nI k) μ = some μ' ∧ MO μ' r (sp_roll l k m A) (b + m) ∧ Fx (MR r) μ μ' := by
  intro m
  induction m with
  | zero =>
    intro n k b μ A hn h he
    obtain ⟨n, rfl⟩ : ∃ k, n = k + 1 := ⟨n - 1, by omega⟩
    obtain ⟨s, hr, w, m⟩ := h
    have c5 := w.c5.2
    exact ⟨μ, by simp (disch := first | assumption | omega) only [q_bl, q_baT, q_bi, q_ba, q_pr, q_ob, q_iT, q_iN, q_it, q_if, q_of, nI_add, pk_mul, pk_sub, nI_leI, nI_ltI, nI_eq, nI_clamp, nI_lt0, nI_eqm, m1_eq, true_or, or_true, not_false_eq_true, m1_lt, m1_nlt, m1_le, m1_nle, b01, b011, q_em, q_m1, n_0, n_1, n_2, n_3, n_4, n_5, n_6, n_7, n_8, n_9, n_10, n_11, n_12, n_14, n_15, n_16, n_20, n_24, n_25, n_32, n_36, n_40, n_41, n_42, n_43, n_45, n_46, n_48, n_57, n_59, n_60, n_73, n_76, n_97, n_99, n_100, n_106, n_109, n_120, n_122, n_136, n_160, n_176, n_200, n_255, n_800, n_1000, n_1001, n_1002, n_1003, n_1006, n_1012, n_1018, n_1019, n_1020, n_1100, n_1140, n_4800, n_4920, n_5940, n_6740, n_20220, q_kI, q_lI, q_nI, q_rI, q_iI, q_jI, q_dI, q_kJ, q_lJ, q_nJ, q_rJ, q_iJ, q_jJ, q_dJ, q_kC, q_lC, q_nC, q_rC, q_jC, q_dC, q_kF, q_lF, q_nF, q_rF, q_jF, q_dF, q_us, q_un, q_ua, L_X3_rollCounters_10, B_X3_rollCounters_10, s.k12, hr.n5 w], ⟨s, hr, w, m⟩, Fx.same⟩
  | succ m ih =>
    intro n k b μ A hn h he
    obtain ⟨n, rfl⟩ : ∃ k, n = k + 1 := ⟨n - 1, by omega⟩
    have h' := h
    obtain ⟨s, hr, w, wm⟩ := h'
    have c5 := w.c5.2
    have c2 := w.c2.2
    have hk : k < nt (A 5) := by omega
    have c := w.rol hk
    have a0 := x6_at (p := 0) s.st5 (hr.n5 w) (by omega) hk (by decide)
    have a1 := x6_at (p := 1) s.st5 (hr.n5 w) (by omega) hk (by decide)
    have a2 := x6_at (p := 2) s.st5 (hr.n5 w) (by omega) hk (by decide)
    rw [show r + 12 + 1 = r + 13 from rfl, hr.1.2.2.2.2.2.1.2 k 0 hk (by decide), show 136 + 3 * k + 0 = 136 + 3 * k from rfl, c.1] at a0
    rw [show r + 12 + 1 = r + 13 from rfl, hr.1.2.2.2.2.2.1.2 k 1 hk (by decide), c.2.1] at a1
    rw [show r + 12 + 1 = r + 13 from rfl, hr.1.2.2.2.2.2.1.2 k 2 hk (by decide), c.2.2.1] at a2
    by_cases hx : nt (A (136 + 3 * k)) = l
    · have hn1 := x3_numIn h (show nt (A (136 + 3 * k + 1)) < 6 by omega)
      obtain ⟨μ1, e1, m1, f1⟩ := x3_addTo h c.2.2.2.2.2 (wm.2.2.2.1 (nt (A (136 + 3 * k + 1))) (by omega))
      obtain ⟨μ2, e2, m2, f2⟩ := ih n (k + 1) (b + 1) μ1 _ (by omega) m1 (by rw [sp_add_at (by omega) (by omega)]; omega)
      refine ⟨μ2, ?_, ?_, f1.trans f2⟩
      · simp (disch := first | assumption | omega) only [q_bl, q_baT, q_bi, q_ba, q_pr, q_ob, q_iT, q_iN, q_it, q_if, q_of, nI_add, pk_mul, pk_sub, nI_leI, nI_ltI, nI_eq, nI_clamp, nI_lt0, nI_eqm, m1_eq, true_or, or_true, not_false_eq_true, m1_lt, m1_nlt, m1_le, m1_nle, b01, b011, q_em, q_m1, n_0, n_1, n_2, n_3, n_4, n_5, n_6, n_7, n_8, n_9, n_10, n_11, n_12, n_14, n_15, n_16, n_20, n_24, n_25, n_32, n_36, n_40, n_41, n_42, n_43, n_45, n_46, n_48, n_57, n_59, n_60, n_73, n_76, n_97, n_99, n_100, n_106, n_109, n_120, n_122, n_136, n_160, n_176, n_200, n_255, n_800, n_1000, n_1001, n_1002, n_1003, n_1006, n_1012, n_1018, n_1019, n_1020, n_1100, n_1140, n_4800, n_4920, n_5940, n_6740, n_20220, q_kI, q_lI, q_nI, q_rI, q_iI, q_jI, q_dI, q_kJ, q_lJ, q_nJ, q_rJ, q_iJ, q_jJ, q_dJ, q_kC, q_lC, q_nC, q_rC, q_jC, q_dC, q_kF, q_lF, q_nF, q_rF, q_jF, q_dF, q_us, q_un, q_ua, L_X3_rollCounters_10, B_X3_rollCounters_10, B_X3_rollCounters_48, s.k12, s.k0, hr.n5 w, a0, a1, a2, hn1, e1, e2]
      · have : A (136 + 3 * k) = nI l := by rw [c.1, hx]
        unfold sp_roll
        rw [if_pos this, show b + (m + 1) = b + 1 + m from by omega]
        exact m2
    · obtain ⟨μ2, e2, m2, f2⟩ := ih n (k + 1) b μ A (by omega) h (by omega)
      refine ⟨μ2, ?_, ?_, f2⟩
      · simp (disch := first | assumption | omega) only [q_bl, q_baT, q_bi, q_ba, q_pr, q_ob, q_iT, q_iN, q_it, q_if, q_of, nI_add, pk_mul, pk_sub, nI_leI, nI_ltI, nI_eq, nI_clamp, nI_lt0, nI_eqm, m1_eq, true_or, or_true, not_false_eq_true, m1_lt, m1_nlt, m1_le, m1_nle, b01, b011, q_em, q_m1, n_0, n_1, n_2, n_3, n_4, n_5, n_6, n_7, n_8, n_9, n_10, n_11, n_12, n_14, n_15, n_16, n_20, n_24, n_25, n_32, n_36, n_40, n_41, n_42, n_43, n_45, n_46, n_48, n_57, n_59, n_60, n_73, n_76, n_97, n_99, n_100, n_106, n_109, n_120, n_122, n_136, n_160, n_176, n_200, n_255, n_800, n_1000, n_1001, n_1002, n_1003, n_1006, n_1012, n_1018, n_1019, n_1020, n_1100, n_1140, n_4800, n_4920, n_5940, n_6740, n_20220, q_kI, q_lI, q_nI, q_rI, q_iI, q_jI, q_dI, q_kJ, q_lJ, q_nJ, q_rJ, q_iJ, q_jJ, q_dJ, q_kC, q_lC, q_nC, q_rC, q_jC, q_dC, q_kF, q_lF, q_nF, q_rF, q_jF, q_dF, q_us, q_un, q_ua, L_X3_rollCounters_10, B_X3_rollCounters_10, B_X3_rollCounters_48, s.k12, s.k0, hr.n5 w, a0, e2]
      · have : ¬ A (136 + 3 * k) = nI l := by rw [c.1, nI_eq (by omega) (by omega)]; exact hx
        unfold sp_roll
        rw [if_neg this]
        exact ⟨m2.1, m2.2.1, m2.2.2.1, m2.2.2.2.up (by omega)⟩
theorem x3_roll {μ : Mem} {r b l : Nat} {A : SA} (h : MO μ r A b) (hl : l ≤ 3) : ∃ μ', F_X3_rollCounters r (nI l) μ = some μ' ∧ MO μ' r (sp_roll l 0 (nt (A 5)) A) (b + 8) ∧ Fx (MR r) μ μ' := by
  have c5 := h.2.2.1.c5.2
  obtain ⟨μ', e, m, f⟩ := l_roll hl (nt (A 5)) FU 0 b μ A (FU_gt (by omega)) h (by omega)
  have s := h.1
  exact ⟨μ', by simp (disch := first | assumption | omega) only [q_bl, q_baT, q_bi, q_ba, q_pr, q_ob, q_iT, q_iN, q_it, q_if, q_of, nI_add, pk_mul, pk_sub, nI_leI, nI_ltI, nI_eq, nI_clamp, nI_lt0, nI_eqm, m1_eq, true_or, or_true, not_false_eq_true, m1_lt, m1_nlt, m1_le, m1_nle, b01, b011, q_em, q_m1, n_0, n_1, n_2, n_3, n_4, n_5, n_6, n_7, n_8, n_9, n_10, n_11, n_12, n_14, n_15, n_16, n_20, n_24, n_25, n_32, n_36, n_40, n_41, n_42, n_43, n_45, n_46, n_48, n_57, n_59, n_60, n_73, n_76, n_97, n_99, n_100, n_106, n_109, n_120, n_122, n_136, n_160, n_176, n_200, n_255, n_800, n_1000, n_1001, n_1002, n_1003, n_1006, n_1012, n_1018, n_1019, n_1020, n_1100, n_1140, n_4800, n_4920, n_5940, n_6740, n_20220, q_kI, q_lI, q_nI, q_rI, q_iI, q_jI, q_dI, q_kJ, q_lJ, q_nJ, q_rJ, q_iJ, q_jJ, q_dJ, q_kC, q_lC, q_nC, q_rC, q_jC, q_dC, q_kF, q_lF, q_nF, q_rF, q_jF, q_dF, q_us, q_un, q_ua, F_X3_rollCounters, s.k0, s.r0, s.k1, s.b5, e], ⟨m.1, m.2.1, m.2.2.1, m.2.2.2.up (by omega)⟩, f⟩
/-- one number alone is set -/
theorem MO.num {μ : Mem} {r b k : Nat} {A : SA} {v : Int32} (h : MO μ r A b) (hk : k < 6) (hv : v.toInt.natAbs < 1000000000) : MO (stI μ (r + 21) k v) r (ua A (1006 + k) v) b := by
  obtain ⟨s, hr, w, m1, m2, m3, m4, m5, m6, m7, m8⟩ := h
  have e : ∀ i, ¬ i = 1006 + k → ua A (1006 + k) v i = A i := fun i hi => ua_n hi
  have eI : ∀ q, ¬ q = r + 21 → gI (stI μ (r + 21) k v) q = gI μ q := fun q hq => by rw [q_iI, q_ua hq]
  refine ⟨s.fx (P := MR r) (Fx.stI ⟨by omega, by omega⟩), ⟨hr.1.cg w (fun q _ _ => eI q (by omega)) (fun i hi => e i (by omega)), hr.2.1.cg w (eI _ (by omega)) (eI _ (by omega)) (fun i hi => e i (by omega)), fun j hj => ?_, hr.2.2.2.1.cg (eI _ (by omega)) (fun j _ => e _ (by omega)), hr.2.2.2.2.1.cg (eI _ (by omega)) (e _ (by omega)), hr.2.2.2.2.2.1.cg (eI _ (by omega)) (fun l _ _ => e _ (by omega)), hr.2.2.2.2.2.2.1.cg (eI _ (by omega)) (eI _ (by omega)) (eI _ (by omega)) (fun i _ _ _ => e i (by omega)), hr.2.2.2.2.2.2.2.1.cg (eI _ (by omega)) (eI _ (by omega)) (e _ (by omega)) (fun i _ _ => e i (by omega)), hr.2.2.2.2.2.2.2.2.cg (eI _ (by omega)) (e _ (by omega)) (e _ (by omega)) (e _ (by omega))⟩, w.cg (fun i hi => e i (by omega)), ?_⟩
  · rw [q_iI]
    by_cases hjk : j = k
    · subst hjk; rw [q_us, ua_s]
    · rw [q_un (by omega), e _ (by omega)]; exact hr.2.2.1 j hj
  · unfold WM
    rw [e 1000 (by omega), e 1001 (by omega), e 1002 (by omega), e 1 (by omega), e 8 (by omega), e 1018 (by omega), e 1019 (by omega)]
    refine ⟨m1, m2, m3, fun j hj => ?_, fun j hj => by rw [e _ (by omega)]; exact m5 j hj, m6, m7, fun i q a1 a2 a3 => by rw [e _ (by omega)]; exact m8 i q a1 a2 a3⟩
    by_cases hjk : j = k
    · subst hjk; rw [ua_s]; exact hv
    · rw [e _ (by omega)]; exact m4 j hj
theorem l_clr {r l : Nat} (hl : l ≤ 3) : ∀ (m n k b : Nat) (μ : Mem) (A : SA), m < n → MO μ r A b → k + m = nt (A 6) → ∃ μ', L_X3_clearCounters_2 n r (nI l) (nI k) μ = some μ' ∧ MO μ' r (sp_clear l k m A) b ∧ Fx (MR r) μ μ' := by
  intro m
  induction m with
  | zero =>
    intro n k b μ A hn h he
    obtain ⟨n, rfl⟩ : ∃ k, n = k + 1 := ⟨n - 1, by omega⟩
    obtain ⟨s, hr, w, m⟩ := h
    have c6 := w.c6.2
    exact ⟨μ, by simp (disch := first | assumption | omega) only [q_bl, q_baT, q_bi, q_ba, q_pr, q_ob, q_iT, q_iN, q_it, q_if, q_of, nI_add, pk_mul, pk_sub, nI_leI, nI_ltI, nI_eq, nI_clamp, nI_lt0, nI_eqm, m1_eq, true_or, or_true, not_false_eq_true, m1_lt, m1_nlt, m1_le, m1_nle, b01, b011, q_em, q_m1, n_0, n_1, n_2, n_3, n_4, n_5, n_6, n_7, n_8, n_9, n_10, n_11, n_12, n_14, n_15, n_16, n_20, n_24, n_25, n_32, n_36, n_40, n_41, n_42, n_43, n_45, n_46, n_48, n_57, n_59, n_60, n_73, n_76, n_97, n_99, n_100, n_106, n_109, n_120, n_122, n_136, n_160, n_176, n_200, n_255, n_800, n_1000, n_1001, n_1002, n_1003, n_1006, n_1012, n_1018, n_1019, n_1020, n_1100, n_1140, n_4800, n_4920, n_5940, n_6740, n_20220, q_kI, q_lI, q_nI, q_rI, q_iI, q_jI, q_dI, q_kJ, q_lJ, q_nJ, q_rJ, q_iJ, q_jJ, q_dJ, q_kC, q_lC, q_nC, q_rC, q_jC, q_dC, q_kF, q_lF, q_nF, q_rF, q_jF, q_dF, q_us, q_un, q_ua, L_X3_clearCounters_2, B_X3_clearCounters_2, s.k0, s.r0, s.k1, s.b6, s.k14, hr.n6 w], ⟨s, hr, w, m⟩, Fx.same⟩
  | succ m ih =>
    intro n k b μ A hn h he
    obtain ⟨n, rfl⟩ : ∃ k, n = k + 1 := ⟨n - 1, by omega⟩
    have h' := h
    obtain ⟨s, hr, w, wm⟩ := h'
    have c6 := w.c6.2
    have c2 := w.c2.2
    have hk : k < nt (A 6) := by omega
    have c := w.clr hk
    have a0 := x6_at (p := 0) s.st6 (hr.n6 w) (by omega) hk (by decide)
    have a1 := x6_at (p := 1) s.st6 (hr.n6 w) (by omega) hk (by decide)
    rw [show r + 14 + 1 = r + 15 from rfl, hr.1.2.2.2.2.2.2.1.2 k 0 hk (by decide), show 160 + 2 * k + 0 = 160 + 2 * k from rfl, c.1] at a0
    rw [show r + 14 + 1 = r + 15 from rfl, hr.1.2.2.2.2.2.2.1.2 k 1 hk (by decide), c.2.1] at a1
    by_cases hx : nt (A (160 + 2 * k)) = l
    · have m1 := MO.num (v := nI 0) h (show nt (A (160 + 2 * k + 1)) < 6 by omega) (by decide +kernel)
      obtain ⟨μ2, e2, m2, f2⟩ := ih n (k + 1) b _ _ (by omega) m1 (by rw [ua_n (by omega)]; omega)
      refine ⟨μ2, ?_, ?_, Fx.trans (Fx.stI ⟨by omega, by omega⟩) f2⟩
      · simp (disch := first | assumption | omega) only [q_bl, q_baT, q_bi, q_ba, q_pr, q_ob, q_iT, q_iN, q_it, q_if, q_of, nI_add, pk_mul, pk_sub, nI_leI, nI_ltI, nI_eq, nI_clamp, nI_lt0, nI_eqm, m1_eq, true_or, or_true, not_false_eq_true, m1_lt, m1_nlt, m1_le, m1_nle, b01, b011, q_em, q_m1, n_0, n_1, n_2, n_3, n_4, n_5, n_6, n_7, n_8, n_9, n_10, n_11, n_12, n_14, n_15, n_16, n_20, n_24, n_25, n_32, n_36, n_40, n_41, n_42, n_43, n_45, n_46, n_48, n_57, n_59, n_60, n_73, n_76, n_97, n_99, n_100, n_106, n_109, n_120, n_122, n_136, n_160, n_176, n_200, n_255, n_800, n_1000, n_1001, n_1002, n_1003, n_1006, n_1012, n_1018, n_1019, n_1020, n_1100, n_1140, n_4800, n_4920, n_5940, n_6740, n_20220, q_kI, q_lI, q_nI, q_rI, q_iI, q_jI, q_dI, q_kJ, q_lJ, q_nJ, q_rJ, q_iJ, q_jJ, q_dJ, q_kC, q_lC, q_nC, q_rC, q_jC, q_dC, q_kF, q_lF, q_nF, q_rF, q_jF, q_dF, q_us, q_un, q_ua, L_X3_clearCounters_2, B_X3_clearCounters_2, B_X3_clearCounters_50, B_X3_clearCounters_77, s.k0, s.r0, s.k1, s.b6, s.k14, s.r2, s.k21, s.l21, hr.n6 w, a0, a1, e2]
      · have : A (160 + 2 * k) = nI l := by rw [c.1, hx]
        unfold sp_clear
        rw [if_pos this]
        exact m2
    · obtain ⟨μ2, e2, m2, f2⟩ := ih n (k + 1) b μ A (by omega) h (by omega)
      refine ⟨μ2, ?_, ?_, f2⟩
      · simp (disch := first | assumption | omega) only [q_bl, q_baT, q_bi, q_ba, q_pr, q_ob, q_iT, q_iN, q_it, q_if, q_of, nI_add, pk_mul, pk_sub, nI_leI, nI_ltI, nI_eq, nI_clamp, nI_lt0, nI_eqm, m1_eq, true_or, or_true, not_false_eq_true, m1_lt, m1_nlt, m1_le, m1_nle, b01, b011, q_em, q_m1, n_0, n_1, n_2, n_3, n_4, n_5, n_6, n_7, n_8, n_9, n_10, n_11, n_12, n_14, n_15, n_16, n_20, n_24, n_25, n_32, n_36, n_40, n_41, n_42, n_43, n_45, n_46, n_48, n_57, n_59, n_60, n_73, n_76, n_97, n_99, n_100, n_106, n_109, n_120, n_122, n_136, n_160, n_176, n_200, n_255, n_800, n_1000, n_1001, n_1002, n_1003, n_1006, n_1012, n_1018, n_1019, n_1020, n_1100, n_1140, n_4800, n_4920, n_5940, n_6740, n_20220, q_kI, q_lI, q_nI, q_rI, q_iI, q_jI, q_dI, q_kJ, q_lJ, q_nJ, q_rJ, q_iJ, q_jJ, q_dJ, q_kC, q_lC, q_nC, q_rC, q_jC, q_dC, q_kF, q_lF, q_nF, q_rF, q_jF, q_dF, q_us, q_un, q_ua, L_X3_clearCounters_2, B_X3_clearCounters_2, B_X3_clearCounters_50, B_X3_clearCounters_77, s.k0, s.r0, s.k1, s.b6, s.k14, hr.n6 w, a0, a1, e2]
      · have : ¬ A (160 + 2 * k) = nI l := by rw [c.1, nI_eq (by omega) (by omega)]; exact hx
        unfold sp_clear
        rw [if_neg this]
        exact m2
theorem x3_clr {μ : Mem} {r b l : Nat} {A : SA} (h : MO μ r A b) (hl : l ≤ 3) : ∃ μ', F_X3_clearCounters r (nI l) μ = some μ' ∧ MO μ' r (sp_clear l 0 (nt (A 6)) A) b ∧ Fx (MR r) μ μ' := by
  have c6 := h.2.2.1.c6.2
  obtain ⟨μ', e, m, f⟩ := l_clr hl (nt (A 6)) FU 0 b μ A (FU_gt (by omega)) h (by omega)
  exact ⟨μ', by simp (disch := first | assumption | omega) only [q_bl, q_baT, q_bi, q_ba, q_pr, q_ob, q_iT, q_iN, q_it, q_if, q_of, nI_add, pk_mul, pk_sub, nI_leI, nI_ltI, nI_eq, nI_clamp, nI_lt0, nI_eqm, m1_eq, true_or, or_true, not_false_eq_true, m1_lt, m1_nlt, m1_le, m1_nle, b01, b011, q_em, q_m1, n_0, n_1, n_2, n_3, n_4, n_5, n_6, n_7, n_8, n_9, n_10, n_11, n_12, n_14, n_15, n_16, n_20, n_24, n_25, n_32, n_36, n_40, n_41, n_42, n_43, n_45, n_46, n_48, n_57, n_59, n_60, n_73, n_76, n_97, n_99, n_100, n_106, n_109, n_120, n_122, n_136, n_160, n_176, n_200, n_255, n_800, n_1000, n_1001, n_1002, n_1003, n_1006, n_1012, n_1018, n_1019, n_1020, n_1100, n_1140, n_4800, n_4920, n_5940, n_6740, n_20220, q_kI, q_lI, q_nI, q_rI, q_iI, q_jI, q_dI, q_kJ, q_lJ, q_nJ, q_rJ, q_iJ, q_jJ, q_dJ, q_kC, q_lC, q_nC, q_rC, q_jC, q_dC, q_kF, q_lF, q_nF, q_rF, q_jF, q_dF, q_us, q_un, q_ua, F_X3_clearCounters, e], m, f⟩
-- selectors
theorem q_01 {c : Prop} {d : Decidable c} : (@ite _ c d (nI 1) (nI 0) = nI 0 ∨ @ite _ c d (nI 1) (nI 0) = nI 1) := by
  split
  · exact Or.inr rfl
  · exact Or.inl rfl
theorem hp_m1 {p : Nat} : hp (-nI 1) p = false := by
  unfold hp
  by_cases h : p = 10
  · rw [if_pos h]; decide +kernel
  · rw [if_neg h, if_pos rfl]
/-- the class's hasPunch over a legal code -/
theorem x3_hasP {μ : Mem} {r sel : Nat} {A : SA} {ci : Int32} {c : Int32} (s : SM μ r) (hr : RBD (gI μ) r A) (w : WB A) (hs : sel < nt (A 1)) (hc : F_X2_codeAt (r + 19) ci (nI (nt (A (25 + 3 * sel)))) μ = some c) (hl : lc c) : F_X3_hasPunch r ci (nI sel) μ = some (if hp c (nt (A (25 + 3 * sel + 1))) = true then nI 1 else nI 0) := by
  have c1 := w.c1.2
  have q := w.sel hs
  have a0 := x6_at (p := 0) s.st1 (hr.n1 w) (by omega) hs (by decide)
  have a1 := x6_at (p := 1) s.st1 (hr.n1 w) (by omega) hs (by decide)
  rw [show r + 4 + 1 = r + 5 from rfl, hr.1.2.1.2 sel 0 hs (by decide), show 25 + 3 * sel + 0 = 25 + 3 * sel from rfl, q.1] at a0
  rw [show r + 4 + 1 = r + 5 from rfl, hr.1.2.1.2 sel 1 hs (by decide), q.2.1] at a1
  by_cases h10 : nt (A (25 + 3 * sel + 1)) = 10
  · by_cases hx : nI 99 ≤ c
    · have hy : ¬ c < nI 99 := le_nlt ▸ hx
      simp (disch := first | assumption | omega) only [q_bl, q_baT, q_bi, q_ba, q_pr, q_ob, q_iT, q_iN, q_it, q_if, q_of, nI_add, pk_mul, pk_sub, nI_leI, nI_ltI, nI_eq, nI_clamp, nI_lt0, nI_eqm, m1_eq, true_or, or_true, not_false_eq_true, m1_lt, m1_nlt, m1_le, m1_nle, b01, b011, q_em, q_m1, n_0, n_1, n_2, n_3, n_4, n_5, n_6, n_7, n_8, n_9, n_10, n_11, n_12, n_14, n_15, n_16, n_20, n_24, n_25, n_32, n_36, n_40, n_41, n_42, n_43, n_45, n_46, n_48, n_57, n_59, n_60, n_73, n_76, n_97, n_99, n_100, n_106, n_109, n_120, n_122, n_136, n_160, n_176, n_200, n_255, n_800, n_1000, n_1001, n_1002, n_1003, n_1006, n_1012, n_1018, n_1019, n_1020, n_1100, n_1140, n_4800, n_4920, n_5940, n_6740, n_20220, q_kI, q_lI, q_nI, q_rI, q_iI, q_jI, q_dI, q_kJ, q_lJ, q_nJ, q_rJ, q_iJ, q_jJ, q_dJ, q_kC, q_lC, q_nC, q_rC, q_jC, q_dC, q_kF, q_lF, q_nF, q_rF, q_jF, q_dF, q_us, q_un, q_ua, F_X3_hasPunch, s.k0, s.r0, s.k1, s.b1, s.k4, s.r1, s.k19, a0, a1, hc, x2_hasX, hp, h10, decide_eq_true_eq]
    · have hy : c < nI 99 := Decidable.of_not_not (fun e => hx (le_nlt ▸ e))
      simp (disch := first | assumption | omega) only [q_bl, q_baT, q_bi, q_ba, q_pr, q_ob, q_iT, q_iN, q_it, q_if, q_of, nI_add, pk_mul, pk_sub, nI_leI, nI_ltI, nI_eq, nI_clamp, nI_lt0, nI_eqm, m1_eq, true_or, or_true, not_false_eq_true, m1_lt, m1_nlt, m1_le, m1_nle, b01, b011, q_em, q_m1, n_0, n_1, n_2, n_3, n_4, n_5, n_6, n_7, n_8, n_9, n_10, n_11, n_12, n_14, n_15, n_16, n_20, n_24, n_25, n_32, n_36, n_40, n_41, n_42, n_43, n_45, n_46, n_48, n_57, n_59, n_60, n_73, n_76, n_97, n_99, n_100, n_106, n_109, n_120, n_122, n_136, n_160, n_176, n_200, n_255, n_800, n_1000, n_1001, n_1002, n_1003, n_1006, n_1012, n_1018, n_1019, n_1020, n_1100, n_1140, n_4800, n_4920, n_5940, n_6740, n_20220, q_kI, q_lI, q_nI, q_rI, q_iI, q_jI, q_dI, q_kJ, q_lJ, q_nJ, q_rJ, q_iJ, q_jJ, q_dJ, q_kC, q_lC, q_nC, q_rC, q_jC, q_dC, q_kF, q_lF, q_nF, q_rF, q_jF, q_dF, q_us, q_un, q_ua, F_X3_hasPunch, s.k0, s.r0, s.k1, s.b1, s.k4, s.r1, s.k19, a0, a1, hc, x2_hasX, hp, h10, decide_eq_true_eq]
  · rcases hl.dig with ⟨d1, d2, d3, d4⟩ | ⟨d1, d2, d3, d4, d5⟩
    · have hh : hp c (nt (A (25 + 3 * sel + 1))) = false := by
        unfold hp; rw [if_neg h10]
        rcases d2 with d2 | d2
        · rw [if_pos d2]
        · by_cases e : c = -nI 1
          · rw [if_pos e]
          · rw [if_neg e, if_pos d2]
      rw [hh]
      simp (disch := first | assumption | omega) only [q_bl, q_baT, q_bi, q_ba, q_pr, q_ob, q_iT, q_iN, q_it, q_if, q_of, nI_add, pk_mul, pk_sub, nI_leI, nI_ltI, nI_eq, nI_clamp, nI_lt0, nI_eqm, m1_eq, true_or, or_true, not_false_eq_true, m1_lt, m1_nlt, m1_le, m1_nle, b01, b011, q_em, q_m1, n_0, n_1, n_2, n_3, n_4, n_5, n_6, n_7, n_8, n_9, n_10, n_11, n_12, n_14, n_15, n_16, n_20, n_24, n_25, n_32, n_36, n_40, n_41, n_42, n_43, n_45, n_46, n_48, n_57, n_59, n_60, n_73, n_76, n_97, n_99, n_100, n_106, n_109, n_120, n_122, n_136, n_160, n_176, n_200, n_255, n_800, n_1000, n_1001, n_1002, n_1003, n_1006, n_1012, n_1018, n_1019, n_1020, n_1100, n_1140, n_4800, n_4920, n_5940, n_6740, n_20220, q_kI, q_lI, q_nI, q_rI, q_iI, q_jI, q_dI, q_kJ, q_lJ, q_nJ, q_rJ, q_iJ, q_jJ, q_dJ, q_kC, q_lC, q_nC, q_rC, q_jC, q_dC, q_kF, q_lF, q_nF, q_rF, q_jF, q_dF, q_us, q_un, q_ua, F_X3_hasPunch, s.k0, s.r0, s.k1, s.b1, s.k4, s.r1, s.k19, a0, a1, hc, x2_digitOf, d1, Bool.false_eq_true]
    · by_cases hx : dz c = nt (A (25 + 3 * sel + 1))
      · simp (disch := first | assumption | omega) only [q_bl, q_baT, q_bi, q_ba, q_pr, q_ob, q_iT, q_iN, q_it, q_if, q_of, nI_add, pk_mul, pk_sub, nI_leI, nI_ltI, nI_eq, nI_clamp, nI_lt0, nI_eqm, m1_eq, true_or, or_true, not_false_eq_true, m1_lt, m1_nlt, m1_le, m1_nle, b01, b011, q_em, q_m1, n_0, n_1, n_2, n_3, n_4, n_5, n_6, n_7, n_8, n_9, n_10, n_11, n_12, n_14, n_15, n_16, n_20, n_24, n_25, n_32, n_36, n_40, n_41, n_42, n_43, n_45, n_46, n_48, n_57, n_59, n_60, n_73, n_76, n_97, n_99, n_100, n_106, n_109, n_120, n_122, n_136, n_160, n_176, n_200, n_255, n_800, n_1000, n_1001, n_1002, n_1003, n_1006, n_1012, n_1018, n_1019, n_1020, n_1100, n_1140, n_4800, n_4920, n_5940, n_6740, n_20220, q_kI, q_lI, q_nI, q_rI, q_iI, q_jI, q_dI, q_kJ, q_lJ, q_nJ, q_rJ, q_iJ, q_jJ, q_dJ, q_kC, q_lC, q_nC, q_rC, q_jC, q_dC, q_kF, q_lF, q_nF, q_rF, q_jF, q_dF, q_us, q_un, q_ua, F_X3_hasPunch, s.k0, s.r0, s.k1, s.b1, s.k4, s.r1, s.k19, a0, a1, hc, x2_digitOf, d1, hp, decide_eq_true_eq]
      · simp (disch := first | assumption | omega) only [q_bl, q_baT, q_bi, q_ba, q_pr, q_ob, q_iT, q_iN, q_it, q_if, q_of, nI_add, pk_mul, pk_sub, nI_leI, nI_ltI, nI_eq, nI_clamp, nI_lt0, nI_eqm, m1_eq, true_or, or_true, not_false_eq_true, m1_lt, m1_nlt, m1_le, m1_nle, b01, b011, q_em, q_m1, n_0, n_1, n_2, n_3, n_4, n_5, n_6, n_7, n_8, n_9, n_10, n_11, n_12, n_14, n_15, n_16, n_20, n_24, n_25, n_32, n_36, n_40, n_41, n_42, n_43, n_45, n_46, n_48, n_57, n_59, n_60, n_73, n_76, n_97, n_99, n_100, n_106, n_109, n_120, n_122, n_136, n_160, n_176, n_200, n_255, n_800, n_1000, n_1001, n_1002, n_1003, n_1006, n_1012, n_1018, n_1019, n_1020, n_1100, n_1140, n_4800, n_4920, n_5940, n_6740, n_20220, q_kI, q_lI, q_nI, q_rI, q_iI, q_jI, q_dI, q_kJ, q_lJ, q_nJ, q_rJ, q_iJ, q_jJ, q_dJ, q_kC, q_lC, q_nC, q_rC, q_jC, q_dC, q_kF, q_lF, q_nF, q_rF, q_jF, q_dF, q_us, q_un, q_ua, F_X3_hasPunch, s.k0, s.r0, s.k1, s.b1, s.k4, s.r1, s.k19, a0, a1, hc, x2_digitOf, d1, hp, decide_eq_true_eq]
/-- the selectors' bits -/
theorem onb_lt {A : SA} {card : Nat} : ∀ n, onb A card n < 2 ^ n := by
  intro n
  induction n with
  | zero => exact Nat.lt_of_lt_of_le (Nat.zero_lt_one) (by decide)
  | succ n ih =>
    unfold onb
    rw [Nat.pow_succ]
    split <;> omega
theorem onb_bit {A : SA} {card k : Nat} : ∀ n, k < n → onb A card n / 2 ^ k % 2 = if sp_on A card k = true then 1 else 0 := by
  intro n
  induction n with
  | zero => intro h; omega
  | succ n ih =>
    intro h
    have hp : 0 < 2 ^ k := Nat.pow_pos (by decide)
    show (onb A card n + (if sp_on A card n = true then 2 ^ n else 0)) / 2 ^ k % 2 = _
    by_cases hk : k = n
    · subst hk
      have hlt := onb_lt (A := A) (card := card) k
      split
      · rw [Nat.add_div_right _ hp, Nat.div_eq_of_lt hlt]
      · rw [Nat.add_zero, Nat.div_eq_of_lt hlt]
    · have := ih (by omega)
      split
      · have e : (2 : Nat) ^ n = 2 ^ k * (2 * 2 ^ (n - k - 1)) := by
          rw [← Nat.pow_succ', ← Nat.pow_add]; congr 1; omega
        rw [e, Nat.add_mul_div_left _ _ hp, Nat.add_mul_mod_self_left, this]
      · rw [Nat.add_zero, this]
/-- the class's selectors while they are set: the first j are those of the card -/
def RSj (I : Nat → SA) (r : Nat) (A : SA) (card j : Nat) : Prop := ∀ k, k < 6 → I (r + 23) k = if k < j then (if sp_on A card k = true then nI 1 else nI 0) else nI (nt (A 1002) / 2 ^ k % 2)
theorem RBD.cg {I I' : Nat → SA} {r : Nat} {A B : SA} (h : RBD I r A) (w : WB A) (eI : ∀ a, r + 2 ≤ a → a ≤ r + 20 → I' a = I a) (e : ∀ i, i < 1000 → B i = A i) : RBD I' r B :=
  ⟨h.1.cg w (fun a h1 h2 => eI a h1 (by omega)) e, h.2.cg w (eI _ (by omega) (by omega)) (eI _ (by omega) (by omega)) e⟩
theorem sp_on_c {A : SA} {card k : Nat} (hd : A (25 + 3 * k + 2) = nI 1) : sp_on A card k = if card = 0 then false else hp (A (200 + 20 * (card - 1) + nt (A (25 + 3 * k)) - 1)) (nt (A (25 + 3 * k + 1))) := by unfold sp_on; rw [if_pos hd]
theorem sp_on_n {A : SA} {card k : Nat} (hd : ¬ A (25 + 3 * k + 2) = nI 1) : sp_on A card k = hp (A (200 + 20 * card + nt (A (25 + 3 * k)) - 1)) (nt (A (25 + 3 * k + 1))) := by unfold sp_on; rw [if_neg hd]
theorem l_sel {r card : Nat} {A : SA} (w : WB A) (hc : card < nt (A 8)) : ∀ (m n k : Nat) (μ : Mem), m < n → SM μ r → RBD (gI μ) r A → k + m = nt (A 1) → RSj (gI μ) r A card k → ∃ μ', L_X3_setSelectors_2 n r (nI card) (nI k) μ = some μ' ∧ RSj (gI μ') r A card (nt (A 1)) ∧ Fx (fun a => a = r + 23) μ μ' := by
  have c1 := w.c1.2
  have c8 := w.c8.2
  intro m
  induction m with
  | zero =>
    intro n k μ hn s hr he hj
    obtain ⟨n, rfl⟩ : ∃ k, n = k + 1 := ⟨n - 1, by omega⟩
    have n1 := hr.n1 w
    obtain rfl : k = nt (A 1) := by omega
    exact ⟨μ, by simp (disch := first | assumption | omega) only [q_bl, q_baT, q_bi, q_ba, q_pr, q_ob, q_iT, q_iN, q_it, q_if, q_of, nI_add, pk_mul, pk_sub, nI_leI, nI_ltI, nI_eq, nI_clamp, nI_lt0, nI_eqm, m1_eq, true_or, or_true, not_false_eq_true, m1_lt, m1_nlt, m1_le, m1_nle, b01, b011, q_em, q_m1, n_0, n_1, n_2, n_3, n_4, n_5, n_6, n_7, n_8, n_9, n_10, n_11, n_12, n_14, n_15, n_16, n_20, n_24, n_25, n_32, n_36, n_40, n_41, n_42, n_43, n_45, n_46, n_48, n_57, n_59, n_60, n_73, n_76, n_97, n_99, n_100, n_106, n_109, n_120, n_122, n_136, n_160, n_176, n_200, n_255, n_800, n_1000, n_1001, n_1002, n_1003, n_1006, n_1012, n_1018, n_1019, n_1020, n_1100, n_1140, n_4800, n_4920, n_5940, n_6740, n_20220, q_kI, q_lI, q_nI, q_rI, q_iI, q_jI, q_dI, q_kJ, q_lJ, q_nJ, q_rJ, q_iJ, q_jJ, q_dJ, q_kC, q_lC, q_nC, q_rC, q_jC, q_dC, q_kF, q_lF, q_nF, q_rF, q_jF, q_dF, q_us, q_un, q_ua, L_X3_setSelectors_2, B_X3_setSelectors_2, s.k0, s.r0, s.k1, s.b1, s.k4, n1], hj, Fx.same⟩
  | succ m ih =>
    intro n k μ hn s hr he hj
    obtain ⟨n, rfl⟩ : ∃ k, n = k + 1 := ⟨n - 1, by omega⟩
    have n1 := hr.n1 w
    have hk : k < nt (A 1) := by omega
    have q := w.sel hk
    have a2 := x6_at (p := 2) s.st1 n1 (by omega) hk (by decide)
    rw [show r + 4 + 1 = r + 5 from rfl, hr.1.2.1.2 k 2 hk (by decide), q.2.2.1] at a2
    have go : ∀ ci, F_X3_hasPunch r ci (nI k) μ = some (if sp_on A card k = true then nI 1 else nI 0) → ∃ μ', L_X3_setSelectors_2 n r (nI card) (nI (k + 1)) (stI μ (r + 23) k (if sp_on A card k = true then nI 1 else nI 0)) = some μ' ∧ RSj (gI μ') r A card (nt (A 1)) ∧ Fx (fun a => a = r + 23) μ μ' := by
      intro ci _
      have fx : Fx (fun a => a = r + 23) μ (stI μ (r + 23) k (if sp_on A card k = true then nI 1 else nI 0)) := Fx.stI rfl
      obtain ⟨μ', e1, e2, e3⟩ := ih n (k + 1) (stI μ (r + 23) k (if sp_on A card k = true then nI 1 else nI 0)) (by omega) (s.fx fx) (hr.cg w (fun a _ _ => by rw [q_iI, q_ua (by omega)]) (fun i _ => rfl)) (by omega) (fun j hj6 => by
        rw [q_iI]
        by_cases hjk : j = k
        · subst hjk; rw [q_us, if_pos (show j < j + 1 by omega)]
        · rw [q_un (by omega), hj j hj6]
          by_cases h2 : j < k
          · rw [if_pos h2, if_pos (show j < k + 1 by omega)]
          · rw [if_neg h2, if_neg (show ¬ j < k + 1 by omega)])
      exact ⟨μ', e1, e2, fx.trans e3⟩
    by_cases hd : A (25 + 3 * k + 2) = nI 1
    · rw [hd] at q
      rw [show nt (A (25 + 3 * k + 2)) = 1 from by rw [hd]; exact nt_nI (by decide)] at a2
      by_cases h0 : card = 0
      · have hh := x3_hasP (ci := nI card - nI 1) (c := -nI 1) s hr w hk (x2_codeAtN (by subst h0; decide +kernel)) (Or.inl rfl)
        rw [hp_m1] at hh
        have hon : sp_on A card k = false := by rw [sp_on_c hd, if_pos h0]
        rw [← hon] at hh
        obtain ⟨μ', e1, e2⟩ := go _ hh
        exact ⟨μ', by simp (disch := first | assumption | omega) only [q_bl, q_baT, q_bi, q_ba, q_pr, q_ob, q_iT, q_iN, q_it, q_if, q_of, nI_add, pk_mul, nI_leI, nI_ltI, nI_eq, nI_clamp, nI_lt0, nI_eqm, m1_eq, true_or, or_true, not_false_eq_true, m1_lt, m1_nlt, m1_le, m1_nle, b01, b011, q_em, q_m1, n_0, n_1, n_2, n_3, n_4, n_5, n_6, n_7, n_8, n_9, n_10, n_11, n_12, n_14, n_15, n_16, n_20, n_24, n_25, n_32, n_36, n_40, n_41, n_42, n_43, n_45, n_46, n_48, n_57, n_59, n_60, n_73, n_76, n_97, n_99, n_100, n_106, n_109, n_120, n_122, n_136, n_160, n_176, n_200, n_255, n_800, n_1000, n_1001, n_1002, n_1003, n_1006, n_1012, n_1018, n_1019, n_1020, n_1100, n_1140, n_4800, n_4920, n_5940, n_6740, n_20220, q_kI, q_lI, q_nI, q_rI, q_iI, q_jI, q_dI, q_kJ, q_lJ, q_nJ, q_rJ, q_iJ, q_jJ, q_dJ, q_kC, q_lC, q_nC, q_rC, q_jC, q_dC, q_kF, q_lF, q_nF, q_rF, q_jF, q_dF, q_us, q_un, q_ua, L_X3_setSelectors_2, B_X3_setSelectors_2, B_X3_setSelectors_37, B_X3_setSelectors_55, s.k0, s.r0, s.k1, s.b1, s.k4, n1, a2, s.r4, s.k23, s.l23, hh, e1], e2⟩
      · have hh := x3_hasP (ci := nI card - nI 1) (c := A (200 + 20 * (card - 1) + nt (A (25 + 3 * k)) - 1)) s hr w hk (by rw [pk_sub (by omega)]; exact hr.code s w (by omega) q.2.2.2.1 q.2.2.2.2.1) (w.lc (by omega) q.2.2.2.1 q.2.2.2.2.1)
        have hon : sp_on A card k = hp (A (200 + 20 * (card - 1) + nt (A (25 + 3 * k)) - 1)) (nt (A (25 + 3 * k + 1))) := by rw [sp_on_c hd, if_neg h0]
        rw [← hon] at hh
        obtain ⟨μ', e1, e2⟩ := go _ hh
        exact ⟨μ', by simp (disch := first | assumption | omega) only [q_bl, q_baT, q_bi, q_ba, q_pr, q_ob, q_iT, q_iN, q_it, q_if, q_of, nI_add, pk_mul, nI_leI, nI_ltI, nI_eq, nI_clamp, nI_lt0, nI_eqm, m1_eq, true_or, or_true, not_false_eq_true, m1_lt, m1_nlt, m1_le, m1_nle, b01, b011, q_em, q_m1, n_0, n_1, n_2, n_3, n_4, n_5, n_6, n_7, n_8, n_9, n_10, n_11, n_12, n_14, n_15, n_16, n_20, n_24, n_25, n_32, n_36, n_40, n_41, n_42, n_43, n_45, n_46, n_48, n_57, n_59, n_60, n_73, n_76, n_97, n_99, n_100, n_106, n_109, n_120, n_122, n_136, n_160, n_176, n_200, n_255, n_800, n_1000, n_1001, n_1002, n_1003, n_1006, n_1012, n_1018, n_1019, n_1020, n_1100, n_1140, n_4800, n_4920, n_5940, n_6740, n_20220, q_kI, q_lI, q_nI, q_rI, q_iI, q_jI, q_dI, q_kJ, q_lJ, q_nJ, q_rJ, q_iJ, q_jJ, q_dJ, q_kC, q_lC, q_nC, q_rC, q_jC, q_dC, q_kF, q_lF, q_nF, q_rF, q_jF, q_dF, q_us, q_un, q_ua, L_X3_setSelectors_2, B_X3_setSelectors_2, B_X3_setSelectors_37, B_X3_setSelectors_55, s.k0, s.r0, s.k1, s.b1, s.k4, n1, a2, s.r4, s.k23, s.l23, hh, e1], e2⟩
    · have hne : ¬ nt (A (25 + 3 * k + 2)) = 1 := fun e => hd (by rw [q.2.2.1, e])
      have hh := x3_hasP (ci := nI card) (c := A (200 + 20 * card + nt (A (25 + 3 * k)) - 1)) s hr w hk (hr.code s w hc q.2.2.2.1 q.2.2.2.2.1) (w.lc hc q.2.2.2.1 q.2.2.2.2.1)
      rw [← sp_on_n (card := card) hd] at hh
      obtain ⟨μ', e1, e2⟩ := go _ hh
      exact ⟨μ', by simp (disch := first | assumption | omega) only [q_bl, q_baT, q_bi, q_ba, q_pr, q_ob, q_iT, q_iN, q_it, q_if, q_of, nI_add, pk_mul, pk_sub, nI_leI, nI_ltI, nI_eq, nI_clamp, nI_lt0, nI_eqm, m1_eq, true_or, or_true, not_false_eq_true, m1_lt, m1_nlt, m1_le, m1_nle, b01, b011, q_em, q_m1, n_0, n_1, n_2, n_3, n_4, n_5, n_6, n_7, n_8, n_9, n_10, n_11, n_12, n_14, n_15, n_16, n_20, n_24, n_25, n_32, n_36, n_40, n_41, n_42, n_43, n_45, n_46, n_48, n_57, n_59, n_60, n_73, n_76, n_97, n_99, n_100, n_106, n_109, n_120, n_122, n_136, n_160, n_176, n_200, n_255, n_800, n_1000, n_1001, n_1002, n_1003, n_1006, n_1012, n_1018, n_1019, n_1020, n_1100, n_1140, n_4800, n_4920, n_5940, n_6740, n_20220, q_kI, q_lI, q_nI, q_rI, q_iI, q_jI, q_dI, q_kJ, q_lJ, q_nJ, q_rJ, q_iJ, q_jJ, q_dJ, q_kC, q_lC, q_nC, q_rC, q_jC, q_dC, q_kF, q_lF, q_nF, q_rF, q_jF, q_dF, q_us, q_un, q_ua, L_X3_setSelectors_2, B_X3_setSelectors_2, B_X3_setSelectors_37, B_X3_setSelectors_55, s.k0, s.r0, s.k1, s.b1, s.k4, n1, a2, s.r4, s.k23, s.l23, hh, e1], e2⟩
theorem x3_sel {μ : Mem} {r b card : Nat} {A : SA} (h : MO μ r A b) (hc : card < nt (A 8)) : ∃ μ', F_X3_setSelectors r (nI card) μ = some μ' ∧ MO μ' r (sp_sel A card) b ∧ Fx (MR r) μ μ' := by
  obtain ⟨s, hr, w, m1, m2, m3, m4, m5, m6, m7, m8⟩ := h
  have c1 := w.c1.2
  obtain ⟨μ', e1, e2, f⟩ := l_sel w hc (nt (A 1)) FU 0 μ (FU_gt (by omega)) s hr.bd (by omega) (fun k hk => by rw [if_neg (by omega)]; exact hr.2.2.2.2.1 k hk)
  have e : ∀ i, ¬ i = 1002 → sp_sel A card i = A i := fun i hi => ua_n hi
  have e9 : sp_sel A card 1002 = nI (onb A card (nt (A 1))) := ua_s _ _ _
  have hlt := onb_lt (A := A) (card := card) (nt (A 1))
  have hp64 : 2 ^ nt (A 1) ≤ 64 := Nat.pow_le_pow_right (n := 2) (by decide) c1
  have hnt : nt (sp_sel A card 1002) = onb A card (nt (A 1)) := by rw [e9, nt_nI (by omega)]
  have eI : ∀ q, ¬ q = r + 23 → gI μ' q = gI μ q := fun q hq => f.I hq
  refine ⟨μ', by simp (disch := first | assumption | omega) only [q_bl, q_baT, q_bi, q_ba, q_pr, q_ob, q_iT, q_iN, q_it, q_if, q_of, nI_add, pk_mul, pk_sub, nI_leI, nI_ltI, nI_eq, nI_clamp, nI_lt0, nI_eqm, m1_eq, true_or, or_true, not_false_eq_true, m1_lt, m1_nlt, m1_le, m1_nle, b01, b011, q_em, q_m1, n_0, n_1, n_2, n_3, n_4, n_5, n_6, n_7, n_8, n_9, n_10, n_11, n_12, n_14, n_15, n_16, n_20, n_24, n_25, n_32, n_36, n_40, n_41, n_42, n_43, n_45, n_46, n_48, n_57, n_59, n_60, n_73, n_76, n_97, n_99, n_100, n_106, n_109, n_120, n_122, n_136, n_160, n_176, n_200, n_255, n_800, n_1000, n_1001, n_1002, n_1003, n_1006, n_1012, n_1018, n_1019, n_1020, n_1100, n_1140, n_4800, n_4920, n_5940, n_6740, n_20220, q_kI, q_lI, q_nI, q_rI, q_iI, q_jI, q_dI, q_kJ, q_lJ, q_nJ, q_rJ, q_iJ, q_jJ, q_dJ, q_kC, q_lC, q_nC, q_rC, q_jC, q_dC, q_kF, q_lF, q_nF, q_rF, q_jF, q_dF, q_us, q_un, q_ua, F_X3_setSelectors, e1], ⟨s.fx f, ⟨hr.1.cg w (fun q _ _ => eI q (by omega)) (fun i hi => e i (by omega)), hr.2.1.cg w (eI _ (by omega)) (eI _ (by omega)) (fun i hi => e i (by omega)), hr.2.2.1.cg (eI _ (by omega)) (fun j _ => e _ (by omega)), hr.2.2.2.1.cg (eI _ (by omega)) (fun j _ => e _ (by omega)), fun k hk => ?_, hr.2.2.2.2.2.1.cg (eI _ (by omega)) (fun l _ _ => e _ (by omega)), hr.2.2.2.2.2.2.1.cg (eI _ (by omega)) (eI _ (by omega)) (eI _ (by omega)) (fun i _ _ _ => e i (by omega)), hr.2.2.2.2.2.2.2.1.cg (eI _ (by omega)) (eI _ (by omega)) (e _ (by omega)) (fun i _ _ => e i (by omega)), hr.2.2.2.2.2.2.2.2.cg (eI _ (by omega)) (e _ (by omega)) (e _ (by omega)) (e _ (by omega))⟩, w.cg (fun i hi => e i (by omega)), ?_⟩, f.mono (fun a ha => by subst ha; exact ⟨by omega, by omega⟩)⟩
  · rw [e2 k hk, hnt]
    by_cases hkn : k < nt (A 1)
    · rw [if_pos hkn, onb_bit _ hkn]
      split <;> rfl
    · rw [if_neg hkn]
      have h1 : 2 ^ nt (A 1) ≤ 2 ^ k := Nat.pow_le_pow_right (by decide) (by omega)
      rw [Nat.div_eq_of_lt (Nat.lt_of_lt_of_le m3.2 h1), Nat.div_eq_of_lt (Nat.lt_of_lt_of_le hlt h1)]
  · unfold WM
    rw [e 1000 (by omega), e 1001 (by omega), e 1 (by omega), e 8 (by omega), e 1018 (by omega), e 1019 (by omega), hnt]
    exact ⟨m1, m2, ⟨⟨_, e9, by omega, by omega⟩, hlt⟩, fun j hj => by rw [e _ (by omega)]; exact m4 j hj, fun j hj => by rw [e _ (by omega)]; exact m5 j hj, m6, m7, fun i q a1 a2 a3 => by rw [e _ (by omega)]; exact m8 i q a1 a2 a3⟩

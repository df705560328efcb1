/-! LAYER 3: the reference: cards, runs, copies of the row -/
theorem l9_proc {m card : Nat} (hcd : card < 40) : ∀ (j n l b : Nat) (μ : Mem) (A : SA), j < n → RA μ m A → EX A b → b + 10 * j < 800000 → 1 ≤ l → l + j ≤ 4 → (0 < j → 1 ≤ nt (A 1000)) → A 1000 = nI card → card < nt (A 8) →
    ∃ μ', L_X9_process_17 n m (nI card) (nI (l + j - 1)) (nI l) μ = some μ' ∧ RA μ' m (ua (sp_det (sp_cnt card 0 (nt (A 2)) (sp_sel (sp_cycs l j A) card)) card) 1000 (nI (card + 1))) ∧ Fx (s19 m) μ μ' := by
  intro j
  induction j with
  | zero =>
    intro n l b μ A hn h ex hb h1 h4 hd hda hc
    obtain ⟨n, rfl⟩ : ∃ k, n = k + 1 := ⟨n - 1, by omega⟩
    have w := ex.w
    have c2 := w.c2.2
    obtain ⟨μ1, e1, p1, f1⟩ := x9_sel h w hc
    have ex1 := ex.sel hc
    have r1 : ∀ i, i < 1002 → sp_sel A card i = A i := fun i hi => by unfold sp_sel; rw [ua_n (by omega)]
    obtain ⟨μ2, e2, p2, f2⟩ := x9_cnt p1 ex1 (by rw [r1 8 (by decide)]; exact hc)
    have ex2 := ex1.cnt (card := card) (by rw [r1 8 (by decide)]; exact hc)
    rw [r1 2 (by decide)] at p2 ex2
    have r2 : ∀ i, i < 1002 → sp_cnt card 0 (nt (A 2)) (sp_sel A card) i = A i := fun i hi => by rw [cnt_o _ _ _ _ (by omega) (by omega), r1 i hi]
    obtain ⟨μ3, e3, p3, f3⟩ := x9_det p2 ex2 (by omega) (by rw [r2 8 (by decide)]; exact hc)
    have r3 : sp_det (sp_cnt card 0 (nt (A 2)) (sp_sel A card)) card 1000 = nI card := by rw [det_o (by omega), r2 _ (by decide), hda]
    have p4 := p3.put (j := 1000) (v := nI (card + 1))
    have s0 := h.1
    have sa := p1.1
    have sb := p2.1
    have sc := p3.1
    have hA3 := p3.2
    refine ⟨_, ?_, p4, ((fx19a f1).trans (fx19a f2)).trans (f3.trans (fx19a (Fx.stI rfl)))⟩
    generalize sp_det (sp_cnt card 0 (nt (A 2)) (sp_sel A card)) card = A3 at *
    simp (disch := first | assumption | omega) only [q_bl, q_baT, q_bi, q_ba, q_pr, q_ob, q_iT, q_iN, q_it, q_if, q_of, nI_add, pk_mul, pk_sub, nI_leI, nI_ltI, nI_eq, nI_clamp, nI_lt0, nI_eqm, m1_eq, true_or, or_true, not_false_eq_true, m1_lt, m1_nlt, m1_le, m1_nle, b01, b011, q_em, q_m1, n_0, n_1, n_2, n_3, n_4, n_5, n_6, n_7, n_8, n_9, n_10, n_11, n_12, n_14, n_15, n_16, n_20, n_24, n_25, n_32, n_36, n_40, n_41, n_42, n_43, n_45, n_46, n_48, n_57, n_59, n_60, n_73, n_76, n_97, n_99, n_100, n_106, n_109, n_120, n_122, n_136, n_160, n_176, n_200, n_255, n_800, n_1000, n_1001, n_1002, n_1003, n_1006, n_1012, n_1018, n_1019, n_1020, n_1100, n_1140, n_4800, n_4920, n_5940, n_6740, n_20220, q_kI, q_lI, q_nI, q_rI, q_iI, q_jI, q_dI, q_kJ, q_lJ, q_nJ, q_rJ, q_iJ, q_jJ, q_dJ, q_kC, q_lC, q_nC, q_rC, q_jC, q_dC, q_kF, q_lF, q_nF, q_rF, q_jF, q_dF, q_us, q_un, q_ua, L_X9_process_17, B_X9_process_17, s0.k0, e1, sa.k0, e2, sb.k0, e3, sc.k0, sc.r0, sc.k1, sc.l1, hA3, r3, Nat.add_zero]
  | succ j ih =>
    intro n l b μ A hn h ex hb h1 h4 hd hda hc
    obtain ⟨n, rfl⟩ : ∃ k, n = k + 1 := ⟨n - 1, by omega⟩
    have w := ex.w
    have hd1 := hd (by omega)
    obtain ⟨μ1, e1, p1, f1⟩ := x9_cyc h ex (by omega) h1 (by omega) hd1
    have ex1 := ex.cyc (by omega) h1 (by omega) hd1
    have r1 : ∀ i, i < 1003 → sp_cyc A l i = A i := fun i hi => cyc_o w h1 hi
    obtain ⟨μ2, e2, p2, f2⟩ := ih n (l + 1) (b + 10) μ1 _ (by omega) p1 ex1 (by omega) (by omega) (by omega) (fun _ => by rw [r1 1000 (by decide)]; exact hd1) (by rw [r1 1000 (by decide)]; exact hda) (by rw [r1 8 (by decide)]; exact hc)
    rw [r1 2 (by decide)] at p2
    have s0 := h.1
    refine ⟨μ2, ?_, p2, f1.trans f2⟩
    rw [show l + (j + 1) - 1 = l + 1 + j - 1 from by omega]
    simp (disch := first | assumption | omega) only [q_bl, q_baT, q_bi, q_ba, q_pr, q_ob, q_iT, q_iN, q_it, q_if, q_of, nI_add, pk_mul, pk_sub, nI_leI, nI_ltI, nI_eq, nI_clamp, nI_lt0, nI_eqm, m1_eq, true_or, or_true, not_false_eq_true, m1_lt, m1_nlt, m1_le, m1_nle, b01, b011, q_em, q_m1, n_0, n_1, n_2, n_3, n_4, n_5, n_6, n_7, n_8, n_9, n_10, n_11, n_12, n_14, n_15, n_16, n_20, n_24, n_25, n_32, n_36, n_40, n_41, n_42, n_43, n_45, n_46, n_48, n_57, n_59, n_60, n_73, n_76, n_97, n_99, n_100, n_106, n_109, n_120, n_122, n_136, n_160, n_176, n_200, n_255, n_800, n_1000, n_1001, n_1002, n_1003, n_1006, n_1012, n_1018, n_1019, n_1020, n_1100, n_1140, n_4800, n_4920, n_5940, n_6740, n_20220, q_kI, q_lI, q_nI, q_rI, q_iI, q_jI, q_dI, q_kJ, q_lJ, q_nJ, q_rJ, q_iJ, q_jJ, q_dJ, q_kC, q_lC, q_nC, q_rC, q_jC, q_dC, q_kF, q_lF, q_nF, q_rF, q_jF, q_dF, q_us, q_un, q_ua, L_X9_process_17, B_X9_process_17, s0.k0, e1, e2]
theorem x9_proc {μ : Mem} {m b : Nat} {A : SA} (h : RA μ m A) (ex : EX A b) (hb : b < 700000) (hc : nt (A 1000) < nt (A 8)) : ∃ μ', F_X9_process m μ = some μ' ∧ RA μ' m (sp_proc A) ∧ Fx (s19 m) μ μ' := by
  have w := ex.w
  have c8 := w.c8.2
  have hda := ex.m.1.ex (by omega)
  have eb := x9_break h w hc
  have hle := sp_brk_le (A := A) (card := nt (A 1000))
  obtain ⟨μ1, e1, p1, f1⟩ := l9_proc (m := m) (card := nt (A 1000)) (by omega) (sp_brk A (nt (A 1000))) FU 1 b μ A (FU_gt (by omega)) h ex (by omega) (by decide) (by omega) (fun q => sp_brk_0 q) hda.1 hc
  rw [show 1 + sp_brk A (nt (A 1000)) - 1 = sp_brk A (nt (A 1000)) from by omega] at e1
  obtain ⟨s, hA⟩ := h
  refine ⟨μ1, ?_, p1, f1⟩
  have v := hda.1
  generalize sp_brk A (nt (A 1000)) = lv at *
  generalize nt (A 1000) = dn at *
  simp (disch := first | assumption | omega) only [q_bl, q_baT, q_bi, q_ba, q_pr, q_ob, q_iT, q_iN, q_it, q_if, q_of, nI_add, pk_mul, pk_sub, nI_leI, nI_ltI, nI_eq, nI_clamp, nI_lt0, nI_eqm, m1_eq, true_or, or_true, not_false_eq_true, m1_lt, m1_nlt, m1_le, m1_nle, b01, b011, q_em, q_m1, n_0, n_1, n_2, n_3, n_4, n_5, n_6, n_7, n_8, n_9, n_10, n_11, n_12, n_14, n_15, n_16, n_20, n_24, n_25, n_32, n_36, n_40, n_41, n_42, n_43, n_45, n_46, n_48, n_57, n_59, n_60, n_73, n_76, n_97, n_99, n_100, n_106, n_109, n_120, n_122, n_136, n_160, n_176, n_200, n_255, n_800, n_1000, n_1001, n_1002, n_1003, n_1006, n_1012, n_1018, n_1019, n_1020, n_1100, n_1140, n_4800, n_4920, n_5940, n_6740, n_20220, q_kI, q_lI, q_nI, q_rI, q_iI, q_jI, q_dI, q_kJ, q_lJ, q_nJ, q_rJ, q_iJ, q_jJ, q_dJ, q_kC, q_lC, q_nC, q_rC, q_jC, q_dC, q_kF, q_lF, q_nF, q_rF, q_jF, q_dF, q_us, q_un, q_ua, F_X9_process, s.k0, s.r0, s.k1, s.l1, hA, v, eb, e1]
theorem l9_fin2 {m : Nat} : ∀ (j n l b : Nat) (μ : Mem) (A : SA), j < n → RA μ m A → EX A b → b + 10 * j < 800000 → 1 ≤ l → l + j = 4 → 1 ≤ nt (A 1000) →
    ∃ μ', L_X9_finishAll_27 n m (nI l) μ = some μ' ∧ RA μ' m (ua (sp_cycs l j A) 1001 (nI 1)) ∧ Fx (s19 m) μ μ' := by
  intro j
  induction j with
  | zero =>
    intro n l b μ A hn h ex hb h1 h4 hd
    obtain ⟨n, rfl⟩ : ∃ k, n = k + 1 := ⟨n - 1, by omega⟩
    have p1 := h.put (j := 1001) (v := nI 1)
    obtain ⟨s, hA⟩ := h
    exact ⟨_, by simp (disch := first | assumption | omega) only [q_bl, q_baT, q_bi, q_ba, q_pr, q_ob, q_iT, q_iN, q_it, q_if, q_of, nI_add, pk_mul, pk_sub, nI_leI, nI_ltI, nI_eq, nI_clamp, nI_lt0, nI_eqm, m1_eq, true_or, or_true, not_false_eq_true, m1_lt, m1_nlt, m1_le, m1_nle, b01, b011, q_em, q_m1, n_0, n_1, n_2, n_3, n_4, n_5, n_6, n_7, n_8, n_9, n_10, n_11, n_12, n_14, n_15, n_16, n_20, n_24, n_25, n_32, n_36, n_40, n_41, n_42, n_43, n_45, n_46, n_48, n_57, n_59, n_60, n_73, n_76, n_97, n_99, n_100, n_106, n_109, n_120, n_122, n_136, n_160, n_176, n_200, n_255, n_800, n_1000, n_1001, n_1002, n_1003, n_1006, n_1012, n_1018, n_1019, n_1020, n_1100, n_1140, n_4800, n_4920, n_5940, n_6740, n_20220, q_kI, q_lI, q_nI, q_rI, q_iI, q_jI, q_dI, q_kJ, q_lJ, q_nJ, q_rJ, q_iJ, q_jJ, q_dJ, q_kC, q_lC, q_nC, q_rC, q_jC, q_dC, q_kF, q_lF, q_nF, q_rF, q_jF, q_dF, q_us, q_un, q_ua, L_X9_finishAll_27, B_X9_finishAll_27, B_X9_finishAll_54, s.k0, s.r0, s.k1, s.l1], p1, fx19a (Fx.stI rfl)⟩
  | succ j ih =>
    intro n l b μ A hn h ex hb h1 h4 hd
    obtain ⟨n, rfl⟩ : ∃ k, n = k + 1 := ⟨n - 1, by omega⟩
    have w := ex.w
    have c8 := w.c8.2
    have hda := ex.m.1.ex (by omega)
    obtain ⟨μ1, e1, p1, f1⟩ := x9_cyc h ex (by omega) h1 (by omega) hd
    have ex1 := ex.cyc (by omega) h1 (by omega) hd
    have r1 : ∀ i, i < 1003 → sp_cyc A l i = A i := fun i hi => cyc_o w h1 hi
    obtain ⟨μ2, e2, p2, f2⟩ := ih n (l + 1) (b + 10) μ1 _ (by omega) p1 ex1 (by omega) (by omega) (by omega) (by rw [r1 1000 (by decide)]; exact hd)
    obtain ⟨s, hA⟩ := h
    refine ⟨μ2, ?_, p2, f1.trans f2⟩
    have v := hda.1
    have hdb : nt (A 1000) ≤ 40 := by omega
    generalize nt (A 1000) = dn at *
    simp (disch := first | assumption | omega) only [q_bl, q_baT, q_bi, q_ba, q_pr, q_ob, q_iT, q_iN, q_it, q_if, q_of, nI_add, pk_mul, pk_sub, nI_leI, nI_ltI, nI_eq, nI_clamp, nI_lt0, nI_eqm, m1_eq, true_or, or_true, not_false_eq_true, m1_lt, m1_nlt, m1_le, m1_nle, b01, b011, q_em, q_m1, n_0, n_1, n_2, n_3, n_4, n_5, n_6, n_7, n_8, n_9, n_10, n_11, n_12, n_14, n_15, n_16, n_20, n_24, n_25, n_32, n_36, n_40, n_41, n_42, n_43, n_45, n_46, n_48, n_57, n_59, n_60, n_73, n_76, n_97, n_99, n_100, n_106, n_109, n_120, n_122, n_136, n_160, n_176, n_200, n_255, n_800, n_1000, n_1001, n_1002, n_1003, n_1006, n_1012, n_1018, n_1019, n_1020, n_1100, n_1140, n_4800, n_4920, n_5940, n_6740, n_20220, q_kI, q_lI, q_nI, q_rI, q_iI, q_jI, q_dI, q_kJ, q_lJ, q_nJ, q_rJ, q_iJ, q_jJ, q_dJ, q_kC, q_lC, q_nC, q_rC, q_jC, q_dC, q_kF, q_lF, q_nF, q_rF, q_jF, q_dF, q_us, q_un, q_ua, L_X9_finishAll_27, B_X9_finishAll_27, s.k0, s.r0, s.k1, s.l1, hA, v, e1, e2]
theorem x9_tot {μ : Mem} {m b : Nat} {A : SA} (h : RA μ m A) (ex : EX A b) (hb : b < 700000) : ∃ μ', L_X9_finishAll_27 FU m (nI 1) μ = some μ' ∧ RA μ' m (sp_tot A) ∧ Fx (s19 m) μ μ' := by
  have w := ex.w
  have c8 := w.c8.2
  have hda := ex.m.1.ex (by omega)
  unfold sp_tot
  by_cases h0 : nt (A 1000) = 0
  · rw [if_pos h0]
    have p1 := h.put (j := 1001) (v := nI 1)
    obtain ⟨s, hA⟩ := h
    have e0 : A 1000 = nI 0 := by rw [hda.1, h0]
    have hFU : FU = (FU - 1) + 1 := by unfold FU; rfl
    refine ⟨_, ?_, p1, fx19a (Fx.stI rfl)⟩
    rw [hFU]
    generalize FU - 1 = fu
    simp (disch := first | assumption | omega) only [q_bl, q_baT, q_bi, q_ba, q_pr, q_ob, q_iT, q_iN, q_it, q_if, q_of, nI_add, pk_mul, pk_sub, nI_leI, nI_ltI, nI_eq, nI_clamp, nI_lt0, nI_eqm, m1_eq, true_or, or_true, not_false_eq_true, m1_lt, m1_nlt, m1_le, m1_nle, b01, b011, q_em, q_m1, n_0, n_1, n_2, n_3, n_4, n_5, n_6, n_7, n_8, n_9, n_10, n_11, n_12, n_14, n_15, n_16, n_20, n_24, n_25, n_32, n_36, n_40, n_41, n_42, n_43, n_45, n_46, n_48, n_57, n_59, n_60, n_73, n_76, n_97, n_99, n_100, n_106, n_109, n_120, n_122, n_136, n_160, n_176, n_200, n_255, n_800, n_1000, n_1001, n_1002, n_1003, n_1006, n_1012, n_1018, n_1019, n_1020, n_1100, n_1140, n_4800, n_4920, n_5940, n_6740, n_20220, q_kI, q_lI, q_nI, q_rI, q_iI, q_jI, q_dI, q_kJ, q_lJ, q_nJ, q_rJ, q_iJ, q_jJ, q_dJ, q_kC, q_lC, q_nC, q_rC, q_jC, q_dC, q_kF, q_lF, q_nF, q_rF, q_jF, q_dF, q_us, q_un, q_ua, L_X9_finishAll_27, B_X9_finishAll_27, B_X9_finishAll_54, s.k0, s.r0, s.k1, s.l1, hA, e0]
  · rw [if_neg h0]
    exact l9_fin2 3 FU 1 b μ A (FU_gt (by decide)) h ex (by omega) (by decide) (by decide) (by omega)
theorem l9_fin {m : Nat} : ∀ (j n b : Nat) (μ : Mem) (A : SA), j < n → RA μ m A → EX A b → b + 40 * j < 600000 → nt (A 1000) + j = nt (A 8) →
    ∃ μ', L_X9_finishAll_0 n m μ = some μ' ∧ RA μ' m (sp_tot (sp_procs j A)) ∧ Fx (s19 m) μ μ' := by
  intro j
  induction j with
  | zero =>
    intro n b μ A hn h ex hb he
    obtain ⟨n, rfl⟩ : ∃ k, n = k + 1 := ⟨n - 1, by omega⟩
    have c8 := ex.w.c8
    have hda := ex.m.1.ex (by omega)
    obtain ⟨μ1, e1, p1, f1⟩ := x9_tot h ex (by omega)
    obtain ⟨s, hA⟩ := h
    refine ⟨μ1, ?_, p1, f1⟩
    have v := hda.1
    have v8 := c8.1
    have b8 := c8.2
    clear hda p1 c8 ex
    generalize nt (A 1000) = dn at *
    generalize nt (A 8) = n8 at *
    simp (disch := first | assumption | omega) only [q_bl, q_baT, q_bi, q_ba, q_pr, q_ob, q_iT, q_iN, q_it, q_if, q_of, nI_add, pk_mul, pk_sub, nI_leI, nI_ltI, nI_eq, nI_clamp, nI_lt0, nI_eqm, m1_eq, true_or, or_true, not_false_eq_true, m1_lt, m1_nlt, m1_le, m1_nle, b01, b011, q_em, q_m1, n_0, n_1, n_2, n_3, n_4, n_5, n_6, n_7, n_8, n_9, n_10, n_11, n_12, n_14, n_15, n_16, n_20, n_24, n_25, n_32, n_36, n_40, n_41, n_42, n_43, n_45, n_46, n_48, n_57, n_59, n_60, n_73, n_76, n_97, n_99, n_100, n_106, n_109, n_120, n_122, n_136, n_160, n_176, n_200, n_255, n_800, n_1000, n_1001, n_1002, n_1003, n_1006, n_1012, n_1018, n_1019, n_1020, n_1100, n_1140, n_4800, n_4920, n_5940, n_6740, n_20220, q_kI, q_lI, q_nI, q_rI, q_iI, q_jI, q_dI, q_kJ, q_lJ, q_nJ, q_rJ, q_iJ, q_jJ, q_dJ, q_kC, q_lC, q_nC, q_rC, q_jC, q_dC, q_kF, q_lF, q_nF, q_rF, q_jF, q_dF, q_us, q_un, q_ua, L_X9_finishAll_0, B_X9_finishAll_0, s.k0, s.r0, s.k1, s.l1, hA, v, v8, e1]
  | succ j ih =>
    intro n b μ A hn h ex hb he
    obtain ⟨n, rfl⟩ : ∃ k, n = k + 1 := ⟨n - 1, by omega⟩
    have w := ex.w
    have c8 := w.c8
    have b8 := c8.2
    have hda := ex.m.1.ex (by omega)
    obtain ⟨μ1, e1, p1, f1⟩ := x9_proc h ex (by omega) (by omega)
    have ex1 := ex.proc (by omega) (by omega)
    have e0 : nt (sp_proc A 1000) = nt (A 1000) + 1 := by rw [proc_0, nt_nI (by omega)]
    obtain ⟨μ2, e2, p2, f2⟩ := ih n (b + 40) μ1 _ (by omega) p1 ex1 (by omega) (by rw [e0, proc_o w (by decide) (by decide)]; omega)
    obtain ⟨s, hA⟩ := h
    refine ⟨μ2, ?_, p2, f1.trans f2⟩
    have v := hda.1
    have v8 := c8.1
    clear hda p2 c8 ex e0 ih
    generalize nt (A 1000) = dn at *
    generalize nt (A 8) = n8 at *
    simp (disch := first | assumption | omega) only [q_bl, q_baT, q_bi, q_ba, q_pr, q_ob, q_iT, q_iN, q_it, q_if, q_of, nI_add, pk_mul, pk_sub, nI_leI, nI_ltI, nI_eq, nI_clamp, nI_lt0, nI_eqm, m1_eq, true_or, or_true, not_false_eq_true, m1_lt, m1_nlt, m1_le, m1_nle, b01, b011, q_em, q_m1, n_0, n_1, n_2, n_3, n_4, n_5, n_6, n_7, n_8, n_9, n_10, n_11, n_12, n_14, n_15, n_16, n_20, n_24, n_25, n_32, n_36, n_40, n_41, n_42, n_43, n_45, n_46, n_48, n_57, n_59, n_60, n_73, n_76, n_97, n_99, n_100, n_106, n_109, n_120, n_122, n_136, n_160, n_176, n_200, n_255, n_800, n_1000, n_1001, n_1002, n_1003, n_1006, n_1012, n_1018, n_1019, n_1020, n_1100, n_1140, n_4800, n_4920, n_5940, n_6740, n_20220, q_kI, q_lI, q_nI, q_rI, q_iI, q_jI, q_dI, q_kJ, q_lJ, q_nJ, q_rJ, q_iJ, q_jJ, q_dJ, q_kC, q_lC, q_nC, q_rC, q_jC, q_dC, q_kF, q_lF, q_nF, q_rF, q_jF, q_dF, q_us, q_un, q_ua, L_X9_finishAll_0, B_X9_finishAll_0, s.k0, s.r0, s.k1, s.l1, hA, v, v8, e1, e2]
theorem x9_fin {μ : Mem} {m b : Nat} {A : SA} (h : RA μ m A) (ex : EX A b) (hb : b < 500000) : ∃ μ', F_X9_finishAll m μ = some μ' ∧ RA μ' m (sp_fin A) ∧ Fx (s19 m) μ μ' := by
  have c8 := ex.w.c8
  have hda := ex.m.1.ex (by omega)
  obtain ⟨μ1, e1, p1, f1⟩ := l9_fin (nt (A 8) - nt (A 1000)) FU b μ A (FU_gt (by omega)) h ex (by omega) (by omega)
  exact ⟨μ1, by simp (disch := first | assumption | omega) only [q_bl, q_baT, q_bi, q_ba, q_pr, q_ob, q_iT, q_iN, q_it, q_if, q_of, nI_add, pk_mul, pk_sub, nI_leI, nI_ltI, nI_eq, nI_clamp, nI_lt0, nI_eqm, m1_eq, true_or, or_true, not_false_eq_true, m1_lt, m1_nlt, m1_le, m1_nle, b01, b011, q_em, q_m1, n_0, n_1, n_2, n_3, n_4, n_5, n_6, n_7, n_8, n_9, n_10, n_11, n_12, n_14, n_15, n_16, n_20, n_24, n_25, n_32, n_36, n_40, n_41, n_42, n_43, n_45, n_46, n_48, n_57, n_59, n_60, n_73, n_76, n_97, n_99, n_100, n_106, n_109, n_120, n_122, n_136, n_160, n_176, n_200, n_255, n_800, n_1000, n_1001, n_1002, n_1003, n_1006, n_1012, n_1018, n_1019, n_1020, n_1100, n_1140, n_4800, n_4920, n_5940, n_6740, n_20220, q_kI, q_lI, q_nI, q_rI, q_iI, q_jI, q_dI, q_kJ, q_lJ, q_nJ, q_rJ, q_iJ, q_jJ, q_dJ, q_kC, q_lC, q_nC, q_rC, q_jC, q_dC, q_kF, q_lF, q_nF, q_rF, q_jF, q_dF, q_us, q_un, q_ua, F_X9_finishAll, e1], p1, f1⟩
-- restart
theorem l9_rst {m : Nat} {A : SA} : ∀ (j n k : Nat) (μ : Mem), j < n → k + j = 1020 → 1000 ≤ k → RA μ m (fun i => if 1000 ≤ i ∧ i < k then nI 0 else A i) → ∃ μ', L_X9_resetMachine_4 n m (nI k) μ = some μ' ∧ RA μ' m (sp_reset A) ∧ Fx (s1 m) μ μ' := by
  intro j
  induction j with
  | zero =>
    intro n k μ hn he hk h
    obtain ⟨n, rfl⟩ : ∃ k, n = k + 1 := ⟨n - 1, by omega⟩
    obtain rfl : k = 1020 := by omega
    exact ⟨μ, by simp (disch := first | assumption | omega) only [q_bl, q_baT, q_bi, q_ba, q_pr, q_ob, q_iT, q_iN, q_it, q_if, q_of, nI_add, pk_mul, pk_sub, nI_leI, nI_ltI, nI_eq, nI_clamp, nI_lt0, nI_eqm, m1_eq, true_or, or_true, not_false_eq_true, m1_lt, m1_nlt, m1_le, m1_nle, b01, b011, q_em, q_m1, n_0, n_1, n_2, n_3, n_4, n_5, n_6, n_7, n_8, n_9, n_10, n_11, n_12, n_14, n_15, n_16, n_20, n_24, n_25, n_32, n_36, n_40, n_41, n_42, n_43, n_45, n_46, n_48, n_57, n_59, n_60, n_73, n_76, n_97, n_99, n_100, n_106, n_109, n_120, n_122, n_136, n_160, n_176, n_200, n_255, n_800, n_1000, n_1001, n_1002, n_1003, n_1006, n_1012, n_1018, n_1019, n_1020, n_1100, n_1140, n_4800, n_4920, n_5940, n_6740, n_20220, q_kI, q_lI, q_nI, q_rI, q_iI, q_jI, q_dI, q_kJ, q_lJ, q_nJ, q_rJ, q_iJ, q_jJ, q_dJ, q_kC, q_lC, q_nC, q_rC, q_jC, q_dC, q_kF, q_lF, q_nF, q_rF, q_jF, q_dF, q_us, q_un, q_ua, L_X9_resetMachine_4, B_X9_resetMachine_4], h, Fx.same⟩
  | succ j ih =>
    intro n k μ hn he hk h
    obtain ⟨n, rfl⟩ : ∃ k, n = k + 1 := ⟨n - 1, by omega⟩
    have p1 := h.put (j := k) (v := nI 0)
    have e0 : ua (fun i => if 1000 ≤ i ∧ i < k then nI 0 else A i) k (nI 0) = fun i => if 1000 ≤ i ∧ i < k + 1 then nI 0 else A i := by
      funext i; unfold ua
      by_cases hi : i = k
      · rw [if_pos hi, if_pos (by omega)]
      · rw [if_neg hi]
        show (if 1000 ≤ i ∧ i < k then nI 0 else A i) = _
        by_cases h2 : 1000 ≤ i ∧ i < k
        · rw [if_pos h2, if_pos (by omega)]
        · rw [if_neg h2, if_neg (by omega)]
    rw [e0] at p1
    obtain ⟨μ', e, q1, q2⟩ := ih n (k + 1) _ (by omega) (by omega) (by omega) p1
    have s := h.1
    exact ⟨μ', by simp (disch := first | assumption | omega) only [q_bl, q_baT, q_bi, q_ba, q_pr, q_ob, q_iT, q_iN, q_it, q_if, q_of, nI_add, pk_mul, pk_sub, nI_leI, nI_ltI, nI_eq, nI_clamp, nI_lt0, nI_eqm, m1_eq, true_or, or_true, not_false_eq_true, m1_lt, m1_nlt, m1_le, m1_nle, b01, b011, q_em, q_m1, n_0, n_1, n_2, n_3, n_4, n_5, n_6, n_7, n_8, n_9, n_10, n_11, n_12, n_14, n_15, n_16, n_20, n_24, n_25, n_32, n_36, n_40, n_41, n_42, n_43, n_45, n_46, n_48, n_57, n_59, n_60, n_73, n_76, n_97, n_99, n_100, n_106, n_109, n_120, n_122, n_136, n_160, n_176, n_200, n_255, n_800, n_1000, n_1001, n_1002, n_1003, n_1006, n_1012, n_1018, n_1019, n_1020, n_1100, n_1140, n_4800, n_4920, n_5940, n_6740, n_20220, q_kI, q_lI, q_nI, q_rI, q_iI, q_jI, q_dI, q_kJ, q_lJ, q_nJ, q_rJ, q_iJ, q_jJ, q_dJ, q_kC, q_lC, q_nC, q_rC, q_jC, q_dC, q_kF, q_lF, q_nF, q_rF, q_jF, q_dF, q_us, q_un, q_ua, L_X9_resetMachine_4, B_X9_resetMachine_4, s.k0, s.r0, s.k1, s.l1, e], q1, Fx.trans (Fx.stI rfl) q2⟩
theorem x9_rst {μ : Mem} {m : Nat} {A : SA} (h : RA μ m A) : ∃ μ', F_X9_resetMachine m μ = some μ' ∧ RA μ' m (sp_reset A) ∧ Fx (s1 m) μ μ' := by
  have e0 : A = fun i => if 1000 ≤ i ∧ i < 1000 then nI 0 else A i := by funext i; rw [if_neg (by omega)]
  obtain ⟨μ', e, q1, q2⟩ := l9_rst (A := A) 20 FU 1000 μ (FU_gt (by decide)) (by decide) (by decide) (e0 ▸ h)
  exact ⟨μ', by simp (disch := first | assumption | omega) only [q_bl, q_baT, q_bi, q_ba, q_pr, q_ob, q_iT, q_iN, q_it, q_if, q_of, nI_add, pk_mul, pk_sub, nI_leI, nI_ltI, nI_eq, nI_clamp, nI_lt0, nI_eqm, m1_eq, true_or, or_true, not_false_eq_true, m1_lt, m1_nlt, m1_le, m1_nle, b01, b011, q_em, q_m1, n_0, n_1, n_2, n_3, n_4, n_5, n_6, n_7, n_8, n_9, n_10, n_11, n_12, n_14, n_15, n_16, n_20, n_24, n_25, n_32, n_36, n_40, n_41, n_42, n_43, n_45, n_46, n_48, n_57, n_59, n_60, n_73, n_76, n_97, n_99, n_100, n_106, n_109, n_120, n_122, n_136, n_160, n_176, n_200, n_255, n_800, n_1000, n_1001, n_1002, n_1003, n_1006, n_1012, n_1018, n_1019, n_1020, n_1100, n_1140, n_4800, n_4920, n_5940, n_6740, n_20220, q_kI, q_lI, q_nI, q_rI, q_iI, q_jI, q_dI, q_kJ, q_lJ, q_nJ, q_rJ, q_iJ, q_jJ, q_dJ, q_kC, q_lC, q_nC, q_rC, q_jC, q_dC, q_kF, q_lF, q_nF, q_rF, q_jF, q_dF, q_us, q_un, q_ua, F_X9_resetMachine, e], q1, q2⟩
-- copies of rows
theorem l9_copy {a c p q : Nat} (hac : ¬ a = c) (hp : p ≤ 13480) (hq : q ≤ 13480) : ∀ (j n k : Nat) (μ : Mem), j < n → k + j = 6740 → gK μ a = 101 → gK μ c = 101 → p + 6740 ≤ gL μ a → q + 6740 ≤ gL μ c →
    ∃ μ', L_X9_copy_3 n a (nI p) c (nI q) (nI k) μ = some μ' ∧ (∀ i, gI μ' c i = if q + k ≤ i ∧ i < q + 6740 then gI μ a (p + (i - q)) else gI μ c i) ∧ Fx (fun x => x = c) μ μ' := by
  intro j
  induction j with
  | zero =>
    intro n k μ hn he h1 h2 h3 h4
    obtain ⟨n, rfl⟩ : ∃ k, n = k + 1 := ⟨n - 1, by omega⟩
    obtain rfl : k = 6740 := by omega
    exact ⟨μ, by simp (disch := first | assumption | omega) only [q_bl, q_baT, q_bi, q_ba, q_pr, q_ob, q_iT, q_iN, q_it, q_if, q_of, nI_add, pk_mul, pk_sub, nI_leI, nI_ltI, nI_eq, nI_clamp, nI_lt0, nI_eqm, m1_eq, true_or, or_true, not_false_eq_true, m1_lt, m1_nlt, m1_le, m1_nle, b01, b011, q_em, q_m1, n_0, n_1, n_2, n_3, n_4, n_5, n_6, n_7, n_8, n_9, n_10, n_11, n_12, n_14, n_15, n_16, n_20, n_24, n_25, n_32, n_36, n_40, n_41, n_42, n_43, n_45, n_46, n_48, n_57, n_59, n_60, n_73, n_76, n_97, n_99, n_100, n_106, n_109, n_120, n_122, n_136, n_160, n_176, n_200, n_255, n_800, n_1000, n_1001, n_1002, n_1003, n_1006, n_1012, n_1018, n_1019, n_1020, n_1100, n_1140, n_4800, n_4920, n_5940, n_6740, n_20220, q_kI, q_lI, q_nI, q_rI, q_iI, q_jI, q_dI, q_kJ, q_lJ, q_nJ, q_rJ, q_iJ, q_jJ, q_dJ, q_kC, q_lC, q_nC, q_rC, q_jC, q_dC, q_kF, q_lF, q_nF, q_rF, q_jF, q_dF, q_us, q_un, q_ua, L_X9_copy_3, B_X9_copy_3], fun i => by rw [if_neg (by omega)], Fx.same⟩
  | succ j ih =>
    intro n k μ hn he h1 h2 h3 h4
    obtain ⟨n, rfl⟩ : ∃ k, n = k + 1 := ⟨n - 1, by omega⟩
    obtain ⟨μ', e, q1, q2⟩ := ih n (k + 1) (stI μ c (q + k) (gI μ a (p + k))) (by omega) (by omega) h1 h2 h3 h4
    refine ⟨μ', by simp (disch := first | assumption | omega) only [q_bl, q_baT, q_bi, q_ba, q_pr, q_ob, q_iT, q_iN, q_it, q_if, q_of, nI_add, pk_mul, pk_sub, nI_leI, nI_ltI, nI_eq, nI_clamp, nI_lt0, nI_eqm, m1_eq, true_or, or_true, not_false_eq_true, m1_lt, m1_nlt, m1_le, m1_nle, b01, b011, q_em, q_m1, n_0, n_1, n_2, n_3, n_4, n_5, n_6, n_7, n_8, n_9, n_10, n_11, n_12, n_14, n_15, n_16, n_20, n_24, n_25, n_32, n_36, n_40, n_41, n_42, n_43, n_45, n_46, n_48, n_57, n_59, n_60, n_73, n_76, n_97, n_99, n_100, n_106, n_109, n_120, n_122, n_136, n_160, n_176, n_200, n_255, n_800, n_1000, n_1001, n_1002, n_1003, n_1006, n_1012, n_1018, n_1019, n_1020, n_1100, n_1140, n_4800, n_4920, n_5940, n_6740, n_20220, q_kI, q_lI, q_nI, q_rI, q_iI, q_jI, q_dI, q_kJ, q_lJ, q_nJ, q_rJ, q_iJ, q_jJ, q_dJ, q_kC, q_lC, q_nC, q_rC, q_jC, q_dC, q_kF, q_lF, q_nF, q_rF, q_jF, q_dF, q_us, q_un, q_ua, L_X9_copy_3, B_X9_copy_3, h1, h2, e], fun i => ?_, Fx.trans (Fx.stI rfl) q2⟩
    rw [q1 i, q_iI]
    by_cases hi : i = q + k
    · subst hi
      rw [if_neg (by omega), q_us, if_pos (by omega)]; congr 1; omega
    · rw [q_un (f := gI μ) (a := c) (b := a) (by omega), q_un (by omega)]
      by_cases h5 : q + (k + 1) ≤ i ∧ i < q + 6740
      · rw [if_pos h5, if_pos (by omega)]
      · rw [if_neg h5, if_neg (by omega)]
theorem x9_copy {μ : Mem} {a c p q : Nat} (hac : ¬ a = c) (hp : p ≤ 13480) (hq : q ≤ 13480) (h1 : gK μ a = 101) (h2 : gK μ c = 101) (h3 : p + 6740 ≤ gL μ a) (h4 : q + 6740 ≤ gL μ c) :
    ∃ μ', F_X9_copy a (nI p) c (nI q) μ = some μ' ∧ (∀ i, gI μ' c i = if q ≤ i ∧ i < q + 6740 then gI μ a (p + (i - q)) else gI μ c i) ∧ Fx (fun x => x = c) μ μ' := by
  obtain ⟨μ', e, q1, q2⟩ := l9_copy hac hp hq 6740 FU 0 μ (FU_gt (by decide)) (by decide) h1 h2 h3 h4
  exact ⟨μ', by simp (disch := first | assumption | omega) only [q_bl, q_baT, q_bi, q_ba, q_pr, q_ob, q_iT, q_iN, q_it, q_if, q_of, nI_add, pk_mul, pk_sub, nI_leI, nI_ltI, nI_eq, nI_clamp, nI_lt0, nI_eqm, m1_eq, true_or, or_true, not_false_eq_true, m1_lt, m1_nlt, m1_le, m1_nle, b01, b011, q_em, q_m1, n_0, n_1, n_2, n_3, n_4, n_5, n_6, n_7, n_8, n_9, n_10, n_11, n_12, n_14, n_15, n_16, n_20, n_24, n_25, n_32, n_36, n_40, n_41, n_42, n_43, n_45, n_46, n_48, n_57, n_59, n_60, n_73, n_76, n_97, n_99, n_100, n_106, n_109, n_120, n_122, n_136, n_160, n_176, n_200, n_255, n_800, n_1000, n_1001, n_1002, n_1003, n_1006, n_1012, n_1018, n_1019, n_1020, n_1100, n_1140, n_4800, n_4920, n_5940, n_6740, n_20220, q_kI, q_lI, q_nI, q_rI, q_iI, q_jI, q_dI, q_kJ, q_lJ, q_nJ, q_rJ, q_iJ, q_jJ, q_dJ, q_kC, q_lC, q_nC, q_rC, q_jC, q_dC, q_kF, q_lF, q_nF, q_rF, q_jF, q_dF, q_us, q_un, q_ua, F_X9_copy, e], q1, q2⟩
theorem x9_aside {μ : Mem} {m : Nat} {A : SA} (h : RA μ m A) : ∃ μ', F_X9_putAside m μ = some μ' ∧ RA μ' m (sp_reset A) ∧ (∀ i, i < 6740 → gI μ' (m + 3) i = A i) ∧ Fx (fun x => x = m + 1 ∨ x = m + 3) μ μ' := by
  have s := h.1
  have hA := h.2
  obtain ⟨μ1, e1, q1, f1⟩ := x9_copy (μ := μ) (a := m + 1) (c := m + 3) (p := 0) (q := 0) (by omega) (by decide) (by decide) s.k1 s.k3 (by rw [s.l1]; decide) (by rw [s.l3]; decide)
  have h1 : RA μ1 m A := h.fx f1 (by omega)
  obtain ⟨μ2, e2, q2, f2⟩ := x9_rst h1
  have s1' := h1.1
  refine ⟨μ2, by simp (disch := first | assumption | omega) only [q_bl, q_baT, q_bi, q_ba, q_pr, q_ob, q_iT, q_iN, q_it, q_if, q_of, nI_add, pk_mul, pk_sub, nI_leI, nI_ltI, nI_eq, nI_clamp, nI_lt0, nI_eqm, m1_eq, true_or, or_true, not_false_eq_true, m1_lt, m1_nlt, m1_le, m1_nle, b01, b011, q_em, q_m1, n_0, n_1, n_2, n_3, n_4, n_5, n_6, n_7, n_8, n_9, n_10, n_11, n_12, n_14, n_15, n_16, n_20, n_24, n_25, n_32, n_36, n_40, n_41, n_42, n_43, n_45, n_46, n_48, n_57, n_59, n_60, n_73, n_76, n_97, n_99, n_100, n_106, n_109, n_120, n_122, n_136, n_160, n_176, n_200, n_255, n_800, n_1000, n_1001, n_1002, n_1003, n_1006, n_1012, n_1018, n_1019, n_1020, n_1100, n_1140, n_4800, n_4920, n_5940, n_6740, n_20220, q_kI, q_lI, q_nI, q_rI, q_iI, q_jI, q_dI, q_kJ, q_lJ, q_nJ, q_rJ, q_iJ, q_jJ, q_dJ, q_kC, q_lC, q_nC, q_rC, q_jC, q_dC, q_kF, q_lF, q_nF, q_rF, q_jF, q_dF, q_us, q_un, q_ua, F_X9_putAside, s.k0, s.r0, s.r2, s1'.k0, e1, e2], q2, fun i hi => ?_, (f1.mono (fun _ h => Or.inr h)).trans (f2.mono (fun _ h => Or.inl h))⟩
  rw [f2.I (a := m + 3) (fun (e : m + 3 = m + 1) => by omega), q1 i, if_pos (by omega), hA]; congr 1; omega
theorem x9_back {μ : Mem} {m : Nat} (s : SR μ m) : ∃ μ', F_X9_comeBack m μ = some μ' ∧ RA μ' m (fun i => if i < 6740 then gI μ (m + 3) i else gI μ (m + 1) i) ∧ Fx (s1 m) μ μ' := by
  obtain ⟨μ1, e1, q1, f1⟩ := x9_copy (μ := μ) (a := m + 3) (c := m + 1) (p := 0) (q := 0) (by omega) (by decide) (by decide) s.k3 s.k1 (by rw [s.l3]; decide) (by rw [s.l1]; decide)
  refine ⟨μ1, by simp (disch := first | assumption | omega) only [q_bl, q_baT, q_bi, q_ba, q_pr, q_ob, q_iT, q_iN, q_it, q_if, q_of, nI_add, pk_mul, pk_sub, nI_leI, nI_ltI, nI_eq, nI_clamp, nI_lt0, nI_eqm, m1_eq, true_or, or_true, not_false_eq_true, m1_lt, m1_nlt, m1_le, m1_nle, b01, b011, q_em, q_m1, n_0, n_1, n_2, n_3, n_4, n_5, n_6, n_7, n_8, n_9, n_10, n_11, n_12, n_14, n_15, n_16, n_20, n_24, n_25, n_32, n_36, n_40, n_41, n_42, n_43, n_45, n_46, n_48, n_57, n_59, n_60, n_73, n_76, n_97, n_99, n_100, n_106, n_109, n_120, n_122, n_136, n_160, n_176, n_200, n_255, n_800, n_1000, n_1001, n_1002, n_1003, n_1006, n_1012, n_1018, n_1019, n_1020, n_1100, n_1140, n_4800, n_4920, n_5940, n_6740, n_20220, q_kI, q_lI, q_nI, q_rI, q_iI, q_jI, q_dI, q_kJ, q_lJ, q_nJ, q_rJ, q_iJ, q_jJ, q_dJ, q_kC, q_lC, q_nC, q_rC, q_jC, q_dC, q_kF, q_lF, q_nF, q_rF, q_jF, q_dF, q_us, q_un, q_ua, F_X9_comeBack, s.k0, s.r0, s.r2, e1], ⟨s.fx f1, ?_⟩, f1⟩
  funext i
  rw [q1 i]
  by_cases hi : i < 6740
  · rw [if_pos (by omega), if_pos hi]; congr 1; omega
  · rw [if_neg (by omega), if_neg hi]

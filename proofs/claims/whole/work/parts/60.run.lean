/-! LAYER 3: run and finish -/
section RUN
variable {μ μc μ1 μ2 : Mem} {x : Nat} {A B C : SA}
theorem x3_procN {r b : Nat} (h : MO μ r A b) (hc : ¬ nt (A 1000) < nt (A 8)) : F_X3_processCard r μ = some μ := by
  obtain ⟨s, hr, w, m⟩ := h
  have c8 := w.c8.2
  have hda := m.1.ex (by omega)
  have g10 : gI μ r 10 = nI (nt (A 1000)) := hr.2.2.2.2.2.2.2.2.2.1.trans hda.1
  have n8 := hr.n8 w
  have h2 := hda.2
  clear hda hr w m
  generalize nt (A 1000) = d at *
  generalize nt (A 8) = n at *
  simp (disch := first | assumption | omega) only [q_bl, q_baT, q_bi, q_ba, q_pr, q_ob, q_iT, q_iN, q_it, q_if, q_of, nI_add, pk_mul, pk_sub, nI_leI, nI_ltI, nI_eq, nI_clamp, nI_lt0, nI_eqm, m1_eq, true_or, or_true, not_false_eq_true, m1_lt, m1_nlt, m1_le, m1_nle, b01, b011, q_em, q_m1, n_0, n_1, n_2, n_3, n_4, n_5, n_6, n_7, n_8, n_9, n_10, n_11, n_12, n_14, n_15, n_16, n_20, n_24, n_25, n_32, n_36, n_40, n_41, n_42, n_43, n_45, n_46, n_48, n_57, n_59, n_60, n_73, n_76, n_97, n_99, n_100, n_106, n_109, n_120, n_122, n_136, n_160, n_176, n_200, n_255, n_800, n_1000, n_1001, n_1002, n_1003, n_1006, n_1012, n_1018, n_1019, n_1020, n_1100, n_1140, n_4800, n_4920, n_5940, n_6740, n_20220, F_X3_processCard, s.k0, s.r1, s.k19, g10, n8]
theorem procs_0 : ∀ (p : Nat) (A : SA), WB A → nt (A 1000) + p ≤ nt (A 8) → nt (sp_procs p A 1000) = nt (A 1000) + p := by
  intro p
  induction p with
  | zero => intro A w h; rfl
  | succ p ih =>
    intro A w h
    have c8 := w.c8.2
    have e0 : nt (sp_proc A 1000) = nt (A 1000) + 1 := by rw [proc_0, nt_nI (by omega)]
    have e8 : sp_proc A 8 = A 8 := proc_o w (by decide) (by decide)
    show nt (sp_procs p (sp_proc A) 1000) = _
    rw [ih _ (w.cg (fun j hj => proc_o w (by omega) (by omega))) (by rw [e0, e8]; omega), e0]; omega
theorem BB.procs {p : Nat} (w : WB A) (h : nt (A 1000) + p ≤ nt (A 8)) : BB (sp_procs p A) = BB A + 40 * p := by
  unfold BB
  rw [procs_0 p A w h, procs_o p A 1001 w (by decide) (by decide)]; omega
theorem l8_run {c d0 : Nat} (hc : c ≤ 40) : ∀ (j fu i b : Nat) (μ : Mem) (A : SA), j < fu → i + j = c → MO μ (x + 26) A b → b + 40 * j < 600000 → IS μ x → d0 ≤ nt (A 1000) →
    ∃ μ', L_X8_run_35 fu x (nI c) (nI d0) (nI i) μ = some (.inr (nI (nt (A 1000) + min j (nt (A 8) - nt (A 1000)) - d0)), μ') ∧ MO μ' (x + 26) (sp_procs (min j (nt (A 8) - nt (A 1000))) A) (b + 40 * min j (nt (A 8) - nt (A 1000))) ∧ Fx (MR (x + 26)) μ μ' := by
  intro j
  induction j with
  | zero =>
    intro fu i b μ A hf he h hb is hd
    obtain ⟨fu, rfl⟩ : ∃ k, fu = k + 1 := ⟨fu - 1, by omega⟩
    obtain rfl : i = c := by omega
    have w := h.2.2.1
    have c8 := w.c8.2
    have s := h.1
    have hda := h.2.2.2.1.ex (by omega)
    have g10 : gI μ (x + 26) 10 = nI (nt (A 1000)) := h.2.1.2.2.2.2.2.2.2.2.2.1.trans hda.1
    refine ⟨μ, ?_, by rw [Nat.zero_min]; exact h, Fx.same⟩
    rw [Nat.zero_min]
    have h2 := hda.2
    clear hda h w
    generalize nt (A 1000) = d at *
    simp (disch := first | assumption | omega) only [q_bl, q_baT, q_bi, q_ba, q_pr, q_ob, q_iT, q_iN, q_it, q_if, q_of, nI_add, pk_mul, pk_sub, nI_leI, nI_ltI, nI_eq, nI_clamp, nI_lt0, nI_eqm, m1_eq, true_or, or_true, not_false_eq_true, m1_lt, m1_nlt, m1_le, m1_nle, b01, b011, q_em, q_m1, n_0, n_1, n_2, n_3, n_4, n_5, n_6, n_7, n_8, n_9, n_10, n_11, n_12, n_14, n_15, n_16, n_20, n_24, n_25, n_32, n_36, n_40, n_41, n_42, n_43, n_45, n_46, n_48, n_57, n_59, n_60, n_73, n_76, n_97, n_99, n_100, n_106, n_109, n_120, n_122, n_136, n_160, n_176, n_200, n_255, n_800, n_1000, n_1001, n_1002, n_1003, n_1006, n_1012, n_1018, n_1019, n_1020, n_1100, n_1140, n_4800, n_4920, n_5940, n_6740, n_20220, L_X8_run_35, B_X8_run_35, is.kx, is.r1, s.k0, g10, Nat.add_zero]
  | succ j ih =>
    intro fu i b μ A hf he h hb is hd
    obtain ⟨fu, rfl⟩ : ∃ k, fu = k + 1 := ⟨fu - 1, by omega⟩
    have w := h.2.2.1
    have c8 := w.c8.2
    have s := h.1
    by_cases hx : nt (A 1000) < nt (A 8)
    · obtain ⟨μ1, e1, m1, f1⟩ := x3_proc h (by omega) hx
      have e0 : nt (sp_proc A 1000) = nt (A 1000) + 1 := by rw [proc_0, nt_nI (by omega)]
      have e8 : sp_proc A 8 = A 8 := proc_o w (by decide) (by decide)
      obtain ⟨μ2, e2, m2, f2⟩ := ih fu (i + 1) (b + 40) μ1 _ (by omega) (by omega) m1 (by omega) (is.fx f1) (by omega)
      rw [e0, e8] at e2 m2
      obtain ⟨p, hp⟩ : ∃ p, min j (nt (A 8) - (nt (A 1000) + 1)) = p := ⟨_, rfl⟩
      have hp2 : min (j + 1) (nt (A 8) - nt (A 1000)) = p + 1 := by omega
      rw [hp] at e2 m2
      rw [hp2]
      refine ⟨μ2, ?_, by rw [show b + 40 * (p + 1) = b + 40 + 40 * p from by omega]; exact m2, f1.trans f2⟩
      rw [show nt (A 1000) + (p + 1) - d0 = nt (A 1000) + 1 + p - d0 from by omega]
      clear ih m1 m2 f1 f2 h w hp hp2
      simp (disch := first | assumption | omega) only [q_bl, q_baT, q_bi, q_ba, q_pr, q_ob, q_iT, q_iN, q_it, q_if, q_of, nI_add, pk_mul, pk_sub, nI_leI, nI_ltI, nI_eq, nI_clamp, nI_lt0, nI_eqm, m1_eq, true_or, or_true, not_false_eq_true, m1_lt, m1_nlt, m1_le, m1_nle, b01, b011, q_em, q_m1, n_0, n_1, n_2, n_3, n_4, n_5, n_6, n_7, n_8, n_9, n_10, n_11, n_12, n_14, n_15, n_16, n_20, n_24, n_25, n_32, n_36, n_40, n_41, n_42, n_43, n_45, n_46, n_48, n_57, n_59, n_60, n_73, n_76, n_97, n_99, n_100, n_106, n_109, n_120, n_122, n_136, n_160, n_176, n_200, n_255, n_800, n_1000, n_1001, n_1002, n_1003, n_1006, n_1012, n_1018, n_1019, n_1020, n_1100, n_1140, n_4800, n_4920, n_5940, n_6740, n_20220, L_X8_run_35, B_X8_run_35, is.kx, is.r1, s.k0, e1, e2]
    · have e1 := x3_procN h hx
      obtain ⟨μ2, e2, m2, f2⟩ := ih fu (i + 1) b μ A (by omega) (by omega) h (by omega) is hd
      have hp : min j (nt (A 8) - nt (A 1000)) = 0 := by omega
      have hp2 : min (j + 1) (nt (A 8) - nt (A 1000)) = 0 := by omega
      rw [hp] at e2 m2
      rw [hp2]
      refine ⟨μ2, ?_, m2, f2⟩
      clear ih m2 f2 h w hp hp2
      simp (disch := first | assumption | omega) only [q_bl, q_baT, q_bi, q_ba, q_pr, q_ob, q_iT, q_iN, q_it, q_if, q_of, nI_add, pk_mul, pk_sub, nI_leI, nI_ltI, nI_eq, nI_clamp, nI_lt0, nI_eqm, m1_eq, true_or, or_true, not_false_eq_true, m1_lt, m1_nlt, m1_le, m1_nle, b01, b011, q_em, q_m1, n_0, n_1, n_2, n_3, n_4, n_5, n_6, n_7, n_8, n_9, n_10, n_11, n_12, n_14, n_15, n_16, n_20, n_24, n_25, n_32, n_36, n_40, n_41, n_42, n_43, n_45, n_46, n_48, n_57, n_59, n_60, n_73, n_76, n_97, n_99, n_100, n_106, n_109, n_120, n_122, n_136, n_160, n_176, n_200, n_255, n_800, n_1000, n_1001, n_1002, n_1003, n_1006, n_1012, n_1018, n_1019, n_1020, n_1100, n_1140, n_4800, n_4920, n_5940, n_6740, n_20220, L_X8_run_35, B_X8_run_35, is.kx, is.r1, s.k0, e1, e2]
theorem l9_run {m c : Nat} (hc : c ≤ 40) : ∀ (j fu i b : Nat) (μ : Mem) (A : SA), j < fu → i + j = c → RA μ m A → EX A b → b + 40 * j < 600000 →
    ∃ μ', L_X9_run_48 fu m (nI c) (nI i) μ = some (nI (i + min j (nt (A 8) - nt (A 1000))), μ') ∧ RA μ' m (sp_procs (min j (nt (A 8) - nt (A 1000))) A) ∧ Fx (s19 m) μ μ' := by
  intro j
  induction j with
  | zero =>
    intro fu i b μ A hf he h ex hb
    obtain ⟨fu, rfl⟩ : ∃ k, fu = k + 1 := ⟨fu - 1, by omega⟩
    obtain rfl : i = c := by omega
    refine ⟨μ, ?_, by rw [Nat.zero_min]; exact h, Fx.same⟩
    rw [Nat.zero_min]
    clear h ex
    simp (disch := first | assumption | omega) only [q_bl, q_baT, q_bi, q_ba, q_pr, q_ob, q_iT, q_iN, q_it, q_if, q_of, nI_add, pk_mul, pk_sub, nI_leI, nI_ltI, nI_eq, nI_clamp, nI_lt0, nI_eqm, m1_eq, true_or, or_true, not_false_eq_true, m1_lt, m1_nlt, m1_le, m1_nle, b01, b011, q_em, q_m1, n_0, n_1, n_2, n_3, n_4, n_5, n_6, n_7, n_8, n_9, n_10, n_11, n_12, n_14, n_15, n_16, n_20, n_24, n_25, n_32, n_36, n_40, n_41, n_42, n_43, n_45, n_46, n_48, n_57, n_59, n_60, n_73, n_76, n_97, n_99, n_100, n_106, n_109, n_120, n_122, n_136, n_160, n_176, n_200, n_255, n_800, n_1000, n_1001, n_1002, n_1003, n_1006, n_1012, n_1018, n_1019, n_1020, n_1100, n_1140, n_4800, n_4920, n_5940, n_6740, n_20220, L_X9_run_48, B_X9_run_48, Nat.add_zero]
  | succ j ih =>
    intro fu i b μ A hf he h ex hb
    obtain ⟨fu, rfl⟩ : ∃ k, fu = k + 1 := ⟨fu - 1, by omega⟩
    have w := ex.w
    have c8 := w.c8
    have hda := ex.m.1.ex (by omega)
    have s := h.1
    have g1 : gI μ (m + 1) 1000 = nI (nt (A 1000)) := by rw [h.2]; exact hda.1
    have g2 : gI μ (m + 1) 8 = nI (nt (A 8)) := by rw [h.2]; exact c8.1
    have c82 := c8.2
    by_cases hx : nt (A 1000) < nt (A 8)
    · obtain ⟨μ1, e1, p1, f1⟩ := x9_proc h ex (by omega) hx
      have ex1 := ex.proc (by omega) hx
      have e0 : nt (sp_proc A 1000) = nt (A 1000) + 1 := by rw [proc_0, nt_nI (by omega)]
      have e8 : sp_proc A 8 = A 8 := proc_o w (by decide) (by decide)
      obtain ⟨μ2, e2, m2, f2⟩ := ih fu (i + 1) (b + 40) μ1 _ (by omega) (by omega) p1 ex1 (by omega)
      rw [e0, e8] at e2 m2
      obtain ⟨p, hp⟩ : ∃ p, min j (nt (A 8) - (nt (A 1000) + 1)) = p := ⟨_, rfl⟩
      have hp2 : min (j + 1) (nt (A 8) - nt (A 1000)) = p + 1 := by omega
      rw [hp] at e2 m2
      rw [hp2]
      refine ⟨μ2, ?_, m2, f1.trans f2⟩
      rw [show i + (p + 1) = i + 1 + p from by omega]
      clear ih p1 ex1 e0 e8 m2 f1 f2 h w hp hp2 ex hda c8
      generalize nt (A 1000) = d at *
      generalize nt (A 8) = n at *
      simp (disch := first | assumption | omega) only [q_bl, q_baT, q_bi, q_ba, q_pr, q_ob, q_iT, q_iN, q_it, q_if, q_of, nI_add, pk_mul, pk_sub, nI_leI, nI_ltI, nI_eq, nI_clamp, nI_lt0, nI_eqm, m1_eq, true_or, or_true, not_false_eq_true, m1_lt, m1_nlt, m1_le, m1_nle, b01, b011, q_em, q_m1, n_0, n_1, n_2, n_3, n_4, n_5, n_6, n_7, n_8, n_9, n_10, n_11, n_12, n_14, n_15, n_16, n_20, n_24, n_25, n_32, n_36, n_40, n_41, n_42, n_43, n_45, n_46, n_48, n_57, n_59, n_60, n_73, n_76, n_97, n_99, n_100, n_106, n_109, n_120, n_122, n_136, n_160, n_176, n_200, n_255, n_800, n_1000, n_1001, n_1002, n_1003, n_1006, n_1012, n_1018, n_1019, n_1020, n_1100, n_1140, n_4800, n_4920, n_5940, n_6740, n_20220, L_X9_run_48, B_X9_run_48, s.k0, s.r0, s.k1, s.l1, g1, g2, e1, e2]
    · have hp2 : min (j + 1) (nt (A 8) - nt (A 1000)) = 0 := by omega
      rw [hp2]
      refine ⟨μ, ?_, h, Fx.same⟩
      have h2 := hda.2
      clear ih h w hp2 ex hda c8
      generalize nt (A 1000) = d at *
      generalize nt (A 8) = n at *
      simp (disch := first | assumption | omega) only [q_bl, q_baT, q_bi, q_ba, q_pr, q_ob, q_iT, q_iN, q_it, q_if, q_of, nI_add, pk_mul, pk_sub, nI_leI, nI_ltI, nI_eq, nI_clamp, nI_lt0, nI_eqm, m1_eq, true_or, or_true, not_false_eq_true, m1_lt, m1_nlt, m1_le, m1_nle, b01, b011, q_em, q_m1, n_0, n_1, n_2, n_3, n_4, n_5, n_6, n_7, n_8, n_9, n_10, n_11, n_12, n_14, n_15, n_16, n_20, n_24, n_25, n_32, n_36, n_40, n_41, n_42, n_43, n_45, n_46, n_48, n_57, n_59, n_60, n_73, n_76, n_97, n_99, n_100, n_106, n_109, n_120, n_122, n_136, n_160, n_176, n_200, n_255, n_800, n_1000, n_1001, n_1002, n_1003, n_1006, n_1012, n_1018, n_1019, n_1020, n_1100, n_1140, n_4800, n_4920, n_5940, n_6740, n_20220, L_X9_run_48, B_X9_run_48, s.k0, s.r0, s.k1, s.l1, g1, g2, Nat.add_zero]
theorem r8_unf (h : INV μ x A) (h1 : A 1001 = nI 0) : F_X8_requireUnfinished x μ = some (.inr (), μ) := by
  have s := h.is.m1
  have hs := h.is
  have g : gI μ (x + 26) 11 = nI 0 := h.mo.2.1.2.2.2.2.2.2.2.2.2.2.trans h1
  clear h
  simp (disch := first | assumption | omega) only [q_bl, q_baT, q_bi, q_ba, q_pr, q_ob, q_iT, q_iN, q_it, q_if, q_of, nI_add, pk_mul, pk_sub, nI_leI, nI_ltI, nI_eq, nI_clamp, nI_lt0, nI_eqm, m1_eq, true_or, or_true, not_false_eq_true, m1_lt, m1_nlt, m1_le, m1_nle, b01, b011, q_em, q_m1, n_0, n_1, n_2, n_3, n_4, n_5, n_6, n_7, n_8, n_9, n_10, n_11, n_12, n_14, n_15, n_16, n_20, n_24, n_25, n_32, n_36, n_40, n_41, n_42, n_43, n_45, n_46, n_48, n_57, n_59, n_60, n_73, n_76, n_97, n_99, n_100, n_106, n_109, n_120, n_122, n_136, n_160, n_176, n_200, n_255, n_800, n_1000, n_1001, n_1002, n_1003, n_1006, n_1012, n_1018, n_1019, n_1020, n_1100, n_1140, n_4800, n_4920, n_5940, n_6740, n_20220, F_X8_requireUnfinished, hs.kx, hs.r1, s.k0, g]
theorem r8_unfN (h : INV μ x A) (h1 : A 1001 = nI 1) : F_X8_requireUnfinished x μ = some (.inl 2, μ) := by
  have s := h.is.m1
  have hs := h.is
  have g : gI μ (x + 26) 11 = nI 1 := h.mo.2.1.2.2.2.2.2.2.2.2.2.2.trans h1
  clear h
  simp (disch := first | assumption | omega) only [q_bl, q_baT, q_bi, q_ba, q_pr, q_ob, q_iT, q_iN, q_it, q_if, q_of, nI_add, pk_mul, pk_sub, nI_leI, nI_ltI, nI_eq, nI_clamp, nI_lt0, nI_eqm, m1_eq, true_or, or_true, not_false_eq_true, m1_lt, m1_nlt, m1_le, m1_nle, b01, b011, q_em, q_m1, n_0, n_1, n_2, n_3, n_4, n_5, n_6, n_7, n_8, n_9, n_10, n_11, n_12, n_14, n_15, n_16, n_20, n_24, n_25, n_32, n_36, n_40, n_41, n_42, n_43, n_45, n_46, n_48, n_57, n_59, n_60, n_73, n_76, n_97, n_99, n_100, n_106, n_109, n_120, n_122, n_136, n_160, n_176, n_200, n_255, n_800, n_1000, n_1001, n_1002, n_1003, n_1006, n_1012, n_1018, n_1019, n_1020, n_1100, n_1140, n_4800, n_4920, n_5940, n_6740, n_20220, F_X8_requireUnfinished, hs.kx, hs.r1, s.k0, g]
theorem INV.f01 (h : INV μ x A) : A 1001 = nI 0 ∨ A 1001 = nI 1 := by
  obtain ⟨n, e, _, h2⟩ := h.m.2.1
  by_cases h0 : n = 0
  · left; rw [e, h0]
  · right; rw [e, show n = 1 from by omega]
theorem RK_s19 {m : Nat} (f : Fx (s19 m) (stI μ m 5 (nI 0)) μ2) : RK μ μ2 m ∧ gI μ2 m 5 = nI 0 ∧ gJ μ2 (m + 12) = gJ μ (m + 12) := by
  have n0 : ¬ s19 m m := fun q => by unfold s19 at q; omega
  have n12 : ¬ s19 m (m + 12) := fun q => by unfold s19 at q; omega
  exact ⟨(RK.thr (v := nI 0)).trans (RK.of f (fun a ha => by unfold s19 at ha; omega)), by rw [f.I n0, q_iI, q_us], by rw [f.J n12, q_jI]⟩
theorem lw_run {i1 : Int32} (h : INV μ x A) : LW x (F_L_run x i1 (x + 132) μ) (F_X9_run (x + 120) i1) (fun b μ' => gJ μ' (x + 132) 0 = b.toInt64) := by
  have w := h.w
  have c8 := w.c8.2
  have hs := h.is
  have sr := h.is.sr
  have s := h.is.m1
  have bb := h.bb
  have j1 : (1 : Int64).toInt = 1 := by decide +kernel
  have j40 : (40 : Int64).toInt = 40 := by decide +kernel
  by_cases c0 : IP i1 40
  · rcases h.f01 with h1 | h1
    · obtain ⟨c, hc1, hc2, rfl⟩ := c0.ex (by decide)
      have q8 := r8_unf h h1
      have hda := h.m.1.ex (by omega)
      have g10 : gI μ (x + 26) 10 = nI (nt (A 1000)) := h.mo.2.1.2.2.2.2.2.2.2.2.2.1.trans hda.1
      obtain ⟨p, hp⟩ : ∃ p, min c (nt (A 8) - nt (A 1000)) = p := ⟨_, rfl⟩
      obtain ⟨μ1, e1, m1, f1⟩ := l8_run (x := x) (c := c) (d0 := nt (A 1000)) hc2 c FU 0 _ μ A (FU_gt (by omega)) (by omega) h.mo (by omega) hs (Nat.le_refl _)
      rw [hp] at e1 m1
      rw [show nt (A 1000) + p - nt (A 1000) = p from by omega] at e1
      have fc : Fx (CM x) μ μ1 := f1.mono (fun a ha => by unfold MR at ha; unfold CM; omega)
      have is1 := hs.fx fc
      have ra1 : RA (stJ μ1 (x + 132) 0 (nI p).toInt64) (x + 120) A := RA.out (h.ra.fx fc (by unfold CM; omega))
      have ra2 := ra1.thr (v := nI 0)
      obtain ⟨μ2, e2, p2, f2⟩ := l9_run (m := x + 120) hc2 c FU 0 _ _ A (FU_gt (by omega)) (by omega) ra2 h.ex (by omega)
      rw [hp] at e2 p2
      rw [Nat.zero_add] at e2
      obtain ⟨r1, r2, r3⟩ := RK_s19 f2
      have mB : MO μ1 (x + 26) (sp_procs p A) (BB (sp_procs p A)) := by rw [BB.procs w (by omega)]; exact m1
      refine LW.okm h (k := nI 0) (μ1 := stJ μ1 (x + 132) 0 (nI p).toInt64) (b := nI p) ?_ (fc.trans (Fx.stJ (by unfold CM; omega))) mB.jj ?_ r1 p2.2 r2 (fun _ => ?_)
      · have ko := is1.ko
        have lo := is1.lo
        clear m1 f1 fc ra1 ra2 e2 p2 f2 r1 r2 r3 mB h w hda is1
        generalize nt (A 1000) = d at *
        simp (disch := first | assumption | omega) only [q_bl, q_baT, q_bi, q_ba, q_pr, q_ob, q_iT, q_iN, q_it, q_if, q_of, nI_add, pk_mul, pk_sub, nI_leI, nI_ltI, nI_eq, nI_clamp, nI_lt0, nI_eqm, m1_eq, true_or, or_true, not_false_eq_true, m1_lt, m1_nlt, m1_le, m1_nle, b01, b011, q_em, q_m1, n_0, n_1, n_2, n_3, n_4, n_5, n_6, n_7, n_8, n_9, n_10, n_11, n_12, n_14, n_15, n_16, n_20, n_24, n_25, n_32, n_36, n_40, n_41, n_42, n_43, n_45, n_46, n_48, n_57, n_59, n_60, n_73, n_76, n_97, n_99, n_100, n_106, n_109, n_120, n_122, n_136, n_160, n_176, n_200, n_255, n_800, n_1000, n_1001, n_1002, n_1003, n_1006, n_1012, n_1018, n_1019, n_1020, n_1100, n_1140, n_4800, n_4920, n_5940, n_6740, n_20220, q_kI, q_lI, q_nI, q_rI, q_iI, q_jI, q_dI, q_kJ, q_lJ, q_nJ, q_rJ, q_iJ, q_jJ, q_dJ, q_kC, q_lC, q_nC, q_rC, q_jC, q_dC, q_kF, q_lF, q_nF, q_rF, q_jF, q_dF, q_us, q_un, q_ua, F_L_run, F_X8_run, q_prL, q_prR, hs.kx, hs.r1, s.k0, q8, g10, e1, ko, lo]
      · have bt := b9_I (μ := stJ μ1 (x + 132) 0 (nI p).toInt64) (i := nI c) j1 j40 ⟨by have := c0.1; omega, by have := c0.2; omega⟩
        have s1 := ra1.1
        have g1 : gI (stJ μ1 (x + 132) 0 (nI p).toInt64) (x + 120 + 1) 1001 = nI 0 := by rw [ra1.2]; exact h1
        have g1' : gI μ1 (x + 120 + 1) 1001 = nI 0 := g1
        clear m1 f1 fc ra1 ra2 p2 f2 r1 r2 r3 mB h w hda is1 e1
        simp (disch := first | assumption | omega) only [q_bl, q_baT, q_bi, q_ba, q_pr, q_ob, q_iT, q_iN, q_it, q_if, q_of, nI_add, pk_mul, pk_sub, nI_leI, nI_ltI, nI_eq, nI_clamp, nI_lt0, nI_eqm, m1_eq, true_or, or_true, not_false_eq_true, m1_lt, m1_nlt, m1_le, m1_nle, b01, b011, q_em, q_m1, n_0, n_1, n_2, n_3, n_4, n_5, n_6, n_7, n_8, n_9, n_10, n_11, n_12, n_14, n_15, n_16, n_20, n_24, n_25, n_32, n_36, n_40, n_41, n_42, n_43, n_45, n_46, n_48, n_57, n_59, n_60, n_73, n_76, n_97, n_99, n_100, n_106, n_109, n_120, n_122, n_136, n_160, n_176, n_200, n_255, n_800, n_1000, n_1001, n_1002, n_1003, n_1006, n_1012, n_1018, n_1019, n_1020, n_1100, n_1140, n_4800, n_4920, n_5940, n_6740, n_20220, q_kI, q_lI, q_nI, q_rI, q_iI, q_jI, q_dI, q_kJ, q_lJ, q_nJ, q_rJ, q_iJ, q_jJ, q_dJ, q_kC, q_lC, q_nC, q_rC, q_jC, q_dC, q_kF, q_lF, q_nF, q_rF, q_jF, q_dF, q_us, q_un, q_ua, F_X9_run, B_X9_run_34, bt, s1.k0, s1.r0, s1.k1, s1.l1, g1', e2]
      · rw [show x + 132 = x + 120 + 12 from rfl, r3, q_jJ, q_us]
    · have q8 := r8_unfN h h1
      have bt := b9_I (μ := μ) (i := i1) j1 j40 ⟨by have := c0.1; omega, by have := c0.2; omega⟩
      obtain ⟨c, hc1, hc2, rfl⟩ := c0.ex (by decide)
      have g1 : gI μ (x + 120 + 1) 1001 = nI 1 := by rw [h.ra.2]; exact h1
      refine LW.err h (k := nI 2) (b := nI 0) (by decide +kernel) ?_ ?_
      · clear h w g1 bt c0
        simp (disch := first | assumption | omega) only [q_bl, q_baT, q_bi, q_ba, q_pr, q_ob, q_iT, q_iN, q_it, q_if, q_of, nI_add, pk_mul, pk_sub, nI_leI, nI_ltI, nI_eq, nI_clamp, nI_lt0, nI_eqm, m1_eq, true_or, or_true, not_false_eq_true, m1_lt, m1_nlt, m1_le, m1_nle, b01, b011, q_em, q_m1, n_0, n_1, n_2, n_3, n_4, n_5, n_6, n_7, n_8, n_9, n_10, n_11, n_12, n_14, n_15, n_16, n_20, n_24, n_25, n_32, n_36, n_40, n_41, n_42, n_43, n_45, n_46, n_48, n_57, n_59, n_60, n_73, n_76, n_97, n_99, n_100, n_106, n_109, n_120, n_122, n_136, n_160, n_176, n_200, n_255, n_800, n_1000, n_1001, n_1002, n_1003, n_1006, n_1012, n_1018, n_1019, n_1020, n_1100, n_1140, n_4800, n_4920, n_5940, n_6740, n_20220, q_kI, q_lI, q_nI, q_rI, q_iI, q_jI, q_dI, q_kJ, q_lJ, q_nJ, q_rJ, q_iJ, q_jJ, q_dJ, q_kC, q_lC, q_nC, q_rC, q_jC, q_dC, q_kF, q_lF, q_nF, q_rF, q_jF, q_dF, q_us, q_un, q_ua, F_L_run, F_X8_run, q_prL, q_prR, hs.kx, q8]
      · clear h w q8 c0
        simp (disch := first | assumption | omega) only [q_bl, q_baT, q_bi, q_ba, q_pr, q_ob, q_iT, q_iN, q_it, q_if, q_of, nI_add, pk_mul, pk_sub, nI_leI, nI_ltI, nI_eq, nI_clamp, nI_lt0, nI_eqm, m1_eq, true_or, or_true, not_false_eq_true, m1_lt, m1_nlt, m1_le, m1_nle, b01, b011, q_em, q_m1, n_0, n_1, n_2, n_3, n_4, n_5, n_6, n_7, n_8, n_9, n_10, n_11, n_12, n_14, n_15, n_16, n_20, n_24, n_25, n_32, n_36, n_40, n_41, n_42, n_43, n_45, n_46, n_48, n_57, n_59, n_60, n_73, n_76, n_97, n_99, n_100, n_106, n_109, n_120, n_122, n_136, n_160, n_176, n_200, n_255, n_800, n_1000, n_1001, n_1002, n_1003, n_1006, n_1012, n_1018, n_1019, n_1020, n_1100, n_1140, n_4800, n_4920, n_5940, n_6740, n_20220, q_kI, q_lI, q_nI, q_rI, q_iI, q_jI, q_dI, q_kJ, q_lJ, q_nJ, q_rJ, q_iJ, q_jJ, q_dJ, q_kC, q_lC, q_nC, q_rC, q_jC, q_dC, q_kF, q_lF, q_nF, q_rF, q_jF, q_dF, q_us, q_un, q_ua, F_X9_run, B_X9_run_34, bt, sr.k0, sr.r0, sr.k1, sr.l1, g1]
  · have bt := b9_IN (μ := μ) (i := i1) j1 j40 (fun e => c0 ⟨by have := e.1; omega, by have := e.2; omega⟩)
    refine LW.err h (k := nI 1) (b := nI 0) (by decide +kernel) ?_ ?_
    · have q := IP.no c0 (by decide)
      clear h w bt c0
      rcases q with q | ⟨q1, q2⟩
      · simp (disch := first | assumption | omega) only [q_bl, q_baT, q_bi, q_ba, q_pr, q_ob, q_iT, q_iN, q_it, q_if, q_of, nI_add, pk_mul, pk_sub, nI_leI, nI_ltI, nI_eq, nI_clamp, nI_lt0, nI_eqm, m1_eq, true_or, or_true, not_false_eq_true, m1_lt, m1_nlt, m1_le, m1_nle, b01, b011, q_em, q_m1, n_0, n_1, n_2, n_3, n_4, n_5, n_6, n_7, n_8, n_9, n_10, n_11, n_12, n_14, n_15, n_16, n_20, n_24, n_25, n_32, n_36, n_40, n_41, n_42, n_43, n_45, n_46, n_48, n_57, n_59, n_60, n_73, n_76, n_97, n_99, n_100, n_106, n_109, n_120, n_122, n_136, n_160, n_176, n_200, n_255, n_800, n_1000, n_1001, n_1002, n_1003, n_1006, n_1012, n_1018, n_1019, n_1020, n_1100, n_1140, n_4800, n_4920, n_5940, n_6740, n_20220, q_kI, q_lI, q_nI, q_rI, q_iI, q_jI, q_dI, q_kJ, q_lJ, q_nJ, q_rJ, q_iJ, q_jJ, q_dJ, q_kC, q_lC, q_nC, q_rC, q_jC, q_dC, q_kF, q_lF, q_nF, q_rF, q_jF, q_dF, q_us, q_un, q_ua, F_L_run, F_X8_run, B_X8_run_11, q_prL, q_prR, hs.kx, q]
      · simp (disch := first | assumption | omega) only [q_bl, q_baT, q_bi, q_ba, q_pr, q_ob, q_iT, q_iN, q_it, q_if, q_of, nI_add, pk_mul, pk_sub, nI_leI, nI_ltI, nI_eq, nI_clamp, nI_lt0, nI_eqm, m1_eq, true_or, or_true, not_false_eq_true, m1_lt, m1_nlt, m1_le, m1_nle, b01, b011, q_em, q_m1, n_0, n_1, n_2, n_3, n_4, n_5, n_6, n_7, n_8, n_9, n_10, n_11, n_12, n_14, n_15, n_16, n_20, n_24, n_25, n_32, n_36, n_40, n_41, n_42, n_43, n_45, n_46, n_48, n_57, n_59, n_60, n_73, n_76, n_97, n_99, n_100, n_106, n_109, n_120, n_122, n_136, n_160, n_176, n_200, n_255, n_800, n_1000, n_1001, n_1002, n_1003, n_1006, n_1012, n_1018, n_1019, n_1020, n_1100, n_1140, n_4800, n_4920, n_5940, n_6740, n_20220, q_kI, q_lI, q_nI, q_rI, q_iI, q_jI, q_dI, q_kJ, q_lJ, q_nJ, q_rJ, q_iJ, q_jJ, q_dJ, q_kC, q_lC, q_nC, q_rC, q_jC, q_dC, q_kF, q_lF, q_nF, q_rF, q_jF, q_dF, q_us, q_un, q_ua, F_L_run, F_X8_run, B_X8_run_11, q_prL, q_prR, hs.kx, q1, q2]
    · clear h w c0
      simp (disch := first | assumption | omega) only [q_bl, q_baT, q_bi, q_ba, q_pr, q_ob, q_iT, q_iN, q_it, q_if, q_of, nI_add, pk_mul, pk_sub, nI_leI, nI_ltI, nI_eq, nI_clamp, nI_lt0, nI_eqm, m1_eq, true_or, or_true, not_false_eq_true, m1_lt, m1_nlt, m1_le, m1_nle, b01, b011, q_em, q_m1, n_0, n_1, n_2, n_3, n_4, n_5, n_6, n_7, n_8, n_9, n_10, n_11, n_12, n_14, n_15, n_16, n_20, n_24, n_25, n_32, n_36, n_40, n_41, n_42, n_43, n_45, n_46, n_48, n_57, n_59, n_60, n_73, n_76, n_97, n_99, n_100, n_106, n_109, n_120, n_122, n_136, n_160, n_176, n_200, n_255, n_800, n_1000, n_1001, n_1002, n_1003, n_1006, n_1012, n_1018, n_1019, n_1020, n_1100, n_1140, n_4800, n_4920, n_5940, n_6740, n_20220, q_kI, q_lI, q_nI, q_rI, q_iI, q_jI, q_dI, q_kJ, q_lJ, q_nJ, q_rJ, q_iJ, q_jJ, q_dJ, q_kC, q_lC, q_nC, q_rC, q_jC, q_dC, q_kF, q_lF, q_nF, q_rF, q_jF, q_dF, q_us, q_un, q_ua, F_X9_run, B_X9_run_34, bt, sr.k0]
theorem BB.fin (w : WB A) (hle : nt (A 1000) ≤ nt (A 8)) (h0 : A 1001 = nI 0) : BB (sp_tot (sp_procs (nt (A 8) - nt (A 1000)) A)) = BB A + 40 * (nt (A 8) - nt (A 1000)) + 40 := by
  have w2 : WB (sp_procs (nt (A 8) - nt (A 1000)) A) := w.cg (fun j hj => procs_o _ _ _ w (by omega) (by omega))
  have e1 : sp_tot (sp_procs (nt (A 8) - nt (A 1000)) A) 1000 = sp_procs (nt (A 8) - nt (A 1000)) A 1000 := by
    unfold sp_tot
    rw [ua_n (by omega)]
    split
    · rfl
    · exact cycs_o _ _ _ _ w2 (by decide) (by decide)
  unfold BB
  rw [e1, procs_0 _ _ w (by omega), show sp_tot (sp_procs (nt (A 8) - nt (A 1000)) A) 1001 = nI 1 from ua_s _ _ _, h0, nt0, nt_nI (by decide)]
  omega
theorem lw_finish (h : INV μ x A) : LW x (F_L_finish x (x + 132) μ) (F_X9_finish (x + 120)) (fun b μ' => gJ μ' (x + 132) 0 = b.toInt64) := by
  have w := h.w
  have c8 := w.c8.2
  have hs := h.is
  have sr := h.is.sr
  have s := h.is.m1
  have bb := h.bb
  rcases h.f01 with h1 | h1
  · have q8 := r8_unf h h1
    have hda := h.m.1.ex (by omega)
    have g10 : gI μ (x + 26) 10 = nI (nt (A 1000)) := h.mo.2.1.2.2.2.2.2.2.2.2.2.1.trans hda.1
    obtain ⟨μ1, e1, m1, f1⟩ := l_comp (r := x + 26) (nt (A 8) - nt (A 1000)) FU (BB A) μ A (FU_gt (by omega)) h.mo (by omega) (by omega)
    rw [← BB.fin w hda.2.2 h1] at m1
    have fc : Fx (CM x) μ μ1 := f1.mono (fun a ha => by unfold MR at ha; unfold CM; omega)
    have is1 := hs.fx fc
    obtain ⟨v, hv⟩ : ∃ v, sp_tot (sp_procs (nt (A 8) - nt (A 1000)) A) 1018 = v := ⟨_, rfl⟩
    have gp : gI μ1 (x + 26 + 26) 2 = v := m1.2.1.2.2.2.2.2.2.1.1.trans hv
    have ra1 : RA (stJ μ1 (x + 132) 0 v.toInt64) (x + 120) A := RA.out (h.ra.fx fc (by unfold CM; omega))
    have ra2 := ra1.thr (v := nI 0)
    obtain ⟨μ2, e2, p2, f2⟩ := x9_fin ra2 h.ex (by omega)
    have p2' : RA μ2 (x + 120) (sp_tot (sp_procs (nt (A 8) - nt (A 1000)) A)) := p2
    obtain ⟨r1, r2, r3⟩ := RK_s19 f2
    refine LW.okm h (k := nI 0) (μ1 := stJ μ1 (x + 132) 0 v.toInt64) (b := v) ?_ (fc.trans (Fx.stJ (by unfold CM; omega))) m1.jj ?_ r1 p2'.2 r2 (fun _ => ?_)
    · have ko := is1.ko
      have lo := is1.lo
      have s1 := s.fx f1
      have ec : F_X3_complete (x + 26) μ = some μ1 := by
        clear m1 f1 fc ra1 ra2 e2 p2 p2' f2 r1 r2 r3 h w gp is1 hv q8 hda
        simp (disch := first | assumption | omega) only [q_bl, q_baT, q_bi, q_ba, q_pr, q_ob, q_iT, q_iN, q_it, q_if, q_of, nI_add, pk_mul, pk_sub, nI_leI, nI_ltI, nI_eq, nI_clamp, nI_lt0, nI_eqm, m1_eq, true_or, or_true, not_false_eq_true, m1_lt, m1_nlt, m1_le, m1_nle, b01, b011, q_em, q_m1, n_0, n_1, n_2, n_3, n_4, n_5, n_6, n_7, n_8, n_9, n_10, n_11, n_12, n_14, n_15, n_16, n_20, n_24, n_25, n_32, n_36, n_40, n_41, n_42, n_43, n_45, n_46, n_48, n_57, n_59, n_60, n_73, n_76, n_97, n_99, n_100, n_106, n_109, n_120, n_122, n_136, n_160, n_176, n_200, n_255, n_800, n_1000, n_1001, n_1002, n_1003, n_1006, n_1012, n_1018, n_1019, n_1020, n_1100, n_1140, n_4800, n_4920, n_5940, n_6740, n_20220, F_X3_complete, s.k0, g10, e1]
      clear m1 f1 fc ra1 ra2 e2 p2 p2' f2 r1 r2 r3 h w hda hv e1
      simp (disch := first | assumption | omega) only [q_bl, q_baT, q_bi, q_ba, q_pr, q_ob, q_iT, q_iN, q_it, q_if, q_of, nI_add, pk_mul, pk_sub, nI_leI, nI_ltI, nI_eq, nI_clamp, nI_lt0, nI_eqm, m1_eq, true_or, or_true, not_false_eq_true, m1_lt, m1_nlt, m1_le, m1_nle, b01, b011, q_em, q_m1, n_0, n_1, n_2, n_3, n_4, n_5, n_6, n_7, n_8, n_9, n_10, n_11, n_12, n_14, n_15, n_16, n_20, n_24, n_25, n_32, n_36, n_40, n_41, n_42, n_43, n_45, n_46, n_48, n_57, n_59, n_60, n_73, n_76, n_97, n_99, n_100, n_106, n_109, n_120, n_122, n_136, n_160, n_176, n_200, n_255, n_800, n_1000, n_1001, n_1002, n_1003, n_1006, n_1012, n_1018, n_1019, n_1020, n_1100, n_1140, n_4800, n_4920, n_5940, n_6740, n_20220, q_kI, q_lI, q_nI, q_rI, q_iI, q_jI, q_dI, q_kJ, q_lJ, q_nJ, q_rJ, q_iJ, q_jJ, q_dJ, q_kC, q_lC, q_nC, q_rC, q_jC, q_dC, q_kF, q_lF, q_nF, q_rF, q_jF, q_dF, q_us, q_un, q_ua, F_L_finish, F_X8_finish, q_prL, q_prR, hs.kx, hs.r1, s.k0, q8, ec, is1.kx, is1.r1, s1.k0, s1.r7, s1.k26, gp, ko, lo]
    · have s1 := ra1.1
      have s2 := p2'.1
      have g2 : gI μ2 (x + 120 + 1) 1018 = v := by rw [p2'.2]; exact hv
      have g1' : gI μ1 (x + 120 + 1) 1001 = nI 0 := by
        have : gI (stJ μ1 (x + 132) 0 v.toInt64) (x + 120 + 1) 1001 = nI 0 := by rw [ra1.2]; exact h1
        exact this
      clear m1 f1 fc ra1 ra2 p2 p2' f2 r1 r2 r3 h w hda is1 e1 hv
      simp (disch := first | assumption | omega) only [q_bl, q_baT, q_bi, q_ba, q_pr, q_ob, q_iT, q_iN, q_it, q_if, q_of, nI_add, pk_mul, pk_sub, nI_leI, nI_ltI, nI_eq, nI_clamp, nI_lt0, nI_eqm, m1_eq, true_or, or_true, not_false_eq_true, m1_lt, m1_nlt, m1_le, m1_nle, b01, b011, q_em, q_m1, n_0, n_1, n_2, n_3, n_4, n_5, n_6, n_7, n_8, n_9, n_10, n_11, n_12, n_14, n_15, n_16, n_20, n_24, n_25, n_32, n_36, n_40, n_41, n_42, n_43, n_45, n_46, n_48, n_57, n_59, n_60, n_73, n_76, n_97, n_99, n_100, n_106, n_109, n_120, n_122, n_136, n_160, n_176, n_200, n_255, n_800, n_1000, n_1001, n_1002, n_1003, n_1006, n_1012, n_1018, n_1019, n_1020, n_1100, n_1140, n_4800, n_4920, n_5940, n_6740, n_20220, q_kI, q_lI, q_nI, q_rI, q_iI, q_jI, q_dI, q_kJ, q_lJ, q_nJ, q_rJ, q_iJ, q_jJ, q_dJ, q_kC, q_lC, q_nC, q_rC, q_jC, q_dC, q_kF, q_lF, q_nF, q_rF, q_jF, q_dF, q_us, q_un, q_ua, F_X9_finish, B_X9_finish_18, s1.k0, s1.r0, s1.k1, s1.l1, g1', e2, s2.k0, s2.r0, s2.k1, s2.l1, g2]
    · rw [show x + 132 = x + 120 + 12 from rfl, r3, q_jJ, q_us]
  · have q8 := r8_unfN h h1
    have g1 : gI μ (x + 120 + 1) 1001 = nI 1 := by rw [h.ra.2]; exact h1
    refine LW.err h (k := nI 1) (b := nI 0) (by decide +kernel) ?_ ?_
    · clear h w g1
      simp (disch := first | assumption | omega) only [q_bl, q_baT, q_bi, q_ba, q_pr, q_ob, q_iT, q_iN, q_it, q_if, q_of, nI_add, pk_mul, pk_sub, nI_leI, nI_ltI, nI_eq, nI_clamp, nI_lt0, nI_eqm, m1_eq, true_or, or_true, not_false_eq_true, m1_lt, m1_nlt, m1_le, m1_nle, b01, b011, q_em, q_m1, n_0, n_1, n_2, n_3, n_4, n_5, n_6, n_7, n_8, n_9, n_10, n_11, n_12, n_14, n_15, n_16, n_20, n_24, n_25, n_32, n_36, n_40, n_41, n_42, n_43, n_45, n_46, n_48, n_57, n_59, n_60, n_73, n_76, n_97, n_99, n_100, n_106, n_109, n_120, n_122, n_136, n_160, n_176, n_200, n_255, n_800, n_1000, n_1001, n_1002, n_1003, n_1006, n_1012, n_1018, n_1019, n_1020, n_1100, n_1140, n_4800, n_4920, n_5940, n_6740, n_20220, q_kI, q_lI, q_nI, q_rI, q_iI, q_jI, q_dI, q_kJ, q_lJ, q_nJ, q_rJ, q_iJ, q_jJ, q_dJ, q_kC, q_lC, q_nC, q_rC, q_jC, q_dC, q_kF, q_lF, q_nF, q_rF, q_jF, q_dF, q_us, q_un, q_ua, F_L_finish, F_X8_finish, q_prL, q_prR, hs.kx, q8]
    · clear h w q8
      simp (disch := first | assumption | omega) only [q_bl, q_baT, q_bi, q_ba, q_pr, q_ob, q_iT, q_iN, q_it, q_if, q_of, nI_add, pk_mul, pk_sub, nI_leI, nI_ltI, nI_eq, nI_clamp, nI_lt0, nI_eqm, m1_eq, true_or, or_true, not_false_eq_true, m1_lt, m1_nlt, m1_le, m1_nle, b01, b011, q_em, q_m1, n_0, n_1, n_2, n_3, n_4, n_5, n_6, n_7, n_8, n_9, n_10, n_11, n_12, n_14, n_15, n_16, n_20, n_24, n_25, n_32, n_36, n_40, n_41, n_42, n_43, n_45, n_46, n_48, n_57, n_59, n_60, n_73, n_76, n_97, n_99, n_100, n_106, n_109, n_120, n_122, n_136, n_160, n_176, n_200, n_255, n_800, n_1000, n_1001, n_1002, n_1003, n_1006, n_1012, n_1018, n_1019, n_1020, n_1100, n_1140, n_4800, n_4920, n_5940, n_6740, n_20220, q_kI, q_lI, q_nI, q_rI, q_iI, q_jI, q_dI, q_kJ, q_lJ, q_nJ, q_rJ, q_iJ, q_jJ, q_dJ, q_kC, q_lC, q_nC, q_rC, q_jC, q_dC, q_kF, q_lF, q_nF, q_rF, q_jF, q_dF, q_us, q_un, q_ua, F_X9_finish, B_X9_finish_18, sr.k0, sr.r0, sr.k1, sr.l1, g1]
end RUN

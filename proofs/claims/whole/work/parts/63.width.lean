/-! LAYER 3: the width that is needed -/
section WID
variable {μ μa μc μ1 μ2 : Mem} {x : Nat} {A B C : SA}
theorem tr_w {b c wd : Nat} (is : IS μ x) (mo : MO μ (x + 26) A b) (hc : c < nt (A 2)) (h1 : 1 ≤ wd) (h9 : wd ≤ 9) : ∃ μt, F_X3_takeSetup (x + 57) (x + 26 + 1) (x + 26 + 19) μ = some μt ∧ MO μt (x + 57) (sp_reset A) 0 ∧ MO (stI μt (x + 57 + 7) (c * 5) (nI wd)) (x + 57) (ua (sp_reset A) (43 + 5 * c) (nI wd)) 0 ∧ Fx (fun a => x + 57 ≤ a ∧ a < x + 88) μ μt := by
  have s := is.m1
  obtain ⟨μt, e1, mt, ft⟩ := x3_setup (r2 := x + 26) is.m2 s.sb s.sd mo.2.1.bd mo.2.2.1 (by omega)
  exact ⟨μt, e1, mt, mt.width (by rw [reset_lo (by decide)]; exact hc) h1 h9, ft.mono (fun a ha => ⟨ha.1, ha.2⟩)⟩
noncomputable def ovf (A : SA) (c wd : Nat) : Nat := nt (sp_fin (ua (sp_reset A) (43 + 5 * c) (nI wd)) (1012 + c))
theorem l8_ow {c n : Nat} (hc : c < 6) : ∀ (j fu i b : Nat) (μ : Mem) (A : SA), j < fu → i + j = n → nt (A 1000) = i → nt (A 8) = n → MO μ (x + 57) A b → b + 40 * j < 400000 → IS μ x →
    ∃ μ', L_X8_overflowsWithWidth_39 fu x (nI c) (nI i) μ = some ((if nt (sp_tot (sp_procs j A) (1012 + c)) = 0 then nI 0 else nI 1), μ') ∧ Fx (MR (x + 57)) μ μ' := by
  intro j
  induction j with
  | zero =>
    intro fu i b μ A hf he hi hn h hb is
    obtain ⟨fu, rfl⟩ : ∃ k, fu = k + 1 := ⟨fu - 1, by omega⟩
    obtain rfl : i = n := by omega
    have w := h.2.2.1
    have c8 := w.c8.2
    have n8 := h.2.1.n8 w
    have s := h.1
    rw [hn] at n8 c8
    obtain ⟨μ1, e1, m1, f1⟩ := x3_tot h (by omega)
    have v1 : gI μ1 (x + 57 + 22) c = sp_tot A (1012 + c) := m1.2.1.2.2.2.1 c hc
    obtain ⟨v2, _, v3⟩ := (m1.2.2.2.2.2.2.2.1 c hc).ex (by omega)
    rw [v2] at v1
    have s1 := m1.1
    have is1 := is.fx f1
    refine ⟨μ1, ?_, f1⟩
    show _ = some ((if nt (sp_tot A (1012 + c)) = 0 then nI 0 else nI 1), μ1)
    clear h w m1 f1 hi hn v2
    generalize nt (sp_tot A (1012 + c)) = v at *
    by_cases hv : v = 0
    · rw [if_pos hv]
      simp (disch := first | assumption | omega) only [q_bl, q_baT, q_bi, q_ba, q_pr, q_ob, q_iT, q_iN, q_it, q_if, q_of, nI_add, pk_mul, pk_sub, nI_leI, nI_ltI, nI_eq, nI_clamp, nI_lt0, nI_eqm, m1_eq, true_or, or_true, not_false_eq_true, m1_lt, m1_nlt, m1_le, m1_nle, b01, b011, q_em, q_m1, n_0, n_1, n_2, n_3, n_4, n_5, n_6, n_7, n_8, n_9, n_10, n_11, n_12, n_14, n_15, n_16, n_20, n_24, n_25, n_32, n_36, n_40, n_41, n_42, n_43, n_45, n_46, n_48, n_57, n_59, n_60, n_73, n_76, n_97, n_99, n_100, n_106, n_109, n_120, n_122, n_136, n_160, n_176, n_200, n_255, n_800, n_1000, n_1001, n_1002, n_1003, n_1006, n_1012, n_1018, n_1019, n_1020, n_1100, n_1140, n_4800, n_4920, n_5940, n_6740, n_20220, L_X8_overflowsWithWidth_39, B_X8_overflowsWithWidth_39, is.kx, is.r2, s.k0, s.r1, s.k19, n8, e1, is1.kx, is1.r2, s1.k0, s1.r3, s1.k22, s1.l22, v1]
    · rw [if_neg hv]
      simp (disch := first | assumption | omega) only [q_bl, q_baT, q_bi, q_ba, q_pr, q_ob, q_iT, q_iN, q_it, q_if, q_of, nI_add, pk_mul, pk_sub, nI_leI, nI_ltI, nI_eq, nI_clamp, nI_lt0, nI_eqm, m1_eq, true_or, or_true, not_false_eq_true, m1_lt, m1_nlt, m1_le, m1_nle, b01, b011, q_em, q_m1, n_0, n_1, n_2, n_3, n_4, n_5, n_6, n_7, n_8, n_9, n_10, n_11, n_12, n_14, n_15, n_16, n_20, n_24, n_25, n_32, n_36, n_40, n_41, n_42, n_43, n_45, n_46, n_48, n_57, n_59, n_60, n_73, n_76, n_97, n_99, n_100, n_106, n_109, n_120, n_122, n_136, n_160, n_176, n_200, n_255, n_800, n_1000, n_1001, n_1002, n_1003, n_1006, n_1012, n_1018, n_1019, n_1020, n_1100, n_1140, n_4800, n_4920, n_5940, n_6740, n_20220, L_X8_overflowsWithWidth_39, B_X8_overflowsWithWidth_39, is.kx, is.r2, s.k0, s.r1, s.k19, n8, e1, is1.kx, is1.r2, s1.k0, s1.r3, s1.k22, s1.l22, v1]
  | succ j ih =>
    intro fu i b μ A hf he hi hn h hb is
    obtain ⟨fu, rfl⟩ : ∃ k, fu = k + 1 := ⟨fu - 1, by omega⟩
    have w := h.2.2.1
    have c8 := w.c8.2
    have n8 := h.2.1.n8 w
    have s := h.1
    obtain ⟨μ1, e1, m1, f1⟩ := x3_proc h (by omega) (by omega)
    have e0 : nt (sp_proc A 1000) = nt (A 1000) + 1 := by rw [proc_0, nt_nI (by omega)]
    have e8 : sp_proc A 8 = A 8 := proc_o w (by decide) (by decide)
    have v1 : gI μ1 (x + 57 + 22) c = sp_proc A (1012 + c) := m1.2.1.2.2.2.1 c hc
    obtain ⟨v2, _, v3⟩ := (m1.2.2.2.2.2.2.2.1 c hc).ex (by omega)
    rw [v2] at v1
    have s1 := m1.1
    have is1 := is.fx f1
    rw [hn] at n8 c8
    show ∃ μ', _ = some ((if nt (sp_tot (sp_procs j (sp_proc A)) (1012 + c)) = 0 then nI 0 else nI 1), μ') ∧ _
    by_cases hv : nt (sp_proc A (1012 + c)) = 0
    · obtain ⟨μ2, e2, f2⟩ := ih fu (i + 1) (b + 40) μ1 (sp_proc A) (by omega) (by omega) (by omega) (by rw [e8]; exact hn) m1 (by omega) is1
      refine ⟨μ2, ?_, f1.trans f2⟩
      clear h w m1 f1 f2 ih hn hi e0 e8 v2
      generalize nt (sp_proc A (1012 + c)) = v at *
      simp (disch := first | assumption | omega) only [q_bl, q_baT, q_bi, q_ba, q_pr, q_ob, q_iT, q_iN, q_it, q_if, q_of, nI_add, pk_mul, pk_sub, nI_leI, nI_ltI, nI_eq, nI_clamp, nI_lt0, nI_eqm, m1_eq, true_or, or_true, not_false_eq_true, m1_lt, m1_nlt, m1_le, m1_nle, b01, b011, q_em, q_m1, n_0, n_1, n_2, n_3, n_4, n_5, n_6, n_7, n_8, n_9, n_10, n_11, n_12, n_14, n_15, n_16, n_20, n_24, n_25, n_32, n_36, n_40, n_41, n_42, n_43, n_45, n_46, n_48, n_57, n_59, n_60, n_73, n_76, n_97, n_99, n_100, n_106, n_109, n_120, n_122, n_136, n_160, n_176, n_200, n_255, n_800, n_1000, n_1001, n_1002, n_1003, n_1006, n_1012, n_1018, n_1019, n_1020, n_1100, n_1140, n_4800, n_4920, n_5940, n_6740, n_20220, L_X8_overflowsWithWidth_39, B_X8_overflowsWithWidth_39, is.kx, is.r2, s.k0, s.r1, s.k19, n8, e1, is1.kx, is1.r2, s1.k0, s1.r3, s1.k22, s1.l22, v1, e2]
    · have g := fin_mono hc j (b + 40) (sp_proc A) ⟨μ1, x + 57, m1⟩ (by omega) (by rw [e0, e8]; omega)
      refine ⟨μ1, ?_, f1⟩
      rw [if_neg (by omega)]
      clear h w m1 f1 ih hn hi e0 e8 v2 g
      generalize nt (sp_proc A (1012 + c)) = v at *
      simp (disch := first | assumption | omega) only [q_bl, q_baT, q_bi, q_ba, q_pr, q_ob, q_iT, q_iN, q_it, q_if, q_of, nI_add, pk_mul, pk_sub, nI_leI, nI_ltI, nI_eq, nI_clamp, nI_lt0, nI_eqm, m1_eq, true_or, or_true, not_false_eq_true, m1_lt, m1_nlt, m1_le, m1_nle, b01, b011, q_em, q_m1, n_0, n_1, n_2, n_3, n_4, n_5, n_6, n_7, n_8, n_9, n_10, n_11, n_12, n_14, n_15, n_16, n_20, n_24, n_25, n_32, n_36, n_40, n_41, n_42, n_43, n_45, n_46, n_48, n_57, n_59, n_60, n_73, n_76, n_97, n_99, n_100, n_106, n_109, n_120, n_122, n_136, n_160, n_176, n_200, n_255, n_800, n_1000, n_1001, n_1002, n_1003, n_1006, n_1012, n_1018, n_1019, n_1020, n_1100, n_1140, n_4800, n_4920, n_5940, n_6740, n_20220, L_X8_overflowsWithWidth_39, B_X8_overflowsWithWidth_39, is.kx, is.r2, s.k0, s.r1, s.k19, n8, e1, is1.kx, is1.r2, s1.k0, s1.r3, s1.k22, s1.l22, v1]
theorem x8_ow {b c wd : Nat} (is : IS μ x) (mo : MO μ (x + 26) A b) (hc : c < nt (A 2)) (h1 : 1 ≤ wd) (h9 : wd ≤ 9) : ∃ μ1, F_X8_overflowsWithWidth x (nI c) (nI wd) μ = some ((if ovf A c wd = 0 then nI 0 else nI 1), μ1) ∧ Fx (fun a => x + 57 ≤ a ∧ a < x + 88) μ μ1 := by
  have s := is.m1
  have t := is.m2
  have w := mo.2.2.1
  have c2 := w.c2.2
  have c8 := w.c8.2
  obtain ⟨μt, e1, mt, mw, ft⟩ := tr_w is mo hc h1 h9
  have t1 := mt.1
  have n2 := mt.2.1.n2 mt.2.2.1
  have r2 : sp_reset A 2 = A 2 := reset_lo (by decide)
  rw [r2] at n2
  have e2 := x6_put (p := 0) (v := nI wd) t1.st2 n2 (by omega) hc (by decide)
  have fw : Fx (fun a => x + 57 ≤ a ∧ a < x + 88) μt (stI μt (x + 57 + 7) (c * 5) (nI wd)) := Fx.stI ⟨by omega, by omega⟩
  have isw := is.fx (ft.trans fw)
  have q8 : ua (sp_reset A) (43 + 5 * c) (nI wd) 8 = A 8 := by rw [ua_n (by omega), reset_lo (by decide)]
  have q0 : nt (ua (sp_reset A) (43 + 5 * c) (nI wd) 1000) = 0 := by rw [ua_n (by omega), reset_0 (by decide) (by decide), nt0]
  obtain ⟨μ1, e3, f3⟩ := l8_ow (x := x) (c := c) (n := nt (A 8)) (by omega) (nt (A 8)) FU 0 0 _ _ (FU_gt (by omega)) (by omega) q0 (by rw [q8]) mw (by omega) isw
  have ev : nt (sp_tot (sp_procs (nt (A 8)) (ua (sp_reset A) (43 + 5 * c) (nI wd))) (1012 + c)) = ovf A c wd := by
    unfold ovf sp_fin
    rw [q8, q0, Nat.sub_zero]
  rw [ev] at e3
  refine ⟨μ1, ?_, (ft.trans fw).trans (f3.mono (fun a ha => ⟨ha.1, ha.2⟩))⟩
  have ist := is.fx ft
  have e2' : F_X6_put (x + 57 + 6) (nI c) (nI 0) (nI wd) μt = some (stI μt (x + 57 + 7) (c * 5) (nI wd)) := e2
  clear mo w mt mw ft fw isw q8 q0 f3 ev e2 n2 r2
  generalize ovf A c wd = o at *
  simp (disch := first | assumption | omega) only [q_bl, q_baT, q_bi, q_ba, q_pr, q_ob, q_iT, q_iN, q_it, q_if, q_of, nI_add, pk_mul, pk_sub, nI_leI, nI_ltI, nI_eq, nI_clamp, nI_lt0, nI_eqm, m1_eq, true_or, or_true, not_false_eq_true, m1_lt, m1_nlt, m1_le, m1_nle, b01, b011, q_em, q_m1, n_0, n_1, n_2, n_3, n_4, n_5, n_6, n_7, n_8, n_9, n_10, n_11, n_12, n_14, n_15, n_16, n_20, n_24, n_25, n_32, n_36, n_40, n_41, n_42, n_43, n_45, n_46, n_48, n_57, n_59, n_60, n_73, n_76, n_97, n_99, n_100, n_106, n_109, n_120, n_122, n_136, n_160, n_176, n_200, n_255, n_800, n_1000, n_1001, n_1002, n_1003, n_1006, n_1012, n_1018, n_1019, n_1020, n_1100, n_1140, n_4800, n_4920, n_5940, n_6740, n_20220, F_X8_overflowsWithWidth, is.kx, is.r1, is.r2, s.k0, s.r0, s.r1, t.k0, e1, ist.kx, ist.r2, t1.k0, t1.r0, t1.k1, t1.b2, t1.k6, e2', e3]
/-- rows that agree want the same width -/
theorem ovf_ext {b c wd : Nat} (is : IS μ x) (mo : MO μ (x + 26) A b) (hc : c < nt (A 2)) (h1 : 1 ≤ wd) (h9 : wd ≤ 9) (e : ∀ j, j < 6740 → B j = A j) : ovf B c wd = ovf A c wd ∧ EX (ua (sp_reset B) (43 + 5 * c) (nI wd)) 0 := by
  have c2 := mo.2.2.1.c2.2
  obtain ⟨μt, e1, _, mw, _⟩ := tr_w is mo hc h1 h9
  obtain ⟨μu, u1, _, mu, _⟩ := tr_w is (mo.ext e) (by rw [e 2 (by decide)]; exact hc) h1 h9
  rw [e1] at u1
  obtain rfl : μt = μu := Option.some.inj u1
  refine ⟨?_, ⟨_, _, mu⟩⟩
  obtain ⟨μ1, a1, a2, _⟩ := x3_comp mw (by decide)
  obtain ⟨μ2, b1, b2, _⟩ := x3_comp mu (by decide)
  rw [a1] at b1
  obtain rfl : μ1 = μ2 := Option.some.inj b1
  have v1 := a2.2.1.2.2.2.1 c (by omega)
  have v2 := b2.2.1.2.2.2.1 c (by omega)
  unfold ovf
  rw [← v1, ← v2]
noncomputable def nwv (A : SA) (c : Nat) : Nat → Nat → Int32
  | 0, _ => -nI 1
  | j + 1, wd => if ovf A c wd = 0 then nI wd else nwv A c j (wd + 1)
theorem l8_nw {b c : Nat} (hc : c < nt (A 2)) : ∀ (j fu wd : Nat) (μ : Mem), j < fu → wd + j = 10 → 1 ≤ wd → IS μ x → MO μ (x + 26) A b → ∃ μ', L_X8_neededWidth_7 fu x (nI c) (nI wd) μ = some (.inr (nwv A c j wd), μ') ∧ Fx (fun a => x + 57 ≤ a ∧ a < x + 88) μ μ' := by
  intro j
  induction j with
  | zero =>
    intro fu wd μ hf he h1 is mo
    obtain ⟨fu, rfl⟩ : ∃ k, fu = k + 1 := ⟨fu - 1, by omega⟩
    obtain rfl : wd = 10 := by omega
    refine ⟨μ, ?_, Fx.same⟩
    show _ = some (Sum.inr (-nI 1), μ)
    clear mo is
    simp (disch := first | assumption | omega) only [q_bl, q_baT, q_bi, q_ba, q_pr, q_ob, q_iT, q_iN, q_it, q_if, q_of, nI_add, pk_mul, pk_sub, nI_leI, nI_ltI, nI_eq, nI_clamp, nI_lt0, nI_eqm, m1_eq, true_or, or_true, not_false_eq_true, m1_lt, m1_nlt, m1_le, m1_nle, b01, b011, q_em, q_m1, n_0, n_1, n_2, n_3, n_4, n_5, n_6, n_7, n_8, n_9, n_10, n_11, n_12, n_14, n_15, n_16, n_20, n_24, n_25, n_32, n_36, n_40, n_41, n_42, n_43, n_45, n_46, n_48, n_57, n_59, n_60, n_73, n_76, n_97, n_99, n_100, n_106, n_109, n_120, n_122, n_136, n_160, n_176, n_200, n_255, n_800, n_1000, n_1001, n_1002, n_1003, n_1006, n_1012, n_1018, n_1019, n_1020, n_1100, n_1140, n_4800, n_4920, n_5940, n_6740, n_20220, L_X8_neededWidth_7, B_X8_neededWidth_7]
  | succ j ih =>
    intro fu wd μ hf he h1 is mo
    obtain ⟨fu, rfl⟩ : ∃ k, fu = k + 1 := ⟨fu - 1, by omega⟩
    obtain ⟨μ1, e1, f1⟩ := x8_ow is mo hc h1 (by omega)
    have kx := is.kx
    by_cases hv : ovf A c wd = 0
    · refine ⟨μ1, ?_, f1⟩
      show _ = some (Sum.inr (ite _ _ _), μ1)
      rw [if_pos hv]
      rw [if_pos hv] at e1
      clear mo is f1 ih hv
      simp (disch := first | assumption | omega) only [q_bl, q_baT, q_bi, q_ba, q_pr, q_ob, q_iT, q_iN, q_it, q_if, q_of, nI_add, pk_mul, pk_sub, nI_leI, nI_ltI, nI_eq, nI_clamp, nI_lt0, nI_eqm, m1_eq, true_or, or_true, not_false_eq_true, m1_lt, m1_nlt, m1_le, m1_nle, b01, b011, q_em, q_m1, n_0, n_1, n_2, n_3, n_4, n_5, n_6, n_7, n_8, n_9, n_10, n_11, n_12, n_14, n_15, n_16, n_20, n_24, n_25, n_32, n_36, n_40, n_41, n_42, n_43, n_45, n_46, n_48, n_57, n_59, n_60, n_73, n_76, n_97, n_99, n_100, n_106, n_109, n_120, n_122, n_136, n_160, n_176, n_200, n_255, n_800, n_1000, n_1001, n_1002, n_1003, n_1006, n_1012, n_1018, n_1019, n_1020, n_1100, n_1140, n_4800, n_4920, n_5940, n_6740, n_20220, L_X8_neededWidth_7, B_X8_neededWidth_7, kx, e1]
    · obtain ⟨μ2, e2, f2⟩ := ih fu (wd + 1) μ1 (by omega) (by omega) (by omega) (is.fx f1) (mo.fx f1 (fun a a1 a2 => by omega))
      refine ⟨μ2, ?_, f1.trans f2⟩
      show _ = some (Sum.inr (ite _ _ _), μ2)
      rw [if_neg hv]
      rw [if_neg hv] at e1
      clear mo is f1 f2 ih hv
      simp (disch := first | assumption | omega) only [q_bl, q_baT, q_bi, q_ba, q_pr, q_ob, q_iT, q_iN, q_it, q_if, q_of, nI_add, pk_mul, pk_sub, nI_leI, nI_ltI, nI_eq, nI_clamp, nI_lt0, nI_eqm, m1_eq, true_or, or_true, not_false_eq_true, m1_lt, m1_nlt, m1_le, m1_nle, b01, b011, q_em, q_m1, n_0, n_1, n_2, n_3, n_4, n_5, n_6, n_7, n_8, n_9, n_10, n_11, n_12, n_14, n_15, n_16, n_20, n_24, n_25, n_32, n_36, n_40, n_41, n_42, n_43, n_45, n_46, n_48, n_57, n_59, n_60, n_73, n_76, n_97, n_99, n_100, n_106, n_109, n_120, n_122, n_136, n_160, n_176, n_200, n_255, n_800, n_1000, n_1001, n_1002, n_1003, n_1006, n_1012, n_1018, n_1019, n_1020, n_1100, n_1140, n_4800, n_4920, n_5940, n_6740, n_20220, L_X8_neededWidth_7, B_X8_neededWidth_7, kx, e1, e2]
theorem l9_nw {m c : Nat} (hc : c < 6) (hx : ∀ (B : SA) (wd : Nat), (∀ j, j < 6740 → B j = A j) → 1 ≤ wd → wd ≤ 9 → ovf B c wd = ovf A c wd ∧ EX (ua (sp_reset B) (43 + 5 * c) (nI wd)) 0) : ∀ (j fu wd : Nat) (μ : Mem) (B : SA), j + 1 < fu → wd + j = 10 → 1 ≤ wd → RA μ m B → (∀ j, j < 6740 → B j = A j) →
    ∃ μ' B', RA μ' m B' ∧ (∀ j, j < 6740 → B' j = A j) ∧ Fx (st9 m) μ μ' ∧ L_X9_neededWidth_18 fu m (nI c) (-nI 1) (nI wd) μ = some (nwv A c j wd, μ') := by
  intro j
  induction j with
  | zero =>
    intro fu wd μ B hf he h1 h hB
    obtain ⟨fu, rfl⟩ : ∃ k, fu = k + 1 := ⟨fu - 1, by omega⟩
    obtain rfl : wd = 10 := by omega
    refine ⟨μ, B, h, hB, Fx.same, ?_⟩
    show _ = some (-nI 1, μ)
    clear h hx hB
    simp (disch := first | assumption | omega) only [q_bl, q_baT, q_bi, q_ba, q_pr, q_ob, q_iT, q_iN, q_it, q_if, q_of, nI_add, pk_mul, pk_sub, nI_leI, nI_ltI, nI_eq, nI_clamp, nI_lt0, nI_eqm, m1_eq, true_or, or_true, not_false_eq_true, m1_lt, m1_nlt, m1_le, m1_nle, b01, b011, q_em, q_m1, n_0, n_1, n_2, n_3, n_4, n_5, n_6, n_7, n_8, n_9, n_10, n_11, n_12, n_14, n_15, n_16, n_20, n_24, n_25, n_32, n_36, n_40, n_41, n_42, n_43, n_45, n_46, n_48, n_57, n_59, n_60, n_73, n_76, n_97, n_99, n_100, n_106, n_109, n_120, n_122, n_136, n_160, n_176, n_200, n_255, n_800, n_1000, n_1001, n_1002, n_1003, n_1006, n_1012, n_1018, n_1019, n_1020, n_1100, n_1140, n_4800, n_4920, n_5940, n_6740, n_20220, L_X9_neededWidth_18, B_X9_neededWidth_18]
  | succ j ih =>
    intro fu wd μ B hf he h1 h hB
    obtain ⟨fu, rfl⟩ : ∃ k, fu = k + 1 := ⟨fu - 1, by omega⟩
    obtain ⟨fv, rfl⟩ : ∃ k, fu = k + 1 := ⟨fu - 1, by omega⟩
    obtain ⟨o1, ex⟩ := hx B wd hB h1 (by omega)
    have s := h.1
    obtain ⟨μa, a1, a2, a3, a4⟩ := x9_aside h
    have ra := a2.put (j := 43 + 5 * c) (v := nI wd)
    obtain ⟨μb, b1, b2, b3⟩ := x9_fin ra ex (by decide)
    have ex2 : ∃ b, isN (sp_fin (ua (sp_reset B) (43 + 5 * c) (nI wd)) (1012 + c)) 0 b ∧ b ≤ 2000 := by
      obtain ⟨ν, r, hm⟩ := ex
      obtain ⟨ν1, _, n2, _⟩ := x3_comp hm (by decide)
      exact ⟨_, n2.2.2.2.2.2.2.2.1 c hc, by omega⟩
    obtain ⟨bb, ex3, ex4⟩ := ex2
    obtain ⟨v2, _, v3⟩ := ex3.ex (by omega)
    have gv : gI μb (m + 1) (1012 + c) = nI (ovf A c wd) := by rw [b2.2, v2, ← o1]; rfl
    have vb : ovf A c wd ≤ 2000 := by rw [← o1]; exact Nat.le_trans v3 ex4
    have fb : Fx (st9 m) (stI μa (m + 1) (43 + 5 * c) (nI wd)) μb := b3.mono (fun a ha => s19_st ha)
    have fa : Fx (st9 m) μ μb := (a4.mono (fun a ha => by unfold st9; omega)).trans ((Fx.stI (show st9 m (m + 1) from Or.inl rfl)).trans fb)
    obtain ⟨μc, c1, c2, c3⟩ := x9_back b2.1
    have hC : ∀ j, j < 6740 → (fun i => if i < 6740 then gI μb (m + 3) i else gI μb (m + 1) i) j = A j := fun j hj => by
      show (if j < 6740 then gI μb (m + 3) j else gI μb (m + 1) j) = _
      rw [if_pos hj, b3.I n3_s19, q_iI, q_ua (by omega), a3 j hj, hB j hj]
    have fc : Fx (st9 m) μ μc := fa.trans (c3.mono (fun a ha => Or.inl ha))
    have sa := a2.1
    have s2 := ra.1
    have sb := b2.1
    by_cases hv : ovf A c wd = 0
    · refine ⟨μc, _, c2, hC, fc, ?_⟩
      show _ = some (ite _ _ _, μc)
      rw [if_pos hv]
      rw [hv] at gv
      have e9 : nI wd = nI wd := rfl
      clear h hx hB ih a2 a3 a4 ra b2 b3 fb fa c2 c3 hC fc ex ex3 v2 v3 o1 hv
      by_cases h10 : wd = 9
      · subst h10
        simp (disch := first | assumption | omega) only [q_bl, q_baT, q_bi, q_ba, q_pr, q_ob, q_iT, q_iN, q_it, q_if, q_of, nI_add, pk_mul, pk_sub, nI_leI, nI_ltI, nI_eq, nI_clamp, nI_lt0, nI_eqm, m1_eq, true_or, or_true, not_false_eq_true, m1_lt, m1_nlt, m1_le, m1_nle, b01, b011, q_em, q_m1, n_0, n_1, n_2, n_3, n_4, n_5, n_6, n_7, n_8, n_9, n_10, n_11, n_12, n_14, n_15, n_16, n_20, n_24, n_25, n_32, n_36, n_40, n_41, n_42, n_43, n_45, n_46, n_48, n_57, n_59, n_60, n_73, n_76, n_97, n_99, n_100, n_106, n_109, n_120, n_122, n_136, n_160, n_176, n_200, n_255, n_800, n_1000, n_1001, n_1002, n_1003, n_1006, n_1012, n_1018, n_1019, n_1020, n_1100, n_1140, n_4800, n_4920, n_5940, n_6740, n_20220, L_X9_neededWidth_18, B_X9_neededWidth_18, B_X9_neededWidth_69, s.k0, a1, sa.k0, sa.r0, sa.k1, sa.l1, s2.k0, b1, sb.k0, sb.r0, sb.k1, sb.l1, gv, c1, Nat.add_zero]
      · simp (disch := first | assumption | omega) only [q_bl, q_baT, q_bi, q_ba, q_pr, q_ob, q_iT, q_iN, q_it, q_if, q_of, nI_add, pk_mul, pk_sub, nI_leI, nI_ltI, nI_eq, nI_clamp, nI_lt0, nI_eqm, m1_eq, true_or, or_true, not_false_eq_true, m1_lt, m1_nlt, m1_le, m1_nle, b01, b011, q_em, q_m1, n_0, n_1, n_2, n_3, n_4, n_5, n_6, n_7, n_8, n_9, n_10, n_11, n_12, n_14, n_15, n_16, n_20, n_24, n_25, n_32, n_36, n_40, n_41, n_42, n_43, n_45, n_46, n_48, n_57, n_59, n_60, n_73, n_76, n_97, n_99, n_100, n_106, n_109, n_120, n_122, n_136, n_160, n_176, n_200, n_255, n_800, n_1000, n_1001, n_1002, n_1003, n_1006, n_1012, n_1018, n_1019, n_1020, n_1100, n_1140, n_4800, n_4920, n_5940, n_6740, n_20220, L_X9_neededWidth_18, B_X9_neededWidth_18, B_X9_neededWidth_69, s.k0, a1, sa.k0, sa.r0, sa.k1, sa.l1, s2.k0, b1, sb.k0, sb.r0, sb.k1, sb.l1, gv, c1, Nat.add_zero]
    · obtain ⟨μd, D, d1, d2, d3, d4⟩ := ih (fv + 1) (wd + 1) μc _ (by omega) (by omega) (by omega) c2 hC
      refine ⟨μd, D, d1, d2, fc.trans d3, ?_⟩
      show _ = some (ite _ _ _, μd)
      rw [if_neg hv]
      have e1 := d4
      clear h hx hB ih a2 a3 a4 ra b2 b3 fb fa c2 c3 hC fc ex ex3 v2 v3 o1 d1 d2 d3 d4
      rw [show L_X9_neededWidth_18 (fv + 1 + 1) = B_X9_neededWidth_18 (L_X9_neededWidth_18 (fv + 1)) from rfl]
      generalize L_X9_neededWidth_18 (fv + 1) = k18 at *
      generalize ovf A c wd = o at *
      simp (disch := first | assumption | omega) only [q_bl, q_baT, q_bi, q_ba, q_pr, q_ob, q_iT, q_iN, q_it, q_if, q_of, nI_add, pk_mul, pk_sub, nI_leI, nI_ltI, nI_eq, nI_clamp, nI_lt0, nI_eqm, m1_eq, true_or, or_true, not_false_eq_true, m1_lt, m1_nlt, m1_le, m1_nle, b01, b011, q_em, q_m1, n_0, n_1, n_2, n_3, n_4, n_5, n_6, n_7, n_8, n_9, n_10, n_11, n_12, n_14, n_15, n_16, n_20, n_24, n_25, n_32, n_36, n_40, n_41, n_42, n_43, n_45, n_46, n_48, n_57, n_59, n_60, n_73, n_76, n_97, n_99, n_100, n_106, n_109, n_120, n_122, n_136, n_160, n_176, n_200, n_255, n_800, n_1000, n_1001, n_1002, n_1003, n_1006, n_1012, n_1018, n_1019, n_1020, n_1100, n_1140, n_4800, n_4920, n_5940, n_6740, n_20220, B_X9_neededWidth_18, B_X9_neededWidth_69, s.k0, a1, sa.k0, sa.r0, sa.k1, sa.l1, s2.k0, b1, sb.k0, sb.r0, sb.k1, sb.l1, gv, c1, Nat.add_zero, e1]
theorem lw_neededWidth {i1 : Int32} (h : INV μ x A) : LW x (F_L_neededWidth x i1 (x + 132) μ) (F_X9_neededWidth (x + 120) i1) (fun b μ' => gJ μ' (x + 132) 0 = b.toInt64) := by
  have w := h.w
  have c2' := w.c2.2
  have hs := h.is
  have sr := h.is.sr
  by_cases k1 : IR i1 (nt (A 2))
  · have q1 := r8_ctr h k1
    obtain ⟨c, hc, rfl⟩ := k1.ex (by omega)
    obtain ⟨μ1, e1, f1⟩ := l8_nw hc 9 FU 1 μ (FU_gt (by decide)) (by decide) (by decide) hs h.mo
    have fa : Fx (fun a => x + 57 ≤ a ∧ a < x + 119) μ μ1 := f1.mono (fun a ha => by omega)
    obtain ⟨v, hv⟩ : ∃ v, nwv A c 9 1 = v := ⟨_, rfl⟩
    rw [hv] at e1
    have ra1 : RA (stJ μ1 (x + 132) 0 v.toInt64) (x + 120) A := RA.out (h.ra.fx fa (by omega))
    have ra2 := ra1.thr (v := nI 0)
    obtain ⟨μ2, B, b1, b2, b3, b4⟩ := l9_nw (m := x + 120) (c := c) (A := A) (by omega) (fun B wd hB w1 w9 => ovf_ext hs h.mo hc w1 w9 hB) 9 FU 1 _ A (FU_gt (by decide)) (by decide) (by decide) ra2 (fun _ _ => rfl)
    rw [hv] at b4
    obtain ⟨r1, r2, r3⟩ := RK_st9 b3
    refine LW.tri h (μ1 := μ1) (v := v.toInt64) (b := v) ?_ fa ⟨μ2, B, ?_, b1, b2, r1, r2, r3⟩ (fun _ e => e)
    · have is1 := hs.fx fa
      have ko := is1.ko
      have lo := is1.lo
      clear h w fa f1 ra1 ra2 b1 b2 b3 b4 r1 r2 r3 is1 hv k1
      simp (disch := first | assumption | omega) only [q_bl, q_baT, q_bi, q_ba, q_pr, q_ob, q_iT, q_iN, q_it, q_if, q_of, nI_add, pk_mul, pk_sub, nI_leI, nI_ltI, nI_eq, nI_clamp, nI_lt0, nI_eqm, m1_eq, true_or, or_true, not_false_eq_true, m1_lt, m1_nlt, m1_le, m1_nle, b01, b011, q_em, q_m1, n_0, n_1, n_2, n_3, n_4, n_5, n_6, n_7, n_8, n_9, n_10, n_11, n_12, n_14, n_15, n_16, n_20, n_24, n_25, n_32, n_36, n_40, n_41, n_42, n_43, n_45, n_46, n_48, n_57, n_59, n_60, n_73, n_76, n_97, n_99, n_100, n_106, n_109, n_120, n_122, n_136, n_160, n_176, n_200, n_255, n_800, n_1000, n_1001, n_1002, n_1003, n_1006, n_1012, n_1018, n_1019, n_1020, n_1100, n_1140, n_4800, n_4920, n_5940, n_6740, n_20220, q_kI, q_lI, q_nI, q_rI, q_iI, q_jI, q_dI, q_kJ, q_lJ, q_nJ, q_rJ, q_iJ, q_jJ, q_dJ, q_kC, q_lC, q_nC, q_rC, q_jC, q_dC, q_kF, q_lF, q_nF, q_rF, q_jF, q_dF, q_us, q_un, q_ua, F_L_neededWidth, F_X8_neededWidth, q_prL, q_prR, hs.kx, q1, e1, ko, lo]
    · have p1 := q9_ctr ra1 w k1
      have s1 := ra1.1
      have s2 := ra2.1
      clear h w fa f1 b1 b2 b3 r1 r2 r3 hv k1 q1 e1 ra1 ra2
      simp (disch := first | assumption | omega) only [q_bl, q_baT, q_bi, q_ba, q_pr, q_ob, q_iT, q_iN, q_it, q_if, q_of, nI_add, pk_mul, pk_sub, nI_leI, nI_ltI, nI_eq, nI_clamp, nI_lt0, nI_eqm, m1_eq, true_or, or_true, not_false_eq_true, m1_lt, m1_nlt, m1_le, m1_nle, b01, b011, q_em, q_m1, n_0, n_1, n_2, n_3, n_4, n_5, n_6, n_7, n_8, n_9, n_10, n_11, n_12, n_14, n_15, n_16, n_20, n_24, n_25, n_32, n_36, n_40, n_41, n_42, n_43, n_45, n_46, n_48, n_57, n_59, n_60, n_73, n_76, n_97, n_99, n_100, n_106, n_109, n_120, n_122, n_136, n_160, n_176, n_200, n_255, n_800, n_1000, n_1001, n_1002, n_1003, n_1006, n_1012, n_1018, n_1019, n_1020, n_1100, n_1140, n_4800, n_4920, n_5940, n_6740, n_20220, F_X9_neededWidth, s1.k0, s2.k0, p1, q9_good s1, n_m1, b4]
  · have q1 := r8_ctrN h k1
    have p1 := q9_ctrN h.ra w k1
    exact LW.err h (k := nI 1) (b := nI 0) (by decide +kernel) (by simp (disch := first | assumption | omega) only [q_bl, q_baT, q_bi, q_ba, q_pr, q_ob, q_iT, q_iN, q_it, q_if, q_of, nI_add, pk_mul, pk_sub, nI_leI, nI_ltI, nI_eq, nI_clamp, nI_lt0, nI_eqm, m1_eq, true_or, or_true, not_false_eq_true, m1_lt, m1_nlt, m1_le, m1_nle, b01, b011, q_em, q_m1, n_0, n_1, n_2, n_3, n_4, n_5, n_6, n_7, n_8, n_9, n_10, n_11, n_12, n_14, n_15, n_16, n_20, n_24, n_25, n_32, n_36, n_40, n_41, n_42, n_43, n_45, n_46, n_48, n_57, n_59, n_60, n_73, n_76, n_97, n_99, n_100, n_106, n_109, n_120, n_122, n_136, n_160, n_176, n_200, n_255, n_800, n_1000, n_1001, n_1002, n_1003, n_1006, n_1012, n_1018, n_1019, n_1020, n_1100, n_1140, n_4800, n_4920, n_5940, n_6740, n_20220, q_kI, q_lI, q_nI, q_rI, q_iI, q_jI, q_dI, q_kJ, q_lJ, q_nJ, q_rJ, q_iJ, q_jJ, q_dJ, q_kC, q_lC, q_nC, q_rC, q_jC, q_dC, q_kF, q_lF, q_nF, q_rF, q_jF, q_dF, q_us, q_un, q_ua, F_L_neededWidth, F_X8_neededWidth, q_prL, q_prR, hs.kx, q1]) (by simp (disch := first | assumption | omega) only [q_bl, q_baT, q_bi, q_ba, q_pr, q_ob, q_iT, q_iN, q_it, q_if, q_of, nI_add, pk_mul, pk_sub, nI_leI, nI_ltI, nI_eq, nI_clamp, nI_lt0, nI_eqm, m1_eq, true_or, or_true, not_false_eq_true, m1_lt, m1_nlt, m1_le, m1_nle, b01, b011, q_em, q_m1, n_0, n_1, n_2, n_3, n_4, n_5, n_6, n_7, n_8, n_9, n_10, n_11, n_12, n_14, n_15, n_16, n_20, n_24, n_25, n_32, n_36, n_40, n_41, n_42, n_43, n_45, n_46, n_48, n_57, n_59, n_60, n_73, n_76, n_97, n_99, n_100, n_106, n_109, n_120, n_122, n_136, n_160, n_176, n_200, n_255, n_800, n_1000, n_1001, n_1002, n_1003, n_1006, n_1012, n_1018, n_1019, n_1020, n_1100, n_1140, n_4800, n_4920, n_5940, n_6740, n_20220, F_X9_neededWidth, sr.k0, p1, q9_goodN sr])
end WID

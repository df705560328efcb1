/-! LAYER 3: reset, restack -/
section RSK
variable {μ μ1 μ2 : Mem} {x : Nat} {A B : SA}
theorem lw_reset (h : INV μ x A) : ∃ μ1 μ2, F_X8_reset x μ = some μ1 ∧ F_X9_reset (x + 120) μ1 = some μ2 ∧ ∃ B, INV μ2 x B := by
  obtain ⟨μ1, e1, m1, f1, i1⟩ := chg_end h Fx.same h.mo.2.1.bd h.w
  have ra1 : RA μ1 (x + 120) A := h.ra.fx f1 (by unfold CM; omega)
  have ra2 := ra1.thr (v := nI 0)
  obtain ⟨μ2, e2, z1, z2, z3, z4, z5⟩ := chg9b (μa := μ1) ra2 Fx.same
  have hs := h.is
  have s1 := ra1.1
  refine ⟨μ1, μ2, ?_, ?_, _, h.step f1 m1 z2 z1.2⟩
  · clear m1 f1 i1 z1 z2 z3 z4 z5 e2 ra1 ra2
    have s := h.is.m1
    simp (disch := first | assumption | omega) only [q_bl, q_baT, q_bi, q_ba, q_pr, q_ob, q_iT, q_iN, q_it, q_if, q_of, nI_add, pk_mul, pk_sub, nI_leI, nI_ltI, nI_eq, nI_clamp, nI_lt0, nI_eqm, m1_eq, true_or, or_true, not_false_eq_true, m1_lt, m1_nlt, m1_le, m1_nle, b01, b011, q_em, q_m1, n_0, n_1, n_2, n_3, n_4, n_5, n_6, n_7, n_8, n_9, n_10, n_11, n_12, n_14, n_15, n_16, n_20, n_24, n_25, n_32, n_36, n_40, n_41, n_42, n_43, n_45, n_46, n_48, n_57, n_59, n_60, n_73, n_76, n_97, n_99, n_100, n_106, n_109, n_120, n_122, n_136, n_160, n_176, n_200, n_255, n_800, n_1000, n_1001, n_1002, n_1003, n_1006, n_1012, n_1018, n_1019, n_1020, n_1100, n_1140, n_4800, n_4920, n_5940, n_6740, n_20220, q_kI, q_lI, q_nI, q_rI, q_iI, q_jI, q_dI, q_kJ, q_lJ, q_nJ, q_rJ, q_iJ, q_jJ, q_dJ, q_kC, q_lC, q_nC, q_rC, q_jC, q_dC, q_kF, q_lF, q_nF, q_rF, q_jF, q_dF, q_us, q_un, q_ua, F_X8_reset, hs.kx, hs.r1, s.k0, e1]
  · clear m1 f1 i1 z1 z2 z3 z4 z5 e1 ra1 ra2
    simp (disch := first | assumption | omega) only [q_bl, q_baT, q_bi, q_ba, q_pr, q_ob, q_iT, q_iN, q_it, q_if, q_of, nI_add, pk_mul, pk_sub, nI_leI, nI_ltI, nI_eq, nI_clamp, nI_lt0, nI_eqm, m1_eq, true_or, or_true, not_false_eq_true, m1_lt, m1_nlt, m1_le, m1_nle, b01, b011, q_em, q_m1, n_0, n_1, n_2, n_3, n_4, n_5, n_6, n_7, n_8, n_9, n_10, n_11, n_12, n_14, n_15, n_16, n_20, n_24, n_25, n_32, n_36, n_40, n_41, n_42, n_43, n_45, n_46, n_48, n_57, n_59, n_60, n_73, n_76, n_97, n_99, n_100, n_106, n_109, n_120, n_122, n_136, n_160, n_176, n_200, n_255, n_800, n_1000, n_1001, n_1002, n_1003, n_1006, n_1012, n_1018, n_1019, n_1020, n_1100, n_1140, n_4800, n_4920, n_5940, n_6740, n_20220, q_kI, q_lI, q_nI, q_rI, q_iI, q_jI, q_dI, q_kJ, q_lJ, q_nJ, q_rJ, q_iJ, q_jJ, q_dJ, q_kC, q_lC, q_nC, q_rC, q_jC, q_dC, q_kF, q_lF, q_nF, q_rF, q_jF, q_dF, q_us, q_un, q_ua, F_X9_reset, s1.k0, e2]
def rk (A : SA) (k : Nat) : SA := fun i => if 200 ≤ i ∧ i < 200 + k then A (i + 5740) else A i
theorem rk_0 {A : SA} : rk A 0 = A := by funext i; unfold rk; rw [if_neg (by omega)]
theorem rk_s {A : SA} {k : Nat} : ua (rk A k) (200 + k) (A (5940 + k)) = rk A (k + 1) := by
  funext i
  by_cases hi : i = 200 + k
  · subst hi; rw [ua_s]; unfold rk; rw [if_pos (by omega)]; congr 1; omega
  · rw [ua_n hi]; unfold rk
    by_cases h2 : 200 ≤ i ∧ i < 200 + k
    · rw [if_pos h2, if_pos (by omega)]
    · rw [if_neg h2, if_neg (by omega)]
theorem rk_o {A : SA} {k i : Nat} (h : ¬ (200 ≤ i ∧ i < 200 + k)) : rk A k i = A i := by unfold rk; rw [if_neg h]
theorem rk_i {A : SA} {k i : Nat} (h1 : 200 ≤ i) (h2 : i < 200 + k) : rk A k i = A (i + 5740) := by unfold rk; rw [if_pos ⟨h1, h2⟩]
theorem l9_restk {m n : Nat} {A : SA} (hn : n ≤ 40) : ∀ (j fu k : Nat) (μ : Mem), j < fu → k + j = 20 * n → RA μ m (rk A k) → ∃ μc, RA μc m (ua (rk A (20 * n)) 8 (nI n)) ∧ Fx (fun a => a = m + 1) μ μc ∧ ∀ μ2, F_X9_resetMachine m μc = some μ2 → L_X9_restack_45 fu m (nI n) (nI k) μ = some (nI n, μ2) := by
  intro j
  induction j with
  | zero =>
    intro fu k μ hf he h
    obtain ⟨fu, rfl⟩ : ∃ k, fu = k + 1 := ⟨fu - 1, by omega⟩
    obtain rfl : k = 20 * n := by omega
    have s := h.1
    refine ⟨_, h.put (j := 8) (v := nI n), Fx.stI rfl, fun μ2 e => ?_⟩
    simp (disch := first | assumption | omega) only [q_bl, q_baT, q_bi, q_ba, q_pr, q_ob, q_iT, q_iN, q_it, q_if, q_of, nI_add, pk_mul, pk_sub, nI_leI, nI_ltI, nI_eq, nI_clamp, nI_lt0, nI_eqm, m1_eq, true_or, or_true, not_false_eq_true, m1_lt, m1_nlt, m1_le, m1_nle, b01, b011, q_em, q_m1, n_0, n_1, n_2, n_3, n_4, n_5, n_6, n_7, n_8, n_9, n_10, n_11, n_12, n_14, n_15, n_16, n_20, n_24, n_25, n_32, n_36, n_40, n_41, n_42, n_43, n_45, n_46, n_48, n_57, n_59, n_60, n_73, n_76, n_97, n_99, n_100, n_106, n_109, n_120, n_122, n_136, n_160, n_176, n_200, n_255, n_800, n_1000, n_1001, n_1002, n_1003, n_1006, n_1012, n_1018, n_1019, n_1020, n_1100, n_1140, n_4800, n_4920, n_5940, n_6740, n_20220, q_kI, q_lI, q_nI, q_rI, q_iI, q_jI, q_dI, q_kJ, q_lJ, q_nJ, q_rJ, q_iJ, q_jJ, q_dJ, q_kC, q_lC, q_nC, q_rC, q_jC, q_dC, q_kF, q_lF, q_nF, q_rF, q_jF, q_dF, q_us, q_un, q_ua, L_X9_restack_45, B_X9_restack_45, s.k0, s.r0, s.k1, s.l1, e]
  | succ j ih =>
    intro fu k μ hf he h
    obtain ⟨fu, rfl⟩ : ∃ k, fu = k + 1 := ⟨fu - 1, by omega⟩
    have s := h.1
    have hA : gI μ (m + 1) (5940 + k) = A (5940 + k) := by rw [h.2]; exact rk_o (by omega)
    have p1 := h.put (j := 200 + k) (v := A (5940 + k))
    rw [rk_s] at p1
    obtain ⟨μc, q1, q2, q3⟩ := ih fu (k + 1) _ (by omega) (by omega) p1
    refine ⟨μc, q1, (Fx.stI (P := fun a => a = m + 1) rfl).trans q2, fun μ2 e => ?_⟩
    have := q3 μ2 e
    simp (disch := first | assumption | omega) only [q_bl, q_baT, q_bi, q_ba, q_pr, q_ob, q_iT, q_iN, q_it, q_if, q_of, nI_add, pk_mul, pk_sub, nI_leI, nI_ltI, nI_eq, nI_clamp, nI_lt0, nI_eqm, m1_eq, true_or, or_true, not_false_eq_true, m1_lt, m1_nlt, m1_le, m1_nle, b01, b011, q_em, q_m1, n_0, n_1, n_2, n_3, n_4, n_5, n_6, n_7, n_8, n_9, n_10, n_11, n_12, n_14, n_15, n_16, n_20, n_24, n_25, n_32, n_36, n_40, n_41, n_42, n_43, n_45, n_46, n_48, n_57, n_59, n_60, n_73, n_76, n_97, n_99, n_100, n_106, n_109, n_120, n_122, n_136, n_160, n_176, n_200, n_255, n_800, n_1000, n_1001, n_1002, n_1003, n_1006, n_1012, n_1018, n_1019, n_1020, n_1100, n_1140, n_4800, n_4920, n_5940, n_6740, n_20220, q_kI, q_lI, q_nI, q_rI, q_iI, q_jI, q_dI, q_kJ, q_lJ, q_nJ, q_rJ, q_iJ, q_jJ, q_dJ, q_kC, q_lC, q_nC, q_rC, q_jC, q_dC, q_kF, q_lF, q_nF, q_rF, q_jF, q_dF, q_us, q_un, q_ua, L_X9_restack_45, B_X9_restack_45, s.k0, s.r0, s.k1, s.l1, hA, this]
theorem x9_restack {m n : Nat} (h : RA μ m A) (hn : n = min (nt (A 1019)) 40) (h0 : 1 ≤ nt (A 1019)) (hb : nt (A 1019) < 1000000) (h19 : A 1019 = nI (nt (A 1019))) : ∃ μ2, F_X9_restack m μ = some (nI n, μ2) ∧ RA μ2 m (sp_reset (ua (rk A (20 * n)) 8 (nI n))) ∧ RK μ μ2 m ∧ gI μ2 m 5 = nI 0 ∧ gJ μ2 (m + 12) = gJ μ (m + 12) := by
  have ra2 := h.thr (v := nI 0)
  have s1 := h.1
  have s2 := ra2.1
  obtain ⟨μc, q1, q2, q3⟩ := l9_restk (n := n) (A := A) (by omega) (20 * n) FU 0 _ (FU_gt (by omega)) (by omega) (by rw [rk_0]; exact ra2)
  obtain ⟨μ2, ez, z1, z2, z3, z4, z5⟩ := chg9b (μa := μ) q1 q2
  have e := q3 μ2 ez
  have g1 : gI μ (m + 1) 1019 = nI (nt (A 1019)) := by rw [h.2]; exact h19
  refine ⟨μ2, ?_, z1, z2, z3, z4⟩
  clear z1 z2 z3 z4 z5 q1 q2 q3 ra2 h h19
  generalize nt (A 1019) = t at *
  by_cases ht : t < 40
  · obtain rfl : n = t := by omega
    simp (disch := first | assumption | omega) only [q_bl, q_baT, q_bi, q_ba, q_pr, q_ob, q_iT, q_iN, q_it, q_if, q_of, nI_add, pk_mul, pk_sub, nI_leI, nI_ltI, nI_eq, nI_clamp, nI_lt0, nI_eqm, m1_eq, true_or, or_true, not_false_eq_true, m1_lt, m1_nlt, m1_le, m1_nle, b01, b011, q_em, q_m1, n_0, n_1, n_2, n_3, n_4, n_5, n_6, n_7, n_8, n_9, n_10, n_11, n_12, n_14, n_15, n_16, n_20, n_24, n_25, n_32, n_36, n_40, n_41, n_42, n_43, n_45, n_46, n_48, n_57, n_59, n_60, n_73, n_76, n_97, n_99, n_100, n_106, n_109, n_120, n_122, n_136, n_160, n_176, n_200, n_255, n_800, n_1000, n_1001, n_1002, n_1003, n_1006, n_1012, n_1018, n_1019, n_1020, n_1100, n_1140, n_4800, n_4920, n_5940, n_6740, n_20220, q_kI, q_lI, q_nI, q_rI, q_iI, q_jI, q_dI, q_kJ, q_lJ, q_nJ, q_rJ, q_iJ, q_jJ, q_dJ, q_kC, q_lC, q_nC, q_rC, q_jC, q_dC, q_kF, q_lF, q_nF, q_rF, q_jF, q_dF, q_us, q_un, q_ua, F_X9_restack, B_X9_restack_17, s1.k0, s1.r0, s1.k1, s1.l1, g1, e]
  · obtain rfl : n = 40 := by omega
    simp (disch := first | assumption | omega) only [q_bl, q_baT, q_bi, q_ba, q_pr, q_ob, q_iT, q_iN, q_it, q_if, q_of, nI_add, pk_mul, pk_sub, nI_leI, nI_ltI, nI_eq, nI_clamp, nI_lt0, nI_eqm, m1_eq, true_or, or_true, not_false_eq_true, m1_lt, m1_nlt, m1_le, m1_nle, b01, b011, q_em, q_m1, n_0, n_1, n_2, n_3, n_4, n_5, n_6, n_7, n_8, n_9, n_10, n_11, n_12, n_14, n_15, n_16, n_20, n_24, n_25, n_32, n_36, n_40, n_41, n_42, n_43, n_45, n_46, n_48, n_57, n_59, n_60, n_73, n_76, n_97, n_99, n_100, n_106, n_109, n_120, n_122, n_136, n_160, n_176, n_200, n_255, n_800, n_1000, n_1001, n_1002, n_1003, n_1006, n_1012, n_1018, n_1019, n_1020, n_1100, n_1140, n_4800, n_4920, n_5940, n_6740, n_20220, q_kI, q_lI, q_nI, q_rI, q_iI, q_jI, q_dI, q_kJ, q_lJ, q_nJ, q_rJ, q_iJ, q_jJ, q_dJ, q_kC, q_lC, q_nC, q_rC, q_jC, q_dC, q_kF, q_lF, q_nF, q_rF, q_jF, q_dF, q_us, q_un, q_ua, F_X9_restack, B_X9_restack_17, s1.k0, s1.r0, s1.k1, s1.l1, g1, e]
theorem x8_restack {n : Nat} (h : INV μ x A) (hn : n = min (nt (A 1019)) 40) (h0 : 1 ≤ nt (A 1019)) : ∃ μ1, F_X8_restack x μ = some (.inr (nI n), μ1) ∧ Fx (CM x) μ μ1 ∧ MO μ1 (x + 26) (sp_reset (ua (rk A (20 * n)) 8 (nI n))) (BB (sp_reset (ua (rk A (20 * n)) 8 (nI n)))) ∧ IS μ1 x := by
  have w := h.w
  have s := h.is.m1
  obtain ⟨μc, e1, f1, g1, g2⟩ := x2_cp s.sd s.su (by omega) (by omega) (by omega)
  have ru := h.mo.2.1.2.2.2.2.2.2.2.1
  have wl := h.m.2.2.2.2.2.2.2
  have rn : gI μ (x + 26 + 29) 1 = nI n := by rw [hn]; exact ru.1
  have nt8 : nt (nI n) = n := nt_nI (by omega)
  have eA : ∀ i, i < 200 → ¬ i = 8 → ua (rk A (20 * n)) 8 (nI n) i = A i := fun i hi h8 => by rw [ua_n h8, rk_o (by omega)]
  have wB : WB (ua (rk A (20 * n)) 8 (nI n)) := wb_deck w eA (by rw [ua_s]; exact ⟨n, rfl, by omega, by omega⟩) (fun i j hi j1 j2 => by
    rw [ua_s, nt8] at hi
    rw [ua_n (by omega), rk_i (by omega) (by omega), show 200 + 20 * i + j - 1 + 5740 = 5940 + 20 * i + j - 1 from by omega]
    exact wl i j (by omega) j1 j2)
  have rB : RBD (gI μc) (x + 26) (ua (rk A (20 * n)) 8 (nI n)) := by
    refine ⟨h.mo.2.1.1.deck w (fun a a1 a2 => f1.I (by omega)) eA, ?_, fun i j hi j1 j2 => ?_⟩
    · rw [g1, rn, ua_s]
    · rw [ua_s, nt8] at hi
      rw [ua_n (by omega), rk_i (by omega) (by omega), show 200 + 20 * i + j - 1 + 5740 = 5940 + 20 * i + j - 1 from by omega, g2 _ (by omega)]
      exact ru.2 i j (by omega) j1 j2
  obtain ⟨μ1, er, mr, fr1, is1⟩ := chg_end h (f1.mono (fun a ha => by unfold CM; omega)) rB wB
  refine ⟨μ1, ?_, fr1, mr, is1⟩
  have e8 : gI μ1 (x + 26 + 19) 1 = nI n := by rw [mr.2.1.2.1.1, reset_lo (by decide), ua_s]
  have hs := h.is
  have sc := s.fx f1
  have sr := s.fx fr1
  have hc := hs.fx f1
  clear wB rB eA mr fr1 h w ru wl g1 g2 f1
  generalize nt (A 1019) = t at *
  simp (disch := first | assumption | omega) only [q_bl, q_baT, q_bi, q_ba, q_pr, q_ob, q_iT, q_iN, q_it, q_if, q_of, nI_add, pk_mul, pk_sub, nI_leI, nI_ltI, nI_eq, nI_clamp, nI_lt0, nI_eqm, m1_eq, true_or, or_true, not_false_eq_true, m1_lt, m1_nlt, m1_le, m1_nle, b01, b011, q_em, q_m1, n_0, n_1, n_2, n_3, n_4, n_5, n_6, n_7, n_8, n_9, n_10, n_11, n_12, n_14, n_15, n_16, n_20, n_24, n_25, n_32, n_36, n_40, n_41, n_42, n_43, n_45, n_46, n_48, n_57, n_59, n_60, n_73, n_76, n_97, n_99, n_100, n_106, n_109, n_120, n_122, n_136, n_160, n_176, n_200, n_255, n_800, n_1000, n_1001, n_1002, n_1003, n_1006, n_1012, n_1018, n_1019, n_1020, n_1100, n_1140, n_4800, n_4920, n_5940, n_6740, n_20220, q_kI, q_lI, q_nI, q_rI, q_iI, q_jI, q_dI, q_kJ, q_lJ, q_nJ, q_rJ, q_iJ, q_jJ, q_dJ, q_kC, q_lC, q_nC, q_rC, q_jC, q_dC, q_kF, q_lF, q_nF, q_rF, q_jF, q_dF, q_us, q_un, q_ua, F_X8_restack, hs.kx, hs.r1, s.k0, s.r8, s.k29, s.r1, s.k19, rn, e1, hc.kx, hc.r1, sc.k0, er, is1.kx, is1.r1, sr.k0, sr.r1, sr.k19, e8]
theorem lw_restack (h : INV μ x A) : LW x (F_L_restack x (x + 132) μ) (F_X9_restack (x + 120)) (fun b μ' => gJ μ' (x + 132) 0 = b.toInt64) := by
  have s := h.is.m1
  have bb := h.bb
  have m19 := h.m.2.2.2.2.2.2.1.ex (by omega)
  have hs := h.is
  by_cases h0 : 1 ≤ nt (A 1019)
  · obtain ⟨n, hn⟩ : ∃ n, n = min (nt (A 1019)) 40 := ⟨_, rfl⟩
    obtain ⟨μ1, e1, fr1, mr, is1⟩ := x8_restack h hn h0
    have ra1 : RA (stJ μ1 (x + 132) 0 (nI n).toInt64) (x + 120) A := RA.out (h.ra.fx fr1 (by unfold CM; omega))
    obtain ⟨μ2, e2, z1, z2, z3, z4⟩ := x9_restack ra1 hn h0 (by omega) m19.1
    refine LW.chg h (μ1 := μ1) (v := (nI n).toInt64) (b := nI n) ?_ fr1 mr ⟨μ2, e2, z1, z2, z3, by rw [show x + 132 = x + 120 + 12 from rfl, z4, q_jJ, q_us]⟩ (fun _ e => e)
    have ko := is1.ko
    have lo := is1.lo
    clear h mr fr1 z1 z2 z3 z4 e2
    simp (disch := first | assumption | omega) only [q_bl, q_baT, q_bi, q_ba, q_pr, q_ob, q_iT, q_iN, q_it, q_if, q_of, nI_add, pk_mul, pk_sub, nI_leI, nI_ltI, nI_eq, nI_clamp, nI_lt0, nI_eqm, m1_eq, true_or, or_true, not_false_eq_true, m1_lt, m1_nlt, m1_le, m1_nle, b01, b011, q_em, q_m1, n_0, n_1, n_2, n_3, n_4, n_5, n_6, n_7, n_8, n_9, n_10, n_11, n_12, n_14, n_15, n_16, n_20, n_24, n_25, n_32, n_36, n_40, n_41, n_42, n_43, n_45, n_46, n_48, n_57, n_59, n_60, n_73, n_76, n_97, n_99, n_100, n_106, n_109, n_120, n_122, n_136, n_160, n_176, n_200, n_255, n_800, n_1000, n_1001, n_1002, n_1003, n_1006, n_1012, n_1018, n_1019, n_1020, n_1100, n_1140, n_4800, n_4920, n_5940, n_6740, n_20220, q_kI, q_lI, q_nI, q_rI, q_iI, q_jI, q_dI, q_kJ, q_lJ, q_nJ, q_rJ, q_iJ, q_jJ, q_dJ, q_kC, q_lC, q_nC, q_rC, q_jC, q_dC, q_kF, q_lF, q_nF, q_rF, q_jF, q_dF, q_us, q_un, q_ua, F_L_restack, q_prL, q_prR, hs.kx, e1, ko, lo]
  · have z : nt (A 1019) = 0 := by omega
    have ru := h.mo.2.1.2.2.2.2.2.2.2.1.1
    have sr := h.is.sr
    have g1 : gI μ (x + 120 + 1) 1019 = nI 0 := by rw [h.ra.2, m19.1, z]
    have rn : gI μ (x + 26 + 29) 1 = nI 0 := by rw [ru, z]; rfl
    exact LW.err h (k := nI 1) (b := nI 0) (by decide +kernel) (by simp (disch := first | assumption | omega) only [q_bl, q_baT, q_bi, q_ba, q_pr, q_ob, q_iT, q_iN, q_it, q_if, q_of, nI_add, pk_mul, pk_sub, nI_leI, nI_ltI, nI_eq, nI_clamp, nI_lt0, nI_eqm, m1_eq, true_or, or_true, not_false_eq_true, m1_lt, m1_nlt, m1_le, m1_nle, b01, b011, q_em, q_m1, n_0, n_1, n_2, n_3, n_4, n_5, n_6, n_7, n_8, n_9, n_10, n_11, n_12, n_14, n_15, n_16, n_20, n_24, n_25, n_32, n_36, n_40, n_41, n_42, n_43, n_45, n_46, n_48, n_57, n_59, n_60, n_73, n_76, n_97, n_99, n_100, n_106, n_109, n_120, n_122, n_136, n_160, n_176, n_200, n_255, n_800, n_1000, n_1001, n_1002, n_1003, n_1006, n_1012, n_1018, n_1019, n_1020, n_1100, n_1140, n_4800, n_4920, n_5940, n_6740, n_20220, q_kI, q_lI, q_nI, q_rI, q_iI, q_jI, q_dI, q_kJ, q_lJ, q_nJ, q_rJ, q_iJ, q_jJ, q_dJ, q_kC, q_lC, q_nC, q_rC, q_jC, q_dC, q_kF, q_lF, q_nF, q_rF, q_jF, q_dF, q_us, q_un, q_ua, F_L_restack, F_X8_restack, q_prL, q_prR, hs.kx, hs.r1, s.k0, s.r8, s.k29, rn]) (by simp (disch := first | assumption | omega) only [q_bl, q_baT, q_bi, q_ba, q_pr, q_ob, q_iT, q_iN, q_it, q_if, q_of, nI_add, pk_mul, pk_sub, nI_leI, nI_ltI, nI_eq, nI_clamp, nI_lt0, nI_eqm, m1_eq, true_or, or_true, not_false_eq_true, m1_lt, m1_nlt, m1_le, m1_nle, b01, b011, q_em, q_m1, n_0, n_1, n_2, n_3, n_4, n_5, n_6, n_7, n_8, n_9, n_10, n_11, n_12, n_14, n_15, n_16, n_20, n_24, n_25, n_32, n_36, n_40, n_41, n_42, n_43, n_45, n_46, n_48, n_57, n_59, n_60, n_73, n_76, n_97, n_99, n_100, n_106, n_109, n_120, n_122, n_136, n_160, n_176, n_200, n_255, n_800, n_1000, n_1001, n_1002, n_1003, n_1006, n_1012, n_1018, n_1019, n_1020, n_1100, n_1140, n_4800, n_4920, n_5940, n_6740, n_20220, q_kI, q_lI, q_nI, q_rI, q_iI, q_jI, q_dI, q_kJ, q_lJ, q_nJ, q_rJ, q_iJ, q_jJ, q_dJ, q_kC, q_lC, q_nC, q_rC, q_jC, q_dC, q_kF, q_lF, q_nF, q_rF, q_jF, q_dF, q_us, q_un, q_ua, F_X9_restack, B_X9_restack_17, sr.k0, sr.r0, sr.k1, sr.l1, g1])
end RSK

/-! LAYER 3: cards taken out and doubled, asked of both -/
section CD2
variable {μ μc μ1 μ2 : Mem} {x : Nat} {A B C : SA}
theorem deck_end {N : Nat} (h : INV μ x A) (f : Fx (fun a => a = x + 45 ∨ a = x + 46 ∨ (x + 57 ≤ a ∧ a < x + 119)) μ μc) (g : gI μc (x + 45) 1 = nI N) (hN : N ≤ 40) (hr : RDn (gI μc) (x + 45) C N) (hl : lcn C N) (hC : ∀ i, i < 200 → C i = A i) : ∃ μ1, F_X3_restart (x + 26) μc = some μ1 ∧ MO μ1 (x + 26) (sp_reset (ua C 8 (nI N))) (BB (sp_reset (ua C 8 (nI N)))) ∧ Fx (CM x) μ μ1 ∧ IS μ1 x ∧ gI μ1 (x + 45) 1 = nI N := by
  have w := h.w
  have nt8 : nt (nI N) = N := nt_nI (by omega)
  have eA : ∀ i, i < 200 → ¬ i = 8 → ua C 8 (nI N) i = A i := fun i hi h8 => by rw [ua_n h8, hC i hi]
  have wB : WB (ua C 8 (nI N)) := wb_deck w eA (by rw [ua_s]; exact ⟨N, rfl, by omega, hN⟩) (fun i j hi j1 j2 => by
    rw [ua_s, nt8] at hi
    rw [ua_n (by omega)]; exact hl i j hi j1 j2)
  have rB : RBD (gI μc) (x + 26) (ua C 8 (nI N)) := by
    refine ⟨h.mo.2.1.1.deck w (fun a a1 a2 => f.I (by omega)) eA, ?_, fun i j hi j1 j2 => ?_⟩
    · rw [ua_s]; exact g
    · rw [ua_s, nt8] at hi
      rw [ua_n (by omega)]; exact hr i j hi j1 j2
  obtain ⟨μ1, er, mr, fr1, is1⟩ := chg_end h (f.mono (fun a ha => by unfold CM; omega)) rB wB
  exact ⟨μ1, er, mr, fr1, is1, by rw [show x + 45 = x + 26 + 19 from rfl, mr.2.1.2.1.1, reset_lo (by decide), ua_s]⟩
theorem INV.rdn (h : INV μ x A) : RDn (gI μ) (x + 45) A (nt (A 8)) := h.mo.2.1.2.1.2
theorem INV.lcn (h : INV μ x A) : lcn A (nt (A 8)) := fun _ _ hi k1 k2 => h.w.lc hi k1 k2
-- removeCard
theorem x8_removeCard {c k n : Nat} (h : INV μ x A) (hn : nt (A 8) = n) (hk : c + k + 1 = n) : ∃ μ1, F_X8_removeCard x (nI c) μ = some (.inr (nI (n - 1)), μ1) ∧ Fx (CM x) μ μ1 ∧ MO μ1 (x + 26) (sp_reset (ua (rms k c A) 8 (nI (n - 1)))) (BB (sp_reset (ua (rms k c A) 8 (nI (n - 1))))) ∧ IS μ1 x := by
  have w := h.w
  have c8 := w.c8.2
  have s := h.is.m1
  have n8 := h.mo.2.1.n8 w
  rw [hn] at n8 c8
  obtain ⟨μc, e1, g1, r1, f1⟩ := l2_drop (A := A) (n := n) (by omega) k FU c μ (FU_gt (by omega)) hk s.sd n8 (hn ▸ h.rdn)
  have q1 := r8_card h (i := nI c) (by rw [IR.nI (by omega)]; omega)
  obtain ⟨μ1, er, mr, fr1, is1, e8⟩ := deck_end h (f1.mono (fun a ha => by omega)) g1 (by omega) (fun i j hi => r1 i j (by omega)) (fun i j hi => rms_lc (n := n) k c A (by omega) (hn ▸ h.lcn) i j (by omega)) (fun i hi => rms_lo k c A i hi)
  refine ⟨μ1, ?_, fr1, mr, is1⟩
  have hs := h.is
  have sc := s.fx f1
  have sr := s.fx fr1
  have hc := hs.fx f1
  have e9 : gI μ1 (x + 26 + 19) 1 = nI (n - 1) := e8
  have ed : F_X2_dropCard (x + 26 + 19) (nI c) μ = some μc := by
    have kd := s.k19
    clear mr fr1 h w r1 g1 f1 er e8 q1 is1 hs sc sr hc e9
    simp (disch := first | assumption | omega) only [q_bl, q_baT, q_bi, q_ba, q_pr, q_ob, q_iT, q_iN, q_it, q_if, q_of, nI_add, pk_mul, pk_sub, nI_leI, nI_ltI, nI_eq, nI_clamp, nI_lt0, nI_eqm, m1_eq, true_or, or_true, not_false_eq_true, m1_lt, m1_nlt, m1_le, m1_nle, b01, b011, q_em, q_m1, n_0, n_1, n_2, n_3, n_4, n_5, n_6, n_7, n_8, n_9, n_10, n_11, n_12, n_14, n_15, n_16, n_20, n_24, n_25, n_32, n_36, n_40, n_41, n_42, n_43, n_45, n_46, n_48, n_57, n_59, n_60, n_73, n_76, n_97, n_99, n_100, n_106, n_109, n_120, n_122, n_136, n_160, n_176, n_200, n_255, n_800, n_1000, n_1001, n_1002, n_1003, n_1006, n_1012, n_1018, n_1019, n_1020, n_1100, n_1140, n_4800, n_4920, n_5940, n_6740, n_20220, F_X2_dropCard, kd, n8, e1]
  clear mr fr1 h w r1 g1 f1 e1
  simp (disch := first | assumption | omega) only [q_bl, q_baT, q_bi, q_ba, q_pr, q_ob, q_iT, q_iN, q_it, q_if, q_of, nI_add, pk_mul, pk_sub, nI_leI, nI_ltI, nI_eq, nI_clamp, nI_lt0, nI_eqm, m1_eq, true_or, or_true, not_false_eq_true, m1_lt, m1_nlt, m1_le, m1_nle, b01, b011, q_em, q_m1, n_0, n_1, n_2, n_3, n_4, n_5, n_6, n_7, n_8, n_9, n_10, n_11, n_12, n_14, n_15, n_16, n_20, n_24, n_25, n_32, n_36, n_40, n_41, n_42, n_43, n_45, n_46, n_48, n_57, n_59, n_60, n_73, n_76, n_97, n_99, n_100, n_106, n_109, n_120, n_122, n_136, n_160, n_176, n_200, n_255, n_800, n_1000, n_1001, n_1002, n_1003, n_1006, n_1012, n_1018, n_1019, n_1020, n_1100, n_1140, n_4800, n_4920, n_5940, n_6740, n_20220, q_kI, q_lI, q_nI, q_rI, q_iI, q_jI, q_dI, q_kJ, q_lJ, q_nJ, q_rJ, q_iJ, q_jJ, q_dJ, q_kC, q_lC, q_nC, q_rC, q_jC, q_dC, q_kF, q_lF, q_nF, q_rF, q_jF, q_dF, q_us, q_un, q_ua, F_X8_removeCard, q_prR, q1, hs.kx, hs.r1, s.k0, s.r1, s.k19, ed, hc.kx, hc.r1, sc.k0, er, is1.kx, is1.r1, sr.k0, sr.r1, sr.k19, e9]
theorem x9_removeCard {m c k n : Nat} (h : RA μ m A) (w : WB A) (hn : nt (A 8) = n) (hk : c + k + 1 = n) : ∃ μ2, F_X9_removeCard m (nI c) μ = some (nI (n - 1), μ2) ∧ RA μ2 m (sp_reset (ua (rms k c A) 8 (nI (n - 1)))) ∧ RK μ μ2 m ∧ gI μ2 m 5 = nI 0 ∧ gJ μ2 (m + 12) = gJ μ (m + 12) := by
  have ra2 := h.thr (v := nI 0)
  have s1 := h.1
  have s2 := ra2.1
  have c8 := w.c8
  rw [hn] at c8
  obtain ⟨μc, q1, q2, q3⟩ := l9_rm (n := n) (by omega) k FU c _ A (FU_gt (by omega)) hk c8.1 ra2
  obtain ⟨μ2, ez, z1, z2, z3, z4, z5⟩ := chg9b (μa := μ) q1 q2
  have e := q3 μ2 ez
  have p1 := q9_card h w (i := nI c) (by rw [IR.nI (by omega)]; omega)
  have g8 : gI μ2 (m + 1) 8 = nI (n - 1) := by rw [z1.2, reset_lo (by decide), ua_s]
  refine ⟨μ2, ?_, z1, z2, z3, z4⟩
  have s3 := z1.1
  have et : F_X9_takeOut m (nI c) (stI μ m 5 (nI 0)) = some μ2 := by
    clear z1 z2 z3 z4 z5 q1 q2 q3 ra2 h w
    simp (disch := first | assumption | omega) only [q_bl, q_baT, q_bi, q_ba, q_pr, q_ob, q_iT, q_iN, q_it, q_if, q_of, nI_add, pk_mul, pk_sub, nI_leI, nI_ltI, nI_eq, nI_clamp, nI_lt0, nI_eqm, m1_eq, true_or, or_true, not_false_eq_true, m1_lt, m1_nlt, m1_le, m1_nle, b01, b011, q_em, q_m1, n_0, n_1, n_2, n_3, n_4, n_5, n_6, n_7, n_8, n_9, n_10, n_11, n_12, n_14, n_15, n_16, n_20, n_24, n_25, n_32, n_36, n_40, n_41, n_42, n_43, n_45, n_46, n_48, n_57, n_59, n_60, n_73, n_76, n_97, n_99, n_100, n_106, n_109, n_120, n_122, n_136, n_160, n_176, n_200, n_255, n_800, n_1000, n_1001, n_1002, n_1003, n_1006, n_1012, n_1018, n_1019, n_1020, n_1100, n_1140, n_4800, n_4920, n_5940, n_6740, n_20220, F_X9_takeOut, e]
  clear z1 z2 z3 z4 z5 q1 q2 q3 ra2 h w e
  simp (disch := first | assumption | omega) only [q_bl, q_baT, q_bi, q_ba, q_pr, q_ob, q_iT, q_iN, q_it, q_if, q_of, nI_add, pk_mul, pk_sub, nI_leI, nI_ltI, nI_eq, nI_clamp, nI_lt0, nI_eqm, m1_eq, true_or, or_true, not_false_eq_true, m1_lt, m1_nlt, m1_le, m1_nle, b01, b011, q_em, q_m1, n_0, n_1, n_2, n_3, n_4, n_5, n_6, n_7, n_8, n_9, n_10, n_11, n_12, n_14, n_15, n_16, n_20, n_24, n_25, n_32, n_36, n_40, n_41, n_42, n_43, n_45, n_46, n_48, n_57, n_59, n_60, n_73, n_76, n_97, n_99, n_100, n_106, n_109, n_120, n_122, n_136, n_160, n_176, n_200, n_255, n_800, n_1000, n_1001, n_1002, n_1003, n_1006, n_1012, n_1018, n_1019, n_1020, n_1100, n_1140, n_4800, n_4920, n_5940, n_6740, n_20220, F_X9_removeCard, s1.k0, p1, q9_good s1, s2.k0, et, s3.k0, s3.r0, s3.k1, s3.l1, g8]
theorem lw_removeCard {i1 : Int32} (h : INV μ x A) : LW x (F_L_removeCard x i1 (x + 132) μ) (F_X9_removeCard (x + 120) i1) (fun b μ' => gJ μ' (x + 132) 0 = b.toInt64) := by
  have w := h.w
  have c8 := w.c8.2
  have hs := h.is
  have sr := h.is.sr
  obtain ⟨n, hn⟩ : ∃ n, nt (A 8) = n := ⟨_, rfl⟩
  by_cases c0 : IR i1 (nt (A 8))
  · obtain ⟨c, hc, rfl⟩ := c0.ex (by omega)
    obtain ⟨k, hk⟩ : ∃ k, c + k + 1 = n := ⟨n - 1 - c, by omega⟩
    obtain ⟨μ1, e1, fr1, mr, is1⟩ := x8_removeCard h hn hk
    have ra1 : RA (stJ μ1 (x + 132) 0 (nI (n - 1)).toInt64) (x + 120) A := RA.out (h.ra.fx fr1 (by unfold CM; omega))
    obtain ⟨μ2, e2, z1, z2, z3, z4⟩ := x9_removeCard ra1 w hn hk
    refine LW.chg h (μ1 := μ1) (v := (nI (n - 1)).toInt64) (b := nI (n - 1)) ?_ fr1 mr ⟨μ2, e2, z1, z2, z3, by rw [show x + 132 = x + 120 + 12 from rfl, z4, q_jJ, q_us]⟩ (fun _ e => e)
    have ko := is1.ko
    have lo := is1.lo
    clear h mr fr1 z1 z2 z3 z4 e2 w
    simp (disch := first | assumption | omega) only [q_bl, q_baT, q_bi, q_ba, q_pr, q_ob, q_iT, q_iN, q_it, q_if, q_of, nI_add, pk_mul, pk_sub, nI_leI, nI_ltI, nI_eq, nI_clamp, nI_lt0, nI_eqm, m1_eq, true_or, or_true, not_false_eq_true, m1_lt, m1_nlt, m1_le, m1_nle, b01, b011, q_em, q_m1, n_0, n_1, n_2, n_3, n_4, n_5, n_6, n_7, n_8, n_9, n_10, n_11, n_12, n_14, n_15, n_16, n_20, n_24, n_25, n_32, n_36, n_40, n_41, n_42, n_43, n_45, n_46, n_48, n_57, n_59, n_60, n_73, n_76, n_97, n_99, n_100, n_106, n_109, n_120, n_122, n_136, n_160, n_176, n_200, n_255, n_800, n_1000, n_1001, n_1002, n_1003, n_1006, n_1012, n_1018, n_1019, n_1020, n_1100, n_1140, n_4800, n_4920, n_5940, n_6740, n_20220, q_kI, q_lI, q_nI, q_rI, q_iI, q_jI, q_dI, q_kJ, q_lJ, q_nJ, q_rJ, q_iJ, q_jJ, q_dJ, q_kC, q_lC, q_nC, q_rC, q_jC, q_dC, q_kF, q_lF, q_nF, q_rF, q_jF, q_dF, q_us, q_un, q_ua, F_L_removeCard, q_prL, q_prR, hs.kx, e1, ko, lo]
  · have q8 := r8_cardN h c0
    exact LW.err h (k := nI 1) (b := nI 0) (by decide +kernel) (by simp (disch := first | assumption | omega) only [q_bl, q_baT, q_bi, q_ba, q_pr, q_ob, q_iT, q_iN, q_it, q_if, q_of, nI_add, pk_mul, pk_sub, nI_leI, nI_ltI, nI_eq, nI_clamp, nI_lt0, nI_eqm, m1_eq, true_or, or_true, not_false_eq_true, m1_lt, m1_nlt, m1_le, m1_nle, b01, b011, q_em, q_m1, n_0, n_1, n_2, n_3, n_4, n_5, n_6, n_7, n_8, n_9, n_10, n_11, n_12, n_14, n_15, n_16, n_20, n_24, n_25, n_32, n_36, n_40, n_41, n_42, n_43, n_45, n_46, n_48, n_57, n_59, n_60, n_73, n_76, n_97, n_99, n_100, n_106, n_109, n_120, n_122, n_136, n_160, n_176, n_200, n_255, n_800, n_1000, n_1001, n_1002, n_1003, n_1006, n_1012, n_1018, n_1019, n_1020, n_1100, n_1140, n_4800, n_4920, n_5940, n_6740, n_20220, q_kI, q_lI, q_nI, q_rI, q_iI, q_jI, q_dI, q_kJ, q_lJ, q_nJ, q_rJ, q_iJ, q_jJ, q_dJ, q_kC, q_lC, q_nC, q_rC, q_jC, q_dC, q_kF, q_lF, q_nF, q_rF, q_jF, q_dF, q_us, q_un, q_ua, F_L_removeCard, F_X8_removeCard, q_prL, q_prR, hs.kx, q8]) (by simp (disch := first | assumption | omega) only [q_bl, q_baT, q_bi, q_ba, q_pr, q_ob, q_iT, q_iN, q_it, q_if, q_of, nI_add, pk_mul, pk_sub, nI_leI, nI_ltI, nI_eq, nI_clamp, nI_lt0, nI_eqm, m1_eq, true_or, or_true, not_false_eq_true, m1_lt, m1_nlt, m1_le, m1_nle, b01, b011, q_em, q_m1, n_0, n_1, n_2, n_3, n_4, n_5, n_6, n_7, n_8, n_9, n_10, n_11, n_12, n_14, n_15, n_16, n_20, n_24, n_25, n_32, n_36, n_40, n_41, n_42, n_43, n_45, n_46, n_48, n_57, n_59, n_60, n_73, n_76, n_97, n_99, n_100, n_106, n_109, n_120, n_122, n_136, n_160, n_176, n_200, n_255, n_800, n_1000, n_1001, n_1002, n_1003, n_1006, n_1012, n_1018, n_1019, n_1020, n_1100, n_1140, n_4800, n_4920, n_5940, n_6740, n_20220, F_X9_removeCard, sr.k0, q9_cardN h.ra w c0, q9_goodN sr])
-- copyCard
theorem x2_double {d c n : Nat} (h : SD μ d) (g : gI μ d 1 = nI n) (hn : n < 40) (hc : c < n) (hr : RDn (gI μ) d A n) : ∃ μ', F_X2_doubleCard d (nI c) μ = some μ' ∧ gI μ' d 1 = nI (n + 1) ∧ RDn (gI μ') d (cps (n - c) c A) (n + 1) ∧ Fx (fun a => a = d ∨ a = d + 1) μ μ' := by
  have e1 := x2_add h g hn
  have k1 := h.1
  have f1 : Fx (fun a => a = d ∨ a = d + 1) μ (stF (stI μ d 1 (nI (n + 1))) (d + 1) (n * 20) ((n + 1) * 20) (-nI 1)) := (Fx.stI (Or.inl rfl)).trans (Fx.stF (Or.inr rfl))
  obtain ⟨k, hk⟩ : ∃ k, c + k = n := ⟨n - c, by omega⟩
  have g2 : gI (stF (stI μ d 1 (nI (n + 1))) (d + 1) (n * 20) ((n + 1) * 20) (-nI 1)) d 1 = nI (n + 1) := by rw [q_iFo (by omega), q_iI, q_us]
  obtain ⟨μ', q1, q2, q3, q4⟩ := l2_dbl (A := A) (c := c) (N := n + 1) (by omega) k FU _ (FU_gt (by omega)) (by omega) (h.fx f1) g2 (fun i j hi hb j1 j2 => by
    rw [q_iF, if_neg (by omega), q_iI, q_un (by omega)]; exact hr i j (by omega) j1 j2)
  refine ⟨μ', ?_, q2, by rw [show n - c = k from by omega]; exact q3, f1.trans (q4.mono (fun a ha => Or.inr ha))⟩
  rw [hk] at q1
  clear q2 q3 q4 g2 f1 hr h
  simp (disch := first | assumption | omega) only [q_bl, q_baT, q_bi, q_ba, q_pr, q_ob, q_iT, q_iN, q_it, q_if, q_of, nI_add, pk_mul, pk_sub, nI_leI, nI_ltI, nI_eq, nI_clamp, nI_lt0, nI_eqm, m1_eq, true_or, or_true, not_false_eq_true, m1_lt, m1_nlt, m1_le, m1_nle, b01, b011, q_em, q_m1, n_0, n_1, n_2, n_3, n_4, n_5, n_6, n_7, n_8, n_9, n_10, n_11, n_12, n_14, n_15, n_16, n_20, n_24, n_25, n_32, n_36, n_40, n_41, n_42, n_43, n_45, n_46, n_48, n_57, n_59, n_60, n_73, n_76, n_97, n_99, n_100, n_106, n_109, n_120, n_122, n_136, n_160, n_176, n_200, n_255, n_800, n_1000, n_1001, n_1002, n_1003, n_1006, n_1012, n_1018, n_1019, n_1020, n_1100, n_1140, n_4800, n_4920, n_5940, n_6740, n_20220, F_X2_doubleCard, k1, e1, q1]
theorem cps_lc2 {n c : Nat} (hc : c < n) (h : lcn A n) : lcn (cps (n - c) c A) (n + 1) := by
  obtain ⟨k, hk⟩ : ∃ k, c + k + 1 = n := ⟨n - c - 1, by omega⟩
  obtain rfl : n = c + k + 1 := hk.symm
  rw [show c + k + 1 - c = k + 1 from by omega]
  show lcn (cps k c (mv A (c + k) (c + k + 1))) (c + k + 1 + 1)
  exact cps_lc k c _ (by omega) (lcn_mvS h)
theorem x8_copyCard {c n : Nat} (h : INV μ x A) (hn : nt (A 8) = n) (hc : c < n) (h40 : n < 40) : ∃ μ1, F_X8_copyCard x (nI c) μ = some (.inr (nI (n + 1)), μ1) ∧ Fx (CM x) μ μ1 ∧ MO μ1 (x + 26) (sp_reset (ua (cps (n - c) c A) 8 (nI (n + 1)))) (BB (sp_reset (ua (cps (n - c) c A) 8 (nI (n + 1))))) ∧ IS μ1 x := by
  have w := h.w
  have s := h.is.m1
  have n8 := h.mo.2.1.n8 w
  rw [hn] at n8
  obtain ⟨μc, e1, g1, r1, f1⟩ := x2_double s.sd n8 h40 hc (hn ▸ h.rdn)
  have q1 := r8_card h (i := nI c) (by rw [IR.nI (by omega)]; omega)
  obtain ⟨μ1, er, mr, fr1, is1, e8⟩ := deck_end h (f1.mono (fun a ha => by omega)) g1 (by omega) r1 (cps_lc2 hc (hn ▸ h.lcn)) (fun i hi => cps_lo _ c A i hi)
  refine ⟨μ1, ?_, fr1, mr, is1⟩
  have hs := h.is
  have sc := s.fx f1
  have sr := s.fx fr1
  have hc' := hs.fx f1
  have e9 : gI μ1 (x + 26 + 19) 1 = nI (n + 1) := e8
  clear mr fr1 h w r1 g1 f1
  simp (disch := first | assumption | omega) only [q_bl, q_baT, q_bi, q_ba, q_pr, q_ob, q_iT, q_iN, q_it, q_if, q_of, nI_add, pk_mul, pk_sub, nI_leI, nI_ltI, nI_eq, nI_clamp, nI_lt0, nI_eqm, m1_eq, true_or, or_true, not_false_eq_true, m1_lt, m1_nlt, m1_le, m1_nle, b01, b011, q_em, q_m1, n_0, n_1, n_2, n_3, n_4, n_5, n_6, n_7, n_8, n_9, n_10, n_11, n_12, n_14, n_15, n_16, n_20, n_24, n_25, n_32, n_36, n_40, n_41, n_42, n_43, n_45, n_46, n_48, n_57, n_59, n_60, n_73, n_76, n_97, n_99, n_100, n_106, n_109, n_120, n_122, n_136, n_160, n_176, n_200, n_255, n_800, n_1000, n_1001, n_1002, n_1003, n_1006, n_1012, n_1018, n_1019, n_1020, n_1100, n_1140, n_4800, n_4920, n_5940, n_6740, n_20220, q_kI, q_lI, q_nI, q_rI, q_iI, q_jI, q_dI, q_kJ, q_lJ, q_nJ, q_rJ, q_iJ, q_jJ, q_dJ, q_kC, q_lC, q_nC, q_rC, q_jC, q_dC, q_kF, q_lF, q_nF, q_rF, q_jF, q_dF, q_us, q_un, q_ua, F_X8_copyCard, q_prR, q1, hs.kx, hs.r1, s.k0, s.r1, s.k19, n8, e1, hc'.kx, hc'.r1, sc.k0, er, is1.kx, is1.r1, sr.k0, sr.r1, sr.k19, e9]
theorem x9_copyCard {m c n : Nat} (h : RA μ m A) (w : WB A) (hn : nt (A 8) = n) (hc : c < n) (h40 : n < 40) : ∃ μ2, F_X9_copyCard m (nI c) μ = some (nI (n + 1), μ2) ∧ RA μ2 m (sp_reset (ua (cps (n - c) c A) 8 (nI (n + 1)))) ∧ RK μ μ2 m ∧ gI μ2 m 5 = nI 0 ∧ gJ μ2 (m + 12) = gJ μ (m + 12) := by
  have ra2 := h.thr (v := nI 0)
  have s1 := h.1
  have s2 := ra2.1
  have c8 := w.c8
  rw [hn] at c8
  obtain ⟨μc, q1, q2, q3⟩ := l9_dbl (n := n) h40 hc (n - c) FU _ A (FU_gt (by omega)) (by omega) c8.1 ra2
  obtain ⟨μ2, ez, z1, z2, z3, z4, z5⟩ := chg9b (μa := μ) q1 q2
  have e := q3 μ2 _ ez z1.1 (by rw [z1.2, reset_lo (by decide), ua_s])
  have p1 := q9_card h w (i := nI c) (by rw [IR.nI (by omega)]; omega)
  have g8 : gI μ (m + 1) 8 = nI n := by rw [h.2]; exact c8.1
  refine ⟨μ2, ?_, z1, z2, z3, z4⟩
  rw [show c + (n - c) = n from by omega] at e
  clear z1 z2 z3 z4 z5 q1 q2 q3 ra2 h w
  simp (disch := first | assumption | omega) only [q_bl, q_baT, q_bi, q_ba, q_pr, q_ob, q_iT, q_iN, q_it, q_if, q_of, nI_add, pk_mul, pk_sub, nI_leI, nI_ltI, nI_eq, nI_clamp, nI_lt0, nI_eqm, m1_eq, true_or, or_true, not_false_eq_true, m1_lt, m1_nlt, m1_le, m1_nle, b01, b011, q_em, q_m1, n_0, n_1, n_2, n_3, n_4, n_5, n_6, n_7, n_8, n_9, n_10, n_11, n_12, n_14, n_15, n_16, n_20, n_24, n_25, n_32, n_36, n_40, n_41, n_42, n_43, n_45, n_46, n_48, n_57, n_59, n_60, n_73, n_76, n_97, n_99, n_100, n_106, n_109, n_120, n_122, n_136, n_160, n_176, n_200, n_255, n_800, n_1000, n_1001, n_1002, n_1003, n_1006, n_1012, n_1018, n_1019, n_1020, n_1100, n_1140, n_4800, n_4920, n_5940, n_6740, n_20220, q_kI, q_lI, q_nI, q_rI, q_iI, q_jI, q_dI, q_kJ, q_lJ, q_nJ, q_rJ, q_iJ, q_jJ, q_dJ, q_kC, q_lC, q_nC, q_rC, q_jC, q_dC, q_kF, q_lF, q_nF, q_rF, q_jF, q_dF, q_us, q_un, q_ua, F_X9_copyCard, B_X9_copyCard_23, s1.k0, s1.r0, s1.k1, s1.l1, p1, g8, q9_good2 s1, e]
theorem lw_copyCard {i1 : Int32} (h : INV μ x A) : LW x (F_L_copyCard x i1 (x + 132) μ) (F_X9_copyCard (x + 120) i1) (fun b μ' => gJ μ' (x + 132) 0 = b.toInt64) := by
  have w := h.w
  have c8 := w.c8
  have hs := h.is
  have sr := h.is.sr
  have s := h.is.m1
  obtain ⟨n, hn⟩ : ∃ n, nt (A 8) = n := ⟨_, rfl⟩
  have g8 : gI μ (x + 120 + 1) 8 = nI n := by rw [h.ra.2, ← hn]; exact c8.1
  by_cases c0 : IR i1 (nt (A 8))
  · have q8 := r8_card h c0
    by_cases h40 : n < 40
    · obtain ⟨c, hc, rfl⟩ := c0.ex (by omega)
      obtain ⟨μ1, e1, fr1, mr, is1⟩ := x8_copyCard (c := c) h hn (by omega) h40
      have ra1 : RA (stJ μ1 (x + 132) 0 (nI (n + 1)).toInt64) (x + 120) A := RA.out (h.ra.fx fr1 (by unfold CM; omega))
      obtain ⟨μ2, e2, z1, z2, z3, z4⟩ := x9_copyCard (c := c) ra1 w hn (by omega) h40
      refine LW.chg h (μ1 := μ1) (v := (nI (n + 1)).toInt64) (b := nI (n + 1)) ?_ fr1 mr ⟨μ2, e2, z1, z2, z3, by rw [show x + 132 = x + 120 + 12 from rfl, z4, q_jJ, q_us]⟩ (fun _ e => e)
      have ko := is1.ko
      have lo := is1.lo
      clear h mr fr1 z1 z2 z3 z4 e2 w
      simp (disch := first | assumption | omega) only [q_bl, q_baT, q_bi, q_ba, q_pr, q_ob, q_iT, q_iN, q_it, q_if, q_of, nI_add, pk_mul, pk_sub, nI_leI, nI_ltI, nI_eq, nI_clamp, nI_lt0, nI_eqm, m1_eq, true_or, or_true, not_false_eq_true, m1_lt, m1_nlt, m1_le, m1_nle, b01, b011, q_em, q_m1, n_0, n_1, n_2, n_3, n_4, n_5, n_6, n_7, n_8, n_9, n_10, n_11, n_12, n_14, n_15, n_16, n_20, n_24, n_25, n_32, n_36, n_40, n_41, n_42, n_43, n_45, n_46, n_48, n_57, n_59, n_60, n_73, n_76, n_97, n_99, n_100, n_106, n_109, n_120, n_122, n_136, n_160, n_176, n_200, n_255, n_800, n_1000, n_1001, n_1002, n_1003, n_1006, n_1012, n_1018, n_1019, n_1020, n_1100, n_1140, n_4800, n_4920, n_5940, n_6740, n_20220, q_kI, q_lI, q_nI, q_rI, q_iI, q_jI, q_dI, q_kJ, q_lJ, q_nJ, q_rJ, q_iJ, q_jJ, q_dJ, q_kC, q_lC, q_nC, q_rC, q_jC, q_dC, q_kF, q_lF, q_nF, q_rF, q_jF, q_dF, q_us, q_un, q_ua, F_L_copyCard, q_prL, q_prR, hs.kx, e1, ko, lo]
    · obtain rfl : n = 40 := by omega
      have n8 := h.mo.2.1.n8 w
      rw [hn] at n8
      have p8 := q9_card h.ra w c0
      refine LW.err h (k := nI 2) (b := nI 0) (by decide +kernel) ?_ ?_
      · clear h w c0 p8
        simp (disch := first | assumption | omega) only [q_bl, q_baT, q_bi, q_ba, q_pr, q_ob, q_iT, q_iN, q_it, q_if, q_of, nI_add, pk_mul, pk_sub, nI_leI, nI_ltI, nI_eq, nI_clamp, nI_lt0, nI_eqm, m1_eq, true_or, or_true, not_false_eq_true, m1_lt, m1_nlt, m1_le, m1_nle, b01, b011, q_em, q_m1, n_0, n_1, n_2, n_3, n_4, n_5, n_6, n_7, n_8, n_9, n_10, n_11, n_12, n_14, n_15, n_16, n_20, n_24, n_25, n_32, n_36, n_40, n_41, n_42, n_43, n_45, n_46, n_48, n_57, n_59, n_60, n_73, n_76, n_97, n_99, n_100, n_106, n_109, n_120, n_122, n_136, n_160, n_176, n_200, n_255, n_800, n_1000, n_1001, n_1002, n_1003, n_1006, n_1012, n_1018, n_1019, n_1020, n_1100, n_1140, n_4800, n_4920, n_5940, n_6740, n_20220, q_kI, q_lI, q_nI, q_rI, q_iI, q_jI, q_dI, q_kJ, q_lJ, q_nJ, q_rJ, q_iJ, q_jJ, q_dJ, q_kC, q_lC, q_nC, q_rC, q_jC, q_dC, q_kF, q_lF, q_nF, q_rF, q_jF, q_dF, q_us, q_un, q_ua, F_L_copyCard, F_X8_copyCard, q_prL, q_prR, hs.kx, hs.r1, s.k0, s.r1, s.k19, q8, n8]
      · clear h w c0 q8
        simp (disch := first | assumption | omega) only [q_bl, q_baT, q_bi, q_ba, q_pr, q_ob, q_iT, q_iN, q_it, q_if, q_of, nI_add, pk_mul, pk_sub, nI_leI, nI_ltI, nI_eq, nI_clamp, nI_lt0, nI_eqm, m1_eq, true_or, or_true, not_false_eq_true, m1_lt, m1_nlt, m1_le, m1_nle, b01, b011, q_em, q_m1, n_0, n_1, n_2, n_3, n_4, n_5, n_6, n_7, n_8, n_9, n_10, n_11, n_12, n_14, n_15, n_16, n_20, n_24, n_25, n_32, n_36, n_40, n_41, n_42, n_43, n_45, n_46, n_48, n_57, n_59, n_60, n_73, n_76, n_97, n_99, n_100, n_106, n_109, n_120, n_122, n_136, n_160, n_176, n_200, n_255, n_800, n_1000, n_1001, n_1002, n_1003, n_1006, n_1012, n_1018, n_1019, n_1020, n_1100, n_1140, n_4800, n_4920, n_5940, n_6740, n_20220, q_kI, q_lI, q_nI, q_rI, q_iI, q_jI, q_dI, q_kJ, q_lJ, q_nJ, q_rJ, q_iJ, q_jJ, q_dJ, q_kC, q_lC, q_nC, q_rC, q_jC, q_dC, q_kF, q_lF, q_nF, q_rF, q_jF, q_dF, q_us, q_un, q_ua, F_X9_copyCard, B_X9_copyCard_23, sr.k0, sr.r0, sr.k1, sr.l1, g8, p8, q9_good2M sr]
  · have q8 := r8_cardN h c0
    have p8 := q9_cardN h.ra w c0
    refine LW.err h (k := nI 1) (b := nI 0) (by decide +kernel) (by simp (disch := first | assumption | omega) only [q_bl, q_baT, q_bi, q_ba, q_pr, q_ob, q_iT, q_iN, q_it, q_if, q_of, nI_add, pk_mul, pk_sub, nI_leI, nI_ltI, nI_eq, nI_clamp, nI_lt0, nI_eqm, m1_eq, true_or, or_true, not_false_eq_true, m1_lt, m1_nlt, m1_le, m1_nle, b01, b011, q_em, q_m1, n_0, n_1, n_2, n_3, n_4, n_5, n_6, n_7, n_8, n_9, n_10, n_11, n_12, n_14, n_15, n_16, n_20, n_24, n_25, n_32, n_36, n_40, n_41, n_42, n_43, n_45, n_46, n_48, n_57, n_59, n_60, n_73, n_76, n_97, n_99, n_100, n_106, n_109, n_120, n_122, n_136, n_160, n_176, n_200, n_255, n_800, n_1000, n_1001, n_1002, n_1003, n_1006, n_1012, n_1018, n_1019, n_1020, n_1100, n_1140, n_4800, n_4920, n_5940, n_6740, n_20220, q_kI, q_lI, q_nI, q_rI, q_iI, q_jI, q_dI, q_kJ, q_lJ, q_nJ, q_rJ, q_iJ, q_jJ, q_dJ, q_kC, q_lC, q_nC, q_rC, q_jC, q_dC, q_kF, q_lF, q_nF, q_rF, q_jF, q_dF, q_us, q_un, q_ua, F_L_copyCard, F_X8_copyCard, q_prL, q_prR, hs.kx, q8]) ?_
    clear h w c0 q8
    by_cases h40 : n < 40
    · simp (disch := first | assumption | omega) only [q_bl, q_baT, q_bi, q_ba, q_pr, q_ob, q_iT, q_iN, q_it, q_if, q_of, nI_add, pk_mul, pk_sub, nI_leI, nI_ltI, nI_eq, nI_clamp, nI_lt0, nI_eqm, m1_eq, true_or, or_true, not_false_eq_true, m1_lt, m1_nlt, m1_le, m1_nle, b01, b011, q_em, q_m1, n_0, n_1, n_2, n_3, n_4, n_5, n_6, n_7, n_8, n_9, n_10, n_11, n_12, n_14, n_15, n_16, n_20, n_24, n_25, n_32, n_36, n_40, n_41, n_42, n_43, n_45, n_46, n_48, n_57, n_59, n_60, n_73, n_76, n_97, n_99, n_100, n_106, n_109, n_120, n_122, n_136, n_160, n_176, n_200, n_255, n_800, n_1000, n_1001, n_1002, n_1003, n_1006, n_1012, n_1018, n_1019, n_1020, n_1100, n_1140, n_4800, n_4920, n_5940, n_6740, n_20220, q_kI, q_lI, q_nI, q_rI, q_iI, q_jI, q_dI, q_kJ, q_lJ, q_nJ, q_rJ, q_iJ, q_jJ, q_dJ, q_kC, q_lC, q_nC, q_rC, q_jC, q_dC, q_kF, q_lF, q_nF, q_rF, q_jF, q_dF, q_us, q_un, q_ua, F_X9_copyCard, B_X9_copyCard_23, sr.k0, sr.r0, sr.k1, sr.l1, g8, p8, q9_good2N sr]
    · obtain rfl : n = 40 := by omega
      simp (disch := first | assumption | omega) only [q_bl, q_baT, q_bi, q_ba, q_pr, q_ob, q_iT, q_iN, q_it, q_if, q_of, nI_add, pk_mul, pk_sub, nI_leI, nI_ltI, nI_eq, nI_clamp, nI_lt0, nI_eqm, m1_eq, true_or, or_true, not_false_eq_true, m1_lt, m1_nlt, m1_le, m1_nle, b01, b011, q_em, q_m1, n_0, n_1, n_2, n_3, n_4, n_5, n_6, n_7, n_8, n_9, n_10, n_11, n_12, n_14, n_15, n_16, n_20, n_24, n_25, n_32, n_36, n_40, n_41, n_42, n_43, n_45, n_46, n_48, n_57, n_59, n_60, n_73, n_76, n_97, n_99, n_100, n_106, n_109, n_120, n_122, n_136, n_160, n_176, n_200, n_255, n_800, n_1000, n_1001, n_1002, n_1003, n_1006, n_1012, n_1018, n_1019, n_1020, n_1100, n_1140, n_4800, n_4920, n_5940, n_6740, n_20220, q_kI, q_lI, q_nI, q_rI, q_iI, q_jI, q_dI, q_kJ, q_lJ, q_nJ, q_rJ, q_iJ, q_jJ, q_dJ, q_kC, q_lC, q_nC, q_rC, q_jC, q_dC, q_kF, q_lF, q_nF, q_rF, q_jF, q_dF, q_us, q_un, q_ua, F_X9_copyCard, B_X9_copyCard_23, sr.k0, sr.r0, sr.k1, sr.l1, g8, p8, q9_good2N sr]
end CD2

/-! LAYER 3: restore, and save where a machine stands -/
section RES
variable {μ μ1 μ2 : Mem} {x : Nat} {A : SA}
theorem r8_slot {i : Nat} (hi : i < 3) : F_X8_requireSlot x (nI i) μ = some (.inr (), μ) := by simp (disch := first | assumption | omega) only [q_bl, q_baT, q_bi, q_ba, q_pr, q_ob, q_iT, q_iN, q_it, q_if, q_of, nI_add, pk_mul, pk_sub, nI_leI, nI_ltI, nI_eq, nI_clamp, nI_lt0, nI_eqm, m1_eq, true_or, or_true, not_false_eq_true, m1_lt, m1_nlt, m1_le, m1_nle, b01, b011, q_em, q_m1, n_0, n_1, n_2, n_3, n_4, n_5, n_6, n_7, n_8, n_9, n_10, n_11, n_12, n_14, n_15, n_16, n_20, n_24, n_25, n_32, n_36, n_40, n_41, n_42, n_43, n_45, n_46, n_48, n_57, n_59, n_60, n_73, n_76, n_97, n_99, n_100, n_106, n_109, n_120, n_122, n_136, n_160, n_176, n_200, n_255, n_800, n_1000, n_1001, n_1002, n_1003, n_1006, n_1012, n_1018, n_1019, n_1020, n_1100, n_1140, n_4800, n_4920, n_5940, n_6740, n_20220, F_X8_requireSlot]
theorem r8_slotN {i : Int32} (hi : ¬ IR i 3) : F_X8_requireSlot x i μ = some (.inl 0, μ) := by
  rcases IR.no hi (by decide) with q | ⟨q1, q2⟩
  · simp (disch := first | assumption | omega) only [q_bl, q_baT, q_bi, q_ba, q_pr, q_ob, q_iT, q_iN, q_it, q_if, q_of, nI_add, pk_mul, pk_sub, nI_leI, nI_ltI, nI_eq, nI_clamp, nI_lt0, nI_eqm, m1_eq, true_or, or_true, not_false_eq_true, m1_lt, m1_nlt, m1_le, m1_nle, b01, b011, q_em, q_m1, n_0, n_1, n_2, n_3, n_4, n_5, n_6, n_7, n_8, n_9, n_10, n_11, n_12, n_14, n_15, n_16, n_20, n_24, n_25, n_32, n_36, n_40, n_41, n_42, n_43, n_45, n_46, n_48, n_57, n_59, n_60, n_73, n_76, n_97, n_99, n_100, n_106, n_109, n_120, n_122, n_136, n_160, n_176, n_200, n_255, n_800, n_1000, n_1001, n_1002, n_1003, n_1006, n_1012, n_1018, n_1019, n_1020, n_1100, n_1140, n_4800, n_4920, n_5940, n_6740, n_20220, F_X8_requireSlot, B_X8_requireSlot_9]
  · simp (disch := first | assumption | omega) only [q_bl, q_baT, q_bi, q_ba, q_pr, q_ob, q_iT, q_iN, q_it, q_if, q_of, nI_add, pk_mul, pk_sub, nI_leI, nI_ltI, nI_eq, nI_clamp, nI_lt0, nI_eqm, m1_eq, true_or, or_true, not_false_eq_true, m1_lt, m1_nlt, m1_le, m1_nle, b01, b011, q_em, q_m1, n_0, n_1, n_2, n_3, n_4, n_5, n_6, n_7, n_8, n_9, n_10, n_11, n_12, n_14, n_15, n_16, n_20, n_24, n_25, n_32, n_36, n_40, n_41, n_42, n_43, n_45, n_46, n_48, n_57, n_59, n_60, n_73, n_76, n_97, n_99, n_100, n_106, n_109, n_120, n_122, n_136, n_160, n_176, n_200, n_255, n_800, n_1000, n_1001, n_1002, n_1003, n_1006, n_1012, n_1018, n_1019, n_1020, n_1100, n_1140, n_4800, n_4920, n_5940, n_6740, n_20220, F_X8_requireSlot, B_X8_requireSlot_9]
theorem q9_slot {i : Nat} (hi : i < 3) : F_X9_isSlot (nI i) μ = some (nI 1) := by
  have j0 : (0 : Int64).toInt = 0 := by decide +kernel
  have j2 : (2 : Int64).toInt = 2 := by decide +kernel
  have e := b9_I (μ := μ) (i := nI i) j0 j2 ⟨by rw [nI_toInt (by omega)]; omega, by rw [nI_toInt (by omega)]; omega⟩
  simp (disch := first | assumption | omega) only [q_bl, q_baT, q_bi, q_ba, q_pr, q_ob, q_iT, q_iN, q_it, q_if, q_of, nI_add, pk_mul, pk_sub, nI_leI, nI_ltI, nI_eq, nI_clamp, nI_lt0, nI_eqm, m1_eq, true_or, or_true, not_false_eq_true, m1_lt, m1_nlt, m1_le, m1_nle, b01, b011, q_em, q_m1, n_0, n_1, n_2, n_3, n_4, n_5, n_6, n_7, n_8, n_9, n_10, n_11, n_12, n_14, n_15, n_16, n_20, n_24, n_25, n_32, n_36, n_40, n_41, n_42, n_43, n_45, n_46, n_48, n_57, n_59, n_60, n_73, n_76, n_97, n_99, n_100, n_106, n_109, n_120, n_122, n_136, n_160, n_176, n_200, n_255, n_800, n_1000, n_1001, n_1002, n_1003, n_1006, n_1012, n_1018, n_1019, n_1020, n_1100, n_1140, n_4800, n_4920, n_5940, n_6740, n_20220, F_X9_isSlot, e]
theorem q9_slotN {i : Int32} (hi : ¬ IR i 3) : F_X9_isSlot i μ = some (nI 0) := by
  have j0 : (0 : Int64).toInt = 0 := by decide +kernel
  have j2 : (2 : Int64).toInt = 2 := by decide +kernel
  have e := b9_IN (μ := μ) (i := i) j0 j2 (fun q => hi ⟨q.1, by have := q.2; omega⟩)
  simp (disch := first | assumption | omega) only [q_bl, q_baT, q_bi, q_ba, q_pr, q_ob, q_iT, q_iN, q_it, q_if, q_of, nI_add, pk_mul, pk_sub, nI_leI, nI_ltI, nI_eq, nI_clamp, nI_lt0, nI_eqm, m1_eq, true_or, or_true, not_false_eq_true, m1_lt, m1_nlt, m1_le, m1_nle, b01, b011, q_em, q_m1, n_0, n_1, n_2, n_3, n_4, n_5, n_6, n_7, n_8, n_9, n_10, n_11, n_12, n_14, n_15, n_16, n_20, n_24, n_25, n_32, n_36, n_40, n_41, n_42, n_43, n_45, n_46, n_48, n_57, n_59, n_60, n_73, n_76, n_97, n_99, n_100, n_106, n_109, n_120, n_122, n_136, n_160, n_176, n_200, n_255, n_800, n_1000, n_1001, n_1002, n_1003, n_1006, n_1012, n_1018, n_1019, n_1020, n_1100, n_1140, n_4800, n_4920, n_5940, n_6740, n_20220, F_X9_isSlot, e]
theorem lw_restore {i1 : Int32} (h : INV μ x A) : LW x (F_L_restore x i1 (x + 132) μ) (F_X9_restore (x + 120) i1) (fun b μ' => gJ μ' (x + 132) 0 = b.toInt64) := by
  have hs := h.is
  have sr := h.is.sr
  have s := h.is.m1
  by_cases k1 : IR i1 3
  · obtain ⟨i, hi, rfl⟩ := k1.ex (by decide)
    rcases h.2.2.2.1.1 i hi with ⟨z1, z2⟩ | ⟨z1, z2, z3, B, z4, z5⟩
    · have z2' : gI μ (x + 120 + 5) i = nI 0 := z2
      have q8 := r8_slot (μ := μ) (x := x) hi
      have q9 := q9_slot (μ := μ) hi
      refine LW.err h (k := nI 2) (b := nI 0) (by decide +kernel) ?_ ?_
      · have ks := hs.ks
        have ls := hs.ls
        clear h k1 q9
        simp (disch := first | assumption | omega) only [q_bl, q_baT, q_bi, q_ba, q_pr, q_ob, q_iT, q_iN, q_it, q_if, q_of, nI_add, pk_mul, pk_sub, nI_leI, nI_ltI, nI_eq, nI_clamp, nI_lt0, nI_eqm, m1_eq, true_or, or_true, not_false_eq_true, m1_lt, m1_nlt, m1_le, m1_nle, b01, b011, q_em, q_m1, n_0, n_1, n_2, n_3, n_4, n_5, n_6, n_7, n_8, n_9, n_10, n_11, n_12, n_14, n_15, n_16, n_20, n_24, n_25, n_32, n_36, n_40, n_41, n_42, n_43, n_45, n_46, n_48, n_57, n_59, n_60, n_73, n_76, n_97, n_99, n_100, n_106, n_109, n_120, n_122, n_136, n_160, n_176, n_200, n_255, n_800, n_1000, n_1001, n_1002, n_1003, n_1006, n_1012, n_1018, n_1019, n_1020, n_1100, n_1140, n_4800, n_4920, n_5940, n_6740, n_20220, F_L_restore, F_X8_restore, q_prL, q_prR, hs.kx, hs.r4, ks, ls, q8, z1]
      · clear h k1 q8
        simp (disch := first | assumption | omega) only [q_bl, q_baT, q_bi, q_ba, q_pr, q_ob, q_iT, q_iN, q_it, q_if, q_of, nI_add, pk_mul, pk_sub, nI_leI, nI_ltI, nI_eq, nI_clamp, nI_lt0, nI_eqm, m1_eq, true_or, or_true, not_false_eq_true, m1_lt, m1_nlt, m1_le, m1_nle, b01, b011, q_em, q_m1, n_0, n_1, n_2, n_3, n_4, n_5, n_6, n_7, n_8, n_9, n_10, n_11, n_12, n_14, n_15, n_16, n_20, n_24, n_25, n_32, n_36, n_40, n_41, n_42, n_43, n_45, n_46, n_48, n_57, n_59, n_60, n_73, n_76, n_97, n_99, n_100, n_106, n_109, n_120, n_122, n_136, n_160, n_176, n_200, n_255, n_800, n_1000, n_1001, n_1002, n_1003, n_1006, n_1012, n_1018, n_1019, n_1020, n_1100, n_1140, n_4800, n_4920, n_5940, n_6740, n_20220, q_kI, q_lI, q_nI, q_rI, q_iI, q_jI, q_dI, q_kJ, q_lJ, q_nJ, q_rJ, q_iJ, q_jJ, q_dJ, q_kC, q_lC, q_nC, q_rC, q_jC, q_dC, q_kF, q_lF, q_nF, q_rF, q_jF, q_dF, q_us, q_un, q_ua, F_X9_restore, B_X9_restore_26, sr.k0, sr.r4, sr.k5, sr.l5, q9, z2']
    · have q8 := r8_slot (μ := μ) (x := x) hi
      obtain ⟨μ1, e1, m1, f1⟩ := x3_copy s z4 (by omega)
      have fc : Fx (CM x) μ μ1 := f1.mono (fun a ha => by unfold MR at ha; unfold CM; omega)
      have is1 := hs.fx fc
      have s1 := s.fx fc
      have g8 : gI μ1 (x + 26 + 19) 1 = B 8 := m1.2.1.2.1.1
      have ra1 : RA (stJ μ1 (x + 132) 0 (B 8).toInt64) (x + 120) A := RA.out (h.ra.fx fc (by unfold CM; omega))
      have ra2 := ra1.thr (v := nI 0)
      have t2 := ra2.1
      obtain ⟨μ2, c1, c2, c3⟩ := x9_copy (μ := stI (stJ μ1 (x + 132) 0 (B 8).toInt64) (x + 120) 5 (nI 0)) (a := x + 120 + 4) (c := x + 120 + 1) (p := 6740 * i) (q := 0) (by omega) (by omega) (by decide) t2.k4 t2.k1 (by rw [t2.l4]; omega) (by rw [t2.l1]; decide)
      have hB : ∀ j, j < 6740 → gI μ2 (x + 120 + 1) j = B j := fun j hj => by
        rw [c2 j, if_pos (by omega), q_iI, q_ua (by omega), q_iJ, fc.I (a := x + 120 + 4) (by unfold CM; omega), ← z5 j hj]; congr 1
      have r1 : RK (stJ μ1 (x + 132) 0 (B 8).toInt64) μ2 (x + 120) := (RK.thr (v := nI 0)).trans (RK.of c3 (fun a ha => Or.inl ha))
      have m2 : MO μ1 (x + 26) (gI μ2 (x + 121)) (BB (gI μ2 (x + 121))) := by rw [BB.ext hB]; exact m1.ext hB
      refine LW.okm h (k := nI 0) (μ1 := stJ μ1 (x + 132) 0 (B 8).toInt64) (b := B 8) ?_ (fc.trans (Fx.stJ (by unfold CM; omega))) m2.jj ?_ r1 rfl ?_ (fun _ => ?_)
      · have ks := hs.ks
        have ls := hs.ls
        have kz := z4.1.k0
        have nz : ¬ gR μ (x + 119) i = 0 := by omega
        have ko := is1.ko
        have lo := is1.lo
        clear h k1 z4 z5 m1 f1 fc ra1 ra2 t2 c1 c2 c3 hB r1 m2
        simp (disch := first | assumption | omega) only [q_bl, q_baT, q_bi, q_ba, q_pr, q_ob, q_iT, q_iN, q_it, q_if, q_of, nI_add, pk_mul, pk_sub, nI_leI, nI_ltI, nI_eq, nI_clamp, nI_lt0, nI_eqm, m1_eq, true_or, or_true, not_false_eq_true, m1_lt, m1_nlt, m1_le, m1_nle, b01, b011, q_em, q_m1, n_0, n_1, n_2, n_3, n_4, n_5, n_6, n_7, n_8, n_9, n_10, n_11, n_12, n_14, n_15, n_16, n_20, n_24, n_25, n_32, n_36, n_40, n_41, n_42, n_43, n_45, n_46, n_48, n_57, n_59, n_60, n_73, n_76, n_97, n_99, n_100, n_106, n_109, n_120, n_122, n_136, n_160, n_176, n_200, n_255, n_800, n_1000, n_1001, n_1002, n_1003, n_1006, n_1012, n_1018, n_1019, n_1020, n_1100, n_1140, n_4800, n_4920, n_5940, n_6740, n_20220, q_kI, q_lI, q_nI, q_rI, q_iI, q_jI, q_dI, q_kJ, q_lJ, q_nJ, q_rJ, q_iJ, q_jJ, q_dJ, q_kC, q_lC, q_nC, q_rC, q_jC, q_dC, q_kF, q_lF, q_nF, q_rF, q_jF, q_dF, q_us, q_un, q_ua, F_L_restore, F_X8_restore, q_prL, q_prR, hs.kx, hs.r1, hs.r4, ks, ls, q8, s.k0, kz, e1, is1.kx, is1.r1, s1.k0, s1.r1, s1.k19, g8, ko, lo]
      · have q9 := q9_slot (μ := stJ μ1 (x + 132) 0 (B 8).toInt64) hi
        have t1 := ra1.1
        have z3' : gI (stJ μ1 (x + 132) 0 (B 8).toInt64) (x + 120 + 5) i = nI 1 := by rw [q_iJ, fc.I (a := x + 120 + 5) (by unfold CM; omega)]; exact z3
        have t3 := t2.fx c3
        have g9 := hB 8 (by decide)
        have z3'' : gI μ1 (x + 120 + 5) i = nI 1 := z3'
        clear h k1 z4 z5 m1 f1 fc ra1 ra2 c2 hB r1 m2 q8 e1 z3
        simp (disch := first | assumption | omega) only [q_bl, q_baT, q_bi, q_ba, q_pr, q_ob, q_iT, q_iN, q_it, q_if, q_of, nI_add, pk_mul, pk_sub, nI_leI, nI_ltI, nI_eq, nI_clamp, nI_lt0, nI_eqm, m1_eq, true_or, or_true, not_false_eq_true, m1_lt, m1_nlt, m1_le, m1_nle, b01, b011, q_em, q_m1, n_0, n_1, n_2, n_3, n_4, n_5, n_6, n_7, n_8, n_9, n_10, n_11, n_12, n_14, n_15, n_16, n_20, n_24, n_25, n_32, n_36, n_40, n_41, n_42, n_43, n_45, n_46, n_48, n_57, n_59, n_60, n_73, n_76, n_97, n_99, n_100, n_106, n_109, n_120, n_122, n_136, n_160, n_176, n_200, n_255, n_800, n_1000, n_1001, n_1002, n_1003, n_1006, n_1012, n_1018, n_1019, n_1020, n_1100, n_1140, n_4800, n_4920, n_5940, n_6740, n_20220, q_kI, q_lI, q_nI, q_rI, q_iI, q_jI, q_dI, q_kJ, q_lJ, q_nJ, q_rJ, q_iJ, q_jJ, q_dJ, q_kC, q_lC, q_nC, q_rC, q_jC, q_dC, q_kF, q_lF, q_nF, q_rF, q_jF, q_dF, q_us, q_un, q_ua, F_X9_restore, B_X9_restore_26, t1.k0, t1.r0, t1.r3, t1.r4, t1.k5, t1.l5, q9, z3'', c1, t3.k0, t3.r0, t3.k1, t3.l1, g9]
      · rw [c3.I (a := x + 120) (fun (e : x + 120 = x + 120 + 1) => by omega), q_iI, q_us]
      · rw [c3.J (a := x + 132) (fun (e : x + 132 = x + 120 + 1) => by omega), q_jI, q_jJ, q_us]
  · have q8 := r8_slotN (μ := μ) (x := x) k1
    have q9 := q9_slotN (μ := μ) k1
    refine LW.err h (k := nI 1) (b := nI 0) (by decide +kernel) ?_ ?_
    · clear h k1 q9
      simp (disch := first | assumption | omega) only [q_bl, q_baT, q_bi, q_ba, q_pr, q_ob, q_iT, q_iN, q_it, q_if, q_of, nI_add, pk_mul, pk_sub, nI_leI, nI_ltI, nI_eq, nI_clamp, nI_lt0, nI_eqm, m1_eq, true_or, or_true, not_false_eq_true, m1_lt, m1_nlt, m1_le, m1_nle, b01, b011, q_em, q_m1, n_0, n_1, n_2, n_3, n_4, n_5, n_6, n_7, n_8, n_9, n_10, n_11, n_12, n_14, n_15, n_16, n_20, n_24, n_25, n_32, n_36, n_40, n_41, n_42, n_43, n_45, n_46, n_48, n_57, n_59, n_60, n_73, n_76, n_97, n_99, n_100, n_106, n_109, n_120, n_122, n_136, n_160, n_176, n_200, n_255, n_800, n_1000, n_1001, n_1002, n_1003, n_1006, n_1012, n_1018, n_1019, n_1020, n_1100, n_1140, n_4800, n_4920, n_5940, n_6740, n_20220, F_L_restore, F_X8_restore, q_prL, q_prR, hs.kx, q8]
    · clear h k1 q8
      simp (disch := first | assumption | omega) only [q_bl, q_baT, q_bi, q_ba, q_pr, q_ob, q_iT, q_iN, q_it, q_if, q_of, nI_add, pk_mul, pk_sub, nI_leI, nI_ltI, nI_eq, nI_clamp, nI_lt0, nI_eqm, m1_eq, true_or, or_true, not_false_eq_true, m1_lt, m1_nlt, m1_le, m1_nle, b01, b011, q_em, q_m1, n_0, n_1, n_2, n_3, n_4, n_5, n_6, n_7, n_8, n_9, n_10, n_11, n_12, n_14, n_15, n_16, n_20, n_24, n_25, n_32, n_36, n_40, n_41, n_42, n_43, n_45, n_46, n_48, n_57, n_59, n_60, n_73, n_76, n_97, n_99, n_100, n_106, n_109, n_120, n_122, n_136, n_160, n_176, n_200, n_255, n_800, n_1000, n_1001, n_1002, n_1003, n_1006, n_1012, n_1018, n_1019, n_1020, n_1100, n_1140, n_4800, n_4920, n_5940, n_6740, n_20220, q_kI, q_lI, q_nI, q_rI, q_iI, q_jI, q_dI, q_kJ, q_lJ, q_nJ, q_rJ, q_iJ, q_jJ, q_dJ, q_kC, q_lC, q_nC, q_rC, q_jC, q_dC, q_kF, q_lF, q_nF, q_rF, q_jF, q_dF, q_us, q_un, q_ua, F_X9_restore, B_X9_restore_26, sr.k0, q9]
end RES

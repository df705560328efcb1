/-! LAYER 3: lines that depend on a card, asked of both -/
section DP2
variable {μ μ0 μa μb μc μ1 μ2 : Mem} {x : Nat} {A B C G F1 F2 : SA}
theorem EX.fin {b : Nat} (ex : EX A b) (hb : b < 400000) : ∃ t, sp_fin A 1018 = nI t ∧ t ≤ b + 2000 := by
  obtain ⟨ν, r, hm⟩ := ex
  obtain ⟨ν1, _, n2, _⟩ := x3_comp hm (by omega)
  obtain ⟨v2, _, v3⟩ := (n2.2.2.2.2.2.2.2.2.1).ex (by omega)
  exact ⟨_, v2, v3⟩
/-- the class's two trials -/
theorem x8_dep {c k n t1 t2 : Nat} (h : INV μ x A) (hn : nt (A 8) = n) (hk : c + k + 1 = n) (v1 : sp_fin (sp_reset A) 1018 = nI t1) (b1 : t1 ≤ 2000) (v2 : sp_fin (sp_reset (ua (rms k c (sp_fin (sp_reset A))) 8 (nI (n - 1)))) 1018 = nI t2) (b2 : t2 ≤ 2000) :
    ∃ μ1, F_X8_linesDependingOn x (nI c) μ = some (.inr (nI (dpn (sp_fin (sp_reset (ua (rms k c (sp_fin (sp_reset A))) 8 (nI (n - 1))))) (sp_fin (sp_reset A)) (min t2 120) (min t1 120) 0 0)), μ1) ∧ Fx (fun a => x + 57 ≤ a ∧ a < x + 119) μ μ1 := by
  have w := h.w
  have c8 := w.c8.2
  have s := h.is.m1
  have hs := h.is
  have q1 := r8_card h (i := nI c) (by rw [IR.nI (by omega)]; omega)
  obtain ⟨μt, e1, mt, ft⟩ := tr_start h
  obtain ⟨μb, e2, m2, f2⟩ := x3_comp mt (by decide)
  have f2' : Fx (fun a => x + 57 ≤ a ∧ a < x + 119) μt μb := f2.mono (fun a ha => by have := ha.1; have := ha.2; omega)
  have fa : Fx (fun a => x + 57 ≤ a ∧ a < x + 119) μ μb := (ft.mono (fun a ha => by omega)).trans f2'
  have sb := s.fx fa
  have mo2 : MO μb (x + 26) A (BB A) := h.mo.fx fa (fun a a1 a2 => by omega)
  have isb := hs.fx fa
  obtain ⟨μu, e3, mu, fu⟩ := x3_setup (r2 := x + 26) isb.m3 sb.sb sb.sd mo2.2.1.bd w (by omega)
  have fu' : Fx (fun a => x + 88 ≤ a ∧ a < x + 119) μb μu := fu.mono (fun a ha => by have := ha.1; have := ha.2; omega)
  have w0 := mt.2.2.1
  have hG : ∀ i, i < 1000 → sp_fin (sp_reset A) i = A i := fun i hi => by rw [fin_lo w0 hi, reset_lo hi]
  have su := mu.1
  have n8 := mu.2.1.n8 mu.2.2.1
  rw [reset_lo (by decide), hn] at n8
  have rd := mu.2.1.2.1.2
  rw [reset_lo (by decide), hn] at rd
  have rdG : RDn (gI μu) (x + 88 + 19) (sp_fin (sp_reset A)) n := fun i j hi j1 j2 => by rw [hG _ (by omega), rd i j hi j1 j2, reset_lo (by omega)]
  obtain ⟨μd, e4, g4, r4, f4⟩ := l2_drop (A := sp_fin (sp_reset A)) (n := n) (by omega) k FU c μu (FU_gt (by omega)) hk su.sd n8 rdG
  have md := mu.drop w hn hk hG f4 g4 r4
  obtain ⟨μe, e5, m5, f5⟩ := x3_comp md (by decide)
  have f4' : Fx (fun a => x + 88 ≤ a ∧ a < x + 119) μu μd := f4.mono (fun a ha => by omega)
  have f5' : Fx (fun a => x + 88 ≤ a ∧ a < x + 119) μd μe := f5.mono (fun a ha => by have := ha.1; have := ha.2; omega)
  have fb := (fu'.trans f4').trans f5'
  have m1e : MO μe (x + 57) (sp_fin (sp_reset A)) 2000 := m2.fx fb (fun a a1 a2 => by omega)
  have fe := fa.trans (fb.mono (fun a ha => by omega))
  have ise := hs.fx fe
  have e6 := l8_dep ise m1e m5 v1 v2 (by omega) (by omega) (min t1 120) FU 0 0 (FU_gt (by omega)) (by omega) (Nat.le_refl _)
  refine ⟨μe, ?_, fe⟩
  have t := hs.m2
  have ist := hs.fx ft
  have t1 := mt.1
  have u := hs.m3
  have ub := isb.m3
  have isu := isb.fx fu'
  have isd := isu.fx f4'
  have sd := md.1
  have ed : F_X2_dropCard (x + 88 + 19) (nI c) μu = some μd := by
    have kd := su.k19
    clear h w s hs e1 e2 e3 e5 e6 mt m2 f2 f2' fa sb mo2 isb mu fu fu' w0 hG rd rdG g4 r4 md m5 f4' f5' fb m1e fe ise t ist t1 u ub isu isd sd q1 ft f5 f4
    simp (disch := first | assumption | omega) only [q_bl, q_baT, q_bi, q_ba, q_pr, q_ob, q_iT, q_iN, q_it, q_if, q_of, nI_add, pk_mul, pk_sub, nI_leI, nI_ltI, nI_eq, nI_clamp, nI_lt0, nI_eqm, m1_eq, true_or, or_true, not_false_eq_true, m1_lt, m1_nlt, m1_le, m1_nle, b01, b011, q_em, q_m1, n_0, n_1, n_2, n_3, n_4, n_5, n_6, n_7, n_8, n_9, n_10, n_11, n_12, n_14, n_15, n_16, n_20, n_24, n_25, n_32, n_36, n_40, n_41, n_42, n_43, n_45, n_46, n_48, n_57, n_59, n_60, n_73, n_76, n_97, n_99, n_100, n_106, n_109, n_120, n_122, n_136, n_160, n_176, n_200, n_255, n_800, n_1000, n_1001, n_1002, n_1003, n_1006, n_1012, n_1018, n_1019, n_1020, n_1100, n_1140, n_4800, n_4920, n_5940, n_6740, n_20220, F_X2_dropCard, kd, n8, e4]
  clear h w e4 mt m2 f2 f2' fa mo2 mu fu fu' w0 hG rd rdG g4 r4 md m5 f4' f5' fb m1e fe ise ft f5 f4 n8 v1 v2
  generalize dpn (sp_fin (sp_reset (ua (rms k c (sp_fin (sp_reset A))) 8 (nI (n - 1))))) (sp_fin (sp_reset A)) (min t2 120) (min _ 120) 0 0 = dd at *
  simp (disch := first | assumption | omega) only [q_bl, q_baT, q_bi, q_ba, q_pr, q_ob, q_iT, q_iN, q_it, q_if, q_of, nI_add, pk_mul, pk_sub, nI_leI, nI_ltI, nI_eq, nI_clamp, nI_lt0, nI_eqm, m1_eq, true_or, or_true, not_false_eq_true, m1_lt, m1_nlt, m1_le, m1_nle, b01, b011, q_em, q_m1, n_0, n_1, n_2, n_3, n_4, n_5, n_6, n_7, n_8, n_9, n_10, n_11, n_12, n_14, n_15, n_16, n_20, n_24, n_25, n_32, n_36, n_40, n_41, n_42, n_43, n_45, n_46, n_48, n_57, n_59, n_60, n_73, n_76, n_97, n_99, n_100, n_106, n_109, n_120, n_122, n_136, n_160, n_176, n_200, n_255, n_800, n_1000, n_1001, n_1002, n_1003, n_1006, n_1012, n_1018, n_1019, n_1020, n_1100, n_1140, n_4800, n_4920, n_5940, n_6740, n_20220, F_X8_linesDependingOn, q_prR, q1, hs.kx, hs.r1, hs.r2, s.k0, s.r0, s.r1, t.k0, e1, ist.kx, ist.r2, t1.k0, e2, isb.kx, isb.r1, isb.r3, sb.k0, sb.r0, sb.r1, ub.k0, e3, isu.kx, isu.r3, su.k0, su.r1, su.k19, ed, isd.kx, isd.r3, sd.k0, e5, e6]
theorem x9_dep {m c k n t1 t2 : Nat} (h : RA μ m A) (w : WB A) (hn : nt (A 8) = n) (hk : c + k + 1 = n) (ex1 : EX (sp_reset A) 0) (ex2 : EX (sp_reset (ua (rms k c (sp_fin (sp_reset A))) 8 (nI (n - 1)))) 0) (v1 : sp_fin (sp_reset A) 1018 = nI t1) (b1 : t1 ≤ 2000) (v2 : sp_fin (sp_reset (ua (rms k c (sp_fin (sp_reset A))) 8 (nI (n - 1)))) 1018 = nI t2) (b2 : t2 ≤ 2000) :
    ∃ μ2 B, F_X9_linesDependingOn m (nI c) μ = some (nI (dpn (sp_fin (sp_reset (ua (rms k c (sp_fin (sp_reset A))) 8 (nI (n - 1))))) (sp_fin (sp_reset A)) (min t2 120) (min t1 120) 0 0), μ2) ∧ RA μ2 m B ∧ (∀ j, j < 6740 → B j = A j) ∧ RK μ μ2 m ∧ gI μ2 m 5 = nI 0 ∧ gJ μ2 (m + 12) = gJ μ (m + 12) := by
  have c8 := w.c8
  rw [hn] at c8
  have ra2 := h.thr (v := nI 0)
  have s1 := h.1
  have s2 := ra2.1
  have w0 := ex1.w
  have hG : sp_fin (sp_reset A) 8 = nI n := by rw [fin_lo w0 (by decide), reset_lo (by decide)]; exact c8.1
  obtain ⟨μa, a1, a2, a3, a4⟩ := x9_aside ra2
  obtain ⟨μb, d1, d2, d3⟩ := x9_fin a2 ex1 (by decide)
  obtain ⟨μk, k1, k2, k3, k4, k5, k6, k7, k8⟩ := x9_keep d2 v1 (by omega)
  obtain ⟨μo, o1, o2, o3⟩ := l9_rm (n := n) c8.2 k FU c μk _ (FU_gt (by omega)) hk hG k2
  obtain ⟨μr, r1, r2, r3⟩ := x9_rst o1
  obtain ⟨μf, f1, f2, f3⟩ := x9_fin r2 ex2 (by decide)
  have fab : Fx (st9 m) (stI μ m 5 (nI 0)) μb := (a4.mono (fun a ha => by unfold st9; omega)).trans (d3.mono (fun a ha => s19_st ha))
  obtain ⟨z1, z2, z3⟩ := RK_st9 fab
  have fof : Fx (fun a => a = m + 1 ∨ a = m + 9 ∨ a = m + 10) μk μf := (o2.mono (fun a ha => Or.inl ha)).trans ((r3.mono (fun a ha => Or.inl ha)).trans (f3.mono (fun a ha => ha)))
  have y1 : RK μ μf m := (z1.trans k6).trans (RK.of fof (fun a ha => by omega))
  have y2 : gI μf m 5 = nI 0 := by rw [fof.I (a := m) (by omega), k4, z2]
  have y3 : gJ μf (m + 12) = gJ μ (m + 12) := by rw [fof.J (a := m + 12) (by omega), k8, z3]
  obtain ⟨μ2, B, c1, c2, c3, c4, c5, c6⟩ := x9_come (A := A) f2.1 (fun i hi => by rw [fof.I (a := m + 3) (by omega), k7, d3.I n3_s19]; exact a3 i hi) y1 y2 y3
  have el := l9_dep (F1 := sp_fin (sp_reset A)) (n1 := min t1 120) f2 v2 (by omega) (by omega) (by rw [fof.I (a := m) (by omega)]; exact k3) (fun i hi => by rw [fof.I (a := m + 11) (by omega)]; exact k5 i hi) c1 (min t1 120) FU 0 0 (FU_gt (by omega)) (by omega) (Nat.le_refl _)
  refine ⟨μ2, B, ?_, c2, c3, c4, c5, c6⟩
  have p1 := q9_card h w (i := nI c) (by rw [IR.nI (by omega)]; omega)
  have sa := a2.1
  have sb := d2.1
  have sk := k2.1
  have srr := r2.1
  have et : F_X9_takeOut m (nI c) μk = some μr := by
    have := o3 μr r1
    clear h w ra2 a1 a2 a3 a4 d1 d2 d3 k1 k2 k3 k4 k5 k6 k7 k8 o1 o2 o3 r1 r2 r3 f1 f2 f3 fab z1 z2 z3 fof y1 y2 y3 c1 c2 c3 c4 c5 c6 el ex1 ex2 v1 v2 w0 hG p1
    simp (disch := first | assumption | omega) only [q_bl, q_baT, q_bi, q_ba, q_pr, q_ob, q_iT, q_iN, q_it, q_if, q_of, nI_add, pk_mul, pk_sub, nI_leI, nI_ltI, nI_eq, nI_clamp, nI_lt0, nI_eqm, m1_eq, true_or, or_true, not_false_eq_true, m1_lt, m1_nlt, m1_le, m1_nle, b01, b011, q_em, q_m1, n_0, n_1, n_2, n_3, n_4, n_5, n_6, n_7, n_8, n_9, n_10, n_11, n_12, n_14, n_15, n_16, n_20, n_24, n_25, n_32, n_36, n_40, n_41, n_42, n_43, n_45, n_46, n_48, n_57, n_59, n_60, n_73, n_76, n_97, n_99, n_100, n_106, n_109, n_120, n_122, n_136, n_160, n_176, n_200, n_255, n_800, n_1000, n_1001, n_1002, n_1003, n_1006, n_1012, n_1018, n_1019, n_1020, n_1100, n_1140, n_4800, n_4920, n_5940, n_6740, n_20220, F_X9_takeOut, this]
  clear h w ra2 a2 a3 a4 d2 d3 k2 k3 k4 k5 k6 k7 k8 o1 o2 o3 r1 r2 r3 f2 f3 fab z1 z2 z3 fof y1 y2 y3 c1 c2 c3 c4 c5 c6 ex1 ex2 v1 v2 w0 hG
  generalize dpn (sp_fin (sp_reset (ua (rms k c (sp_fin (sp_reset A))) 8 (nI (n - 1))))) (sp_fin (sp_reset A)) (min t2 120) (min t1 120) 0 0 = dd at *
  simp (disch := first | assumption | omega) only [q_bl, q_baT, q_bi, q_ba, q_pr, q_ob, q_iT, q_iN, q_it, q_if, q_of, nI_add, pk_mul, pk_sub, nI_leI, nI_ltI, nI_eq, nI_clamp, nI_lt0, nI_eqm, m1_eq, true_or, or_true, not_false_eq_true, m1_lt, m1_nlt, m1_le, m1_nle, b01, b011, q_em, q_m1, n_0, n_1, n_2, n_3, n_4, n_5, n_6, n_7, n_8, n_9, n_10, n_11, n_12, n_14, n_15, n_16, n_20, n_24, n_25, n_32, n_36, n_40, n_41, n_42, n_43, n_45, n_46, n_48, n_57, n_59, n_60, n_73, n_76, n_97, n_99, n_100, n_106, n_109, n_120, n_122, n_136, n_160, n_176, n_200, n_255, n_800, n_1000, n_1001, n_1002, n_1003, n_1006, n_1012, n_1018, n_1019, n_1020, n_1100, n_1140, n_4800, n_4920, n_5940, n_6740, n_20220, F_X9_linesDependingOn, s1.k0, s2.k0, p1, q9_good s1, a1, sa.k0, d1, sb.k0, k1, sk.k0, et, srr.k0, f1, el]
theorem ex_drop {c k n : Nat} (h : INV μ x A) (hn : nt (A 8) = n) (hk : c + k + 1 = n) : EX (sp_reset (ua (rms k c (sp_fin (sp_reset A))) 8 (nI (n - 1)))) 0 := by
  have w := h.w
  have c8 := w.c8.2
  obtain ⟨μu, e3, mu, fu⟩ := tr_start h
  have hG : ∀ i, i < 1000 → sp_fin (sp_reset A) i = A i := fun i hi => by rw [fin_lo mu.2.2.1 hi, reset_lo hi]
  have n8 := mu.2.1.n8 mu.2.2.1
  rw [reset_lo (by decide), hn] at n8
  have rd := mu.2.1.2.1.2
  rw [reset_lo (by decide), hn] at rd
  have rdG : RDn (gI μu) (x + 57 + 19) (sp_fin (sp_reset A)) n := fun i j hi j1 j2 => by rw [hG _ (by omega), rd i j hi j1 j2, reset_lo (by omega)]
  obtain ⟨μd, e4, g4, r4, f4⟩ := l2_drop (A := sp_fin (sp_reset A)) (n := n) (by omega) k FU c μu (FU_gt (by omega)) hk mu.1.sd n8 rdG
  exact ⟨μd, _, mu.drop w hn hk hG f4 g4 r4⟩
theorem lw_linesDependingOn {i1 : Int32} (h : INV μ x A) : LW x (F_L_linesDependingOn x i1 (x + 132) μ) (F_X9_linesDependingOn (x + 120) i1) (fun b μ' => gJ μ' (x + 132) 0 = b.toInt64) := by
  have w := h.w
  have c8 := w.c8.2
  have hs := h.is
  have sr := h.is.sr
  obtain ⟨n, hn⟩ : ∃ n, nt (A 8) = n := ⟨_, rfl⟩
  by_cases k1 : IR i1 (nt (A 8))
  · obtain ⟨c, hc, rfl⟩ := k1.ex (by omega)
    obtain ⟨k, hk⟩ : ∃ k, c + k + 1 = n := ⟨n - 1 - c, by omega⟩
    have ex1 := h.exr
    have ex2 := ex_drop h hn hk
    obtain ⟨t1, v1, b1⟩ := ex1.fin (by decide)
    obtain ⟨t2, v2, b2⟩ := ex2.fin (by decide)
    obtain ⟨μ1, e1, fa⟩ := x8_dep h hn hk v1 (by omega) v2 (by omega)
    obtain ⟨v, hv⟩ : ∃ v, dpn (sp_fin (sp_reset (ua (rms k c (sp_fin (sp_reset A))) 8 (nI (n - 1))))) (sp_fin (sp_reset A)) (min t2 120) (min t1 120) 0 0 = v := ⟨_, rfl⟩
    rw [hv] at e1
    have ra1 : RA (stJ μ1 (x + 132) 0 (nI v).toInt64) (x + 120) A := RA.out (h.ra.fx fa (by omega))
    have e2 := x9_dep ra1 w hn hk ex1 ex2 v1 (by omega) v2 (by omega)
    rw [hv] at e2
    refine LW.tri h (μ1 := μ1) (v := (nI v).toInt64) (b := nI v) ?_ fa e2 (fun _ e => e)
    have is1 := hs.fx fa
    have ko := is1.ko
    have lo := is1.lo
    clear h w fa ra1 e2 is1 hv k1 ex1 ex2 v1 v2
    simp (disch := first | assumption | omega) only [q_bl, q_baT, q_bi, q_ba, q_pr, q_ob, q_iT, q_iN, q_it, q_if, q_of, nI_add, pk_mul, pk_sub, nI_leI, nI_ltI, nI_eq, nI_clamp, nI_lt0, nI_eqm, m1_eq, true_or, or_true, not_false_eq_true, m1_lt, m1_nlt, m1_le, m1_nle, b01, b011, q_em, q_m1, n_0, n_1, n_2, n_3, n_4, n_5, n_6, n_7, n_8, n_9, n_10, n_11, n_12, n_14, n_15, n_16, n_20, n_24, n_25, n_32, n_36, n_40, n_41, n_42, n_43, n_45, n_46, n_48, n_57, n_59, n_60, n_73, n_76, n_97, n_99, n_100, n_106, n_109, n_120, n_122, n_136, n_160, n_176, n_200, n_255, n_800, n_1000, n_1001, n_1002, n_1003, n_1006, n_1012, n_1018, n_1019, n_1020, n_1100, n_1140, n_4800, n_4920, n_5940, n_6740, n_20220, q_kI, q_lI, q_nI, q_rI, q_iI, q_jI, q_dI, q_kJ, q_lJ, q_nJ, q_rJ, q_iJ, q_jJ, q_dJ, q_kC, q_lC, q_nC, q_rC, q_jC, q_dC, q_kF, q_lF, q_nF, q_rF, q_jF, q_dF, q_us, q_un, q_ua, F_L_linesDependingOn, q_prL, q_prR, hs.kx, e1, ko, lo]
  · have q1 := r8_cardN h k1
    have p1 := q9_cardN h.ra w k1
    exact LW.err h (k := nI 1) (b := nI 0) (by decide +kernel) (by simp (disch := first | assumption | omega) only [q_bl, q_baT, q_bi, q_ba, q_pr, q_ob, q_iT, q_iN, q_it, q_if, q_of, nI_add, pk_mul, pk_sub, nI_leI, nI_ltI, nI_eq, nI_clamp, nI_lt0, nI_eqm, m1_eq, true_or, or_true, not_false_eq_true, m1_lt, m1_nlt, m1_le, m1_nle, b01, b011, q_em, q_m1, n_0, n_1, n_2, n_3, n_4, n_5, n_6, n_7, n_8, n_9, n_10, n_11, n_12, n_14, n_15, n_16, n_20, n_24, n_25, n_32, n_36, n_40, n_41, n_42, n_43, n_45, n_46, n_48, n_57, n_59, n_60, n_73, n_76, n_97, n_99, n_100, n_106, n_109, n_120, n_122, n_136, n_160, n_176, n_200, n_255, n_800, n_1000, n_1001, n_1002, n_1003, n_1006, n_1012, n_1018, n_1019, n_1020, n_1100, n_1140, n_4800, n_4920, n_5940, n_6740, n_20220, q_kI, q_lI, q_nI, q_rI, q_iI, q_jI, q_dI, q_kJ, q_lJ, q_nJ, q_rJ, q_iJ, q_jJ, q_dJ, q_kC, q_lC, q_nC, q_rC, q_jC, q_dC, q_kF, q_lF, q_nF, q_rF, q_jF, q_dF, q_us, q_un, q_ua, F_L_linesDependingOn, F_X8_linesDependingOn, q_prL, q_prR, hs.kx, q1]) (by simp (disch := first | assumption | omega) only [q_bl, q_baT, q_bi, q_ba, q_pr, q_ob, q_iT, q_iN, q_it, q_if, q_of, nI_add, pk_mul, pk_sub, nI_leI, nI_ltI, nI_eq, nI_clamp, nI_lt0, nI_eqm, m1_eq, true_or, or_true, not_false_eq_true, m1_lt, m1_nlt, m1_le, m1_nle, b01, b011, q_em, q_m1, n_0, n_1, n_2, n_3, n_4, n_5, n_6, n_7, n_8, n_9, n_10, n_11, n_12, n_14, n_15, n_16, n_20, n_24, n_25, n_32, n_36, n_40, n_41, n_42, n_43, n_45, n_46, n_48, n_57, n_59, n_60, n_73, n_76, n_97, n_99, n_100, n_106, n_109, n_120, n_122, n_136, n_160, n_176, n_200, n_255, n_800, n_1000, n_1001, n_1002, n_1003, n_1006, n_1012, n_1018, n_1019, n_1020, n_1100, n_1140, n_4800, n_4920, n_5940, n_6740, n_20220, F_X9_linesDependingOn, sr.k0, p1, q9_goodN sr])
end DP2

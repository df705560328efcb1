/-! LAYER 3: plugs of selectors and controls -/
section PL2
variable {μ μ1 μ2 : Mem} {x : Nat} {A B : SA}
/-- none, or one of n -/
def SE (i : Int32) (n : Nat) : Prop := i = -nI 1 ∨ IR i n
theorem SE.pk {i : Int32} {n h : Nat} (q : SE i n) (hn : n ≤ h + 1) (hh : h < 100) : i = -nI 1 ∨ (isN i 0 h ∧ nt i < n) := by
  rcases q with q | q
  · exact Or.inl q
  · obtain ⟨k, hk, rfl⟩ := q.ex (by omega)
    exact Or.inr ⟨⟨k, rfl, by omega, by omega⟩, by rw [nt_nI (by omega)]; exact hk⟩
theorem b9_M {i : Int32} {n : Nat} (hn : n ≤ 100) (h : SE i n) : F_X9_between i.toInt64 (-1 : Int64) ((nI n - nI 1).toInt64) μ = some (nI 1) := by
  have h1 : (nI n - nI 1).toInt = (n : Int) - 1 := pk_sub_toInt (by omega) (by decide)
  have j1 : (-1 : Int64).toInt = -1 := by decide +kernel
  rw [x9_bt, I64_T, I64_T, h1, j1]
  refine congrArg some (if_pos ?_)
  rcases h with h | h
  · rw [h, neg_T (by decide)]; omega
  · exact ⟨by have := h.1; omega, by have := h.2; omega⟩
theorem b9_MN {i : Int32} {n : Nat} (hn : n ≤ 100) (h : ¬ SE i n) : F_X9_between i.toInt64 (-1 : Int64) ((nI n - nI 1).toInt64) μ = some (nI 0) := by
  have h1 : (nI n - nI 1).toInt = (n : Int) - 1 := pk_sub_toInt (by omega) (by decide)
  have j1 : (-1 : Int64).toInt = -1 := by decide +kernel
  rw [x9_bt, I64_T, I64_T, h1, j1]
  refine congrArg some (if_neg (fun e => h ?_))
  by_cases h0 : i.toInt = -1
  · refine Or.inl (Int32.toInt_inj.mp ?_)
    rw [neg_T (by decide), h0]; rfl
  · exact Or.inr ⟨by omega, by omega⟩
-- plugSelector
theorem x8_plugSelector {c b : Nat} {i2 i3 : Int32} (h : INV μ x A) (hc : c < nt (A 2)) (hs2 : SE i2 (nt (A 1))) (hb : (i3 = nI 0 ∧ b = 0) ∨ (¬ i3 = nI 0 ∧ b = 1)) : ∃ μ1, F_X8_plugSelector x (nI c) i2 i3 μ = some (.inr (A (43 + 5 * c + 3)), μ1) ∧ Fx (CM x) μ μ1 ∧ MO μ1 (x + 26) (sp_reset (ua (ua A (43 + 5 * c + 3) i2) (43 + 5 * c + 4) (nI b))) (BB (sp_reset (ua (ua A (43 + 5 * c + 3) i2) (43 + 5 * c + 4) (nI b)))) ∧ IS μ1 x := by
  have w := h.w
  have c1 := w.c1.2
  have c2 := w.c2.2
  have s := h.is.m1
  have n2 := h.mo.2.1.n2 w
  have e0 := x6_at (p := 3) s.st2 n2 (by omega) hc (by decide)
  have e1 := x6_put (p := 3) (v := i2) s.st2 n2 (by omega) hc (by decide)
  have f1 : Fx (fun a => a = x + 33) μ (stI μ (x + 26 + 6 + 1) (c * 5 + 3) i2) := Fx.stI rfl
  have n2' : gI (stI μ (x + 26 + 6 + 1) (c * 5 + 3) i2) (x + 26 + 6) 2 = nI (nt (A 2)) := by rw [q_iI, q_un (by omega)]; exact n2
  have e2 := x6_put (p := 4) (v := nI b) (s.st2.fx f1) n2' (by omega) hc (by decide)
  have f2 : Fx (fun a => a = x + 33) μ (stI (stI μ (x + 26 + 6 + 1) (c * 5 + 3) i2) (x + 26 + 6 + 1) (c * 5 + 4) (nI b)) := f1.trans (Fx.stI rfl)
  obtain ⟨μ1, er, mr, fr1, is1⟩ := plug_end (B := ua (ua A (43 + 5 * c + 3) i2) (43 + 5 * c + 4) (nI b)) h (f2.mono (fun a ha => Or.inl ha)) (fun i hi => by rw [ua_n (by omega), ua_n (by omega)]) (fun i j hi hj => by
    rw [q_iI, q_iI, show x + 26 + 6 + 1 = x + 33 from rfl]
    by_cases d2 : i = c ∧ j = 4
    · obtain ⟨rfl, rfl⟩ := d2; rw [q_us, ua_s]
    · rw [q_un (by omega), ua_n (by omega)]
      by_cases d1 : i = c ∧ j = 3
      · obtain ⟨rfl, rfl⟩ := d1; rw [q_us, ua_s]
      · rw [q_un (by omega), ua_n (by omega)]; exact h.rc hi hj) (fun l l1 l2 => by
    rw [ua_n (by omega), ua_n (by omega), f2.I (by omega)]; exact h.rl l1 l2) (fun i hi => by
    by_cases d : i = c
    · subst d
      obtain ⟨a1, a2, a3, a4, a5⟩ := w.oc hi
      unfold pokc
      rw [ua_n (k := 43 + 5 * i) (by omega), ua_n (k := 43 + 5 * i) (by omega), ua_n (k := 43 + 5 * i + 1) (by omega), ua_n (k := 43 + 5 * i + 1) (by omega), ua_n (k := 43 + 5 * i + 2) (by omega), ua_n (k := 43 + 5 * i + 2) (by omega), ua_n (k := 0) (by omega), ua_n (k := 0) (by omega), ua_n (k := 1) (by omega), ua_n (k := 1) (by omega), ua_n (k := 43 + 5 * i + 3) (by omega), ua_s, ua_s]
      exact ⟨a1, a2, a3, hs2.pk (by omega) (by decide), ⟨b, rfl, by omega, by omega⟩⟩
    · exact pokc_to (w.oc hi) (by rw [ua_n (by omega), ua_n (by omega)]) (by rw [ua_n (by omega), ua_n (by omega)]) (fun j hj => by rw [ua_n (by omega), ua_n (by omega)])) (fun l l1 l2 => pokl_to (w.ol l1 l2) (by rw [ua_n (by omega), ua_n (by omega)]) (by rw [ua_n (by omega), ua_n (by omega)]))
  refine ⟨μ1, ?_, fr1, mr, is1⟩
  have e0' : F_X6_at (x + 26 + 6) (nI c) (nI 3) μ = some (A (43 + 5 * c + 3)) := e0.trans (congrArg some (h.rc hc (by decide)))
  have hs := h.is
  have q1 := r8_ctr h (i := nI c) (by rw [IR.nI (by omega)]; exact hc)
  have tail : B_X8_plugSelector_15 x (nI c) i2 i3 μ = some (.inr (A (43 + 5 * c + 3)), μ1) := by
    clear mr is1 fr1 w q1 hs2 h
    rcases hb with ⟨z, rfl⟩ | ⟨z, rfl⟩
    · simp (disch := first | assumption | omega) only [q_bl, q_baT, q_bi, q_ba, q_pr, q_ob, q_iT, q_iN, q_it, q_if, q_of, nI_add, pk_mul, pk_sub, nI_leI, nI_ltI, nI_eq, nI_clamp, nI_lt0, nI_eqm, m1_eq, true_or, or_true, not_false_eq_true, m1_lt, m1_nlt, m1_le, m1_nle, b01, b011, q_em, q_m1, n_0, n_1, n_2, n_3, n_4, n_5, n_6, n_7, n_8, n_9, n_10, n_11, n_12, n_14, n_15, n_16, n_20, n_24, n_25, n_32, n_36, n_40, n_41, n_42, n_43, n_45, n_46, n_48, n_57, n_59, n_60, n_73, n_76, n_97, n_99, n_100, n_106, n_109, n_120, n_122, n_136, n_160, n_176, n_200, n_255, n_800, n_1000, n_1001, n_1002, n_1003, n_1006, n_1012, n_1018, n_1019, n_1020, n_1100, n_1140, n_4800, n_4920, n_5940, n_6740, n_20220, q_kI, q_lI, q_nI, q_rI, q_iI, q_jI, q_dI, q_kJ, q_lJ, q_nJ, q_rJ, q_iJ, q_jJ, q_dJ, q_kC, q_lC, q_nC, q_rC, q_jC, q_dC, q_kF, q_lF, q_nF, q_rF, q_jF, q_dF, q_us, q_un, q_ua, B_X8_plugSelector_15, B_X8_plugSelector_57, hs.kx, hs.r1, s.k0, s.r0, s.k1, s.b2, s.k6, e0', e1, e2, er]
    · simp (disch := first | assumption | omega) only [q_bl, q_baT, q_bi, q_ba, q_pr, q_ob, q_iT, q_iN, q_it, q_if, q_of, nI_add, pk_mul, pk_sub, nI_leI, nI_ltI, nI_eq, nI_clamp, nI_lt0, nI_eqm, m1_eq, true_or, or_true, not_false_eq_true, m1_lt, m1_nlt, m1_le, m1_nle, b01, b011, q_em, q_m1, n_0, n_1, n_2, n_3, n_4, n_5, n_6, n_7, n_8, n_9, n_10, n_11, n_12, n_14, n_15, n_16, n_20, n_24, n_25, n_32, n_36, n_40, n_41, n_42, n_43, n_45, n_46, n_48, n_57, n_59, n_60, n_73, n_76, n_97, n_99, n_100, n_106, n_109, n_120, n_122, n_136, n_160, n_176, n_200, n_255, n_800, n_1000, n_1001, n_1002, n_1003, n_1006, n_1012, n_1018, n_1019, n_1020, n_1100, n_1140, n_4800, n_4920, n_5940, n_6740, n_20220, q_kI, q_lI, q_nI, q_rI, q_iI, q_jI, q_dI, q_kJ, q_lJ, q_nJ, q_rJ, q_iJ, q_jJ, q_dJ, q_kC, q_lC, q_nC, q_rC, q_jC, q_dC, q_kF, q_lF, q_nF, q_rF, q_jF, q_dF, q_us, q_un, q_ua, B_X8_plugSelector_15, B_X8_plugSelector_57, hs.kx, hs.r1, s.k0, s.r0, s.k1, s.b2, s.k6, e0', e1, e2, er]
  rcases hs2 with d | d
  · simp (disch := first | assumption | omega) only [q_bl, q_baT, q_bi, q_ba, q_pr, q_ob, q_iT, q_iN, q_it, q_if, q_of, nI_add, pk_mul, pk_sub, nI_leI, nI_ltI, nI_eq, nI_clamp, nI_lt0, nI_eqm, m1_eq, true_or, or_true, not_false_eq_true, m1_lt, m1_nlt, m1_le, m1_nle, b01, b011, q_em, q_m1, n_0, n_1, n_2, n_3, n_4, n_5, n_6, n_7, n_8, n_9, n_10, n_11, n_12, n_14, n_15, n_16, n_20, n_24, n_25, n_32, n_36, n_40, n_41, n_42, n_43, n_45, n_46, n_48, n_57, n_59, n_60, n_73, n_76, n_97, n_99, n_100, n_106, n_109, n_120, n_122, n_136, n_160, n_176, n_200, n_255, n_800, n_1000, n_1001, n_1002, n_1003, n_1006, n_1012, n_1018, n_1019, n_1020, n_1100, n_1140, n_4800, n_4920, n_5940, n_6740, n_20220, q_kI, q_lI, q_nI, q_rI, q_iI, q_jI, q_dI, q_kJ, q_lJ, q_nJ, q_rJ, q_iJ, q_jJ, q_dJ, q_kC, q_lC, q_nC, q_rC, q_jC, q_dC, q_kF, q_lF, q_nF, q_rF, q_jF, q_dF, q_us, q_un, q_ua, F_X8_plugSelector, q_prR, q1, hs.kx, d ▸ tail, d, n_m1]
  · have nm : ¬ i2 = -nI 1 := by obtain ⟨k, hk, rfl⟩ := d.ex (by omega); rw [nI_eqm (by omega)]; exact id
    have q2 := r8_sel h d
    simp (disch := first | assumption | omega) only [q_bl, q_baT, q_bi, q_ba, q_pr, q_ob, q_iT, q_iN, q_it, q_if, q_of, nI_add, pk_mul, pk_sub, nI_leI, nI_ltI, nI_eq, nI_clamp, nI_lt0, nI_eqm, m1_eq, true_or, or_true, not_false_eq_true, m1_lt, m1_nlt, m1_le, m1_nle, b01, b011, q_em, q_m1, n_0, n_1, n_2, n_3, n_4, n_5, n_6, n_7, n_8, n_9, n_10, n_11, n_12, n_14, n_15, n_16, n_20, n_24, n_25, n_32, n_36, n_40, n_41, n_42, n_43, n_45, n_46, n_48, n_57, n_59, n_60, n_73, n_76, n_97, n_99, n_100, n_106, n_109, n_120, n_122, n_136, n_160, n_176, n_200, n_255, n_800, n_1000, n_1001, n_1002, n_1003, n_1006, n_1012, n_1018, n_1019, n_1020, n_1100, n_1140, n_4800, n_4920, n_5940, n_6740, n_20220, q_kI, q_lI, q_nI, q_rI, q_iI, q_jI, q_dI, q_kJ, q_lJ, q_nJ, q_rJ, q_iJ, q_jJ, q_dJ, q_kC, q_lC, q_nC, q_rC, q_jC, q_dC, q_kF, q_lF, q_nF, q_rF, q_jF, q_dF, q_us, q_un, q_ua, F_X8_plugSelector, q_prR, q1, q2, hs.kx, tail, n_m1]
theorem x9_plugSelector {m c b : Nat} {i2 i3 : Int32} (h : RA μ m A) (hc : c < 6) (hb : (i3 = nI 0 ∧ b = 0) ∨ (¬ i3 = nI 0 ∧ b = 1)) : ∃ μ2, B_X9_plugSelector_34 m (nI c) i2 i3 (nI 1) m μ = some (A (43 + 5 * c + 3), μ2) ∧ RA μ2 m (sp_reset (ua (ua A (43 + 5 * c + 3) i2) (43 + 5 * c + 4) (nI b))) ∧ RK μ μ2 m ∧ gI μ2 m 5 = nI 0 ∧ gJ μ2 (m + 12) = gJ μ (m + 12) := by
  have ra2 := h.thr (v := nI 0)
  have s1 := h.1
  have s2 := ra2.1
  have ra3 := ra2.put (j := 43 + 5 * c + 3) (v := i2)
  have ra4 := ra3.put (j := 43 + 5 * c + 4) (v := nI b)
  obtain ⟨μ2, ez, z1, z2, z3, z4, z5⟩ := chg9b (μa := μ) ra4 ((Fx.stI (P := fun a => a = m + 1) rfl).trans (Fx.stI (P := fun a => a = m + 1) rfl))
  have g1 : gI μ (m + 1) (43 + 5 * c + 3) = A (43 + 5 * c + 3) := by rw [h.2]
  refine ⟨μ2, ?_, z1, z2, z3, z4⟩
  clear z1 z2 z3 z4 z5 ra4 ra3 h
  rcases hb with ⟨z, rfl⟩ | ⟨z, rfl⟩
  · simp (disch := first | assumption | omega) only [q_bl, q_baT, q_bi, q_ba, q_pr, q_ob, q_iT, q_iN, q_it, q_if, q_of, nI_add, pk_mul, pk_sub, nI_leI, nI_ltI, nI_eq, nI_clamp, nI_lt0, nI_eqm, m1_eq, true_or, or_true, not_false_eq_true, m1_lt, m1_nlt, m1_le, m1_nle, b01, b011, q_em, q_m1, n_0, n_1, n_2, n_3, n_4, n_5, n_6, n_7, n_8, n_9, n_10, n_11, n_12, n_14, n_15, n_16, n_20, n_24, n_25, n_32, n_36, n_40, n_41, n_42, n_43, n_45, n_46, n_48, n_57, n_59, n_60, n_73, n_76, n_97, n_99, n_100, n_106, n_109, n_120, n_122, n_136, n_160, n_176, n_200, n_255, n_800, n_1000, n_1001, n_1002, n_1003, n_1006, n_1012, n_1018, n_1019, n_1020, n_1100, n_1140, n_4800, n_4920, n_5940, n_6740, n_20220, q_kI, q_lI, q_nI, q_rI, q_iI, q_jI, q_dI, q_kJ, q_lJ, q_nJ, q_rJ, q_iJ, q_jJ, q_dJ, q_kC, q_lC, q_nC, q_rC, q_jC, q_dC, q_kF, q_lF, q_nF, q_rF, q_jF, q_dF, q_us, q_un, q_ua, B_X9_plugSelector_34, B_X9_plugSelector_88, s1.k0, q9_good s1, s1.r0, s1.k1, s1.l1, g1, ez]
  · simp (disch := first | assumption | omega) only [q_bl, q_baT, q_bi, q_ba, q_pr, q_ob, q_iT, q_iN, q_it, q_if, q_of, nI_add, pk_mul, pk_sub, nI_leI, nI_ltI, nI_eq, nI_clamp, nI_lt0, nI_eqm, m1_eq, true_or, or_true, not_false_eq_true, m1_lt, m1_nlt, m1_le, m1_nle, b01, b011, q_em, q_m1, n_0, n_1, n_2, n_3, n_4, n_5, n_6, n_7, n_8, n_9, n_10, n_11, n_12, n_14, n_15, n_16, n_20, n_24, n_25, n_32, n_36, n_40, n_41, n_42, n_43, n_45, n_46, n_48, n_57, n_59, n_60, n_73, n_76, n_97, n_99, n_100, n_106, n_109, n_120, n_122, n_136, n_160, n_176, n_200, n_255, n_800, n_1000, n_1001, n_1002, n_1003, n_1006, n_1012, n_1018, n_1019, n_1020, n_1100, n_1140, n_4800, n_4920, n_5940, n_6740, n_20220, q_kI, q_lI, q_nI, q_rI, q_iI, q_jI, q_dI, q_kJ, q_lJ, q_nJ, q_rJ, q_iJ, q_jJ, q_dJ, q_kC, q_lC, q_nC, q_rC, q_jC, q_dC, q_kF, q_lF, q_nF, q_rF, q_jF, q_dF, q_us, q_un, q_ua, B_X9_plugSelector_34, B_X9_plugSelector_88, s1.k0, q9_good s1, s1.r0, s1.k1, s1.l1, g1, ez]
theorem lw_plugSelector {i1 i2 i3 : Int32} (h : INV μ x A) : LW x (F_L_plugSelector x i1 i2 i3 (x + 132) μ) (F_X9_plugSelector (x + 120) i1 i2 i3) (fun b μ' => gJ μ' (x + 132) 0 = b.toInt64) := by
  have w := h.w
  have ra := h.ra
  have sr := h.is.sr
  have hs := h.is
  have d1 := w.c1
  have d2 := w.c2.2
  by_cases c0 : IR i1 (nt (A 2))
  · have q8 := r8_ctr h c0
    by_cases c1 : SE i2 (nt (A 1))
    · obtain ⟨c, hc, rfl⟩ := c0.ex (by omega)
      obtain ⟨b, hb⟩ : ∃ b, (i3 = nI 0 ∧ b = 0) ∨ (¬ i3 = nI 0 ∧ b = 1) := by
        by_cases z : i3 = nI 0
        · exact ⟨0, Or.inl ⟨z, rfl⟩⟩
        · exact ⟨1, Or.inr ⟨z, rfl⟩⟩
      obtain ⟨μ1, e1, fr1, mr, is1⟩ := x8_plugSelector h hc c1 hb
      have ra1 : RA (stJ μ1 (x + 132) 0 (A (43 + 5 * c + 3)).toInt64) (x + 120) A := RA.out (ra.fx fr1 (by unfold CM; omega))
      obtain ⟨μ2, e2, z1, z2, z3, z4⟩ := x9_plugSelector (i2 := i2) ra1 (show c < 6 by omega) hb
      have p8 := q9_ctr ra1 w c0
      have p9 := b9_M (μ := stJ μ1 (x + 132) 0 (A (43 + 5 * c + 3)).toInt64) (by omega) c1
      have g1 : gI (stJ μ1 (x + 132) 0 (A (43 + 5 * c + 3)).toInt64) (x + 120 + 1) 1 = nI (nt (A 1)) := by rw [ra1.2]; exact d1.1
      refine LW.chg h (μ1 := μ1) (v := (A (43 + 5 * c + 3)).toInt64) (b := A (43 + 5 * c + 3)) ?_ fr1 mr ⟨μ2, ?_, z1, z2, z3, by rw [show x + 132 = x + 120 + 12 from rfl, z4, q_jJ, q_us]⟩ (fun _ e => e)
      · have kx := hs.kx
        have ko := is1.ko
        have lo := is1.lo
        clear h w ra sr z1 z2 z3 z4 e2 p8 p9 mr fr1 hs is1
        simp (disch := first | assumption | omega) only [q_bl, q_baT, q_bi, q_ba, q_pr, q_ob, q_iT, q_iN, q_it, q_if, q_of, nI_add, pk_mul, pk_sub, nI_leI, nI_ltI, nI_eq, nI_clamp, nI_lt0, nI_eqm, m1_eq, true_or, or_true, not_false_eq_true, m1_lt, m1_nlt, m1_le, m1_nle, b01, b011, q_em, q_m1, n_0, n_1, n_2, n_3, n_4, n_5, n_6, n_7, n_8, n_9, n_10, n_11, n_12, n_14, n_15, n_16, n_20, n_24, n_25, n_32, n_36, n_40, n_41, n_42, n_43, n_45, n_46, n_48, n_57, n_59, n_60, n_73, n_76, n_97, n_99, n_100, n_106, n_109, n_120, n_122, n_136, n_160, n_176, n_200, n_255, n_800, n_1000, n_1001, n_1002, n_1003, n_1006, n_1012, n_1018, n_1019, n_1020, n_1100, n_1140, n_4800, n_4920, n_5940, n_6740, n_20220, q_kI, q_lI, q_nI, q_rI, q_iI, q_jI, q_dI, q_kJ, q_lJ, q_nJ, q_rJ, q_iJ, q_jJ, q_dJ, q_kC, q_lC, q_nC, q_rC, q_jC, q_dC, q_kF, q_lF, q_nF, q_rF, q_jF, q_dF, q_us, q_un, q_ua, F_L_plugSelector, q_prL, q_prR, kx, e1, ko, lo]
      · have s9 := ra1.1
        clear h w ra sr z1 z2 z3 z4 q8 mr fr1 hs is1 e1
        generalize nt (A 1) = n1 at *
        simp (disch := first | assumption | omega) only [q_bl, q_baT, q_bi, q_ba, q_pr, q_ob, q_iT, q_iN, q_it, q_if, q_of, nI_add, pk_mul, nI_leI, nI_ltI, nI_eq, nI_clamp, nI_lt0, nI_eqm, m1_eq, true_or, or_true, not_false_eq_true, m1_lt, m1_nlt, m1_le, m1_nle, b01, b011, q_em, q_m1, n_0, n_1, n_2, n_3, n_4, n_5, n_6, n_7, n_8, n_9, n_10, n_11, n_12, n_14, n_15, n_16, n_20, n_24, n_25, n_32, n_36, n_40, n_41, n_42, n_43, n_45, n_46, n_48, n_57, n_59, n_60, n_73, n_76, n_97, n_99, n_100, n_106, n_109, n_120, n_122, n_136, n_160, n_176, n_200, n_255, n_800, n_1000, n_1001, n_1002, n_1003, n_1006, n_1012, n_1018, n_1019, n_1020, n_1100, n_1140, n_4800, n_4920, n_5940, n_6740, n_20220, F_X9_plugSelector, s9.k0, s9.r0, s9.k1, s9.l1, g1, p8, p9, e2]
    · have q9 := r8_selN h (fun e => c1 (Or.inr e))
      have nm : ¬ i2 = -nI 1 := fun e => c1 (Or.inl e)
      have e := b9_MN (μ := μ) (by omega) c1
      have g1 : gI μ (x + 120 + 1) 1 = nI (nt (A 1)) := by rw [ra.2]; exact d1.1
      have p8 := q9_ctr ra w c0
      refine LW.err h (k := nI 1) (b := nI 0) (by decide +kernel) (by simp (disch := first | assumption | omega) only [q_bl, q_baT, q_bi, q_ba, q_pr, q_ob, q_iT, q_iN, q_it, q_if, q_of, nI_add, pk_mul, pk_sub, nI_leI, nI_ltI, nI_eq, nI_clamp, nI_lt0, nI_eqm, m1_eq, true_or, or_true, not_false_eq_true, m1_lt, m1_nlt, m1_le, m1_nle, b01, b011, q_em, q_m1, n_0, n_1, n_2, n_3, n_4, n_5, n_6, n_7, n_8, n_9, n_10, n_11, n_12, n_14, n_15, n_16, n_20, n_24, n_25, n_32, n_36, n_40, n_41, n_42, n_43, n_45, n_46, n_48, n_57, n_59, n_60, n_73, n_76, n_97, n_99, n_100, n_106, n_109, n_120, n_122, n_136, n_160, n_176, n_200, n_255, n_800, n_1000, n_1001, n_1002, n_1003, n_1006, n_1012, n_1018, n_1019, n_1020, n_1100, n_1140, n_4800, n_4920, n_5940, n_6740, n_20220, q_kI, q_lI, q_nI, q_rI, q_iI, q_jI, q_dI, q_kJ, q_lJ, q_nJ, q_rJ, q_iJ, q_jJ, q_dJ, q_kC, q_lC, q_nC, q_rC, q_jC, q_dC, q_kF, q_lF, q_nF, q_rF, q_jF, q_dF, q_us, q_un, q_ua, F_L_plugSelector, F_X8_plugSelector, q_prL, q_prR, hs.kx, q8, q9, n_m1]) ?_
      clear c1 q9
      generalize nt (A 1) = n1 at *
      simp (disch := first | assumption | omega) only [q_bl, q_baT, q_bi, q_ba, q_pr, q_ob, q_iT, q_iN, q_it, q_if, q_of, nI_add, pk_mul, nI_leI, nI_ltI, nI_eq, nI_clamp, nI_lt0, nI_eqm, m1_eq, true_or, or_true, not_false_eq_true, m1_lt, m1_nlt, m1_le, m1_nle, b01, b011, q_em, q_m1, n_0, n_1, n_2, n_3, n_4, n_5, n_6, n_7, n_8, n_9, n_10, n_11, n_12, n_14, n_15, n_16, n_20, n_24, n_25, n_32, n_36, n_40, n_41, n_42, n_43, n_45, n_46, n_48, n_57, n_59, n_60, n_73, n_76, n_97, n_99, n_100, n_106, n_109, n_120, n_122, n_136, n_160, n_176, n_200, n_255, n_800, n_1000, n_1001, n_1002, n_1003, n_1006, n_1012, n_1018, n_1019, n_1020, n_1100, n_1140, n_4800, n_4920, n_5940, n_6740, n_20220, F_X9_plugSelector, B_X9_plugSelector_33, B_X9_plugSelector_34, sr.k0, sr.r0, sr.k1, sr.l1, p8, g1, e, q9_goodN sr]
  · have q8 := r8_ctrN h c0
    exact LW.err h (k := nI 1) (b := nI 0) (by decide +kernel) (by simp (disch := first | assumption | omega) only [q_bl, q_baT, q_bi, q_ba, q_pr, q_ob, q_iT, q_iN, q_it, q_if, q_of, nI_add, pk_mul, pk_sub, nI_leI, nI_ltI, nI_eq, nI_clamp, nI_lt0, nI_eqm, m1_eq, true_or, or_true, not_false_eq_true, m1_lt, m1_nlt, m1_le, m1_nle, b01, b011, q_em, q_m1, n_0, n_1, n_2, n_3, n_4, n_5, n_6, n_7, n_8, n_9, n_10, n_11, n_12, n_14, n_15, n_16, n_20, n_24, n_25, n_32, n_36, n_40, n_41, n_42, n_43, n_45, n_46, n_48, n_57, n_59, n_60, n_73, n_76, n_97, n_99, n_100, n_106, n_109, n_120, n_122, n_136, n_160, n_176, n_200, n_255, n_800, n_1000, n_1001, n_1002, n_1003, n_1006, n_1012, n_1018, n_1019, n_1020, n_1100, n_1140, n_4800, n_4920, n_5940, n_6740, n_20220, q_kI, q_lI, q_nI, q_rI, q_iI, q_jI, q_dI, q_kJ, q_lJ, q_nJ, q_rJ, q_iJ, q_jJ, q_dJ, q_kC, q_lC, q_nC, q_rC, q_jC, q_dC, q_kF, q_lF, q_nF, q_rF, q_jF, q_dF, q_us, q_un, q_ua, F_L_plugSelector, F_X8_plugSelector, q_prL, q_prR, hs.kx, q8]) (by simp (disch := first | assumption | omega) only [q_bl, q_baT, q_bi, q_ba, q_pr, q_ob, q_iT, q_iN, q_it, q_if, q_of, nI_add, pk_mul, pk_sub, nI_leI, nI_ltI, nI_eq, nI_clamp, nI_lt0, nI_eqm, m1_eq, true_or, or_true, not_false_eq_true, m1_lt, m1_nlt, m1_le, m1_nle, b01, b011, q_em, q_m1, n_0, n_1, n_2, n_3, n_4, n_5, n_6, n_7, n_8, n_9, n_10, n_11, n_12, n_14, n_15, n_16, n_20, n_24, n_25, n_32, n_36, n_40, n_41, n_42, n_43, n_45, n_46, n_48, n_57, n_59, n_60, n_73, n_76, n_97, n_99, n_100, n_106, n_109, n_120, n_122, n_136, n_160, n_176, n_200, n_255, n_800, n_1000, n_1001, n_1002, n_1003, n_1006, n_1012, n_1018, n_1019, n_1020, n_1100, n_1140, n_4800, n_4920, n_5940, n_6740, n_20220, F_X9_plugSelector, B_X9_plugSelector_33, B_X9_plugSelector_34, sr.k0, q9_ctrN ra w c0, q9_goodN sr])
-- plugControl
theorem x8_plugControl {l : Nat} {i2 : Int32} (h : INV μ x A) (l1 : 1 ≤ l) (l2 : l ≤ 3) (hs2 : SE i2 (nt (A 0))) : ∃ μ1, B_X8_plugControl_10 x (nI l) i2 μ = some (.inr (A (73 + l - 1)), μ1) ∧ Fx (CM x) μ μ1 ∧ MO μ1 (x + 26) (sp_reset (ua A (73 + l - 1) i2)) (BB (sp_reset (ua A (73 + l - 1) i2))) ∧ IS μ1 x := by
  have w := h.w
  have c0 := w.c0.2
  have c2 := w.c2.2
  have s := h.is.m1
  have e0 := x1_control s.sb l1 l2
  have e1 := x1_plug (v := i2) s.sb l1 l2
  have f1 : Fx (fun a => a = x + 44) μ (stI μ (x + 26 + 1 + 17) l i2) := Fx.stI rfl
  obtain ⟨μ1, er, mr, fr1, is1⟩ := plug_end (B := ua A (73 + l - 1) i2) h (f1.mono (fun a ha => Or.inr ha)) (fun i hi => ua_n (by omega)) (fun i j hi hj => by
    rw [ua_n (by omega), f1.I (by omega)]; exact h.rc hi hj) (fun k k1 k2 => by
    rw [q_iI, show x + 26 + 1 + 17 = x + 44 from rfl]
    by_cases d : k = l
    · subst d; rw [q_us, ua_s]
    · rw [q_un (by omega), ua_n (by omega)]; exact h.rl k1 k2) (fun i hi => pokc_to (w.oc hi) (ua_n (by omega)) (ua_n (by omega)) (fun j hj => ua_n (by omega))) (fun k k1 k2 => by
    by_cases d : k = l
    · subst d
      unfold pokl
      rw [ua_s, ua_n (k := 0) (by omega)]
      exact hs2.pk (by omega) (by decide)
    · exact pokl_to (w.ol k1 k2) (ua_n (by omega)) (ua_n (by omega)))
  refine ⟨μ1, ?_, fr1, mr, is1⟩
  have e0' : F_X1_controlAt (x + 26 + 1) (nI l) μ = some (A (73 + l - 1)) := e0.trans (congrArg some (h.rl l1 l2))
  have hs := h.is
  have q1 := r8_lev (μ := μ) (x := x) (i := nI l) ⟨by rw [nI_toInt (by omega)]; omega, by rw [nI_toInt (by omega)]; omega⟩
  clear mr is1 fr1 w hs2 h
  simp (disch := first | assumption | omega) only [q_bl, q_baT, q_bi, q_ba, q_pr, q_ob, q_iT, q_iN, q_it, q_if, q_of, nI_add, pk_mul, pk_sub, nI_leI, nI_ltI, nI_eq, nI_clamp, nI_lt0, nI_eqm, m1_eq, true_or, or_true, not_false_eq_true, m1_lt, m1_nlt, m1_le, m1_nle, b01, b011, q_em, q_m1, n_0, n_1, n_2, n_3, n_4, n_5, n_6, n_7, n_8, n_9, n_10, n_11, n_12, n_14, n_15, n_16, n_20, n_24, n_25, n_32, n_36, n_40, n_41, n_42, n_43, n_45, n_46, n_48, n_57, n_59, n_60, n_73, n_76, n_97, n_99, n_100, n_106, n_109, n_120, n_122, n_136, n_160, n_176, n_200, n_255, n_800, n_1000, n_1001, n_1002, n_1003, n_1006, n_1012, n_1018, n_1019, n_1020, n_1100, n_1140, n_4800, n_4920, n_5940, n_6740, n_20220, q_kI, q_lI, q_nI, q_rI, q_iI, q_jI, q_dI, q_kJ, q_lJ, q_nJ, q_rJ, q_iJ, q_jJ, q_dJ, q_kC, q_lC, q_nC, q_rC, q_jC, q_dC, q_kF, q_lF, q_nF, q_rF, q_jF, q_dF, q_us, q_un, q_ua, B_X8_plugControl_10, q_prR, q1, hs.kx, hs.r1, s.k0, s.r0, s.k1, e0', e1, er]
theorem x8_plugControlA {i1 i2 : Int32} (h : INV μ x A) (hs2 : SE i2 (nt (A 0))) : F_X8_plugControl x i1 i2 μ = B_X8_plugControl_10 x i1 i2 μ := by
  have hs := h.is
  rcases hs2 with d | d
  · simp (disch := first | assumption | omega) only [q_bl, q_baT, q_bi, q_ba, q_pr, q_ob, q_iT, q_iN, q_it, q_if, q_of, nI_add, pk_mul, pk_sub, nI_leI, nI_ltI, nI_eq, nI_clamp, nI_lt0, nI_eqm, m1_eq, true_or, or_true, not_false_eq_true, m1_lt, m1_nlt, m1_le, m1_nle, b01, b011, q_em, q_m1, n_0, n_1, n_2, n_3, n_4, n_5, n_6, n_7, n_8, n_9, n_10, n_11, n_12, n_14, n_15, n_16, n_20, n_24, n_25, n_32, n_36, n_40, n_41, n_42, n_43, n_45, n_46, n_48, n_57, n_59, n_60, n_73, n_76, n_97, n_99, n_100, n_106, n_109, n_120, n_122, n_136, n_160, n_176, n_200, n_255, n_800, n_1000, n_1001, n_1002, n_1003, n_1006, n_1012, n_1018, n_1019, n_1020, n_1100, n_1140, n_4800, n_4920, n_5940, n_6740, n_20220, q_kI, q_lI, q_nI, q_rI, q_iI, q_jI, q_dI, q_kJ, q_lJ, q_nJ, q_rJ, q_iJ, q_jJ, q_dJ, q_kC, q_lC, q_nC, q_rC, q_jC, q_dC, q_kF, q_lF, q_nF, q_rF, q_jF, q_dF, q_us, q_un, q_ua, F_X8_plugControl, d, n_m1]
  · have c0 := h.w.c0.2
    have nm : ¬ i2 = -nI 1 := by obtain ⟨k, hk, rfl⟩ := d.ex (by omega); rw [nI_eqm (by omega)]; exact id
    have q2 := r8_field h d
    simp (disch := first | assumption | omega) only [q_bl, q_baT, q_bi, q_ba, q_pr, q_ob, q_iT, q_iN, q_it, q_if, q_of, nI_add, pk_mul, pk_sub, nI_leI, nI_ltI, nI_eq, nI_clamp, nI_lt0, nI_eqm, m1_eq, true_or, or_true, not_false_eq_true, m1_lt, m1_nlt, m1_le, m1_nle, b01, b011, q_em, q_m1, n_0, n_1, n_2, n_3, n_4, n_5, n_6, n_7, n_8, n_9, n_10, n_11, n_12, n_14, n_15, n_16, n_20, n_24, n_25, n_32, n_36, n_40, n_41, n_42, n_43, n_45, n_46, n_48, n_57, n_59, n_60, n_73, n_76, n_97, n_99, n_100, n_106, n_109, n_120, n_122, n_136, n_160, n_176, n_200, n_255, n_800, n_1000, n_1001, n_1002, n_1003, n_1006, n_1012, n_1018, n_1019, n_1020, n_1100, n_1140, n_4800, n_4920, n_5940, n_6740, n_20220, q_kI, q_lI, q_nI, q_rI, q_iI, q_jI, q_dI, q_kJ, q_lJ, q_nJ, q_rJ, q_iJ, q_jJ, q_dJ, q_kC, q_lC, q_nC, q_rC, q_jC, q_dC, q_kF, q_lF, q_nF, q_rF, q_jF, q_dF, q_us, q_un, q_ua, F_X8_plugControl, q_prR, q2, hs.kx, n_m1]
theorem x9_plugControl {m l : Nat} {i2 : Int32} (h : RA μ m A) (w : WB A) (l1 : 1 ≤ l) (l2 : l ≤ 3) (hs2 : SE i2 (nt (A 0))) : ∃ μ2, F_X9_plugControl m (nI l) i2 μ = some (A (73 + l - 1), μ2) ∧ RA μ2 m (sp_reset (ua A (73 + l - 1) i2)) ∧ RK μ μ2 m ∧ gI μ2 m 5 = nI 0 ∧ gJ μ2 (m + 12) = gJ μ (m + 12) := by
  have ra2 := h.thr (v := nI 0)
  have s1 := h.1
  have s2 := ra2.1
  have ra3 := ra2.put (j := 73 + l - 1) (v := i2)
  have c0 := w.c0
  obtain ⟨μ2, ez, z1, z2, z3, z4, z5⟩ := chg9b (μa := μ) ra3 (Fx.stI (P := fun a => a = m + 1) rfl)
  have g1 : gI μ (m + 1) (73 + l - 1) = A (73 + l - 1) := by rw [h.2]
  have g0 : gI μ (m + 1) 0 = nI (nt (A 0)) := by rw [h.2]; exact c0.1
  have e := b9_M (μ := μ) (by omega) hs2
  have q1 := q9_lev (μ := μ) (i := nI l) ⟨by rw [nI_toInt (by omega)]; omega, by rw [nI_toInt (by omega)]; omega⟩
  refine ⟨μ2, ?_, z1, z2, z3, z4⟩
  have e1 : nI (73 + l) - nI 1 = nI (73 + l - 1) := pk_sub (by omega)
  clear z1 z2 z3 z4 z5 ra3 h w hs2
  generalize nt (A 0) = n0 at *
  simp (disch := first | assumption | omega) only [q_bl, q_baT, q_bi, q_ba, q_pr, q_ob, q_iT, q_iN, q_it, q_if, q_of, nI_add, pk_mul, nI_leI, nI_ltI, nI_eq, nI_clamp, nI_lt0, nI_eqm, m1_eq, true_or, or_true, not_false_eq_true, m1_lt, m1_nlt, m1_le, m1_nle, b01, b011, q_em, q_m1, n_0, n_1, n_2, n_3, n_4, n_5, n_6, n_7, n_8, n_9, n_10, n_11, n_12, n_14, n_15, n_16, n_20, n_24, n_25, n_32, n_36, n_40, n_41, n_42, n_43, n_45, n_46, n_48, n_57, n_59, n_60, n_73, n_76, n_97, n_99, n_100, n_106, n_109, n_120, n_122, n_136, n_160, n_176, n_200, n_255, n_800, n_1000, n_1001, n_1002, n_1003, n_1006, n_1012, n_1018, n_1019, n_1020, n_1100, n_1140, n_4800, n_4920, n_5940, n_6740, n_20220, q_kI, q_lI, q_nI, q_rI, q_iI, q_jI, q_dI, q_kJ, q_lJ, q_nJ, q_rJ, q_iJ, q_jJ, q_dJ, q_kC, q_lC, q_nC, q_rC, q_jC, q_dC, q_kF, q_lF, q_nF, q_rF, q_jF, q_dF, q_us, q_un, q_ua, F_X9_plugControl, e, q1, s1.k0, q9_good2 s1, s1.r0, s1.k1, s1.l1, g0, g1, e1, ez]
theorem lw_plugControl {i1 i2 : Int32} (h : INV μ x A) : LW x (F_L_plugControl x i1 i2 (x + 132) μ) (F_X9_plugControl (x + 120) i1 i2) (fun b μ' => gJ μ' (x + 132) 0 = b.toInt64) := by
  have w := h.w
  have ra := h.ra
  have sr := h.is.sr
  have hs := h.is
  have d0 := w.c0
  have g0 : gI μ (x + 120 + 1) 0 = nI (nt (A 0)) := by rw [ra.2]; exact d0.1
  by_cases c0 : SE i2 (nt (A 0))
  · have q8 := x8_plugControlA (i1 := i1) h c0
    by_cases c1 : IP i1 3
    · obtain ⟨l, l1, l2, rfl⟩ := c1.ex (by decide)
      obtain ⟨μ1, e1, fr1, mr, is1⟩ := x8_plugControl h l1 l2 c0
      have ra1 : RA (stJ μ1 (x + 132) 0 (A (73 + l - 1)).toInt64) (x + 120) A := RA.out (ra.fx fr1 (by unfold CM; omega))
      obtain ⟨μ2, e2, z1, z2, z3, z4⟩ := x9_plugControl ra1 w l1 l2 c0
      refine LW.chg h (μ1 := μ1) (v := (A (73 + l - 1)).toInt64) (b := A (73 + l - 1)) ?_ fr1 mr ⟨μ2, e2, z1, z2, z3, by rw [show x + 132 = x + 120 + 12 from rfl, z4, q_jJ, q_us]⟩ (fun _ e => e)
      have kx := hs.kx
      have ko := is1.ko
      have lo := is1.lo
      clear h w ra sr z1 z2 z3 z4 e2 mr fr1 hs is1
      simp (disch := first | assumption | omega) only [q_bl, q_baT, q_bi, q_ba, q_pr, q_ob, q_iT, q_iN, q_it, q_if, q_of, nI_add, pk_mul, pk_sub, nI_leI, nI_ltI, nI_eq, nI_clamp, nI_lt0, nI_eqm, m1_eq, true_or, or_true, not_false_eq_true, m1_lt, m1_nlt, m1_le, m1_nle, b01, b011, q_em, q_m1, n_0, n_1, n_2, n_3, n_4, n_5, n_6, n_7, n_8, n_9, n_10, n_11, n_12, n_14, n_15, n_16, n_20, n_24, n_25, n_32, n_36, n_40, n_41, n_42, n_43, n_45, n_46, n_48, n_57, n_59, n_60, n_73, n_76, n_97, n_99, n_100, n_106, n_109, n_120, n_122, n_136, n_160, n_176, n_200, n_255, n_800, n_1000, n_1001, n_1002, n_1003, n_1006, n_1012, n_1018, n_1019, n_1020, n_1100, n_1140, n_4800, n_4920, n_5940, n_6740, n_20220, q_kI, q_lI, q_nI, q_rI, q_iI, q_jI, q_dI, q_kJ, q_lJ, q_nJ, q_rJ, q_iJ, q_jJ, q_dJ, q_kC, q_lC, q_nC, q_rC, q_jC, q_dC, q_kF, q_lF, q_nF, q_rF, q_jF, q_dF, q_us, q_un, q_ua, F_L_plugControl, q_prL, q_prR, kx, q8, e1, ko, lo]
    · have q9 := r8_levN (μ := μ) (x := x) c1
      have e := b9_M (μ := μ) (by omega) c0
      have q1 := q9_levN (μ := μ) c1
      refine LW.err h (k := nI 2) (b := nI 0) (by decide +kernel) (by simp (disch := first | assumption | omega) only [q_bl, q_baT, q_bi, q_ba, q_pr, q_ob, q_iT, q_iN, q_it, q_if, q_of, nI_add, pk_mul, pk_sub, nI_leI, nI_ltI, nI_eq, nI_clamp, nI_lt0, nI_eqm, m1_eq, true_or, or_true, not_false_eq_true, m1_lt, m1_nlt, m1_le, m1_nle, b01, b011, q_em, q_m1, n_0, n_1, n_2, n_3, n_4, n_5, n_6, n_7, n_8, n_9, n_10, n_11, n_12, n_14, n_15, n_16, n_20, n_24, n_25, n_32, n_36, n_40, n_41, n_42, n_43, n_45, n_46, n_48, n_57, n_59, n_60, n_73, n_76, n_97, n_99, n_100, n_106, n_109, n_120, n_122, n_136, n_160, n_176, n_200, n_255, n_800, n_1000, n_1001, n_1002, n_1003, n_1006, n_1012, n_1018, n_1019, n_1020, n_1100, n_1140, n_4800, n_4920, n_5940, n_6740, n_20220, q_kI, q_lI, q_nI, q_rI, q_iI, q_jI, q_dI, q_kJ, q_lJ, q_nJ, q_rJ, q_iJ, q_jJ, q_dJ, q_kC, q_lC, q_nC, q_rC, q_jC, q_dC, q_kF, q_lF, q_nF, q_rF, q_jF, q_dF, q_us, q_un, q_ua, F_L_plugControl, B_X8_plugControl_10, q_prL, q_prR, hs.kx, q8, q9]) ?_
      clear c0 q8 q9
      generalize nt (A 0) = n0 at *
      simp (disch := first | assumption | omega) only [q_bl, q_baT, q_bi, q_ba, q_pr, q_ob, q_iT, q_iN, q_it, q_if, q_of, nI_add, pk_mul, nI_leI, nI_ltI, nI_eq, nI_clamp, nI_lt0, nI_eqm, m1_eq, true_or, or_true, not_false_eq_true, m1_lt, m1_nlt, m1_le, m1_nle, b01, b011, q_em, q_m1, n_0, n_1, n_2, n_3, n_4, n_5, n_6, n_7, n_8, n_9, n_10, n_11, n_12, n_14, n_15, n_16, n_20, n_24, n_25, n_32, n_36, n_40, n_41, n_42, n_43, n_45, n_46, n_48, n_57, n_59, n_60, n_73, n_76, n_97, n_99, n_100, n_106, n_109, n_120, n_122, n_136, n_160, n_176, n_200, n_255, n_800, n_1000, n_1001, n_1002, n_1003, n_1006, n_1012, n_1018, n_1019, n_1020, n_1100, n_1140, n_4800, n_4920, n_5940, n_6740, n_20220, F_X9_plugControl, sr.k0, sr.r0, sr.k1, sr.l1, g0, e, q1, q9_good2M sr]
  · have q9 := r8_fieldN h (fun e => c0 (Or.inr e))
    have nm : ¬ i2 = -nI 1 := fun e => c0 (Or.inl e)
    have e := b9_MN (μ := μ) (by omega) c0
    obtain ⟨v, q1⟩ : ∃ v, F_X9_isLevel i1 μ = some v := by
      by_cases c1 : IP i1 3
      · exact ⟨_, q9_lev c1⟩
      · exact ⟨_, q9_levN c1⟩
    refine LW.err h (k := nI 1) (b := nI 0) (by decide +kernel) (by simp (disch := first | assumption | omega) only [q_bl, q_baT, q_bi, q_ba, q_pr, q_ob, q_iT, q_iN, q_it, q_if, q_of, nI_add, pk_mul, pk_sub, nI_leI, nI_ltI, nI_eq, nI_clamp, nI_lt0, nI_eqm, m1_eq, true_or, or_true, not_false_eq_true, m1_lt, m1_nlt, m1_le, m1_nle, b01, b011, q_em, q_m1, n_0, n_1, n_2, n_3, n_4, n_5, n_6, n_7, n_8, n_9, n_10, n_11, n_12, n_14, n_15, n_16, n_20, n_24, n_25, n_32, n_36, n_40, n_41, n_42, n_43, n_45, n_46, n_48, n_57, n_59, n_60, n_73, n_76, n_97, n_99, n_100, n_106, n_109, n_120, n_122, n_136, n_160, n_176, n_200, n_255, n_800, n_1000, n_1001, n_1002, n_1003, n_1006, n_1012, n_1018, n_1019, n_1020, n_1100, n_1140, n_4800, n_4920, n_5940, n_6740, n_20220, q_kI, q_lI, q_nI, q_rI, q_iI, q_jI, q_dI, q_kJ, q_lJ, q_nJ, q_rJ, q_iJ, q_jJ, q_dJ, q_kC, q_lC, q_nC, q_rC, q_jC, q_dC, q_kF, q_lF, q_nF, q_rF, q_jF, q_dF, q_us, q_un, q_ua, F_L_plugControl, F_X8_plugControl, q_prL, q_prR, hs.kx, q9, n_m1]) ?_
    clear c0 q9
    generalize nt (A 0) = n0 at *
    simp (disch := first | assumption | omega) only [q_bl, q_baT, q_bi, q_ba, q_pr, q_ob, q_iT, q_iN, q_it, q_if, q_of, nI_add, pk_mul, nI_leI, nI_ltI, nI_eq, nI_clamp, nI_lt0, nI_eqm, m1_eq, true_or, or_true, not_false_eq_true, m1_lt, m1_nlt, m1_le, m1_nle, b01, b011, q_em, q_m1, n_0, n_1, n_2, n_3, n_4, n_5, n_6, n_7, n_8, n_9, n_10, n_11, n_12, n_14, n_15, n_16, n_20, n_24, n_25, n_32, n_36, n_40, n_41, n_42, n_43, n_45, n_46, n_48, n_57, n_59, n_60, n_73, n_76, n_97, n_99, n_100, n_106, n_109, n_120, n_122, n_136, n_160, n_176, n_200, n_255, n_800, n_1000, n_1001, n_1002, n_1003, n_1006, n_1012, n_1018, n_1019, n_1020, n_1100, n_1140, n_4800, n_4920, n_5940, n_6740, n_20220, F_X9_plugControl, sr.k0, sr.r0, sr.k1, sr.l1, g0, e, q1, q9_good2N sr]
end PL2

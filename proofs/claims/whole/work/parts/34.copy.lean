/-! LAYER 3: the class's machine: taking a plugboard and a deck, copying a machine -/
theorem RT.tr {I I' : Nat → SA} {t t2 k base stride : Nat} {A : SA} (h : RT I t2 A k base stride) (e1 : I' t 2 = I t2 2) (e2 : ∀ j, j < 60 → I' (t + 1) j = I (t2 + 1) j) (hk : nt (A k) ≤ 12) (hs : stride ≤ 5) : RT I' t A k base stride :=
  ⟨e1.trans h.1, fun i j hi hj => (e2 _ (by omega)).trans (h.2 i j hi hj)⟩
theorem RB.tr {I I' : Nat → SA} {r r2 : Nat} {A : SA} (h : RB I r2 A) (w : WB A) (e : bdEq I' I (r + 1) (r2 + 1)) : RB I' r A := by
  have b0 := w.c0.2
  have b1 := w.c1.2
  have b2 := w.c2.2
  have b3 := w.c3.2
  have b4 := w.c4.2
  have b5 := w.c5.2
  have b6 := w.c6.2
  have b7 := w.c7.2
  obtain ⟨h0, h1, h2, h3, h4, h5, h6, h7, h8⟩ := h
  have q := e.1
  refine ⟨h0.tr (q 0 (by decide)).1 (q 0 (by decide)).2 (by omega) (by decide), h1.tr (q 1 (by decide)).1 (q 1 (by decide)).2 (by omega) (by decide), h2.tr (q 2 (by decide)).1 (q 2 (by decide)).2 (by omega) (by decide), h3.tr (q 3 (by decide)).1 (q 3 (by decide)).2 (by omega) (by decide), h4.tr (q 4 (by decide)).1 (q 4 (by decide)).2 (by omega) (by decide), h5.tr (q 5 (by decide)).1 (q 5 (by decide)).2 (by omega) (by decide), h6.tr (q 6 (by decide)).1 (q 6 (by decide)).2 (by omega) (by decide), ⟨(q 7 (by decide)).1.trans h7.1, fun i hi => ?_⟩, fun l l1 l2 => (e.2 l (by omega)).trans (h8 l l1 l2)⟩
  have q7 := (q 7 (by decide)).2
  have z : ∀ j, j < 5 → I' (r + 16 + 1) (i * 5 + j) = I (r2 + 16 + 1) (i * 5 + j) := fun j hj => q7 _ (by omega)
  have := h7.2 i hi
  rw [z 0 (by decide), z 1 (by decide), z 2 (by decide), z 3 (by decide)]
  exact this
theorem RD.tr {I I' : Nat → SA} {d d2 : Nat} {A : SA} (h : RD I d2 A) (w : WB A) (e1 : I' d 1 = I d2 1) (e2 : ∀ j, j < 800 → I' (d + 1) j = I (d2 + 1) j) : RD I' d A := by
  have b8 := w.c8.2
  exact ⟨e1.trans h.1, fun i k hi h1 h2 => (e2 _ (by omega)).trans (h.2 i k hi h1 h2)⟩
theorem x3_setup {μ : Mem} {r r2 : Nat} {A : SA} (s : SM μ r) (sb : SB μ (r2 + 1)) (sd : SD μ (r2 + 19)) (hr : RBD (gI μ) r2 A) (w : WB A) (hn : r2 + 21 ≤ r ∨ r + 31 ≤ r2) : ∃ μ', F_X3_takeSetup r (r2 + 1) (r2 + 19) μ = some μ' ∧ MO μ' r (sp_reset A) 0 ∧ Fx (MR r) μ μ' := by
  obtain ⟨μ1, e1, f1, q1⟩ := x1_cp s.sb sb (by omega)
  have s1 := s.fx f1
  obtain ⟨μ2, e2, f2, q2, q3⟩ := x2_cp s1.sd (sd.fx f1) (by omega) (by omega) (by omega)
  have s2 := s1.fx f2
  have hB : RB (gI μ2) r A := by
    refine (hr.1.tr w q1).cg w (fun a a1 a2 => f2.I (by omega)) (fun _ _ => rfl)
  have hD : RD (gI μ2) (r + 19) A := by
    refine hr.2.tr w ?_ (fun j hj => ?_)
    · rw [q2]; rw [f1.I (by omega)]
    · rw [q3 j hj]; rw [f1.I (by omega)]
  obtain ⟨μ3, e3, m3, f3⟩ := x3_restart s2 ⟨hB, hD⟩ w
  exact ⟨μ3, by simp (disch := first | assumption | omega) only [q_bl, q_baT, q_bi, q_ba, q_pr, q_ob, q_iT, q_iN, q_it, q_if, q_of, nI_add, pk_mul, pk_sub, nI_leI, nI_ltI, nI_eq, nI_clamp, nI_lt0, nI_eqm, m1_eq, true_or, or_true, not_false_eq_true, m1_lt, m1_nlt, m1_le, m1_nle, b01, b011, q_em, q_m1, n_0, n_1, n_2, n_3, n_4, n_5, n_6, n_7, n_8, n_9, n_10, n_11, n_12, n_14, n_15, n_16, n_20, n_24, n_25, n_32, n_36, n_40, n_41, n_42, n_43, n_45, n_46, n_48, n_57, n_59, n_60, n_73, n_76, n_97, n_99, n_100, n_106, n_109, n_120, n_122, n_136, n_160, n_176, n_200, n_255, n_800, n_1000, n_1001, n_1002, n_1003, n_1006, n_1012, n_1018, n_1019, n_1020, n_1100, n_1140, n_4800, n_4920, n_5940, n_6740, n_20220, q_kI, q_lI, q_nI, q_rI, q_iI, q_jI, q_dI, q_kJ, q_lJ, q_nJ, q_rJ, q_iJ, q_jJ, q_dJ, q_kC, q_lC, q_nC, q_rC, q_jC, q_dC, q_kF, q_lF, q_nF, q_rF, q_jF, q_dF, q_us, q_un, q_ua, F_X3_takeSetup, s.k0, s.r0, s.k1, s1.k0, s1.r1, s1.k19, s2.k0, e1, e2, e3], m3, ((f1.mono (fun a ha => ⟨by omega, by omega⟩)).trans (f2.mono (fun a ha => by rcases ha with q | q <;> exact ⟨by omega, by omega⟩))).trans f3⟩
theorem x3_copy {μ : Mem} {r r2 b : Nat} {A : SA} (s : SM μ r) (h : MO μ r2 A b) (hn : r2 + 31 ≤ r ∨ r + 31 ≤ r2) : ∃ μ', F_X3_copyFrom r r2 μ = some μ' ∧ MO μ' r A b ∧ Fx (MR r) μ μ' := by
  obtain ⟨t, hr, w, m⟩ := h
  have c8 := w.c8.2
  obtain ⟨μ1, e1, f1, q1⟩ := x1_cp s.sb t.sb (by omega)
  have s1 := s.fx f1
  have t1 := t.fx f1
  obtain ⟨μ2, e2, f2, q2, q3⟩ := x2_cp s1.sd t1.sd (by omega) (by omega) (by omega)
  have s2 := s1.fx f2
  have t2 := t1.fx f2
  have fa : Fx (MR r) μ μ2 := (f1.mono (fun a ha => ⟨by omega, by omega⟩)).trans (f2.mono (fun a ha => by rcases ha with q | q <;> exact ⟨by omega, by omega⟩))
  have f3 : Fx (fun a => r + 21 ≤ a ∧ a < r + 25) μ2 (stC (stC (stC (stC μ2 (r2 + 21) 0 (r + 21) 0 6) (r2 + 22) 0 (r + 22) 0 6) (r2 + 24) 0 (r + 24) 0 4) (r2 + 23) 0 (r + 23) 0 6) := (Fx.stC ⟨by omega, by omega⟩).trans ((Fx.stC ⟨by omega, by omega⟩).trans ((Fx.stC ⟨by omega, by omega⟩).trans (Fx.stC ⟨by omega, by omega⟩)))
  generalize hμ3 : stC (stC (stC (stC μ2 (r2 + 21) 0 (r + 21) 0 6) (r2 + 22) 0 (r + 22) 0 6) (r2 + 24) 0 (r + 24) 0 4) (r2 + 23) 0 (r + 23) 0 6 = μ3 at f3
  have v1 : ∀ j, j < 6 → gI μ3 (r + 21) j = gI μ2 (r2 + 21) j := fun j hj => by
    rw [← hμ3, q_iCo (by omega), q_iCo (by omega), q_iCo (by omega), q_iCi (by omega) (by omega)]; congr 1; omega
  have v2 : ∀ j, j < 6 → gI μ3 (r + 22) j = gI μ2 (r2 + 22) j := fun j hj => by
    rw [← hμ3, q_iCo (by omega), q_iCo (by omega), q_iCi (by omega) (by omega), q_iCo (by omega)]; congr 1; omega
  have v3 : ∀ j, j < 4 → gI μ3 (r + 24) j = gI μ2 (r2 + 24) j := fun j hj => by
    rw [← hμ3, q_iCo (by omega), q_iCi (by omega) (by omega), q_iCo (by omega), q_iCo (by omega)]; congr 1; omega
  have v4 : ∀ j, j < 6 → gI μ3 (r + 23) j = gI μ2 (r2 + 23) j := fun j hj => by
    rw [← hμ3, q_iCi (by omega) (by omega), q_iCo (by omega), q_iCo (by omega), q_iCo (by omega)]; congr 1; omega
  have s3 := s2.fx f3
  have t3 := t2.fx f3
  obtain ⟨μ4, e4, f4, q4, q5, q6⟩ := x4_cp s3.sp t3.sp (by omega)
  have s4 := s3.fx f4
  have t4 := t3.fx f4
  obtain ⟨μ5, e5, f5, q7, q8⟩ := x2_cp s4.su t4.su (by omega) (by omega) (by omega)
  have s5 := s4.fx f5
  have t5 := t4.fx f5
  have fb : Fx (MR r) μ μ5 := fa.trans ((f3.mono (fun a ha => ⟨by omega, by omega⟩)).trans ((f4.mono (fun a ha => ⟨by omega, by omega⟩)).trans (f5.mono (fun a ha => by rcases ha with q | q <;> exact ⟨by omega, by omega⟩))))
  have g2 : ∀ a, r2 ≤ a → a < r2 + 31 → gI μ5 a = gI μ a := fun a a1 a2 => fb.I (fun q => by have := q.1; have := q.2; omega)
  have ga : ∀ a, r2 ≤ a → a < r2 + 31 → gI μ2 a = gI μ a := fun a a1 a2 => fa.I (fun q => by have := q.1; have := q.2; omega)
  have hf := hr.2.2.2.2.2.2.2.2
  have h01 : gI μ5 r2 11 = nI 0 ∨ gI μ5 r2 11 = nI 1 := by
    rw [g2 r2 (by omega) (by omega), hf.2.2]
    obtain ⟨n, e, n1, n2⟩ := m.2.1
    rw [e]
    have : n = 0 ∨ n = 1 := by omega
    rcases this with rfl | rfl
    · exact Or.inl rfl
    · exact Or.inr rfl
  have f6 : Fx (fun a => a = r) μ5 (stI (stI (stI μ5 r 9 (gI μ5 r2 9)) r 10 (gI μ5 r2 10)) r 11 (gI μ5 r2 11)) := Fx.trans (P := fun a => a = r) (Fx.stI (show r = r from rfl)) (Fx.trans (P := fun a => a = r) (Fx.stI (show r = r from rfl)) (Fx.stI (show r = r from rfl)))
  have eN : ∀ a, ¬ a = r → gI (stI (stI (stI μ5 r 9 (gI μ5 r2 9)) r 10 (gI μ5 r2 10)) r 11 (gI μ5 r2 11)) a = gI μ5 a := fun a ha => f6.I ha
  refine ⟨stI (stI (stI μ5 r 9 (gI μ5 r2 9)) r 10 (gI μ5 r2 10)) r 11 (gI μ5 r2 11), ?_, ⟨s5.fx f6, ⟨?_, ?_, fun k hk => ?_, fun k hk => ?_, fun k hk => ?_, fun l l1 l2 => ?_, ⟨?_, fun l hl => ⟨?_, fun k k1 k2 => ?_⟩⟩, ⟨?_, fun i k hi k1 k2 => ?_⟩, ?_, ?_, ?_⟩, w, m⟩, fb.trans (f6.mono (fun a ha => ⟨by omega, by omega⟩))⟩
  · have x5 : (gI μ5 r2 11 = nI 0 ∨ gI μ5 r2 11 = nI 1) = True := eq_true h01
    simp (disch := first | assumption | omega) only [q_bl, q_baT, q_bi, q_ba, q_pr, q_ob, q_iT, q_iN, q_it, q_if, q_of, nI_add, pk_mul, pk_sub, nI_leI, nI_ltI, nI_eq, nI_clamp, nI_lt0, nI_eqm, m1_eq, true_or, or_true, not_false_eq_true, m1_lt, m1_nlt, m1_le, m1_nle, b01, b011, q_em, q_m1, n_0, n_1, n_2, n_3, n_4, n_5, n_6, n_7, n_8, n_9, n_10, n_11, n_12, n_14, n_15, n_16, n_20, n_24, n_25, n_32, n_36, n_40, n_41, n_42, n_43, n_45, n_46, n_48, n_57, n_59, n_60, n_73, n_76, n_97, n_99, n_100, n_106, n_109, n_120, n_122, n_136, n_160, n_176, n_200, n_255, n_800, n_1000, n_1001, n_1002, n_1003, n_1006, n_1012, n_1018, n_1019, n_1020, n_1100, n_1140, n_4800, n_4920, n_5940, n_6740, n_20220, q_kI, q_lI, q_nI, q_rI, q_iI, q_jI, q_dI, q_kJ, q_lJ, q_nJ, q_rJ, q_iJ, q_jJ, q_dJ, q_kC, q_lC, q_nC, q_rC, q_jC, q_dC, q_kF, q_lF, q_nF, q_rF, q_jF, q_dF, q_us, q_un, q_ua, F_X3_copyFrom, s.k0, s.r0, s.k1, t.k0, t.r0, s1.k0, s1.r1, s1.k19, t1.k0, t1.r1, s2.k0, t2.k0, s2.r2, s2.k21, s2.l21, t2.r2, t2.k21, t2.l21, s2.r3, s2.k22, s2.l22, t2.r3, t2.k22, t2.l22, s2.r5, s2.k24, s2.l24, t2.r5, t2.k24, t2.l24, s2.r4, s2.k23, s2.l23, t2.r4, t2.k23, t2.l23, q_oT, Nat.zero_add, hμ3, s2.r7, t2.r7, s2.k26, s3.k0, t3.k0, s3.r7, t3.r7, s3.k26, s4.k0, t4.k0, s4.r8, t4.r8, s4.k29, s5.k0, t5.k0, e1, e2, e4, e5, x5]
  · refine (hr.1.tr w q1).cg w (fun a a1 a2 => ?_) (fun _ _ => rfl)
    rw [eN a (by omega), f5.I (by omega), f4.I (by omega), f3.I (by omega), f2.I (by omega)]
  · refine hr.2.1.tr w ?_ (fun j hj => ?_)
    · rw [eN _ (by omega), f5.I (by omega), f4.I (by omega), f3.I (by omega), q2, f1.I (by omega)]
    · rw [eN _ (by omega), f5.I (by omega), f4.I (by omega), f3.I (by omega), q3 j hj, f1.I (by omega)]
  · rw [eN _ (by omega), f5.I (by omega), f4.I (by omega), v1 k hk, ga _ (by omega) (by omega)]; exact hr.2.2.1 k hk
  · rw [eN _ (by omega), f5.I (by omega), f4.I (by omega), v2 k hk, ga _ (by omega) (by omega)]; exact hr.2.2.2.1 k hk
  · rw [eN _ (by omega), f5.I (by omega), f4.I (by omega), v4 k hk, ga _ (by omega) (by omega)]; exact hr.2.2.2.2.1 k hk
  · rw [eN _ (by omega), f5.I (by omega), f4.I (by omega), v3 l (by omega), ga _ (by omega) (by omega)]; exact hr.2.2.2.2.2.1 l l1 l2
  · rw [eN _ (by omega), f5.I (by omega), q4, f3.I (by omega), ga _ (by omega) (by omega)]; exact hr.2.2.2.2.2.2.1.1
  · rw [eN _ (by omega), f5.I (by omega), show r + 28 = r + 26 + 2 from rfl, q6 l (by omega), f3.I (by omega), show r2 + 26 + 2 = r2 + 28 from rfl, ga _ (by omega) (by omega)]; exact (hr.2.2.2.2.2.2.1.2 l hl).1
  · rw [eN _ (by omega), f5.I (by omega), show r + 27 = r + 26 + 1 from rfl, q5 _ (by omega), f3.I (by omega), show r2 + 26 + 1 = r2 + 27 from rfl, ga _ (by omega) (by omega)]; exact (hr.2.2.2.2.2.2.1.2 l hl).2 k k1 k2
  · rw [eN _ (by omega), q7, f4.I (by omega), f3.I (by omega), ga _ (by omega) (by omega)]; exact hr.2.2.2.2.2.2.2.1.1
  · rw [eN _ (by omega), show r + 30 = r + 29 + 1 from rfl, q8 _ (by omega), f4.I (by omega), f3.I (by omega), show r2 + 29 + 1 = r2 + 30 from rfl, ga _ (by omega) (by omega)]; exact hr.2.2.2.2.2.2.2.1.2 i k hi k1 k2
  · simp (disch := first | assumption | omega) only [q_bl, q_baT, q_bi, q_ba, q_pr, q_ob, q_iT, q_iN, q_it, q_if, q_of, nI_add, pk_mul, pk_sub, nI_leI, nI_ltI, nI_eq, nI_clamp, nI_lt0, nI_eqm, m1_eq, true_or, or_true, not_false_eq_true, m1_lt, m1_nlt, m1_le, m1_nle, b01, b011, q_em, q_m1, n_0, n_1, n_2, n_3, n_4, n_5, n_6, n_7, n_8, n_9, n_10, n_11, n_12, n_14, n_15, n_16, n_20, n_24, n_25, n_32, n_36, n_40, n_41, n_42, n_43, n_45, n_46, n_48, n_57, n_59, n_60, n_73, n_76, n_97, n_99, n_100, n_106, n_109, n_120, n_122, n_136, n_160, n_176, n_200, n_255, n_800, n_1000, n_1001, n_1002, n_1003, n_1006, n_1012, n_1018, n_1019, n_1020, n_1100, n_1140, n_4800, n_4920, n_5940, n_6740, n_20220, q_kI, q_lI, q_nI, q_rI, q_iI, q_jI, q_dI, q_kJ, q_lJ, q_nJ, q_rJ, q_iJ, q_jJ, q_dJ, q_kC, q_lC, q_nC, q_rC, q_jC, q_dC, q_kF, q_lF, q_nF, q_rF, q_jF, q_dF, q_us, q_un, q_ua]; rw [g2 r2 (by omega) (by omega)]; exact hf.1
  · simp (disch := first | assumption | omega) only [q_bl, q_baT, q_bi, q_ba, q_pr, q_ob, q_iT, q_iN, q_it, q_if, q_of, nI_add, pk_mul, pk_sub, nI_leI, nI_ltI, nI_eq, nI_clamp, nI_lt0, nI_eqm, m1_eq, true_or, or_true, not_false_eq_true, m1_lt, m1_nlt, m1_le, m1_nle, b01, b011, q_em, q_m1, n_0, n_1, n_2, n_3, n_4, n_5, n_6, n_7, n_8, n_9, n_10, n_11, n_12, n_14, n_15, n_16, n_20, n_24, n_25, n_32, n_36, n_40, n_41, n_42, n_43, n_45, n_46, n_48, n_57, n_59, n_60, n_73, n_76, n_97, n_99, n_100, n_106, n_109, n_120, n_122, n_136, n_160, n_176, n_200, n_255, n_800, n_1000, n_1001, n_1002, n_1003, n_1006, n_1012, n_1018, n_1019, n_1020, n_1100, n_1140, n_4800, n_4920, n_5940, n_6740, n_20220, q_kI, q_lI, q_nI, q_rI, q_iI, q_jI, q_dI, q_kJ, q_lJ, q_nJ, q_rJ, q_iJ, q_jJ, q_dJ, q_kC, q_lC, q_nC, q_rC, q_jC, q_dC, q_kF, q_lF, q_nF, q_rF, q_jF, q_dF, q_us, q_un, q_ua]; rw [g2 r2 (by omega) (by omega)]; exact hf.2.1
  · simp (disch := first | assumption | omega) only [q_bl, q_baT, q_bi, q_ba, q_pr, q_ob, q_iT, q_iN, q_it, q_if, q_of, nI_add, pk_mul, pk_sub, nI_leI, nI_ltI, nI_eq, nI_clamp, nI_lt0, nI_eqm, m1_eq, true_or, or_true, not_false_eq_true, m1_lt, m1_nlt, m1_le, m1_nle, b01, b011, q_em, q_m1, n_0, n_1, n_2, n_3, n_4, n_5, n_6, n_7, n_8, n_9, n_10, n_11, n_12, n_14, n_15, n_16, n_20, n_24, n_25, n_32, n_36, n_40, n_41, n_42, n_43, n_45, n_46, n_48, n_57, n_59, n_60, n_73, n_76, n_97, n_99, n_100, n_106, n_109, n_120, n_122, n_136, n_160, n_176, n_200, n_255, n_800, n_1000, n_1001, n_1002, n_1003, n_1006, n_1012, n_1018, n_1019, n_1020, n_1100, n_1140, n_4800, n_4920, n_5940, n_6740, n_20220, q_kI, q_lI, q_nI, q_rI, q_iI, q_jI, q_dI, q_kJ, q_lJ, q_nJ, q_rJ, q_iJ, q_jJ, q_dJ, q_kC, q_lC, q_nC, q_rC, q_jC, q_dC, q_kF, q_lF, q_nF, q_rF, q_jF, q_dF, q_us, q_un, q_ua]; rw [g2 r2 (by omega) (by omega)]; exact hf.2.2

/-! LAYER 3: calls that change plugs -/
theorem pokc_to {A B : SA} {i : Nat} (h : pokc A i) (e0 : B 0 = A 0) (e1 : B 1 = A 1) (e : ∀ j, j < 5 → B (43 + 5 * i + j) = A (43 + 5 * i + j)) : pokc B i := by
  have e00 : B (43 + 5 * i) = A (43 + 5 * i) := e 0 (by decide)
  unfold pokc
  rw [e00, e 1 (by decide), e 2 (by decide), e 3 (by decide), e 4 (by decide), e0, e1]; exact h
theorem pokl_to {A B : SA} {l : Nat} (h : pokl A l) (e0 : B 0 = A 0) (e : B (73 + l - 1) = A (73 + l - 1)) : pokl B l := by
  unfold pokl
  rw [e, e0]; exact h
theorem RD.plug {I I' : Nat → SA} {d : Nat} {A B : SA} (h : RD I d A) (e1 : I' d = I d) (e2 : I' (d + 1) = I (d + 1)) (e : ∀ i, ¬ (43 ≤ i ∧ i < 76) → B i = A i) : RD I' d B := by
  unfold RD
  rw [e1, e2, e 8 (by decide)]
  exact ⟨h.1, fun i k hi k1 k2 => by rw [e _ (by omega)]; exact h.2 i k hi k1 k2⟩
section PLG
variable {μ μ1 μ2 : Mem} {x : Nat} {A B : SA}
theorem plug_end (h : INV μ x A) (f : Fx (fun a => a = x + 33 ∨ a = x + 44) μ μ1) (e : ∀ i, ¬ (43 ≤ i ∧ i < 76) → B i = A i) (hc : ∀ i j, i < nt (A 2) → j < 5 → gI μ1 (x + 33) (i * 5 + j) = B (43 + 5 * i + j)) (hl : ∀ l, 1 ≤ l → l ≤ 3 → gI μ1 (x + 44) l = B (73 + l - 1)) (pc : ∀ i, i < nt (A 2) → pokc B i) (pl : ∀ l, 1 ≤ l → l ≤ 3 → pokl B l) :
    ∃ μ2, F_X3_restart (x + 26) μ1 = some μ2 ∧ MO μ2 (x + 26) (sp_reset B) (BB (sp_reset B)) ∧ Fx (CM x) μ μ2 ∧ IS μ2 x := by
  have w := h.w
  have bd := h.mo.2.1.bd
  have wB := wb_plug w e pc pl
  refine chg_end h (f.mono (fun a ha => by unfold CM; omega)) ⟨bd.1.plug w (fun a a1 a2 a3 => f.I (by omega)) e hc hl, bd.2.plug (f.I (by omega)) (f.I (by omega)) e⟩ wB
theorem INV.rc (h : INV μ x A) {i j : Nat} (hi : i < nt (A 2)) (hj : j < 5) : gI μ (x + 33) (i * 5 + j) = A (43 + 5 * i + j) := h.mo.2.1.1.2.2.1.2 i j hi hj
theorem INV.rl (h : INV μ x A) {l : Nat} (h1 : 1 ≤ l) (h2 : l ≤ 3) : gI μ (x + 44) l = A (73 + l - 1) := h.mo.2.1.1.2.2.2.2.2.2.2.2 l h1 h2
-- plugCounter
theorem x8_plugCounter {c f k : Nat} (h : INV μ x A) (hc : c < nt (A 2)) (hf : f < nt (A 0)) (hk : k ≤ 2) : ∃ μ1, F_X8_plugCounter x (nI c) (nI f) (nI k) μ = some (.inr (A (43 + 5 * c + 1)), μ1) ∧ Fx (CM x) μ μ1 ∧ MO μ1 (x + 26) (sp_reset (ua (ua A (43 + 5 * c + 1) (nI f)) (43 + 5 * c + 2) (nI k))) (BB (sp_reset (ua (ua A (43 + 5 * c + 1) (nI f)) (43 + 5 * c + 2) (nI k)))) ∧ IS μ1 x := by
  have w := h.w
  have c0 := w.c0.2
  have c2 := w.c2.2
  have s := h.is.m1
  have n2 := h.mo.2.1.n2 w
  have e0 := x6_at (p := 1) s.st2 n2 (by omega) hc (by decide)
  have e1 := x6_put (p := 1) (v := nI f) s.st2 n2 (by omega) hc (by decide)
  have f1 : Fx (fun a => a = x + 33) μ (stI μ (x + 26 + 6 + 1) (c * 5 + 1) (nI f)) := Fx.stI rfl
  have n2' : gI (stI μ (x + 26 + 6 + 1) (c * 5 + 1) (nI f)) (x + 26 + 6) 2 = nI (nt (A 2)) := by rw [q_iI, q_un (by omega)]; exact n2
  have e2 := x6_put (p := 2) (v := nI k) (s.st2.fx f1) n2' (by omega) hc (by decide)
  have f2 : Fx (fun a => a = x + 33) μ (stI (stI μ (x + 26 + 6 + 1) (c * 5 + 1) (nI f)) (x + 26 + 6 + 1) (c * 5 + 2) (nI k)) := f1.trans (Fx.stI rfl)
  obtain ⟨μ1, er, mr, fr1, is1⟩ := plug_end (B := ua (ua A (43 + 5 * c + 1) (nI f)) (43 + 5 * c + 2) (nI k)) h (f2.mono (fun a ha => Or.inl ha)) (fun i hi => by rw [ua_n (by omega), ua_n (by omega)]) (fun i j hi hj => by
    rw [q_iI, q_iI, show x + 26 + 6 + 1 = x + 33 from rfl]
    by_cases d2 : i = c ∧ j = 2
    · obtain ⟨rfl, rfl⟩ := d2; rw [q_us, ua_s]
    · rw [q_un (by omega), ua_n (by omega)]
      by_cases d1 : i = c ∧ j = 1
      · obtain ⟨rfl, rfl⟩ := d1; rw [q_us, ua_s]
      · rw [q_un (by omega), ua_n (by omega)]; exact h.rc hi hj) (fun l l1 l2 => by
    rw [ua_n (by omega), ua_n (by omega), f2.I (by omega)]; exact h.rl l1 l2) (fun i hi => by
    by_cases d : i = c
    · subst d
      obtain ⟨a1, a2, a3, a4, a5⟩ := w.oc hi
      unfold pokc
      rw [ua_s, ua_n (by omega), ua_n (by omega), ua_n (by omega), ua_s, ua_n (by omega), ua_n (by omega), ua_n (by omega), ua_n (by omega), ua_n (by omega), ua_n (by omega), ua_n (by omega), ua_n (by omega)]
      exact ⟨a1, ⟨⟨f, rfl, by omega, by omega⟩, by rw [nt_nI (by omega)]; exact hf⟩, ⟨k, rfl, by omega, hk⟩, a4, a5⟩
    · exact pokc_to (w.oc hi) (by rw [ua_n (by omega), ua_n (by omega)]) (by rw [ua_n (by omega), ua_n (by omega)]) (fun j hj => by rw [ua_n (by omega), ua_n (by omega)])) (fun l l1 l2 => pokl_to (w.ol l1 l2) (by rw [ua_n (by omega), ua_n (by omega)]) (by rw [ua_n (by omega), ua_n (by omega)]))
  refine ⟨μ1, ?_, fr1, mr, is1⟩
  have e0' : F_X6_at (x + 26 + 6) (nI c) (nI 1) μ = some (A (43 + 5 * c + 1)) := e0.trans (congrArg some (h.rc hc (by decide)))
  have hs := h.is
  have q1 := r8_ctr h (i := nI c) (by rw [IR.nI (by omega)]; exact hc)
  have q2 := r8_field h (i := nI f) (by rw [IR.nI (by omega)]; exact hf)
  clear mr is1 fr1 h w
  simp (disch := first | assumption | omega) only [q_bl, q_baT, q_bi, q_ba, q_pr, q_ob, q_iT, q_iN, q_it, q_if, q_of, nI_add, pk_mul, pk_sub, nI_leI, nI_ltI, nI_eq, nI_clamp, nI_lt0, nI_eqm, m1_eq, true_or, or_true, not_false_eq_true, m1_lt, m1_nlt, m1_le, m1_nle, b01, b011, q_em, q_m1, n_0, n_1, n_2, n_3, n_4, n_5, n_6, n_7, n_8, n_9, n_10, n_11, n_12, n_14, n_15, n_16, n_20, n_24, n_25, n_32, n_36, n_40, n_41, n_42, n_43, n_45, n_46, n_48, n_57, n_59, n_60, n_73, n_76, n_97, n_99, n_100, n_106, n_109, n_120, n_122, n_136, n_160, n_176, n_200, n_255, n_800, n_1000, n_1001, n_1002, n_1003, n_1006, n_1012, n_1018, n_1019, n_1020, n_1100, n_1140, n_4800, n_4920, n_5940, n_6740, n_20220, q_kI, q_lI, q_nI, q_rI, q_iI, q_jI, q_dI, q_kJ, q_lJ, q_nJ, q_rJ, q_iJ, q_jJ, q_dJ, q_kC, q_lC, q_nC, q_rC, q_jC, q_dC, q_kF, q_lF, q_nF, q_rF, q_jF, q_dF, q_us, q_un, q_ua, F_X8_plugCounter, q_prR, q1, q2, hs.kx, hs.r1, s.k0, s.r0, s.k1, s.b2, s.k6, e0', e1, e2, er]
theorem x9_plugCounter {m c f k : Nat} (h : RA μ m A) (hc : c < 6) (hk : k ≤ 2) : ∃ μ2, B_X9_plugCounter_22 m (nI c) (nI f) (nI k) (nI 1) m μ = some (A (43 + 5 * c + 1), μ2) ∧ RA μ2 m (sp_reset (ua (ua A (43 + 5 * c + 1) (nI f)) (43 + 5 * c + 2) (nI k))) ∧ RK μ μ2 m ∧ gI μ2 m 5 = nI 0 ∧ gJ μ2 (m + 12) = gJ μ (m + 12) := by
  have ra2 := h.thr (v := nI 0)
  have s1 := h.1
  have s2 := ra2.1
  have ra3 := ra2.put (j := 43 + 5 * c + 1) (v := nI f)
  have ra4 := ra3.put (j := 43 + 5 * c + 2) (v := nI k)
  obtain ⟨μ2, ez, z1, z2, z3, z4, z5⟩ := chg9b (μa := μ) ra4 ((Fx.stI (P := fun a => a = m + 1) rfl).trans (Fx.stI (P := fun a => a = m + 1) rfl))
  have g1 : gI μ (m + 1) (43 + 5 * c + 1) = A (43 + 5 * c + 1) := by rw [h.2]
  refine ⟨μ2, ?_, z1, z2, z3, z4⟩
  have j0 : (0 : Int64).toInt = 0 := by decide +kernel
  have j2 : (2 : Int64).toInt = 2 := by decide +kernel
  have e := b9_I (μ := μ) (i := nI k) j0 j2 ⟨by rw [nI_toInt (by omega)]; omega, by rw [nI_toInt (by omega)]; omega⟩
  clear z1 z2 z3 z4 z5 ra4 ra3 h
  simp (disch := first | assumption | omega) only [q_bl, q_baT, q_bi, q_ba, q_pr, q_ob, q_iT, q_iN, q_it, q_if, q_of, nI_add, pk_mul, pk_sub, nI_leI, nI_ltI, nI_eq, nI_clamp, nI_lt0, nI_eqm, m1_eq, true_or, or_true, not_false_eq_true, m1_lt, m1_nlt, m1_le, m1_nle, b01, b011, q_em, q_m1, n_0, n_1, n_2, n_3, n_4, n_5, n_6, n_7, n_8, n_9, n_10, n_11, n_12, n_14, n_15, n_16, n_20, n_24, n_25, n_32, n_36, n_40, n_41, n_42, n_43, n_45, n_46, n_48, n_57, n_59, n_60, n_73, n_76, n_97, n_99, n_100, n_106, n_109, n_120, n_122, n_136, n_160, n_176, n_200, n_255, n_800, n_1000, n_1001, n_1002, n_1003, n_1006, n_1012, n_1018, n_1019, n_1020, n_1100, n_1140, n_4800, n_4920, n_5940, n_6740, n_20220, q_kI, q_lI, q_nI, q_rI, q_iI, q_jI, q_dI, q_kJ, q_lJ, q_nJ, q_rJ, q_iJ, q_jJ, q_dJ, q_kC, q_lC, q_nC, q_rC, q_jC, q_dC, q_kF, q_lF, q_nF, q_rF, q_jF, q_dF, q_us, q_un, q_ua, B_X9_plugCounter_22, e, s1.k0, q9_good2 s1, s1.r0, s1.k1, s1.l1, g1, ez]
theorem lw_plugCounter {i1 i2 i3 : Int32} (h : INV μ x A) : LW x (F_L_plugCounter x i1 i2 i3 (x + 132) μ) (F_X9_plugCounter (x + 120) i1 i2 i3) (fun b μ' => gJ μ' (x + 132) 0 = b.toInt64) := by
  have w := h.w
  have ra := h.ra
  have sr := h.is.sr
  have hs := h.is
  have d0 := w.c0.2
  have d2 := w.c2.2
  have j0 : (0 : Int64).toInt = 0 := by decide +kernel
  have j2 : (2 : Int64).toInt = 2 := by decide +kernel
  have bt : ∃ v, F_X9_between i3.toInt64 (0 : Int64) (2 : Int64) μ = some v := ⟨_, x9_bt⟩
  obtain ⟨v, bt⟩ := bt
  by_cases c0 : IR i1 (nt (A 2))
  · have q8 := r8_ctr h c0
    by_cases c1 : IR i2 (nt (A 0))
    · have q9 := r8_field h c1
      by_cases c2 : IR i3 3
      · obtain ⟨c, hc, rfl⟩ := c0.ex (by omega)
        obtain ⟨f, hf, rfl⟩ := c1.ex (by omega)
        obtain ⟨k, hk, rfl⟩ := c2.ex (by decide)
        obtain ⟨μ1, e1, fr1, mr, is1⟩ := x8_plugCounter h hc hf (show k ≤ 2 by omega)
        have ra1 : RA (stJ μ1 (x + 132) 0 (A (43 + 5 * c + 1)).toInt64) (x + 120) A := RA.out (ra.fx fr1 (by unfold CM; omega))
        obtain ⟨μ2, e2, z1, z2, z3, z4⟩ := x9_plugCounter (f := f) ra1 (show c < 6 by omega) (show k ≤ 2 by omega)
        have p8 := q9_ctr ra1 w c0
        have p9 := q9_field ra1 w c1
        refine LW.chg h (μ1 := μ1) (v := (A (43 + 5 * c + 1)).toInt64) (b := A (43 + 5 * c + 1)) ?_ fr1 mr ⟨μ2, ?_, z1, z2, z3, by rw [show x + 132 = x + 120 + 12 from rfl, z4, q_jJ, q_us]⟩ (fun _ e => e)
        · have kx := hs.kx
          have ko := is1.ko
          have lo := is1.lo
          clear h w ra sr z1 z2 z3 z4 e2 p8 p9 mr fr1 hs is1
          simp (disch := first | assumption | omega) only [q_bl, q_baT, q_bi, q_ba, q_pr, q_ob, q_iT, q_iN, q_it, q_if, q_of, nI_add, pk_mul, pk_sub, nI_leI, nI_ltI, nI_eq, nI_clamp, nI_lt0, nI_eqm, m1_eq, true_or, or_true, not_false_eq_true, m1_lt, m1_nlt, m1_le, m1_nle, b01, b011, q_em, q_m1, n_0, n_1, n_2, n_3, n_4, n_5, n_6, n_7, n_8, n_9, n_10, n_11, n_12, n_14, n_15, n_16, n_20, n_24, n_25, n_32, n_36, n_40, n_41, n_42, n_43, n_45, n_46, n_48, n_57, n_59, n_60, n_73, n_76, n_97, n_99, n_100, n_106, n_109, n_120, n_122, n_136, n_160, n_176, n_200, n_255, n_800, n_1000, n_1001, n_1002, n_1003, n_1006, n_1012, n_1018, n_1019, n_1020, n_1100, n_1140, n_4800, n_4920, n_5940, n_6740, n_20220, q_kI, q_lI, q_nI, q_rI, q_iI, q_jI, q_dI, q_kJ, q_lJ, q_nJ, q_rJ, q_iJ, q_jJ, q_dJ, q_kC, q_lC, q_nC, q_rC, q_jC, q_dC, q_kF, q_lF, q_nF, q_rF, q_jF, q_dF, q_us, q_un, q_ua, F_L_plugCounter, q_prL, q_prR, kx, e1, ko, lo]
        · have k0 := ra1.1.k0
          clear h w ra sr z1 z2 z3 z4 q8 q9 mr fr1 hs is1 e1
          simp (disch := first | assumption | omega) only [q_bl, q_baT, q_bi, q_ba, q_pr, q_ob, q_iT, q_iN, q_it, q_if, q_of, nI_add, pk_mul, pk_sub, nI_leI, nI_ltI, nI_eq, nI_clamp, nI_lt0, nI_eqm, m1_eq, true_or, or_true, not_false_eq_true, m1_lt, m1_nlt, m1_le, m1_nle, b01, b011, q_em, q_m1, n_0, n_1, n_2, n_3, n_4, n_5, n_6, n_7, n_8, n_9, n_10, n_11, n_12, n_14, n_15, n_16, n_20, n_24, n_25, n_32, n_36, n_40, n_41, n_42, n_43, n_45, n_46, n_48, n_57, n_59, n_60, n_73, n_76, n_97, n_99, n_100, n_106, n_109, n_120, n_122, n_136, n_160, n_176, n_200, n_255, n_800, n_1000, n_1001, n_1002, n_1003, n_1006, n_1012, n_1018, n_1019, n_1020, n_1100, n_1140, n_4800, n_4920, n_5940, n_6740, n_20220, F_X9_plugCounter, k0, p8, p9, e2]
      · have t1 := lt0_T (x := i3)
        have t2 := le_nT (i := i3) (n := 2) (by decide)
        have c2' : ¬ (0 ≤ i3.toInt ∧ i3.toInt < (3 : Nat)) := c2
        have e := b9_IN (μ := μ) (i := i3) j0 j2 (by omega)
        refine LW.err h (k := nI 2) (b := nI 0) (by decide +kernel) ?_ (by simp (disch := first | assumption | omega) only [q_bl, q_baT, q_bi, q_ba, q_pr, q_ob, q_iT, q_iN, q_it, q_if, q_of, nI_add, pk_mul, pk_sub, nI_leI, nI_ltI, nI_eq, nI_clamp, nI_lt0, nI_eqm, m1_eq, true_or, or_true, not_false_eq_true, m1_lt, m1_nlt, m1_le, m1_nle, b01, b011, q_em, q_m1, n_0, n_1, n_2, n_3, n_4, n_5, n_6, n_7, n_8, n_9, n_10, n_11, n_12, n_14, n_15, n_16, n_20, n_24, n_25, n_32, n_36, n_40, n_41, n_42, n_43, n_45, n_46, n_48, n_57, n_59, n_60, n_73, n_76, n_97, n_99, n_100, n_106, n_109, n_120, n_122, n_136, n_160, n_176, n_200, n_255, n_800, n_1000, n_1001, n_1002, n_1003, n_1006, n_1012, n_1018, n_1019, n_1020, n_1100, n_1140, n_4800, n_4920, n_5940, n_6740, n_20220, F_X9_plugCounter, B_X9_plugCounter_22, sr.k0, q9_ctr ra w c0, q9_field ra w c1, e, q9_good2M sr])
        by_cases t3 : i3.toInt < 0
        · simp (disch := first | assumption | omega) only [q_bl, q_baT, q_bi, q_ba, q_pr, q_ob, q_iT, q_iN, q_it, q_if, q_of, nI_add, pk_mul, pk_sub, nI_leI, nI_ltI, nI_eq, nI_clamp, nI_lt0, nI_eqm, m1_eq, true_or, or_true, not_false_eq_true, m1_lt, m1_nlt, m1_le, m1_nle, b01, b011, q_em, q_m1, n_0, n_1, n_2, n_3, n_4, n_5, n_6, n_7, n_8, n_9, n_10, n_11, n_12, n_14, n_15, n_16, n_20, n_24, n_25, n_32, n_36, n_40, n_41, n_42, n_43, n_45, n_46, n_48, n_57, n_59, n_60, n_73, n_76, n_97, n_99, n_100, n_106, n_109, n_120, n_122, n_136, n_160, n_176, n_200, n_255, n_800, n_1000, n_1001, n_1002, n_1003, n_1006, n_1012, n_1018, n_1019, n_1020, n_1100, n_1140, n_4800, n_4920, n_5940, n_6740, n_20220, q_kI, q_lI, q_nI, q_rI, q_iI, q_jI, q_dI, q_kJ, q_lJ, q_nJ, q_rJ, q_iJ, q_jJ, q_dJ, q_kC, q_lC, q_nC, q_rC, q_jC, q_dC, q_kF, q_lF, q_nF, q_rF, q_jF, q_dF, q_us, q_un, q_ua, F_L_plugCounter, F_X8_plugCounter, B_X8_plugCounter_19, q_prL, q_prR, hs.kx, q8, q9, t1]
        · have t4 : ¬ i3.toInt ≤ (2 : Nat) := by omega
          simp (disch := first | assumption | omega) only [q_bl, q_baT, q_bi, q_ba, q_pr, q_ob, q_iT, q_iN, q_it, q_if, q_of, nI_add, pk_mul, pk_sub, nI_leI, nI_ltI, nI_eq, nI_clamp, nI_lt0, nI_eqm, m1_eq, true_or, or_true, not_false_eq_true, m1_lt, m1_nlt, m1_le, m1_nle, b01, b011, q_em, q_m1, n_0, n_1, n_2, n_3, n_4, n_5, n_6, n_7, n_8, n_9, n_10, n_11, n_12, n_14, n_15, n_16, n_20, n_24, n_25, n_32, n_36, n_40, n_41, n_42, n_43, n_45, n_46, n_48, n_57, n_59, n_60, n_73, n_76, n_97, n_99, n_100, n_106, n_109, n_120, n_122, n_136, n_160, n_176, n_200, n_255, n_800, n_1000, n_1001, n_1002, n_1003, n_1006, n_1012, n_1018, n_1019, n_1020, n_1100, n_1140, n_4800, n_4920, n_5940, n_6740, n_20220, q_kI, q_lI, q_nI, q_rI, q_iI, q_jI, q_dI, q_kJ, q_lJ, q_nJ, q_rJ, q_iJ, q_jJ, q_dJ, q_kC, q_lC, q_nC, q_rC, q_jC, q_dC, q_kF, q_lF, q_nF, q_rF, q_jF, q_dF, q_us, q_un, q_ua, F_L_plugCounter, F_X8_plugCounter, B_X8_plugCounter_19, q_prL, q_prR, hs.kx, q8, q9, t1, t2]
    · have q9 := r8_fieldN h c1
      exact LW.err h (k := nI 1) (b := nI 0) (by decide +kernel) (by simp (disch := first | assumption | omega) only [q_bl, q_baT, q_bi, q_ba, q_pr, q_ob, q_iT, q_iN, q_it, q_if, q_of, nI_add, pk_mul, pk_sub, nI_leI, nI_ltI, nI_eq, nI_clamp, nI_lt0, nI_eqm, m1_eq, true_or, or_true, not_false_eq_true, m1_lt, m1_nlt, m1_le, m1_nle, b01, b011, q_em, q_m1, n_0, n_1, n_2, n_3, n_4, n_5, n_6, n_7, n_8, n_9, n_10, n_11, n_12, n_14, n_15, n_16, n_20, n_24, n_25, n_32, n_36, n_40, n_41, n_42, n_43, n_45, n_46, n_48, n_57, n_59, n_60, n_73, n_76, n_97, n_99, n_100, n_106, n_109, n_120, n_122, n_136, n_160, n_176, n_200, n_255, n_800, n_1000, n_1001, n_1002, n_1003, n_1006, n_1012, n_1018, n_1019, n_1020, n_1100, n_1140, n_4800, n_4920, n_5940, n_6740, n_20220, q_kI, q_lI, q_nI, q_rI, q_iI, q_jI, q_dI, q_kJ, q_lJ, q_nJ, q_rJ, q_iJ, q_jJ, q_dJ, q_kC, q_lC, q_nC, q_rC, q_jC, q_dC, q_kF, q_lF, q_nF, q_rF, q_jF, q_dF, q_us, q_un, q_ua, F_L_plugCounter, F_X8_plugCounter, q_prL, q_prR, hs.kx, q8, q9]) (by simp (disch := first | assumption | omega) only [q_bl, q_baT, q_bi, q_ba, q_pr, q_ob, q_iT, q_iN, q_it, q_if, q_of, nI_add, pk_mul, pk_sub, nI_leI, nI_ltI, nI_eq, nI_clamp, nI_lt0, nI_eqm, m1_eq, true_or, or_true, not_false_eq_true, m1_lt, m1_nlt, m1_le, m1_nle, b01, b011, q_em, q_m1, n_0, n_1, n_2, n_3, n_4, n_5, n_6, n_7, n_8, n_9, n_10, n_11, n_12, n_14, n_15, n_16, n_20, n_24, n_25, n_32, n_36, n_40, n_41, n_42, n_43, n_45, n_46, n_48, n_57, n_59, n_60, n_73, n_76, n_97, n_99, n_100, n_106, n_109, n_120, n_122, n_136, n_160, n_176, n_200, n_255, n_800, n_1000, n_1001, n_1002, n_1003, n_1006, n_1012, n_1018, n_1019, n_1020, n_1100, n_1140, n_4800, n_4920, n_5940, n_6740, n_20220, F_X9_plugCounter, B_X9_plugCounter_21, B_X9_plugCounter_22, sr.k0, q9_ctr ra w c0, q9_fieldN ra w c1, bt, q9_good2N sr])
  · have q8 := r8_ctrN h c0
    exact LW.err h (k := nI 1) (b := nI 0) (by decide +kernel) (by simp (disch := first | assumption | omega) only [q_bl, q_baT, q_bi, q_ba, q_pr, q_ob, q_iT, q_iN, q_it, q_if, q_of, nI_add, pk_mul, pk_sub, nI_leI, nI_ltI, nI_eq, nI_clamp, nI_lt0, nI_eqm, m1_eq, true_or, or_true, not_false_eq_true, m1_lt, m1_nlt, m1_le, m1_nle, b01, b011, q_em, q_m1, n_0, n_1, n_2, n_3, n_4, n_5, n_6, n_7, n_8, n_9, n_10, n_11, n_12, n_14, n_15, n_16, n_20, n_24, n_25, n_32, n_36, n_40, n_41, n_42, n_43, n_45, n_46, n_48, n_57, n_59, n_60, n_73, n_76, n_97, n_99, n_100, n_106, n_109, n_120, n_122, n_136, n_160, n_176, n_200, n_255, n_800, n_1000, n_1001, n_1002, n_1003, n_1006, n_1012, n_1018, n_1019, n_1020, n_1100, n_1140, n_4800, n_4920, n_5940, n_6740, n_20220, q_kI, q_lI, q_nI, q_rI, q_iI, q_jI, q_dI, q_kJ, q_lJ, q_nJ, q_rJ, q_iJ, q_jJ, q_dJ, q_kC, q_lC, q_nC, q_rC, q_jC, q_dC, q_kF, q_lF, q_nF, q_rF, q_jF, q_dF, q_us, q_un, q_ua, F_L_plugCounter, F_X8_plugCounter, q_prL, q_prR, hs.kx, q8]) (by simp (disch := first | assumption | omega) only [q_bl, q_baT, q_bi, q_ba, q_pr, q_ob, q_iT, q_iN, q_it, q_if, q_of, nI_add, pk_mul, pk_sub, nI_leI, nI_ltI, nI_eq, nI_clamp, nI_lt0, nI_eqm, m1_eq, true_or, or_true, not_false_eq_true, m1_lt, m1_nlt, m1_le, m1_nle, b01, b011, q_em, q_m1, n_0, n_1, n_2, n_3, n_4, n_5, n_6, n_7, n_8, n_9, n_10, n_11, n_12, n_14, n_15, n_16, n_20, n_24, n_25, n_32, n_36, n_40, n_41, n_42, n_43, n_45, n_46, n_48, n_57, n_59, n_60, n_73, n_76, n_97, n_99, n_100, n_106, n_109, n_120, n_122, n_136, n_160, n_176, n_200, n_255, n_800, n_1000, n_1001, n_1002, n_1003, n_1006, n_1012, n_1018, n_1019, n_1020, n_1100, n_1140, n_4800, n_4920, n_5940, n_6740, n_20220, F_X9_plugCounter, B_X9_plugCounter_21, B_X9_plugCounter_22, sr.k0, q9_ctrN ra w c0, bt, q9_good2N sr])
end PLG

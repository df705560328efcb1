/-! LAYER 3: trials: lines of a run, crossfooting -/
theorem MO.ext {μ : Mem} {r b : Nat} {A B : SA} (h : MO μ r A b) (e : ∀ j, j < 6740 → B j = A j) : MO μ r B b := by
  obtain ⟨s, ⟨h1, h2, h3, h4, h5, h6, h7, h8, h9⟩, w, m1, m2, m3, m4, m5, m6, m7, m8⟩ := h
  refine ⟨s, ⟨h1.cg w (fun _ _ _ => rfl) (fun i hi => e i (by omega)), h2.cg w rfl rfl (fun i hi => e i (by omega)), fun k hk => ?_, fun k hk => ?_, fun k hk => ?_, fun l l1 l2 => ?_, ⟨?_, fun l hl => ⟨?_, fun k k1 k2 => ?_⟩⟩, ⟨?_, fun i k hi k1 k2 => ?_⟩, ?_⟩, w.cg (fun i hi => e i (by omega)), ?_⟩
  · rw [e _ (by omega)]; exact h3 k hk
  · rw [e _ (by omega)]; exact h4 k hk
  · rw [e _ (by omega)]; exact h5 k hk
  · rw [e _ (by omega)]; exact h6 l l1 l2
  · rw [e _ (by omega)]; exact h7.1
  · rw [e 1018 (by omega)] at hl; rw [e _ (by omega)]; exact (h7.2 l hl).1
  · rw [e 1018 (by omega)] at hl; rw [e _ (by omega)]; exact (h7.2 l hl).2 k k1 k2
  · rw [e _ (by omega)]; exact h8.1
  · rw [e 1019 (by omega)] at hi; rw [e _ (by omega)]; exact h8.2 i k hi k1 k2
  · unfold RF; rw [e _ (by omega), e _ (by omega), e _ (by omega)]; exact h9
  · unfold WM
    rw [e 1000 (by omega), e 1001 (by omega), e 1002 (by omega), e 8 (by omega), e 1 (by omega), e 1018 (by omega), e 1019 (by omega)]
    exact ⟨m1, m2, m3, fun k hk => by rw [e _ (by omega)]; exact m4 k hk, fun k hk => by rw [e _ (by omega)]; exact m5 k hk, m6, m7, fun i k hi k1 k2 => by rw [e _ (by omega)]; exact m8 i k hi k1 k2⟩
theorem BB.ext {A B : SA} (e : ∀ j, j < 6740 → B j = A j) : BB B = BB A := by unfold BB; rw [e 1000 (by omega), e 1001 (by omega)]
section TRI
variable {μ μa μc μ1 μ2 : Mem} {x : Nat} {A B C : SA}
theorem tr_start (h : INV μ x A) : ∃ μt, F_X3_takeSetup (x + 57) (x + 26 + 1) (x + 26 + 19) μ = some μt ∧ MO μt (x + 57) (sp_reset A) 0 ∧ Fx (fun a => x + 57 ≤ a ∧ a < x + 88) μ μt := by
  have s := h.is.m1
  obtain ⟨μt, e1, mt, ft⟩ := x3_setup (r2 := x + 26) h.is.m2 s.sb s.sd h.mo.2.1.bd h.w (by omega)
  exact ⟨μt, e1, mt, ft.mono (fun a ha => ⟨ha.1, ha.2⟩)⟩
theorem INV.exr (h : INV μ x A) : EX (sp_reset A) 0 := by
  obtain ⟨μt, _, mt, _⟩ := tr_start h
  exact ⟨μt, _, mt⟩
theorem LW.tri {β : Type} {L : Option (Int32 × Mem)} {R : Mem → Option (β × Mem)} {ag : β → Mem → Prop} {v : Int64} {b : β} (h : INV μ x A) (e1 : L = some (nI 0, stJ μ1 (x + 132) 0 v)) (f : Fx (fun a => x + 57 ≤ a ∧ a < x + 119) μ μ1)
    (e2 : ∃ μ2 B, R (stJ μ1 (x + 132) 0 v) = some (b, μ2) ∧ RA μ2 (x + 120) B ∧ (∀ j, j < 6740 → B j = A j) ∧ RK (stJ μ1 (x + 132) 0 v) μ2 (x + 120) ∧ gI μ2 (x + 120) 5 = nI 0 ∧ gJ μ2 (x + 120 + 12) = gJ (stJ μ1 (x + 132) 0 v) (x + 120 + 12)) (ha : ∀ μ', gJ μ' (x + 132) 0 = v → ag b μ') : LW x L R ag := by
  obtain ⟨μ2, B, q1, q2, q3, q4, q5, q6⟩ := e2
  have m1 : MO μ1 (x + 26) B (BB B) := by rw [BB.ext q3]; exact (h.mo.fx f (fun a a1 a2 => by omega)).ext q3
  exact LW.okm h e1 ((f.mono (fun a ha => by unfold CM; omega)).trans (Fx.stJ (by unfold CM; omega))) m1.jj q1 q4 q2.2 q5 (fun _ => ha _ (by rw [show x + 132 = x + 120 + 12 from rfl, q6, q_jJ, q_us]))
-- the reference's
theorem x9_come {m : Nat} (s : SR μc m) (ha : ∀ i, i < 6740 → gI μc (m + 3) i = A i) (k : RK μ μc m) (h5 : gI μc m 5 = nI 0) (hj : gJ μc (m + 12) = gJ μ (m + 12)) : ∃ μ2 B, F_X9_comeBack m μc = some μ2 ∧ RA μ2 m B ∧ (∀ j, j < 6740 → B j = A j) ∧ RK μ μ2 m ∧ gI μ2 m 5 = nI 0 ∧ gJ μ2 (m + 12) = gJ μ (m + 12) := by
  obtain ⟨μ2, e, q1, q2⟩ := x9_back s
  refine ⟨μ2, _, e, q1, fun j hj => ?_, k.trans (RK.of q2 (fun a ha => Or.inl ha)), ?_, ?_⟩
  · show (if j < 6740 then gI μc (m + 3) j else gI μc (m + 1) j) = _
    rw [if_pos hj]; exact ha j hj
  · rw [q2.I (a := m) (fun (e : m = m + 1) => by omega)]; exact h5
  · rw [q2.J (a := m + 12) (fun (e : m + 12 = m + 1) => by omega)]; exact hj
/-- what a trial of the reference may touch -/
def st9 (m : Nat) : Nat → Prop := fun a => a = m + 1 ∨ a = m + 3 ∨ a = m + 9 ∨ a = m + 10
theorem RK_st9 {m : Nat} (f : Fx (st9 m) (stI μ m 5 (nI 0)) μ2) : RK μ μ2 m ∧ gI μ2 m 5 = nI 0 ∧ gJ μ2 (m + 12) = gJ μ (m + 12) := by
  have n0 : ¬ st9 m m := fun q => by unfold st9 at q; omega
  have n12 : ¬ st9 m (m + 12) := fun q => by unfold st9 at q; omega
  exact ⟨(RK.thr (v := nI 0)).trans (RK.of f (fun a ha => by unfold st9 at ha; omega)), by rw [f.I n0, q_iI, q_us], by rw [f.J n12, q_jI]⟩
theorem s19_st {m a : Nat} (h : s19 m a) : st9 m a := by unfold s19 at h; unfold st9; omega
theorem n3_s19 {m : Nat} : ¬ s19 m (m + 3) := fun q => by unfold s19 at q; omega
theorem lw_linesOfRun (h : INV μ x A) : LD x (F_X8_linesOfRun x μ) (F_X9_linesOfRun (x + 120)) := by
  have s := h.is.m1
  have hs := h.is
  obtain ⟨μt, e1, mt, ft⟩ := tr_start h
  obtain ⟨μ1, e2, m2, f2⟩ := x3_comp mt (by decide)
  have f2' : Fx (fun a => x + 57 ≤ a ∧ a < x + 88) μt μ1 := f2.mono (fun a ha => ⟨ha.1, ha.2⟩)
  have fa := ft.trans f2'
  have gp := m2.2.1.2.2.2.2.2.2.1.1
  have ra1 : RA μ1 (x + 120) A := h.ra.fx fa (by omega)
  have ra2 := ra1.thr (v := nI 0)
  obtain ⟨μa, a1, a2, a3, a4⟩ := x9_aside ra2
  obtain ⟨μb, b1, b2, b3⟩ := x9_fin a2 h.exr (by decide)
  have f9 : Fx (st9 (x + 120)) (stI μ1 (x + 120) 5 (nI 0)) μb := (a4.mono (fun a ha => by unfold st9; omega)).trans (b3.mono (fun a ha => s19_st ha))
  obtain ⟨r1, r2, r3⟩ := RK_st9 f9
  obtain ⟨μ2, B, c1, c2, c3, c4, c5, c6⟩ := x9_come (A := A) b2.1 (fun i hi => by rw [b3.I n3_s19]; exact a3 i hi) r1 r2 r3
  have mB : MO μ1 (x + 26) B (BB B) := by rw [BB.ext c3]; exact (h.mo.fx fa (fun a a1 a2 => by omega)).ext c3
  have iB := h.step (fa.mono (fun a ha => by unfold CM; omega)) mB c4 c2.2
  refine ⟨sp_fin (sp_reset A) 1018, μ1, μ2, ?_, ?_, iB.1, B, iB⟩
  · have t := h.is.m2
    have t1 := mt.1
    have t2 := m2.1
    have ht := hs.fx ft
    have h2 := hs.fx fa
    have gp' : gI μ1 (x + 57 + 26) 2 = sp_fin (sp_reset A) 1018 := gp
    clear h mt m2 ft f2 f2' fa ra1 ra2 a1 a2 a3 a4 b1 b2 b3 f9 r1 r2 r3 c1 c2 c3 c4 c5 c6 mB iB gp
    generalize sp_fin (sp_reset A) 1018 = v at *
    simp (disch := first | assumption | omega) only [q_bl, q_baT, q_bi, q_ba, q_pr, q_ob, q_iT, q_iN, q_it, q_if, q_of, nI_add, pk_mul, pk_sub, nI_leI, nI_ltI, nI_eq, nI_clamp, nI_lt0, nI_eqm, m1_eq, true_or, or_true, not_false_eq_true, m1_lt, m1_nlt, m1_le, m1_nle, b01, b011, q_em, q_m1, n_0, n_1, n_2, n_3, n_4, n_5, n_6, n_7, n_8, n_9, n_10, n_11, n_12, n_14, n_15, n_16, n_20, n_24, n_25, n_32, n_36, n_40, n_41, n_42, n_43, n_45, n_46, n_48, n_57, n_59, n_60, n_73, n_76, n_97, n_99, n_100, n_106, n_109, n_120, n_122, n_136, n_160, n_176, n_200, n_255, n_800, n_1000, n_1001, n_1002, n_1003, n_1006, n_1012, n_1018, n_1019, n_1020, n_1100, n_1140, n_4800, n_4920, n_5940, n_6740, n_20220, F_X8_linesOfRun, hs.kx, hs.r1, hs.r2, s.k0, t.k0, s.r0, s.r1, e1, ht.kx, ht.r2, t1.k0, e2, h2.kx, h2.r2, t2.k0, t2.r7, t2.k26, gp']
  · have s1 := ra1.1
    have s2 := ra2.1
    have sa := a2.1
    have sb := b2.1
    have gv : gI μb (x + 120 + 1) 1018 = sp_fin (sp_reset A) 1018 := by rw [b2.2]
    clear h mt m2 ft f2 f2' fa ra1 ra2 a2 a3 a4 b2 b3 f9 r1 r2 r3 c2 c3 c4 c5 c6 mB iB gp e1 e2
    generalize sp_fin (sp_reset A) 1018 = v at *
    simp (disch := first | assumption | omega) only [q_bl, q_baT, q_bi, q_ba, q_pr, q_ob, q_iT, q_iN, q_it, q_if, q_of, nI_add, pk_mul, pk_sub, nI_leI, nI_ltI, nI_eq, nI_clamp, nI_lt0, nI_eqm, m1_eq, true_or, or_true, not_false_eq_true, m1_lt, m1_nlt, m1_le, m1_nle, b01, b011, q_em, q_m1, n_0, n_1, n_2, n_3, n_4, n_5, n_6, n_7, n_8, n_9, n_10, n_11, n_12, n_14, n_15, n_16, n_20, n_24, n_25, n_32, n_36, n_40, n_41, n_42, n_43, n_45, n_46, n_48, n_57, n_59, n_60, n_73, n_76, n_97, n_99, n_100, n_106, n_109, n_120, n_122, n_136, n_160, n_176, n_200, n_255, n_800, n_1000, n_1001, n_1002, n_1003, n_1006, n_1012, n_1018, n_1019, n_1020, n_1100, n_1140, n_4800, n_4920, n_5940, n_6740, n_20220, F_X9_linesOfRun, s1.k0, s2.k0, a1, sa.k0, b1, sb.k0, sb.r0, sb.k1, sb.l1, gv, c1]
-- crossfooting
noncomputable def xfr (c1 c2 c3 : Nat) : Nat → SA → Nat → Nat
  | 0, _, g => g
  | n + 1, A, g => xfr c1 c2 c3 n (sp_proc A) (@ite _ ((sp_proc A (1006 + c1)).toInt + (sp_proc A (1006 + c2)).toInt = (sp_proc A (1006 + c3)).toInt) (Classical.propDecidable _) g (g + 1))
theorem cmp0J {a b c : Int32} : (lg_cmp (a.toInt64 + b.toInt64) c.toInt64 = nI 0) = (a.toInt + b.toInt = c.toInt) := propext (by
  have ha := abs32 a
  have hb := abs32 b
  rw [show nI 0 = 0 from rfl, lg_cmp_eq, ← Int64.toInt_inj, J_addT (by rw [I64_T, I64_T]; omega), I64_T, I64_T, I64_T])
theorem cmp0I {a b c : Int32} (ha : a.toInt.natAbs < 1000000000) (hb : b.toInt.natAbs < 1000000000) : (a + b = c) = (a.toInt + b.toInt = c.toInt) := propext (by
  rw [← Int32.toInt_inj, add_T (by omega) (by omega)])
theorem l8_xf {c1 c2 c3 n : Nat} (h1 : c1 < 6) (h2 : c2 < 6) (h3 : c3 < 6) : ∀ (j fu i b g : Nat) (μ : Mem) (A : SA), j < fu → i + j = n → nt (A 1000) = i → nt (A 8) = n → MO μ (x + 57) A b → b + 40 * j < 600000 → IS μ x → g ≤ i →
    ∃ μ', L_X8_crossfootErrors_42 fu x (nI c1) (nI c2) (nI c3) (nI g) (nI i) μ = some (.inr (nI (xfr c1 c2 c3 j A g)), μ') ∧ Fx (MR (x + 57)) μ μ' := by
  intro j
  induction j with
  | zero =>
    intro fu i b g μ A hf he hi hn h hb is hg
    obtain ⟨fu, rfl⟩ : ∃ k, fu = k + 1 := ⟨fu - 1, by omega⟩
    obtain rfl : i = n := by omega
    have w := h.2.2.1
    have c8 := w.c8.2
    have n8 := h.2.1.n8 w
    have s := h.1
    rw [hn] at n8 c8
    refine ⟨μ, ?_, Fx.same⟩
    clear h w hn hi
    simp (disch := first | assumption | omega) only [q_bl, q_baT, q_bi, q_ba, q_pr, q_ob, q_iT, q_iN, q_it, q_if, q_of, nI_add, pk_mul, pk_sub, nI_leI, nI_ltI, nI_eq, nI_clamp, nI_lt0, nI_eqm, m1_eq, true_or, or_true, not_false_eq_true, m1_lt, m1_nlt, m1_le, m1_nle, b01, b011, q_em, q_m1, n_0, n_1, n_2, n_3, n_4, n_5, n_6, n_7, n_8, n_9, n_10, n_11, n_12, n_14, n_15, n_16, n_20, n_24, n_25, n_32, n_36, n_40, n_41, n_42, n_43, n_45, n_46, n_48, n_57, n_59, n_60, n_73, n_76, n_97, n_99, n_100, n_106, n_109, n_120, n_122, n_136, n_160, n_176, n_200, n_255, n_800, n_1000, n_1001, n_1002, n_1003, n_1006, n_1012, n_1018, n_1019, n_1020, n_1100, n_1140, n_4800, n_4920, n_5940, n_6740, n_20220, L_X8_crossfootErrors_42, B_X8_crossfootErrors_42, is.kx, is.r2, s.k0, s.r1, s.k19, n8, xfr]
  | succ j ih =>
    intro fu i b g μ A hf he hi hn h hb is hg
    obtain ⟨fu, rfl⟩ : ∃ k, fu = k + 1 := ⟨fu - 1, by omega⟩
    have w := h.2.2.1
    have c8 := w.c8.2
    have n8 := h.2.1.n8 w
    have s := h.1
    obtain ⟨μ1, e1, m1, f1⟩ := x3_proc h (by omega) (by omega)
    have e0 : nt (sp_proc A 1000) = nt (A 1000) + 1 := by rw [proc_0, nt_nI (by omega)]
    have e8 : sp_proc A 8 = A 8 := proc_o w (by decide) (by decide)
    obtain ⟨μ2, e2, f2⟩ := ih fu (i + 1) (b + 40) (@ite _ ((sp_proc A (1006 + c1)).toInt + (sp_proc A (1006 + c2)).toInt = (sp_proc A (1006 + c3)).toInt) (Classical.propDecidable _) g (g + 1)) μ1 (sp_proc A) (by omega) (by omega) (by omega) (by rw [e8]; exact hn) m1 (by omega) (is.fx f1) (by split <;> omega)
    have v1 : gI μ1 (x + 57 + 21) c1 = sp_proc A (1006 + c1) := m1.2.1.2.2.1 c1 h1
    have v2 : gI μ1 (x + 57 + 21) c2 = sp_proc A (1006 + c2) := m1.2.1.2.2.1 c2 h2
    have v3 : gI μ1 (x + 57 + 21) c3 = sp_proc A (1006 + c3) := m1.2.1.2.2.1 c3 h3
    refine ⟨μ2, ?_, f1.trans f2⟩
    have s1 := m1.1
    have is1 := is.fx f1
    show _ = some (Sum.inr (nI (xfr c1 c2 c3 j (sp_proc A) _)), μ2)
    rw [hn] at n8 c8
    clear h w m1 f1 f2 ih hn hi e0 e8
    have hq := cmp0J (a := sp_proc A (1006 + c1)) (b := sp_proc A (1006 + c2)) (c := sp_proc A (1006 + c3))
    generalize sp_proc A = B at *
    generalize B (1006 + c1) = a1 at *
    generalize B (1006 + c2) = a2 at *
    generalize B (1006 + c3) = a3 at *
    by_cases hx : a1.toInt + a2.toInt = a3.toInt
    · rw [if_pos hx] at e2 ⊢
      simp (disch := first | assumption | omega) only [q_bl, q_baT, q_bi, q_ba, q_pr, q_ob, q_iT, q_iN, q_it, q_if, q_of, nI_add, pk_mul, pk_sub, nI_leI, nI_ltI, nI_eq, nI_clamp, nI_lt0, nI_eqm, m1_eq, true_or, or_true, not_false_eq_true, m1_lt, m1_nlt, m1_le, m1_nle, b01, b011, q_em, q_m1, n_0, n_1, n_2, n_3, n_4, n_5, n_6, n_7, n_8, n_9, n_10, n_11, n_12, n_14, n_15, n_16, n_20, n_24, n_25, n_32, n_36, n_40, n_41, n_42, n_43, n_45, n_46, n_48, n_57, n_59, n_60, n_73, n_76, n_97, n_99, n_100, n_106, n_109, n_120, n_122, n_136, n_160, n_176, n_200, n_255, n_800, n_1000, n_1001, n_1002, n_1003, n_1006, n_1012, n_1018, n_1019, n_1020, n_1100, n_1140, n_4800, n_4920, n_5940, n_6740, n_20220, L_X8_crossfootErrors_42, B_X8_crossfootErrors_42, B_X8_crossfootErrors_106, is.kx, is.r2, s.k0, s.r1, s.k19, n8, e1, is1.kx, is1.r2, s1.k0, s1.r2, s1.k21, s1.l21, v1, v2, v3, hq, e2]
    · rw [if_neg hx] at e2 ⊢
      simp (disch := first | assumption | omega) only [q_bl, q_baT, q_bi, q_ba, q_pr, q_ob, q_iT, q_iN, q_it, q_if, q_of, nI_add, pk_mul, pk_sub, nI_leI, nI_ltI, nI_eq, nI_clamp, nI_lt0, nI_eqm, m1_eq, true_or, or_true, not_false_eq_true, m1_lt, m1_nlt, m1_le, m1_nle, b01, b011, q_em, q_m1, n_0, n_1, n_2, n_3, n_4, n_5, n_6, n_7, n_8, n_9, n_10, n_11, n_12, n_14, n_15, n_16, n_20, n_24, n_25, n_32, n_36, n_40, n_41, n_42, n_43, n_45, n_46, n_48, n_57, n_59, n_60, n_73, n_76, n_97, n_99, n_100, n_106, n_109, n_120, n_122, n_136, n_160, n_176, n_200, n_255, n_800, n_1000, n_1001, n_1002, n_1003, n_1006, n_1012, n_1018, n_1019, n_1020, n_1100, n_1140, n_4800, n_4920, n_5940, n_6740, n_20220, L_X8_crossfootErrors_42, B_X8_crossfootErrors_42, B_X8_crossfootErrors_106, is.kx, is.r2, s.k0, s.r1, s.k19, n8, e1, is1.kx, is1.r2, s1.k0, s1.r2, s1.k21, s1.l21, v1, v2, v3, hq, e2]
theorem l9_xf {m c1 c2 c3 n : Nat} (h1 : c1 < 6) (h2 : c2 < 6) (h3 : c3 < 6) : ∀ (j fu i b g : Nat) (μ : Mem) (A : SA), j < fu → i + j = n → nt (A 1000) = i → nt (A 8) = n → RA μ m A → EX A b → b + 40 * j < 600000 → g ≤ i →
    ∃ μ', Fx (s19 m) μ μ' ∧ ∀ μ2, F_X9_comeBack m μ' = some μ2 → L_X9_crossfootErrors_45 fu m (nI c1) (nI c2) (nI c3) (nI g) μ = some (nI (xfr c1 c2 c3 j A g), μ2) := by
  intro j
  induction j with
  | zero =>
    intro fu i b g μ A hf he hi hn h ex hb hg
    obtain ⟨fu, rfl⟩ : ∃ k, fu = k + 1 := ⟨fu - 1, by omega⟩
    obtain rfl : i = n := by omega
    have w := ex.w
    have c8 := w.c8
    have hda := ex.m.1.ex (by omega)
    have s := h.1
    have g1 : gI μ (m + 1) 1000 = nI i := by rw [h.2, hda.1, hi]
    have g2 : gI μ (m + 1) 8 = nI i := by rw [h.2, c8.1, hn]
    have c82 : i ≤ 40 := by rw [← hn]; exact c8.2
    refine ⟨μ, Fx.same, fun μ2 e => ?_⟩
    clear h w ex hda c8 hi hn
    simp (disch := first | assumption | omega) only [q_bl, q_baT, q_bi, q_ba, q_pr, q_ob, q_iT, q_iN, q_it, q_if, q_of, nI_add, pk_mul, pk_sub, nI_leI, nI_ltI, nI_eq, nI_clamp, nI_lt0, nI_eqm, m1_eq, true_or, or_true, not_false_eq_true, m1_lt, m1_nlt, m1_le, m1_nle, b01, b011, q_em, q_m1, n_0, n_1, n_2, n_3, n_4, n_5, n_6, n_7, n_8, n_9, n_10, n_11, n_12, n_14, n_15, n_16, n_20, n_24, n_25, n_32, n_36, n_40, n_41, n_42, n_43, n_45, n_46, n_48, n_57, n_59, n_60, n_73, n_76, n_97, n_99, n_100, n_106, n_109, n_120, n_122, n_136, n_160, n_176, n_200, n_255, n_800, n_1000, n_1001, n_1002, n_1003, n_1006, n_1012, n_1018, n_1019, n_1020, n_1100, n_1140, n_4800, n_4920, n_5940, n_6740, n_20220, L_X9_crossfootErrors_45, B_X9_crossfootErrors_45, s.k0, s.r0, s.k1, s.l1, g1, g2, e, xfr]
  | succ j ih =>
    intro fu i b g μ A hf he hi hn h ex hb hg
    obtain ⟨fu, rfl⟩ : ∃ k, fu = k + 1 := ⟨fu - 1, by omega⟩
    have w := ex.w
    have c8 := w.c8
    have hda := ex.m.1.ex (by omega)
    have s := h.1
    have g1 : gI μ (m + 1) 1000 = nI i := by rw [h.2, hda.1, hi]
    have g2 : gI μ (m + 1) 8 = nI n := by rw [h.2, c8.1, hn]
    have c82 : n ≤ 40 := by rw [← hn]; exact c8.2
    obtain ⟨μ1, e1, p1, f1⟩ := x9_proc h ex (by omega) (by omega)
    have ex1 := ex.proc (by omega) (by omega)
    have e0 : nt (sp_proc A 1000) = nt (A 1000) + 1 := by rw [proc_0, nt_nI (by omega)]
    have e8 : sp_proc A 8 = A 8 := proc_o w (by decide) (by decide)
    obtain ⟨μ', f2, q2⟩ := ih fu (i + 1) (b + 40) (@ite _ ((sp_proc A (1006 + c1)).toInt + (sp_proc A (1006 + c2)).toInt = (sp_proc A (1006 + c3)).toInt) (Classical.propDecidable _) g (g + 1)) μ1 (sp_proc A) (by omega) (by omega) (by omega) (by rw [e8]; exact hn) p1 ex1 (by omega) (by split <;> omega)
    have v1 : gI μ1 (m + 1) (1006 + c1) = sp_proc A (1006 + c1) := by rw [p1.2]
    have v2 : gI μ1 (m + 1) (1006 + c2) = sp_proc A (1006 + c2) := by rw [p1.2]
    have v3 : gI μ1 (m + 1) (1006 + c3) = sp_proc A (1006 + c3) := by rw [p1.2]
    have hq := cmp0I (c := sp_proc A (1006 + c3)) (ex1.m.2.2.2.1 c1 h1) (ex1.m.2.2.2.1 c2 h2)
    refine ⟨μ', f1.trans f2, fun μ2 e => ?_⟩
    have e2 := q2 μ2 e
    have s1 := p1.1
    show _ = some (nI (xfr c1 c2 c3 j (sp_proc A) _), μ2)
    clear h w ex hda c8 hi hn p1 ex1 f1 f2 ih q2 e0 e8
    generalize sp_proc A = B at *
    generalize B (1006 + c1) = a1 at *
    generalize B (1006 + c2) = a2 at *
    generalize B (1006 + c3) = a3 at *
    by_cases hx : a1.toInt + a2.toInt = a3.toInt
    · rw [if_pos hx] at e2 ⊢
      simp (disch := first | assumption | omega) only [q_bl, q_baT, q_bi, q_ba, q_pr, q_ob, q_iT, q_iN, q_it, q_if, q_of, nI_add, pk_mul, pk_sub, nI_leI, nI_ltI, nI_eq, nI_clamp, nI_lt0, nI_eqm, m1_eq, true_or, or_true, not_false_eq_true, m1_lt, m1_nlt, m1_le, m1_nle, b01, b011, q_em, q_m1, n_0, n_1, n_2, n_3, n_4, n_5, n_6, n_7, n_8, n_9, n_10, n_11, n_12, n_14, n_15, n_16, n_20, n_24, n_25, n_32, n_36, n_40, n_41, n_42, n_43, n_45, n_46, n_48, n_57, n_59, n_60, n_73, n_76, n_97, n_99, n_100, n_106, n_109, n_120, n_122, n_136, n_160, n_176, n_200, n_255, n_800, n_1000, n_1001, n_1002, n_1003, n_1006, n_1012, n_1018, n_1019, n_1020, n_1100, n_1140, n_4800, n_4920, n_5940, n_6740, n_20220, L_X9_crossfootErrors_45, B_X9_crossfootErrors_45, s.k0, s.r0, s.k1, s.l1, g1, g2, e1, s1.k0, s1.r0, s1.k1, s1.l1, v1, v2, v3, hq, e2]
    · rw [if_neg hx] at e2 ⊢
      simp (disch := first | assumption | omega) only [q_bl, q_baT, q_bi, q_ba, q_pr, q_ob, q_iT, q_iN, q_it, q_if, q_of, nI_add, pk_mul, pk_sub, nI_leI, nI_ltI, nI_eq, nI_clamp, nI_lt0, nI_eqm, m1_eq, true_or, or_true, not_false_eq_true, m1_lt, m1_nlt, m1_le, m1_nle, b01, b011, q_em, q_m1, n_0, n_1, n_2, n_3, n_4, n_5, n_6, n_7, n_8, n_9, n_10, n_11, n_12, n_14, n_15, n_16, n_20, n_24, n_25, n_32, n_36, n_40, n_41, n_42, n_43, n_45, n_46, n_48, n_57, n_59, n_60, n_73, n_76, n_97, n_99, n_100, n_106, n_109, n_120, n_122, n_136, n_160, n_176, n_200, n_255, n_800, n_1000, n_1001, n_1002, n_1003, n_1006, n_1012, n_1018, n_1019, n_1020, n_1100, n_1140, n_4800, n_4920, n_5940, n_6740, n_20220, L_X9_crossfootErrors_45, B_X9_crossfootErrors_45, s.k0, s.r0, s.k1, s.l1, g1, g2, e1, s1.k0, s1.r0, s1.k1, s1.l1, v1, v2, v3, hq, e2]
theorem lw_crossfootErrors {i1 i2 i3 : Int32} (h : INV μ x A) : LW x (F_L_crossfootErrors x i1 i2 i3 (x + 132) μ) (F_X9_crossfootErrors (x + 120) i1 i2 i3) (fun b μ' => gJ μ' (x + 132) 0 = b.toInt64) := by
  have w := h.w
  have c2' := w.c2.2
  have c8 := w.c8.2
  have hs := h.is
  have sr := h.is.sr
  have s := h.is.m1
  have t := h.is.m2
  by_cases k1 : IR i1 (nt (A 2))
  · by_cases k2 : IR i2 (nt (A 2))
    · by_cases k3 : IR i3 (nt (A 2))
      · have q1 := r8_ctr h k1
        have q2 := r8_ctr h k2
        have q3 := r8_ctr h k3
        obtain ⟨c1, h1, rfl⟩ := k1.ex (by omega)
        obtain ⟨c2, h2, rfl⟩ := k2.ex (by omega)
        obtain ⟨c3, h3, rfl⟩ := k3.ex (by omega)
        obtain ⟨μt, e1, mt, ft⟩ := tr_start h
        have e8 : nt (sp_reset A 8) = nt (A 8) := by rw [reset_lo (by decide)]
        have e0 : nt (sp_reset A 1000) = 0 := by rw [reset_0 (by decide) (by decide), nt0]
        obtain ⟨μ1, e2, f2⟩ := l8_xf (x := x) (n := nt (A 8)) (show c1 < 6 by omega) (show c2 < 6 by omega) (show c3 < 6 by omega) (nt (A 8)) FU 0 0 0 μt (sp_reset A) (FU_gt (by omega)) (by omega) e0 e8 mt (by omega) (hs.fx ft) (Nat.le_refl _)
        have fa : Fx (fun a => x + 57 ≤ a ∧ a < x + 119) μ μ1 := (ft.mono (fun a ha => by omega)).trans (f2.mono (fun a ha => by unfold MR at ha; omega))
        obtain ⟨v, hv⟩ : ∃ v, xfr c1 c2 c3 (nt (A 8)) (sp_reset A) 0 = v := ⟨_, rfl⟩
        rw [hv] at e2
        have ra1 : RA (stJ μ1 (x + 132) 0 (nI v).toInt64) (x + 120) A := RA.out (h.ra.fx fa (by omega))
        have ra2 := ra1.thr (v := nI 0)
        obtain ⟨μa, a1, a2, a3, a4⟩ := x9_aside ra2
        obtain ⟨μb, b1, b2⟩ := l9_xf (m := x + 120) (n := nt (A 8)) (show c1 < 6 by omega) (show c2 < 6 by omega) (show c3 < 6 by omega) (nt (A 8)) FU 0 0 0 μa (sp_reset A) (FU_gt (by omega)) (by omega) e0 e8 a2 h.exr (by omega) (Nat.le_refl _)
        rw [hv] at b2
        have f9 : Fx (st9 (x + 120)) (stI (stJ μ1 (x + 132) 0 (nI v).toInt64) (x + 120) 5 (nI 0)) μb := (a4.mono (fun a ha => by unfold st9; omega)).trans (b1.mono (fun a ha => s19_st ha))
        obtain ⟨r1, r2, r3⟩ := RK_st9 f9
        obtain ⟨μ2, B, z1, z2, z3, z4, z5, z6⟩ := x9_come (A := A) (a2.1.fx b1) (fun i hi => by rw [b1.I n3_s19]; exact a3 i hi) r1 r2 r3
        refine LW.tri h (μ1 := μ1) (v := (nI v).toInt64) (b := nI v) ?_ fa ⟨μ2, B, ?_, z2, z3, z4, z5, z6⟩ (fun _ e => e)
        · have is1 := hs.fx fa
          have ko := is1.ko
          have lo := is1.lo
          clear h w mt ft fa f2 ra1 ra2 a1 a2 a3 a4 b1 b2 f9 r1 r2 r3 z1 z2 z3 z4 z5 z6 is1 e0 e8 hv k1 k2 k3
          simp (disch := first | assumption | omega) only [q_bl, q_baT, q_bi, q_ba, q_pr, q_ob, q_iT, q_iN, q_it, q_if, q_of, nI_add, pk_mul, pk_sub, nI_leI, nI_ltI, nI_eq, nI_clamp, nI_lt0, nI_eqm, m1_eq, true_or, or_true, not_false_eq_true, m1_lt, m1_nlt, m1_le, m1_nle, b01, b011, q_em, q_m1, n_0, n_1, n_2, n_3, n_4, n_5, n_6, n_7, n_8, n_9, n_10, n_11, n_12, n_14, n_15, n_16, n_20, n_24, n_25, n_32, n_36, n_40, n_41, n_42, n_43, n_45, n_46, n_48, n_57, n_59, n_60, n_73, n_76, n_97, n_99, n_100, n_106, n_109, n_120, n_122, n_136, n_160, n_176, n_200, n_255, n_800, n_1000, n_1001, n_1002, n_1003, n_1006, n_1012, n_1018, n_1019, n_1020, n_1100, n_1140, n_4800, n_4920, n_5940, n_6740, n_20220, q_kI, q_lI, q_nI, q_rI, q_iI, q_jI, q_dI, q_kJ, q_lJ, q_nJ, q_rJ, q_iJ, q_jJ, q_dJ, q_kC, q_lC, q_nC, q_rC, q_jC, q_dC, q_kF, q_lF, q_nF, q_rF, q_jF, q_dF, q_us, q_un, q_ua, F_L_crossfootErrors, F_X8_crossfootErrors, q_prL, q_prR, hs.kx, hs.r1, hs.r2, s.k0, s.r0, s.r1, t.k0, q1, q2, q3, e1, e2, ko, lo]
        · have p1 := q9_ctr ra1 w k1
          have p2 := q9_ctr ra1 w k2
          have p3 := q9_ctr ra1 w k3
          have y2 := b2 μ2 z1
          have s1 := ra1.1
          have s2 := ra2.1
          clear h w mt ft fa f2 a2 a3 a4 b1 b2 f9 r1 r2 r3 z1 z2 z3 z4 z5 z6 e0 e8 hv k1 k2 k3 q1 q2 q3 e1 e2 ra1 ra2
          simp (disch := first | assumption | omega) only [q_bl, q_baT, q_bi, q_ba, q_pr, q_ob, q_iT, q_iN, q_it, q_if, q_of, nI_add, pk_mul, pk_sub, nI_leI, nI_ltI, nI_eq, nI_clamp, nI_lt0, nI_eqm, m1_eq, true_or, or_true, not_false_eq_true, m1_lt, m1_nlt, m1_le, m1_nle, b01, b011, q_em, q_m1, n_0, n_1, n_2, n_3, n_4, n_5, n_6, n_7, n_8, n_9, n_10, n_11, n_12, n_14, n_15, n_16, n_20, n_24, n_25, n_32, n_36, n_40, n_41, n_42, n_43, n_45, n_46, n_48, n_57, n_59, n_60, n_73, n_76, n_97, n_99, n_100, n_106, n_109, n_120, n_122, n_136, n_160, n_176, n_200, n_255, n_800, n_1000, n_1001, n_1002, n_1003, n_1006, n_1012, n_1018, n_1019, n_1020, n_1100, n_1140, n_4800, n_4920, n_5940, n_6740, n_20220, F_X9_crossfootErrors, B_X9_crossfootErrors_30, s1.k0, s2.k0, p1, p2, p3, q9_good s1, a1, y2]
      · have q1 := r8_ctr h k1
        have q2 := r8_ctr h k2
        have q3 := r8_ctrN h k3
        have p1 := q9_ctr h.ra w k1
        have p2 := q9_ctr h.ra w k2
        have p3 := q9_ctrN h.ra w k3
        exact LW.err h (k := nI 1) (b := nI 0) (by decide +kernel) (by simp (disch := first | assumption | omega) only [q_bl, q_baT, q_bi, q_ba, q_pr, q_ob, q_iT, q_iN, q_it, q_if, q_of, nI_add, pk_mul, pk_sub, nI_leI, nI_ltI, nI_eq, nI_clamp, nI_lt0, nI_eqm, m1_eq, true_or, or_true, not_false_eq_true, m1_lt, m1_nlt, m1_le, m1_nle, b01, b011, q_em, q_m1, n_0, n_1, n_2, n_3, n_4, n_5, n_6, n_7, n_8, n_9, n_10, n_11, n_12, n_14, n_15, n_16, n_20, n_24, n_25, n_32, n_36, n_40, n_41, n_42, n_43, n_45, n_46, n_48, n_57, n_59, n_60, n_73, n_76, n_97, n_99, n_100, n_106, n_109, n_120, n_122, n_136, n_160, n_176, n_200, n_255, n_800, n_1000, n_1001, n_1002, n_1003, n_1006, n_1012, n_1018, n_1019, n_1020, n_1100, n_1140, n_4800, n_4920, n_5940, n_6740, n_20220, q_kI, q_lI, q_nI, q_rI, q_iI, q_jI, q_dI, q_kJ, q_lJ, q_nJ, q_rJ, q_iJ, q_jJ, q_dJ, q_kC, q_lC, q_nC, q_rC, q_jC, q_dC, q_kF, q_lF, q_nF, q_rF, q_jF, q_dF, q_us, q_un, q_ua, F_L_crossfootErrors, F_X8_crossfootErrors, q_prL, q_prR, hs.kx, q1, q2, q3]) (by simp (disch := first | assumption | omega) only [q_bl, q_baT, q_bi, q_ba, q_pr, q_ob, q_iT, q_iN, q_it, q_if, q_of, nI_add, pk_mul, pk_sub, nI_leI, nI_ltI, nI_eq, nI_clamp, nI_lt0, nI_eqm, m1_eq, true_or, or_true, not_false_eq_true, m1_lt, m1_nlt, m1_le, m1_nle, b01, b011, q_em, q_m1, n_0, n_1, n_2, n_3, n_4, n_5, n_6, n_7, n_8, n_9, n_10, n_11, n_12, n_14, n_15, n_16, n_20, n_24, n_25, n_32, n_36, n_40, n_41, n_42, n_43, n_45, n_46, n_48, n_57, n_59, n_60, n_73, n_76, n_97, n_99, n_100, n_106, n_109, n_120, n_122, n_136, n_160, n_176, n_200, n_255, n_800, n_1000, n_1001, n_1002, n_1003, n_1006, n_1012, n_1018, n_1019, n_1020, n_1100, n_1140, n_4800, n_4920, n_5940, n_6740, n_20220, F_X9_crossfootErrors, B_X9_crossfootErrors_29, B_X9_crossfootErrors_30, sr.k0, p1, p2, p3, q9_goodN sr])
    · have q1 := r8_ctr h k1
      have q2 := r8_ctrN h k2
      have p1 := q9_ctr h.ra w k1
      have p2 := q9_ctrN h.ra w k2
      exact LW.err h (k := nI 1) (b := nI 0) (by decide +kernel) (by simp (disch := first | assumption | omega) only [q_bl, q_baT, q_bi, q_ba, q_pr, q_ob, q_iT, q_iN, q_it, q_if, q_of, nI_add, pk_mul, pk_sub, nI_leI, nI_ltI, nI_eq, nI_clamp, nI_lt0, nI_eqm, m1_eq, true_or, or_true, not_false_eq_true, m1_lt, m1_nlt, m1_le, m1_nle, b01, b011, q_em, q_m1, n_0, n_1, n_2, n_3, n_4, n_5, n_6, n_7, n_8, n_9, n_10, n_11, n_12, n_14, n_15, n_16, n_20, n_24, n_25, n_32, n_36, n_40, n_41, n_42, n_43, n_45, n_46, n_48, n_57, n_59, n_60, n_73, n_76, n_97, n_99, n_100, n_106, n_109, n_120, n_122, n_136, n_160, n_176, n_200, n_255, n_800, n_1000, n_1001, n_1002, n_1003, n_1006, n_1012, n_1018, n_1019, n_1020, n_1100, n_1140, n_4800, n_4920, n_5940, n_6740, n_20220, q_kI, q_lI, q_nI, q_rI, q_iI, q_jI, q_dI, q_kJ, q_lJ, q_nJ, q_rJ, q_iJ, q_jJ, q_dJ, q_kC, q_lC, q_nC, q_rC, q_jC, q_dC, q_kF, q_lF, q_nF, q_rF, q_jF, q_dF, q_us, q_un, q_ua, F_L_crossfootErrors, F_X8_crossfootErrors, q_prL, q_prR, hs.kx, q1, q2]) (by simp (disch := first | assumption | omega) only [q_bl, q_baT, q_bi, q_ba, q_pr, q_ob, q_iT, q_iN, q_it, q_if, q_of, nI_add, pk_mul, pk_sub, nI_leI, nI_ltI, nI_eq, nI_clamp, nI_lt0, nI_eqm, m1_eq, true_or, or_true, not_false_eq_true, m1_lt, m1_nlt, m1_le, m1_nle, b01, b011, q_em, q_m1, n_0, n_1, n_2, n_3, n_4, n_5, n_6, n_7, n_8, n_9, n_10, n_11, n_12, n_14, n_15, n_16, n_20, n_24, n_25, n_32, n_36, n_40, n_41, n_42, n_43, n_45, n_46, n_48, n_57, n_59, n_60, n_73, n_76, n_97, n_99, n_100, n_106, n_109, n_120, n_122, n_136, n_160, n_176, n_200, n_255, n_800, n_1000, n_1001, n_1002, n_1003, n_1006, n_1012, n_1018, n_1019, n_1020, n_1100, n_1140, n_4800, n_4920, n_5940, n_6740, n_20220, F_X9_crossfootErrors, B_X9_crossfootErrors_29, B_X9_crossfootErrors_30, sr.k0, p1, p2, q9_goodN sr])
  · have q1 := r8_ctrN h k1
    have p1 := q9_ctrN h.ra w k1
    exact LW.err h (k := nI 1) (b := nI 0) (by decide +kernel) (by simp (disch := first | assumption | omega) only [q_bl, q_baT, q_bi, q_ba, q_pr, q_ob, q_iT, q_iN, q_it, q_if, q_of, nI_add, pk_mul, pk_sub, nI_leI, nI_ltI, nI_eq, nI_clamp, nI_lt0, nI_eqm, m1_eq, true_or, or_true, not_false_eq_true, m1_lt, m1_nlt, m1_le, m1_nle, b01, b011, q_em, q_m1, n_0, n_1, n_2, n_3, n_4, n_5, n_6, n_7, n_8, n_9, n_10, n_11, n_12, n_14, n_15, n_16, n_20, n_24, n_25, n_32, n_36, n_40, n_41, n_42, n_43, n_45, n_46, n_48, n_57, n_59, n_60, n_73, n_76, n_97, n_99, n_100, n_106, n_109, n_120, n_122, n_136, n_160, n_176, n_200, n_255, n_800, n_1000, n_1001, n_1002, n_1003, n_1006, n_1012, n_1018, n_1019, n_1020, n_1100, n_1140, n_4800, n_4920, n_5940, n_6740, n_20220, q_kI, q_lI, q_nI, q_rI, q_iI, q_jI, q_dI, q_kJ, q_lJ, q_nJ, q_rJ, q_iJ, q_jJ, q_dJ, q_kC, q_lC, q_nC, q_rC, q_jC, q_dC, q_kF, q_lF, q_nF, q_rF, q_jF, q_dF, q_us, q_un, q_ua, F_L_crossfootErrors, F_X8_crossfootErrors, q_prL, q_prR, hs.kx, q1]) (by simp (disch := first | assumption | omega) only [q_bl, q_baT, q_bi, q_ba, q_pr, q_ob, q_iT, q_iN, q_it, q_if, q_of, nI_add, pk_mul, pk_sub, nI_leI, nI_ltI, nI_eq, nI_clamp, nI_lt0, nI_eqm, m1_eq, true_or, or_true, not_false_eq_true, m1_lt, m1_nlt, m1_le, m1_nle, b01, b011, q_em, q_m1, n_0, n_1, n_2, n_3, n_4, n_5, n_6, n_7, n_8, n_9, n_10, n_11, n_12, n_14, n_15, n_16, n_20, n_24, n_25, n_32, n_36, n_40, n_41, n_42, n_43, n_45, n_46, n_48, n_57, n_59, n_60, n_73, n_76, n_97, n_99, n_100, n_106, n_109, n_120, n_122, n_136, n_160, n_176, n_200, n_255, n_800, n_1000, n_1001, n_1002, n_1003, n_1006, n_1012, n_1018, n_1019, n_1020, n_1100, n_1140, n_4800, n_4920, n_5940, n_6740, n_20220, F_X9_crossfootErrors, B_X9_crossfootErrors_29, B_X9_crossfootErrors_30, sr.k0, p1, q9_goodN sr])
end TRI

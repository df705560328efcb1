/-! LAYER 3: sort: the reference's loops, both -/
section SR2
variable {μ μc μ1 μ2 : Mem} {x : Nat} {A B C : SA}
theorem chg9c {m : Nat} {P : Nat → Prop} {μa μc : Mem} (h : RA μc m B) (hp : ∀ a, P a → a = m + 1 ∨ a = m + 3 ∨ a = m + 8) (f : Fx P (stI μa m 5 (nI 0)) μc) : ∃ μ2, F_X9_resetMachine m μc = some μ2 ∧ RA μ2 m (sp_reset B) ∧ RK μa μ2 m ∧ gI μ2 m 5 = nI 0 ∧ gJ μ2 (m + 12) = gJ μa (m + 12) ∧ SR μ2 m := by
  obtain ⟨μ2, e, q1, q2⟩ := x9_rst h
  have n0 : ¬ P m := fun q => by have := hp _ q; omega
  have n12 : ¬ P (m + 12) := fun q => by have := hp _ q; omega
  have g : gI μ2 m = gI (stI μa m 5 (nI 0)) m := by rw [q2.I (a := m) (fun (e : m = m + 1) => by omega), f.I n0]
  refine ⟨μ2, e, q1, (RK.thr (v := nI 0)).trans ((RK.of f (fun a ha => by have := hp a ha; omega)).trans (RK.of q2 (fun a ha => Or.inl ha))), ?_, ?_, q1.1⟩
  · rw [g, q_iI, q_us]
  · rw [q2.J (a := m + 12) (fun (e : m + 12 = m + 1) => by omega), f.J n12, q_jI]
theorem l9_sort1 {m f n : Nat} (w : WB A) (hn : nt (A 8) = n) (hf : f < nt (A 0)) : ∀ (j fu i : Nat) (μ : Mem), j < fu → i + j = n → RA μ m A → (∀ p, p < i → gI μ (m + 8) (rnk A f n p) = nI p) →
    ∃ μc, Fx (fun a => a = m + 8) μ μc ∧ (∀ p, p < n → gI μc (m + 8) (rnk A f n p) = nI p) ∧ ∀ μ14 R, F_X9_copy (m + 1) (nI 0) (m + 3) (nI 0) μc = some μ14 → L_X9_sort_88 FU m (nI n) (nI (mvd A f n n)) (nI 0) μ14 = R → L_X9_sort_27 fu m (nI f) (nI n) (nI (mvd A f n i)) (nI i) μ = R := by
  have c8 := w.c8.2
  rw [hn] at c8
  intro j
  induction j with
  | zero =>
    intro fu i μ hj hc h hp
    obtain ⟨fu, rfl⟩ : ∃ k, fu = k + 1 := ⟨fu - 1, by omega⟩
    obtain rfl : i = n := by omega
    refine ⟨μ, Fx.same, hp, fun μ14 R e1 e2 => ?_⟩
    have s := h.1
    clear w h hp
    simp (disch := first | assumption | omega) only [q_bl, q_baT, q_bi, q_ba, q_pr, q_ob, q_iT, q_iN, q_it, q_if, q_of, nI_add, pk_mul, pk_sub, nI_leI, nI_ltI, nI_eq, nI_clamp, nI_lt0, nI_eqm, m1_eq, true_or, or_true, not_false_eq_true, m1_lt, m1_nlt, m1_le, m1_nle, b01, b011, q_em, q_m1, n_0, n_1, n_2, n_3, n_4, n_5, n_6, n_7, n_8, n_9, n_10, n_11, n_12, n_14, n_15, n_16, n_20, n_24, n_25, n_32, n_36, n_40, n_41, n_42, n_43, n_45, n_46, n_48, n_57, n_59, n_60, n_73, n_76, n_97, n_99, n_100, n_106, n_109, n_120, n_122, n_136, n_160, n_176, n_200, n_255, n_800, n_1000, n_1001, n_1002, n_1003, n_1006, n_1012, n_1018, n_1019, n_1020, n_1100, n_1140, n_4800, n_4920, n_5940, n_6740, n_20220, L_X9_sort_27, B_X9_sort_27, s.k0, s.r0, s.r2, e1, e2]
  | succ j ih =>
    intro fu i μ hj hc h hp
    obtain ⟨fu, rfl⟩ : ∃ k, fu = k + 1 := ⟨fu - 1, by omega⟩
    have s := h.1
    have ep := x9_rank h w hn (show i < n by omega) hf
    have hlt := rnk_lt (A := A) (f := f) (show i < n by omega)
    have f1 : Fx (fun a => a = m + 8) μ (stI μ (m + 8) (rnk A f n i) (nI i)) := Fx.stI rfl
    obtain ⟨μc, q2, q3, q4⟩ := ih fu (i + 1) (stI μ (m + 8) (rnk A f n i) (nI i)) (by omega) (by omega) (h.fx f1 (by omega)) (fun p hpi => by
      rw [q_iI]
      by_cases hpe : p = i
      · subst hpe; rw [q_us]
      · have : ¬ rnk A f n p = rnk A f n i := fun e => hpe (rnk_inj (by omega) (by omega) e)
        rw [q_un (fun e => this e.2)]; exact hp p (by omega))
    refine ⟨μc, f1.trans q2, q3, fun μ14 R e1 e2 => ?_⟩
    have q5 := q4 μ14 R e1 e2
    have hm : mvd A f n i ≤ i := ctp_le (p := fun j => decide (¬ rnk A f n j = j)) i
    have ms := mvd_s (A := A) (f := f) (n := n) (i := i)
    have mt := mvd_t (A := A) (f := f) (n := n) (i := i)
    clear w h hp q2 q3 q4 ih f1 e1 e2
    generalize rnk A f n i = rr at *
    generalize mvd A f n i = mm at *
    by_cases hx : rr = i
    · rw [mt hx] at q5
      subst hx
      clear ms mt
      simp (disch := first | assumption | omega) only [q_bl, q_baT, q_bi, q_ba, q_pr, q_ob, q_iT, q_iN, q_it, q_if, q_of, nI_add, pk_mul, pk_sub, nI_leI, nI_ltI, nI_eq, nI_clamp, nI_lt0, nI_eqm, m1_eq, true_or, or_true, not_false_eq_true, m1_lt, m1_nlt, m1_le, m1_nle, b01, b011, q_em, q_m1, n_0, n_1, n_2, n_3, n_4, n_5, n_6, n_7, n_8, n_9, n_10, n_11, n_12, n_14, n_15, n_16, n_20, n_24, n_25, n_32, n_36, n_40, n_41, n_42, n_43, n_45, n_46, n_48, n_57, n_59, n_60, n_73, n_76, n_97, n_99, n_100, n_106, n_109, n_120, n_122, n_136, n_160, n_176, n_200, n_255, n_800, n_1000, n_1001, n_1002, n_1003, n_1006, n_1012, n_1018, n_1019, n_1020, n_1100, n_1140, n_4800, n_4920, n_5940, n_6740, n_20220, L_X9_sort_27, B_X9_sort_27, B_X9_sort_64, s.k0, s.r21, s.k8, s.l8, ep, Nat.add_zero, q5]
    · rw [ms hx] at q5
      clear ms mt
      simp (disch := first | assumption | omega) only [q_bl, q_baT, q_bi, q_ba, q_pr, q_ob, q_iT, q_iN, q_it, q_if, q_of, nI_add, pk_mul, pk_sub, nI_leI, nI_ltI, nI_eq, nI_clamp, nI_lt0, nI_eqm, m1_eq, true_or, or_true, not_false_eq_true, m1_lt, m1_nlt, m1_le, m1_nle, b01, b011, q_em, q_m1, n_0, n_1, n_2, n_3, n_4, n_5, n_6, n_7, n_8, n_9, n_10, n_11, n_12, n_14, n_15, n_16, n_20, n_24, n_25, n_32, n_36, n_40, n_41, n_42, n_43, n_45, n_46, n_48, n_57, n_59, n_60, n_73, n_76, n_97, n_99, n_100, n_106, n_109, n_120, n_122, n_136, n_160, n_176, n_200, n_255, n_800, n_1000, n_1001, n_1002, n_1003, n_1006, n_1012, n_1018, n_1019, n_1020, n_1100, n_1140, n_4800, n_4920, n_5940, n_6740, n_20220, L_X9_sort_27, B_X9_sort_27, B_X9_sort_64, s.k0, s.r21, s.k8, s.l8, ep, q5]
theorem l9_s97 {m f n y : Nat} {i2 i3 : Int32} {k88 : Nat → Int32 → Int32 → Int32 → Mem → Option (Int32 × Mem)} (hn : n ≤ 40) (hy : y < n) : ∀ (j fu c : Nat) (μ : Mem), j < fu → c + j = 20 → RA μ m (swk A f n (20 * y + c)) → (∀ i, i < 1000 → gI μ (m + 3) i = A i) → gI μ (m + 8) y = nI (odr A f n y) →
    ∃ μ', RA μ' m (swk A f n (20 * (y + 1))) ∧ Fx (fun a => a = m + 1) μ μ' ∧ ∀ R, k88 m i2 i3 (nI (y + 1)) μ' = R → L_X9_sort_97 k88 fu m i2 i3 (nI y) (nI c) μ = R := by
  intro j
  induction j with
  | zero =>
    intro fu c μ hj hc h ha ho
    obtain ⟨fu, rfl⟩ : ∃ k, fu = k + 1 := ⟨fu - 1, by omega⟩
    obtain rfl : c = 20 := by omega
    refine ⟨μ, by rw [show 20 * (y + 1) = 20 * y + 20 from by omega]; exact h, Fx.same, fun R e => ?_⟩
    clear h ha ho
    simp (disch := first | assumption | omega) only [q_bl, q_baT, q_bi, q_ba, q_pr, q_ob, q_iT, q_iN, q_it, q_if, q_of, nI_add, pk_mul, pk_sub, nI_leI, nI_ltI, nI_eq, nI_clamp, nI_lt0, nI_eqm, m1_eq, true_or, or_true, not_false_eq_true, m1_lt, m1_nlt, m1_le, m1_nle, b01, b011, q_em, q_m1, n_0, n_1, n_2, n_3, n_4, n_5, n_6, n_7, n_8, n_9, n_10, n_11, n_12, n_14, n_15, n_16, n_20, n_24, n_25, n_32, n_36, n_40, n_41, n_42, n_43, n_45, n_46, n_48, n_57, n_59, n_60, n_73, n_76, n_97, n_99, n_100, n_106, n_109, n_120, n_122, n_136, n_160, n_176, n_200, n_255, n_800, n_1000, n_1001, n_1002, n_1003, n_1006, n_1012, n_1018, n_1019, n_1020, n_1100, n_1140, n_4800, n_4920, n_5940, n_6740, n_20220, L_X9_sort_97, B_X9_sort_97, e]
  | succ j ih =>
    intro fu c μ hj hc h ha ho
    obtain ⟨fu, rfl⟩ : ∃ k, fu = k + 1 := ⟨fu - 1, by omega⟩
    have s := h.1
    have hs := swk_s (A := A) (f := f) (n := n) (y := y) (c := c) (by omega)
    have hol := (odr_sp (A := A) (f := f) hy).1
    have p1 := h.put (j := 200 + 20 * y + c) (v := A (200 + 20 * odr A f n y + c))
    rw [hs] at p1
    have hv := ha (200 + 20 * odr A f n y + c) (by omega)
    have f1 : Fx (fun a => a = m + 1) μ (stI μ (m + 1) (200 + 20 * y + c) (A (200 + 20 * odr A f n y + c))) := Fx.stI rfl
    obtain ⟨μ', q1, q2, q3⟩ := ih fu (c + 1) _ (by omega) (by omega) p1 (fun i hi => by rw [f1.I (by omega)]; exact ha i hi) (by rw [f1.I (by omega)]; exact ho)
    refine ⟨μ', q1, f1.trans q2, fun R e => ?_⟩
    have q4 := q3 R e
    clear h ha ih hs p1 f1 q1 q2 q3
    generalize odr A f n y = o at *
    simp (disch := first | assumption | omega) only [q_bl, q_baT, q_bi, q_ba, q_pr, q_ob, q_iT, q_iN, q_it, q_if, q_of, nI_add, pk_mul, pk_sub, nI_leI, nI_ltI, nI_eq, nI_clamp, nI_lt0, nI_eqm, m1_eq, true_or, or_true, not_false_eq_true, m1_lt, m1_nlt, m1_le, m1_nle, b01, b011, q_em, q_m1, n_0, n_1, n_2, n_3, n_4, n_5, n_6, n_7, n_8, n_9, n_10, n_11, n_12, n_14, n_15, n_16, n_20, n_24, n_25, n_32, n_36, n_40, n_41, n_42, n_43, n_45, n_46, n_48, n_57, n_59, n_60, n_73, n_76, n_97, n_99, n_100, n_106, n_109, n_120, n_122, n_136, n_160, n_176, n_200, n_255, n_800, n_1000, n_1001, n_1002, n_1003, n_1006, n_1012, n_1018, n_1019, n_1020, n_1100, n_1140, n_4800, n_4920, n_5940, n_6740, n_20220, L_X9_sort_97, B_X9_sort_97, s.k0, s.r21, s.k8, s.l8, s.r2, s.k3, s.l3, s.r0, s.k1, s.l1, ho, hv, q4]
theorem l9_s88 {m f n : Nat} {v : Int32} (hn : n ≤ 40) : ∀ (j fu y : Nat) (μ : Mem), j < fu → y + j = n → RA μ m (swk A f n (20 * y)) → (∀ i, i < 1000 → gI μ (m + 3) i = A i) → (∀ y, y < n → gI μ (m + 8) y = nI (odr A f n y)) →
    ∃ μc, RA μc m (swk A f n (20 * n)) ∧ Fx (fun a => a = m + 1) μ μc ∧ ∀ μ2, F_X9_resetMachine m μc = some μ2 → L_X9_sort_88 fu m (nI n) v (nI y) μ = some (v, μ2) := by
  intro j
  induction j with
  | zero =>
    intro fu y μ hj hc h ha ho
    obtain ⟨fu, rfl⟩ : ∃ k, fu = k + 1 := ⟨fu - 1, by omega⟩
    obtain rfl : y = n := by omega
    refine ⟨μ, h, Fx.same, fun μ2 e => ?_⟩
    have s := h.1
    clear h ha ho
    simp (disch := first | assumption | omega) only [q_bl, q_baT, q_bi, q_ba, q_pr, q_ob, q_iT, q_iN, q_it, q_if, q_of, nI_add, pk_mul, pk_sub, nI_leI, nI_ltI, nI_eq, nI_clamp, nI_lt0, nI_eqm, m1_eq, true_or, or_true, not_false_eq_true, m1_lt, m1_nlt, m1_le, m1_nle, b01, b011, q_em, q_m1, n_0, n_1, n_2, n_3, n_4, n_5, n_6, n_7, n_8, n_9, n_10, n_11, n_12, n_14, n_15, n_16, n_20, n_24, n_25, n_32, n_36, n_40, n_41, n_42, n_43, n_45, n_46, n_48, n_57, n_59, n_60, n_73, n_76, n_97, n_99, n_100, n_106, n_109, n_120, n_122, n_136, n_160, n_176, n_200, n_255, n_800, n_1000, n_1001, n_1002, n_1003, n_1006, n_1012, n_1018, n_1019, n_1020, n_1100, n_1140, n_4800, n_4920, n_5940, n_6740, n_20220, L_X9_sort_88, B_X9_sort_88, s.k0, e]
  | succ j ih =>
    intro fu y μ hj hc h ha ho
    obtain ⟨fu, rfl⟩ : ∃ k, fu = k + 1 := ⟨fu - 1, by omega⟩
    obtain ⟨μ', q1, q2, q3⟩ := l9_s97 (i2 := nI n) (i3 := v) (k88 := L_X9_sort_88 fu) hn (show y < n by omega) 20 FU 0 μ (FU_gt (by decide)) (by decide) h ha (ho y (by omega))
    obtain ⟨μc, r1, r2, r3⟩ := ih fu (y + 1) μ' (by omega) (by omega) q1 (fun i hi => by rw [q2.I (by omega)]; exact ha i hi) (fun i hi => by rw [q2.I (by omega)]; exact ho i hi)
    refine ⟨μc, r1, q2.trans r2, fun μ2 e => ?_⟩
    have q4 := q3 _ (r3 μ2 e)
    clear h ha ho q1 q2 q3 r1 r2 r3 ih
    simp (disch := first | assumption | omega) only [q_bl, q_baT, q_bi, q_ba, q_pr, q_ob, q_iT, q_iN, q_it, q_if, q_of, nI_add, pk_mul, pk_sub, nI_leI, nI_ltI, nI_eq, nI_clamp, nI_lt0, nI_eqm, m1_eq, true_or, or_true, not_false_eq_true, m1_lt, m1_nlt, m1_le, m1_nle, b01, b011, q_em, q_m1, n_0, n_1, n_2, n_3, n_4, n_5, n_6, n_7, n_8, n_9, n_10, n_11, n_12, n_14, n_15, n_16, n_20, n_24, n_25, n_32, n_36, n_40, n_41, n_42, n_43, n_45, n_46, n_48, n_57, n_59, n_60, n_73, n_76, n_97, n_99, n_100, n_106, n_109, n_120, n_122, n_136, n_160, n_176, n_200, n_255, n_800, n_1000, n_1001, n_1002, n_1003, n_1006, n_1012, n_1018, n_1019, n_1020, n_1100, n_1140, n_4800, n_4920, n_5940, n_6740, n_20220, L_X9_sort_88, B_X9_sort_88, q4]
theorem x9_sort {m f n : Nat} (h : RA μ m A) (w : WB A) (hn : nt (A 8) = n) (hf : f < nt (A 0)) : ∃ μ2, F_X9_sort m (nI f) μ = some (nI (mvd A f n n), μ2) ∧ RA μ2 m (sp_reset (swk A f n (20 * n))) ∧ RK μ μ2 m ∧ gI μ2 m 5 = nI 0 ∧ gJ μ2 (m + 12) = gJ μ (m + 12) := by
  have ra2 := h.thr (v := nI 0)
  have s1 := h.1
  have s2 := ra2.1
  have c8 := w.c8
  rw [hn] at c8
  have c82 := c8.2
  obtain ⟨μb, b1, b2, b3⟩ := l9_sort1 w hn hf n FU 0 _ (FU_gt (by omega)) (by omega) ra2 (fun p hp => absurd hp (by omega))
  have rab := ra2.fx b1 (by omega)
  have sb := rab.1
  obtain ⟨μd, d1, d2, d3⟩ := x9_copy (μ := μb) (a := m + 1) (c := m + 3) (p := 0) (q := 0) (by omega) (by decide) (by decide) sb.k1 sb.k3 (by rw [sb.l1]; decide) (by rw [sb.l3]; decide)
  have rad := rab.fx d3 (by omega)
  obtain ⟨μc, e1, e2, e3⟩ := l9_s88 (A := A) (f := f) (n := n) (v := nI (mvd A f n n)) c82 n FU 0 μd (FU_gt (by omega)) (by omega) (by rw [Nat.mul_zero, swk_0]; exact rad) (fun i hi => by
    rw [d2 i, if_pos (by omega), rab.2]; congr 1; omega) (fun y hy => by
    rw [d3.I (by omega)]
    obtain ⟨o1, o2⟩ := odr_sp (A := A) (f := f) hy
    have := b2 _ o1
    rw [o2] at this; exact this)
  obtain ⟨μ2, ez, z1, z2, z3, z4, z5⟩ := chg9c (μa := μ) (P := fun a => a = m + 1 ∨ a = m + 3 ∨ a = m + 8) e1 (fun a ha => ha) ((b1.mono (fun a ha => by omega)).trans ((d3.mono (fun a ha => by omega)).trans (e2.mono (fun a ha => by omega))))
  have e := b3 _ _ d1 (e3 μ2 ez)
  have e0 : L_X9_sort_27 FU m (nI f) (nI n) (nI 0) (nI 0) (stI μ m 5 (nI 0)) = some (nI (mvd A f n n), μ2) := e
  have p1 := q9_field h w (i := nI f) (by have := w.c0.2; rw [IR.nI (by omega)]; omega)
  have g8 : gI μ (m + 1) 8 = nI n := by rw [h.2]; exact c8.1
  refine ⟨μ2, ?_, z1, z2, z3, z4⟩
  clear z1 z2 z3 z4 z5 e b1 b2 b3 d1 d2 d3 e1 e2 e3 rab rad sb ra2 h w c8
  generalize mvd A f n n = mm at *
  simp (disch := first | assumption | omega) only [q_bl, q_baT, q_bi, q_ba, q_pr, q_ob, q_iT, q_iN, q_it, q_if, q_of, nI_add, pk_mul, pk_sub, nI_leI, nI_ltI, nI_eq, nI_clamp, nI_lt0, nI_eqm, m1_eq, true_or, or_true, not_false_eq_true, m1_lt, m1_nlt, m1_le, m1_nle, b01, b011, q_em, q_m1, n_0, n_1, n_2, n_3, n_4, n_5, n_6, n_7, n_8, n_9, n_10, n_11, n_12, n_14, n_15, n_16, n_20, n_24, n_25, n_32, n_36, n_40, n_41, n_42, n_43, n_45, n_46, n_48, n_57, n_59, n_60, n_73, n_76, n_97, n_99, n_100, n_106, n_109, n_120, n_122, n_136, n_160, n_176, n_200, n_255, n_800, n_1000, n_1001, n_1002, n_1003, n_1006, n_1012, n_1018, n_1019, n_1020, n_1100, n_1140, n_4800, n_4920, n_5940, n_6740, n_20220, q_kI, q_lI, q_nI, q_rI, q_iI, q_jI, q_dI, q_kJ, q_lJ, q_nJ, q_rJ, q_iJ, q_jJ, q_dJ, q_kC, q_lC, q_nC, q_rC, q_jC, q_dC, q_kF, q_lF, q_nF, q_rF, q_jF, q_dF, q_us, q_un, q_ua, F_X9_sort, s1.k0, s1.r0, s1.k1, s1.l1, p1, g8, q9_good s1, e0]
theorem x8_sort {f n : Nat} (h : INV μ x A) (hn : nt (A 8) = n) (hf : f < nt (A 0)) : ∃ μ1, F_X8_sort x (nI f) μ = some (.inr (nI (mvd A f n n)), μ1) ∧ Fx (CM x) μ μ1 ∧ MO μ1 (x + 26) (sp_reset (ua (swk A f n (20 * n)) 8 (nI n))) (BB (sp_reset (ua (swk A f n (20 * n)) 8 (nI n)))) ∧ IS μ1 x := by
  have w := h.w
  have c8 := w.c8.2
  have s := h.is.m1
  have t := h.is.m2
  have n8 := h.mo.2.1.n8 w
  rw [hn] at n8 c8
  obtain ⟨μt, e1, mt, ft⟩ := x3_setup (r2 := x + 26) t s.sb s.sd h.mo.2.1.bd w (by omega)
  have ft' : Fx (fun a => x + 57 ≤ a ∧ a < x + 88) μ μt := ft.mono (fun a ha => ⟨ha.1, ha.2⟩)
  obtain ⟨μc, f1, r1, q1⟩ := l8_sort w hn hf n FU 0 μt (FU_gt (by omega)) (by omega) (h.is.fx ft') (RBD.unr mt.2.1.bd mt.2.2.1) (by rw [ft'.I (by omega)]; exact n8) (fun p k hp => absurd hp (by omega))
  have fc : Fx (fun a => a = x + 45 ∨ a = x + 46 ∨ (x + 57 ≤ a ∧ a < x + 119)) μ μc := (ft'.mono (fun a ha => by omega)).trans (f1.mono (fun a ha => by omega))
  obtain ⟨μ1, er, mr, fr1, is1, e8⟩ := deck_end (C := swk A f n (20 * n)) h fc (by rw [f1.I (by omega), ft'.I (by omega)]; exact n8) c8 (fun y k hy k1 k2 => by
    obtain ⟨o1, o2⟩ := odr_sp (A := A) (f := f) hy
    have := r1 _ k o1 k1 k2
    rw [o2] at this
    rw [swk_i hy k1 k2]; exact this) (swk_lc (hn ▸ h.lcn)) (fun i hi => swk_o (by omega))
  have e := q1 μ1 er
  have e0 : L_X8_sort_30 FU x (nI f) (nI 0) (nI 0) μt = some (.inr (nI (mvd A f n n)), μ1) := e
  have p1 := r8_field h (i := nI f) (by have := w.c0.2; rw [IR.nI (by omega)]; omega)
  have hs := h.is
  have e1' : F_X3_takeSetup (x + 57) (x + 26 + 1) (x + 26 + 19) μ = some μt := e1
  refine ⟨μ1, ?_, fr1, mr, is1⟩
  clear e q1 r1 fc f1 ft ft' mt mr fr1 is1 e8 er h w
  generalize mvd A f n n = mm at *
  simp (disch := first | assumption | omega) only [q_bl, q_baT, q_bi, q_ba, q_pr, q_ob, q_iT, q_iN, q_it, q_if, q_of, nI_add, pk_mul, pk_sub, nI_leI, nI_ltI, nI_eq, nI_clamp, nI_lt0, nI_eqm, m1_eq, true_or, or_true, not_false_eq_true, m1_lt, m1_nlt, m1_le, m1_nle, b01, b011, q_em, q_m1, n_0, n_1, n_2, n_3, n_4, n_5, n_6, n_7, n_8, n_9, n_10, n_11, n_12, n_14, n_15, n_16, n_20, n_24, n_25, n_32, n_36, n_40, n_41, n_42, n_43, n_45, n_46, n_48, n_57, n_59, n_60, n_73, n_76, n_97, n_99, n_100, n_106, n_109, n_120, n_122, n_136, n_160, n_176, n_200, n_255, n_800, n_1000, n_1001, n_1002, n_1003, n_1006, n_1012, n_1018, n_1019, n_1020, n_1100, n_1140, n_4800, n_4920, n_5940, n_6740, n_20220, F_X8_sort, q_prR, p1, hs.kx, hs.r1, hs.r2, s.k0, t.k0, s.r0, s.r1, e1', e0]
theorem ua_same {A : SA} {i : Nat} {v : Int32} (h : A i = v) : ua A i v = A := by
  funext k
  by_cases e : k = i
  · subst e; rw [ua_s, h]
  · rw [ua_n e]
theorem lw_sort {i1 : Int32} (h : INV μ x A) : LW x (F_L_sort x i1 (x + 132) μ) (F_X9_sort (x + 120) i1) (fun b μ' => gJ μ' (x + 132) 0 = b.toInt64) := by
  have w := h.w
  have c0' := w.c0.2
  have hs := h.is
  have sr := h.is.sr
  obtain ⟨n, hn⟩ : ∃ n, nt (A 8) = n := ⟨_, rfl⟩
  by_cases c0 : IR i1 (nt (A 0))
  · obtain ⟨f, hf, rfl⟩ := c0.ex (by omega)
    obtain ⟨μ1, e1, fr1, mr, is1⟩ := x8_sort h hn hf
    rw [ua_same (show swk A f n (20 * n) 8 = nI n by rw [swk_o (by omega), ← hn]; exact w.c8.1)] at mr
    have ra1 : RA (stJ μ1 (x + 132) 0 (nI (mvd A f n n)).toInt64) (x + 120) A := RA.out (h.ra.fx fr1 (by unfold CM; omega))
    obtain ⟨μ2, e2, z1, z2, z3, z4⟩ := x9_sort ra1 w hn hf
    refine LW.chg h (μ1 := μ1) (v := (nI (mvd A f n n)).toInt64) (b := nI (mvd A f n n)) ?_ fr1 mr ⟨μ2, e2, z1, z2, z3, by rw [show x + 132 = x + 120 + 12 from rfl, z4, q_jJ, q_us]⟩ (fun _ e => e)
    have ko := is1.ko
    have lo := is1.lo
    clear h mr fr1 z1 z2 z3 z4 e2 w
    simp (disch := first | assumption | omega) only [q_bl, q_baT, q_bi, q_ba, q_pr, q_ob, q_iT, q_iN, q_it, q_if, q_of, nI_add, pk_mul, pk_sub, nI_leI, nI_ltI, nI_eq, nI_clamp, nI_lt0, nI_eqm, m1_eq, true_or, or_true, not_false_eq_true, m1_lt, m1_nlt, m1_le, m1_nle, b01, b011, q_em, q_m1, n_0, n_1, n_2, n_3, n_4, n_5, n_6, n_7, n_8, n_9, n_10, n_11, n_12, n_14, n_15, n_16, n_20, n_24, n_25, n_32, n_36, n_40, n_41, n_42, n_43, n_45, n_46, n_48, n_57, n_59, n_60, n_73, n_76, n_97, n_99, n_100, n_106, n_109, n_120, n_122, n_136, n_160, n_176, n_200, n_255, n_800, n_1000, n_1001, n_1002, n_1003, n_1006, n_1012, n_1018, n_1019, n_1020, n_1100, n_1140, n_4800, n_4920, n_5940, n_6740, n_20220, q_kI, q_lI, q_nI, q_rI, q_iI, q_jI, q_dI, q_kJ, q_lJ, q_nJ, q_rJ, q_iJ, q_jJ, q_dJ, q_kC, q_lC, q_nC, q_rC, q_jC, q_dC, q_kF, q_lF, q_nF, q_rF, q_jF, q_dF, q_us, q_un, q_ua, F_L_sort, q_prL, q_prR, hs.kx, e1, ko, lo]
  · have q8 := r8_fieldN h c0
    have p8 := q9_fieldN h.ra w c0
    exact LW.err h (k := nI 1) (b := nI 0) (by decide +kernel) (by simp (disch := first | assumption | omega) only [q_bl, q_baT, q_bi, q_ba, q_pr, q_ob, q_iT, q_iN, q_it, q_if, q_of, nI_add, pk_mul, pk_sub, nI_leI, nI_ltI, nI_eq, nI_clamp, nI_lt0, nI_eqm, m1_eq, true_or, or_true, not_false_eq_true, m1_lt, m1_nlt, m1_le, m1_nle, b01, b011, q_em, q_m1, n_0, n_1, n_2, n_3, n_4, n_5, n_6, n_7, n_8, n_9, n_10, n_11, n_12, n_14, n_15, n_16, n_20, n_24, n_25, n_32, n_36, n_40, n_41, n_42, n_43, n_45, n_46, n_48, n_57, n_59, n_60, n_73, n_76, n_97, n_99, n_100, n_106, n_109, n_120, n_122, n_136, n_160, n_176, n_200, n_255, n_800, n_1000, n_1001, n_1002, n_1003, n_1006, n_1012, n_1018, n_1019, n_1020, n_1100, n_1140, n_4800, n_4920, n_5940, n_6740, n_20220, q_kI, q_lI, q_nI, q_rI, q_iI, q_jI, q_dI, q_kJ, q_lJ, q_nJ, q_rJ, q_iJ, q_jJ, q_dJ, q_kC, q_lC, q_nC, q_rC, q_jC, q_dC, q_kF, q_lF, q_nF, q_rF, q_jF, q_dF, q_us, q_un, q_ua, F_L_sort, F_X8_sort, q_prL, q_prR, hs.kx, q8]) (by simp (disch := first | assumption | omega) only [q_bl, q_baT, q_bi, q_ba, q_pr, q_ob, q_iT, q_iN, q_it, q_if, q_of, nI_add, pk_mul, pk_sub, nI_leI, nI_ltI, nI_eq, nI_clamp, nI_lt0, nI_eqm, m1_eq, true_or, or_true, not_false_eq_true, m1_lt, m1_nlt, m1_le, m1_nle, b01, b011, q_em, q_m1, n_0, n_1, n_2, n_3, n_4, n_5, n_6, n_7, n_8, n_9, n_10, n_11, n_12, n_14, n_15, n_16, n_20, n_24, n_25, n_32, n_36, n_40, n_41, n_42, n_43, n_45, n_46, n_48, n_57, n_59, n_60, n_73, n_76, n_97, n_99, n_100, n_106, n_109, n_120, n_122, n_136, n_160, n_176, n_200, n_255, n_800, n_1000, n_1001, n_1002, n_1003, n_1006, n_1012, n_1018, n_1019, n_1020, n_1100, n_1140, n_4800, n_4920, n_5940, n_6740, n_20220, F_X9_sort, sr.k0, p8, q9_goodN sr])
end SR2

/-! LAYER 3: the reference's reader: statements -/
theorem ua_e {A : SA} {i j : Nat} {v : Int32} (h : i = j) : ua A j v i = v := by unfold ua; rw [if_pos h]
theorem g_put_r {i p ls : Nat} {v : Int32} {A : SA} {nc : Nat → Nat} {wn : Nat → Nat → List Nat} : g_put i v (.inr (p, ls, A, nc, wn)) = .inr (p, ls, ua A i v, nc, wn) := rfl
theorem PK.eq {A A' : SA} (h : PK A) (w : WB A) (e7 : A' 7 = A 7) (hE : ∀ i, (176 ≤ i ∧ i < 200) ∨ 10000 ≤ i → A' i = A i) : PK A' := by
  intro i hi
  rw [e7] at hi
  have c7 := w.c7.2
  rw [hE _ (by omega), hE _ (by omega), hE _ (by omega), hE _ (by omega), hE _ (by omega), hE _ (by omega), hE _ (by omega)]
  exact h i hi
def RQ (μ : Mem) (m : Nat) (b : Nat → Nat) (n : Nat) (F : Option (Int32 × Mem)) (g' : GST) : Prop :=
  ∃ x μ', F = some (x, μ') ∧ RFr m μ μ' ∧ ((x = nI 1 ∧ ∃ p' ls' A' nc' wn', RM μ' m b n p' A' nc' wn' ∧ VA A' nc' ∧ g' = g_tok b n 3 (.inr (p', ls', A', nc', wn'))) ∨ (x = nI 0 ∧ ∃ e, RE μ' m e ∧ g' = .inl e))
section RSM
variable {μ μ' : Mem} {m n p : Nat} {b : Nat → Nat} {A : SA} {nc : Nat → Nat} {wn : Nat → Nat → List Nat}
theorem RM.bd (h : RM μ m b n p A nc wn) : gK μ m = 8 ∧ gR μ m 1 = m + 2 ∧ gK μ (m + 2) = 101 ∧ gL μ (m + 2) = 6740 := ⟨h.k0, h.sr.r1, h.sr.k2, h.sr.l2⟩
theorem tb0e : tb 0 = 9 ∧ tS 0 = 2 := ⟨rfl, rfl⟩
theorem tb1e : tb 1 = 25 ∧ tS 1 = 3 := ⟨rfl, rfl⟩
theorem tb2e : tb 2 = 43 ∧ tS 2 = 5 := ⟨rfl, rfl⟩
theorem tb3e : tb 3 = 76 ∧ tS 3 = 2 := ⟨rfl, rfl⟩
theorem tb4e : tb 4 = 100 ∧ tS 4 = 3 := ⟨rfl, rfl⟩
theorem tb5e : tb 5 = 136 ∧ tS 5 = 3 := ⟨rfl, rfl⟩
theorem tb6e : tb 6 = 160 ∧ tS 6 = 2 := ⟨rfl, rfl⟩
theorem tb7e : tb 7 = 10000 ∧ tS 7 = 5 := ⟨rfl, rfl⟩
theorem r9_list (h : RM μ m b n p A nc wn) (v : VA A nc) (hk1 : tk b n p = 1) : RQ μ m b n (F_X9_list m μ) (g_list b n (nt (A 3)) (.inr (te b n p, ts b n p, A, nc, wn))) := by
  obtain ⟨w, pk, hn⟩ := v
  have cc := w.c3
  have n0 : A 0 = nI (nc 0) := by rw [hn 0 (by decide)]; exact w.c0.1
  have n1 : A 1 = nI (nc 1) := by rw [hn 1 (by decide)]; exact w.c1.1
  have n2 : A 2 = nI (nc 2) := by rw [hn 2 (by decide)]; exact w.c2.1
  have q0 := h.bd
  have gA : gI μ (m + 2) 3 = nI (nt (A 3)) := (h.2.2.2.1 3 (by decide)).trans cc.1
  obtain ⟨x1, μ1, e1, f1, r1⟩ := r_begin (k := 3) (lim := 12) h (by decide) (by decide) cc.1 cc.2 hk1
  rcases r1 with ⟨rfl, lt, h1, s1⟩ | ⟨rfl, e, z, s1⟩
  rotate_left
  · refine ⟨nI 0, μ1, ?_, f1, Or.inr ⟨rfl, e, z, ?_⟩⟩
    · clear h z f1 s1 w pk hn n0 n1 n2 cc
      simp (disch := first | assumption | omega) only [q_bl, q_baT, q_bi, q_ba, q_pr, q_ob, q_iT, q_iN, q_it, q_if, q_of, nI_add, pk_mul, pk_sub, nI_leI, nI_ltI, nI_eq, nI_clamp, nI_lt0, nI_eqm, m1_eq, true_or, or_true, not_false_eq_true, m1_lt, m1_nlt, m1_le, m1_nle, b01, b011, q_em, q_m1, n_0, n_1, n_2, n_3, n_4, n_5, n_6, n_7, n_8, n_9, n_10, n_11, n_12, n_14, n_15, n_16, n_20, n_24, n_25, n_32, n_36, n_40, n_41, n_42, n_43, n_45, n_46, n_48, n_57, n_59, n_60, n_73, n_76, n_97, n_99, n_100, n_106, n_109, n_120, n_122, n_136, n_160, n_176, n_200, n_255, n_800, n_1000, n_1001, n_1002, n_1003, n_1006, n_1012, n_1018, n_1019, n_1020, n_1100, n_1140, n_4800, n_4920, n_5940, n_6740, n_20220, F_X9_list, q0, gA, e1]
    · simp only [g_list, s1, g_put_r]; rfl
  have q1 := h1.bd
  obtain ⟨x2, μ2, e2, f2, r2⟩ := r_name (i := 76 + 2 * nt (A 3)) (t := 0) h1 (by omega) (by decide) (n0)
  rcases r2 with ⟨rfl, o2, b2, h2, s2⟩ | ⟨rfl, e, z, s2⟩
  rotate_left
  · refine ⟨nI 0, μ2, ?_, f1.trans (f2), Or.inr ⟨rfl, e, z, ?_⟩⟩
    · clear h h1 z f1 f2 s1 s2 w pk hn n0 n1 n2 cc
      simp (disch := first | assumption | omega) only [q_bl, q_baT, q_bi, q_ba, q_pr, q_ob, q_iT, q_iN, q_it, q_if, q_of, nI_add, pk_mul, pk_sub, nI_leI, nI_ltI, nI_eq, nI_clamp, nI_lt0, nI_eqm, m1_eq, true_or, or_true, not_false_eq_true, m1_lt, m1_nlt, m1_le, m1_nle, b01, b011, q_em, q_m1, n_0, n_1, n_2, n_3, n_4, n_5, n_6, n_7, n_8, n_9, n_10, n_11, n_12, n_14, n_15, n_16, n_20, n_24, n_25, n_32, n_36, n_40, n_41, n_42, n_43, n_45, n_46, n_48, n_57, n_59, n_60, n_73, n_76, n_97, n_99, n_100, n_106, n_109, n_120, n_122, n_136, n_160, n_176, n_200, n_255, n_800, n_1000, n_1001, n_1002, n_1003, n_1006, n_1012, n_1018, n_1019, n_1020, n_1100, n_1140, n_4800, n_4920, n_5940, n_6740, n_20220, F_X9_list, q0, q1, gA, e1, e2]
    · simp only [g_list, s1, s2, g_put_r]; rfl
  have q2 := h2.bd
  obtain ⟨x3, μ3, e3, f3, r3⟩ := r_num (i := 76 + 2 * nt (A 3) + 1) (l1 := 1) (l2 := 40) h2 (by omega) (by decide) (by decide)
  rcases r3 with ⟨rfl, t3, a3, b3, h3, s3⟩ | ⟨rfl, e, z, s3⟩
  rotate_left
  · refine ⟨nI 0, μ3, ?_, f1.trans (f2.trans (f3)), Or.inr ⟨rfl, e, z, ?_⟩⟩
    · clear h h1 h2 z f1 f2 f3 s1 s2 s3 w pk hn n0 n1 n2 cc
      simp (disch := first | assumption | omega) only [q_bl, q_baT, q_bi, q_ba, q_pr, q_ob, q_iT, q_iN, q_it, q_if, q_of, nI_add, pk_mul, pk_sub, nI_leI, nI_ltI, nI_eq, nI_clamp, nI_lt0, nI_eqm, m1_eq, true_or, or_true, not_false_eq_true, m1_lt, m1_nlt, m1_le, m1_nle, b01, b011, q_em, q_m1, n_0, n_1, n_2, n_3, n_4, n_5, n_6, n_7, n_8, n_9, n_10, n_11, n_12, n_14, n_15, n_16, n_20, n_24, n_25, n_32, n_36, n_40, n_41, n_42, n_43, n_45, n_46, n_48, n_57, n_59, n_60, n_73, n_76, n_97, n_99, n_100, n_106, n_109, n_120, n_122, n_136, n_160, n_176, n_200, n_255, n_800, n_1000, n_1001, n_1002, n_1003, n_1006, n_1012, n_1018, n_1019, n_1020, n_1100, n_1140, n_4800, n_4920, n_5940, n_6740, n_20220, F_X9_list, q0, q1, q2, gA, e1, e2, e3]
    · simp only [g_list, s1, s2, s3, g_put_r]; rfl
  have q3 := h3.bd
  obtain ⟨μ4, e4, f4, h4⟩ := r_done (k := 3) (c := nt (A 3)) h3 (by decide) (by simp (disch := omega) only [ua_n, ua_e]; exact cc.1)
  obtain ⟨A', hA'⟩ : ∃ A', A' = ua (ua (ua A 3 (nI (nt (A 3) + 1))) (76 + 2 * nt (A 3) + 0) (nI o2)) (76 + 2 * nt (A 3) + 1) (nI (tv b n (te b n (te b n p)))) := ⟨_, rfl⟩
  have hk' : A' 3 = nI (nt (A 3) + 1) := by rw [hA']; simp (disch := omega) only [ua_n, ua_e]
  have hE' : ∀ i, ¬ i = 3 → ¬ (76 + 2 * nt (A 3) ≤ i ∧ i < 76 + 2 * nt (A 3) + 2) → A' i = A i := fun i i1 i2 => by rw [hA']; simp (disch := omega) only [ua_n]
  refine ⟨nI 1, μ4, ?_, f1.trans (f2.trans (f3.trans (f4))), Or.inl ⟨rfl, (te b n (te b n (te b n p))), (ts b n (te b n (te b n p))), A', nc, wn, h4.ext ?_, ⟨?_, pk.eq w (hE' 7 (by omega) (by omega)) (fun i hi => hE' i (by omega) (by omega)), ?_⟩, ?_⟩⟩
  · clear h h1 h2 h3 h4 f1 f2 f3 f4 s1 s2 s3 w pk hn n0 n1 n2 cc hA' hk' hE'
    simp (disch := first | assumption | omega) only [q_bl, q_baT, q_bi, q_ba, q_pr, q_ob, q_iT, q_iN, q_it, q_if, q_of, nI_add, pk_mul, pk_sub, nI_leI, nI_ltI, nI_eq, nI_clamp, nI_lt0, nI_eqm, m1_eq, true_or, or_true, not_false_eq_true, m1_lt, m1_nlt, m1_le, m1_nle, b01, b011, q_em, q_m1, n_0, n_1, n_2, n_3, n_4, n_5, n_6, n_7, n_8, n_9, n_10, n_11, n_12, n_14, n_15, n_16, n_20, n_24, n_25, n_32, n_36, n_40, n_41, n_42, n_43, n_45, n_46, n_48, n_57, n_59, n_60, n_73, n_76, n_97, n_99, n_100, n_106, n_109, n_120, n_122, n_136, n_160, n_176, n_200, n_255, n_800, n_1000, n_1001, n_1002, n_1003, n_1006, n_1012, n_1018, n_1019, n_1020, n_1100, n_1140, n_4800, n_4920, n_5940, n_6740, n_20220, F_X9_list, q0, q1, q2, q3, gA, e1, e2, e3, e4]
  · rw [hA']; intro i _; simp only [ua]; repeat' split
    all_goals first | rfl | omega
  · exact wb_lst w lt hk' hE' (show A' (76 + 2 * nt (A 3)) = nI o2 from by rw [hA']; simp (disch := omega) only [ua_n, ua_e]) (show A' (76 + 2 * nt (A 3) + 1) = nI (tv b n (te b n (te b n p))) from by rw [hA']; simp (disch := omega) only [ua_n, ua_e]) (by rw [← hn 0 (by decide)]; exact b2) ⟨a3, b3⟩
  · exact fun t ht => by rw [hn t ht, hE' t (by omega) (by omega)]
  · rw [hA']; simp only [g_list, s1, s2, s3, g_put_r, tb3e]
theorem r9_total (h : RM μ m b n p A nc wn) (v : VA A nc) (hk1 : tk b n p = 1) : RQ μ m b n (F_X9_total m μ) (g_total b n (nt (A 4)) (.inr (te b n p, ts b n p, A, nc, wn))) := by
  obtain ⟨w, pk, hn⟩ := v
  have cc := w.c4
  have n0 : A 0 = nI (nc 0) := by rw [hn 0 (by decide)]; exact w.c0.1
  have n1 : A 1 = nI (nc 1) := by rw [hn 1 (by decide)]; exact w.c1.1
  have n2 : A 2 = nI (nc 2) := by rw [hn 2 (by decide)]; exact w.c2.1
  have q0 := h.bd
  have gA : gI μ (m + 2) 4 = nI (nt (A 4)) := (h.2.2.2.1 4 (by decide)).trans cc.1
  obtain ⟨x1, μ1, e1, f1, r1⟩ := r_begin (k := 4) (lim := 12) h (by decide) (by decide) cc.1 cc.2 hk1
  rcases r1 with ⟨rfl, lt, h1, s1⟩ | ⟨rfl, e, z, s1⟩
  rotate_left
  · refine ⟨nI 0, μ1, ?_, f1, Or.inr ⟨rfl, e, z, ?_⟩⟩
    · clear h z f1 s1 w pk hn n0 n1 n2 cc
      simp (disch := first | assumption | omega) only [q_bl, q_baT, q_bi, q_ba, q_pr, q_ob, q_iT, q_iN, q_it, q_if, q_of, nI_add, pk_mul, pk_sub, nI_leI, nI_ltI, nI_eq, nI_clamp, nI_lt0, nI_eqm, m1_eq, true_or, or_true, not_false_eq_true, m1_lt, m1_nlt, m1_le, m1_nle, b01, b011, q_em, q_m1, n_0, n_1, n_2, n_3, n_4, n_5, n_6, n_7, n_8, n_9, n_10, n_11, n_12, n_14, n_15, n_16, n_20, n_24, n_25, n_32, n_36, n_40, n_41, n_42, n_43, n_45, n_46, n_48, n_57, n_59, n_60, n_73, n_76, n_97, n_99, n_100, n_106, n_109, n_120, n_122, n_136, n_160, n_176, n_200, n_255, n_800, n_1000, n_1001, n_1002, n_1003, n_1006, n_1012, n_1018, n_1019, n_1020, n_1100, n_1140, n_4800, n_4920, n_5940, n_6740, n_20220, F_X9_total, q0, gA, e1]
    · simp only [g_total, s1, g_put_r]; rfl
  have q1 := h1.bd
  obtain ⟨x2, μ2, e2, f2, r2⟩ := r_num (i := 100 + 3 * nt (A 4)) (l1 := 1) (l2 := 3) h1 (by omega) (by decide) (by decide)
  rcases r2 with ⟨rfl, t2, a2, b2, h2, s2⟩ | ⟨rfl, e, z, s2⟩
  rotate_left
  · refine ⟨nI 0, μ2, ?_, f1.trans (f2), Or.inr ⟨rfl, e, z, ?_⟩⟩
    · clear h h1 z f1 f2 s1 s2 w pk hn n0 n1 n2 cc
      simp (disch := first | assumption | omega) only [q_bl, q_baT, q_bi, q_ba, q_pr, q_ob, q_iT, q_iN, q_it, q_if, q_of, nI_add, pk_mul, pk_sub, nI_leI, nI_ltI, nI_eq, nI_clamp, nI_lt0, nI_eqm, m1_eq, true_or, or_true, not_false_eq_true, m1_lt, m1_nlt, m1_le, m1_nle, b01, b011, q_em, q_m1, n_0, n_1, n_2, n_3, n_4, n_5, n_6, n_7, n_8, n_9, n_10, n_11, n_12, n_14, n_15, n_16, n_20, n_24, n_25, n_32, n_36, n_40, n_41, n_42, n_43, n_45, n_46, n_48, n_57, n_59, n_60, n_73, n_76, n_97, n_99, n_100, n_106, n_109, n_120, n_122, n_136, n_160, n_176, n_200, n_255, n_800, n_1000, n_1001, n_1002, n_1003, n_1006, n_1012, n_1018, n_1019, n_1020, n_1100, n_1140, n_4800, n_4920, n_5940, n_6740, n_20220, F_X9_total, q0, q1, gA, e1, e2]
    · simp only [g_total, s1, s2, g_put_r]; rfl
  have q2 := h2.bd
  obtain ⟨x3, μ3, e3, f3, r3⟩ := r_name (i := 100 + 3 * nt (A 4) + 1) (t := 2) h2 (by omega) (by decide) (by simp (disch := omega) only [ua_n, ua_e]; exact n2)
  rcases r3 with ⟨rfl, o3, b3, h3, s3⟩ | ⟨rfl, e, z, s3⟩
  rotate_left
  · refine ⟨nI 0, μ3, ?_, f1.trans (f2.trans (f3)), Or.inr ⟨rfl, e, z, ?_⟩⟩
    · clear h h1 h2 z f1 f2 f3 s1 s2 s3 w pk hn n0 n1 n2 cc
      simp (disch := first | assumption | omega) only [q_bl, q_baT, q_bi, q_ba, q_pr, q_ob, q_iT, q_iN, q_it, q_if, q_of, nI_add, pk_mul, pk_sub, nI_leI, nI_ltI, nI_eq, nI_clamp, nI_lt0, nI_eqm, m1_eq, true_or, or_true, not_false_eq_true, m1_lt, m1_nlt, m1_le, m1_nle, b01, b011, q_em, q_m1, n_0, n_1, n_2, n_3, n_4, n_5, n_6, n_7, n_8, n_9, n_10, n_11, n_12, n_14, n_15, n_16, n_20, n_24, n_25, n_32, n_36, n_40, n_41, n_42, n_43, n_45, n_46, n_48, n_57, n_59, n_60, n_73, n_76, n_97, n_99, n_100, n_106, n_109, n_120, n_122, n_136, n_160, n_176, n_200, n_255, n_800, n_1000, n_1001, n_1002, n_1003, n_1006, n_1012, n_1018, n_1019, n_1020, n_1100, n_1140, n_4800, n_4920, n_5940, n_6740, n_20220, F_X9_total, q0, q1, q2, gA, e1, e2, e3]
    · simp only [g_total, s1, s2, s3, g_put_r]; rfl
  have q3 := h3.bd
  obtain ⟨x4, μ4, e4, f4, r4⟩ := r_num (i := 100 + 3 * nt (A 4) + 2) (l1 := 1) (l2 := 40) h3 (by omega) (by decide) (by decide)
  rcases r4 with ⟨rfl, t4, a4, b4, h4, s4⟩ | ⟨rfl, e, z, s4⟩
  rotate_left
  · refine ⟨nI 0, μ4, ?_, f1.trans (f2.trans (f3.trans (f4))), Or.inr ⟨rfl, e, z, ?_⟩⟩
    · clear h h1 h2 h3 z f1 f2 f3 f4 s1 s2 s3 s4 w pk hn n0 n1 n2 cc
      simp (disch := first | assumption | omega) only [q_bl, q_baT, q_bi, q_ba, q_pr, q_ob, q_iT, q_iN, q_it, q_if, q_of, nI_add, pk_mul, pk_sub, nI_leI, nI_ltI, nI_eq, nI_clamp, nI_lt0, nI_eqm, m1_eq, true_or, or_true, not_false_eq_true, m1_lt, m1_nlt, m1_le, m1_nle, b01, b011, q_em, q_m1, n_0, n_1, n_2, n_3, n_4, n_5, n_6, n_7, n_8, n_9, n_10, n_11, n_12, n_14, n_15, n_16, n_20, n_24, n_25, n_32, n_36, n_40, n_41, n_42, n_43, n_45, n_46, n_48, n_57, n_59, n_60, n_73, n_76, n_97, n_99, n_100, n_106, n_109, n_120, n_122, n_136, n_160, n_176, n_200, n_255, n_800, n_1000, n_1001, n_1002, n_1003, n_1006, n_1012, n_1018, n_1019, n_1020, n_1100, n_1140, n_4800, n_4920, n_5940, n_6740, n_20220, F_X9_total, q0, q1, q2, q3, gA, e1, e2, e3, e4]
    · simp only [g_total, s1, s2, s3, s4, g_put_r]; rfl
  have q4 := h4.bd
  obtain ⟨μ5, e5, f5, h5⟩ := r_done (k := 4) (c := nt (A 4)) h4 (by decide) (by simp (disch := omega) only [ua_n, ua_e]; exact cc.1)
  obtain ⟨A', hA'⟩ : ∃ A', A' = ua (ua (ua (ua A 4 (nI (nt (A 4) + 1))) (100 + 3 * nt (A 4) + 0) (nI (tv b n (te b n p)))) (100 + 3 * nt (A 4) + 1) (nI o3)) (100 + 3 * nt (A 4) + 2) (nI (tv b n (te b n (te b n (te b n p))))) := ⟨_, rfl⟩
  have hk' : A' 4 = nI (nt (A 4) + 1) := by rw [hA']; simp (disch := omega) only [ua_n, ua_e]
  have hE' : ∀ i, ¬ i = 4 → ¬ (100 + 3 * nt (A 4) ≤ i ∧ i < 100 + 3 * nt (A 4) + 3) → A' i = A i := fun i i1 i2 => by rw [hA']; simp (disch := omega) only [ua_n]
  refine ⟨nI 1, μ5, ?_, f1.trans (f2.trans (f3.trans (f4.trans (f5)))), Or.inl ⟨rfl, (te b n (te b n (te b n (te b n p)))), (ts b n (te b n (te b n (te b n p)))), A', nc, wn, h5.ext ?_, ⟨?_, pk.eq w (hE' 7 (by omega) (by omega)) (fun i hi => hE' i (by omega) (by omega)), ?_⟩, ?_⟩⟩
  · clear h h1 h2 h3 h4 h5 f1 f2 f3 f4 f5 s1 s2 s3 s4 w pk hn n0 n1 n2 cc hA' hk' hE'
    simp (disch := first | assumption | omega) only [q_bl, q_baT, q_bi, q_ba, q_pr, q_ob, q_iT, q_iN, q_it, q_if, q_of, nI_add, pk_mul, pk_sub, nI_leI, nI_ltI, nI_eq, nI_clamp, nI_lt0, nI_eqm, m1_eq, true_or, or_true, not_false_eq_true, m1_lt, m1_nlt, m1_le, m1_nle, b01, b011, q_em, q_m1, n_0, n_1, n_2, n_3, n_4, n_5, n_6, n_7, n_8, n_9, n_10, n_11, n_12, n_14, n_15, n_16, n_20, n_24, n_25, n_32, n_36, n_40, n_41, n_42, n_43, n_45, n_46, n_48, n_57, n_59, n_60, n_73, n_76, n_97, n_99, n_100, n_106, n_109, n_120, n_122, n_136, n_160, n_176, n_200, n_255, n_800, n_1000, n_1001, n_1002, n_1003, n_1006, n_1012, n_1018, n_1019, n_1020, n_1100, n_1140, n_4800, n_4920, n_5940, n_6740, n_20220, F_X9_total, q0, q1, q2, q3, q4, gA, e1, e2, e3, e4, e5]
  · rw [hA']; intro i _; simp only [ua]; repeat' split
    all_goals first | rfl | omega
  · exact wb_tot w lt hk' hE' (show A' (100 + 3 * nt (A 4)) = nI (tv b n (te b n p)) from by rw [hA']; simp (disch := omega) only [ua_n, ua_e]) (show A' (100 + 3 * nt (A 4) + 1) = nI o3 from by rw [hA']; simp (disch := omega) only [ua_n, ua_e]) (show A' (100 + 3 * nt (A 4) + 2) = nI (tv b n (te b n (te b n (te b n p)))) from by rw [hA']; simp (disch := omega) only [ua_n, ua_e]) ⟨a2, b2⟩ (by rw [← hn 2 (by decide)]; exact b3) ⟨a4, b4⟩
  · exact fun t ht => by rw [hn t ht, hE' t (by omega) (by omega)]
  · rw [hA']; simp only [g_total, s1, s2, s3, s4, g_put_r, tb4e]
theorem r9_roll (h : RM μ m b n p A nc wn) (v : VA A nc) (hk1 : tk b n p = 1) : RQ μ m b n (F_X9_roll m μ) (g_roll b n (nt (A 5)) (.inr (te b n p, ts b n p, A, nc, wn))) := by
  obtain ⟨w, pk, hn⟩ := v
  have cc := w.c5
  have n0 : A 0 = nI (nc 0) := by rw [hn 0 (by decide)]; exact w.c0.1
  have n1 : A 1 = nI (nc 1) := by rw [hn 1 (by decide)]; exact w.c1.1
  have n2 : A 2 = nI (nc 2) := by rw [hn 2 (by decide)]; exact w.c2.1
  have q0 := h.bd
  have gA : gI μ (m + 2) 5 = nI (nt (A 5)) := (h.2.2.2.1 5 (by decide)).trans cc.1
  obtain ⟨x1, μ1, e1, f1, r1⟩ := r_begin (k := 5) (lim := 8) h (by decide) (by decide) cc.1 cc.2 hk1
  rcases r1 with ⟨rfl, lt, h1, s1⟩ | ⟨rfl, e, z, s1⟩
  rotate_left
  · refine ⟨nI 0, μ1, ?_, f1, Or.inr ⟨rfl, e, z, ?_⟩⟩
    · clear h z f1 s1 w pk hn n0 n1 n2 cc
      simp (disch := first | assumption | omega) only [q_bl, q_baT, q_bi, q_ba, q_pr, q_ob, q_iT, q_iN, q_it, q_if, q_of, nI_add, pk_mul, pk_sub, nI_leI, nI_ltI, nI_eq, nI_clamp, nI_lt0, nI_eqm, m1_eq, true_or, or_true, not_false_eq_true, m1_lt, m1_nlt, m1_le, m1_nle, b01, b011, q_em, q_m1, n_0, n_1, n_2, n_3, n_4, n_5, n_6, n_7, n_8, n_9, n_10, n_11, n_12, n_14, n_15, n_16, n_20, n_24, n_25, n_32, n_36, n_40, n_41, n_42, n_43, n_45, n_46, n_48, n_57, n_59, n_60, n_73, n_76, n_97, n_99, n_100, n_106, n_109, n_120, n_122, n_136, n_160, n_176, n_200, n_255, n_800, n_1000, n_1001, n_1002, n_1003, n_1006, n_1012, n_1018, n_1019, n_1020, n_1100, n_1140, n_4800, n_4920, n_5940, n_6740, n_20220, F_X9_roll, q0, gA, e1]
    · simp only [g_roll, s1, g_put_r]; rfl
  have q1 := h1.bd
  obtain ⟨x2, μ2, e2, f2, r2⟩ := r_num (i := 136 + 3 * nt (A 5)) (l1 := 1) (l2 := 3) h1 (by omega) (by decide) (by decide)
  rcases r2 with ⟨rfl, t2, a2, b2, h2, s2⟩ | ⟨rfl, e, z, s2⟩
  rotate_left
  · refine ⟨nI 0, μ2, ?_, f1.trans (f2), Or.inr ⟨rfl, e, z, ?_⟩⟩
    · clear h h1 z f1 f2 s1 s2 w pk hn n0 n1 n2 cc
      simp (disch := first | assumption | omega) only [q_bl, q_baT, q_bi, q_ba, q_pr, q_ob, q_iT, q_iN, q_it, q_if, q_of, nI_add, pk_mul, pk_sub, nI_leI, nI_ltI, nI_eq, nI_clamp, nI_lt0, nI_eqm, m1_eq, true_or, or_true, not_false_eq_true, m1_lt, m1_nlt, m1_le, m1_nle, b01, b011, q_em, q_m1, n_0, n_1, n_2, n_3, n_4, n_5, n_6, n_7, n_8, n_9, n_10, n_11, n_12, n_14, n_15, n_16, n_20, n_24, n_25, n_32, n_36, n_40, n_41, n_42, n_43, n_45, n_46, n_48, n_57, n_59, n_60, n_73, n_76, n_97, n_99, n_100, n_106, n_109, n_120, n_122, n_136, n_160, n_176, n_200, n_255, n_800, n_1000, n_1001, n_1002, n_1003, n_1006, n_1012, n_1018, n_1019, n_1020, n_1100, n_1140, n_4800, n_4920, n_5940, n_6740, n_20220, F_X9_roll, q0, q1, gA, e1, e2]
    · simp only [g_roll, s1, s2, g_put_r]; rfl
  have q2 := h2.bd
  obtain ⟨x3, μ3, e3, f3, r3⟩ := r_name (i := 136 + 3 * nt (A 5) + 1) (t := 2) h2 (by omega) (by decide) (by simp (disch := omega) only [ua_n, ua_e]; exact n2)
  rcases r3 with ⟨rfl, o3, b3, h3, s3⟩ | ⟨rfl, e, z, s3⟩
  rotate_left
  · refine ⟨nI 0, μ3, ?_, f1.trans (f2.trans (f3)), Or.inr ⟨rfl, e, z, ?_⟩⟩
    · clear h h1 h2 z f1 f2 f3 s1 s2 s3 w pk hn n0 n1 n2 cc
      simp (disch := first | assumption | omega) only [q_bl, q_baT, q_bi, q_ba, q_pr, q_ob, q_iT, q_iN, q_it, q_if, q_of, nI_add, pk_mul, pk_sub, nI_leI, nI_ltI, nI_eq, nI_clamp, nI_lt0, nI_eqm, m1_eq, true_or, or_true, not_false_eq_true, m1_lt, m1_nlt, m1_le, m1_nle, b01, b011, q_em, q_m1, n_0, n_1, n_2, n_3, n_4, n_5, n_6, n_7, n_8, n_9, n_10, n_11, n_12, n_14, n_15, n_16, n_20, n_24, n_25, n_32, n_36, n_40, n_41, n_42, n_43, n_45, n_46, n_48, n_57, n_59, n_60, n_73, n_76, n_97, n_99, n_100, n_106, n_109, n_120, n_122, n_136, n_160, n_176, n_200, n_255, n_800, n_1000, n_1001, n_1002, n_1003, n_1006, n_1012, n_1018, n_1019, n_1020, n_1100, n_1140, n_4800, n_4920, n_5940, n_6740, n_20220, F_X9_roll, q0, q1, q2, gA, e1, e2, e3]
    · simp only [g_roll, s1, s2, s3, g_put_r]; rfl
  have q3 := h3.bd
  obtain ⟨x4, μ4, e4, f4, r4⟩ := r_name (i := 136 + 3 * nt (A 5) + 2) (t := 2) h3 (by omega) (by decide) (by simp (disch := omega) only [ua_n, ua_e]; exact n2)
  rcases r4 with ⟨rfl, o4, b4, h4, s4⟩ | ⟨rfl, e, z, s4⟩
  rotate_left
  · refine ⟨nI 0, μ4, ?_, f1.trans (f2.trans (f3.trans (f4))), Or.inr ⟨rfl, e, z, ?_⟩⟩
    · clear h h1 h2 h3 z f1 f2 f3 f4 s1 s2 s3 s4 w pk hn n0 n1 n2 cc
      simp (disch := first | assumption | omega) only [q_bl, q_baT, q_bi, q_ba, q_pr, q_ob, q_iT, q_iN, q_it, q_if, q_of, nI_add, pk_mul, pk_sub, nI_leI, nI_ltI, nI_eq, nI_clamp, nI_lt0, nI_eqm, m1_eq, true_or, or_true, not_false_eq_true, m1_lt, m1_nlt, m1_le, m1_nle, b01, b011, q_em, q_m1, n_0, n_1, n_2, n_3, n_4, n_5, n_6, n_7, n_8, n_9, n_10, n_11, n_12, n_14, n_15, n_16, n_20, n_24, n_25, n_32, n_36, n_40, n_41, n_42, n_43, n_45, n_46, n_48, n_57, n_59, n_60, n_73, n_76, n_97, n_99, n_100, n_106, n_109, n_120, n_122, n_136, n_160, n_176, n_200, n_255, n_800, n_1000, n_1001, n_1002, n_1003, n_1006, n_1012, n_1018, n_1019, n_1020, n_1100, n_1140, n_4800, n_4920, n_5940, n_6740, n_20220, F_X9_roll, q0, q1, q2, q3, gA, e1, e2, e3, e4]
    · simp only [g_roll, s1, s2, s3, s4, g_put_r]; rfl
  have q4 := h4.bd
  obtain ⟨μ5, e5, f5, h5⟩ := r_done (k := 5) (c := nt (A 5)) h4 (by decide) (by simp (disch := omega) only [ua_n, ua_e]; exact cc.1)
  obtain ⟨A', hA'⟩ : ∃ A', A' = ua (ua (ua (ua A 5 (nI (nt (A 5) + 1))) (136 + 3 * nt (A 5) + 0) (nI (tv b n (te b n p)))) (136 + 3 * nt (A 5) + 1) (nI o3)) (136 + 3 * nt (A 5) + 2) (nI o4) := ⟨_, rfl⟩
  have hk' : A' 5 = nI (nt (A 5) + 1) := by rw [hA']; simp (disch := omega) only [ua_n, ua_e]
  have hE' : ∀ i, ¬ i = 5 → ¬ (136 + 3 * nt (A 5) ≤ i ∧ i < 136 + 3 * nt (A 5) + 3) → A' i = A i := fun i i1 i2 => by rw [hA']; simp (disch := omega) only [ua_n]
  refine ⟨nI 1, μ5, ?_, f1.trans (f2.trans (f3.trans (f4.trans (f5)))), Or.inl ⟨rfl, (te b n (te b n (te b n (te b n p)))), (ts b n (te b n (te b n (te b n p)))), A', nc, wn, h5.ext ?_, ⟨?_, pk.eq w (hE' 7 (by omega) (by omega)) (fun i hi => hE' i (by omega) (by omega)), ?_⟩, ?_⟩⟩
  · clear h h1 h2 h3 h4 h5 f1 f2 f3 f4 f5 s1 s2 s3 s4 w pk hn n0 n1 n2 cc hA' hk' hE'
    simp (disch := first | assumption | omega) only [q_bl, q_baT, q_bi, q_ba, q_pr, q_ob, q_iT, q_iN, q_it, q_if, q_of, nI_add, pk_mul, pk_sub, nI_leI, nI_ltI, nI_eq, nI_clamp, nI_lt0, nI_eqm, m1_eq, true_or, or_true, not_false_eq_true, m1_lt, m1_nlt, m1_le, m1_nle, b01, b011, q_em, q_m1, n_0, n_1, n_2, n_3, n_4, n_5, n_6, n_7, n_8, n_9, n_10, n_11, n_12, n_14, n_15, n_16, n_20, n_24, n_25, n_32, n_36, n_40, n_41, n_42, n_43, n_45, n_46, n_48, n_57, n_59, n_60, n_73, n_76, n_97, n_99, n_100, n_106, n_109, n_120, n_122, n_136, n_160, n_176, n_200, n_255, n_800, n_1000, n_1001, n_1002, n_1003, n_1006, n_1012, n_1018, n_1019, n_1020, n_1100, n_1140, n_4800, n_4920, n_5940, n_6740, n_20220, F_X9_roll, q0, q1, q2, q3, q4, gA, e1, e2, e3, e4, e5]
  · rw [hA']; intro i _; simp only [ua]; repeat' split
    all_goals first | rfl | omega
  · exact wb_rol w lt hk' hE' (show A' (136 + 3 * nt (A 5)) = nI (tv b n (te b n p)) from by rw [hA']; simp (disch := omega) only [ua_n, ua_e]) (show A' (136 + 3 * nt (A 5) + 1) = nI o3 from by rw [hA']; simp (disch := omega) only [ua_n, ua_e]) (show A' (136 + 3 * nt (A 5) + 2) = nI o4 from by rw [hA']; simp (disch := omega) only [ua_n, ua_e]) ⟨a2, b2⟩ (by rw [← hn 2 (by decide)]; exact b3) (by rw [← hn 2 (by decide)]; exact b4)
  · exact fun t ht => by rw [hn t ht, hE' t (by omega) (by omega)]
  · rw [hA']; simp only [g_roll, s1, s2, s3, s4, g_put_r, tb5e]
theorem r9_clear (h : RM μ m b n p A nc wn) (v : VA A nc) (hk1 : tk b n p = 1) : RQ μ m b n (F_X9_clear m μ) (g_clear b n (nt (A 6)) (.inr (te b n p, ts b n p, A, nc, wn))) := by
  obtain ⟨w, pk, hn⟩ := v
  have cc := w.c6
  have n0 : A 0 = nI (nc 0) := by rw [hn 0 (by decide)]; exact w.c0.1
  have n1 : A 1 = nI (nc 1) := by rw [hn 1 (by decide)]; exact w.c1.1
  have n2 : A 2 = nI (nc 2) := by rw [hn 2 (by decide)]; exact w.c2.1
  have q0 := h.bd
  have gA : gI μ (m + 2) 6 = nI (nt (A 6)) := (h.2.2.2.1 6 (by decide)).trans cc.1
  obtain ⟨x1, μ1, e1, f1, r1⟩ := r_begin (k := 6) (lim := 8) h (by decide) (by decide) cc.1 cc.2 hk1
  rcases r1 with ⟨rfl, lt, h1, s1⟩ | ⟨rfl, e, z, s1⟩
  rotate_left
  · refine ⟨nI 0, μ1, ?_, f1, Or.inr ⟨rfl, e, z, ?_⟩⟩
    · clear h z f1 s1 w pk hn n0 n1 n2 cc
      simp (disch := first | assumption | omega) only [q_bl, q_baT, q_bi, q_ba, q_pr, q_ob, q_iT, q_iN, q_it, q_if, q_of, nI_add, pk_mul, pk_sub, nI_leI, nI_ltI, nI_eq, nI_clamp, nI_lt0, nI_eqm, m1_eq, true_or, or_true, not_false_eq_true, m1_lt, m1_nlt, m1_le, m1_nle, b01, b011, q_em, q_m1, n_0, n_1, n_2, n_3, n_4, n_5, n_6, n_7, n_8, n_9, n_10, n_11, n_12, n_14, n_15, n_16, n_20, n_24, n_25, n_32, n_36, n_40, n_41, n_42, n_43, n_45, n_46, n_48, n_57, n_59, n_60, n_73, n_76, n_97, n_99, n_100, n_106, n_109, n_120, n_122, n_136, n_160, n_176, n_200, n_255, n_800, n_1000, n_1001, n_1002, n_1003, n_1006, n_1012, n_1018, n_1019, n_1020, n_1100, n_1140, n_4800, n_4920, n_5940, n_6740, n_20220, F_X9_clear, q0, gA, e1]
    · simp only [g_clear, s1, g_put_r]; rfl
  have q1 := h1.bd
  obtain ⟨x2, μ2, e2, f2, r2⟩ := r_num (i := 160 + 2 * nt (A 6)) (l1 := 1) (l2 := 3) h1 (by omega) (by decide) (by decide)
  rcases r2 with ⟨rfl, t2, a2, b2, h2, s2⟩ | ⟨rfl, e, z, s2⟩
  rotate_left
  · refine ⟨nI 0, μ2, ?_, f1.trans (f2), Or.inr ⟨rfl, e, z, ?_⟩⟩
    · clear h h1 z f1 f2 s1 s2 w pk hn n0 n1 n2 cc
      simp (disch := first | assumption | omega) only [q_bl, q_baT, q_bi, q_ba, q_pr, q_ob, q_iT, q_iN, q_it, q_if, q_of, nI_add, pk_mul, pk_sub, nI_leI, nI_ltI, nI_eq, nI_clamp, nI_lt0, nI_eqm, m1_eq, true_or, or_true, not_false_eq_true, m1_lt, m1_nlt, m1_le, m1_nle, b01, b011, q_em, q_m1, n_0, n_1, n_2, n_3, n_4, n_5, n_6, n_7, n_8, n_9, n_10, n_11, n_12, n_14, n_15, n_16, n_20, n_24, n_25, n_32, n_36, n_40, n_41, n_42, n_43, n_45, n_46, n_48, n_57, n_59, n_60, n_73, n_76, n_97, n_99, n_100, n_106, n_109, n_120, n_122, n_136, n_160, n_176, n_200, n_255, n_800, n_1000, n_1001, n_1002, n_1003, n_1006, n_1012, n_1018, n_1019, n_1020, n_1100, n_1140, n_4800, n_4920, n_5940, n_6740, n_20220, F_X9_clear, q0, q1, gA, e1, e2]
    · simp only [g_clear, s1, s2, g_put_r]; rfl
  have q2 := h2.bd
  obtain ⟨x3, μ3, e3, f3, r3⟩ := r_name (i := 160 + 2 * nt (A 6) + 1) (t := 2) h2 (by omega) (by decide) (by simp (disch := omega) only [ua_n, ua_e]; exact n2)
  rcases r3 with ⟨rfl, o3, b3, h3, s3⟩ | ⟨rfl, e, z, s3⟩
  rotate_left
  · refine ⟨nI 0, μ3, ?_, f1.trans (f2.trans (f3)), Or.inr ⟨rfl, e, z, ?_⟩⟩
    · clear h h1 h2 z f1 f2 f3 s1 s2 s3 w pk hn n0 n1 n2 cc
      simp (disch := first | assumption | omega) only [q_bl, q_baT, q_bi, q_ba, q_pr, q_ob, q_iT, q_iN, q_it, q_if, q_of, nI_add, pk_mul, pk_sub, nI_leI, nI_ltI, nI_eq, nI_clamp, nI_lt0, nI_eqm, m1_eq, true_or, or_true, not_false_eq_true, m1_lt, m1_nlt, m1_le, m1_nle, b01, b011, q_em, q_m1, n_0, n_1, n_2, n_3, n_4, n_5, n_6, n_7, n_8, n_9, n_10, n_11, n_12, n_14, n_15, n_16, n_20, n_24, n_25, n_32, n_36, n_40, n_41, n_42, n_43, n_45, n_46, n_48, n_57, n_59, n_60, n_73, n_76, n_97, n_99, n_100, n_106, n_109, n_120, n_122, n_136, n_160, n_176, n_200, n_255, n_800, n_1000, n_1001, n_1002, n_1003, n_1006, n_1012, n_1018, n_1019, n_1020, n_1100, n_1140, n_4800, n_4920, n_5940, n_6740, n_20220, F_X9_clear, q0, q1, q2, gA, e1, e2, e3]
    · simp only [g_clear, s1, s2, s3, g_put_r]; rfl
  have q3 := h3.bd
  obtain ⟨μ4, e4, f4, h4⟩ := r_done (k := 6) (c := nt (A 6)) h3 (by decide) (by simp (disch := omega) only [ua_n, ua_e]; exact cc.1)
  obtain ⟨A', hA'⟩ : ∃ A', A' = ua (ua (ua A 6 (nI (nt (A 6) + 1))) (160 + 2 * nt (A 6) + 0) (nI (tv b n (te b n p)))) (160 + 2 * nt (A 6) + 1) (nI o3) := ⟨_, rfl⟩
  have hk' : A' 6 = nI (nt (A 6) + 1) := by rw [hA']; simp (disch := omega) only [ua_n, ua_e]
  have hE' : ∀ i, ¬ i = 6 → ¬ (160 + 2 * nt (A 6) ≤ i ∧ i < 160 + 2 * nt (A 6) + 2) → A' i = A i := fun i i1 i2 => by rw [hA']; simp (disch := omega) only [ua_n]
  refine ⟨nI 1, μ4, ?_, f1.trans (f2.trans (f3.trans (f4))), Or.inl ⟨rfl, (te b n (te b n (te b n p))), (ts b n (te b n (te b n p))), A', nc, wn, h4.ext ?_, ⟨?_, pk.eq w (hE' 7 (by omega) (by omega)) (fun i hi => hE' i (by omega) (by omega)), ?_⟩, ?_⟩⟩
  · clear h h1 h2 h3 h4 f1 f2 f3 f4 s1 s2 s3 w pk hn n0 n1 n2 cc hA' hk' hE'
    simp (disch := first | assumption | omega) only [q_bl, q_baT, q_bi, q_ba, q_pr, q_ob, q_iT, q_iN, q_it, q_if, q_of, nI_add, pk_mul, pk_sub, nI_leI, nI_ltI, nI_eq, nI_clamp, nI_lt0, nI_eqm, m1_eq, true_or, or_true, not_false_eq_true, m1_lt, m1_nlt, m1_le, m1_nle, b01, b011, q_em, q_m1, n_0, n_1, n_2, n_3, n_4, n_5, n_6, n_7, n_8, n_9, n_10, n_11, n_12, n_14, n_15, n_16, n_20, n_24, n_25, n_32, n_36, n_40, n_41, n_42, n_43, n_45, n_46, n_48, n_57, n_59, n_60, n_73, n_76, n_97, n_99, n_100, n_106, n_109, n_120, n_122, n_136, n_160, n_176, n_200, n_255, n_800, n_1000, n_1001, n_1002, n_1003, n_1006, n_1012, n_1018, n_1019, n_1020, n_1100, n_1140, n_4800, n_4920, n_5940, n_6740, n_20220, F_X9_clear, q0, q1, q2, q3, gA, e1, e2, e3, e4]
  · rw [hA']; intro i _; simp only [ua]; repeat' split
    all_goals first | rfl | omega
  · exact wb_clr w lt hk' hE' (show A' (160 + 2 * nt (A 6)) = nI (tv b n (te b n p)) from by rw [hA']; simp (disch := omega) only [ua_n, ua_e]) (show A' (160 + 2 * nt (A 6) + 1) = nI o3 from by rw [hA']; simp (disch := omega) only [ua_n, ua_e]) ⟨a2, b2⟩ (by rw [← hn 2 (by decide)]; exact b3)
  · exact fun t ht => by rw [hn t ht, hE' t (by omega) (by omega)]
  · rw [hA']; simp only [g_clear, s1, s2, s3, g_put_r, tb6e]
end RSM

/-! LAYER 3: the reference's reader: fields, selectors, counters -/
theorem g_put_tok {b : Nat → Nat} {n i kd : Nat} {v : Int32} {g : GST} : g_put i v (g_tok b n kd g) = g_tok b n kd (g_put i v g) := by
  match g with
  | .inl e => rfl
  | .inr (p, ls, A, nc, wn) =>
    show g_put i v (if tk b n p = kd then _ else _) = if tk b n p = kd then _ else _
    split <;> rfl
section RSN
variable {μ μ' : Mem} {m n p ls : Nat} {b : Nat → Nat} {A : SA} {nc : Nat → Nat} {wn : Nat → Nat → List Nat}
theorem g_opt_1 : (g_opt b n (.inr (p, ls, A, nc, wn))).1 = trw b n p := by
  show (if tk b n p = 4 then (0, .inl (1, ts b n p)) else if trw b n p = 0 ∧ ¬ tk b n p = 3 then (0, .inl (2, ts b n p)) else (trw b n p, (.inr (te b n p, ts b n p, A, nc, wn) : GST))).1 = _
  split
  · unfold trw; rw [if_neg (by omega)]
  · split
    · rename_i h; exact h.1.symm
    · rfl
theorem g_opt_w (h : ¬ trw b n p = 0) : g_opt b n (.inr (p, ls, A, nc, wn)) = (trw b n p, .inr (te b n p, ts b n p, A, nc, wn)) := by
  show (if tk b n p = 4 then (0, .inl (1, ts b n p)) else if trw b n p = 0 ∧ ¬ tk b n p = 3 then (0, .inl (2, ts b n p)) else (trw b n p, (.inr (te b n p, ts b n p, A, nc, wn) : GST))) = _
  have h1 : tk b n p = 1 := by
    by_cases h1 : tk b n p = 1
    · exact h1
    · unfold trw at h; rw [if_neg h1] at h; exact absurd rfl h
  rw [if_neg (by omega), if_neg (fun q => h q.1)]
theorem g_rest : (if (g_opt b n (.inr (p, ls, A, nc, wn))).1 = 0 then (g_opt b n (.inr (p, ls, A, nc, wn))).2 else g_fail 2 (g_opt b n (.inr (p, ls, A, nc, wn))).2) = g_tok b n 3 (.inr (p, ls, A, nc, wn)) := by
  rw [g_opt_1]
  show _ = if tk b n p = 3 then (.inr (te b n p, ts b n p, A, nc, wn) : GST) else .inl (ek (tk b n p), ts b n p)
  by_cases h : trw b n p = 0
  · rw [if_pos h]
    show (if tk b n p = 4 then (0, .inl (1, ts b n p)) else if trw b n p = 0 ∧ ¬ tk b n p = 3 then (0, .inl (2, ts b n p)) else (trw b n p, (.inr (te b n p, ts b n p, A, nc, wn) : GST))).2 = _
    by_cases h4 : tk b n p = 4
    · rw [if_pos h4, if_neg (by omega), h4]; rfl
    · rw [if_neg h4]
      by_cases h3 : tk b n p = 3
      · rw [if_neg (fun q => q.2 h3), if_pos h3]
      · rw [if_pos ⟨h, h3⟩, if_neg h3]; unfold ek; rw [if_neg h4]
  · rw [if_neg h, g_opt_w h]
    have h1 : tk b n p = 1 := by
      by_cases h1 : tk b n p = 1
      · exact h1
      · unfold trw at h; rw [if_neg h1] at h; exact absurd rfl h
    rw [if_neg (by omega), h1]; rfl
theorem kwI_w {w q : Nat} (hw : w = 0 ∨ (2 ≤ w ∧ w < 18)) (h2 : 2 ≤ q) (h18 : q < 18) : (kwI w = nI (q - 2)) = (w = q) := by
  unfold kwI
  by_cases h0 : w = 0
  · rw [if_pos h0, m1_eq (by omega)]; exact propext ⟨False.elim, fun e => by omega⟩
  · rw [if_neg h0, propext (nI_eq (by omega) (by omega))]; exact propext ⟨fun e => by omega, fun e => by omega⟩
theorem bt_kw {w : Nat} (hw : w = 0 ∨ (2 ≤ w ∧ w < 18)) : F_X9_between ((kwI w).toInt64) (11 : Int64) (13 : Int64) μ = some (if w = 13 ∨ w = 14 ∨ w = 15 then nI 1 else nI 0) := by
  have e1 : (11 : Int64).toInt = 11 := by decide +kernel
  have e3 : (13 : Int64).toInt = 13 := by decide +kernel
  rw [x9_bt, I64_T, e1, e3]
  unfold kwI
  by_cases h0 : w = 0
  · have e2 : (-nI 1 : Int32).toInt = -1 := by decide +kernel
    rw [if_pos h0, e2, if_neg (by omega), if_neg (by omega)]
  · rw [if_neg h0, nI_toInt (by omega)]
    by_cases h : w = 13 ∨ w = 14 ∨ w = 15
    · rw [if_pos h, if_pos (by omega)]
    · rw [if_neg h, if_neg (by omega)]
theorem g_mode_o (h : trw b n p = 13 ∨ trw b n p = 14 ∨ trw b n p = 15) : g_mode b n (.inr (p, ls, A, nc, wn)) = (trw b n p - 13, .inr (te b n p, ts b n p, A, nc, wn)) := by
  have h1 : tk b n p = 1 := by
    by_cases h1 : tk b n p = 1
    · exact h1
    · unfold trw at h; rw [if_neg h1] at h; omega
  have ht : trw b n p = kwr (tw b n p) := by unfold trw; rw [if_pos h1]
  rw [ht] at h ⊢
  show (if tk b n p = 1 then (if kwr (tw b n p) = 14 then (1, .inr (te b n p, ts b n p, A, nc, wn)) else if kwr (tw b n p) = 15 then (2, .inr (te b n p, ts b n p, A, nc, wn)) else if kwr (tw b n p) = 13 then (0, .inr (te b n p, ts b n p, A, nc, wn)) else (0, .inl (2, ts b n p))) else (0, (.inl (ek (tk b n p), ts b n p) : GST))) = _
  rw [if_pos h1]
  rcases h with h | h | h
  · rw [h, if_neg (by decide), if_neg (by decide), if_pos rfl]
  · rw [h, if_pos rfl]
  · rw [h, if_neg (by decide), if_pos rfl]
theorem g_mode_e (h : ¬ (trw b n p = 13 ∨ trw b n p = 14 ∨ trw b n p = 15)) : (g_mode b n (.inr (p, ls, A, nc, wn))).2 = .inl (if tk b n p = 4 then 1 else 2, ts b n p) := by
  show (if tk b n p = 1 then (if kwr (tw b n p) = 14 then (1, .inr (te b n p, ts b n p, A, nc, wn)) else if kwr (tw b n p) = 15 then (2, .inr (te b n p, ts b n p, A, nc, wn)) else if kwr (tw b n p) = 13 then (0, .inr (te b n p, ts b n p, A, nc, wn)) else (0, .inl (2, ts b n p))) else (0, (.inl (ek (tk b n p), ts b n p) : GST))).2 = _
  by_cases h1 : tk b n p = 1
  · have ht : trw b n p = kwr (tw b n p) := by unfold trw; rw [if_pos h1]
    rw [ht] at h
    rw [if_pos h1, if_neg (fun q => h (Or.inr (Or.inl q))), if_neg (fun q => h (Or.inr (Or.inr q))), if_neg (fun q => h (Or.inl q)), if_neg (by omega)]
  · rw [if_neg h1]; rfl
theorem r9_field (h : RM μ m b n p A nc wn) (v : VA A nc) (hk1 : tk b n p = 1) : RQ μ m b n (F_X9_field m μ) (g_field b n (nt (A 0)) (.inr (te b n p, ts b n p, A, nc, wn))) := by
  obtain ⟨w, pk, hn⟩ := v
  have cc := w.c0
  have n0 : A 0 = nI (nc 0) := by rw [hn 0 (by decide)]; exact w.c0.1
  have n1 : A 1 = nI (nc 1) := by rw [hn 1 (by decide)]; exact w.c1.1
  have n2 : A 2 = nI (nc 2) := by rw [hn 2 (by decide)]; exact w.c2.1
  have q0 := h.bd
  have gA : gI μ (m + 2) 0 = nI (nt (A 0)) := (h.2.2.2.1 0 (by decide)).trans cc.1
  obtain ⟨x1, μ1, e1, f1, r1⟩ := r_begin (k := 0) (lim := 8) h (by decide) (by decide) cc.1 cc.2 hk1
  rcases r1 with ⟨rfl, lt, h1, s1⟩ | ⟨rfl, e, z, s1⟩
  rotate_left
  · refine ⟨nI 0, μ1, ?_, f1, Or.inr ⟨rfl, e, z, ?_⟩⟩
    · clear h z f1 s1 w pk hn n0 n1 n2 cc
      simp (disch := first | assumption | omega) only [q_bl, q_baT, q_bi, q_ba, q_pr, q_ob, q_iT, q_iN, q_it, q_if, q_of, nI_add, pk_mul, pk_sub, nI_leI, nI_ltI, nI_eq, nI_clamp, nI_lt0, nI_eqm, m1_eq, true_or, or_true, not_false_eq_true, m1_lt, m1_nlt, m1_le, m1_nle, b01, b011, q_em, q_m1, n_0, n_1, n_2, n_3, n_4, n_5, n_6, n_7, n_8, n_9, n_10, n_11, n_12, n_14, n_15, n_16, n_20, n_24, n_25, n_32, n_36, n_40, n_41, n_42, n_43, n_45, n_46, n_48, n_57, n_59, n_60, n_73, n_76, n_97, n_99, n_100, n_106, n_109, n_120, n_122, n_136, n_160, n_176, n_200, n_255, n_800, n_1000, n_1001, n_1002, n_1003, n_1006, n_1012, n_1018, n_1019, n_1020, n_1100, n_1140, n_4800, n_4920, n_5940, n_6740, n_20220, F_X9_field, q0, gA, e1]
    · simp only [g_field, s1, g_put_r]; rfl
  have q1 := h1.bd
  obtain ⟨x2, μ2, e2, f2, r2⟩ := r_new (t := 0) h1 (by decide) (fun u hu => by rw [hn u hu]; match u, hu with | 0, _ => exact w.c0.1 | 1, _ => exact w.c1.1 | 2, _ => exact w.c2.1 | u + 3, h => omega) (by rw [hn 0 (by decide)]; omega)
  rcases r2 with ⟨rfl, h2, s2⟩ | ⟨rfl, e, z, s2⟩
  rotate_left
  · refine ⟨nI 0, μ2, ?_, f1.trans (f2), Or.inr ⟨rfl, e, z, ?_⟩⟩
    · clear h h1 z f1 f2 s1 s2 w pk hn n0 n1 n2 cc
      simp (disch := first | assumption | omega) only [q_bl, q_baT, q_bi, q_ba, q_pr, q_ob, q_iT, q_iN, q_it, q_if, q_of, nI_add, pk_mul, pk_sub, nI_leI, nI_ltI, nI_eq, nI_clamp, nI_lt0, nI_eqm, m1_eq, true_or, or_true, not_false_eq_true, m1_lt, m1_nlt, m1_le, m1_nle, b01, b011, q_em, q_m1, n_0, n_1, n_2, n_3, n_4, n_5, n_6, n_7, n_8, n_9, n_10, n_11, n_12, n_14, n_15, n_16, n_20, n_24, n_25, n_32, n_36, n_40, n_41, n_42, n_43, n_45, n_46, n_48, n_57, n_59, n_60, n_73, n_76, n_97, n_99, n_100, n_106, n_109, n_120, n_122, n_136, n_160, n_176, n_200, n_255, n_800, n_1000, n_1001, n_1002, n_1003, n_1006, n_1012, n_1018, n_1019, n_1020, n_1100, n_1140, n_4800, n_4920, n_5940, n_6740, n_20220, F_X9_field, q0, q1, gA, e1, e2]
    · simp only [g_field, s1, s2, g_put_r]; rfl
  have q2 := h2.bd
  obtain ⟨x3, μ3, e3, f3, r3⟩ := r_num (i := 9 + 2 * nt (A 0)) (l1 := 1) (l2 := 20) h2 (by omega) (by decide) (by decide)
  rcases r3 with ⟨rfl, t3, a3, b3, h3, s3⟩ | ⟨rfl, e, z, s3⟩
  rotate_left
  · refine ⟨nI 0, μ3, ?_, f1.trans (f2.trans (f3)), Or.inr ⟨rfl, e, z, ?_⟩⟩
    · clear h h1 h2 z f1 f2 f3 s1 s2 s3 w pk hn n0 n1 n2 cc
      simp (disch := first | assumption | omega) only [q_bl, q_baT, q_bi, q_ba, q_pr, q_ob, q_iT, q_iN, q_it, q_if, q_of, nI_add, pk_mul, pk_sub, nI_leI, nI_ltI, nI_eq, nI_clamp, nI_lt0, nI_eqm, m1_eq, true_or, or_true, not_false_eq_true, m1_lt, m1_nlt, m1_le, m1_nle, b01, b011, q_em, q_m1, n_0, n_1, n_2, n_3, n_4, n_5, n_6, n_7, n_8, n_9, n_10, n_11, n_12, n_14, n_15, n_16, n_20, n_24, n_25, n_32, n_36, n_40, n_41, n_42, n_43, n_45, n_46, n_48, n_57, n_59, n_60, n_73, n_76, n_97, n_99, n_100, n_106, n_109, n_120, n_122, n_136, n_160, n_176, n_200, n_255, n_800, n_1000, n_1001, n_1002, n_1003, n_1006, n_1012, n_1018, n_1019, n_1020, n_1100, n_1140, n_4800, n_4920, n_5940, n_6740, n_20220, F_X9_field, q0, q1, q2, gA, e1, e2, e3]
    · simp only [g_field, s1, s2, s3, g_put_r]; rfl
  have q3 := h3.bd
  have gv : gI μ3 (m + 2) (9 + 2 * nt (A 0)) = nI (tv b n (te b n (te b n p))) := (h3.2.2.2.1 _ (by omega)).trans (by simp (disch := omega) only [ua_n, ua_e])
  have v3 := tv_lt t3
  obtain ⟨x4, μ4, e4, f4, r4⟩ := r_num (i := 9 + 2 * nt (A 0) + 1) (l1 := (tv b n (te b n (te b n p)))) (l2 := if 20 ≤ (tv b n (te b n (te b n p))) + 8 then 20 else (tv b n (te b n (te b n p))) + 8) h3 (by omega) (by omega) (by split <;> omega)
  have z4 : (if nI ((tv b n (te b n (te b n p))) + 8) < nI 20 then nI ((tv b n (te b n (te b n p))) + 8) else nI 20) = nI (if 20 ≤ (tv b n (te b n (te b n p))) + 8 then 20 else (tv b n (te b n (te b n p))) + 8) := by
    by_cases hx : 20 ≤ (tv b n (te b n (te b n p))) + 8
    · rw [if_pos hx, if_neg (by rw [nI_ltI (by omega) (by decide)]; omega)]
    · rw [if_neg hx, if_pos (by rw [nI_ltI (by omega) (by decide)]; omega)]
  rcases r4 with ⟨rfl, t4, a4, b4, h4, s4⟩ | ⟨rfl, e, z, s4⟩
  rotate_left
  · refine ⟨nI 0, μ4, ?_, f1.trans (f2.trans (f3.trans (f4))), Or.inr ⟨rfl, e, z, ?_⟩⟩
    · clear h h1 h2 h3 z f1 f2 f3 f4 s1 s2 s3 s4 w pk hn n0 n1 n2 cc
      simp (disch := first | assumption | omega) only [q_bl, q_baT, q_bi, q_ba, q_pr, q_ob, q_iT, q_iN, q_it, q_if, q_of, nI_add, pk_mul, pk_sub, nI_leI, nI_eq, nI_clamp, nI_lt0, nI_eqm, m1_eq, true_or, or_true, not_false_eq_true, m1_lt, m1_nlt, m1_le, m1_nle, b01, b011, q_em, q_m1, n_0, n_1, n_2, n_3, n_4, n_5, n_6, n_7, n_8, n_9, n_10, n_11, n_12, n_14, n_15, n_16, n_20, n_24, n_25, n_32, n_36, n_40, n_41, n_42, n_43, n_45, n_46, n_48, n_57, n_59, n_60, n_73, n_76, n_97, n_99, n_100, n_106, n_109, n_120, n_122, n_136, n_160, n_176, n_200, n_255, n_800, n_1000, n_1001, n_1002, n_1003, n_1006, n_1012, n_1018, n_1019, n_1020, n_1100, n_1140, n_4800, n_4920, n_5940, n_6740, n_20220, F_X9_field, q0, q1, q2, q3, gA, e1, e2, e3, e4, gv, z4]
    · simp only [g_field, s1, s2, s3, s4, g_put_r]; rfl
  have q4 := h4.bd
  obtain ⟨μ5, e5, f5, h5⟩ := r_done (k := 0) (c := nt (A 0)) h4 (by decide) (by simp (disch := omega) only [ua_n, ua_e]; exact cc.1)
  obtain ⟨A', hA'⟩ : ∃ A', A' = ua (ua (ua A 0 (nI (nt (A 0) + 1))) (9 + 2 * nt (A 0) + 0) (nI (tv b n (te b n (te b n p))))) (9 + 2 * nt (A 0) + 1) (nI (tv b n (te b n (te b n (te b n p))))) := ⟨_, rfl⟩
  have hk' : A' 0 = nI (nt (A 0) + 1) := by rw [hA']; simp (disch := omega) only [ua_n, ua_e]
  have hE' : ∀ i, ¬ i = 0 → ¬ (9 + 2 * nt (A 0) ≤ i ∧ i < 9 + 2 * nt (A 0) + 2) → A' i = A i := fun i i1 i2 => by rw [hA']; simp (disch := omega) only [ua_n]
  refine ⟨nI 1, μ5, ?_, f1.trans (f2.trans (f3.trans (f4.trans (f5)))), Or.inl ⟨rfl, (te b n (te b n (te b n (te b n p)))), (ts b n (te b n (te b n (te b n p)))), A', (ncu nc 0), (wnu wn 0 (nc 0) (tw b n (te b n p))), h5.ext ?_, ⟨?_, pk.eq w (hE' 7 (by omega) (by omega)) (fun i hi => hE' i (by omega) (by omega)), ?_⟩, ?_⟩⟩
  · clear h h1 h2 h3 h4 h5 f1 f2 f3 f4 f5 s1 s2 s3 s4 w pk hn n0 n1 n2 cc hA' hk' hE'
    simp (disch := first | assumption | omega) only [q_bl, q_baT, q_bi, q_ba, q_pr, q_ob, q_iT, q_iN, q_it, q_if, q_of, nI_add, pk_mul, pk_sub, nI_leI, nI_eq, nI_clamp, nI_lt0, nI_eqm, m1_eq, true_or, or_true, not_false_eq_true, m1_lt, m1_nlt, m1_le, m1_nle, b01, b011, q_em, q_m1, n_0, n_1, n_2, n_3, n_4, n_5, n_6, n_7, n_8, n_9, n_10, n_11, n_12, n_14, n_15, n_16, n_20, n_24, n_25, n_32, n_36, n_40, n_41, n_42, n_43, n_45, n_46, n_48, n_57, n_59, n_60, n_73, n_76, n_97, n_99, n_100, n_106, n_109, n_120, n_122, n_136, n_160, n_176, n_200, n_255, n_800, n_1000, n_1001, n_1002, n_1003, n_1006, n_1012, n_1018, n_1019, n_1020, n_1100, n_1140, n_4800, n_4920, n_5940, n_6740, n_20220, F_X9_field, q0, q1, q2, q3, q4, gA, e1, e2, e3, e4, e5, gv, z4]
  · rw [hA']; intro i hi6; simp only [ua]; repeat' split
    all_goals first | rfl | omega
  · exact wb_field w lt hk' hE' (show A' (9 + 2 * nt (A 0)) = nI (tv b n (te b n (te b n p))) from by rw [hA']; simp (disch := omega) only [ua_n, ua_e]) (show A' (9 + 2 * nt (A 0) + 1) = nI (tv b n (te b n (te b n (te b n p)))) from by rw [hA']; simp (disch := omega) only [ua_n, ua_e]) ⟨a3, b3⟩ ⟨a4, by split at b4 <;> omega⟩
  · intro t ht
    by_cases htk : t = 0
    · subst htk; rw [ncu_s, hk', nt_nI (by omega), hn 0 (by decide)]
    · rw [ncu_n htk, hn t ht, hE' t htk (by omega)]
  · rw [hA']; simp only [g_field, s1, s2, s3, s4, g_put_r, tb0e, g_put_tok]
theorem ua_id {A : SA} {i : Nat} {v : Int32} (h : A i = v) : ua A i v = A := by
  funext j
  unfold ua
  by_cases hj : j = i
  · rw [if_pos hj, hj, h]
  · rw [if_neg hj]
theorem ua_ua {A : SA} {i : Nat} {v w : Int32} : ua (ua A i v) i w = ua A i w := by
  funext j
  unfold ua
  by_cases hj : j = i
  · rw [if_pos hj, if_pos hj]
  · rw [if_neg hj, if_neg hj, if_neg hj]
/-- the ends of the selector's and the counter's statements -/
def B_selT (r0 : Nat) (x4 : Int32) (μ20 : Mem) : Option (Int32 × Mem) :=
  ba (gK μ20 r0 = 8) <|
  if (gI μ20 r0 14) = (10 : Int32) then (
    B_X9_selector_77 r0 (1 : Int32) (x4 + (2 : Int32)) (gR μ20 r0 1) μ20
    )
  else
    B_X9_selector_77 r0 (0 : Int32) (x4 + (2 : Int32)) (gR μ20 r0 1) μ20
def B_selP (r0 : Nat) (μ : Mem) : Option (Int32 × Mem) :=
  ba (gK μ r0 = 8) <|
  ba (gK μ (gR μ r0 1) = 101) <|
  ba (inb (1 : Int32) (gL μ (gR μ r0 1))) <|
  bl ((25 : Int32) + ((3 : Int32) * (gI μ (gR μ r0 1) (1 : Int32).toNatClampNeg))) fun x4 =>
  Option.bind (F_X9_begin r0 (1 : Int32) (6 : Int32) μ) <| pr fun x7 μ5 =>
  if x7 = 0 then (
    some ((0 : Int32), μ5)
    )
  else
    ba (gK μ5 r0 = 8) <|
    Option.bind (F_X9_newName r0 (1 : Int32) μ5) <| pr fun x12 μ10 =>
    if x12 = 0 then (
      some ((0 : Int32), μ10)
      )
    else
      ba (gK μ10 r0 = 8) <|
      Option.bind (F_X9_numberTo r0 x4 (1 : Int32) (20 : Int32) μ10) <| pr fun x17 μ15 =>
      if x17 = 0 then (
        some ((0 : Int32), μ15)
        )
      else
        ba (gK μ15 r0 = 8) <|
        Option.bind (F_X9_numberTo r0 (x4 + (1 : Int32)) (0 : Int32) (10 : Int32) μ15) <| pr fun x22 μ20 =>
        if x22 = 0 then (
          some ((0 : Int32), μ20)
          )
        else B_selT r0 x4 μ20
theorem selP_eq {r0 : Nat} : F_X9_selector r0 μ = B_selP r0 μ := rfl
def B_ctrT (r0 : Nat) (x4 : Int32) (μ20 : Mem) : Option (Int32 × Mem) :=
  ba (gK μ20 r0 = 8) <|
  Option.bind (F_X9_between ((gI μ20 r0 14).toInt64) (11 : Int64) (13 : Int64) μ20) <| fun x25 =>
  if x25 = 0 then (
    Option.bind (F_X9_fail r0 (2 : Int32) μ20) <| pr fun x63 μ61 =>
    ba (x63 = 0 ∨ x63 = 1) <|
    some (x63, μ61)
    )
  else
    ba (gK μ20 (gR μ20 r0 1) = 101) <|
    ba (inb (x4 + (2 : Int32)) (gL μ20 (gR μ20 r0 1))) <|
    bl (stI μ20 (gR μ20 r0 1) (x4 + (2 : Int32)).toNatClampNeg ((gI μ20 r0 14) - (11 : Int32))) fun μ30 =>
    ba (gK μ30 r0 = 8) <|
    Option.bind (F_X9_advance r0 μ30) <| pr fun x34 μ32 =>
    ba (gK μ32 r0 = 8) <|
    ba (gK μ32 (gR μ32 r0 1) = 101) <|
    ba (inb (x4 + (3 : Int32)) (gL μ32 (gR μ32 r0 1))) <|
    bl (stI μ32 (gR μ32 r0 1) (x4 + (3 : Int32)).toNatClampNeg (-1 : Int32)) fun μ38 =>
    ba (gK μ38 r0 = 8) <|
    if (gI μ38 r0 14) = (14 : Int32) then (
      B_X9_counter_126 r0 x4 μ38
      )
    else
      if (gI μ38 r0 14) = (15 : Int32) then (
        B_X9_counter_126 r0 x4 μ38
        )
      else
        B_X9_counter_166 r0 μ38
def B_ctrP (r0 : Nat) (μ : Mem) : Option (Int32 × Mem) :=
  ba (gK μ r0 = 8) <|
  ba (gK μ (gR μ r0 1) = 101) <|
  ba (inb (2 : Int32) (gL μ (gR μ r0 1))) <|
  bl ((43 : Int32) + ((5 : Int32) * (gI μ (gR μ r0 1) (2 : Int32).toNatClampNeg))) fun x4 =>
  Option.bind (F_X9_begin r0 (2 : Int32) (6 : Int32) μ) <| pr fun x7 μ5 =>
  if x7 = 0 then (
    some ((0 : Int32), μ5)
    )
  else
    ba (gK μ5 r0 = 8) <|
    Option.bind (F_X9_newName r0 (2 : Int32) μ5) <| pr fun x12 μ10 =>
    if x12 = 0 then (
      some ((0 : Int32), μ10)
      )
    else
      ba (gK μ10 r0 = 8) <|
      Option.bind (F_X9_numberTo r0 (x4 + (0 : Int32)) (1 : Int32) (9 : Int32) μ10) <| pr fun x17 μ15 =>
      if x17 = 0 then (
        some ((0 : Int32), μ15)
        )
      else
        ba (gK μ15 r0 = 8) <|
        Option.bind (F_X9_oldNameTo r0 (x4 + (1 : Int32)) (0 : Int32) μ15) <| pr fun x22 μ20 =>
        if x22 = 0 then (
          some ((0 : Int32), μ20)
          )
        else B_ctrT r0 x4 μ20
theorem ctrP_eq {r0 : Nat} : F_X9_counter r0 μ = B_ctrP r0 μ := rfl
def g_selT (b : Nat → Nat) (n c : Nat) (g : GST) : GST :=
  if (g_opt b n g).1 = 12 then g_tok b n 3 (g_put (tb 1 + tS 1 * c + 2) (nI 1) (g_opt b n g).2) else if (g_opt b n g).1 = 0 then (g_opt b n g).2 else g_fail 2 (g_opt b n g).2
def g_ctrU (b : Nat → Nat) (n c : Nat) (g : GST) : GST :=
  if (g_opt b n g).1 = 16 ∨ (g_opt b n g).1 = 17 then g_tok b n 3 (g_put (tb 2 + tS 2 * c + 4) (nI (if (g_opt b n g).1 = 17 then 1 else 0)) (g_put (tb 2 + tS 2 * c + 3) (nI (g_name b n 1 (g_opt b n g).2).1) (g_name b n 1 (g_opt b n g).2).2)) else if (g_opt b n g).1 = 0 then (g_opt b n g).2 else g_fail 2 (g_opt b n g).2
def g_ctrT (b : Nat → Nat) (n c : Nat) (g : GST) : GST :=
  g_ctrU b n c (g_put (tb 2 + tS 2 * c + 3) (-nI 1) (g_put (tb 2 + tS 2 * c + 2) (nI (g_mode b n g).1) (g_mode b n g).2))
theorem r9_selT {c : Nat} (h : RM μ m b n p A nc wn) (hc : c < 6) (hA : A 1 = nI c) : ∃ μ', B_selT m (nI (25 + 3 * c)) μ = some (nI 1, μ') ∧ RFr m μ μ' ∧ ∃ p' y, y ≤ 1 ∧ RM μ' m b n p' (ua (ua A (25 + 3 * c + 2) (nI y)) 1 (nI (c + 1))) nc wn ∧
    ∀ ls A', A' (25 + 3 * c + 2) = nI 0 → ∃ ls', g_selT b n c (.inr (p, ls, A', nc, wn)) = g_tok b n 3 (.inr (p', ls', ua A' (25 + 3 * c + 2) (nI y), nc, wn)) := by
  have g14 : gI μ m 14 = kwI (trw b n p) := h.2.1.2.2.2.1
  have tr := trw_r (b := b) (n := n) (p := p)
  have kw := kwI_w (q := 12) tr (by decide) (by decide)
  have q0 := h.bd
  by_cases h12 : trw b n p = 12
  · have g14a : gI μ m 14 = nI 10 := by rw [g14]; exact kw.mpr h12
    have g14b : gI (stI μ (m + 2) (25 + 3 * c + 2) (nI 1)) m 14 = nI 10 := by rw [q_iI, q_ua (by omega)]; exact g14a
    obtain ⟨h5, f5⟩ := h.put (i := 25 + 3 * c + 2) (v := nI 1)
    have q5 := h5.bd
    obtain ⟨μ6, e6, h6, f6, g6⟩ := h5.adv
    have q6 := h6.bd
    obtain ⟨μ7, e7, f7, h7⟩ := r_done (k := 1) (c := c) h6 (by decide) (by rw [ua_n (by omega)]; exact hA)
    refine ⟨μ7, ?_, f5.trans (f6.trans f7), te b n p, 1, by decide, h7, fun ls A' hz => ⟨ts b n p, ?_⟩⟩
    · clear h h5 h6 h7 f5 f6 f7 g6 tr kw g14
      simp (disch := first | assumption | omega) only [q_bl, q_baT, q_bi, q_ba, q_pr, q_ob, q_iT, q_iN, q_it, q_if, q_of, nI_add, pk_mul, pk_sub, nI_leI, nI_ltI, nI_eq, nI_clamp, nI_lt0, nI_eqm, m1_eq, true_or, or_true, not_false_eq_true, m1_lt, m1_nlt, m1_le, m1_nle, b01, b011, q_em, q_m1, n_0, n_1, n_2, n_3, n_4, n_5, n_6, n_7, n_8, n_9, n_10, n_11, n_12, n_14, n_15, n_16, n_20, n_24, n_25, n_32, n_36, n_40, n_41, n_42, n_43, n_45, n_46, n_48, n_57, n_59, n_60, n_73, n_76, n_97, n_99, n_100, n_106, n_109, n_120, n_122, n_136, n_160, n_176, n_200, n_255, n_800, n_1000, n_1001, n_1002, n_1003, n_1006, n_1012, n_1018, n_1019, n_1020, n_1100, n_1140, n_4800, n_4920, n_5940, n_6740, n_20220, B_selT, B_X9_selector_77, B_X9_selector_92, q0, g14a, g14b, q5, e6, q6, e7]
    · unfold g_selT
      rw [g_opt_w (by omega), h12, if_pos rfl, g_put_r]
      rfl
  · have g14a : ¬ gI μ m 14 = nI 10 := by rw [g14]; exact fun q => h12 (kw.mp q)
    have g14b : ¬ gI (stI μ (m + 2) (25 + 3 * c + 2) (nI 0)) m 14 = nI 10 := by rw [q_iI, q_ua (by omega)]; exact g14a
    obtain ⟨h5, f5⟩ := h.put (i := 25 + 3 * c + 2) (v := nI 0)
    have q5 := h5.bd
    obtain ⟨μ7, e7, f7, h7⟩ := r_done (k := 1) (c := c) h5 (by decide) (by rw [ua_n (by omega)]; exact hA)
    refine ⟨μ7, ?_, f5.trans f7, p, 0, by decide, h7, fun ls A' hz => ⟨ls, ?_⟩⟩
    · clear h h5 h7 f5 f7 tr kw g14
      simp (disch := first | assumption | omega) only [q_bl, q_baT, q_bi, q_ba, q_pr, q_ob, q_iT, q_iN, q_it, q_if, q_of, nI_add, pk_mul, pk_sub, nI_leI, nI_ltI, nI_eq, nI_clamp, nI_lt0, nI_eqm, m1_eq, true_or, or_true, not_false_eq_true, m1_lt, m1_nlt, m1_le, m1_nle, b01, b011, q_em, q_m1, n_0, n_1, n_2, n_3, n_4, n_5, n_6, n_7, n_8, n_9, n_10, n_11, n_12, n_14, n_15, n_16, n_20, n_24, n_25, n_32, n_36, n_40, n_41, n_42, n_43, n_45, n_46, n_48, n_57, n_59, n_60, n_73, n_76, n_97, n_99, n_100, n_106, n_109, n_120, n_122, n_136, n_160, n_176, n_200, n_255, n_800, n_1000, n_1001, n_1002, n_1003, n_1006, n_1012, n_1018, n_1019, n_1020, n_1100, n_1140, n_4800, n_4920, n_5940, n_6740, n_20220, B_selT, B_X9_selector_77, B_X9_selector_92, q0, g14a, g14b, q5, e7]
    · unfold g_selT
      rw [ua_id hz, g_opt_1, if_neg h12, ← g_opt_1 (b := b) (n := n) (p := p) (ls := ls) (A := A') (nc := nc) (wn := wn)]
      exact g_rest
theorem r9_ctrT {c : Nat} (h : RM μ m b n p A nc wn) (hc : c < 6) (hA : A 2 = nI c) (h1 : A 1 = nI (nc 1)) (hz0 : A (43 + 5 * c + 4) = nI 0) : ∃ x μ', B_ctrT m (nI (43 + 5 * c)) μ = some (x, μ') ∧ RFr m μ μ' ∧
    ((x = nI 1 ∧ ∃ p' u v y, u ≤ 2 ∧ (v = -nI 1 ∨ ∃ r, v = nI r ∧ r < nc 1) ∧ y ≤ 1 ∧ RM μ' m b n p' (ua (ua (ua (ua A (43 + 5 * c + 2) (nI u)) (43 + 5 * c + 3) v) (43 + 5 * c + 4) (nI y)) 2 (nI (c + 1))) nc wn ∧
      ∀ ls A', A' (43 + 5 * c + 4) = nI 0 → ∃ ls', g_ctrT b n c (.inr (p, ls, A', nc, wn)) = g_tok b n 3 (.inr (p', ls', ua (ua (ua A' (43 + 5 * c + 2) (nI u)) (43 + 5 * c + 3) v) (43 + 5 * c + 4) (nI y), nc, wn))) ∨
     (x = nI 0 ∧ ∃ e, RE μ' m e ∧ ∀ ls A', g_ctrT b n c (.inr (p, ls, A', nc, wn)) = .inl e)) := by
  have g14 : gI μ m 14 = kwI (trw b n p) := h.2.1.2.2.2.1
  have tr := trw_r (b := b) (n := n) (p := p)
  have q0 := h.bd
  have bk := bt_kw (μ := μ) tr
  by_cases hm : trw b n p = 13 ∨ trw b n p = 14 ∨ trw b n p = 15
  rotate_left
  · rw [if_neg hm, ← g14] at bk
    obtain ⟨μ5, e5, f5, z⟩ := h.fail (k := 2) (by decide) (by decide)
    refine ⟨nI 0, μ5, ?_, f5, Or.inr ⟨rfl, _, z, fun ls A' => ?_⟩⟩
    · clear h z f5 tr g14 hm
      simp (disch := first | assumption | omega) only [q_bl, q_baT, q_bi, q_ba, q_pr, q_ob, q_iT, q_iN, q_it, q_if, q_of, nI_add, pk_mul, pk_sub, nI_leI, nI_ltI, nI_eq, nI_clamp, nI_lt0, nI_eqm, m1_eq, true_or, or_true, not_false_eq_true, m1_lt, m1_nlt, m1_le, m1_nle, b01, b011, q_em, q_m1, n_0, n_1, n_2, n_3, n_4, n_5, n_6, n_7, n_8, n_9, n_10, n_11, n_12, n_14, n_15, n_16, n_20, n_24, n_25, n_32, n_36, n_40, n_41, n_42, n_43, n_45, n_46, n_48, n_57, n_59, n_60, n_73, n_76, n_97, n_99, n_100, n_106, n_109, n_120, n_122, n_136, n_160, n_176, n_200, n_255, n_800, n_1000, n_1001, n_1002, n_1003, n_1006, n_1012, n_1018, n_1019, n_1020, n_1100, n_1140, n_4800, n_4920, n_5940, n_6740, n_20220, B_ctrT, q0, bk, e5]
    · unfold g_ctrT
      rw [g_mode_e hm]; rfl
  rw [if_pos hm, ← g14] at bk
  have gm : gI μ m 14 - nI 11 = nI (trw b n p - 13) := by rw [g14]; unfold kwI; rw [if_neg (by omega), pk_sub (by omega)]; congr 1
  have go : ∀ ls A', g_mode b n (.inr (p, ls, A', nc, wn)) = (trw b n p - 13, .inr (te b n p, ts b n p, A', nc, wn)) := fun ls A' => g_mode_o hm
  generalize hu : trw b n p - 13 = u at *
  obtain ⟨h5, f5⟩ := h.put (i := 43 + 5 * c + 2) (v := nI u)
  have q5 := h5.bd
  obtain ⟨μ6, e6, h6, f6, g6⟩ := h5.adv
  have q6 := h6.bd
  obtain ⟨h7, f7⟩ := h6.put (i := 43 + 5 * c + 3) (v := -nI 1)
  have q7 := h7.bd
  have g14b : gI (stI μ6 (m + 2) (43 + 5 * c + 3) (-nI 1)) m 14 = kwI (trw b n (te b n p)) := by rw [q_iI, q_ua (by omega)]; exact h6.2.1.2.2.2.1
  have tr2 := trw_r (b := b) (n := n) (p := te b n p)
  have k16 := kwI_w (q := 16) tr2 (by decide) (by decide)
  have k17 := kwI_w (q := 17) tr2 (by decide) (by decide)
  have hU : ∃ x μ', (if (gI (stI μ6 (m + 2) (43 + 5 * c + 3) (-nI 1)) m 14) = (14 : Int32) then B_X9_counter_126 m (nI (43 + 5 * c)) (stI μ6 (m + 2) (43 + 5 * c + 3) (-nI 1)) else if (gI (stI μ6 (m + 2) (43 + 5 * c + 3) (-nI 1)) m 14) = (15 : Int32) then B_X9_counter_126 m (nI (43 + 5 * c)) (stI μ6 (m + 2) (43 + 5 * c + 3) (-nI 1)) else B_X9_counter_166 m (stI μ6 (m + 2) (43 + 5 * c + 3) (-nI 1))) = some (x, μ') ∧ RFr m (stI μ6 (m + 2) (43 + 5 * c + 3) (-nI 1)) μ' ∧
      ((x = nI 1 ∧ ∃ p' v y, (v = -nI 1 ∨ ∃ r, v = nI r ∧ r < nc 1) ∧ y ≤ 1 ∧ RM μ' m b n p' (ua (ua (ua (ua A (43 + 5 * c + 2) (nI u)) (43 + 5 * c + 3) v) (43 + 5 * c + 4) (nI y)) 2 (nI (c + 1))) nc wn ∧
        ∀ ls A', A' (43 + 5 * c + 4) = nI 0 → ∃ ls', g_ctrU b n c (.inr (te b n p, ls, ua A' (43 + 5 * c + 3) (-nI 1), nc, wn)) = g_tok b n 3 (.inr (p', ls', ua (ua A' (43 + 5 * c + 3) v) (43 + 5 * c + 4) (nI y), nc, wn))) ∨
       (x = nI 0 ∧ ∃ e, RE μ' m e ∧ ∀ ls A', g_ctrU b n c (.inr (te b n p, ls, A', nc, wn)) = .inl e)) := by
    clear e6 f5 f6 f7 g6 h5 h6 bk gm go hm tr q5 q6 g14 h q0
    generalize stI μ6 (m + 2) (43 + 5 * c + 3) (-nI 1) = μ8 at *
    have k0 := h7.k0
    by_cases h12 : trw b n (te b n p) = 16 ∨ trw b n (te b n p) = 17
    · obtain ⟨y, hy⟩ : ∃ y, y = if trw b n (te b n p) = 17 then (1 : Nat) else 0 := ⟨_, rfl⟩
      have gv : y ≤ 1 := by rw [hy]; split <;> omega
      obtain ⟨h9, f9⟩ := h7.put (i := 43 + 5 * c + 4) (v := nI y)
      have q9 := h9.bd
      obtain ⟨μ10, e10, h10, f10, g10⟩ := h9.adv
      have q10 := h10.bd
      obtain ⟨x11, μ11, e11, f11, r11⟩ := r_name (i := 43 + 5 * c + 3) (t := 1) h10 (by omega) (by decide) (by rw [ua_n (by omega), ua_n (by omega), ua_n (by omega)]; exact h1)
      have gp : ∀ ls A', g_opt b n (.inr (te b n p, ls, A', nc, wn)) = (trw b n (te b n p), .inr (te b n (te b n p), ts b n (te b n p), A', nc, wn)) := fun ls A' => g_opt_w (by omega)
      have hF : ∀ Y, F_X9_oldNameTo m (nI (43 + 5 * c + 3)) (nI 1) μ10 = some Y → (if (gI μ8 m 14) = (14 : Int32) then B_X9_counter_126 m (nI (43 + 5 * c)) μ8 else if (gI μ8 m 14) = (15 : Int32) then B_X9_counter_126 m (nI (43 + 5 * c)) μ8 else B_X9_counter_166 m μ8) = (if Y.1 = 0 then some ((0 : Int32), Y.2) else B_X9_counter_166 m Y.2) := by
        intro Y eY
        obtain ⟨Y1, Y2⟩ := Y
        clear r11 h7 h9 h10 f9 f10 f11 g10 gp tr2 e11
        have z1 : ¬ (16 : Nat) = 17 := by decide
        rcases h12 with h12 | h12
        · have g14c : gI μ8 m 14 = nI 14 := by rw [g14b]; exact k16.mpr h12
          rw [h12, if_neg z1] at hy
          subst hy
          clear k16 k17 g14b
          simp (disch := first | assumption | omega) only [q_bl, q_baT, q_bi, q_ba, q_pr, q_ob, q_iT, q_iN, q_it, q_if, q_of, nI_add, pk_mul, pk_sub, nI_leI, nI_ltI, nI_eq, nI_clamp, nI_lt0, nI_eqm, m1_eq, true_or, or_true, not_false_eq_true, m1_lt, m1_nlt, m1_le, m1_nle, b01, b011, q_em, q_m1, n_0, n_1, n_2, n_3, n_4, n_5, n_6, n_7, n_8, n_9, n_10, n_11, n_12, n_14, n_15, n_16, n_20, n_24, n_25, n_32, n_36, n_40, n_41, n_42, n_43, n_45, n_46, n_48, n_57, n_59, n_60, n_73, n_76, n_97, n_99, n_100, n_106, n_109, n_120, n_122, n_136, n_160, n_176, n_200, n_255, n_800, n_1000, n_1001, n_1002, n_1003, n_1006, n_1012, n_1018, n_1019, n_1020, n_1100, n_1140, n_4800, n_4920, n_5940, n_6740, n_20220, B_X9_counter_126, B_X9_counter_147, k0, q7, g14c, q9, e10, q10, eY]
        · have g14c : gI μ8 m 14 = nI 15 := by rw [g14b]; exact k17.mpr h12
          rw [if_pos h12] at hy
          subst hy
          clear k16 k17 g14b
          simp (disch := first | assumption | omega) only [q_bl, q_baT, q_bi, q_ba, q_pr, q_ob, q_iT, q_iN, q_it, q_if, q_of, nI_add, pk_mul, pk_sub, nI_leI, nI_ltI, nI_eq, nI_clamp, nI_lt0, nI_eqm, m1_eq, true_or, or_true, not_false_eq_true, m1_lt, m1_nlt, m1_le, m1_nle, b01, b011, q_em, q_m1, n_0, n_1, n_2, n_3, n_4, n_5, n_6, n_7, n_8, n_9, n_10, n_11, n_12, n_14, n_15, n_16, n_20, n_24, n_25, n_32, n_36, n_40, n_41, n_42, n_43, n_45, n_46, n_48, n_57, n_59, n_60, n_73, n_76, n_97, n_99, n_100, n_106, n_109, n_120, n_122, n_136, n_160, n_176, n_200, n_255, n_800, n_1000, n_1001, n_1002, n_1003, n_1006, n_1012, n_1018, n_1019, n_1020, n_1100, n_1140, n_4800, n_4920, n_5940, n_6740, n_20220, B_X9_counter_126, B_X9_counter_147, k0, q7, g14c, q9, e10, q10, eY]
      have eF := hF _ e11
      rcases r11 with ⟨rfl, o11, b11, h11, s11⟩ | ⟨rfl, e, z, s11⟩
      · have q11 := h11.bd
        obtain ⟨μ12, e12, f12, h12b⟩ := r_done (k := 2) (c := c) h11 (by decide) (by rw [ua_n (by omega), ua_n (by omega), ua_n (by omega), ua_n (by omega)]; exact hA)
        refine ⟨nI 1, μ12, ?_, f9.trans (f10.trans (f11.trans f12)), Or.inl ⟨rfl, te b n (te b n (te b n p)), nI o11, y, Or.inr ⟨o11, rfl, b11⟩, gv, h12b.ext ?_, fun ls A' hz => ⟨ts b n (te b n (te b n p)), ?_⟩⟩⟩
        · rw [eF]
          clear hF eF h7 h9 h10 h11 h12b f9 f10 f11 f12 g10 s11 gp tr2 k16 k17 g14b h12 e10 e11 q7 q9 q10
          have h10 : ¬ nI 1 = nI 0 := by decide +kernel
          simp (disch := first | assumption | omega) only [q_bl, q_baT, q_bi, q_ba, q_pr, q_ob, q_iT, q_iN, q_it, q_if, q_of, nI_add, pk_mul, pk_sub, nI_leI, nI_ltI, nI_eq, nI_clamp, nI_lt0, nI_eqm, m1_eq, true_or, or_true, not_false_eq_true, m1_lt, m1_nlt, m1_le, m1_nle, b01, b011, q_em, q_m1, n_0, n_1, n_2, n_3, n_4, n_5, n_6, n_7, n_8, n_9, n_10, n_11, n_12, n_14, n_15, n_16, n_20, n_24, n_25, n_32, n_36, n_40, n_41, n_42, n_43, n_45, n_46, n_48, n_57, n_59, n_60, n_73, n_76, n_97, n_99, n_100, n_106, n_109, n_120, n_122, n_136, n_160, n_176, n_200, n_255, n_800, n_1000, n_1001, n_1002, n_1003, n_1006, n_1012, n_1018, n_1019, n_1020, n_1100, n_1140, n_4800, n_4920, n_5940, n_6740, n_20220, B_X9_counter_166, q11, e12]
        · intro i _; simp only [ua]; repeat' split
          all_goals first | rfl | omega
        · unfold g_ctrU
          rw [gp, if_pos h12, s11, g_put_r, g_put_r, ← hy]
          show g_tok b n 3 (.inr (_, _, ua (ua (ua A' (43 + 5 * c + 3) (-nI 1)) (43 + 5 * c + 3) (nI o11)) (43 + 5 * c + 4) (nI y), _, _)) = _
          rw [ua_ua]
      · refine ⟨nI 0, μ11, ?_, f9.trans (f10.trans f11), Or.inr ⟨rfl, e, z, fun ls A' => ?_⟩⟩
        · rw [eF]; rfl
        · unfold g_ctrU
          rw [gp, if_pos h12, s11]; rfl
    · have g14c : ¬ gI μ8 m 14 = nI 14 := by rw [g14b]; exact fun q => h12 (Or.inl (k16.mp q))
      have g14d : ¬ gI μ8 m 14 = nI 15 := by rw [g14b]; exact fun q => h12 (Or.inr (k17.mp q))
      obtain ⟨μ9, e9, f9, h9⟩ := r_done (k := 2) (c := c) h7 (by decide) (by rw [ua_n (by omega), ua_n (by omega)]; exact hA)
      refine ⟨nI 1, μ9, ?_, f9, Or.inl ⟨rfl, te b n p, -nI 1, 0, Or.inl rfl, by decide, h9.ext ?_, fun ls A' hz => ⟨ls, ?_⟩⟩⟩
      · clear h7 h9 f9 tr2 k16 k17 g14b h12
        simp (disch := first | assumption | omega) only [q_bl, q_baT, q_bi, q_ba, q_pr, q_ob, q_iT, q_iN, q_it, q_if, q_of, nI_add, pk_mul, pk_sub, nI_leI, nI_ltI, nI_eq, nI_clamp, nI_lt0, nI_eqm, m1_eq, true_or, or_true, not_false_eq_true, m1_lt, m1_nlt, m1_le, m1_nle, b01, b011, q_em, q_m1, n_0, n_1, n_2, n_3, n_4, n_5, n_6, n_7, n_8, n_9, n_10, n_11, n_12, n_14, n_15, n_16, n_20, n_24, n_25, n_32, n_36, n_40, n_41, n_42, n_43, n_45, n_46, n_48, n_57, n_59, n_60, n_73, n_76, n_97, n_99, n_100, n_106, n_109, n_120, n_122, n_136, n_160, n_176, n_200, n_255, n_800, n_1000, n_1001, n_1002, n_1003, n_1006, n_1012, n_1018, n_1019, n_1020, n_1100, n_1140, n_4800, n_4920, n_5940, n_6740, n_20220, B_X9_counter_166, k0, g14c, g14d, e9]
      · intro i _; simp only [ua]; repeat' split
        all_goals first | rfl | omega | (subst i; exact hz0) | (subst i; exact hz0.symm)
      · unfold g_ctrU
        rw [g_opt_1, if_neg h12, ua_id (show ua A' (43 + 5 * c + 3) (-nI 1) (43 + 5 * c + 4) = nI 0 from by rw [ua_n (by omega)]; exact hz), ← g_opt_1 (b := b) (n := n) (p := te b n p) (ls := ls) (A := ua A' (43 + 5 * c + 3) (-nI 1)) (nc := nc) (wn := wn)]
        exact g_rest
  obtain ⟨x, μ9, e9, f9, r9⟩ := hU
  refine ⟨x, μ9, ?_, f5.trans (f6.trans (f7.trans f9)), ?_⟩
  · rw [n_14, n_15] at e9
    clear h h5 h6 h7 f5 f6 f7 f9 g6 r9 tr tr2 g14 g14b k16 k17 go hm
    simp (disch := first | assumption | omega) only [q_bl, q_baT, q_bi, q_ba, q_pr, q_ob, q_iT, q_iN, q_it, q_if, q_of, nI_add, pk_mul, pk_sub, nI_leI, nI_ltI, nI_clamp, nI_lt0, nI_eqm, m1_eq, true_or, or_true, not_false_eq_true, m1_lt, m1_nlt, m1_le, m1_nle, b01, b011, q_em, q_m1, n_0, n_1, n_2, n_3, n_4, n_5, n_6, n_7, n_8, n_9, n_10, n_11, n_12, n_14, n_15, n_16, n_20, n_24, n_25, n_32, n_36, n_40, n_41, n_42, n_43, n_45, n_46, n_48, n_57, n_59, n_60, n_73, n_76, n_97, n_99, n_100, n_106, n_109, n_120, n_122, n_136, n_160, n_176, n_200, n_255, n_800, n_1000, n_1001, n_1002, n_1003, n_1006, n_1012, n_1018, n_1019, n_1020, n_1100, n_1140, n_4800, n_4920, n_5940, n_6740, n_20220, B_ctrT, q0, bk, gm, q5, e6, q6, q7]
    exact e9
  · rcases r9 with ⟨rfl, p', v, y, a1, a2, a3, a4⟩ | ⟨rfl, e, a1, a2⟩
    · refine Or.inl ⟨rfl, p', u, v, y, by omega, a1, a2, a3, fun ls A' hz => ?_⟩
      obtain ⟨ls', e'⟩ := a4 (ts b n p) (ua A' (43 + 5 * c + 2) (nI u)) (by rw [ua_n (by omega)]; exact hz)
      refine ⟨ls', ?_⟩
      rw [← e']
      unfold g_ctrT
      rw [go, g_put_r, g_put_r]; rfl
    · refine Or.inr ⟨rfl, e, a1, fun ls A' => ?_⟩
      unfold g_ctrT
      rw [go, g_put_r, g_put_r]
      exact a2 _ _
theorem r9_selector (h : RM μ m b n p A nc wn) (v : VA A nc) (hk1 : tk b n p = 1) (hz : ZB A) : RQ μ m b n (F_X9_selector m μ) (g_selector b n (nt (A 1)) (.inr (te b n p, ts b n p, A, nc, wn))) := by
  obtain ⟨w, pk, hn⟩ := v
  have cc := w.c1
  have n0 : A 0 = nI (nc 0) := by rw [hn 0 (by decide)]; exact w.c0.1
  have n1 : A 1 = nI (nc 1) := by rw [hn 1 (by decide)]; exact w.c1.1
  have n2 : A 2 = nI (nc 2) := by rw [hn 2 (by decide)]; exact w.c2.1
  have q0 := h.bd
  have gA : gI μ (m + 2) 1 = nI (nt (A 1)) := (h.2.2.2.1 1 (by decide)).trans cc.1
  obtain ⟨x1, μ1, e1, f1, r1⟩ := r_begin (k := 1) (lim := 6) h (by decide) (by decide) cc.1 cc.2 hk1
  rcases r1 with ⟨rfl, lt, h1, s1⟩ | ⟨rfl, e, z, s1⟩
  rotate_left
  · refine ⟨nI 0, μ1, ?_, f1, Or.inr ⟨rfl, e, z, ?_⟩⟩
    · clear h z f1 s1 w pk hn n0 n1 n2 cc hz
      simp (disch := first | assumption | omega) only [q_bl, q_baT, q_bi, q_ba, q_pr, q_ob, q_iT, q_iN, q_it, q_if, q_of, nI_add, pk_mul, pk_sub, nI_leI, nI_ltI, nI_eq, nI_clamp, nI_lt0, nI_eqm, m1_eq, true_or, or_true, not_false_eq_true, m1_lt, m1_nlt, m1_le, m1_nle, b01, b011, q_em, q_m1, n_0, n_1, n_2, n_3, n_4, n_5, n_6, n_7, n_8, n_9, n_10, n_11, n_12, n_14, n_15, n_16, n_20, n_24, n_25, n_32, n_36, n_40, n_41, n_42, n_43, n_45, n_46, n_48, n_57, n_59, n_60, n_73, n_76, n_97, n_99, n_100, n_106, n_109, n_120, n_122, n_136, n_160, n_176, n_200, n_255, n_800, n_1000, n_1001, n_1002, n_1003, n_1006, n_1012, n_1018, n_1019, n_1020, n_1100, n_1140, n_4800, n_4920, n_5940, n_6740, n_20220, F_X9_selector, q0, gA, e1]
    · simp only [g_selector, s1, g_put_r]; rfl
  have q1 := h1.bd
  obtain ⟨x2, μ2, e2, f2, r2⟩ := r_new (t := 1) h1 (by decide) (fun u hu => by rw [hn u hu]; match u, hu with | 0, _ => exact w.c0.1 | 1, _ => exact w.c1.1 | 2, _ => exact w.c2.1 | u + 3, h => omega) (by rw [hn 1 (by decide)]; omega)
  rcases r2 with ⟨rfl, h2, s2⟩ | ⟨rfl, e, z, s2⟩
  rotate_left
  · refine ⟨nI 0, μ2, ?_, f1.trans (f2), Or.inr ⟨rfl, e, z, ?_⟩⟩
    · clear h h1 z f1 f2 s1 s2 w pk hn n0 n1 n2 cc hz
      simp (disch := first | assumption | omega) only [q_bl, q_baT, q_bi, q_ba, q_pr, q_ob, q_iT, q_iN, q_it, q_if, q_of, nI_add, pk_mul, pk_sub, nI_leI, nI_ltI, nI_eq, nI_clamp, nI_lt0, nI_eqm, m1_eq, true_or, or_true, not_false_eq_true, m1_lt, m1_nlt, m1_le, m1_nle, b01, b011, q_em, q_m1, n_0, n_1, n_2, n_3, n_4, n_5, n_6, n_7, n_8, n_9, n_10, n_11, n_12, n_14, n_15, n_16, n_20, n_24, n_25, n_32, n_36, n_40, n_41, n_42, n_43, n_45, n_46, n_48, n_57, n_59, n_60, n_73, n_76, n_97, n_99, n_100, n_106, n_109, n_120, n_122, n_136, n_160, n_176, n_200, n_255, n_800, n_1000, n_1001, n_1002, n_1003, n_1006, n_1012, n_1018, n_1019, n_1020, n_1100, n_1140, n_4800, n_4920, n_5940, n_6740, n_20220, selP_eq, B_selP, q0, q1, gA, e1, e2]
    · simp only [g_selector, s1, s2, g_put_r]; rfl
  have q2 := h2.bd
  obtain ⟨x3, μ3, e3, f3, r3⟩ := r_num (i := 25 + 3 * nt (A 1)) (l1 := 1) (l2 := 20) h2 (by omega) (by decide) (by decide)
  rcases r3 with ⟨rfl, t3, a3, b3, h3, s3⟩ | ⟨rfl, e, z, s3⟩
  rotate_left
  · refine ⟨nI 0, μ3, ?_, f1.trans (f2.trans (f3)), Or.inr ⟨rfl, e, z, ?_⟩⟩
    · clear h h1 h2 z f1 f2 f3 s1 s2 s3 w pk hn n0 n1 n2 cc hz
      simp (disch := first | assumption | omega) only [q_bl, q_baT, q_bi, q_ba, q_pr, q_ob, q_iT, q_iN, q_it, q_if, q_of, nI_add, pk_mul, pk_sub, nI_leI, nI_ltI, nI_eq, nI_clamp, nI_lt0, nI_eqm, m1_eq, true_or, or_true, not_false_eq_true, m1_lt, m1_nlt, m1_le, m1_nle, b01, b011, q_em, q_m1, n_0, n_1, n_2, n_3, n_4, n_5, n_6, n_7, n_8, n_9, n_10, n_11, n_12, n_14, n_15, n_16, n_20, n_24, n_25, n_32, n_36, n_40, n_41, n_42, n_43, n_45, n_46, n_48, n_57, n_59, n_60, n_73, n_76, n_97, n_99, n_100, n_106, n_109, n_120, n_122, n_136, n_160, n_176, n_200, n_255, n_800, n_1000, n_1001, n_1002, n_1003, n_1006, n_1012, n_1018, n_1019, n_1020, n_1100, n_1140, n_4800, n_4920, n_5940, n_6740, n_20220, selP_eq, B_selP, q0, q1, q2, gA, e1, e2, e3]
    · simp only [g_selector, s1, s2, s3, g_put_r]; rfl
  have q3 := h3.bd
  obtain ⟨x4, μ4, e4, f4, r4⟩ := r_num (i := 25 + 3 * nt (A 1) + 1) (l1 := 0) (l2 := 10) h3 (by omega) (by decide) (by decide)
  rcases r4 with ⟨rfl, t4, a4, b4, h4, s4⟩ | ⟨rfl, e, z, s4⟩
  rotate_left
  · refine ⟨nI 0, μ4, ?_, f1.trans (f2.trans (f3.trans (f4))), Or.inr ⟨rfl, e, z, ?_⟩⟩
    · clear h h1 h2 h3 z f1 f2 f3 f4 s1 s2 s3 s4 w pk hn n0 n1 n2 cc hz
      simp (disch := first | assumption | omega) only [q_bl, q_baT, q_bi, q_ba, q_pr, q_ob, q_iT, q_iN, q_it, q_if, q_of, nI_add, pk_mul, pk_sub, nI_leI, nI_ltI, nI_eq, nI_clamp, nI_lt0, nI_eqm, m1_eq, true_or, or_true, not_false_eq_true, m1_lt, m1_nlt, m1_le, m1_nle, b01, b011, q_em, q_m1, n_0, n_1, n_2, n_3, n_4, n_5, n_6, n_7, n_8, n_9, n_10, n_11, n_12, n_14, n_15, n_16, n_20, n_24, n_25, n_32, n_36, n_40, n_41, n_42, n_43, n_45, n_46, n_48, n_57, n_59, n_60, n_73, n_76, n_97, n_99, n_100, n_106, n_109, n_120, n_122, n_136, n_160, n_176, n_200, n_255, n_800, n_1000, n_1001, n_1002, n_1003, n_1006, n_1012, n_1018, n_1019, n_1020, n_1100, n_1140, n_4800, n_4920, n_5940, n_6740, n_20220, selP_eq, B_selP, q0, q1, q2, q3, gA, e1, e2, e3, e4]
    · simp only [g_selector, s1, s2, s3, s4, g_put_r]; rfl
  have q4 := h4.bd
  have zc : A (25 + 3 * nt (A 1) + 2) = nI 0 := (hz.1 1 (by decide)).2.2 (nt (A 1)) 2 (Nat.le_refl _) lt (by decide)
  obtain ⟨μ5, e5, f5, p', y, hy, h5, s5⟩ := r9_selT (c := nt (A 1)) h4 lt (by simp (disch := omega) only [ua_n, ua_e]; exact cc.1)
  obtain ⟨ls', e'⟩ := s5 (ts b n (te b n (te b n (te b n p)))) (ua (ua (ua A 1 (nI (nt (A 1) + 1))) (25 + 3 * nt (A 1) + 0) (nI (tv b n (te b n (te b n p))))) (25 + 3 * nt (A 1) + 1) (nI (tv b n (te b n (te b n (te b n p)))))) (by simp (disch := omega) only [ua_n, ua_e]; exact zc)
  obtain ⟨A', hA'⟩ : ∃ A', A' = ua (ua (ua (ua A 1 (nI (nt (A 1) + 1))) (25 + 3 * nt (A 1) + 0) (nI (tv b n (te b n (te b n p))))) (25 + 3 * nt (A 1) + 1) (nI (tv b n (te b n (te b n (te b n p)))))) (25 + 3 * nt (A 1) + 2) (nI y) := ⟨_, rfl⟩
  have hk' : A' 1 = nI (nt (A 1) + 1) := by rw [hA']; simp (disch := omega) only [ua_n, ua_e]
  have hE' : ∀ i, ¬ i = 1 → ¬ (25 + 3 * nt (A 1) ≤ i ∧ i < 25 + 3 * nt (A 1) + 3) → A' i = A i := fun i i1 i2 => by rw [hA']; simp (disch := omega) only [ua_n]
  refine ⟨nI 1, μ5, ?_, f1.trans (f2.trans (f3.trans (f4.trans (f5)))), Or.inl ⟨rfl, p', ls', A', (ncu nc 1), (wnu wn 1 (nc 1) (tw b n (te b n p))), h5.ext ?_, ⟨?_, pk.eq w (hE' 7 (by omega) (by omega)) (fun i hi => hE' i (by omega) (by omega)), ?_⟩, ?_⟩⟩
  · clear h h1 h2 h3 h4 f1 f2 f3 f4 s1 s2 s3 s4 w pk hn n0 n1 n2 cc hz hA' hk' hE' e' h5 s5 f5 zc hy
    simp (disch := first | assumption | omega) only [q_bl, q_baT, q_bi, q_ba, q_pr, q_ob, q_iT, q_iN, q_it, q_if, q_of, nI_add, pk_mul, pk_sub, nI_leI, nI_ltI, nI_eq, nI_clamp, nI_lt0, nI_eqm, m1_eq, true_or, or_true, not_false_eq_true, m1_lt, m1_nlt, m1_le, m1_nle, b01, b011, q_em, q_m1, n_0, n_1, n_2, n_3, n_4, n_5, n_6, n_7, n_8, n_9, n_10, n_11, n_12, n_14, n_15, n_16, n_20, n_24, n_25, n_32, n_36, n_40, n_41, n_42, n_43, n_45, n_46, n_48, n_57, n_59, n_60, n_73, n_76, n_97, n_99, n_100, n_106, n_109, n_120, n_122, n_136, n_160, n_176, n_200, n_255, n_800, n_1000, n_1001, n_1002, n_1003, n_1006, n_1012, n_1018, n_1019, n_1020, n_1100, n_1140, n_4800, n_4920, n_5940, n_6740, n_20220, selP_eq, B_selP, q0, q1, q2, q3, q4, gA, e1, e2, e3, e4, e5]
  · rw [hA']; intro i hi6; simp only [ua]; repeat' split
    all_goals first | rfl | omega
  · exact wb_sel w lt hk' hE' (show A' (25 + 3 * nt (A 1)) = nI (tv b n (te b n (te b n p))) from by rw [hA']; simp (disch := omega) only [ua_n, ua_e]) (show A' (25 + 3 * nt (A 1) + 1) = nI (tv b n (te b n (te b n (te b n p)))) from by rw [hA']; simp (disch := omega) only [ua_n, ua_e]) (show A' (25 + 3 * nt (A 1) + 2) = nI y from by rw [hA']; simp (disch := omega) only [ua_n, ua_e]) ⟨a3, b3⟩ b4 hy
  · intro t ht
    by_cases htk : t = 1
    · subst htk; rw [ncu_s, hk', nt_nI (by omega), hn 1 (by decide)]
    · rw [ncu_n htk, hn t ht, hE' t htk (by omega)]
  · rw [hA', ← e']; simp only [g_selector, s1, s2, s3, s4, g_put_r, tb1e]; rfl
theorem r9_counter (h : RM μ m b n p A nc wn) (v : VA A nc) (hk1 : tk b n p = 1) (hz : ZB A) : RQ μ m b n (F_X9_counter m μ) (g_counter b n (nt (A 2)) (.inr (te b n p, ts b n p, A, nc, wn))) := by
  obtain ⟨w, pk, hn⟩ := v
  have cc := w.c2
  have n0 : A 0 = nI (nc 0) := by rw [hn 0 (by decide)]; exact w.c0.1
  have n1 : A 1 = nI (nc 1) := by rw [hn 1 (by decide)]; exact w.c1.1
  have n2 : A 2 = nI (nc 2) := by rw [hn 2 (by decide)]; exact w.c2.1
  have q0 := h.bd
  have gA : gI μ (m + 2) 2 = nI (nt (A 2)) := (h.2.2.2.1 2 (by decide)).trans cc.1
  obtain ⟨x1, μ1, e1, f1, r1⟩ := r_begin (k := 2) (lim := 6) h (by decide) (by decide) cc.1 cc.2 hk1
  rcases r1 with ⟨rfl, lt, h1, s1⟩ | ⟨rfl, e, z, s1⟩
  rotate_left
  · refine ⟨nI 0, μ1, ?_, f1, Or.inr ⟨rfl, e, z, ?_⟩⟩
    · clear h z f1 s1 w pk hn n0 n1 n2 cc hz
      simp (disch := first | assumption | omega) only [q_bl, q_baT, q_bi, q_ba, q_pr, q_ob, q_iT, q_iN, q_it, q_if, q_of, nI_add, pk_mul, pk_sub, nI_leI, nI_ltI, nI_eq, nI_clamp, nI_lt0, nI_eqm, m1_eq, true_or, or_true, not_false_eq_true, m1_lt, m1_nlt, m1_le, m1_nle, b01, b011, q_em, q_m1, n_0, n_1, n_2, n_3, n_4, n_5, n_6, n_7, n_8, n_9, n_10, n_11, n_12, n_14, n_15, n_16, n_20, n_24, n_25, n_32, n_36, n_40, n_41, n_42, n_43, n_45, n_46, n_48, n_57, n_59, n_60, n_73, n_76, n_97, n_99, n_100, n_106, n_109, n_120, n_122, n_136, n_160, n_176, n_200, n_255, n_800, n_1000, n_1001, n_1002, n_1003, n_1006, n_1012, n_1018, n_1019, n_1020, n_1100, n_1140, n_4800, n_4920, n_5940, n_6740, n_20220, F_X9_counter, q0, gA, e1]
    · simp only [g_counter, s1, g_put_r]; rfl
  have q1 := h1.bd
  obtain ⟨x2, μ2, e2, f2, r2⟩ := r_new (t := 2) h1 (by decide) (fun u hu => by rw [hn u hu]; match u, hu with | 0, _ => exact w.c0.1 | 1, _ => exact w.c1.1 | 2, _ => exact w.c2.1 | u + 3, h => omega) (by rw [hn 2 (by decide)]; omega)
  rcases r2 with ⟨rfl, h2, s2⟩ | ⟨rfl, e, z, s2⟩
  rotate_left
  · refine ⟨nI 0, μ2, ?_, f1.trans (f2), Or.inr ⟨rfl, e, z, ?_⟩⟩
    · clear h h1 z f1 f2 s1 s2 w pk hn n0 n1 n2 cc hz
      simp (disch := first | assumption | omega) only [q_bl, q_baT, q_bi, q_ba, q_pr, q_ob, q_iT, q_iN, q_it, q_if, q_of, nI_add, pk_mul, pk_sub, nI_leI, nI_ltI, nI_eq, nI_clamp, nI_lt0, nI_eqm, m1_eq, true_or, or_true, not_false_eq_true, m1_lt, m1_nlt, m1_le, m1_nle, b01, b011, q_em, q_m1, n_0, n_1, n_2, n_3, n_4, n_5, n_6, n_7, n_8, n_9, n_10, n_11, n_12, n_14, n_15, n_16, n_20, n_24, n_25, n_32, n_36, n_40, n_41, n_42, n_43, n_45, n_46, n_48, n_57, n_59, n_60, n_73, n_76, n_97, n_99, n_100, n_106, n_109, n_120, n_122, n_136, n_160, n_176, n_200, n_255, n_800, n_1000, n_1001, n_1002, n_1003, n_1006, n_1012, n_1018, n_1019, n_1020, n_1100, n_1140, n_4800, n_4920, n_5940, n_6740, n_20220, ctrP_eq, B_ctrP, q0, q1, gA, e1, e2]
    · simp only [g_counter, s1, s2, g_put_r]; rfl
  have q2 := h2.bd
  obtain ⟨x3, μ3, e3, f3, r3⟩ := r_num (i := 43 + 5 * nt (A 2) + 0) (l1 := 1) (l2 := 9) h2 (by omega) (by decide) (by decide)
  rcases r3 with ⟨rfl, t3, a3, b3, h3, s3⟩ | ⟨rfl, e, z, s3⟩
  rotate_left
  · refine ⟨nI 0, μ3, ?_, f1.trans (f2.trans (f3)), Or.inr ⟨rfl, e, z, ?_⟩⟩
    · clear h h1 h2 z f1 f2 f3 s1 s2 s3 w pk hn n0 n1 n2 cc hz
      simp (disch := first | assumption | omega) only [q_bl, q_baT, q_bi, q_ba, q_pr, q_ob, q_iT, q_iN, q_it, q_if, q_of, nI_add, pk_mul, pk_sub, nI_leI, nI_ltI, nI_eq, nI_clamp, nI_lt0, nI_eqm, m1_eq, true_or, or_true, not_false_eq_true, m1_lt, m1_nlt, m1_le, m1_nle, b01, b011, q_em, q_m1, n_0, n_1, n_2, n_3, n_4, n_5, n_6, n_7, n_8, n_9, n_10, n_11, n_12, n_14, n_15, n_16, n_20, n_24, n_25, n_32, n_36, n_40, n_41, n_42, n_43, n_45, n_46, n_48, n_57, n_59, n_60, n_73, n_76, n_97, n_99, n_100, n_106, n_109, n_120, n_122, n_136, n_160, n_176, n_200, n_255, n_800, n_1000, n_1001, n_1002, n_1003, n_1006, n_1012, n_1018, n_1019, n_1020, n_1100, n_1140, n_4800, n_4920, n_5940, n_6740, n_20220, ctrP_eq, B_ctrP, q0, q1, q2, gA, e1, e2, e3]
    · simp only [g_counter, s1, s2, s3, g_put_r]; rfl
  have q3 := h3.bd
  obtain ⟨x4, μ4, e4, f4, r4⟩ := r_name (i := 43 + 5 * nt (A 2) + 1) (t := 0) h3 (by omega) (by decide) (by simp (disch := omega) only [ua_n, ua_e]; rw [ncu_n (by decide)]; exact n0)
  rcases r4 with ⟨rfl, o4, b4, h4, s4⟩ | ⟨rfl, e, z, s4⟩
  rotate_left
  · refine ⟨nI 0, μ4, ?_, f1.trans (f2.trans (f3.trans (f4))), Or.inr ⟨rfl, e, z, ?_⟩⟩
    · clear h h1 h2 h3 z f1 f2 f3 f4 s1 s2 s3 s4 w pk hn n0 n1 n2 cc hz
      simp (disch := first | assumption | omega) only [q_bl, q_baT, q_bi, q_ba, q_pr, q_ob, q_iT, q_iN, q_it, q_if, q_of, nI_add, pk_mul, pk_sub, nI_leI, nI_ltI, nI_eq, nI_clamp, nI_lt0, nI_eqm, m1_eq, true_or, or_true, not_false_eq_true, m1_lt, m1_nlt, m1_le, m1_nle, b01, b011, q_em, q_m1, n_0, n_1, n_2, n_3, n_4, n_5, n_6, n_7, n_8, n_9, n_10, n_11, n_12, n_14, n_15, n_16, n_20, n_24, n_25, n_32, n_36, n_40, n_41, n_42, n_43, n_45, n_46, n_48, n_57, n_59, n_60, n_73, n_76, n_97, n_99, n_100, n_106, n_109, n_120, n_122, n_136, n_160, n_176, n_200, n_255, n_800, n_1000, n_1001, n_1002, n_1003, n_1006, n_1012, n_1018, n_1019, n_1020, n_1100, n_1140, n_4800, n_4920, n_5940, n_6740, n_20220, ctrP_eq, B_ctrP, q0, q1, q2, q3, gA, e1, e2, e3, e4]
    · simp only [g_counter, s1, s2, s3, s4, g_put_r]; rfl
  have q4 := h4.bd
  have zc : A (43 + 5 * nt (A 2) + 4) = nI 0 := (hz.1 2 (by decide)).2.2 (nt (A 2)) 4 (Nat.le_refl _) lt (by decide)
  obtain ⟨x5, μ5, e5, f5, r5⟩ := r9_ctrT (c := nt (A 2)) h4 lt (by simp (disch := omega) only [ua_n, ua_e]; exact cc.1) (by simp (disch := omega) only [ua_n, ua_e]; rw [ncu_n (by decide)]; exact n1) (by simp (disch := omega) only [ua_n, ua_e]; exact zc)
  have eF : F_X9_counter m μ = some (x5, μ5) := by
    clear h h1 h2 h3 h4 f1 f2 f3 f4 s1 s2 s3 s4 w pk hn n0 n1 n2 cc hz r5 f5 zc
    simp (disch := first | assumption | omega) only [q_bl, q_baT, q_bi, q_ba, q_pr, q_ob, q_iT, q_iN, q_it, q_if, q_of, nI_add, pk_mul, pk_sub, nI_leI, nI_ltI, nI_eq, nI_clamp, nI_lt0, nI_eqm, m1_eq, true_or, or_true, not_false_eq_true, m1_lt, m1_nlt, m1_le, m1_nle, b01, b011, q_em, q_m1, n_0, n_1, n_2, n_3, n_4, n_5, n_6, n_7, n_8, n_9, n_10, n_11, n_12, n_14, n_15, n_16, n_20, n_24, n_25, n_32, n_36, n_40, n_41, n_42, n_43, n_45, n_46, n_48, n_57, n_59, n_60, n_73, n_76, n_97, n_99, n_100, n_106, n_109, n_120, n_122, n_136, n_160, n_176, n_200, n_255, n_800, n_1000, n_1001, n_1002, n_1003, n_1006, n_1012, n_1018, n_1019, n_1020, n_1100, n_1140, n_4800, n_4920, n_5940, n_6740, n_20220, ctrP_eq, B_ctrP, q0, q1, q2, q3, q4, gA, e1, e2, e3, e4, e5]
  rcases r5 with ⟨rfl, p', u, v, y, a5, a6, a7, h5, s5⟩ | ⟨rfl, e, z, s5⟩
  rotate_left
  · refine ⟨nI 0, μ5, eF, f1.trans (f2.trans (f3.trans (f4.trans (f5)))), Or.inr ⟨rfl, e, z, ?_⟩⟩
    rw [← s5 (ts b n (te b n (te b n (te b n p)))) (ua (ua (ua A 2 (nI (nt (A 2) + 1))) (43 + 5 * nt (A 2) + 0) (nI (tv b n (te b n (te b n p))))) (43 + 5 * nt (A 2) + 1) (nI o4))]; simp only [g_counter, s1, s2, s3, s4, g_put_r, tb2e]; rfl
  obtain ⟨ls', e'⟩ := s5 (ts b n (te b n (te b n (te b n p)))) (ua (ua (ua A 2 (nI (nt (A 2) + 1))) (43 + 5 * nt (A 2) + 0) (nI (tv b n (te b n (te b n p))))) (43 + 5 * nt (A 2) + 1) (nI o4)) (by simp (disch := omega) only [ua_n, ua_e]; exact zc)
  obtain ⟨A', hA'⟩ : ∃ A', A' = ua (ua (ua (ua (ua (ua A 2 (nI (nt (A 2) + 1))) (43 + 5 * nt (A 2) + 0) (nI (tv b n (te b n (te b n p))))) (43 + 5 * nt (A 2) + 1) (nI o4)) (43 + 5 * nt (A 2) + 2) (nI u)) (43 + 5 * nt (A 2) + 3) v) (43 + 5 * nt (A 2) + 4) (nI y) := ⟨_, rfl⟩
  have hk' : A' 2 = nI (nt (A 2) + 1) := by rw [hA']; simp (disch := omega) only [ua_n, ua_e]
  have hE' : ∀ i, ¬ i = 2 → ¬ (43 + 5 * nt (A 2) ≤ i ∧ i < 43 + 5 * nt (A 2) + 5) → A' i = A i := fun i i1 i2 => by rw [hA']; simp (disch := omega) only [ua_n]
  refine ⟨nI 1, μ5, eF, f1.trans (f2.trans (f3.trans (f4.trans (f5)))), Or.inl ⟨rfl, p', ls', A', (ncu nc 2), (wnu wn 2 (nc 2) (tw b n (te b n p))), h5.ext ?_, ⟨?_, pk.eq w (hE' 7 (by omega) (by omega)) (fun i hi => hE' i (by omega) (by omega)), ?_⟩, ?_⟩⟩
  · rw [hA']; intro i hi6; simp only [ua]; repeat' split
    all_goals first | rfl | omega
  · refine wb_ctr w lt hk' hE' (show A' (43 + 5 * nt (A 2)) = nI (tv b n (te b n (te b n p))) from by rw [hA']; simp (disch := omega) only [ua_n, ua_e]) (show A' (43 + 5 * nt (A 2) + 1) = nI o4 from by rw [hA']; simp (disch := omega) only [ua_n, ua_e]) (show A' (43 + 5 * nt (A 2) + 2) = nI u from by rw [hA']; simp (disch := omega) only [ua_n, ua_e]) (show A' (43 + 5 * nt (A 2) + 3) = v from by rw [hA']; simp (disch := omega) only [ua_n, ua_e]) (show A' (43 + 5 * nt (A 2) + 4) = nI y from by rw [hA']; simp (disch := omega) only [ua_n, ua_e]) ⟨a3, b3⟩ (by rw [← hn 0 (by decide)]; rw [ncu_n (by decide)] at b4; exact b4) a5 (a6.imp id (fun ⟨r, q1, q2⟩ => ⟨r, q1, by rw [← hn 1 (by decide)]; rw [ncu_n (by decide)] at q2; exact q2⟩)) a7
  · intro t ht
    by_cases htk : t = 2
    · subst htk; rw [ncu_s, hk', nt_nI (by omega), hn 2 (by decide)]
    · rw [ncu_n htk, hn t ht, hE' t htk (by omega)]
  · rw [hA', ← e']; simp only [g_counter, s1, s2, s3, s4, g_put_r, tb2e]; rfl
end RSN

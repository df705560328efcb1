/-! LAYER 3: the reference's reader: controls, cards -/
section RCD
variable {μ μ' : Mem} {m n p ls : Nat} {b : Nat → Nat} {A : SA} {nc : Nat → Nat} {wn : Nat → Nat → List Nat}
theorem r9_control (h : RM μ m b n p A nc wn) (v : VA A nc) : RQ μ m b n (F_X9_control m μ) (g_control b n (.inr (te b n p, ts b n p, A, nc, wn))) := by
  obtain ⟨w, pk, hn⟩ := v
  have n0 : A 0 = nI (nc 0) := by rw [hn 0 (by decide)]; exact w.c0.1
  have q0 := h.bd
  obtain ⟨μ1, e1, h1, f1, g1⟩ := h.adv
  have q1 := h1.bd
  generalize te b n p = P at *
  have hl := tk_le (b := b) (n := n) (p := P)
  obtain ⟨-, -, t3, -, -, t6⟩ := trc_1 hl
  have g13 := h1.g13
  have eg : ∀ ls A', g_num b n 1 3 (.inr (P, ls, A', nc, wn)) = if tk b n P = 2 then (if 1 ≤ tv b n P ∧ tv b n P ≤ 3 then (tv b n P, .inr (te b n P, ts b n P, A', nc, wn)) else (tv b n P, .inl (3, ts b n P))) else (0, .inl (ek (tk b n P), ts b n P)) := fun _ _ => rfl
  by_cases hk : tk b n P = 2
  rotate_left
  · obtain ⟨μ2, e2, f2, c2⟩ := h1.fail (k := 2) (by decide) (by decide)
    refine ⟨nI 0, μ2, ?_, f1.trans f2, Or.inr ⟨rfl, _, c2, ?_⟩⟩
    · have hne : ¬ nI (trc (tk b n P)) = nI 3 := by rw [nI_eq (by omega) (by decide)]; exact fun q => hk (t3.mp q)
      clear h h1 c2 f1 f2 eg g1 w pk hn
      simp (disch := first | assumption | omega) only [q_bl, q_baT, q_bi, q_ba, q_pr, q_ob, q_iT, q_iN, q_it, q_if, q_of, nI_add, pk_mul, pk_sub, nI_leI, nI_ltI, nI_clamp, nI_lt0, nI_eqm, m1_eq, true_or, or_true, not_false_eq_true, m1_lt, m1_nlt, m1_le, m1_nle, b01, b011, q_em, q_m1, n_0, n_1, n_2, n_3, n_4, n_5, n_6, n_7, n_8, n_9, n_10, n_11, n_12, n_14, n_15, n_16, n_20, n_24, n_25, n_32, n_36, n_40, n_41, n_42, n_43, n_45, n_46, n_48, n_57, n_59, n_60, n_73, n_76, n_97, n_99, n_100, n_106, n_109, n_120, n_122, n_136, n_160, n_176, n_200, n_255, n_800, n_1000, n_1001, n_1002, n_1003, n_1006, n_1012, n_1018, n_1019, n_1020, n_1100, n_1140, n_4800, n_4920, n_5940, n_6740, n_20220, F_X9_control, q0, e1, q1, g13, hne, e2]
    · unfold g_control
      rw [eg, if_neg hk]; rfl
  have hv := tv_lt hk
  have g15 := h1.2.1.2.2.2.2.1 hk
  rw [t3.mpr hk] at g13
  have j1 : (1 : Int64) = (nI 1).toInt64 := by decide +kernel
  have j3 : (3 : Int64) = (nI 3).toInt64 := by decide +kernel
  have hb := bt_nat (μ := μ1) (v := tv b n P) (l1 := 1) (l2 := 3) (by omega) (by decide) (by decide)
  rw [← j1, ← j3] at hb
  by_cases hr : 1 ≤ tv b n P ∧ tv b n P ≤ 3
  rotate_left
  · rw [if_neg hr] at hb
    obtain ⟨μ2, e2, f2, c2⟩ := h1.fail (k := 3) (by decide) (by decide)
    rw [if_neg (by omega)] at c2
    refine ⟨nI 0, μ2, ?_, f1.trans f2, Or.inr ⟨rfl, _, c2, ?_⟩⟩
    · clear h h1 c2 f1 f2 eg g1 w pk hn hr
      simp (disch := first | assumption | omega) only [q_bl, q_baT, q_bi, q_ba, q_pr, q_ob, q_iT, q_iN, q_it, q_if, q_of, nI_add, pk_mul, pk_sub, nI_leI, nI_ltI, nI_eq, nI_clamp, nI_lt0, nI_eqm, m1_eq, true_or, or_true, not_false_eq_true, m1_lt, m1_nlt, m1_le, m1_nle, b01, b011, q_em, q_m1, n_0, n_1, n_2, n_3, n_4, n_5, n_6, n_7, n_8, n_9, n_10, n_11, n_12, n_14, n_15, n_16, n_20, n_24, n_25, n_32, n_36, n_40, n_41, n_42, n_43, n_45, n_46, n_48, n_57, n_59, n_60, n_73, n_76, n_97, n_99, n_100, n_106, n_109, n_120, n_122, n_136, n_160, n_176, n_200, n_255, n_800, n_1000, n_1001, n_1002, n_1003, n_1006, n_1012, n_1018, n_1019, n_1020, n_1100, n_1140, n_4800, n_4920, n_5940, n_6740, n_20220, F_X9_control, q0, e1, q1, g13, g15, hb, e2]
    · unfold g_control
      rw [eg, if_pos hk, if_neg hr]; rfl
  rw [if_pos hr] at hb
  have eg2 : ∀ ls A', g_num b n 1 3 (.inr (P, ls, A', nc, wn)) = (tv b n P, .inr (te b n P, ts b n P, A', nc, wn)) := fun ls A' => by rw [eg, if_pos hk, if_pos hr]
  have gc : gI μ1 (m + 2) (73 + tv b n P - 1) = A (73 + tv b n P - 1) := h1.2.2.2.1 _ (by omega)
  have hx : nI 73 + nI (tv b n P) - nI 1 = nI (73 + tv b n P - 1) := by rw [nI_add, pk_sub (by omega)]
  generalize hl2 : tv b n P = l at *
  by_cases hm : A (73 + l - 1) = -nI 1
  rotate_left
  · obtain ⟨μ2, e2, f2, c2⟩ := h1.fail (k := 5) (by decide) (by decide)
    rw [if_neg (by omega)] at c2
    refine ⟨nI 0, μ2, ?_, f1.trans f2, Or.inr ⟨rfl, _, c2, ?_⟩⟩
    · have hm2 : ¬ gI μ1 (m + 2) (73 + l - 1) = -nI 1 := by rw [gc]; exact hm
      clear h h1 c2 f1 f2 eg eg2 g1 w pk hn gc hl2 hm
      simp (disch := first | assumption | omega) only [q_bl, q_baT, q_bi, q_ba, q_pr, q_ob, q_iT, q_iN, q_it, q_if, q_of, pk_mul, nI_leI, nI_ltI, nI_eq, nI_clamp, nI_lt0, nI_eqm, m1_eq, true_or, or_true, not_false_eq_true, m1_lt, m1_nlt, m1_le, m1_nle, b01, b011, q_em, q_m1, n_0, n_1, n_2, n_3, n_4, n_5, n_6, n_7, n_8, n_9, n_10, n_11, n_12, n_14, n_15, n_16, n_20, n_24, n_25, n_32, n_36, n_40, n_41, n_42, n_43, n_45, n_46, n_48, n_57, n_59, n_60, n_73, n_76, n_97, n_99, n_100, n_106, n_109, n_120, n_122, n_136, n_160, n_176, n_200, n_255, n_800, n_1000, n_1001, n_1002, n_1003, n_1006, n_1012, n_1018, n_1019, n_1020, n_1100, n_1140, n_4800, n_4920, n_5940, n_6740, n_20220, F_X9_control, q0, e1, q1, g13, g15, hb, hx, hm2, e2]
    · unfold g_control
      rw [eg2]
      show g_put _ _ (g_tok b n 3 (g_name b n 0 (if A (73 + l - 1) = -nI 1 then _ else _)).2) = _
      rw [if_neg hm]; rfl
  have gc2 : gI μ1 (m + 2) (73 + l - 1) = -nI 1 := gc.trans hm
  obtain ⟨μ2, e2, h2, f2, g2⟩ := h1.adv
  have q2 := h2.bd
  obtain ⟨x3, μ3, e3, f3, r3⟩ := r_name (i := 73 + l - 1) (t := 0) h2 (by omega) (by decide) n0
  have eF : F_X9_control m μ = some (x3, μ3) := by
    have hx01 : x3 = nI 0 ∨ x3 = nI 1 := by
      rcases r3 with ⟨r, _⟩ | ⟨r, _⟩
      · exact Or.inr r
      · exact Or.inl r
    clear h h1 h2 f1 f2 f3 eg eg2 g1 g2 w pk hn gc hl2 hm r3
    simp (disch := first | assumption | omega) only [q_bl, q_baT, q_bi, q_ba, q_pr, q_ob, q_iT, q_iN, q_it, q_if, q_of, pk_mul, nI_leI, nI_ltI, nI_eq, nI_clamp, nI_lt0, nI_eqm, m1_eq, true_or, or_true, not_false_eq_true, m1_lt, m1_nlt, m1_le, m1_nle, b01, b011, q_em, q_m1, n_0, n_1, n_2, n_3, n_4, n_5, n_6, n_7, n_8, n_9, n_10, n_11, n_12, n_14, n_15, n_16, n_20, n_24, n_25, n_32, n_36, n_40, n_41, n_42, n_43, n_45, n_46, n_48, n_57, n_59, n_60, n_73, n_76, n_97, n_99, n_100, n_106, n_109, n_120, n_122, n_136, n_160, n_176, n_200, n_255, n_800, n_1000, n_1001, n_1002, n_1003, n_1006, n_1012, n_1018, n_1019, n_1020, n_1100, n_1140, n_4800, n_4920, n_5940, n_6740, n_20220, F_X9_control, q0, e1, q1, g13, g15, hb, hx, gc2, e2, q2, e3, hx01]
  rcases r3 with ⟨rfl, r, b3, h3, s3⟩ | ⟨rfl, e, z, s3⟩
  rotate_left
  · refine ⟨nI 0, μ3, eF, f1.trans (f2.trans f3), Or.inr ⟨rfl, e, z, ?_⟩⟩
    unfold g_control
    rw [eg2]
    show g_put _ _ (g_tok b n 3 (g_name b n 0 (if A (73 + l - 1) = -nI 1 then _ else _)).2) = _
    rw [if_pos hm, s3]; rfl
  · have hE : ∀ i, ¬ i = 73 + l - 1 → ua A (73 + l - 1) (nI r) i = A i := fun i hi => ua_n hi
    refine ⟨nI 1, μ3, eF, f1.trans (f2.trans f3), Or.inl ⟨rfl, te b n (te b n P), ts b n (te b n P), ua A (73 + l - 1) (nI r), nc, wn, h3, ⟨?_, pk.eq w (hE 7 (by omega)) (fun i hi => hE i (by omega)), fun t ht => by rw [hn t ht, hE t (by omega)]⟩, ?_⟩⟩
    · exact wb_ctl w hr (ua_s _ _ _) (by rw [← hn 0 (by decide)]; exact b3) hE
    · unfold g_control
      rw [eg2]
      show g_put _ (nI (g_name b n 0 (if A (73 + l - 1) = -nI 1 then _ else _)).1) (g_tok b n 3 (g_name b n 0 (if A (73 + l - 1) = -nI 1 then _ else _)).2) = _
      rw [if_pos hm, s3, g_put_tok, g_put_r]
-- cards
theorem x9_C1 {c : Nat} (hc : c < 256) (h : isCs c = true) : F_X9_isPunched (nI c) μ = some (nI 1) := x5_C1 (μ := μ) hc h
theorem x9_C0 {c : Nat} (hc : c < 256) (h : ¬ isCs c = true) : F_X9_isPunched (nI c) μ = some (nI 0) := x5_C0 (μ := μ) hc h
theorem x9_Cm : F_X9_isPunched (-nI 1) μ = some (nI 0) := by
  have e1 := x9_Dm (μ := μ)
  have h1 : -nI 1 < nI 97 := by decide +kernel
  simp (disch := first | assumption | omega) only [q_bl, q_baT, q_bi, q_ba, q_pr, q_ob, q_iT, q_iN, q_it, q_if, q_of, nI_add, pk_mul, pk_sub, nI_leI, nI_ltI, nI_eq, nI_clamp, nI_lt0, nI_eqm, m1_eq, true_or, or_true, not_false_eq_true, m1_lt, m1_nlt, m1_le, m1_nle, b01, b011, q_em, q_m1, n_0, n_1, n_2, n_3, n_4, n_5, n_6, n_7, n_8, n_9, n_10, n_11, n_12, n_14, n_15, n_16, n_20, n_24, n_25, n_32, n_36, n_40, n_41, n_42, n_43, n_45, n_46, n_48, n_57, n_59, n_60, n_73, n_76, n_97, n_99, n_100, n_106, n_109, n_120, n_122, n_136, n_160, n_176, n_200, n_255, n_800, n_1000, n_1001, n_1002, n_1003, n_1006, n_1012, n_1018, n_1019, n_1020, n_1100, n_1140, n_4800, n_4920, n_5940, n_6740, n_20220, F_X9_isPunched, B_X9_isPunched_19, e1]
theorem x9_cs {c : Nat} (hc : c < 256) (h : isCs c = true) : F_X9_codeOf (nI c) μ = some (cs c) := by
  unfold cs
  by_cases hd : isDg c = true
  · have e := x9_D1 (μ := μ) hd
    rw [if_pos hd]
    rw [isDg_T] at hd
    simp (disch := first | assumption | omega) only [q_bl, q_baT, q_bi, q_ba, q_pr, q_ob, q_iT, q_iN, q_it, q_if, q_of, nI_add, pk_mul, pk_sub, nI_leI, nI_ltI, nI_eq, nI_clamp, nI_lt0, nI_eqm, m1_eq, true_or, or_true, not_false_eq_true, m1_lt, m1_nlt, m1_le, m1_nle, b01, b011, q_em, q_m1, n_0, n_1, n_2, n_3, n_4, n_5, n_6, n_7, n_8, n_9, n_10, n_11, n_12, n_14, n_15, n_16, n_20, n_24, n_25, n_32, n_36, n_40, n_41, n_42, n_43, n_45, n_46, n_48, n_57, n_59, n_60, n_73, n_76, n_97, n_99, n_100, n_106, n_109, n_120, n_122, n_136, n_160, n_176, n_200, n_255, n_800, n_1000, n_1001, n_1002, n_1003, n_1006, n_1012, n_1018, n_1019, n_1020, n_1100, n_1140, n_4800, n_4920, n_5940, n_6740, n_20220, F_X9_codeOf, e]
  · have e := x9_D0 (μ := μ) (show c < 1000 by omega) hd
    rw [if_neg hd]
    rw [isCs_T] at h
    rw [isDg_T] at hd
    by_cases h4 : c = 46
    · rw [if_pos h4]
      subst h4
      simp (disch := first | assumption | omega) only [q_bl, q_baT, q_bi, q_ba, q_pr, q_ob, q_iT, q_iN, q_it, q_if, q_of, nI_add, pk_mul, pk_sub, nI_leI, nI_ltI, nI_eq, nI_clamp, nI_lt0, nI_eqm, m1_eq, true_or, or_true, not_false_eq_true, m1_lt, m1_nlt, m1_le, m1_nle, b01, b011, q_em, q_m1, n_0, n_1, n_2, n_3, n_4, n_5, n_6, n_7, n_8, n_9, n_10, n_11, n_12, n_14, n_15, n_16, n_20, n_24, n_25, n_32, n_36, n_40, n_41, n_42, n_43, n_45, n_46, n_48, n_57, n_59, n_60, n_73, n_76, n_97, n_99, n_100, n_106, n_109, n_120, n_122, n_136, n_160, n_176, n_200, n_255, n_800, n_1000, n_1001, n_1002, n_1003, n_1006, n_1012, n_1018, n_1019, n_1020, n_1100, n_1140, n_4800, n_4920, n_5940, n_6740, n_20220, F_X9_codeOf, e]
    · rw [if_neg h4]
      by_cases h3 : c = 120
      · rw [if_pos h3]
        subst h3
        simp (disch := first | assumption | omega) only [q_bl, q_baT, q_bi, q_ba, q_pr, q_ob, q_iT, q_iN, q_it, q_if, q_of, nI_add, pk_mul, pk_sub, nI_leI, nI_ltI, nI_eq, nI_clamp, nI_lt0, nI_eqm, m1_eq, true_or, or_true, not_false_eq_true, m1_lt, m1_nlt, m1_le, m1_nle, b01, b011, q_em, q_m1, n_0, n_1, n_2, n_3, n_4, n_5, n_6, n_7, n_8, n_9, n_10, n_11, n_12, n_14, n_15, n_16, n_20, n_24, n_25, n_32, n_36, n_40, n_41, n_42, n_43, n_45, n_46, n_48, n_57, n_59, n_60, n_73, n_76, n_97, n_99, n_100, n_106, n_109, n_120, n_122, n_136, n_160, n_176, n_200, n_255, n_800, n_1000, n_1001, n_1002, n_1003, n_1006, n_1012, n_1018, n_1019, n_1020, n_1100, n_1140, n_4800, n_4920, n_5940, n_6740, n_20220, F_X9_codeOf, e]
      · rw [if_neg h3]
        simp (disch := first | assumption | omega) only [q_bl, q_baT, q_bi, q_ba, q_pr, q_ob, q_iT, q_iN, q_it, q_if, q_of, nI_add, pk_mul, pk_sub, nI_leI, nI_ltI, nI_eq, nI_clamp, nI_lt0, nI_eqm, m1_eq, true_or, or_true, not_false_eq_true, m1_lt, m1_nlt, m1_le, m1_nle, b01, b011, q_em, q_m1, n_0, n_1, n_2, n_3, n_4, n_5, n_6, n_7, n_8, n_9, n_10, n_11, n_12, n_14, n_15, n_16, n_20, n_24, n_25, n_32, n_36, n_40, n_41, n_42, n_43, n_45, n_46, n_48, n_57, n_59, n_60, n_73, n_76, n_97, n_99, n_100, n_106, n_109, n_120, n_122, n_136, n_160, n_176, n_200, n_255, n_800, n_1000, n_1001, n_1002, n_1003, n_1006, n_1012, n_1018, n_1019, n_1020, n_1100, n_1140, n_4800, n_4920, n_5940, n_6740, n_20220, F_X9_codeOf, e, h3, h4]
/-- what a card token is to the reference -/
def tkc (n s e : Nat) : Nat := if e = s then (if n ≤ s then 0 else 1) else if e - s ≤ 20 then 5 else 1
theorem l9_advC {s : Nat} : ∀ (q fu p : Nat) (μ : Mem), q < fu → RBs μ m b n → gI μ m 12 = nI p → gI μ m 11 = nI s → s ≤ p → p + q = n → ∃ μ', L_X9_advanceCard_4 fu m μ = some μ' ∧ gI μ' m 12 = nI (rn isCs b q p) ∧ gI μ' m 11 = nI s ∧ gI μ' m 13 = nI (tkc n s (rn isCs b q p)) ∧ Fx (fun a => a = m) μ μ' ∧ ∀ j, ¬ j = 12 → ¬ j = 13 → gI μ' m j = gI μ m j := by
  intro q
  have fin : ∀ (fu p q : Nat) (μ : Mem), RBs μ m b n → gI μ m 12 = nI p → gI μ m 11 = nI s → s ≤ p → p + q = n → (∀ x, F_X9_byteAt m (nI p) μ = some x → F_X9_isPunched x μ = some (nI 0)) → ∃ μ', L_X9_advanceCard_4 (fu + 1) m μ = some μ' ∧ gI μ' m 12 = nI p ∧ gI μ' m 11 = nI s ∧ gI μ' m 13 = nI (tkc n s p) ∧ Fx (fun a => a = m) μ μ' ∧ ∀ j, ¬ j = 12 → ¬ j = 13 → gI μ' m j = gI μ m j := by
    intro fu p q μ h g gs hs hp hx
    have hn := h.2.2.1.1
    have k0 := h.1.k0
    refine ⟨stI μ m 13 (nI (tkc n s p)), ?_, by rw [q_iI, q_un (by omega)]; exact g, by rw [q_iI, q_un (by omega)]; exact gs, by rw [q_iI, q_us], Fx.stI rfl, fun j h1 h2 => by rw [q_iI, q_un (by omega)]⟩
    have hsub : nI p - nI s = nI (p - s) := pk_sub hs
    unfold tkc
    by_cases he : p = s
    · rw [if_pos he]
      have hz : p - s = 0 := by omega
      rw [hz] at hsub
      by_cases hN : n ≤ s
      · rw [if_pos hN]
        have e1 := x9_b0 h (k := p) (by omega) (by omega)
        have e2 := hx _ e1
        clear h hx
        simp (disch := first | assumption | omega) only [q_bl, q_baT, q_bi, q_ba, q_pr, q_ob, q_iT, q_iN, q_it, q_if, q_of, nI_add, pk_mul, nI_leI, nI_ltI, nI_eq, nI_clamp, nI_lt0, nI_eqm, m1_eq, true_or, or_true, not_false_eq_true, m1_lt, m1_nlt, m1_le, m1_nle, b01, b011, q_em, q_m1, n_0, n_1, n_2, n_3, n_4, n_5, n_6, n_7, n_8, n_9, n_10, n_11, n_12, n_14, n_15, n_16, n_20, n_24, n_25, n_32, n_36, n_40, n_41, n_42, n_43, n_45, n_46, n_48, n_57, n_59, n_60, n_73, n_76, n_97, n_99, n_100, n_106, n_109, n_120, n_122, n_136, n_160, n_176, n_200, n_255, n_800, n_1000, n_1001, n_1002, n_1003, n_1006, n_1012, n_1018, n_1019, n_1020, n_1100, n_1140, n_4800, n_4920, n_5940, n_6740, n_20220, L_X9_advanceCard_4, B_X9_advanceCard_4, k0, g, gs, e1, e2, hsub]
      · rw [if_neg hN]
        have e1 := x9_b1 h (k := p) (by omega)
        have e2 := hx _ e1
        have hb := h.2.2.1.2.1 p (by omega)
        have nm : ¬ nI (b p) = -nI 1 := by rw [nI_eqm (by omega)]; exact id
        clear h hx
        simp (disch := first | assumption | omega) only [q_bl, q_baT, q_bi, q_ba, q_pr, q_ob, q_iT, q_iN, q_it, q_if, q_of, nI_add, pk_mul, nI_leI, nI_ltI, nI_eq, nI_clamp, nI_lt0, nI_eqm, m1_eq, true_or, or_true, not_false_eq_true, m1_lt, m1_nlt, m1_le, m1_nle, b01, b011, q_em, q_m1, n_0, n_1, n_2, n_3, n_4, n_5, n_6, n_7, n_8, n_9, n_10, n_11, n_12, n_14, n_15, n_16, n_20, n_24, n_25, n_32, n_36, n_40, n_41, n_42, n_43, n_45, n_46, n_48, n_57, n_59, n_60, n_73, n_76, n_97, n_99, n_100, n_106, n_109, n_120, n_122, n_136, n_160, n_176, n_200, n_255, n_800, n_1000, n_1001, n_1002, n_1003, n_1006, n_1012, n_1018, n_1019, n_1020, n_1100, n_1140, n_4800, n_4920, n_5940, n_6740, n_20220, L_X9_advanceCard_4, B_X9_advanceCard_4, k0, g, gs, e1, e2, hsub, nm]
    · rw [if_neg he]
      have hne : ¬ p - s = 0 := by omega
      obtain ⟨x, e1⟩ : ∃ x, F_X9_byteAt m (nI p) μ = some x := by
        by_cases hN : p < n
        · exact ⟨_, x9_b1 h hN⟩
        · exact ⟨_, x9_b0 h (by omega) (by omega)⟩
      have e2 := hx _ e1
      by_cases h20 : p - s ≤ 20
      · rw [if_pos h20]
        clear h hx
        simp (disch := first | assumption | omega) only [q_bl, q_baT, q_bi, q_ba, q_pr, q_ob, q_iT, q_iN, q_it, q_if, q_of, nI_add, pk_mul, nI_leI, nI_ltI, nI_eq, nI_clamp, nI_lt0, nI_eqm, m1_eq, true_or, or_true, not_false_eq_true, m1_lt, m1_nlt, m1_le, m1_nle, b01, b011, q_em, q_m1, n_0, n_1, n_2, n_3, n_4, n_5, n_6, n_7, n_8, n_9, n_10, n_11, n_12, n_14, n_15, n_16, n_20, n_24, n_25, n_32, n_36, n_40, n_41, n_42, n_43, n_45, n_46, n_48, n_57, n_59, n_60, n_73, n_76, n_97, n_99, n_100, n_106, n_109, n_120, n_122, n_136, n_160, n_176, n_200, n_255, n_800, n_1000, n_1001, n_1002, n_1003, n_1006, n_1012, n_1018, n_1019, n_1020, n_1100, n_1140, n_4800, n_4920, n_5940, n_6740, n_20220, L_X9_advanceCard_4, B_X9_advanceCard_4, k0, g, gs, e1, e2, hsub, hne, h20]
      · rw [if_neg h20]
        clear h hx
        simp (disch := first | assumption | omega) only [q_bl, q_baT, q_bi, q_ba, q_pr, q_ob, q_iT, q_iN, q_it, q_if, q_of, nI_add, pk_mul, nI_leI, nI_ltI, nI_eq, nI_clamp, nI_lt0, nI_eqm, m1_eq, true_or, or_true, not_false_eq_true, m1_lt, m1_nlt, m1_le, m1_nle, b01, b011, q_em, q_m1, n_0, n_1, n_2, n_3, n_4, n_5, n_6, n_7, n_8, n_9, n_10, n_11, n_12, n_14, n_15, n_16, n_20, n_24, n_25, n_32, n_36, n_40, n_41, n_42, n_43, n_45, n_46, n_48, n_57, n_59, n_60, n_73, n_76, n_97, n_99, n_100, n_106, n_109, n_120, n_122, n_136, n_160, n_176, n_200, n_255, n_800, n_1000, n_1001, n_1002, n_1003, n_1006, n_1012, n_1018, n_1019, n_1020, n_1100, n_1140, n_4800, n_4920, n_5940, n_6740, n_20220, L_X9_advanceCard_4, B_X9_advanceCard_4, k0, g, gs, e1, e2, hsub, hne, h20]
  induction q with
  | zero =>
    intro fu p μ hf h g gs hs hp
    obtain ⟨fu, rfl⟩ : ∃ k, fu = k + 1 := ⟨fu - 1, by omega⟩
    have hn := h.2.2.1.1
    refine fin fu p 0 μ h g gs hs hp (fun x hx => ?_)
    rw [x9_b0 h (by omega) (by omega)] at hx
    cases hx
    exact x9_Cm
  | succ q ih =>
    intro fu p μ hf h g gs hs hp
    obtain ⟨fu, rfl⟩ : ∃ k, fu = k + 1 := ⟨fu - 1, by omega⟩
    have hn := h.2.2.1.1
    have k0 := h.1.k0
    have e0 := x9_b1 h (k := p) (by omega)
    have hb := h.2.2.1.2.1 p (by omega)
    by_cases hB : isCs (b p) = true
    · have i1 := x9_C1 (μ := μ) hb hB
      have f1 : Fx (fun a => a = m) μ (stI μ m 12 (nI (p + 1))) := Fx.stI rfl
      obtain ⟨μ', a1, a2, a3, a4, a5, a6⟩ := ih fu (p + 1) (stI μ m 12 (nI (p + 1))) (by omega) (h.mm f1 (by rw [q_iI, q_un (by omega)])) (by rw [q_iI, q_us]) (by rw [q_iI, q_un (by omega)]; exact gs) (by omega) (by omega)
      rw [rn_s hB]
      refine ⟨μ', ?_, a2, a3, a4, f1.trans a5, fun j h1 h2 => by rw [a6 j h1 h2, q_iI, q_un (by omega)]⟩
      clear h ih fin a2 a3 a4 a5 a6 f1
      simp (disch := first | assumption | omega) only [q_bl, q_baT, q_bi, q_ba, q_pr, q_ob, q_iT, q_iN, q_it, q_if, q_of, nI_add, pk_mul, pk_sub, nI_leI, nI_ltI, nI_eq, nI_clamp, nI_lt0, nI_eqm, m1_eq, true_or, or_true, not_false_eq_true, m1_lt, m1_nlt, m1_le, m1_nle, b01, b011, q_em, q_m1, n_0, n_1, n_2, n_3, n_4, n_5, n_6, n_7, n_8, n_9, n_10, n_11, n_12, n_14, n_15, n_16, n_20, n_24, n_25, n_32, n_36, n_40, n_41, n_42, n_43, n_45, n_46, n_48, n_57, n_59, n_60, n_73, n_76, n_97, n_99, n_100, n_106, n_109, n_120, n_122, n_136, n_160, n_176, n_200, n_255, n_800, n_1000, n_1001, n_1002, n_1003, n_1006, n_1012, n_1018, n_1019, n_1020, n_1100, n_1140, n_4800, n_4920, n_5940, n_6740, n_20220, L_X9_advanceCard_4, B_X9_advanceCard_4, k0, g, e0, i1, a1]
    · rw [rn_n hB]
      refine fin fu p (q + 1) μ h g gs hs hp (fun x hx => ?_)
      rw [e0] at hx
      cases hx
      exact x9_C0 hb hB
/-- the columns of a card are laid -/
theorem l9_cols {s e c : Nat} (hc : c < 40) (hse : s ≤ e) (hen : e ≤ n) (hcs : ∀ k, s ≤ k → k < e → isCs (b k) = true) : ∀ (q fu k : Nat) (μ : Mem) (A : SA), q < fu → k + q = 20 → RBs μ m b n → gI μ m 12 = nI e → gI μ m 11 = nI s → (∀ i, i < 6740 → gI μ (m + 2) i = A i) → A 8 = nI c →
    ∃ μ', (∀ Y, F_X9_advance m μ' = some (nI 1, Y) → gK Y m = 8 → L_X9_card_53 fu m (nI (200 + 20 * c)) (nI k) μ = (F_X9_isDone m (nI 8) Y).bind (pr fun x18 μ16 => ba (x18 = 0 ∨ x18 = 1) <| some (x18, μ16))) ∧ RBs μ' m b n ∧ Fx (fun a => a = m + 2) μ μ' ∧ ∀ i, i < 6740 → gI μ' (m + 2) i = if 200 + 20 * c + k ≤ i ∧ i < 200 + 20 * c + 20 then ccol b s (e - s) (i - (200 + 20 * c)) else A i := by
  intro q
  induction q with
  | zero =>
    intro fu k μ A hf hk h g gs hA h8
    obtain ⟨fu, rfl⟩ : ∃ k, fu = k + 1 := ⟨fu - 1, by omega⟩
    obtain rfl : k = 20 := by omega
    refine ⟨μ, fun Y eY kY => ?_, h, Fx.same, fun i hi => by rw [if_neg (by omega)]; exact hA i hi⟩
    have k0 := h.1.k0
    clear h hA hcs
    simp (disch := first | assumption | omega) only [q_bl, q_baT, q_bi, q_ba, q_pr, q_ob, q_iT, q_iN, q_it, q_if, q_of, nI_add, pk_mul, pk_sub, nI_leI, nI_ltI, nI_eq, nI_clamp, nI_lt0, nI_eqm, m1_eq, true_or, or_true, not_false_eq_true, m1_lt, m1_nlt, m1_le, m1_nle, b01, b011, q_em, q_m1, n_0, n_1, n_2, n_3, n_4, n_5, n_6, n_7, n_8, n_9, n_10, n_11, n_12, n_14, n_15, n_16, n_20, n_24, n_25, n_32, n_36, n_40, n_41, n_42, n_43, n_45, n_46, n_48, n_57, n_59, n_60, n_73, n_76, n_97, n_99, n_100, n_106, n_109, n_120, n_122, n_136, n_160, n_176, n_200, n_255, n_800, n_1000, n_1001, n_1002, n_1003, n_1006, n_1012, n_1018, n_1019, n_1020, n_1100, n_1140, n_4800, n_4920, n_5940, n_6740, n_20220, L_X9_card_53, B_X9_card_53, k0, eY, kY]
  | succ q ih =>
    intro fu k μ A hf hk h g gs hA h8
    obtain ⟨fu, rfl⟩ : ∃ k, fu = k + 1 := ⟨fu - 1, by omega⟩
    have hn := h.2.2.1.1
    have k0 := h.1.k0
    have r1 := h.1.r1
    have k2 := h.1.k2
    have l2 := h.1.l2
    have r6 := h.1.r6
    have k6 := h.1.k6
    have l6 := h.1.l6
    have f1 : ∀ v, Fx (fun a => a = m + 2) μ (stI μ (m + 2) (200 + 20 * c + k) v) := fun v => Fx.stI rfl
    have hm : ∀ v, gI (stI μ (m + 2) (200 + 20 * c + k) v) m = gI μ m := fun v => (f1 v).I (by omega)
    have hB : ∀ v, RBs (stI μ (m + 2) (200 + 20 * c + k) v) m b n := fun v => ⟨h.1.fx (f1 v), by rw [hm]; exact h.2.1, h.2.2.1, fun j hj => by rw [(f1 v).I (by omega)]; exact h.2.2.2 j hj⟩
    obtain ⟨v, hv⟩ : ∃ v, v = ccol b s (e - s) k := ⟨_, rfl⟩
    obtain ⟨μ', a1, a2, a3, a4⟩ := ih fu (k + 1) (stI μ (m + 2) (200 + 20 * c + k) v) (ua A (200 + 20 * c + k) v) (by omega) (by omega) (hB v) (by rw [hm]; exact g) (by rw [hm]; exact gs) (fun i hi => by
      rw [q_iI]
      by_cases hik : i = 200 + 20 * c + k
      · subst hik; rw [q_us, ua_s]
      · rw [q_un (fun q => hik q.2), ua_n hik]; exact hA i hi) (by rw [ua_n (by omega)]; exact h8)
    refine ⟨μ', fun Y eY kY => ?_, a2, (f1 v).trans a3, fun i hi => ?_⟩
    · have e1 := a1 Y eY kY
      by_cases hke : k < e - s
      · have gt := h.2.2.2 (s + k) (by omega)
        have hb := h.2.2.1.2.1 (s + k) (by omega)
        have i2 := x9_cs (μ := μ) hb (hcs (s + k) (by omega) (by omega))
        have hv2 : v = cs (b (s + k)) := by rw [hv]; unfold ccol; rw [if_pos hke]
        rw [hv2] at e1
        have hne : ¬ e ≤ s + k := by omega
        clear h ih hA hcs a1 a2 a3 a4 hB hm f1 hv hv2 eY
        simp (disch := first | assumption | omega) only [q_bl, q_baT, q_bi, q_ba, q_pr, q_ob, q_iT, q_iN, q_it, q_if, q_of, nI_add, pk_mul, pk_sub, nI_leI, nI_ltI, nI_eq, nI_clamp, nI_lt0, nI_eqm, m1_eq, true_or, or_true, not_false_eq_true, m1_lt, m1_nlt, m1_le, m1_nle, b01, b011, q_em, q_m1, n_0, n_1, n_2, n_3, n_4, n_5, n_6, n_7, n_8, n_9, n_10, n_11, n_12, n_14, n_15, n_16, n_20, n_24, n_25, n_32, n_36, n_40, n_41, n_42, n_43, n_45, n_46, n_48, n_57, n_59, n_60, n_73, n_76, n_97, n_99, n_100, n_106, n_109, n_120, n_122, n_136, n_160, n_176, n_200, n_255, n_800, n_1000, n_1001, n_1002, n_1003, n_1006, n_1012, n_1018, n_1019, n_1020, n_1100, n_1140, n_4800, n_4920, n_5940, n_6740, n_20220, L_X9_card_53, B_X9_card_53, B_X9_card_97, k0, r1, k2, l2, r6, k6, l6, g, gs, hne, gt, i2, e1]
      · have hv2 : v = -nI 1 := by rw [hv]; unfold ccol; rw [if_neg hke]
        rw [hv2] at e1
        have hne : e ≤ s + k := by omega
        clear h ih hA hcs a1 a2 a3 a4 hB hm f1 hv hv2 eY
        simp (disch := first | assumption | omega) only [q_bl, q_baT, q_bi, q_ba, q_pr, q_ob, q_iT, q_iN, q_it, q_if, q_of, nI_add, pk_mul, pk_sub, nI_leI, nI_ltI, nI_eq, nI_clamp, nI_lt0, nI_eqm, m1_eq, true_or, or_true, not_false_eq_true, m1_lt, m1_nlt, m1_le, m1_nle, b01, b011, q_em, q_m1, n_0, n_1, n_2, n_3, n_4, n_5, n_6, n_7, n_8, n_9, n_10, n_11, n_12, n_14, n_15, n_16, n_20, n_24, n_25, n_32, n_36, n_40, n_41, n_42, n_43, n_45, n_46, n_48, n_57, n_59, n_60, n_73, n_76, n_97, n_99, n_100, n_106, n_109, n_120, n_122, n_136, n_160, n_176, n_200, n_255, n_800, n_1000, n_1001, n_1002, n_1003, n_1006, n_1012, n_1018, n_1019, n_1020, n_1100, n_1140, n_4800, n_4920, n_5940, n_6740, n_20220, L_X9_card_53, B_X9_card_53, B_X9_card_97, k0, r1, k2, l2, g, gs, hne, e1]
    · rw [a4 i hi]
      by_cases hik : i = 200 + 20 * c + k
      · subst hik
        rw [if_neg (by omega), ua_s, if_pos (by omega), hv]; congr 1; omega
      · rw [ua_n hik]
        by_cases hr : 200 + 20 * c + (k + 1) ≤ i ∧ i < 200 + 20 * c + 20
        · rw [if_pos hr, if_pos (by omega)]
        · rw [if_neg hr, if_neg (by omega)]
theorem cs_lc {c : Nat} (h : isCs c = true) : lc (cs c) := by
  unfold cs lc
  rw [isCs_T] at h
  by_cases hd : isDg c = true
  · rw [if_pos hd]
    rw [isDg_T] at hd
    exact Or.inr (Or.inr (Or.inl ⟨c - 48, by omega, rfl⟩))
  · rw [if_neg hd]
    rw [isDg_T] at hd
    by_cases h4 : c = 46
    · rw [if_pos h4]; exact Or.inl rfl
    · rw [if_neg h4]
      by_cases h3 : c = 120
      · rw [if_pos h3]; exact Or.inr (Or.inl rfl)
      · rw [if_neg h3]
        exact Or.inr (Or.inr (Or.inr ⟨c - 97, by omega, by congr 1; omega⟩))
theorem r9_card (h : RM μ m b n p A nc wn) (v : VA A nc) (hk1 : tk b n p = 1) : RQ μ m b n (F_X9_card m μ) (g_card b n (.inr (te b n p, ts b n p, A, nc, wn))) := by
  obtain ⟨w, pk, hn⟩ := v
  have cc := w.c8
  have q0 := h.bd
  have gA : gI μ (m + 2) 8 = nI (nt (A 8)) := (h.2.2.2.1 8 (by decide)).trans cc.1
  have hp := te_le (b := b) h.2.2.1
  have eg : g_card b n (.inr (te b n p, ts b n p, A, nc, wn)) = g_tok b n 3 (if 40 ≤ nt (A 8) then .inl (5, ts b n p) else if n ≤ ts b n (te b n p) then .inl (2, ts b n (te b n p)) else if rn isCs b (n - ts b n (te b n p)) (ts b n (te b n p)) = ts b n (te b n p) ∨ 20 < rn isCs b (n - ts b n (te b n p)) (ts b n (te b n p)) - ts b n (te b n p) then .inl (1, ts b n (te b n p)) else .inr (rn isCs b (n - ts b n (te b n p)) (ts b n (te b n p)), ts b n (te b n p), crow b A (ts b n (te b n p)) (rn isCs b (n - ts b n (te b n p)) (ts b n (te b n p)) - ts b n (te b n p)), nc, wn)) := rfl
  rw [eg]
  clear eg
  by_cases hf : 40 ≤ nt (A 8)
  · obtain ⟨μ2, e2, f2, c2⟩ := h.fail (k := 5) (by decide) (by decide)
    rw [if_neg (by omega)] at c2
    refine ⟨nI 0, μ2, ?_, f2, Or.inr ⟨rfl, _, c2, by rw [if_pos hf]; rfl⟩⟩
    have hf2 : nt (A 8) = 40 := by omega
    rw [hf2] at gA
    clear h c2 f2 w pk hn cc
    simp (disch := first | assumption | omega) only [q_bl, q_baT, q_bi, q_ba, q_pr, q_ob, q_iT, q_iN, q_it, q_if, q_of, nI_add, pk_mul, pk_sub, nI_leI, nI_ltI, nI_eq, nI_clamp, nI_lt0, nI_eqm, m1_eq, true_or, or_true, not_false_eq_true, m1_lt, m1_nlt, m1_le, m1_nle, b01, b011, q_em, q_m1, n_0, n_1, n_2, n_3, n_4, n_5, n_6, n_7, n_8, n_9, n_10, n_11, n_12, n_14, n_15, n_16, n_20, n_24, n_25, n_32, n_36, n_40, n_41, n_42, n_43, n_45, n_46, n_48, n_57, n_59, n_60, n_73, n_76, n_97, n_99, n_100, n_106, n_109, n_120, n_122, n_136, n_160, n_176, n_200, n_255, n_800, n_1000, n_1001, n_1002, n_1003, n_1006, n_1012, n_1018, n_1019, n_1020, n_1100, n_1140, n_4800, n_4920, n_5940, n_6740, n_20220, F_X9_card, q0, gA, e2]
  · rw [if_neg hf]
    have hn1 := h.1.2.2.1.1
    obtain ⟨μ1, e1, a1, a2, a3, a4, a5, a6⟩ := x9_skip h.1 h.2.1.2.1 hp
    have hB1 := h.1.mm a4 (a5 10 (by decide) (by decide) (by decide))
    generalize te b n p = P at *
    have hs := ts_le (b := b) hp
    generalize ts b n P = s at *
    obtain ⟨μ2, e2, b1, b2, b3, b4, b5⟩ := l9_advC (s := s) (n - s) FU s μ1 (FU_gt (by omega)) hB1 a1 a2 (Nat.le_refl _) (by omega)
    have hB2 := hB1.mm b4 (b5 10 (by decide) (by decide))
    have hle : rn isCs b (n - s) s ≤ n := by have := rn_le (P := isCs) (b := b) (n - s) s; omega
    have hge : s ≤ rn isCs b (n - s) s := rn_ge _ _
    have hcs : ∀ k, s ≤ k → k < rn isCs b (n - s) s → isCs (b k) = true := fun k k1 k2 => rn_in _ _ k k1 k2
    generalize rn isCs b (n - s) s = e at *
    have f12 : Fx (fun a => a = m) μ μ2 := a4.trans b4
    have g12 : ∀ j, j < 11 → gI μ2 m j = gI μ m j := fun j hj => by rw [b5 j (by omega) (by omega), a5 j (by omega) (by omega) (by omega)]
    have eC : F_X9_advanceCard m μ = some μ2 := by
      have k0 := h.k0
      clear h hB1 hB2 w pk hn
      simp (disch := first | assumption | omega) only [q_bl, q_baT, q_bi, q_ba, q_pr, q_ob, q_iT, q_iN, q_it, q_if, q_of, nI_add, pk_mul, pk_sub, nI_leI, nI_ltI, nI_eq, nI_clamp, nI_lt0, nI_eqm, m1_eq, true_or, or_true, not_false_eq_true, m1_lt, m1_nlt, m1_le, m1_nle, b01, b011, q_em, q_m1, n_0, n_1, n_2, n_3, n_4, n_5, n_6, n_7, n_8, n_9, n_10, n_11, n_12, n_14, n_15, n_16, n_20, n_24, n_25, n_32, n_36, n_40, n_41, n_42, n_43, n_45, n_46, n_48, n_57, n_59, n_60, n_73, n_76, n_97, n_99, n_100, n_106, n_109, n_120, n_122, n_136, n_160, n_176, n_200, n_255, n_800, n_1000, n_1001, n_1002, n_1003, n_1006, n_1012, n_1018, n_1019, n_1020, n_1100, n_1140, n_4800, n_4920, n_5940, n_6740, n_20220, F_X9_advanceCard, k0, e1, e2]
    have k2 := hB2.1.k0
    have ne40 : ¬ nI (nt (A 8)) = nI 40 := by rw [nI_eq (by omega) (by decide)]; omega
    by_cases h5 : tkc n s e = 5
    · have c1 : ¬ e = s := fun q => by unfold tkc at h5; rw [if_pos q] at h5; split at h5 <;> omega
      have c2 : e - s ≤ 20 := by
        unfold tkc at h5; rw [if_neg c1] at h5; split at h5
        · assumption
        · omega
      rw [if_neg (by omega), if_neg (by omega)]
      rw [h5] at b3
      obtain ⟨μ3, d1, d2, d3, d4⟩ := l9_cols (m := m) (s := s) (e := e) (c := nt (A 8)) (by omega) hge hle hcs 20 FU 0 μ2 A (FU_gt (by decide)) rfl hB2 b1 b2 (fun i hi => by rw [f12.I (by omega)]; exact h.2.2.2.1 i hi) cc.1
      have g3 : gI μ3 m = gI μ2 m := d3.I (by omega)
      obtain ⟨μ4, e4, t4, f4, j4⟩ := x9_adv d2 (p := e) (by rw [g3]; exact b1) hle
      have hB4 := d2.mm f4 (j4 10 (by omega))
      have hR : RM μ4 m b n e (fun i => if 200 + 20 * nt (A 8) + 0 ≤ i ∧ i < 200 + 20 * nt (A 8) + 20 then ccol b s (e - s) (i - (200 + 20 * nt (A 8))) else A i) nc wn := by
        refine ⟨hB4, t4, hle, fun i hi => ?_, fun t r ht hr => ?_, h.2.2.2.2.2.1, h.2.2.2.2.2.2.1, ?_, ?_⟩
        · rw [f4.I (by omega)]; exact d4 i hi
        · rw [f4.J (by omega), d3.J (by omega), f12.J (by omega)]; exact h.2.2.2.2.1 t r ht hr
        · rw [j4 16 (by omega), g3, b5 16 (by decide) (by decide), a5 16 (by decide) (by decide) (by decide)]; exact h.2.2.2.2.2.2.2.1
        · rw [j4 17 (by omega), g3, b5 17 (by decide) (by decide), a5 17 (by decide) (by decide) (by decide)]; exact h.2.2.2.2.2.2.2.2
      obtain ⟨μ5, e5, f5, h5'⟩ := r_done (k := 8) (c := nt (A 8)) hR (by decide) (by rw [if_neg (by omega)]; exact cc.1)
      have e6 := d1 μ4 e4 hB4.1.k0
      rw [e5] at e6
      refine ⟨nI 1, μ5, ?_, RFr.trans (RFr.mm f12 g12) (RFr.trans (m := m) (μ2 := μ3) ⟨d3.mono (fun a ha => Or.inr (Or.inl ha)), fun j _ => by rw [g3]⟩ ((RFr.mm f4 (fun j hj => j4 j (by omega))).trans f5)), Or.inl ⟨rfl, e, s, crow b A s (e - s), nc, wn, h5'.ext (fun i hi => ?_), ⟨?_, pk.eq w (by unfold crow; rw [if_neg (by decide), if_neg (by omega)]) (fun i hi => by unfold crow; rw [if_neg (by omega), if_neg (by omega)]), fun t ht => ?_⟩, rfl⟩⟩
      · clear h hB1 hB2 hB4 hR h5' w pk hn d1 d2 d3 d4 cc
        simp (disch := first | assumption | omega) only [q_bl, q_baT, q_bi, q_ba, q_pr, q_ob, q_iT, q_iN, q_it, q_if, q_of, nI_add, pk_mul, pk_sub, nI_leI, nI_ltI, nI_clamp, nI_lt0, nI_eqm, m1_eq, true_or, or_true, not_false_eq_true, m1_lt, m1_nlt, m1_le, m1_nle, b01, b011, q_em, q_m1, n_0, n_1, n_2, n_3, n_4, n_5, n_6, n_7, n_8, n_9, n_10, n_11, n_12, n_14, n_15, n_16, n_20, n_24, n_25, n_32, n_36, n_40, n_41, n_42, n_43, n_45, n_46, n_48, n_57, n_59, n_60, n_73, n_76, n_97, n_99, n_100, n_106, n_109, n_120, n_122, n_136, n_160, n_176, n_200, n_255, n_800, n_1000, n_1001, n_1002, n_1003, n_1006, n_1012, n_1018, n_1019, n_1020, n_1100, n_1140, n_4800, n_4920, n_5940, n_6740, n_20220, F_X9_card, q0, gA, ne40, eC, k2, b3, e6]
      · unfold crow ua
        by_cases hi8 : i = 8
        · rw [if_pos hi8, if_pos hi8]
        · rw [if_neg hi8, if_neg hi8]; rfl
      · refine wb_card w (by omega) (if_pos rfl) (fun i i1 i2 => by unfold crow; rw [if_neg i1, if_neg i2]) (fun j hj => ?_)
        unfold crow
        rw [if_neg (by omega), if_pos (by omega)]
        unfold ccol
        split
        · exact cs_lc (hcs _ (by omega) (by omega))
        · exact Or.inl rfl
      · have : crow b A s (e - s) t = A t := by unfold crow; rw [if_neg (by omega), if_neg (by omega)]
        rw [this]; exact hn t ht
    · have b3n : ¬ gI μ2 m 13 = nI 5 := by
        rw [b3, nI_eq (by unfold tkc; split; split <;> omega; split <;> omega) (by decide)]; exact h5
      have kk1 := b2
      have fx : ∀ v w', Fx (fun a => a = m) μ2 (stI (stI μ2 m 16 v) m 17 w') := fun v w' => (Fx.stI (P := fun a => a = m) rfl).trans (Fx.stI rfl)
      by_cases h1 : tkc n s e = 1
      · rw [h1] at b3
        have hg : (if n ≤ s then (.inl (2, s) : GST) else if e = s ∨ 20 < e - s then .inl (1, s) else .inr (e, s, crow b A s (e - s), nc, wn)) = .inl (1, s) := by
          unfold tkc at h1
          by_cases he : e = s
          · rw [if_pos he] at h1
            have hN : ¬ n ≤ s := fun q => by rw [if_pos q] at h1; omega
            rw [if_neg hN, if_pos (Or.inl he)]
          · rw [if_neg he] at h1
            have h20 : ¬ e - s ≤ 20 := fun q => by rw [if_pos q] at h1; omega
            rw [if_neg (by omega), if_pos (Or.inr (by omega))]
        rw [hg]
        refine ⟨nI 0, stI (stI μ2 m 16 (nI 1)) m 17 (nI s), ?_, (RFr.mm f12 g12).trans (RFr.mm (fx _ _) (fun j hj => by rw [q_iI, q_un (by omega), q_iI, q_un (by omega)])), Or.inr ⟨rfl, (1, s), ⟨by rw [q_iI, q_un (by omega), q_iI, q_us], by rw [q_iI, q_us], (show 1 ≤ 1 by decide), (show 1 ≤ 5 by decide)⟩, rfl⟩⟩
        have eF : F_X9_fail m (nI 2) μ2 = some (nI 0, stI (stI μ2 m 16 (nI 1)) m 17 (nI s)) := by
          clear h hB1 hB2 w pk hn
          simp (disch := first | assumption | omega) only [q_bl, q_baT, q_bi, q_ba, q_pr, q_ob, q_iT, q_iN, q_it, q_if, q_of, nI_add, pk_mul, pk_sub, nI_leI, nI_ltI, nI_eq, nI_clamp, nI_lt0, nI_eqm, m1_eq, true_or, or_true, not_false_eq_true, m1_lt, m1_nlt, m1_le, m1_nle, b01, b011, q_em, q_m1, n_0, n_1, n_2, n_3, n_4, n_5, n_6, n_7, n_8, n_9, n_10, n_11, n_12, n_14, n_15, n_16, n_20, n_24, n_25, n_32, n_36, n_40, n_41, n_42, n_43, n_45, n_46, n_48, n_57, n_59, n_60, n_73, n_76, n_97, n_99, n_100, n_106, n_109, n_120, n_122, n_136, n_160, n_176, n_200, n_255, n_800, n_1000, n_1001, n_1002, n_1003, n_1006, n_1012, n_1018, n_1019, n_1020, n_1100, n_1140, n_4800, n_4920, n_5940, n_6740, n_20220, q_kI, q_lI, q_nI, q_rI, q_iI, q_jI, q_dI, q_kJ, q_lJ, q_nJ, q_rJ, q_iJ, q_jJ, q_dJ, q_kC, q_lC, q_nC, q_rC, q_jC, q_dC, q_kF, q_lF, q_nF, q_rF, q_jF, q_dF, q_us, q_un, q_ua, F_X9_fail, B_X9_fail_14, k2, b3, b2]
        clear h hB1 hB2 w pk hn cc fx
        simp (disch := first | assumption | omega) only [q_bl, q_baT, q_bi, q_ba, q_pr, q_ob, q_iT, q_iN, q_it, q_if, q_of, nI_add, pk_mul, pk_sub, nI_leI, nI_ltI, nI_clamp, nI_lt0, nI_eqm, m1_eq, true_or, or_true, not_false_eq_true, m1_lt, m1_nlt, m1_le, m1_nle, b01, b011, q_em, q_m1, n_0, n_1, n_2, n_3, n_4, n_5, n_6, n_7, n_8, n_9, n_10, n_11, n_12, n_14, n_15, n_16, n_20, n_24, n_25, n_32, n_36, n_40, n_41, n_42, n_43, n_45, n_46, n_48, n_57, n_59, n_60, n_73, n_76, n_97, n_99, n_100, n_106, n_109, n_120, n_122, n_136, n_160, n_176, n_200, n_255, n_800, n_1000, n_1001, n_1002, n_1003, n_1006, n_1012, n_1018, n_1019, n_1020, n_1100, n_1140, n_4800, n_4920, n_5940, n_6740, n_20220, F_X9_card, q0, gA, ne40, eC, k2, b3n, eF]
      · have h0 : tkc n s e = 0 := by
          unfold tkc at h5 h1 ⊢
          split
          · split
            · rfl
            · rename_i q1 q2; rw [if_pos q1, if_neg q2] at h1; omega
          · rename_i q1; rw [if_neg q1] at h5 h1
            split
            · rename_i q2; rw [if_pos q2] at h5; omega
            · rename_i q2; rw [if_neg q2] at h1; omega
        have hN : n ≤ s := by
          by_cases hN : n ≤ s
          · exact hN
          · unfold tkc at h0
            by_cases he : e = s
            · rw [if_pos he, if_neg hN] at h0; omega
            · rw [if_neg he] at h0; split at h0 <;> omega
        rw [h0] at b3
        rw [if_pos hN]
        refine ⟨nI 0, stI (stI μ2 m 16 (nI 2)) m 17 (nI s), ?_, (RFr.mm f12 g12).trans (RFr.mm (fx _ _) (fun j hj => by rw [q_iI, q_un (by omega), q_iI, q_un (by omega)])), Or.inr ⟨rfl, (2, s), ⟨by rw [q_iI, q_un (by omega), q_iI, q_us], by rw [q_iI, q_us], (show 1 ≤ 2 by decide), (show 2 ≤ 5 by decide)⟩, rfl⟩⟩
        have eF : F_X9_fail m (nI 2) μ2 = some (nI 0, stI (stI μ2 m 16 (nI 2)) m 17 (nI s)) := by
          clear h hB1 hB2 w pk hn
          simp (disch := first | assumption | omega) only [q_bl, q_baT, q_bi, q_ba, q_pr, q_ob, q_iT, q_iN, q_it, q_if, q_of, nI_add, pk_mul, pk_sub, nI_leI, nI_ltI, nI_eq, nI_clamp, nI_lt0, nI_eqm, m1_eq, true_or, or_true, not_false_eq_true, m1_lt, m1_nlt, m1_le, m1_nle, b01, b011, q_em, q_m1, n_0, n_1, n_2, n_3, n_4, n_5, n_6, n_7, n_8, n_9, n_10, n_11, n_12, n_14, n_15, n_16, n_20, n_24, n_25, n_32, n_36, n_40, n_41, n_42, n_43, n_45, n_46, n_48, n_57, n_59, n_60, n_73, n_76, n_97, n_99, n_100, n_106, n_109, n_120, n_122, n_136, n_160, n_176, n_200, n_255, n_800, n_1000, n_1001, n_1002, n_1003, n_1006, n_1012, n_1018, n_1019, n_1020, n_1100, n_1140, n_4800, n_4920, n_5940, n_6740, n_20220, q_kI, q_lI, q_nI, q_rI, q_iI, q_jI, q_dI, q_kJ, q_lJ, q_nJ, q_rJ, q_iJ, q_jJ, q_dJ, q_kC, q_lC, q_nC, q_rC, q_jC, q_dC, q_kF, q_lF, q_nF, q_rF, q_jF, q_dF, q_us, q_un, q_ua, F_X9_fail, B_X9_fail_14, k2, b3, b2]
        clear h hB1 hB2 w pk hn cc fx
        simp (disch := first | assumption | omega) only [q_bl, q_baT, q_bi, q_ba, q_pr, q_ob, q_iT, q_iN, q_it, q_if, q_of, nI_add, pk_mul, pk_sub, nI_leI, nI_ltI, nI_clamp, nI_lt0, nI_eqm, m1_eq, true_or, or_true, not_false_eq_true, m1_lt, m1_nlt, m1_le, m1_nle, b01, b011, q_em, q_m1, n_0, n_1, n_2, n_3, n_4, n_5, n_6, n_7, n_8, n_9, n_10, n_11, n_12, n_14, n_15, n_16, n_20, n_24, n_25, n_32, n_36, n_40, n_41, n_42, n_43, n_45, n_46, n_48, n_57, n_59, n_60, n_73, n_76, n_97, n_99, n_100, n_106, n_109, n_120, n_122, n_136, n_160, n_176, n_200, n_255, n_800, n_1000, n_1001, n_1002, n_1003, n_1006, n_1012, n_1018, n_1019, n_1020, n_1100, n_1140, n_4800, n_4920, n_5940, n_6740, n_20220, F_X9_card, q0, gA, ne40, eC, k2, b3n, eF]
end RCD

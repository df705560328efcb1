/-! LAYER 3: the class's reader: cards -/
/-- what a card's sign says -/
def cs (c : Nat) : Int32 := if isDg c = true then nI (c - 48) else if c = 46 then -nI 1 else if c = 120 then nI 99 else nI (100 + c - 97)
/-- a card's columns: the signs of a run of l -/
def ccol (b : Nat → Nat) (s l j : Nat) : Int32 := if j < l then cs (b (s + j)) else -nI 1
def crow (b : Nat → Nat) (A : SA) (s l : Nat) : SA := fun i => if i = 8 then nI (nt (A 8) + 1) else if 200 + 20 * nt (A 8) ≤ i ∧ i < 200 + 20 * nt (A 8) + 20 then ccol b s l (i - (200 + 20 * nt (A 8))) else A i
def g_card (b : Nat → Nat) (n : Nat) (g : GST) : GST := match g with
  | .inl e => .inl e
  | .inr (p, ls, A, nc, wn) =>
    let s := ts b n p
    let e := rn isCs b (n - s) s
    g_tok b n 3 (if 40 ≤ nt (A 8) then .inl (5, ls) else if n ≤ s then .inl (2, s) else if e = s ∨ 20 < e - s then .inl (1, s) else .inr (e, s, crow b A s (e - s), nc, wn))
section CRD
variable {μ μ' μ1 : Mem} {d n lo p ls : Nat} {b : Nat → Nat} {A : SA} {nc : Nat → Nat} {wn : Nat → Nat → List Nat}
theorem x5_C1 {c : Nat} (hc : c < 256) (h : isCs c = true) : F_X5_isCardSign (nI c) μ = some (nI 1) := by
  by_cases hd : isDg c = true
  · have e := x5_D1 (μ := μ) hd
    simp (disch := first | assumption | omega) only [q_bl, q_baT, q_bi, q_ba, q_pr, q_ob, q_iT, q_iN, q_it, q_if, q_of, nI_add, pk_mul, pk_sub, nI_leI, nI_ltI, nI_eq, nI_clamp, nI_lt0, nI_eqm, m1_eq, true_or, or_true, not_false_eq_true, m1_lt, m1_nlt, m1_le, m1_nle, b01, b011, q_em, q_m1, n_0, n_1, n_2, n_3, n_4, n_5, n_6, n_7, n_8, n_9, n_10, n_11, n_12, n_14, n_15, n_16, n_20, n_24, n_25, n_32, n_36, n_40, n_41, n_42, n_43, n_45, n_46, n_48, n_57, n_59, n_60, n_73, n_76, n_97, n_99, n_100, n_106, n_109, n_120, n_122, n_136, n_160, n_176, n_200, n_255, n_800, n_1000, n_1001, n_1002, n_1003, n_1006, n_1012, n_1018, n_1019, n_1020, n_1100, n_1140, n_4800, n_4920, n_5940, n_6740, n_20220, F_X5_isCardSign, e]
  · have e := x5_D0 (μ := μ) (show c < 1000 by omega) hd
    rw [isCs_T] at h
    rw [isDg_T] at hd
    by_cases h1 : c < 97
    · have h2 : c = 46 := by omega
      subst h2
      simp (disch := first | assumption | omega) only [q_bl, q_baT, q_bi, q_ba, q_pr, q_ob, q_iT, q_iN, q_it, q_if, q_of, nI_add, pk_mul, pk_sub, nI_leI, nI_ltI, nI_eq, nI_clamp, nI_lt0, nI_eqm, m1_eq, true_or, or_true, not_false_eq_true, m1_lt, m1_nlt, m1_le, m1_nle, b01, b011, q_em, q_m1, n_0, n_1, n_2, n_3, n_4, n_5, n_6, n_7, n_8, n_9, n_10, n_11, n_12, n_14, n_15, n_16, n_20, n_24, n_25, n_32, n_36, n_40, n_41, n_42, n_43, n_45, n_46, n_48, n_57, n_59, n_60, n_73, n_76, n_97, n_99, n_100, n_106, n_109, n_120, n_122, n_136, n_160, n_176, n_200, n_255, n_800, n_1000, n_1001, n_1002, n_1003, n_1006, n_1012, n_1018, n_1019, n_1020, n_1100, n_1140, n_4800, n_4920, n_5940, n_6740, n_20220, F_X5_isCardSign, B_X5_isCardSign_19, e]
    · by_cases h2 : c ≤ 106
      · simp (disch := first | assumption | omega) only [q_bl, q_baT, q_bi, q_ba, q_pr, q_ob, q_iT, q_iN, q_it, q_if, q_of, nI_add, pk_mul, pk_sub, nI_leI, nI_ltI, nI_eq, nI_clamp, nI_lt0, nI_eqm, m1_eq, true_or, or_true, not_false_eq_true, m1_lt, m1_nlt, m1_le, m1_nle, b01, b011, q_em, q_m1, n_0, n_1, n_2, n_3, n_4, n_5, n_6, n_7, n_8, n_9, n_10, n_11, n_12, n_14, n_15, n_16, n_20, n_24, n_25, n_32, n_36, n_40, n_41, n_42, n_43, n_45, n_46, n_48, n_57, n_59, n_60, n_73, n_76, n_97, n_99, n_100, n_106, n_109, n_120, n_122, n_136, n_160, n_176, n_200, n_255, n_800, n_1000, n_1001, n_1002, n_1003, n_1006, n_1012, n_1018, n_1019, n_1020, n_1100, n_1140, n_4800, n_4920, n_5940, n_6740, n_20220, F_X5_isCardSign, B_X5_isCardSign_19, e, h1, h2]
      · have h3 : c = 120 := by omega
        subst h3
        simp (disch := first | assumption | omega) only [q_bl, q_baT, q_bi, q_ba, q_pr, q_ob, q_iT, q_iN, q_it, q_if, q_of, nI_add, pk_mul, pk_sub, nI_leI, nI_ltI, nI_eq, nI_clamp, nI_lt0, nI_eqm, m1_eq, true_or, or_true, not_false_eq_true, m1_lt, m1_nlt, m1_le, m1_nle, b01, b011, q_em, q_m1, n_0, n_1, n_2, n_3, n_4, n_5, n_6, n_7, n_8, n_9, n_10, n_11, n_12, n_14, n_15, n_16, n_20, n_24, n_25, n_32, n_36, n_40, n_41, n_42, n_43, n_45, n_46, n_48, n_57, n_59, n_60, n_73, n_76, n_97, n_99, n_100, n_106, n_109, n_120, n_122, n_136, n_160, n_176, n_200, n_255, n_800, n_1000, n_1001, n_1002, n_1003, n_1006, n_1012, n_1018, n_1019, n_1020, n_1100, n_1140, n_4800, n_4920, n_5940, n_6740, n_20220, F_X5_isCardSign, B_X5_isCardSign_19, e]
theorem x5_C0 {c : Nat} (hc : c < 256) (h : ¬ isCs c = true) : F_X5_isCardSign (nI c) μ = some (nI 0) := by
  rw [isCs_T] at h
  have hd : ¬ isDg c = true := by rw [isDg_T]; omega
  have e := x5_D0 (μ := μ) (show c < 1000 by omega) hd
  have h3 : ¬ c = 120 := by omega
  have h4 : ¬ c = 46 := by omega
  by_cases h1 : c < 97
  · simp (disch := first | assumption | omega) only [q_bl, q_baT, q_bi, q_ba, q_pr, q_ob, q_iT, q_iN, q_it, q_if, q_of, nI_add, pk_mul, pk_sub, nI_leI, nI_ltI, nI_eq, nI_clamp, nI_lt0, nI_eqm, m1_eq, true_or, or_true, not_false_eq_true, m1_lt, m1_nlt, m1_le, m1_nle, b01, b011, q_em, q_m1, n_0, n_1, n_2, n_3, n_4, n_5, n_6, n_7, n_8, n_9, n_10, n_11, n_12, n_14, n_15, n_16, n_20, n_24, n_25, n_32, n_36, n_40, n_41, n_42, n_43, n_45, n_46, n_48, n_57, n_59, n_60, n_73, n_76, n_97, n_99, n_100, n_106, n_109, n_120, n_122, n_136, n_160, n_176, n_200, n_255, n_800, n_1000, n_1001, n_1002, n_1003, n_1006, n_1012, n_1018, n_1019, n_1020, n_1100, n_1140, n_4800, n_4920, n_5940, n_6740, n_20220, F_X5_isCardSign, B_X5_isCardSign_19, e, h1, h3, h4]
  · have h2 : ¬ c ≤ 106 := by omega
    simp (disch := first | assumption | omega) only [q_bl, q_baT, q_bi, q_ba, q_pr, q_ob, q_iT, q_iN, q_it, q_if, q_of, nI_add, pk_mul, pk_sub, nI_leI, nI_ltI, nI_eq, nI_clamp, nI_lt0, nI_eqm, m1_eq, true_or, or_true, not_false_eq_true, m1_lt, m1_nlt, m1_le, m1_nle, b01, b011, q_em, q_m1, n_0, n_1, n_2, n_3, n_4, n_5, n_6, n_7, n_8, n_9, n_10, n_11, n_12, n_14, n_15, n_16, n_20, n_24, n_25, n_32, n_36, n_40, n_41, n_42, n_43, n_45, n_46, n_48, n_57, n_59, n_60, n_73, n_76, n_97, n_99, n_100, n_106, n_109, n_120, n_122, n_136, n_160, n_176, n_200, n_255, n_800, n_1000, n_1001, n_1002, n_1003, n_1006, n_1012, n_1018, n_1019, n_1020, n_1100, n_1140, n_4800, n_4920, n_5940, n_6740, n_20220, F_X5_isCardSign, B_X5_isCardSign_19, e, h1, h2, h3, h4]
theorem x5_cs {c : Nat} (hc : c < 256) (h : isCs c = true) : F_X5_codeOfSign (nI c) μ = some (cs c) := by
  unfold cs
  by_cases hd : isDg c = true
  · have e := x5_D1 (μ := μ) hd
    rw [if_pos hd]
    rw [isDg_T] at hd
    simp (disch := first | assumption | omega) only [q_bl, q_baT, q_bi, q_ba, q_pr, q_ob, q_iT, q_iN, q_it, q_if, q_of, nI_add, pk_mul, pk_sub, nI_leI, nI_ltI, nI_eq, nI_clamp, nI_lt0, nI_eqm, m1_eq, true_or, or_true, not_false_eq_true, m1_lt, m1_nlt, m1_le, m1_nle, b01, b011, q_em, q_m1, n_0, n_1, n_2, n_3, n_4, n_5, n_6, n_7, n_8, n_9, n_10, n_11, n_12, n_14, n_15, n_16, n_20, n_24, n_25, n_32, n_36, n_40, n_41, n_42, n_43, n_45, n_46, n_48, n_57, n_59, n_60, n_73, n_76, n_97, n_99, n_100, n_106, n_109, n_120, n_122, n_136, n_160, n_176, n_200, n_255, n_800, n_1000, n_1001, n_1002, n_1003, n_1006, n_1012, n_1018, n_1019, n_1020, n_1100, n_1140, n_4800, n_4920, n_5940, n_6740, n_20220, F_X5_codeOfSign, e]
  · have e := x5_D0 (μ := μ) (show c < 1000 by omega) hd
    rw [if_neg hd]
    rw [isCs_T] at h
    rw [isDg_T] at hd
    by_cases h4 : c = 46
    · rw [if_pos h4]
      subst h4
      simp (disch := first | assumption | omega) only [q_bl, q_baT, q_bi, q_ba, q_pr, q_ob, q_iT, q_iN, q_it, q_if, q_of, nI_add, pk_mul, pk_sub, nI_leI, nI_ltI, nI_eq, nI_clamp, nI_lt0, nI_eqm, m1_eq, true_or, or_true, not_false_eq_true, m1_lt, m1_nlt, m1_le, m1_nle, b01, b011, q_em, q_m1, n_0, n_1, n_2, n_3, n_4, n_5, n_6, n_7, n_8, n_9, n_10, n_11, n_12, n_14, n_15, n_16, n_20, n_24, n_25, n_32, n_36, n_40, n_41, n_42, n_43, n_45, n_46, n_48, n_57, n_59, n_60, n_73, n_76, n_97, n_99, n_100, n_106, n_109, n_120, n_122, n_136, n_160, n_176, n_200, n_255, n_800, n_1000, n_1001, n_1002, n_1003, n_1006, n_1012, n_1018, n_1019, n_1020, n_1100, n_1140, n_4800, n_4920, n_5940, n_6740, n_20220, F_X5_codeOfSign, e]
    · rw [if_neg h4]
      by_cases h3 : c = 120
      · rw [if_pos h3]
        subst h3
        simp (disch := first | assumption | omega) only [q_bl, q_baT, q_bi, q_ba, q_pr, q_ob, q_iT, q_iN, q_it, q_if, q_of, nI_add, pk_mul, pk_sub, nI_leI, nI_ltI, nI_eq, nI_clamp, nI_lt0, nI_eqm, m1_eq, true_or, or_true, not_false_eq_true, m1_lt, m1_nlt, m1_le, m1_nle, b01, b011, q_em, q_m1, n_0, n_1, n_2, n_3, n_4, n_5, n_6, n_7, n_8, n_9, n_10, n_11, n_12, n_14, n_15, n_16, n_20, n_24, n_25, n_32, n_36, n_40, n_41, n_42, n_43, n_45, n_46, n_48, n_57, n_59, n_60, n_73, n_76, n_97, n_99, n_100, n_106, n_109, n_120, n_122, n_136, n_160, n_176, n_200, n_255, n_800, n_1000, n_1001, n_1002, n_1003, n_1006, n_1012, n_1018, n_1019, n_1020, n_1100, n_1140, n_4800, n_4920, n_5940, n_6740, n_20220, F_X5_codeOfSign, e]
      · rw [if_neg h3]
        simp (disch := first | assumption | omega) only [q_bl, q_baT, q_bi, q_ba, q_pr, q_ob, q_iT, q_iN, q_it, q_if, q_of, nI_add, pk_mul, pk_sub, nI_leI, nI_ltI, nI_eq, nI_clamp, nI_lt0, nI_eqm, m1_eq, true_or, or_true, not_false_eq_true, m1_lt, m1_nlt, m1_le, m1_nle, b01, b011, q_em, q_m1, n_0, n_1, n_2, n_3, n_4, n_5, n_6, n_7, n_8, n_9, n_10, n_11, n_12, n_14, n_15, n_16, n_20, n_24, n_25, n_32, n_36, n_40, n_41, n_42, n_43, n_45, n_46, n_48, n_57, n_59, n_60, n_73, n_76, n_97, n_99, n_100, n_106, n_109, n_120, n_122, n_136, n_160, n_176, n_200, n_255, n_800, n_1000, n_1001, n_1002, n_1003, n_1006, n_1012, n_1018, n_1019, n_1020, n_1100, n_1140, n_4800, n_4920, n_5940, n_6740, n_20220, F_X5_codeOfSign, e, h3, h4]
theorem CB.dk (h : CB μ d b n) (f : Fx (fun a => a = d ∨ a = d + 24) μ μ') (e : gI μ' d 2 = gI μ d 2) : CB μ' d b n := by
  obtain ⟨h1, h2, h3, h4, h5, h6⟩ := h
  refine ⟨h1.fx f, e.trans h2, h3, fun k hk => ?_, fun k hk => ?_, ?_⟩
  · rw [f.I (by omega)]; exact h4 k hk
  · rw [f.I (by omega)]; exact h5 k hk
  · rw [f.I (by omega)]; exact h6
theorem l5_cols {c s : Nat} (hc : c < 40) : ∀ (q fu k : Nat) (μ : Mem), q < fu → CB μ d b n → gI μ d 3 = nI (s + k) → gI μ d 4 = nI s → s + k + q = n → gI μ (d + 23) 1 = nI (c + 1) →
    ∃ μ', L_X5_takeColumns_12 fu d (nI c) μ = B_X5_takeColumns_82 d μ' ∧ gI μ' d 3 = nI (rn isCs b q (s + k)) ∧ Fx (fun a => a = d ∨ a = d + 24) μ μ' ∧ (∀ j, ¬ j = 3 → gI μ' d j = gI μ d j) ∧
      ∀ i, gI μ' (d + 24) i = if c * 20 + k ≤ i ∧ i < c * 20 + 20 ∧ i - c * 20 < rn isCs b q (s + k) - s then cs (b (s + (i - c * 20))) else gI μ (d + 24) i := by
  intro q
  induction q with
  | zero =>
    intro fu k μ hf h g gs hp g1
    obtain ⟨fu, rfl⟩ : ∃ k, fu = k + 1 := ⟨fu - 1, by omega⟩
    refine ⟨μ, ?_, g, Fx.same, fun _ _ => rfl, fun i => ?_⟩
    · have hn := h.tx.1
      have k0 := h.kd
      have g2 := h.2.1
      clear h
      simp (disch := first | assumption | omega) only [q_bl, q_baT, q_bi, q_ba, q_pr, q_ob, q_iT, q_iN, q_it, q_if, q_of, nI_add, pk_mul, pk_sub, nI_leI, nI_ltI, nI_eq, nI_clamp, nI_lt0, nI_eqm, m1_eq, true_or, or_true, not_false_eq_true, m1_lt, m1_nlt, m1_le, m1_nle, b01, b011, q_em, q_m1, n_0, n_1, n_2, n_3, n_4, n_5, n_6, n_7, n_8, n_9, n_10, n_11, n_12, n_14, n_15, n_16, n_20, n_24, n_25, n_32, n_36, n_40, n_41, n_42, n_43, n_45, n_46, n_48, n_57, n_59, n_60, n_73, n_76, n_97, n_99, n_100, n_106, n_109, n_120, n_122, n_136, n_160, n_176, n_200, n_255, n_800, n_1000, n_1001, n_1002, n_1003, n_1006, n_1012, n_1018, n_1019, n_1020, n_1100, n_1140, n_4800, n_4920, n_5940, n_6740, n_20220, L_X5_takeColumns_12, B_X5_takeColumns_12, k0, g, g2]
    · have e : rn isCs b 0 (s + k) = s + k := rfl
      rw [e, if_neg (by omega)]
  | succ q ih =>
    intro fu k μ hf h g gs hp g1
    obtain ⟨fu, rfl⟩ : ∃ k, fu = k + 1 := ⟨fu - 1, by omega⟩
    have hn := h.tx.1
    have k0 := h.kd
    have g2 := h.2.1
    have r0 := h.r0
    have kt := h.k1
    have lt := h.l1
    have r16 := h.r16
    have kd := h.sd.1
    have gt := h.2.2.2.1 (s + k) (by omega)
    have hb := h.tx.2.1 (s + k) (by omega)
    by_cases hB : isCs (b (s + k)) = true
    · have i1 := x5_C1 (μ := μ) hb hB
      have i2 := x5_cs (μ := μ) hb hB
      have i3 := x2_punch (μ := μ) (d := d + 23) (c := c + 1) (i := c) (k := k + 1) (v := cs (b (s + k))) h.sd g1 (by omega) (by omega) (by omega) (by omega)
      have f1 : Fx (fun a => a = d ∨ a = d + 24) μ (if k + 1 ≤ 20 then stI μ (d + 23 + 1) (c * 20 + (k + 1) - 1) (cs (b (s + k))) else μ) := by
        split
        · exact Fx.stI (Or.inr rfl)
        · exact Fx.same
      have hd : gI (if k + 1 ≤ 20 then stI μ (d + 23 + 1) (c * 20 + (k + 1) - 1) (cs (b (s + k))) else μ) d = gI μ d := by
        split
        · rw [q_iI, q_ua (by omega)]
        · rfl
      have hk24 : ∀ i, gI (if k + 1 ≤ 20 then stI μ (d + 23 + 1) (c * 20 + (k + 1) - 1) (cs (b (s + k))) else μ) (d + 24) i = if i = c * 20 + k ∧ k < 20 then cs (b (s + k)) else gI μ (d + 24) i := fun i => by
        by_cases h20 : k + 1 ≤ 20
        · rw [if_pos h20, q_iI, show d + 23 + 1 = d + 24 from rfl]
          by_cases hi : i = c * 20 + k
          · rw [show c * 20 + (k + 1) - 1 = i from by omega, q_us, if_pos ⟨hi, by omega⟩]
          · rw [q_un (fun e => hi (by omega)), if_neg (fun e => hi e.1)]
        · rw [if_neg h20, if_neg (fun e => by omega)]
      generalize hμ1 : (if k + 1 ≤ 20 then stI μ (d + 23 + 1) (c * 20 + (k + 1) - 1) (cs (b (s + k))) else μ) = μ1 at *
      have f2 : Fx (fun a => a = d ∨ a = d + 24) μ (stI μ1 d 3 (nI (s + k + 1))) := f1.trans (Fx.stI (Or.inl rfl))
      have gd : ∀ j, ¬ j = 3 → gI (stI μ1 d 3 (nI (s + k + 1))) d j = gI μ d j := fun j hj => by rw [q_iI, q_un (by omega), hd]
      have k1 := (h.dk f1 (by rw [hd])).kd
      obtain ⟨μ', e1, e2, e3, e4, e5⟩ := ih fu (k + 1) (stI μ1 d 3 (nI (s + k + 1))) (by omega) (h.dk f2 (gd 2 (by decide))) (by rw [q_iI, q_us]; rfl) (by rw [gd 4 (by decide)]; exact gs) (by omega) (by rw [f2.I (by omega)]; exact g1)
      have hge : s + (k + 1) ≤ rn isCs b q (s + (k + 1)) := rn_ge _ _
      have ern : rn isCs b (q + 1) (s + k) = rn isCs b q (s + (k + 1)) := rn_s hB
      rw [ern]
      refine ⟨μ', ?_, e2, f2.trans e3, fun j hj => by rw [e4 j hj, gd j hj], fun i => ?_⟩
      · rw [← e1]
        have hsub : nI (s + k) - nI s = nI k := by rw [pk_sub (by omega)]; congr 1; omega
        have g3' : gI μ1 d 3 = nI (s + k) := by rw [hd]; exact g
        clear h ih e1 e2 e3 e4 e5 f1 f2 gd hk24 hd hμ1 hge ern
        simp (disch := first | assumption | omega) only [q_bl, q_baT, q_bi, q_ba, q_pr, q_ob, q_iT, q_iN, q_it, q_if, q_of, nI_add, pk_mul, nI_leI, nI_ltI, nI_eq, nI_clamp, nI_lt0, nI_eqm, m1_eq, true_or, or_true, not_false_eq_true, m1_lt, m1_nlt, m1_le, m1_nle, b01, b011, q_em, q_m1, n_0, n_1, n_2, n_3, n_4, n_5, n_6, n_7, n_8, n_9, n_10, n_11, n_12, n_14, n_15, n_16, n_20, n_24, n_25, n_32, n_36, n_40, n_41, n_42, n_43, n_45, n_46, n_48, n_57, n_59, n_60, n_73, n_76, n_97, n_99, n_100, n_106, n_109, n_120, n_122, n_136, n_160, n_176, n_200, n_255, n_800, n_1000, n_1001, n_1002, n_1003, n_1006, n_1012, n_1018, n_1019, n_1020, n_1100, n_1140, n_4800, n_4920, n_5940, n_6740, n_20220, L_X5_takeColumns_12, B_X5_takeColumns_12, k0, g, gs, g2, r0, kt, lt, gt, i1, i2, r16, kd, hsub, i3, k1, g3']
      · rw [e5 i, q_iI, q_ua (by omega), hk24]
        by_cases hi : i = c * 20 + k
        · subst hi
          by_cases h20 : k < 20
          · rw [if_neg (by omega), if_pos ⟨rfl, h20⟩, if_pos (by omega)]
            congr 2; omega
          · rw [if_neg (by omega), if_neg (by omega), if_neg (by omega)]
        · by_cases hc2 : c * 20 + (k + 1) ≤ i ∧ i < c * 20 + 20 ∧ i - c * 20 < rn isCs b q (s + (k + 1)) - s
          · rw [if_pos hc2, if_pos (by omega)]
          · rw [if_neg hc2, if_neg (fun e => hi e.1), if_neg (by omega)]
    · have i1 := x5_C0 (μ := μ) hb hB
      have ern : rn isCs b (q + 1) (s + k) = s + k := rn_n hB
      rw [ern]
      refine ⟨μ, ?_, g, Fx.same, fun _ _ => rfl, fun i => by rw [if_neg (by omega)]⟩
      clear h ih ern
      simp (disch := first | assumption | omega) only [q_bl, q_baT, q_bi, q_ba, q_pr, q_ob, q_iT, q_iN, q_it, q_if, q_of, nI_add, pk_mul, pk_sub, nI_leI, nI_ltI, nI_eq, nI_clamp, nI_lt0, nI_eqm, m1_eq, true_or, or_true, not_false_eq_true, m1_lt, m1_nlt, m1_le, m1_nle, b01, b011, q_em, q_m1, n_0, n_1, n_2, n_3, n_4, n_5, n_6, n_7, n_8, n_9, n_10, n_11, n_12, n_14, n_15, n_16, n_20, n_24, n_25, n_32, n_36, n_40, n_41, n_42, n_43, n_45, n_46, n_48, n_57, n_59, n_60, n_73, n_76, n_97, n_99, n_100, n_106, n_109, n_120, n_122, n_136, n_160, n_176, n_200, n_255, n_800, n_1000, n_1001, n_1002, n_1003, n_1006, n_1012, n_1018, n_1019, n_1020, n_1100, n_1140, n_4800, n_4920, n_5940, n_6740, n_20220, L_X5_takeColumns_12, B_X5_takeColumns_12, k0, g, g2, r0, kt, lt, gt, i1]
theorem x5_card (h : CR μ d b n lo (.inr (p, ls, A, nc, wn))) : ∃ μ', F_X5_readCard d μ = some μ' ∧ CR μ' d b n lo (g_card b n (.inr (p, ls, A, nc, wn))) ∧ FR d μ μ' := by
  have eg : g_card b n (.inr (p, ls, A, nc, wn)) = g_tok b n 3 (if 40 ≤ nt (A 8) then .inl (5, ls) else if n ≤ ts b n p then .inl (2, ts b n p) else if rn isCs b (n - ts b n p) (ts b n p) = ts b n p ∨ 20 < rn isCs b (n - ts b n p) (ts b n p) - ts b n p then .inl (1, ts b n p) else .inr (rn isCs b (n - ts b n p) (ts b n p), ts b n p, crow b A (ts b n p) (rn isCs b (n - ts b n p) (ts b n p) - ts b n p), nc, wn)) := rfl
  rw [eg]
  clear eg
  obtain ⟨hB, hG⟩ := h
  obtain ⟨o1, o2, o3, o4, o5, o6, t1, t2, t3, t4, t5, t6, t7⟩ := hG
  have k0 := hB.kd
  have r16 := hB.r16
  have kd := hB.sd.1
  have hn := hB.tx.1
  have g8 : gI μ (d + 23) 1 = nI (nt (A 8)) := t3.1.trans t4.2.1
  have h8 := t4.2.2
  by_cases hf : 40 ≤ nt (A 8)
  · rw [if_pos hf]
    have hf2 : nt (A 8) = 40 := by omega
    rw [hf2] at g8
    have e1 := x2_addF hB.sd g8
    obtain ⟨μ2, e2, c2, f2⟩ := gfail (k := 5) (lo := lo) (g := .inr (p, ls, A, nc, wn)) ⟨hB, ⟨o1, o2, o3, o4, o5, o6, t1, t2, t3, t4, t5, t6, t7⟩⟩ (by decide) (by decide)
    obtain ⟨μ3, e3, c3, f3⟩ := gsemi c2
    refine ⟨μ3, ?_, c3, f2.trans f3⟩
    have k2 := c2.1.kd
    have n2 := CE.ne c2.2
    clear hB t1 t2 t3 t4 t5 t6 t7 c2 c3 f2 f3
    simp (disch := first | assumption | omega) only [q_bl, q_baT, q_bi, q_ba, q_pr, q_ob, q_iT, q_iN, q_it, q_if, q_of, nI_add, pk_mul, pk_sub, nI_leI, nI_ltI, nI_eq, nI_clamp, nI_lt0, nI_eqm, m1_eq, true_or, or_true, not_false_eq_true, m1_lt, m1_nlt, m1_le, m1_nle, b01, b011, q_em, q_m1, n_0, n_1, n_2, n_3, n_4, n_5, n_6, n_7, n_8, n_9, n_10, n_11, n_12, n_14, n_15, n_16, n_20, n_24, n_25, n_32, n_36, n_40, n_41, n_42, n_43, n_45, n_46, n_48, n_57, n_59, n_60, n_73, n_76, n_97, n_99, n_100, n_106, n_109, n_120, n_122, n_136, n_160, n_176, n_200, n_255, n_800, n_1000, n_1001, n_1002, n_1003, n_1006, n_1012, n_1018, n_1019, n_1020, n_1100, n_1140, n_4800, n_4920, n_5940, n_6740, n_20220, F_X5_readCard, B_X5_readCard_18, F_X5_takeColumns, k0, r16, kd, e1, e2, k2, n2, e3]
  · rw [if_neg hf]
    have e1 := x2_add hB.sd g8 (by omega)
    have fa : Fx (fun a => a = d + 23 ∨ a = d + 24) μ (stF (stI μ (d + 23) 1 (nI (nt (A 8) + 1))) (d + 23 + 1) (nt (A 8) * 20) ((nt (A 8) + 1) * 20) (-nI 1)) := (Fx.stI (Or.inl rfl)).trans (Fx.stF (Or.inr rfl))
    have ga : gI (stF (stI μ (d + 23) 1 (nI (nt (A 8) + 1))) (d + 23 + 1) (nt (A 8) * 20) ((nt (A 8) + 1) * 20) (-nI 1)) (d + 23) 1 = nI (nt (A 8) + 1) := by rw [q_iFo (by omega), q_iI, q_us]
    have gb : ∀ i, gI (stF (stI μ (d + 23) 1 (nI (nt (A 8) + 1))) (d + 23 + 1) (nt (A 8) * 20) ((nt (A 8) + 1) * 20) (-nI 1)) (d + 24) i = if nt (A 8) * 20 ≤ i ∧ i < (nt (A 8) + 1) * 20 then -nI 1 else gI μ (d + 24) i := fun i => by
      rw [q_iF]
      by_cases hi : nt (A 8) * 20 ≤ i ∧ i < (nt (A 8) + 1) * 20
      · rw [if_pos ⟨rfl, hi⟩, if_pos hi]
      · rw [if_neg (fun e => hi e.2), if_neg hi, q_iI, q_ua (by omega)]
    generalize hμa : stF (stI μ (d + 23) 1 (nI (nt (A 8) + 1))) (d + 23 + 1) (nt (A 8) * 20) ((nt (A 8) + 1) * 20) (-nI 1) = μa at *
    have Ba : CB μa d b n := by
      obtain ⟨h1, h2, h3, h4, h5, h6⟩ := hB
      refine ⟨h1.fx fa, ?_, h3, fun k hk => ?_, fun k hk => ?_, ⟨nt (A 8) + 1, ga, by omega, by omega⟩⟩
      · rw [fa.I (by omega)]; exact h2
      · rw [fa.I (by omega)]; exact h4 k hk
      · rw [fa.I (by omega)]; exact h5 k hk
    have da : gI μa d = gI μ d := fa.I (by omega)
    obtain ⟨μb, e2, b2, b3, b4, b5, b6⟩ := x5_skip Ba (by rw [da]; exact o2) o4
    have Bb := Ba.dd b4 (b5 2 (by decide) (by decide))
    have hs := ts_le (b := b) o4
    have hs2 := ts_ge (b := b) (n := n) (p := p)
    obtain ⟨μc, e3, a2, a3, a4, a5⟩ := l5_cols (c := nt (A 8)) (s := ts b n p) (by omega) (n - ts b n p) FU 0 μb (FU_gt (by omega)) Bb b2 b3 (by omega) (by rw [b4.I (by omega)]; exact ga)
    have Bc := Bb.dk a3 (a4 2 (by decide))
    have k1 := Ba.kd
    have kb := Bb.kd
    have kc := Bc.kd
    have z1 : gI μa d 13 = nI 0 := by rw [da]; exact o1
    have zc : gI μc d 13 = nI 0 := by rw [a4 13 (by decide), b5 13 (by decide) (by decide)]; exact z1
    have s4 : gI μc d 4 = nI (ts b n p) := by rw [a4 4 (by decide)]; exact b3
    have g2c := Bc.2.1
    have fabc : Fx (fun a => a = d ∨ a = d + 23 ∨ a = d + 24) μ μc := (fa.mono (fun a ha => Or.inr ha)).trans ((b4.mono (fun a ha => Or.inl ha)).trans (a3.mono (fun a ha => ha.elim Or.inl (fun e => Or.inr (Or.inr e)))))
    have dc : ∀ j, ¬ j = 3 → ¬ j = 4 → gI μc d j = gI μ d j := fun j h3 h4 => by rw [a4 j h3, b5 j h3 h4, da]
    have frc : FR d μ μc := ⟨fabc.mono (fun a ha => by omega), dc 1 (by decide) (by decide)⟩
    have ne1 : ¬ nI (nt (A 8)) = -nI 1 := by rw [nI_eqm (by omega)]; exact id
    have hle : rn isCs b (n - ts b n p) (ts b n p) ≤ n := by have := rn_le (P := isCs) (b := b) (n - ts b n p) (ts b n p); omega
    have hge : ts b n p ≤ rn isCs b (n - ts b n p) (ts b n p) := rn_ge _ _
    have ez : ts b n p + 0 = ts b n p := rfl
    rw [ez] at a2 a5
    generalize rn isCs b (n - ts b n p) (ts b n p) = e at *
    -- the end of the run decides
    have hfail : ∀ k : Nat, 1 ≤ k → k ≤ 5 → ∃ μ4, F_X5_fail d (nI k) μc = some μ4 ∧ CR μ4 d b n lo (.inl (k, ts b n p)) ∧ FR d μc μ4 := fun k q1 q5 => by
      have f2 : Fx (fun a => a = d) μc (stI (stI μc d 13 (nI k)) d 14 (gI μc d 4)) := (Fx.stI (P := fun a => a = d) rfl).trans (Fx.stI rfl)
      refine ⟨_, x5_fail kc zc, ⟨Bc.dd f2 ?_, ?_, q1, q5, ?_, hs⟩, FR.dd f2 ?_⟩
      · rw [q_iI, q_un (by omega), q_iI, q_un (by omega)]
      · rw [q_iI, q_un (by omega), q_iI, q_us]
      · rw [q_iI, q_us]; exact s4
      · rw [q_iI, q_un (by omega), q_iI, q_un (by omega)]
    have hx : ∃ μ4, B_X5_takeColumns_82 d μc = some μ4 ∧ CR μ4 d b n lo (if n ≤ ts b n p then .inl (2, ts b n p) else if e = ts b n p ∨ 20 < e - ts b n p then .inl (1, ts b n p) else .inr (e, ts b n p, crow b A (ts b n p) (e - ts b n p), nc, wn)) ∧ FR d μc μ4 := by
      by_cases hN : n ≤ ts b n p
      · rw [if_pos hN]
        obtain ⟨μ4, e4, c4, f4⟩ := hfail 2 (by decide) (by decide)
        refine ⟨μ4, ?_, c4, f4⟩
        have : ¬ ts b n p < n := by omega
        clear hB Ba Bb Bc c4 f4 hfail t1 t2 t3 t4 t5 t6 t7
        simp (disch := first | assumption | omega) only [q_bl, q_baT, q_bi, q_ba, q_pr, q_ob, q_iT, q_iN, q_it, q_if, q_of, nI_add, pk_mul, pk_sub, nI_leI, nI_ltI, nI_eq, nI_clamp, nI_lt0, nI_eqm, m1_eq, true_or, or_true, not_false_eq_true, m1_lt, m1_nlt, m1_le, m1_nle, b01, b011, q_em, q_m1, n_0, n_1, n_2, n_3, n_4, n_5, n_6, n_7, n_8, n_9, n_10, n_11, n_12, n_14, n_15, n_16, n_20, n_24, n_25, n_32, n_36, n_40, n_41, n_42, n_43, n_45, n_46, n_48, n_57, n_59, n_60, n_73, n_76, n_97, n_99, n_100, n_106, n_109, n_120, n_122, n_136, n_160, n_176, n_200, n_255, n_800, n_1000, n_1001, n_1002, n_1003, n_1006, n_1012, n_1018, n_1019, n_1020, n_1100, n_1140, n_4800, n_4920, n_5940, n_6740, n_20220, B_X5_takeColumns_82, kc, s4, g2c, this, e4]
      · rw [if_neg hN]
        have hN2 : ts b n p < n := by omega
        by_cases he : e = ts b n p ∨ 20 < e - ts b n p
        · rw [if_pos he]
          obtain ⟨μ4, e4, c4, f4⟩ := hfail 1 (by decide) (by decide)
          refine ⟨μ4, ?_, c4, f4⟩
          clear hB Ba Bb Bc c4 f4 hfail t1 t2 t3 t4 t5 t6 t7
          by_cases he1 : e = ts b n p
          · rw [he1] at a2
            simp (disch := first | assumption | omega) only [q_bl, q_baT, q_bi, q_ba, q_pr, q_ob, q_iT, q_iN, q_it, q_if, q_of, nI_add, pk_mul, pk_sub, nI_leI, nI_ltI, nI_eq, nI_clamp, nI_lt0, nI_eqm, m1_eq, true_or, or_true, not_false_eq_true, m1_lt, m1_nlt, m1_le, m1_nle, b01, b011, q_em, q_m1, n_0, n_1, n_2, n_3, n_4, n_5, n_6, n_7, n_8, n_9, n_10, n_11, n_12, n_14, n_15, n_16, n_20, n_24, n_25, n_32, n_36, n_40, n_41, n_42, n_43, n_45, n_46, n_48, n_57, n_59, n_60, n_73, n_76, n_97, n_99, n_100, n_106, n_109, n_120, n_122, n_136, n_160, n_176, n_200, n_255, n_800, n_1000, n_1001, n_1002, n_1003, n_1006, n_1012, n_1018, n_1019, n_1020, n_1100, n_1140, n_4800, n_4920, n_5940, n_6740, n_20220, B_X5_takeColumns_82, B_X5_takeColumns_126, kc, s4, g2c, hN2, a2, e4]
          · have he2 : ¬ e - ts b n p ≤ 20 := by omega
            simp (disch := first | assumption | omega) only [q_bl, q_baT, q_bi, q_ba, q_pr, q_ob, q_iT, q_iN, q_it, q_if, q_of, nI_add, pk_mul, pk_sub, nI_leI, nI_ltI, nI_eq, nI_clamp, nI_lt0, nI_eqm, m1_eq, true_or, or_true, not_false_eq_true, m1_lt, m1_nlt, m1_le, m1_nle, b01, b011, q_em, q_m1, n_0, n_1, n_2, n_3, n_4, n_5, n_6, n_7, n_8, n_9, n_10, n_11, n_12, n_14, n_15, n_16, n_20, n_24, n_25, n_32, n_36, n_40, n_41, n_42, n_43, n_45, n_46, n_48, n_57, n_59, n_60, n_73, n_76, n_97, n_99, n_100, n_106, n_109, n_120, n_122, n_136, n_160, n_176, n_200, n_255, n_800, n_1000, n_1001, n_1002, n_1003, n_1006, n_1012, n_1018, n_1019, n_1020, n_1100, n_1140, n_4800, n_4920, n_5940, n_6740, n_20220, B_X5_takeColumns_82, B_X5_takeColumns_126, kc, s4, g2c, hN2, a2, e4, he1, he2]
        · rw [if_neg he]
          refine ⟨μc, ?_, ⟨Bc, zc, a2, by omega, hle, s4, hs, fun k hk => ?_, fun l l1 l2 => ?_, ?_, ⟨fun k hk => ?_, ?_, ?_⟩, ?_, t6, fun u hu => ?_⟩, FR.same⟩
          · have he1 : ¬ e = ts b n p := fun q => he (Or.inl q)
            have he2 : e - ts b n p ≤ 20 := by omega
            clear hB Ba Bb Bc hfail t1 t2 t3 t4 t5 t6 t7
            simp (disch := first | assumption | omega) only [q_bl, q_baT, q_bi, q_ba, q_pr, q_ob, q_iT, q_iN, q_it, q_if, q_of, nI_add, pk_mul, pk_sub, nI_leI, nI_ltI, nI_eq, nI_clamp, nI_lt0, nI_eqm, m1_eq, true_or, or_true, not_false_eq_true, m1_lt, m1_nlt, m1_le, m1_nle, b01, b011, q_em, q_m1, n_0, n_1, n_2, n_3, n_4, n_5, n_6, n_7, n_8, n_9, n_10, n_11, n_12, n_14, n_15, n_16, n_20, n_24, n_25, n_32, n_36, n_40, n_41, n_42, n_43, n_45, n_46, n_48, n_57, n_59, n_60, n_73, n_76, n_97, n_99, n_100, n_106, n_109, n_120, n_122, n_136, n_160, n_176, n_200, n_255, n_800, n_1000, n_1001, n_1002, n_1003, n_1006, n_1012, n_1018, n_1019, n_1020, n_1100, n_1140, n_4800, n_4920, n_5940, n_6740, n_20220, B_X5_takeColumns_82, B_X5_takeColumns_126, kc, s4, g2c, hN2, a2, he1, he2]
          · have hA : ∀ i, ¬ i = 8 → ¬ (200 ≤ i ∧ i < 1000) → crow b A (ts b n p) (e - ts b n p) i = A i := fun i h1 h2 => by unfold crow; rw [if_neg h1, if_neg (by omega)]
            obtain ⟨x1, x2⟩ := t1 k hk
            have hd := (tb_d k hk).1
            refine ⟨by rw [fabc.I (by omega), hA k (by omega) (by omega)]; exact x1, fun i j hi hj => ?_⟩
            rw [hA k (by omega) (by omega)] at hi
            have := ix_lt (s := tS k) (i := i) (j := j) (l := lms.getD k 0) (by have := (t4.1 k hk).2.1; omega) hj
            rw [fabc.I (by omega), hA _ (by omega) (by omega)]; exact x2 i j hi hj
          · have hA : crow b A (ts b n p) (e - ts b n p) (73 + l - 1) = A (73 + l - 1) := by unfold crow; rw [if_neg (by omega), if_neg (by omega)]
            rw [fabc.I (by omega), hA]; exact t2 l l1 l2
          · have h81 : crow b A (ts b n p) (e - ts b n p) 8 = nI (nt (A 8) + 1) := if_pos rfl
            have hcr : nt (nI (nt (A 8) + 1)) = nt (A 8) + 1 := nt_nI (by omega)
            refine ⟨by rw [h81, a3.I (by omega), b4.I (by omega)]; exact ga, fun i k hi k1 k2 => ?_⟩
            rw [h81, hcr] at hi
            have e0 : d + 23 + 1 = d + 24 := rfl
            rw [e0, a5, b4.I (a := d + 24) (by omega), gb]
            have hcw : crow b A (ts b n p) (e - ts b n p) (200 + 20 * i + k - 1) = if i = nt (A 8) then ccol b (ts b n p) (e - ts b n p) (k - 1) else A (200 + 20 * i + k - 1) := by
              unfold crow
              rw [if_neg (by omega)]
              by_cases hi2 : i = nt (A 8)
              · rw [if_pos (by omega), if_pos hi2]; congr 1; omega
              · rw [if_neg (by omega), if_neg hi2]
            rw [hcw]
            by_cases hi2 : i = nt (A 8)
            · rw [if_pos hi2]
              unfold ccol
              subst hi2
              by_cases hk : k - 1 < e - ts b n p
              · rw [if_pos (by omega), if_pos hk]; congr 2; omega
              · rw [if_neg (by omega), if_neg hk, if_pos (by omega)]
            · rw [if_neg hi2, if_neg (by omega), if_neg (by omega)]
              exact t3.2 i k (by omega) k1 k2
          · have hA : ∀ i, ¬ i = 8 → ¬ (200 ≤ i ∧ i < 1000) → crow b A (ts b n p) (e - ts b n p) i = A i := fun i h1 h2 => by unfold crow; rw [if_neg h1, if_neg (by omega)]
            obtain ⟨x1, x2, x3⟩ := t4.1 k hk
            have hd := (tb_d k hk).1
            rw [hA k (by omega) (by omega)]
            refine ⟨x1, x2, fun i j hi hi2 hj => ?_⟩
            have := ix_lt (s := tS k) hi2 hj
            rw [hA _ (by omega) (by omega)]; exact x3 i j hi hi2 hj
          · have h81 : crow b A (ts b n p) (e - ts b n p) 8 = nI (nt (A 8) + 1) := if_pos rfl
            rw [h81, nt_nI (by omega)]
          · have h81 : crow b A (ts b n p) (e - ts b n p) 8 = nI (nt (A 8) + 1) := if_pos rfl
            rw [h81, nt_nI (by omega)]; omega
          · obtain ⟨x1, x2, x3, x4, x5, x6⟩ := t5
            refine ⟨(dc 11 (by decide) (by decide)).trans x1, x2, x3, x4, fun j hj => ?_, fun u r hu hr => ?_⟩
            · rw [fabc.J (by omega), fabc.I (by omega), fabc.I (by omega)]; exact x5 j hj
            · rw [fabc.J (by omega)]; exact x6 u r hu hr
          · have hA : crow b A (ts b n p) (e - ts b n p) u = A u := by unfold crow; rw [if_neg (by omega), if_neg (by omega)]
            rw [hA]; exact t7 u hu
    obtain ⟨μ4, e4, c4, f4⟩ := hx
    obtain ⟨μ5, e5, c5, f5⟩ := gsemi c4
    refine ⟨μ5, ?_, c5, frc.trans (f4.trans f5)⟩
    have k4 := c4.1.kd
    rw [e4] at e3
    clear hB Ba Bb Bc c4 c5 f4 f5 hfail t1 t2 t3 t4 t5 t6 t7 a5 gb fabc dc frc
    simp (disch := first | assumption | omega) only [q_bl, q_baT, q_bi, q_ba, q_pr, q_ob, q_iT, q_iN, q_it, q_if, q_of, nI_add, pk_mul, pk_sub, nI_leI, nI_ltI, nI_eq, nI_clamp, nI_lt0, nI_eqm, m1_eq, true_or, or_true, not_false_eq_true, m1_lt, m1_nlt, m1_le, m1_nle, b01, b011, q_em, q_m1, n_0, n_1, n_2, n_3, n_4, n_5, n_6, n_7, n_8, n_9, n_10, n_11, n_12, n_14, n_15, n_16, n_20, n_24, n_25, n_32, n_36, n_40, n_41, n_42, n_43, n_45, n_46, n_48, n_57, n_59, n_60, n_73, n_76, n_97, n_99, n_100, n_106, n_109, n_120, n_122, n_136, n_160, n_176, n_200, n_255, n_800, n_1000, n_1001, n_1002, n_1003, n_1006, n_1012, n_1018, n_1019, n_1020, n_1100, n_1140, n_4800, n_4920, n_5940, n_6740, n_20220, F_X5_readCard, B_X5_readCard_18, F_X5_takeColumns, k0, r16, kd, e1, ne1, k1, z1, e2, e3, k4, e5]
end CRD

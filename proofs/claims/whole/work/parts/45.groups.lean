/-! LAYER 3: groups and sequence -/
/-- the group of a card -/
def grpr (A : SA) (l : Nat) : Nat → Nat → Nat → Nat
  | _, 0, g => g
  | c, n + 1, g => grpr A l (c + 1) n (if sp_brk A c < l then g else g + 1)
def sp_grp (A : SA) (l card : Nat) : Nat := grpr A l 1 card 0
theorem grpr_snoc {A : SA} {l : Nat} : ∀ (n c g : Nat), grpr A l c (n + 1) g = if sp_brk A (c + n) < l then grpr A l c n g else grpr A l c n g + 1 := by
  intro n
  induction n with
  | zero => intro c g; rfl
  | succ n ih =>
    intro c g
    show grpr A l (c + 1) (n + 1) _ = _
    rw [ih (c + 1), show c + 1 + n = c + (n + 1) from by omega]
    rfl
theorem sp_grp_0 {A : SA} {l : Nat} : sp_grp A l 0 = 0 := rfl
theorem sp_grp_s {A : SA} {l c : Nat} : sp_grp A l (c + 1) = if sp_brk A (c + 1) < l then sp_grp A l c else sp_grp A l c + 1 := by
  unfold sp_grp; rw [grpr_snoc, show 1 + c = c + 1 from by omega]
theorem sp_grp_le {A : SA} {l : Nat} : ∀ c, sp_grp A l c ≤ c := by
  intro c
  induction c with
  | zero => exact Nat.le_refl _
  | succ c ih => rw [sp_grp_s]; split <;> omega
theorem sp_grp_mono {A : SA} {l : Nat} : ∀ d c, sp_grp A l c ≤ sp_grp A l (c + d) := by
  intro d
  induction d with
  | zero => intro c; exact Nat.le_refl _
  | succ d ih => intro c; have := ih c; rw [show c + (d + 1) = c + d + 1 from rfl, sp_grp_s]; split <;> omega
def sp_ngr (A : SA) (l : Nat) : Nat := if nt (A 8) = 0 then 0 else sp_grp A l (nt (A 8) - 1) + 1
section GRP
variable {μ : Mem} {x : Nat} {A : SA}
theorem l3_grp {r l card : Nat} (s : SM μ r) (hr : RBD (gI μ) r A) (w : WB A) (hl : l ≤ 3) (hc : card < nt (A 8)) : ∀ (j n c g : Nat), j < n → c + j = card + 1 → 1 ≤ c → L_X3_groupOfCard_5 μ n r (nI card) (nI l) (nI g) (nI c) = some (nI (grpr A l c j g)) := by
  have c8 := w.c8.2
  intro j
  induction j with
  | zero =>
    intro n c g hn he h1
    obtain ⟨n, rfl⟩ : ∃ k, n = k + 1 := ⟨n - 1, by omega⟩
    simp (disch := first | assumption | omega) only [q_bl, q_baT, q_bi, q_ba, q_pr, q_ob, q_iT, q_iN, q_it, q_if, q_of, nI_add, pk_mul, pk_sub, nI_leI, nI_ltI, nI_eq, nI_clamp, nI_lt0, nI_eqm, m1_eq, true_or, or_true, not_false_eq_true, m1_lt, m1_nlt, m1_le, m1_nle, b01, b011, q_em, q_m1, n_0, n_1, n_2, n_3, n_4, n_5, n_6, n_7, n_8, n_9, n_10, n_11, n_12, n_14, n_15, n_16, n_20, n_24, n_25, n_32, n_36, n_40, n_41, n_42, n_43, n_45, n_46, n_48, n_57, n_59, n_60, n_73, n_76, n_97, n_99, n_100, n_106, n_109, n_120, n_122, n_136, n_160, n_176, n_200, n_255, n_800, n_1000, n_1001, n_1002, n_1003, n_1006, n_1012, n_1018, n_1019, n_1020, n_1100, n_1140, n_4800, n_4920, n_5940, n_6740, n_20220, q_kI, q_lI, q_nI, q_rI, q_iI, q_jI, q_dI, q_kJ, q_lJ, q_nJ, q_rJ, q_iJ, q_jJ, q_dJ, q_kC, q_lC, q_nC, q_rC, q_jC, q_dC, q_kF, q_lF, q_nF, q_rF, q_jF, q_dF, q_us, q_un, q_ua, L_X3_groupOfCard_5, B_X3_groupOfCard_5, grpr]
  | succ j ih =>
    intro n c g hn he h1
    obtain ⟨n, rfl⟩ : ∃ k, n = k + 1 := ⟨n - 1, by omega⟩
    have eb := x3_break s hr w (show c < nt (A 8) by omega)
    have hle := sp_brk_le (A := A) (card := c)
    by_cases hx : sp_brk A c < l
    · have := ih n (c + 1) g (by omega) (by omega) (by omega)
      simp (disch := first | assumption | omega) only [q_bl, q_baT, q_bi, q_ba, q_pr, q_ob, q_iT, q_iN, q_it, q_if, q_of, nI_add, pk_mul, pk_sub, nI_leI, nI_ltI, nI_eq, nI_clamp, nI_lt0, nI_eqm, m1_eq, true_or, or_true, not_false_eq_true, m1_lt, m1_nlt, m1_le, m1_nle, b01, b011, q_em, q_m1, n_0, n_1, n_2, n_3, n_4, n_5, n_6, n_7, n_8, n_9, n_10, n_11, n_12, n_14, n_15, n_16, n_20, n_24, n_25, n_32, n_36, n_40, n_41, n_42, n_43, n_45, n_46, n_48, n_57, n_59, n_60, n_73, n_76, n_97, n_99, n_100, n_106, n_109, n_120, n_122, n_136, n_160, n_176, n_200, n_255, n_800, n_1000, n_1001, n_1002, n_1003, n_1006, n_1012, n_1018, n_1019, n_1020, n_1100, n_1140, n_4800, n_4920, n_5940, n_6740, n_20220, q_kI, q_lI, q_nI, q_rI, q_iI, q_jI, q_dI, q_kJ, q_lJ, q_nJ, q_rJ, q_iJ, q_jJ, q_dJ, q_kC, q_lC, q_nC, q_rC, q_jC, q_dC, q_kF, q_lF, q_nF, q_rF, q_jF, q_dF, q_us, q_un, q_ua, L_X3_groupOfCard_5, B_X3_groupOfCard_5, B_X3_groupOfCard_24, grpr, s.k0, eb, this]
    · have := ih n (c + 1) (g + 1) (by omega) (by omega) (by omega)
      simp (disch := first | assumption | omega) only [q_bl, q_baT, q_bi, q_ba, q_pr, q_ob, q_iT, q_iN, q_it, q_if, q_of, nI_add, pk_mul, pk_sub, nI_leI, nI_ltI, nI_eq, nI_clamp, nI_lt0, nI_eqm, m1_eq, true_or, or_true, not_false_eq_true, m1_lt, m1_nlt, m1_le, m1_nle, b01, b011, q_em, q_m1, n_0, n_1, n_2, n_3, n_4, n_5, n_6, n_7, n_8, n_9, n_10, n_11, n_12, n_14, n_15, n_16, n_20, n_24, n_25, n_32, n_36, n_40, n_41, n_42, n_43, n_45, n_46, n_48, n_57, n_59, n_60, n_73, n_76, n_97, n_99, n_100, n_106, n_109, n_120, n_122, n_136, n_160, n_176, n_200, n_255, n_800, n_1000, n_1001, n_1002, n_1003, n_1006, n_1012, n_1018, n_1019, n_1020, n_1100, n_1140, n_4800, n_4920, n_5940, n_6740, n_20220, q_kI, q_lI, q_nI, q_rI, q_iI, q_jI, q_dI, q_kJ, q_lJ, q_nJ, q_rJ, q_iJ, q_jJ, q_dJ, q_kC, q_lC, q_nC, q_rC, q_jC, q_dC, q_kF, q_lF, q_nF, q_rF, q_jF, q_dF, q_us, q_un, q_ua, L_X3_groupOfCard_5, B_X3_groupOfCard_5, B_X3_groupOfCard_24, grpr, s.k0, eb, this]
theorem x3_grp {r l card : Nat} (s : SM μ r) (hr : RBD (gI μ) r A) (w : WB A) (hl : l ≤ 3) (hc : card < nt (A 8)) : F_X3_groupOfCard r (nI card) (nI l) μ = some (nI (sp_grp A l card)) := by
  have c8 := w.c8.2
  have := l3_grp s hr w hl hc card FU 1 0 (FU_gt (by omega)) (by omega) (by decide)
  simp (disch := first | assumption | omega) only [q_bl, q_baT, q_bi, q_ba, q_pr, q_ob, q_iT, q_iN, q_it, q_if, q_of, nI_add, pk_mul, pk_sub, nI_leI, nI_ltI, nI_eq, nI_clamp, nI_lt0, nI_eqm, m1_eq, true_or, or_true, not_false_eq_true, m1_lt, m1_nlt, m1_le, m1_nle, b01, b011, q_em, q_m1, n_0, n_1, n_2, n_3, n_4, n_5, n_6, n_7, n_8, n_9, n_10, n_11, n_12, n_14, n_15, n_16, n_20, n_24, n_25, n_32, n_36, n_40, n_41, n_42, n_43, n_45, n_46, n_48, n_57, n_59, n_60, n_73, n_76, n_97, n_99, n_100, n_106, n_109, n_120, n_122, n_136, n_160, n_176, n_200, n_255, n_800, n_1000, n_1001, n_1002, n_1003, n_1006, n_1012, n_1018, n_1019, n_1020, n_1100, n_1140, n_4800, n_4920, n_5940, n_6740, n_20220, q_kI, q_lI, q_nI, q_rI, q_iI, q_jI, q_dI, q_kJ, q_lJ, q_nJ, q_rJ, q_iJ, q_jJ, q_dJ, q_kC, q_lC, q_nC, q_rC, q_jC, q_dC, q_kF, q_lF, q_nF, q_rF, q_jF, q_dF, q_us, q_un, q_ua, F_X3_groupOfCard, this, sp_grp]
theorem x3_ngr {r l : Nat} (s : SM μ r) (hr : RBD (gI μ) r A) (w : WB A) (hl : l ≤ 3) : F_X3_countGroups r (nI l) μ = some (nI (sp_ngr A l)) := by
  have c8 := w.c8.2
  have n8 := hr.n8 w
  unfold sp_ngr
  by_cases h0 : nt (A 8) = 0
  · rw [h0] at n8
    simp (disch := first | assumption | omega) only [q_bl, q_baT, q_bi, q_ba, q_pr, q_ob, q_iT, q_iN, q_it, q_if, q_of, nI_add, pk_mul, pk_sub, nI_leI, nI_ltI, nI_eq, nI_clamp, nI_lt0, nI_eqm, m1_eq, true_or, or_true, not_false_eq_true, m1_lt, m1_nlt, m1_le, m1_nle, b01, b011, q_em, q_m1, n_0, n_1, n_2, n_3, n_4, n_5, n_6, n_7, n_8, n_9, n_10, n_11, n_12, n_14, n_15, n_16, n_20, n_24, n_25, n_32, n_36, n_40, n_41, n_42, n_43, n_45, n_46, n_48, n_57, n_59, n_60, n_73, n_76, n_97, n_99, n_100, n_106, n_109, n_120, n_122, n_136, n_160, n_176, n_200, n_255, n_800, n_1000, n_1001, n_1002, n_1003, n_1006, n_1012, n_1018, n_1019, n_1020, n_1100, n_1140, n_4800, n_4920, n_5940, n_6740, n_20220, q_kI, q_lI, q_nI, q_rI, q_iI, q_jI, q_dI, q_kJ, q_lJ, q_nJ, q_rJ, q_iJ, q_jJ, q_dJ, q_kC, q_lC, q_nC, q_rC, q_jC, q_dC, q_kF, q_lF, q_nF, q_rF, q_jF, q_dF, q_us, q_un, q_ua, F_X3_countGroups, s.k0, s.r1, s.k19, n8, h0]
  · have := x3_grp s hr w hl (show nt (A 8) - 1 < nt (A 8) by omega)
    simp (disch := first | assumption | omega) only [q_bl, q_baT, q_bi, q_ba, q_pr, q_ob, q_iT, q_iN, q_it, q_if, q_of, nI_add, pk_mul, pk_sub, nI_leI, nI_ltI, nI_eq, nI_clamp, nI_lt0, nI_eqm, m1_eq, true_or, or_true, not_false_eq_true, m1_lt, m1_nlt, m1_le, m1_nle, b01, b011, q_em, q_m1, n_0, n_1, n_2, n_3, n_4, n_5, n_6, n_7, n_8, n_9, n_10, n_11, n_12, n_14, n_15, n_16, n_20, n_24, n_25, n_32, n_36, n_40, n_41, n_42, n_43, n_45, n_46, n_48, n_57, n_59, n_60, n_73, n_76, n_97, n_99, n_100, n_106, n_109, n_120, n_122, n_136, n_160, n_176, n_200, n_255, n_800, n_1000, n_1001, n_1002, n_1003, n_1006, n_1012, n_1018, n_1019, n_1020, n_1100, n_1140, n_4800, n_4920, n_5940, n_6740, n_20220, q_kI, q_lI, q_nI, q_rI, q_iI, q_jI, q_dI, q_kJ, q_lJ, q_nJ, q_rJ, q_iJ, q_jJ, q_dJ, q_kC, q_lC, q_nC, q_rC, q_jC, q_dC, q_kF, q_lF, q_nF, q_rF, q_jF, q_dF, q_us, q_un, q_ua, F_X3_countGroups, s.k0, s.r1, s.k19, n8, this]
theorem l9_grp {m l card : Nat} (h : RA μ m A) (w : WB A) (hl : l ≤ 3) (hc : card < nt (A 8)) : ∀ (j n c g : Nat), j < n → c + j = card + 1 → 1 ≤ c → L_X9_groupAt_5 μ n m (nI card) (nI l) (nI g) (nI c) = some (nI (grpr A l c j g)) := by
  have c8 := w.c8.2
  have s := h.1
  intro j
  induction j with
  | zero =>
    intro n c g hn he h1
    obtain ⟨n, rfl⟩ : ∃ k, n = k + 1 := ⟨n - 1, by omega⟩
    simp (disch := first | assumption | omega) only [q_bl, q_baT, q_bi, q_ba, q_pr, q_ob, q_iT, q_iN, q_it, q_if, q_of, nI_add, pk_mul, pk_sub, nI_leI, nI_ltI, nI_eq, nI_clamp, nI_lt0, nI_eqm, m1_eq, true_or, or_true, not_false_eq_true, m1_lt, m1_nlt, m1_le, m1_nle, b01, b011, q_em, q_m1, n_0, n_1, n_2, n_3, n_4, n_5, n_6, n_7, n_8, n_9, n_10, n_11, n_12, n_14, n_15, n_16, n_20, n_24, n_25, n_32, n_36, n_40, n_41, n_42, n_43, n_45, n_46, n_48, n_57, n_59, n_60, n_73, n_76, n_97, n_99, n_100, n_106, n_109, n_120, n_122, n_136, n_160, n_176, n_200, n_255, n_800, n_1000, n_1001, n_1002, n_1003, n_1006, n_1012, n_1018, n_1019, n_1020, n_1100, n_1140, n_4800, n_4920, n_5940, n_6740, n_20220, q_kI, q_lI, q_nI, q_rI, q_iI, q_jI, q_dI, q_kJ, q_lJ, q_nJ, q_rJ, q_iJ, q_jJ, q_dJ, q_kC, q_lC, q_nC, q_rC, q_jC, q_dC, q_kF, q_lF, q_nF, q_rF, q_jF, q_dF, q_us, q_un, q_ua, L_X9_groupAt_5, B_X9_groupAt_5, grpr]
  | succ j ih =>
    intro n c g hn he h1
    obtain ⟨n, rfl⟩ : ∃ k, n = k + 1 := ⟨n - 1, by omega⟩
    have eb := x9_break h w (show c < nt (A 8) by omega)
    have hle := sp_brk_le (A := A) (card := c)
    by_cases hx : sp_brk A c < l
    · have := ih n (c + 1) g (by omega) (by omega) (by omega)
      simp (disch := first | assumption | omega) only [q_bl, q_baT, q_bi, q_ba, q_pr, q_ob, q_iT, q_iN, q_it, q_if, q_of, nI_add, pk_mul, pk_sub, nI_leI, nI_ltI, nI_eq, nI_clamp, nI_lt0, nI_eqm, m1_eq, true_or, or_true, not_false_eq_true, m1_lt, m1_nlt, m1_le, m1_nle, b01, b011, q_em, q_m1, n_0, n_1, n_2, n_3, n_4, n_5, n_6, n_7, n_8, n_9, n_10, n_11, n_12, n_14, n_15, n_16, n_20, n_24, n_25, n_32, n_36, n_40, n_41, n_42, n_43, n_45, n_46, n_48, n_57, n_59, n_60, n_73, n_76, n_97, n_99, n_100, n_106, n_109, n_120, n_122, n_136, n_160, n_176, n_200, n_255, n_800, n_1000, n_1001, n_1002, n_1003, n_1006, n_1012, n_1018, n_1019, n_1020, n_1100, n_1140, n_4800, n_4920, n_5940, n_6740, n_20220, q_kI, q_lI, q_nI, q_rI, q_iI, q_jI, q_dI, q_kJ, q_lJ, q_nJ, q_rJ, q_iJ, q_jJ, q_dJ, q_kC, q_lC, q_nC, q_rC, q_jC, q_dC, q_kF, q_lF, q_nF, q_rF, q_jF, q_dF, q_us, q_un, q_ua, L_X9_groupAt_5, B_X9_groupAt_5, B_X9_groupAt_27, grpr, s.k0, eb, this, Nat.add_zero]
    · have := ih n (c + 1) (g + 1) (by omega) (by omega) (by omega)
      simp (disch := first | assumption | omega) only [q_bl, q_baT, q_bi, q_ba, q_pr, q_ob, q_iT, q_iN, q_it, q_if, q_of, nI_add, pk_mul, pk_sub, nI_leI, nI_ltI, nI_eq, nI_clamp, nI_lt0, nI_eqm, m1_eq, true_or, or_true, not_false_eq_true, m1_lt, m1_nlt, m1_le, m1_nle, b01, b011, q_em, q_m1, n_0, n_1, n_2, n_3, n_4, n_5, n_6, n_7, n_8, n_9, n_10, n_11, n_12, n_14, n_15, n_16, n_20, n_24, n_25, n_32, n_36, n_40, n_41, n_42, n_43, n_45, n_46, n_48, n_57, n_59, n_60, n_73, n_76, n_97, n_99, n_100, n_106, n_109, n_120, n_122, n_136, n_160, n_176, n_200, n_255, n_800, n_1000, n_1001, n_1002, n_1003, n_1006, n_1012, n_1018, n_1019, n_1020, n_1100, n_1140, n_4800, n_4920, n_5940, n_6740, n_20220, q_kI, q_lI, q_nI, q_rI, q_iI, q_jI, q_dI, q_kJ, q_lJ, q_nJ, q_rJ, q_iJ, q_jJ, q_dJ, q_kC, q_lC, q_nC, q_rC, q_jC, q_dC, q_kF, q_lF, q_nF, q_rF, q_jF, q_dF, q_us, q_un, q_ua, L_X9_groupAt_5, B_X9_groupAt_5, B_X9_groupAt_27, grpr, s.k0, eb, this]
theorem x9_grp {m l card : Nat} (h : RA μ m A) (w : WB A) (hl : l ≤ 3) (hc : card < nt (A 8)) : F_X9_groupAt m (nI card) (nI l) μ = some (nI (sp_grp A l card)) := by
  have c8 := w.c8.2
  have := l9_grp h w hl hc card FU 1 0 (FU_gt (by omega)) (by omega) (by decide)
  simp (disch := first | assumption | omega) only [q_bl, q_baT, q_bi, q_ba, q_pr, q_ob, q_iT, q_iN, q_it, q_if, q_of, nI_add, pk_mul, pk_sub, nI_leI, nI_ltI, nI_eq, nI_clamp, nI_lt0, nI_eqm, m1_eq, true_or, or_true, not_false_eq_true, m1_lt, m1_nlt, m1_le, m1_nle, b01, b011, q_em, q_m1, n_0, n_1, n_2, n_3, n_4, n_5, n_6, n_7, n_8, n_9, n_10, n_11, n_12, n_14, n_15, n_16, n_20, n_24, n_25, n_32, n_36, n_40, n_41, n_42, n_43, n_45, n_46, n_48, n_57, n_59, n_60, n_73, n_76, n_97, n_99, n_100, n_106, n_109, n_120, n_122, n_136, n_160, n_176, n_200, n_255, n_800, n_1000, n_1001, n_1002, n_1003, n_1006, n_1012, n_1018, n_1019, n_1020, n_1100, n_1140, n_4800, n_4920, n_5940, n_6740, n_20220, q_kI, q_lI, q_nI, q_rI, q_iI, q_jI, q_dI, q_kJ, q_lJ, q_nJ, q_rJ, q_iJ, q_jJ, q_dJ, q_kC, q_lC, q_nC, q_rC, q_jC, q_dC, q_kF, q_lF, q_nF, q_rF, q_jF, q_dF, q_us, q_un, q_ua, F_X9_groupAt, this, sp_grp]
theorem x9_ngr {m l : Nat} (h : RA μ m A) (w : WB A) (hl : l ≤ 3) : F_X9_groupsOf m (nI l) μ = some (nI (sp_ngr A l)) := by
  have c8 := w.c8
  have h' := h
  obtain ⟨s, hA⟩ := h'
  unfold sp_ngr
  by_cases h0 : nt (A 8) = 0
  · have e8 : A 8 = nI 0 := by rw [c8.1, h0]
    rw [if_pos h0]
    simp (disch := first | assumption | omega) only [q_bl, q_baT, q_bi, q_ba, q_pr, q_ob, q_iT, q_iN, q_it, q_if, q_of, nI_add, pk_mul, pk_sub, nI_leI, nI_ltI, nI_eq, nI_clamp, nI_lt0, nI_eqm, m1_eq, true_or, or_true, not_false_eq_true, m1_lt, m1_nlt, m1_le, m1_nle, b01, b011, q_em, q_m1, n_0, n_1, n_2, n_3, n_4, n_5, n_6, n_7, n_8, n_9, n_10, n_11, n_12, n_14, n_15, n_16, n_20, n_24, n_25, n_32, n_36, n_40, n_41, n_42, n_43, n_45, n_46, n_48, n_57, n_59, n_60, n_73, n_76, n_97, n_99, n_100, n_106, n_109, n_120, n_122, n_136, n_160, n_176, n_200, n_255, n_800, n_1000, n_1001, n_1002, n_1003, n_1006, n_1012, n_1018, n_1019, n_1020, n_1100, n_1140, n_4800, n_4920, n_5940, n_6740, n_20220, q_kI, q_lI, q_nI, q_rI, q_iI, q_jI, q_dI, q_kJ, q_lJ, q_nJ, q_rJ, q_iJ, q_jJ, q_dJ, q_kC, q_lC, q_nC, q_rC, q_jC, q_dC, q_kF, q_lF, q_nF, q_rF, q_jF, q_dF, q_us, q_un, q_ua, F_X9_groupsOf, s.k0, s.r0, s.k1, s.l1, hA, e8]
  · have := x9_grp h w hl (show nt (A 8) - 1 < nt (A 8) by omega)
    rw [if_neg h0]
    have v8 := c8.1
    have b8 := c8.2
    clear c8
    generalize nt (A 8) = n8 at *
    simp (disch := first | assumption | omega) only [q_bl, q_baT, q_bi, q_ba, q_pr, q_ob, q_iT, q_iN, q_it, q_if, q_of, nI_add, pk_mul, pk_sub, nI_leI, nI_ltI, nI_eq, nI_clamp, nI_lt0, nI_eqm, m1_eq, true_or, or_true, not_false_eq_true, m1_lt, m1_nlt, m1_le, m1_nle, b01, b011, q_em, q_m1, n_0, n_1, n_2, n_3, n_4, n_5, n_6, n_7, n_8, n_9, n_10, n_11, n_12, n_14, n_15, n_16, n_20, n_24, n_25, n_32, n_36, n_40, n_41, n_42, n_43, n_45, n_46, n_48, n_57, n_59, n_60, n_73, n_76, n_97, n_99, n_100, n_106, n_109, n_120, n_122, n_136, n_160, n_176, n_200, n_255, n_800, n_1000, n_1001, n_1002, n_1003, n_1006, n_1012, n_1018, n_1019, n_1020, n_1100, n_1140, n_4800, n_4920, n_5940, n_6740, n_20220, q_kI, q_lI, q_nI, q_rI, q_iI, q_jI, q_dI, q_kJ, q_lJ, q_nJ, q_rJ, q_iJ, q_jJ, q_dJ, q_kC, q_lC, q_nC, q_rC, q_jC, q_dC, q_kF, q_lF, q_nF, q_rF, q_jF, q_dF, q_us, q_un, q_ua, F_X9_groupsOf, s.k0, s.r0, s.k1, s.l1, hA, v8, this]
theorem lw_groupCount {i1 : Int32} (h : INV μ x A) : LW x (F_L_groupCount x i1 (x + 132) μ) (F_X9_groupCount (x + 120) i1) (fun b μ' => gJ μ' (x + 132) 0 = b.toInt64) := by
  have s := h.is.m1
  have w := h.w
  have ra := h.ra
  have sr := h.is.sr
  have ko := h.is.ko
  have lo := h.is.lo
  by_cases c0 : IP i1 3
  · obtain ⟨l, l1, l2, rfl⟩ := c0.ex (by decide)
    have e1 := x3_ngr s h.mo.2.1.bd w l2
    have ra1 := ra.out (i := x + 132) (v := (nI (sp_ngr A l)).toInt64)
    have ra2 := ra1.thr (v := nI 0)
    have s1 := ra1.1
    have s2 := ra2.1
    have e2 := x9_ngr ra2 w l2
    exact LW.ok h (v := (nI (sp_ngr A l)).toInt64) (by simp (disch := first | assumption | omega) only [q_bl, q_baT, q_bi, q_ba, q_pr, q_ob, q_iT, q_iN, q_it, q_if, q_of, nI_add, pk_mul, pk_sub, nI_leI, nI_ltI, nI_eq, nI_clamp, nI_lt0, nI_eqm, m1_eq, true_or, or_true, not_false_eq_true, m1_lt, m1_nlt, m1_le, m1_nle, b01, b011, q_em, q_m1, n_0, n_1, n_2, n_3, n_4, n_5, n_6, n_7, n_8, n_9, n_10, n_11, n_12, n_14, n_15, n_16, n_20, n_24, n_25, n_32, n_36, n_40, n_41, n_42, n_43, n_45, n_46, n_48, n_57, n_59, n_60, n_73, n_76, n_97, n_99, n_100, n_106, n_109, n_120, n_122, n_136, n_160, n_176, n_200, n_255, n_800, n_1000, n_1001, n_1002, n_1003, n_1006, n_1012, n_1018, n_1019, n_1020, n_1100, n_1140, n_4800, n_4920, n_5940, n_6740, n_20220, q_kI, q_lI, q_nI, q_rI, q_iI, q_jI, q_dI, q_kJ, q_lJ, q_nJ, q_rJ, q_iJ, q_jJ, q_dJ, q_kC, q_lC, q_nC, q_rC, q_jC, q_dC, q_kF, q_lF, q_nF, q_rF, q_jF, q_dF, q_us, q_un, q_ua, F_L_groupCount, F_X8_groupCount, q_prL, q_prR, h.is.kx, h.is.r1, ko, lo, s.k0, r8_lev c0, e1]) (by simp (disch := first | assumption | omega) only [q_bl, q_baT, q_bi, q_ba, q_pr, q_ob, q_iT, q_iN, q_it, q_if, q_of, nI_add, pk_mul, pk_sub, nI_leI, nI_ltI, nI_eq, nI_clamp, nI_lt0, nI_eqm, m1_eq, true_or, or_true, not_false_eq_true, m1_lt, m1_nlt, m1_le, m1_nle, b01, b011, q_em, q_m1, n_0, n_1, n_2, n_3, n_4, n_5, n_6, n_7, n_8, n_9, n_10, n_11, n_12, n_14, n_15, n_16, n_20, n_24, n_25, n_32, n_36, n_40, n_41, n_42, n_43, n_45, n_46, n_48, n_57, n_59, n_60, n_73, n_76, n_97, n_99, n_100, n_106, n_109, n_120, n_122, n_136, n_160, n_176, n_200, n_255, n_800, n_1000, n_1001, n_1002, n_1003, n_1006, n_1012, n_1018, n_1019, n_1020, n_1100, n_1140, n_4800, n_4920, n_5940, n_6740, n_20220, q_kI, q_lI, q_nI, q_rI, q_iI, q_jI, q_dI, q_kJ, q_lJ, q_nJ, q_rJ, q_iJ, q_jJ, q_dJ, q_kC, q_lC, q_nC, q_rC, q_jC, q_dC, q_kF, q_lF, q_nF, q_rF, q_jF, q_dF, q_us, q_un, q_ua, F_X9_groupCount, B_X9_groupCount_13, q9_lev c0, s1.k0, s2.k0, e2]) (fun _ e => e)
  · exact LW.err h (k := nI 1) (b := nI 0) (by decide +kernel) (by simp (disch := first | assumption | omega) only [q_bl, q_baT, q_bi, q_ba, q_pr, q_ob, q_iT, q_iN, q_it, q_if, q_of, nI_add, pk_mul, pk_sub, nI_leI, nI_ltI, nI_eq, nI_clamp, nI_lt0, nI_eqm, m1_eq, true_or, or_true, not_false_eq_true, m1_lt, m1_nlt, m1_le, m1_nle, b01, b011, q_em, q_m1, n_0, n_1, n_2, n_3, n_4, n_5, n_6, n_7, n_8, n_9, n_10, n_11, n_12, n_14, n_15, n_16, n_20, n_24, n_25, n_32, n_36, n_40, n_41, n_42, n_43, n_45, n_46, n_48, n_57, n_59, n_60, n_73, n_76, n_97, n_99, n_100, n_106, n_109, n_120, n_122, n_136, n_160, n_176, n_200, n_255, n_800, n_1000, n_1001, n_1002, n_1003, n_1006, n_1012, n_1018, n_1019, n_1020, n_1100, n_1140, n_4800, n_4920, n_5940, n_6740, n_20220, q_kI, q_lI, q_nI, q_rI, q_iI, q_jI, q_dI, q_kJ, q_lJ, q_nJ, q_rJ, q_iJ, q_jJ, q_dJ, q_kC, q_lC, q_nC, q_rC, q_jC, q_dC, q_kF, q_lF, q_nF, q_rF, q_jF, q_dF, q_us, q_un, q_ua, F_L_groupCount, F_X8_groupCount, q_prL, q_prR, h.is.kx, r8_levN c0]) (by simp (disch := first | assumption | omega) only [q_bl, q_baT, q_bi, q_ba, q_pr, q_ob, q_iT, q_iN, q_it, q_if, q_of, nI_add, pk_mul, pk_sub, nI_leI, nI_ltI, nI_eq, nI_clamp, nI_lt0, nI_eqm, m1_eq, true_or, or_true, not_false_eq_true, m1_lt, m1_nlt, m1_le, m1_nle, b01, b011, q_em, q_m1, n_0, n_1, n_2, n_3, n_4, n_5, n_6, n_7, n_8, n_9, n_10, n_11, n_12, n_14, n_15, n_16, n_20, n_24, n_25, n_32, n_36, n_40, n_41, n_42, n_43, n_45, n_46, n_48, n_57, n_59, n_60, n_73, n_76, n_97, n_99, n_100, n_106, n_109, n_120, n_122, n_136, n_160, n_176, n_200, n_255, n_800, n_1000, n_1001, n_1002, n_1003, n_1006, n_1012, n_1018, n_1019, n_1020, n_1100, n_1140, n_4800, n_4920, n_5940, n_6740, n_20220, q_kI, q_lI, q_nI, q_rI, q_iI, q_jI, q_dI, q_kJ, q_lJ, q_nJ, q_rJ, q_iJ, q_jJ, q_dJ, q_kC, q_lC, q_nC, q_rC, q_jC, q_dC, q_kF, q_lF, q_nF, q_rF, q_jF, q_dF, q_us, q_un, q_ua, F_X9_groupCount, B_X9_groupCount_13, sr.k0, q9_levN c0])
theorem lw_groupOf {i1 i2 : Int32} (h : INV μ x A) : LW x (F_L_groupOf x i1 i2 (x + 132) μ) (F_X9_groupOf (x + 120) i1 i2) (fun b μ' => gJ μ' (x + 132) 0 = b.toInt64) := by
  have s := h.is.m1
  have w := h.w
  have ra := h.ra
  have sr := h.is.sr
  have ko := h.is.ko
  have lo := h.is.lo
  by_cases c0 : IR i1 (nt (A 8))
  · by_cases c1 : IP i2 3
    · obtain ⟨c, hc, rfl⟩ := c0.ex (by have := w.c8.2; omega)
      obtain ⟨l, l1, l2, rfl⟩ := c1.ex (by decide)
      have e1 := x3_grp s h.mo.2.1.bd w l2 hc
      have ra1 := ra.out (i := x + 132) (v := (nI (sp_grp A l c)).toInt64)
      have ra2 := ra1.thr (v := nI 0)
      have s1 := ra1.1
      have s2 := ra2.1
      have e2 := x9_grp ra2 w l2 hc
      exact LW.ok h (v := (nI (sp_grp A l c)).toInt64) (by simp (disch := first | assumption | omega) only [q_bl, q_baT, q_bi, q_ba, q_pr, q_ob, q_iT, q_iN, q_it, q_if, q_of, nI_add, pk_mul, pk_sub, nI_leI, nI_ltI, nI_eq, nI_clamp, nI_lt0, nI_eqm, m1_eq, true_or, or_true, not_false_eq_true, m1_lt, m1_nlt, m1_le, m1_nle, b01, b011, q_em, q_m1, n_0, n_1, n_2, n_3, n_4, n_5, n_6, n_7, n_8, n_9, n_10, n_11, n_12, n_14, n_15, n_16, n_20, n_24, n_25, n_32, n_36, n_40, n_41, n_42, n_43, n_45, n_46, n_48, n_57, n_59, n_60, n_73, n_76, n_97, n_99, n_100, n_106, n_109, n_120, n_122, n_136, n_160, n_176, n_200, n_255, n_800, n_1000, n_1001, n_1002, n_1003, n_1006, n_1012, n_1018, n_1019, n_1020, n_1100, n_1140, n_4800, n_4920, n_5940, n_6740, n_20220, q_kI, q_lI, q_nI, q_rI, q_iI, q_jI, q_dI, q_kJ, q_lJ, q_nJ, q_rJ, q_iJ, q_jJ, q_dJ, q_kC, q_lC, q_nC, q_rC, q_jC, q_dC, q_kF, q_lF, q_nF, q_rF, q_jF, q_dF, q_us, q_un, q_ua, F_L_groupOf, F_X8_groupOf, q_prL, q_prR, h.is.kx, h.is.r1, ko, lo, s.k0, r8_card h c0, r8_lev c1, e1]) (by simp (disch := first | assumption | omega) only [q_bl, q_baT, q_bi, q_ba, q_pr, q_ob, q_iT, q_iN, q_it, q_if, q_of, nI_add, pk_mul, pk_sub, nI_leI, nI_ltI, nI_eq, nI_clamp, nI_lt0, nI_eqm, m1_eq, true_or, or_true, not_false_eq_true, m1_lt, m1_nlt, m1_le, m1_nle, b01, b011, q_em, q_m1, n_0, n_1, n_2, n_3, n_4, n_5, n_6, n_7, n_8, n_9, n_10, n_11, n_12, n_14, n_15, n_16, n_20, n_24, n_25, n_32, n_36, n_40, n_41, n_42, n_43, n_45, n_46, n_48, n_57, n_59, n_60, n_73, n_76, n_97, n_99, n_100, n_106, n_109, n_120, n_122, n_136, n_160, n_176, n_200, n_255, n_800, n_1000, n_1001, n_1002, n_1003, n_1006, n_1012, n_1018, n_1019, n_1020, n_1100, n_1140, n_4800, n_4920, n_5940, n_6740, n_20220, q_kI, q_lI, q_nI, q_rI, q_iI, q_jI, q_dI, q_kJ, q_lJ, q_nJ, q_rJ, q_iJ, q_jJ, q_dJ, q_kC, q_lC, q_nC, q_rC, q_jC, q_dC, q_kF, q_lF, q_nF, q_rF, q_jF, q_dF, q_us, q_un, q_ua, F_X9_groupOf, q9_card ra1 w c0, q9_lev c1, q9_good2 s1, s1.k0, s2.k0, e2]) (fun _ e => e)
    · exact LW.err h (k := nI 2) (b := nI 0) (by decide +kernel) (by simp (disch := first | assumption | omega) only [q_bl, q_baT, q_bi, q_ba, q_pr, q_ob, q_iT, q_iN, q_it, q_if, q_of, nI_add, pk_mul, pk_sub, nI_leI, nI_ltI, nI_eq, nI_clamp, nI_lt0, nI_eqm, m1_eq, true_or, or_true, not_false_eq_true, m1_lt, m1_nlt, m1_le, m1_nle, b01, b011, q_em, q_m1, n_0, n_1, n_2, n_3, n_4, n_5, n_6, n_7, n_8, n_9, n_10, n_11, n_12, n_14, n_15, n_16, n_20, n_24, n_25, n_32, n_36, n_40, n_41, n_42, n_43, n_45, n_46, n_48, n_57, n_59, n_60, n_73, n_76, n_97, n_99, n_100, n_106, n_109, n_120, n_122, n_136, n_160, n_176, n_200, n_255, n_800, n_1000, n_1001, n_1002, n_1003, n_1006, n_1012, n_1018, n_1019, n_1020, n_1100, n_1140, n_4800, n_4920, n_5940, n_6740, n_20220, q_kI, q_lI, q_nI, q_rI, q_iI, q_jI, q_dI, q_kJ, q_lJ, q_nJ, q_rJ, q_iJ, q_jJ, q_dJ, q_kC, q_lC, q_nC, q_rC, q_jC, q_dC, q_kF, q_lF, q_nF, q_rF, q_jF, q_dF, q_us, q_un, q_ua, F_L_groupOf, F_X8_groupOf, q_prL, q_prR, h.is.kx, r8_card h c0, r8_levN c1]) (by simp (disch := first | assumption | omega) only [q_bl, q_baT, q_bi, q_ba, q_pr, q_ob, q_iT, q_iN, q_it, q_if, q_of, nI_add, pk_mul, pk_sub, nI_leI, nI_ltI, nI_eq, nI_clamp, nI_lt0, nI_eqm, m1_eq, true_or, or_true, not_false_eq_true, m1_lt, m1_nlt, m1_le, m1_nle, b01, b011, q_em, q_m1, n_0, n_1, n_2, n_3, n_4, n_5, n_6, n_7, n_8, n_9, n_10, n_11, n_12, n_14, n_15, n_16, n_20, n_24, n_25, n_32, n_36, n_40, n_41, n_42, n_43, n_45, n_46, n_48, n_57, n_59, n_60, n_73, n_76, n_97, n_99, n_100, n_106, n_109, n_120, n_122, n_136, n_160, n_176, n_200, n_255, n_800, n_1000, n_1001, n_1002, n_1003, n_1006, n_1012, n_1018, n_1019, n_1020, n_1100, n_1140, n_4800, n_4920, n_5940, n_6740, n_20220, q_kI, q_lI, q_nI, q_rI, q_iI, q_jI, q_dI, q_kJ, q_lJ, q_nJ, q_rJ, q_iJ, q_jJ, q_dJ, q_kC, q_lC, q_nC, q_rC, q_jC, q_dC, q_kF, q_lF, q_nF, q_rF, q_jF, q_dF, q_us, q_un, q_ua, F_X9_groupOf, sr.k0, q9_card ra w c0, q9_levN c1, q9_good2M sr])
  · by_cases c1 : IP i2 3
    · exact LW.err h (k := nI 1) (b := nI 0) (by decide +kernel) (by simp (disch := first | assumption | omega) only [q_bl, q_baT, q_bi, q_ba, q_pr, q_ob, q_iT, q_iN, q_it, q_if, q_of, nI_add, pk_mul, pk_sub, nI_leI, nI_ltI, nI_eq, nI_clamp, nI_lt0, nI_eqm, m1_eq, true_or, or_true, not_false_eq_true, m1_lt, m1_nlt, m1_le, m1_nle, b01, b011, q_em, q_m1, n_0, n_1, n_2, n_3, n_4, n_5, n_6, n_7, n_8, n_9, n_10, n_11, n_12, n_14, n_15, n_16, n_20, n_24, n_25, n_32, n_36, n_40, n_41, n_42, n_43, n_45, n_46, n_48, n_57, n_59, n_60, n_73, n_76, n_97, n_99, n_100, n_106, n_109, n_120, n_122, n_136, n_160, n_176, n_200, n_255, n_800, n_1000, n_1001, n_1002, n_1003, n_1006, n_1012, n_1018, n_1019, n_1020, n_1100, n_1140, n_4800, n_4920, n_5940, n_6740, n_20220, q_kI, q_lI, q_nI, q_rI, q_iI, q_jI, q_dI, q_kJ, q_lJ, q_nJ, q_rJ, q_iJ, q_jJ, q_dJ, q_kC, q_lC, q_nC, q_rC, q_jC, q_dC, q_kF, q_lF, q_nF, q_rF, q_jF, q_dF, q_us, q_un, q_ua, F_L_groupOf, F_X8_groupOf, q_prL, q_prR, h.is.kx, r8_cardN h c0]) (by simp (disch := first | assumption | omega) only [q_bl, q_baT, q_bi, q_ba, q_pr, q_ob, q_iT, q_iN, q_it, q_if, q_of, nI_add, pk_mul, pk_sub, nI_leI, nI_ltI, nI_eq, nI_clamp, nI_lt0, nI_eqm, m1_eq, true_or, or_true, not_false_eq_true, m1_lt, m1_nlt, m1_le, m1_nle, b01, b011, q_em, q_m1, n_0, n_1, n_2, n_3, n_4, n_5, n_6, n_7, n_8, n_9, n_10, n_11, n_12, n_14, n_15, n_16, n_20, n_24, n_25, n_32, n_36, n_40, n_41, n_42, n_43, n_45, n_46, n_48, n_57, n_59, n_60, n_73, n_76, n_97, n_99, n_100, n_106, n_109, n_120, n_122, n_136, n_160, n_176, n_200, n_255, n_800, n_1000, n_1001, n_1002, n_1003, n_1006, n_1012, n_1018, n_1019, n_1020, n_1100, n_1140, n_4800, n_4920, n_5940, n_6740, n_20220, q_kI, q_lI, q_nI, q_rI, q_iI, q_jI, q_dI, q_kJ, q_lJ, q_nJ, q_rJ, q_iJ, q_jJ, q_dJ, q_kC, q_lC, q_nC, q_rC, q_jC, q_dC, q_kF, q_lF, q_nF, q_rF, q_jF, q_dF, q_us, q_un, q_ua, F_X9_groupOf, sr.k0, q9_cardN ra w c0, q9_lev c1, q9_good2N sr])
    · exact LW.err h (k := nI 1) (b := nI 0) (by decide +kernel) (by simp (disch := first | assumption | omega) only [q_bl, q_baT, q_bi, q_ba, q_pr, q_ob, q_iT, q_iN, q_it, q_if, q_of, nI_add, pk_mul, pk_sub, nI_leI, nI_ltI, nI_eq, nI_clamp, nI_lt0, nI_eqm, m1_eq, true_or, or_true, not_false_eq_true, m1_lt, m1_nlt, m1_le, m1_nle, b01, b011, q_em, q_m1, n_0, n_1, n_2, n_3, n_4, n_5, n_6, n_7, n_8, n_9, n_10, n_11, n_12, n_14, n_15, n_16, n_20, n_24, n_25, n_32, n_36, n_40, n_41, n_42, n_43, n_45, n_46, n_48, n_57, n_59, n_60, n_73, n_76, n_97, n_99, n_100, n_106, n_109, n_120, n_122, n_136, n_160, n_176, n_200, n_255, n_800, n_1000, n_1001, n_1002, n_1003, n_1006, n_1012, n_1018, n_1019, n_1020, n_1100, n_1140, n_4800, n_4920, n_5940, n_6740, n_20220, q_kI, q_lI, q_nI, q_rI, q_iI, q_jI, q_dI, q_kJ, q_lJ, q_nJ, q_rJ, q_iJ, q_jJ, q_dJ, q_kC, q_lC, q_nC, q_rC, q_jC, q_dC, q_kF, q_lF, q_nF, q_rF, q_jF, q_dF, q_us, q_un, q_ua, F_L_groupOf, F_X8_groupOf, q_prL, q_prR, h.is.kx, r8_cardN h c0]) (by simp (disch := first | assumption | omega) only [q_bl, q_baT, q_bi, q_ba, q_pr, q_ob, q_iT, q_iN, q_it, q_if, q_of, nI_add, pk_mul, pk_sub, nI_leI, nI_ltI, nI_eq, nI_clamp, nI_lt0, nI_eqm, m1_eq, true_or, or_true, not_false_eq_true, m1_lt, m1_nlt, m1_le, m1_nle, b01, b011, q_em, q_m1, n_0, n_1, n_2, n_3, n_4, n_5, n_6, n_7, n_8, n_9, n_10, n_11, n_12, n_14, n_15, n_16, n_20, n_24, n_25, n_32, n_36, n_40, n_41, n_42, n_43, n_45, n_46, n_48, n_57, n_59, n_60, n_73, n_76, n_97, n_99, n_100, n_106, n_109, n_120, n_122, n_136, n_160, n_176, n_200, n_255, n_800, n_1000, n_1001, n_1002, n_1003, n_1006, n_1012, n_1018, n_1019, n_1020, n_1100, n_1140, n_4800, n_4920, n_5940, n_6740, n_20220, q_kI, q_lI, q_nI, q_rI, q_iI, q_jI, q_dI, q_kJ, q_lJ, q_nJ, q_rJ, q_iJ, q_jJ, q_dJ, q_kC, q_lC, q_nC, q_rC, q_jC, q_dC, q_kF, q_lF, q_nF, q_rF, q_jF, q_dF, q_us, q_un, q_ua, F_X9_groupOf, sr.k0, q9_cardN ra w c0, q9_levN c1, q9_good2N sr])
-- sums of groups
/-- the sum of a group over the first c cards -/
def gsum (A : SA) (f l g : Nat) : Nat → Int64
  | 0 => 0
  | c + 1 => gsum A f l g c + (if sp_grp A l c = g then (sp_sval A c f).toInt64 else 0)
theorem j_add0 (a : Int64) : a + 0 = a := Int64.add_zero a
theorem l9_sum {m f l g : Nat} (h : RA μ m A) (w : WB A) (hl : l ≤ 3) (hf : f < nt (A 0)) (hg : g < 41) : ∀ (j n c : Nat), j < n → c + j = nt (A 8) → L_X9_sumOf_6 μ n m (nI f) (nI l) (nI g) (gsum A f l g c) (nI c) = some (gsum A f l g (nt (A 8))) := by
  have c8 := w.c8
  have h' := h
  obtain ⟨s, hA⟩ := h'
  intro j
  induction j with
  | zero =>
    intro n c hn he
    obtain ⟨n, rfl⟩ : ∃ k, n = k + 1 := ⟨n - 1, by omega⟩
    obtain rfl : c = nt (A 8) := by omega
    generalize nt (A 8) = n8 at *
    simp (disch := first | assumption | omega) only [q_bl, q_baT, q_bi, q_ba, q_pr, q_ob, q_iT, q_iN, q_it, q_if, q_of, nI_add, pk_mul, pk_sub, nI_leI, nI_ltI, nI_eq, nI_clamp, nI_lt0, nI_eqm, m1_eq, true_or, or_true, not_false_eq_true, m1_lt, m1_nlt, m1_le, m1_nle, b01, b011, q_em, q_m1, n_0, n_1, n_2, n_3, n_4, n_5, n_6, n_7, n_8, n_9, n_10, n_11, n_12, n_14, n_15, n_16, n_20, n_24, n_25, n_32, n_36, n_40, n_41, n_42, n_43, n_45, n_46, n_48, n_57, n_59, n_60, n_73, n_76, n_97, n_99, n_100, n_106, n_109, n_120, n_122, n_136, n_160, n_176, n_200, n_255, n_800, n_1000, n_1001, n_1002, n_1003, n_1006, n_1012, n_1018, n_1019, n_1020, n_1100, n_1140, n_4800, n_4920, n_5940, n_6740, n_20220, q_kI, q_lI, q_nI, q_rI, q_iI, q_jI, q_dI, q_kJ, q_lJ, q_nJ, q_rJ, q_iJ, q_jJ, q_dJ, q_kC, q_lC, q_nC, q_rC, q_jC, q_dC, q_kF, q_lF, q_nF, q_rF, q_jF, q_dF, q_us, q_un, q_ua, L_X9_sumOf_6, B_X9_sumOf_6, s.k0, s.r0, s.k1, s.l1, hA, c8.1]
  | succ j ih =>
    intro n c hn he
    obtain ⟨n, rfl⟩ : ∃ k, n = k + 1 := ⟨n - 1, by omega⟩
    have eg := x9_grp h w hl (show c < nt (A 8) by omega)
    have es := x9_signed h w (show c < nt (A 8) by omega) hf
    have hle := sp_grp_le (A := A) (l := l) c
    have := ih n (c + 1) (by omega) (by omega)
    have v8 := c8.1
    have b8 := c8.2
    by_cases hx : sp_grp A l c = g
    · have e0 : gsum A f l g (c + 1) = gsum A f l g c + (sp_sval A c f).toInt64 := by
        show gsum A f l g c + _ = _; rw [if_pos hx]
      rw [e0] at this
      clear c8 ih
      generalize nt (A 8) = n8 at *
      simp (disch := first | assumption | omega) only [q_bl, q_baT, q_bi, q_ba, q_pr, q_ob, q_iT, q_iN, q_it, q_if, q_of, nI_add, pk_mul, pk_sub, nI_leI, nI_ltI, nI_eq, nI_clamp, nI_lt0, nI_eqm, m1_eq, true_or, or_true, not_false_eq_true, m1_lt, m1_nlt, m1_le, m1_nle, b01, b011, q_em, q_m1, n_0, n_1, n_2, n_3, n_4, n_5, n_6, n_7, n_8, n_9, n_10, n_11, n_12, n_14, n_15, n_16, n_20, n_24, n_25, n_32, n_36, n_40, n_41, n_42, n_43, n_45, n_46, n_48, n_57, n_59, n_60, n_73, n_76, n_97, n_99, n_100, n_106, n_109, n_120, n_122, n_136, n_160, n_176, n_200, n_255, n_800, n_1000, n_1001, n_1002, n_1003, n_1006, n_1012, n_1018, n_1019, n_1020, n_1100, n_1140, n_4800, n_4920, n_5940, n_6740, n_20220, q_kI, q_lI, q_nI, q_rI, q_iI, q_jI, q_dI, q_kJ, q_lJ, q_nJ, q_rJ, q_iJ, q_jJ, q_dJ, q_kC, q_lC, q_nC, q_rC, q_jC, q_dC, q_kF, q_lF, q_nF, q_rF, q_jF, q_dF, q_us, q_un, q_ua, L_X9_sumOf_6, B_X9_sumOf_6, B_X9_sumOf_43, s.k0, s.r0, s.k1, s.l1, hA, v8, eg, es, this]
    · have e0 : gsum A f l g (c + 1) = gsum A f l g c + 0 := by
        show gsum A f l g c + _ = _; rw [if_neg hx]
      rw [e0] at this
      clear c8 ih
      generalize nt (A 8) = n8 at *
      simp (disch := first | assumption | omega) only [q_bl, q_baT, q_bi, q_ba, q_pr, q_ob, q_iT, q_iN, q_it, q_if, q_of, nI_add, pk_mul, pk_sub, nI_leI, nI_ltI, nI_eq, nI_clamp, nI_lt0, nI_eqm, m1_eq, true_or, or_true, not_false_eq_true, m1_lt, m1_nlt, m1_le, m1_nle, b01, b011, q_em, q_m1, n_0, n_1, n_2, n_3, n_4, n_5, n_6, n_7, n_8, n_9, n_10, n_11, n_12, n_14, n_15, n_16, n_20, n_24, n_25, n_32, n_36, n_40, n_41, n_42, n_43, n_45, n_46, n_48, n_57, n_59, n_60, n_73, n_76, n_97, n_99, n_100, n_106, n_109, n_120, n_122, n_136, n_160, n_176, n_200, n_255, n_800, n_1000, n_1001, n_1002, n_1003, n_1006, n_1012, n_1018, n_1019, n_1020, n_1100, n_1140, n_4800, n_4920, n_5940, n_6740, n_20220, q_kI, q_lI, q_nI, q_rI, q_iI, q_jI, q_dI, q_kJ, q_lJ, q_nJ, q_rJ, q_iJ, q_jJ, q_dJ, q_kC, q_lC, q_nC, q_rC, q_jC, q_dC, q_kF, q_lF, q_nF, q_rF, q_jF, q_dF, q_us, q_un, q_ua, L_X9_sumOf_6, B_X9_sumOf_6, B_X9_sumOf_43, s.k0, s.r0, s.k1, s.l1, hA, v8, eg, this]
theorem x9_sum {m f l g : Nat} (h : RA μ m A) (w : WB A) (hl : l ≤ 3) (hf : f < nt (A 0)) (hg : g < 41) : F_X9_sumOf m (nI f) (nI l) (nI g) μ = some (gsum A f l g (nt (A 8))) := by
  have c8 := w.c8.2
  have := l9_sum h w hl hf hg (nt (A 8)) FU 0 (FU_gt (by omega)) (by omega)
  rw [show gsum A f l g 0 = 0 from rfl] at this
  simp (disch := first | assumption | omega) only [q_bl, q_baT, q_bi, q_ba, q_pr, q_ob, q_iT, q_iN, q_it, q_if, q_of, nI_add, pk_mul, pk_sub, nI_leI, nI_ltI, nI_eq, nI_clamp, nI_lt0, nI_eqm, m1_eq, true_or, or_true, not_false_eq_true, m1_lt, m1_nlt, m1_le, m1_nle, b01, b011, q_em, q_m1, n_0, n_1, n_2, n_3, n_4, n_5, n_6, n_7, n_8, n_9, n_10, n_11, n_12, n_14, n_15, n_16, n_20, n_24, n_25, n_32, n_36, n_40, n_41, n_42, n_43, n_45, n_46, n_48, n_57, n_59, n_60, n_73, n_76, n_97, n_99, n_100, n_106, n_109, n_120, n_122, n_136, n_160, n_176, n_200, n_255, n_800, n_1000, n_1001, n_1002, n_1003, n_1006, n_1012, n_1018, n_1019, n_1020, n_1100, n_1140, n_4800, n_4920, n_5940, n_6740, n_20220, q_kI, q_lI, q_nI, q_rI, q_iI, q_jI, q_dI, q_kJ, q_lJ, q_nJ, q_rJ, q_iJ, q_jJ, q_dJ, q_kC, q_lC, q_nC, q_rC, q_jC, q_dC, q_kF, q_lF, q_nF, q_rF, q_jF, q_dF, q_us, q_un, q_ua, F_X9_sumOf, this]
theorem gsum_hi {A : SA} {f l g : Nat} : ∀ c, (∀ k, k < c → sp_grp A l k < g) → gsum A f l g c = 0 := by
  intro c
  induction c with
  | zero => intro _; rfl
  | succ c ih =>
    intro hk
    show gsum A f l g c + _ = _
    rw [ih (fun k hk2 => hk k (by omega)), if_neg (by have := hk c (by omega); omega)]
    rfl
theorem Fx.tr2 {P : Nat → Prop} {μ1 μ2 μ3 : Mem} (h : Fx P μ1 μ2) (k : Fx P μ2 μ3) : Fx P μ1 μ3 := h.trans k
/-- the class's sums while they are made: cards before c are in -/
def GS (J : Nat → Int64) (A : SA) (f l c : Nat) : Prop := ∀ g, 0 < c → g ≤ sp_grp A l (c - 1) → J g = gsum A f l g c
def gno (A : SA) (l c : Nat) : Int32 := if c = 0 then -nI 1 else nI (sp_grp A l (c - 1))
theorem l3_sums {r f l : Nat} (w : WB A) (hl : l ≤ 3) (hf : f < nt (A 0)) : ∀ (j n c : Nat) (μ : Mem), j < n → c + j = nt (A 8) → SM μ r → RBD (gI μ) r A → GS (gJ μ (r + 25)) A f l c →
    ∃ μ', L_X3_sumGroups_5 n r (nI f) (nI l) (gno A l c) (nI c) μ = some (nI (sp_ngr A l), μ') ∧ GS (gJ μ' (r + 25)) A f l (nt (A 8)) ∧ Fx (fun a => a = r + 25) μ μ' ∧ gI μ' = gI μ := by
  have c8 := w.c8.2
  intro j
  induction j with
  | zero =>
    intro n c μ hn he s hr hg
    obtain ⟨n, rfl⟩ : ∃ k, n = k + 1 := ⟨n - 1, by omega⟩
    obtain rfl : c = nt (A 8) := by omega
    have n8 := hr.n8 w
    have en : gno A l (nt (A 8)) + nI 1 = nI (sp_ngr A l) := by
      unfold gno sp_ngr
      by_cases h0 : nt (A 8) = 0
      · rw [if_pos h0, if_pos h0]; decide +kernel
      · rw [if_neg h0, if_neg h0, nI_add]
    exact ⟨μ, by simp (disch := first | assumption | omega) only [q_bl, q_baT, q_bi, q_ba, q_pr, q_ob, q_iT, q_iN, q_it, q_if, q_of, nI_add, pk_mul, pk_sub, nI_leI, nI_ltI, nI_eq, nI_clamp, nI_lt0, nI_eqm, m1_eq, true_or, or_true, not_false_eq_true, m1_lt, m1_nlt, m1_le, m1_nle, b01, b011, q_em, q_m1, n_0, n_1, n_2, n_3, n_4, n_5, n_6, n_7, n_8, n_9, n_10, n_11, n_12, n_14, n_15, n_16, n_20, n_24, n_25, n_32, n_36, n_40, n_41, n_42, n_43, n_45, n_46, n_48, n_57, n_59, n_60, n_73, n_76, n_97, n_99, n_100, n_106, n_109, n_120, n_122, n_136, n_160, n_176, n_200, n_255, n_800, n_1000, n_1001, n_1002, n_1003, n_1006, n_1012, n_1018, n_1019, n_1020, n_1100, n_1140, n_4800, n_4920, n_5940, n_6740, n_20220, q_kI, q_lI, q_nI, q_rI, q_iI, q_jI, q_dI, q_kJ, q_lJ, q_nJ, q_rJ, q_iJ, q_jJ, q_dJ, q_kC, q_lC, q_nC, q_rC, q_jC, q_dC, q_kF, q_lF, q_nF, q_rF, q_jF, q_dF, q_us, q_un, q_ua, L_X3_sumGroups_5, B_X3_sumGroups_5, s.k0, s.r1, s.k19, n8, en], hg, Fx.same, rfl⟩
  | succ j ih =>
    intro n c μ hn he s hr hg
    obtain ⟨n, rfl⟩ : ∃ k, n = k + 1 := ⟨n - 1, by omega⟩
    have n8 := hr.n8 w
    have hc : c < nt (A 8) := by omega
    have eb := x3_break s hr w hc
    have hle := sp_grp_le (A := A) (l := l) c
    have hbl := sp_brk_le (A := A) (card := c)
    by_cases hnew : c = 0 ∨ ¬ sp_brk A c < l
    · -- a new group
      have hgn : gno A l c + nI 1 = nI (sp_grp A l c) := by
        unfold gno
        by_cases h0 : c = 0
        · rw [if_pos h0, h0, sp_grp_0]; decide +kernel
        · rw [if_neg h0, nI_add]
          obtain ⟨d, rfl⟩ : ∃ d, c = d + 1 := ⟨c - 1, by omega⟩
          rw [sp_grp_s, if_neg (by rcases hnew with q | q <;> omega)]; rfl
      have hnx : gno A l (c + 1) = nI (sp_grp A l c) := by unfold gno; rw [if_neg (by omega)]; rfl
      have f1 : Fx (fun a => a = r + 25) μ (stJ μ (r + 25) (sp_grp A l c) 0) := Fx.stJ rfl
      have s1 := s.fx f1
      have hr1 : RBD (gI (stJ μ (r + 25) (sp_grp A l c) 0)) r A := hr
      have es := x3_signed s1 hr1 w hc hf
      have f2 : Fx (fun a => a = r + 25) μ (stJ (stJ μ (r + 25) (sp_grp A l c) 0) (r + 25) (sp_grp A l c) (0 + (sp_sval A c f).toInt64)) := f1.trans (Fx.stJ rfl)
      have hgs : GS (gJ (stJ (stJ μ (r + 25) (sp_grp A l c) 0) (r + 25) (sp_grp A l c) (0 + (sp_sval A c f).toInt64)) (r + 25)) A f l (c + 1) := by
        intro g _ hg2
        rw [q_jJ]
        rw [show c + 1 - 1 = c from rfl] at hg2
        have hlow : ∀ k, k < c → sp_grp A l k < sp_grp A l c := by
          intro k hk
          obtain ⟨d, rfl⟩ : ∃ d, c = d + 1 := ⟨c - 1, by omega⟩
          have h1 := sp_grp_mono (A := A) (l := l) (d - k) k
          rw [show k + (d - k) = d from by omega] at h1
          rw [sp_grp_s, if_neg (by rcases hnew with q | q <;> omega)]; omega
        show _ = gsum A f l g c + _
        by_cases hgx : g = sp_grp A l c
        · subst hgx
          rw [q_us, if_pos rfl, gsum_hi c hlow]
        · rw [q_un (by omega), q_jJ, q_un (by omega), if_neg (fun e => hgx e.symm), j_add0]
          have c0 : 0 < c := by
            rcases Nat.eq_zero_or_pos c with q | q
            · subst q; rw [sp_grp_0] at hg2 hgx; omega
            · exact q
          refine hg g c0 ?_
          have := hlow (c - 1) (by omega)
          obtain ⟨d, rfl⟩ : ∃ d, c = d + 1 := ⟨c - 1, by omega⟩
          rw [sp_grp_s, if_neg (by rcases hnew with q | q <;> omega)] at hg2 hgx
          show g ≤ sp_grp A l d
          omega
      obtain ⟨μ', e, p1, p2, p3⟩ := ih n (c + 1) _ (by omega) (by omega) (s.fx f2) hr hgs
      rw [hnx] at e
      refine ⟨μ', ?_, p1, f2.tr2 p2, p3.trans rfl⟩
      by_cases h0 : c = 0
      · subst h0
        simp (disch := first | assumption | omega) only [q_bl, q_baT, q_bi, q_ba, q_pr, q_ob, q_iT, q_iN, q_it, q_if, q_of, nI_add, pk_mul, pk_sub, nI_leI, nI_ltI, nI_eq, nI_clamp, nI_lt0, nI_eqm, m1_eq, true_or, or_true, not_false_eq_true, m1_lt, m1_nlt, m1_le, m1_nle, b01, b011, q_em, q_m1, n_0, n_1, n_2, n_3, n_4, n_5, n_6, n_7, n_8, n_9, n_10, n_11, n_12, n_14, n_15, n_16, n_20, n_24, n_25, n_32, n_36, n_40, n_41, n_42, n_43, n_45, n_46, n_48, n_57, n_59, n_60, n_73, n_76, n_97, n_99, n_100, n_106, n_109, n_120, n_122, n_136, n_160, n_176, n_200, n_255, n_800, n_1000, n_1001, n_1002, n_1003, n_1006, n_1012, n_1018, n_1019, n_1020, n_1100, n_1140, n_4800, n_4920, n_5940, n_6740, n_20220, q_kI, q_lI, q_nI, q_rI, q_iI, q_jI, q_dI, q_kJ, q_lJ, q_nJ, q_rJ, q_iJ, q_jJ, q_dJ, q_kC, q_lC, q_nC, q_rC, q_jC, q_dC, q_kF, q_lF, q_nF, q_rF, q_jF, q_dF, q_us, q_un, q_ua, L_X3_sumGroups_5, B_X3_sumGroups_5, B_X3_sumGroups_42, B_X3_sumGroups_52, s.k0, s.r1, s.k19, s.r6, s.k25, s.l25, n8, hgn, es, e]
      · have hb : ¬ sp_brk A c < l := by rcases hnew with q | q <;> omega
        simp (disch := first | assumption | omega) only [q_bl, q_baT, q_bi, q_ba, q_pr, q_ob, q_iT, q_iN, q_it, q_if, q_of, nI_add, pk_mul, pk_sub, nI_leI, nI_ltI, nI_eq, nI_clamp, nI_lt0, nI_eqm, m1_eq, true_or, or_true, not_false_eq_true, m1_lt, m1_nlt, m1_le, m1_nle, b01, b011, q_em, q_m1, n_0, n_1, n_2, n_3, n_4, n_5, n_6, n_7, n_8, n_9, n_10, n_11, n_12, n_14, n_15, n_16, n_20, n_24, n_25, n_32, n_36, n_40, n_41, n_42, n_43, n_45, n_46, n_48, n_57, n_59, n_60, n_73, n_76, n_97, n_99, n_100, n_106, n_109, n_120, n_122, n_136, n_160, n_176, n_200, n_255, n_800, n_1000, n_1001, n_1002, n_1003, n_1006, n_1012, n_1018, n_1019, n_1020, n_1100, n_1140, n_4800, n_4920, n_5940, n_6740, n_20220, q_kI, q_lI, q_nI, q_rI, q_iI, q_jI, q_dI, q_kJ, q_lJ, q_nJ, q_rJ, q_iJ, q_jJ, q_dJ, q_kC, q_lC, q_nC, q_rC, q_jC, q_dC, q_kF, q_lF, q_nF, q_rF, q_jF, q_dF, q_us, q_un, q_ua, L_X3_sumGroups_5, B_X3_sumGroups_5, B_X3_sumGroups_42, B_X3_sumGroups_52, s.k0, s.r1, s.k19, s.r6, s.k25, s.l25, n8, hgn, eb, es, e]
    · have h0 : ¬ c = 0 := fun q => hnew (Or.inl q)
      have hb : sp_brk A c < l := Decidable.of_not_not (fun q => hnew (Or.inr q))
      obtain ⟨d, rfl⟩ : ∃ d, c = d + 1 := ⟨c - 1, by omega⟩
      have hsame : sp_grp A l (d + 1) = sp_grp A l d := by rw [sp_grp_s, if_pos hb]
      have hgn : gno A l (d + 1) = nI (sp_grp A l d) := by unfold gno; rw [if_neg (by omega)]; rfl
      have hnx : gno A l (d + 1 + 1) = nI (sp_grp A l d) := by unfold gno; rw [if_neg (by omega)]; show nI (sp_grp A l (d + 1)) = _; rw [hsame]
      have es := x3_signed s hr w hc hf
      have hj := hg (sp_grp A l d) (by omega) (Nat.le_refl _)
      have f2 : Fx (fun a => a = r + 25) μ (stJ μ (r + 25) (sp_grp A l d) (gsum A f l (sp_grp A l d) (d + 1) + (sp_sval A (d + 1) f).toInt64)) := Fx.stJ rfl
      have hgs : GS (gJ (stJ μ (r + 25) (sp_grp A l d) (gsum A f l (sp_grp A l d) (d + 1) + (sp_sval A (d + 1) f).toInt64)) (r + 25)) A f l (d + 1 + 1) := by
        intro g _ hg2
        rw [q_jJ]
        rw [show d + 1 + 1 - 1 = d + 1 from rfl, hsame] at hg2
        show _ = gsum A f l g (d + 1) + (if sp_grp A l (d + 1) = g then _ else _)
        rw [hsame]
        by_cases hgx : g = sp_grp A l d
        · subst hgx; rw [q_us, if_pos rfl]
        · rw [q_un (by omega), if_neg (fun e => hgx e.symm), j_add0]
          exact hg g (by omega) (by show g ≤ sp_grp A l d; omega)
      obtain ⟨μ', e, p1, p2, p3⟩ := ih n (d + 1 + 1) _ (by omega) (by omega) (s.fx f2) hr hgs
      rw [hnx] at e
      refine ⟨μ', ?_, p1, f2.tr2 p2, p3.trans rfl⟩
      simp (disch := first | assumption | omega) only [q_bl, q_baT, q_bi, q_ba, q_pr, q_ob, q_iT, q_iN, q_it, q_if, q_of, nI_add, pk_mul, pk_sub, nI_leI, nI_ltI, nI_eq, nI_clamp, nI_lt0, nI_eqm, m1_eq, true_or, or_true, not_false_eq_true, m1_lt, m1_nlt, m1_le, m1_nle, b01, b011, q_em, q_m1, n_0, n_1, n_2, n_3, n_4, n_5, n_6, n_7, n_8, n_9, n_10, n_11, n_12, n_14, n_15, n_16, n_20, n_24, n_25, n_32, n_36, n_40, n_41, n_42, n_43, n_45, n_46, n_48, n_57, n_59, n_60, n_73, n_76, n_97, n_99, n_100, n_106, n_109, n_120, n_122, n_136, n_160, n_176, n_200, n_255, n_800, n_1000, n_1001, n_1002, n_1003, n_1006, n_1012, n_1018, n_1019, n_1020, n_1100, n_1140, n_4800, n_4920, n_5940, n_6740, n_20220, q_kI, q_lI, q_nI, q_rI, q_iI, q_jI, q_dI, q_kJ, q_lJ, q_nJ, q_rJ, q_iJ, q_jJ, q_dJ, q_kC, q_lC, q_nC, q_rC, q_jC, q_dC, q_kF, q_lF, q_nF, q_rF, q_jF, q_dF, q_us, q_un, q_ua, L_X3_sumGroups_5, B_X3_sumGroups_5, B_X3_sumGroups_52, s.k0, s.r1, s.k19, s.r6, s.k25, s.l25, n8, hgn, eb, es, hj, e]
theorem x3_sums {r f l : Nat} (s : SM μ r) (hr : RBD (gI μ) r A) (w : WB A) (hl : l ≤ 3) (hf : f < nt (A 0)) : ∃ μ', F_X3_sumGroups r (nI f) (nI l) μ = some (nI (sp_ngr A l), μ') ∧ (∀ g, g < sp_ngr A l → gJ μ' (r + 25) g = gsum A f l g (nt (A 8))) ∧ Fx (fun a => a = r + 25) μ μ' ∧ gI μ' = gI μ := by
  have c8 := w.c8.2
  obtain ⟨μ', e, p1, p2, p3⟩ := l3_sums w hl hf (nt (A 8)) FU 0 μ (FU_gt (by omega)) (by omega) s hr (fun g h0 => by omega)
  rw [show gno A l 0 = -nI 1 from rfl] at e
  refine ⟨μ', by simp (disch := first | assumption | omega) only [q_bl, q_baT, q_bi, q_ba, q_pr, q_ob, q_iT, q_iN, q_it, q_if, q_of, nI_add, pk_mul, pk_sub, nI_leI, nI_ltI, nI_eq, nI_clamp, nI_lt0, nI_eqm, m1_eq, true_or, or_true, not_false_eq_true, m1_lt, m1_nlt, m1_le, m1_nle, b01, b011, q_em, q_m1, n_0, n_1, n_2, n_3, n_4, n_5, n_6, n_7, n_8, n_9, n_10, n_11, n_12, n_14, n_15, n_16, n_20, n_24, n_25, n_32, n_36, n_40, n_41, n_42, n_43, n_45, n_46, n_48, n_57, n_59, n_60, n_73, n_76, n_97, n_99, n_100, n_106, n_109, n_120, n_122, n_136, n_160, n_176, n_200, n_255, n_800, n_1000, n_1001, n_1002, n_1003, n_1006, n_1012, n_1018, n_1019, n_1020, n_1100, n_1140, n_4800, n_4920, n_5940, n_6740, n_20220, q_kI, q_lI, q_nI, q_rI, q_iI, q_jI, q_dI, q_kJ, q_lJ, q_nJ, q_rJ, q_iJ, q_jJ, q_dJ, q_kC, q_lC, q_nC, q_rC, q_jC, q_dC, q_kF, q_lF, q_nF, q_rF, q_jF, q_dF, q_us, q_un, q_ua, F_X3_sumGroups, e], fun g hg => ?_, p2, p3⟩
  unfold sp_ngr at hg
  by_cases h0 : nt (A 8) = 0
  · rw [if_pos h0] at hg; omega
  · rw [if_neg h0] at hg; exact p1 g (by omega) (by omega)
theorem ngr_le {A : SA} {l : Nat} (w : WB A) : sp_ngr A l ≤ 40 := by
  have c8 := w.c8.2
  unfold sp_ngr; split
  · omega
  · have := sp_grp_le (A := A) (l := l) (nt (A 8) - 1); omega
end GRP

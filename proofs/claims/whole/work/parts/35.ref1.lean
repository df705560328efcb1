/-! LAYER 3: the reference: shape, questions, adding -/
def sr_K : List Nat := [8, 101, 101, 101, 101, 103, 101, 102, 101, 101, 101, 101]
def sr_L : List Nat := [0, 6740, 6740, 6740, 20220, 3, 1100, 24, 40, 41, 20, 4920]
def sr_R : List (Nat × Nat) := [(0, 1), (1, 2), (2, 3), (3, 4), (4, 5), (6, 6), (19, 7), (21, 8), (22, 9), (23, 10), (24, 11)]
/-- the reference stands at m .. m + 11 -/
def SR (μ : Mem) (m : Nat) : Prop := 23 ≤ m ∧ (∀ i, i < 12 → gK μ (m + i) = sr_K.getD i 0) ∧ (∀ i, 1 ≤ i → i < 12 → gL μ (m + i) = sr_L.getD i 0) ∧ ∀ p, p ∈ sr_R → gR μ m p.1 = m + p.2
theorem SR.to {μ μ' : Mem} {r : Nat} (h : SR μ r) (hk : gK μ' = gK μ) (hl : gL μ' = gL μ) (hr : gR μ' = gR μ) : SR μ' r := by unfold SR; rw [hk, hl, hr]; exact h
theorem SR.fx {P : Nat → Prop} {μ μ' : Mem} {r : Nat} (h : SR μ r) (f : Fx P μ μ') : SR μ' r := h.to f.1 f.2.1 f.2.2.2.1
theorem SR.k0 {μ : Mem} {m : Nat} (h : SR μ m) : gK μ m = 8 := h.2.1 0 (by decide)
theorem SR.k1 {μ : Mem} {m : Nat} (h : SR μ m) : gK μ (m + 1) = 101 := h.2.1 1 (by decide)
theorem SR.k2 {μ : Mem} {m : Nat} (h : SR μ m) : gK μ (m + 2) = 101 := h.2.1 2 (by decide)
theorem SR.k3 {μ : Mem} {m : Nat} (h : SR μ m) : gK μ (m + 3) = 101 := h.2.1 3 (by decide)
theorem SR.k4 {μ : Mem} {m : Nat} (h : SR μ m) : gK μ (m + 4) = 101 := h.2.1 4 (by decide)
theorem SR.k5 {μ : Mem} {m : Nat} (h : SR μ m) : gK μ (m + 5) = 103 := h.2.1 5 (by decide)
theorem SR.k6 {μ : Mem} {m : Nat} (h : SR μ m) : gK μ (m + 6) = 101 := h.2.1 6 (by decide)
theorem SR.k7 {μ : Mem} {m : Nat} (h : SR μ m) : gK μ (m + 7) = 102 := h.2.1 7 (by decide)
theorem SR.k8 {μ : Mem} {m : Nat} (h : SR μ m) : gK μ (m + 8) = 101 := h.2.1 8 (by decide)
theorem SR.k9 {μ : Mem} {m : Nat} (h : SR μ m) : gK μ (m + 9) = 101 := h.2.1 9 (by decide)
theorem SR.k10 {μ : Mem} {m : Nat} (h : SR μ m) : gK μ (m + 10) = 101 := h.2.1 10 (by decide)
theorem SR.k11 {μ : Mem} {m : Nat} (h : SR μ m) : gK μ (m + 11) = 101 := h.2.1 11 (by decide)
theorem SR.l1 {μ : Mem} {m : Nat} (h : SR μ m) : gL μ (m + 1) = 6740 := h.2.2.1 1 (by decide) (by decide)
theorem SR.l2 {μ : Mem} {m : Nat} (h : SR μ m) : gL μ (m + 2) = 6740 := h.2.2.1 2 (by decide) (by decide)
theorem SR.l3 {μ : Mem} {m : Nat} (h : SR μ m) : gL μ (m + 3) = 6740 := h.2.2.1 3 (by decide) (by decide)
theorem SR.l4 {μ : Mem} {m : Nat} (h : SR μ m) : gL μ (m + 4) = 20220 := h.2.2.1 4 (by decide) (by decide)
theorem SR.l5 {μ : Mem} {m : Nat} (h : SR μ m) : gL μ (m + 5) = 3 := h.2.2.1 5 (by decide) (by decide)
theorem SR.l6 {μ : Mem} {m : Nat} (h : SR μ m) : gL μ (m + 6) = 1100 := h.2.2.1 6 (by decide) (by decide)
theorem SR.l7 {μ : Mem} {m : Nat} (h : SR μ m) : gL μ (m + 7) = 24 := h.2.2.1 7 (by decide) (by decide)
theorem SR.l8 {μ : Mem} {m : Nat} (h : SR μ m) : gL μ (m + 8) = 40 := h.2.2.1 8 (by decide) (by decide)
theorem SR.l9 {μ : Mem} {m : Nat} (h : SR μ m) : gL μ (m + 9) = 41 := h.2.2.1 9 (by decide) (by decide)
theorem SR.l10 {μ : Mem} {m : Nat} (h : SR μ m) : gL μ (m + 10) = 20 := h.2.2.1 10 (by decide) (by decide)
theorem SR.l11 {μ : Mem} {m : Nat} (h : SR μ m) : gL μ (m + 11) = 4920 := h.2.2.1 11 (by decide) (by decide)
theorem SR.r0 {μ : Mem} {m : Nat} (h : SR μ m) : gR μ m 0 = m + 1 := h.2.2.2 (0, 1) (by decide)
theorem SR.r1 {μ : Mem} {m : Nat} (h : SR μ m) : gR μ m 1 = m + 2 := h.2.2.2 (1, 2) (by decide)
theorem SR.r2 {μ : Mem} {m : Nat} (h : SR μ m) : gR μ m 2 = m + 3 := h.2.2.2 (2, 3) (by decide)
theorem SR.r3 {μ : Mem} {m : Nat} (h : SR μ m) : gR μ m 3 = m + 4 := h.2.2.2 (3, 4) (by decide)
theorem SR.r4 {μ : Mem} {m : Nat} (h : SR μ m) : gR μ m 4 = m + 5 := h.2.2.2 (4, 5) (by decide)
theorem SR.r6 {μ : Mem} {m : Nat} (h : SR μ m) : gR μ m 6 = m + 6 := h.2.2.2 (6, 6) (by decide)
theorem SR.r19 {μ : Mem} {m : Nat} (h : SR μ m) : gR μ m 19 = m + 7 := h.2.2.2 (19, 7) (by decide)
theorem SR.r21 {μ : Mem} {m : Nat} (h : SR μ m) : gR μ m 21 = m + 8 := h.2.2.2 (21, 8) (by decide)
theorem SR.r22 {μ : Mem} {m : Nat} (h : SR μ m) : gR μ m 22 = m + 9 := h.2.2.2 (22, 9) (by decide)
theorem SR.r23 {μ : Mem} {m : Nat} (h : SR μ m) : gR μ m 23 = m + 10 := h.2.2.2 (23, 10) (by decide)
theorem SR.r24 {μ : Mem} {m : Nat} (h : SR μ m) : gR μ m 24 = m + 11 := h.2.2.2 (24, 11) (by decide)
theorem q_row (f : Nat → SA) (a j : Nat) (v : Int32) : up2 f a j v a = ua (f a) j v := by
  funext k; unfold up2 ua
  by_cases h : k = j
  · rw [if_pos ⟨rfl, h⟩, if_pos h]
  · rw [if_neg (fun e => h e.2), if_neg h]
/-- the reference holds the row A -/
def RA (μ : Mem) (m : Nat) (A : SA) : Prop := SR μ m ∧ gI μ (m + 1) = A
theorem RA.put {μ : Mem} {m j : Nat} {A : SA} {v : Int32} (h : RA μ m A) : RA (stI μ (m + 1) j v) m (ua A j v) := ⟨h.1.fx (P := fun a => a = m + 1) (Fx.stI rfl), by rw [q_iI, q_row, h.2]⟩
theorem RA.fx {P : Nat → Prop} {μ μ' : Mem} {m : Nat} {A : SA} (h : RA μ m A) (f : Fx P μ μ') (hp : ¬ P (m + 1)) : RA μ' m A := ⟨h.1.fx f, by rw [f.I hp]; exact h.2⟩
theorem x9_code {μ : Mem} {m card c : Nat} {A : SA} (h : RA μ m A) (hc : card < 40) (h1 : 1 ≤ c) (h2 : c ≤ 20) : F_X9_code m (nI card) (nI c) μ = some (A (200 + 20 * card + c - 1)) := by
  obtain ⟨s, hA⟩ := h
  simp (disch := first | assumption | omega) only [q_bl, q_baT, q_bi, q_ba, q_pr, q_ob, q_iT, q_iN, q_it, q_if, q_of, nI_add, pk_mul, pk_sub, nI_leI, nI_ltI, nI_eq, nI_clamp, nI_lt0, nI_eqm, m1_eq, true_or, or_true, not_false_eq_true, m1_lt, m1_nlt, m1_le, m1_nle, b01, b011, q_em, q_m1, n_0, n_1, n_2, n_3, n_4, n_5, n_6, n_7, n_8, n_9, n_10, n_11, n_12, n_14, n_15, n_16, n_20, n_24, n_25, n_32, n_36, n_40, n_41, n_42, n_43, n_45, n_46, n_48, n_57, n_59, n_60, n_73, n_76, n_97, n_99, n_100, n_106, n_109, n_120, n_122, n_136, n_160, n_176, n_200, n_255, n_800, n_1000, n_1001, n_1002, n_1003, n_1006, n_1012, n_1018, n_1019, n_1020, n_1100, n_1140, n_4800, n_4920, n_5940, n_6740, n_20220, q_kI, q_lI, q_nI, q_rI, q_iI, q_jI, q_dI, q_kJ, q_lJ, q_nJ, q_rJ, q_iJ, q_jJ, q_dJ, q_kC, q_lC, q_nC, q_rC, q_jC, q_dC, q_kF, q_lF, q_nF, q_rF, q_jF, q_dF, q_us, q_un, q_ua, F_X9_code, s.k0, s.r0, s.k1, s.l1, hA]
theorem x9_hasX {μ : Mem} {c : Int32} : F_X9_hasX c μ = some (if c < nI 99 then nI 0 else nI 1) := by
  by_cases h : c < nI 99
  · simp (disch := first | assumption | omega) only [q_bl, q_baT, q_bi, q_ba, q_pr, q_ob, q_iT, q_iN, q_it, q_if, q_of, nI_add, pk_mul, pk_sub, nI_leI, nI_ltI, nI_eq, nI_clamp, nI_lt0, nI_eqm, m1_eq, true_or, or_true, not_false_eq_true, m1_lt, m1_nlt, m1_le, m1_nle, b01, b011, q_em, q_m1, n_0, n_1, n_2, n_3, n_4, n_5, n_6, n_7, n_8, n_9, n_10, n_11, n_12, n_14, n_15, n_16, n_20, n_24, n_25, n_32, n_36, n_40, n_41, n_42, n_43, n_45, n_46, n_48, n_57, n_59, n_60, n_73, n_76, n_97, n_99, n_100, n_106, n_109, n_120, n_122, n_136, n_160, n_176, n_200, n_255, n_800, n_1000, n_1001, n_1002, n_1003, n_1006, n_1012, n_1018, n_1019, n_1020, n_1100, n_1140, n_4800, n_4920, n_5940, n_6740, n_20220, q_kI, q_lI, q_nI, q_rI, q_iI, q_jI, q_dI, q_kJ, q_lJ, q_nJ, q_rJ, q_iJ, q_jJ, q_dJ, q_kC, q_lC, q_nC, q_rC, q_jC, q_dC, q_kF, q_lF, q_nF, q_rF, q_jF, q_dF, q_us, q_un, q_ua, F_X9_hasX]
  · simp (disch := first | assumption | omega) only [q_bl, q_baT, q_bi, q_ba, q_pr, q_ob, q_iT, q_iN, q_it, q_if, q_of, nI_add, pk_mul, pk_sub, nI_leI, nI_ltI, nI_eq, nI_clamp, nI_lt0, nI_eqm, m1_eq, true_or, or_true, not_false_eq_true, m1_lt, m1_nlt, m1_le, m1_nle, b01, b011, q_em, q_m1, n_0, n_1, n_2, n_3, n_4, n_5, n_6, n_7, n_8, n_9, n_10, n_11, n_12, n_14, n_15, n_16, n_20, n_24, n_25, n_32, n_36, n_40, n_41, n_42, n_43, n_45, n_46, n_48, n_57, n_59, n_60, n_73, n_76, n_97, n_99, n_100, n_106, n_109, n_120, n_122, n_136, n_160, n_176, n_200, n_255, n_800, n_1000, n_1001, n_1002, n_1003, n_1006, n_1012, n_1018, n_1019, n_1020, n_1100, n_1140, n_4800, n_4920, n_5940, n_6740, n_20220, q_kI, q_lI, q_nI, q_rI, q_iI, q_jI, q_dI, q_kJ, q_lJ, q_nJ, q_rJ, q_iJ, q_jJ, q_dJ, q_kC, q_lC, q_nC, q_rC, q_jC, q_dC, q_kF, q_lF, q_nF, q_rF, q_jF, q_dF, q_us, q_un, q_ua, F_X9_hasX]
theorem x9_digitOf {μ : Mem} {c : Int32} : F_X9_digitOf c μ = some (if c < nI 99 then c else c - nI 100) := by
  by_cases h : c < nI 99
  · simp (disch := first | assumption | omega) only [q_bl, q_baT, q_bi, q_ba, q_pr, q_ob, q_iT, q_iN, q_it, q_if, q_of, nI_add, pk_mul, pk_sub, nI_leI, nI_ltI, nI_eq, nI_clamp, nI_lt0, nI_eqm, m1_eq, true_or, or_true, not_false_eq_true, m1_lt, m1_nlt, m1_le, m1_nle, b01, b011, q_em, q_m1, n_0, n_1, n_2, n_3, n_4, n_5, n_6, n_7, n_8, n_9, n_10, n_11, n_12, n_14, n_15, n_16, n_20, n_24, n_25, n_32, n_36, n_40, n_41, n_42, n_43, n_45, n_46, n_48, n_57, n_59, n_60, n_73, n_76, n_97, n_99, n_100, n_106, n_109, n_120, n_122, n_136, n_160, n_176, n_200, n_255, n_800, n_1000, n_1001, n_1002, n_1003, n_1006, n_1012, n_1018, n_1019, n_1020, n_1100, n_1140, n_4800, n_4920, n_5940, n_6740, n_20220, q_kI, q_lI, q_nI, q_rI, q_iI, q_jI, q_dI, q_kJ, q_lJ, q_nJ, q_rJ, q_iJ, q_jJ, q_dJ, q_kC, q_lC, q_nC, q_rC, q_jC, q_dC, q_kF, q_lF, q_nF, q_rF, q_jF, q_dF, q_us, q_un, q_ua, F_X9_digitOf, x9_hasX]
  · simp (disch := first | assumption | omega) only [q_bl, q_baT, q_bi, q_ba, q_pr, q_ob, q_iT, q_iN, q_it, q_if, q_of, nI_add, pk_mul, pk_sub, nI_leI, nI_ltI, nI_eq, nI_clamp, nI_lt0, nI_eqm, m1_eq, true_or, or_true, not_false_eq_true, m1_lt, m1_nlt, m1_le, m1_nle, b01, b011, q_em, q_m1, n_0, n_1, n_2, n_3, n_4, n_5, n_6, n_7, n_8, n_9, n_10, n_11, n_12, n_14, n_15, n_16, n_20, n_24, n_25, n_32, n_36, n_40, n_41, n_42, n_43, n_45, n_46, n_48, n_57, n_59, n_60, n_73, n_76, n_97, n_99, n_100, n_106, n_109, n_120, n_122, n_136, n_160, n_176, n_200, n_255, n_800, n_1000, n_1001, n_1002, n_1003, n_1006, n_1012, n_1018, n_1019, n_1020, n_1100, n_1140, n_4800, n_4920, n_5940, n_6740, n_20220, q_kI, q_lI, q_nI, q_rI, q_iI, q_jI, q_dI, q_kJ, q_lJ, q_nJ, q_rJ, q_iJ, q_jJ, q_dJ, q_kC, q_lC, q_nC, q_rC, q_jC, q_dC, q_kF, q_lF, q_nF, q_rF, q_jF, q_dF, q_us, q_un, q_ua, F_X9_digitOf, x9_hasX]
theorem mx1 {d : Nat} {e : Decidable (0 < d)} : @ite _ (0 < d) e (nI d) (nI 0) = nI d := by
  by_cases h0 : 0 < d
  · rw [if_pos h0]
  · rw [if_neg h0]
    obtain rfl : d = 0 := by omega
    rfl
theorem l9_plain {μ : Mem} {m card f : Nat} {A : SA} (h : RA μ m A) (w : WB A) (hc : card < nt (A 8)) (hf : f < nt (A 0)) : ∀ (k n c v : Nat), k < n → c + k = tr A f + 1 → 1 ≤ c → L_X9_plain_15 μ n m (nI card) (nI f) (nI v) (nI c) = some (nI (valr A card c k v)) := by
  obtain ⟨f1, f2, f3, f4, f5, f6⟩ := w.fld hf
  have c8 := w.c8.2
  have c0 := w.c0.2
  have h' := h
  obtain ⟨s, hA⟩ := h'
  intro k
  induction k with
  | zero =>
    intro n c v hn he h1
    obtain ⟨n, rfl⟩ : ∃ k, n = k + 1 := ⟨n - 1, by omega⟩
    simp (disch := first | assumption | omega) only [q_bl, q_baT, q_bi, q_ba, q_pr, q_ob, q_iT, q_iN, q_it, q_if, q_of, nI_add, pk_mul, pk_sub, nI_leI, nI_ltI, nI_eq, nI_clamp, nI_lt0, nI_eqm, m1_eq, true_or, or_true, not_false_eq_true, m1_lt, m1_nlt, m1_le, m1_nle, b01, b011, q_em, q_m1, n_0, n_1, n_2, n_3, n_4, n_5, n_6, n_7, n_8, n_9, n_10, n_11, n_12, n_14, n_15, n_16, n_20, n_24, n_25, n_32, n_36, n_40, n_41, n_42, n_43, n_45, n_46, n_48, n_57, n_59, n_60, n_73, n_76, n_97, n_99, n_100, n_106, n_109, n_120, n_122, n_136, n_160, n_176, n_200, n_255, n_800, n_1000, n_1001, n_1002, n_1003, n_1006, n_1012, n_1018, n_1019, n_1020, n_1100, n_1140, n_4800, n_4920, n_5940, n_6740, n_20220, q_kI, q_lI, q_nI, q_rI, q_iI, q_jI, q_dI, q_kJ, q_lJ, q_nJ, q_rJ, q_iJ, q_jJ, q_dJ, q_kC, q_lC, q_nC, q_rC, q_jC, q_dC, q_kF, q_lF, q_nF, q_rF, q_jF, q_dF, q_us, q_un, q_ua, L_X9_plain_15, B_X9_plain_15, s.k0, s.r0, s.k1, s.l1, hA, f2, valr]
  | succ k ih =>
    intro n c v hn he h1
    obtain ⟨n, rfl⟩ : ∃ k, n = k + 1 := ⟨n - 1, by omega⟩
    have hk := x9_code h (show card < 40 by omega) h1 (show c ≤ 20 by omega)
    have := ih n (c + 1) (v * 10 + dz (A (200 + 20 * card + c - 1))) (by omega) (by omega) (by omega)
    rcases (w.lc hc h1 (show c ≤ 20 by omega)).dig with ⟨d1, d2, d3, d4⟩ | ⟨d1, d2, d3, d4, d5⟩
    · rw [d3] at this
      have e : 10 * v + 0 = v * 10 + 0 := by omega
      simp (disch := first | assumption | omega) only [q_bl, q_baT, q_bi, q_ba, q_pr, q_ob, q_iT, q_iN, q_it, q_if, q_of, nI_add, pk_mul, pk_sub, nI_leI, nI_ltI, nI_eq, nI_clamp, nI_lt0, nI_eqm, m1_eq, true_or, or_true, not_false_eq_true, m1_lt, m1_nlt, m1_le, m1_nle, b01, b011, q_em, q_m1, n_0, n_1, n_2, n_3, n_4, n_5, n_6, n_7, n_8, n_9, n_10, n_11, n_12, n_14, n_15, n_16, n_20, n_24, n_25, n_32, n_36, n_40, n_41, n_42, n_43, n_45, n_46, n_48, n_57, n_59, n_60, n_73, n_76, n_97, n_99, n_100, n_106, n_109, n_120, n_122, n_136, n_160, n_176, n_200, n_255, n_800, n_1000, n_1001, n_1002, n_1003, n_1006, n_1012, n_1018, n_1019, n_1020, n_1100, n_1140, n_4800, n_4920, n_5940, n_6740, n_20220, q_kI, q_lI, q_nI, q_rI, q_iI, q_jI, q_dI, q_kJ, q_lJ, q_nJ, q_rJ, q_iJ, q_jJ, q_dJ, q_kC, q_lC, q_nC, q_rC, q_jC, q_dC, q_kF, q_lF, q_nF, q_rF, q_jF, q_dF, q_us, q_un, q_ua, L_X9_plain_15, B_X9_plain_15, s.k0, s.r0, s.k1, s.l1, hA, f2, valr, hk, x9_digitOf, d1, d3, this, e]
    · have e : 10 * v + dz (A (200 + 20 * card + c - 1)) = v * 10 + dz (A (200 + 20 * card + c - 1)) := by omega
      simp (disch := first | assumption | omega) only [q_bl, q_baT, q_bi, q_ba, q_pr, q_ob, q_iT, q_iN, q_it, q_if, q_of, nI_add, pk_mul, pk_sub, nI_leI, nI_ltI, nI_eq, nI_clamp, nI_lt0, nI_eqm, m1_eq, true_or, or_true, not_false_eq_true, m1_lt, m1_nlt, m1_le, m1_nle, b01, b011, q_em, q_m1, n_0, n_1, n_2, n_3, n_4, n_5, n_6, n_7, n_8, n_9, n_10, n_11, n_12, n_14, n_15, n_16, n_20, n_24, n_25, n_32, n_36, n_40, n_41, n_42, n_43, n_45, n_46, n_48, n_57, n_59, n_60, n_73, n_76, n_97, n_99, n_100, n_106, n_109, n_120, n_122, n_136, n_160, n_176, n_200, n_255, n_800, n_1000, n_1001, n_1002, n_1003, n_1006, n_1012, n_1018, n_1019, n_1020, n_1100, n_1140, n_4800, n_4920, n_5940, n_6740, n_20220, q_kI, q_lI, q_nI, q_rI, q_iI, q_jI, q_dI, q_kJ, q_lJ, q_nJ, q_rJ, q_iJ, q_jJ, q_dJ, q_kC, q_lC, q_nC, q_rC, q_jC, q_dC, q_kF, q_lF, q_nF, q_rF, q_jF, q_dF, q_us, q_un, q_ua, L_X9_plain_15, B_X9_plain_15, s.k0, s.r0, s.k1, s.l1, hA, f2, valr, hk, x9_digitOf, d1, mx1, this, e]
theorem x9_plain {μ : Mem} {m card f : Nat} {A : SA} (h : RA μ m A) (w : WB A) (hc : card < nt (A 8)) (hf : f < nt (A 0)) : F_X9_plain m (nI card) (nI f) μ = some (nI (sp_val A card f)) := by
  obtain ⟨f1, f2, f3, f4, f5, f6⟩ := w.fld hf
  have c0 := w.c0.2
  have := l9_plain h w hc hf (tr A f + 1 - fr A f) FU (fr A f) 0 (FU_gt (by omega)) (by omega) f3
  obtain ⟨s, hA⟩ := h
  simp (disch := first | assumption | omega) only [q_bl, q_baT, q_bi, q_ba, q_pr, q_ob, q_iT, q_iN, q_it, q_if, q_of, nI_add, pk_mul, pk_sub, nI_leI, nI_ltI, nI_eq, nI_clamp, nI_lt0, nI_eqm, m1_eq, true_or, or_true, not_false_eq_true, m1_lt, m1_nlt, m1_le, m1_nle, b01, b011, q_em, q_m1, n_0, n_1, n_2, n_3, n_4, n_5, n_6, n_7, n_8, n_9, n_10, n_11, n_12, n_14, n_15, n_16, n_20, n_24, n_25, n_32, n_36, n_40, n_41, n_42, n_43, n_45, n_46, n_48, n_57, n_59, n_60, n_73, n_76, n_97, n_99, n_100, n_106, n_109, n_120, n_122, n_136, n_160, n_176, n_200, n_255, n_800, n_1000, n_1001, n_1002, n_1003, n_1006, n_1012, n_1018, n_1019, n_1020, n_1100, n_1140, n_4800, n_4920, n_5940, n_6740, n_20220, q_kI, q_lI, q_nI, q_rI, q_iI, q_jI, q_dI, q_kJ, q_lJ, q_nJ, q_rJ, q_iJ, q_jJ, q_dJ, q_kC, q_lC, q_nC, q_rC, q_jC, q_dC, q_kF, q_lF, q_nF, q_rF, q_jF, q_dF, q_us, q_un, q_ua, F_X9_plain, s.k0, s.r0, s.k1, s.l1, hA, f1, this, sp_val]
theorem x9_signed {μ : Mem} {m card f : Nat} {A : SA} (h : RA μ m A) (w : WB A) (hc : card < nt (A 8)) (hf : f < nt (A 0)) : F_X9_signed m (nI card) (nI f) μ = some (sp_sval A card f) := by
  obtain ⟨f1, f2, f3, f4, f5, f6⟩ := w.fld hf
  have c0 := w.c0.2
  have c8 := w.c8.2
  have hv := x9_plain h w hc hf
  have hk := x9_code h (show card < 40 by omega) (show 1 ≤ tr A f by omega) f5
  obtain ⟨s, hA⟩ := h
  by_cases hx : nI 99 ≤ A (200 + 20 * card + tr A f - 1)
  · have hy : ¬ A (200 + 20 * card + tr A f - 1) < nI 99 := le_nlt ▸ hx
    simp (disch := first | assumption | omega) only [q_bl, q_baT, q_bi, q_ba, q_pr, q_ob, q_iT, q_iN, q_it, q_if, q_of, nI_add, pk_mul, pk_sub, nI_leI, nI_ltI, nI_eq, nI_clamp, nI_lt0, nI_eqm, m1_eq, true_or, or_true, not_false_eq_true, m1_lt, m1_nlt, m1_le, m1_nle, b01, b011, q_em, q_m1, n_0, n_1, n_2, n_3, n_4, n_5, n_6, n_7, n_8, n_9, n_10, n_11, n_12, n_14, n_15, n_16, n_20, n_24, n_25, n_32, n_36, n_40, n_41, n_42, n_43, n_45, n_46, n_48, n_57, n_59, n_60, n_73, n_76, n_97, n_99, n_100, n_106, n_109, n_120, n_122, n_136, n_160, n_176, n_200, n_255, n_800, n_1000, n_1001, n_1002, n_1003, n_1006, n_1012, n_1018, n_1019, n_1020, n_1100, n_1140, n_4800, n_4920, n_5940, n_6740, n_20220, q_kI, q_lI, q_nI, q_rI, q_iI, q_jI, q_dI, q_kJ, q_lJ, q_nJ, q_rJ, q_iJ, q_jJ, q_dJ, q_kC, q_lC, q_nC, q_rC, q_jC, q_dC, q_kF, q_lF, q_nF, q_rF, q_jF, q_dF, q_us, q_un, q_ua, F_X9_signed, s.k0, s.r0, s.k1, s.l1, hA, f2, hv, hk, x9_hasX, sp_sval]
  · have hy : A (200 + 20 * card + tr A f - 1) < nI 99 := Decidable.of_not_not (fun e => hx (le_nlt ▸ e))
    simp (disch := first | assumption | omega) only [q_bl, q_baT, q_bi, q_ba, q_pr, q_ob, q_iT, q_iN, q_it, q_if, q_of, nI_add, pk_mul, pk_sub, nI_leI, nI_ltI, nI_eq, nI_clamp, nI_lt0, nI_eqm, m1_eq, true_or, or_true, not_false_eq_true, m1_lt, m1_nlt, m1_le, m1_nle, b01, b011, q_em, q_m1, n_0, n_1, n_2, n_3, n_4, n_5, n_6, n_7, n_8, n_9, n_10, n_11, n_12, n_14, n_15, n_16, n_20, n_24, n_25, n_32, n_36, n_40, n_41, n_42, n_43, n_45, n_46, n_48, n_57, n_59, n_60, n_73, n_76, n_97, n_99, n_100, n_106, n_109, n_120, n_122, n_136, n_160, n_176, n_200, n_255, n_800, n_1000, n_1001, n_1002, n_1003, n_1006, n_1012, n_1018, n_1019, n_1020, n_1100, n_1140, n_4800, n_4920, n_5940, n_6740, n_20220, q_kI, q_lI, q_nI, q_rI, q_iI, q_jI, q_dI, q_kJ, q_lJ, q_nJ, q_rJ, q_iJ, q_jJ, q_dJ, q_kC, q_lC, q_nC, q_rC, q_jC, q_dC, q_kF, q_lF, q_nF, q_rF, q_jF, q_dF, q_us, q_un, q_ua, F_X9_signed, s.k0, s.r0, s.k1, s.l1, hA, f2, hv, hk, x9_hasX, sp_sval]
theorem l9_brk {μ : Mem} {m card : Nat} {A : SA} (h : RA μ m A) (w : WB A) (hc : card < nt (A 8)) (h0 : 0 < card) : ∀ (l n : Nat), l < n → l ≤ 3 → L_X9_breakOf_8 μ n m (nI card) (nI l) = some (nI (brk A card l)) := by
  have hb := w.c8.2
  have h' := h
  obtain ⟨s, hA⟩ := h'
  intro l
  induction l with
  | zero =>
    intro n hn _
    obtain ⟨n, rfl⟩ : ∃ k, n = k + 1 := ⟨n - 1, by omega⟩
    simp (disch := first | assumption | omega) only [q_bl, q_baT, q_bi, q_ba, q_pr, q_ob, q_iT, q_iN, q_it, q_if, q_of, nI_add, pk_mul, pk_sub, nI_leI, nI_ltI, nI_eq, nI_clamp, nI_lt0, nI_eqm, m1_eq, true_or, or_true, not_false_eq_true, m1_lt, m1_nlt, m1_le, m1_nle, b01, b011, q_em, q_m1, n_0, n_1, n_2, n_3, n_4, n_5, n_6, n_7, n_8, n_9, n_10, n_11, n_12, n_14, n_15, n_16, n_20, n_24, n_25, n_32, n_36, n_40, n_41, n_42, n_43, n_45, n_46, n_48, n_57, n_59, n_60, n_73, n_76, n_97, n_99, n_100, n_106, n_109, n_120, n_122, n_136, n_160, n_176, n_200, n_255, n_800, n_1000, n_1001, n_1002, n_1003, n_1006, n_1012, n_1018, n_1019, n_1020, n_1100, n_1140, n_4800, n_4920, n_5940, n_6740, n_20220, q_kI, q_lI, q_nI, q_rI, q_iI, q_jI, q_dI, q_kJ, q_lJ, q_nJ, q_rJ, q_iJ, q_jJ, q_dJ, q_kC, q_lC, q_nC, q_rC, q_jC, q_dC, q_kF, q_lF, q_nF, q_rF, q_jF, q_dF, q_us, q_un, q_ua, L_X9_breakOf_8, B_X9_breakOf_8, brk]
  | succ l ih =>
    intro n hn hl
    obtain ⟨n, rfl⟩ : ∃ k, n = k + 1 := ⟨n - 1, by omega⟩
    have := ih n (by omega) (by omega)
    rcases w.ctl (show 1 ≤ l + 1 by omega) hl with e | ⟨e, e2, e3⟩
    · simp (disch := first | assumption | omega) only [q_bl, q_baT, q_bi, q_ba, q_pr, q_ob, q_iT, q_iN, q_it, q_if, q_of, nI_add, pk_mul, pk_sub, nI_leI, nI_ltI, nI_eq, nI_clamp, nI_lt0, nI_eqm, m1_eq, true_or, or_true, not_false_eq_true, m1_lt, m1_nlt, m1_le, m1_nle, b01, b011, q_em, q_m1, n_0, n_1, n_2, n_3, n_4, n_5, n_6, n_7, n_8, n_9, n_10, n_11, n_12, n_14, n_15, n_16, n_20, n_24, n_25, n_32, n_36, n_40, n_41, n_42, n_43, n_45, n_46, n_48, n_57, n_59, n_60, n_73, n_76, n_97, n_99, n_100, n_106, n_109, n_120, n_122, n_136, n_160, n_176, n_200, n_255, n_800, n_1000, n_1001, n_1002, n_1003, n_1006, n_1012, n_1018, n_1019, n_1020, n_1100, n_1140, n_4800, n_4920, n_5940, n_6740, n_20220, q_kI, q_lI, q_nI, q_rI, q_iI, q_jI, q_dI, q_kJ, q_lJ, q_nJ, q_rJ, q_iJ, q_jJ, q_dJ, q_kC, q_lC, q_nC, q_rC, q_jC, q_dC, q_kF, q_lF, q_nF, q_rF, q_jF, q_dF, q_us, q_un, q_ua, L_X9_breakOf_8, B_X9_breakOf_8, B_X9_breakOf_64, brk, s.k0, s.r0, s.k1, s.l1, hA, this, e]
    · have v1 := x9_plain h w hc e2
      have v2 := x9_plain h w (show card - 1 < nt (A 8) by omega) e2
      have b1 := sp_val_lt w hc e2
      have b2 := sp_val_lt w (show card - 1 < nt (A 8) by omega) e2
      have ne : ¬ A (73 + (l + 1) - 1) = -nI 1 := by rw [e]; exact fun q => by have := nI_eqm (n := nt (A (73 + (l + 1) - 1))) (by omega); rw [this] at q; exact q
      rw [← e] at v1 v2
      by_cases hx : sp_val A card (nt (A (73 + (l + 1) - 1))) = sp_val A (card - 1) (nt (A (73 + (l + 1) - 1)))
      · simp (disch := first | assumption | omega) only [q_bl, q_baT, q_bi, q_ba, q_pr, q_ob, q_iT, q_iN, q_it, q_if, q_of, nI_add, pk_mul, pk_sub, nI_leI, nI_ltI, nI_eq, nI_clamp, nI_lt0, nI_eqm, m1_eq, true_or, or_true, not_false_eq_true, m1_lt, m1_nlt, m1_le, m1_nle, b01, b011, q_em, q_m1, n_0, n_1, n_2, n_3, n_4, n_5, n_6, n_7, n_8, n_9, n_10, n_11, n_12, n_14, n_15, n_16, n_20, n_24, n_25, n_32, n_36, n_40, n_41, n_42, n_43, n_45, n_46, n_48, n_57, n_59, n_60, n_73, n_76, n_97, n_99, n_100, n_106, n_109, n_120, n_122, n_136, n_160, n_176, n_200, n_255, n_800, n_1000, n_1001, n_1002, n_1003, n_1006, n_1012, n_1018, n_1019, n_1020, n_1100, n_1140, n_4800, n_4920, n_5940, n_6740, n_20220, q_kI, q_lI, q_nI, q_rI, q_iI, q_jI, q_dI, q_kJ, q_lJ, q_nJ, q_rJ, q_iJ, q_jJ, q_dJ, q_kC, q_lC, q_nC, q_rC, q_jC, q_dC, q_kF, q_lF, q_nF, q_rF, q_jF, q_dF, q_us, q_un, q_ua, L_X9_breakOf_8, B_X9_breakOf_8, B_X9_breakOf_64, brk, s.k0, s.r0, s.k1, s.l1, hA, this, v1, v2, hx]
      · have ny : ¬ (A (73 + (l + 1) - 1) = -nI 1 ∨ sp_val A card (nt (A (73 + (l + 1) - 1))) = sp_val A (card - 1) (nt (A (73 + (l + 1) - 1)))) := fun q => q.elim ne hx
        simp (disch := first | assumption | omega) only [q_bl, q_baT, q_bi, q_ba, q_pr, q_ob, q_iT, q_iN, q_it, q_if, q_of, nI_add, pk_mul, pk_sub, nI_leI, nI_ltI, nI_eq, nI_clamp, nI_lt0, nI_eqm, m1_eq, true_or, or_true, not_false_eq_true, m1_lt, m1_nlt, m1_le, m1_nle, b01, b011, q_em, q_m1, n_0, n_1, n_2, n_3, n_4, n_5, n_6, n_7, n_8, n_9, n_10, n_11, n_12, n_14, n_15, n_16, n_20, n_24, n_25, n_32, n_36, n_40, n_41, n_42, n_43, n_45, n_46, n_48, n_57, n_59, n_60, n_73, n_76, n_97, n_99, n_100, n_106, n_109, n_120, n_122, n_136, n_160, n_176, n_200, n_255, n_800, n_1000, n_1001, n_1002, n_1003, n_1006, n_1012, n_1018, n_1019, n_1020, n_1100, n_1140, n_4800, n_4920, n_5940, n_6740, n_20220, q_kI, q_lI, q_nI, q_rI, q_iI, q_jI, q_dI, q_kJ, q_lJ, q_nJ, q_rJ, q_iJ, q_jJ, q_dJ, q_kC, q_lC, q_nC, q_rC, q_jC, q_dC, q_kF, q_lF, q_nF, q_rF, q_jF, q_dF, q_us, q_un, q_ua, L_X9_breakOf_8, B_X9_breakOf_8, B_X9_breakOf_64, brk, s.k0, s.r0, s.k1, s.l1, hA, v1, v2]
theorem x9_break {μ : Mem} {m card : Nat} {A : SA} (h : RA μ m A) (w : WB A) (hc : card < nt (A 8)) : F_X9_breakOf m (nI card) μ = some (nI (sp_brk A card)) := by
  have hb := w.c8.2
  by_cases h0 : card = 0
  · simp (disch := first | assumption | omega) only [q_bl, q_baT, q_bi, q_ba, q_pr, q_ob, q_iT, q_iN, q_it, q_if, q_of, nI_add, pk_mul, pk_sub, nI_leI, nI_ltI, nI_eq, nI_clamp, nI_lt0, nI_eqm, m1_eq, true_or, or_true, not_false_eq_true, m1_lt, m1_nlt, m1_le, m1_nle, b01, b011, q_em, q_m1, n_0, n_1, n_2, n_3, n_4, n_5, n_6, n_7, n_8, n_9, n_10, n_11, n_12, n_14, n_15, n_16, n_20, n_24, n_25, n_32, n_36, n_40, n_41, n_42, n_43, n_45, n_46, n_48, n_57, n_59, n_60, n_73, n_76, n_97, n_99, n_100, n_106, n_109, n_120, n_122, n_136, n_160, n_176, n_200, n_255, n_800, n_1000, n_1001, n_1002, n_1003, n_1006, n_1012, n_1018, n_1019, n_1020, n_1100, n_1140, n_4800, n_4920, n_5940, n_6740, n_20220, q_kI, q_lI, q_nI, q_rI, q_iI, q_jI, q_dI, q_kJ, q_lJ, q_nJ, q_rJ, q_iJ, q_jJ, q_dJ, q_kC, q_lC, q_nC, q_rC, q_jC, q_dC, q_kF, q_lF, q_nF, q_rF, q_jF, q_dF, q_us, q_un, q_ua, F_X9_breakOf, sp_brk, h0]
  · have := l9_brk h w hc (by omega) 3 FU (FU_gt (by decide)) (by decide)
    simp (disch := first | assumption | omega) only [q_bl, q_baT, q_bi, q_ba, q_pr, q_ob, q_iT, q_iN, q_it, q_if, q_of, nI_add, pk_mul, pk_sub, nI_leI, nI_ltI, nI_eq, nI_clamp, nI_lt0, nI_eqm, m1_eq, true_or, or_true, not_false_eq_true, m1_lt, m1_nlt, m1_le, m1_nle, b01, b011, q_em, q_m1, n_0, n_1, n_2, n_3, n_4, n_5, n_6, n_7, n_8, n_9, n_10, n_11, n_12, n_14, n_15, n_16, n_20, n_24, n_25, n_32, n_36, n_40, n_41, n_42, n_43, n_45, n_46, n_48, n_57, n_59, n_60, n_73, n_76, n_97, n_99, n_100, n_106, n_109, n_120, n_122, n_136, n_160, n_176, n_200, n_255, n_800, n_1000, n_1001, n_1002, n_1003, n_1006, n_1012, n_1018, n_1019, n_1020, n_1100, n_1140, n_4800, n_4920, n_5940, n_6740, n_20220, q_kI, q_lI, q_nI, q_rI, q_iI, q_jI, q_dI, q_kJ, q_lJ, q_nJ, q_rJ, q_iJ, q_jJ, q_dJ, q_kC, q_lC, q_nC, q_rC, q_jC, q_dC, q_kF, q_lF, q_nF, q_rF, q_jF, q_dF, q_us, q_un, q_ua, F_X9_breakOf, sp_brk, h0, this]
-- longs
theorem ln_0 : (0 : Int64) = lN 0 := of_eq_true (eq_true rfl)
theorem ln_1 : (1 : Int64) = lN 1 := of_eq_true (eq_true rfl)
theorem ln_10 : (10 : Int64) = lN 10 := of_eq_true (eq_true rfl)
theorem l9_pow {μ : Mem} {wd : Nat} (hw : wd ≤ 9) : ∀ (k n i : Nat), k < n → i + k = wd → L_X9_power_4 μ n (nI wd) (lN (10 ^ i)) (nI i) = some (lN (10 ^ wd)) := by
  intro k
  induction k with
  | zero =>
    intro n i hn he
    obtain ⟨n, rfl⟩ : ∃ k, n = k + 1 := ⟨n - 1, by omega⟩
    obtain rfl : i = wd := by omega
    simp (disch := first | assumption | omega) only [q_bl, q_baT, q_bi, q_ba, q_pr, q_ob, q_iT, q_iN, q_it, q_if, q_of, nI_add, pk_mul, pk_sub, nI_leI, nI_ltI, nI_eq, nI_clamp, nI_lt0, nI_eqm, m1_eq, true_or, or_true, not_false_eq_true, m1_lt, m1_nlt, m1_le, m1_nle, b01, b011, q_em, q_m1, n_0, n_1, n_2, n_3, n_4, n_5, n_6, n_7, n_8, n_9, n_10, n_11, n_12, n_14, n_15, n_16, n_20, n_24, n_25, n_32, n_36, n_40, n_41, n_42, n_43, n_45, n_46, n_48, n_57, n_59, n_60, n_73, n_76, n_97, n_99, n_100, n_106, n_109, n_120, n_122, n_136, n_160, n_176, n_200, n_255, n_800, n_1000, n_1001, n_1002, n_1003, n_1006, n_1012, n_1018, n_1019, n_1020, n_1100, n_1140, n_4800, n_4920, n_5940, n_6740, n_20220, q_kI, q_lI, q_nI, q_rI, q_iI, q_jI, q_dI, q_kJ, q_lJ, q_nJ, q_rJ, q_iJ, q_jJ, q_dJ, q_kC, q_lC, q_nC, q_rC, q_jC, q_dC, q_kF, q_lF, q_nF, q_rF, q_jF, q_dF, q_us, q_un, q_ua, L_X9_power_4, B_X9_power_4]
  | succ k ih =>
    intro n i hn he
    obtain ⟨n, rfl⟩ : ∃ k, n = k + 1 := ⟨n - 1, by omega⟩
    have := ih n (i + 1) (by omega) (by omega)
    rw [Nat.pow_succ, Nat.mul_comm] at this
    simp (disch := first | assumption | omega) only [q_bl, q_baT, q_bi, q_ba, q_pr, q_ob, q_iT, q_iN, q_it, q_if, q_of, nI_add, pk_mul, pk_sub, nI_leI, nI_ltI, nI_eq, nI_clamp, nI_lt0, nI_eqm, m1_eq, true_or, or_true, not_false_eq_true, m1_lt, m1_nlt, m1_le, m1_nle, b01, b011, q_em, q_m1, n_0, n_1, n_2, n_3, n_4, n_5, n_6, n_7, n_8, n_9, n_10, n_11, n_12, n_14, n_15, n_16, n_20, n_24, n_25, n_32, n_36, n_40, n_41, n_42, n_43, n_45, n_46, n_48, n_57, n_59, n_60, n_73, n_76, n_97, n_99, n_100, n_106, n_109, n_120, n_122, n_136, n_160, n_176, n_200, n_255, n_800, n_1000, n_1001, n_1002, n_1003, n_1006, n_1012, n_1018, n_1019, n_1020, n_1100, n_1140, n_4800, n_4920, n_5940, n_6740, n_20220, q_kI, q_lI, q_nI, q_rI, q_iI, q_jI, q_dI, q_kJ, q_lJ, q_nJ, q_rJ, q_iJ, q_jJ, q_dJ, q_kC, q_lC, q_nC, q_rC, q_jC, q_dC, q_kF, q_lF, q_nF, q_rF, q_jF, q_dF, q_us, q_un, q_ua, L_X9_power_4, B_X9_power_4, ln_10, lN_mul, this]
theorem x9_pow {μ : Mem} {wd : Nat} (hw : wd ≤ 9) : F_X9_power (nI wd) μ = some (lN (10 ^ wd)) := by
  have := l9_pow (μ := μ) hw wd FU 0 (FU_gt (by omega)) (by omega)
  rw [show (10 : Nat) ^ 0 = 1 from rfl] at this
  simp (disch := first | assumption | omega) only [q_bl, q_baT, q_bi, q_ba, q_pr, q_ob, q_iT, q_iN, q_it, q_if, q_of, nI_add, pk_mul, pk_sub, nI_leI, nI_ltI, nI_eq, nI_clamp, nI_lt0, nI_eqm, m1_eq, true_or, or_true, not_false_eq_true, m1_lt, m1_nlt, m1_le, m1_nle, b01, b011, q_em, q_m1, n_0, n_1, n_2, n_3, n_4, n_5, n_6, n_7, n_8, n_9, n_10, n_11, n_12, n_14, n_15, n_16, n_20, n_24, n_25, n_32, n_36, n_40, n_41, n_42, n_43, n_45, n_46, n_48, n_57, n_59, n_60, n_73, n_76, n_97, n_99, n_100, n_106, n_109, n_120, n_122, n_136, n_160, n_176, n_200, n_255, n_800, n_1000, n_1001, n_1002, n_1003, n_1006, n_1012, n_1018, n_1019, n_1020, n_1100, n_1140, n_4800, n_4920, n_5940, n_6740, n_20220, q_kI, q_lI, q_nI, q_rI, q_iI, q_jI, q_dI, q_kJ, q_lJ, q_nJ, q_rJ, q_iJ, q_jJ, q_dJ, q_kC, q_lC, q_nC, q_rC, q_jC, q_dC, q_kF, q_lF, q_nF, q_rF, q_jF, q_dF, q_us, q_un, q_ua, F_X9_power, ln_1, this]
theorem J_addT {x y : Int64} (h1 : (x.toInt + y.toInt).natAbs < 2 ^ 40) : (x + y).toInt = x.toInt + y.toInt := by
  rw [Int64.toInt_add]; exact Int.bmod_eq_of_le (by omega) (by omega)
theorem J_rem {x : Int64} {p : Nat} (hp0 : 0 < p) (hp : p ≤ 1000000000) (hx : x.toInt.natAbs < 2 ^ 40) : (x - x / lN p * lN p).toInt32 = sg x.toInt (x.toInt.natAbs % p) := by
  have hT : (lN p).toInt = (p : Int) := lN_toInt (by omega)
  have hne : lN p ≠ -1 := fun e => by
    have := congrArg Int64.toInt e
    rw [hT, show (-1 : Int64).toInt = -1 from by decide +kernel] at this
    omega
  have hq := Int64.toInt_div_of_ne_right x (lN p) hne
  rw [hT] at hq
  have hml := Nat.mod_lt x.toInt.natAbs hp0
  have hdm := Nat.div_add_mod x.toInt.natAbs p
  have ht : p * (x.toInt.natAbs / p) ≤ x.toInt.natAbs := Nat.mul_div_le _ _
  have hprod : x.toInt.tdiv p * p = if 0 ≤ x.toInt then ((p * (x.toInt.natAbs / p) : Nat) : Int) else -((p * (x.toInt.natAbs / p) : Nat) : Int) := by
    by_cases h0 : 0 ≤ x.toInt
    · rw [if_pos h0]
      have e : x.toInt = (x.toInt.natAbs : Int) := by omega
      conv => lhs; rw [e]
      rw [← Int.ofNat_tdiv, Nat.mul_comm, Int.natCast_mul]
    · rw [if_neg h0]
      have e : x.toInt = -(x.toInt.natAbs : Int) := by omega
      conv => lhs; rw [e]
      rw [Int.neg_tdiv, ← Int.ofNat_tdiv, Nat.mul_comm, Int.natCast_mul, Int.neg_mul]
  have hm : (x / lN p * lN p).toInt = x.toInt.tdiv p * p := by
    rw [Int64.toInt_mul, hq, hT]
    exact Int.bmod_eq_of_le (by rw [hprod]; split <;> omega) (by rw [hprod]; split <;> omega)
  have hs : (x - x / lN p * lN p).toInt = x.toInt - x.toInt.tdiv p * p := by
    rw [Int64.toInt_sub, hm]
    exact Int.bmod_eq_of_le (by rw [hprod]; split <;> omega) (by rw [hprod]; split <;> omega)
  apply Int32.toInt_inj.mp
  rw [Int64.toInt_toInt32, hs, hprod]
  unfold sg
  by_cases h0 : 0 ≤ x.toInt
  · rw [if_pos h0, if_pos h0, nI_toInt (by omega)]
    rw [Int.bmod_eq_of_le (by omega) (by omega)]; omega
  · rw [if_neg h0, if_neg h0, neg_T (by omega)]
    rw [Int.bmod_eq_of_le (by omega) (by omega)]; omega
theorem I64_T (x : Int32) : x.toInt64.toInt = x.toInt := Int32.toInt_toInt64 x
theorem abs32 (x : Int32) : x.toInt.natAbs ≤ 2147483648 := by
  have h1 := Int32.le_toInt x
  have h2 := Int32.toInt_lt x
  omega
theorem x9_add {μ : Mem} {m k : Nat} {A : SA} {a : Int32} (h : RA μ m A) (w : WB A) (hk : k < nt (A 2)) : ∃ μ', F_X9_add m (nI k) a.toInt64 μ = some μ' ∧ RA μ' m (sp_add A k a) ∧ Fx (fun q => q = m + 1) μ μ' := by
  have c2 := w.c2.2
  have c := w.ctr hk
  have hw9 := c.2.2.2.2.2.2.1
  have ht := ten_lt hw9
  have hp : 0 < 10 ^ nt (A (43 + 5 * k)) := Nat.pow_pos (by decide)
  have hpw := x9_pow (μ := μ) hw9
  have b1 := abs32 (A (1006 + k))
  have b2 := abs32 a
  have hT : ((A (1006 + k)).toInt64 + a.toInt64).toInt = (A (1006 + k)).toInt + a.toInt := by
    rw [J_addT, I64_T, I64_T]; rw [I64_T, I64_T]; omega
  have hrem := J_rem (x := (A (1006 + k)).toInt64 + a.toInt64) hp ht (by rw [hT]; omega)
  rw [hT] at hrem
  have g1 : (nI 0 ≤ lg_cmp ((A (1006 + k)).toInt64 + a.toInt64) (lN (10 ^ nt (A (43 + 5 * k))))) = ((10 ^ nt (A (43 + 5 * k)) : Nat) ≤ (A (1006 + k)).toInt + a.toInt) := propext (by
    rw [show nI 0 = 0 from rfl, lg_cmp_ge, Int64.le_iff_toInt_le, hT, lN_toInt (by omega)])
  have hneg : (-lN (10 ^ nt (A (43 + 5 * k)))).toInt = -((10 ^ nt (A (43 + 5 * k)) : Nat) : Int) := by
    rw [Int64.toInt_neg, lN_toInt (by omega)]; exact Int.bmod_eq_of_le (by omega) (by omega)
  have g2 : (nI 0 < lg_cmp ((A (1006 + k)).toInt64 + a.toInt64) (-lN (10 ^ nt (A (43 + 5 * k))))) = (-((10 ^ nt (A (43 + 5 * k)) : Nat) : Int) < (A (1006 + k)).toInt + a.toInt) := propext (by
    rw [show nI 0 = 0 from rfl, lg_cmp_gt, Int64.lt_iff_toInt_lt, hT, hneg])
  have hnz : ¬ lN (10 ^ nt (A (43 + 5 * k))) = lN 0 := by rw [lN_eq (by omega) (by decide)]; omega
  obtain ⟨s, hA⟩ := h
  generalize hP : 10 ^ nt (A (43 + 5 * k)) = P at *
  have fin : ∀ o : Int32, RA (stI (stI μ (m + 1) (1012 + k) o) (m + 1) (1006 + k) (sg ((A (1006 + k)).toInt + a.toInt) (((A (1006 + k)).toInt + a.toInt).natAbs % P))) m (ua (ua A (1012 + k) o) (1006 + k) (sg ((A (1006 + k)).toInt + a.toInt) (((A (1006 + k)).toInt + a.toInt).natAbs % P))) := fun o => (RA.put (RA.put ⟨s, hA⟩))
  have fx : ∀ o : Int32, Fx (fun q => q = m + 1) μ (stI (stI μ (m + 1) (1012 + k) o) (m + 1) (1006 + k) (sg ((A (1006 + k)).toInt + a.toInt) (((A (1006 + k)).toInt + a.toInt).natAbs % P))) := fun o => Fx.trans (Fx.stI rfl) (Fx.stI rfl)
  have e43 : A (43 + 5 * k + 0) = nI (nt (A (43 + 5 * k))) := c.1
  by_cases hx : P ≤ ((A (1006 + k)).toInt + a.toInt).natAbs
  · refine ⟨stI (stI μ (m + 1) (1012 + k) (A (1012 + k) + nI 1)) (m + 1) (1006 + k) (sg ((A (1006 + k)).toInt + a.toInt) (((A (1006 + k)).toInt + a.toInt).natAbs % P)), ?_, ?_, fx _⟩
    · by_cases h1 : (P : Int) ≤ (A (1006 + k)).toInt + a.toInt
      · simp (disch := first | assumption | omega) only [q_bl, q_baT, q_bi, q_ba, q_pr, q_ob, q_iT, q_iN, q_it, q_if, q_of, nI_add, pk_mul, pk_sub, nI_leI, nI_ltI, nI_eq, nI_clamp, nI_lt0, nI_eqm, m1_eq, true_or, or_true, not_false_eq_true, m1_lt, m1_nlt, m1_le, m1_nle, b01, b011, q_em, q_m1, n_0, n_1, n_2, n_3, n_4, n_5, n_6, n_7, n_8, n_9, n_10, n_11, n_12, n_14, n_15, n_16, n_20, n_24, n_25, n_32, n_36, n_40, n_41, n_42, n_43, n_45, n_46, n_48, n_57, n_59, n_60, n_73, n_76, n_97, n_99, n_100, n_106, n_109, n_120, n_122, n_136, n_160, n_176, n_200, n_255, n_800, n_1000, n_1001, n_1002, n_1003, n_1006, n_1012, n_1018, n_1019, n_1020, n_1100, n_1140, n_4800, n_4920, n_5940, n_6740, n_20220, q_kI, q_lI, q_nI, q_rI, q_iI, q_jI, q_dI, q_kJ, q_lJ, q_nJ, q_rJ, q_iJ, q_jJ, q_dJ, q_kC, q_lC, q_nC, q_rC, q_jC, q_dC, q_kF, q_lF, q_nF, q_rF, q_jF, q_dF, q_us, q_un, q_ua, F_X9_add, B_X9_add_61, B_X9_add_66, s.k0, s.r0, s.k1, s.l1, hA, q_row, e43, hpw, g1, hnz, hrem, ln_0]
      · have h2 : ¬ -(P : Int) < (A (1006 + k)).toInt + a.toInt := by omega
        simp (disch := first | assumption | omega) only [q_bl, q_baT, q_bi, q_ba, q_pr, q_ob, q_iT, q_iN, q_it, q_if, q_of, nI_add, pk_mul, pk_sub, nI_leI, nI_ltI, nI_eq, nI_clamp, nI_lt0, nI_eqm, m1_eq, true_or, or_true, not_false_eq_true, m1_lt, m1_nlt, m1_le, m1_nle, b01, b011, q_em, q_m1, n_0, n_1, n_2, n_3, n_4, n_5, n_6, n_7, n_8, n_9, n_10, n_11, n_12, n_14, n_15, n_16, n_20, n_24, n_25, n_32, n_36, n_40, n_41, n_42, n_43, n_45, n_46, n_48, n_57, n_59, n_60, n_73, n_76, n_97, n_99, n_100, n_106, n_109, n_120, n_122, n_136, n_160, n_176, n_200, n_255, n_800, n_1000, n_1001, n_1002, n_1003, n_1006, n_1012, n_1018, n_1019, n_1020, n_1100, n_1140, n_4800, n_4920, n_5940, n_6740, n_20220, q_kI, q_lI, q_nI, q_rI, q_iI, q_jI, q_dI, q_kJ, q_lJ, q_nJ, q_rJ, q_iJ, q_jJ, q_dJ, q_kC, q_lC, q_nC, q_rC, q_jC, q_dC, q_kF, q_lF, q_nF, q_rF, q_jF, q_dF, q_us, q_un, q_ua, F_X9_add, B_X9_add_61, B_X9_add_66, s.k0, s.r0, s.k1, s.l1, hA, q_row, e43, hpw, g1, g2, hnz, hrem, ln_0]
    · have := fin (A (1012 + k) + nI 1)
      unfold sp_add
      simp only [hP, if_pos hx]
      exact this
  · have h1 : ¬ (P : Int) ≤ (A (1006 + k)).toInt + a.toInt := by omega
    have h2 : -(P : Int) < (A (1006 + k)).toInt + a.toInt := by omega
    refine ⟨stI (stI μ (m + 1) (1012 + k) (A (1012 + k) + nI 0)) (m + 1) (1006 + k) (sg ((A (1006 + k)).toInt + a.toInt) (((A (1006 + k)).toInt + a.toInt).natAbs % P)), ?_, ?_, fx _⟩
    · simp (disch := first | assumption | omega) only [q_bl, q_baT, q_bi, q_ba, q_pr, q_ob, q_iT, q_iN, q_it, q_if, q_of, nI_add, pk_mul, pk_sub, nI_leI, nI_ltI, nI_eq, nI_clamp, nI_lt0, nI_eqm, m1_eq, true_or, or_true, not_false_eq_true, m1_lt, m1_nlt, m1_le, m1_nle, b01, b011, q_em, q_m1, n_0, n_1, n_2, n_3, n_4, n_5, n_6, n_7, n_8, n_9, n_10, n_11, n_12, n_14, n_15, n_16, n_20, n_24, n_25, n_32, n_36, n_40, n_41, n_42, n_43, n_45, n_46, n_48, n_57, n_59, n_60, n_73, n_76, n_97, n_99, n_100, n_106, n_109, n_120, n_122, n_136, n_160, n_176, n_200, n_255, n_800, n_1000, n_1001, n_1002, n_1003, n_1006, n_1012, n_1018, n_1019, n_1020, n_1100, n_1140, n_4800, n_4920, n_5940, n_6740, n_20220, q_kI, q_lI, q_nI, q_rI, q_iI, q_jI, q_dI, q_kJ, q_lJ, q_nJ, q_rJ, q_iJ, q_jJ, q_dJ, q_kC, q_lC, q_nC, q_rC, q_jC, q_dC, q_kF, q_lF, q_nF, q_rF, q_jF, q_dF, q_us, q_un, q_ua, F_X9_add, B_X9_add_61, B_X9_add_66, s.k0, s.r0, s.k1, s.l1, hA, q_row, e43, hpw, g1, g2, hnz, hrem, ln_0]
    · have := fin (A (1012 + k) + nI 0)
      have e0 : ua A (1012 + k) (A (1012 + k) + nI 0) = A := by
        funext i; unfold ua
        by_cases hi : i = 1012 + k
        · rw [if_pos hi, hi]; exact Int32.add_zero _
        · rw [if_neg hi]
      rw [e0] at this
      unfold sp_add
      simp only [hP, if_neg hx]
      exact this


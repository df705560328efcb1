/-! LAYER 3: lines that occur -/
/-- two lines look alike from a column on -/
def sml (F2 F1 : SA) (j l k : Nat) : Prop := ∀ i, k ≤ i → i ≤ 40 → F2 (1140 + 40 * j + i - 1) = F1 (1140 + 40 * l + i - 1)
theorem sml_end {F2 F1 : SA} {j l : Nat} : sml F2 F1 j l 41 := fun i h1 h2 => by omega
theorem sml_step {F2 F1 : SA} {j l k : Nat} (hk : k ≤ 40) : sml F2 F1 j l k = (F2 (1140 + 40 * j + k - 1) = F1 (1140 + 40 * l + k - 1) ∧ sml F2 F1 j l (k + 1)) := propext ⟨fun h => ⟨h k (Nat.le_refl _) hk, fun i h1 h2 => h i (by omega) h2⟩, fun h i h1 h2 => by
  by_cases e : i = k
  · subst e; exact h.1
  · exact h.2 i (by omega) h2⟩
def oc (F2 F1 : SA) (n2 l j : Nat) : Prop := ∃ i, j ≤ i ∧ i < n2 ∧ F2 (1020 + i) = F1 (1020 + l) ∧ sml F2 F1 i l 1
theorem oc_end {F2 F1 : SA} {n2 l : Nat} : ¬ oc F2 F1 n2 l n2 := fun ⟨i, h1, h2, _⟩ => by omega
theorem oc_step {F2 F1 : SA} {n2 l j : Nat} (hj : j < n2) : oc F2 F1 n2 l j = ((F2 (1020 + j) = F1 (1020 + l) ∧ sml F2 F1 j l 1) ∨ oc F2 F1 n2 l (j + 1)) := propext ⟨fun ⟨i, h1, h2, h3, h4⟩ => by
  by_cases e : i = j
  · subst e; exact Or.inl ⟨h3, h4⟩
  · exact Or.inr ⟨i, by omega, h2, h3, h4⟩, fun h => by
  rcases h with ⟨h3, h4⟩ | ⟨i, h1, h2, h3, h4⟩
  · exact ⟨j, Nat.le_refl _, hj, h3, h4⟩
  · exact ⟨i, by omega, h2, h3, h4⟩⟩
section PAP
variable {μ μa μc μ1 μ2 : Mem} {x : Nat} {A B C F1 F2 : SA}
theorem l4_looks {p q np nq j l : Nat} (h : SP μ p) (h2 : SP μ q) (g : gI μ p 2 = nI np) (g2 : gI μ q 2 = nI nq) (bp : np < 2 ^ 30) (bq : nq < 2 ^ 30) (hj : j < min np 120) (hl : l < min nq 120) (vp : ∀ k, 1 ≤ k → k ≤ 40 → gI μ (p + 1) (j * 40 + k - 1) = F2 (1140 + 40 * j + k - 1)) (vq : ∀ k, 1 ≤ k → k ≤ 40 → gI μ (q + 1) (l * 40 + k - 1) = F1 (1140 + 40 * l + k - 1)) :
    ∀ (m fu k : Nat), m < fu → k + m = 41 → 1 ≤ k → L_X4_looksLike_3 μ fu p (nI j) q (nI l) (nI k) = some (@ite _ (sml F2 F1 j l k) (Classical.propDecidable _) (nI 1) (nI 0)) := by
  intro m
  induction m with
  | zero =>
    intro fu k hf he h1
    obtain ⟨fu, rfl⟩ : ∃ k, fu = k + 1 := ⟨fu - 1, by omega⟩
    obtain rfl : k = 41 := by omega
    rw [if_pos sml_end]
    clear vp vq h h2
    simp (disch := first | assumption | omega) only [q_bl, q_baT, q_bi, q_ba, q_pr, q_ob, q_iT, q_iN, q_it, q_if, q_of, nI_add, pk_mul, pk_sub, nI_leI, nI_ltI, nI_eq, nI_clamp, nI_lt0, nI_eqm, m1_eq, true_or, or_true, not_false_eq_true, m1_lt, m1_nlt, m1_le, m1_nle, b01, b011, q_em, q_m1, n_0, n_1, n_2, n_3, n_4, n_5, n_6, n_7, n_8, n_9, n_10, n_11, n_12, n_14, n_15, n_16, n_20, n_24, n_25, n_32, n_36, n_40, n_41, n_42, n_43, n_45, n_46, n_48, n_57, n_59, n_60, n_73, n_76, n_97, n_99, n_100, n_106, n_109, n_120, n_122, n_136, n_160, n_176, n_200, n_255, n_800, n_1000, n_1001, n_1002, n_1003, n_1006, n_1012, n_1018, n_1019, n_1020, n_1100, n_1140, n_4800, n_4920, n_5940, n_6740, n_20220, L_X4_looksLike_3, B_X4_looksLike_3]
  | succ m ih =>
    intro fu k hf he h1
    obtain ⟨fu, rfl⟩ : ∃ k, fu = k + 1 := ⟨fu - 1, by omega⟩
    have e1 := x4_sign h g bp hj h1 (show k ≤ 40 by omega)
    have e2 := x4_sign h2 g2 bq hl h1 (show k ≤ 40 by omega)
    rw [vp k h1 (by omega)] at e1
    rw [vq k h1 (by omega)] at e2
    have q1 := ih fu (k + 1) (by omega) (by omega) (by omega)
    have hs := sml_step (F2 := F2) (F1 := F1) (j := j) (l := l) (show k ≤ 40 by omega)
    have kp := h.1
    have kq := h2.1
    clear ih vp vq h h2
    by_cases hx : F2 (1140 + 40 * j + k - 1) = F1 (1140 + 40 * l + k - 1)
    · have hs2 : sml F2 F1 j l k = sml F2 F1 j l (k + 1) := by rw [hs]; exact propext ⟨fun e => e.2, fun e => ⟨hx, e⟩⟩
      rw [hs2]
      clear hs hs2
      rw [hx] at e1
      simp (disch := first | assumption | omega) only [q_bl, q_baT, q_bi, q_ba, q_pr, q_ob, q_iT, q_iN, q_it, q_if, q_of, nI_add, pk_mul, pk_sub, nI_leI, nI_ltI, nI_eq, nI_clamp, nI_lt0, nI_eqm, m1_eq, true_or, or_true, not_false_eq_true, m1_lt, m1_nlt, m1_le, m1_nle, b01, b011, q_em, q_m1, n_0, n_1, n_2, n_3, n_4, n_5, n_6, n_7, n_8, n_9, n_10, n_11, n_12, n_14, n_15, n_16, n_20, n_24, n_25, n_32, n_36, n_40, n_41, n_42, n_43, n_45, n_46, n_48, n_57, n_59, n_60, n_73, n_76, n_97, n_99, n_100, n_106, n_109, n_120, n_122, n_136, n_160, n_176, n_200, n_255, n_800, n_1000, n_1001, n_1002, n_1003, n_1006, n_1012, n_1018, n_1019, n_1020, n_1100, n_1140, n_4800, n_4920, n_5940, n_6740, n_20220, L_X4_looksLike_3, B_X4_looksLike_3, kp, kq, e1, e2, q1]
    · rw [if_neg (fun e => hx (by rw [hs] at e; exact e.1))]
      clear hs q1
      simp (disch := first | assumption | omega) only [q_bl, q_baT, q_bi, q_ba, q_pr, q_ob, q_iT, q_iN, q_it, q_if, q_of, nI_add, pk_mul, pk_sub, nI_leI, nI_ltI, nI_eq, nI_clamp, nI_lt0, nI_eqm, m1_eq, true_or, or_true, not_false_eq_true, m1_lt, m1_nlt, m1_le, m1_nle, b01, b011, q_em, q_m1, n_0, n_1, n_2, n_3, n_4, n_5, n_6, n_7, n_8, n_9, n_10, n_11, n_12, n_14, n_15, n_16, n_20, n_24, n_25, n_32, n_36, n_40, n_41, n_42, n_43, n_45, n_46, n_48, n_57, n_59, n_60, n_73, n_76, n_97, n_99, n_100, n_106, n_109, n_120, n_122, n_136, n_160, n_176, n_200, n_255, n_800, n_1000, n_1001, n_1002, n_1003, n_1006, n_1012, n_1018, n_1019, n_1020, n_1100, n_1140, n_4800, n_4920, n_5940, n_6740, n_20220, L_X4_looksLike_3, B_X4_looksLike_3, kp, kq, e1, e2]
theorem l4_has {p q np nq n2 l : Nat} (h : SP μ p) (h2 : SP μ q) (g : gI μ p 2 = nI np) (g2 : gI μ q 2 = nI nq) (bp : np < 2 ^ 30) (bq : nq < 2 ^ 30) (hn : n2 = min np 120) (hl : l < min nq 120) (vp : ∀ j, j < n2 → gI μ (p + 2) j = F2 (1020 + j) ∧ ∀ k, 1 ≤ k → k ≤ 40 → gI μ (p + 1) (j * 40 + k - 1) = F2 (1140 + 40 * j + k - 1)) (vq : gI μ (q + 2) l = F1 (1020 + l) ∧ ∀ k, 1 ≤ k → k ≤ 40 → gI μ (q + 1) (l * 40 + k - 1) = F1 (1140 + 40 * l + k - 1)) :
    ∀ (m fu j : Nat), m < fu → j + m = n2 → L_X4_hasLine_2 μ fu p q (nI l) (nI j) = some (@ite _ (oc F2 F1 n2 l j) (Classical.propDecidable _) (nI 1) (nI 0)) := by
  have ek := x4_kept h g bp
  rw [← hn] at ek
  intro m
  induction m with
  | zero =>
    intro fu j hf he
    obtain ⟨fu, rfl⟩ : ∃ k, fu = k + 1 := ⟨fu - 1, by omega⟩
    obtain rfl : j = n2 := by omega
    rw [if_neg oc_end]
    have kp := h.1
    clear vp vq h h2
    simp (disch := first | assumption | omega) only [q_bl, q_baT, q_bi, q_ba, q_pr, q_ob, q_iT, q_iN, q_it, q_if, q_of, nI_add, pk_mul, pk_sub, nI_leI, nI_ltI, nI_eq, nI_clamp, nI_lt0, nI_eqm, m1_eq, true_or, or_true, not_false_eq_true, m1_lt, m1_nlt, m1_le, m1_nle, b01, b011, q_em, q_m1, n_0, n_1, n_2, n_3, n_4, n_5, n_6, n_7, n_8, n_9, n_10, n_11, n_12, n_14, n_15, n_16, n_20, n_24, n_25, n_32, n_36, n_40, n_41, n_42, n_43, n_45, n_46, n_48, n_57, n_59, n_60, n_73, n_76, n_97, n_99, n_100, n_106, n_109, n_120, n_122, n_136, n_160, n_176, n_200, n_255, n_800, n_1000, n_1001, n_1002, n_1003, n_1006, n_1012, n_1018, n_1019, n_1020, n_1100, n_1140, n_4800, n_4920, n_5940, n_6740, n_20220, L_X4_hasLine_2, B_X4_hasLine_2, kp, ek]
  | succ m ih =>
    intro fu j hf he
    obtain ⟨fu, rfl⟩ : ∃ k, fu = k + 1 := ⟨fu - 1, by omega⟩
    obtain ⟨p1, p2⟩ := vp j (by omega)
    have e1 := x4_level h g bp (show j < min np 120 by omega)
    have e2 := x4_level h2 g2 bq hl
    rw [p1] at e1
    rw [vq.1] at e2
    have el := l4_looks (F2 := F2) (F1 := F1) h h2 g g2 bp bq (show j < min np 120 by omega) hl p2 vq.2 40 FU 1 (FU_gt (by decide)) (by decide) (by decide)
    have el2 : F_X4_looksLike p (nI j) q (nI l) μ = some (@ite _ (sml F2 F1 j l 1) (Classical.propDecidable _) (nI 1) (nI 0)) := by
      clear ih vp vq h h2 e1 e2 ek p1 p2
      simp (disch := first | assumption | omega) only [q_bl, q_baT, q_bi, q_ba, q_pr, q_ob, q_iT, q_iN, q_it, q_if, q_of, nI_add, pk_mul, pk_sub, nI_leI, nI_ltI, nI_eq, nI_clamp, nI_lt0, nI_eqm, m1_eq, true_or, or_true, not_false_eq_true, m1_lt, m1_nlt, m1_le, m1_nle, b01, b011, q_em, q_m1, n_0, n_1, n_2, n_3, n_4, n_5, n_6, n_7, n_8, n_9, n_10, n_11, n_12, n_14, n_15, n_16, n_20, n_24, n_25, n_32, n_36, n_40, n_41, n_42, n_43, n_45, n_46, n_48, n_57, n_59, n_60, n_73, n_76, n_97, n_99, n_100, n_106, n_109, n_120, n_122, n_136, n_160, n_176, n_200, n_255, n_800, n_1000, n_1001, n_1002, n_1003, n_1006, n_1012, n_1018, n_1019, n_1020, n_1100, n_1140, n_4800, n_4920, n_5940, n_6740, n_20220, F_X4_looksLike, el]
    have q1 := ih fu (j + 1) (by omega) (by omega)
    have hs := oc_step (F2 := F2) (F1 := F1) (l := l) (show j < n2 by omega)
    have kp := h.1
    have kq := h2.1
    clear ih vp vq h h2 el p1 p2
    by_cases hx : F2 (1020 + j) = F1 (1020 + l)
    · by_cases hy : sml F2 F1 j l 1
      · rw [if_pos (by rw [hs]; exact Or.inl ⟨hx, hy⟩)]
        rw [if_pos hy] at el2
        rw [hx] at e1
        clear hs q1 hy
        simp (disch := first | assumption | omega) only [q_bl, q_baT, q_bi, q_ba, q_pr, q_ob, q_iT, q_iN, q_it, q_if, q_of, nI_add, pk_mul, pk_sub, nI_leI, nI_ltI, nI_eq, nI_clamp, nI_lt0, nI_eqm, m1_eq, true_or, or_true, not_false_eq_true, m1_lt, m1_nlt, m1_le, m1_nle, b01, b011, q_em, q_m1, n_0, n_1, n_2, n_3, n_4, n_5, n_6, n_7, n_8, n_9, n_10, n_11, n_12, n_14, n_15, n_16, n_20, n_24, n_25, n_32, n_36, n_40, n_41, n_42, n_43, n_45, n_46, n_48, n_57, n_59, n_60, n_73, n_76, n_97, n_99, n_100, n_106, n_109, n_120, n_122, n_136, n_160, n_176, n_200, n_255, n_800, n_1000, n_1001, n_1002, n_1003, n_1006, n_1012, n_1018, n_1019, n_1020, n_1100, n_1140, n_4800, n_4920, n_5940, n_6740, n_20220, L_X4_hasLine_2, B_X4_hasLine_2, kp, kq, ek, e1, e2, el2]
      · have hs2 : oc F2 F1 n2 l j = oc F2 F1 n2 l (j + 1) := by rw [hs]; exact propext ⟨fun e => e.elim (fun e => absurd e.2 hy) id, Or.inr⟩
        rw [hs2]
        rw [if_neg hy] at el2
        rw [hx] at e1
        clear hs hs2 hy
        simp (disch := first | assumption | omega) only [q_bl, q_baT, q_bi, q_ba, q_pr, q_ob, q_iT, q_iN, q_it, q_if, q_of, nI_add, pk_mul, pk_sub, nI_leI, nI_ltI, nI_eq, nI_clamp, nI_lt0, nI_eqm, m1_eq, true_or, or_true, not_false_eq_true, m1_lt, m1_nlt, m1_le, m1_nle, b01, b011, q_em, q_m1, n_0, n_1, n_2, n_3, n_4, n_5, n_6, n_7, n_8, n_9, n_10, n_11, n_12, n_14, n_15, n_16, n_20, n_24, n_25, n_32, n_36, n_40, n_41, n_42, n_43, n_45, n_46, n_48, n_57, n_59, n_60, n_73, n_76, n_97, n_99, n_100, n_106, n_109, n_120, n_122, n_136, n_160, n_176, n_200, n_255, n_800, n_1000, n_1001, n_1002, n_1003, n_1006, n_1012, n_1018, n_1019, n_1020, n_1100, n_1140, n_4800, n_4920, n_5940, n_6740, n_20220, L_X4_hasLine_2, B_X4_hasLine_2, B_X4_hasLine_35, kp, kq, ek, e1, e2, el2, q1]
    · have hs2 : oc F2 F1 n2 l j = oc F2 F1 n2 l (j + 1) := by rw [hs]; exact propext ⟨fun e => e.elim (fun e => absurd e.1 hx) id, Or.inr⟩
      rw [hs2]
      clear hs hs2 el2
      simp (disch := first | assumption | omega) only [q_bl, q_baT, q_bi, q_ba, q_pr, q_ob, q_iT, q_iN, q_it, q_if, q_of, nI_add, pk_mul, pk_sub, nI_leI, nI_ltI, nI_eq, nI_clamp, nI_lt0, nI_eqm, m1_eq, true_or, or_true, not_false_eq_true, m1_lt, m1_nlt, m1_le, m1_nle, b01, b011, q_em, q_m1, n_0, n_1, n_2, n_3, n_4, n_5, n_6, n_7, n_8, n_9, n_10, n_11, n_12, n_14, n_15, n_16, n_20, n_24, n_25, n_32, n_36, n_40, n_41, n_42, n_43, n_45, n_46, n_48, n_57, n_59, n_60, n_73, n_76, n_97, n_99, n_100, n_106, n_109, n_120, n_122, n_136, n_160, n_176, n_200, n_255, n_800, n_1000, n_1001, n_1002, n_1003, n_1006, n_1012, n_1018, n_1019, n_1020, n_1100, n_1140, n_4800, n_4920, n_5940, n_6740, n_20220, L_X4_hasLine_2, B_X4_hasLine_2, B_X4_hasLine_35, kp, kq, ek, e1, e2, q1]
-- the reference's
theorem l9_oc0 {m j l : Nat} {i4 : Int32} {fu : Nat} {k2 : Nat → Int32 → Int32 → Option Int32} (hj : j < 120) : L_X9_occurs_38 μ k2 (fu + 1) m (nI l) (nI j) (nI 0) i4 = k2 m (nI l) (nI (j + 1)) := by
  by_cases hx : nI 40 ≤ i4
  · simp (disch := first | assumption | omega) only [q_bl, q_baT, q_bi, q_ba, q_pr, q_ob, q_iT, q_iN, q_it, q_if, q_of, nI_add, pk_mul, pk_sub, nI_leI, nI_ltI, nI_eq, nI_clamp, nI_lt0, nI_eqm, m1_eq, true_or, or_true, not_false_eq_true, m1_lt, m1_nlt, m1_le, m1_nle, b01, b011, q_em, q_m1, n_0, n_1, n_2, n_3, n_4, n_5, n_6, n_7, n_8, n_9, n_10, n_11, n_12, n_14, n_15, n_16, n_20, n_24, n_25, n_32, n_36, n_40, n_41, n_42, n_43, n_45, n_46, n_48, n_57, n_59, n_60, n_73, n_76, n_97, n_99, n_100, n_106, n_109, n_120, n_122, n_136, n_160, n_176, n_200, n_255, n_800, n_1000, n_1001, n_1002, n_1003, n_1006, n_1012, n_1018, n_1019, n_1020, n_1100, n_1140, n_4800, n_4920, n_5940, n_6740, n_20220, L_X9_occurs_38, B_X9_occurs_38, B_X9_occurs_95, hx]
  · simp (disch := first | assumption | omega) only [q_bl, q_baT, q_bi, q_ba, q_pr, q_ob, q_iT, q_iN, q_it, q_if, q_of, nI_add, pk_mul, pk_sub, nI_leI, nI_ltI, nI_eq, nI_clamp, nI_lt0, nI_eqm, m1_eq, true_or, or_true, not_false_eq_true, m1_lt, m1_nlt, m1_le, m1_nle, b01, b011, q_em, q_m1, n_0, n_1, n_2, n_3, n_4, n_5, n_6, n_7, n_8, n_9, n_10, n_11, n_12, n_14, n_15, n_16, n_20, n_24, n_25, n_32, n_36, n_40, n_41, n_42, n_43, n_45, n_46, n_48, n_57, n_59, n_60, n_73, n_76, n_97, n_99, n_100, n_106, n_109, n_120, n_122, n_136, n_160, n_176, n_200, n_255, n_800, n_1000, n_1001, n_1002, n_1003, n_1006, n_1012, n_1018, n_1019, n_1020, n_1100, n_1140, n_4800, n_4920, n_5940, n_6740, n_20220, L_X9_occurs_38, B_X9_occurs_38, B_X9_occurs_95, hx]
theorem l9_oc1 {m j l : Nat} {k2 : Nat → Int32 → Int32 → Option Int32} {R : Option Int32} (h : RA μ m F2) (hj : j < 120) (hl : l < 120) (hk : ∀ i, i < 4920 → gI μ (m + 11) i = F1 (1020 + i)) (hR : k2 m (nI l) (nI (j + 1)) = R) : ∀ (r fu i : Nat), r + 1 < fu → i + r = 40 → L_X9_occurs_38 μ k2 fu m (nI l) (nI j) (nI 1) (nI i) = @ite _ (sml F2 F1 j l (i + 1)) (Classical.propDecidable _) (some (nI 1)) R := by
  intro r
  induction r with
  | zero =>
    intro fu i hf he
    obtain ⟨fu, rfl⟩ : ∃ k, fu = k + 1 := ⟨fu - 1, by omega⟩
    obtain rfl : i = 40 := by omega
    rw [if_pos sml_end]
    clear h hk hR
    simp (disch := first | assumption | omega) only [q_bl, q_baT, q_bi, q_ba, q_pr, q_ob, q_iT, q_iN, q_it, q_if, q_of, nI_add, pk_mul, pk_sub, nI_leI, nI_ltI, nI_eq, nI_clamp, nI_lt0, nI_eqm, m1_eq, true_or, or_true, not_false_eq_true, m1_lt, m1_nlt, m1_le, m1_nle, b01, b011, q_em, q_m1, n_0, n_1, n_2, n_3, n_4, n_5, n_6, n_7, n_8, n_9, n_10, n_11, n_12, n_14, n_15, n_16, n_20, n_24, n_25, n_32, n_36, n_40, n_41, n_42, n_43, n_45, n_46, n_48, n_57, n_59, n_60, n_73, n_76, n_97, n_99, n_100, n_106, n_109, n_120, n_122, n_136, n_160, n_176, n_200, n_255, n_800, n_1000, n_1001, n_1002, n_1003, n_1006, n_1012, n_1018, n_1019, n_1020, n_1100, n_1140, n_4800, n_4920, n_5940, n_6740, n_20220, L_X9_occurs_38, B_X9_occurs_38, B_X9_occurs_95]
  | succ r ih =>
    intro fu i hf he
    obtain ⟨fu, rfl⟩ : ∃ k, fu = k + 1 := ⟨fu - 1, by omega⟩
    obtain ⟨fv, rfl⟩ : ∃ k, fu = k + 1 := ⟨fu - 1, by omega⟩
    have s := h.1
    have g1 : gI μ (m + 1) (1140 + 40 * j + i) = F2 (1140 + 40 * j + i) := by rw [h.2]
    have g2 : gI μ (m + 11) (120 + 40 * l + i) = F1 (1140 + 40 * l + i) := by rw [hk _ (by omega)]; congr 1; omega
    have q1 := ih (fv + 1) (i + 1) (by omega) (by omega)
    have q0 := l9_oc0 (μ := μ) (m := m) (l := l) (i4 := nI (i + 1)) (fu := fv) (k2 := k2) hj
    rw [hR] at q0
    have hs := sml_step (F2 := F2) (F1 := F1) (j := j) (l := l) (show i + 1 ≤ 40 by omega)
    rw [show 1140 + 40 * j + (i + 1) - 1 = 1140 + 40 * j + i from by omega, show 1140 + 40 * l + (i + 1) - 1 = 1140 + 40 * l + i from by omega] at hs
    clear ih h hk hR
    rw [show L_X9_occurs_38 μ k2 (fv + 1 + 1) = B_X9_occurs_38 μ k2 (L_X9_occurs_38 μ k2 (fv + 1)) from rfl]
    generalize L_X9_occurs_38 μ k2 (fv + 1) = K at *
    by_cases hx : F2 (1140 + 40 * j + i) = F1 (1140 + 40 * l + i)
    · have hs2 : sml F2 F1 j l (i + 1) = sml F2 F1 j l (i + 1 + 1) := by rw [hs]; exact propext ⟨fun e => e.2, fun e => ⟨hx, e⟩⟩
      rw [hs2]
      rw [hx] at g1
      clear hs hs2 q0
      simp (disch := first | assumption | omega) only [q_bl, q_baT, q_bi, q_ba, q_pr, q_ob, q_iT, q_iN, q_it, q_if, q_of, nI_add, pk_mul, pk_sub, nI_leI, nI_ltI, nI_eq, nI_clamp, nI_lt0, nI_eqm, m1_eq, true_or, or_true, not_false_eq_true, m1_lt, m1_nlt, m1_le, m1_nle, b01, b011, q_em, q_m1, n_0, n_1, n_2, n_3, n_4, n_5, n_6, n_7, n_8, n_9, n_10, n_11, n_12, n_14, n_15, n_16, n_20, n_24, n_25, n_32, n_36, n_40, n_41, n_42, n_43, n_45, n_46, n_48, n_57, n_59, n_60, n_73, n_76, n_97, n_99, n_100, n_106, n_109, n_120, n_122, n_136, n_160, n_176, n_200, n_255, n_800, n_1000, n_1001, n_1002, n_1003, n_1006, n_1012, n_1018, n_1019, n_1020, n_1100, n_1140, n_4800, n_4920, n_5940, n_6740, n_20220, B_X9_occurs_38, B_X9_occurs_88, s.k0, s.r0, s.k1, s.l1, s.r24, s.k11, s.l11, g1, g2, q1]
    · rw [if_neg (fun e => hx (by rw [hs] at e; exact e.1))]
      clear hs q1
      simp (disch := first | assumption | omega) only [q_bl, q_baT, q_bi, q_ba, q_pr, q_ob, q_iT, q_iN, q_it, q_if, q_of, nI_add, pk_mul, pk_sub, nI_leI, nI_ltI, nI_eq, nI_clamp, nI_lt0, nI_eqm, m1_eq, true_or, or_true, not_false_eq_true, m1_lt, m1_nlt, m1_le, m1_nle, b01, b011, q_em, q_m1, n_0, n_1, n_2, n_3, n_4, n_5, n_6, n_7, n_8, n_9, n_10, n_11, n_12, n_14, n_15, n_16, n_20, n_24, n_25, n_32, n_36, n_40, n_41, n_42, n_43, n_45, n_46, n_48, n_57, n_59, n_60, n_73, n_76, n_97, n_99, n_100, n_106, n_109, n_120, n_122, n_136, n_160, n_176, n_200, n_255, n_800, n_1000, n_1001, n_1002, n_1003, n_1006, n_1012, n_1018, n_1019, n_1020, n_1100, n_1140, n_4800, n_4920, n_5940, n_6740, n_20220, B_X9_occurs_38, B_X9_occurs_88, s.k0, s.r0, s.k1, s.l1, s.r24, s.k11, s.l11, g1, g2, q0]
theorem x9_kept2 {m t : Nat} (h : RA μ m F2) (h18 : F2 1018 = nI t) (ht : t < 2 ^ 30) : F_X9_keptLines m μ = some (nI (min t 120)) := by
  have s := h.1
  have g : gI μ (m + 1) 1018 = nI t := by rw [h.2]; exact h18
  clear h h18
  by_cases hx : t < 120
  · rw [show min t 120 = t from by omega]
    simp (disch := first | assumption | omega) only [q_bl, q_baT, q_bi, q_ba, q_pr, q_ob, q_iT, q_iN, q_it, q_if, q_of, nI_add, pk_mul, pk_sub, nI_leI, nI_ltI, nI_eq, nI_clamp, nI_lt0, nI_eqm, m1_eq, true_or, or_true, not_false_eq_true, m1_lt, m1_nlt, m1_le, m1_nle, b01, b011, q_em, q_m1, n_0, n_1, n_2, n_3, n_4, n_5, n_6, n_7, n_8, n_9, n_10, n_11, n_12, n_14, n_15, n_16, n_20, n_24, n_25, n_32, n_36, n_40, n_41, n_42, n_43, n_45, n_46, n_48, n_57, n_59, n_60, n_73, n_76, n_97, n_99, n_100, n_106, n_109, n_120, n_122, n_136, n_160, n_176, n_200, n_255, n_800, n_1000, n_1001, n_1002, n_1003, n_1006, n_1012, n_1018, n_1019, n_1020, n_1100, n_1140, n_4800, n_4920, n_5940, n_6740, n_20220, F_X9_keptLines, s.k0, s.r0, s.k1, s.l1, g]
  · rw [show min t 120 = 120 from by omega]
    simp (disch := first | assumption | omega) only [q_bl, q_baT, q_bi, q_ba, q_pr, q_ob, q_iT, q_iN, q_it, q_if, q_of, nI_add, pk_mul, pk_sub, nI_leI, nI_ltI, nI_eq, nI_clamp, nI_lt0, nI_eqm, m1_eq, true_or, or_true, not_false_eq_true, m1_lt, m1_nlt, m1_le, m1_nle, b01, b011, q_em, q_m1, n_0, n_1, n_2, n_3, n_4, n_5, n_6, n_7, n_8, n_9, n_10, n_11, n_12, n_14, n_15, n_16, n_20, n_24, n_25, n_32, n_36, n_40, n_41, n_42, n_43, n_45, n_46, n_48, n_57, n_59, n_60, n_73, n_76, n_97, n_99, n_100, n_106, n_109, n_120, n_122, n_136, n_160, n_176, n_200, n_255, n_800, n_1000, n_1001, n_1002, n_1003, n_1006, n_1012, n_1018, n_1019, n_1020, n_1100, n_1140, n_4800, n_4920, n_5940, n_6740, n_20220, F_X9_keptLines, s.k0, s.r0, s.k1, s.l1, g]
theorem l9_occ {m l t n2 : Nat} (h : RA μ m F2) (h18 : F2 1018 = nI t) (ht : t < 2 ^ 30) (hn : n2 = min t 120) (hl : l < 120) (hk : ∀ i, i < 4920 → gI μ (m + 11) i = F1 (1020 + i)) : ∀ (r fu j : Nat), r < fu → j + r = n2 → L_X9_occurs_2 μ fu m (nI l) (nI j) = some (@ite _ (oc F2 F1 n2 l j) (Classical.propDecidable _) (nI 1) (nI 0)) := by
  have ek := x9_kept2 h h18 ht
  rw [← hn] at ek
  have s := h.1
  intro r
  induction r with
  | zero =>
    intro fu j hf he
    obtain ⟨fu, rfl⟩ : ∃ k, fu = k + 1 := ⟨fu - 1, by omega⟩
    obtain rfl : j = n2 := by omega
    rw [if_neg oc_end]
    clear h hk h18
    simp (disch := first | assumption | omega) only [q_bl, q_baT, q_bi, q_ba, q_pr, q_ob, q_iT, q_iN, q_it, q_if, q_of, nI_add, pk_mul, pk_sub, nI_leI, nI_ltI, nI_eq, nI_clamp, nI_lt0, nI_eqm, m1_eq, true_or, or_true, not_false_eq_true, m1_lt, m1_nlt, m1_le, m1_nle, b01, b011, q_em, q_m1, n_0, n_1, n_2, n_3, n_4, n_5, n_6, n_7, n_8, n_9, n_10, n_11, n_12, n_14, n_15, n_16, n_20, n_24, n_25, n_32, n_36, n_40, n_41, n_42, n_43, n_45, n_46, n_48, n_57, n_59, n_60, n_73, n_76, n_97, n_99, n_100, n_106, n_109, n_120, n_122, n_136, n_160, n_176, n_200, n_255, n_800, n_1000, n_1001, n_1002, n_1003, n_1006, n_1012, n_1018, n_1019, n_1020, n_1100, n_1140, n_4800, n_4920, n_5940, n_6740, n_20220, L_X9_occurs_2, B_X9_occurs_2, s.k0, ek]
  | succ r ih =>
    intro fu j hf he
    obtain ⟨fu, rfl⟩ : ∃ k, fu = k + 1 := ⟨fu - 1, by omega⟩
    have q1 := ih fu (j + 1) (by omega) (by omega)
    have g1 : gI μ (m + 1) (1020 + j) = F2 (1020 + j) := by rw [h.2]
    have g2 : gI μ (m + 11) l = F1 (1020 + l) := hk _ (by omega)
    have a1 := l9_oc1 (F1 := F1) (k2 := L_X9_occurs_2 μ fu) (j := j) (l := l) h (by omega) hl hk q1 40 FU 0 (FU_gt (by decide)) (by decide)
    have a0 : L_X9_occurs_38 μ (L_X9_occurs_2 μ fu) FU m (nI l) (nI j) (nI 0) (nI 0) = L_X9_occurs_2 μ fu m (nI l) (nI (j + 1)) := by
      obtain ⟨f2, hf2⟩ : ∃ k, FU = k + 1 := ⟨FU - 1, by have := FU_gt (k := 1) (by decide); omega⟩
      rw [hf2]; exact l9_oc0 (by omega)
    rw [q1] at a0
    have hs := oc_step (F2 := F2) (F1 := F1) (l := l) (show j < n2 by omega)
    clear ih h hk h18 q1
    rw [show L_X9_occurs_2 μ (fu + 1) = B_X9_occurs_2 μ (L_X9_occurs_2 μ fu) from rfl]
    generalize L_X9_occurs_2 μ fu = K at *
    by_cases hx : F2 (1020 + j) = F1 (1020 + l)
    · rw [hx] at g1
      by_cases hy : sml F2 F1 j l 1
      · rw [if_pos (by rw [hs]; exact Or.inl ⟨hx, hy⟩)]
        rw [Nat.zero_add, if_pos hy] at a1
        clear hs a0 hy
        simp (disch := first | assumption | omega) only [q_bl, q_baT, q_bi, q_ba, q_pr, q_ob, q_iT, q_iN, q_it, q_if, q_of, nI_add, pk_mul, pk_sub, nI_leI, nI_ltI, nI_eq, nI_clamp, nI_lt0, nI_eqm, m1_eq, true_or, or_true, not_false_eq_true, m1_lt, m1_nlt, m1_le, m1_nle, b01, b011, q_em, q_m1, n_0, n_1, n_2, n_3, n_4, n_5, n_6, n_7, n_8, n_9, n_10, n_11, n_12, n_14, n_15, n_16, n_20, n_24, n_25, n_32, n_36, n_40, n_41, n_42, n_43, n_45, n_46, n_48, n_57, n_59, n_60, n_73, n_76, n_97, n_99, n_100, n_106, n_109, n_120, n_122, n_136, n_160, n_176, n_200, n_255, n_800, n_1000, n_1001, n_1002, n_1003, n_1006, n_1012, n_1018, n_1019, n_1020, n_1100, n_1140, n_4800, n_4920, n_5940, n_6740, n_20220, B_X9_occurs_2, B_X9_occurs_34, s.k0, s.r0, s.k1, s.l1, s.r24, s.k11, s.l11, ek, g1, g2, a1]
      · have hs2 : oc F2 F1 n2 l j = oc F2 F1 n2 l (j + 1) := by rw [hs]; exact propext ⟨fun e => e.elim (fun e => absurd e.2 hy) id, Or.inr⟩
        rw [hs2]
        rw [Nat.zero_add, if_neg hy] at a1
        clear hs hs2 a0 hy
        simp (disch := first | assumption | omega) only [q_bl, q_baT, q_bi, q_ba, q_pr, q_ob, q_iT, q_iN, q_it, q_if, q_of, nI_add, pk_mul, pk_sub, nI_leI, nI_ltI, nI_eq, nI_clamp, nI_lt0, nI_eqm, m1_eq, true_or, or_true, not_false_eq_true, m1_lt, m1_nlt, m1_le, m1_nle, b01, b011, q_em, q_m1, n_0, n_1, n_2, n_3, n_4, n_5, n_6, n_7, n_8, n_9, n_10, n_11, n_12, n_14, n_15, n_16, n_20, n_24, n_25, n_32, n_36, n_40, n_41, n_42, n_43, n_45, n_46, n_48, n_57, n_59, n_60, n_73, n_76, n_97, n_99, n_100, n_106, n_109, n_120, n_122, n_136, n_160, n_176, n_200, n_255, n_800, n_1000, n_1001, n_1002, n_1003, n_1006, n_1012, n_1018, n_1019, n_1020, n_1100, n_1140, n_4800, n_4920, n_5940, n_6740, n_20220, B_X9_occurs_2, B_X9_occurs_34, s.k0, s.r0, s.k1, s.l1, s.r24, s.k11, s.l11, ek, g1, g2, a1]
    · have hs2 : oc F2 F1 n2 l j = oc F2 F1 n2 l (j + 1) := by rw [hs]; exact propext ⟨fun e => e.elim (fun e => absurd e.1 hx) id, Or.inr⟩
      rw [hs2]
      clear hs hs2 a1
      simp (disch := first | assumption | omega) only [q_bl, q_baT, q_bi, q_ba, q_pr, q_ob, q_iT, q_iN, q_it, q_if, q_of, nI_add, pk_mul, pk_sub, nI_leI, nI_ltI, nI_eq, nI_clamp, nI_lt0, nI_eqm, m1_eq, true_or, or_true, not_false_eq_true, m1_lt, m1_nlt, m1_le, m1_nle, b01, b011, q_em, q_m1, n_0, n_1, n_2, n_3, n_4, n_5, n_6, n_7, n_8, n_9, n_10, n_11, n_12, n_14, n_15, n_16, n_20, n_24, n_25, n_32, n_36, n_40, n_41, n_42, n_43, n_45, n_46, n_48, n_57, n_59, n_60, n_73, n_76, n_97, n_99, n_100, n_106, n_109, n_120, n_122, n_136, n_160, n_176, n_200, n_255, n_800, n_1000, n_1001, n_1002, n_1003, n_1006, n_1012, n_1018, n_1019, n_1020, n_1100, n_1140, n_4800, n_4920, n_5940, n_6740, n_20220, B_X9_occurs_2, B_X9_occurs_34, s.k0, s.r0, s.k1, s.l1, s.r24, s.k11, s.l11, ek, g1, g2, a0]
end PAP

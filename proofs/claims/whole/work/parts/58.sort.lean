/-! LAYER 3: both put the cards in order -/
section SRT
variable {μ μc μ1 μ2 : Mem} {x : Nat} {A B C : SA}
theorem RBD.unr {I : Nat → SA} {r : Nat} (h : RBD I r (sp_reset A)) (w : WB (sp_reset A)) : RBD I r A :=
  ⟨h.1.cg w (fun _ _ _ => rfl) (fun i hi => (reset_lo hi).symm), h.2.cg w rfl rfl (fun i hi => (reset_lo hi).symm)⟩
theorem l3_place {r i f n : Nat} (s : SM μ r) (hr : RBD (gI μ) r A) (w : WB A) (hn : nt (A 8) = n) (hi : i < n) (hf : f < nt (A 0)) : ∀ (j fu c : Nat), j < fu → c + j = n → L_X3_placeInOrder_13 μ fu r (nI i) (nI f) (nI (sp_val A i f)) (nI (ctp (bfr A f i) c)) (nI c) = some (nI (rnk A f n i)) := by
  have c8 := w.c8.2
  have n8 := hr.n8 w
  rw [hn] at n8 c8
  have b1 := sp_val_lt w (show i < nt (A 8) by omega) hf
  intro j
  induction j with
  | zero =>
    intro fu c hj hc
    obtain ⟨fu, rfl⟩ : ∃ k, fu = k + 1 := ⟨fu - 1, by omega⟩
    obtain rfl : c = n := by omega
    clear w hr b1
    simp (disch := first | assumption | omega) only [q_bl, q_baT, q_bi, q_ba, q_pr, q_ob, q_iT, q_iN, q_it, q_if, q_of, nI_add, pk_mul, pk_sub, nI_leI, nI_ltI, nI_eq, nI_clamp, nI_lt0, nI_eqm, m1_eq, true_or, or_true, not_false_eq_true, m1_lt, m1_nlt, m1_le, m1_nle, b01, b011, q_em, q_m1, n_0, n_1, n_2, n_3, n_4, n_5, n_6, n_7, n_8, n_9, n_10, n_11, n_12, n_14, n_15, n_16, n_20, n_24, n_25, n_32, n_36, n_40, n_41, n_42, n_43, n_45, n_46, n_48, n_57, n_59, n_60, n_73, n_76, n_97, n_99, n_100, n_106, n_109, n_120, n_122, n_136, n_160, n_176, n_200, n_255, n_800, n_1000, n_1001, n_1002, n_1003, n_1006, n_1012, n_1018, n_1019, n_1020, n_1100, n_1140, n_4800, n_4920, n_5940, n_6740, n_20220, q_kI, q_lI, q_nI, q_rI, q_iI, q_jI, q_dI, q_kJ, q_lJ, q_nJ, q_rJ, q_iJ, q_jJ, q_dJ, q_kC, q_lC, q_nC, q_rC, q_jC, q_dC, q_kF, q_lF, q_nF, q_rF, q_jF, q_dF, q_us, q_un, q_ua, L_X3_placeInOrder_13, B_X3_placeInOrder_13, s.k0, s.r1, s.k19, n8, rnk]
  | succ j ih =>
    intro fu c hj hc
    obtain ⟨fu, rfl⟩ : ∃ k, fu = k + 1 := ⟨fu - 1, by omega⟩
    have v1 := x3_value s hr w (show c < nt (A 8) by omega) hf
    have b2 := sp_val_lt w (show c < nt (A 8) by omega) hf
    have hle := ctp_le (p := bfr A f i) c
    have hs : ctp (bfr A f i) (c + 1) = ctp (bfr A f i) c + (if bfr A f i c = true then 1 else 0) := rfl
    have hd : (bfr A f i c = true) = (sp_val A c f < sp_val A i f ∨ (sp_val A c f = sp_val A i f ∧ c < i)) := by unfold bfr; rw [decide_eq_true_eq]
    have q := ih fu (c + 1) (by omega) (by omega)
    rw [hs] at q
    clear ih hs
    generalize sp_val A c f = u at *
    generalize sp_val A i f = v at *
    generalize ctp (bfr A f i) c = t at *
    by_cases hx : u < v
    · rw [if_pos (by rw [hd]; exact Or.inl hx)] at q
      clear w hr hd
      simp (disch := first | assumption | omega) only [q_bl, q_baT, q_bi, q_ba, q_pr, q_ob, q_iT, q_iN, q_it, q_if, q_of, nI_add, pk_mul, pk_sub, nI_leI, nI_ltI, nI_eq, nI_clamp, nI_lt0, nI_eqm, m1_eq, true_or, or_true, not_false_eq_true, m1_lt, m1_nlt, m1_le, m1_nle, b01, b011, q_em, q_m1, n_0, n_1, n_2, n_3, n_4, n_5, n_6, n_7, n_8, n_9, n_10, n_11, n_12, n_14, n_15, n_16, n_20, n_24, n_25, n_32, n_36, n_40, n_41, n_42, n_43, n_45, n_46, n_48, n_57, n_59, n_60, n_73, n_76, n_97, n_99, n_100, n_106, n_109, n_120, n_122, n_136, n_160, n_176, n_200, n_255, n_800, n_1000, n_1001, n_1002, n_1003, n_1006, n_1012, n_1018, n_1019, n_1020, n_1100, n_1140, n_4800, n_4920, n_5940, n_6740, n_20220, q_kI, q_lI, q_nI, q_rI, q_iI, q_jI, q_dI, q_kJ, q_lJ, q_nJ, q_rJ, q_iJ, q_jJ, q_dJ, q_kC, q_lC, q_nC, q_rC, q_jC, q_dC, q_kF, q_lF, q_nF, q_rF, q_jF, q_dF, q_us, q_un, q_ua, L_X3_placeInOrder_13, B_X3_placeInOrder_13, B_X3_placeInOrder_52, B_X3_placeInOrder_55, s.k0, s.r1, s.k19, n8, v1, q]
    · by_cases hy : u = v
      · by_cases hz : c < i
        · rw [if_pos (by rw [hd]; exact Or.inr ⟨hy, hz⟩)] at q
          clear w hr hd
          simp (disch := first | assumption | omega) only [q_bl, q_baT, q_bi, q_ba, q_pr, q_ob, q_iT, q_iN, q_it, q_if, q_of, nI_add, pk_mul, pk_sub, nI_leI, nI_ltI, nI_eq, nI_clamp, nI_lt0, nI_eqm, m1_eq, true_or, or_true, not_false_eq_true, m1_lt, m1_nlt, m1_le, m1_nle, b01, b011, q_em, q_m1, n_0, n_1, n_2, n_3, n_4, n_5, n_6, n_7, n_8, n_9, n_10, n_11, n_12, n_14, n_15, n_16, n_20, n_24, n_25, n_32, n_36, n_40, n_41, n_42, n_43, n_45, n_46, n_48, n_57, n_59, n_60, n_73, n_76, n_97, n_99, n_100, n_106, n_109, n_120, n_122, n_136, n_160, n_176, n_200, n_255, n_800, n_1000, n_1001, n_1002, n_1003, n_1006, n_1012, n_1018, n_1019, n_1020, n_1100, n_1140, n_4800, n_4920, n_5940, n_6740, n_20220, q_kI, q_lI, q_nI, q_rI, q_iI, q_jI, q_dI, q_kJ, q_lJ, q_nJ, q_rJ, q_iJ, q_jJ, q_dJ, q_kC, q_lC, q_nC, q_rC, q_jC, q_dC, q_kF, q_lF, q_nF, q_rF, q_jF, q_dF, q_us, q_un, q_ua, L_X3_placeInOrder_13, B_X3_placeInOrder_13, B_X3_placeInOrder_52, B_X3_placeInOrder_55, s.k0, s.r1, s.k19, n8, v1, q]
        · rw [if_neg (by rw [hd]; omega)] at q
          clear w hr hd
          rw [Nat.add_zero] at q
          simp (disch := first | assumption | omega) only [q_bl, q_baT, q_bi, q_ba, q_pr, q_ob, q_iT, q_iN, q_it, q_if, q_of, nI_add, pk_mul, pk_sub, nI_leI, nI_ltI, nI_eq, nI_clamp, nI_lt0, nI_eqm, m1_eq, true_or, or_true, not_false_eq_true, m1_lt, m1_nlt, m1_le, m1_nle, b01, b011, q_em, q_m1, n_0, n_1, n_2, n_3, n_4, n_5, n_6, n_7, n_8, n_9, n_10, n_11, n_12, n_14, n_15, n_16, n_20, n_24, n_25, n_32, n_36, n_40, n_41, n_42, n_43, n_45, n_46, n_48, n_57, n_59, n_60, n_73, n_76, n_97, n_99, n_100, n_106, n_109, n_120, n_122, n_136, n_160, n_176, n_200, n_255, n_800, n_1000, n_1001, n_1002, n_1003, n_1006, n_1012, n_1018, n_1019, n_1020, n_1100, n_1140, n_4800, n_4920, n_5940, n_6740, n_20220, q_kI, q_lI, q_nI, q_rI, q_iI, q_jI, q_dI, q_kJ, q_lJ, q_nJ, q_rJ, q_iJ, q_jJ, q_dJ, q_kC, q_lC, q_nC, q_rC, q_jC, q_dC, q_kF, q_lF, q_nF, q_rF, q_jF, q_dF, q_us, q_un, q_ua, L_X3_placeInOrder_13, B_X3_placeInOrder_13, B_X3_placeInOrder_52, B_X3_placeInOrder_55, s.k0, s.r1, s.k19, n8, v1, q]
      · rw [if_neg (by rw [hd]; omega)] at q
        clear w hr hd
        rw [Nat.add_zero] at q
        simp (disch := first | assumption | omega) only [q_bl, q_baT, q_bi, q_ba, q_pr, q_ob, q_iT, q_iN, q_it, q_if, q_of, nI_add, pk_mul, pk_sub, nI_leI, nI_ltI, nI_eq, nI_clamp, nI_lt0, nI_eqm, m1_eq, true_or, or_true, not_false_eq_true, m1_lt, m1_nlt, m1_le, m1_nle, b01, b011, q_em, q_m1, n_0, n_1, n_2, n_3, n_4, n_5, n_6, n_7, n_8, n_9, n_10, n_11, n_12, n_14, n_15, n_16, n_20, n_24, n_25, n_32, n_36, n_40, n_41, n_42, n_43, n_45, n_46, n_48, n_57, n_59, n_60, n_73, n_76, n_97, n_99, n_100, n_106, n_109, n_120, n_122, n_136, n_160, n_176, n_200, n_255, n_800, n_1000, n_1001, n_1002, n_1003, n_1006, n_1012, n_1018, n_1019, n_1020, n_1100, n_1140, n_4800, n_4920, n_5940, n_6740, n_20220, q_kI, q_lI, q_nI, q_rI, q_iI, q_jI, q_dI, q_kJ, q_lJ, q_nJ, q_rJ, q_iJ, q_jJ, q_dJ, q_kC, q_lC, q_nC, q_rC, q_jC, q_dC, q_kF, q_lF, q_nF, q_rF, q_jF, q_dF, q_us, q_un, q_ua, L_X3_placeInOrder_13, B_X3_placeInOrder_13, B_X3_placeInOrder_52, B_X3_placeInOrder_55, s.k0, s.r1, s.k19, n8, v1, q]
theorem x3_place {r i f n : Nat} (s : SM μ r) (hr : RBD (gI μ) r A) (w : WB A) (hn : nt (A 8) = n) (hi : i < n) (hf : f < nt (A 0)) : F_X3_placeInOrder r (nI i) (nI f) μ = some (nI (rnk A f n i)) := by
  have c8 := w.c8.2
  have q : L_X3_placeInOrder_13 μ FU r (nI i) (nI f) (nI (sp_val A i f)) (nI 0) (nI 0) = some (nI (rnk A f n i)) := l3_place s hr w hn hi hf n FU 0 (FU_gt (by omega)) (by omega)
  have v1 := x3_value s hr w (show i < nt (A 8) by omega) hf
  clear w hr
  simp (disch := first | assumption | omega) only [q_bl, q_baT, q_bi, q_ba, q_pr, q_ob, q_iT, q_iN, q_it, q_if, q_of, nI_add, pk_mul, pk_sub, nI_leI, nI_ltI, nI_eq, nI_clamp, nI_lt0, nI_eqm, m1_eq, true_or, or_true, not_false_eq_true, m1_lt, m1_nlt, m1_le, m1_nle, b01, b011, q_em, q_m1, n_0, n_1, n_2, n_3, n_4, n_5, n_6, n_7, n_8, n_9, n_10, n_11, n_12, n_14, n_15, n_16, n_20, n_24, n_25, n_32, n_36, n_40, n_41, n_42, n_43, n_45, n_46, n_48, n_57, n_59, n_60, n_73, n_76, n_97, n_99, n_100, n_106, n_109, n_120, n_122, n_136, n_160, n_176, n_200, n_255, n_800, n_1000, n_1001, n_1002, n_1003, n_1006, n_1012, n_1018, n_1019, n_1020, n_1100, n_1140, n_4800, n_4920, n_5940, n_6740, n_20220, F_X3_placeInOrder, s.k0, v1, q]
theorem l9_rank {m i f n : Nat} (h : RA μ m A) (w : WB A) (hn : nt (A 8) = n) (hi : i < n) (hf : f < nt (A 0)) : ∀ (j fu c : Nat), j < fu → c + j = n → L_X9_rankOf_13 μ fu m (nI i) (nI f) (nI (ctp (bfr A f i) c)) (nI (sp_val A i f)) (nI c) = some (nI (rnk A f n i)) := by
  have c8 := w.c8
  have s := h.1
  rw [hn] at c8
  have n8 : gI μ (m + 1) 8 = nI n := by rw [h.2]; exact c8.1
  have c82 := c8.2
  have b1 := sp_val_lt w (show i < nt (A 8) by omega) hf
  intro j
  induction j with
  | zero =>
    intro fu c hj hc
    obtain ⟨fu, rfl⟩ : ∃ k, fu = k + 1 := ⟨fu - 1, by omega⟩
    obtain rfl : c = n := by omega
    clear w h b1 c8
    simp (disch := first | assumption | omega) only [q_bl, q_baT, q_bi, q_ba, q_pr, q_ob, q_iT, q_iN, q_it, q_if, q_of, nI_add, pk_mul, pk_sub, nI_leI, nI_ltI, nI_eq, nI_clamp, nI_lt0, nI_eqm, m1_eq, true_or, or_true, not_false_eq_true, m1_lt, m1_nlt, m1_le, m1_nle, b01, b011, q_em, q_m1, n_0, n_1, n_2, n_3, n_4, n_5, n_6, n_7, n_8, n_9, n_10, n_11, n_12, n_14, n_15, n_16, n_20, n_24, n_25, n_32, n_36, n_40, n_41, n_42, n_43, n_45, n_46, n_48, n_57, n_59, n_60, n_73, n_76, n_97, n_99, n_100, n_106, n_109, n_120, n_122, n_136, n_160, n_176, n_200, n_255, n_800, n_1000, n_1001, n_1002, n_1003, n_1006, n_1012, n_1018, n_1019, n_1020, n_1100, n_1140, n_4800, n_4920, n_5940, n_6740, n_20220, q_kI, q_lI, q_nI, q_rI, q_iI, q_jI, q_dI, q_kJ, q_lJ, q_nJ, q_rJ, q_iJ, q_jJ, q_dJ, q_kC, q_lC, q_nC, q_rC, q_jC, q_dC, q_kF, q_lF, q_nF, q_rF, q_jF, q_dF, q_us, q_un, q_ua, L_X9_rankOf_13, B_X9_rankOf_13, s.k0, s.r0, s.k1, s.l1, n8, rnk]
  | succ j ih =>
    intro fu c hj hc
    obtain ⟨fu, rfl⟩ : ∃ k, fu = k + 1 := ⟨fu - 1, by omega⟩
    have v1 := x9_plain h w (show c < nt (A 8) by omega) hf
    have b2 := sp_val_lt w (show c < nt (A 8) by omega) hf
    have hle := ctp_le (p := bfr A f i) c
    have hs : ctp (bfr A f i) (c + 1) = ctp (bfr A f i) c + (if bfr A f i c = true then 1 else 0) := rfl
    have hd : (bfr A f i c = true) = (sp_val A c f < sp_val A i f ∨ (sp_val A c f = sp_val A i f ∧ c < i)) := by unfold bfr; rw [decide_eq_true_eq]
    have q := ih fu (c + 1) (by omega) (by omega)
    rw [hs] at q
    clear ih hs
    generalize sp_val A c f = u at *
    generalize sp_val A i f = v at *
    generalize ctp (bfr A f i) c = t at *
    by_cases hx : u < v
    · rw [if_pos (by rw [hd]; exact Or.inl hx)] at q
      clear w h hd c8
      simp (disch := first | assumption | omega) only [q_bl, q_baT, q_bi, q_ba, q_pr, q_ob, q_iT, q_iN, q_it, q_if, q_of, nI_add, pk_mul, pk_sub, nI_leI, nI_ltI, nI_eq, nI_clamp, nI_lt0, nI_eqm, m1_eq, true_or, or_true, not_false_eq_true, m1_lt, m1_nlt, m1_le, m1_nle, b01, b011, q_em, q_m1, n_0, n_1, n_2, n_3, n_4, n_5, n_6, n_7, n_8, n_9, n_10, n_11, n_12, n_14, n_15, n_16, n_20, n_24, n_25, n_32, n_36, n_40, n_41, n_42, n_43, n_45, n_46, n_48, n_57, n_59, n_60, n_73, n_76, n_97, n_99, n_100, n_106, n_109, n_120, n_122, n_136, n_160, n_176, n_200, n_255, n_800, n_1000, n_1001, n_1002, n_1003, n_1006, n_1012, n_1018, n_1019, n_1020, n_1100, n_1140, n_4800, n_4920, n_5940, n_6740, n_20220, q_kI, q_lI, q_nI, q_rI, q_iI, q_jI, q_dI, q_kJ, q_lJ, q_nJ, q_rJ, q_iJ, q_jJ, q_dJ, q_kC, q_lC, q_nC, q_rC, q_jC, q_dC, q_kF, q_lF, q_nF, q_rF, q_jF, q_dF, q_us, q_un, q_ua, L_X9_rankOf_13, B_X9_rankOf_13, B_X9_rankOf_54, B_X9_rankOf_57, s.k0, s.r0, s.k1, s.l1, n8, v1, q]
    · by_cases hy : u = v
      · by_cases hz : c < i
        · rw [if_pos (by rw [hd]; exact Or.inr ⟨hy, hz⟩)] at q
          clear w h hd c8
          simp (disch := first | assumption | omega) only [q_bl, q_baT, q_bi, q_ba, q_pr, q_ob, q_iT, q_iN, q_it, q_if, q_of, nI_add, pk_mul, pk_sub, nI_leI, nI_ltI, nI_eq, nI_clamp, nI_lt0, nI_eqm, m1_eq, true_or, or_true, not_false_eq_true, m1_lt, m1_nlt, m1_le, m1_nle, b01, b011, q_em, q_m1, n_0, n_1, n_2, n_3, n_4, n_5, n_6, n_7, n_8, n_9, n_10, n_11, n_12, n_14, n_15, n_16, n_20, n_24, n_25, n_32, n_36, n_40, n_41, n_42, n_43, n_45, n_46, n_48, n_57, n_59, n_60, n_73, n_76, n_97, n_99, n_100, n_106, n_109, n_120, n_122, n_136, n_160, n_176, n_200, n_255, n_800, n_1000, n_1001, n_1002, n_1003, n_1006, n_1012, n_1018, n_1019, n_1020, n_1100, n_1140, n_4800, n_4920, n_5940, n_6740, n_20220, q_kI, q_lI, q_nI, q_rI, q_iI, q_jI, q_dI, q_kJ, q_lJ, q_nJ, q_rJ, q_iJ, q_jJ, q_dJ, q_kC, q_lC, q_nC, q_rC, q_jC, q_dC, q_kF, q_lF, q_nF, q_rF, q_jF, q_dF, q_us, q_un, q_ua, L_X9_rankOf_13, B_X9_rankOf_13, B_X9_rankOf_54, B_X9_rankOf_57, s.k0, s.r0, s.k1, s.l1, n8, v1, q]
        · rw [if_neg (by rw [hd]; omega)] at q
          clear w h hd c8
          rw [Nat.add_zero] at q
          simp (disch := first | assumption | omega) only [q_bl, q_baT, q_bi, q_ba, q_pr, q_ob, q_iT, q_iN, q_it, q_if, q_of, nI_add, pk_mul, pk_sub, nI_leI, nI_ltI, nI_eq, nI_clamp, nI_lt0, nI_eqm, m1_eq, true_or, or_true, not_false_eq_true, m1_lt, m1_nlt, m1_le, m1_nle, b01, b011, q_em, q_m1, n_0, n_1, n_2, n_3, n_4, n_5, n_6, n_7, n_8, n_9, n_10, n_11, n_12, n_14, n_15, n_16, n_20, n_24, n_25, n_32, n_36, n_40, n_41, n_42, n_43, n_45, n_46, n_48, n_57, n_59, n_60, n_73, n_76, n_97, n_99, n_100, n_106, n_109, n_120, n_122, n_136, n_160, n_176, n_200, n_255, n_800, n_1000, n_1001, n_1002, n_1003, n_1006, n_1012, n_1018, n_1019, n_1020, n_1100, n_1140, n_4800, n_4920, n_5940, n_6740, n_20220, q_kI, q_lI, q_nI, q_rI, q_iI, q_jI, q_dI, q_kJ, q_lJ, q_nJ, q_rJ, q_iJ, q_jJ, q_dJ, q_kC, q_lC, q_nC, q_rC, q_jC, q_dC, q_kF, q_lF, q_nF, q_rF, q_jF, q_dF, q_us, q_un, q_ua, L_X9_rankOf_13, B_X9_rankOf_13, B_X9_rankOf_54, B_X9_rankOf_57, s.k0, s.r0, s.k1, s.l1, n8, v1, q]
      · rw [if_neg (by rw [hd]; omega)] at q
        clear w h hd c8
        rw [Nat.add_zero] at q
        simp (disch := first | assumption | omega) only [q_bl, q_baT, q_bi, q_ba, q_pr, q_ob, q_iT, q_iN, q_it, q_if, q_of, nI_add, pk_mul, pk_sub, nI_leI, nI_ltI, nI_eq, nI_clamp, nI_lt0, nI_eqm, m1_eq, true_or, or_true, not_false_eq_true, m1_lt, m1_nlt, m1_le, m1_nle, b01, b011, q_em, q_m1, n_0, n_1, n_2, n_3, n_4, n_5, n_6, n_7, n_8, n_9, n_10, n_11, n_12, n_14, n_15, n_16, n_20, n_24, n_25, n_32, n_36, n_40, n_41, n_42, n_43, n_45, n_46, n_48, n_57, n_59, n_60, n_73, n_76, n_97, n_99, n_100, n_106, n_109, n_120, n_122, n_136, n_160, n_176, n_200, n_255, n_800, n_1000, n_1001, n_1002, n_1003, n_1006, n_1012, n_1018, n_1019, n_1020, n_1100, n_1140, n_4800, n_4920, n_5940, n_6740, n_20220, q_kI, q_lI, q_nI, q_rI, q_iI, q_jI, q_dI, q_kJ, q_lJ, q_nJ, q_rJ, q_iJ, q_jJ, q_dJ, q_kC, q_lC, q_nC, q_rC, q_jC, q_dC, q_kF, q_lF, q_nF, q_rF, q_jF, q_dF, q_us, q_un, q_ua, L_X9_rankOf_13, B_X9_rankOf_13, B_X9_rankOf_54, B_X9_rankOf_57, s.k0, s.r0, s.k1, s.l1, n8, v1, q]
theorem x9_rank {m i f n : Nat} (h : RA μ m A) (w : WB A) (hn : nt (A 8) = n) (hi : i < n) (hf : f < nt (A 0)) : F_X9_rankOf m (nI i) (nI f) μ = some (nI (rnk A f n i)) := by
  have c8 := w.c8.2
  have q : L_X9_rankOf_13 μ FU m (nI i) (nI f) (nI 0) (nI (sp_val A i f)) (nI 0) = some (nI (rnk A f n i)) := l9_rank h w hn hi hf n FU 0 (FU_gt (by omega)) (by omega)
  have v1 := x9_plain h w (show i < nt (A 8) by omega) hf
  have s := h.1
  clear w h
  simp (disch := first | assumption | omega) only [q_bl, q_baT, q_bi, q_ba, q_pr, q_ob, q_iT, q_iN, q_it, q_if, q_of, nI_add, pk_mul, pk_sub, nI_leI, nI_ltI, nI_eq, nI_clamp, nI_lt0, nI_eqm, m1_eq, true_or, or_true, not_false_eq_true, m1_lt, m1_nlt, m1_le, m1_nle, b01, b011, q_em, q_m1, n_0, n_1, n_2, n_3, n_4, n_5, n_6, n_7, n_8, n_9, n_10, n_11, n_12, n_14, n_15, n_16, n_20, n_24, n_25, n_32, n_36, n_40, n_41, n_42, n_43, n_45, n_46, n_48, n_57, n_59, n_60, n_73, n_76, n_97, n_99, n_100, n_106, n_109, n_120, n_122, n_136, n_160, n_176, n_200, n_255, n_800, n_1000, n_1001, n_1002, n_1003, n_1006, n_1012, n_1018, n_1019, n_1020, n_1100, n_1140, n_4800, n_4920, n_5940, n_6740, n_20220, F_X9_rankOf, s.k0, v1, q]
-- the class's loop
theorem l8_sort {f n : Nat} (w : WB A) (hn : nt (A 8) = n) (hf : f < nt (A 0)) : ∀ (j fu i : Nat) (μ : Mem), j < fu → i + j = n → IS μ x → RBD (gI μ) (x + 57) A → gI μ (x + 45) 1 = nI n → (∀ p k, p < i → 1 ≤ k → k ≤ 20 → gI μ (x + 46) (rnk A f n p * 20 + k - 1) = A (200 + 20 * p + k - 1)) →
    ∃ μc, Fx (fun a => a = x + 46) μ μc ∧ (∀ p k, p < n → 1 ≤ k → k ≤ 20 → gI μc (x + 46) (rnk A f n p * 20 + k - 1) = A (200 + 20 * p + k - 1)) ∧ ∀ μ1, F_X3_restart (x + 26) μc = some μ1 → L_X8_sort_30 fu x (nI f) (nI (mvd A f n i)) (nI i) μ = some (.inr (nI (mvd A f n n)), μ1) := by
  have c8 := w.c8.2
  rw [hn] at c8
  intro j
  induction j with
  | zero =>
    intro fu i μ hj hc is hr g hp
    obtain ⟨fu, rfl⟩ : ∃ k, fu = k + 1 := ⟨fu - 1, by omega⟩
    obtain rfl : i = n := by omega
    refine ⟨μ, Fx.same, hp, fun μ1 e => ?_⟩
    have s := is.m1
    have g' : gI μ (x + 26 + 19) 1 = nI i := g
    clear w hr hp
    simp (disch := first | assumption | omega) only [q_bl, q_baT, q_bi, q_ba, q_pr, q_ob, q_iT, q_iN, q_it, q_if, q_of, nI_add, pk_mul, pk_sub, nI_leI, nI_ltI, nI_eq, nI_clamp, nI_lt0, nI_eqm, m1_eq, true_or, or_true, not_false_eq_true, m1_lt, m1_nlt, m1_le, m1_nle, b01, b011, q_em, q_m1, n_0, n_1, n_2, n_3, n_4, n_5, n_6, n_7, n_8, n_9, n_10, n_11, n_12, n_14, n_15, n_16, n_20, n_24, n_25, n_32, n_36, n_40, n_41, n_42, n_43, n_45, n_46, n_48, n_57, n_59, n_60, n_73, n_76, n_97, n_99, n_100, n_106, n_109, n_120, n_122, n_136, n_160, n_176, n_200, n_255, n_800, n_1000, n_1001, n_1002, n_1003, n_1006, n_1012, n_1018, n_1019, n_1020, n_1100, n_1140, n_4800, n_4920, n_5940, n_6740, n_20220, L_X8_sort_30, B_X8_sort_30, is.kx, is.r1, s.k0, s.r1, s.k19, g', e]
  | succ j ih =>
    intro fu i μ hj hc is hr g hp
    obtain ⟨fu, rfl⟩ : ∃ k, fu = k + 1 := ⟨fu - 1, by omega⟩
    have s := is.m1
    have t := is.m2
    have ep := x3_place t hr w hn (show i < n by omega) hf
    have hlt := rnk_lt (A := A) (f := f) (show i < n by omega)
    have n8 := hr.n8 w
    rw [hn] at n8
    obtain ⟨μ', e1, f1, q1⟩ := x2_take (i := rnk A f n i) (i2 := i) s.sd t.sd g n8 c8 c8 hlt (by omega) (by omega) (fun e => by omega)
    have f1' : Fx (fun a => a = x + 46) μ μ' := f1.mono (fun a ha => ha)
    obtain ⟨μc, q2, q3, q4⟩ := ih fu (i + 1) μ' (by omega) (by omega) (is.fx f1) (⟨hr.1.cg w (fun a a1 a2 => f1'.I (by omega)) (fun _ _ => rfl), hr.2.cg w (f1'.I (by omega)) (f1'.I (by omega)) (fun _ _ => rfl)⟩) (by rw [f1'.I (by omega)]; exact g) (fun p k hpi k1 k2 => by
      rw [show x + 46 = x + 26 + 19 + 1 from rfl, q1]
      by_cases hpe : p = i
      · subst hpe
        rw [if_pos (by omega), ← hr.2.2 p k (by omega) k1 k2]; congr 1; omega
      · have : ¬ rnk A f n p = rnk A f n i := fun e => hpe (rnk_inj (by omega) (by omega) e)
        rw [if_neg (by omega)]; exact hp p k (by omega) k1 k2)
    refine ⟨μc, f1'.trans q2, q3, fun μ1 e => ?_⟩
    have q5 := q4 μ1 e
    have g' : gI μ (x + 26 + 19) 1 = nI n := g
    have hm := ctp_le (p := fun j => decide (¬ rnk A f n j = j)) i
    have hm2 : mvd A f n i ≤ i := hm
    have ms := mvd_s (A := A) (f := f) (n := n) (i := i)
    have mt := mvd_t (A := A) (f := f) (n := n) (i := i)
    clear w hr hp q1 q2 q3 q4 ih f1 f1' n8 hm
    generalize rnk A f n i = rr at *
    generalize mvd A f n i = mm at *
    by_cases hx : rr = i
    · rw [mt hx] at q5
      clear ms mt
      simp (disch := first | assumption | omega) only [q_bl, q_baT, q_bi, q_ba, q_pr, q_ob, q_iT, q_iN, q_it, q_if, q_of, nI_add, pk_mul, pk_sub, nI_leI, nI_ltI, nI_eq, nI_clamp, nI_lt0, nI_eqm, m1_eq, true_or, or_true, not_false_eq_true, m1_lt, m1_nlt, m1_le, m1_nle, b01, b011, q_em, q_m1, n_0, n_1, n_2, n_3, n_4, n_5, n_6, n_7, n_8, n_9, n_10, n_11, n_12, n_14, n_15, n_16, n_20, n_24, n_25, n_32, n_36, n_40, n_41, n_42, n_43, n_45, n_46, n_48, n_57, n_59, n_60, n_73, n_76, n_97, n_99, n_100, n_106, n_109, n_120, n_122, n_136, n_160, n_176, n_200, n_255, n_800, n_1000, n_1001, n_1002, n_1003, n_1006, n_1012, n_1018, n_1019, n_1020, n_1100, n_1140, n_4800, n_4920, n_5940, n_6740, n_20220, L_X8_sort_30, B_X8_sort_30, B_X8_sort_84, is.kx, is.r1, is.r2, s.k0, s.r1, s.k19, t.k0, t.r1, g', ep, e1, hx, hx ▸ e1, q5]
    · rw [ms hx] at q5
      clear ms mt
      simp (disch := first | assumption | omega) only [q_bl, q_baT, q_bi, q_ba, q_pr, q_ob, q_iT, q_iN, q_it, q_if, q_of, nI_add, pk_mul, pk_sub, nI_leI, nI_ltI, nI_eq, nI_clamp, nI_lt0, nI_eqm, m1_eq, true_or, or_true, not_false_eq_true, m1_lt, m1_nlt, m1_le, m1_nle, b01, b011, q_em, q_m1, n_0, n_1, n_2, n_3, n_4, n_5, n_6, n_7, n_8, n_9, n_10, n_11, n_12, n_14, n_15, n_16, n_20, n_24, n_25, n_32, n_36, n_40, n_41, n_42, n_43, n_45, n_46, n_48, n_57, n_59, n_60, n_73, n_76, n_97, n_99, n_100, n_106, n_109, n_120, n_122, n_136, n_160, n_176, n_200, n_255, n_800, n_1000, n_1001, n_1002, n_1003, n_1006, n_1012, n_1018, n_1019, n_1020, n_1100, n_1140, n_4800, n_4920, n_5940, n_6740, n_20220, L_X8_sort_30, B_X8_sort_30, B_X8_sort_84, is.kx, is.r1, is.r2, s.k0, s.r1, s.k19, t.k0, t.r1, g', ep, e1, q5]
end SRT

/-! LAYER 3: the reference's reader: tokens -/
def trc (t : Nat) : Nat := [0, 2, 3, 4, 1].getD t 0
def kwI (w : Nat) : Int32 := if w = 0 then -nI 1 else nI (w - 2)
def RBs (μ : Mem) (m : Nat) (b : Nat → Nat) (n : Nat) : Prop := SR μ m ∧ gI μ m 10 = nI n ∧ TX b n ∧ ∀ k, k < n → gI μ (m + 6) k = nI (b k)
def TKr (μ : Mem) (m : Nat) (b : Nat → Nat) (n p : Nat) : Prop :=
  gI μ m 11 = nI (ts b n p) ∧ gI μ m 12 = nI (te b n p) ∧ gI μ m 13 = nI (trc (tk b n p)) ∧ gI μ m 14 = kwI (trw b n p) ∧ (tk b n p = 2 → gI μ m 15 = nI (tv b n p)) ∧ (tk b n p = 1 → gJ μ m 18 = lN (nn (tw b n p)))
section RTK
variable {μ μ' : Mem} {m n p : Nat} {b : Nat → Nat}
theorem RBs.mm (h : RBs μ m b n) (f : Fx (fun a => a = m) μ μ') (e : gI μ' m 10 = gI μ m 10) : RBs μ' m b n := by
  obtain ⟨h1, h2, h3, h4⟩ := h
  refine ⟨h1.fx f, e.trans h2, h3, fun k hk => ?_⟩
  rw [f.I (by omega)]; exact h4 k hk
theorem x9_b1 {k : Nat} (h : RBs μ m b n) (hk : k < n) : F_X9_byteAt m (nI k) μ = some (nI (b k)) := by
  obtain ⟨s, h2, h3, h4⟩ := h
  have hn := h3.1
  have g := h4 k hk
  have k0 := s.k0
  have r6 := s.r6
  have k6 := s.k6
  have l6 := s.l6
  clear h3 h4 s
  simp (disch := first | assumption | omega) only [q_bl, q_baT, q_bi, q_ba, q_pr, q_ob, q_iT, q_iN, q_it, q_if, q_of, nI_add, pk_mul, pk_sub, nI_leI, nI_ltI, nI_eq, nI_clamp, nI_lt0, nI_eqm, m1_eq, true_or, or_true, not_false_eq_true, m1_lt, m1_nlt, m1_le, m1_nle, b01, b011, q_em, q_m1, n_0, n_1, n_2, n_3, n_4, n_5, n_6, n_7, n_8, n_9, n_10, n_11, n_12, n_14, n_15, n_16, n_20, n_24, n_25, n_32, n_36, n_40, n_41, n_42, n_43, n_45, n_46, n_48, n_57, n_59, n_60, n_73, n_76, n_97, n_99, n_100, n_106, n_109, n_120, n_122, n_136, n_160, n_176, n_200, n_255, n_800, n_1000, n_1001, n_1002, n_1003, n_1006, n_1012, n_1018, n_1019, n_1020, n_1100, n_1140, n_4800, n_4920, n_5940, n_6740, n_20220, F_X9_byteAt, k0, h2, r6, k6, l6, g]
theorem x9_b0 {k : Nat} (h : RBs μ m b n) (hk : n ≤ k) (hb : k < 100000) : F_X9_byteAt m (nI k) μ = some (-nI 1) := by
  obtain ⟨s, h2, h3, h4⟩ := h
  have hn := h3.1
  have k0 := s.k0
  clear h3 h4 s
  simp (disch := first | assumption | omega) only [q_bl, q_baT, q_bi, q_ba, q_pr, q_ob, q_iT, q_iN, q_it, q_if, q_of, nI_add, pk_mul, pk_sub, nI_leI, nI_ltI, nI_eq, nI_clamp, nI_lt0, nI_eqm, m1_eq, true_or, or_true, not_false_eq_true, m1_lt, m1_nlt, m1_le, m1_nle, b01, b011, q_em, q_m1, n_0, n_1, n_2, n_3, n_4, n_5, n_6, n_7, n_8, n_9, n_10, n_11, n_12, n_14, n_15, n_16, n_20, n_24, n_25, n_32, n_36, n_40, n_41, n_42, n_43, n_45, n_46, n_48, n_57, n_59, n_60, n_73, n_76, n_97, n_99, n_100, n_106, n_109, n_120, n_122, n_136, n_160, n_176, n_200, n_255, n_800, n_1000, n_1001, n_1002, n_1003, n_1006, n_1012, n_1018, n_1019, n_1020, n_1100, n_1140, n_4800, n_4920, n_5940, n_6740, n_20220, F_X9_byteAt, k0, h2]
theorem x9_L1 {c : Nat} (h : isLt c = true) : F_X9_isLetter (nI c) μ = some (nI 1) := x5_L1 (μ := μ) h
theorem x9_L0 {c : Nat} (hc : c < 1000) (h : ¬ isLt c = true) : F_X9_isLetter (nI c) μ = some (nI 0) := x5_L0 (μ := μ) hc h
theorem x9_D1 {c : Nat} (h : isDg c = true) : F_X9_isDigit (nI c) μ = some (nI 1) := x5_D1 (μ := μ) h
theorem x9_D0 {c : Nat} (hc : c < 1000) (h : ¬ isDg c = true) : F_X9_isDigit (nI c) μ = some (nI 0) := x5_D0 (μ := μ) hc h
theorem x9_Lm : F_X9_isLetter (-nI 1) μ = some (nI 0) := by
  have e : (-nI 1 : Int32) < 97 := by decide +kernel
  unfold F_X9_isLetter
  rw [if_pos e]; rfl
theorem x9_Dm : F_X9_isDigit (-nI 1) μ = some (nI 0) := by
  have e : (-nI 1 : Int32) < 48 := by decide +kernel
  unfold F_X9_isDigit
  rw [if_pos e]; rfl
theorem l9_skip : ∀ (q fu p : Nat) (μ : Mem), q < fu → RBs μ m b n → gI μ m 12 = nI p → p + q = n → ∃ μ', L_X9_skip_0 fu m μ = some μ' ∧ gI μ' m 12 = nI (rn isB b q p) ∧ gI μ' m 11 = nI (rn isB b q p) ∧ gI μ' m 14 = -nI 1 ∧ Fx (fun a => a = m) μ μ' ∧ (∀ j, ¬ j = 11 → ¬ j = 12 → ¬ j = 14 → gI μ' m j = gI μ m j) ∧ gJ μ' = gJ μ := by
  intro q
  induction q with
  | zero =>
    intro fu p μ hf h g hp
    obtain ⟨fu, rfl⟩ : ∃ k, fu = k + 1 := ⟨fu - 1, by omega⟩
    have hn := h.2.2.1.1
    have k0 := h.1.k0
    have e1 := x9_b0 h (k := p) (by omega) (by omega)
    have f2 : Fx (fun a => a = m) μ (stI (stI μ m 11 (nI p)) m 14 (-nI 1)) := (Fx.stI (P := fun a => a = m) rfl).trans (Fx.stI rfl)
    refine ⟨stI (stI μ m 11 (nI p)) m 14 (-nI 1), ?_, by rw [q_iI, q_un (by omega), q_iI, q_un (by omega)]; exact g, by rw [q_iI, q_un (by omega), q_iI, q_us]; rfl, by rw [q_iI, q_us], f2, fun j h1 h2 h3 => by rw [q_iI, q_un (by omega), q_iI, q_un (by omega)], rfl⟩
    clear h f2
    simp (disch := first | assumption | omega) only [q_bl, q_baT, q_bi, q_ba, q_pr, q_ob, q_iT, q_iN, q_it, q_if, q_of, nI_add, pk_mul, pk_sub, nI_leI, nI_ltI, nI_eq, nI_clamp, nI_lt0, nI_eqm, m1_eq, true_or, or_true, not_false_eq_true, m1_lt, m1_nlt, m1_le, m1_nle, b01, b011, q_em, q_m1, n_0, n_1, n_2, n_3, n_4, n_5, n_6, n_7, n_8, n_9, n_10, n_11, n_12, n_14, n_15, n_16, n_20, n_24, n_25, n_32, n_36, n_40, n_41, n_42, n_43, n_45, n_46, n_48, n_57, n_59, n_60, n_73, n_76, n_97, n_99, n_100, n_106, n_109, n_120, n_122, n_136, n_160, n_176, n_200, n_255, n_800, n_1000, n_1001, n_1002, n_1003, n_1006, n_1012, n_1018, n_1019, n_1020, n_1100, n_1140, n_4800, n_4920, n_5940, n_6740, n_20220, q_kI, q_lI, q_nI, q_rI, q_iI, q_jI, q_dI, q_kJ, q_lJ, q_nJ, q_rJ, q_iJ, q_jJ, q_dJ, q_kC, q_lC, q_nC, q_rC, q_jC, q_dC, q_kF, q_lF, q_nF, q_rF, q_jF, q_dF, q_us, q_un, q_ua, L_X9_skip_0, B_X9_skip_0, k0, g, e1]
  | succ q ih =>
    intro fu p μ hf h g hp
    obtain ⟨fu, rfl⟩ : ∃ k, fu = k + 1 := ⟨fu - 1, by omega⟩
    have hn := h.2.2.1.1
    have k0 := h.1.k0
    have e0 := x9_b1 h (k := p) (by omega)
    have hb := h.2.2.1.2.1 p (by omega)
    by_cases hB : isB (b p) = true
    · have f1 : Fx (fun a => a = m) μ (stI μ m 12 (nI (p + 1))) := Fx.stI rfl
      obtain ⟨μ', e1, e2, e3, e4, e5, e6, e7⟩ := ih fu (p + 1) _ (by omega) (h.mm f1 (by rw [q_iI, q_un (by omega)])) (by rw [q_iI, q_us]) (by omega)
      rw [rn_s hB]
      refine ⟨μ', ?_, e2, e3, e4, f1.trans e5, fun j h1 h2 h3 => by rw [e6 j h1 h2 h3, q_iI, q_un (by omega)], e7⟩
      rw [isB_T] at hB
      clear h ih e2 e3 e4 e5 e6 e7 f1
      rcases hB with hB | hB
      · rw [hB] at e0
        simp (disch := first | assumption | omega) only [q_bl, q_baT, q_bi, q_ba, q_pr, q_ob, q_iT, q_iN, q_it, q_if, q_of, nI_add, pk_mul, pk_sub, nI_leI, nI_ltI, nI_eq, nI_clamp, nI_lt0, nI_eqm, m1_eq, true_or, or_true, not_false_eq_true, m1_lt, m1_nlt, m1_le, m1_nle, b01, b011, q_em, q_m1, n_0, n_1, n_2, n_3, n_4, n_5, n_6, n_7, n_8, n_9, n_10, n_11, n_12, n_14, n_15, n_16, n_20, n_24, n_25, n_32, n_36, n_40, n_41, n_42, n_43, n_45, n_46, n_48, n_57, n_59, n_60, n_73, n_76, n_97, n_99, n_100, n_106, n_109, n_120, n_122, n_136, n_160, n_176, n_200, n_255, n_800, n_1000, n_1001, n_1002, n_1003, n_1006, n_1012, n_1018, n_1019, n_1020, n_1100, n_1140, n_4800, n_4920, n_5940, n_6740, n_20220, q_kI, q_lI, q_nI, q_rI, q_iI, q_jI, q_dI, q_kJ, q_lJ, q_nJ, q_rJ, q_iJ, q_jJ, q_dJ, q_kC, q_lC, q_nC, q_rC, q_jC, q_dC, q_kF, q_lF, q_nF, q_rF, q_jF, q_dF, q_us, q_un, q_ua, L_X9_skip_0, B_X9_skip_0, B_X9_skip_26, k0, g, e0, e1]
      · rw [hB] at e0
        simp (disch := first | assumption | omega) only [q_bl, q_baT, q_bi, q_ba, q_pr, q_ob, q_iT, q_iN, q_it, q_if, q_of, nI_add, pk_mul, pk_sub, nI_leI, nI_ltI, nI_eq, nI_clamp, nI_lt0, nI_eqm, m1_eq, true_or, or_true, not_false_eq_true, m1_lt, m1_nlt, m1_le, m1_nle, b01, b011, q_em, q_m1, n_0, n_1, n_2, n_3, n_4, n_5, n_6, n_7, n_8, n_9, n_10, n_11, n_12, n_14, n_15, n_16, n_20, n_24, n_25, n_32, n_36, n_40, n_41, n_42, n_43, n_45, n_46, n_48, n_57, n_59, n_60, n_73, n_76, n_97, n_99, n_100, n_106, n_109, n_120, n_122, n_136, n_160, n_176, n_200, n_255, n_800, n_1000, n_1001, n_1002, n_1003, n_1006, n_1012, n_1018, n_1019, n_1020, n_1100, n_1140, n_4800, n_4920, n_5940, n_6740, n_20220, q_kI, q_lI, q_nI, q_rI, q_iI, q_jI, q_dI, q_kJ, q_lJ, q_nJ, q_rJ, q_iJ, q_jJ, q_dJ, q_kC, q_lC, q_nC, q_rC, q_jC, q_dC, q_kF, q_lF, q_nF, q_rF, q_jF, q_dF, q_us, q_un, q_ua, L_X9_skip_0, B_X9_skip_0, B_X9_skip_26, k0, g, e0, e1]
    · rw [rn_n hB]
      have f2 : Fx (fun a => a = m) μ (stI (stI μ m 11 (nI p)) m 14 (-nI 1)) := (Fx.stI (P := fun a => a = m) rfl).trans (Fx.stI rfl)
      refine ⟨stI (stI μ m 11 (nI p)) m 14 (-nI 1), ?_, by rw [q_iI, q_un (by omega), q_iI, q_un (by omega)]; exact g, by rw [q_iI, q_un (by omega), q_iI, q_us], by rw [q_iI, q_us], f2, fun j h1 h2 h3 => by rw [q_iI, q_un (by omega), q_iI, q_un (by omega)], rfl⟩
      rw [isB_T] at hB
      clear h ih f2
      simp (disch := first | assumption | omega) only [q_bl, q_baT, q_bi, q_ba, q_pr, q_ob, q_iT, q_iN, q_it, q_if, q_of, nI_add, pk_mul, pk_sub, nI_leI, nI_ltI, nI_eq, nI_clamp, nI_lt0, nI_eqm, m1_eq, true_or, or_true, not_false_eq_true, m1_lt, m1_nlt, m1_le, m1_nle, b01, b011, q_em, q_m1, n_0, n_1, n_2, n_3, n_4, n_5, n_6, n_7, n_8, n_9, n_10, n_11, n_12, n_14, n_15, n_16, n_20, n_24, n_25, n_32, n_36, n_40, n_41, n_42, n_43, n_45, n_46, n_48, n_57, n_59, n_60, n_73, n_76, n_97, n_99, n_100, n_106, n_109, n_120, n_122, n_136, n_160, n_176, n_200, n_255, n_800, n_1000, n_1001, n_1002, n_1003, n_1006, n_1012, n_1018, n_1019, n_1020, n_1100, n_1140, n_4800, n_4920, n_5940, n_6740, n_20220, q_kI, q_lI, q_nI, q_rI, q_iI, q_jI, q_dI, q_kJ, q_lJ, q_nJ, q_rJ, q_iJ, q_jJ, q_dJ, q_kC, q_lC, q_nC, q_rC, q_jC, q_dC, q_kF, q_lF, q_nF, q_rF, q_jF, q_dF, q_us, q_un, q_ua, L_X9_skip_0, B_X9_skip_0, k0, g, e0]
theorem x9_skip (h : RBs μ m b n) (g : gI μ m 12 = nI p) (hp : p ≤ n) : ∃ μ', F_X9_skip m μ = some μ' ∧ gI μ' m 12 = nI (ts b n p) ∧ gI μ' m 11 = nI (ts b n p) ∧ gI μ' m 14 = -nI 1 ∧ Fx (fun a => a = m) μ μ' ∧ (∀ j, ¬ j = 11 → ¬ j = 12 → ¬ j = 14 → gI μ' m j = gI μ m j) ∧ gJ μ' = gJ μ :=
  l9_skip (n - p) FU p μ (FU_gt (by have := h.2.2.1.1; omega)) h g (by omega)
-- the keywords
theorem kw_fact : ∀ k, k < 97 → ((((kw_b k) &&& (255 : Int32)).toUInt32 % 65536).toInt32) = kw_b k ∧ 0 ≤ kw_b k ∧ kw_b k < 65536 := by decide +kernel
theorem x0_char {k : Nat} (hk : k < 97) : F_J0_charAt_5068e (nI k) μ = some (kw_b k) := by
  obtain ⟨f1, f2, f3⟩ := kw_fact k hk
  have n97 : (97 : Int32) = nI 97 := of_eq_true (eq_true rfl)
  have hc : (nI k).toNatClampNeg = k := nI_clamp (by omega)
  have g1 : ¬ nI k < 0 := by rw [show (0 : Int32) = nI 0 from rfl, nI_ltI (by omega) (by decide)]; omega
  have g2 : nI k < nI 97 := by rw [nI_ltI (by omega) (by decide)]; exact hk
  have e1 : F_J0_checkIndex_df160 (nI k) (97 : Int32) μ = some () := by
    unfold F_J0_checkIndex_df160 F_J3_checkIndex_8e157
    rw [n97, if_neg g1, if_pos g2]; rfl
  have e2 : F_J1_charAt_3b067 (nI k) μ = some (kw_b k) := by
    unfold F_J1_charAt_3b067
    rw [e1]
    show ba (inb (nI k) 97) _ = _
    rw [hc, f1]
    rw [q_ba (q_inb (by omega) hk), q_ba ⟨f2, f3⟩]
  unfold F_J0_charAt_5068e
  have e3 : F_J0_isLatin1_aae02 μ = some (1 : Int32) := by
    unfold F_J0_isLatin1_aae02
    rw [if_neg (by decide), if_pos rfl]
  rw [e3]
  show (if (1 : Int32) = 0 then none else _) = _
  rw [if_neg (by decide), e2]
  show ba _ _ = _
  rw [q_ba ⟨f2, f3⟩]
theorem x0_len : F_J0_length_8abf5 μ = some (nI 97) := rfl
theorem l9_seg {s e i : Nat} {v : Int32} (h : RBs μ m b n) (g11 : gI μ m 11 = nI s) (g12 : gI μ m 12 = nI e) (hse : s ≤ e) (hen : e ≤ n) (hi : i < 16) (hn : ∀ fu, 97 - kst (i + 1) < fu → L_X9_keywordHere_12 μ fu m (nI (i + 1)) (nI s) (nI 1) (nI (kst (i + 1))) = some v) :
    ∀ (q fu j : Nat), j + q = kln i → 97 - (kst i + j) < fu →
      ((∀ j', j' < j → s + j' < e ∧ b (s + j') = kwb (kst i + j')) → L_X9_keywordHere_12 μ fu m (nI i) (nI (s + j)) (nI 1) (nI (kst i + j)) = some (if wl b s (e - s) = kwl i then nI i else v)) ∧
      (¬ wl b s (e - s) = kwl i → L_X9_keywordHere_12 μ fu m (nI i) (nI (s + j)) (nI 0) (nI (kst i + j)) = some v) := by
  obtain ⟨-, f2, f3, f4, f5, f6, f7⟩ := kwl_key i hi
  have hN := h.2.2.1.1
  have k0 := h.1.k0
  have r6 := h.1.r6
  have k6 := h.1.k6
  have l6 := h.1.l6
  have hw : wl b s (e - s) = kwl i ↔ (s + kln i = e ∧ ∀ j, j < kln i → b (s + j) = kwb (kst i + j)) := by
    unfold kwl
    by_cases hl : e - s = kln i
    · rw [hl, wl_eq]
      exact ⟨fun q => ⟨by omega, q⟩, fun q => q.2⟩
    · exact ⟨fun q => absurd q (wl_ne hl), fun q => absurd q.1 (by omega)⟩
  intro q
  induction q with
  | zero =>
    intro fu j hj hf
    obtain ⟨fu, rfl⟩ : ∃ k, fu = k + 1 := ⟨fu - 1, by omega⟩
    obtain rfl : j = kln i := by omega
    have ec := x0_char (μ := μ) (k := kst i + kln i) f4
    have el := x0_len (μ := μ)
    rw [f3] at ec
    have hnx := hn fu (by omega)
    rw [f2] at hnx
    refine ⟨fun hm => ?_, fun hne => ?_⟩
    · by_cases he : s + kln i = e
      · rw [if_pos (hw.mpr ⟨he, fun j hj => (hm j hj).2⟩)]
        rw [← he] at g12
        clear h hn hw hm hnx f7
        simp (disch := first | assumption | omega) only [q_bl, q_baT, q_bi, q_ba, q_pr, q_ob, q_iT, q_iN, q_it, q_if, q_of, nI_add, pk_mul, pk_sub, nI_leI, nI_ltI, nI_eq, nI_clamp, nI_lt0, nI_eqm, m1_eq, true_or, or_true, not_false_eq_true, m1_lt, m1_nlt, m1_le, m1_nle, b01, b011, q_em, q_m1, n_0, n_1, n_2, n_3, n_4, n_5, n_6, n_7, n_8, n_9, n_10, n_11, n_12, n_14, n_15, n_16, n_20, n_24, n_25, n_32, n_36, n_40, n_41, n_42, n_43, n_45, n_46, n_48, n_57, n_59, n_60, n_73, n_76, n_97, n_99, n_100, n_106, n_109, n_120, n_122, n_136, n_160, n_176, n_200, n_255, n_800, n_1000, n_1001, n_1002, n_1003, n_1006, n_1012, n_1018, n_1019, n_1020, n_1100, n_1140, n_4800, n_4920, n_5940, n_6740, n_20220, L_X9_keywordHere_12, B_X9_keywordHere_12, el, ec, k0, g12]
      · rw [if_neg (fun q => he (hw.mp q).1)]
        have hne : ¬ nI (s + kln i) = nI e := by rw [nI_eq (by omega) (by omega)]; exact he
        have h10 : ¬ nI 1 = nI 0 := by decide +kernel
        clear h hn hw hm f7
        simp (disch := first | assumption | omega) only [q_bl, q_baT, q_bi, q_ba, q_pr, q_ob, q_iT, q_iN, q_it, q_if, q_of, nI_add, pk_mul, pk_sub, nI_leI, nI_ltI, nI_clamp, nI_lt0, nI_eqm, m1_eq, true_or, or_true, not_false_eq_true, m1_lt, m1_nlt, m1_le, m1_nle, b01, b011, q_em, q_m1, n_0, n_1, n_2, n_3, n_4, n_5, n_6, n_7, n_8, n_9, n_10, n_11, n_12, n_14, n_15, n_16, n_20, n_24, n_25, n_32, n_36, n_40, n_41, n_42, n_43, n_45, n_46, n_48, n_57, n_59, n_60, n_73, n_76, n_97, n_99, n_100, n_106, n_109, n_120, n_122, n_136, n_160, n_176, n_200, n_255, n_800, n_1000, n_1001, n_1002, n_1003, n_1006, n_1012, n_1018, n_1019, n_1020, n_1100, n_1140, n_4800, n_4920, n_5940, n_6740, n_20220, L_X9_keywordHere_12, B_X9_keywordHere_12, B_X9_keywordHere_87, B_X9_keywordHere_97, el, ec, k0, g12, g11, hne, h10, hnx]
    · clear h hn hw f7
      simp (disch := first | assumption | omega) only [q_bl, q_baT, q_bi, q_ba, q_pr, q_ob, q_iT, q_iN, q_it, q_if, q_of, nI_add, pk_mul, pk_sub, nI_leI, nI_ltI, nI_eq, nI_clamp, nI_lt0, nI_eqm, m1_eq, true_or, or_true, not_false_eq_true, m1_lt, m1_nlt, m1_le, m1_nle, b01, b011, q_em, q_m1, n_0, n_1, n_2, n_3, n_4, n_5, n_6, n_7, n_8, n_9, n_10, n_11, n_12, n_14, n_15, n_16, n_20, n_24, n_25, n_32, n_36, n_40, n_41, n_42, n_43, n_45, n_46, n_48, n_57, n_59, n_60, n_73, n_76, n_97, n_99, n_100, n_106, n_109, n_120, n_122, n_136, n_160, n_176, n_200, n_255, n_800, n_1000, n_1001, n_1002, n_1003, n_1006, n_1012, n_1018, n_1019, n_1020, n_1100, n_1140, n_4800, n_4920, n_5940, n_6740, n_20220, L_X9_keywordHere_12, B_X9_keywordHere_12, B_X9_keywordHere_87, B_X9_keywordHere_97, el, ec, k0, g12, g11, hnx]
  | succ q ih =>
    intro fu j hj hf
    obtain ⟨fu, rfl⟩ : ∃ k, fu = k + 1 := ⟨fu - 1, by omega⟩
    have ec := x0_char (μ := μ) (k := kst i + j) (by omega)
    have el := x0_len (μ := μ)
    obtain ⟨c1, c2, c3⟩ := f7 j (by omega) (by omega)
    rw [c1] at ec
    have hne : ¬ nI (kwb (kst i + j)) = nI 32 := by rw [nI_eq (by omega) (by decide)]; omega
    obtain ⟨i1, i2⟩ := ih fu (j + 1) (by omega) (by omega)
    rw [show s + (j + 1) = s + j + 1 from rfl, show kst i + (j + 1) = kst i + j + 1 from rfl] at i1 i2
    refine ⟨fun hm => ?_, fun hne2 => ?_⟩
    · by_cases hj2 : s + j < e
      · have gt := h.2.2.2 (s + j) (by omega)
        have hb := h.2.2.1.2.1 (s + j) (by omega)
        by_cases hbe : b (s + j) = kwb (kst i + j)
        · have i3 := i1 (fun j' hj' => by
            by_cases hjj : j' = j
            · subst hjj; exact ⟨hj2, hbe⟩
            · exact hm j' (by omega))
          rw [hbe] at gt
          clear h hn hw hm f7 ih i1 i2
          simp (disch := first | assumption | omega) only [q_bl, q_baT, q_bi, q_ba, q_pr, q_ob, q_iT, q_iN, q_it, q_if, q_of, nI_add, pk_mul, pk_sub, nI_leI, nI_ltI, nI_eq, nI_clamp, nI_lt0, nI_eqm, m1_eq, true_or, or_true, not_false_eq_true, m1_lt, m1_nlt, m1_le, m1_nle, b01, b011, q_em, q_m1, n_0, n_1, n_2, n_3, n_4, n_5, n_6, n_7, n_8, n_9, n_10, n_11, n_12, n_14, n_15, n_16, n_20, n_24, n_25, n_32, n_36, n_40, n_41, n_42, n_43, n_45, n_46, n_48, n_57, n_59, n_60, n_73, n_76, n_97, n_99, n_100, n_106, n_109, n_120, n_122, n_136, n_160, n_176, n_200, n_255, n_800, n_1000, n_1001, n_1002, n_1003, n_1006, n_1012, n_1018, n_1019, n_1020, n_1100, n_1140, n_4800, n_4920, n_5940, n_6740, n_20220, L_X9_keywordHere_12, B_X9_keywordHere_12, B_X9_keywordHere_66, B_X9_keywordHere_97, el, ec, hne, k0, g12, r6, k6, l6, gt, i3]
        · have hx : ¬ wl b s (e - s) = kwl i := fun q => hbe ((hw.mp q).2 j (by omega))
          have i3 := i2 hx
          rw [if_neg hx]
          have hbn : ¬ nI (b (s + j)) = nI (kwb (kst i + j)) := by rw [nI_eq (by omega) (by omega)]; exact hbe
          have h10 : ¬ nI 1 = nI 0 := by decide +kernel
          clear h hn hw hm f7 ih i1 i2
          simp (disch := first | assumption | omega) only [q_bl, q_baT, q_bi, q_ba, q_pr, q_ob, q_iT, q_iN, q_it, q_if, q_of, nI_add, pk_mul, pk_sub, nI_leI, nI_ltI, nI_clamp, nI_lt0, nI_eqm, m1_eq, true_or, or_true, not_false_eq_true, m1_lt, m1_nlt, m1_le, m1_nle, b01, b011, q_em, q_m1, n_0, n_1, n_2, n_3, n_4, n_5, n_6, n_7, n_8, n_9, n_10, n_11, n_12, n_14, n_15, n_16, n_20, n_24, n_25, n_32, n_36, n_40, n_41, n_42, n_43, n_45, n_46, n_48, n_57, n_59, n_60, n_73, n_76, n_97, n_99, n_100, n_106, n_109, n_120, n_122, n_136, n_160, n_176, n_200, n_255, n_800, n_1000, n_1001, n_1002, n_1003, n_1006, n_1012, n_1018, n_1019, n_1020, n_1100, n_1140, n_4800, n_4920, n_5940, n_6740, n_20220, L_X9_keywordHere_12, B_X9_keywordHere_12, B_X9_keywordHere_65, B_X9_keywordHere_66, B_X9_keywordHere_97, el, ec, hne, k0, g12, r6, k6, l6, gt, hbn, h10, i3]
      · have hx : ¬ wl b s (e - s) = kwl i := fun q => by have := (hw.mp q).1; omega
        have i3 := i2 hx
        rw [if_neg hx]
        have hle : e ≤ s + j := by omega
        clear h hn hw hm f7 ih i1 i2
        simp (disch := first | assumption | omega) only [q_bl, q_baT, q_bi, q_ba, q_pr, q_ob, q_iT, q_iN, q_it, q_if, q_of, nI_add, pk_mul, pk_sub, nI_leI, nI_ltI, nI_eq, nI_clamp, nI_lt0, nI_eqm, m1_eq, true_or, or_true, not_false_eq_true, m1_lt, m1_nlt, m1_le, m1_nle, b01, b011, q_em, q_m1, n_0, n_1, n_2, n_3, n_4, n_5, n_6, n_7, n_8, n_9, n_10, n_11, n_12, n_14, n_15, n_16, n_20, n_24, n_25, n_32, n_36, n_40, n_41, n_42, n_43, n_45, n_46, n_48, n_57, n_59, n_60, n_73, n_76, n_97, n_99, n_100, n_106, n_109, n_120, n_122, n_136, n_160, n_176, n_200, n_255, n_800, n_1000, n_1001, n_1002, n_1003, n_1006, n_1012, n_1018, n_1019, n_1020, n_1100, n_1140, n_4800, n_4920, n_5940, n_6740, n_20220, L_X9_keywordHere_12, B_X9_keywordHere_12, B_X9_keywordHere_65, B_X9_keywordHere_66, B_X9_keywordHere_97, el, ec, hne, k0, g12, hle, i3]
    · have i3 := i2 hne2
      clear h hn hw f7 ih i1 i2
      simp (disch := first | assumption | omega) only [q_bl, q_baT, q_bi, q_ba, q_pr, q_ob, q_iT, q_iN, q_it, q_if, q_of, nI_add, pk_mul, pk_sub, nI_leI, nI_ltI, nI_eq, nI_clamp, nI_lt0, nI_eqm, m1_eq, true_or, or_true, not_false_eq_true, m1_lt, m1_nlt, m1_le, m1_nle, b01, b011, q_em, q_m1, n_0, n_1, n_2, n_3, n_4, n_5, n_6, n_7, n_8, n_9, n_10, n_11, n_12, n_14, n_15, n_16, n_20, n_24, n_25, n_32, n_36, n_40, n_41, n_42, n_43, n_45, n_46, n_48, n_57, n_59, n_60, n_73, n_76, n_97, n_99, n_100, n_106, n_109, n_120, n_122, n_136, n_160, n_176, n_200, n_255, n_800, n_1000, n_1001, n_1002, n_1003, n_1006, n_1012, n_1018, n_1019, n_1020, n_1100, n_1140, n_4800, n_4920, n_5940, n_6740, n_20220, L_X9_keywordHere_12, B_X9_keywordHere_12, B_X9_keywordHere_65, B_X9_keywordHere_66, B_X9_keywordHere_97, el, ec, hne, k0, i3]
theorem l9_kw {s e : Nat} (h : RBs μ m b n) (g11 : gI μ m 11 = nI s) (g12 : gI μ m 12 = nI e) (hse : s ≤ e) (hen : e ≤ n) : ∀ (q i fu : Nat), i + q = 16 → 97 - kst i < fu → L_X9_keywordHere_12 μ fu m (nI i) (nI s) (nI 1) (nI (kst i)) = some (kwI (kwf (wl b s (e - s)) q i)) := by
  intro q
  induction q with
  | zero =>
    intro i fu hi hf
    obtain ⟨fu, rfl⟩ : ∃ k, fu = k + 1 := ⟨fu - 1, by omega⟩
    obtain rfl : i = 16 := by omega
    have el := x0_len (μ := μ)
    have e1 : kst 16 = 97 := rfl
    rw [e1]
    show _ = some (-nI 1)
    clear h
    simp (disch := first | assumption | omega) only [q_bl, q_baT, q_bi, q_ba, q_pr, q_ob, q_iT, q_iN, q_it, q_if, q_of, nI_add, pk_mul, pk_sub, nI_leI, nI_ltI, nI_eq, nI_clamp, nI_lt0, nI_eqm, m1_eq, true_or, or_true, not_false_eq_true, m1_lt, m1_nlt, m1_le, m1_nle, b01, b011, q_em, q_m1, n_0, n_1, n_2, n_3, n_4, n_5, n_6, n_7, n_8, n_9, n_10, n_11, n_12, n_14, n_15, n_16, n_20, n_24, n_25, n_32, n_36, n_40, n_41, n_42, n_43, n_45, n_46, n_48, n_57, n_59, n_60, n_73, n_76, n_97, n_99, n_100, n_106, n_109, n_120, n_122, n_136, n_160, n_176, n_200, n_255, n_800, n_1000, n_1001, n_1002, n_1003, n_1006, n_1012, n_1018, n_1019, n_1020, n_1100, n_1140, n_4800, n_4920, n_5940, n_6740, n_20220, L_X9_keywordHere_12, B_X9_keywordHere_12, el]
  | succ q ih =>
    intro i fu hi hf
    have := (l9_seg h g11 g12 hse hen (i := i) (by omega) (fun fu hf => ih (i + 1) fu (by omega) hf) (kln i) fu 0 (by omega) hf).1 (fun j' hj' => by omega)
    rw [Nat.add_zero, Nat.add_zero] at this
    rw [this]
    congr 1
    show _ = kwI (if wl b s (e - s) = kwl i then 2 + i else kwf (wl b s (e - s)) q (i + 1))
    by_cases hw : wl b s (e - s) = kwl i
    · rw [if_pos hw, if_pos hw]
      unfold kwI
      rw [if_neg (by omega)]; congr 1; omega
    · rw [if_neg hw, if_neg hw]
theorem x9_kw {s e : Nat} (h : RBs μ m b n) (g11 : gI μ m 11 = nI s) (g12 : gI μ m 12 = nI e) (hse : s ≤ e) (hen : e ≤ n) : F_X9_keywordHere m μ = some (kwI (kwr (wl b s (e - s)))) := by
  have e1 := l9_kw h g11 g12 hse hen 16 0 FU rfl (FU_gt (by omega))
  have k0 := h.1.k0
  have z : kst 0 = 0 := rfl
  rw [z] at e1
  show _ = some (kwI (kwf (wl b s (e - s)) 16 0))
  rw [← e1]
  clear h e1
  simp (disch := first | assumption | omega) only [q_bl, q_baT, q_bi, q_ba, q_pr, q_ob, q_iT, q_iN, q_it, q_if, q_of, nI_add, pk_mul, pk_sub, nI_leI, nI_ltI, nI_eq, nI_clamp, nI_lt0, nI_eqm, m1_eq, true_or, or_true, not_false_eq_true, m1_lt, m1_nlt, m1_le, m1_nle, b01, b011, q_em, q_m1, n_0, n_1, n_2, n_3, n_4, n_5, n_6, n_7, n_8, n_9, n_10, n_11, n_12, n_14, n_15, n_16, n_20, n_24, n_25, n_32, n_36, n_40, n_41, n_42, n_43, n_45, n_46, n_48, n_57, n_59, n_60, n_73, n_76, n_97, n_99, n_100, n_106, n_109, n_120, n_122, n_136, n_160, n_176, n_200, n_255, n_800, n_1000, n_1001, n_1002, n_1003, n_1006, n_1012, n_1018, n_1019, n_1020, n_1100, n_1140, n_4800, n_4920, n_5940, n_6740, n_20220, F_X9_keywordHere, k0, g11]
-- words
theorem nn27 {N c : Nat} (hc : 97 ≤ c) : (((27 : Int64) * lN N + lN c) - (97 : Int64)) + (1 : Int64) = lN (N * 27 + (c - 96)) := by
  rw [show (27 : Int64) = lN 27 from rfl, show (97 : Int64) = lN 97 from rfl, show (1 : Int64) = lN 1 from rfl, lN_mul, lN_add, lN_sub (by omega), lN_add]
  congr 1; omega
theorem l9_word : ∀ (q fu k p s : Nat) (μ : Mem), q < fu → RBs μ m b n → gI μ m 12 = nI p → gI μ m 11 = nI s → s + k = p → p + q = n → (∀ j, j < k → isLt (b (s + j)) = true) → (k ≤ 8 → gJ μ m 18 = lN (nn (wl b s k))) →
    ∃ μ', L_X9_advance_38 fu m μ = some (nI 1, μ') ∧ gI μ' m 12 = nI (rn isLt b q p) ∧ gI μ' m 11 = nI s ∧ gI μ' m 13 = nI (if rn isLt b q p - s ≤ 8 then 2 else 1) ∧ gI μ' m 14 = (if rn isLt b q p - s ≤ 8 then kwI (kwr (wl b s (rn isLt b q p - s))) else -nI 1) ∧ (rn isLt b q p - s ≤ 8 → gJ μ' m 18 = lN (nn (wl b s (rn isLt b q p - s)))) ∧ Fx (fun a => a = m) μ μ' ∧ ∀ j, ¬ j = 12 → ¬ j = 13 → ¬ j = 14 → gI μ' m j = gI μ m j := by
  intro q
  have fin : ∀ (fu k p s q : Nat) (μ : Mem), RBs μ m b n → gI μ m 12 = nI p → gI μ m 11 = nI s → s + k = p → p + q = n → (k ≤ 8 → gJ μ m 18 = lN (nn (wl b s k))) → (L_X9_advance_38 (fu + 1) m μ = if k ≤ 8 then B_X9_advance_134 m (nI 2) m μ else B_X9_advance_134 m (nI 1) m μ) →
      ∃ μ', L_X9_advance_38 (fu + 1) m μ = some (nI 1, μ') ∧ gI μ' m 12 = nI p ∧ gI μ' m 11 = nI s ∧ gI μ' m 13 = nI (if p - s ≤ 8 then 2 else 1) ∧ gI μ' m 14 = (if p - s ≤ 8 then kwI (kwr (wl b s (p - s))) else -nI 1) ∧ (p - s ≤ 8 → gJ μ' m 18 = lN (nn (wl b s (p - s)))) ∧ Fx (fun a => a = m) μ μ' ∧ ∀ j, ¬ j = 12 → ¬ j = 13 → ¬ j = 14 → gI μ' m j = gI μ m j := by
    intro fu k p s q μ h g gs hk hp hK e
    have hn := h.2.2.1.1
    have k0 := h.1.k0
    have hks : p - s = k := by omega
    have f1 : ∀ v, Fx (fun a => a = m) μ (stI μ m 13 v) := fun v => Fx.stI rfl
    have f2 : ∀ v w, Fx (fun a => a = m) μ (stI (stI μ m 13 v) m 14 w) := fun v w => (f1 v).trans (Fx.stI rfl)
    refine ⟨stI (stI μ m 13 (nI (if p - s ≤ 8 then 2 else 1))) m 14 (if p - s ≤ 8 then kwI (kwr (wl b s (p - s))) else -nI 1), ?_, by rw [q_iI, q_un (by omega), q_iI, q_un (by omega)]; exact g, by rw [q_iI, q_un (by omega), q_iI, q_un (by omega)]; exact gs, by rw [q_iI, q_un (by omega), q_iI, q_us], by rw [q_iI, q_us], fun h8 => by rw [q_jI, q_jI, hks]; exact hK (by omega), f2 _ _, fun j h1 h2 h3 => by rw [q_iI, q_un (by omega), q_iI, q_un (by omega)]⟩
    rw [e]
    by_cases h8 : k ≤ 8
    · rw [if_pos h8, hks, if_pos h8, if_pos h8]
      have hB2 := h.mm (f1 (nI 2)) (by rw [q_iI, q_un (by omega)])
      have e2 := x9_kw (s := s) (e := p) hB2 (by rw [q_iI, q_un (by omega)]; exact gs) (by rw [q_iI, q_un (by omega)]; exact g) (by omega) (by omega)
      rw [hks] at e2
      clear h e hK hB2 f1 f2
      simp (disch := first | assumption | omega) only [q_bl, q_baT, q_bi, q_ba, q_pr, q_ob, q_iT, q_iN, q_it, q_if, q_of, nI_add, pk_mul, pk_sub, nI_leI, nI_ltI, nI_eq, nI_clamp, nI_lt0, nI_eqm, m1_eq, true_or, or_true, not_false_eq_true, m1_lt, m1_nlt, m1_le, m1_nle, b01, b011, q_em, q_m1, n_0, n_1, n_2, n_3, n_4, n_5, n_6, n_7, n_8, n_9, n_10, n_11, n_12, n_14, n_15, n_16, n_20, n_24, n_25, n_32, n_36, n_40, n_41, n_42, n_43, n_45, n_46, n_48, n_57, n_59, n_60, n_73, n_76, n_97, n_99, n_100, n_106, n_109, n_120, n_122, n_136, n_160, n_176, n_200, n_255, n_800, n_1000, n_1001, n_1002, n_1003, n_1006, n_1012, n_1018, n_1019, n_1020, n_1100, n_1140, n_4800, n_4920, n_5940, n_6740, n_20220, q_kI, q_lI, q_nI, q_rI, q_iI, q_jI, q_dI, q_kJ, q_lJ, q_nJ, q_rJ, q_iJ, q_jJ, q_dJ, q_kC, q_lC, q_nC, q_rC, q_jC, q_dC, q_kF, q_lF, q_nF, q_rF, q_jF, q_dF, q_us, q_un, q_ua, B_X9_advance_134, k0, e2]
    · rw [if_neg h8, hks, if_neg h8, if_neg h8]
      clear h e hK f1 f2
      simp (disch := first | assumption | omega) only [q_bl, q_baT, q_bi, q_ba, q_pr, q_ob, q_iT, q_iN, q_it, q_if, q_of, nI_add, pk_mul, pk_sub, nI_leI, nI_ltI, nI_eq, nI_clamp, nI_lt0, nI_eqm, m1_eq, true_or, or_true, not_false_eq_true, m1_lt, m1_nlt, m1_le, m1_nle, b01, b011, q_em, q_m1, n_0, n_1, n_2, n_3, n_4, n_5, n_6, n_7, n_8, n_9, n_10, n_11, n_12, n_14, n_15, n_16, n_20, n_24, n_25, n_32, n_36, n_40, n_41, n_42, n_43, n_45, n_46, n_48, n_57, n_59, n_60, n_73, n_76, n_97, n_99, n_100, n_106, n_109, n_120, n_122, n_136, n_160, n_176, n_200, n_255, n_800, n_1000, n_1001, n_1002, n_1003, n_1006, n_1012, n_1018, n_1019, n_1020, n_1100, n_1140, n_4800, n_4920, n_5940, n_6740, n_20220, q_kI, q_lI, q_nI, q_rI, q_iI, q_jI, q_dI, q_kJ, q_lJ, q_nJ, q_rJ, q_iJ, q_jJ, q_dJ, q_kC, q_lC, q_nC, q_rC, q_jC, q_dC, q_kF, q_lF, q_nF, q_rF, q_jF, q_dF, q_us, q_un, q_ua, B_X9_advance_134, k0]
  induction q with
  | zero =>
    intro fu k p s μ hf h g gs hk hp hl hK
    obtain ⟨fu, rfl⟩ : ∃ k, fu = k + 1 := ⟨fu - 1, by omega⟩
    refine fin fu k p s 0 μ h g gs hk hp hK ?_
    have hn := h.2.2.1.1
    have k0 := h.1.k0
    have e1 := x9_b0 h (k := p) (by omega) (by omega)
    have e2 := x9_Lm (μ := μ)
    have hsub : nI p - nI s = nI k := by rw [pk_sub (by omega)]; congr 1; omega
    have hkn : k < 2000 := by omega
    clear h hK fin
    simp (disch := first | assumption | omega) only [q_bl, q_baT, q_bi, q_ba, q_pr, q_ob, q_iT, q_iN, q_it, q_if, q_of, nI_add, pk_mul, nI_leI, nI_ltI, nI_eq, nI_clamp, nI_lt0, nI_eqm, m1_eq, true_or, or_true, not_false_eq_true, m1_lt, m1_nlt, m1_le, m1_nle, b01, b011, q_em, q_m1, n_0, n_1, n_2, n_3, n_4, n_5, n_6, n_7, n_8, n_9, n_10, n_11, n_12, n_14, n_15, n_16, n_20, n_24, n_25, n_32, n_36, n_40, n_41, n_42, n_43, n_45, n_46, n_48, n_57, n_59, n_60, n_73, n_76, n_97, n_99, n_100, n_106, n_109, n_120, n_122, n_136, n_160, n_176, n_200, n_255, n_800, n_1000, n_1001, n_1002, n_1003, n_1006, n_1012, n_1018, n_1019, n_1020, n_1100, n_1140, n_4800, n_4920, n_5940, n_6740, n_20220, L_X9_advance_38, B_X9_advance_38, k0, g, gs, e1, e2, hsub]
  | succ q ih =>
    intro fu k p s μ hf h g gs hk hp hl hK
    obtain ⟨fu, rfl⟩ : ∃ k, fu = k + 1 := ⟨fu - 1, by omega⟩
    have hn := h.2.2.1.1
    have k0 := h.1.k0
    have e0 := x9_b1 h (k := p) (by omega)
    have hb := h.2.2.1.2.1 p (by omega)
    have hsub : nI p - nI s = nI k := by rw [pk_sub (by omega)]; congr 1; omega
    have hkn : k < 2000 := by omega
    by_cases hB : isLt (b p) = true
    · have hB2 := hB
      rw [isLt_T] at hB2
      have i1 := x9_L1 (μ := μ) hB
      have hcl : ∀ w : Int64, Fx (fun a => a = m) μ (stI (stJ μ m 18 w) m 12 (nI (p + 1))) := fun w => (Fx.stJ (P := fun a => a = m) rfl).trans (Fx.stI rfl)
      have step : ∀ w : Int64, (k + 1 ≤ 8 → w = lN (nn (wl b s (k + 1)))) → L_X9_advance_38 (fu + 1) m μ = L_X9_advance_38 fu m (stI (stJ μ m 18 w) m 12 (nI (p + 1))) →
          ∃ μ', L_X9_advance_38 (fu + 1) m μ = some (nI 1, μ') ∧ gI μ' m 12 = nI (rn isLt b q (p + 1)) ∧ gI μ' m 11 = nI s ∧ gI μ' m 13 = nI (if rn isLt b q (p + 1) - s ≤ 8 then 2 else 1) ∧ gI μ' m 14 = (if rn isLt b q (p + 1) - s ≤ 8 then kwI (kwr (wl b s (rn isLt b q (p + 1) - s))) else -nI 1) ∧ (rn isLt b q (p + 1) - s ≤ 8 → gJ μ' m 18 = lN (nn (wl b s (rn isLt b q (p + 1) - s)))) ∧ Fx (fun a => a = m) μ μ' ∧ ∀ j, ¬ j = 12 → ¬ j = 13 → ¬ j = 14 → gI μ' m j = gI μ m j := by
        intro w hw e
        obtain ⟨μ', a1, a2, a3, a4, a5, a6, a7, a8⟩ := ih fu (k + 1) (p + 1) s (stI (stJ μ m 18 w) m 12 (nI (p + 1))) (by omega) (h.mm (hcl w) (by rw [q_iI, q_un (by omega)]; rfl)) (by rw [q_iI, q_us]) (by rw [q_iI, q_un (by omega)]; exact gs) (by omega) (by omega) (fun j hj => by
          by_cases hjk : j = k
          · subst hjk; rw [hk]; exact hB
          · exact hl j (by omega)) (fun h8 => by rw [q_jI, q_jJ, q_us]; exact hw h8)
        exact ⟨μ', by rw [e]; exact a1, a2, a3, a4, a5, a6, (hcl w).trans a7, fun j h1 h2 h3 => by rw [a8 j h1 h2 h3, q_iI, q_un (by omega)]; rfl⟩
      rw [rn_s hB]
      by_cases h8 : 8 ≤ k
      · refine step (gJ μ m 18) (fun h9 => by omega) ?_
        clear h ih hK hl fin step hcl
        simp (disch := first | assumption | omega) only [q_bl, q_baT, q_bi, q_ba, q_pr, q_ob, q_iT, q_iN, q_it, q_if, q_of, nI_add, pk_mul, nI_leI, nI_ltI, nI_eq, nI_clamp, nI_lt0, nI_eqm, m1_eq, true_or, or_true, not_false_eq_true, m1_lt, m1_nlt, m1_le, m1_nle, b01, b011, q_em, q_m1, n_0, n_1, n_2, n_3, n_4, n_5, n_6, n_7, n_8, n_9, n_10, n_11, n_12, n_14, n_15, n_16, n_20, n_24, n_25, n_32, n_36, n_40, n_41, n_42, n_43, n_45, n_46, n_48, n_57, n_59, n_60, n_73, n_76, n_97, n_99, n_100, n_106, n_109, n_120, n_122, n_136, n_160, n_176, n_200, n_255, n_800, n_1000, n_1001, n_1002, n_1003, n_1006, n_1012, n_1018, n_1019, n_1020, n_1100, n_1140, n_4800, n_4920, n_5940, n_6740, n_20220, q_kI, q_lI, q_nI, q_rI, q_iI, q_jI, q_dI, q_kJ, q_lJ, q_nJ, q_rJ, q_iJ, q_jJ, q_dJ, q_kC, q_lC, q_nC, q_rC, q_jC, q_dC, q_kF, q_lF, q_nF, q_rF, q_jF, q_dF, q_us, q_un, q_ua, L_X9_advance_38, B_X9_advance_38, B_X9_advance_98, k0, g, gs, e0, i1, hsub, h8]
      · refine step (((27 : Int64) * gJ μ m 18 + (nI (b p)).toInt64 - (97 : Int64)) + (1 : Int64)) (fun h9 => ?_) ?_
        · rw [hK (by omega), nI_l (by omega), nn27 hB2.1]
          show _ = lN (nn (wl b s k) * 27 + (b (s + k) - 96))
          rw [hk]
        · have n8 : ¬ nI 8 ≤ nI k := by rw [nI_leI (by decide) (by omega)]; exact h8
          clear h ih hK hl fin step hcl
          simp (disch := first | assumption | omega) only [q_bl, q_baT, q_bi, q_ba, q_pr, q_ob, q_iT, q_iN, q_it, q_if, q_of, nI_add, pk_mul, nI_ltI, nI_eq, nI_clamp, nI_lt0, nI_eqm, m1_eq, true_or, or_true, not_false_eq_true, m1_lt, m1_nlt, m1_le, m1_nle, b01, b011, q_em, q_m1, n_0, n_1, n_2, n_3, n_4, n_5, n_6, n_7, n_8, n_9, n_10, n_11, n_12, n_14, n_15, n_16, n_20, n_24, n_25, n_32, n_36, n_40, n_41, n_42, n_43, n_45, n_46, n_48, n_57, n_59, n_60, n_73, n_76, n_97, n_99, n_100, n_106, n_109, n_120, n_122, n_136, n_160, n_176, n_200, n_255, n_800, n_1000, n_1001, n_1002, n_1003, n_1006, n_1012, n_1018, n_1019, n_1020, n_1100, n_1140, n_4800, n_4920, n_5940, n_6740, n_20220, q_kI, q_lI, q_nI, q_rI, q_iI, q_jI, q_dI, q_kJ, q_lJ, q_nJ, q_rJ, q_iJ, q_jJ, q_dJ, q_kC, q_lC, q_nC, q_rC, q_jC, q_dC, q_kF, q_lF, q_nF, q_rF, q_jF, q_dF, q_us, q_un, q_ua, L_X9_advance_38, B_X9_advance_38, B_X9_advance_98, k0, g, gs, e0, i1, hsub, n8]
    · rw [rn_n hB]
      refine fin fu k p s (q + 1) μ h g gs hk hp hK ?_
      have i1 := x9_L0 (μ := μ) (by omega) hB
      clear h ih hK hl fin
      simp (disch := first | assumption | omega) only [q_bl, q_baT, q_bi, q_ba, q_pr, q_ob, q_iT, q_iN, q_it, q_if, q_of, nI_add, pk_mul, nI_leI, nI_ltI, nI_eq, nI_clamp, nI_lt0, nI_eqm, m1_eq, true_or, or_true, not_false_eq_true, m1_lt, m1_nlt, m1_le, m1_nle, b01, b011, q_em, q_m1, n_0, n_1, n_2, n_3, n_4, n_5, n_6, n_7, n_8, n_9, n_10, n_11, n_12, n_14, n_15, n_16, n_20, n_24, n_25, n_32, n_36, n_40, n_41, n_42, n_43, n_45, n_46, n_48, n_57, n_59, n_60, n_73, n_76, n_97, n_99, n_100, n_106, n_109, n_120, n_122, n_136, n_160, n_176, n_200, n_255, n_800, n_1000, n_1001, n_1002, n_1003, n_1006, n_1012, n_1018, n_1019, n_1020, n_1100, n_1140, n_4800, n_4920, n_5940, n_6740, n_20220, L_X9_advance_38, B_X9_advance_38, k0, g, gs, e0, i1, hsub]
theorem l9_num : ∀ (q fu k p s : Nat) (μ : Mem), q < fu → RBs μ m b n → gI μ m 12 = nI p → gI μ m 11 = nI s → s + k = p → p + q = n → (∀ j, j < k → isDg (b (s + j)) = true) → (k ≤ 2 → gI μ m 15 = nI (nv b s k)) →
    ∃ μ', L_X9_advance_172 fu m μ = some (nI 1, μ') ∧ gI μ' m 12 = nI (rn isDg b q p) ∧ gI μ' m 11 = nI s ∧ gI μ' m 13 = nI (if rn isDg b q p - s ≤ 2 then 3 else 1) ∧ (rn isDg b q p - s ≤ 2 → gI μ' m 15 = nI (nv b s (rn isDg b q p - s))) ∧ Fx (fun a => a = m) μ μ' ∧ (∀ j, ¬ j = 12 → ¬ j = 13 → ¬ j = 15 → gI μ' m j = gI μ m j) := by
  intro q
  have fin : ∀ (fu k p s q : Nat) (μ : Mem), RBs μ m b n → gI μ m 12 = nI p → gI μ m 11 = nI s → s + k = p → p + q = n → (k ≤ 2 → gI μ m 15 = nI (nv b s k)) → (L_X9_advance_172 (fu + 1) m μ = if k ≤ 2 then some (nI 1, stI μ m 13 (nI 3)) else some (nI 1, stI μ m 13 (nI 1))) →
      ∃ μ', L_X9_advance_172 (fu + 1) m μ = some (nI 1, μ') ∧ gI μ' m 12 = nI p ∧ gI μ' m 11 = nI s ∧ gI μ' m 13 = nI (if p - s ≤ 2 then 3 else 1) ∧ (p - s ≤ 2 → gI μ' m 15 = nI (nv b s (p - s))) ∧ Fx (fun a => a = m) μ μ' ∧ (∀ j, ¬ j = 12 → ¬ j = 13 → ¬ j = 15 → gI μ' m j = gI μ m j) := by
    intro fu k p s q μ h g gs hk hp hK e
    have hks : p - s = k := by omega
    refine ⟨stI μ m 13 (nI (if p - s ≤ 2 then 3 else 1)), ?_, by rw [q_iI, q_un (by omega)]; exact g, by rw [q_iI, q_un (by omega)]; exact gs, by rw [q_iI, q_us], fun h8 => by rw [q_iI, q_un (by omega), hks]; exact hK (by omega), Fx.stI rfl, fun j h1 h2 h3 => by rw [q_iI, q_un (by omega)]⟩
    rw [e, hks]
    by_cases h8 : k ≤ 2
    · rw [if_pos h8, if_pos h8]
    · rw [if_neg h8, if_neg h8]
  induction q with
  | zero =>
    intro fu k p s μ hf h g gs hk hp hl hK
    obtain ⟨fu, rfl⟩ : ∃ k, fu = k + 1 := ⟨fu - 1, by omega⟩
    refine fin fu k p s 0 μ h g gs hk hp hK ?_
    have hn := h.2.2.1.1
    have k0 := h.1.k0
    have e1 := x9_b0 h (k := p) (by omega) (by omega)
    have e2 := x9_Dm (μ := μ)
    have hsub : nI p - nI s = nI k := by rw [pk_sub (by omega)]; congr 1; omega
    have hkn : k < 2000 := by omega
    clear h hK fin
    simp (disch := first | assumption | omega) only [q_bl, q_baT, q_bi, q_ba, q_pr, q_ob, q_iT, q_iN, q_it, q_if, q_of, nI_add, pk_mul, nI_leI, nI_ltI, nI_eq, nI_clamp, nI_lt0, nI_eqm, m1_eq, true_or, or_true, not_false_eq_true, m1_lt, m1_nlt, m1_le, m1_nle, b01, b011, q_em, q_m1, n_0, n_1, n_2, n_3, n_4, n_5, n_6, n_7, n_8, n_9, n_10, n_11, n_12, n_14, n_15, n_16, n_20, n_24, n_25, n_32, n_36, n_40, n_41, n_42, n_43, n_45, n_46, n_48, n_57, n_59, n_60, n_73, n_76, n_97, n_99, n_100, n_106, n_109, n_120, n_122, n_136, n_160, n_176, n_200, n_255, n_800, n_1000, n_1001, n_1002, n_1003, n_1006, n_1012, n_1018, n_1019, n_1020, n_1100, n_1140, n_4800, n_4920, n_5940, n_6740, n_20220, L_X9_advance_172, B_X9_advance_172, k0, g, gs, e1, e2, hsub]
  | succ q ih =>
    intro fu k p s μ hf h g gs hk hp hl hK
    obtain ⟨fu, rfl⟩ : ∃ k, fu = k + 1 := ⟨fu - 1, by omega⟩
    have hn := h.2.2.1.1
    have k0 := h.1.k0
    have e0 := x9_b1 h (k := p) (by omega)
    have hb := h.2.2.1.2.1 p (by omega)
    have hsub : nI p - nI s = nI k := by rw [pk_sub (by omega)]; congr 1; omega
    have hkn : k < 2000 := by omega
    by_cases hB : isDg (b p) = true
    · have hB2 := hB
      rw [isDg_T] at hB2
      have i1 := x9_D1 (μ := μ) hB
      have hcl : ∀ w : Int32, Fx (fun a => a = m) μ (stI (stI μ m 15 w) m 12 (nI (p + 1))) := fun w => (Fx.stI (P := fun a => a = m) rfl).trans (Fx.stI rfl)
      have step : ∀ w : Int32, (k + 1 ≤ 2 → w = nI (nv b s (k + 1))) → L_X9_advance_172 (fu + 1) m μ = L_X9_advance_172 fu m (stI (stI μ m 15 w) m 12 (nI (p + 1))) →
          ∃ μ', L_X9_advance_172 (fu + 1) m μ = some (nI 1, μ') ∧ gI μ' m 12 = nI (rn isDg b q (p + 1)) ∧ gI μ' m 11 = nI s ∧ gI μ' m 13 = nI (if rn isDg b q (p + 1) - s ≤ 2 then 3 else 1) ∧ (rn isDg b q (p + 1) - s ≤ 2 → gI μ' m 15 = nI (nv b s (rn isDg b q (p + 1) - s))) ∧ Fx (fun a => a = m) μ μ' ∧ (∀ j, ¬ j = 12 → ¬ j = 13 → ¬ j = 15 → gI μ' m j = gI μ m j) := by
        intro w hw e
        obtain ⟨μ', a1, a2, a3, a4, a5, a6, a7⟩ := ih fu (k + 1) (p + 1) s (stI (stI μ m 15 w) m 12 (nI (p + 1))) (by omega) (h.mm (hcl w) (by rw [q_iI, q_un (by omega), q_iI, q_un (by omega)])) (by rw [q_iI, q_us]) (by rw [q_iI, q_un (by omega), q_iI, q_un (by omega)]; exact gs) (by omega) (by omega) (fun j hj => by
          by_cases hjk : j = k
          · subst hjk; rw [hk]; exact hB
          · exact hl j (by omega)) (fun h8 => by rw [q_iI, q_un (by omega), q_iI, q_us]; exact hw h8)
        exact ⟨μ', by rw [e]; exact a1, a2, a3, a4, a5, (hcl w).trans a6, fun j h1 h2 h3 => by rw [a7 j h1 h2 h3, q_iI, q_un (by omega), q_iI, q_un (by omega)]⟩
      rw [rn_s hB]
      by_cases h8 : 2 ≤ k
      · refine step (gI μ m 15) (fun h9 => by omega) ?_
        clear h ih hK hl fin step hcl
        simp (disch := first | assumption | omega) only [q_bl, q_baT, q_bi, q_ba, q_pr, q_ob, q_iT, q_iN, q_it, q_if, q_of, nI_add, pk_mul, nI_leI, nI_ltI, nI_eq, nI_clamp, nI_lt0, nI_eqm, m1_eq, true_or, or_true, not_false_eq_true, m1_lt, m1_nlt, m1_le, m1_nle, b01, b011, q_em, q_m1, n_0, n_1, n_2, n_3, n_4, n_5, n_6, n_7, n_8, n_9, n_10, n_11, n_12, n_14, n_15, n_16, n_20, n_24, n_25, n_32, n_36, n_40, n_41, n_42, n_43, n_45, n_46, n_48, n_57, n_59, n_60, n_73, n_76, n_97, n_99, n_100, n_106, n_109, n_120, n_122, n_136, n_160, n_176, n_200, n_255, n_800, n_1000, n_1001, n_1002, n_1003, n_1006, n_1012, n_1018, n_1019, n_1020, n_1100, n_1140, n_4800, n_4920, n_5940, n_6740, n_20220, q_kI, q_lI, q_nI, q_rI, q_iI, q_jI, q_dI, q_kJ, q_lJ, q_nJ, q_rJ, q_iJ, q_jJ, q_dJ, q_kC, q_lC, q_nC, q_rC, q_jC, q_dC, q_kF, q_lF, q_nF, q_rF, q_jF, q_dF, q_us, q_un, q_ua, L_X9_advance_172, B_X9_advance_172, B_X9_advance_226, k0, g, gs, e0, i1, hsub, h8]
      · refine step ((nI 10 * gI μ m 15 + nI (b p)) - nI 48) (fun h9 => ?_) ?_
        · rw [hK (by omega), pk_mul, nI_add, pk_sub (by omega)]
          show _ = nI (nv b s k * 10 + (b (s + k) - 48))
          rw [hk]; congr 1; omega
        · have n8 : ¬ nI 2 ≤ nI k := by rw [nI_leI (by decide) (by omega)]; exact h8
          clear h ih hK hl fin step hcl
          simp (disch := first | assumption | omega) only [q_bl, q_baT, q_bi, q_ba, q_pr, q_ob, q_iT, q_iN, q_it, q_if, q_of, nI_add, pk_mul, nI_ltI, nI_eq, nI_clamp, nI_lt0, nI_eqm, m1_eq, true_or, or_true, not_false_eq_true, m1_lt, m1_nlt, m1_le, m1_nle, b01, b011, q_em, q_m1, n_0, n_1, n_2, n_3, n_4, n_5, n_6, n_7, n_8, n_9, n_10, n_11, n_12, n_14, n_15, n_16, n_20, n_24, n_25, n_32, n_36, n_40, n_41, n_42, n_43, n_45, n_46, n_48, n_57, n_59, n_60, n_73, n_76, n_97, n_99, n_100, n_106, n_109, n_120, n_122, n_136, n_160, n_176, n_200, n_255, n_800, n_1000, n_1001, n_1002, n_1003, n_1006, n_1012, n_1018, n_1019, n_1020, n_1100, n_1140, n_4800, n_4920, n_5940, n_6740, n_20220, q_kI, q_lI, q_nI, q_rI, q_iI, q_jI, q_dI, q_kJ, q_lJ, q_nJ, q_rJ, q_iJ, q_jJ, q_dJ, q_kC, q_lC, q_nC, q_rC, q_jC, q_dC, q_kF, q_lF, q_nF, q_rF, q_jF, q_dF, q_us, q_un, q_ua, L_X9_advance_172, B_X9_advance_172, B_X9_advance_226, k0, g, gs, e0, i1, hsub, n8]
    · rw [rn_n hB]
      refine fin fu k p s (q + 1) μ h g gs hk hp hK ?_
      have i1 := x9_D0 (μ := μ) (by omega) hB
      clear h ih hK hl fin
      simp (disch := first | assumption | omega) only [q_bl, q_baT, q_bi, q_ba, q_pr, q_ob, q_iT, q_iN, q_it, q_if, q_of, nI_add, pk_mul, nI_leI, nI_ltI, nI_eq, nI_clamp, nI_lt0, nI_eqm, m1_eq, true_or, or_true, not_false_eq_true, m1_lt, m1_nlt, m1_le, m1_nle, b01, b011, q_em, q_m1, n_0, n_1, n_2, n_3, n_4, n_5, n_6, n_7, n_8, n_9, n_10, n_11, n_12, n_14, n_15, n_16, n_20, n_24, n_25, n_32, n_36, n_40, n_41, n_42, n_43, n_45, n_46, n_48, n_57, n_59, n_60, n_73, n_76, n_97, n_99, n_100, n_106, n_109, n_120, n_122, n_136, n_160, n_176, n_200, n_255, n_800, n_1000, n_1001, n_1002, n_1003, n_1006, n_1012, n_1018, n_1019, n_1020, n_1100, n_1140, n_4800, n_4920, n_5940, n_6740, n_20220, L_X9_advance_172, B_X9_advance_172, k0, g, gs, e0, i1, hsub]
theorem x9_adv (h : RBs μ m b n) (g : gI μ m 12 = nI p) (hp : p ≤ n) : ∃ μ', F_X9_advance m μ = some (nI 1, μ') ∧ TKr μ' m b n p ∧ Fx (fun a => a = m) μ μ' ∧ ∀ j, j < 11 ∨ 16 ≤ j → gI μ' m j = gI μ m j := by
  obtain ⟨μ1, e1, e2, e3, e4, e5, e6, e7⟩ := x9_skip h g hp
  have h1 := h.mm e5 (e6 10 (by decide) (by decide) (by decide))
  have hn := h.2.2.1.1
  have hs := ts_le (b := b) hp
  have k0 := h.1.k0
  have k1 := h1.1.k0
  by_cases h0 : n ≤ ts b n p
  · have t0 : tk b n p = 0 := by rw [tk_0]; exact h0
    have t1 : te b n p = ts b n p := by unfold te; rw [if_pos h0]
    have a1 := x9_b0 h1 h0 (by omega)
    have tr : trw b n p = 0 := by unfold trw; rw [if_neg (by omega)]
    refine ⟨stI μ1 m 13 (nI 0), ?_, ⟨by rw [q_iI, q_un (by omega)]; exact e3, by rw [q_iI, q_un (by omega), t1]; exact e2, by rw [q_iI, q_us, t0]; rfl, by rw [q_iI, q_un (by omega), tr]; exact e4, fun q => by omega, fun q => by omega⟩, e5.trans (Fx.stI rfl), fun j hj => by rw [q_iI, q_un (by omega), e6 j (by omega) (by omega) (by omega)]⟩
    clear h h1 e5 e6 e7
    simp (disch := first | assumption | omega) only [q_bl, q_baT, q_bi, q_ba, q_pr, q_ob, q_iT, q_iN, q_it, q_if, q_of, nI_add, pk_mul, pk_sub, nI_leI, nI_ltI, nI_eq, nI_clamp, nI_lt0, nI_eqm, m1_eq, true_or, or_true, not_false_eq_true, m1_lt, m1_nlt, m1_le, m1_nle, b01, b011, q_em, q_m1, n_0, n_1, n_2, n_3, n_4, n_5, n_6, n_7, n_8, n_9, n_10, n_11, n_12, n_14, n_15, n_16, n_20, n_24, n_25, n_32, n_36, n_40, n_41, n_42, n_43, n_45, n_46, n_48, n_57, n_59, n_60, n_73, n_76, n_97, n_99, n_100, n_106, n_109, n_120, n_122, n_136, n_160, n_176, n_200, n_255, n_800, n_1000, n_1001, n_1002, n_1003, n_1006, n_1012, n_1018, n_1019, n_1020, n_1100, n_1140, n_4800, n_4920, n_5940, n_6740, n_20220, F_X9_advance, k0, e1, k1, e2, a1]
  · have a1 := x9_b1 h1 (k := ts b n p) (by omega)
    have hb := h.2.2.1.2.1 (ts b n p) (by omega)
    have nm : ¬ nI (b (ts b n p)) = -nI 1 := by rw [nI_eqm (by omega)]; exact id
    by_cases hL : isLt (b (ts b n p)) = true
    · have f1 : Fx (fun a => a = m) μ1 (stJ μ1 m 18 0) := Fx.stJ rfl
      have te1 : te b n p = rn isLt b (n - ts b n p) (ts b n p) := by unfold te; rw [if_neg h0, if_pos hL]
      have tk1 : tk b n p = if te b n p - ts b n p ≤ 8 then 1 else 4 := by unfold tk; rw [if_neg h0, if_pos hL]
      obtain ⟨μ2, c1, c2, c3, c4, c5, c6, c7, c8⟩ := l9_word (m := m) (b := b) (n := n) (n - ts b n p) FU 0 (ts b n p) (ts b n p) (stJ μ1 m 18 0) (FU_gt (by omega)) (h1.mm f1 rfl) e2 e3 rfl (by omega) (fun j hj => absurd hj (by omega)) (fun _ => by rw [q_jJ, q_us]; rfl)
      rw [← te1] at c2 c4 c5 c6
      refine ⟨μ2, ?_, ⟨c3, c2, ?_, ?_, fun q => ?_, fun q => c6 (tk_1 q).2.2.2⟩, e5.trans (f1.trans c7), fun j hj => (c8 j (by omega) (by omega) (by omega)).trans (e6 j (by omega) (by omega) (by omega))⟩
      · have i1 := x9_L1 (μ := μ1) hL
        clear h h1 e5 e6 e7 c2 c3 c4 c5 c6 c7 c8 f1
        simp (disch := first | assumption | omega) only [q_bl, q_baT, q_bi, q_ba, q_pr, q_ob, q_iT, q_iN, q_it, q_if, q_of, nI_add, pk_mul, pk_sub, nI_leI, nI_ltI, nI_eq, nI_clamp, nI_lt0, nI_eqm, m1_eq, true_or, or_true, not_false_eq_true, m1_lt, m1_nlt, m1_le, m1_nle, b01, b011, q_em, q_m1, n_0, n_1, n_2, n_3, n_4, n_5, n_6, n_7, n_8, n_9, n_10, n_11, n_12, n_14, n_15, n_16, n_20, n_24, n_25, n_32, n_36, n_40, n_41, n_42, n_43, n_45, n_46, n_48, n_57, n_59, n_60, n_73, n_76, n_97, n_99, n_100, n_106, n_109, n_120, n_122, n_136, n_160, n_176, n_200, n_255, n_800, n_1000, n_1001, n_1002, n_1003, n_1006, n_1012, n_1018, n_1019, n_1020, n_1100, n_1140, n_4800, n_4920, n_5940, n_6740, n_20220, F_X9_advance, k0, e1, k1, e2, a1, nm, i1, c1]
      · rw [c4, tk1]; split <;> rfl
      · rw [c5]
        unfold trw
        rw [tk1]
        by_cases h8 : te b n p - ts b n p ≤ 8
        · rw [if_pos h8, if_pos h8, if_pos rfl]; rfl
        · rw [if_neg h8, if_neg h8, if_neg (by decide)]; rfl
      · rw [tk1] at q; split at q <;> omega
    · have i1 := x9_L0 (μ := μ1) (by omega) hL
      by_cases hD : isDg (b (ts b n p)) = true
      · have f1 : Fx (fun a => a = m) μ1 (stI μ1 m 15 (nI 0)) := Fx.stI rfl
        have te1 : te b n p = rn isDg b (n - ts b n p) (ts b n p) := by unfold te; rw [if_neg h0, if_neg hL, if_pos hD]
        have tk1 : tk b n p = if te b n p - ts b n p ≤ 2 then 2 else 4 := by unfold tk; rw [if_neg h0, if_neg hL, if_pos hD]
        obtain ⟨μ2, c1, c2, c3, c4, c5, c6, c7⟩ := l9_num (m := m) (b := b) (n := n) (n - ts b n p) FU 0 (ts b n p) (ts b n p) (stI μ1 m 15 (nI 0)) (FU_gt (by omega)) (h1.mm f1 (by rw [q_iI, q_un (by omega)])) (by rw [q_iI, q_un (by omega)]; exact e2) (by rw [q_iI, q_un (by omega)]; exact e3) rfl (by omega) (fun j hj => absurd hj (by omega)) (fun _ => by rw [q_iI, q_us]; rfl)
        rw [← te1] at c2 c4 c5
        have tr : trw b n p = 0 := by
          unfold trw; rw [if_neg]; intro q; rw [tk1] at q; split at q <;> omega
        refine ⟨μ2, ?_, ⟨c3, c2, ?_, ?_, fun q => c5 (tk_2 q).2.2.2, fun q => ?_⟩, e5.trans (f1.trans c6), fun j hj => ?_⟩
        · have i2 := x9_D1 (μ := μ1) hD
          clear h h1 e5 e6 e7 c2 c3 c4 c5 c6 c7 f1
          simp (disch := first | assumption | omega) only [q_bl, q_baT, q_bi, q_ba, q_pr, q_ob, q_iT, q_iN, q_it, q_if, q_of, nI_add, pk_mul, pk_sub, nI_leI, nI_ltI, nI_eq, nI_clamp, nI_lt0, nI_eqm, m1_eq, true_or, or_true, not_false_eq_true, m1_lt, m1_nlt, m1_le, m1_nle, b01, b011, q_em, q_m1, n_0, n_1, n_2, n_3, n_4, n_5, n_6, n_7, n_8, n_9, n_10, n_11, n_12, n_14, n_15, n_16, n_20, n_24, n_25, n_32, n_36, n_40, n_41, n_42, n_43, n_45, n_46, n_48, n_57, n_59, n_60, n_73, n_76, n_97, n_99, n_100, n_106, n_109, n_120, n_122, n_136, n_160, n_176, n_200, n_255, n_800, n_1000, n_1001, n_1002, n_1003, n_1006, n_1012, n_1018, n_1019, n_1020, n_1100, n_1140, n_4800, n_4920, n_5940, n_6740, n_20220, F_X9_advance, k0, e1, k1, e2, a1, nm, i1, i2, c1]
        · rw [c4, tk1]; split <;> rfl
        · rw [tr, c7 14 (by decide) (by decide) (by decide), q_iI, q_un (by omega)]; exact e4
        · rw [tk1] at q; split at q <;> omega
        · rw [c7 j (by omega) (by omega) (by omega), q_iI, q_un (by omega), e6 j (by omega) (by omega) (by omega)]
      · have te1 : te b n p = ts b n p + 1 := by unfold te; rw [if_neg h0, if_neg hL, if_neg hD]
        have tk1 : tk b n p = if b (ts b n p) = 59 then 3 else 4 := by unfold tk; rw [if_neg h0, if_neg hL, if_neg hD]
        have i2 := x9_D0 (μ := μ1) (by omega) hD
        have tr : trw b n p = 0 := by
          unfold trw; rw [if_neg]; intro q; rw [tk1] at q; split at q <;> omega
        refine ⟨stI (stI μ1 m 12 (nI (te b n p))) m 13 (nI (trc (tk b n p))), ?_, ⟨by rw [q_iI, q_un (by omega), q_iI, q_un (by omega)]; exact e3, by rw [q_iI, q_un (by omega), q_iI, q_us], by rw [q_iI, q_us], by rw [q_iI, q_un (by omega), q_iI, q_un (by omega), tr]; exact e4, fun q => ?_, fun q => ?_⟩, e5.trans ((Fx.stI (P := fun a => a = m) rfl).trans (Fx.stI rfl)), fun j hj => by rw [q_iI, q_un (by omega), q_iI, q_un (by omega), e6 j (by omega) (by omega) (by omega)]⟩
        · rw [te1]
          have n59 : (59 : Int32) = nI 59 := of_eq_true (eq_true rfl)
          clear h h1 e5 e6 e7
          by_cases h9 : b (ts b n p) = 59
          · rw [tk1, if_pos h9]
            rw [h9] at a1 i1 i2 nm
            show _ = some (nI 1, stI (stI μ1 m 12 (nI (ts b n p + 1))) m 13 (nI 4))
            simp (disch := first | assumption | omega) only [q_bl, q_baT, q_bi, q_ba, q_pr, q_ob, q_iT, q_iN, q_it, q_if, q_of, nI_add, pk_mul, pk_sub, nI_leI, nI_ltI, nI_eq, nI_clamp, nI_lt0, nI_eqm, m1_eq, true_or, or_true, not_false_eq_true, m1_lt, m1_nlt, m1_le, m1_nle, b01, b011, q_em, q_m1, n_0, n_1, n_2, n_3, n_4, n_5, n_6, n_7, n_8, n_9, n_10, n_11, n_12, n_14, n_15, n_16, n_20, n_24, n_25, n_32, n_36, n_40, n_41, n_42, n_43, n_45, n_46, n_48, n_57, n_59, n_60, n_73, n_76, n_97, n_99, n_100, n_106, n_109, n_120, n_122, n_136, n_160, n_176, n_200, n_255, n_800, n_1000, n_1001, n_1002, n_1003, n_1006, n_1012, n_1018, n_1019, n_1020, n_1100, n_1140, n_4800, n_4920, n_5940, n_6740, n_20220, F_X9_advance, k0, e1, k1, e2, a1, nm, i1, i2, q_kI]
          · rw [tk1, if_neg h9]
            have hne : ¬ nI (b (ts b n p)) = nI 59 := by rw [nI_eq (by omega) (by decide)]; exact h9
            show _ = some (nI 1, stI (stI μ1 m 12 (nI (ts b n p + 1))) m 13 (nI 1))
            simp (disch := first | assumption | omega) only [q_bl, q_baT, q_bi, q_ba, q_pr, q_ob, q_iT, q_iN, q_it, q_if, q_of, nI_add, pk_mul, pk_sub, nI_leI, nI_ltI, nI_clamp, nI_lt0, nI_eqm, m1_eq, true_or, or_true, not_false_eq_true, m1_lt, m1_nlt, m1_le, m1_nle, b01, b011, q_em, q_m1, n_0, n_1, n_2, n_3, n_4, n_5, n_6, n_7, n_8, n_9, n_10, n_11, n_12, n_14, n_15, n_16, n_20, n_24, n_25, n_32, n_36, n_40, n_41, n_42, n_43, n_45, n_46, n_48, n_57, n_59, n_60, n_73, n_76, n_97, n_99, n_100, n_106, n_109, n_120, n_122, n_136, n_160, n_176, n_200, n_255, n_800, n_1000, n_1001, n_1002, n_1003, n_1006, n_1012, n_1018, n_1019, n_1020, n_1100, n_1140, n_4800, n_4920, n_5940, n_6740, n_20220, F_X9_advance, k0, e1, k1, e2, a1, nm, i1, i2, hne, q_kI]
        · rw [tk1] at q; split at q <;> omega
        · rw [tk1] at q; split at q <;> omega
end RTK

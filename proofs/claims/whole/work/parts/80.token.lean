/-! LAYER 3: the class's reader: tokens -/
/-- what stands while a text is read -/
def CB (μ : Mem) (d : Nat) (b : Nat → Nat) (n : Nat) : Prop :=
  RDS μ d ∧ gI μ d 2 = nI n ∧ TX b n ∧ (∀ k, k < n → gI μ (d + 1) k = nI (b k)) ∧ (∀ k, k < 8 → gI μ (d + 6 + 2 * k) 1 = nI (lms.getD k 0) ∧ isN (gI μ (d + 6 + 2 * k) 2) 0 12) ∧ isN (gI μ (d + 23) 1) 0 40
section CTK
variable {μ μ' : Mem} {d n p : Nat} {b : Nat → Nat}
theorem CB.kd (h : CB μ d b n) : gK μ d = 5 := h.1.1
theorem CB.r0 (h : CB μ d b n) : gR μ d 0 = d + 1 := h.1.2.1
theorem CB.r8 (h : CB μ d b n) : gR μ d 8 = d + 2 := h.1.2.2.1
theorem CB.r9 (h : CB μ d b n) : gR μ d 9 = d + 3 := h.1.2.2.2.1
theorem CB.r10 (h : CB μ d b n) : gR μ d 10 = d + 4 := h.1.2.2.2.2.1
theorem CB.r15 (h : CB μ d b n) : gR μ d 15 = d + 5 := h.1.2.2.2.2.2.1
theorem CB.r16 (h : CB μ d b n) : gR μ d 16 = d + 23 := h.1.2.2.2.2.2.2.1
theorem CB.k1 (h : CB μ d b n) : gK μ (d + 1) = 101 := h.1.2.2.2.2.2.2.2.1
theorem CB.l1 (h : CB μ d b n) : gL μ (d + 1) = 1100 := h.1.2.2.2.2.2.2.2.2.1
theorem CB.k2 (h : CB μ d b n) : gK μ (d + 2) = 102 := h.1.2.2.2.2.2.2.2.2.2.1
theorem CB.l2 (h : CB μ d b n) : gL μ (d + 2) = 20 := h.1.2.2.2.2.2.2.2.2.2.2.1
theorem CB.k3 (h : CB μ d b n) : gK μ (d + 3) = 101 := h.1.2.2.2.2.2.2.2.2.2.2.2.1
theorem CB.l3 (h : CB μ d b n) : gL μ (d + 3) = 20 := h.1.2.2.2.2.2.2.2.2.2.2.2.2.1
theorem CB.k4 (h : CB μ d b n) : gK μ (d + 4) = 101 := h.1.2.2.2.2.2.2.2.2.2.2.2.2.2.1
theorem CB.l4 (h : CB μ d b n) : gL μ (d + 4) = 20 := h.1.2.2.2.2.2.2.2.2.2.2.2.2.2.2.1
theorem CB.sb (h : CB μ d b n) : SB μ (d + 5) := h.1.2.2.2.2.2.2.2.2.2.2.2.2.2.2.2.1
theorem CB.sd (h : CB μ d b n) : SD μ (d + 23) := h.1.2.2.2.2.2.2.2.2.2.2.2.2.2.2.2.2
theorem CB.tx (h : CB μ d b n) : TX b n := h.2.2.1
theorem CB.dd (h : CB μ d b n) (f : Fx (fun a => a = d) μ μ') (e : gI μ' d 2 = gI μ d 2) : CB μ' d b n := by
  obtain ⟨h1, h2, h3, h4, h5, h6⟩ := h
  refine ⟨h1.fx f, e.trans h2, h3, fun k hk => ?_, fun k hk => ?_, ?_⟩
  · rw [f.I (by omega)]; exact h4 k hk
  · rw [f.I (by omega)]; exact h5 k hk
  · rw [f.I (by omega)]; exact h6
theorem x5_L1 {c : Nat} (h : isLt c = true) : F_X5_isLetter (nI c) μ = some (nI 1) := by
  rw [isLt_T] at h
  have n97 : (97 : Int32) = nI 97 := of_eq_true (eq_true rfl)
  have n22 : (122 : Int32) = nI 122 := of_eq_true (eq_true rfl)
  have g1 : ¬ nI c < nI 97 := by rw [nI_ltI (by omega) (by decide)]; omega
  have g2 : ¬ nI 122 < nI c := by rw [nI_ltI (by decide) (by omega)]; omega
  unfold F_X5_isLetter
  rw [n97, n22, if_neg g1, if_neg g2]; rfl
theorem x5_L0 {c : Nat} (hc : c < 1000) (h : ¬ isLt c = true) : F_X5_isLetter (nI c) μ = some (nI 0) := by
  rw [isLt_T] at h
  have n97 : (97 : Int32) = nI 97 := of_eq_true (eq_true rfl)
  have n22 : (122 : Int32) = nI 122 := of_eq_true (eq_true rfl)
  unfold F_X5_isLetter
  rw [n97, n22]
  by_cases g1 : nI c < nI 97
  · rw [if_pos g1]; rfl
  · have g2 : nI 122 < nI c := by rw [nI_ltI (by decide) (by omega)]; rw [nI_ltI (by omega) (by decide)] at g1; omega
    rw [if_neg g1, if_pos g2]; rfl
theorem x5_D1 {c : Nat} (h : isDg c = true) : F_X5_isDigit (nI c) μ = some (nI 1) := by
  rw [isDg_T] at h
  have n97 : (48 : Int32) = nI 48 := of_eq_true (eq_true rfl)
  have n22 : (57 : Int32) = nI 57 := of_eq_true (eq_true rfl)
  have g1 : ¬ nI c < nI 48 := by rw [nI_ltI (by omega) (by decide)]; omega
  have g2 : ¬ nI 57 < nI c := by rw [nI_ltI (by decide) (by omega)]; omega
  unfold F_X5_isDigit
  rw [n97, n22, if_neg g1, if_neg g2]; rfl
theorem x5_D0 {c : Nat} (hc : c < 1000) (h : ¬ isDg c = true) : F_X5_isDigit (nI c) μ = some (nI 0) := by
  rw [isDg_T] at h
  have n97 : (48 : Int32) = nI 48 := of_eq_true (eq_true rfl)
  have n22 : (57 : Int32) = nI 57 := of_eq_true (eq_true rfl)
  unfold F_X5_isDigit
  rw [n97, n22]
  by_cases g1 : nI c < nI 48
  · rw [if_pos g1]; rfl
  · have g2 : nI 57 < nI c := by rw [nI_ltI (by decide) (by omega)]; rw [nI_ltI (by omega) (by decide)] at g1; omega
    rw [if_neg g1, if_pos g2]; rfl
theorem l5_skip : ∀ (q fu p : Nat) (μ : Mem), q < fu → CB μ d b n → gI μ d 3 = nI p → p + q = n → ∃ μ', L_X5_skipBlanks_0 fu d μ = some μ' ∧ gI μ' d 3 = nI (rn isB b q p) ∧ gI μ' d 4 = nI (rn isB b q p) ∧ Fx (fun a => a = d) μ μ' ∧ (∀ j, ¬ j = 3 → ¬ j = 4 → gI μ' d j = gI μ d j) ∧ gJ μ' = gJ μ := by
  intro q
  induction q with
  | zero =>
    intro fu p μ hf h g hp
    obtain ⟨fu, rfl⟩ : ∃ k, fu = k + 1 := ⟨fu - 1, by omega⟩
    have hn := h.tx.1
    refine ⟨stI μ d 4 (nI p), ?_, by rw [q_iI, q_un (by omega)]; exact g, by rw [q_iI, q_us]; rfl, Fx.stI rfl, fun j j3 j4 => by rw [q_iI, q_un (by omega)], rfl⟩
    have k0 := h.kd
    have g2 := h.2.1
    clear h
    simp (disch := first | assumption | omega) only [q_bl, q_baT, q_bi, q_ba, q_pr, q_ob, q_iT, q_iN, q_it, q_if, q_of, nI_add, pk_mul, pk_sub, nI_leI, nI_ltI, nI_eq, nI_clamp, nI_lt0, nI_eqm, m1_eq, true_or, or_true, not_false_eq_true, m1_lt, m1_nlt, m1_le, m1_nle, b01, b011, q_em, q_m1, n_0, n_1, n_2, n_3, n_4, n_5, n_6, n_7, n_8, n_9, n_10, n_11, n_12, n_14, n_15, n_16, n_20, n_24, n_25, n_32, n_36, n_40, n_41, n_42, n_43, n_45, n_46, n_48, n_57, n_59, n_60, n_73, n_76, n_97, n_99, n_100, n_106, n_109, n_120, n_122, n_136, n_160, n_176, n_200, n_255, n_800, n_1000, n_1001, n_1002, n_1003, n_1006, n_1012, n_1018, n_1019, n_1020, n_1100, n_1140, n_4800, n_4920, n_5940, n_6740, n_20220, q_kI, q_lI, q_nI, q_rI, q_iI, q_jI, q_dI, q_kJ, q_lJ, q_nJ, q_rJ, q_iJ, q_jJ, q_dJ, q_kC, q_lC, q_nC, q_rC, q_jC, q_dC, q_kF, q_lF, q_nF, q_rF, q_jF, q_dF, q_us, q_un, q_ua, L_X5_skipBlanks_0, B_X5_skipBlanks_0, B_X5_skipBlanks_52, k0, g, g2]
  | succ q ih =>
    intro fu p μ hf h g hp
    obtain ⟨fu, rfl⟩ : ∃ k, fu = k + 1 := ⟨fu - 1, by omega⟩
    have hn := h.tx.1
    have k0 := h.kd
    have g2 := h.2.1
    have r0 := h.r0
    have k1 := h.k1
    have l1 := h.l1
    have gt := h.2.2.2.1 p (by omega)
    have hb := h.tx.2.1 p (by omega)
    by_cases hB : isB (b p) = true
    · have f1 : Fx (fun a => a = d) μ (stI μ d 3 (nI (p + 1))) := Fx.stI rfl
      obtain ⟨μ', e1, e2, e3, e4, e5, e6⟩ := ih fu (p + 1) _ (by omega) (h.dd f1 (by rw [q_iI, q_un (by omega)])) (by rw [q_iI, q_us]) (by omega)
      rw [rn_s hB]
      refine ⟨μ', ?_, e2, e3, f1.trans e4, fun j j3 j4 => by rw [e5 j j3 j4, q_iI, q_un (by omega)], e6⟩
      rw [isB_T] at hB
      clear h ih e2 e3 e4 e5 e6 f1
      rcases hB with hB | hB
      · simp (disch := first | assumption | omega) only [q_bl, q_baT, q_bi, q_ba, q_pr, q_ob, q_iT, q_iN, q_it, q_if, q_of, nI_add, pk_mul, pk_sub, nI_leI, nI_ltI, nI_eq, nI_clamp, nI_lt0, nI_eqm, m1_eq, true_or, or_true, not_false_eq_true, m1_lt, m1_nlt, m1_le, m1_nle, b01, b011, q_em, q_m1, n_0, n_1, n_2, n_3, n_4, n_5, n_6, n_7, n_8, n_9, n_10, n_11, n_12, n_14, n_15, n_16, n_20, n_24, n_25, n_32, n_36, n_40, n_41, n_42, n_43, n_45, n_46, n_48, n_57, n_59, n_60, n_73, n_76, n_97, n_99, n_100, n_106, n_109, n_120, n_122, n_136, n_160, n_176, n_200, n_255, n_800, n_1000, n_1001, n_1002, n_1003, n_1006, n_1012, n_1018, n_1019, n_1020, n_1100, n_1140, n_4800, n_4920, n_5940, n_6740, n_20220, q_kI, q_lI, q_nI, q_rI, q_iI, q_jI, q_dI, q_kJ, q_lJ, q_nJ, q_rJ, q_iJ, q_jJ, q_dJ, q_kC, q_lC, q_nC, q_rC, q_jC, q_dC, q_kF, q_lF, q_nF, q_rF, q_jF, q_dF, q_us, q_un, q_ua, L_X5_skipBlanks_0, B_X5_skipBlanks_0, B_X5_skipBlanks_39, k0, g, g2, r0, k1, l1, gt, hB, e1]
      · simp (disch := first | assumption | omega) only [q_bl, q_baT, q_bi, q_ba, q_pr, q_ob, q_iT, q_iN, q_it, q_if, q_of, nI_add, pk_mul, pk_sub, nI_leI, nI_ltI, nI_eq, nI_clamp, nI_lt0, nI_eqm, m1_eq, true_or, or_true, not_false_eq_true, m1_lt, m1_nlt, m1_le, m1_nle, b01, b011, q_em, q_m1, n_0, n_1, n_2, n_3, n_4, n_5, n_6, n_7, n_8, n_9, n_10, n_11, n_12, n_14, n_15, n_16, n_20, n_24, n_25, n_32, n_36, n_40, n_41, n_42, n_43, n_45, n_46, n_48, n_57, n_59, n_60, n_73, n_76, n_97, n_99, n_100, n_106, n_109, n_120, n_122, n_136, n_160, n_176, n_200, n_255, n_800, n_1000, n_1001, n_1002, n_1003, n_1006, n_1012, n_1018, n_1019, n_1020, n_1100, n_1140, n_4800, n_4920, n_5940, n_6740, n_20220, q_kI, q_lI, q_nI, q_rI, q_iI, q_jI, q_dI, q_kJ, q_lJ, q_nJ, q_rJ, q_iJ, q_jJ, q_dJ, q_kC, q_lC, q_nC, q_rC, q_jC, q_dC, q_kF, q_lF, q_nF, q_rF, q_jF, q_dF, q_us, q_un, q_ua, L_X5_skipBlanks_0, B_X5_skipBlanks_0, B_X5_skipBlanks_39, k0, g, g2, r0, k1, l1, gt, hB, e1]
    · rw [rn_n hB]
      refine ⟨stI μ d 4 (nI p), ?_, by rw [q_iI, q_un (by omega)]; exact g, by rw [q_iI, q_us], Fx.stI rfl, fun j j3 j4 => by rw [q_iI, q_un (by omega)], rfl⟩
      rw [isB_T] at hB
      clear h ih
      simp (disch := first | assumption | omega) only [q_bl, q_baT, q_bi, q_ba, q_pr, q_ob, q_iT, q_iN, q_it, q_if, q_of, nI_add, pk_mul, pk_sub, nI_leI, nI_ltI, nI_eq, nI_clamp, nI_lt0, nI_eqm, m1_eq, true_or, or_true, not_false_eq_true, m1_lt, m1_nlt, m1_le, m1_nle, b01, b011, q_em, q_m1, n_0, n_1, n_2, n_3, n_4, n_5, n_6, n_7, n_8, n_9, n_10, n_11, n_12, n_14, n_15, n_16, n_20, n_24, n_25, n_32, n_36, n_40, n_41, n_42, n_43, n_45, n_46, n_48, n_57, n_59, n_60, n_73, n_76, n_97, n_99, n_100, n_106, n_109, n_120, n_122, n_136, n_160, n_176, n_200, n_255, n_800, n_1000, n_1001, n_1002, n_1003, n_1006, n_1012, n_1018, n_1019, n_1020, n_1100, n_1140, n_4800, n_4920, n_5940, n_6740, n_20220, q_kI, q_lI, q_nI, q_rI, q_iI, q_jI, q_dI, q_kJ, q_lJ, q_nJ, q_rJ, q_iJ, q_jJ, q_dJ, q_kC, q_lC, q_nC, q_rC, q_jC, q_dC, q_kF, q_lF, q_nF, q_rF, q_jF, q_dF, q_us, q_un, q_ua, L_X5_skipBlanks_0, B_X5_skipBlanks_0, B_X5_skipBlanks_52, k0, g, g2, r0, k1, l1, gt]
theorem x5_skip (h : CB μ d b n) (g : gI μ d 3 = nI p) (hp : p ≤ n) : ∃ μ', F_X5_skipBlanks d μ = some μ' ∧ gI μ' d 3 = nI (ts b n p) ∧ gI μ' d 4 = nI (ts b n p) ∧ Fx (fun a => a = d) μ μ' ∧ (∀ j, ¬ j = 3 → ¬ j = 4 → gI μ' d j = gI μ d j) ∧ gJ μ' = gJ μ :=
  l5_skip (n - p) FU p μ (FU_gt (by have := h.tx.1; omega)) h g (by omega)
/-- one letter more in a key -/
theorem sh8 {K c : Nat} (hK : K < 2 ^ 55) (hc : c < 256) : (lN K <<< ((8 : Int32).toInt64 &&& 63)) ||| (nI c).toInt64 = lN (K * 256 + c) := by
  have e8 : ((8 : Int32).toInt64 &&& 63) = (8 : Int64) := by decide +kernel
  rw [e8, nI_l (by omega)]
  apply Int64.toBitVec_inj.mp
  apply BitVec.eq_of_toNat_eq
  have a1 : (lN K <<< (8 : Int64)).toBitVec.toNat = K * 256 := by
    have e1 : ((8 : Int64).toBitVec.smod 64).toNat = 8 := by decide +kernel
    show (BitVec.ofNat 64 K <<< ((8 : Int64).toBitVec.smod 64).toNat).toNat = _
    rw [e1, BitVec.toNat_shiftLeft, Nat.shiftLeft_eq, BitVec.toNat_ofNat]
    omega
  have a2 : (lN c).toBitVec.toNat = c := by show (BitVec.ofNat 64 c).toNat = _; rw [BitVec.toNat_ofNat]; omega
  have a3 : (lN (K * 256 + c)).toBitVec.toNat = K * 256 + c := by show (BitVec.ofNat 64 (K * 256 + c)).toNat = _; rw [BitVec.toNat_ofNat]; omega
  have a4 : ((lN K <<< (8 : Int64)) ||| lN c).toBitVec = (lN K <<< (8 : Int64)).toBitVec ||| (lN c).toBitVec := Int64.toBitVec_or _ _
  rw [a4, BitVec.toNat_or, a1, a2, a3]
  have := Nat.shiftLeft_add_eq_or_of_lt (b := c) (i := 8) (by omega) K
  rw [Nat.shiftLeft_eq] at this
  exact this.symm
theorem l5_word : ∀ (q fu k p s : Nat) (μ : Mem), q < fu → CB μ d b n → gI μ d 3 = nI p → gI μ d 4 = nI s → s + k = p → p + q = n → (∀ j, j < k → isLt (b (s + j)) = true) → (k ≤ 8 → gJ μ d 7 = lN (kk (wl b s k))) →
    ∃ μ', L_X5_scanWord_5 fu d μ = some μ' ∧ gI μ' d 3 = nI (rn isLt b q p) ∧ gI μ' d 5 = nI (if rn isLt b q p - s ≤ 8 then 1 else 4) ∧ (rn isLt b q p - s ≤ 8 → gJ μ' d 7 = lN (kk (wl b s (rn isLt b q p - s)))) ∧ Fx (fun a => a = d) μ μ' ∧ ∀ j, ¬ j = 3 → ¬ j = 5 → gI μ' d j = gI μ d j := by
  intro q
  have fin : ∀ (fu k p s q : Nat) (μ : Mem), CB μ d b n → gI μ d 3 = nI p → gI μ d 4 = nI s → s + k = p → p + q = n → (k ≤ 8 → gJ μ d 7 = lN (kk (wl b s k))) → (L_X5_scanWord_5 (fu + 1) d μ = B_X5_scanWord_66 d μ) →
      ∃ μ', L_X5_scanWord_5 (fu + 1) d μ = some μ' ∧ gI μ' d 3 = nI p ∧ gI μ' d 5 = nI (if p - s ≤ 8 then 1 else 4) ∧ (p - s ≤ 8 → gJ μ' d 7 = lN (kk (wl b s (p - s)))) ∧ Fx (fun a => a = d) μ μ' ∧ ∀ j, ¬ j = 3 → ¬ j = 5 → gI μ' d j = gI μ d j := by
    intro fu k p s q μ h g gs hk hp hK e
    have hn := h.tx.1
    have k0 := h.kd
    have hks : p - s = k := by omega
    refine ⟨stI μ d 5 (nI (if p - s ≤ 8 then 1 else 4)), ?_, by rw [q_iI, q_un (by omega)]; exact g, by rw [q_iI, q_us], fun h8 => by rw [q_jI, hks]; exact hK (by omega), Fx.stI rfl, fun j j3 j5 => by rw [q_iI, q_un (by omega)]⟩
    rw [e]
    clear h e hK
    by_cases h8 : p - s ≤ 8
    · have : ¬ nI 8 < nI (p - s) := by rw [nI_ltI (by decide) (by omega)]; omega
      simp (disch := first | assumption | omega) only [q_bl, q_baT, q_bi, q_ba, q_pr, q_ob, q_iT, q_iN, q_it, q_if, q_of, nI_add, pk_mul, pk_sub, nI_leI, nI_ltI, nI_eq, nI_clamp, nI_lt0, nI_eqm, m1_eq, true_or, or_true, not_false_eq_true, m1_lt, m1_nlt, m1_le, m1_nle, b01, b011, q_em, q_m1, n_0, n_1, n_2, n_3, n_4, n_5, n_6, n_7, n_8, n_9, n_10, n_11, n_12, n_14, n_15, n_16, n_20, n_24, n_25, n_32, n_36, n_40, n_41, n_42, n_43, n_45, n_46, n_48, n_57, n_59, n_60, n_73, n_76, n_97, n_99, n_100, n_106, n_109, n_120, n_122, n_136, n_160, n_176, n_200, n_255, n_800, n_1000, n_1001, n_1002, n_1003, n_1006, n_1012, n_1018, n_1019, n_1020, n_1100, n_1140, n_4800, n_4920, n_5940, n_6740, n_20220, q_kI, q_lI, q_nI, q_rI, q_iI, q_jI, q_dI, q_kJ, q_lJ, q_nJ, q_rJ, q_iJ, q_jJ, q_dJ, q_kC, q_lC, q_nC, q_rC, q_jC, q_dC, q_kF, q_lF, q_nF, q_rF, q_jF, q_dF, q_us, q_un, q_ua, B_X5_scanWord_66, k0, g, gs, h8, this]
    · have : nI 8 < nI (p - s) := by rw [nI_ltI (by decide) (by omega)]; omega
      simp (disch := first | assumption | omega) only [q_bl, q_baT, q_bi, q_ba, q_pr, q_ob, q_iT, q_iN, q_it, q_if, q_of, nI_add, pk_mul, pk_sub, nI_leI, nI_ltI, nI_eq, nI_clamp, nI_lt0, nI_eqm, m1_eq, true_or, or_true, not_false_eq_true, m1_lt, m1_nlt, m1_le, m1_nle, b01, b011, q_em, q_m1, n_0, n_1, n_2, n_3, n_4, n_5, n_6, n_7, n_8, n_9, n_10, n_11, n_12, n_14, n_15, n_16, n_20, n_24, n_25, n_32, n_36, n_40, n_41, n_42, n_43, n_45, n_46, n_48, n_57, n_59, n_60, n_73, n_76, n_97, n_99, n_100, n_106, n_109, n_120, n_122, n_136, n_160, n_176, n_200, n_255, n_800, n_1000, n_1001, n_1002, n_1003, n_1006, n_1012, n_1018, n_1019, n_1020, n_1100, n_1140, n_4800, n_4920, n_5940, n_6740, n_20220, q_kI, q_lI, q_nI, q_rI, q_iI, q_jI, q_dI, q_kJ, q_lJ, q_nJ, q_rJ, q_iJ, q_jJ, q_dJ, q_kC, q_lC, q_nC, q_rC, q_jC, q_dC, q_kF, q_lF, q_nF, q_rF, q_jF, q_dF, q_us, q_un, q_ua, B_X5_scanWord_66, k0, g, gs, h8, this]
  induction q with
  | zero =>
    intro fu k p s μ hf h g gs hk hp hl hK
    obtain ⟨fu, rfl⟩ : ∃ k, fu = k + 1 := ⟨fu - 1, by omega⟩
    refine fin fu k p s 0 μ h g gs hk hp hK ?_
    have hn := h.tx.1
    have k0 := h.kd
    have g2 := h.2.1
    clear h hK fin
    simp (disch := first | assumption | omega) only [q_bl, q_baT, q_bi, q_ba, q_pr, q_ob, q_iT, q_iN, q_it, q_if, q_of, nI_add, pk_mul, pk_sub, nI_leI, nI_ltI, nI_eq, nI_clamp, nI_lt0, nI_eqm, m1_eq, true_or, or_true, not_false_eq_true, m1_lt, m1_nlt, m1_le, m1_nle, b01, b011, q_em, q_m1, n_0, n_1, n_2, n_3, n_4, n_5, n_6, n_7, n_8, n_9, n_10, n_11, n_12, n_14, n_15, n_16, n_20, n_24, n_25, n_32, n_36, n_40, n_41, n_42, n_43, n_45, n_46, n_48, n_57, n_59, n_60, n_73, n_76, n_97, n_99, n_100, n_106, n_109, n_120, n_122, n_136, n_160, n_176, n_200, n_255, n_800, n_1000, n_1001, n_1002, n_1003, n_1006, n_1012, n_1018, n_1019, n_1020, n_1100, n_1140, n_4800, n_4920, n_5940, n_6740, n_20220, q_kI, q_lI, q_nI, q_rI, q_iI, q_jI, q_dI, q_kJ, q_lJ, q_nJ, q_rJ, q_iJ, q_jJ, q_dJ, q_kC, q_lC, q_nC, q_rC, q_jC, q_dC, q_kF, q_lF, q_nF, q_rF, q_jF, q_dF, q_us, q_un, q_ua, L_X5_scanWord_5, B_X5_scanWord_5, k0, g, g2]
  | succ q ih =>
    intro fu k p s μ hf h g gs hk hp hl hK
    obtain ⟨fu, rfl⟩ : ∃ k, fu = k + 1 := ⟨fu - 1, by omega⟩
    have hn := h.tx.1
    have k0 := h.kd
    have g2 := h.2.1
    have r0 := h.r0
    have k1 := h.k1
    have l1 := h.l1
    have gt := h.2.2.2.1 p (by omega)
    have hb := h.tx.2.1 p (by omega)
    by_cases hB : isLt (b p) = true
    · have f1 : Fx (fun a => a = d) μ (stI (stJ μ d 7 ((gJ μ d 7 <<< ((8 : Int32).toInt64 &&& 63)) ||| (nI (b p)).toInt64)) d 3 (nI (p + 1))) := (Fx.stJ (P := fun a => a = d) rfl).trans (Fx.stI rfl)
      obtain ⟨μ', e1, e2, e3, e4, e5, e6⟩ := ih fu (k + 1) (p + 1) s _ (by omega) (h.dd f1 (by rw [q_iI, q_un (by omega)]; rfl)) (by rw [q_iI, q_us]) (by rw [q_iI, q_un (by omega)]; exact gs) (by omega) (by omega) (fun j hj => by
        by_cases hjk : j = k
        · subst hjk; rw [hk]; exact hB
        · exact hl j (by omega)) (fun h8 => by
        rw [q_jI, q_jJ, q_us, hK (by omega)]
        have hkk := (kk_lt (wl b s k) (fun c hc => by obtain ⟨j, hj, rfl⟩ := wl_mem _ _ hc; have := hl j hj; rw [isLt_T] at this; exact this)).1
        rw [wl_len] at hkk
        have := sh8 (K := kk (wl b s k)) (c := b p) (by
          by_cases h0 : k = 7
          · subst h0
            have := (kk_lt (wl b s 7) (fun c hc => by obtain ⟨j, hj, rfl⟩ := wl_mem _ _ hc; have := hl j hj; rw [isLt_T] at this; exact this)).2 (by rw [wl_len]; decide)
            rw [wl_len] at this; exact this
          · exact Nat.lt_of_lt_of_le hkk (pow_up (by decide) (by omega))) hb
        rw [this, ← hk]; rfl)
      rw [rn_s hB]
      refine ⟨μ', ?_, e2, e3, e4, f1.trans e5, fun j j3 j5 => by rw [e6 j j3 j5, q_iI, q_un (by omega)]; rfl⟩
      have i1 := x5_L1 (μ := μ) hB
      rw [n_8] at e1
      clear h ih e2 e3 e4 e5 e6 f1 hK hl fin
      simp (disch := first | assumption | omega) only [q_bl, q_baT, q_bi, q_ba, q_pr, q_ob, q_iT, q_iN, q_it, q_if, q_of, nI_add, pk_mul, pk_sub, nI_leI, nI_ltI, nI_eq, nI_clamp, nI_lt0, nI_eqm, m1_eq, true_or, or_true, not_false_eq_true, m1_lt, m1_nlt, m1_le, m1_nle, b01, b011, q_em, q_m1, n_0, n_1, n_2, n_3, n_4, n_5, n_6, n_7, n_8, n_9, n_10, n_11, n_12, n_14, n_15, n_16, n_20, n_24, n_25, n_32, n_36, n_40, n_41, n_42, n_43, n_45, n_46, n_48, n_57, n_59, n_60, n_73, n_76, n_97, n_99, n_100, n_106, n_109, n_120, n_122, n_136, n_160, n_176, n_200, n_255, n_800, n_1000, n_1001, n_1002, n_1003, n_1006, n_1012, n_1018, n_1019, n_1020, n_1100, n_1140, n_4800, n_4920, n_5940, n_6740, n_20220, q_kI, q_lI, q_nI, q_rI, q_iI, q_jI, q_dI, q_kJ, q_lJ, q_nJ, q_rJ, q_iJ, q_jJ, q_dJ, q_kC, q_lC, q_nC, q_rC, q_jC, q_dC, q_kF, q_lF, q_nF, q_rF, q_jF, q_dF, q_us, q_un, q_ua, L_X5_scanWord_5, B_X5_scanWord_5, k0, g, g2, r0, k1, l1, gt, i1, e1]
    · rw [rn_n hB]
      refine fin fu k p s (q + 1) μ h g gs hk hp hK ?_
      have i1 := x5_L0 (μ := μ) (by omega) hB
      clear h ih hK hl fin
      simp (disch := first | assumption | omega) only [q_bl, q_baT, q_bi, q_ba, q_pr, q_ob, q_iT, q_iN, q_it, q_if, q_of, nI_add, pk_mul, pk_sub, nI_leI, nI_ltI, nI_eq, nI_clamp, nI_lt0, nI_eqm, m1_eq, true_or, or_true, not_false_eq_true, m1_lt, m1_nlt, m1_le, m1_nle, b01, b011, q_em, q_m1, n_0, n_1, n_2, n_3, n_4, n_5, n_6, n_7, n_8, n_9, n_10, n_11, n_12, n_14, n_15, n_16, n_20, n_24, n_25, n_32, n_36, n_40, n_41, n_42, n_43, n_45, n_46, n_48, n_57, n_59, n_60, n_73, n_76, n_97, n_99, n_100, n_106, n_109, n_120, n_122, n_136, n_160, n_176, n_200, n_255, n_800, n_1000, n_1001, n_1002, n_1003, n_1006, n_1012, n_1018, n_1019, n_1020, n_1100, n_1140, n_4800, n_4920, n_5940, n_6740, n_20220, q_kI, q_lI, q_nI, q_rI, q_iI, q_jI, q_dI, q_kJ, q_lJ, q_nJ, q_rJ, q_iJ, q_jJ, q_dJ, q_kC, q_lC, q_nC, q_rC, q_jC, q_dC, q_kF, q_lF, q_nF, q_rF, q_jF, q_dF, q_us, q_un, q_ua, L_X5_scanWord_5, B_X5_scanWord_5, k0, g, g2, r0, k1, l1, gt, i1]
theorem l5_num : ∀ (q fu k p s : Nat) (μ : Mem), q < fu → CB μ d b n → gI μ d 3 = nI p → gI μ d 4 = nI s → s + k = p → p + q = n → (∀ j, j < k → isDg (b (s + j)) = true) → (k ≤ 2 → gI μ d 6 = nI (nv b s k)) →
    ∃ μ', L_X5_scanNumber_5 fu d μ = some μ' ∧ gI μ' d 3 = nI (rn isDg b q p) ∧ gI μ' d 5 = nI (if rn isDg b q p - s ≤ 2 then 2 else 4) ∧ (rn isDg b q p - s ≤ 2 → gI μ' d 6 = nI (nv b s (rn isDg b q p - s))) ∧ Fx (fun a => a = d) μ μ' ∧ ∀ j, ¬ j = 3 → ¬ j = 5 → ¬ j = 6 → gI μ' d j = gI μ d j := by
  intro q
  have fin : ∀ (fu k p s q : Nat) (μ : Mem), CB μ d b n → gI μ d 3 = nI p → gI μ d 4 = nI s → s + k = p → p + q = n → (k ≤ 2 → gI μ d 6 = nI (nv b s k)) → (L_X5_scanNumber_5 (fu + 1) d μ = B_X5_scanNumber_68 d μ) →
      ∃ μ', L_X5_scanNumber_5 (fu + 1) d μ = some μ' ∧ gI μ' d 3 = nI p ∧ gI μ' d 5 = nI (if p - s ≤ 2 then 2 else 4) ∧ (p - s ≤ 2 → gI μ' d 6 = nI (nv b s (p - s))) ∧ Fx (fun a => a = d) μ μ' ∧ ∀ j, ¬ j = 3 → ¬ j = 5 → ¬ j = 6 → gI μ' d j = gI μ d j := by
    intro fu k p s q μ h g gs hk hp hK e
    have hn := h.tx.1
    have k0 := h.kd
    have hks : p - s = k := by omega
    refine ⟨stI μ d 5 (nI (if p - s ≤ 2 then 2 else 4)), ?_, by rw [q_iI, q_un (by omega)]; exact g, by rw [q_iI, q_us], fun h8 => by rw [q_iI, q_un (by omega), hks]; exact hK (by omega), Fx.stI rfl, fun j j3 j5 _ => by rw [q_iI, q_un (by omega)]⟩
    rw [e]
    clear h e hK
    by_cases h8 : p - s ≤ 2
    · have : ¬ nI 2 < nI (p - s) := by rw [nI_ltI (by decide) (by omega)]; omega
      simp (disch := first | assumption | omega) only [q_bl, q_baT, q_bi, q_ba, q_pr, q_ob, q_iT, q_iN, q_it, q_if, q_of, nI_add, pk_mul, pk_sub, nI_leI, nI_ltI, nI_eq, nI_clamp, nI_lt0, nI_eqm, m1_eq, true_or, or_true, not_false_eq_true, m1_lt, m1_nlt, m1_le, m1_nle, b01, b011, q_em, q_m1, n_0, n_1, n_2, n_3, n_4, n_5, n_6, n_7, n_8, n_9, n_10, n_11, n_12, n_14, n_15, n_16, n_20, n_24, n_25, n_32, n_36, n_40, n_41, n_42, n_43, n_45, n_46, n_48, n_57, n_59, n_60, n_73, n_76, n_97, n_99, n_100, n_106, n_109, n_120, n_122, n_136, n_160, n_176, n_200, n_255, n_800, n_1000, n_1001, n_1002, n_1003, n_1006, n_1012, n_1018, n_1019, n_1020, n_1100, n_1140, n_4800, n_4920, n_5940, n_6740, n_20220, q_kI, q_lI, q_nI, q_rI, q_iI, q_jI, q_dI, q_kJ, q_lJ, q_nJ, q_rJ, q_iJ, q_jJ, q_dJ, q_kC, q_lC, q_nC, q_rC, q_jC, q_dC, q_kF, q_lF, q_nF, q_rF, q_jF, q_dF, q_us, q_un, q_ua, B_X5_scanNumber_68, k0, g, gs, h8, this]
    · have : nI 2 < nI (p - s) := by rw [nI_ltI (by decide) (by omega)]; omega
      simp (disch := first | assumption | omega) only [q_bl, q_baT, q_bi, q_ba, q_pr, q_ob, q_iT, q_iN, q_it, q_if, q_of, nI_add, pk_mul, pk_sub, nI_leI, nI_ltI, nI_eq, nI_clamp, nI_lt0, nI_eqm, m1_eq, true_or, or_true, not_false_eq_true, m1_lt, m1_nlt, m1_le, m1_nle, b01, b011, q_em, q_m1, n_0, n_1, n_2, n_3, n_4, n_5, n_6, n_7, n_8, n_9, n_10, n_11, n_12, n_14, n_15, n_16, n_20, n_24, n_25, n_32, n_36, n_40, n_41, n_42, n_43, n_45, n_46, n_48, n_57, n_59, n_60, n_73, n_76, n_97, n_99, n_100, n_106, n_109, n_120, n_122, n_136, n_160, n_176, n_200, n_255, n_800, n_1000, n_1001, n_1002, n_1003, n_1006, n_1012, n_1018, n_1019, n_1020, n_1100, n_1140, n_4800, n_4920, n_5940, n_6740, n_20220, q_kI, q_lI, q_nI, q_rI, q_iI, q_jI, q_dI, q_kJ, q_lJ, q_nJ, q_rJ, q_iJ, q_jJ, q_dJ, q_kC, q_lC, q_nC, q_rC, q_jC, q_dC, q_kF, q_lF, q_nF, q_rF, q_jF, q_dF, q_us, q_un, q_ua, B_X5_scanNumber_68, k0, g, gs, h8, this]
  induction q with
  | zero =>
    intro fu k p s μ hf h g gs hk hp hl hK
    obtain ⟨fu, rfl⟩ : ∃ k, fu = k + 1 := ⟨fu - 1, by omega⟩
    refine fin fu k p s 0 μ h g gs hk hp hK ?_
    have hn := h.tx.1
    have k0 := h.kd
    have g2 := h.2.1
    clear h hK fin
    simp (disch := first | assumption | omega) only [q_bl, q_baT, q_bi, q_ba, q_pr, q_ob, q_iT, q_iN, q_it, q_if, q_of, nI_add, pk_mul, pk_sub, nI_leI, nI_ltI, nI_eq, nI_clamp, nI_lt0, nI_eqm, m1_eq, true_or, or_true, not_false_eq_true, m1_lt, m1_nlt, m1_le, m1_nle, b01, b011, q_em, q_m1, n_0, n_1, n_2, n_3, n_4, n_5, n_6, n_7, n_8, n_9, n_10, n_11, n_12, n_14, n_15, n_16, n_20, n_24, n_25, n_32, n_36, n_40, n_41, n_42, n_43, n_45, n_46, n_48, n_57, n_59, n_60, n_73, n_76, n_97, n_99, n_100, n_106, n_109, n_120, n_122, n_136, n_160, n_176, n_200, n_255, n_800, n_1000, n_1001, n_1002, n_1003, n_1006, n_1012, n_1018, n_1019, n_1020, n_1100, n_1140, n_4800, n_4920, n_5940, n_6740, n_20220, q_kI, q_lI, q_nI, q_rI, q_iI, q_jI, q_dI, q_kJ, q_lJ, q_nJ, q_rJ, q_iJ, q_jJ, q_dJ, q_kC, q_lC, q_nC, q_rC, q_jC, q_dC, q_kF, q_lF, q_nF, q_rF, q_jF, q_dF, q_us, q_un, q_ua, L_X5_scanNumber_5, B_X5_scanNumber_5, k0, g, g2]
  | succ q ih =>
    intro fu k p s μ hf h g gs hk hp hl hK
    obtain ⟨fu, rfl⟩ : ∃ k, fu = k + 1 := ⟨fu - 1, by omega⟩
    have hn := h.tx.1
    have k0 := h.kd
    have g2 := h.2.1
    have r0 := h.r0
    have k1 := h.k1
    have l1 := h.l1
    have gt := h.2.2.2.1 p (by omega)
    have hb := h.tx.2.1 p (by omega)
    by_cases hB : isDg (b p) = true
    · have f1 : Fx (fun a => a = d) μ (stI (stI μ d 6 (gI μ d 6 * nI 10 + nI (b p) - nI 48)) d 3 (nI (p + 1))) := (Fx.stI (P := fun a => a = d) rfl).trans (Fx.stI rfl)
      obtain ⟨μ', e1, e2, e3, e4, e5, e6⟩ := ih fu (k + 1) (p + 1) s _ (by omega) (h.dd f1 (by rw [q_iI, q_un (by omega), q_iI, q_un (by omega)])) (by rw [q_iI, q_us]) (by rw [q_iI, q_un (by omega), q_iI, q_un (by omega)]; exact gs) (by omega) (by omega) (fun j hj => by
        by_cases hjk : j = k
        · subst hjk; rw [hk]; exact hB
        · exact hl j (by omega)) (fun h8 => by
        rw [q_iI, q_un (by omega), q_iI, q_us, hK (by omega), pk_mul, nI_add]
        have hd := hB
        rw [isDg_T] at hd
        rw [pk_sub (by omega)]
        show _ = nI (nv b s k * 10 + (b (s + k) - 48))
        rw [hk]; congr 1; omega)
      rw [rn_s hB]
      refine ⟨μ', ?_, e2, e3, e4, f1.trans e5, fun j j3 j5 j6 => by rw [e6 j j3 j5 j6, q_iI, q_un (by omega), q_iI, q_un (by omega)]⟩
      have i1 := x5_D1 (μ := μ) hB
      have n48 : (48 : Int32) = nI 48 := of_eq_true (eq_true rfl)
      clear h ih e2 e3 e4 e5 e6 f1 hK hl fin
      simp (disch := first | assumption | omega) only [q_bl, q_baT, q_bi, q_ba, q_pr, q_ob, q_iT, q_iN, q_it, q_if, q_of, nI_add, pk_mul, nI_leI, nI_ltI, nI_eq, nI_clamp, nI_lt0, nI_eqm, m1_eq, true_or, or_true, not_false_eq_true, m1_lt, m1_nlt, m1_le, m1_nle, b01, b011, q_em, q_m1, n_0, n_1, n_2, n_3, n_4, n_5, n_6, n_7, n_8, n_9, n_10, n_11, n_12, n_14, n_15, n_16, n_20, n_24, n_25, n_32, n_36, n_40, n_41, n_42, n_43, n_45, n_46, n_48, n_57, n_59, n_60, n_73, n_76, n_97, n_99, n_100, n_106, n_109, n_120, n_122, n_136, n_160, n_176, n_200, n_255, n_800, n_1000, n_1001, n_1002, n_1003, n_1006, n_1012, n_1018, n_1019, n_1020, n_1100, n_1140, n_4800, n_4920, n_5940, n_6740, n_20220, q_kI, q_lI, q_nI, q_rI, q_iI, q_jI, q_dI, q_kJ, q_lJ, q_nJ, q_rJ, q_iJ, q_jJ, q_dJ, q_kC, q_lC, q_nC, q_rC, q_jC, q_dC, q_kF, q_lF, q_nF, q_rF, q_jF, q_dF, q_us, q_un, q_ua, L_X5_scanNumber_5, B_X5_scanNumber_5, k0, g, g2, r0, k1, l1, gt, i1, e1]
    · rw [rn_n hB]
      refine fin fu k p s (q + 1) μ h g gs hk hp hK ?_
      have i1 := x5_D0 (μ := μ) (by omega) hB
      clear h ih hK hl fin
      simp (disch := first | assumption | omega) only [q_bl, q_baT, q_bi, q_ba, q_pr, q_ob, q_iT, q_iN, q_it, q_if, q_of, nI_add, pk_mul, pk_sub, nI_leI, nI_ltI, nI_eq, nI_clamp, nI_lt0, nI_eqm, m1_eq, true_or, or_true, not_false_eq_true, m1_lt, m1_nlt, m1_le, m1_nle, b01, b011, q_em, q_m1, n_0, n_1, n_2, n_3, n_4, n_5, n_6, n_7, n_8, n_9, n_10, n_11, n_12, n_14, n_15, n_16, n_20, n_24, n_25, n_32, n_36, n_40, n_41, n_42, n_43, n_45, n_46, n_48, n_57, n_59, n_60, n_73, n_76, n_97, n_99, n_100, n_106, n_109, n_120, n_122, n_136, n_160, n_176, n_200, n_255, n_800, n_1000, n_1001, n_1002, n_1003, n_1006, n_1012, n_1018, n_1019, n_1020, n_1100, n_1140, n_4800, n_4920, n_5940, n_6740, n_20220, q_kI, q_lI, q_nI, q_rI, q_iI, q_jI, q_dI, q_kJ, q_lJ, q_nJ, q_rJ, q_iJ, q_jJ, q_dJ, q_kC, q_lC, q_nC, q_rC, q_jC, q_dC, q_kF, q_lF, q_nF, q_rF, q_jF, q_dF, q_us, q_un, q_ua, L_X5_scanNumber_5, B_X5_scanNumber_5, k0, g, g2, r0, k1, l1, gt, i1]
/-- the next token -/
def NT (μ μ' : Mem) (d : Nat) (b : Nat → Nat) (n p : Nat) : Prop :=
  gI μ' d 3 = nI (te b n p) ∧ gI μ' d 4 = nI (ts b n p) ∧ gI μ' d 5 = nI (tk b n p) ∧ (tk b n p = 2 → gI μ' d 6 = nI (tv b n p)) ∧ (tk b n p = 1 → gJ μ' d 7 = lN (kk (tw b n p))) ∧ Fx (fun a => a = d) μ μ' ∧ ∀ j, j < 3 ∨ 7 ≤ j → gI μ' d j = gI μ d j
theorem x5_next (h : CB μ d b n) (g : gI μ d 3 = nI p) (hp : p ≤ n) : ∃ μ', F_X5_nextToken d μ = some μ' ∧ NT μ μ' d b n p := by
  obtain ⟨μ1, e1, e2, e3, e4, e5, e6⟩ := x5_skip h g hp
  have h1 := h.dd e4 (e5 2 (by decide) (by decide))
  have hn := h.tx.1
  have hs := ts_le (b := b) hp
  have k0 := h.kd
  have k1 := h1.kd
  have g2 := h1.2.1
  by_cases h0 : n ≤ ts b n p
  · have t0 : tk b n p = 0 := by rw [tk_0]; exact h0
    have t1 : te b n p = ts b n p := by unfold te; rw [if_pos h0]
    refine ⟨stI μ1 d 5 (nI 0), ?_, by rw [q_iI, q_un (by omega), t1]; exact e2, by rw [q_iI, q_un (by omega)]; exact e3, by rw [q_iI, q_us, t0], fun q => by omega, fun q => by omega, e4.trans (Fx.stI rfl), fun j hj => by rw [q_iI, q_un (by omega), e5 j (by omega) (by omega)]⟩
    clear h h1 e3 e4 e5 e6
    simp (disch := first | assumption | omega) only [q_bl, q_baT, q_bi, q_ba, q_pr, q_ob, q_iT, q_iN, q_it, q_if, q_of, nI_add, pk_mul, pk_sub, nI_leI, nI_ltI, nI_eq, nI_clamp, nI_lt0, nI_eqm, m1_eq, true_or, or_true, not_false_eq_true, m1_lt, m1_nlt, m1_le, m1_nle, b01, b011, q_em, q_m1, n_0, n_1, n_2, n_3, n_4, n_5, n_6, n_7, n_8, n_9, n_10, n_11, n_12, n_14, n_15, n_16, n_20, n_24, n_25, n_32, n_36, n_40, n_41, n_42, n_43, n_45, n_46, n_48, n_57, n_59, n_60, n_73, n_76, n_97, n_99, n_100, n_106, n_109, n_120, n_122, n_136, n_160, n_176, n_200, n_255, n_800, n_1000, n_1001, n_1002, n_1003, n_1006, n_1012, n_1018, n_1019, n_1020, n_1100, n_1140, n_4800, n_4920, n_5940, n_6740, n_20220, q_kI, q_lI, q_nI, q_rI, q_iI, q_jI, q_dI, q_kJ, q_lJ, q_nJ, q_rJ, q_iJ, q_jJ, q_dJ, q_kC, q_lC, q_nC, q_rC, q_jC, q_dC, q_kF, q_lF, q_nF, q_rF, q_jF, q_dF, q_us, q_un, q_ua, F_X5_nextToken, k0, e1, k1, e2, g2]
  · have r0 := h1.r0
    have kt := h1.k1
    have lt := h1.l1
    have gt := h1.2.2.2.1 (ts b n p) (by omega)
    have hb := h.tx.2.1 (ts b n p) (by omega)
    by_cases hL : isLt (b (ts b n p)) = true
    · have f1 : Fx (fun a => a = d) μ1 (stJ μ1 d 7 0) := Fx.stJ rfl
      have te1 : te b n p = rn isLt b (n - ts b n p) (ts b n p) := by unfold te; rw [if_neg h0, if_pos hL]
      have tk1 : tk b n p = if te b n p - ts b n p ≤ 8 then 1 else 4 := by unfold tk; rw [if_neg h0, if_pos hL]
      obtain ⟨μ2, a1, a2, a3, a4, a5, a6⟩ := l5_word (d := d) (b := b) (n := n) (n - ts b n p) FU 0 (ts b n p) (ts b n p) (stJ μ1 d 7 0) (FU_gt (by omega)) (h1.dd f1 rfl) e2 e3 rfl (by omega) (fun j hj => absurd hj (by omega)) (fun _ => by rw [q_jJ, q_us]; rfl)
      rw [← te1] at a2 a3 a4
      refine ⟨μ2, ?_, a2, (a6 4 (by decide) (by decide)).trans e3, a3.trans (by rw [tk1]), fun q => ?_, fun q => a4 ?_, e4.trans (f1.trans a5), fun j hj => (a6 j (by omega) (by omega)).trans (e5 j (by omega) (by omega))⟩
      · have i1 := x5_L1 (μ := μ1) hL
        clear h h1 e3 e4 e5 e6 a2 a3 a4 a5 a6 f1
        simp (disch := first | assumption | omega) only [q_bl, q_baT, q_bi, q_ba, q_pr, q_ob, q_iT, q_iN, q_it, q_if, q_of, nI_add, pk_mul, pk_sub, nI_leI, nI_ltI, nI_eq, nI_clamp, nI_lt0, nI_eqm, m1_eq, true_or, or_true, not_false_eq_true, m1_lt, m1_nlt, m1_le, m1_nle, b01, b011, q_em, q_m1, n_0, n_1, n_2, n_3, n_4, n_5, n_6, n_7, n_8, n_9, n_10, n_11, n_12, n_14, n_15, n_16, n_20, n_24, n_25, n_32, n_36, n_40, n_41, n_42, n_43, n_45, n_46, n_48, n_57, n_59, n_60, n_73, n_76, n_97, n_99, n_100, n_106, n_109, n_120, n_122, n_136, n_160, n_176, n_200, n_255, n_800, n_1000, n_1001, n_1002, n_1003, n_1006, n_1012, n_1018, n_1019, n_1020, n_1100, n_1140, n_4800, n_4920, n_5940, n_6740, n_20220, q_kI, q_lI, q_nI, q_rI, q_iI, q_jI, q_dI, q_kJ, q_lJ, q_nJ, q_rJ, q_iJ, q_jJ, q_dJ, q_kC, q_lC, q_nC, q_rC, q_jC, q_dC, q_kF, q_lF, q_nF, q_rF, q_jF, q_dF, q_us, q_un, q_ua, F_X5_nextToken, F_X5_scanWord, k0, e1, k1, e2, g2, r0, kt, lt, gt, i1, a1]
      · rw [tk1] at q; split at q <;> omega
      · exact (tk_1 q).2.2.2
    · have i1 := x5_L0 (μ := μ1) (by omega) hL
      by_cases hD : isDg (b (ts b n p)) = true
      · have f1 : Fx (fun a => a = d) μ1 (stI μ1 d 6 (nI 0)) := Fx.stI rfl
        have te1 : te b n p = rn isDg b (n - ts b n p) (ts b n p) := by unfold te; rw [if_neg h0, if_neg hL, if_pos hD]
        have tk1 : tk b n p = if te b n p - ts b n p ≤ 2 then 2 else 4 := by unfold tk; rw [if_neg h0, if_neg hL, if_pos hD]
        obtain ⟨μ2, a1, a2, a3, a4, a5, a6⟩ := l5_num (d := d) (b := b) (n := n) (n - ts b n p) FU 0 (ts b n p) (ts b n p) (stI μ1 d 6 (nI 0)) (FU_gt (by omega)) (h1.dd f1 (by rw [q_iI, q_un (by omega)])) (by rw [q_iI, q_un (by omega)]; exact e2) (by rw [q_iI, q_un (by omega)]; exact e3) rfl (by omega) (fun j hj => absurd hj (by omega)) (fun _ => by rw [q_iI, q_us]; rfl)
        rw [← te1] at a2 a3 a4
        refine ⟨μ2, ?_, a2, ?_, a3.trans (by rw [tk1]), fun q => a4 ?_, fun q => ?_, e4.trans (f1.trans a5), fun j hj => ?_⟩
        · have i2 := x5_D1 (μ := μ1) hD
          clear h h1 e3 e4 e5 e6 a2 a3 a4 a5 a6 f1
          simp (disch := first | assumption | omega) only [q_bl, q_baT, q_bi, q_ba, q_pr, q_ob, q_iT, q_iN, q_it, q_if, q_of, nI_add, pk_mul, pk_sub, nI_leI, nI_ltI, nI_eq, nI_clamp, nI_lt0, nI_eqm, m1_eq, true_or, or_true, not_false_eq_true, m1_lt, m1_nlt, m1_le, m1_nle, b01, b011, q_em, q_m1, n_0, n_1, n_2, n_3, n_4, n_5, n_6, n_7, n_8, n_9, n_10, n_11, n_12, n_14, n_15, n_16, n_20, n_24, n_25, n_32, n_36, n_40, n_41, n_42, n_43, n_45, n_46, n_48, n_57, n_59, n_60, n_73, n_76, n_97, n_99, n_100, n_106, n_109, n_120, n_122, n_136, n_160, n_176, n_200, n_255, n_800, n_1000, n_1001, n_1002, n_1003, n_1006, n_1012, n_1018, n_1019, n_1020, n_1100, n_1140, n_4800, n_4920, n_5940, n_6740, n_20220, q_kI, q_lI, q_nI, q_rI, q_iI, q_jI, q_dI, q_kJ, q_lJ, q_nJ, q_rJ, q_iJ, q_jJ, q_dJ, q_kC, q_lC, q_nC, q_rC, q_jC, q_dC, q_kF, q_lF, q_nF, q_rF, q_jF, q_dF, q_us, q_un, q_ua, F_X5_nextToken, F_X5_scanNumber, k0, e1, k1, e2, g2, r0, kt, lt, gt, i1, i2, a1]
        · rw [a6 4 (by decide) (by decide) (by decide), q_iI, q_un (by omega)]; exact e3
        · exact (tk_2 q).2.2.2
        · rw [tk1] at q; split at q <;> omega
        · rw [a6 j (by omega) (by omega) (by omega), q_iI, q_un (by omega), e5 j (by omega) (by omega)]
      · have te1 : te b n p = ts b n p + 1 := by unfold te; rw [if_neg h0, if_neg hL, if_neg hD]
        have tk1 : tk b n p = if b (ts b n p) = 59 then 3 else 4 := by unfold tk; rw [if_neg h0, if_neg hL, if_neg hD]
        have i2 := x5_D0 (μ := μ1) (by omega) hD
        refine ⟨stI (stI μ1 d 5 (nI (tk b n p))) d 3 (nI (te b n p)), ?_, by rw [q_iI, q_us], by rw [q_iI, q_un (by omega), q_iI, q_un (by omega)]; exact e3, by rw [q_iI, q_un (by omega), q_iI, q_us], fun q => ?_, fun q => ?_, e4.trans ((Fx.stI (P := fun a => a = d) rfl).trans (Fx.stI rfl)), fun j hj => by rw [q_iI, q_un (by omega), q_iI, q_un (by omega), e5 j (by omega) (by omega)]⟩
        · rw [te1]
          have n59 : (59 : Int32) = nI 59 := of_eq_true (eq_true rfl)
          clear h h1 e3 e4 e5 e6
          by_cases h9 : b (ts b n p) = 59
          · rw [tk1, if_pos h9]
            rw [h9] at gt i1 i2
            simp (disch := first | assumption | omega) only [q_bl, q_baT, q_bi, q_ba, q_pr, q_ob, q_iT, q_iN, q_it, q_if, q_of, nI_add, pk_mul, pk_sub, nI_leI, nI_ltI, nI_eq, nI_clamp, nI_lt0, nI_eqm, m1_eq, true_or, or_true, not_false_eq_true, m1_lt, m1_nlt, m1_le, m1_nle, b01, b011, q_em, q_m1, n_0, n_1, n_2, n_3, n_4, n_5, n_6, n_7, n_8, n_9, n_10, n_11, n_12, n_14, n_15, n_16, n_20, n_24, n_25, n_32, n_36, n_40, n_41, n_42, n_43, n_45, n_46, n_48, n_57, n_59, n_60, n_73, n_76, n_97, n_99, n_100, n_106, n_109, n_120, n_122, n_136, n_160, n_176, n_200, n_255, n_800, n_1000, n_1001, n_1002, n_1003, n_1006, n_1012, n_1018, n_1019, n_1020, n_1100, n_1140, n_4800, n_4920, n_5940, n_6740, n_20220, q_kI, q_lI, q_nI, q_rI, q_iI, q_jI, q_dI, q_kJ, q_lJ, q_nJ, q_rJ, q_iJ, q_jJ, q_dJ, q_kC, q_lC, q_nC, q_rC, q_jC, q_dC, q_kF, q_lF, q_nF, q_rF, q_jF, q_dF, q_us, q_un, q_ua, F_X5_nextToken, B_X5_nextToken_87, k0, e1, k1, e2, g2, r0, kt, lt, gt, i1, i2]
          · rw [tk1, if_neg h9]
            have hne : ¬ nI (b (ts b n p)) = nI 59 := by rw [nI_eq (by omega) (by decide)]; exact h9
            simp (disch := first | assumption | omega) only [q_bl, q_baT, q_bi, q_ba, q_pr, q_ob, q_iT, q_iN, q_it, q_if, q_of, nI_add, pk_mul, pk_sub, nI_leI, nI_ltI, nI_eq, nI_clamp, nI_lt0, nI_eqm, m1_eq, true_or, or_true, not_false_eq_true, m1_lt, m1_nlt, m1_le, m1_nle, b01, b011, q_em, q_m1, n_0, n_1, n_2, n_3, n_4, n_5, n_6, n_7, n_8, n_9, n_10, n_11, n_12, n_14, n_15, n_16, n_20, n_24, n_25, n_32, n_36, n_40, n_41, n_42, n_43, n_45, n_46, n_48, n_57, n_59, n_60, n_73, n_76, n_97, n_99, n_100, n_106, n_109, n_120, n_122, n_136, n_160, n_176, n_200, n_255, n_800, n_1000, n_1001, n_1002, n_1003, n_1006, n_1012, n_1018, n_1019, n_1020, n_1100, n_1140, n_4800, n_4920, n_5940, n_6740, n_20220, q_kI, q_lI, q_nI, q_rI, q_iI, q_jI, q_dI, q_kJ, q_lJ, q_nJ, q_rJ, q_iJ, q_jJ, q_dJ, q_kC, q_lC, q_nC, q_rC, q_jC, q_dC, q_kF, q_lF, q_nF, q_rF, q_jF, q_dF, q_us, q_un, q_ua, F_X5_nextToken, B_X5_nextToken_87, k0, e1, k1, e2, g2, r0, kt, lt, gt, i1, i2, hne]
        · rw [tk1] at q; split at q <;> omega
        · rw [tk1] at q; split at q <;> omega
/-- reserved words -/
theorem l7_key {w : List Nat} (hw : lw w) : ∀ (m fu i : Nat), m < fu → i + m = 16 → L_X7_withKey_10 μ fu (lN (kk w)) (nI 16) (nI i) = some (kwf w m i) := by
  intro m
  induction m with
  | zero =>
    intro fu i hf hi
    obtain ⟨fu, rfl⟩ : ∃ k, fu = k + 1 := ⟨fu - 1, by omega⟩
    obtain rfl : i = 16 := by omega
    clear hw
    simp (disch := first | assumption | omega) only [q_bl, q_baT, q_bi, q_ba, q_pr, q_ob, q_iT, q_iN, q_it, q_if, q_of, nI_add, pk_mul, pk_sub, nI_leI, nI_ltI, nI_eq, nI_clamp, nI_lt0, nI_eqm, m1_eq, true_or, or_true, not_false_eq_true, m1_lt, m1_nlt, m1_le, m1_nle, b01, b011, q_em, q_m1, n_0, n_1, n_2, n_3, n_4, n_5, n_6, n_7, n_8, n_9, n_10, n_11, n_12, n_14, n_15, n_16, n_20, n_24, n_25, n_32, n_36, n_40, n_41, n_42, n_43, n_45, n_46, n_48, n_57, n_59, n_60, n_73, n_76, n_97, n_99, n_100, n_106, n_109, n_120, n_122, n_136, n_160, n_176, n_200, n_255, n_800, n_1000, n_1001, n_1002, n_1003, n_1006, n_1012, n_1018, n_1019, n_1020, n_1100, n_1140, n_4800, n_4920, n_5940, n_6740, n_20220, L_X7_withKey_10, B_X7_withKey_10]
    rfl
  | succ m ih =>
    intro fu i hf hi
    obtain ⟨fu, rfl⟩ : ∃ k, fu = k + 1 := ⟨fu - 1, by omega⟩
    have hk := (kwl_key i (by omega)).1
    have hc : (lg_cmp (lN (kk (kwl i))) (lN (kk w)) = 0) = (w = kwl i) := by
      rw [propext (lg_cmp_eq _ _), kL_inj (kwl_lw (by omega)) hw]
      exact propext ⟨fun e => e.symm, fun e => e.symm⟩
    have e2 : 2 + i - 2 = i := by omega
    have := ih fu (i + 1) (by omega) (by omega)
    clear ih hw
    have hc0 : (lg_cmp (lN (kk (kwl i))) (lN (kk w)) = nI 0) = (w = kwl i) := hc
    by_cases h : w = kwl i
    · have hz : lg_cmp (lN (kk (kwl i))) (lN (kk w)) = nI 0 := hc0.mpr h
      show _ = some (if w = kwl i then 2 + i else kwf w m (i + 1))
      rw [if_pos h]
      simp (disch := first | assumption | omega) only [q_bl, q_baT, q_bi, q_ba, q_pr, q_ob, q_iT, q_iN, q_it, q_if, q_of, nI_add, pk_mul, pk_sub, nI_leI, nI_ltI, nI_eq, nI_clamp, nI_lt0, nI_eqm, m1_eq, true_or, or_true, not_false_eq_true, m1_lt, m1_nlt, m1_le, m1_nle, b01, b011, q_em, q_m1, n_0, n_1, n_2, n_3, n_4, n_5, n_6, n_7, n_8, n_9, n_10, n_11, n_12, n_14, n_15, n_16, n_20, n_24, n_25, n_32, n_36, n_40, n_41, n_42, n_43, n_45, n_46, n_48, n_57, n_59, n_60, n_73, n_76, n_97, n_99, n_100, n_106, n_109, n_120, n_122, n_136, n_160, n_176, n_200, n_255, n_800, n_1000, n_1001, n_1002, n_1003, n_1006, n_1012, n_1018, n_1019, n_1020, n_1100, n_1140, n_4800, n_4920, n_5940, n_6740, n_20220, L_X7_withKey_10, B_X7_withKey_10, e2, hk, hz]
    · have hz : ¬ lg_cmp (lN (kk (kwl i))) (lN (kk w)) = nI 0 := fun e => h (hc0.mp e)
      show _ = some (if w = kwl i then 2 + i else kwf w m (i + 1))
      rw [if_neg h]
      simp (disch := first | assumption | omega) only [q_bl, q_baT, q_bi, q_ba, q_pr, q_ob, q_iT, q_iN, q_it, q_if, q_of, nI_add, pk_mul, pk_sub, nI_leI, nI_ltI, nI_eq, nI_clamp, nI_lt0, nI_eqm, m1_eq, true_or, or_true, not_false_eq_true, m1_lt, m1_nlt, m1_le, m1_nle, b01, b011, q_em, q_m1, n_0, n_1, n_2, n_3, n_4, n_5, n_6, n_7, n_8, n_9, n_10, n_11, n_12, n_14, n_15, n_16, n_20, n_24, n_25, n_32, n_36, n_40, n_41, n_42, n_43, n_45, n_46, n_48, n_57, n_59, n_60, n_73, n_76, n_97, n_99, n_100, n_106, n_109, n_120, n_122, n_136, n_160, n_176, n_200, n_255, n_800, n_1000, n_1001, n_1002, n_1003, n_1006, n_1012, n_1018, n_1019, n_1020, n_1100, n_1140, n_4800, n_4920, n_5940, n_6740, n_20220, L_X7_withKey_10, B_X7_withKey_10, e2, hk, hz, this]
theorem x7_key {w : List Nat} (hw : lw w) : F_X7_withKey (lN (kk w)) μ = some (kwr w) := l7_key hw 16 FU 0 (FU_gt (by decide)) rfl
/-- the reserved word that a token is, 0 for none -/
def trw (b : Nat → Nat) (n p : Nat) : Nat := if tk b n p = 1 then kwr (tw b n p) else 0
theorem x5_resw (hk : gK μ d = 5) (h5 : gI μ d 5 = nI (tk b n p)) (h7 : tk b n p = 1 → gJ μ d 7 = lN (kk (tw b n p))) : F_X5_reservedWord d μ = some (trw b n p) := by
  have ht := tk_le (b := b) (n := n) (p := p)
  by_cases h1 : tk b n p = 1
  · have e7 := x7_key (μ := μ) (tw_lw h1)
    have g7 := h7 h1
    unfold trw
    rw [if_pos h1]
    rw [h1] at h5
    simp (disch := first | assumption | omega) only [q_bl, q_baT, q_bi, q_ba, q_pr, q_ob, q_iT, q_iN, q_it, q_if, q_of, nI_add, pk_mul, pk_sub, nI_leI, nI_ltI, nI_eq, nI_clamp, nI_lt0, nI_eqm, m1_eq, true_or, or_true, not_false_eq_true, m1_lt, m1_nlt, m1_le, m1_nle, b01, b011, q_em, q_m1, n_0, n_1, n_2, n_3, n_4, n_5, n_6, n_7, n_8, n_9, n_10, n_11, n_12, n_14, n_15, n_16, n_20, n_24, n_25, n_32, n_36, n_40, n_41, n_42, n_43, n_45, n_46, n_48, n_57, n_59, n_60, n_73, n_76, n_97, n_99, n_100, n_106, n_109, n_120, n_122, n_136, n_160, n_176, n_200, n_255, n_800, n_1000, n_1001, n_1002, n_1003, n_1006, n_1012, n_1018, n_1019, n_1020, n_1100, n_1140, n_4800, n_4920, n_5940, n_6740, n_20220, F_X5_reservedWord, hk, h5, g7, e7]
  · unfold trw
    rw [if_neg h1]
    have hne : ¬ nI (tk b n p) = nI 1 := by rw [nI_eq (by omega) (by decide)]; exact h1
    simp (disch := first | assumption | omega) only [q_bl, q_baT, q_bi, q_ba, q_pr, q_ob, q_iT, q_iN, q_it, q_if, q_of, nI_add, pk_mul, pk_sub, nI_leI, nI_ltI, nI_eq, nI_clamp, nI_lt0, nI_eqm, m1_eq, true_or, or_true, not_false_eq_true, m1_lt, m1_nlt, m1_le, m1_nle, b01, b011, q_em, q_m1, n_0, n_1, n_2, n_3, n_4, n_5, n_6, n_7, n_8, n_9, n_10, n_11, n_12, n_14, n_15, n_16, n_20, n_24, n_25, n_32, n_36, n_40, n_41, n_42, n_43, n_45, n_46, n_48, n_57, n_59, n_60, n_73, n_76, n_97, n_99, n_100, n_106, n_109, n_120, n_122, n_136, n_160, n_176, n_200, n_255, n_800, n_1000, n_1001, n_1002, n_1003, n_1006, n_1012, n_1018, n_1019, n_1020, n_1100, n_1140, n_4800, n_4920, n_5940, n_6740, n_20220, F_X5_reservedWord, hk, h5, hne]
end CTK

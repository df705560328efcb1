/-! LAYER 3: cards taken out, cards doubled -/
theorem l2_take {d d2 c c2 i i2 : Nat} (hc : c ≤ 40) (hc2 : c2 ≤ 40) (hi : i < c) (hi2 : i2 < c2) (n1 : ¬ d + 1 = d2) (n3 : d = d2 → ¬ i = i2) : ∀ (m fu k : Nat) (μ : Mem), m < fu → k + m = 21 → 1 ≤ k → SD μ d → SD μ d2 → gI μ d 1 = nI c → gI μ d2 1 = nI c2 →
    ∃ μ', L_X2_takeCard_3 fu d (nI i) d2 (nI i2) (nI k) μ = some μ' ∧ Fx (fun a => a = d + 1) μ μ' ∧ ∀ j, gI μ' (d + 1) j = if 20 * i + (k - 1) ≤ j ∧ j < 20 * i + 20 then gI μ (d2 + 1) (20 * i2 + (j - 20 * i)) else gI μ (d + 1) j := by
  intro m
  induction m with
  | zero =>
    intro fu k μ hf he hk h h2 g g2
    obtain ⟨fu, rfl⟩ : ∃ k, fu = k + 1 := ⟨fu - 1, by omega⟩
    obtain rfl : k = 21 := by omega
    exact ⟨μ, by simp (disch := first | assumption | omega) only [q_bl, q_baT, q_bi, q_ba, q_pr, q_ob, q_iT, q_iN, q_it, q_if, q_of, nI_add, pk_mul, pk_sub, nI_leI, nI_ltI, nI_eq, nI_clamp, nI_lt0, nI_eqm, m1_eq, true_or, or_true, not_false_eq_true, m1_lt, m1_nlt, m1_le, m1_nle, b01, b011, q_em, q_m1, n_0, n_1, n_2, n_3, n_4, n_5, n_6, n_7, n_8, n_9, n_10, n_11, n_12, n_14, n_15, n_16, n_20, n_24, n_25, n_32, n_36, n_40, n_41, n_42, n_43, n_45, n_46, n_48, n_57, n_59, n_60, n_73, n_76, n_97, n_99, n_100, n_106, n_109, n_120, n_122, n_136, n_160, n_176, n_200, n_255, n_800, n_1000, n_1001, n_1002, n_1003, n_1006, n_1012, n_1018, n_1019, n_1020, n_1100, n_1140, n_4800, n_4920, n_5940, n_6740, n_20220, q_kI, q_lI, q_nI, q_rI, q_iI, q_jI, q_dI, q_kJ, q_lJ, q_nJ, q_rJ, q_iJ, q_jJ, q_dJ, q_kC, q_lC, q_nC, q_rC, q_jC, q_dC, q_kF, q_lF, q_nF, q_rF, q_jF, q_dF, q_us, q_un, q_ua, L_X2_takeCard_3, B_X2_takeCard_3], Fx.same, fun j => by rw [if_neg (by omega)]⟩
  | succ m ih =>
    intro fu k μ hf he hk h h2 g g2
    obtain ⟨fu, rfl⟩ : ∃ k, fu = k + 1 := ⟨fu - 1, by omega⟩
    have e1 := x2_codeAt (k := k) h2 g2 hc2 hi2 hk (by omega)
    have e2 := x2_punch (k := k) (v := gI μ (d2 + 1) (i2 * 20 + k - 1)) h g hc hi hk (by omega)
    rw [if_pos (by omega)] at e2
    have f1 : Fx (fun a => a = d + 1) μ (stI μ (d + 1) (i * 20 + k - 1) (gI μ (d2 + 1) (i2 * 20 + k - 1))) := Fx.stI rfl
    obtain ⟨μ', q1, q2, q3⟩ := ih fu (k + 1) _ (by omega) (by omega) (by omega) (h.fx f1) (h2.fx f1) (by rw [f1.I (by omega)]; exact g) (by rw [f1.I (fun e => n1 e.symm)]; exact g2)
    refine ⟨μ', ?_, f1.trans q2, fun j => ?_⟩
    · have k2 := h2.1
      have k1 := h.1
      clear q3 ih n3 f1 q2 h h2 g g2
      simp (disch := first | assumption | omega) only [q_bl, q_baT, q_bi, q_ba, q_pr, q_ob, q_iT, q_iN, q_it, q_if, q_of, nI_add, pk_mul, pk_sub, nI_leI, nI_ltI, nI_eq, nI_clamp, nI_lt0, nI_eqm, m1_eq, true_or, or_true, not_false_eq_true, m1_lt, m1_nlt, m1_le, m1_nle, b01, b011, q_em, q_m1, n_0, n_1, n_2, n_3, n_4, n_5, n_6, n_7, n_8, n_9, n_10, n_11, n_12, n_14, n_15, n_16, n_20, n_24, n_25, n_32, n_36, n_40, n_41, n_42, n_43, n_45, n_46, n_48, n_57, n_59, n_60, n_73, n_76, n_97, n_99, n_100, n_106, n_109, n_120, n_122, n_136, n_160, n_176, n_200, n_255, n_800, n_1000, n_1001, n_1002, n_1003, n_1006, n_1012, n_1018, n_1019, n_1020, n_1100, n_1140, n_4800, n_4920, n_5940, n_6740, n_20220, L_X2_takeCard_3, B_X2_takeCard_3, k1, k2, e1, e2, q1]
    · rw [q3 j, q_iI]
      by_cases hj : j = i * 20 + k - 1
      · rw [if_neg (by omega), hj, q_us, if_pos (by omega)]; congr 1; omega
      · rw [q_un (b := d + 1) (fun e => hj e.2)]
        by_cases h5 : 20 * i + (k + 1 - 1) ≤ j ∧ j < 20 * i + 20
        · rw [if_pos h5, if_pos (by omega), q_un (fun e => by have := n3 (by omega); omega)]
        · rw [if_neg h5, if_neg (by omega)]
theorem x2_take {μ : Mem} {d d2 c c2 i i2 : Nat} (h : SD μ d) (h2 : SD μ d2) (g : gI μ d 1 = nI c) (g2 : gI μ d2 1 = nI c2) (hc : c ≤ 40) (hc2 : c2 ≤ 40) (hi : i < c) (hi2 : i2 < c2) (n1 : ¬ d + 1 = d2) (n3 : d = d2 → ¬ i = i2) :
    ∃ μ', F_X2_takeCard d (nI i) d2 (nI i2) μ = some μ' ∧ Fx (fun a => a = d + 1) μ μ' ∧ ∀ j, gI μ' (d + 1) j = if 20 * i ≤ j ∧ j < 20 * i + 20 then gI μ (d2 + 1) (20 * i2 + (j - 20 * i)) else gI μ (d + 1) j := by
  obtain ⟨μ', q1, q2, q3⟩ := l2_take hc hc2 hi hi2 n1 n3 20 FU 1 μ (FU_gt (by decide)) (by decide) (by decide) h h2 g g2
  refine ⟨μ', ?_, q2, q3⟩
  clear q2 q3 n3 h h2 g g2
  simp (disch := first | assumption | omega) only [q_bl, q_baT, q_bi, q_ba, q_pr, q_ob, q_iT, q_iN, q_it, q_if, q_of, nI_add, pk_mul, pk_sub, nI_leI, nI_ltI, nI_eq, nI_clamp, nI_lt0, nI_eqm, m1_eq, true_or, or_true, not_false_eq_true, m1_lt, m1_nlt, m1_le, m1_nle, b01, b011, q_em, q_m1, n_0, n_1, n_2, n_3, n_4, n_5, n_6, n_7, n_8, n_9, n_10, n_11, n_12, n_14, n_15, n_16, n_20, n_24, n_25, n_32, n_36, n_40, n_41, n_42, n_43, n_45, n_46, n_48, n_57, n_59, n_60, n_73, n_76, n_97, n_99, n_100, n_106, n_109, n_120, n_122, n_136, n_160, n_176, n_200, n_255, n_800, n_1000, n_1001, n_1002, n_1003, n_1006, n_1012, n_1018, n_1019, n_1020, n_1100, n_1140, n_4800, n_4920, n_5940, n_6740, n_20220, F_X2_takeCard, q1]
/-- a card over another -/
def mv (A : SA) (a b : Nat) : SA := fun i => if 200 + 20 * b ≤ i ∧ i < 220 + 20 * b then A (i + 20 * a - 20 * b) else A i
theorem mv_o {A : SA} {a b i : Nat} (h : ¬ (200 + 20 * b ≤ i ∧ i < 220 + 20 * b)) : mv A a b i = A i := by unfold mv; rw [if_neg h]
theorem mv_i {A : SA} {a b k : Nat} (h1 : 1 ≤ k) (h2 : k ≤ 20) : mv A a b (200 + 20 * b + k - 1) = A (200 + 20 * a + k - 1) := by
  unfold mv; rw [if_pos (by omega)]; congr 1; omega
/-- the first n cards are right, but for one -/
def RDx (I : Nat → SA) (d : Nat) (A : SA) (n b : Nat) : Prop := ∀ i k, i < n → ¬ i = b → 1 ≤ k → k ≤ 20 → I (d + 1) (i * 20 + k - 1) = A (200 + 20 * i + k - 1)
def RDn (I : Nat → SA) (d : Nat) (A : SA) (n : Nat) : Prop := ∀ i k, i < n → 1 ≤ k → k ≤ 20 → I (d + 1) (i * 20 + k - 1) = A (200 + 20 * i + k - 1)
theorem RDn.x {I : Nat → SA} {d n b : Nat} {A : SA} (h : RDn I d A n) : RDx I d A n b := fun i k h1 _ h3 h4 => h i k h1 h3 h4
def lcn (A : SA) (n : Nat) : Prop := ∀ i k, i < n → 1 ≤ k → k ≤ 20 → lc (A (200 + 20 * i + k - 1))
theorem lcn.mv {A : SA} {n a b : Nat} (h : lcn A n) (ha : a < n) : lcn (mv A a b) n := fun i k hi k1 k2 => by
  by_cases e : i = b
  · subst e; rw [mv_i k1 k2]; exact h a k ha k1 k2
  · rw [mv_o (by omega)]; exact h i k hi k1 k2
theorem x2_tk {μ : Mem} {d N a b : Nat} {A : SA} (h : SD μ d) (g : gI μ d 1 = nI N) (hN : N ≤ 40) (ha : a < N) (hb : b < N) (hab : ¬ a = b) (hr : RDx (gI μ) d A N b) : ∃ μ', F_X2_takeCard d (nI b) d (nI a) μ = some μ' ∧ RDn (gI μ') d (mv A a b) N ∧ Fx (fun a => a = d + 1) μ μ' := by
  obtain ⟨μ', e, f, q⟩ := x2_take h h g g hN hN hb ha (by omega) (fun _ e => hab e.symm)
  refine ⟨μ', e, fun i k hi k1 k2 => ?_, f⟩
  rw [q]
  by_cases hi2 : i = b
  · subst hi2
    rw [if_pos (by omega), mv_i k1 k2, ← hr a k ha hab k1 k2]; congr 1; omega
  · rw [if_neg (by omega), mv_o (by omega)]; exact hr i k hi hi2 k1 k2

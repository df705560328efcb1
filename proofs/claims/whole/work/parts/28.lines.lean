/-! LAYER 3: the class's machine: lines -/
/-- a line is being printed: the n-th, of level lv; its characters are those of ln -/
def LnP (I : Nat → SA) (r : Nat) (A : SA) (n : Nat) (lv : Int32) (ln : SA) : Prop := I (r + 26) 2 = nI (n + 1) ∧ RPl I r A (min n 120) ∧ (n < 120 → I (r + 28) n = lv ∧ ∀ p, 1 ≤ p → p ≤ 40 → I (r + 27) (n * 40 + p - 1) = ln p)
theorem LnP.ext {I : Nat → SA} {r n : Nat} {A : SA} {lv : Int32} {ln ln' : SA} (h : LnP I r A n lv ln) (e : ∀ p, 1 ≤ p → p ≤ 40 → ln' p = ln p) : LnP I r A n lv ln' :=
  ⟨h.1, h.2.1, fun hn => ⟨(h.2.2 hn).1, fun p h1 h2 => by rw [e p h1 h2]; exact (h.2.2 hn).2 p h1 h2⟩⟩
def PR (r : Nat) : Nat → Prop := fun a => r + 26 ≤ a ∧ a < r + 29
theorem LnP.put {μ : Mem} {r n k : Nat} {A : SA} {lv v : Int32} {ln : SA} (s : SM μ r) (h : LnP (gI μ) r A n lv ln) (hn : n < 2 ^ 30) (h1 : 1 ≤ k) (h2 : k < 2 ^ 30) : ∃ μ', F_X4_print (r + 26) (nI k) v μ = some μ' ∧ LnP (gI μ') r A n lv (pt k v ln) ∧ Fx (PR r) μ μ' := by
  have e := x4_print (v := v) s.sp h.1 hn h1 h2
  rw [show r + 26 + 1 = r + 27 from rfl] at e
  by_cases hx : n < 120 ∧ k ≤ 40
  · rw [if_pos hx] at e
    refine ⟨_, e, ⟨?_, fun l hl => ⟨?_, fun q q1 q2 => ?_⟩, fun _ => ⟨?_, fun p p1 p2 => ?_⟩⟩, Fx.stI ⟨by omega, by omega⟩⟩
    · rw [q_iI, q_un (by omega)]; exact h.1
    · rw [q_iI, q_un (by omega)]; exact (h.2.1 l hl).1
    · rw [q_iI, q_un (by omega)]; exact (h.2.1 l hl).2 q q1 q2
    · rw [q_iI, q_un (by omega)]; exact (h.2.2 hx.1).1
    · rw [q_iI]
      unfold pt
      rw [if_pos hx.2]
      by_cases hp : p = k
      · subst hp; rw [q_us, ua_s]
      · rw [q_un (by omega), ua_n hp]; exact (h.2.2 hx.1).2 p p1 p2
  · rw [if_neg hx] at e
    refine ⟨_, e, ⟨h.1, h.2.1, fun hn2 => ⟨(h.2.2 hn2).1, fun p p1 p2 => ?_⟩⟩, Fx.same⟩
    unfold pt
    rw [if_neg (by omega)]
    exact (h.2.2 hn2).2 p p1 p2
theorem l_pnum {r nn pos w : Nat} {A : SA} {lv x : Int32} (hnn : nn < 2 ^ 30) (hp1 : 1 ≤ pos) (hp2 : pos ≤ 40) (hw1 : 1 ≤ w) (hw2 : w ≤ 9) : ∀ (m n left : Nat) (ln : SA) (μ : Mem), m < n → m ≤ w → left < 2 ^ 30 → SM μ r → LnP (gI μ) r A nn lv ln →
    ∃ μ', L_X4_printNumber_17 n (r + 26) (nI pos) x (nI w) (nI left) (nI m + -nI 1) μ = some μ' ∧ LnP (gI μ') r A nn lv (pt (pos + w) (if x < nI 0 then nI 45 else nI 32) (sp_num pos w m left ln)) ∧ Fx (PR r) μ μ' := by
  intro m
  induction m with
  | zero =>
    intro n left ln μ hn hm hl s h
    obtain ⟨n, rfl⟩ : ∃ k, n = k + 1 := ⟨n - 1, by omega⟩
    have e0 : nI 0 + -nI 1 = -nI 1 := by decide +kernel
    have e1 : -nI 1 < nI 0 := by decide +kernel
    by_cases hx : x < nI 0
    · obtain ⟨μ1, q1, q2, q3⟩ := LnP.put (k := pos + w) (v := nI 45) s h hnn (by omega) (by omega)
      refine ⟨μ1, ?_, ?_, q3⟩
      · have hy : ¬ nI 0 ≤ x := by rw [lt0_T] at hx; rw [le0_T]; omega
        simp (disch := first | assumption | omega) only [q_bl, q_baT, q_bi, q_ba, q_pr, q_ob, q_iT, q_iN, q_it, q_if, q_of, pk_mul, pk_sub, nI_leI, nI_ltI, nI_eq, nI_clamp, nI_lt0, nI_eqm, m1_eq, true_or, or_true, not_false_eq_true, m1_lt, m1_nlt, m1_le, m1_nle, b01, b011, q_em, q_m1, n_0, n_1, n_2, n_3, n_4, n_5, n_6, n_7, n_8, n_9, n_10, n_11, n_12, n_14, n_15, n_16, n_20, n_24, n_25, n_32, n_36, n_40, n_41, n_42, n_43, n_45, n_46, n_48, n_57, n_59, n_60, n_73, n_76, n_97, n_99, n_100, n_106, n_109, n_120, n_122, n_136, n_160, n_176, n_200, n_255, n_800, n_1000, n_1001, n_1002, n_1003, n_1006, n_1012, n_1018, n_1019, n_1020, n_1100, n_1140, n_4800, n_4920, n_5940, n_6740, n_20220, q_kI, q_lI, q_nI, q_rI, q_iI, q_jI, q_dI, q_kJ, q_lJ, q_nJ, q_rJ, q_iJ, q_jJ, q_dJ, q_kC, q_lC, q_nC, q_rC, q_jC, q_dC, q_kF, q_lF, q_nF, q_rF, q_jF, q_dF, q_us, q_un, q_ua, L_X4_printNumber_17, B_X4_printNumber_17, B_X4_printNumber_96, e0, s.k26, q1, nI_add pos w]
      · rw [if_pos hx]; exact q2
    · obtain ⟨μ1, q1, q2, q3⟩ := LnP.put (k := pos + w) (v := nI 32) s h hnn (by omega) (by omega)
      refine ⟨μ1, ?_, ?_, q3⟩
      · have hy : nI 0 ≤ x := by rw [lt0_T] at hx; rw [le0_T]; omega
        simp (disch := first | assumption | omega) only [q_bl, q_baT, q_bi, q_ba, q_pr, q_ob, q_iT, q_iN, q_it, q_if, q_of, pk_mul, pk_sub, nI_leI, nI_ltI, nI_eq, nI_clamp, nI_lt0, nI_eqm, m1_eq, true_or, or_true, not_false_eq_true, m1_lt, m1_nlt, m1_le, m1_nle, b01, b011, q_em, q_m1, n_0, n_1, n_2, n_3, n_4, n_5, n_6, n_7, n_8, n_9, n_10, n_11, n_12, n_14, n_15, n_16, n_20, n_24, n_25, n_32, n_36, n_40, n_41, n_42, n_43, n_45, n_46, n_48, n_57, n_59, n_60, n_73, n_76, n_97, n_99, n_100, n_106, n_109, n_120, n_122, n_136, n_160, n_176, n_200, n_255, n_800, n_1000, n_1001, n_1002, n_1003, n_1006, n_1012, n_1018, n_1019, n_1020, n_1100, n_1140, n_4800, n_4920, n_5940, n_6740, n_20220, q_kI, q_lI, q_nI, q_rI, q_iI, q_jI, q_dI, q_kJ, q_lJ, q_nJ, q_rJ, q_iJ, q_jJ, q_dJ, q_kC, q_lC, q_nC, q_rC, q_jC, q_dC, q_kF, q_lF, q_nF, q_rF, q_jF, q_dF, q_us, q_un, q_ua, L_X4_printNumber_17, B_X4_printNumber_17, B_X4_printNumber_96, e0, s.k26, q1, nI_add pos w]
      · rw [if_neg hx]; exact q2
  | succ m ih =>
    intro n left ln μ hn hm hl s h
    obtain ⟨n, rfl⟩ : ∃ k, n = k + 1 := ⟨n - 1, by omega⟩
    have hr : left - left / 10 * 10 = left % 10 := by omega
    have hd := pk_div (a := left) (d := 10) (by omega) (by decide) (by decide)
    by_cases hx : left = 0 ∧ m < w - 1
    · obtain ⟨μ1, q1, q2, q3⟩ := LnP.put (k := pos + m) (v := nI 32) s h hnn (by omega) (by omega)
      obtain ⟨μ2, p1, p2, p3⟩ := ih n (left / 10) _ μ1 (by omega) (by omega) (by omega) (s.fx q3) q2
      refine ⟨μ2, ?_, ?_, q3.trans p3⟩
      · simp (disch := first | assumption | omega) only [q_bl, q_baT, q_bi, q_ba, q_pr, q_ob, q_iT, q_iN, q_it, q_if, q_of, nI_add, pk_mul, pk_sub, nI_leI, nI_ltI, nI_eq, nI_clamp, nI_lt0, nI_eqm, m1_eq, true_or, or_true, not_false_eq_true, m1_lt, m1_nlt, m1_le, m1_nle, b01, b011, q_em, q_m1, n_0, n_1, n_2, n_3, n_4, n_5, n_6, n_7, n_8, n_9, n_10, n_11, n_12, n_14, n_15, n_16, n_20, n_24, n_25, n_32, n_36, n_40, n_41, n_42, n_43, n_45, n_46, n_48, n_57, n_59, n_60, n_73, n_76, n_97, n_99, n_100, n_106, n_109, n_120, n_122, n_136, n_160, n_176, n_200, n_255, n_800, n_1000, n_1001, n_1002, n_1003, n_1006, n_1012, n_1018, n_1019, n_1020, n_1100, n_1140, n_4800, n_4920, n_5940, n_6740, n_20220, q_kI, q_lI, q_nI, q_rI, q_iI, q_jI, q_dI, q_kJ, q_lJ, q_nJ, q_rJ, q_iJ, q_jJ, q_dJ, q_kC, q_lC, q_nC, q_rC, q_jC, q_dC, q_kF, q_lF, q_nF, q_rF, q_jF, q_dF, q_us, q_un, q_ua, L_X4_printNumber_17, B_X4_printNumber_17, B_X4_printNumber_40, B_X4_printNumber_65, s.k26, q1, hd, p1]
      · unfold sp_num; rw [if_pos hx]; exact p2
    · obtain ⟨μ1, q1, q2, q3⟩ := LnP.put (k := pos + m) (v := nI (48 + left % 10)) s h hnn (by omega) (by omega)
      obtain ⟨μ2, p1, p2, p3⟩ := ih n (left / 10) _ μ1 (by omega) (by omega) (by omega) (s.fx q3) q2
      refine ⟨μ2, ?_, ?_, q3.trans p3⟩
      · by_cases h0 : 0 < left
        · simp (disch := first | assumption | omega) only [q_bl, q_baT, q_bi, q_ba, q_pr, q_ob, q_iT, q_iN, q_it, q_if, q_of, nI_add, pk_mul, pk_sub, nI_leI, nI_ltI, nI_eq, nI_clamp, nI_lt0, nI_eqm, m1_eq, true_or, or_true, not_false_eq_true, m1_lt, m1_nlt, m1_le, m1_nle, b01, b011, q_em, q_m1, n_0, n_1, n_2, n_3, n_4, n_5, n_6, n_7, n_8, n_9, n_10, n_11, n_12, n_14, n_15, n_16, n_20, n_24, n_25, n_32, n_36, n_40, n_41, n_42, n_43, n_45, n_46, n_48, n_57, n_59, n_60, n_73, n_76, n_97, n_99, n_100, n_106, n_109, n_120, n_122, n_136, n_160, n_176, n_200, n_255, n_800, n_1000, n_1001, n_1002, n_1003, n_1006, n_1012, n_1018, n_1019, n_1020, n_1100, n_1140, n_4800, n_4920, n_5940, n_6740, n_20220, q_kI, q_lI, q_nI, q_rI, q_iI, q_jI, q_dI, q_kJ, q_lJ, q_nJ, q_rJ, q_iJ, q_jJ, q_dJ, q_kC, q_lC, q_nC, q_rC, q_jC, q_dC, q_kF, q_lF, q_nF, q_rF, q_jF, q_dF, q_us, q_un, q_ua, L_X4_printNumber_17, B_X4_printNumber_17, B_X4_printNumber_35, B_X4_printNumber_40, B_X4_printNumber_65, s.k26, q1, hr, hd, p1]
        · simp (disch := first | assumption | omega) only [q_bl, q_baT, q_bi, q_ba, q_pr, q_ob, q_iT, q_iN, q_it, q_if, q_of, nI_add, pk_mul, pk_sub, nI_leI, nI_ltI, nI_eq, nI_clamp, nI_lt0, nI_eqm, m1_eq, true_or, or_true, not_false_eq_true, m1_lt, m1_nlt, m1_le, m1_nle, b01, b011, q_em, q_m1, n_0, n_1, n_2, n_3, n_4, n_5, n_6, n_7, n_8, n_9, n_10, n_11, n_12, n_14, n_15, n_16, n_20, n_24, n_25, n_32, n_36, n_40, n_41, n_42, n_43, n_45, n_46, n_48, n_57, n_59, n_60, n_73, n_76, n_97, n_99, n_100, n_106, n_109, n_120, n_122, n_136, n_160, n_176, n_200, n_255, n_800, n_1000, n_1001, n_1002, n_1003, n_1006, n_1012, n_1018, n_1019, n_1020, n_1100, n_1140, n_4800, n_4920, n_5940, n_6740, n_20220, q_kI, q_lI, q_nI, q_rI, q_iI, q_jI, q_dI, q_kJ, q_lJ, q_nJ, q_rJ, q_iJ, q_jJ, q_dJ, q_kC, q_lC, q_nC, q_rC, q_jC, q_dC, q_kF, q_lF, q_nF, q_rF, q_jF, q_dF, q_us, q_un, q_ua, L_X4_printNumber_17, B_X4_printNumber_17, B_X4_printNumber_35, B_X4_printNumber_40, B_X4_printNumber_65, s.k26, q1, hr, hd, p1]
      · unfold sp_num; rw [if_neg hx]; exact p2
theorem x4_pnum {μ : Mem} {r nn pos w : Nat} {A : SA} {lv x : Int32} {ln : SA} (hnn : nn < 2 ^ 30) (hp1 : 1 ≤ pos) (hp2 : pos ≤ 40) (hw1 : 1 ≤ w) (hw2 : w ≤ 9) (s : SM μ r) (h : LnP (gI μ) r A nn lv ln) (hx : x.toInt.natAbs < 1000000000) :
    ∃ μ', F_X4_printNumber (r + 26) (nI pos) x (nI w) μ = some μ' ∧ LnP (gI μ') r A nn lv (pt (pos + w) (if x < nI 0 then nI 45 else nI 32) (sp_num pos w w x.toInt.natAbs ln)) ∧ Fx (PR r) μ μ' := by
  obtain ⟨μ', e, q⟩ := l_pnum (x := x) hnn hp1 hp2 hw1 hw2 w FU x.toInt.natAbs ln μ (FU_gt (by omega)) (by omega) (by omega) s h
  have hw : nI w - nI 1 = nI w + -nI 1 := Int32.sub_eq_add_neg _ _
  refine ⟨μ', ?_, q⟩
  by_cases h0 : 0 ≤ x.toInt
  · have e1 := sz_pos h0
    have e2 : nI 0 ≤ x := by rw [le0_T]; exact h0
    rw [← e1] at e
    simp (disch := first | assumption | omega) only [q_bl, q_baT, q_bi, q_ba, q_pr, q_ob, q_iT, q_iN, q_it, q_if, q_of, nI_add, pk_mul, nI_leI, nI_ltI, nI_eq, nI_clamp, nI_lt0, nI_eqm, m1_eq, true_or, or_true, not_false_eq_true, m1_lt, m1_nlt, m1_le, m1_nle, b01, b011, q_em, q_m1, n_0, n_1, n_2, n_3, n_4, n_5, n_6, n_7, n_8, n_9, n_10, n_11, n_12, n_14, n_15, n_16, n_20, n_24, n_25, n_32, n_36, n_40, n_41, n_42, n_43, n_45, n_46, n_48, n_57, n_59, n_60, n_73, n_76, n_97, n_99, n_100, n_106, n_109, n_120, n_122, n_136, n_160, n_176, n_200, n_255, n_800, n_1000, n_1001, n_1002, n_1003, n_1006, n_1012, n_1018, n_1019, n_1020, n_1100, n_1140, n_4800, n_4920, n_5940, n_6740, n_20220, q_kI, q_lI, q_nI, q_rI, q_iI, q_jI, q_dI, q_kJ, q_lJ, q_nJ, q_rJ, q_iJ, q_jJ, q_dJ, q_kC, q_lC, q_nC, q_rC, q_jC, q_dC, q_kF, q_lF, q_nF, q_rF, q_jF, q_dF, q_us, q_un, q_ua, F_X4_printNumber, B_X4_printNumber_10, hw, e]
  · have e1 := sz_neg (x := x) (by omega) (by omega)
    have e2 : ¬ nI 0 ≤ x := by rw [le0_T]; exact h0
    rw [← e1] at e
    simp (disch := first | assumption | omega) only [q_bl, q_baT, q_bi, q_ba, q_pr, q_ob, q_iT, q_iN, q_it, q_if, q_of, nI_add, pk_mul, nI_leI, nI_ltI, nI_eq, nI_clamp, nI_lt0, nI_eqm, m1_eq, true_or, or_true, not_false_eq_true, m1_lt, m1_nlt, m1_le, m1_nle, b01, b011, q_em, q_m1, n_0, n_1, n_2, n_3, n_4, n_5, n_6, n_7, n_8, n_9, n_10, n_11, n_12, n_14, n_15, n_16, n_20, n_24, n_25, n_32, n_36, n_40, n_41, n_42, n_43, n_45, n_46, n_48, n_57, n_59, n_60, n_73, n_76, n_97, n_99, n_100, n_106, n_109, n_120, n_122, n_136, n_160, n_176, n_200, n_255, n_800, n_1000, n_1001, n_1002, n_1003, n_1006, n_1012, n_1018, n_1019, n_1020, n_1100, n_1140, n_4800, n_4920, n_5940, n_6740, n_20220, q_kI, q_lI, q_nI, q_rI, q_iI, q_jI, q_dI, q_kJ, q_lJ, q_nJ, q_rJ, q_iJ, q_jJ, q_dJ, q_kC, q_lC, q_nC, q_rC, q_jC, q_dC, q_kF, q_lF, q_nF, q_rF, q_jF, q_dF, q_us, q_un, q_ua, F_X4_printNumber, B_X4_printNumber_10, hw, e]
/-- the beginning of a line -/
theorem LnP.start {μ : Mem} {r b : Nat} {A : SA} {lv : Int32} (h : MO μ r A b) (hb : b < 1000000) : ∃ μ', F_X4_startLine (r + 26) lv μ = some μ' ∧ LnP (gI μ') r A (nt (A 1018)) lv bln ∧ Fx (PR r) μ μ' := by
  obtain ⟨s, hr, w, m⟩ := h
  have q := m.2.2.2.2.2.1.ex (by omega)
  have hc : gI μ (r + 26) 2 = nI (nt (A 1018)) := hr.2.2.2.2.2.2.1.1.trans q.1
  have hl := hr.2.2.2.2.2.2.1.2
  by_cases hx : nt (A 1018) < 120
  · have e := x4_start (l := lv) s.sp hc hx
    refine ⟨_, e, ⟨?_, fun l h1 => ⟨?_, fun k k1 k2 => ?_⟩, fun _ => ⟨?_, fun p p1 p2 => ?_⟩⟩, Fx.trans (Fx.trans (Fx.stI ⟨by omega, by omega⟩) (Fx.stF ⟨by omega, by omega⟩)) (Fx.stI ⟨by omega, by omega⟩)⟩
    · rw [q_iI, q_us]
    · rw [q_iI, q_un (by omega), q_iF, if_neg (by omega), q_iI, q_un (by omega)]; exact (hl l h1).1
    · rw [q_iI, q_un (by omega), q_iF, if_neg (by omega), q_iI, q_un (by omega)]; exact (hl l h1).2 k k1 k2
    · rw [q_iI, q_un (by omega), q_iF, if_neg (by omega), q_iI, show r + 26 + 2 = r + 28 from rfl, q_us]
    · rw [q_iI, q_un (by omega), q_iF, if_pos (by omega)]; rfl
  · have e := x4_startF (l := lv) s.sp hc (by omega) (by omega)
    refine ⟨_, e, ⟨?_, fun l h1 => ⟨?_, fun k k1 k2 => ?_⟩, fun hn => absurd hn hx⟩, Fx.stI ⟨by omega, by omega⟩⟩
    · rw [q_iI, q_us]
    · rw [q_iI, q_un (by omega)]; exact (hl l h1).1
    · rw [q_iI, q_un (by omega)]; exact (hl l h1).2 k k1 k2
theorem endl_lo {A : SA} {lv : Int32} {ln : SA} {i : Nat} (h : i < 1018) : sp_endl A lv ln i = A i := by
  unfold sp_endl; rw [if_neg (by omega), if_neg (by omega), if_neg (by omega)]
theorem endl_hi {A : SA} {lv : Int32} {ln : SA} {i : Nat} (h : 5940 ≤ i) : sp_endl A lv ln i = A i := by
  unfold sp_endl; rw [if_neg (by omega), if_neg (by omega), if_neg (by omega)]
theorem endl_19 {A : SA} {lv : Int32} {ln : SA} : sp_endl A lv ln 1019 = A 1019 := by
  unfold sp_endl; rw [if_neg (by omega), if_neg (by omega), if_neg (by omega)]
theorem endl_18 {A : SA} {lv : Int32} {ln : SA} : sp_endl A lv ln 1018 = A 1018 + nI 1 := by unfold sp_endl; rw [if_pos rfl]
theorem WM.cgl {A B : SA} {b : Nat} (h : WM A b) (e : ∀ i, i < 1018 → B i = A i) (e18 : B 1018 = A 1018 + nI 1) (e19 : B 1019 = A 1019) (e2 : ∀ i, 5940 ≤ i → B i = A i) : WM B (b + 1) := by
  obtain ⟨m1, m2, m3, m4, m5, m6, m7, m8⟩ := h
  unfold WM
  rw [e 1000 (by decide), e 1001 (by decide), e 1002 (by decide), e 1 (by decide), e 8 (by decide), e18, e19]
  exact ⟨m1, m2, m3, fun j hj => by rw [e _ (by omega)]; exact m4 j hj, fun j hj => by rw [e _ (by omega)]; exact (m5 j hj).up (by omega), m6.suc, m7.up (by omega), fun i q a1 a2 a3 => by rw [e2 _ (by omega)]; exact m8 i q a1 a2 a3⟩
/-- the end of a line -/
theorem LnP.fin {μ0 μ : Mem} {r b : Nat} {A : SA} {lv : Int32} {ln : SA} (h : MO μ0 r A b) (hb : b < 1000000) (f : Fx (PR r) μ0 μ) (k : LnP (gI μ) r A (nt (A 1018)) lv ln) : MO μ r (sp_endl A lv ln) (b + 1) := by
  obtain ⟨s, hr, w, m⟩ := h
  have q := m.2.2.2.2.2.1.ex (by omega)
  have e : ∀ i, i < 1018 → sp_endl A lv ln i = A i := fun i hi => endl_lo hi
  have eI : ∀ a, ¬ (r + 26 ≤ a ∧ a < r + 29) → gI μ a = gI μ0 a := fun a ha => f.I ha
  have h18 : sp_endl A lv ln 1018 = nI (nt (A 1018) + 1) := by
    rw [endl_18]; conv => lhs; rw [q.1]
    rw [nI_add]
  have hn : nt (sp_endl A lv ln 1018) = nt (A 1018) + 1 := by rw [h18, nt_nI (by omega)]
  refine ⟨s.fx f, ⟨hr.1.cg w (fun q _ _ => eI q (by omega)) (fun i hi => e i (by omega)), hr.2.1.cg w (eI _ (by omega)) (eI _ (by omega)) (fun i hi => e i (by omega)), hr.2.2.1.cg (eI _ (by omega)) (fun j _ => e _ (by omega)), hr.2.2.2.1.cg (eI _ (by omega)) (fun j _ => e _ (by omega)), hr.2.2.2.2.1.cg (eI _ (by omega)) (e _ (by omega)), hr.2.2.2.2.2.1.cg (eI _ (by omega)) (fun l _ _ => e _ (by omega)), ⟨k.1.trans h18.symm, ?_⟩, hr.2.2.2.2.2.2.2.1.cg (eI _ (by omega)) (eI _ (by omega)) endl_19 (fun i h1 _ => endl_hi h1), hr.2.2.2.2.2.2.2.2.cg (eI _ (by omega)) endl_19 (e _ (by omega)) (e _ (by omega))⟩, w.cg (fun i hi => e i (by omega)), m.cgl e endl_18 endl_19 (fun i hi => endl_hi hi)⟩
  rw [hn]
  intro l hl
  by_cases hln : l < nt (A 1018)
  · have := k.2.1 l (by omega)
    refine ⟨?_, fun p p1 p2 => ?_⟩
    · rw [this.1]; unfold sp_endl; rw [if_neg (by omega), if_neg (by omega), if_neg (by omega)]
    · rw [this.2 p p1 p2]; unfold sp_endl; rw [if_neg (by omega), if_neg (by omega), if_neg (by omega)]
  · have hl2 : l = nt (A 1018) := by omega
    subst hl2
    have := k.2.2 (by omega)
    refine ⟨?_, fun p p1 p2 => ?_⟩
    · rw [this.1]; unfold sp_endl; rw [if_neg (by omega), if_pos (by omega)]
    · rw [this.2 p p1 p2]; unfold sp_endl; rw [if_neg (by omega), if_neg (by omega), if_pos (by omega)]
      congr 1; omega

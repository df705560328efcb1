/-! LAYER 3: the class's machine: summary cards -/
def UR (r : Nat) : Nat → Prop := fun a => a = r ∨ a = r + 29 ∨ a = r + 30
/-- a summary card is being punched: the n-th -/
def UP (I : Nat → SA) (r : Nat) (A : SA) (n : Nat) (cd : SA) : Prop := I (r + 29) 1 = nI (min (n + 1) 40) ∧ RUl I r A (min n 40) ∧ (n < 40 → ∀ k, 1 ≤ k → k ≤ 20 → I (r + 30) (n * 20 + k - 1) = cd (k - 1))
/-- the number that the class gives the card: none behind a full deck -/
def cn (n : Nat) : Int32 := if n < 40 then nI n else -nI 1
theorem UP.put {μ : Mem} {r n k : Nat} {A : SA} {v : Int32} {cd : SA} (s : SM μ r) (h : UP (gI μ) r A n cd) (h1 : 1 ≤ k) (h2 : k < 2 ^ 20) : ∃ μ', F_X2_punchColumn (r + 29) (cn n) (nI k) v μ = some μ' ∧ UP (gI μ') r A n (pu k v cd) ∧ Fx (fun a => a = r + 30) μ μ' := by
  by_cases hn : n < 40
  · have hc : gI μ (r + 29) 1 = nI (n + 1) := by have := h.1; rw [Nat.min_eq_left (by omega)] at this; exact this
    have e := x2_punch (v := v) (i := n) s.su hc (by omega) (by omega) h1 (by omega)
    rw [show r + 29 + 1 = r + 30 from rfl] at e
    have ec : cn n = nI n := by unfold cn; rw [if_pos hn]
    by_cases hk : k ≤ 20
    · rw [if_pos hk] at e
      refine ⟨_, by rw [ec]; exact e, ⟨?_, fun i q hi q1 q2 => ?_, fun _ q q1 q2 => ?_⟩, Fx.stI rfl⟩
      · rw [q_iI, q_un (by omega)]; exact h.1
      · rw [q_iI, q_un (by omega)]; exact h.2.1 i q hi q1 q2
      · rw [q_iI]; unfold pu; rw [if_pos hk]
        by_cases hq : q = k
        · subst hq; rw [q_us, ua_s]
        · rw [q_un (by omega), ua_n (by omega)]; exact h.2.2 hn q q1 q2
    · rw [if_neg hk] at e
      refine ⟨_, by rw [ec]; exact e, ⟨h.1, h.2.1, fun _ q q1 q2 => ?_⟩, Fx.same⟩
      unfold pu; rw [if_neg hk]; exact h.2.2 hn q q1 q2
  · have ec : cn n = -nI 1 := by unfold cn; rw [if_neg hn]
    exact ⟨μ, by rw [ec]; exact x2_punchN (by decide +kernel), ⟨h.1, h.2.1, fun hn2 => absurd hn2 hn⟩, Fx.same⟩
/-- what stays while a card is punched -/
def UQ (μ : Mem) (r : Nat) (A : SA) : Prop := SM μ r ∧ RBD (gI μ) r A ∧ RN (gI μ) r A ∧ WB A ∧ gI μ r 10 = A 1000
theorem UQ.fx {μ μ' : Mem} {r : Nat} {A : SA} (h : UQ μ r A) (f : Fx (fun a => a = r + 30) μ μ') : UQ μ' r A := by
  have eI : ∀ a, ¬ a = r + 30 → gI μ' a = gI μ a := fun a ha => f.I ha
  exact ⟨h.1.fx f, h.2.1.cg h.2.2.2.1 (fun a h1 h2 => eI a (by omega)) (fun _ _ => rfl), h.2.2.1.cg (eI _ (by omega)) (fun _ _ => rfl), h.2.2.2.1, by rw [eI _ (by omega)]; exact h.2.2.2.2⟩
theorem l_pf {r nn col fm to : Nat} {A : SA} (hd : 1 ≤ nt (A 1000)) (hd2 : nt (A 1000) - 1 < nt (A 8)) (hda : A 1000 = nI (nt (A 1000))) (hfm : 1 ≤ fm) (hto : to ≤ 20) (hcl : 1 ≤ col) (hcl2 : col ≤ 20) : ∀ (m n c : Nat) (cd : SA) (μ : Mem), m < n → c + m = to + 1 → fm ≤ c → UQ μ r A → UP (gI μ) r A nn cd →
    ∃ μ', L_X3_punchField_32 n r (cn nn) (nI col) (nI fm) (nI to) (nI c) μ = some μ' ∧ UP (gI μ') r A nn (sp_pf A fm col c m cd) ∧ Fx (fun a => a = r + 30) μ μ' := by
  intro m
  induction m with
  | zero =>
    intro n c cd μ hn he h1 q h
    obtain ⟨n, rfl⟩ : ∃ k, n = k + 1 := ⟨n - 1, by omega⟩
    exact ⟨μ, by simp (disch := first | assumption | omega) only [q_bl, q_baT, q_bi, q_ba, q_pr, q_ob, q_iT, q_iN, q_it, q_if, q_of, nI_add, pk_mul, pk_sub, nI_leI, nI_ltI, nI_eq, nI_clamp, nI_lt0, nI_eqm, m1_eq, true_or, or_true, not_false_eq_true, m1_lt, m1_nlt, m1_le, m1_nle, b01, b011, q_em, q_m1, n_0, n_1, n_2, n_3, n_4, n_5, n_6, n_7, n_8, n_9, n_10, n_11, n_12, n_14, n_15, n_16, n_20, n_24, n_25, n_32, n_36, n_40, n_41, n_42, n_43, n_45, n_46, n_48, n_57, n_59, n_60, n_73, n_76, n_97, n_99, n_100, n_106, n_109, n_120, n_122, n_136, n_160, n_176, n_200, n_255, n_800, n_1000, n_1001, n_1002, n_1003, n_1006, n_1012, n_1018, n_1019, n_1020, n_1100, n_1140, n_4800, n_4920, n_5940, n_6740, n_20220, q_kI, q_lI, q_nI, q_rI, q_iI, q_jI, q_dI, q_kJ, q_lJ, q_nJ, q_rJ, q_iJ, q_jJ, q_dJ, q_kC, q_lC, q_nC, q_rC, q_jC, q_dC, q_kF, q_lF, q_nF, q_rF, q_jF, q_dF, q_us, q_un, q_ua, L_X3_punchField_32, B_X3_punchField_32], h, Fx.same⟩
  | succ m ih =>
    intro n c cd μ hn he h1 q h
    obtain ⟨n, rfl⟩ : ∃ k, n = k + 1 := ⟨n - 1, by omega⟩
    have q' := q
    obtain ⟨s, hr, hN, w, hdn⟩ := q'
    have c8 := w.c8.2
    rw [hda] at hdn
    have hk := hr.code s w hd2 (show 1 ≤ c by omega) (show c ≤ 20 by omega)
    obtain ⟨μ1, q1, q2, q3⟩ := UP.put (k := col + c - fm) (v := A (200 + 20 * (nt (A 1000) - 1) + c - 1)) s h (by omega) (by omega)
    obtain ⟨μ2, p1, p2, p3⟩ := ih n (c + 1) _ μ1 (by omega) (by omega) (by omega) (q.fx q3) q2
    exact ⟨μ2, by simp (disch := first | assumption | omega) only [q_bl, q_baT, q_bi, q_ba, q_pr, q_ob, q_iT, q_iN, q_it, q_if, q_of, nI_add, pk_mul, pk_sub, nI_leI, nI_ltI, nI_eq, nI_clamp, nI_lt0, nI_eqm, m1_eq, true_or, or_true, not_false_eq_true, m1_lt, m1_nlt, m1_le, m1_nle, b01, b011, q_em, q_m1, n_0, n_1, n_2, n_3, n_4, n_5, n_6, n_7, n_8, n_9, n_10, n_11, n_12, n_14, n_15, n_16, n_20, n_24, n_25, n_32, n_36, n_40, n_41, n_42, n_43, n_45, n_46, n_48, n_57, n_59, n_60, n_73, n_76, n_97, n_99, n_100, n_106, n_109, n_120, n_122, n_136, n_160, n_176, n_200, n_255, n_800, n_1000, n_1001, n_1002, n_1003, n_1006, n_1012, n_1018, n_1019, n_1020, n_1100, n_1140, n_4800, n_4920, n_5940, n_6740, n_20220, q_kI, q_lI, q_nI, q_rI, q_iI, q_jI, q_dI, q_kJ, q_lJ, q_nJ, q_rJ, q_iJ, q_jJ, q_dJ, q_kC, q_lC, q_nC, q_rC, q_jC, q_dC, q_kF, q_lF, q_nF, q_rF, q_jF, q_dF, q_us, q_un, q_ua, L_X3_punchField_32, B_X3_punchField_32, s.k0, s.r1, s.k19, s.r8, s.k29, hdn, hk, q1, p1], p2, q3.trans p3⟩
theorem l_pc {r nn col w : Nat} {A : SA} {x : Int32} (hcl : 1 ≤ col) (hcl2 : col ≤ 20) (hw1 : 1 ≤ w) (hw2 : w ≤ 9) : ∀ (m n left : Nat) (cd : SA) (μ : Mem), m < n → m ≤ w → left < 2 ^ 30 → SM μ r → UP (gI μ) r A nn cd →
    ∃ μ', L_X3_punchCounter_44 n r (cn nn) (nI col) x (nI (col + w - 1)) (nI left) (nI (col + m) + -nI 1) μ = some μ' ∧ UP (gI μ') r A nn (sp_pc (decide (x < nI 0)) col w m left cd) ∧ Fx (fun a => a = r + 30) μ μ' := by
  intro m
  induction m with
  | zero =>
    intro n left cd μ hn hm hl s h
    obtain ⟨n, rfl⟩ : ∃ k, n = k + 1 := ⟨n - 1, by omega⟩
    have e0 : nI (col + 0) + -nI 1 = nI (col - 1) := by
      have := q_m1 (col - 1); rw [show col - 1 + 1 = col + 0 from by omega] at this; exact this
    exact ⟨μ, by simp (disch := first | assumption | omega) only [q_bl, q_baT, q_bi, q_ba, q_pr, q_ob, q_iT, q_iN, q_it, q_if, q_of, nI_add, pk_mul, pk_sub, nI_leI, nI_ltI, nI_eq, nI_clamp, nI_lt0, nI_eqm, m1_eq, true_or, or_true, not_false_eq_true, m1_lt, m1_nlt, m1_le, m1_nle, b01, b011, q_em, q_m1, n_0, n_1, n_2, n_3, n_4, n_5, n_6, n_7, n_8, n_9, n_10, n_11, n_12, n_14, n_15, n_16, n_20, n_24, n_25, n_32, n_36, n_40, n_41, n_42, n_43, n_45, n_46, n_48, n_57, n_59, n_60, n_73, n_76, n_97, n_99, n_100, n_106, n_109, n_120, n_122, n_136, n_160, n_176, n_200, n_255, n_800, n_1000, n_1001, n_1002, n_1003, n_1006, n_1012, n_1018, n_1019, n_1020, n_1100, n_1140, n_4800, n_4920, n_5940, n_6740, n_20220, q_kI, q_lI, q_nI, q_rI, q_iI, q_jI, q_dI, q_kJ, q_lJ, q_nJ, q_rJ, q_iJ, q_jJ, q_dJ, q_kC, q_lC, q_nC, q_rC, q_jC, q_dC, q_kF, q_lF, q_nF, q_rF, q_jF, q_dF, q_us, q_un, q_ua, L_X3_punchCounter_44, B_X3_punchCounter_44, e0], h, Fx.same⟩
  | succ m ih =>
    intro n left cd μ hn hm hl s h
    obtain ⟨n, rfl⟩ : ∃ k, n = k + 1 := ⟨n - 1, by omega⟩
    have e0 : nI (col + (m + 1)) + -nI 1 = nI (col + m) := q_m1 (col + m)
    have hr : left - left / 10 * 10 = left % 10 := by omega
    have hd := pk_div (a := left) (d := 10) (by omega) (by decide) (by decide)
    by_cases hx : x < nI 0
    · have hy : ¬ nI 0 ≤ x := by rw [lt0_T] at hx; rw [le0_T]; omega
      by_cases hm2 : m = w - 1
      · obtain ⟨μ1, q1, q2, q3⟩ := UP.put (k := col + m) (v := nI (100 + left % 10)) s h (by omega) (by omega)
        obtain ⟨μ2, p1, p2, p3⟩ := ih n (left / 10) _ μ1 (by omega) (by omega) (by omega) (s.fx q3) q2
        refine ⟨μ2, ?_, ?_, q3.trans p3⟩
        · simp (disch := first | assumption | omega) only [q_bl, q_baT, q_bi, q_ba, q_pr, q_ob, q_iT, q_iN, q_it, q_if, q_of, nI_add, pk_mul, pk_sub, nI_leI, nI_ltI, nI_eq, nI_clamp, nI_lt0, nI_eqm, m1_eq, true_or, or_true, not_false_eq_true, m1_lt, m1_nlt, m1_le, m1_nle, b01, b011, q_em, q_m1, n_0, n_1, n_2, n_3, n_4, n_5, n_6, n_7, n_8, n_9, n_10, n_11, n_12, n_14, n_15, n_16, n_20, n_24, n_25, n_32, n_36, n_40, n_41, n_42, n_43, n_45, n_46, n_48, n_57, n_59, n_60, n_73, n_76, n_97, n_99, n_100, n_106, n_109, n_120, n_122, n_136, n_160, n_176, n_200, n_255, n_800, n_1000, n_1001, n_1002, n_1003, n_1006, n_1012, n_1018, n_1019, n_1020, n_1100, n_1140, n_4800, n_4920, n_5940, n_6740, n_20220, q_kI, q_lI, q_nI, q_rI, q_iI, q_jI, q_dI, q_kJ, q_lJ, q_nJ, q_rJ, q_iJ, q_jJ, q_dJ, q_kC, q_lC, q_nC, q_rC, q_jC, q_dC, q_kF, q_lF, q_nF, q_rF, q_jF, q_dF, q_us, q_un, q_ua, L_X3_punchCounter_44, B_X3_punchCounter_44, B_X3_punchCounter_67, B_X3_punchCounter_97, s.k0, s.r8, s.k29, e0, q1, hr, hd, p1]
        · unfold sp_pc; rw [if_pos ⟨hm2, decide_eq_true hx⟩, Nat.add_comm (left % 10) 100]; exact p2
      · obtain ⟨μ1, q1, q2, q3⟩ := UP.put (k := col + m) (v := nI (left % 10)) s h (by omega) (by omega)
        obtain ⟨μ2, p1, p2, p3⟩ := ih n (left / 10) _ μ1 (by omega) (by omega) (by omega) (s.fx q3) q2
        refine ⟨μ2, ?_, ?_, q3.trans p3⟩
        · simp (disch := first | assumption | omega) only [q_bl, q_baT, q_bi, q_ba, q_pr, q_ob, q_iT, q_iN, q_it, q_if, q_of, nI_add, pk_mul, pk_sub, nI_leI, nI_ltI, nI_eq, nI_clamp, nI_lt0, nI_eqm, m1_eq, true_or, or_true, not_false_eq_true, m1_lt, m1_nlt, m1_le, m1_nle, b01, b011, q_em, q_m1, n_0, n_1, n_2, n_3, n_4, n_5, n_6, n_7, n_8, n_9, n_10, n_11, n_12, n_14, n_15, n_16, n_20, n_24, n_25, n_32, n_36, n_40, n_41, n_42, n_43, n_45, n_46, n_48, n_57, n_59, n_60, n_73, n_76, n_97, n_99, n_100, n_106, n_109, n_120, n_122, n_136, n_160, n_176, n_200, n_255, n_800, n_1000, n_1001, n_1002, n_1003, n_1006, n_1012, n_1018, n_1019, n_1020, n_1100, n_1140, n_4800, n_4920, n_5940, n_6740, n_20220, q_kI, q_lI, q_nI, q_rI, q_iI, q_jI, q_dI, q_kJ, q_lJ, q_nJ, q_rJ, q_iJ, q_jJ, q_dJ, q_kC, q_lC, q_nC, q_rC, q_jC, q_dC, q_kF, q_lF, q_nF, q_rF, q_jF, q_dF, q_us, q_un, q_ua, L_X3_punchCounter_44, B_X3_punchCounter_44, B_X3_punchCounter_66, B_X3_punchCounter_67, B_X3_punchCounter_97, s.k0, s.r8, s.k29, e0, q1, hr, hd, p1]
        · unfold sp_pc; rw [if_neg (fun e => hm2 e.1)]; exact p2
    · have hy : nI 0 ≤ x := by rw [lt0_T] at hx; rw [le0_T]; omega
      obtain ⟨μ1, q1, q2, q3⟩ := UP.put (k := col + m) (v := nI (left % 10)) s h (by omega) (by omega)
      obtain ⟨μ2, p1, p2, p3⟩ := ih n (left / 10) _ μ1 (by omega) (by omega) (by omega) (s.fx q3) q2
      refine ⟨μ2, ?_, ?_, q3.trans p3⟩
      · simp (disch := first | assumption | omega) only [q_bl, q_baT, q_bi, q_ba, q_pr, q_ob, q_iT, q_iN, q_it, q_if, q_of, nI_add, pk_mul, pk_sub, nI_leI, nI_ltI, nI_eq, nI_clamp, nI_lt0, nI_eqm, m1_eq, true_or, or_true, not_false_eq_true, m1_lt, m1_nlt, m1_le, m1_nle, b01, b011, q_em, q_m1, n_0, n_1, n_2, n_3, n_4, n_5, n_6, n_7, n_8, n_9, n_10, n_11, n_12, n_14, n_15, n_16, n_20, n_24, n_25, n_32, n_36, n_40, n_41, n_42, n_43, n_45, n_46, n_48, n_57, n_59, n_60, n_73, n_76, n_97, n_99, n_100, n_106, n_109, n_120, n_122, n_136, n_160, n_176, n_200, n_255, n_800, n_1000, n_1001, n_1002, n_1003, n_1006, n_1012, n_1018, n_1019, n_1020, n_1100, n_1140, n_4800, n_4920, n_5940, n_6740, n_20220, q_kI, q_lI, q_nI, q_rI, q_iI, q_jI, q_dI, q_kJ, q_lJ, q_nJ, q_rJ, q_iJ, q_jJ, q_dJ, q_kC, q_lC, q_nC, q_rC, q_jC, q_dC, q_kF, q_lF, q_nF, q_rF, q_jF, q_dF, q_us, q_un, q_ua, L_X3_punchCounter_44, B_X3_punchCounter_44, B_X3_punchCounter_66, B_X3_punchCounter_67, B_X3_punchCounter_97, s.k0, s.r8, s.k29, e0, q1, hr, hd, p1]
      · unfold sp_pc; rw [if_neg (fun e => hx (of_decide_eq_true e.2))]; exact p2
theorem l_puns {r nn l : Nat} {A : SA} (hl : l ≤ 3) (hd : 1 ≤ nt (A 1000)) (hd2 : nt (A 1000) - 1 < nt (A 8)) (hda : A 1000 = nI (nt (A 1000))) (hv : ∀ k, k < 6 → (A (1006 + k)).toInt.natAbs < 1000000000) : ∀ (m n k : Nat) (cd : SA) (μ : Mem), m < n → k + m = nt (A 7) → UQ μ r A → UP (gI μ) r A nn cd →
    ∃ μ', L_X3_punchSummary_39 n r (nI l) (r + 16) (cn nn) (nI k) μ = some μ' ∧ UP (gI μ') r A nn (sp_puns A l k m cd) ∧ Fx (fun a => a = r + 30) μ μ' := by
  intro m
  induction m with
  | zero =>
    intro n k cd μ hn he q h
    obtain ⟨n, rfl⟩ : ∃ k, n = k + 1 := ⟨n - 1, by omega⟩
    obtain ⟨s, hr, hN, w, hdn⟩ := q
    have c7 := w.c7.2
    exact ⟨μ, by simp (disch := first | assumption | omega) only [q_bl, q_baT, q_bi, q_ba, q_pr, q_ob, q_iT, q_iN, q_it, q_if, q_of, nI_add, pk_mul, pk_sub, nI_leI, nI_ltI, nI_eq, nI_clamp, nI_lt0, nI_eqm, m1_eq, true_or, or_true, not_false_eq_true, m1_lt, m1_nlt, m1_le, m1_nle, b01, b011, q_em, q_m1, n_0, n_1, n_2, n_3, n_4, n_5, n_6, n_7, n_8, n_9, n_10, n_11, n_12, n_14, n_15, n_16, n_20, n_24, n_25, n_32, n_36, n_40, n_41, n_42, n_43, n_45, n_46, n_48, n_57, n_59, n_60, n_73, n_76, n_97, n_99, n_100, n_106, n_109, n_120, n_122, n_136, n_160, n_176, n_200, n_255, n_800, n_1000, n_1001, n_1002, n_1003, n_1006, n_1012, n_1018, n_1019, n_1020, n_1100, n_1140, n_4800, n_4920, n_5940, n_6740, n_20220, q_kI, q_lI, q_nI, q_rI, q_iI, q_jI, q_dI, q_kJ, q_lJ, q_nJ, q_rJ, q_iJ, q_jJ, q_dJ, q_kC, q_lC, q_nC, q_rC, q_jC, q_dC, q_kF, q_lF, q_nF, q_rF, q_jF, q_dF, q_us, q_un, q_ua, L_X3_punchSummary_39, B_X3_punchSummary_39, s.k16, hr.n7 w], h, Fx.same⟩
  | succ m ih =>
    intro n k cd μ hn he q h
    obtain ⟨n, rfl⟩ : ∃ k, n = k + 1 := ⟨n - 1, by omega⟩
    have q' := q
    obtain ⟨s, hr, hN, w, hdn⟩ := q'
    have c7 := w.c7.2
    have c2 := w.c2.2
    have c0 := w.c0.2
    have hk : k < nt (A 7) := by omega
    have c := w.pun hk
    have t7 := hr.1.2.2.2.2.2.2.2.1.2 k hk
    have a0 := x6_at (p := 0) s.st7 (hr.n7 w) (by omega) hk (by decide)
    have a1 := x6_at (p := 1) s.st7 (hr.n7 w) (by omega) hk (by decide)
    have a2 := x6_at (p := 2) s.st7 (hr.n7 w) (by omega) hk (by decide)
    have a3 := x6_at (p := 3) s.st7 (hr.n7 w) (by omega) hk (by decide)
    rw [show r + 16 + 1 = r + 17 from rfl] at a0 a1 a2 a3 t7
    rw [t7.1, c.1] at a0
    rw [t7.2.1, c.2.2.1] at a3
    by_cases hx : nt (A (176 + 3 * k)) = l
    · have hA : A (176 + 3 * k) = nI l := by rw [c.1, hx]
      rcases t7.2.2 with ⟨w1, w2, w3⟩ | ⟨w1, w2, w3⟩
      · have hf : nt (A (176 + 3 * k + 1)) < nt (A 0) := by rcases c.2.2.2.2.2.1 with e | e <;> omega
        rw [w2] at a1
        rw [w3, c.2.1] at a2
        have q0 := w.fld hf
        have b0 := x6_at (p := 0) s.st0 (hr.n0 w) (by omega) hf (by decide)
        have b1 := x6_at (p := 1) s.st0 (hr.n0 w) (by omega) hf (by decide)
        rw [show r + 2 + 1 = r + 3 from rfl, (hr.fld w hf).1] at b0
        rw [show r + 2 + 1 = r + 3 from rfl, (hr.fld w hf).2] at b1
        obtain ⟨μ1, e1, p1, f1⟩ := l_pf (nn := nn) hd hd2 hda q0.2.2.1 q0.2.2.2.2.1 c.2.2.2.2.2.2.1 c.2.2.2.2.2.2.2 (tr A (nt (A (176 + 3 * k + 1))) + 1 - fr A (nt (A (176 + 3 * k + 1)))) FU (fr A (nt (A (176 + 3 * k + 1)))) cd μ (FU_gt (by omega)) (by omega) (by omega) q h
        obtain ⟨μ2, e2, p2, f2⟩ := ih n (k + 1) _ μ1 (by omega) (by omega) (q.fx f1) p1
        refine ⟨μ2, ?_, ?_, f1.trans f2⟩
        · simp (disch := first | assumption | omega) only [q_bl, q_baT, q_bi, q_ba, q_pr, q_ob, q_iT, q_iN, q_it, q_if, q_of, nI_add, pk_mul, pk_sub, nI_leI, nI_ltI, nI_eq, nI_clamp, nI_lt0, nI_eqm, m1_eq, true_or, or_true, not_false_eq_true, m1_lt, m1_nlt, m1_le, m1_nle, b01, b011, q_em, q_m1, n_0, n_1, n_2, n_3, n_4, n_5, n_6, n_7, n_8, n_9, n_10, n_11, n_12, n_14, n_15, n_16, n_20, n_24, n_25, n_32, n_36, n_40, n_41, n_42, n_43, n_45, n_46, n_48, n_57, n_59, n_60, n_73, n_76, n_97, n_99, n_100, n_106, n_109, n_120, n_122, n_136, n_160, n_176, n_200, n_255, n_800, n_1000, n_1001, n_1002, n_1003, n_1006, n_1012, n_1018, n_1019, n_1020, n_1100, n_1140, n_4800, n_4920, n_5940, n_6740, n_20220, q_kI, q_lI, q_nI, q_rI, q_iI, q_jI, q_dI, q_kJ, q_lJ, q_nJ, q_rJ, q_iJ, q_jJ, q_dJ, q_kC, q_lC, q_nC, q_rC, q_jC, q_dC, q_kF, q_lF, q_nF, q_rF, q_jF, q_dF, q_us, q_un, q_ua, L_X3_punchSummary_39, B_X3_punchSummary_39, B_X3_punchSummary_109, F_X3_punchField, s.k16, s.k0, s.r0, s.k1, s.b0, s.k2, hr.n7 w, a0, a1, a2, a3, b0, b1, e1, e2]
        · unfold sp_puns sp_p1; rw [if_pos hA, if_pos w1]; exact p2
      · have hc : nt (A (176 + 3 * k + 1)) - 8 < nt (A 2) := by rcases c.2.2.2.2.2.1 with e | e <;> omega
        rw [w2] at a1
        rw [w3] at a2
        have cc := w.ctr hc
        have aw := x6_at (p := 0) s.st2 (hr.n2 w) (by omega) hc (by decide)
        rw [show r + 6 + 1 = r + 7 from rfl, hr.1.2.2.1.2 _ 0 hc (by decide), show 43 + 5 * (nt (A (176 + 3 * k + 1)) - 8) + 0 = 43 + 5 * (nt (A (176 + 3 * k + 1)) - 8) from rfl, cc.1] at aw
        have hi : 1006 + (nt (A (176 + 3 * k + 1)) - 8) = 1006 + nt (A (176 + 3 * k + 1)) - 8 := by omega
        have hn1 : F_X3_numberIn r (nI (nt (A (176 + 3 * k + 1)) - 8)) μ = some (A (1006 + nt (A (176 + 3 * k + 1)) - 8)) := by
          have hn : gI μ (r + 21) (nt (A (176 + 3 * k + 1)) - 8) = A (1006 + nt (A (176 + 3 * k + 1)) - 8) := by rw [← hi]; exact hN _ (by omega)
          simp (disch := first | assumption | omega) only [q_bl, q_baT, q_bi, q_ba, q_pr, q_ob, q_iT, q_iN, q_it, q_if, q_of, nI_add, pk_mul, pk_sub, nI_leI, nI_ltI, nI_eq, nI_clamp, nI_lt0, nI_eqm, m1_eq, true_or, or_true, not_false_eq_true, m1_lt, m1_nlt, m1_le, m1_nle, b01, b011, q_em, q_m1, n_0, n_1, n_2, n_3, n_4, n_5, n_6, n_7, n_8, n_9, n_10, n_11, n_12, n_14, n_15, n_16, n_20, n_24, n_25, n_32, n_36, n_40, n_41, n_42, n_43, n_45, n_46, n_48, n_57, n_59, n_60, n_73, n_76, n_97, n_99, n_100, n_106, n_109, n_120, n_122, n_136, n_160, n_176, n_200, n_255, n_800, n_1000, n_1001, n_1002, n_1003, n_1006, n_1012, n_1018, n_1019, n_1020, n_1100, n_1140, n_4800, n_4920, n_5940, n_6740, n_20220, q_kI, q_lI, q_nI, q_rI, q_iI, q_jI, q_dI, q_kJ, q_lJ, q_nJ, q_rJ, q_iJ, q_jJ, q_dJ, q_kC, q_lC, q_nC, q_rC, q_jC, q_dC, q_kF, q_lF, q_nF, q_rF, q_jF, q_dF, q_us, q_un, q_ua, F_X3_numberIn, s.k0, s.r2, s.k21, s.l21, hn]
        have hv1 : (A (1006 + nt (A (176 + 3 * k + 1)) - 8)).toInt.natAbs < 1000000000 := by rw [← hi]; exact hv _ (by omega)
        generalize hxv : A (1006 + nt (A (176 + 3 * k + 1)) - 8) = x at hn1 hv1
        obtain ⟨μ1, e1, p1, f1⟩ := l_pc (x := x) c.2.2.2.2.2.2.1 c.2.2.2.2.2.2.2 cc.2.2.2.2.2.1 cc.2.2.2.2.2.2.1 (nt (A (43 + 5 * (nt (A (176 + 3 * k + 1)) - 8)))) FU x.toInt.natAbs cd μ (FU_gt (by omega)) (by omega) (by omega) s h
        have e00 : nI (nt (A (176 + 3 * k + 2)) + nt (A (43 + 5 * (nt (A (176 + 3 * k + 1)) - 8)))) + -nI 1 = nI (nt (A (176 + 3 * k + 2)) + nt (A (43 + 5 * (nt (A (176 + 3 * k + 1)) - 8))) - 1) := by
          have := q_m1 (nt (A (176 + 3 * k + 2)) + nt (A (43 + 5 * (nt (A (176 + 3 * k + 1)) - 8))) - 1)
          rw [Nat.sub_add_cancel (by omega)] at this; exact this
        rw [e00] at e1
        obtain ⟨μ2, e2, p2, f2⟩ := ih n (k + 1) _ μ1 (by omega) (by omega) (q.fx f1) p1
        refine ⟨μ2, ?_, ?_, f1.trans f2⟩
        · by_cases h0 : 0 ≤ x.toInt
          · have s1 := sz_pos h0
            have s2 : nI 0 ≤ x := by rw [le0_T]; exact h0
            rw [← s1] at e1
            simp (disch := first | assumption | omega) only [q_bl, q_baT, q_bi, q_ba, q_pr, q_ob, q_iT, q_iN, q_it, q_if, q_of, nI_add, pk_mul, pk_sub, nI_leI, nI_ltI, nI_eq, nI_clamp, nI_lt0, nI_eqm, m1_eq, true_or, or_true, not_false_eq_true, m1_lt, m1_nlt, m1_le, m1_nle, b01, b011, q_em, q_m1, n_0, n_1, n_2, n_3, n_4, n_5, n_6, n_7, n_8, n_9, n_10, n_11, n_12, n_14, n_15, n_16, n_20, n_24, n_25, n_32, n_36, n_40, n_41, n_42, n_43, n_45, n_46, n_48, n_57, n_59, n_60, n_73, n_76, n_97, n_99, n_100, n_106, n_109, n_120, n_122, n_136, n_160, n_176, n_200, n_255, n_800, n_1000, n_1001, n_1002, n_1003, n_1006, n_1012, n_1018, n_1019, n_1020, n_1100, n_1140, n_4800, n_4920, n_5940, n_6740, n_20220, q_kI, q_lI, q_nI, q_rI, q_iI, q_jI, q_dI, q_kJ, q_lJ, q_nJ, q_rJ, q_iJ, q_jJ, q_dJ, q_kC, q_lC, q_nC, q_rC, q_jC, q_dC, q_kF, q_lF, q_nF, q_rF, q_jF, q_dF, q_us, q_un, q_ua, L_X3_punchSummary_39, B_X3_punchSummary_39, B_X3_punchSummary_109, F_X3_punchCounter, B_X3_punchCounter_38, s.k16, s.k0, s.r0, s.k1, s.b2, s.k6, hr.n7 w, a0, a1, a2, a3, aw, hn1, e1, e2]
          · have s1 := sz_neg (x := x) (by omega) (by omega)
            have s2 : ¬ nI 0 ≤ x := by rw [le0_T]; exact h0
            rw [← s1] at e1
            simp (disch := first | assumption | omega) only [q_bl, q_baT, q_bi, q_ba, q_pr, q_ob, q_iT, q_iN, q_it, q_if, q_of, nI_add, pk_mul, pk_sub, nI_leI, nI_ltI, nI_eq, nI_clamp, nI_lt0, nI_eqm, m1_eq, true_or, or_true, not_false_eq_true, m1_lt, m1_nlt, m1_le, m1_nle, b01, b011, q_em, q_m1, n_0, n_1, n_2, n_3, n_4, n_5, n_6, n_7, n_8, n_9, n_10, n_11, n_12, n_14, n_15, n_16, n_20, n_24, n_25, n_32, n_36, n_40, n_41, n_42, n_43, n_45, n_46, n_48, n_57, n_59, n_60, n_73, n_76, n_97, n_99, n_100, n_106, n_109, n_120, n_122, n_136, n_160, n_176, n_200, n_255, n_800, n_1000, n_1001, n_1002, n_1003, n_1006, n_1012, n_1018, n_1019, n_1020, n_1100, n_1140, n_4800, n_4920, n_5940, n_6740, n_20220, q_kI, q_lI, q_nI, q_rI, q_iI, q_jI, q_dI, q_kJ, q_lJ, q_nJ, q_rJ, q_iJ, q_jJ, q_dJ, q_kC, q_lC, q_nC, q_rC, q_jC, q_dC, q_kF, q_lF, q_nF, q_rF, q_jF, q_dF, q_us, q_un, q_ua, L_X3_punchSummary_39, B_X3_punchSummary_39, B_X3_punchSummary_109, F_X3_punchCounter, B_X3_punchCounter_38, s.k16, s.k0, s.r0, s.k1, s.b2, s.k6, hr.n7 w, a0, a1, a2, a3, aw, hn1, e1, e2]
        · unfold sp_puns sp_p1; rw [if_pos hA, if_neg (by omega), hxv]; exact p2
    · obtain ⟨μ2, e2, m2, f2⟩ := ih n (k + 1) cd μ (by omega) (by omega) q h
      refine ⟨μ2, ?_, ?_, f2⟩
      · simp (disch := first | assumption | omega) only [q_bl, q_baT, q_bi, q_ba, q_pr, q_ob, q_iT, q_iN, q_it, q_if, q_of, nI_add, pk_mul, pk_sub, nI_leI, nI_ltI, nI_eq, nI_clamp, nI_lt0, nI_eqm, m1_eq, true_or, or_true, not_false_eq_true, m1_lt, m1_nlt, m1_le, m1_nle, b01, b011, q_em, q_m1, n_0, n_1, n_2, n_3, n_4, n_5, n_6, n_7, n_8, n_9, n_10, n_11, n_12, n_14, n_15, n_16, n_20, n_24, n_25, n_32, n_36, n_40, n_41, n_42, n_43, n_45, n_46, n_48, n_57, n_59, n_60, n_73, n_76, n_97, n_99, n_100, n_106, n_109, n_120, n_122, n_136, n_160, n_176, n_200, n_255, n_800, n_1000, n_1001, n_1002, n_1003, n_1006, n_1012, n_1018, n_1019, n_1020, n_1100, n_1140, n_4800, n_4920, n_5940, n_6740, n_20220, q_kI, q_lI, q_nI, q_rI, q_iI, q_jI, q_dI, q_kJ, q_lJ, q_nJ, q_rJ, q_iJ, q_jJ, q_dJ, q_kC, q_lC, q_nC, q_rC, q_jC, q_dC, q_kF, q_lF, q_nF, q_rF, q_jF, q_dF, q_us, q_un, q_ua, L_X3_punchSummary_39, B_X3_punchSummary_39, B_X3_punchSummary_109, s.k16, hr.n7 w, a0, e2]
      · have : ¬ A (176 + 3 * k) = nI l := by rw [c.1, nI_eq (by omega) (by omega)]; exact hx
        unfold sp_puns
        rw [if_neg this]
        exact m2

/-! LAYER 3: the reference's reader: steps -/
def RM (μ : Mem) (m : Nat) (b : Nat → Nat) (n p : Nat) (A : SA) (nc : Nat → Nat) (wn : Nat → Nat → List Nat) : Prop :=
  RBs μ m b n ∧ TKr μ m b n p ∧ p ≤ n ∧ (∀ i, i < 6740 → gI μ (m + 2) i = A i) ∧ (∀ t r, t < 3 → r < nc t → gJ μ (m + 7) (8 * t + r) = lN (nn (wn t r))) ∧ WN nc wn ∧ (∀ t, t < 3 → nc t ≤ 8) ∧ gI μ m 16 = nI 0 ∧ gI μ m 17 = -nI 1
def RFr (m : Nat) (μ μ' : Mem) : Prop := Fx (fun a => a = m ∨ a = m + 2 ∨ a = m + 7) μ μ' ∧ ∀ j, j < 11 → gI μ' m j = gI μ m j
def RE (μ : Mem) (m : Nat) (e : Nat × Nat) : Prop := gI μ m 16 = nI e.1 ∧ gI μ m 17 = nI e.2 ∧ 1 ≤ e.1 ∧ e.1 ≤ 5
theorem RFr.same {m : Nat} {μ : Mem} : RFr m μ μ := ⟨Fx.same, fun _ _ => rfl⟩
theorem RFr.trans {m : Nat} {μ1 μ2 μ3 : Mem} (h : RFr m μ1 μ2) (k : RFr m μ2 μ3) : RFr m μ1 μ3 := ⟨h.1.trans k.1, fun j hj => (k.2 j hj).trans (h.2 j hj)⟩
theorem RFr.mm {m : Nat} {μ μ' : Mem} (f : Fx (fun a => a = m) μ μ') (e : ∀ j, j < 11 → gI μ' m j = gI μ m j) : RFr m μ μ' := ⟨f.mono (fun a ha => Or.inl ha), e⟩
theorem trc_1 {t : Nat} (h : t ≤ 4) : (trc t = 1 ↔ t = 4) ∧ (trc t = 2 ↔ t = 1) ∧ (trc t = 3 ↔ t = 2) ∧ (trc t = 4 ↔ t = 3) ∧ (trc t = 0 ↔ t = 0) ∧ trc t ≤ 4 := by
  match t, h with
  | 0, _ => decide
  | 1, _ => decide
  | 2, _ => decide
  | 3, _ => decide
  | 4, _ => decide
  | t + 5, h => omega
section RST
variable {μ μ' : Mem} {m n p : Nat} {b : Nat → Nat} {A : SA} {nc : Nat → Nat} {wn : Nat → Nat → List Nat}
theorem RM.k0 (h : RM μ m b n p A nc wn) : gK μ m = 8 := h.1.1.k0
theorem RM.sr (h : RM μ m b n p A nc wn) : SR μ m := h.1.1
theorem RM.g13 (h : RM μ m b n p A nc wn) : gI μ m 13 = nI (trc (tk b n p)) := h.2.1.2.2.1
theorem RM.ext {A2 : SA} (h : RM μ m b n p A nc wn) (e : ∀ i, i < 6740 → A2 i = A i) : RM μ m b n p A2 nc wn := ⟨h.1, h.2.1, h.2.2.1, fun i hi => (h.2.2.2.1 i hi).trans (e i hi).symm, h.2.2.2.2⟩
theorem RM.adv (h : RM μ m b n p A nc wn) : ∃ μ', F_X9_advance m μ = some (nI 1, μ') ∧ RM μ' m b n (te b n p) A nc wn ∧ RFr m μ μ' ∧ ∀ j, j < 11 ∨ 16 ≤ j → gI μ' m j = gI μ m j := by
  obtain ⟨h1, h2, h3, h4, h5, h6, h7, z1, z2⟩ := h
  obtain ⟨μ', e1, t1, f1, g1⟩ := x9_adv h1 h2.2.1 (te_le h3)
  exact ⟨μ', e1, ⟨h1.mm f1 (g1 10 (by omega)), t1, te_le h3, fun i hi => by rw [f1.I (by omega)]; exact h4 i hi, fun t r ht hr => by rw [f1.J (by omega)]; exact h5 t r ht hr, h6, h7, (g1 16 (by omega)).trans z1, (g1 17 (by omega)).trans z2⟩, RFr.mm f1 (fun j hj => g1 j (by omega)), g1⟩
theorem RM.fail {k : Nat} (h : RM μ m b n p A nc wn) (h1 : 1 ≤ k) (h5 : k ≤ 5) : ∃ μ', F_X9_fail m (nI k) μ = some (nI 0, μ') ∧ RFr m μ μ' ∧ RE μ' m (if tk b n p = 4 then 1 else k, ts b n p) := by
  have hl := tk_le (b := b) (n := n) (p := p)
  obtain ⟨t1, -, -, -, -, t6⟩ := trc_1 hl
  have k0 := h.k0
  have g13 := h.g13
  have g11 := h.2.1.1
  have fx : ∀ v w, Fx (fun a => a = m) μ (stI (stI μ m 16 v) m 17 w) := fun v w => (Fx.stI (P := fun a => a = m) rfl).trans (Fx.stI rfl)
  refine ⟨stI (stI μ m 16 (nI (if tk b n p = 4 then 1 else k))) m 17 (nI (ts b n p)), ?_, RFr.mm (fx _ _) (fun j hj => by rw [q_iI, q_un (by omega), q_iI, q_un (by omega)]), by rw [q_iI, q_un (by omega), q_iI, q_us], by rw [q_iI, q_us], ?_, ?_⟩
  · clear h
    by_cases h4 : tk b n p = 4
    · rw [t1.mpr h4] at g13
      rw [if_pos h4]
      simp (disch := first | assumption | omega) only [q_bl, q_baT, q_bi, q_ba, q_pr, q_ob, q_iT, q_iN, q_it, q_if, q_of, nI_add, pk_mul, pk_sub, nI_leI, nI_ltI, nI_eq, nI_clamp, nI_lt0, nI_eqm, m1_eq, true_or, or_true, not_false_eq_true, m1_lt, m1_nlt, m1_le, m1_nle, b01, b011, q_em, q_m1, n_0, n_1, n_2, n_3, n_4, n_5, n_6, n_7, n_8, n_9, n_10, n_11, n_12, n_14, n_15, n_16, n_20, n_24, n_25, n_32, n_36, n_40, n_41, n_42, n_43, n_45, n_46, n_48, n_57, n_59, n_60, n_73, n_76, n_97, n_99, n_100, n_106, n_109, n_120, n_122, n_136, n_160, n_176, n_200, n_255, n_800, n_1000, n_1001, n_1002, n_1003, n_1006, n_1012, n_1018, n_1019, n_1020, n_1100, n_1140, n_4800, n_4920, n_5940, n_6740, n_20220, q_kI, q_lI, q_nI, q_rI, q_iI, q_jI, q_dI, q_kJ, q_lJ, q_nJ, q_rJ, q_iJ, q_jJ, q_dJ, q_kC, q_lC, q_nC, q_rC, q_jC, q_dC, q_kF, q_lF, q_nF, q_rF, q_jF, q_dF, q_us, q_un, q_ua, F_X9_fail, B_X9_fail_14, k0, g13, g11]
    · have hne : ¬ nI (trc (tk b n p)) = nI 1 := by rw [nI_eq (by omega) (by decide)]; exact fun q => h4 (t1.mp q)
      rw [if_neg h4]
      simp (disch := first | assumption | omega) only [q_bl, q_baT, q_bi, q_ba, q_pr, q_ob, q_iT, q_iN, q_it, q_if, q_of, nI_add, pk_mul, pk_sub, nI_leI, nI_ltI, nI_clamp, nI_lt0, nI_eqm, m1_eq, true_or, or_true, not_false_eq_true, m1_lt, m1_nlt, m1_le, m1_nle, b01, b011, q_em, q_m1, n_0, n_1, n_2, n_3, n_4, n_5, n_6, n_7, n_8, n_9, n_10, n_11, n_12, n_14, n_15, n_16, n_20, n_24, n_25, n_32, n_36, n_40, n_41, n_42, n_43, n_45, n_46, n_48, n_57, n_59, n_60, n_73, n_76, n_97, n_99, n_100, n_106, n_109, n_120, n_122, n_136, n_160, n_176, n_200, n_255, n_800, n_1000, n_1001, n_1002, n_1003, n_1006, n_1012, n_1018, n_1019, n_1020, n_1100, n_1140, n_4800, n_4920, n_5940, n_6740, n_20220, q_kI, q_lI, q_nI, q_rI, q_iI, q_jI, q_dI, q_kJ, q_lJ, q_nJ, q_rJ, q_iJ, q_jJ, q_dJ, q_kC, q_lC, q_nC, q_rC, q_jC, q_dC, q_kF, q_lF, q_nF, q_rF, q_jF, q_dF, q_us, q_un, q_ua, F_X9_fail, B_X9_fail_14, k0, g13, g11, hne]
  · show 1 ≤ (if tk b n p = 4 then 1 else k); split <;> omega
  · show (if tk b n p = 4 then 1 else k) ≤ 5; split <;> omega
theorem RM.put {i : Nat} {v : Int32} (h : RM μ m b n p A nc wn) : RM (stI μ (m + 2) i v) m b n p (ua A i v) nc wn ∧ RFr m μ (stI μ (m + 2) i v) := by
  obtain ⟨⟨s, a1, a2, a3⟩, ⟨t1, t2, t3, t4, t5, t6⟩, h3, h4, h5, h6, h7, z1, z2⟩ := h
  have f : Fx (fun a => a = m + 2) μ (stI μ (m + 2) i v) := Fx.stI rfl
  have e : gI (stI μ (m + 2) i v) m = gI μ m := f.I (by omega)
  refine ⟨⟨⟨s.fx f, by rw [e]; exact a1, a2, fun k hk => by rw [f.I (by omega)]; exact a3 k hk⟩, ⟨by rw [e]; exact t1, by rw [e]; exact t2, by rw [e]; exact t3, by rw [e]; exact t4, fun q => by rw [e]; exact t5 q, fun q => t6 q⟩, h3, fun j hj => ?_, fun t r ht hr => h5 t r ht hr, h6, h7, by rw [e]; exact z1, by rw [e]; exact z2⟩, f.mono (fun a ha => Or.inr (Or.inl ha)), fun j hj => by rw [e]⟩
  rw [q_iI]
  by_cases hji : j = i
  · subst hji; rw [q_us, ua_s]
  · rw [q_un (fun q => hji q.2), ua_n hji]; exact h4 j hj
theorem RM.m20 {v : Int32} (h : RM μ m b n p A nc wn) : RM (stI μ m 20 v) m b n p A nc wn ∧ RFr m μ (stI μ m 20 v) := by
  obtain ⟨⟨s, a1, a2, a3⟩, ⟨t1, t2, t3, t4, t5, t6⟩, h3, h4, h5, h6, h7, z1, z2⟩ := h
  have f : Fx (fun a => a = m) μ (stI μ m 20 v) := Fx.stI rfl
  have e : ∀ j, ¬ j = 20 → gI (stI μ m 20 v) m j = gI μ m j := fun j hj => by rw [q_iI, q_un (by omega)]
  exact ⟨⟨⟨s.fx f, (e 10 (by decide)).trans a1, a2, fun k hk => by rw [f.I (by omega)]; exact a3 k hk⟩, ⟨(e 11 (by decide)).trans t1, (e 12 (by decide)).trans t2, (e 13 (by decide)).trans t3, (e 14 (by decide)).trans t4, fun q => (e 15 (by decide)).trans (t5 q), fun q => t6 q⟩, h3, fun j hj => by rw [f.I (by omega)]; exact h4 j hj, fun t r ht hr => h5 t r ht hr, h6, h7, (e 16 (by decide)).trans z1, (e 17 (by decide)).trans z2⟩, RFr.mm f (fun j hj => e j (by omega))⟩
theorem bt_nat {v l1 l2 : Nat} (hv : v < 2 ^ 31) (h1 : l1 < 2 ^ 31) (h2 : l2 < 2 ^ 31) : F_X9_between ((nI v).toInt64) ((nI l1).toInt64) ((nI l2).toInt64) μ = some (if l1 ≤ v ∧ v ≤ l2 then nI 1 else nI 0) := by
  rw [x9_bt, I64_T, I64_T, I64_T, nI_toInt hv, nI_toInt h1, nI_toInt h2]
  by_cases h : l1 ≤ v ∧ v ≤ l2
  · rw [if_pos h, if_pos (by omega)]
  · rw [if_neg h, if_neg (by omega)]
theorem r_num {i l1 l2 : Nat} (h : RM μ m b n p A nc wn) (hi : i < 6740) (h1 : l1 < 1000) (h2 : l2 < 1000) : ∃ x μ', F_X9_numberTo m (nI i) (nI l1) (nI l2) μ = some (x, μ') ∧ RFr m μ μ' ∧
    ((x = nI 1 ∧ tk b n p = 2 ∧ l1 ≤ tv b n p ∧ tv b n p ≤ l2 ∧ RM μ' m b n (te b n p) (ua A i (nI (tv b n p))) nc wn ∧ ∀ ls A', g_num b n l1 l2 (.inr (p, ls, A', nc, wn)) = (tv b n p, .inr (te b n p, ts b n p, A', nc, wn))) ∨
     (x = nI 0 ∧ ∃ e, RE μ' m e ∧ ∀ ls A', (g_num b n l1 l2 (.inr (p, ls, A', nc, wn))).2 = .inl e)) := by
  have hl := tk_le (b := b) (n := n) (p := p)
  obtain ⟨-, -, t3, -, -, t6⟩ := trc_1 hl
  have k0 := h.k0
  have g13 := h.g13
  have eg : ∀ ls A', g_num b n l1 l2 (.inr (p, ls, A', nc, wn)) = if tk b n p = 2 then (if l1 ≤ tv b n p ∧ tv b n p ≤ l2 then (tv b n p, .inr (te b n p, ts b n p, A', nc, wn)) else (tv b n p, .inl (3, ts b n p))) else (0, .inl (ek (tk b n p), ts b n p)) := fun _ _ => rfl
  by_cases hk : tk b n p = 2
  · have hv := tv_lt hk
    have g15 := h.2.1.2.2.2.2.1 hk
    rw [t3.mpr hk] at g13
    have hb := bt_nat (μ := μ) (v := tv b n p) (l1 := l1) (l2 := l2) (by omega) (by omega) (by omega)
    by_cases hr : l1 ≤ tv b n p ∧ tv b n p ≤ l2
    · rw [if_pos hr] at hb
      obtain ⟨c1, f1⟩ := h.m20 (v := nI (tv b n p))
      obtain ⟨μ2, e2, c2, f2, g2⟩ := c1.adv
      obtain ⟨c3, f3⟩ := c2.put (i := i) (v := nI (tv b n p))
      have g20 : gI μ2 m 20 = nI (tv b n p) := by rw [g2 20 (by omega), q_iI, q_us]
      have s2 := c2.sr
      refine ⟨nI 1, _, ?_, f1.trans (f2.trans f3), Or.inl ⟨rfl, hk, hr.1, hr.2, c3, fun ls A' => by rw [eg, if_pos hk, if_pos hr]⟩⟩
      have z0 := s2.k0
      have z1 := s2.r1
      have z2 := s2.k2
      have z3 := s2.l2
      clear h c1 c2 c3 f1 f2 f3 g2 eg s2 hr
      simp (disch := first | assumption | omega) only [q_bl, q_baT, q_bi, q_ba, q_pr, q_ob, q_iT, q_iN, q_it, q_if, q_of, nI_add, pk_mul, pk_sub, nI_leI, nI_ltI, nI_eq, nI_clamp, nI_lt0, nI_eqm, m1_eq, true_or, or_true, not_false_eq_true, m1_lt, m1_nlt, m1_le, m1_nle, b01, b011, q_em, q_m1, n_0, n_1, n_2, n_3, n_4, n_5, n_6, n_7, n_8, n_9, n_10, n_11, n_12, n_14, n_15, n_16, n_20, n_24, n_25, n_32, n_36, n_40, n_41, n_42, n_43, n_45, n_46, n_48, n_57, n_59, n_60, n_73, n_76, n_97, n_99, n_100, n_106, n_109, n_120, n_122, n_136, n_160, n_176, n_200, n_255, n_800, n_1000, n_1001, n_1002, n_1003, n_1006, n_1012, n_1018, n_1019, n_1020, n_1100, n_1140, n_4800, n_4920, n_5940, n_6740, n_20220, q_kI, q_lI, q_nI, q_rI, q_iI, q_jI, q_dI, q_kJ, q_lJ, q_nJ, q_rJ, q_iJ, q_jJ, q_dJ, q_kC, q_lC, q_nC, q_rC, q_jC, q_dC, q_kF, q_lF, q_nF, q_rF, q_jF, q_dF, q_us, q_un, q_ua, F_X9_numberTo, F_X9_number, k0, g13, g15, hb, e2, z0, z1, z2, z3, g20]
    · rw [if_neg hr] at hb
      obtain ⟨μ2, e2, f2, c2⟩ := h.fail (k := 3) (by decide) (by decide)
      rw [if_neg (by omega)] at c2
      refine ⟨nI 0, μ2, ?_, f2, Or.inr ⟨rfl, _, c2, fun ls A' => by rw [eg, if_pos hk, if_neg hr]⟩⟩
      clear h c2 f2 eg hr
      simp (disch := first | assumption | omega) only [q_bl, q_baT, q_bi, q_ba, q_pr, q_ob, q_iT, q_iN, q_it, q_if, q_of, nI_add, pk_mul, pk_sub, nI_leI, nI_ltI, nI_eq, nI_clamp, nI_lt0, nI_eqm, m1_eq, true_or, or_true, not_false_eq_true, m1_lt, m1_nlt, m1_le, m1_nle, b01, b011, q_em, q_m1, n_0, n_1, n_2, n_3, n_4, n_5, n_6, n_7, n_8, n_9, n_10, n_11, n_12, n_14, n_15, n_16, n_20, n_24, n_25, n_32, n_36, n_40, n_41, n_42, n_43, n_45, n_46, n_48, n_57, n_59, n_60, n_73, n_76, n_97, n_99, n_100, n_106, n_109, n_120, n_122, n_136, n_160, n_176, n_200, n_255, n_800, n_1000, n_1001, n_1002, n_1003, n_1006, n_1012, n_1018, n_1019, n_1020, n_1100, n_1140, n_4800, n_4920, n_5940, n_6740, n_20220, F_X9_numberTo, F_X9_number, k0, g13, g15, hb, e2]
  · obtain ⟨μ2, e2, f2, c2⟩ := h.fail (k := 2) (by decide) (by decide)
    refine ⟨nI 0, μ2, ?_, f2, Or.inr ⟨rfl, _, c2, fun ls A' => by rw [eg, if_neg hk]; rfl⟩⟩
    have hne : ¬ nI (trc (tk b n p)) = nI 3 := by rw [nI_eq (by omega) (by decide)]; exact fun q => hk (t3.mp q)
    have h00 : nI 0 = nI 0 := rfl
    clear h c2 f2 eg
    simp (disch := first | assumption | omega) only [q_bl, q_baT, q_bi, q_ba, q_pr, q_ob, q_iT, q_iN, q_it, q_if, q_of, nI_add, pk_mul, pk_sub, nI_leI, nI_ltI, nI_clamp, nI_lt0, nI_eqm, m1_eq, true_or, or_true, not_false_eq_true, m1_lt, m1_nlt, m1_le, m1_nle, b01, b011, q_em, q_m1, n_0, n_1, n_2, n_3, n_4, n_5, n_6, n_7, n_8, n_9, n_10, n_11, n_12, n_14, n_15, n_16, n_20, n_24, n_25, n_32, n_36, n_40, n_41, n_42, n_43, n_45, n_46, n_48, n_57, n_59, n_60, n_73, n_76, n_97, n_99, n_100, n_106, n_109, n_120, n_122, n_136, n_160, n_176, n_200, n_255, n_800, n_1000, n_1001, n_1002, n_1003, n_1006, n_1012, n_1018, n_1019, n_1020, n_1100, n_1140, n_4800, n_4920, n_5940, n_6740, n_20220, F_X9_numberTo, F_X9_number, k0, g13, hne, e2]
-- names
theorem l9_find {t c : Nat} {key : Int64} (s : SR μ m) (ht : t < 3) (hA : gI μ (m + 2) t = nI c) (hc : c ≤ 8) (h18 : gJ μ m 18 = key) : ∀ (q fu i : Nat), q < fu → i + q = c → ∃ x, L_X9_find_2 μ fu m (nI t) (nI i) = some x ∧ ((x = -nI 1 ∧ ∀ j, i ≤ j → j < c → ¬ gJ μ (m + 7) (8 * t + j) = key) ∨ ∃ j, i ≤ j ∧ j < c ∧ x = nI j ∧ gJ μ (m + 7) (8 * t + j) = key) := by
  have k0 := s.k0
  have r1 := s.r1
  have k2 := s.k2
  have l2 := s.l2
  have r19 := s.r19
  have k7 := s.k7
  have l7 := s.l7
  clear s
  intro q
  induction q with
  | zero =>
    intro fu i hf hi
    obtain ⟨fu, rfl⟩ : ∃ k, fu = k + 1 := ⟨fu - 1, by omega⟩
    obtain rfl : i = c := by omega
    refine ⟨-nI 1, ?_, Or.inl ⟨rfl, fun j _ _ => by omega⟩⟩
    simp (disch := first | assumption | omega) only [q_bl, q_baT, q_bi, q_ba, q_pr, q_ob, q_iT, q_iN, q_it, q_if, q_of, nI_add, pk_mul, pk_sub, nI_leI, nI_ltI, nI_eq, nI_clamp, nI_lt0, nI_eqm, m1_eq, true_or, or_true, not_false_eq_true, m1_lt, m1_nlt, m1_le, m1_nle, b01, b011, q_em, q_m1, n_0, n_1, n_2, n_3, n_4, n_5, n_6, n_7, n_8, n_9, n_10, n_11, n_12, n_14, n_15, n_16, n_20, n_24, n_25, n_32, n_36, n_40, n_41, n_42, n_43, n_45, n_46, n_48, n_57, n_59, n_60, n_73, n_76, n_97, n_99, n_100, n_106, n_109, n_120, n_122, n_136, n_160, n_176, n_200, n_255, n_800, n_1000, n_1001, n_1002, n_1003, n_1006, n_1012, n_1018, n_1019, n_1020, n_1100, n_1140, n_4800, n_4920, n_5940, n_6740, n_20220, L_X9_find_2, B_X9_find_2, k0, r1, k2, l2, hA]
  | succ q ih =>
    intro fu i hf hi
    obtain ⟨fu, rfl⟩ : ∃ k, fu = k + 1 := ⟨fu - 1, by omega⟩
    obtain ⟨x, e, hx⟩ := ih fu (i + 1) (by omega) (by omega)
    have hc0 : (lg_cmp (gJ μ (m + 7) (8 * t + i)) key = nI 0) = (gJ μ (m + 7) (8 * t + i) = key) := propext (lg_cmp_eq _ _)
    by_cases h : gJ μ (m + 7) (8 * t + i) = key
    · have hz := hc0.mpr h
      refine ⟨nI i, ?_, Or.inr ⟨i, Nat.le_refl _, by omega, rfl, h⟩⟩
      clear ih hx
      simp (disch := first | assumption | omega) only [q_bl, q_baT, q_bi, q_ba, q_pr, q_ob, q_iT, q_iN, q_it, q_if, q_of, nI_add, pk_mul, pk_sub, nI_leI, nI_ltI, nI_eq, nI_clamp, nI_lt0, nI_eqm, m1_eq, true_or, or_true, not_false_eq_true, m1_lt, m1_nlt, m1_le, m1_nle, b01, b011, q_em, q_m1, n_0, n_1, n_2, n_3, n_4, n_5, n_6, n_7, n_8, n_9, n_10, n_11, n_12, n_14, n_15, n_16, n_20, n_24, n_25, n_32, n_36, n_40, n_41, n_42, n_43, n_45, n_46, n_48, n_57, n_59, n_60, n_73, n_76, n_97, n_99, n_100, n_106, n_109, n_120, n_122, n_136, n_160, n_176, n_200, n_255, n_800, n_1000, n_1001, n_1002, n_1003, n_1006, n_1012, n_1018, n_1019, n_1020, n_1100, n_1140, n_4800, n_4920, n_5940, n_6740, n_20220, L_X9_find_2, B_X9_find_2, k0, r1, k2, l2, hA, r19, k7, l7, h18, hz]
    · refine ⟨x, ?_, ?_⟩
      · have hz : ¬ lg_cmp (gJ μ (m + 7) (8 * t + i)) key = nI 0 := fun q => h (hc0.mp q)
        clear ih hx
        simp (disch := first | assumption | omega) only [q_bl, q_baT, q_bi, q_ba, q_pr, q_ob, q_iT, q_iN, q_it, q_if, q_of, nI_add, pk_mul, pk_sub, nI_leI, nI_ltI, nI_eq, nI_clamp, nI_lt0, nI_eqm, m1_eq, true_or, or_true, not_false_eq_true, m1_lt, m1_nlt, m1_le, m1_nle, b01, b011, q_em, q_m1, n_0, n_1, n_2, n_3, n_4, n_5, n_6, n_7, n_8, n_9, n_10, n_11, n_12, n_14, n_15, n_16, n_20, n_24, n_25, n_32, n_36, n_40, n_41, n_42, n_43, n_45, n_46, n_48, n_57, n_59, n_60, n_73, n_76, n_97, n_99, n_100, n_106, n_109, n_120, n_122, n_136, n_160, n_176, n_200, n_255, n_800, n_1000, n_1001, n_1002, n_1003, n_1006, n_1012, n_1018, n_1019, n_1020, n_1100, n_1140, n_4800, n_4920, n_5940, n_6740, n_20220, L_X9_find_2, B_X9_find_2, k0, r1, k2, l2, hA, r19, k7, l7, h18, hz, e]
      · rcases hx with ⟨x1, x2⟩ | ⟨j, j1, j2, j3, j4⟩
        · refine Or.inl ⟨x1, fun j h1 h2 => ?_⟩
          by_cases hj : j = i
          · subst hj; exact h
          · exact x2 j (by omega) h2
        · exact Or.inr ⟨j, by omega, j2, j3, j4⟩
def fI (o : Option Nat) : Int32 := match o with
  | some r => nI r
  | none => -nI 1
theorem r_find {t : Nat} (h : RM μ m b n p A nc wn) (ht : t < 3) (hA : A t = nI (nc t)) (hk : tk b n p = 1) : F_X9_find m (nI t) μ = some (fI (lkf (wn t) (tw b n p) (nc t))) := by
  have hw := tw_lw hk
  have h18 := h.2.1.2.2.2.2.2 hk
  have hW := h.2.2.2.2.2.1
  have hc := h.2.2.2.2.2.2.1 t ht
  have hn := h.2.2.2.2.1
  obtain ⟨x, e, hx⟩ := l9_find (t := t) (c := nc t) h.sr ht ((h.2.2.2.1 t (by omega)).trans hA) hc h18 (nc t) FU 0 (FU_gt (by omega)) (by omega)
  have e2 : F_X9_find m (nI t) μ = some x := e
  rw [e2]
  congr 1
  rcases hx with ⟨rfl, hx⟩ | ⟨j, j1, j2, rfl, j4⟩
  · have : lkf (wn t) (tw b n p) (nc t) = none := lkf_no (fun r hr hwe => hx r (Nat.zero_le _) hr (by rw [hn t r ht hr, hwe]))
    rw [this]; rfl
  · rw [hn t j ht j2, nL_inj (hW.1 t j ht j2) hw] at j4
    cases hl : lkf (wn t) (tw b n p) (nc t) with
    | none => exact absurd j4 (lkf_n _ hl j j2)
    | some r =>
      obtain ⟨l1, l2⟩ := lkf_s _ _ hl
      rw [(hW.2 t j t r ht ht j2 l1 (j4.trans l2.symm)).2]; rfl
theorem kwI_0 {w : Nat} (h : w = 0 ∨ (2 ≤ w ∧ w < 18)) : (kwI w = -nI 1 ↔ w = 0) := by
  unfold kwI
  by_cases h0 : w = 0
  · rw [if_pos h0]; exact ⟨fun _ => h0, fun _ => rfl⟩
  · rw [if_neg h0]; exact ⟨fun e => absurd e (by rw [nI_eqm (by omega)]; exact id), fun e => absurd e h0⟩
theorem trw_r : trw b n p = 0 ∨ (2 ≤ trw b n p ∧ trw b n p < 18) := by
  unfold trw
  split
  · exact kwr_r _
  · exact Or.inl rfl
theorem r_isName (h : RM μ m b n p A nc wn) : F_X9_isName m μ = some (if tk b n p = 1 ∧ kwr (tw b n p) = 0 then nI 1 else nI 0) := by
  have hl := tk_le (b := b) (n := n) (p := p)
  obtain ⟨-, t2, -, -, -, t6⟩ := trc_1 hl
  have k0 := h.k0
  have g13 := h.g13
  have g14 := h.2.1.2.2.2.1
  by_cases hk : tk b n p = 1
  · rw [t2.mpr hk] at g13
    unfold trw at g14
    rw [if_pos hk] at g14
    by_cases hz : kwr (tw b n p) = 0
    · rw [if_pos ⟨hk, hz⟩]
      have := (kwI_0 (kwr_r (tw b n p))).mpr hz
      rw [this] at g14
      clear h
      simp (disch := first | assumption | omega) only [q_bl, q_baT, q_bi, q_ba, q_pr, q_ob, q_iT, q_iN, q_it, q_if, q_of, nI_add, pk_mul, pk_sub, nI_leI, nI_ltI, nI_eq, nI_clamp, nI_lt0, nI_eqm, m1_eq, true_or, or_true, not_false_eq_true, m1_lt, m1_nlt, m1_le, m1_nle, b01, b011, q_em, q_m1, n_0, n_1, n_2, n_3, n_4, n_5, n_6, n_7, n_8, n_9, n_10, n_11, n_12, n_14, n_15, n_16, n_20, n_24, n_25, n_32, n_36, n_40, n_41, n_42, n_43, n_45, n_46, n_48, n_57, n_59, n_60, n_73, n_76, n_97, n_99, n_100, n_106, n_109, n_120, n_122, n_136, n_160, n_176, n_200, n_255, n_800, n_1000, n_1001, n_1002, n_1003, n_1006, n_1012, n_1018, n_1019, n_1020, n_1100, n_1140, n_4800, n_4920, n_5940, n_6740, n_20220, F_X9_isName, k0, g13, g14]
    · rw [if_neg (fun q => hz q.2)]
      have hne : ¬ kwI (kwr (tw b n p)) = -nI 1 := fun q => hz ((kwI_0 (kwr_r _)).mp q)
      clear h
      simp (disch := first | assumption | omega) only [q_bl, q_baT, q_bi, q_ba, q_pr, q_ob, q_iT, q_iN, q_it, q_if, q_of, nI_add, pk_mul, pk_sub, nI_leI, nI_ltI, nI_eq, nI_clamp, nI_lt0, nI_eqm, m1_eq, true_or, or_true, not_false_eq_true, m1_lt, m1_nlt, m1_le, m1_nle, b01, b011, q_em, q_m1, n_0, n_1, n_2, n_3, n_4, n_5, n_6, n_7, n_8, n_9, n_10, n_11, n_12, n_14, n_15, n_16, n_20, n_24, n_25, n_32, n_36, n_40, n_41, n_42, n_43, n_45, n_46, n_48, n_57, n_59, n_60, n_73, n_76, n_97, n_99, n_100, n_106, n_109, n_120, n_122, n_136, n_160, n_176, n_200, n_255, n_800, n_1000, n_1001, n_1002, n_1003, n_1006, n_1012, n_1018, n_1019, n_1020, n_1100, n_1140, n_4800, n_4920, n_5940, n_6740, n_20220, F_X9_isName, k0, g13, g14, hne]
  · rw [if_neg (fun q => hk q.1)]
    have hne : ¬ nI (trc (tk b n p)) = nI 2 := by rw [nI_eq (by omega) (by decide)]; exact fun q => hk (t2.mp q)
    clear h
    simp (disch := first | assumption | omega) only [q_bl, q_baT, q_bi, q_ba, q_pr, q_ob, q_iT, q_iN, q_it, q_if, q_of, nI_add, pk_mul, pk_sub, nI_leI, nI_ltI, nI_clamp, nI_lt0, nI_eqm, m1_eq, true_or, or_true, not_false_eq_true, m1_lt, m1_nlt, m1_le, m1_nle, b01, b011, q_em, q_m1, n_0, n_1, n_2, n_3, n_4, n_5, n_6, n_7, n_8, n_9, n_10, n_11, n_12, n_14, n_15, n_16, n_20, n_24, n_25, n_32, n_36, n_40, n_41, n_42, n_43, n_45, n_46, n_48, n_57, n_59, n_60, n_73, n_76, n_97, n_99, n_100, n_106, n_109, n_120, n_122, n_136, n_160, n_176, n_200, n_255, n_800, n_1000, n_1001, n_1002, n_1003, n_1006, n_1012, n_1018, n_1019, n_1020, n_1100, n_1140, n_4800, n_4920, n_5940, n_6740, n_20220, F_X9_isName, k0, g13, hne]
theorem r_name {i t : Nat} (h : RM μ m b n p A nc wn) (hi : i < 6740) (ht : t < 3) (hA : A t = nI (nc t)) : ∃ x μ', F_X9_oldNameTo m (nI i) (nI t) μ = some (x, μ') ∧ RFr m μ μ' ∧
    ((x = nI 1 ∧ ∃ r, r < nc t ∧ RM μ' m b n (te b n p) (ua A i (nI r)) nc wn ∧ ∀ ls A', g_name b n t (.inr (p, ls, A', nc, wn)) = (r, .inr (te b n p, ts b n p, A', nc, wn))) ∨
     (x = nI 0 ∧ ∃ e, RE μ' m e ∧ ∀ ls A', (g_name b n t (.inr (p, ls, A', nc, wn))).2 = .inl e)) := by
  have hN := r_isName h
  have k0 := h.k0
  have eg : ∀ ls A', g_name b n t (.inr (p, ls, A', nc, wn)) = if tk b n p = 1 then (if kwr (tw b n p) = 0 then (match lkf (wn t) (tw b n p) (nc t) with
      | some r => (r, .inr (te b n p, ts b n p, A', nc, wn))
      | none => (0, .inl (4, ts b n p))) else (0, .inl (2, ts b n p))) else (0, .inl (ek (tk b n p), ts b n p)) := fun _ _ => rfl
  by_cases hc : tk b n p = 1 ∧ kwr (tw b n p) = 0
  · rw [if_pos hc] at hN
    have hF := r_find h ht hA hc.1
    cases hl : lkf (wn t) (tw b n p) (nc t) with
    | none =>
      rw [hl] at hF
      have hF2 : F_X9_find m (nI t) μ = some (-nI 1) := hF
      obtain ⟨μ2, e2, f2, c2⟩ := h.fail (k := 4) (by decide) (by decide)
      rw [if_neg (by omega)] at c2
      refine ⟨nI 0, μ2, ?_, f2, Or.inr ⟨rfl, _, c2, fun ls A' => by rw [eg, if_pos hc.1, if_pos hc.2, hl]⟩⟩
      clear h c2 f2 eg hF hc
      simp (disch := first | assumption | omega) only [q_bl, q_baT, q_bi, q_ba, q_pr, q_ob, q_iT, q_iN, q_it, q_if, q_of, nI_add, pk_mul, pk_sub, nI_leI, nI_ltI, nI_eq, nI_clamp, nI_lt0, nI_eqm, m1_eq, true_or, or_true, not_false_eq_true, m1_lt, m1_nlt, m1_le, m1_nle, b01, b011, q_em, q_m1, n_0, n_1, n_2, n_3, n_4, n_5, n_6, n_7, n_8, n_9, n_10, n_11, n_12, n_14, n_15, n_16, n_20, n_24, n_25, n_32, n_36, n_40, n_41, n_42, n_43, n_45, n_46, n_48, n_57, n_59, n_60, n_73, n_76, n_97, n_99, n_100, n_106, n_109, n_120, n_122, n_136, n_160, n_176, n_200, n_255, n_800, n_1000, n_1001, n_1002, n_1003, n_1006, n_1012, n_1018, n_1019, n_1020, n_1100, n_1140, n_4800, n_4920, n_5940, n_6740, n_20220, F_X9_oldNameTo, k0, hN, hF2, e2]
    | some r =>
      rw [hl] at hF
      have hF2 : F_X9_find m (nI t) μ = some (nI r) := hF
      obtain ⟨l1, l2⟩ := lkf_s _ _ hl
      have h8 := h.2.2.2.2.2.2.1 t ht
      obtain ⟨c3, f3⟩ := h.put (i := i) (v := nI r)
      obtain ⟨μ2, e2, c2, f2, g2⟩ := c3.adv
      have s2 := h.sr
      refine ⟨nI 1, μ2, ?_, f3.trans f2, Or.inl ⟨rfl, r, l1, c2, fun ls A' => by rw [eg, if_pos hc.1, if_pos hc.2, hl]⟩⟩
      have z1 := s2.r1
      have z2 := s2.k2
      have z3 := s2.l2
      have z4 := c3.k0
      clear h c2 c3 f2 f3 g2 eg s2 hF hc l2
      simp (disch := first | assumption | omega) only [q_bl, q_baT, q_bi, q_ba, q_pr, q_ob, q_iT, q_iN, q_it, q_if, q_of, nI_add, pk_mul, pk_sub, nI_leI, nI_ltI, nI_eq, nI_clamp, nI_lt0, nI_eqm, m1_eq, true_or, or_true, not_false_eq_true, m1_lt, m1_nlt, m1_le, m1_nle, b01, b011, q_em, q_m1, n_0, n_1, n_2, n_3, n_4, n_5, n_6, n_7, n_8, n_9, n_10, n_11, n_12, n_14, n_15, n_16, n_20, n_24, n_25, n_32, n_36, n_40, n_41, n_42, n_43, n_45, n_46, n_48, n_57, n_59, n_60, n_73, n_76, n_97, n_99, n_100, n_106, n_109, n_120, n_122, n_136, n_160, n_176, n_200, n_255, n_800, n_1000, n_1001, n_1002, n_1003, n_1006, n_1012, n_1018, n_1019, n_1020, n_1100, n_1140, n_4800, n_4920, n_5940, n_6740, n_20220, F_X9_oldNameTo, k0, hN, hF2, z1, z2, z3, z4, e2]
  · rw [if_neg hc] at hN
    obtain ⟨μ2, e2, f2, c2⟩ := h.fail (k := 2) (by decide) (by decide)
    refine ⟨nI 0, μ2, ?_, f2, Or.inr ⟨rfl, _, c2, fun ls A' => ?_⟩⟩
    · clear h c2 f2 eg
      simp (disch := first | assumption | omega) only [q_bl, q_baT, q_bi, q_ba, q_pr, q_ob, q_iT, q_iN, q_it, q_if, q_of, nI_add, pk_mul, pk_sub, nI_leI, nI_ltI, nI_eq, nI_clamp, nI_lt0, nI_eqm, m1_eq, true_or, or_true, not_false_eq_true, m1_lt, m1_nlt, m1_le, m1_nle, b01, b011, q_em, q_m1, n_0, n_1, n_2, n_3, n_4, n_5, n_6, n_7, n_8, n_9, n_10, n_11, n_12, n_14, n_15, n_16, n_20, n_24, n_25, n_32, n_36, n_40, n_41, n_42, n_43, n_45, n_46, n_48, n_57, n_59, n_60, n_73, n_76, n_97, n_99, n_100, n_106, n_109, n_120, n_122, n_136, n_160, n_176, n_200, n_255, n_800, n_1000, n_1001, n_1002, n_1003, n_1006, n_1012, n_1018, n_1019, n_1020, n_1100, n_1140, n_4800, n_4920, n_5940, n_6740, n_20220, F_X9_oldNameTo, k0, hN, e2]
    · rw [eg]
      by_cases hk : tk b n p = 1
      · rw [if_pos hk, if_neg (fun q => hc ⟨hk, q⟩), if_neg (by omega)]
      · rw [if_neg hk]; rfl
theorem r_new {t : Nat} (h : RM μ m b n p A nc wn) (ht : t < 3) (hA : ∀ u, u < 3 → A u = nI (nc u)) (hlt : nc t < 8) : ∃ x μ', F_X9_newName m (nI t) μ = some (x, μ') ∧ RFr m μ μ' ∧
    ((x = nI 1 ∧ RM μ' m b n (te b n p) A (ncu nc t) (wnu wn t (nc t) (tw b n p)) ∧ ∀ ls A', g_new b n t (.inr (p, ls, A', nc, wn)) = .inr (te b n p, ts b n p, A', ncu nc t, wnu wn t (nc t) (tw b n p))) ∨
     (x = nI 0 ∧ ∃ e, RE μ' m e ∧ ∀ ls A', g_new b n t (.inr (p, ls, A', nc, wn)) = .inl e)) := by
  have hN := r_isName h
  have k0 := h.k0
  have eg : ∀ ls A', g_new b n t (.inr (p, ls, A', nc, wn)) = if tk b n p = 1 then (if kwr (tw b n p) = 0 then (if lkf (wn 0) (tw b n p) (nc 0) = none ∧ lkf (wn 1) (tw b n p) (nc 1) = none ∧ lkf (wn 2) (tw b n p) (nc 2) = none then .inr (te b n p, ts b n p, A', ncu nc t, wnu wn t (nc t) (tw b n p)) else .inl (4, ts b n p)) else .inl (2, ts b n p)) else .inl (ek (tk b n p), ts b n p) := fun _ _ => rfl
  by_cases hc : tk b n p = 1 ∧ kwr (tw b n p) = 0
  · rw [if_pos hc] at hN
    have hF0 := r_find h (t := 0) (by decide) (hA 0 (by decide)) hc.1
    have hF1 := r_find h (t := 1) (by decide) (hA 1 (by decide)) hc.1
    have hF2 := r_find h (t := 2) (by decide) (hA 2 (by decide)) hc.1
    have hfI : ∀ o : Option Nat, (∀ r, o = some r → r < 100) → (fI o = -nI 1 ↔ o = none) := fun o ho => by
      cases o with
      | none => exact ⟨fun _ => rfl, fun _ => rfl⟩
      | some r => exact ⟨fun e => absurd (show nI r = -nI 1 from e) (by rw [nI_eqm (by have := ho r rfl; omega)]; exact id), fun e => by cases e⟩
    have hb : ∀ u, u < 3 → ∀ r, lkf (wn u) (tw b n p) (nc u) = some r → r < 100 := fun u hu r hr => by
      have := (lkf_s _ _ hr).1; have := h.2.2.2.2.2.2.1 u hu; omega
    have hi0 := hfI _ (hb 0 (by decide))
    have hi1 := hfI _ (hb 1 (by decide))
    have hi2 := hfI _ (hb 2 (by decide))
    by_cases hno : lkf (wn 0) (tw b n p) (nc 0) = none ∧ lkf (wn 1) (tw b n p) (nc 1) = none ∧ lkf (wn 2) (tw b n p) (nc 2) = none
    · obtain ⟨n0, n1, n2⟩ := hno
      rw [hi0.mpr n0] at hF0
      rw [hi1.mpr n1] at hF1
      rw [hi2.mpr n2] at hF2
      have s2 := h.sr
      have hAt : gI μ (m + 2) t = nI (nc t) := (h.2.2.2.1 t (by omega)).trans (hA t ht)
      have g18 := h.2.1.2.2.2.2.2 hc.1
      have f1 : Fx (fun a => a = m + 7) μ (stJ μ (m + 7) (8 * t + nc t) (lN (nn (tw b n p)))) := Fx.stJ rfl
      have c1 : RM (stJ μ (m + 7) (8 * t + nc t) (lN (nn (tw b n p)))) m b n p A (ncu nc t) (wnu wn t (nc t) (tw b n p)) := by
        obtain ⟨⟨s, a1, a2, a3⟩, ⟨t1, t2, t3, t4, t5, t6⟩, h3, h4, h5, h6, h7, z1, z2⟩ := h
        refine ⟨⟨s.fx f1, a1, a2, a3⟩, ⟨t1, t2, t3, t4, t5, fun q => by rw [f1.J (by omega)]; exact t6 q⟩, h3, h4, fun u r hu hr => ?_, h6.add (tw_lw hc.1) (fun u r hu hr => ?_), fun u hu => ?_, z1, z2⟩
        · by_cases hur : u = t ∧ r = nc t
          · obtain ⟨rfl, rfl⟩ := hur
            rw [wnu_s, q_jJ, q_us]
          · have hr2 : r < nc u := by
              by_cases hut : u = t
              · subst hut; rw [ncu_s] at hr
                have : ¬ r = nc u := fun e => hur ⟨rfl, e⟩
                omega
              · rw [ncu_n hut] at hr; exact hr
            have := h7 u hu
            rw [wnu_n hur, q_jJ, q_un (by omega)]; exact h5 u r hu hr2
        · match u, hu with
          | 0, _ => exact lkf_n _ n0 r hr
          | 1, _ => exact lkf_n _ n1 r hr
          | 2, _ => exact lkf_n _ n2 r hr
          | u + 3, h => omega
        · by_cases hut : u = t
          · subst hut; rw [ncu_s]; omega
          · rw [ncu_n hut]; exact h7 u hu
      obtain ⟨μ2, e2, c2, f2, g2⟩ := c1.adv
      refine ⟨nI 1, μ2, ?_, RFr.trans ⟨f1.mono (fun a ha => Or.inr (Or.inr ha)), fun j _ => rfl⟩ f2, Or.inl ⟨rfl, c2, fun ls A' => by rw [eg, if_pos hc.1, if_pos hc.2, if_pos ⟨n0, n1, n2⟩]⟩⟩
      have z1 := s2.r1
      have z2 := s2.k2
      have z3 := s2.l2
      have z5 := s2.r19
      have z6 := s2.k7
      have z7 := s2.l7
      have z4 := c1.k0
      clear h c2 c1 f2 f1 g2 eg s2 hc hb hfI hi0 hi1 hi2
      simp (disch := first | assumption | omega) only [q_bl, q_baT, q_bi, q_ba, q_pr, q_ob, q_iT, q_iN, q_it, q_if, q_of, nI_add, pk_mul, pk_sub, nI_leI, nI_ltI, nI_eq, nI_clamp, nI_lt0, nI_eqm, m1_eq, true_or, or_true, not_false_eq_true, m1_lt, m1_nlt, m1_le, m1_nle, b01, b011, q_em, q_m1, n_0, n_1, n_2, n_3, n_4, n_5, n_6, n_7, n_8, n_9, n_10, n_11, n_12, n_14, n_15, n_16, n_20, n_24, n_25, n_32, n_36, n_40, n_41, n_42, n_43, n_45, n_46, n_48, n_57, n_59, n_60, n_73, n_76, n_97, n_99, n_100, n_106, n_109, n_120, n_122, n_136, n_160, n_176, n_200, n_255, n_800, n_1000, n_1001, n_1002, n_1003, n_1006, n_1012, n_1018, n_1019, n_1020, n_1100, n_1140, n_4800, n_4920, n_5940, n_6740, n_20220, F_X9_newName, k0, hN, hF0, hF1, hF2, hAt, g18, z1, z2, z3, z4, z5, z6, z7, e2]
    · obtain ⟨μ2, e2, f2, c2⟩ := h.fail (k := 4) (by decide) (by decide)
      rw [if_neg (by omega)] at c2
      refine ⟨nI 0, μ2, ?_, f2, Or.inr ⟨rfl, _, c2, fun ls A' => by rw [eg, if_pos hc.1, if_pos hc.2, if_neg hno]⟩⟩
      clear h c2 f2 eg hb hfI
      by_cases n0 : lkf (wn 0) (tw b n p) (nc 0) = none
      · rw [hi0.mpr n0] at hF0
        by_cases n1 : lkf (wn 1) (tw b n p) (nc 1) = none
        · rw [hi1.mpr n1] at hF1
          have n2 : ¬ fI (lkf (wn 2) (tw b n p) (nc 2)) = -nI 1 := fun q => hno ⟨n0, n1, hi2.mp q⟩
          clear hi0 hi1 hi2 hc hno
          simp (disch := first | assumption | omega) only [q_bl, q_baT, q_bi, q_ba, q_pr, q_ob, q_iT, q_iN, q_it, q_if, q_of, nI_add, pk_mul, pk_sub, nI_leI, nI_ltI, nI_eq, nI_clamp, nI_lt0, nI_eqm, m1_eq, true_or, or_true, not_false_eq_true, m1_lt, m1_nlt, m1_le, m1_nle, b01, b011, q_em, q_m1, n_0, n_1, n_2, n_3, n_4, n_5, n_6, n_7, n_8, n_9, n_10, n_11, n_12, n_14, n_15, n_16, n_20, n_24, n_25, n_32, n_36, n_40, n_41, n_42, n_43, n_45, n_46, n_48, n_57, n_59, n_60, n_73, n_76, n_97, n_99, n_100, n_106, n_109, n_120, n_122, n_136, n_160, n_176, n_200, n_255, n_800, n_1000, n_1001, n_1002, n_1003, n_1006, n_1012, n_1018, n_1019, n_1020, n_1100, n_1140, n_4800, n_4920, n_5940, n_6740, n_20220, F_X9_newName, B_X9_newName_40, k0, hN, hF0, hF1, hF2, n2, e2]
        · have n1' : ¬ fI (lkf (wn 1) (tw b n p) (nc 1)) = -nI 1 := fun q => n1 (hi1.mp q)
          clear hi0 hi1 hi2 hc hno
          simp (disch := first | assumption | omega) only [q_bl, q_baT, q_bi, q_ba, q_pr, q_ob, q_iT, q_iN, q_it, q_if, q_of, nI_add, pk_mul, pk_sub, nI_leI, nI_ltI, nI_eq, nI_clamp, nI_lt0, nI_eqm, m1_eq, true_or, or_true, not_false_eq_true, m1_lt, m1_nlt, m1_le, m1_nle, b01, b011, q_em, q_m1, n_0, n_1, n_2, n_3, n_4, n_5, n_6, n_7, n_8, n_9, n_10, n_11, n_12, n_14, n_15, n_16, n_20, n_24, n_25, n_32, n_36, n_40, n_41, n_42, n_43, n_45, n_46, n_48, n_57, n_59, n_60, n_73, n_76, n_97, n_99, n_100, n_106, n_109, n_120, n_122, n_136, n_160, n_176, n_200, n_255, n_800, n_1000, n_1001, n_1002, n_1003, n_1006, n_1012, n_1018, n_1019, n_1020, n_1100, n_1140, n_4800, n_4920, n_5940, n_6740, n_20220, F_X9_newName, B_X9_newName_40, k0, hN, hF0, hF1, n1', e2]
      · have n0' : ¬ fI (lkf (wn 0) (tw b n p) (nc 0)) = -nI 1 := fun q => n0 (hi0.mp q)
        clear hi0 hi1 hi2 hc hno
        simp (disch := first | assumption | omega) only [q_bl, q_baT, q_bi, q_ba, q_pr, q_ob, q_iT, q_iN, q_it, q_if, q_of, nI_add, pk_mul, pk_sub, nI_leI, nI_ltI, nI_eq, nI_clamp, nI_lt0, nI_eqm, m1_eq, true_or, or_true, not_false_eq_true, m1_lt, m1_nlt, m1_le, m1_nle, b01, b011, q_em, q_m1, n_0, n_1, n_2, n_3, n_4, n_5, n_6, n_7, n_8, n_9, n_10, n_11, n_12, n_14, n_15, n_16, n_20, n_24, n_25, n_32, n_36, n_40, n_41, n_42, n_43, n_45, n_46, n_48, n_57, n_59, n_60, n_73, n_76, n_97, n_99, n_100, n_106, n_109, n_120, n_122, n_136, n_160, n_176, n_200, n_255, n_800, n_1000, n_1001, n_1002, n_1003, n_1006, n_1012, n_1018, n_1019, n_1020, n_1100, n_1140, n_4800, n_4920, n_5940, n_6740, n_20220, F_X9_newName, B_X9_newName_40, k0, hN, hF0, n0', e2]
  · rw [if_neg hc] at hN
    obtain ⟨μ2, e2, f2, c2⟩ := h.fail (k := 2) (by decide) (by decide)
    refine ⟨nI 0, μ2, ?_, f2, Or.inr ⟨rfl, _, c2, fun ls A' => ?_⟩⟩
    · clear h c2 f2 eg
      simp (disch := first | assumption | omega) only [q_bl, q_baT, q_bi, q_ba, q_pr, q_ob, q_iT, q_iN, q_it, q_if, q_of, nI_add, pk_mul, pk_sub, nI_leI, nI_ltI, nI_eq, nI_clamp, nI_lt0, nI_eqm, m1_eq, true_or, or_true, not_false_eq_true, m1_lt, m1_nlt, m1_le, m1_nle, b01, b011, q_em, q_m1, n_0, n_1, n_2, n_3, n_4, n_5, n_6, n_7, n_8, n_9, n_10, n_11, n_12, n_14, n_15, n_16, n_20, n_24, n_25, n_32, n_36, n_40, n_41, n_42, n_43, n_45, n_46, n_48, n_57, n_59, n_60, n_73, n_76, n_97, n_99, n_100, n_106, n_109, n_120, n_122, n_136, n_160, n_176, n_200, n_255, n_800, n_1000, n_1001, n_1002, n_1003, n_1006, n_1012, n_1018, n_1019, n_1020, n_1100, n_1140, n_4800, n_4920, n_5940, n_6740, n_20220, F_X9_newName, k0, hN, e2]
    · rw [eg]
      by_cases hk : tk b n p = 1
      · rw [if_pos hk, if_neg (fun q => hc ⟨hk, q⟩), if_neg (by omega)]
      · rw [if_neg hk]; rfl
theorem r_begin {k lim : Nat} (h : RM μ m b n p A nc wn) (hk : k < 9) (hl : lim < 100) (hA : A k = nI (nt (A k))) (hc : nt (A k) ≤ lim) (ht : tk b n p = 1) : ∃ x μ', F_X9_begin m (nI k) (nI lim) μ = some (x, μ') ∧ RFr m μ μ' ∧
    ((x = nI 1 ∧ nt (A k) < lim ∧ RM μ' m b n (te b n p) A nc wn ∧ ∀ q, g_start k lim (.inr (q, ts b n p, A, nc, wn)) = .inr (q, ts b n p, ua A k (nI (nt (A k) + 1)), nc, wn)) ∨
     (x = nI 0 ∧ ∃ e, RE μ' m e ∧ ∀ q, g_start k lim (.inr (q, ts b n p, A, nc, wn)) = .inl e)) := by
  have k0 := h.k0
  have s2 := h.sr
  have z1 := s2.r1
  have z2 := s2.k2
  have z3 := s2.l2
  have gA : gI μ (m + 2) k = nI (nt (A k)) := (h.2.2.2.1 k (by omega)).trans hA
  have eg : ∀ q, g_start k lim (.inr (q, ts b n p, A, nc, wn)) = if lim ≤ nt (A k) then .inl (5, ts b n p) else .inr (q, ts b n p, ua A k (nI (nt (A k) + 1)), nc, wn) := fun _ => rfl
  generalize hcc : nt (A k) = c at *
  by_cases hf : c = lim
  · obtain ⟨μ2, e2, f2, c2⟩ := h.fail (k := 5) (by decide) (by decide)
    rw [if_neg (by omega)] at c2
    refine ⟨nI 0, μ2, ?_, f2, Or.inr ⟨rfl, _, c2, fun q => by rw [eg, if_pos (by omega)]⟩⟩
    subst hf
    clear h c2 f2 eg s2 hA hcc
    simp (disch := first | assumption | omega) only [q_bl, q_baT, q_bi, q_ba, q_pr, q_ob, q_iT, q_iN, q_it, q_if, q_of, nI_add, pk_mul, pk_sub, nI_leI, nI_ltI, nI_eq, nI_clamp, nI_lt0, nI_eqm, m1_eq, true_or, or_true, not_false_eq_true, m1_lt, m1_nlt, m1_le, m1_nle, b01, b011, q_em, q_m1, n_0, n_1, n_2, n_3, n_4, n_5, n_6, n_7, n_8, n_9, n_10, n_11, n_12, n_14, n_15, n_16, n_20, n_24, n_25, n_32, n_36, n_40, n_41, n_42, n_43, n_45, n_46, n_48, n_57, n_59, n_60, n_73, n_76, n_97, n_99, n_100, n_106, n_109, n_120, n_122, n_136, n_160, n_176, n_200, n_255, n_800, n_1000, n_1001, n_1002, n_1003, n_1006, n_1012, n_1018, n_1019, n_1020, n_1100, n_1140, n_4800, n_4920, n_5940, n_6740, n_20220, F_X9_begin, k0, z1, z2, z3, gA, e2]
  · obtain ⟨μ2, e2, c2, f2, g2⟩ := h.adv
    refine ⟨nI 1, μ2, ?_, f2, Or.inl ⟨rfl, by omega, c2, fun q => by rw [eg, if_neg (by omega)]⟩⟩
    have hne : ¬ nI c = nI lim := by rw [nI_eq (by omega) (by omega)]; exact hf
    have h10 : ¬ nI 1 = nI 0 := by decide +kernel
    clear h c2 f2 g2 eg s2 hA hcc
    simp (disch := first | assumption | omega) only [q_bl, q_baT, q_bi, q_ba, q_pr, q_ob, q_iT, q_iN, q_it, q_if, q_of, nI_add, pk_mul, pk_sub, nI_leI, nI_ltI, nI_clamp, nI_lt0, nI_eqm, m1_eq, true_or, or_true, not_false_eq_true, m1_lt, m1_nlt, m1_le, m1_nle, b01, b011, q_em, q_m1, n_0, n_1, n_2, n_3, n_4, n_5, n_6, n_7, n_8, n_9, n_10, n_11, n_12, n_14, n_15, n_16, n_20, n_24, n_25, n_32, n_36, n_40, n_41, n_42, n_43, n_45, n_46, n_48, n_57, n_59, n_60, n_73, n_76, n_97, n_99, n_100, n_106, n_109, n_120, n_122, n_136, n_160, n_176, n_200, n_255, n_800, n_1000, n_1001, n_1002, n_1003, n_1006, n_1012, n_1018, n_1019, n_1020, n_1100, n_1140, n_4800, n_4920, n_5940, n_6740, n_20220, F_X9_begin, k0, z1, z2, z3, gA, hne, e2]
theorem r_done {k c : Nat} (h : RM μ m b n p A nc wn) (hk : k < 9) (hA : A k = nI c) : ∃ μ', F_X9_isDone m (nI k) μ = some (nI 1, μ') ∧ RFr m μ μ' ∧ RM μ' m b n p (ua A k (nI (c + 1))) nc wn := by
  have k0 := h.k0
  have s2 := h.sr
  have z1 := s2.r1
  have z2 := s2.k2
  have z3 := s2.l2
  have gA : gI μ (m + 2) k = nI c := (h.2.2.2.1 k (by omega)).trans hA
  obtain ⟨c1, f1⟩ := h.put (i := k) (v := nI (c + 1))
  refine ⟨_, ?_, f1, c1⟩
  clear h c1 f1 s2
  simp (disch := first | assumption | omega) only [q_bl, q_baT, q_bi, q_ba, q_pr, q_ob, q_iT, q_iN, q_it, q_if, q_of, nI_add, pk_mul, pk_sub, nI_leI, nI_ltI, nI_eq, nI_clamp, nI_lt0, nI_eqm, m1_eq, true_or, or_true, not_false_eq_true, m1_lt, m1_nlt, m1_le, m1_nle, b01, b011, q_em, q_m1, n_0, n_1, n_2, n_3, n_4, n_5, n_6, n_7, n_8, n_9, n_10, n_11, n_12, n_14, n_15, n_16, n_20, n_24, n_25, n_32, n_36, n_40, n_41, n_42, n_43, n_45, n_46, n_48, n_57, n_59, n_60, n_73, n_76, n_97, n_99, n_100, n_106, n_109, n_120, n_122, n_136, n_160, n_176, n_200, n_255, n_800, n_1000, n_1001, n_1002, n_1003, n_1006, n_1012, n_1018, n_1019, n_1020, n_1100, n_1140, n_4800, n_4920, n_5940, n_6740, n_20220, F_X9_isDone, k0, z1, z2, z3, gA]
theorem r_close (h : RM μ m b n p A nc wn) : ∃ x μ', F_X9_closed m μ = some (x, μ') ∧ RFr m μ μ' ∧
    ((x = nI 1 ∧ RM μ' m b n (te b n p) A nc wn ∧ ∀ ls A', g_tok b n 3 (.inr (p, ls, A', nc, wn)) = .inr (te b n p, ts b n p, A', nc, wn)) ∨
     (x = nI 0 ∧ ∃ e, RE μ' m e ∧ ∀ ls A', g_tok b n 3 (.inr (p, ls, A', nc, wn)) = .inl e)) := by
  have hl := tk_le (b := b) (n := n) (p := p)
  obtain ⟨-, -, -, t4, -, t6⟩ := trc_1 hl
  have k0 := h.k0
  have g13 := h.g13
  have eg : ∀ ls A', g_tok b n 3 (.inr (p, ls, A', nc, wn)) = if tk b n p = 3 then .inr (te b n p, ts b n p, A', nc, wn) else .inl (ek (tk b n p), ts b n p) := fun _ _ => rfl
  by_cases hk : tk b n p = 3
  · rw [t4.mpr hk] at g13
    obtain ⟨μ2, e2, c2, f2, g2⟩ := h.adv
    refine ⟨nI 1, μ2, ?_, f2, Or.inl ⟨rfl, c2, fun ls A' => by rw [eg, if_pos hk]⟩⟩
    clear h c2 f2 g2 eg
    simp (disch := first | assumption | omega) only [q_bl, q_baT, q_bi, q_ba, q_pr, q_ob, q_iT, q_iN, q_it, q_if, q_of, nI_add, pk_mul, pk_sub, nI_leI, nI_ltI, nI_eq, nI_clamp, nI_lt0, nI_eqm, m1_eq, true_or, or_true, not_false_eq_true, m1_lt, m1_nlt, m1_le, m1_nle, b01, b011, q_em, q_m1, n_0, n_1, n_2, n_3, n_4, n_5, n_6, n_7, n_8, n_9, n_10, n_11, n_12, n_14, n_15, n_16, n_20, n_24, n_25, n_32, n_36, n_40, n_41, n_42, n_43, n_45, n_46, n_48, n_57, n_59, n_60, n_73, n_76, n_97, n_99, n_100, n_106, n_109, n_120, n_122, n_136, n_160, n_176, n_200, n_255, n_800, n_1000, n_1001, n_1002, n_1003, n_1006, n_1012, n_1018, n_1019, n_1020, n_1100, n_1140, n_4800, n_4920, n_5940, n_6740, n_20220, F_X9_closed, k0, g13, e2]
  · have hne : ¬ nI (trc (tk b n p)) = nI 4 := by rw [nI_eq (by omega) (by decide)]; exact fun q => hk (t4.mp q)
    obtain ⟨μ2, e2, f2, c2⟩ := h.fail (k := 2) (by decide) (by decide)
    refine ⟨nI 0, μ2, ?_, f2, Or.inr ⟨rfl, _, c2, fun ls A' => by rw [eg, if_neg hk]; rfl⟩⟩
    clear h c2 f2 eg
    simp (disch := first | assumption | omega) only [q_bl, q_baT, q_bi, q_ba, q_pr, q_ob, q_iT, q_iN, q_it, q_if, q_of, nI_add, pk_mul, pk_sub, nI_leI, nI_ltI, nI_clamp, nI_lt0, nI_eqm, m1_eq, true_or, or_true, not_false_eq_true, m1_lt, m1_nlt, m1_le, m1_nle, b01, b011, q_em, q_m1, n_0, n_1, n_2, n_3, n_4, n_5, n_6, n_7, n_8, n_9, n_10, n_11, n_12, n_14, n_15, n_16, n_20, n_24, n_25, n_32, n_36, n_40, n_41, n_42, n_43, n_45, n_46, n_48, n_57, n_59, n_60, n_73, n_76, n_97, n_99, n_100, n_106, n_109, n_120, n_122, n_136, n_160, n_176, n_200, n_255, n_800, n_1000, n_1001, n_1002, n_1003, n_1006, n_1012, n_1018, n_1019, n_1020, n_1100, n_1140, n_4800, n_4920, n_5940, n_6740, n_20220, F_X9_closed, k0, g13, hne, e2]
end RST

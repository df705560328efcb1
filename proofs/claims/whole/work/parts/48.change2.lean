/-! LAYER 3: calls that change plugboard or deck -/
section CH2
variable {μ μ1 μ2 : Mem} {x : Nat} {A B : SA}
theorem chg9b {m : Nat} {μa μc : Mem} (h : RA μc m B) (f : Fx (fun a => a = m + 1) (stI μa m 5 (nI 0)) μc) : ∃ μ2, F_X9_resetMachine m μc = some μ2 ∧ RA μ2 m (sp_reset B) ∧ RK μa μ2 m ∧ gI μ2 m 5 = nI 0 ∧ gJ μ2 (m + 12) = gJ μa (m + 12) ∧ SR μ2 m := by
  obtain ⟨μ2, e, q1, q2⟩ := x9_rst h
  have g : gI μ2 m = gI (stI μa m 5 (nI 0)) m := by rw [q2.I (a := m) (fun (e : m = m + 1) => by omega), f.I (a := m) (by omega)]
  refine ⟨μ2, e, q1, (RK.thr (v := nI 0)).trans ((RK.of f (fun a ha => Or.inl ha)).trans (RK.of q2 (fun a ha => Or.inl ha))), ?_, ?_, q1.1⟩
  · rw [g, q_iI, q_us]
  · rw [q2.J (a := m + 12) (fun (e : m + 12 = m + 1) => by omega), f.J (a := m + 12) (by omega), q_jI]
def CO (i : Int32) : Prop := (-1 ≤ i.toInt ∧ i.toInt ≤ 9) ∨ (99 ≤ i.toInt ∧ i.toInt ≤ 109)
theorem CO.lc {i : Int32} (h : CO i) : lc i := by
  rcases h with ⟨h1, h2⟩ | ⟨h1, h2⟩
  · by_cases h0 : i.toInt = -1
    · refine Or.inl (Int32.toInt_inj.mp ?_)
      rw [neg_T (by decide), h0]; rfl
    · refine Or.inr (Or.inr (Or.inl ⟨i.toInt.toNat, by omega, Int32.toInt_inj.mp ?_⟩))
      rw [nI_toInt (by omega)]; omega
  · by_cases h0 : i.toInt = 99
    · refine Or.inr (Or.inl (Int32.toInt_inj.mp ?_))
      rw [nI_toInt (by decide), h0]; rfl
    · refine Or.inr (Or.inr (Or.inr ⟨(i.toInt - 100).toNat, by omega, Int32.toInt_inj.mp ?_⟩))
      rw [nI_toInt (by omega)]; omega
theorem lt_m1 {i : Int32} : (i < -nI 1) = (i.toInt < -1) := propext (by rw [Int32.lt_iff_toInt_lt, neg_T (by decide)]; exact Iff.rfl)
theorem lt_nT {i : Int32} {n : Nat} (h : n < 2 ^ 31) : (i < nI n) = (i.toInt < n) := propext (by rw [Int32.lt_iff_toInt_lt, nI_toInt h])
theorem nT_lt {i : Int32} {n : Nat} (h : n < 2 ^ 31) : (nI n < i) = ((n : Int) < i.toInt) := propext (by rw [Int32.lt_iff_toInt_lt, nI_toInt h])
theorem le_nT {i : Int32} {n : Nat} (h : n < 2 ^ 31) : (i ≤ nI n) = (i.toInt ≤ n) := propext (by rw [Int32.le_iff_toInt_le, nI_toInt h])
theorem nT_le {i : Int32} {n : Nat} (h : n < 2 ^ 31) : (nI n ≤ i) = ((n : Int) ≤ i.toInt) := propext (by rw [Int32.le_iff_toInt_le, nI_toInt h])
theorem b9_I {i : Int32} {lo hi : Int64} {a b : Int} (h1 : lo.toInt = a) (h2 : hi.toInt = b) (h : a ≤ i.toInt ∧ i.toInt ≤ b) : F_X9_between i.toInt64 lo hi μ = some (nI 1) := by rw [x9_bt, I64_T, h1, h2, if_pos h]
theorem b9_IN {i : Int32} {lo hi : Int64} {a b : Int} (h1 : lo.toInt = a) (h2 : hi.toInt = b) (h : ¬ (a ≤ i.toInt ∧ i.toInt ≤ b)) : F_X9_between i.toInt64 lo hi μ = some (nI 0) := by rw [x9_bt, I64_T, h1, h2, if_neg h]
def tl8 (x : Nat) (i1 i2 i3 : Int32) (μ : Mem) : Option ((Nat ⊕ Int32) × Mem) := if i3 < (-1 : Int32) then B_X8_setColumn_25 x i1 i2 i3 μ else if (9 : Int32) < i3 then B_X8_setColumn_25 x i1 i2 i3 μ else B_X8_setColumn_26 x i1 i2 i3 (1 : Int32) μ
theorem tl8_ok {i1 i2 i3 : Int32} (h : CO i3) : tl8 x i1 i2 i3 μ = B_X8_setColumn_67 x i1 i2 i3 μ := by
  have t1 := lt_m1 (i := i3)
  have t2 := nT_lt (i := i3) (n := 9) (by decide)
  have t3 := lt_nT (i := i3) (n := 99) (by decide)
  have t4 := nT_lt (i := i3) (n := 109) (by decide)
  rcases h with a | a
  · have n1 : ¬ i3.toInt < -1 := by omega
    have n2 : ¬ ((9 : Nat) : Int) < i3.toInt := by omega
    have n3 : i3.toInt < ((99 : Nat) : Int) := by omega
    simp (disch := first | assumption | omega) only [q_bl, q_baT, q_bi, q_ba, q_pr, q_ob, q_iT, q_iN, q_it, q_if, q_of, nI_add, pk_mul, pk_sub, nI_leI, nI_ltI, nI_eq, nI_clamp, nI_lt0, nI_eqm, m1_eq, true_or, or_true, not_false_eq_true, m1_lt, m1_nlt, m1_le, m1_nle, b01, b011, q_em, q_m1, n_0, n_1, n_2, n_3, n_4, n_5, n_6, n_7, n_8, n_9, n_10, n_11, n_12, n_14, n_15, n_16, n_20, n_24, n_25, n_32, n_36, n_40, n_41, n_42, n_43, n_45, n_46, n_48, n_57, n_59, n_60, n_73, n_76, n_97, n_99, n_100, n_106, n_109, n_120, n_122, n_136, n_160, n_176, n_200, n_255, n_800, n_1000, n_1001, n_1002, n_1003, n_1006, n_1012, n_1018, n_1019, n_1020, n_1100, n_1140, n_4800, n_4920, n_5940, n_6740, n_20220, tl8, B_X8_setColumn_26, B_X8_setColumn_44, B_X8_setColumn_45, t1, t2, t3, t4]
  · have n1 : ¬ i3.toInt < -1 := by omega
    have n2 : ((9 : Nat) : Int) < i3.toInt := by omega
    have n3 : ¬ i3.toInt < ((99 : Nat) : Int) := by omega
    have n4 : ¬ ((109 : Nat) : Int) < i3.toInt := by omega
    simp (disch := first | assumption | omega) only [q_bl, q_baT, q_bi, q_ba, q_pr, q_ob, q_iT, q_iN, q_it, q_if, q_of, nI_add, pk_mul, pk_sub, nI_leI, nI_ltI, nI_eq, nI_clamp, nI_lt0, nI_eqm, m1_eq, true_or, or_true, not_false_eq_true, m1_lt, m1_nlt, m1_le, m1_nle, b01, b011, q_em, q_m1, n_0, n_1, n_2, n_3, n_4, n_5, n_6, n_7, n_8, n_9, n_10, n_11, n_12, n_14, n_15, n_16, n_20, n_24, n_25, n_32, n_36, n_40, n_41, n_42, n_43, n_45, n_46, n_48, n_57, n_59, n_60, n_73, n_76, n_97, n_99, n_100, n_106, n_109, n_120, n_122, n_136, n_160, n_176, n_200, n_255, n_800, n_1000, n_1001, n_1002, n_1003, n_1006, n_1012, n_1018, n_1019, n_1020, n_1100, n_1140, n_4800, n_4920, n_5940, n_6740, n_20220, tl8, B_X8_setColumn_25, B_X8_setColumn_26, B_X8_setColumn_44, B_X8_setColumn_45, t1, t2, t3, t4]
theorem tl8_no {i1 i2 i3 : Int32} (h : ¬ CO i3) : tl8 x i1 i2 i3 μ = some (.inl 1, μ) := by
  have t1 := lt_m1 (i := i3)
  have t2 := nT_lt (i := i3) (n := 9) (by decide)
  have t3 := lt_nT (i := i3) (n := 99) (by decide)
  have t4 := nT_lt (i := i3) (n := 109) (by decide)
  have nc : ¬ ((-1 ≤ i3.toInt ∧ i3.toInt ≤ 9) ∨ (99 ≤ i3.toInt ∧ i3.toInt ≤ 109)) := h
  by_cases d1 : i3.toInt < -1
  · have n3 : i3.toInt < ((99 : Nat) : Int) := by omega
    simp (disch := first | assumption | omega) only [q_bl, q_baT, q_bi, q_ba, q_pr, q_ob, q_iT, q_iN, q_it, q_if, q_of, nI_add, pk_mul, pk_sub, nI_leI, nI_ltI, nI_eq, nI_clamp, nI_lt0, nI_eqm, m1_eq, true_or, or_true, not_false_eq_true, m1_lt, m1_nlt, m1_le, m1_nle, b01, b011, q_em, q_m1, n_0, n_1, n_2, n_3, n_4, n_5, n_6, n_7, n_8, n_9, n_10, n_11, n_12, n_14, n_15, n_16, n_20, n_24, n_25, n_32, n_36, n_40, n_41, n_42, n_43, n_45, n_46, n_48, n_57, n_59, n_60, n_73, n_76, n_97, n_99, n_100, n_106, n_109, n_120, n_122, n_136, n_160, n_176, n_200, n_255, n_800, n_1000, n_1001, n_1002, n_1003, n_1006, n_1012, n_1018, n_1019, n_1020, n_1100, n_1140, n_4800, n_4920, n_5940, n_6740, n_20220, tl8, B_X8_setColumn_25, B_X8_setColumn_26, B_X8_setColumn_44, B_X8_setColumn_45, t1, t2, t3, t4]
  · have n2 : ((9 : Nat) : Int) < i3.toInt := by omega
    by_cases d3 : i3.toInt < ((99 : Nat) : Int)
    · simp (disch := first | assumption | omega) only [q_bl, q_baT, q_bi, q_ba, q_pr, q_ob, q_iT, q_iN, q_it, q_if, q_of, nI_add, pk_mul, pk_sub, nI_leI, nI_ltI, nI_eq, nI_clamp, nI_lt0, nI_eqm, m1_eq, true_or, or_true, not_false_eq_true, m1_lt, m1_nlt, m1_le, m1_nle, b01, b011, q_em, q_m1, n_0, n_1, n_2, n_3, n_4, n_5, n_6, n_7, n_8, n_9, n_10, n_11, n_12, n_14, n_15, n_16, n_20, n_24, n_25, n_32, n_36, n_40, n_41, n_42, n_43, n_45, n_46, n_48, n_57, n_59, n_60, n_73, n_76, n_97, n_99, n_100, n_106, n_109, n_120, n_122, n_136, n_160, n_176, n_200, n_255, n_800, n_1000, n_1001, n_1002, n_1003, n_1006, n_1012, n_1018, n_1019, n_1020, n_1100, n_1140, n_4800, n_4920, n_5940, n_6740, n_20220, tl8, B_X8_setColumn_25, B_X8_setColumn_26, B_X8_setColumn_44, B_X8_setColumn_45, t1, t2, t3, t4]
    · have n4 : ((109 : Nat) : Int) < i3.toInt := by omega
      simp (disch := first | assumption | omega) only [q_bl, q_baT, q_bi, q_ba, q_pr, q_ob, q_iT, q_iN, q_it, q_if, q_of, nI_add, pk_mul, pk_sub, nI_leI, nI_ltI, nI_eq, nI_clamp, nI_lt0, nI_eqm, m1_eq, true_or, or_true, not_false_eq_true, m1_lt, m1_nlt, m1_le, m1_nle, b01, b011, q_em, q_m1, n_0, n_1, n_2, n_3, n_4, n_5, n_6, n_7, n_8, n_9, n_10, n_11, n_12, n_14, n_15, n_16, n_20, n_24, n_25, n_32, n_36, n_40, n_41, n_42, n_43, n_45, n_46, n_48, n_57, n_59, n_60, n_73, n_76, n_97, n_99, n_100, n_106, n_109, n_120, n_122, n_136, n_160, n_176, n_200, n_255, n_800, n_1000, n_1001, n_1002, n_1003, n_1006, n_1012, n_1018, n_1019, n_1020, n_1100, n_1140, n_4800, n_4920, n_5940, n_6740, n_20220, tl8, B_X8_setColumn_25, B_X8_setColumn_26, B_X8_setColumn_44, B_X8_setColumn_45, t1, t2, t3, t4]
theorem f8_setColumn {i1 i2 i3 : Int32} : F_X8_setColumn x i1 i2 i3 μ = ba (gK μ x = 7) (Option.bind (F_X8_requireCard x i1 μ) <| prs (fun k4 μ2 => some (.inl k4, μ2)) <| fun _ μ2 => ba (gK μ2 x = 7) (Option.bind (F_X8_requireColumn x i2 μ2) <| prs (fun k8 μ6 => some (.inl k8, μ6)) <| fun _ μ6 => tl8 x i1 i2 i3 μ6)) := rfl
/-- the reference's last step but one -/
theorem tl9 {m : Nat} {i1 i2 i3 t0 : Int32} : B_X9_setColumn_21 m i1 i2 i3 t0 m μ = B_X9_setColumn_54 m i1 i2 i3 (@ite _ (CO i3) (Classical.propDecidable _) (nI 1) (nI 0)) t0 m μ := by
  have j1 : (-1 : Int64).toInt = -1 := by decide +kernel
  have j9 : (9 : Int64).toInt = 9 := by decide +kernel
  have j99 : (99 : Int64).toInt = 99 := by decide +kernel
  have j109 : (109 : Int64).toInt = 109 := by decide +kernel
  by_cases a1 : -1 ≤ i3.toInt ∧ i3.toInt ≤ 9
  · rw [if_pos (show CO i3 from Or.inl a1)]
    have e := b9_I (μ := μ) j1 j9 a1
    simp (disch := first | assumption | omega) only [q_bl, q_baT, q_bi, q_ba, q_pr, q_ob, q_iT, q_iN, q_it, q_if, q_of, nI_add, pk_mul, pk_sub, nI_leI, nI_ltI, nI_eq, nI_clamp, nI_lt0, nI_eqm, m1_eq, true_or, or_true, not_false_eq_true, m1_lt, m1_nlt, m1_le, m1_nle, b01, b011, q_em, q_m1, n_0, n_1, n_2, n_3, n_4, n_5, n_6, n_7, n_8, n_9, n_10, n_11, n_12, n_14, n_15, n_16, n_20, n_24, n_25, n_32, n_36, n_40, n_41, n_42, n_43, n_45, n_46, n_48, n_57, n_59, n_60, n_73, n_76, n_97, n_99, n_100, n_106, n_109, n_120, n_122, n_136, n_160, n_176, n_200, n_255, n_800, n_1000, n_1001, n_1002, n_1003, n_1006, n_1012, n_1018, n_1019, n_1020, n_1100, n_1140, n_4800, n_4920, n_5940, n_6740, n_20220, B_X9_setColumn_21, B_X9_setColumn_49, e]
  · have e := b9_IN (μ := μ) j1 j9 a1
    by_cases a2 : 99 ≤ i3.toInt ∧ i3.toInt ≤ 109
    · rw [if_pos (show CO i3 from Or.inr a2)]
      have e2 := b9_I (μ := μ) j99 j109 a2
      simp (disch := first | assumption | omega) only [q_bl, q_baT, q_bi, q_ba, q_pr, q_ob, q_iT, q_iN, q_it, q_if, q_of, nI_add, pk_mul, pk_sub, nI_leI, nI_ltI, nI_eq, nI_clamp, nI_lt0, nI_eqm, m1_eq, true_or, or_true, not_false_eq_true, m1_lt, m1_nlt, m1_le, m1_nle, b01, b011, q_em, q_m1, n_0, n_1, n_2, n_3, n_4, n_5, n_6, n_7, n_8, n_9, n_10, n_11, n_12, n_14, n_15, n_16, n_20, n_24, n_25, n_32, n_36, n_40, n_41, n_42, n_43, n_45, n_46, n_48, n_57, n_59, n_60, n_73, n_76, n_97, n_99, n_100, n_106, n_109, n_120, n_122, n_136, n_160, n_176, n_200, n_255, n_800, n_1000, n_1001, n_1002, n_1003, n_1006, n_1012, n_1018, n_1019, n_1020, n_1100, n_1140, n_4800, n_4920, n_5940, n_6740, n_20220, B_X9_setColumn_21, B_X9_setColumn_49, e, e2]
    · rw [if_neg (show ¬ CO i3 from fun q => q.elim a1 a2)]
      have e2 := b9_IN (μ := μ) j99 j109 a2
      simp (disch := first | assumption | omega) only [q_bl, q_baT, q_bi, q_ba, q_pr, q_ob, q_iT, q_iN, q_it, q_if, q_of, nI_add, pk_mul, pk_sub, nI_leI, nI_ltI, nI_eq, nI_clamp, nI_lt0, nI_eqm, m1_eq, true_or, or_true, not_false_eq_true, m1_lt, m1_nlt, m1_le, m1_nle, b01, b011, q_em, q_m1, n_0, n_1, n_2, n_3, n_4, n_5, n_6, n_7, n_8, n_9, n_10, n_11, n_12, n_14, n_15, n_16, n_20, n_24, n_25, n_32, n_36, n_40, n_41, n_42, n_43, n_45, n_46, n_48, n_57, n_59, n_60, n_73, n_76, n_97, n_99, n_100, n_106, n_109, n_120, n_122, n_136, n_160, n_176, n_200, n_255, n_800, n_1000, n_1001, n_1002, n_1003, n_1006, n_1012, n_1018, n_1019, n_1020, n_1100, n_1140, n_4800, n_4920, n_5940, n_6740, n_20220, B_X9_setColumn_21, B_X9_setColumn_49, e, e2]
theorem x8_setColumn {c k : Nat} {i3 : Int32} (h : INV μ x A) (hc : c < nt (A 8)) (k1 : 1 ≤ k) (k2 : k ≤ 20) (hl : lc i3) : ∃ μ1, B_X8_setColumn_67 x (nI c) (nI k) i3 μ = some (.inr (A (200 + 20 * c + k - 1)), μ1) ∧ Fx (CM x) μ μ1 ∧ MO μ1 (x + 26) (sp_reset (ua A (200 + 20 * c + k - 1) i3)) (BB (sp_reset (ua A (200 + 20 * c + k - 1) i3))) ∧ IS μ1 x := by
  have s := h.is.m1
  have w := h.w
  have c8 := w.c8.2
  have e0 := h.mo.2.1.bd.code s w hc k1 k2
  have ep := x2_punch (v := i3) s.sd (h.mo.2.1.n8 w) c8 hc k1 (by omega)
  rw [if_pos k2, show x + 26 + 19 + 1 = x + 26 + 20 from rfl] at ep
  have fp : Fx (CM x) μ (stI μ (x + 26 + 20) (c * 20 + k - 1) i3) := Fx.stI (by unfold CM; omega)
  have eA : ∀ i, i < 200 → ¬ i = 8 → ua A (200 + 20 * c + k - 1) i3 i = A i := fun i _ _ => ua_n (by omega)
  have eA8 : ua A (200 + 20 * c + k - 1) i3 8 = A 8 := ua_n (by omega)
  have wB : WB (ua A (200 + 20 * c + k - 1) i3) := wb_deck w eA (by rw [eA8]; exact w.2.2.2.2.2.2.2.2.1) (fun i j hi j1 j2 => by
    rw [eA8] at hi
    by_cases hij : 200 + 20 * i + j - 1 = 200 + 20 * c + k - 1
    · rw [hij, ua_s]; exact hl
    · rw [ua_n hij]; exact w.lc hi j1 j2)
  have rB : RBD (gI (stI μ (x + 26 + 20) (c * 20 + k - 1) i3)) (x + 26) (ua A (200 + 20 * c + k - 1) i3) := by
    refine ⟨h.mo.2.1.1.deck w (fun a a1 a2 => by rw [q_iI, q_ua (by omega)]) eA, ?_, fun i j hi j1 j2 => ?_⟩
    · rw [q_iI, q_un (by omega), eA8]; exact h.mo.2.1.2.1.1
    · rw [eA8] at hi
      rw [q_iI, show x + 26 + 19 + 1 = x + 26 + 20 from rfl]
      by_cases hij : i = c ∧ j = k
      · obtain ⟨rfl, rfl⟩ := hij; rw [q_us, ua_s]
      · rw [q_un (by omega), ua_n (by omega)]; exact h.mo.2.1.2.1.2 i j hi j1 j2
  obtain ⟨μ1, er, mr, fr1, is1⟩ := chg_end h fp rB wB
  refine ⟨μ1, ?_, fr1, mr, is1⟩
  have hs := h.is
  clear wB rB eA eA8 mr h
  simp (disch := first | assumption | omega) only [q_bl, q_baT, q_bi, q_ba, q_pr, q_ob, q_iT, q_iN, q_it, q_if, q_of, nI_add, pk_mul, pk_sub, nI_leI, nI_ltI, nI_eq, nI_clamp, nI_lt0, nI_eqm, m1_eq, true_or, or_true, not_false_eq_true, m1_lt, m1_nlt, m1_le, m1_nle, b01, b011, q_em, q_m1, n_0, n_1, n_2, n_3, n_4, n_5, n_6, n_7, n_8, n_9, n_10, n_11, n_12, n_14, n_15, n_16, n_20, n_24, n_25, n_32, n_36, n_40, n_41, n_42, n_43, n_45, n_46, n_48, n_57, n_59, n_60, n_73, n_76, n_97, n_99, n_100, n_106, n_109, n_120, n_122, n_136, n_160, n_176, n_200, n_255, n_800, n_1000, n_1001, n_1002, n_1003, n_1006, n_1012, n_1018, n_1019, n_1020, n_1100, n_1140, n_4800, n_4920, n_5940, n_6740, n_20220, q_kI, q_lI, q_nI, q_rI, q_iI, q_jI, q_dI, q_kJ, q_lJ, q_nJ, q_rJ, q_iJ, q_jJ, q_dJ, q_kC, q_lC, q_nC, q_rC, q_jC, q_dC, q_kF, q_lF, q_nF, q_rF, q_jF, q_dF, q_us, q_un, q_ua, B_X8_setColumn_67, hs.kx, hs.r1, s.k0, s.r1, s.k19, e0, ep, er]
theorem x9_setColumn {m c k : Nat} {i3 : Int32} (h : RA μ m A) (hc : c < 40) (k1 : 1 ≤ k) (k2 : k ≤ 20) : ∃ μ2, B_X9_setColumn_54 m (nI c) (nI k) i3 (nI 1) (nI 1) m μ = some (A (200 + 20 * c + k - 1), μ2) ∧ RA μ2 m (sp_reset (ua A (200 + 20 * c + k - 1) i3)) ∧ RK μ μ2 m ∧ gI μ2 m 5 = nI 0 ∧ gJ μ2 (m + 12) = gJ μ (m + 12) := by
  have ra2 := h.thr (v := nI 0)
  have s1 := h.1
  have s2 := ra2.1
  have e2 := x9_code (card := c) (c := k) ra2 hc k1 k2
  have ra3 := ra2.put (j := 200 + 20 * c + k - 1) (v := i3)
  obtain ⟨μ2, ez, z1, z2, z3, z4, z5⟩ := chg9b (μa := μ) ra3 (Fx.stI rfl)
  exact ⟨μ2, by simp (disch := first | assumption | omega) only [q_bl, q_baT, q_bi, q_ba, q_pr, q_ob, q_iT, q_iN, q_it, q_if, q_of, nI_add, pk_mul, pk_sub, nI_leI, nI_ltI, nI_eq, nI_clamp, nI_lt0, nI_eqm, m1_eq, true_or, or_true, not_false_eq_true, m1_lt, m1_nlt, m1_le, m1_nle, b01, b011, q_em, q_m1, n_0, n_1, n_2, n_3, n_4, n_5, n_6, n_7, n_8, n_9, n_10, n_11, n_12, n_14, n_15, n_16, n_20, n_24, n_25, n_32, n_36, n_40, n_41, n_42, n_43, n_45, n_46, n_48, n_57, n_59, n_60, n_73, n_76, n_97, n_99, n_100, n_106, n_109, n_120, n_122, n_136, n_160, n_176, n_200, n_255, n_800, n_1000, n_1001, n_1002, n_1003, n_1006, n_1012, n_1018, n_1019, n_1020, n_1100, n_1140, n_4800, n_4920, n_5940, n_6740, n_20220, q_kI, q_lI, q_nI, q_rI, q_iI, q_jI, q_dI, q_kJ, q_lJ, q_nJ, q_rJ, q_iJ, q_jJ, q_dJ, q_kC, q_lC, q_nC, q_rC, q_jC, q_dC, q_kF, q_lF, q_nF, q_rF, q_jF, q_dF, q_us, q_un, q_ua, B_X9_setColumn_54, s1.k0, q9_good2 s1, s2.k0, s2.r0, s2.k1, s2.l1, e2, ra3.1.k0, ez], z1, z2, z3, z4⟩
theorem lw_setColumn {i1 i2 i3 : Int32} (h : INV μ x A) : LW x (F_L_setColumn x i1 i2 i3 (x + 132) μ) (F_X9_setColumn (x + 120) i1 i2 i3) (fun b μ' => gJ μ' (x + 132) 0 = b.toInt64) := by
  have w := h.w
  have ra := h.ra
  have sr := h.is.sr
  have hs := h.is
  have c8 := w.c8.2
  by_cases c0 : IR i1 (nt (A 8))
  · have q8 := r8_card h c0
    by_cases c1 : IP i2 20
    · have q9 := r8_col (μ := μ) (x := x) c1
      by_cases c2 : CO i3
      · obtain ⟨c, hc, rfl⟩ := c0.ex (by omega)
        obtain ⟨k, k1, k2, rfl⟩ := c1.ex (by decide)
        obtain ⟨μ1, e1, fr1, mr, is1⟩ := x8_setColumn h hc k1 k2 c2.lc
        have ra1 : RA (stJ μ1 (x + 132) 0 (A (200 + 20 * c + k - 1)).toInt64) (x + 120) A := RA.out (ra.fx fr1 (by unfold CM; omega))
        obtain ⟨μ2, e2, z1, z2, z3, z4⟩ := x9_setColumn (i3 := i3) ra1 (show c < 40 by omega) k1 k2
        have p8 := q9_card ra1 w c0
        have tt := tl9 (μ := stJ μ1 (x + 132) 0 (A (200 + 20 * c + k - 1)).toInt64) (m := x + 120) (i1 := nI c) (i2 := nI k) (i3 := i3) (t0 := nI 1)
        rw [if_pos c2] at tt
        have t8 := tl8_ok (μ := μ) (x := x) (i1 := nI c) (i2 := nI k) c2
        refine LW.chg h (μ1 := μ1) (B := ua A (200 + 20 * c + k - 1) i3) (v := (A (200 + 20 * c + k - 1)).toInt64) (b := A (200 + 20 * c + k - 1)) ?_ fr1 mr ⟨μ2, ?_, z1, z2, z3, by rw [show x + 132 = x + 120 + 12 from rfl, z4, q_jJ, q_us]⟩ (fun _ e => e)
        · have kx := hs.kx
          have ko := is1.ko
          have lo := is1.lo
          clear h w ra sr z1 z2 z3 z4 e2 p8 tt mr fr1 hs is1
          simp (disch := first | assumption | omega) only [q_bl, q_baT, q_bi, q_ba, q_pr, q_ob, q_iT, q_iN, q_it, q_if, q_of, nI_add, pk_mul, pk_sub, nI_leI, nI_ltI, nI_eq, nI_clamp, nI_lt0, nI_eqm, m1_eq, true_or, or_true, not_false_eq_true, m1_lt, m1_nlt, m1_le, m1_nle, b01, b011, q_em, q_m1, n_0, n_1, n_2, n_3, n_4, n_5, n_6, n_7, n_8, n_9, n_10, n_11, n_12, n_14, n_15, n_16, n_20, n_24, n_25, n_32, n_36, n_40, n_41, n_42, n_43, n_45, n_46, n_48, n_57, n_59, n_60, n_73, n_76, n_97, n_99, n_100, n_106, n_109, n_120, n_122, n_136, n_160, n_176, n_200, n_255, n_800, n_1000, n_1001, n_1002, n_1003, n_1006, n_1012, n_1018, n_1019, n_1020, n_1100, n_1140, n_4800, n_4920, n_5940, n_6740, n_20220, q_kI, q_lI, q_nI, q_rI, q_iI, q_jI, q_dI, q_kJ, q_lJ, q_nJ, q_rJ, q_iJ, q_jJ, q_dJ, q_kC, q_lC, q_nC, q_rC, q_jC, q_dC, q_kF, q_lF, q_nF, q_rF, q_jF, q_dF, q_us, q_un, q_ua, F_L_setColumn, f8_setColumn, q_prL, q_prR, kx, q8, q9, t8, e1, ko, lo]
        · have k0 := ra1.1.k0
          clear h w ra sr z1 z2 z3 z4 q8 q9 t8 mr fr1 hs is1 e1
          simp (disch := first | assumption | omega) only [q_bl, q_baT, q_bi, q_ba, q_pr, q_ob, q_iT, q_iN, q_it, q_if, q_of, nI_add, pk_mul, pk_sub, nI_leI, nI_ltI, nI_eq, nI_clamp, nI_lt0, nI_eqm, m1_eq, true_or, or_true, not_false_eq_true, m1_lt, m1_nlt, m1_le, m1_nle, b01, b011, q_em, q_m1, n_0, n_1, n_2, n_3, n_4, n_5, n_6, n_7, n_8, n_9, n_10, n_11, n_12, n_14, n_15, n_16, n_20, n_24, n_25, n_32, n_36, n_40, n_41, n_42, n_43, n_45, n_46, n_48, n_57, n_59, n_60, n_73, n_76, n_97, n_99, n_100, n_106, n_109, n_120, n_122, n_136, n_160, n_176, n_200, n_255, n_800, n_1000, n_1001, n_1002, n_1003, n_1006, n_1012, n_1018, n_1019, n_1020, n_1100, n_1140, n_4800, n_4920, n_5940, n_6740, n_20220, F_X9_setColumn, k0, p8, q9_col c1, tt, e2]
      · have t8 := tl8_no (μ := μ) (x := x) (i1 := i1) (i2 := i2) c2
        have tt := tl9 (μ := μ) (m := x + 120) (i1 := i1) (i2 := i2) (i3 := i3) (t0 := nI 1)
        rw [if_neg c2] at tt
        exact LW.err h (k := nI 2) (b := nI 0) (by decide +kernel) (by simp (disch := first | assumption | omega) only [q_bl, q_baT, q_bi, q_ba, q_pr, q_ob, q_iT, q_iN, q_it, q_if, q_of, nI_add, pk_mul, pk_sub, nI_leI, nI_ltI, nI_eq, nI_clamp, nI_lt0, nI_eqm, m1_eq, true_or, or_true, not_false_eq_true, m1_lt, m1_nlt, m1_le, m1_nle, b01, b011, q_em, q_m1, n_0, n_1, n_2, n_3, n_4, n_5, n_6, n_7, n_8, n_9, n_10, n_11, n_12, n_14, n_15, n_16, n_20, n_24, n_25, n_32, n_36, n_40, n_41, n_42, n_43, n_45, n_46, n_48, n_57, n_59, n_60, n_73, n_76, n_97, n_99, n_100, n_106, n_109, n_120, n_122, n_136, n_160, n_176, n_200, n_255, n_800, n_1000, n_1001, n_1002, n_1003, n_1006, n_1012, n_1018, n_1019, n_1020, n_1100, n_1140, n_4800, n_4920, n_5940, n_6740, n_20220, q_kI, q_lI, q_nI, q_rI, q_iI, q_jI, q_dI, q_kJ, q_lJ, q_nJ, q_rJ, q_iJ, q_jJ, q_dJ, q_kC, q_lC, q_nC, q_rC, q_jC, q_dC, q_kF, q_lF, q_nF, q_rF, q_jF, q_dF, q_us, q_un, q_ua, F_L_setColumn, f8_setColumn, q_prL, q_prR, hs.kx, q8, q9, t8]) (by simp (disch := first | assumption | omega) only [q_bl, q_baT, q_bi, q_ba, q_pr, q_ob, q_iT, q_iN, q_it, q_if, q_of, nI_add, pk_mul, pk_sub, nI_leI, nI_ltI, nI_eq, nI_clamp, nI_lt0, nI_eqm, m1_eq, true_or, or_true, not_false_eq_true, m1_lt, m1_nlt, m1_le, m1_nle, b01, b011, q_em, q_m1, n_0, n_1, n_2, n_3, n_4, n_5, n_6, n_7, n_8, n_9, n_10, n_11, n_12, n_14, n_15, n_16, n_20, n_24, n_25, n_32, n_36, n_40, n_41, n_42, n_43, n_45, n_46, n_48, n_57, n_59, n_60, n_73, n_76, n_97, n_99, n_100, n_106, n_109, n_120, n_122, n_136, n_160, n_176, n_200, n_255, n_800, n_1000, n_1001, n_1002, n_1003, n_1006, n_1012, n_1018, n_1019, n_1020, n_1100, n_1140, n_4800, n_4920, n_5940, n_6740, n_20220, F_X9_setColumn, B_X9_setColumn_54, sr.k0, q9_card ra w c0, q9_col c1, tt, q9_good2M sr])
    · have q9 := r8_colN (μ := μ) (x := x) c1
      have tt := tl9 (μ := μ) (m := x + 120) (i1 := i1) (i2 := i2) (i3 := i3) (t0 := nI 0)
      exact LW.err h (k := nI 1) (b := nI 0) (by decide +kernel) (by simp (disch := first | assumption | omega) only [q_bl, q_baT, q_bi, q_ba, q_pr, q_ob, q_iT, q_iN, q_it, q_if, q_of, nI_add, pk_mul, pk_sub, nI_leI, nI_ltI, nI_eq, nI_clamp, nI_lt0, nI_eqm, m1_eq, true_or, or_true, not_false_eq_true, m1_lt, m1_nlt, m1_le, m1_nle, b01, b011, q_em, q_m1, n_0, n_1, n_2, n_3, n_4, n_5, n_6, n_7, n_8, n_9, n_10, n_11, n_12, n_14, n_15, n_16, n_20, n_24, n_25, n_32, n_36, n_40, n_41, n_42, n_43, n_45, n_46, n_48, n_57, n_59, n_60, n_73, n_76, n_97, n_99, n_100, n_106, n_109, n_120, n_122, n_136, n_160, n_176, n_200, n_255, n_800, n_1000, n_1001, n_1002, n_1003, n_1006, n_1012, n_1018, n_1019, n_1020, n_1100, n_1140, n_4800, n_4920, n_5940, n_6740, n_20220, q_kI, q_lI, q_nI, q_rI, q_iI, q_jI, q_dI, q_kJ, q_lJ, q_nJ, q_rJ, q_iJ, q_jJ, q_dJ, q_kC, q_lC, q_nC, q_rC, q_jC, q_dC, q_kF, q_lF, q_nF, q_rF, q_jF, q_dF, q_us, q_un, q_ua, F_L_setColumn, f8_setColumn, q_prL, q_prR, hs.kx, q8, q9]) (by simp (disch := first | assumption | omega) only [q_bl, q_baT, q_bi, q_ba, q_pr, q_ob, q_iT, q_iN, q_it, q_if, q_of, nI_add, pk_mul, pk_sub, nI_leI, nI_ltI, nI_eq, nI_clamp, nI_lt0, nI_eqm, m1_eq, true_or, or_true, not_false_eq_true, m1_lt, m1_nlt, m1_le, m1_nle, b01, b011, q_em, q_m1, n_0, n_1, n_2, n_3, n_4, n_5, n_6, n_7, n_8, n_9, n_10, n_11, n_12, n_14, n_15, n_16, n_20, n_24, n_25, n_32, n_36, n_40, n_41, n_42, n_43, n_45, n_46, n_48, n_57, n_59, n_60, n_73, n_76, n_97, n_99, n_100, n_106, n_109, n_120, n_122, n_136, n_160, n_176, n_200, n_255, n_800, n_1000, n_1001, n_1002, n_1003, n_1006, n_1012, n_1018, n_1019, n_1020, n_1100, n_1140, n_4800, n_4920, n_5940, n_6740, n_20220, F_X9_setColumn, B_X9_setColumn_20, B_X9_setColumn_54, sr.k0, q9_card ra w c0, q9_colN c1, tt, q9_good2N sr])
  · have q8 := r8_cardN h c0
    have tt := tl9 (μ := μ) (m := x + 120) (i1 := i1) (i2 := i2) (i3 := i3) (t0 := nI 0)
    exact LW.err h (k := nI 1) (b := nI 0) (by decide +kernel) (by simp (disch := first | assumption | omega) only [q_bl, q_baT, q_bi, q_ba, q_pr, q_ob, q_iT, q_iN, q_it, q_if, q_of, nI_add, pk_mul, pk_sub, nI_leI, nI_ltI, nI_eq, nI_clamp, nI_lt0, nI_eqm, m1_eq, true_or, or_true, not_false_eq_true, m1_lt, m1_nlt, m1_le, m1_nle, b01, b011, q_em, q_m1, n_0, n_1, n_2, n_3, n_4, n_5, n_6, n_7, n_8, n_9, n_10, n_11, n_12, n_14, n_15, n_16, n_20, n_24, n_25, n_32, n_36, n_40, n_41, n_42, n_43, n_45, n_46, n_48, n_57, n_59, n_60, n_73, n_76, n_97, n_99, n_100, n_106, n_109, n_120, n_122, n_136, n_160, n_176, n_200, n_255, n_800, n_1000, n_1001, n_1002, n_1003, n_1006, n_1012, n_1018, n_1019, n_1020, n_1100, n_1140, n_4800, n_4920, n_5940, n_6740, n_20220, q_kI, q_lI, q_nI, q_rI, q_iI, q_jI, q_dI, q_kJ, q_lJ, q_nJ, q_rJ, q_iJ, q_jJ, q_dJ, q_kC, q_lC, q_nC, q_rC, q_jC, q_dC, q_kF, q_lF, q_nF, q_rF, q_jF, q_dF, q_us, q_un, q_ua, F_L_setColumn, f8_setColumn, q_prL, q_prR, hs.kx, q8]) (by simp (disch := first | assumption | omega) only [q_bl, q_baT, q_bi, q_ba, q_pr, q_ob, q_iT, q_iN, q_it, q_if, q_of, nI_add, pk_mul, pk_sub, nI_leI, nI_ltI, nI_eq, nI_clamp, nI_lt0, nI_eqm, m1_eq, true_or, or_true, not_false_eq_true, m1_lt, m1_nlt, m1_le, m1_nle, b01, b011, q_em, q_m1, n_0, n_1, n_2, n_3, n_4, n_5, n_6, n_7, n_8, n_9, n_10, n_11, n_12, n_14, n_15, n_16, n_20, n_24, n_25, n_32, n_36, n_40, n_41, n_42, n_43, n_45, n_46, n_48, n_57, n_59, n_60, n_73, n_76, n_97, n_99, n_100, n_106, n_109, n_120, n_122, n_136, n_160, n_176, n_200, n_255, n_800, n_1000, n_1001, n_1002, n_1003, n_1006, n_1012, n_1018, n_1019, n_1020, n_1100, n_1140, n_4800, n_4920, n_5940, n_6740, n_20220, F_X9_setColumn, B_X9_setColumn_20, B_X9_setColumn_54, sr.k0, q9_cardN ra w c0, tt, q9_good2N sr])
end CH2
